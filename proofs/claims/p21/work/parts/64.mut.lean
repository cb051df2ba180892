/-! the calls that change the cloud -/
theorem z_in1 {X Y T : va_W} {p : Nat × va_E} (h : p ∈ X ++ Y) : p ∈ X ++ (Y ++ T) := by
  rw [← List.append_assoc]
  exact List.mem_append_left _ h
theorem z_inq {X Y : va_W} {p : Nat × va_E} : p ∈ X ++ (Y ++ [p]) := List.mem_append_right _ (List.mem_append_right _ List.mem_cons_self)
def zovl (v w : zBk) : Bool := zhs v.1 v.2 w.1 || zhs w.1 w.2 v.1
theorem z_len1 (l : List Nat) (q : Nat) {n : Nat} (h : l.length = n) : nI (l ++ [q]).length - 1 = nI n := by
  rw [List.length_append, h]
  exact nI_pred n
set_option maxRecDepth 100000 in
set_option maxHeartbeats 4000000 in
/-- addNetwork -/
theorem c_X7_addNetwork (E : zG) (l : Launch) (hl0 : l.stackTraces = false) (X Y : va_W) (C : zLs) (x : Nat) (V : zCl) (hrc : zRC Y C x V) (b z : Int32) : vx_Met l yX7_addNetwork wsX7_addNetwork (zR 8 20 200) (zPre E [.ref x, .int b, .int z] (zQ E (X ++ Y) C)) (va_Qi (fun r (u : va_W × zLs) => (zbok b z ∧ (vN V).length < 4 ∧ (vN V).any (fun w => zovl w (b, z)) = false) ∧ zRC u.1 u.2 x (vN V ++ [(b, z)], V.2) ∧ r = nI (vN V).length) (fun u tt => zQ E (X ++ u.1) u.2 tt.heap) (eA E)) (zX E (zQ E (X ++ Y) C) (fun nm => (nm = zIAE ∧ ¬ zbok b z) ∨ (nm = zISE ∧ zbok b z ∧ (4 ≤ (vN V).length ∨ (vN V).any (fun w => zovl w (b, z)) = true)))) 20 200 (eA E) := by
  refine zx_of (cc := cX7_addNetwork) (maxL := 5) (ret := (some .int)) (by decide) rfl rfl (Nat.le_of_ble_eq_true rfl) ?_
  intro p e s m below meth c ls ht Cx hr hnm hw hl
  have hx := Cx.1.1
  have hb := Cx.1.2.1
  obtain ⟨q0, q1, q2, q3, q4, ns, ss, hs, ps, gs, ro, rw, hR⟩ := hrc
  have hCV := zQ.V hw.1
  have hX := hR.grow (fun _ h => List.mem_append_right X h)
  have hR2 := hX
  obtain ⟨hx0, ⟨c0, c1, c2, c3, c4⟩, ⟨z0, z1, z2, z3, z4⟩, ⟨n0, n1, n2, n4⟩, -, l0, l1, l2, l3, l4⟩ := hR2
  have nlen : ns.length = (vN V).length := z0.1
  have slen : ss.length = (vS V).length := z1.1
  have hlen : hs.length = (vH V).length := z2.1
  have plen : ps.length = (vP V).length := z3.1
  have glen : gs.length = (vG V).length := z4.1
  have hl : lv_has ls 5 [(0, .ref x), (1, .int b), (2, .int z)] := hl
  refine lv_iload_n hx hb dX7_addNetwork_0 rfl (lv_at hl 1 rfl) ?_
  refine lv_iload_n hx hb dX7_addNetwork_1 rfl (lv_at hl 2 rfl) ?_
  refine zx_gor (pr := fun (q : Nat) a => a = q) (wf := fun q => zQ E (X ++ (Y ++ [(q, Sum.inr (3, [.int b, .int z]))])) C) hw.2 (zx_runS Cx hw (c_X7_blockOf E l hl0 X Y C b z) (va_cwS 2 Cx.1.2.2.2.2 gX7_addNetwork_X7_blockOf rfl rfl rfl (by decide +kernel) ⟨Nat.le_of_ble_eq_true rfl, Nat.le_of_ble_eq_true rfl⟩)  rfl hl.1 rfl (Nat.le_of_ble_eq_true rfl) dX7_addNetwork_2 ⟨Nat.le_of_ble_eq_true rfl, Nat.le_of_ble_eq_true rfl⟩) (z_out Cx ht (Nat.le_of_ble_eq_true rfl) (Nat.le_of_ble_eq_true rfl) (fun nm h => Or.inl h) (fun _ h => h)) (fun q ra_2 H locs hp_2 hr_2 hw => ?_)
  obtain ⟨hbok, hfr⟩ := hp_2
  rw [show ra_2 = q from hr_2]
  have hfq : ∀ x ∈ Y, x.1 ≠ q := fun x h => hfr x (List.mem_append_right X h)
  refine lv_astore_n hx hb dX7_addNetwork_5 rfl hl (by decide) rfl (fun ls hl => ?_)
  have hl : lv_has ls 5 [(3, .ref q), (0, .ref x), (1, .int b), (2, .int z)] := hl
  refine lv_aload_n hx hb dX7_addNetwork_6 rfl (lv_at hl 1 rfl) ?_
  refine z_get Cx hw (T := TX7) (N := 5) (ci := 10) (fun _ h => List.mem_cons_of_mem _ (List.mem_append_left _ (List.mem_append_left _ (List.mem_append_left _ (List.mem_append_left _ (List.mem_append_right _ (h))))))) (z_in1 hx0) rfl 0 (by decide) (List.mem_of_getElem? (i := 3) rfl) rfl rfl dX7_addNetwork_7 ?_
  refine z_goe hw.2 (z_runV Cx hw (c_al_size E l _ _ q0 ns c0) (cwV 0 Cx.1.2.2.2.2 gX7_addNetwork_Jx4a65c_size_8abf5 rfl rfl rfl (by decide +kernel) ⟨Nat.le_of_ble_eq_true rfl, Nat.le_of_ble_eq_true rfl⟩) (z_recvL Cx hw c0) rfl hl.1 rfl (Nat.le_of_ble_eq_true rfl) dX7_addNetwork_10 ⟨Nat.le_of_ble_eq_true rfl, Nat.le_of_ble_eq_true rfl⟩) (fun H locs hw => ?_)
  refine lv_iconst (v := nI 4) hx hb dX7_addNetwork_13 rfl ?_
  refine lv_icmp_lt (tgt := 27) hx hb dX7_addNetwork_14 (by decide) (fun c_14 => ?_) (fun c_14 => ?_)
  · skip
    have c_lt : ns.length < 4 := (nI_ltI (by omega) (by omega)).mp c_14
    refine lv_iconst (v := nI 0) hx hb dX7_addNetwork_27 rfl ?_
    refine lv_istore hx hb dX7_addNetwork_28 hl (by decide) rfl (fun ls hl => ?_)
    have hl : lv_has ls 5 [(4, .int (nI 0)), (3, .ref q), (0, .ref x), (1, .int b), (2, .int z)] := hl
    have loop_30 : ∀ (nn : Nat) (i : Nat) (H : Heap) (locs : List Loc) (ls : Array Slot), (i ≤ ns.length) → (((vN V).drop i).any (fun w => zovl w (b, z)) = (vN V).any (fun w => zovl w (b, z))) → ns.length - i < nn → zHw E (zQ E (X ++ (Y ++ [(q, Sum.inr (3, [.int b, .int z]))])) C) s H locs → lv_has ls 5 [(0, .ref x), (1, .int b), (2, .int z), (3, .ref q), (4, .int (nI i))] → W p l e (zR 8 20 200) s m ([.ref x, .int b, .int z] : List Value).toArray below meth c H locs 1 6 (vx_MQ below (va_Qi (fun r (u : va_W × zLs) => (zbok b z ∧ (vN V).length < 4 ∧ (vN V).any (fun w => zovl w (b, z)) = false) ∧ zRC u.1 u.2 x (vN V ++ [(b, z)], V.2) ∧ r = nI (vN V).length) (fun u tt => zQ E (X ++ u.1) u.2 tt.heap) (eA E)) (zX E (zQ E (X ++ Y) C) (fun nm => (nm = zIAE ∧ ¬ zbok b z) ∨ (nm = zISE ∧ zbok b z ∧ (4 ≤ (vN V).length ∨ (vN V).any (fun w => zovl w (b, z)) = true)))) ([.ref x, .int b, .int z] : List Value).toArray s 20 200 (eA E)) (F0 m 30 ls []) := by
      intro nn
      induction nn with
      | zero => intro i H locs ls hi hacc hm; exact absurd hm (Nat.not_lt_zero _)
      | succ nn ih_30 =>
        intro i H locs ls hi hacc hm hw hl
        refine lv_iload hx hb dX7_addNetwork_30 (lv_at hl 4 rfl) ?_
        refine lv_aload_n hx hb dX7_addNetwork_32 rfl (lv_at hl 0 rfl) ?_
        refine z_get Cx hw (T := TX7) (N := 5) (ci := 10) (fun _ h => List.mem_cons_of_mem _ (List.mem_append_left _ (List.mem_append_left _ (List.mem_append_left _ (List.mem_append_left _ (List.mem_append_right _ (h))))))) (z_in1 hx0) rfl 0 (by decide) (List.mem_of_getElem? (i := 3) rfl) rfl rfl dX7_addNetwork_33 ?_
        refine z_goe hw.2 (z_runV Cx hw (c_al_size E l _ _ q0 ns c0) (cwV 0 Cx.1.2.2.2.2 gX7_addNetwork_Jx4a65c_size_8abf5 rfl rfl rfl (by decide +kernel) ⟨Nat.le_of_ble_eq_true rfl, Nat.le_of_ble_eq_true rfl⟩) (z_recvL Cx hw c0) rfl hl.1 rfl (Nat.le_of_ble_eq_true rfl) dX7_addNetwork_36 ⟨Nat.le_of_ble_eq_true rfl, Nat.le_of_ble_eq_true rfl⟩) (fun H locs hw => ?_)
        refine lv_icmp_ge (tgt := 77) hx hb dX7_addNetwork_39 (by decide) (fun c_39 => ?_) (fun c_39 => ?_)
        · skip
          rw [z_end z0 hi c_39 (by omega)] at hacc
          refine lv_aload_n hx hb dX7_addNetwork_77 rfl (lv_at hl 0 rfl) ?_
          refine z_get Cx hw (T := TX7) (N := 5) (ci := 10) (fun _ h => List.mem_cons_of_mem _ (List.mem_append_left _ (List.mem_append_left _ (List.mem_append_left _ (List.mem_append_left _ (List.mem_append_right _ (h))))))) (z_in1 hx0) rfl 0 (by decide) (List.mem_of_getElem? (i := 3) rfl) rfl rfl dX7_addNetwork_78 ?_
          refine lv_aload_n hx hb dX7_addNetwork_81 rfl (lv_at hl 3 rfl) ?_
          refine z_goe hw.2 (z_runV Cx hw (c_al_add E l _ _ q0 ns c0 q ⟨3, _, z_inq, by decide, by decide⟩ (by omega)) (cwV 1 Cx.1.2.2.2.2 gX7_addNetwork_Jx4a65c_add_9ea2d rfl rfl rfl (by decide +kernel) ⟨Nat.le_of_ble_eq_true rfl, Nat.le_of_ble_eq_true rfl⟩) (z_recvL Cx hw c0) rfl hl.1 rfl (Nat.le_of_ble_eq_true rfl) dX7_addNetwork_82 ⟨Nat.le_of_ble_eq_true rfl, Nat.le_of_ble_eq_true rfl⟩) (fun H locs hw => ?_)
          refine lv_pop hx hb dX7_addNetwork_85 rfl ?_
          refine lv_aload_n hx hb dX7_addNetwork_86 rfl (lv_at hl 0 rfl) ?_
          refine z_get Cx hw (T := TX7) (N := 5) (ci := 10) (fun _ h => List.mem_cons_of_mem _ (List.mem_append_left _ (List.mem_append_left _ (List.mem_append_left _ (List.mem_append_left _ (List.mem_append_right _ (h))))))) (z_in1 hx0) rfl 0 (by decide) (List.mem_of_getElem? (i := 3) rfl) rfl rfl dX7_addNetwork_87 ?_
          refine z_goe hw.2 (z_runV Cx hw (c_al_size E l _ _ q0 _ (va_up_self _ _ _)) (cwV 0 Cx.1.2.2.2.2 gX7_addNetwork_Jx4a65c_size_8abf5 rfl rfl rfl (by decide +kernel) ⟨Nat.le_of_ble_eq_true rfl, Nat.le_of_ble_eq_true rfl⟩) (z_recvL Cx hw (va_up_self _ _ _)) rfl hl.1 rfl (Nat.le_of_ble_eq_true rfl) dX7_addNetwork_90 ⟨Nat.le_of_ble_eq_true rfl, Nat.le_of_ble_eq_true rfl⟩) (fun H locs hw => ?_)
          refine lv_iconst (v := 1) hx hb dX7_addNetwork_93 (by decide) ?_
          refine lv_isub hx hb dX7_addNetwork_94 ?_
          exact vx_ret (z_iret (wf := fun (u : va_W × zLs) => zQ E (X ++ u.1) u.2) Cx hr rfl (Nat.le_of_ble_eq_true rfl) (Nat.le_of_ble_eq_true rfl) (Y ++ [(q, Sum.inr (3, [.int b, .int z]))], va_up C q0 (some (ns ++ [q]))) hw ⟨⟨hbok, by rw [← nlen]; exact c_lt, hacc.symm⟩, hR.addN hfq b z c_lt, z_len1 ns q nlen⟩ dX7_addNetwork_95)
        · skip
          have hi2 := z_lt hi c_39 (by omega)
          obtain ⟨ai, v, ha, hv, hp, hd⟩ := z_at z0 hi2
          rw [hd, List.any_cons] at hacc
          have hp1 : (ai, Sum.inr (3, [.int v.1, .int v.2])) ∈ X ++ (Y ++ [(q, Sum.inr (3, [.int b, .int z]))]) := z_in1 hp
          refine lv_aload_n hx hb dX7_addNetwork_42 rfl (lv_at hl 0 rfl) ?_
          refine z_get Cx hw (T := TX7) (N := 5) (ci := 10) (fun _ h => List.mem_cons_of_mem _ (List.mem_append_left _ (List.mem_append_left _ (List.mem_append_left _ (List.mem_append_left _ (List.mem_append_right _ (h))))))) (z_in1 hx0) rfl 0 (by decide) (List.mem_of_getElem? (i := 3) rfl) rfl rfl dX7_addNetwork_43 ?_
          refine lv_iload hx hb dX7_addNetwork_46 (lv_at hl 4 rfl) ?_
          refine z_goer hw.2 (z_runV Cx hw (c_al_get E l _ _ q0 ns c0 i ai ha) (cwV 1 Cx.1.2.2.2.2 gX7_addNetwork_Jx4a65c_get_915e3 rfl rfl rfl (by decide +kernel) ⟨Nat.le_of_ble_eq_true rfl, Nat.le_of_ble_eq_true rfl⟩) (z_recvL Cx hw c0) rfl hl.1 rfl (Nat.le_of_ble_eq_true rfl) dX7_addNetwork_48 ⟨Nat.le_of_ble_eq_true rfl, Nat.le_of_ble_eq_true rfl⟩) (fun H locs hw => ?_)
          refine z_cast Cx hw (r := (RX0, TX0, 2)) hp1 rfl (List.mem_of_getElem? (i := 4) rfl) dX7_addNetwork_51 ?_
          refine lv_aload_n hx hb dX7_addNetwork_54 rfl (lv_at hl 3 rfl) ?_
          refine z_goe hw.2 (z_runV Cx hw (c_X0_overlaps E l _ _ ai v.1 v.2 q b z hp1 z_inq) (cwV 1 Cx.1.2.2.2.2 gX7_addNetwork_X0_overlaps rfl rfl rfl (by decide +kernel) ⟨Nat.le_of_ble_eq_true rfl, Nat.le_of_ble_eq_true rfl⟩) (z_recv Cx hw (r := (RX0, TX0, 2)) hp1 rfl) rfl hl.1 rfl (Nat.le_of_ble_eq_true rfl) dX7_addNetwork_55 ⟨Nat.le_of_ble_eq_true rfl, Nat.le_of_ble_eq_true rfl⟩) (fun H locs hw => ?_)
          refine lv_if_eq (tgt := 71) hx hb dX7_addNetwork_58 (by decide) (fun c_58 => ?_) (fun c_58 => ?_)
          · skip
            have c_59 : zovl v (b, z) = false := (zb_0 _).mp c_58
            have hacc2 : ((vN V).drop (i + 1)).any (fun w => zovl w (b, z)) = (vN V).any (fun w => zovl w (b, z)) := by rw [← hacc, c_59, Bool.false_or]
            refine lv_iinc (v := nI (i + 1)) hx hb dX7_addNetwork_71 hl (k := 4) rfl (nI_1 i) (by decide) rfl (fun ls hl => ?_)
            have hl : lv_has ls 5 [(4, .int (nI (i + 1))), (0, .ref x), (1, .int b), (2, .int z), (3, .ref q)] := hl
            refine lv_goto (tgt := 30) hx hb dX7_addNetwork_74 (by decide) ?_
            exact ih_30 (i + 1) H _ ls (by omega) hacc2 (by omega) hw (lv_sub hl [1, 2, 3, 4, 0] rfl)
          · skip
            have c_59 : zovl v (b, z) = true := (zb_1 _).mp c_58
            have hacc2 : (vN V).any (fun w => zovl w (b, z)) = true := by rw [← hacc, c_59, Bool.true_or]
            exact z_throw (is := 53) Cx hl0 ht hw (List.mem_of_getElem? (i := 1) rfl) (by decide) (List.mem_of_getElem? (i := 1) rfl) (List.mem_of_getElem? (i := 2) rfl) (fun _ h => List.mem_cons_of_mem _ (List.mem_append_left _ (List.mem_append_right _ (h)))) (by decide +kernel) (by decide +kernel) (by decide +kernel) hl.1 dX7_addNetwork_61 dX7_addNetwork_64 dX7_addNetwork_65 dX7_addNetwork_67 dX7_addNetwork_70 (Nat.le_of_ble_eq_true rfl) (Nat.le_of_ble_eq_true rfl) (Nat.le_of_ble_eq_true rfl) (Nat.le_of_ble_eq_true rfl) (Or.inr ⟨rfl, hbok, Or.inr hacc2⟩) (fun _ h => zQ_drop h hCV) (Nat.le_of_ble_eq_true rfl) (Nat.le_of_ble_eq_true rfl)
    exact loop_30 ((ns.length - 0) + 1) 0 _ _ ls (Nat.zero_le _) rfl (Nat.lt_succ_self _) hw (lv_sub hl [2, 3, 4, 1, 0] rfl)
  · skip
    have c_ge : 4 ≤ (vN V).length := by
      rw [← nlen]
      exact Nat.not_lt.mp (fun h => c_14 ((nI_ltI (by omega) (by omega)).mpr h))
    exact z_throw (is := 38) Cx hl0 ht hw (List.mem_of_getElem? (i := 0) rfl) (by decide) (List.mem_of_getElem? (i := 1) rfl) (List.mem_of_getElem? (i := 2) rfl) (fun _ h => List.mem_cons_of_mem _ (List.mem_append_left _ (List.mem_append_right _ (h)))) (by decide +kernel) (by decide +kernel) (by decide +kernel) hl.1 dX7_addNetwork_17 dX7_addNetwork_20 dX7_addNetwork_21 dX7_addNetwork_23 dX7_addNetwork_26 (Nat.le_of_ble_eq_true rfl) (Nat.le_of_ble_eq_true rfl) (Nat.le_of_ble_eq_true rfl) (Nat.le_of_ble_eq_true rfl) (Or.inr ⟨rfl, hbok, Or.inl c_ge⟩) (fun _ h => zQ_drop h hCV) (Nat.le_of_ble_eq_true rfl) (Nat.le_of_ble_eq_true rfl)

set_option maxRecDepth 100000 in
set_option maxHeartbeats 4000000 in
/-- addHost -/
theorem c_X7_addHost (E : zG) (l : Launch) (hl0 : l.stackTraces = false) (X Y : va_W) (C : zLs) (x : Nat) (V : zCl) (hrc : zRC Y C x V) (f a : Int32) : vx_Met l yX7_addHost wsX7_addHost (zR 8 20 200) (zPre E [.ref x, .int f, .int a] (zQ E (X ++ Y) C)) (va_Qi (fun r (u : va_W × zLs) => ∃ k : Nat, (f = nI k ∧ ∃ v : zSb, (vS V)[k]? = some v ∧ zhs v.2.1.1 v.2.1.2 a = true ∧ (vH V).length < 12 ∧ (vH V).any (fun h => decide (h.2.1 = a)) = false) ∧ zRC u.1 u.2 x (vN V, vS V, vH V ++ [(k, a, 0)], vP V, vG V) ∧ r = nI (vH V).length) (fun u tt => zQ E (X ++ u.1) u.2 tt.heap) (eA E)) (zX E (zQ E (X ++ Y) C) (fun nm => (nm = zIOO ∧ ¬ zix f (vS V).length) ∨ (nm = zIAE ∧ ∃ (k : Nat) (v : zSb), f = nI k ∧ (vS V)[k]? = some v ∧ zhs v.2.1.1 v.2.1.2 a =  false) ∨ (nm = zISE ∧ ∃ (k : Nat) (v : zSb), f = nI k ∧ (vS V)[k]? = some v ∧ zhs v.2.1.1 v.2.1.2 a =  true ∧ (12 ≤ (vH V).length ∨ (vH V).any (fun h => decide (h.2.1 = a)) = true)))) 20 200 (eA E) := by
  refine zx_of (cc := cX7_addHost) (maxL := 5) (ret := (some .int)) (by decide) rfl rfl (Nat.le_of_ble_eq_true rfl) ?_
  intro p e s m below meth c ls ht Cx hr hnm hw hl
  have hx := Cx.1.1
  have hb := Cx.1.2.1
  obtain ⟨q0, q1, q2, q3, q4, ns, ss, hs, ps, gs, ro, rw, hR⟩ := hrc
  have hCV := zQ.V hw.1
  have hX := hR.grow (fun _ h => List.mem_append_right X h)
  have hR2 := hX
  obtain ⟨hx0, ⟨c0, c1, c2, c3, c4⟩, ⟨z0, z1, z2, z3, z4⟩, ⟨n0, n1, n2, n4⟩, -, l0, l1, l2, l3, l4⟩ := hR2
  have nlen : ns.length = (vN V).length := z0.1
  have slen : ss.length = (vS V).length := z1.1
  have hlen : hs.length = (vH V).length := z2.1
  have plen : ps.length = (vP V).length := z3.1
  have glen : gs.length = (vG V).length := z4.1
  have hl : lv_has ls 5 [(0, .ref x), (1, .int f), (2, .int a)] := hl
  refine lv_aload_n hx hb dX7_addHost_0 rfl (lv_at hl 0 rfl) ?_
  refine lv_iload_n hx hb dX7_addHost_1 rfl (lv_at hl 1 rfl) ?_
  refine zx_gor (pr := fun (u : Nat × Nat) a => a = u.2) (wf := fun _ => zQ E (X ++ Y) C) hw.2 (zx_runV Cx hw (c_X7_subnetAt E l hl0 _ _ x q0 q1 q2 q3 q4 ss hx0 c1 (by omega) hX.sel f) (cwV 1 Cx.1.2.2.2.2 gX7_addHost_X7_subnetAt rfl rfl rfl (by decide +kernel) ⟨Nat.le_of_ble_eq_true rfl, Nat.le_of_ble_eq_true rfl⟩) (z_recv Cx hw (r := (RX7, TX7, 5)) hx0 rfl) rfl hl.1 rfl (Nat.le_of_ble_eq_true rfl) dX7_addHost_2 ⟨Nat.le_of_ble_eq_true rfl, Nat.le_of_ble_eq_true rfl⟩) (z_out Cx ht (Nat.le_of_ble_eq_true rfl) (Nat.le_of_ble_eq_true rfl) (fun nm h => by rw [slen] at h; exact Or.inl h) (fun _ h => h)) (fun u_2 ra_2 H locs hp_2 hr_2 hw => ?_)
  obtain ⟨k, y⟩ := u_2
  obtain ⟨hk, hy⟩ := hp_2
  dsimp only at hk hy
  rw [show ra_2 = y from hr_2]
  have hkb : k < ss.length := (List.getElem?_eq_some_iff.mp hy).1
  obtain ⟨v, hv, nw, bk, rl, rt, es, fs, k1, k2, k3, ⟨k4, k5, k6, k7⟩, ⟨k8, k9, k10, k11⟩, k12, k13, k14⟩ := z1.get hy
  refine lv_astore_n hx hb dX7_addHost_5 rfl hl (by decide) rfl (fun ls hl => ?_)
  have hl : lv_has ls 5 [(3, .ref y), (0, .ref x), (1, .int f), (2, .int a)] := hl
  refine lv_aload_n hx hb dX7_addHost_6 rfl (lv_at hl 0 rfl) ?_
  refine z_get Cx hw (T := TX6) (N := 4) (ci := 9) (fun _ h => List.mem_cons_of_mem _ (List.mem_append_left _ (List.mem_append_left _ (List.mem_append_left _ (List.mem_append_left _ (List.mem_append_left _ (List.mem_append_left _ (List.mem_append_left _ (List.mem_append_right _ (h)))))))))) k1 rfl 1 (by decide) (List.mem_of_getElem? (i := 5) rfl) rfl rfl dX7_addHost_7 ?_
  refine lv_iload_n hx hb dX7_addHost_10 rfl (lv_at hl 3 rfl) ?_
  refine z_goe hw.2 (z_runV Cx hw (c_X0_has E l _ _ bk v.2.1.1 v.2.1.2 a k3) (cwV 1 Cx.1.2.2.2.2 gX7_addHost_X0_has rfl rfl rfl (by decide +kernel) ⟨Nat.le_of_ble_eq_true rfl, Nat.le_of_ble_eq_true rfl⟩) (z_recv Cx hw (r := (RX0, TX0, 2)) k3 rfl) rfl hl.1 rfl (Nat.le_of_ble_eq_true rfl) dX7_addHost_11 ⟨Nat.le_of_ble_eq_true rfl, Nat.le_of_ble_eq_true rfl⟩) (fun H locs hw => ?_)
  refine lv_if_ne (tgt := 27) hx hb dX7_addHost_14 (by decide) (fun c_14 => ?_) (fun c_14 => ?_)
  · skip
    have c_15 := (zb_1 _).mp c_14
    refine lv_aload_n hx hb dX7_addHost_27 rfl (lv_at hl 1 rfl) ?_
    refine z_get Cx hw (T := TX7) (N := 5) (ci := 10) (fun _ h => List.mem_cons_of_mem _ (List.mem_append_left _ (List.mem_append_left _ (List.mem_append_left _ (List.mem_append_left _ (List.mem_append_left _ (List.mem_append_left _ (List.mem_append_right _ (h))))))))) hx0 rfl 2 (by decide) (List.mem_of_getElem? (i := 6) rfl) rfl rfl dX7_addHost_28 ?_
    refine z_goe hw.2 (z_runV Cx hw (c_al_size E l _ _ q2 hs c2) (cwV 0 Cx.1.2.2.2.2 gX7_addHost_Jx4a65c_size_8abf5 rfl rfl rfl (by decide +kernel) ⟨Nat.le_of_ble_eq_true rfl, Nat.le_of_ble_eq_true rfl⟩) (z_recvL Cx hw c2) rfl hl.1 rfl (Nat.le_of_ble_eq_true rfl) dX7_addHost_31 ⟨Nat.le_of_ble_eq_true rfl, Nat.le_of_ble_eq_true rfl⟩) (fun H locs hw => ?_)
    refine lv_bipush (v := nI 12) hx hb dX7_addHost_34 rfl ?_
    refine lv_icmp_lt (tgt := 49) hx hb dX7_addHost_36 (by decide) (fun c_36 => ?_) (fun c_36 => ?_)
    · skip
      have c_lt : hs.length < 12 := (nI_ltI (by omega) (by omega)).mp c_36
      refine lv_iconst (v := nI 0) hx hb dX7_addHost_49 rfl ?_
      refine lv_istore hx hb dX7_addHost_50 hl (by decide) rfl (fun ls hl => ?_)
      have hl : lv_has ls 5 [(4, .int (nI 0)), (3, .ref y), (0, .ref x), (1, .int f), (2, .int a)] := hl
      have loop_52 : ∀ (nn : Nat) (i : Nat) (H : Heap) (locs : List Loc) (ls : Array Slot), (i ≤ hs.length) → (((vH V).drop i).any (fun h => decide (h.2.1 = a)) = (vH V).any (fun h => decide (h.2.1 = a))) → hs.length - i < nn → zHw E (zQ E (X ++ Y) C) s H locs → lv_has ls 5 [(0, .ref x), (1, .int f), (2, .int a), (3, .ref y), (4, .int (nI i))] → W p l e (zR 8 20 200) s m ([.ref x, .int f, .int a] : List Value).toArray below meth c H locs 1 6 (vx_MQ below (va_Qi (fun r (u : va_W × zLs) => ∃ k : Nat, (f = nI k ∧ ∃ v : zSb, (vS V)[k]? = some v ∧ zhs v.2.1.1 v.2.1.2 a = true ∧ (vH V).length < 12 ∧ (vH V).any (fun h => decide (h.2.1 = a)) = false) ∧ zRC u.1 u.2 x (vN V, vS V, vH V ++ [(k, a, 0)], vP V, vG V) ∧ r = nI (vH V).length) (fun u tt => zQ E (X ++ u.1) u.2 tt.heap) (eA E)) (zX E (zQ E (X ++ Y) C) (fun nm => (nm = zIOO ∧ ¬ zix f (vS V).length) ∨ (nm = zIAE ∧ ∃ (k : Nat) (v : zSb), f = nI k ∧ (vS V)[k]? = some v ∧ zhs v.2.1.1 v.2.1.2 a =  false) ∨ (nm = zISE ∧ ∃ (k : Nat) (v : zSb), f = nI k ∧ (vS V)[k]? = some v ∧ zhs v.2.1.1 v.2.1.2 a =  true ∧ (12 ≤ (vH V).length ∨ (vH V).any (fun h => decide (h.2.1 = a)) = true)))) ([.ref x, .int f, .int a] : List Value).toArray s 20 200 (eA E)) (F0 m 52 ls []) := by
        intro nn
        induction nn with
        | zero => intro i H locs ls hi hacc hm; exact absurd hm (Nat.not_lt_zero _)
        | succ nn ih_52 =>
          intro i H locs ls hi hacc hm hw hl
          refine lv_iload hx hb dX7_addHost_52 (lv_at hl 4 rfl) ?_
          refine lv_aload_n hx hb dX7_addHost_54 rfl (lv_at hl 0 rfl) ?_
          refine z_get Cx hw (T := TX7) (N := 5) (ci := 10) (fun _ h => List.mem_cons_of_mem _ (List.mem_append_left _ (List.mem_append_left _ (List.mem_append_left _ (List.mem_append_left _ (List.mem_append_left _ (List.mem_append_left _ (List.mem_append_right _ (h))))))))) hx0 rfl 2 (by decide) (List.mem_of_getElem? (i := 6) rfl) rfl rfl dX7_addHost_55 ?_
          refine z_goe hw.2 (z_runV Cx hw (c_al_size E l _ _ q2 hs c2) (cwV 0 Cx.1.2.2.2.2 gX7_addHost_Jx4a65c_size_8abf5 rfl rfl rfl (by decide +kernel) ⟨Nat.le_of_ble_eq_true rfl, Nat.le_of_ble_eq_true rfl⟩) (z_recvL Cx hw c2) rfl hl.1 rfl (Nat.le_of_ble_eq_true rfl) dX7_addHost_58 ⟨Nat.le_of_ble_eq_true rfl, Nat.le_of_ble_eq_true rfl⟩) (fun H locs hw => ?_)
          refine lv_icmp_ge (tgt := 99) hx hb dX7_addHost_61 (by decide) (fun c_61 => ?_) (fun c_61 => ?_)
          · skip
            rw [z_end z2 hi c_61 (by omega)] at hacc
            refine lv_aload_n hx hb dX7_addHost_99 rfl (lv_at hl 0 rfl) ?_
            refine z_get Cx hw (T := TX7) (N := 5) (ci := 10) (fun _ h => List.mem_cons_of_mem _ (List.mem_append_left _ (List.mem_append_left _ (List.mem_append_left _ (List.mem_append_left _ (List.mem_append_left _ (List.mem_append_left _ (List.mem_append_right _ (h))))))))) hx0 rfl 2 (by decide) (List.mem_of_getElem? (i := 6) rfl) rfl rfl dX7_addHost_100 ?_
            refine z_new Cx hw (T := TX2) (N := 3) (ci := 5) (fs := [.null, .int 0, .int 0]) (fun _ h => List.mem_cons_of_mem _ (List.mem_append_left _ (List.mem_append_left _ (List.mem_append_left _ (List.mem_append_left _ (List.mem_append_left _ (List.mem_append_right _ (h)))))))) tyX2 tyX2_ok (List.mem_of_getElem? (i := 7) rfl) (List.mem_of_getElem? (i := 10) rfl) (List.mem_of_getElem? (i := 11) rfl) rfl (fun j hj => by rcases (show j = 0 ∨ j = 1 ∨ j = 2 by omega) with rfl | rfl | rfl <;> rfl) (Nat.le_of_ble_eq_true rfl) (Nat.le_of_ble_eq_true rfl) dX7_addHost_103 (fun q H hfr hw => ?_)
            refine lv_dup hx hb dX7_addHost_106 rfl ?_
            refine lv_aload_n hx hb dX7_addHost_107 rfl (lv_at hl 3 rfl) ?_
            refine lv_iload_n hx hb dX7_addHost_108 rfl (lv_at hl 2 rfl) ?_
            refine z_goev hw.2 (z_runI Cx hw (c_X2_init E l X Y C q (fun x h => hfr x (List.mem_append_right X h)) y a) (cwI 2 Cx.1.2.2.2.2 gX7_addHost_X2_init rfl rfl rfl (Cx.1.2.2.2.2 (.initialized RX2) (List.mem_of_getElem? (i := 11) rfl)) (Cx.1.2.2.2.2 (.methodLink RX7 104 yX2_init) (List.mem_of_getElem? (i := 54) rfl)) (Cx.1.2.2.2.2 (.instanceMethod yX2_init) (List.mem_of_getElem? (i := 55) rfl)) rfl (by decide +kernel) ⟨Nat.le_of_ble_eq_true rfl, Nat.le_of_ble_eq_true rfl⟩)  rfl hl.1 rfl (Nat.le_of_ble_eq_true rfl) dX7_addHost_109 ⟨Nat.le_of_ble_eq_true rfl, Nat.le_of_ble_eq_true rfl⟩) (fun H locs hw => ?_)
            refine z_goe hw.2 (z_runV Cx hw (c_al_add E l _ _ q2 hs c2 q ⟨5, _, z_inq, by decide, by decide⟩ (by omega)) (cwV 1 Cx.1.2.2.2.2 gX7_addHost_Jx4a65c_add_9ea2d rfl rfl rfl (by decide +kernel) ⟨Nat.le_of_ble_eq_true rfl, Nat.le_of_ble_eq_true rfl⟩) (z_recvL Cx hw c2) rfl hl.1 rfl (Nat.le_of_ble_eq_true rfl) dX7_addHost_112 ⟨Nat.le_of_ble_eq_true rfl, Nat.le_of_ble_eq_true rfl⟩) (fun H locs hw => ?_)
            refine lv_pop hx hb dX7_addHost_115 rfl ?_
            refine lv_aload_n hx hb dX7_addHost_116 rfl (lv_at hl 0 rfl) ?_
            refine z_get Cx hw (T := TX7) (N := 5) (ci := 10) (fun _ h => List.mem_cons_of_mem _ (List.mem_append_left _ (List.mem_append_left _ (List.mem_append_left _ (List.mem_append_left _ (List.mem_append_left _ (List.mem_append_left _ (List.mem_append_right _ (h))))))))) (z_in1 hx0) rfl 2 (by decide) (List.mem_of_getElem? (i := 6) rfl) rfl rfl dX7_addHost_117 ?_
            refine z_goe hw.2 (z_runV Cx hw (c_al_size E l _ _ q2 _ (va_up_self _ _ _)) (cwV 0 Cx.1.2.2.2.2 gX7_addHost_Jx4a65c_size_8abf5 rfl rfl rfl (by decide +kernel) ⟨Nat.le_of_ble_eq_true rfl, Nat.le_of_ble_eq_true rfl⟩) (z_recvL Cx hw (va_up_self _ _ _)) rfl hl.1 rfl (Nat.le_of_ble_eq_true rfl) dX7_addHost_120 ⟨Nat.le_of_ble_eq_true rfl, Nat.le_of_ble_eq_true rfl⟩) (fun H locs hw => ?_)
            refine lv_iconst (v := 1) hx hb dX7_addHost_123 (by decide) ?_
            refine lv_isub hx hb dX7_addHost_124 ?_
            exact vx_ret (z_iret (wf := fun (u : va_W × zLs) => zQ E (X ++ u.1) u.2) Cx hr rfl (Nat.le_of_ble_eq_true rfl) (Nat.le_of_ble_eq_true rfl) (Y ++ [(q, Sum.inr (5, [.ref y, .int a, .int 0]))], va_up C q2 (some (hs ++ [q]))) hw ⟨k, ⟨hk, v, hv, c_15, by rw [← hlen]; exact c_lt, hacc.symm⟩, hR.addH (fun x h => hfr x (List.mem_append_right X h)) a hy c_lt, z_len1 hs q hlen⟩ dX7_addHost_125)
          · skip
            have hi2 := z_lt hi c_61 (by omega)
            obtain ⟨ai, vh, ha, hvh, ⟨s1, hp1, hp2⟩, hd⟩ := z_at z2 hi2
            rw [hd, List.any_cons] at hacc
            refine lv_aload_n hx hb dX7_addHost_64 rfl (lv_at hl 0 rfl) ?_
            refine z_get Cx hw (T := TX7) (N := 5) (ci := 10) (fun _ h => List.mem_cons_of_mem _ (List.mem_append_left _ (List.mem_append_left _ (List.mem_append_left _ (List.mem_append_left _ (List.mem_append_left _ (List.mem_append_left _ (List.mem_append_right _ (h))))))))) hx0 rfl 2 (by decide) (List.mem_of_getElem? (i := 6) rfl) rfl rfl dX7_addHost_65 ?_
            refine lv_iload hx hb dX7_addHost_68 (lv_at hl 4 rfl) ?_
            refine z_goer hw.2 (z_runV Cx hw (c_al_get E l _ _ q2 hs c2 i ai ha) (cwV 1 Cx.1.2.2.2.2 gX7_addHost_Jx4a65c_get_915e3 rfl rfl rfl (by decide +kernel) ⟨Nat.le_of_ble_eq_true rfl, Nat.le_of_ble_eq_true rfl⟩) (z_recvL Cx hw c2) rfl hl.1 rfl (Nat.le_of_ble_eq_true rfl) dX7_addHost_70 ⟨Nat.le_of_ble_eq_true rfl, Nat.le_of_ble_eq_true rfl⟩) (fun H locs hw => ?_)
            refine z_cast Cx hw (r := (RX2, TX2, 3)) hp1 rfl (List.mem_of_getElem? (i := 7) rfl) dX7_addHost_73 ?_
            refine z_get Cx hw (T := TX2) (N := 3) (ci := 5) (fun _ h => List.mem_cons_of_mem _ (List.mem_append_left _ (List.mem_append_left _ (List.mem_append_left _ (List.mem_append_left _ (List.mem_append_left _ (List.mem_append_right _ (h)))))))) hp1 rfl 1 (by decide) (List.mem_of_getElem? (i := 8) rfl) rfl rfl dX7_addHost_76 ?_
            refine lv_iload_n hx hb dX7_addHost_79 rfl (lv_at hl 2 rfl) ?_
            refine lv_icmp_ne (tgt := 93) hx hb dX7_addHost_80 (by decide) (fun c_80 => ?_) (fun c_80 => ?_)
            · skip
              have hacc2 : ((vH V).drop (i + 1)).any (fun h => decide (h.2.1 = a)) = (vH V).any (fun h => decide (h.2.1 = a)) := by rw [← hacc, decide_eq_false c_80, Bool.false_or]
              refine lv_iinc (v := nI (i + 1)) hx hb dX7_addHost_93 hl (k := 4) rfl (nI_1 i) (by decide) rfl (fun ls hl => ?_)
              have hl : lv_has ls 5 [(4, .int (nI (i + 1))), (0, .ref x), (1, .int f), (2, .int a), (3, .ref y)] := hl
              refine lv_goto (tgt := 52) hx hb dX7_addHost_96 (by decide) ?_
              exact ih_52 (i + 1) H _ ls (by omega) hacc2 (by omega) hw (lv_sub hl [1, 2, 3, 4, 0] rfl)
            · skip
              have hacc2 : (vH V).any (fun h => decide (h.2.1 = a)) = true := by rw [← hacc, decide_eq_true c_80, Bool.true_or]
              exact z_throw (is := 102) Cx hl0 ht hw (List.mem_of_getElem? (i := 7) rfl) (by decide) (List.mem_of_getElem? (i := 3) rfl) (List.mem_of_getElem? (i := 4) rfl) (fun _ h => List.mem_cons_of_mem _ (List.mem_append_left _ (List.mem_append_right _ (h)))) (by decide +kernel) (by decide +kernel) (by decide +kernel) hl.1 dX7_addHost_83 dX7_addHost_86 dX7_addHost_87 dX7_addHost_89 dX7_addHost_92 (Nat.le_of_ble_eq_true rfl) (Nat.le_of_ble_eq_true rfl) (Nat.le_of_ble_eq_true rfl) (Nat.le_of_ble_eq_true rfl) (Or.inr (Or.inr ⟨rfl, k, v, hk, hv, c_15, Or.inr hacc2⟩)) (fun _ h => h) (Nat.le_of_ble_eq_true rfl) (Nat.le_of_ble_eq_true rfl)
      exact loop_52 ((hs.length - 0) + 1) 0 _ _ ls (Nat.zero_le _) rfl (Nat.lt_succ_self _) hw (lv_sub hl [2, 3, 4, 1, 0] rfl)
    · skip
      have c_ge : 12 ≤ (vH V).length := by
        rw [← hlen]
        exact Nat.not_lt.mp (fun h => c_36 ((nI_ltI (by omega) (by omega)).mpr h))
      exact z_throw (is := 94) Cx hl0 ht hw (List.mem_of_getElem? (i := 6) rfl) (by decide) (List.mem_of_getElem? (i := 3) rfl) (List.mem_of_getElem? (i := 4) rfl) (fun _ h => List.mem_cons_of_mem _ (List.mem_append_left _ (List.mem_append_right _ (h)))) (by decide +kernel) (by decide +kernel) (by decide +kernel) hl.1 dX7_addHost_39 dX7_addHost_42 dX7_addHost_43 dX7_addHost_45 dX7_addHost_48 (Nat.le_of_ble_eq_true rfl) (Nat.le_of_ble_eq_true rfl) (Nat.le_of_ble_eq_true rfl) (Nat.le_of_ble_eq_true rfl) (Or.inr (Or.inr ⟨rfl, k, v, hk, hv, c_15, Or.inl c_ge⟩)) (fun _ h => h) (Nat.le_of_ble_eq_true rfl) (Nat.le_of_ble_eq_true rfl)
  · skip
    have c_15 := (zb_0 _).mp c_14
    exact z_throw (is := 92) Cx hl0 ht hw (List.mem_of_getElem? (i := 5) rfl) (by decide) (List.mem_of_getElem? (i := 1) rfl) (List.mem_of_getElem? (i := 2) rfl) (fun _ h => List.mem_cons_of_mem _ (List.mem_append_left _ (List.mem_append_left _ (List.mem_append_right _ (h))))) (by decide +kernel) (by decide +kernel) (by decide +kernel) hl.1 dX7_addHost_17 dX7_addHost_20 dX7_addHost_21 dX7_addHost_23 dX7_addHost_26 (Nat.le_of_ble_eq_true rfl) (Nat.le_of_ble_eq_true rfl) (Nat.le_of_ble_eq_true rfl) (Nat.le_of_ble_eq_true rfl) (Or.inr (Or.inl ⟨rfl, k, v, hk, hv, c_15⟩)) (fun _ h => h) (Nat.le_of_ble_eq_true rfl) (Nat.le_of_ble_eq_true rfl)

