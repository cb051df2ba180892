def zwin (w : zBk) (b z : Int32) : Bool := decide (z ≤ w.2) && zhs w.1 w.2 b
set_option maxRecDepth 100000 in
set_option maxHeartbeats 4000000 in
/-- addSubnet -/
theorem c_X7_addSubnet (E : zG) (l : Launch) (hl0 : l.stackTraces = false) (X Y : va_W) (C : zLs) (x : Nat) (V : zCl) (hrc : zRC Y C x V) (f b z : Int32) : vx_Met l yX7_addSubnet wsX7_addSubnet (zR 8 20 200) (zPre E [.ref x, .int f, .int b, .int z] (zQ E (X ++ Y) C)) (va_Qi (fun r (u : va_W × zLs) => ∃ (k : Nat) (w : zBk), (f = nI k ∧ (vN V)[k]? = some w ∧ zwin w b z = true ∧ zbok b z ∧ (vS V).length < 8 ∧ (vS V).any (fun (s : zSb) => zovl s.2.1 (b, z)) = false) ∧ zRC u.1 u.2 x (vN V, vS V ++ [(k, (b, z), [], [])], V.2.2) ∧ r = nI (vS V).length) (fun u tt => zQ E (X ++ u.1) u.2 tt.heap) (eA E)) (zX E (zQ E (X ++ Y) C) (fun nm => (nm = zIOO ∧ ¬ zix f (vN V).length) ∨ (nm = zIAE ∧ zix f (vN V).length ∧ ¬ zbok b z) ∨ (nm = zIAE ∧ zbok b z ∧ ∃ (k : Nat) (w : zBk), f = nI k ∧ (vN V)[k]? = some w ∧ zwin w b z =  false) ∨ (nm = zISE ∧ zbok b z ∧ (∃ (k : Nat) (w : zBk), f = nI k ∧ (vN V)[k]? = some w ∧ zwin w b z =  true) ∧ (8 ≤ (vS V).length ∨ (vS V).any (fun (s : zSb) => zovl s.2.1 (b, z)) = true)))) 20 200 (eA E) := by
  refine zx_of (cc := cX7_addSubnet) (maxL := 7) (ret := (some .int)) (by decide) rfl rfl (Nat.le_of_ble_eq_true rfl) ?_
  intro p e s m below meth c ls ht Cx hr hnm hw hl
  have hx := Cx.1.1
  have hb := Cx.1.2.1
  obtain ⟨q0, q1, q2, q3, q4, ns, ss, hs, ps, gs, ro, rw, hR⟩ := hrc
  have hCV := zQ.V hw.1
  have hX := hR.grow (fun _ h => List.mem_append_right X h)
  have hR2 := hX
  obtain ⟨hx0, ⟨c0, c1, c2, c3, c4⟩, ⟨z0, z1, z2, z3, z4⟩, ⟨n0, n1, n2, n4⟩, -, l0, l1, l2, l3, l4⟩ := hR2
  have nlen : ns.length = (vN V).length := z0.1
  have slen : ss.length = (vS V).length := z1.1
  have hlen : hs.length = (vH V).length := z2.1
  have plen : ps.length = (vP V).length := z3.1
  have glen : gs.length = (vG V).length := z4.1
  have hR3 := hR
  obtain ⟨-, -, ⟨y0, y1, y2, y3, y4⟩, -⟩ := hR3
  have hl : lv_has ls 7 [(0, .ref x), (1, .int f), (2, .int b), (3, .int z)] := hl
  refine lv_aload_n hx hb dX7_addSubnet_0 rfl (lv_at hl 0 rfl) ?_
  refine lv_iload_n hx hb dX7_addSubnet_1 rfl (lv_at hl 1 rfl) ?_
  refine zx_gor (pr := fun (u : Nat × Nat) a => a = u.2) (wf := fun _ => zQ E (X ++ Y) C) hw.2 (zx_runV Cx hw (c_X7_networkAt E l hl0 _ _ x q0 q1 q2 q3 q4 ns hx0 c0 (by omega) hX.nel f) (cwV 1 Cx.1.2.2.2.2 gX7_addSubnet_X7_networkAt rfl rfl rfl (by decide +kernel) ⟨Nat.le_of_ble_eq_true rfl, Nat.le_of_ble_eq_true rfl⟩) (z_recv Cx hw (r := (RX7, TX7, 5)) hx0 rfl) rfl hl.1 rfl (Nat.le_of_ble_eq_true rfl) dX7_addSubnet_2 ⟨Nat.le_of_ble_eq_true rfl, Nat.le_of_ble_eq_true rfl⟩) (z_out Cx ht (Nat.le_of_ble_eq_true rfl) (Nat.le_of_ble_eq_true rfl) (fun nm h => by rw [nlen] at h; exact Or.inl h) (fun _ h => h)) (fun u_2 ra_2 H locs hp_2 hr_2 hw => ?_)
  obtain ⟨k, y⟩ := u_2
  obtain ⟨hk, hy⟩ := hp_2
  dsimp only at hk hy
  rw [show ra_2 = y from hr_2]
  have hbk : k < ns.length := (List.getElem?_eq_some_iff.mp hy).1
  obtain ⟨w, hw0, kw⟩ := z0.get hy
  have hz : zix f (vN V).length := ⟨k, by rw [← nlen]; exact hbk, hk⟩
  refine lv_astore hx hb dX7_addSubnet_5 hl (by decide) rfl (fun ls hl => ?_)
  have hl : lv_has ls 7 [(4, .ref y), (0, .ref x), (1, .int f), (2, .int b), (3, .int z)] := hl
  refine lv_iload_n hx hb dX7_addSubnet_7 rfl (lv_at hl 3 rfl) ?_
  refine lv_iload_n hx hb dX7_addSubnet_8 rfl (lv_at hl 4 rfl) ?_
  refine zx_gor (pr := fun (q : Nat) a => a = q) (wf := fun q => zQ E (X ++ (Y ++ [(q, Sum.inr (3, [.int b, .int z]))])) C) hw.2 (zx_runS Cx hw (c_X7_blockOf E l hl0 X Y C b z) (va_cwS 2 Cx.1.2.2.2.2 gX7_addSubnet_X7_blockOf rfl rfl rfl (by decide +kernel) ⟨Nat.le_of_ble_eq_true rfl, Nat.le_of_ble_eq_true rfl⟩)  rfl hl.1 rfl (Nat.le_of_ble_eq_true rfl) dX7_addSubnet_9 ⟨Nat.le_of_ble_eq_true rfl, Nat.le_of_ble_eq_true rfl⟩) (z_out Cx ht (Nat.le_of_ble_eq_true rfl) (Nat.le_of_ble_eq_true rfl) (fun nm h => Or.inr (Or.inl ⟨h.1, hz, h.2⟩)) (fun _ h => h)) (fun q ra_9 H locs hp_9 hr_9 hw => ?_)
  obtain ⟨hbok, hfr⟩ := hp_9
  rw [show ra_9 = q from hr_9]
  have hfq : ∀ x ∈ Y, x.1 ≠ q := fun x h => hfr x (List.mem_append_right X h)
  refine lv_astore hx hb dX7_addSubnet_12 hl (by decide) rfl (fun ls hl => ?_)
  have hl : lv_has ls 7 [(5, .ref q), (4, .ref y), (0, .ref x), (1, .int f), (2, .int b), (3, .int z)] := hl
  refine lv_aload hx hb dX7_addSubnet_14 (lv_at hl 0 rfl) ?_
  refine lv_aload hx hb dX7_addSubnet_16 (lv_at hl 1 rfl) ?_
  refine z_goe hw.2 (z_runV Cx hw (c_X0_isWithin E l _ _ q b z y w.1 w.2 z_inq (z_in1 kw)) (cwV 1 Cx.1.2.2.2.2 gX7_addSubnet_X0_isWithin rfl rfl rfl (by decide +kernel) ⟨Nat.le_of_ble_eq_true rfl, Nat.le_of_ble_eq_true rfl⟩) (z_recv Cx hw (r := (RX0, TX0, 2)) z_inq rfl) rfl hl.1 rfl (Nat.le_of_ble_eq_true rfl) dX7_addSubnet_18 ⟨Nat.le_of_ble_eq_true rfl, Nat.le_of_ble_eq_true rfl⟩) (fun H locs hw => ?_)
  refine lv_if_ne (tgt := 34) hx hb dX7_addSubnet_21 (by decide) (fun c_21 => ?_) (fun c_21 => ?_)
  · skip
    have c_22 : zwin w b z = true := (zb_1 _).mp c_21
    refine lv_aload_n hx hb dX7_addSubnet_34 rfl (lv_at hl 2 rfl) ?_
    refine z_get Cx hw (T := TX7) (N := 5) (ci := 10) (fun _ h => List.mem_cons_of_mem _ (List.mem_append_left _ (List.mem_append_left _ (List.mem_append_left _ (List.mem_append_left _ (List.mem_append_left _ (List.mem_append_left _ (List.mem_append_right _ (h))))))))) (z_in1 hx0) rfl 1 (by decide) (List.mem_of_getElem? (i := 5) rfl) rfl rfl dX7_addSubnet_35 ?_
    refine z_goe hw.2 (z_runV Cx hw (c_al_size E l _ _ q1 ss c1) (cwV 0 Cx.1.2.2.2.2 gX7_addSubnet_Jx4a65c_size_8abf5 rfl rfl rfl (by decide +kernel) ⟨Nat.le_of_ble_eq_true rfl, Nat.le_of_ble_eq_true rfl⟩) (z_recvL Cx hw c1) rfl hl.1 rfl (Nat.le_of_ble_eq_true rfl) dX7_addSubnet_38 ⟨Nat.le_of_ble_eq_true rfl, Nat.le_of_ble_eq_true rfl⟩) (fun H locs hw => ?_)
    refine lv_bipush (v := nI 8) hx hb dX7_addSubnet_41 rfl ?_
    refine lv_icmp_lt (tgt := 56) hx hb dX7_addSubnet_43 (by decide) (fun c_43 => ?_) (fun c_43 => ?_)
    · skip
      have c_lt : ss.length < 8 := (nI_ltI (by omega) (by omega)).mp c_43
      refine lv_iconst (v := nI 0) hx hb dX7_addSubnet_56 rfl ?_
      refine lv_istore hx hb dX7_addSubnet_57 hl (by decide) rfl (fun ls hl => ?_)
      have hl : lv_has ls 7 [(6, .int (nI 0)), (5, .ref q), (4, .ref y), (0, .ref x), (1, .int f), (2, .int b), (3, .int z)] := hl
      have loop_59 : ∀ (nn : Nat) (i : Nat) (H : Heap) (locs : List Loc) (ls : Array Slot), (i ≤ ss.length) → (((vS V).drop i).any (fun (s : zSb) => zovl s.2.1 (b, z)) = (vS V).any (fun (s : zSb) => zovl s.2.1 (b, z))) → ss.length - i < nn → zHw E (zQ E (X ++ (Y ++ [(q, Sum.inr (3, [.int b, .int z]))])) C) s H locs → lv_has ls 7 [(0, .ref x), (1, .int f), (2, .int b), (3, .int z), (4, .ref y), (5, .ref q), (6, .int (nI i))] → W p l e (zR 8 20 200) s m ([.ref x, .int f, .int b, .int z] : List Value).toArray below meth c H locs 2 12 (vx_MQ below (va_Qi (fun r (u : va_W × zLs) => ∃ (k : Nat) (w : zBk), (f = nI k ∧ (vN V)[k]? = some w ∧ zwin w b z = true ∧ zbok b z ∧ (vS V).length < 8 ∧ (vS V).any (fun (s : zSb) => zovl s.2.1 (b, z)) = false) ∧ zRC u.1 u.2 x (vN V, vS V ++ [(k, (b, z), [], [])], V.2.2) ∧ r = nI (vS V).length) (fun u tt => zQ E (X ++ u.1) u.2 tt.heap) (eA E)) (zX E (zQ E (X ++ Y) C) (fun nm => (nm = zIOO ∧ ¬ zix f (vN V).length) ∨ (nm = zIAE ∧ zix f (vN V).length ∧ ¬ zbok b z) ∨ (nm = zIAE ∧ zbok b z ∧ ∃ (k : Nat) (w : zBk), f = nI k ∧ (vN V)[k]? = some w ∧ zwin w b z =  false) ∨ (nm = zISE ∧ zbok b z ∧ (∃ (k : Nat) (w : zBk), f = nI k ∧ (vN V)[k]? = some w ∧ zwin w b z =  true) ∧ (8 ≤ (vS V).length ∨ (vS V).any (fun (s : zSb) => zovl s.2.1 (b, z)) = true)))) ([.ref x, .int f, .int b, .int z] : List Value).toArray s 20 200 (eA E)) (F0 m 59 ls []) := by
        intro nn
        induction nn with
        | zero => intro i H locs ls hi hacc hm; exact absurd hm (Nat.not_lt_zero _)
        | succ nn ih_59 =>
          intro i H locs ls hi hacc hm hw hl
          refine lv_iload hx hb dX7_addSubnet_59 (lv_at hl 6 rfl) ?_
          refine lv_aload_n hx hb dX7_addSubnet_61 rfl (lv_at hl 0 rfl) ?_
          refine z_get Cx hw (T := TX7) (N := 5) (ci := 10) (fun _ h => List.mem_cons_of_mem _ (List.mem_append_left _ (List.mem_append_left _ (List.mem_append_left _ (List.mem_append_left _ (List.mem_append_left _ (List.mem_append_left _ (List.mem_append_right _ (h))))))))) (z_in1 hx0) rfl 1 (by decide) (List.mem_of_getElem? (i := 5) rfl) rfl rfl dX7_addSubnet_62 ?_
          refine z_goe hw.2 (z_runV Cx hw (c_al_size E l _ _ q1 ss c1) (cwV 0 Cx.1.2.2.2.2 gX7_addSubnet_Jx4a65c_size_8abf5 rfl rfl rfl (by decide +kernel) ⟨Nat.le_of_ble_eq_true rfl, Nat.le_of_ble_eq_true rfl⟩) (z_recvL Cx hw c1) rfl hl.1 rfl (Nat.le_of_ble_eq_true rfl) dX7_addSubnet_65 ⟨Nat.le_of_ble_eq_true rfl, Nat.le_of_ble_eq_true rfl⟩) (fun H locs hw => ?_)
          refine lv_icmp_ge (tgt := 110) hx hb dX7_addSubnet_68 (by decide) (fun c_68 => ?_) (fun c_68 => ?_)
          · skip
            rw [z_end z1 hi c_68 (by omega)] at hacc
            refine lv_aload_n hx hb dX7_addSubnet_110 rfl (lv_at hl 0 rfl) ?_
            refine z_get Cx hw (T := TX7) (N := 5) (ci := 10) (fun _ h => List.mem_cons_of_mem _ (List.mem_append_left _ (List.mem_append_left _ (List.mem_append_left _ (List.mem_append_left _ (List.mem_append_left _ (List.mem_append_left _ (List.mem_append_right _ (h))))))))) (z_in1 hx0) rfl 1 (by decide) (List.mem_of_getElem? (i := 5) rfl) rfl rfl dX7_addSubnet_111 ?_
            refine z_new Cx hw (T := TX6) (N := 4) (ci := 9) (fs := [.null, .null, .null, .null]) (fun _ h => List.mem_cons_of_mem _ (List.mem_append_left _ (List.mem_append_left _ (List.mem_append_left _ (List.mem_append_left _ (List.mem_append_left _ (List.mem_append_right _ (h)))))))) tyX6 tyX6_ok (List.mem_of_getElem? (i := 6) rfl) (List.mem_of_getElem? (i := 9) rfl) (List.mem_of_getElem? (i := 10) rfl) rfl (fun j hj => by rcases (show j = 0 ∨ j = 1 ∨ j = 2 ∨ j = 3 by omega) with rfl | rfl | rfl | rfl <;> rfl) (Nat.le_of_ble_eq_true rfl) (Nat.le_of_ble_eq_true rfl) dX7_addSubnet_114 (fun a H hfa hw => ?_)
            refine lv_dup hx hb dX7_addSubnet_117 rfl ?_
            refine lv_aload hx hb dX7_addSubnet_118 (lv_at hl 4 rfl) ?_
            refine lv_aload hx hb dX7_addSubnet_120 (lv_at hl 5 rfl) ?_
            refine z_gov (wf := fun (u : Nat × Nat) => zQ E (X ++ ((Y ++ [(q, Sum.inr (3, [.int b, .int z]))]) ++ [(a, Sum.inr (9, [.ref y, .ref q, .ref u.1, .ref u.2]))])) (va_up (va_up C u.1 (some [])) u.2 (some []))) hw.2 (z_runI Cx hw (c_X6_init E l X (Y ++ [(q, Sum.inr (3, [.int b, .int z]))]) C a (fun x h => hfa x (List.mem_append_right X h)) y q) (cwI 2 Cx.1.2.2.2.2 gX7_addSubnet_X6_init rfl rfl rfl (Cx.1.2.2.2.2 (.initialized RX6) (List.mem_of_getElem? (i := 10) rfl)) (Cx.1.2.2.2.2 (.methodLink RX7 81 yX6_init) (List.mem_of_getElem? (i := 72) rfl)) (Cx.1.2.2.2.2 (.instanceMethod yX6_init) (List.mem_of_getElem? (i := 73) rfl)) rfl (by decide +kernel) ⟨Nat.le_of_ble_eq_true rfl, Nat.le_of_ble_eq_true rfl⟩)  rfl hl.1 rfl (Nat.le_of_ble_eq_true rfl) dX7_addSubnet_122 ⟨Nat.le_of_ble_eq_true rfl, Nat.le_of_ble_eq_true rfl⟩) (fun u H locs hu hw => ?_)
            obtain ⟨rl, rt⟩ := u
            obtain ⟨hu1, hu2⟩ := hu
            dsimp only at hu1 hu2
            have c5 : va_up (va_up C rl (some [])) rt (some []) q1 = some ss := z_upC hu2 _ _ (z_upC hu1 _ _ c1)
            refine z_goe hw.2 (z_runV Cx hw (c_al_add E l _ _ q1 ss c5 a ⟨9, _, z_inq, by decide, by decide⟩ (by omega)) (cwV 1 Cx.1.2.2.2.2 gX7_addSubnet_Jx4a65c_add_9ea2d rfl rfl rfl (by decide +kernel) ⟨Nat.le_of_ble_eq_true rfl, Nat.le_of_ble_eq_true rfl⟩) (z_recvL Cx hw c5) rfl hl.1 rfl (Nat.le_of_ble_eq_true rfl) dX7_addSubnet_125 ⟨Nat.le_of_ble_eq_true rfl, Nat.le_of_ble_eq_true rfl⟩) (fun H locs hw => ?_)
            refine lv_pop hx hb dX7_addSubnet_128 rfl ?_
            refine lv_aload_n hx hb dX7_addSubnet_129 rfl (lv_at hl 0 rfl) ?_
            refine z_get Cx hw (T := TX7) (N := 5) (ci := 10) (fun _ h => List.mem_cons_of_mem _ (List.mem_append_left _ (List.mem_append_left _ (List.mem_append_left _ (List.mem_append_left _ (List.mem_append_left _ (List.mem_append_left _ (List.mem_append_right _ (h))))))))) (z_in1 (z_in1 hx0)) rfl 1 (by decide) (List.mem_of_getElem? (i := 5) rfl) rfl rfl dX7_addSubnet_130 ?_
            refine z_goe hw.2 (z_runV Cx hw (c_al_size E l _ _ q1 _ (va_up_self _ _ _)) (cwV 0 Cx.1.2.2.2.2 gX7_addSubnet_Jx4a65c_size_8abf5 rfl rfl rfl (by decide +kernel) ⟨Nat.le_of_ble_eq_true rfl, Nat.le_of_ble_eq_true rfl⟩) (z_recvL Cx hw (va_up_self _ _ _)) rfl hl.1 rfl (Nat.le_of_ble_eq_true rfl) dX7_addSubnet_133 ⟨Nat.le_of_ble_eq_true rfl, Nat.le_of_ble_eq_true rfl⟩) (fun H locs hw => ?_)
            refine lv_iconst (v := 1) hx hb dX7_addSubnet_136 (by decide) ?_
            refine lv_isub hx hb dX7_addSubnet_137 ?_
            exact vx_ret (z_iret (wf := fun (u : va_W × zLs) => zQ E (X ++ u.1) u.2) Cx hr rfl (Nat.le_of_ble_eq_true rfl) (Nat.le_of_ble_eq_true rfl) ((Y ++ [(q, Sum.inr (3, [.int b, .int z]))]) ++ [(a, Sum.inr (9, [.ref y, .ref q, .ref rl, .ref rt]))], va_up (va_up (va_up C rl (some [])) rt (some [])) q1 (some (ss ++ [a]))) hw ⟨k, w, ⟨hk, hw0, c_22, hbok, by rw [← slen]; exact c_lt, hacc.symm⟩, (hR.grow (fun _ h => List.mem_append_left _ h)).addS (q := q) hu1 hu2 (fun x h => hfa x (List.mem_append_right X h)) (List.mem_append_right _ List.mem_cons_self) hy c_lt, z_len1 ss a slen⟩ dX7_addSubnet_138)
          · skip
            have hi2 := z_lt hi c_68 (by omega)
            obtain ⟨ai, v, ha, hv, ⟨nw1, bk1, rl1, rt1, es1, fs1, g1, g2, g3, -⟩, hd⟩ := z_at z1 hi2
            rw [hd, List.any_cons] at hacc
            refine lv_aload_n hx hb dX7_addSubnet_71 rfl (lv_at hl 0 rfl) ?_
            refine z_get Cx hw (T := TX7) (N := 5) (ci := 10) (fun _ h => List.mem_cons_of_mem _ (List.mem_append_left _ (List.mem_append_left _ (List.mem_append_left _ (List.mem_append_left _ (List.mem_append_left _ (List.mem_append_left _ (List.mem_append_right _ (h))))))))) (z_in1 hx0) rfl 1 (by decide) (List.mem_of_getElem? (i := 5) rfl) rfl rfl dX7_addSubnet_72 ?_
            refine lv_iload hx hb dX7_addSubnet_75 (lv_at hl 6 rfl) ?_
            refine z_goer hw.2 (z_runV Cx hw (c_al_get E l _ _ q1 ss c1 i ai ha) (cwV 1 Cx.1.2.2.2.2 gX7_addSubnet_Jx4a65c_get_915e3 rfl rfl rfl (by decide +kernel) ⟨Nat.le_of_ble_eq_true rfl, Nat.le_of_ble_eq_true rfl⟩) (z_recvL Cx hw c1) rfl hl.1 rfl (Nat.le_of_ble_eq_true rfl) dX7_addSubnet_77 ⟨Nat.le_of_ble_eq_true rfl, Nat.le_of_ble_eq_true rfl⟩) (fun H locs hw => ?_)
            refine z_cast Cx hw (r := (RX6, TX6, 4)) (z_in1 g1) rfl (List.mem_of_getElem? (i := 6) rfl) dX7_addSubnet_80 ?_
            refine z_get Cx hw (T := TX6) (N := 4) (ci := 9) (fun _ h => List.mem_cons_of_mem _ (List.mem_append_left _ (List.mem_append_left _ (List.mem_append_left _ (List.mem_append_left _ (List.mem_append_left _ (List.mem_append_right _ (h)))))))) (z_in1 g1) rfl 1 (by decide) (List.mem_of_getElem? (i := 7) rfl) rfl rfl dX7_addSubnet_83 ?_
            refine lv_aload hx hb dX7_addSubnet_86 (lv_at hl 5 rfl) ?_
            refine z_goe hw.2 (z_runV Cx hw (c_X0_overlaps E l _ _ bk1 v.2.1.1 v.2.1.2 q b z (z_in1 g3) z_inq) (cwV 1 Cx.1.2.2.2.2 gX7_addSubnet_X0_overlaps rfl rfl rfl (by decide +kernel) ⟨Nat.le_of_ble_eq_true rfl, Nat.le_of_ble_eq_true rfl⟩) (z_recv Cx hw (r := (RX0, TX0, 2)) (z_in1 g3) rfl) rfl hl.1 rfl (Nat.le_of_ble_eq_true rfl) dX7_addSubnet_88 ⟨Nat.le_of_ble_eq_true rfl, Nat.le_of_ble_eq_true rfl⟩) (fun H locs hw => ?_)
            refine lv_if_eq (tgt := 104) hx hb dX7_addSubnet_91 (by decide) (fun c_91 => ?_) (fun c_91 => ?_)
            · skip
              have c_92 : zovl v.2.1 (b, z) = false := (zb_0 _).mp c_91
              have hacc2 : ((vS V).drop (i + 1)).any (fun (s : zSb) => zovl s.2.1 (b, z)) = (vS V).any (fun (s : zSb) => zovl s.2.1 (b, z)) := by rw [← hacc, c_92, Bool.false_or]
              refine lv_iinc (v := nI (i + 1)) hx hb dX7_addSubnet_104 hl (k := 6) rfl (nI_1 i) (by decide) rfl (fun ls hl => ?_)
              have hl : lv_has ls 7 [(6, .int (nI (i + 1))), (0, .ref x), (1, .int f), (2, .int b), (3, .int z), (4, .ref y), (5, .ref q)] := hl
              refine lv_goto (tgt := 59) hx hb dX7_addSubnet_107 (by decide) ?_
              exact ih_59 (i + 1) H _ ls (by omega) hacc2 (by omega) hw (lv_sub hl [1, 2, 3, 4, 5, 6, 0] rfl)
            · skip
              have c_92 : zovl v.2.1 (b, z) = true := (zb_1 _).mp c_91
              have hacc2 : (vS V).any (fun (s : zSb) => zovl s.2.1 (b, z)) = true := by rw [← hacc, c_92, Bool.true_or]
              exact z_throw (is := 79) Cx hl0 ht hw (List.mem_of_getElem? (i := 4) rfl) (by decide) (List.mem_of_getElem? (i := 3) rfl) (List.mem_of_getElem? (i := 4) rfl) (fun _ h => List.mem_cons_of_mem _ (List.mem_append_left _ (List.mem_append_right _ (h)))) (by decide +kernel) (by decide +kernel) (by decide +kernel) hl.1 dX7_addSubnet_94 dX7_addSubnet_97 dX7_addSubnet_98 dX7_addSubnet_100 dX7_addSubnet_103 (Nat.le_of_ble_eq_true rfl) (Nat.le_of_ble_eq_true rfl) (Nat.le_of_ble_eq_true rfl) (Nat.le_of_ble_eq_true rfl) (Or.inr (Or.inr (Or.inr ⟨rfl, hbok, ⟨k, w, hk, hw0, c_22⟩, Or.inr hacc2⟩))) (fun _ h => zQ_drop h hCV) (Nat.le_of_ble_eq_true rfl) (Nat.le_of_ble_eq_true rfl)
      exact loop_59 ((ss.length - 0) + 1) 0 _ _ ls (Nat.zero_le _) rfl (Nat.lt_succ_self _) hw (lv_sub hl [3, 4, 5, 6, 2, 1, 0] rfl)
    · skip
      have c_ge : 8 ≤ (vS V).length := by
        rw [← slen]
        exact Nat.not_lt.mp (fun h => c_43 ((nI_ltI (by omega) (by omega)).mpr h))
      exact z_throw (is := 71) Cx hl0 ht hw (List.mem_of_getElem? (i := 3) rfl) (by decide) (List.mem_of_getElem? (i := 3) rfl) (List.mem_of_getElem? (i := 4) rfl) (fun _ h => List.mem_cons_of_mem _ (List.mem_append_left _ (List.mem_append_right _ (h)))) (by decide +kernel) (by decide +kernel) (by decide +kernel) hl.1 dX7_addSubnet_46 dX7_addSubnet_49 dX7_addSubnet_50 dX7_addSubnet_52 dX7_addSubnet_55 (Nat.le_of_ble_eq_true rfl) (Nat.le_of_ble_eq_true rfl) (Nat.le_of_ble_eq_true rfl) (Nat.le_of_ble_eq_true rfl) (Or.inr (Or.inr (Or.inr ⟨rfl, hbok, ⟨k, w, hk, hw0, c_22⟩, Or.inl c_ge⟩))) (fun _ h => zQ_drop h hCV) (Nat.le_of_ble_eq_true rfl) (Nat.le_of_ble_eq_true rfl)
  · skip
    have c_22 : zwin w b z = false := (zb_0 _).mp c_21
    exact z_throw (is := 68) Cx hl0 ht hw (List.mem_of_getElem? (i := 2) rfl) (by decide) (List.mem_of_getElem? (i := 1) rfl) (List.mem_of_getElem? (i := 2) rfl) (fun _ h => List.mem_cons_of_mem _ (List.mem_append_left _ (List.mem_append_left _ (List.mem_append_right _ (h))))) (by decide +kernel) (by decide +kernel) (by decide +kernel) hl.1 dX7_addSubnet_24 dX7_addSubnet_27 dX7_addSubnet_28 dX7_addSubnet_30 dX7_addSubnet_33 (Nat.le_of_ble_eq_true rfl) (Nat.le_of_ble_eq_true rfl) (Nat.le_of_ble_eq_true rfl) (Nat.le_of_ble_eq_true rfl) (Or.inr (Or.inr (Or.inl ⟨rfl, hbok, k, w, hk, hw0, c_22⟩))) (fun _ h => zQ_drop h hCV) (Nat.le_of_ble_eq_true rfl) (Nat.le_of_ble_eq_true rfl)

