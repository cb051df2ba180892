set_option maxRecDepth 100000 in
set_option maxHeartbeats 4000000 in
/-- allow -/
theorem c_X7_allow (E : zG) (l : Launch) (hl0 : l.stackTraces = false) (X Y : va_W) (C : zLs) (x : Nat) (V : zCl) (hrc : zRC Y C x V) (g : Int32) (i : Bool) (b z f la : Int32) : vx_Met l yX7_allow wsX7_allow (zR 8 20 200) (zPre E [.ref x, .int g, .int (zb i), .int b, .int z, .int f, .int la] (zQ E (X ++ Y) C)) (va_Qi (fun r (u : va_W × zLs) => ∃ (k : Nat) (v : List zRl), (g = nI k ∧ (vG V)[k]? = some v ∧ zbok b z ∧ zpok f la ∧ v.length < 10) ∧ zRC u.1 u.2 x (vN V, vS V, vH V, vP V, (vG V).set k (v ++ [(zb i, zb true, (b, z), zps f la)])) ∧ r = nI (v.length + 1)) (fun u tt => zQ E (X ++ u.1) u.2 tt.heap) (eA E)) (zX E (zQ E (X ++ Y) C) (fun nm => (nm = zIOO ∧ ¬ zix g (vG V).length) ∨ (nm = zIAE ∧ zix g (vG V).length ∧ ¬ (zbok b z ∧ zpok f la)) ∨ (nm = zISE ∧ (zbok b z ∧ zpok f la) ∧ ∃ (k : Nat) (v : List zRl), g = nI k ∧ (vG V)[k]? = some v ∧ 10 ≤ v.length))) 20 200 (eA E) := by
  refine zx_of (cc := cX7_allow) (maxL := 10) (ret := (some .int)) (by decide) rfl rfl (Nat.le_of_ble_eq_true rfl) ?_
  intro p e s m below meth c ls ht Cx hr hnm hw hl
  have hx := Cx.1.1
  have hb := Cx.1.2.1
  obtain ⟨q0, q1, q2, q3, q4, ns, ss, hs, ps, gs, ro, rw, hR⟩ := hrc
  have hCV := zQ.V hw.1
  have hX := hR.grow (fun _ h => List.mem_append_right X h)
  have hR2 := hX
  obtain ⟨hx0, ⟨c0, c1, c2, c3, c4⟩, ⟨z0, z1, z2, z3, z4⟩, ⟨n0, n1, n2, n4⟩, -, l0, l1, l2, l3, l4⟩ := hR2
  have nlen : ns.length = (vN V).length := z0.1
  have slen : ss.length = (vS V).length := z1.1
  have hlen : hs.length = (vH V).length := z2.1
  have plen : ps.length = (vP V).length := z3.1
  have glen : gs.length = (vG V).length := z4.1
  have hR3 := hR
  obtain ⟨-, -, ⟨y0, y1, y2, y3, y4⟩, -⟩ := hR3
  have hl : lv_has ls 10 [(0, .ref x), (1, .int g), (2, .int (zb i)), (3, .int b), (4, .int z), (5, .int f), (6, .int la)] := hl
  refine lv_aload_n hx hb dX7_allow_0 rfl (lv_at hl 0 rfl) ?_
  refine lv_iload_n hx hb dX7_allow_1 rfl (lv_at hl 1 rfl) ?_
  refine zx_gor (pr := fun (u : Nat × Nat) a => a = u.2) (wf := fun _ => zQ E (X ++ Y) C) hw.2 (zx_runV Cx hw (c_X7_groupAt E l hl0 _ _ x q0 q1 q2 q3 q4 gs hx0 c4 (by omega) hX.gel g) (cwV 1 Cx.1.2.2.2.2 gX7_allow_X7_groupAt rfl rfl rfl (by decide +kernel) ⟨Nat.le_of_ble_eq_true rfl, Nat.le_of_ble_eq_true rfl⟩) (z_recv Cx hw (r := (RX7, TX7, 5)) hx0 rfl) rfl hl.1 rfl (Nat.le_of_ble_eq_true rfl) dX7_allow_2 ⟨Nat.le_of_ble_eq_true rfl, Nat.le_of_ble_eq_true rfl⟩) (z_out Cx ht (Nat.le_of_ble_eq_true rfl) (Nat.le_of_ble_eq_true rfl) (fun nm h => by rw [glen] at h; exact Or.inl h) (fun _ h => h)) (fun u_2 ra_2 H locs hp_2 hr_2 hw => ?_)
  obtain ⟨k, y⟩ := u_2
  obtain ⟨hk, hy⟩ := hp_2
  dsimp only at hk hy
  rw [show ra_2 = y from hr_2]
  have hbk : k < gs.length := (List.getElem?_eq_some_iff.mp hy).1
  obtain ⟨v, hv, lq, es, k1, k2, k3, k4, k5⟩ := y4.get hy
  have hz : zix g (vG V).length := ⟨k, by rw [← glen]; exact hbk, hk⟩
  have k6 := k3.1
  refine lv_astore hx hb dX7_allow_5 hl (by decide) rfl (fun ls hl => ?_)
  have hl : lv_has ls 10 [(7, .ref y), (0, .ref x), (1, .int g), (2, .int (zb i)), (3, .int b), (4, .int z), (5, .int f), (6, .int la)] := hl
  refine lv_iload_n hx hb dX7_allow_7 rfl (lv_at hl 4 rfl) ?_
  refine lv_iload hx hb dX7_allow_8 (lv_at hl 5 rfl) ?_
  refine zx_gor (pr := fun (q : Nat) a => a = q) (wf := fun q => zQ E (X ++ (Y ++ [(q, Sum.inr (3, [.int b, .int z]))])) C) hw.2 (zx_runS Cx hw (c_X7_blockOf E l hl0 X Y C b z) (va_cwS 2 Cx.1.2.2.2.2 gX7_allow_X7_blockOf rfl rfl rfl (by decide +kernel) ⟨Nat.le_of_ble_eq_true rfl, Nat.le_of_ble_eq_true rfl⟩)  rfl hl.1 rfl (Nat.le_of_ble_eq_true rfl) dX7_allow_10 ⟨Nat.le_of_ble_eq_true rfl, Nat.le_of_ble_eq_true rfl⟩) (z_out Cx ht (Nat.le_of_ble_eq_true rfl) (Nat.le_of_ble_eq_true rfl) (fun nm h => Or.inr (Or.inl ⟨h.1, hz, fun hh => h.2 hh.1⟩)) (fun _ h => h)) (fun q ra_10 H locs hp_10 hr_10 hw => ?_)
  obtain ⟨hbok, hfr⟩ := hp_10
  rw [show ra_10 = q from hr_10]
  have hfq : ∀ x ∈ Y, x.1 ≠ q := fun x h => hfr x (List.mem_append_right X h)
  refine lv_astore hx hb dX7_allow_13 hl (by decide) rfl (fun ls hl => ?_)
  have hl : lv_has ls 10 [(8, .ref q), (7, .ref y), (0, .ref x), (1, .int g), (2, .int (zb i)), (3, .int b), (4, .int z), (5, .int f), (6, .int la)] := hl
  refine lv_iload hx hb dX7_allow_15 (lv_at hl 7 rfl) ?_
  refine lv_iload hx hb dX7_allow_17 (lv_at hl 8 rfl) ?_
  refine zx_goi (wf := fun _ => zQ E (X ++ (Y ++ [(q, Sum.inr (3, [.int b, .int z]))])) C) hw.2 (zx_runS Cx hw (c_X7_portRange E l hl0 _ C f la) (va_cwS 2 Cx.1.2.2.2.2 gX7_allow_X7_portRange rfl rfl rfl (by decide +kernel) ⟨Nat.le_of_ble_eq_true rfl, Nat.le_of_ble_eq_true rfl⟩)  rfl hl.1 rfl (Nat.le_of_ble_eq_true rfl) dX7_allow_19 ⟨Nat.le_of_ble_eq_true rfl, Nat.le_of_ble_eq_true rfl⟩) (z_out Cx ht (Nat.le_of_ble_eq_true rfl) (Nat.le_of_ble_eq_true rfl) (fun nm h => Or.inr (Or.inl ⟨h.1, hz, fun hh => h.2 hh.2⟩)) (fun _ h => zQ_drop h hCV)) (fun r_19 _ H locs hp_19 hw => ?_)
  obtain ⟨e_19, hpok⟩ := hp_19
  subst e_19
  refine lv_istore hx hb dX7_allow_22 hl (by decide) rfl (fun ls hl => ?_)
  have hl : lv_has ls 10 [(9, .int (zps f la)), (8, .ref q), (7, .ref y), (0, .ref x), (1, .int g), (2, .int (zb i)), (3, .int b), (4, .int z), (5, .int f), (6, .int la)] := hl
  refine lv_aload hx hb dX7_allow_24 (lv_at hl 2 rfl) ?_
  refine z_get Cx hw (T := TX1) (N := 1) (ci := 4) (fun _ h => List.mem_cons_of_mem _ (List.mem_append_left _ (List.mem_append_left _ (List.mem_append_left _ (List.mem_append_left _ (List.mem_append_left _ (List.mem_append_left _ (List.mem_append_left _ (List.mem_append_right _ (h)))))))))) (z_in1 (List.mem_append_right X k1)) rfl 0 (by decide) (List.mem_of_getElem? (i := 3) rfl) rfl rfl dX7_allow_26 ?_
  refine z_goe hw.2 (z_runV Cx hw (c_al_size E l _ _ lq es k2) (cwV 0 Cx.1.2.2.2.2 gX7_allow_Jx4a65c_size_8abf5 rfl rfl rfl (by decide +kernel) ⟨Nat.le_of_ble_eq_true rfl, Nat.le_of_ble_eq_true rfl⟩) (z_recvL Cx hw k2) rfl hl.1 rfl (Nat.le_of_ble_eq_true rfl) dX7_allow_29 ⟨Nat.le_of_ble_eq_true rfl, Nat.le_of_ble_eq_true rfl⟩) (fun H locs hw => ?_)
  refine lv_bipush (v := nI 10) hx hb dX7_allow_32 rfl ?_
  refine lv_icmp_lt (tgt := 47) hx hb dX7_allow_34 (by decide) (fun c_34 => ?_) (fun c_34 => ?_)
  · skip
    have c_lt : es.length < 10 := (nI_ltI (by omega) (by omega)).mp c_34
    refine lv_aload hx hb dX7_allow_47 (lv_at hl 2 rfl) ?_
    refine z_get Cx hw (T := TX1) (N := 1) (ci := 4) (fun _ h => List.mem_cons_of_mem _ (List.mem_append_left _ (List.mem_append_left _ (List.mem_append_left _ (List.mem_append_left _ (List.mem_append_left _ (List.mem_append_left _ (List.mem_append_left _ (List.mem_append_right _ (h)))))))))) (z_in1 (List.mem_append_right X k1)) rfl 0 (by decide) (List.mem_of_getElem? (i := 3) rfl) rfl rfl dX7_allow_49 ?_
    refine z_new Cx hw (T := TX5) (N := 4) (ci := 8) (fs := [.int 0, .int 0, .null, .int 0]) (fun _ h => List.mem_cons_of_mem _ (List.mem_append_left _ (List.mem_append_left _ (List.mem_append_left _ (List.mem_append_left _ (List.mem_append_left _ (List.mem_append_left _ (List.mem_append_right _ (h))))))))) tyX5 tyX5_ok (List.mem_of_getElem? (i := 4) rfl) (List.mem_of_getElem? (i := 5) rfl) (List.mem_of_getElem? (i := 6) rfl) rfl (fun j hj => by rcases (show j = 0 ∨ j = 1 ∨ j = 2 ∨ j = 3 by omega) with rfl | rfl | rfl | rfl <;> rfl) (Nat.le_of_ble_eq_true rfl) (Nat.le_of_ble_eq_true rfl) dX7_allow_52 (fun a H hfa hw => ?_)
    refine lv_dup hx hb dX7_allow_55 rfl ?_
    refine lv_iload_n hx hb dX7_allow_56 rfl (lv_at hl 5 rfl) ?_
    refine lv_iconst (v := zb true) hx hb dX7_allow_57 rfl ?_
    refine lv_aload hx hb dX7_allow_58 (lv_at hl 1 rfl) ?_
    refine lv_iload hx hb dX7_allow_60 (lv_at hl 0 rfl) ?_
    refine z_goev hw.2 (z_runI Cx hw (c_X5_init E l X (Y ++ [(q, Sum.inr (3, [.int b, .int z]))]) C a (fun x h => hfa x (List.mem_append_right X h)) i true q (zps f la)) (cwI 4 Cx.1.2.2.2.2 gX7_allow_X5_init rfl rfl rfl (Cx.1.2.2.2.2 (.initialized RX5) (List.mem_of_getElem? (i := 6) rfl)) (Cx.1.2.2.2.2 (.methodLink RX7 134 yX5_init) (List.mem_of_getElem? (i := 61) rfl)) (Cx.1.2.2.2.2 (.instanceMethod yX5_init) (List.mem_of_getElem? (i := 62) rfl)) rfl (by decide +kernel) ⟨Nat.le_of_ble_eq_true rfl, Nat.le_of_ble_eq_true rfl⟩)  rfl hl.1 rfl (Nat.le_of_ble_eq_true rfl) dX7_allow_62 ⟨Nat.le_of_ble_eq_true rfl, Nat.le_of_ble_eq_true rfl⟩) (fun H locs hw => ?_)
    refine z_goe hw.2 (z_runV Cx hw (c_al_add E l _ _ lq es k2 a ⟨8, _, z_inq, by decide, by decide⟩ (by omega)) (cwV 1 Cx.1.2.2.2.2 gX7_allow_Jx4a65c_add_9ea2d rfl rfl rfl (by decide +kernel) ⟨Nat.le_of_ble_eq_true rfl, Nat.le_of_ble_eq_true rfl⟩) (z_recvL Cx hw k2) rfl hl.1 rfl (Nat.le_of_ble_eq_true rfl) dX7_allow_65 ⟨Nat.le_of_ble_eq_true rfl, Nat.le_of_ble_eq_true rfl⟩) (fun H locs hw => ?_)
    refine lv_pop hx hb dX7_allow_68 rfl ?_
    refine lv_aload hx hb dX7_allow_69 (lv_at hl 2 rfl) ?_
    refine z_get Cx hw (T := TX1) (N := 1) (ci := 4) (fun _ h => List.mem_cons_of_mem _ (List.mem_append_left _ (List.mem_append_left _ (List.mem_append_left _ (List.mem_append_left _ (List.mem_append_left _ (List.mem_append_left _ (List.mem_append_left _ (List.mem_append_right _ (h)))))))))) (z_in1 (z_in1 (List.mem_append_right X k1))) rfl 0 (by decide) (List.mem_of_getElem? (i := 3) rfl) rfl rfl dX7_allow_71 ?_
    refine z_goe hw.2 (z_runV Cx hw (c_al_size E l _ _ lq _ (va_up_self _ _ _)) (cwV 0 Cx.1.2.2.2.2 gX7_allow_Jx4a65c_size_8abf5 rfl rfl rfl (by decide +kernel) ⟨Nat.le_of_ble_eq_true rfl, Nat.le_of_ble_eq_true rfl⟩) (z_recvL Cx hw (va_up_self _ _ _)) rfl hl.1 rfl (Nat.le_of_ble_eq_true rfl) dX7_allow_74 ⟨Nat.le_of_ble_eq_true rfl, Nat.le_of_ble_eq_true rfl⟩) (fun H locs hw => ?_)
    have hg := fun (p : Nat × va_E) (h : p ∈ Y) => List.mem_append_left [(a, Sum.inr (8, [.int (zb i), .int (zb true), .ref q, .int (zps f la)]))] (List.mem_append_left [(q, Sum.inr (3, [.int b, .int z]))] h)
    exact vx_ret (z_iret (wf := fun (u : va_W × zLs) => zQ E (X ++ u.1) u.2) Cx hr rfl (Nat.le_of_ble_eq_true rfl) (Nat.le_of_ble_eq_true rfl) ((Y ++ [(q, Sum.inr (3, [.int b, .int z]))]) ++ [(a, Sum.inr (8, [.int (zb i), .int (zb true), .ref q, .int (zps f la)]))], va_up C lq (some (es ++ [a]))) hw ⟨k, v, ⟨hk, hv, hbok, hpok, by rw [← k6]; exact c_lt⟩, (hR.grow hg).grp hy (hg _ k1) k5 ((k3.imp (fun _ _ h => h.grow hg)).push ⟨q, List.mem_append_right _ List.mem_cons_self, List.mem_append_left _ (List.mem_append_right _ List.mem_cons_self)⟩) (by rw [List.length_append]; exact c_lt), by rw [List.length_append, k6]; rfl⟩ dX7_allow_77)
  · skip
    have c_ge : 10 ≤ v.length := by
      rw [← k6]
      exact Nat.not_lt.mp (fun h => c_34 ((nI_ltI (by omega) (by omega)).mpr h))
    exact z_throw (is := 130) Cx hl0 ht hw (List.mem_of_getElem? (i := 11) rfl) (by decide) (List.mem_of_getElem? (i := 1) rfl) (List.mem_of_getElem? (i := 2) rfl) (fun _ h => List.mem_cons_of_mem _ (List.mem_append_left _ (List.mem_append_left _ (List.mem_append_right _ (h))))) (by decide +kernel) (by decide +kernel) (by decide +kernel) hl.1 dX7_allow_37 dX7_allow_40 dX7_allow_41 dX7_allow_43 dX7_allow_46 (Nat.le_of_ble_eq_true rfl) (Nat.le_of_ble_eq_true rfl) (Nat.le_of_ble_eq_true rfl) (Nat.le_of_ble_eq_true rfl) (Or.inr (Or.inr ⟨rfl, ⟨hbok, hpok⟩, k, v, hk, hv, c_ge⟩)) (fun _ h => zQ_drop h hCV) (Nat.le_of_ble_eq_true rfl) (Nat.le_of_ble_eq_true rfl)

set_option maxRecDepth 100000 in
set_option maxHeartbeats 4000000 in
/-- clearGroup -/
theorem c_X7_clearGroup (E : zG) (l : Launch) (hl0 : l.stackTraces = false) (X Y : va_W) (C : zLs) (x : Nat) (V : zCl) (hrc : zRC Y C x V) (g : Int32) : vx_Met l yX7_clearGroup wsX7_clearGroup (zR 8 20 200) (zPre E [.ref x, .int g] (zQ E (X ++ Y) C)) (va_Qi (fun r (u : va_W × zLs) => ∃ (k : Nat) (v : List zRl), (g = nI k ∧ (vG V)[k]? = some v) ∧ zRC u.1 u.2 x (vN V, vS V, vH V, vP V, (vG V).set k []) ∧ r = nI v.length) (fun u tt => zQ E (X ++ u.1) u.2 tt.heap) (eA E)) (zX E (zQ E (X ++ Y) C) (fun nm => nm = zIOO ∧ ¬ zix g (vG V).length)) 20 200 (eA E) := by
  refine zx_of (cc := cX7_clearGroup) (maxL := 4) (ret := (some .int)) (by decide) rfl rfl (Nat.le_of_ble_eq_true rfl) ?_
  intro p e s m below meth c ls ht Cx hr hnm hw hl
  have hx := Cx.1.1
  have hb := Cx.1.2.1
  obtain ⟨q0, q1, q2, q3, q4, ns, ss, hs, ps, gs, ro, rw, hR⟩ := hrc
  have hCV := zQ.V hw.1
  have hX := hR.grow (fun _ h => List.mem_append_right X h)
  have hR2 := hX
  obtain ⟨hx0, ⟨c0, c1, c2, c3, c4⟩, ⟨z0, z1, z2, z3, z4⟩, ⟨n0, n1, n2, n4⟩, -, l0, l1, l2, l3, l4⟩ := hR2
  have nlen : ns.length = (vN V).length := z0.1
  have slen : ss.length = (vS V).length := z1.1
  have hlen : hs.length = (vH V).length := z2.1
  have plen : ps.length = (vP V).length := z3.1
  have glen : gs.length = (vG V).length := z4.1
  have hR3 := hR
  obtain ⟨-, -, ⟨y0, y1, y2, y3, y4⟩, -⟩ := hR3
  have hl : lv_has ls 4 [(0, .ref x), (1, .int g)] := hl
  refine lv_aload_n hx hb dX7_clearGroup_0 rfl (lv_at hl 0 rfl) ?_
  refine lv_iload_n hx hb dX7_clearGroup_1 rfl (lv_at hl 1 rfl) ?_
  refine zx_gor (pr := fun (u : Nat × Nat) a => a = u.2) (wf := fun _ => zQ E (X ++ Y) C) hw.2 (zx_runV Cx hw (c_X7_groupAt E l hl0 _ _ x q0 q1 q2 q3 q4 gs hx0 c4 (by omega) hX.gel g) (cwV 1 Cx.1.2.2.2.2 gX7_clearGroup_X7_groupAt rfl rfl rfl (by decide +kernel) ⟨Nat.le_of_ble_eq_true rfl, Nat.le_of_ble_eq_true rfl⟩) (z_recv Cx hw (r := (RX7, TX7, 5)) hx0 rfl) rfl hl.1 rfl (Nat.le_of_ble_eq_true rfl) dX7_clearGroup_2 ⟨Nat.le_of_ble_eq_true rfl, Nat.le_of_ble_eq_true rfl⟩) (z_out Cx ht (Nat.le_of_ble_eq_true rfl) (Nat.le_of_ble_eq_true rfl) (fun nm h => by rw [glen] at h; exact h) (fun _ h => h)) (fun u_2 ra_2 H locs hp_2 hr_2 hw => ?_)
  obtain ⟨k, y⟩ := u_2
  obtain ⟨hk, hy⟩ := hp_2
  dsimp only at hk hy
  rw [show ra_2 = y from hr_2]
  have hbk : k < gs.length := (List.getElem?_eq_some_iff.mp hy).1
  obtain ⟨v, hv, lq, es, k1, k2, k3, k4, k5⟩ := y4.get hy
  have hz : zix g (vG V).length := ⟨k, by rw [← glen]; exact hbk, hk⟩
  have k6 := k3.1
  refine lv_astore_n hx hb dX7_clearGroup_5 rfl hl (by decide) rfl (fun ls hl => ?_)
  have hl : lv_has ls 4 [(2, .ref y), (0, .ref x), (1, .int g)] := hl
  refine lv_aload_n hx hb dX7_clearGroup_6 rfl (lv_at hl 0 rfl) ?_
  refine z_get Cx hw (T := TX1) (N := 1) (ci := 4) (fun _ h => List.mem_cons_of_mem _ (List.mem_append_left _ (List.mem_append_left _ (List.mem_append_left _ (List.mem_append_right _ (h)))))) (List.mem_append_right X k1) rfl 0 (by decide) (List.mem_of_getElem? (i := 1) rfl) rfl rfl dX7_clearGroup_7 ?_
  refine z_goe hw.2 (z_runV Cx hw (c_al_size E l _ _ lq es k2) (cwV 0 Cx.1.2.2.2.2 gX7_clearGroup_Jx4a65c_size_8abf5 rfl rfl rfl (by decide +kernel) ⟨Nat.le_of_ble_eq_true rfl, Nat.le_of_ble_eq_true rfl⟩) (z_recvL Cx hw k2) rfl hl.1 rfl (Nat.le_of_ble_eq_true rfl) dX7_clearGroup_10 ⟨Nat.le_of_ble_eq_true rfl, Nat.le_of_ble_eq_true rfl⟩) (fun H locs hw => ?_)
  refine lv_istore_n hx hb dX7_clearGroup_13 rfl hl (by decide) rfl (fun ls hl => ?_)
  have hl : lv_has ls 4 [(3, .int (nI es.length)), (2, .ref y), (0, .ref x), (1, .int g)] := hl
  refine lv_aload_n hx hb dX7_clearGroup_14 rfl (lv_at hl 1 rfl) ?_
  refine z_get Cx hw (T := TX1) (N := 1) (ci := 4) (fun _ h => List.mem_cons_of_mem _ (List.mem_append_left _ (List.mem_append_left _ (List.mem_append_left _ (List.mem_append_right _ (h)))))) (List.mem_append_right X k1) rfl 0 (by decide) (List.mem_of_getElem? (i := 1) rfl) rfl rfl dX7_clearGroup_15 ?_
  refine z_goev hw.2 (z_runV Cx hw (c_al_clear E l _ _ lq es k2) (cwV 0 Cx.1.2.2.2.2 gX7_clearGroup_Jx4a65c_clear_da8c8 rfl rfl rfl (by decide +kernel) ⟨Nat.le_of_ble_eq_true rfl, Nat.le_of_ble_eq_true rfl⟩) (z_recvL Cx hw k2) rfl hl.1 rfl (Nat.le_of_ble_eq_true rfl) dX7_clearGroup_18 ⟨Nat.le_of_ble_eq_true rfl, Nat.le_of_ble_eq_true rfl⟩) (fun H locs hw => ?_)
  refine lv_iload_n hx hb dX7_clearGroup_21 rfl (lv_at hl 0 rfl) ?_
  exact vx_ret (z_iret (wf := fun (u : va_W × zLs) => zQ E (X ++ u.1) u.2) Cx hr rfl (Nat.le_of_ble_eq_true rfl) (Nat.le_of_ble_eq_true rfl) (Y, va_up C lq (some [])) hw ⟨k, v, ⟨hk, hv⟩, hR.grp hy k1 k5 zls.nil (Nat.zero_le _), by rw [k6]⟩ dX7_clearGroup_22)

set_option maxRecDepth 100000 in
set_option maxHeartbeats 4000000 in
/-- setGroup -/
theorem c_X7_setGroup (E : zG) (l : Launch) (hl0 : l.stackTraces = false) (X Y : va_W) (C : zLs) (x : Nat) (V : zCl) (hrc : zRC Y C x V) (f g : Int32) (i : Bool) : vx_Met l yX7_setGroup wsX7_setGroup (zR 8 20 200) (zPre E [.ref x, .int f, .int g, .int (zb i)] (zQ E (X ++ Y) C)) (va_Qi (fun r (u : va_W × zLs) => ∃ (k j : Nat) (v : zHo), (f = nI k ∧ g = nI j ∧ j < (vG V).length ∧ (vH V)[k]? = some v) ∧ zRC u.1 u.2 x (vN V, vS V, (vH V).set k (v.1, v.2.1, zput v.2.2 g (zb i)), vP V, vG V) ∧ r = zb (!decide (v.2.2 &&& (1 : Int32) <<< (g &&& 31) = 0))) (fun u tt => zQ E (X ++ u.1) u.2 tt.heap) (eA E)) (zX E (zQ E (X ++ Y) C) (fun nm => nm = zIOO ∧ ¬ (zix f (vH V).length ∧ zix g (vG V).length))) 20 200 (eA E) := by
  refine zx_of (cc := cX7_setGroup) (maxL := 6) (ret := (some .boolean)) (by decide) rfl rfl (Nat.le_of_ble_eq_true rfl) ?_
  intro p e s m below meth c ls ht Cx hr hnm hw hl
  have hx := Cx.1.1
  have hb := Cx.1.2.1
  obtain ⟨q0, q1, q2, q3, q4, ns, ss, hs, ps, gs, ro, rw, hR⟩ := hrc
  have hCV := zQ.V hw.1
  have hX := hR.grow (fun _ h => List.mem_append_right X h)
  have hR2 := hX
  obtain ⟨hx0, ⟨c0, c1, c2, c3, c4⟩, ⟨z0, z1, z2, z3, z4⟩, ⟨n0, n1, n2, n4⟩, -, l0, l1, l2, l3, l4⟩ := hR2
  have nlen : ns.length = (vN V).length := z0.1
  have slen : ss.length = (vS V).length := z1.1
  have hlen : hs.length = (vH V).length := z2.1
  have plen : ps.length = (vP V).length := z3.1
  have glen : gs.length = (vG V).length := z4.1
  have hR3 := hR
  obtain ⟨-, -, ⟨y0, y1, y2, y3, y4⟩, -⟩ := hR3
  have hl : lv_has ls 6 [(0, .ref x), (1, .int f), (2, .int g), (3, .int (zb i))] := hl
  refine lv_aload_n hx hb dX7_setGroup_0 rfl (lv_at hl 0 rfl) ?_
  refine lv_iload_n hx hb dX7_setGroup_1 rfl (lv_at hl 1 rfl) ?_
  refine zx_gor (pr := fun (u : Nat × Nat) a => a = u.2) (wf := fun _ => zQ E (X ++ Y) C) hw.2 (zx_runV Cx hw (c_X7_hostAt E l hl0 _ _ x q0 q1 q2 q3 q4 hs hx0 c2 (by omega) hX.hel f) (cwV 1 Cx.1.2.2.2.2 gX7_setGroup_X7_hostAt rfl rfl rfl (by decide +kernel) ⟨Nat.le_of_ble_eq_true rfl, Nat.le_of_ble_eq_true rfl⟩) (z_recv Cx hw (r := (RX7, TX7, 5)) hx0 rfl) rfl hl.1 rfl (Nat.le_of_ble_eq_true rfl) dX7_setGroup_2 ⟨Nat.le_of_ble_eq_true rfl, Nat.le_of_ble_eq_true rfl⟩) (z_out Cx ht (Nat.le_of_ble_eq_true rfl) (Nat.le_of_ble_eq_true rfl) (fun nm h => by rw [hlen] at h; exact ⟨h.1, fun hh => h.2 hh.1⟩) (fun _ h => h)) (fun u_2 ra_2 H locs hp_2 hr_2 hw => ?_)
  obtain ⟨k, y⟩ := u_2
  obtain ⟨hk, hy⟩ := hp_2
  dsimp only at hk hy
  rw [show ra_2 = y from hr_2]
  have hbk : k < hs.length := (List.getElem?_eq_some_iff.mp hy).1
  obtain ⟨v, hv, sb, k1, k2⟩ := y2.get hy
  have hz : zix f (vH V).length := ⟨k, by rw [← hlen]; exact hbk, hk⟩
  have hun : ∀ e, (y, e) ∈ Y → e = Sum.inr (5, [.ref sb, .int v.2.1, .int v.2.2]) := fun e h => zQ.uniq hw.1 (List.mem_append_right X h) (List.mem_append_right X k1)
  refine lv_astore hx hb dX7_setGroup_5 hl (by decide) rfl (fun ls hl => ?_)
  have hl : lv_has ls 6 [(4, .ref y), (0, .ref x), (1, .int f), (2, .int g), (3, .int (zb i))] := hl
  refine lv_iload_n hx hb dX7_setGroup_7 rfl (lv_at hl 3 rfl) ?_
  refine lv_aload_n hx hb dX7_setGroup_8 rfl (lv_at hl 1 rfl) ?_
  refine z_get Cx hw (T := TX7) (N := 5) (ci := 10) (fun _ h => List.mem_cons_of_mem _ (List.mem_append_left _ (List.mem_append_left _ (List.mem_append_left _ (List.mem_append_right _ (h)))))) hx0 rfl 4 (by decide) (List.mem_of_getElem? (i := 1) rfl) rfl rfl dX7_setGroup_9 ?_
  refine z_goe hw.2 (z_runV Cx hw (c_al_size E l _ _ q4 gs c4) (cwV 0 Cx.1.2.2.2.2 gX7_setGroup_Jx4a65c_size_8abf5 rfl rfl rfl (by decide +kernel) ⟨Nat.le_of_ble_eq_true rfl, Nat.le_of_ble_eq_true rfl⟩) (z_recvL Cx hw c4) rfl hl.1 rfl (Nat.le_of_ble_eq_true rfl) dX7_setGroup_12 ⟨Nat.le_of_ble_eq_true rfl, Nat.le_of_ble_eq_true rfl⟩) (fun H locs hw => ?_)
  refine zx_gov (wf := fun _ => zQ E (X ++ Y) C) hw.2 (zx_runS Cx hw (c_X7_checkIndex E l hl0 _ C g (nI gs.length)) (va_cwS 2 Cx.1.2.2.2.2 gX7_setGroup_X7_checkIndex rfl rfl rfl (by decide +kernel) ⟨Nat.le_of_ble_eq_true rfl, Nat.le_of_ble_eq_true rfl⟩)  rfl hl.1 rfl (Nat.le_of_ble_eq_true rfl) dX7_setGroup_15 ⟨Nat.le_of_ble_eq_true rfl, Nat.le_of_ble_eq_true rfl⟩) (z_out Cx ht (Nat.le_of_ble_eq_true rfl) (Nat.le_of_ble_eq_true rfl) (fun nm h => ⟨h.1, fun ⟨_, hh⟩ => (fun ⟨t, h1, h2⟩ => h.2 ⟨by rw [h2]; exact nI_pos (by omega), by rw [h2]; exact nI_lt (by rw [glen]; exact h1) (by omega)⟩) hh⟩) (fun _ h => h)) (fun _ H locs hp_15 hw => ?_)
  obtain ⟨j, hj31, hj⟩ := nI_of hp_15.1
  have hjn : j < gs.length := (nI_ltI hj31 (by omega)).mp (by rw [← hj]; exact hp_15.2)
  refine lv_aload hx hb dX7_setGroup_18 (lv_at hl 0 rfl) ?_
  refine lv_iload_n hx hb dX7_setGroup_20 rfl (lv_at hl 3 rfl) ?_
  refine z_goe hw.2 (z_runV Cx hw (c_X2_isInGroup E l _ _ y sb v.2.1 v.2.2 g (List.mem_append_right X k1)) (cwV 1 Cx.1.2.2.2.2 gX7_setGroup_X2_isInGroup rfl rfl rfl (by decide +kernel) ⟨Nat.le_of_ble_eq_true rfl, Nat.le_of_ble_eq_true rfl⟩) (z_recv Cx hw (r := (RX2, TX2, 3)) (List.mem_append_right X k1) rfl) rfl hl.1 rfl (Nat.le_of_ble_eq_true rfl) dX7_setGroup_21 ⟨Nat.le_of_ble_eq_true rfl, Nat.le_of_ble_eq_true rfl⟩) (fun H locs hw => ?_)
  refine lv_istore hx hb dX7_setGroup_24 hl (by decide) rfl (fun ls hl => ?_)
  have hl : lv_has ls 6 [(5, .int (zb (!decide (v.2.2 &&& (1 : Int32) <<< (g &&& 31) = 0)))), (4, .ref y), (0, .ref x), (1, .int f), (2, .int g), (3, .int (zb i))] := hl
  refine lv_aload hx hb dX7_setGroup_26 (lv_at hl 1 rfl) ?_
  refine lv_iload_n hx hb dX7_setGroup_28 rfl (lv_at hl 4 rfl) ?_
  refine lv_iload_n hx hb dX7_setGroup_29 rfl (lv_at hl 5 rfl) ?_
  refine z_goev hw.2 (z_runV Cx hw (c_X2_putInGroup E l X Y C y sb v.2.1 v.2.2 g (zb i) k1) (cwV 2 Cx.1.2.2.2.2 gX7_setGroup_X2_putInGroup rfl rfl rfl (by decide +kernel) ⟨Nat.le_of_ble_eq_true rfl, Nat.le_of_ble_eq_true rfl⟩) (z_recv Cx hw (r := (RX2, TX2, 3)) (List.mem_append_right X k1) rfl) rfl hl.1 rfl (Nat.le_of_ble_eq_true rfl) dX7_setGroup_30 ⟨Nat.le_of_ble_eq_true rfl, Nat.le_of_ble_eq_true rfl⟩) (fun H locs hw => ?_)
  refine lv_iload hx hb dX7_setGroup_33 (lv_at hl 0 rfl) ?_
  exact vx_ret (z_iret (wf := fun (u : va_W × zLs) => zQ E (X ++ u.1) u.2) Cx hr (zb_n _) (Nat.le_of_ble_eq_true rfl) (Nat.le_of_ble_eq_true rfl) (zset Y y (Sum.inr (5, [.ref sb, .int v.2.1, .int (zput v.2.2 g (zb i))])), C) hw ⟨k, j, v, ⟨hk, hj, by rw [← glen]; exact hjn, hv⟩, hR.hst hy k1 hun k2, rfl⟩ dX7_setGroup_35)

