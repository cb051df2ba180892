set_option maxRecDepth 100000 in
set_option maxHeartbeats 4000000 in
/-- setRoute -/
theorem c_X7_setRoute (E : zG) (l : Launch) (hl0 : l.stackTraces = false) (X Y : va_W) (C : zLs) (x : Nat) (V : zCl) (hrc : zRC Y C x V) (f b z pe : Int32) : vx_Met l yX7_setRoute wsX7_setRoute (zR 8 20 200) (zPre E [.ref x, .int f, .int b, .int z, .int pe] (zQ E (X ++ Y) C)) (va_Qi (fun r (u : va_W × zLs) => ∃ (k : Nat) (v : zSb), (f = nI k ∧ (vS V)[k]? = some v ∧ (pe = -1 ∨ zix pe (vP V).length) ∧ zbok b z) ∧ ((∃ (i : Nat) (w : zRt), v.2.2.2[i]? = some w ∧ w.1.1 = b ∧ w.1.2 = z ∧ r = w.2 ∧ ((pe = -1 ∧ zRC u.1 u.2 x (vN V, (vS V).set k (v.1, v.2.1, v.2.2.1, v.2.2.2.eraseIdx i), V.2.2)) ∨ (¬ pe = -1 ∧ zRC u.1 u.2 x (vN V, (vS V).set k (v.1, v.2.1, v.2.2.1, v.2.2.2.set i (w.1, pe)), V.2.2)))) ∨ ((∀ w ∈ v.2.2.2, ¬ (w.1.1 = b ∧ w.1.2 = z)) ∧ r = -1 ∧ ((pe = -1 ∧ zRC u.1 u.2 x V) ∨ (¬ pe = -1 ∧ v.2.2.2.length < 8 ∧ zRC u.1 u.2 x (vN V, (vS V).set k (v.1, v.2.1, v.2.2.1, v.2.2.2 ++ [((b, z), pe)]), V.2.2)))))) (fun u tt => zQ E (X ++ u.1) u.2 tt.heap) (eA E)) (zX E (zQ E (X ++ Y) C) (fun nm => (nm = zIOO ∧ ¬ (zix f (vS V).length ∧ (pe = -1 ∨ zix pe (vP V).length))) ∨ (nm = zIAE ∧ (zix f (vS V).length ∧ (pe = -1 ∨ zix pe (vP V).length)) ∧ ¬ zbok b z) ∨ (nm = zISE ∧ (pe = -1 ∨ zix pe (vP V).length) ∧ zbok b z ∧ ¬ pe = -1 ∧ ∃ (k : Nat) (v : zSb), f = nI k ∧ (vS V)[k]? = some v ∧ 8 ≤ v.2.2.2.length ∧ (∀ w ∈ v.2.2.2, ¬ (w.1.1 = b ∧ w.1.2 = z))))) 20 200 (eA E) := by
  refine zx_of (cc := cX7_setRoute) (maxL := 8) (ret := (some .int)) (by decide) rfl rfl (Nat.le_of_ble_eq_true rfl) ?_
  intro p e s m below meth c ls ht Cx hr hnm hw hl
  have hx := Cx.1.1
  have hb := Cx.1.2.1
  obtain ⟨q0, q1, q2, q3, q4, ns, ss, hs, ps, gs, ro, rw, hR⟩ := hrc
  have hCV := zQ.V hw.1
  have hX := hR.grow (fun _ h => List.mem_append_right X h)
  have hR2 := hX
  obtain ⟨hx0, ⟨c0, c1, c2, c3, c4⟩, ⟨z0, z1, z2, z3, z4⟩, ⟨n0, n1, n2, n4⟩, -, l0, l1, l2, l3, l4⟩ := hR2
  have nlen : ns.length = (vN V).length := z0.1
  have slen : ss.length = (vS V).length := z1.1
  have hlen : hs.length = (vH V).length := z2.1
  have plen : ps.length = (vP V).length := z3.1
  have glen : gs.length = (vG V).length := z4.1
  have hR3 := hR
  obtain ⟨-, -, ⟨y0, y1, y2, y3, y4⟩, -⟩ := hR3
  have hl : lv_has ls 8 [(0, .ref x), (1, .int f), (2, .int b), (3, .int z), (4, .int pe)] := hl
  refine lv_aload_n hx hb dX7_setRoute_0 rfl (lv_at hl 0 rfl) ?_
  refine lv_iload_n hx hb dX7_setRoute_1 rfl (lv_at hl 1 rfl) ?_
  refine zx_gor (pr := fun (u : Nat × Nat) a => a = u.2) (wf := fun _ => zQ E (X ++ Y) C) hw.2 (zx_runV Cx hw (c_X7_subnetAt E l hl0 _ _ x q0 q1 q2 q3 q4 ss hx0 c1 (by omega) hX.sel f) (cwV 1 Cx.1.2.2.2.2 gX7_setRoute_X7_subnetAt rfl rfl rfl (by decide +kernel) ⟨Nat.le_of_ble_eq_true rfl, Nat.le_of_ble_eq_true rfl⟩) (z_recv Cx hw (r := (RX7, TX7, 5)) hx0 rfl) rfl hl.1 rfl (Nat.le_of_ble_eq_true rfl) dX7_setRoute_2 ⟨Nat.le_of_ble_eq_true rfl, Nat.le_of_ble_eq_true rfl⟩) (z_out Cx ht (Nat.le_of_ble_eq_true rfl) (Nat.le_of_ble_eq_true rfl) (fun nm h => by rw [slen] at h; exact Or.inl ⟨h.1, fun hh => h.2 hh.1⟩) (fun _ h => h)) (fun u_2 ra_2 H locs hp_2 hr_2 hw => ?_)
  obtain ⟨k, y⟩ := u_2
  obtain ⟨hk, hy⟩ := hp_2
  dsimp only at hk hy
  rw [show ra_2 = y from hr_2]
  have hbk : k < ss.length := (List.getElem?_eq_some_iff.mp hy).1
  obtain ⟨v, hv, nw, bk, rl, rt, es, fs, k1, k2, k3, ⟨k4, k5, k6, k7⟩, ⟨k8, k9, k10, k11⟩, k12, k13, k14⟩ := y1.get hy
  have hz : zix f (vS V).length := ⟨k, by rw [← slen]; exact hbk, hk⟩
  have e5 := k5.1
  have e9 := k9.1
  refine lv_astore hx hb dX7_setRoute_5 hl (by decide) rfl (fun ls hl => ?_)
  have hl : lv_has ls 8 [(5, .ref y), (0, .ref x), (1, .int f), (2, .int b), (3, .int z), (4, .int pe)] := hl
  refine lv_iload hx hb dX7_setRoute_7 (lv_at hl 5 rfl) ?_
  refine lv_iconst (v := -1) hx hb dX7_setRoute_9 (by decide) ?_
  refine lv_icmp_eq (tgt := 25) hx hb dX7_setRoute_10 (by decide) (fun c_10 => ?_) (fun c_10 => ?_)
  · skip
    have hpe : (pe = -1 ∨ zix pe (vP V).length) := Or.inl c_10
    refine lv_iload_n hx hb dX7_setRoute_25 rfl (lv_at hl 3 rfl) ?_
    refine lv_iload_n hx hb dX7_setRoute_26 rfl (lv_at hl 4 rfl) ?_
    refine zx_gor (pr := fun (q : Nat) a => a = q) (wf := fun q => zQ E (X ++ (Y ++ [(q, Sum.inr (3, [.int b, .int z]))])) C) hw.2 (zx_runS Cx hw (c_X7_blockOf E l hl0 X Y C b z) (va_cwS 2 Cx.1.2.2.2.2 gX7_setRoute_X7_blockOf rfl rfl rfl (by decide +kernel) ⟨Nat.le_of_ble_eq_true rfl, Nat.le_of_ble_eq_true rfl⟩)  rfl hl.1 rfl (Nat.le_of_ble_eq_true rfl) dX7_setRoute_27 ⟨Nat.le_of_ble_eq_true rfl, Nat.le_of_ble_eq_true rfl⟩) (z_out Cx ht (Nat.le_of_ble_eq_true rfl) (Nat.le_of_ble_eq_true rfl) (fun nm h => Or.inr (Or.inl ⟨h.1, ⟨hz, hpe⟩, h.2⟩)) (fun _ h => h)) (fun q ra_27 H locs hp_27 hr_27 hw => ?_)
    obtain ⟨hbok, hfr⟩ := hp_27
    rw [show ra_27 = q from hr_27]
    have hfq : ∀ x ∈ Y, x.1 ≠ q := fun x h => hfr x (List.mem_append_right X h)
    refine lv_astore hx hb dX7_setRoute_30 hl (by decide) rfl (fun ls hl => ?_)
    have hl : lv_has ls 8 [(6, .ref q), (5, .ref y), (0, .ref x), (1, .int f), (2, .int b), (3, .int z), (4, .int pe)] := hl
    refine lv_aload hx hb dX7_setRoute_32 (lv_at hl 1 rfl) ?_
    refine lv_aload hx hb dX7_setRoute_34 (lv_at hl 0 rfl) ?_
    refine z_goe hw.2 (z_runV Cx hw (c_X6_routePlace E l _ _ y nw bk rl q b z z_inq rt fs v.2.2.2 k8 (k9.imp (fun _ _ h => h.grow (fun _ h => z_in1 (List.mem_append_right X h)))) (by omega) (z_in1 (List.mem_append_right X k1))) (cwV 1 Cx.1.2.2.2.2 gX7_setRoute_X6_routePlace rfl rfl rfl (by decide +kernel) ⟨Nat.le_of_ble_eq_true rfl, Nat.le_of_ble_eq_true rfl⟩) (z_recv Cx hw (r := (RX6, TX6, 4)) (z_in1 (List.mem_append_right X k1)) rfl) rfl hl.1 rfl (Nat.le_of_ble_eq_true rfl) dX7_setRoute_36 ⟨Nat.le_of_ble_eq_true rfl, Nat.le_of_ble_eq_true rfl⟩) (fun H locs hw => ?_)
    refine lv_istore hx hb dX7_setRoute_39 hl (by decide) rfl (fun ls hl => ?_)
    have hl : lv_has ls 8 [(7, .int (zrp b z v.2.2.2 0)), (6, .ref q), (5, .ref y), (0, .ref x), (1, .int f), (2, .int b), (3, .int z), (4, .int pe)] := hl
    refine lv_iload hx hb dX7_setRoute_41 (lv_at hl 0 rfl) ?_
    refine lv_if_lt (tgt := 69) hx hb dX7_setRoute_43 (by decide) (fun c_43 => ?_) (fun c_43 => ?_)
    · skip
      have hnm : (∀ w ∈ v.2.2.2, ¬ (w.1.1 = b ∧ w.1.2 = z)) := z_rp_neg (by omega) c_43
      refine lv_iload hx hb dX7_setRoute_69 (lv_at hl 7 rfl) ?_
      refine lv_iconst (v := -1) hx hb dX7_setRoute_71 (by decide) ?_
      refine lv_icmp_ne (tgt := 77) hx hb dX7_setRoute_72 (by decide) (fun c_72 => ?_) (fun c_72 => ?_)
      · skip
        refine lv_aload hx hb dX7_setRoute_77 (lv_at hl 2 rfl) ?_
        refine z_get Cx hw (T := TX6) (N := 4) (ci := 9) (fun _ h => List.mem_cons_of_mem _ (List.mem_append_left _ (List.mem_append_left _ (List.mem_append_left _ (List.mem_append_left _ (List.mem_append_left _ (List.mem_append_left _ (List.mem_append_right _ (h))))))))) (z_in1 (List.mem_append_right X k1)) rfl 3 (by decide) (List.mem_of_getElem? (i := 4) rfl) rfl rfl dX7_setRoute_79 ?_
        refine z_goe hw.2 (z_runV Cx hw (c_al_size E l _ _ rt fs k8) (cwV 0 Cx.1.2.2.2.2 gX7_setRoute_Jx4a65c_size_8abf5 rfl rfl rfl (by decide +kernel) ⟨Nat.le_of_ble_eq_true rfl, Nat.le_of_ble_eq_true rfl⟩) (z_recvL Cx hw k8) rfl hl.1 rfl (Nat.le_of_ble_eq_true rfl) dX7_setRoute_82 ⟨Nat.le_of_ble_eq_true rfl, Nat.le_of_ble_eq_true rfl⟩) (fun H locs hw => ?_)
        refine lv_bipush (v := nI 8) hx hb dX7_setRoute_85 rfl ?_
        refine lv_icmp_lt (tgt := 100) hx hb dX7_setRoute_87 (by decide) (fun c_87 => ?_) (fun c_87 => ?_)
        · skip
          have c_lt : fs.length < 8 := (nI_ltI (by omega) (by omega)).mp c_87
          refine lv_aload hx hb dX7_setRoute_100 (lv_at hl 2 rfl) ?_
          refine z_get Cx hw (T := TX6) (N := 4) (ci := 9) (fun _ h => List.mem_cons_of_mem _ (List.mem_append_left _ (List.mem_append_left _ (List.mem_append_left _ (List.mem_append_left _ (List.mem_append_left _ (List.mem_append_left _ (List.mem_append_right _ (h))))))))) (z_in1 (List.mem_append_right X k1)) rfl 3 (by decide) (List.mem_of_getElem? (i := 4) rfl) rfl rfl dX7_setRoute_102 ?_
          refine z_new Cx hw (T := TX4) (N := 2) (ci := 7) (fs := [.null, .int 0]) (fun _ h => List.mem_cons_of_mem _ (List.mem_append_left _ (List.mem_append_left _ (List.mem_append_left _ (List.mem_append_left _ (List.mem_append_left _ (List.mem_append_right _ (h)))))))) tyX4 tyX4_ok (List.mem_of_getElem? (i := 5) rfl) (List.mem_of_getElem? (i := 6) rfl) (List.mem_of_getElem? (i := 7) rfl) rfl (fun j hj => by rcases (show j = 0 ∨ j = 1 by omega) with rfl | rfl <;> rfl) (Nat.le_of_ble_eq_true rfl) (Nat.le_of_ble_eq_true rfl) dX7_setRoute_105 (fun a H hfa hw => ?_)
          refine lv_dup hx hb dX7_setRoute_108 rfl ?_
          refine lv_aload hx hb dX7_setRoute_109 (lv_at hl 1 rfl) ?_
          refine lv_iload hx hb dX7_setRoute_111 (lv_at hl 7 rfl) ?_
          refine z_goev hw.2 (z_runI Cx hw (c_X4_init E l X (Y ++ [(q, Sum.inr (3, [.int b, .int z]))]) C a (fun x h => hfa x (List.mem_append_right X h)) q pe) (cwI 2 Cx.1.2.2.2.2 gX7_setRoute_X4_init rfl rfl rfl (Cx.1.2.2.2.2 (.initialized RX4) (List.mem_of_getElem? (i := 7) rfl)) (Cx.1.2.2.2.2 (.methodLink RX7 184 yX4_init) (List.mem_of_getElem? (i := 92) rfl)) (Cx.1.2.2.2.2 (.instanceMethod yX4_init) (List.mem_of_getElem? (i := 93) rfl)) rfl (by decide +kernel) ⟨Nat.le_of_ble_eq_true rfl, Nat.le_of_ble_eq_true rfl⟩)  rfl hl.1 rfl (Nat.le_of_ble_eq_true rfl) dX7_setRoute_113 ⟨Nat.le_of_ble_eq_true rfl, Nat.le_of_ble_eq_true rfl⟩) (fun H locs hw => ?_)
          refine z_goe hw.2 (z_runV Cx hw (c_al_add E l _ _ rt fs k8 a ⟨7, _, z_inq, by decide, by decide⟩ (by omega)) (cwV 1 Cx.1.2.2.2.2 gX7_setRoute_Jx4a65c_add_9ea2d rfl rfl rfl (by decide +kernel) ⟨Nat.le_of_ble_eq_true rfl, Nat.le_of_ble_eq_true rfl⟩) (z_recvL Cx hw k8) rfl hl.1 rfl (Nat.le_of_ble_eq_true rfl) dX7_setRoute_116 ⟨Nat.le_of_ble_eq_true rfl, Nat.le_of_ble_eq_true rfl⟩) (fun H locs hw => ?_)
          refine lv_pop hx hb dX7_setRoute_119 rfl ?_
          refine lv_iconst (v := -1) hx hb dX7_setRoute_120 (by decide) ?_
          have hg := fun (p : Nat × va_E) (h : p ∈ Y) => List.mem_append_left [(a, Sum.inr (7, [.ref q, .int pe]))] (List.mem_append_left [(q, Sum.inr (3, [.int b, .int z]))] h)
          have hna : ∀ r e, (r, e) ∈ Y → r ≠ a := fun r e h => hfa _ (List.mem_append_right X (List.mem_append_left _ h))
          have hfa2 : ∀ r ∈ fs, r ≠ a := fun p hp => by
            obtain ⟨n, hn⟩ := List.getElem?_of_mem hp
            obtain ⟨w, -, b9, hb9, -⟩ := k9.get hn
            exact hna _ _ hb9
          exact vx_ret (z_iret (wf := fun (u : va_W × zLs) => zQ E (X ++ u.1) u.2) Cx hr rfl (Nat.le_of_ble_eq_true rfl) (Nat.le_of_ble_eq_true rfl) ((Y ++ [(q, Sum.inr (3, [.int b, .int z]))]) ++ [(a, Sum.inr (7, [.ref q, .int pe]))], va_up C rt (some (fs ++ [a]))) hw ⟨k, v, ⟨hk, hv, hpe, hbok⟩, Or.inr ⟨hnm, rfl, Or.inr ⟨c_72, by rw [← e9]; exact c_lt, (hR.fresh (rw' := va_up rw a y) hg (fun r e h => va_up_ne _ _ (hna r e h))).rts hy (hg _ k1) k2 (hg _ k3) ⟨k4, k5.imp (fun _ _ h => h.grow hg), k6, k7⟩ k12 k13 (fun r hr => (List.mem_append.mp hr).elim (fun h => (va_up_ne _ _ (hfa2 r h)).trans (k14 r h)) (fun h => by rw [List.mem_singleton.mp h, va_up_self])) ((k9.imp (fun _ _ h => h.grow hg)).push ⟨q, List.mem_append_right _ List.mem_cons_self, List.mem_append_left _ (List.mem_append_right _ List.mem_cons_self)⟩) (z_ndp k10 hfa2) (by rw [List.length_append]; exact c_lt)⟩⟩⟩ dX7_setRoute_121)
        · skip
          have c_ge : 8 ≤ v.2.2.2.length := by
            rw [← e9]
            exact Nat.not_lt.mp (fun h => c_87 ((nI_ltI (by omega) (by omega)).mpr h))
          exact z_throw (is := 180) Cx hl0 ht hw (List.mem_of_getElem? (i := 14) rfl) (by decide) (List.mem_of_getElem? (i := 1) rfl) (List.mem_of_getElem? (i := 2) rfl) (fun _ h => List.mem_cons_of_mem _ (List.mem_append_left _ (List.mem_append_left _ (List.mem_append_right _ (h))))) (by decide +kernel) (by decide +kernel) (by decide +kernel) hl.1 dX7_setRoute_90 dX7_setRoute_93 dX7_setRoute_94 dX7_setRoute_96 dX7_setRoute_99 (Nat.le_of_ble_eq_true rfl) (Nat.le_of_ble_eq_true rfl) (Nat.le_of_ble_eq_true rfl) (Nat.le_of_ble_eq_true rfl) (Or.inr (Or.inr ⟨rfl, hpe, hbok, c_72, k, v, hk, hv, c_ge, hnm⟩)) (fun _ h => zQ_drop h hCV) (Nat.le_of_ble_eq_true rfl) (Nat.le_of_ble_eq_true rfl)
      · skip
        refine lv_iconst (v := -1) hx hb dX7_setRoute_75 (by decide) ?_
        have hg := fun (p : Nat × va_E) (h : p ∈ Y) => List.mem_append_left [(q, Sum.inr (3, [.int b, .int z]))] h
        exact vx_ret (z_iret (wf := fun (u : va_W × zLs) => zQ E (X ++ u.1) u.2) Cx hr rfl (Nat.le_of_ble_eq_true rfl) (Nat.le_of_ble_eq_true rfl) (Y ++ [(q, Sum.inr (3, [.int b, .int z]))], C) hw ⟨k, v, ⟨hk, hv, hpe, hbok⟩, Or.inr ⟨hnm, rfl, Or.inl ⟨c_72, q0, q1, q2, q3, q4, ns, ss, hs, ps, gs, ro, rw, hR.grow hg⟩⟩⟩ dX7_setRoute_76)
    · skip
      obtain ⟨i, w, hi, hwi, hw1, hw2⟩ := z_rp_pos c_43
      have hiv : i < v.2.2.2.length := (List.getElem?_eq_some_iff.mp hwi).1
      have hif : i < fs.length := by rw [e9]; exact hiv
      have hri := List.getElem?_eq_getElem hif
      generalize fs[i] = ri at hri
      obtain ⟨rb, hr1, hr2⟩ := k9.2 i ri w hri hwi
      refine lv_iload hx hb dX7_setRoute_46 (lv_at hl 0 rfl) ?_
      refine lv_aload hx hb dX7_setRoute_48 (lv_at hl 2 rfl) ?_
      refine z_get Cx hw (T := TX6) (N := 4) (ci := 9) (fun _ h => List.mem_cons_of_mem _ (List.mem_append_left _ (List.mem_append_left _ (List.mem_append_left _ (List.mem_append_left _ (List.mem_append_left _ (List.mem_append_left _ (List.mem_append_right _ (h))))))))) (z_in1 (List.mem_append_right X k1)) rfl 3 (by decide) (List.mem_of_getElem? (i := 4) rfl) rfl rfl dX7_setRoute_50 ?_
      refine z_goe hw.2 (z_runV Cx hw (c_al_size E l _ _ rt fs k8) (cwV 0 Cx.1.2.2.2.2 gX7_setRoute_Jx4a65c_size_8abf5 rfl rfl rfl (by decide +kernel) ⟨Nat.le_of_ble_eq_true rfl, Nat.le_of_ble_eq_true rfl⟩) (z_recvL Cx hw k8) rfl hl.1 rfl (Nat.le_of_ble_eq_true rfl) dX7_setRoute_53 ⟨Nat.le_of_ble_eq_true rfl, Nat.le_of_ble_eq_true rfl⟩) (fun H locs hw => ?_)
      refine lv_icmp_ge (tgt := 69) hx hb dX7_setRoute_56 (by decide) (fun c_56 => ?_) (fun c_56 => ?_)
      · skip
        rw [hi] at c_56
        exact absurd c_56 (nI_ge hif (by omega))
      · skip
        refine lv_aload hx hb dX7_setRoute_59 (lv_at hl 2 rfl) ?_
        refine lv_iload hx hb dX7_setRoute_61 (lv_at hl 0 rfl) ?_
        refine lv_topi (fun x_61 ex_61 => ?_)
        rw [hi] at ex_61
        subst ex_61
        refine lv_iload hx hb dX7_setRoute_63 (lv_at hl 7 rfl) ?_
        have huni : ∀ {a : Nat} {e e2 : va_E}, (a, e) ∈ Y ++ [(q, Sum.inr (3, [.int b, .int z]))] → (a, e2) ∈ Y ++ [(q, Sum.inr (3, [.int b, .int z]))] → e = e2 := fun h1 h2 => zQ.uniq hw.1 (List.mem_append_right X h1) (List.mem_append_right X h2)
        refine z_goi (wf := fun (u : va_W × zLs) => zQ E (X ++ u.1) u.2) hw.2 (z_runS Cx hw (c_X7_replaceRoute E l X (Y ++ [(q, Sum.inr (3, [.int b, .int z]))]) C y nw bk rl rt fs (List.mem_append_left _ k1) k8 i ri rb w.2 hri (List.mem_append_left _ hr1) pe) (va_cwS 3 Cx.1.2.2.2.2 gX7_setRoute_X7_replaceRoute rfl rfl rfl (by decide +kernel) ⟨Nat.le_of_ble_eq_true rfl, Nat.le_of_ble_eq_true rfl⟩)  rfl hl.1 rfl (Nat.le_of_ble_eq_true rfl) dX7_setRoute_65 ⟨Nat.le_of_ble_eq_true rfl, Nat.le_of_ble_eq_true rfl⟩) (fun r_65 uu H locs hp_65 hw => ?_)
        obtain ⟨e_65, hp_66⟩ := hp_65
        subst e_65
        have hg := fun (p : Nat × va_E) (h : p ∈ Y) => List.mem_append_left [(q, Sum.inr (3, [.int b, .int z]))] h
        rcases hp_66 with ⟨h1, h2⟩ | ⟨h1, h2⟩
        · subst h2
          exact vx_ret (z_iret (wf := fun (u : va_W × zLs) => zQ E (X ++ u.1) u.2) Cx hr rfl (Nat.le_of_ble_eq_true rfl) (Nat.le_of_ble_eq_true rfl) _ hw ⟨k, v, ⟨hk, hv, hpe, hbok⟩, Or.inl ⟨i, w, hwi, hw1, hw2, rfl, Or.inl ⟨h1, (hR.grow hg).rts hy (hg _ k1) k2 (hg _ k3) ⟨k4, k5.imp (fun _ _ h => h.grow hg), k6, k7⟩ k12 k13 (fun r hr => k14 r (List.mem_of_mem_eraseIdx hr)) ((k9.imp (fun _ _ h => h.grow hg)).era i) (z_nde k10) (Nat.le_trans (List.length_eraseIdx_le fs i) k11)⟩⟩⟩ dX7_setRoute_68)
        · subst h2
          exact vx_ret (z_iret (wf := fun (u : va_W × zLs) => zQ E (X ++ u.1) u.2) Cx hr rfl (Nat.le_of_ble_eq_true rfl) (Nat.le_of_ble_eq_true rfl) _ hw ⟨k, v, ⟨hk, hv, hpe, hbok⟩, Or.inl ⟨i, w, hwi, hw1, hw2, rfl, Or.inr ⟨h1, (hR.grow hg).rset hy (hg _ k1) hv k8 hri (hg _ hr1) (fun e h => huni h (hg _ hr1)) (fun e h => huni h (hg _ k1)) (hg _ hr2)⟩⟩⟩ dX7_setRoute_68)
  · skip
    refine lv_iload hx hb dX7_setRoute_13 (lv_at hl 5 rfl) ?_
    refine lv_aload_n hx hb dX7_setRoute_15 rfl (lv_at hl 1 rfl) ?_
    refine z_get Cx hw (T := TX7) (N := 5) (ci := 10) (fun _ h => List.mem_cons_of_mem _ (List.mem_append_left _ (List.mem_append_left _ (List.mem_append_left _ (List.mem_append_left _ (List.mem_append_left _ (List.mem_append_left _ (List.mem_append_left _ (List.mem_append_right _ (h)))))))))) hx0 rfl 3 (by decide) (List.mem_of_getElem? (i := 3) rfl) rfl rfl dX7_setRoute_16 ?_
    refine z_goe hw.2 (z_runV Cx hw (c_al_size E l _ _ q3 ps c3) (cwV 0 Cx.1.2.2.2.2 gX7_setRoute_Jx4a65c_size_8abf5 rfl rfl rfl (by decide +kernel) ⟨Nat.le_of_ble_eq_true rfl, Nat.le_of_ble_eq_true rfl⟩) (z_recvL Cx hw c3) rfl hl.1 rfl (Nat.le_of_ble_eq_true rfl) dX7_setRoute_19 ⟨Nat.le_of_ble_eq_true rfl, Nat.le_of_ble_eq_true rfl⟩) (fun H locs hw => ?_)
    refine zx_gov (wf := fun _ => zQ E (X ++ Y) C) hw.2 (zx_runS Cx hw (c_X7_checkIndex E l hl0 _ C pe (nI ps.length)) (va_cwS 2 Cx.1.2.2.2.2 gX7_setRoute_X7_checkIndex rfl rfl rfl (by decide +kernel) ⟨Nat.le_of_ble_eq_true rfl, Nat.le_of_ble_eq_true rfl⟩)  rfl hl.1 rfl (Nat.le_of_ble_eq_true rfl) dX7_setRoute_22 ⟨Nat.le_of_ble_eq_true rfl, Nat.le_of_ble_eq_true rfl⟩) (z_out Cx ht (Nat.le_of_ble_eq_true rfl) (Nat.le_of_ble_eq_true rfl) (fun nm h => Or.inl ⟨h.1, fun hh => hh.2.elim (fun h1 => c_10 h1) (fun ⟨t, h1, h2⟩ => h.2 ⟨by rw [h2]; exact nI_pos (by omega), by rw [h2]; exact nI_lt (by rw [plen]; exact h1) (by omega)⟩)⟩) (fun _ h => h)) (fun _ H locs hp_22 hw => ?_)
    obtain ⟨j, hj31, hj⟩ := nI_of hp_22.1
    have hjn : j < ps.length := (nI_ltI hj31 (by omega)).mp (by rw [← hj]; exact hp_22.2)
    have hpe : (pe = -1 ∨ zix pe (vP V).length) := Or.inr ⟨j, by rw [← plen]; exact hjn, hj⟩
    refine lv_iload_n hx hb dX7_setRoute_25 rfl (lv_at hl 3 rfl) ?_
    refine lv_iload_n hx hb dX7_setRoute_26 rfl (lv_at hl 4 rfl) ?_
    refine zx_gor (pr := fun (q : Nat) a => a = q) (wf := fun q => zQ E (X ++ (Y ++ [(q, Sum.inr (3, [.int b, .int z]))])) C) hw.2 (zx_runS Cx hw (c_X7_blockOf E l hl0 X Y C b z) (va_cwS 2 Cx.1.2.2.2.2 gX7_setRoute_X7_blockOf rfl rfl rfl (by decide +kernel) ⟨Nat.le_of_ble_eq_true rfl, Nat.le_of_ble_eq_true rfl⟩)  rfl hl.1 rfl (Nat.le_of_ble_eq_true rfl) dX7_setRoute_27 ⟨Nat.le_of_ble_eq_true rfl, Nat.le_of_ble_eq_true rfl⟩) (z_out Cx ht (Nat.le_of_ble_eq_true rfl) (Nat.le_of_ble_eq_true rfl) (fun nm h => Or.inr (Or.inl ⟨h.1, ⟨hz, hpe⟩, h.2⟩)) (fun _ h => h)) (fun q ra_27 H locs hp_27 hr_27 hw => ?_)
    obtain ⟨hbok, hfr⟩ := hp_27
    rw [show ra_27 = q from hr_27]
    have hfq : ∀ x ∈ Y, x.1 ≠ q := fun x h => hfr x (List.mem_append_right X h)
    refine lv_astore hx hb dX7_setRoute_30 hl (by decide) rfl (fun ls hl => ?_)
    have hl : lv_has ls 8 [(6, .ref q), (5, .ref y), (0, .ref x), (1, .int f), (2, .int b), (3, .int z), (4, .int pe)] := hl
    refine lv_aload hx hb dX7_setRoute_32 (lv_at hl 1 rfl) ?_
    refine lv_aload hx hb dX7_setRoute_34 (lv_at hl 0 rfl) ?_
    refine z_goe hw.2 (z_runV Cx hw (c_X6_routePlace E l _ _ y nw bk rl q b z z_inq rt fs v.2.2.2 k8 (k9.imp (fun _ _ h => h.grow (fun _ h => z_in1 (List.mem_append_right X h)))) (by omega) (z_in1 (List.mem_append_right X k1))) (cwV 1 Cx.1.2.2.2.2 gX7_setRoute_X6_routePlace rfl rfl rfl (by decide +kernel) ⟨Nat.le_of_ble_eq_true rfl, Nat.le_of_ble_eq_true rfl⟩) (z_recv Cx hw (r := (RX6, TX6, 4)) (z_in1 (List.mem_append_right X k1)) rfl) rfl hl.1 rfl (Nat.le_of_ble_eq_true rfl) dX7_setRoute_36 ⟨Nat.le_of_ble_eq_true rfl, Nat.le_of_ble_eq_true rfl⟩) (fun H locs hw => ?_)
    refine lv_istore hx hb dX7_setRoute_39 hl (by decide) rfl (fun ls hl => ?_)
    have hl : lv_has ls 8 [(7, .int (zrp b z v.2.2.2 0)), (6, .ref q), (5, .ref y), (0, .ref x), (1, .int f), (2, .int b), (3, .int z), (4, .int pe)] := hl
    refine lv_iload hx hb dX7_setRoute_41 (lv_at hl 0 rfl) ?_
    refine lv_if_lt (tgt := 69) hx hb dX7_setRoute_43 (by decide) (fun c_43 => ?_) (fun c_43 => ?_)
    · skip
      have hnm : (∀ w ∈ v.2.2.2, ¬ (w.1.1 = b ∧ w.1.2 = z)) := z_rp_neg (by omega) c_43
      refine lv_iload hx hb dX7_setRoute_69 (lv_at hl 7 rfl) ?_
      refine lv_iconst (v := -1) hx hb dX7_setRoute_71 (by decide) ?_
      refine lv_icmp_ne (tgt := 77) hx hb dX7_setRoute_72 (by decide) (fun c_72 => ?_) (fun c_72 => ?_)
      · skip
        refine lv_aload hx hb dX7_setRoute_77 (lv_at hl 2 rfl) ?_
        refine z_get Cx hw (T := TX6) (N := 4) (ci := 9) (fun _ h => List.mem_cons_of_mem _ (List.mem_append_left _ (List.mem_append_left _ (List.mem_append_left _ (List.mem_append_left _ (List.mem_append_left _ (List.mem_append_left _ (List.mem_append_right _ (h))))))))) (z_in1 (List.mem_append_right X k1)) rfl 3 (by decide) (List.mem_of_getElem? (i := 4) rfl) rfl rfl dX7_setRoute_79 ?_
        refine z_goe hw.2 (z_runV Cx hw (c_al_size E l _ _ rt fs k8) (cwV 0 Cx.1.2.2.2.2 gX7_setRoute_Jx4a65c_size_8abf5 rfl rfl rfl (by decide +kernel) ⟨Nat.le_of_ble_eq_true rfl, Nat.le_of_ble_eq_true rfl⟩) (z_recvL Cx hw k8) rfl hl.1 rfl (Nat.le_of_ble_eq_true rfl) dX7_setRoute_82 ⟨Nat.le_of_ble_eq_true rfl, Nat.le_of_ble_eq_true rfl⟩) (fun H locs hw => ?_)
        refine lv_bipush (v := nI 8) hx hb dX7_setRoute_85 rfl ?_
        refine lv_icmp_lt (tgt := 100) hx hb dX7_setRoute_87 (by decide) (fun c_87 => ?_) (fun c_87 => ?_)
        · skip
          have c_lt : fs.length < 8 := (nI_ltI (by omega) (by omega)).mp c_87
          refine lv_aload hx hb dX7_setRoute_100 (lv_at hl 2 rfl) ?_
          refine z_get Cx hw (T := TX6) (N := 4) (ci := 9) (fun _ h => List.mem_cons_of_mem _ (List.mem_append_left _ (List.mem_append_left _ (List.mem_append_left _ (List.mem_append_left _ (List.mem_append_left _ (List.mem_append_left _ (List.mem_append_right _ (h))))))))) (z_in1 (List.mem_append_right X k1)) rfl 3 (by decide) (List.mem_of_getElem? (i := 4) rfl) rfl rfl dX7_setRoute_102 ?_
          refine z_new Cx hw (T := TX4) (N := 2) (ci := 7) (fs := [.null, .int 0]) (fun _ h => List.mem_cons_of_mem _ (List.mem_append_left _ (List.mem_append_left _ (List.mem_append_left _ (List.mem_append_left _ (List.mem_append_left _ (List.mem_append_right _ (h)))))))) tyX4 tyX4_ok (List.mem_of_getElem? (i := 5) rfl) (List.mem_of_getElem? (i := 6) rfl) (List.mem_of_getElem? (i := 7) rfl) rfl (fun j hj => by rcases (show j = 0 ∨ j = 1 by omega) with rfl | rfl <;> rfl) (Nat.le_of_ble_eq_true rfl) (Nat.le_of_ble_eq_true rfl) dX7_setRoute_105 (fun a H hfa hw => ?_)
          refine lv_dup hx hb dX7_setRoute_108 rfl ?_
          refine lv_aload hx hb dX7_setRoute_109 (lv_at hl 1 rfl) ?_
          refine lv_iload hx hb dX7_setRoute_111 (lv_at hl 7 rfl) ?_
          refine z_goev hw.2 (z_runI Cx hw (c_X4_init E l X (Y ++ [(q, Sum.inr (3, [.int b, .int z]))]) C a (fun x h => hfa x (List.mem_append_right X h)) q pe) (cwI 2 Cx.1.2.2.2.2 gX7_setRoute_X4_init rfl rfl rfl (Cx.1.2.2.2.2 (.initialized RX4) (List.mem_of_getElem? (i := 7) rfl)) (Cx.1.2.2.2.2 (.methodLink RX7 184 yX4_init) (List.mem_of_getElem? (i := 92) rfl)) (Cx.1.2.2.2.2 (.instanceMethod yX4_init) (List.mem_of_getElem? (i := 93) rfl)) rfl (by decide +kernel) ⟨Nat.le_of_ble_eq_true rfl, Nat.le_of_ble_eq_true rfl⟩)  rfl hl.1 rfl (Nat.le_of_ble_eq_true rfl) dX7_setRoute_113 ⟨Nat.le_of_ble_eq_true rfl, Nat.le_of_ble_eq_true rfl⟩) (fun H locs hw => ?_)
          refine z_goe hw.2 (z_runV Cx hw (c_al_add E l _ _ rt fs k8 a ⟨7, _, z_inq, by decide, by decide⟩ (by omega)) (cwV 1 Cx.1.2.2.2.2 gX7_setRoute_Jx4a65c_add_9ea2d rfl rfl rfl (by decide +kernel) ⟨Nat.le_of_ble_eq_true rfl, Nat.le_of_ble_eq_true rfl⟩) (z_recvL Cx hw k8) rfl hl.1 rfl (Nat.le_of_ble_eq_true rfl) dX7_setRoute_116 ⟨Nat.le_of_ble_eq_true rfl, Nat.le_of_ble_eq_true rfl⟩) (fun H locs hw => ?_)
          refine lv_pop hx hb dX7_setRoute_119 rfl ?_
          refine lv_iconst (v := -1) hx hb dX7_setRoute_120 (by decide) ?_
          have hg := fun (p : Nat × va_E) (h : p ∈ Y) => List.mem_append_left [(a, Sum.inr (7, [.ref q, .int pe]))] (List.mem_append_left [(q, Sum.inr (3, [.int b, .int z]))] h)
          have hna : ∀ r e, (r, e) ∈ Y → r ≠ a := fun r e h => hfa _ (List.mem_append_right X (List.mem_append_left _ h))
          have hfa2 : ∀ r ∈ fs, r ≠ a := fun p hp => by
            obtain ⟨n, hn⟩ := List.getElem?_of_mem hp
            obtain ⟨w, -, b9, hb9, -⟩ := k9.get hn
            exact hna _ _ hb9
          exact vx_ret (z_iret (wf := fun (u : va_W × zLs) => zQ E (X ++ u.1) u.2) Cx hr rfl (Nat.le_of_ble_eq_true rfl) (Nat.le_of_ble_eq_true rfl) ((Y ++ [(q, Sum.inr (3, [.int b, .int z]))]) ++ [(a, Sum.inr (7, [.ref q, .int pe]))], va_up C rt (some (fs ++ [a]))) hw ⟨k, v, ⟨hk, hv, hpe, hbok⟩, Or.inr ⟨hnm, rfl, Or.inr ⟨c_72, by rw [← e9]; exact c_lt, (hR.fresh (rw' := va_up rw a y) hg (fun r e h => va_up_ne _ _ (hna r e h))).rts hy (hg _ k1) k2 (hg _ k3) ⟨k4, k5.imp (fun _ _ h => h.grow hg), k6, k7⟩ k12 k13 (fun r hr => (List.mem_append.mp hr).elim (fun h => (va_up_ne _ _ (hfa2 r h)).trans (k14 r h)) (fun h => by rw [List.mem_singleton.mp h, va_up_self])) ((k9.imp (fun _ _ h => h.grow hg)).push ⟨q, List.mem_append_right _ List.mem_cons_self, List.mem_append_left _ (List.mem_append_right _ List.mem_cons_self)⟩) (z_ndp k10 hfa2) (by rw [List.length_append]; exact c_lt)⟩⟩⟩ dX7_setRoute_121)
        · skip
          have c_ge : 8 ≤ v.2.2.2.length := by
            rw [← e9]
            exact Nat.not_lt.mp (fun h => c_87 ((nI_ltI (by omega) (by omega)).mpr h))
          exact z_throw (is := 180) Cx hl0 ht hw (List.mem_of_getElem? (i := 14) rfl) (by decide) (List.mem_of_getElem? (i := 1) rfl) (List.mem_of_getElem? (i := 2) rfl) (fun _ h => List.mem_cons_of_mem _ (List.mem_append_left _ (List.mem_append_left _ (List.mem_append_right _ (h))))) (by decide +kernel) (by decide +kernel) (by decide +kernel) hl.1 dX7_setRoute_90 dX7_setRoute_93 dX7_setRoute_94 dX7_setRoute_96 dX7_setRoute_99 (Nat.le_of_ble_eq_true rfl) (Nat.le_of_ble_eq_true rfl) (Nat.le_of_ble_eq_true rfl) (Nat.le_of_ble_eq_true rfl) (Or.inr (Or.inr ⟨rfl, hpe, hbok, c_72, k, v, hk, hv, c_ge, hnm⟩)) (fun _ h => zQ_drop h hCV) (Nat.le_of_ble_eq_true rfl) (Nat.le_of_ble_eq_true rfl)
      · skip
        refine lv_iconst (v := -1) hx hb dX7_setRoute_75 (by decide) ?_
        have hg := fun (p : Nat × va_E) (h : p ∈ Y) => List.mem_append_left [(q, Sum.inr (3, [.int b, .int z]))] h
        exact vx_ret (z_iret (wf := fun (u : va_W × zLs) => zQ E (X ++ u.1) u.2) Cx hr rfl (Nat.le_of_ble_eq_true rfl) (Nat.le_of_ble_eq_true rfl) (Y ++ [(q, Sum.inr (3, [.int b, .int z]))], C) hw ⟨k, v, ⟨hk, hv, hpe, hbok⟩, Or.inr ⟨hnm, rfl, Or.inl ⟨c_72, q0, q1, q2, q3, q4, ns, ss, hs, ps, gs, ro, rw, hR.grow hg⟩⟩⟩ dX7_setRoute_76)
    · skip
      obtain ⟨i, w, hi, hwi, hw1, hw2⟩ := z_rp_pos c_43
      have hiv : i < v.2.2.2.length := (List.getElem?_eq_some_iff.mp hwi).1
      have hif : i < fs.length := by rw [e9]; exact hiv
      have hri := List.getElem?_eq_getElem hif
      generalize fs[i] = ri at hri
      obtain ⟨rb, hr1, hr2⟩ := k9.2 i ri w hri hwi
      refine lv_iload hx hb dX7_setRoute_46 (lv_at hl 0 rfl) ?_
      refine lv_aload hx hb dX7_setRoute_48 (lv_at hl 2 rfl) ?_
      refine z_get Cx hw (T := TX6) (N := 4) (ci := 9) (fun _ h => List.mem_cons_of_mem _ (List.mem_append_left _ (List.mem_append_left _ (List.mem_append_left _ (List.mem_append_left _ (List.mem_append_left _ (List.mem_append_left _ (List.mem_append_right _ (h))))))))) (z_in1 (List.mem_append_right X k1)) rfl 3 (by decide) (List.mem_of_getElem? (i := 4) rfl) rfl rfl dX7_setRoute_50 ?_
      refine z_goe hw.2 (z_runV Cx hw (c_al_size E l _ _ rt fs k8) (cwV 0 Cx.1.2.2.2.2 gX7_setRoute_Jx4a65c_size_8abf5 rfl rfl rfl (by decide +kernel) ⟨Nat.le_of_ble_eq_true rfl, Nat.le_of_ble_eq_true rfl⟩) (z_recvL Cx hw k8) rfl hl.1 rfl (Nat.le_of_ble_eq_true rfl) dX7_setRoute_53 ⟨Nat.le_of_ble_eq_true rfl, Nat.le_of_ble_eq_true rfl⟩) (fun H locs hw => ?_)
      refine lv_icmp_ge (tgt := 69) hx hb dX7_setRoute_56 (by decide) (fun c_56 => ?_) (fun c_56 => ?_)
      · skip
        rw [hi] at c_56
        exact absurd c_56 (nI_ge hif (by omega))
      · skip
        refine lv_aload hx hb dX7_setRoute_59 (lv_at hl 2 rfl) ?_
        refine lv_iload hx hb dX7_setRoute_61 (lv_at hl 0 rfl) ?_
        refine lv_topi (fun x_61 ex_61 => ?_)
        rw [hi] at ex_61
        subst ex_61
        refine lv_iload hx hb dX7_setRoute_63 (lv_at hl 7 rfl) ?_
        have huni : ∀ {a : Nat} {e e2 : va_E}, (a, e) ∈ Y ++ [(q, Sum.inr (3, [.int b, .int z]))] → (a, e2) ∈ Y ++ [(q, Sum.inr (3, [.int b, .int z]))] → e = e2 := fun h1 h2 => zQ.uniq hw.1 (List.mem_append_right X h1) (List.mem_append_right X h2)
        refine z_goi (wf := fun (u : va_W × zLs) => zQ E (X ++ u.1) u.2) hw.2 (z_runS Cx hw (c_X7_replaceRoute E l X (Y ++ [(q, Sum.inr (3, [.int b, .int z]))]) C y nw bk rl rt fs (List.mem_append_left _ k1) k8 i ri rb w.2 hri (List.mem_append_left _ hr1) pe) (va_cwS 3 Cx.1.2.2.2.2 gX7_setRoute_X7_replaceRoute rfl rfl rfl (by decide +kernel) ⟨Nat.le_of_ble_eq_true rfl, Nat.le_of_ble_eq_true rfl⟩)  rfl hl.1 rfl (Nat.le_of_ble_eq_true rfl) dX7_setRoute_65 ⟨Nat.le_of_ble_eq_true rfl, Nat.le_of_ble_eq_true rfl⟩) (fun r_65 uu H locs hp_65 hw => ?_)
        obtain ⟨e_65, hp_66⟩ := hp_65
        subst e_65
        have hg := fun (p : Nat × va_E) (h : p ∈ Y) => List.mem_append_left [(q, Sum.inr (3, [.int b, .int z]))] h
        rcases hp_66 with ⟨h1, h2⟩ | ⟨h1, h2⟩
        · subst h2
          exact vx_ret (z_iret (wf := fun (u : va_W × zLs) => zQ E (X ++ u.1) u.2) Cx hr rfl (Nat.le_of_ble_eq_true rfl) (Nat.le_of_ble_eq_true rfl) _ hw ⟨k, v, ⟨hk, hv, hpe, hbok⟩, Or.inl ⟨i, w, hwi, hw1, hw2, rfl, Or.inl ⟨h1, (hR.grow hg).rts hy (hg _ k1) k2 (hg _ k3) ⟨k4, k5.imp (fun _ _ h => h.grow hg), k6, k7⟩ k12 k13 (fun r hr => k14 r (List.mem_of_mem_eraseIdx hr)) ((k9.imp (fun _ _ h => h.grow hg)).era i) (z_nde k10) (Nat.le_trans (List.length_eraseIdx_le fs i) k11)⟩⟩⟩ dX7_setRoute_68)
        · subst h2
          exact vx_ret (z_iret (wf := fun (u : va_W × zLs) => zQ E (X ++ u.1) u.2) Cx hr rfl (Nat.le_of_ble_eq_true rfl) (Nat.le_of_ble_eq_true rfl) _ hw ⟨k, v, ⟨hk, hv, hpe, hbok⟩, Or.inl ⟨i, w, hwi, hw1, hw2, rfl, Or.inr ⟨h1, (hR.grow hg).rset hy (hg _ k1) hv k8 hri (hg _ hr1) (fun e h => huni h (hg _ hr1)) (fun e h => huni h (hg _ k1)) (hg _ hr2)⟩⟩⟩ dX7_setRoute_68)

