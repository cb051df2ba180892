theorem z_pins (r : Nat) : ∀ (l : List Nat) (j : Nat), j ≤ l.length → (l.insertIdx j r).Perm (r :: l)
  | l, 0, _ => by
    rw [List.insertIdx_zero]
  | [], j + 1, h => absurd h (Nat.not_succ_le_zero j)
  | a :: l, j + 1, h => by
    rw [List.insertIdx_succ_cons]
    exact ((z_pins r l j (Nat.le_of_succ_le_succ h)).cons a).trans (List.Perm.swap r a l)
theorem z_ndi {l : List Nat} {j r : Nat} (h : l.Nodup) (hj : j ≤ l.length) (hr : ∀ a ∈ l, a ≠ r) : (l.insertIdx j r).Nodup :=
  (z_pins r l j hj).nodup_iff.mpr (List.nodup_cons.mpr ⟨fun hm => hr r hm rfl, h⟩)
theorem z_nde {l : List Nat} {j : Nat} (h : l.Nodup) : (l.eraseIdx j).Nodup := h.sublist (List.eraseIdx_sublist l j)
theorem z_rp {b k : Int32} : ∀ (vs : List zRt) (n : Nat), (zrp b k vs n = -1 ∧ ∀ w ∈ vs, ¬ (w.1.1 = b ∧ w.1.2 = k)) ∨ ∃ (i : Nat) (w : zRt), zrp b k vs n = nI (n + i) ∧ vs[i]? = some w ∧ w.1.1 = b ∧ w.1.2 = k
  | [], _ => Or.inl ⟨rfl, fun w h => by cases h⟩
  | v :: vs, n => by
    by_cases c : v.1.1 = b ∧ v.1.2 = k
    · exact Or.inr ⟨0, v, by rw [zrp, if_pos c]; rfl, rfl, c.1, c.2⟩
    · rcases z_rp (b := b) (k := k) vs (n + 1) with ⟨h1, h2⟩ | ⟨i, w, h1, h2, h3, h4⟩
      · refine Or.inl ⟨by rw [zrp, if_neg c]; exact h1, fun w hw => ?_⟩
        rcases List.mem_cons.mp hw with h | h
        · rw [h]; exact c
        · exact h2 w h
      · exact Or.inr ⟨i + 1, w, by rw [zrp, if_neg c, h1]; congr 1; omega, h2, h3, h4⟩
theorem z_rp_neg {b k : Int32} {vs : List zRt} (hl : vs.length ≤ 1000) (h : zrp b k vs 0 < 0) : ∀ w ∈ vs, ¬ (w.1.1 = b ∧ w.1.2 = k) := by
  rcases z_rp (b := b) (k := k) vs 0 with ⟨-, h2⟩ | ⟨i, w, h1, h2, -⟩
  · exact h2
  · have hi := (List.getElem?_eq_some_iff.mp h2).1
    rw [h1] at h
    exact absurd h (nI_pos (by omega))
theorem z_rp_pos {b k : Int32} {vs : List zRt} (h : ¬ zrp b k vs 0 < 0) : ∃ (i : Nat) (w : zRt), zrp b k vs 0 = nI i ∧ vs[i]? = some w ∧ w.1.1 = b ∧ w.1.2 = k := by
  rcases z_rp (b := b) (k := k) vs 0 with ⟨h1, -⟩ | ⟨i, w, h1, h2⟩
  · rw [h1] at h
    exact absurd (by decide) h
  · exact ⟨i, w, by rw [h1, Nat.zero_add], h2⟩
theorem c_X7_replaceRoute (E : zG) (l : Launch) (X Y : va_W) (C : zLs) (a nw bk rl rt : Nat) (fs : List Nat) (hs : (a, Sum.inr (9, [.ref nw, .ref bk, .ref rl, .ref rt])) ∈ Y) (hq : C rt = some fs) (i r rb : Nat) (pe0 : Int32) (hi : fs[i]? = some r) (hr0 : (r, Sum.inr (7, [.ref rb, .int pe0])) ∈ Y) (pe : Int32) : Met l yX7_replaceRoute wsX7_replaceRoute (zR 4 0 0) (zPre E [.ref a, .int (nI i), .int pe] (zQ E (X ++ Y) C)) (va_Qi (fun rr (u : va_W × zLs) => rr = pe0 ∧ ((pe = -1 ∧ u = (Y, va_up C rt (some (fs.eraseIdx i)))) ∨ (¬ pe = -1 ∧ u = (zset Y r (Sum.inr (7, [.ref rb, .int pe])), C)))) (fun u t => zQ E (X ++ u.1) u.2 t.heap) (eA E)) 0 0 (eA E) := by
  refine z_cases (fun U av h => ?_)
  by_cases hpe : pe = -1
  · subst hpe
    refine ⟨_, _, c_replace_rm E l X Y C a nw bk rl rt fs hs hq i r rb pe0 hi hr0, h, fun o t h => ?_⟩
    obtain ⟨⟨v, u, ho, hp, hB⟩, hF⟩ := h
    exact ⟨⟨v, (Y, va_up C rt (some (fs.eraseIdx i))), ho, ⟨hp, Or.inl ⟨rfl, rfl⟩⟩, hB⟩, hF⟩
  · refine ⟨_, _, c_replace_set E l X Y C a nw bk rl rt fs hs hq i r rb pe0 hi hr0 pe hpe, h, fun o t h => ?_⟩
    obtain ⟨⟨v, u, ho, hp, hB⟩, hF⟩ := h
    exact ⟨⟨v, (zset Y r (Sum.inr (7, [.ref rb, .int pe])), C), ho, ⟨hp, Or.inr ⟨hpe, rfl⟩⟩, hB⟩, hF⟩
set_option maxRecDepth 100000 in
set_option maxHeartbeats 4000000 in
/-- removeRule -/
theorem c_X7_removeRule (E : zG) (l : Launch) (hl0 : l.stackTraces = false) (X Y : va_W) (C : zLs) (x : Nat) (V : zCl) (hrc : zRC Y C x V) (f pl : Int32) : vx_Met l yX7_removeRule wsX7_removeRule (zR 8 20 200) (zPre E [.ref x, .int f, .int pl] (zQ E (X ++ Y) C)) (va_Qi (fun r (u : va_W × zLs) => ∃ (k j : Nat) (v : zSb), (f = nI k ∧ (vS V)[k]? = some v ∧ pl = nI j ∧ j < v.2.2.1.length) ∧ zRC u.1 u.2 x (vN V, (vS V).set k (v.1, v.2.1, v.2.2.1.eraseIdx j, v.2.2.2), V.2.2) ∧ r = nI (v.2.2.1.length - 1)) (fun u tt => zQ E (X ++ u.1) u.2 tt.heap) (eA E)) (zX E (zQ E (X ++ Y) C) (fun nm => nm = zIOO ∧ ¬ ∃ (k j : Nat) (v : zSb), f = nI k ∧ (vS V)[k]? = some v ∧ pl = nI j ∧ j < v.2.2.1.length)) 20 200 (eA E) := by
  refine zx_of (cc := cX7_removeRule) (maxL := 4) (ret := (some .int)) (by decide) rfl rfl (Nat.le_of_ble_eq_true rfl) ?_
  intro p e s m below meth c ls ht Cx hr hnm hw hl
  have hx := Cx.1.1
  have hb := Cx.1.2.1
  obtain ⟨q0, q1, q2, q3, q4, ns, ss, hs, ps, gs, ro, rw, hR⟩ := hrc
  have hCV := zQ.V hw.1
  have hX := hR.grow (fun _ h => List.mem_append_right X h)
  have hR2 := hX
  obtain ⟨hx0, ⟨c0, c1, c2, c3, c4⟩, ⟨z0, z1, z2, z3, z4⟩, ⟨n0, n1, n2, n4⟩, -, l0, l1, l2, l3, l4⟩ := hR2
  have nlen : ns.length = (vN V).length := z0.1
  have slen : ss.length = (vS V).length := z1.1
  have hlen : hs.length = (vH V).length := z2.1
  have plen : ps.length = (vP V).length := z3.1
  have glen : gs.length = (vG V).length := z4.1
  have hR3 := hR
  obtain ⟨-, -, ⟨y0, y1, y2, y3, y4⟩, -⟩ := hR3
  have hl : lv_has ls 4 [(0, .ref x), (1, .int f), (2, .int pl)] := hl
  refine lv_aload_n hx hb dX7_removeRule_0 rfl (lv_at hl 0 rfl) ?_
  refine lv_iload_n hx hb dX7_removeRule_1 rfl (lv_at hl 1 rfl) ?_
  refine zx_gor (pr := fun (u : Nat × Nat) a => a = u.2) (wf := fun _ => zQ E (X ++ Y) C) hw.2 (zx_runV Cx hw (c_X7_subnetAt E l hl0 _ _ x q0 q1 q2 q3 q4 ss hx0 c1 (by omega) hX.sel f) (cwV 1 Cx.1.2.2.2.2 gX7_removeRule_X7_subnetAt rfl rfl rfl (by decide +kernel) ⟨Nat.le_of_ble_eq_true rfl, Nat.le_of_ble_eq_true rfl⟩) (z_recv Cx hw (r := (RX7, TX7, 5)) hx0 rfl) rfl hl.1 rfl (Nat.le_of_ble_eq_true rfl) dX7_removeRule_2 ⟨Nat.le_of_ble_eq_true rfl, Nat.le_of_ble_eq_true rfl⟩) (z_out Cx ht (Nat.le_of_ble_eq_true rfl) (Nat.le_of_ble_eq_true rfl) (fun nm h => by rw [slen] at h; exact ⟨h.1, fun ⟨k, j, v, h1, h2, _⟩ => h.2 ⟨k, (List.getElem?_eq_some_iff.mp h2).1, h1⟩⟩) (fun _ h => h)) (fun u_2 ra_2 H locs hp_2 hr_2 hw => ?_)
  obtain ⟨k, y⟩ := u_2
  obtain ⟨hk, hy⟩ := hp_2
  dsimp only at hk hy
  rw [show ra_2 = y from hr_2]
  have hbk : k < ss.length := (List.getElem?_eq_some_iff.mp hy).1
  obtain ⟨v, hv, nw, bk, rl, rt, es, fs, k1, k2, k3, ⟨k4, k5, k6, k7⟩, ⟨k8, k9, k10, k11⟩, k12, k13, k14⟩ := y1.get hy
  have hz : zix f (vS V).length := ⟨k, by rw [← slen]; exact hbk, hk⟩
  have e5 := k5.1
  have e9 := k9.1
  refine lv_astore_n hx hb dX7_removeRule_5 rfl hl (by decide) rfl (fun ls hl => ?_)
  have hl : lv_has ls 4 [(3, .ref y), (0, .ref x), (1, .int f), (2, .int pl)] := hl
  refine lv_iload_n hx hb dX7_removeRule_6 rfl (lv_at hl 3 rfl) ?_
  refine lv_aload_n hx hb dX7_removeRule_7 rfl (lv_at hl 0 rfl) ?_
  refine z_get Cx hw (T := TX6) (N := 4) (ci := 9) (fun _ h => List.mem_cons_of_mem _ (List.mem_append_left _ (List.mem_append_left _ (List.mem_append_left _ (List.mem_append_right _ (h)))))) (List.mem_append_right X k1) rfl 2 (by decide) (List.mem_of_getElem? (i := 1) rfl) rfl rfl dX7_removeRule_8 ?_
  refine z_goe hw.2 (z_runV Cx hw (c_al_size E l _ _ rl es k4) (cwV 0 Cx.1.2.2.2.2 gX7_removeRule_Jx4a65c_size_8abf5 rfl rfl rfl (by decide +kernel) ⟨Nat.le_of_ble_eq_true rfl, Nat.le_of_ble_eq_true rfl⟩) (z_recvL Cx hw k4) rfl hl.1 rfl (Nat.le_of_ble_eq_true rfl) dX7_removeRule_11 ⟨Nat.le_of_ble_eq_true rfl, Nat.le_of_ble_eq_true rfl⟩) (fun H locs hw => ?_)
  refine zx_gov (wf := fun _ => zQ E (X ++ Y) C) hw.2 (zx_runS Cx hw (c_X7_checkIndex E l hl0 _ C pl (nI es.length)) (va_cwS 2 Cx.1.2.2.2.2 gX7_removeRule_X7_checkIndex rfl rfl rfl (by decide +kernel) ⟨Nat.le_of_ble_eq_true rfl, Nat.le_of_ble_eq_true rfl⟩)  rfl hl.1 rfl (Nat.le_of_ble_eq_true rfl) dX7_removeRule_14 ⟨Nat.le_of_ble_eq_true rfl, Nat.le_of_ble_eq_true rfl⟩) (z_out Cx ht (Nat.le_of_ble_eq_true rfl) (Nat.le_of_ble_eq_true rfl) (fun nm h => ⟨h.1, fun ⟨k2, j, v2, h1, h2, h3, h4⟩ => h.2 (by have e : k2 = k := (nI_eq (by have := (List.getElem?_eq_some_iff.mp h2).1; omega) (by omega)).mp (h1.symm.trans hk); subst e; rw [hv] at h2; cases h2; rw [h3]; exact ⟨nI_pos (by omega), nI_lt (by omega) (by omega)⟩)⟩) (fun _ h => h)) (fun _ H locs hp_14 hw => ?_)
  obtain ⟨j, hj31, hj⟩ := nI_of hp_14.1
  have hjn : j < es.length := (nI_ltI hj31 (by omega)).mp (by rw [← hj]; exact hp_14.2)
  have hjy := List.getElem?_eq_getElem hjn
  generalize es[j] = yy at hjy
  refine lv_aload_n hx hb dX7_removeRule_17 rfl (lv_at hl 0 rfl) ?_
  refine z_get Cx hw (T := TX6) (N := 4) (ci := 9) (fun _ h => List.mem_cons_of_mem _ (List.mem_append_left _ (List.mem_append_left _ (List.mem_append_left _ (List.mem_append_right _ (h)))))) (List.mem_append_right X k1) rfl 2 (by decide) (List.mem_of_getElem? (i := 1) rfl) rfl rfl dX7_removeRule_18 ?_
  refine lv_iload_n hx hb dX7_removeRule_21 rfl (lv_at hl 3 rfl) ?_
  refine lv_topi (fun x_21 ex_21 => ?_)
  rw [hj] at ex_21
  subst ex_21
  refine z_goer hw.2 (z_runV Cx hw (c_al_rem E l _ _ rl es k4 j yy hjy) (cwV 1 Cx.1.2.2.2.2 gX7_removeRule_Jx4a65c_remove_915e3 rfl rfl rfl (by decide +kernel) ⟨Nat.le_of_ble_eq_true rfl, Nat.le_of_ble_eq_true rfl⟩) (z_recvL Cx hw k4) rfl hl.1 rfl (Nat.le_of_ble_eq_true rfl) dX7_removeRule_22 ⟨Nat.le_of_ble_eq_true rfl, Nat.le_of_ble_eq_true rfl⟩) (fun H locs hw => ?_)
  refine lv_pop hx hb dX7_removeRule_25 rfl ?_
  refine lv_aload_n hx hb dX7_removeRule_26 rfl (lv_at hl 0 rfl) ?_
  refine z_get Cx hw (T := TX6) (N := 4) (ci := 9) (fun _ h => List.mem_cons_of_mem _ (List.mem_append_left _ (List.mem_append_left _ (List.mem_append_left _ (List.mem_append_right _ (h)))))) (List.mem_append_right X k1) rfl 2 (by decide) (List.mem_of_getElem? (i := 1) rfl) rfl rfl dX7_removeRule_27 ?_
  refine z_goe hw.2 (z_runV Cx hw (c_al_size E l _ _ rl _ (va_up_self _ _ _)) (cwV 0 Cx.1.2.2.2.2 gX7_removeRule_Jx4a65c_size_8abf5 rfl rfl rfl (by decide +kernel) ⟨Nat.le_of_ble_eq_true rfl, Nat.le_of_ble_eq_true rfl⟩) (z_recvL Cx hw (va_up_self _ _ _)) rfl hl.1 rfl (Nat.le_of_ble_eq_true rfl) dX7_removeRule_30 ⟨Nat.le_of_ble_eq_true rfl, Nat.le_of_ble_eq_true rfl⟩) (fun H locs hw => ?_)
  exact vx_ret (z_iret (wf := fun (u : va_W × zLs) => zQ E (X ++ u.1) u.2) Cx hr rfl (Nat.le_of_ble_eq_true rfl) (Nat.le_of_ble_eq_true rfl) (Y, va_up C rl (some (es.eraseIdx j))) hw ⟨k, j, v, ⟨hk, hv, hj, by omega⟩, hR.lst hy k1 k2 k3 ⟨k8, k9, k10, k11⟩ k12 k13 k14 (k5.era j) (z_nde k6) (Nat.le_trans (List.length_eraseIdx_le es j) k7), by rw [List.length_eraseIdx_of_lt hjn, e5]⟩ dX7_removeRule_33)

set_option maxRecDepth 100000 in
set_option maxHeartbeats 4000000 in
/-- putRule -/
theorem c_X7_putRule (E : zG) (l : Launch) (hl0 : l.stackTraces = false) (X Y : va_W) (C : zLs) (x : Nat) (V : zCl) (hrc : zRC Y C x V) (f pl : Int32) (i al : Bool) (b z fp la : Int32) : vx_Met l yX7_putRule wsX7_putRule (zR 8 20 200) (zPre E [.ref x, .int f, .int pl, .int (zb i), .int (zb al), .int b, .int z, .int fp, .int la] (zQ E (X ++ Y) C)) (va_Qi (fun r (u : va_W × zLs) => ∃ (k j : Nat) (v : zSb), ((f = nI k ∧ (vS V)[k]? = some v ∧ pl = nI j ∧ j ≤ v.2.2.1.length) ∧ (zbok b z ∧ zpok fp la) ∧ v.2.2.1.length < 12) ∧ zRC u.1 u.2 x (vN V, (vS V).set k (v.1, v.2.1, v.2.2.1.insertIdx j (zb i, zb al, (b, z), zps fp la), v.2.2.2), V.2.2) ∧ r = nI (v.2.2.1.length + 1)) (fun u tt => zQ E (X ++ u.1) u.2 tt.heap) (eA E)) (zX E (zQ E (X ++ Y) C) (fun nm => (nm = zIOO ∧ ¬ ∃ (k j : Nat) (v : zSb), f = nI k ∧ (vS V)[k]? = some v ∧ pl = nI j ∧ j ≤ v.2.2.1.length) ∨ (nm = zIAE ∧ (∃ (k j : Nat) (v : zSb), f = nI k ∧ (vS V)[k]? = some v ∧ pl = nI j ∧ j ≤ v.2.2.1.length) ∧ ¬ (zbok b z ∧ zpok fp la)) ∨ (nm = zISE ∧ (zbok b z ∧ zpok fp la) ∧ ∃ (k j : Nat) (v : zSb), (f = nI k ∧ (vS V)[k]? = some v ∧ pl = nI j ∧ j ≤ v.2.2.1.length) ∧ 12 ≤ v.2.2.1.length))) 20 200 (eA E) := by
  refine zx_of (cc := cX7_putRule) (maxL := 12) (ret := (some .int)) (by decide) rfl rfl (Nat.le_of_ble_eq_true rfl) ?_
  intro p e s m below meth c ls ht Cx hr hnm hw hl
  have hx := Cx.1.1
  have hb := Cx.1.2.1
  obtain ⟨q0, q1, q2, q3, q4, ns, ss, hs, ps, gs, ro, rw, hR⟩ := hrc
  have hCV := zQ.V hw.1
  have hX := hR.grow (fun _ h => List.mem_append_right X h)
  have hR2 := hX
  obtain ⟨hx0, ⟨c0, c1, c2, c3, c4⟩, ⟨z0, z1, z2, z3, z4⟩, ⟨n0, n1, n2, n4⟩, -, l0, l1, l2, l3, l4⟩ := hR2
  have nlen : ns.length = (vN V).length := z0.1
  have slen : ss.length = (vS V).length := z1.1
  have hlen : hs.length = (vH V).length := z2.1
  have plen : ps.length = (vP V).length := z3.1
  have glen : gs.length = (vG V).length := z4.1
  have hR3 := hR
  obtain ⟨-, -, ⟨y0, y1, y2, y3, y4⟩, -⟩ := hR3
  have hl : lv_has ls 12 [(0, .ref x), (1, .int f), (2, .int pl), (3, .int (zb i)), (4, .int (zb al)), (5, .int b), (6, .int z), (7, .int fp), (8, .int la)] := hl
  refine lv_aload_n hx hb dX7_putRule_0 rfl (lv_at hl 0 rfl) ?_
  refine lv_iload_n hx hb dX7_putRule_1 rfl (lv_at hl 1 rfl) ?_
  refine zx_gor (pr := fun (u : Nat × Nat) a => a = u.2) (wf := fun _ => zQ E (X ++ Y) C) hw.2 (zx_runV Cx hw (c_X7_subnetAt E l hl0 _ _ x q0 q1 q2 q3 q4 ss hx0 c1 (by omega) hX.sel f) (cwV 1 Cx.1.2.2.2.2 gX7_putRule_X7_subnetAt rfl rfl rfl (by decide +kernel) ⟨Nat.le_of_ble_eq_true rfl, Nat.le_of_ble_eq_true rfl⟩) (z_recv Cx hw (r := (RX7, TX7, 5)) hx0 rfl) rfl hl.1 rfl (Nat.le_of_ble_eq_true rfl) dX7_putRule_2 ⟨Nat.le_of_ble_eq_true rfl, Nat.le_of_ble_eq_true rfl⟩) (z_out Cx ht (Nat.le_of_ble_eq_true rfl) (Nat.le_of_ble_eq_true rfl) (fun nm h => by rw [slen] at h; exact Or.inl ⟨h.1, fun ⟨k, j, v, h1, h2, _⟩ => h.2 ⟨k, (List.getElem?_eq_some_iff.mp h2).1, h1⟩⟩) (fun _ h => h)) (fun u_2 ra_2 H locs hp_2 hr_2 hw => ?_)
  obtain ⟨k, y⟩ := u_2
  obtain ⟨hk, hy⟩ := hp_2
  dsimp only at hk hy
  rw [show ra_2 = y from hr_2]
  have hbk : k < ss.length := (List.getElem?_eq_some_iff.mp hy).1
  obtain ⟨v, hv, nw, bk, rl, rt, es, fs, k1, k2, k3, ⟨k4, k5, k6, k7⟩, ⟨k8, k9, k10, k11⟩, k12, k13, k14⟩ := y1.get hy
  have hz : zix f (vS V).length := ⟨k, by rw [← slen]; exact hbk, hk⟩
  have e5 := k5.1
  have e9 := k9.1
  refine lv_astore hx hb dX7_putRule_5 hl (by decide) rfl (fun ls hl => ?_)
  have hl : lv_has ls 12 [(9, .ref y), (0, .ref x), (1, .int f), (2, .int pl), (3, .int (zb i)), (4, .int (zb al)), (5, .int b), (6, .int z), (7, .int fp), (8, .int la)] := hl
  refine lv_iload_n hx hb dX7_putRule_7 rfl (lv_at hl 3 rfl) ?_
  refine lv_if_lt (tgt := 23) hx hb dX7_putRule_8 (by decide) (fun c_8 => ?_) (fun c_8 => ?_)
  · skip
    have hno : ¬ (∃ (k j : Nat) (v : zSb), f = nI k ∧ (vS V)[k]? = some v ∧ pl = nI j ∧ j ≤ v.2.2.1.length) := fun ⟨k2, j, v2, h1, h2, h3, h4⟩ => by
        have e : k2 = k := (nI_eq (by have := (List.getElem?_eq_some_iff.mp h2).1; omega) (by omega)).mp (h1.symm.trans hk)
        subst e
        rw [hv] at h2
        cases h2
        rw [h3] at c_8
        exact absurd c_8 (nI_pos (by omega))
    exact z_throw (is := 158) Cx hl0 ht hw (List.mem_of_getElem? (i := 12) rfl) (by decide) (List.mem_of_getElem? (i := 1) rfl) (List.mem_of_getElem? (i := 2) rfl) (fun _ h => List.mem_cons_of_mem _ (List.mem_append_left _ (List.mem_append_left _ (List.mem_append_right _ (h))))) (by decide +kernel) (by decide +kernel) (by decide +kernel) hl.1 dX7_putRule_23 dX7_putRule_26 dX7_putRule_27 dX7_putRule_29 dX7_putRule_32 (Nat.le_of_ble_eq_true rfl) (Nat.le_of_ble_eq_true rfl) (Nat.le_of_ble_eq_true rfl) (Nat.le_of_ble_eq_true rfl) (Or.inl ⟨rfl, hno⟩) (fun _ h => h) (Nat.le_of_ble_eq_true rfl) (Nat.le_of_ble_eq_true rfl)
  · skip
    refine lv_iload_n hx hb dX7_putRule_11 rfl (lv_at hl 3 rfl) ?_
    refine lv_aload hx hb dX7_putRule_12 (lv_at hl 0 rfl) ?_
    refine z_get Cx hw (T := TX6) (N := 4) (ci := 9) (fun _ h => List.mem_cons_of_mem _ (List.mem_append_left _ (List.mem_append_left _ (List.mem_append_left _ (List.mem_append_left _ (List.mem_append_left _ (List.mem_append_left _ (List.mem_append_left _ (List.mem_append_right _ (h)))))))))) (List.mem_append_right X k1) rfl 2 (by decide) (List.mem_of_getElem? (i := 5) rfl) rfl rfl dX7_putRule_14 ?_
    refine z_goe hw.2 (z_runV Cx hw (c_al_size E l _ _ rl es k4) (cwV 0 Cx.1.2.2.2.2 gX7_putRule_Jx4a65c_size_8abf5 rfl rfl rfl (by decide +kernel) ⟨Nat.le_of_ble_eq_true rfl, Nat.le_of_ble_eq_true rfl⟩) (z_recvL Cx hw k4) rfl hl.1 rfl (Nat.le_of_ble_eq_true rfl) dX7_putRule_17 ⟨Nat.le_of_ble_eq_true rfl, Nat.le_of_ble_eq_true rfl⟩) (fun H locs hw => ?_)
    refine lv_icmp_le (tgt := 33) hx hb dX7_putRule_20 (by decide) (fun c_20 => ?_) (fun c_20 => ?_)
    · skip
      obtain ⟨j, hj31, hj⟩ := nI_of c_8
      have hjn : j ≤ es.length := (nI_leI hj31 (by omega)).mp (by rw [← hj]; exact c_20)
      have hpl : ∃ (k j : Nat) (v : zSb), f = nI k ∧ (vS V)[k]? = some v ∧ pl = nI j ∧ j ≤ v.2.2.1.length := ⟨k, j, v, hk, hv, hj, by rw [← e5]; exact hjn⟩
      refine lv_iload hx hb dX7_putRule_33 (lv_at hl 6 rfl) ?_
      refine lv_iload hx hb dX7_putRule_35 (lv_at hl 7 rfl) ?_
      refine zx_gor (pr := fun (q : Nat) a => a = q) (wf := fun q => zQ E (X ++ (Y ++ [(q, Sum.inr (3, [.int b, .int z]))])) C) hw.2 (zx_runS Cx hw (c_X7_blockOf E l hl0 X Y C b z) (va_cwS 2 Cx.1.2.2.2.2 gX7_putRule_X7_blockOf rfl rfl rfl (by decide +kernel) ⟨Nat.le_of_ble_eq_true rfl, Nat.le_of_ble_eq_true rfl⟩)  rfl hl.1 rfl (Nat.le_of_ble_eq_true rfl) dX7_putRule_37 ⟨Nat.le_of_ble_eq_true rfl, Nat.le_of_ble_eq_true rfl⟩) (z_out Cx ht (Nat.le_of_ble_eq_true rfl) (Nat.le_of_ble_eq_true rfl) (fun nm h => Or.inr (Or.inl ⟨h.1, hpl, fun hh => h.2 hh.1⟩)) (fun _ h => h)) (fun q ra_37 H locs hp_37 hr_37 hw => ?_)
      obtain ⟨hbok, hfr⟩ := hp_37
      rw [show ra_37 = q from hr_37]
      have hfq : ∀ x ∈ Y, x.1 ≠ q := fun x h => hfr x (List.mem_append_right X h)
      refine lv_astore hx hb dX7_putRule_40 hl (by decide) rfl (fun ls hl => ?_)
      have hl : lv_has ls 12 [(10, .ref q), (9, .ref y), (0, .ref x), (1, .int f), (2, .int pl), (3, .int (zb i)), (4, .int (zb al)), (5, .int b), (6, .int z), (7, .int fp), (8, .int la)] := hl
      refine lv_iload hx hb dX7_putRule_42 (lv_at hl 9 rfl) ?_
      refine lv_iload hx hb dX7_putRule_44 (lv_at hl 10 rfl) ?_
      refine zx_goi (wf := fun _ => zQ E (X ++ (Y ++ [(q, Sum.inr (3, [.int b, .int z]))])) C) hw.2 (zx_runS Cx hw (c_X7_portRange E l hl0 _ C fp la) (va_cwS 2 Cx.1.2.2.2.2 gX7_putRule_X7_portRange rfl rfl rfl (by decide +kernel) ⟨Nat.le_of_ble_eq_true rfl, Nat.le_of_ble_eq_true rfl⟩)  rfl hl.1 rfl (Nat.le_of_ble_eq_true rfl) dX7_putRule_46 ⟨Nat.le_of_ble_eq_true rfl, Nat.le_of_ble_eq_true rfl⟩) (z_out Cx ht (Nat.le_of_ble_eq_true rfl) (Nat.le_of_ble_eq_true rfl) (fun nm h => Or.inr (Or.inl ⟨h.1, hpl, fun hh => h.2 hh.2⟩)) (fun _ h => zQ_drop h hCV)) (fun r_46 _ H locs hp_46 hw => ?_)
      obtain ⟨e_46, hpok⟩ := hp_46
      subst e_46
      refine lv_istore hx hb dX7_putRule_49 hl (by decide) rfl (fun ls hl => ?_)
      have hl : lv_has ls 12 [(11, .int (zps fp la)), (10, .ref q), (9, .ref y), (0, .ref x), (1, .int f), (2, .int pl), (3, .int (zb i)), (4, .int (zb al)), (5, .int b), (6, .int z), (7, .int fp), (8, .int la)] := hl
      refine lv_aload hx hb dX7_putRule_51 (lv_at hl 2 rfl) ?_
      refine z_get Cx hw (T := TX6) (N := 4) (ci := 9) (fun _ h => List.mem_cons_of_mem _ (List.mem_append_left _ (List.mem_append_left _ (List.mem_append_left _ (List.mem_append_left _ (List.mem_append_left _ (List.mem_append_left _ (List.mem_append_left _ (List.mem_append_right _ (h)))))))))) (z_in1 (List.mem_append_right X k1)) rfl 2 (by decide) (List.mem_of_getElem? (i := 5) rfl) rfl rfl dX7_putRule_53 ?_
      refine z_goe hw.2 (z_runV Cx hw (c_al_size E l _ _ rl es k4) (cwV 0 Cx.1.2.2.2.2 gX7_putRule_Jx4a65c_size_8abf5 rfl rfl rfl (by decide +kernel) ⟨Nat.le_of_ble_eq_true rfl, Nat.le_of_ble_eq_true rfl⟩) (z_recvL Cx hw k4) rfl hl.1 rfl (Nat.le_of_ble_eq_true rfl) dX7_putRule_56 ⟨Nat.le_of_ble_eq_true rfl, Nat.le_of_ble_eq_true rfl⟩) (fun H locs hw => ?_)
      refine lv_bipush (v := nI 12) hx hb dX7_putRule_59 rfl ?_
      refine lv_icmp_lt (tgt := 74) hx hb dX7_putRule_61 (by decide) (fun c_61 => ?_) (fun c_61 => ?_)
      · skip
        have c_lt : es.length < 12 := (nI_ltI (by omega) (by omega)).mp c_61
        refine lv_aload hx hb dX7_putRule_74 (lv_at hl 2 rfl) ?_
        refine z_get Cx hw (T := TX6) (N := 4) (ci := 9) (fun _ h => List.mem_cons_of_mem _ (List.mem_append_left _ (List.mem_append_left _ (List.mem_append_left _ (List.mem_append_left _ (List.mem_append_left _ (List.mem_append_left _ (List.mem_append_left _ (List.mem_append_right _ (h)))))))))) (z_in1 (List.mem_append_right X k1)) rfl 2 (by decide) (List.mem_of_getElem? (i := 5) rfl) rfl rfl dX7_putRule_76 ?_
        refine lv_iload_n hx hb dX7_putRule_79 rfl (lv_at hl 5 rfl) ?_
        refine lv_topi (fun x_79 ex_79 => ?_)
        rw [hj] at ex_79
        subst ex_79
        refine z_new Cx hw (T := TX5) (N := 4) (ci := 8) (fs := [.int 0, .int 0, .null, .int 0]) (fun _ h => List.mem_cons_of_mem _ (List.mem_append_left _ (List.mem_append_left _ (List.mem_append_left _ (List.mem_append_left _ (List.mem_append_left _ (List.mem_append_left _ (List.mem_append_right _ (h))))))))) tyX5 tyX5_ok (List.mem_of_getElem? (i := 6) rfl) (List.mem_of_getElem? (i := 7) rfl) (List.mem_of_getElem? (i := 8) rfl) rfl (fun j hj => by rcases (show j = 0 ∨ j = 1 ∨ j = 2 ∨ j = 3 by omega) with rfl | rfl | rfl | rfl <;> rfl) (Nat.le_of_ble_eq_true rfl) (Nat.le_of_ble_eq_true rfl) dX7_putRule_80 (fun a H hfa hw => ?_)
        refine lv_dup hx hb dX7_putRule_83 rfl ?_
        refine lv_iload_n hx hb dX7_putRule_84 rfl (lv_at hl 6 rfl) ?_
        refine lv_iload hx hb dX7_putRule_85 (lv_at hl 7 rfl) ?_
        refine lv_aload hx hb dX7_putRule_87 (lv_at hl 1 rfl) ?_
        refine lv_iload hx hb dX7_putRule_89 (lv_at hl 0 rfl) ?_
        refine z_goev hw.2 (z_runI Cx hw (c_X5_init E l X (Y ++ [(q, Sum.inr (3, [.int b, .int z]))]) C a (fun x h => hfa x (List.mem_append_right X h)) i al q (zps fp la)) (cwI 4 Cx.1.2.2.2.2 gX7_putRule_X5_init rfl rfl rfl (Cx.1.2.2.2.2 (.initialized RX5) (List.mem_of_getElem? (i := 8) rfl)) (Cx.1.2.2.2.2 (.methodLink RX7 134 yX5_init) (List.mem_of_getElem? (i := 61) rfl)) (Cx.1.2.2.2.2 (.instanceMethod yX5_init) (List.mem_of_getElem? (i := 62) rfl)) rfl (by decide +kernel) ⟨Nat.le_of_ble_eq_true rfl, Nat.le_of_ble_eq_true rfl⟩)  rfl hl.1 rfl (Nat.le_of_ble_eq_true rfl) dX7_putRule_91 ⟨Nat.le_of_ble_eq_true rfl, Nat.le_of_ble_eq_true rfl⟩) (fun H locs hw => ?_)
        refine z_goev hw.2 (z_runV Cx hw (c_al_addAt E l _ _ rl es k4 j a hjn ⟨8, _, z_inq, by decide, by decide⟩ (by omega)) (cwV 2 Cx.1.2.2.2.2 gX7_putRule_Jx4a65c_add_7a177 rfl rfl rfl (by decide +kernel) ⟨Nat.le_of_ble_eq_true rfl, Nat.le_of_ble_eq_true rfl⟩) (z_recvL Cx hw k4) rfl hl.1 rfl (Nat.le_of_ble_eq_true rfl) dX7_putRule_94 ⟨Nat.le_of_ble_eq_true rfl, Nat.le_of_ble_eq_true rfl⟩) (fun H locs hw => ?_)
        refine lv_aload hx hb dX7_putRule_97 (lv_at hl 2 rfl) ?_
        refine z_get Cx hw (T := TX6) (N := 4) (ci := 9) (fun _ h => List.mem_cons_of_mem _ (List.mem_append_left _ (List.mem_append_left _ (List.mem_append_left _ (List.mem_append_left _ (List.mem_append_left _ (List.mem_append_left _ (List.mem_append_left _ (List.mem_append_right _ (h)))))))))) (z_in1 (z_in1 (List.mem_append_right X k1))) rfl 2 (by decide) (List.mem_of_getElem? (i := 5) rfl) rfl rfl dX7_putRule_99 ?_
        refine z_goe hw.2 (z_runV Cx hw (c_al_size E l _ _ rl _ (va_up_self _ _ _)) (cwV 0 Cx.1.2.2.2.2 gX7_putRule_Jx4a65c_size_8abf5 rfl rfl rfl (by decide +kernel) ⟨Nat.le_of_ble_eq_true rfl, Nat.le_of_ble_eq_true rfl⟩) (z_recvL Cx hw (va_up_self _ _ _)) rfl hl.1 rfl (Nat.le_of_ble_eq_true rfl) dX7_putRule_102 ⟨Nat.le_of_ble_eq_true rfl, Nat.le_of_ble_eq_true rfl⟩) (fun H locs hw => ?_)
        have hg := fun (p : Nat × va_E) (h : p ∈ Y) => List.mem_append_left [(a, Sum.inr (8, [.int (zb i), .int (zb al), .ref q, .int (zps fp la)]))] (List.mem_append_left [(q, Sum.inr (3, [.int b, .int z]))] h)
        have hea : ∀ p ∈ es, p ≠ a := fun p hp => by
          obtain ⟨n, hn⟩ := List.getElem?_of_mem hp
          obtain ⟨w, -, b9, hb9, -⟩ := k5.get hn
          exact hfa _ (List.mem_append_right X (List.mem_append_left _ hb9))
        exact vx_ret (z_iret (wf := fun (u : va_W × zLs) => zQ E (X ++ u.1) u.2) Cx hr rfl (Nat.le_of_ble_eq_true rfl) (Nat.le_of_ble_eq_true rfl) ((Y ++ [(q, Sum.inr (3, [.int b, .int z]))]) ++ [(a, Sum.inr (8, [.int (zb i), .int (zb al), .ref q, .int (zps fp la)]))], va_up C rl (some (es.insertIdx j a))) hw ⟨k, j, v, ⟨⟨hk, hv, hj, by rw [← e5]; exact hjn⟩, ⟨hbok, hpok⟩, by rw [← e5]; exact c_lt⟩, (hR.grow hg).lst hy (hg _ k1) k2 (hg _ k3) ⟨k8, k9.imp (fun _ _ h => h.grow hg), k10, k11⟩ k12 k13 k14 ((k5.imp (fun _ _ h => h.grow hg)).ins hjn ⟨q, List.mem_append_right _ List.mem_cons_self, List.mem_append_left _ (List.mem_append_right _ List.mem_cons_self)⟩) (z_ndi k6 hjn hea) (by rw [List.length_insertIdx_of_le_length hjn]; exact c_lt), by rw [List.length_insertIdx_of_le_length hjn, e5]⟩ dX7_putRule_105)
      · skip
        have c_ge : 12 ≤ v.2.2.1.length := by
          rw [← e5]
          exact Nat.not_lt.mp (fun h => c_61 ((nI_ltI (by omega) (by omega)).mpr h))
        exact z_throw (is := 161) Cx hl0 ht hw (List.mem_of_getElem? (i := 13) rfl) (by decide) (List.mem_of_getElem? (i := 3) rfl) (List.mem_of_getElem? (i := 4) rfl) (fun _ h => List.mem_cons_of_mem _ (List.mem_append_left _ (List.mem_append_right _ (h)))) (by decide +kernel) (by decide +kernel) (by decide +kernel) hl.1 dX7_putRule_64 dX7_putRule_67 dX7_putRule_68 dX7_putRule_70 dX7_putRule_73 (Nat.le_of_ble_eq_true rfl) (Nat.le_of_ble_eq_true rfl) (Nat.le_of_ble_eq_true rfl) (Nat.le_of_ble_eq_true rfl) (Or.inr (Or.inr ⟨rfl, ⟨hbok, hpok⟩, k, j, v, ⟨hk, hv, hj, by rw [← e5]; exact hjn⟩, c_ge⟩)) (fun _ h => zQ_drop h hCV) (Nat.le_of_ble_eq_true rfl) (Nat.le_of_ble_eq_true rfl)
    · skip
      have hno : ¬ (∃ (k j : Nat) (v : zSb), f = nI k ∧ (vS V)[k]? = some v ∧ pl = nI j ∧ j ≤ v.2.2.1.length) := fun ⟨k2, j, v2, h1, h2, h3, h4⟩ => by
          have e : k2 = k := (nI_eq (by have := (List.getElem?_eq_some_iff.mp h2).1; omega) (by omega)).mp (h1.symm.trans hk)
          subst e
          rw [hv] at h2
          cases h2
          rw [h3] at c_20
          exact c_20 (nI_le (by omega) (by omega))
      exact z_throw (is := 158) Cx hl0 ht hw (List.mem_of_getElem? (i := 12) rfl) (by decide) (List.mem_of_getElem? (i := 1) rfl) (List.mem_of_getElem? (i := 2) rfl) (fun _ h => List.mem_cons_of_mem _ (List.mem_append_left _ (List.mem_append_left _ (List.mem_append_right _ (h))))) (by decide +kernel) (by decide +kernel) (by decide +kernel) hl.1 dX7_putRule_23 dX7_putRule_26 dX7_putRule_27 dX7_putRule_29 dX7_putRule_32 (Nat.le_of_ble_eq_true rfl) (Nat.le_of_ble_eq_true rfl) (Nat.le_of_ble_eq_true rfl) (Nat.le_of_ble_eq_true rfl) (Or.inl ⟨rfl, hno⟩) (fun _ h => h) (Nat.le_of_ble_eq_true rfl) (Nat.le_of_ble_eq_true rfl)

