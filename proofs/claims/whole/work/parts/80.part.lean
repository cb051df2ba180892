/-! the reference's leaves, told as the class's -/
theorem c_m_list (E : zG) (l : Launch) (X : va_W) (C : zLs) (y : Nat) (ad : Nat → Nat) (sc : Nat → Int32) (g : Nat → Nat → Int32) (V : zCl) (hR : zMR sc g V) (hI : zInv V) (i : Nat) (hi : i < (vS V).length) (inw x : Int32) : Met l yX8_byList wsX8_byList (zR 2 0 0) (zPre E [.ref y, .int (nI i), .int inw, .int x] (zQ E (X ++ zMw E y ad sc g) C)) (zRi E (zQ E (X ++ zMw E y ad sc g) C) (zlp inw x (zsv V i).2.2.1 0 0 0)) 0 0 (eA E) := by
  obtain ⟨v, w, hv, hw, e, hs, -⟩ := zV_S hI hi
  have h := c_X8_byList E l X C y ad sc g V hR.2.1 i v hv inw x
  have e1 : (zsv V i).2.2.1 = v.2.2.1 := by rw [e]
  rw [zmlp_eq0 inw x v.2.2.1 hs.2.2.1] at h
  rw [e1]
  exact h
theorem c_m_route (E : zG) (l : Launch) (X : va_W) (C : zLs) (y : Nat) (ad : Nat → Nat) (sc : Nat → Int32) (g : Nat → Nat → Int32) (V : zCl) (hR : zMR sc g V) (hI : zInv V) (i : Nat) (hi : i < (vS V).length) (x : Int32) : Met l yX8_routeOf wsX8_routeOf (zR 2 0 0) (zPre E [.ref y, .int (nI i), .int x] (zQ E (X ++ zMw E y ad sc g) C)) (zRi E (zQ E (X ++ zMw E y ad sc g) C) (zrouteV V i x)) 0 0 (eA E) := by
  obtain ⟨v, w, hv, hw, e, hs, hb⟩ := zV_S hI hi
  have h := c_X8_routeOf E l X C y ad sc g V hR.1 hR.2.1 i v hv w hw x
  rw [zmrn_num hb x v.2.2.2 (fun t ht => (hs.2.2.2.1 t ht).1)] at h
  have e1 : zrouteV V i x = zrnum w.1 w.2 v.2.2.2 x := by unfold zrouteV; rw [e]
  rw [e1]
  exact h
theorem c_m_groups (E : zG) (l : Launch) (X : va_W) (C : zLs) (y : Nat) (ad : Nat → Nat) (sc : Nat → Int32) (g : Nat → Nat → Int32) (V : zCl) (hR : zMR sc g V) (hI : zInv V) (i : Nat) (hi : i < (vH V).length) (inw x : Int32) : Met l yX8_byGroups wsX8_byGroups (zR 2 0 0) (zPre E [.ref y, .int (nI i), .int inw, .int x] (zQ E (X ++ zMw E y ad sc g) C)) (zRi E (zQ E (X ++ zMw E y ad sc g) C) (zgps inw x (zhv V i).2.2 (vG V) 0 0)) 0 0 (eA E) := by
  have h := c_X8_byGroups E l X C y ad sc g V hR.2.2.2.2 hR.2.2.1 i (zhv V i) (zhv_get hi) inw x
  have h6 := hR.2.2.2.2.2.1
  rw [zmgq_eq inw x _ (vG V) 0 0 hI.2.2.2.1 (by omega)] at h
  exact h
set_option maxRecDepth 100000 in
set_option maxHeartbeats 4000000 in
/-- byRoute -/
theorem c_m_byRoute (E : zG) (l : Launch) (X : va_W) (C : zLs) (y : Nat) (ad : Nat → Nat) (sc : Nat → Int32) (g : Nat → Nat → Int32) (V : zCl) (hR : zMR sc g V) (hI : zInv V) (i h : Nat) (hi : i < (vS V).length) (hh : h < (vH V).length) : Met l yX8_byRoute wsX8_byRoute (zR 3 0 0) (zPre E [.ref y, .int (nI i), .int (nI h)] (zQ E (X ++ zMw E y ad sc g) C)) (zRi E (zQ E (X ++ zMw E y ad sc g) C) (zaon (zrtdV V i h))) 0 0 (eA E) := by
  refine z_of (cc := cX8_byRoute) (maxL := 7) (ret := (some .int)) (by decide) rfl rfl (Nat.le_of_ble_eq_true rfl) ?_
  intro p e s m below meth c ls Cx hr hnm hw hl
  have hx := Cx.1.1
  have hb := Cx.1.2.1
  obtain ⟨v, w, hv, hw0, e1, hs, hbk⟩ := zV_S hI hi
  obtain ⟨v2, w2, hv2, hw02, e2, hs2, hbk2⟩ := zV_S hI (zV_H hI hh)
  have hi8 : i < 8 := Nat.lt_of_lt_of_le hi hR.2.1.2.1
  have hh12 : h < 12 := Nat.lt_of_lt_of_le hh hR.2.2.1.2.1
  have hj8 : (zhv V h).1 < 8 := Nat.lt_of_lt_of_le (zV_H hI hh) hR.2.1.2.1
  obtain ⟨⟨hn1, hn1'⟩, -⟩ := hR.2.1.2.2 i v hv
  obtain ⟨⟨hn2, hn2'⟩, -⟩ := hR.2.1.2.2 _ v2 hv2
  obtain ⟨⟨hg7, -⟩, hg8, -⟩ := hR.2.2.1.2.2 h _ (zhv_get hh)
  have hN4 := hR.1.2.1
  have f1 : (zsv V i).1 = v.1 := by rw [e1]
  have f2 : (zsv V (zhv V h).1).1 = v2.1 := by rw [e2]
  have hin := zrouteV_in hI hi (zhv V h).2.1
  have hl : lv_has ls 7 [(0, .ref y), (1, .int (nI i)), (2, .int (nI h))] := hl
  refine lv_aload_n hx hb dX8_byRoute_0 rfl (lv_at hl 0 rfl) ?_
  refine lv_iload_n hx hb dX8_byRoute_1 rfl (lv_at hl 1 rfl) ?_
  refine lv_aload_n hx hb dX8_byRoute_2 rfl (lv_at hl 0 rfl) ?_
  refine z_get Cx hw (T := TX8) (N := 26) (ci := 11) (fun _ h => List.mem_cons_of_mem _ (List.mem_append_right _ (h))) zM_x rfl 8 (by decide) (List.mem_of_getElem? (i := 1) rfl) rfl rfl dX8_byRoute_3 ?_
  refine lv_iload_n hx hb dX8_byRoute_6 rfl (lv_at hl 2 rfl) ?_
  refine zm_iald Cx hw (k := 8) (n := 12) (by decide) hh12 dX8_byRoute_7 ?_
  refine lv_topi (fun x_7 ex_7 => ?_)
  rw [hg8] at ex_7
  subst ex_7
  refine z_goe hw.2 (z_runV Cx hw (c_m_route E l X C y ad sc g V hR hI i hi _) (cwV 2 Cx.1.2.2.2.2 gX8_byRoute_X8_routeOf rfl rfl rfl (by decide +kernel) ⟨Nat.le_of_ble_eq_true rfl, Nat.le_of_ble_eq_true rfl⟩) (z_recv Cx hw (r := (RX8, TX8, 26)) zM_x rfl) rfl hl.1 rfl (Nat.le_of_ble_eq_true rfl) dX8_byRoute_8 ⟨Nat.le_of_ble_eq_true rfl, Nat.le_of_ble_eq_true rfl⟩) (fun H locs hw => ?_)
  refine lv_topi (fun rn ern => ?_)
  rw [← ern] at hin
  refine lv_istore_n hx hb dX8_byRoute_11 rfl hl (by decide) rfl (fun ls hl => ?_)
  have hl : lv_has ls 7 [(3, .int rn), (0, .ref y), (1, .int (nI i)), (2, .int (nI h))] := hl
  refine lv_aload_n hx hb dX8_byRoute_12 rfl (lv_at hl 1 rfl) ?_
  refine z_get Cx hw (T := TX8) (N := 26) (ci := 11) (fun _ h => List.mem_cons_of_mem _ (List.mem_append_right _ (h))) zM_x rfl 4 (by decide) (List.mem_of_getElem? (i := 2) rfl) rfl rfl dX8_byRoute_13 ?_
  refine lv_iload_n hx hb dX8_byRoute_16 rfl (lv_at hl 2 rfl) ?_
  refine zm_iald Cx hw (k := 4) (n := 8) (by decide) hi8 dX8_byRoute_17 ?_
  refine lv_topi (fun x_17 ex_17 => ?_)
  rw [hn1] at ex_17
  subst ex_17
  refine lv_istore hx hb dX8_byRoute_18 hl (by decide) rfl (fun ls hl => ?_)
  have hl : lv_has ls 7 [(4, .int (nI v.1)), (3, .int rn), (0, .ref y), (1, .int (nI i)), (2, .int (nI h))] := hl
  refine lv_aload_n hx hb dX8_byRoute_20 rfl (lv_at hl 2 rfl) ?_
  refine z_get Cx hw (T := TX8) (N := 26) (ci := 11) (fun _ h => List.mem_cons_of_mem _ (List.mem_append_right _ (h))) zM_x rfl 4 (by decide) (List.mem_of_getElem? (i := 2) rfl) rfl rfl dX8_byRoute_21 ?_
  refine lv_aload_n hx hb dX8_byRoute_24 rfl (lv_at hl 2 rfl) ?_
  refine z_get Cx hw (T := TX8) (N := 26) (ci := 11) (fun _ h => List.mem_cons_of_mem _ (List.mem_append_right _ (h))) zM_x rfl 7 (by decide) (List.mem_of_getElem? (i := 3) rfl) rfl rfl dX8_byRoute_25 ?_
  refine lv_iload_n hx hb dX8_byRoute_28 rfl (lv_at hl 4 rfl) ?_
  refine zm_iald Cx hw (k := 7) (n := 12) (by decide) hh12 dX8_byRoute_29 ?_
  refine lv_topi (fun x_29 ex_29 => ?_)
  rw [hg7] at ex_29
  subst ex_29
  refine zm_iald Cx hw (k := 4) (n := 8) (by decide) hj8 dX8_byRoute_30 ?_
  refine lv_topi (fun x_30 ex_30 => ?_)
  rw [hn2] at ex_30
  subst ex_30
  refine lv_istore hx hb dX8_byRoute_31 hl (by decide) rfl (fun ls hl => ?_)
  have hl : lv_has ls 7 [(5, .int (nI v2.1)), (4, .int (nI v.1)), (3, .int rn), (0, .ref y), (1, .int (nI i)), (2, .int (nI h))] := hl
  refine lv_iload_n hx hb dX8_byRoute_33 rfl (lv_at hl 2 rfl) ?_
  refine lv_if_lt (tgt := 85) hx hb dX8_byRoute_34 (by decide) (fun c_34 => ?_) (fun c_34 => ?_)
  · skip
    have hres : zaon (zrtdV V i h) = if rn = -1 then 65535 else 0 := by
      rcases hin with ⟨k, -⟩ | k | k
      · rw [if_pos k, zrtdV_l hI hi hh (ern.symm.trans k)]; rfl
      · rw [if_neg (by rw [k]; decide), zrtdV_n (ern.symm.trans k)]; rfl
      · exact absurd c_34 (zix_nn k (Nat.le_trans hI.2.2.2.2 (by omega)))
    refine lv_iconst (v := 0) hx hb dX8_byRoute_85 (by decide) ?_
    refine lv_istore hx hb dX8_byRoute_86 hl (by decide) rfl (fun ls hl => ?_)
    have hl : lv_has ls 7 [(6, _), (5, .int (nI v2.1)), (4, .int (nI v.1)), (3, .int rn), (0, .ref y), (1, .int (nI i)), (2, .int (nI h))] := hl
    refine lv_iload_n hx hb dX8_byRoute_88 rfl (lv_at hl 3 rfl) ?_
    refine lv_iconst (v := -1) hx hb dX8_byRoute_89 (by decide) ?_
    refine lv_icmp_eq (tgt := 98) hx hb dX8_byRoute_90 (by decide) (fun c_90 => ?_) (fun c_90 => ?_)
    · skip
      refine lv_ldc hx hb Cx.1.2.2.2.1 (Cx.1.2.2.2.2 (Cond.constant RX8 131 (65535)) (List.mem_of_getElem? (i := 6) rfl)) dX8_byRoute_98 ?_
      refine lv_goto (tgt := 104) hx hb dX8_byRoute_100 (by decide) ?_
      exact (z_ie Cx hr rfl (Nat.le_of_ble_eq_true rfl) (Nat.le_of_ble_eq_true rfl) hw dX8_byRoute_104 (by first | exact absurd rfl c_95 | exact absurd c_95 (by decide) | (rw [hres, if_pos c_90]) | (rw [hres, if_neg c_90]) | exact absurd c_90 hR1 | (rw [hres, decide_eq_true (p := (q.1 = v.1 ∧ q.2 = v2.1) ∨ (q.1 = v2.1 ∧ q.2 = v.1)) (by omega)]; rfl) | (rw [hres, decide_eq_false (p := (q.1 = v.1 ∧ q.2 = v2.1) ∨ (q.1 = v2.1 ∧ q.2 = v.1)) (by omega)]; rfl)))
    · skip
      refine lv_iload hx hb dX8_byRoute_93 (lv_at hl 0 rfl) ?_
      refine lv_if_eq (tgt := 103) hx hb dX8_byRoute_95 (by decide) (fun c_95 => ?_) (fun c_95 => ?_)
      · skip
        refine lv_iconst (v := 0) hx hb dX8_byRoute_103 (by decide) ?_
        exact (z_ie Cx hr rfl (Nat.le_of_ble_eq_true rfl) (Nat.le_of_ble_eq_true rfl) hw dX8_byRoute_104 (by first | exact absurd rfl c_95 | exact absurd c_95 (by decide) | (rw [hres, if_pos c_90]) | (rw [hres, if_neg c_90]) | exact absurd c_90 hR1 | (rw [hres, decide_eq_true (p := (q.1 = v.1 ∧ q.2 = v2.1) ∨ (q.1 = v2.1 ∧ q.2 = v.1)) (by omega)]; rfl) | (rw [hres, decide_eq_false (p := (q.1 = v.1 ∧ q.2 = v2.1) ∨ (q.1 = v2.1 ∧ q.2 = v.1)) (by omega)]; rfl)))
      · skip
        refine lv_ldc hx hb Cx.1.2.2.2.1 (Cx.1.2.2.2.2 (Cond.constant RX8 131 (65535)) (List.mem_of_getElem? (i := 6) rfl)) dX8_byRoute_98 ?_
        refine lv_goto (tgt := 104) hx hb dX8_byRoute_100 (by decide) ?_
        exact (z_ie Cx hr rfl (Nat.le_of_ble_eq_true rfl) (Nat.le_of_ble_eq_true rfl) hw dX8_byRoute_104 (by first | exact absurd rfl c_95 | exact absurd c_95 (by decide) | (rw [hres, if_pos c_90]) | (rw [hres, if_neg c_90]) | exact absurd c_90 hR1 | (rw [hres, decide_eq_true (p := (q.1 = v.1 ∧ q.2 = v2.1) ∨ (q.1 = v2.1 ∧ q.2 = v.1)) (by omega)]; rfl) | (rw [hres, decide_eq_false (p := (q.1 = v.1 ∧ q.2 = v2.1) ∨ (q.1 = v2.1 ∧ q.2 = v.1)) (by omega)]; rfl)))
  · skip
    obtain ⟨k, hk, ek⟩ : zix rn (vP V).length := by
      rcases hin with ⟨k, -⟩ | k | k
      · exact absurd (by rw [k]; decide) c_34
      · exact absurd (by rw [k]; decide) c_34
      · exact k
    have hk6 : k < 6 := Nat.lt_of_lt_of_le hk hI.2.2.2.2
    obtain ⟨q, hq⟩ : ∃ q, (vP V)[k]? = some q := ⟨_, List.getElem?_eq_getElem hk⟩
    obtain ⟨⟨hq1, hq1'⟩, hq2, hq2'⟩ := hR.2.2.2.1.2.2 k _ hq
    have hres := zrtdV_p (ern.symm.trans ek) hq hk6
    rw [f1, f2] at hres
    have hR1 : ¬ rn = -1 := fun h9 => c_34 (by rw [h9]; decide)
    have n1 : nI q.1 = nI v.1 ↔ q.1 = v.1 := nI_eq (by omega) (by omega)
    have n2 : nI q.2 = nI v2.1 ↔ q.2 = v2.1 := nI_eq (by omega) (by omega)
    have n3 : nI q.1 = nI v2.1 ↔ q.1 = v2.1 := nI_eq (by omega) (by omega)
    have n4 : nI q.2 = nI v.1 ↔ q.2 = v.1 := nI_eq (by omega) (by omega)
    refine lv_aload_n hx hb dX8_byRoute_37 rfl (lv_at hl 3 rfl) ?_
    refine z_get Cx hw (T := TX8) (N := 26) (ci := 11) (fun _ h => List.mem_cons_of_mem _ (List.mem_append_right _ (h))) zM_x rfl 11 (by decide) (List.mem_of_getElem? (i := 4) rfl) rfl rfl dX8_byRoute_38 ?_
    refine lv_iload_n hx hb dX8_byRoute_41 rfl (lv_at hl 2 rfl) ?_
    rw [ek]
    refine zm_iald Cx hw (k := 11) (n := 6) (by decide) hk6 dX8_byRoute_42 ?_
    refine lv_topi (fun x_42 ex_42 => ?_)
    rw [hq1] at ex_42
    subst ex_42
    refine lv_iload hx hb dX8_byRoute_43 (lv_at hl 1 rfl) ?_
    refine lv_icmp_ne (tgt := 59) hx hb dX8_byRoute_45 (by decide) (fun c_45 => ?_) (fun c_45 => ?_)
    · skip
      rw [n1] at c_45
      refine lv_aload_n hx hb dX8_byRoute_59 rfl (lv_at hl 3 rfl) ?_
      refine z_get Cx hw (T := TX8) (N := 26) (ci := 11) (fun _ h => List.mem_cons_of_mem _ (List.mem_append_right _ (h))) zM_x rfl 11 (by decide) (List.mem_of_getElem? (i := 4) rfl) rfl rfl dX8_byRoute_60 ?_
      refine lv_iload_n hx hb dX8_byRoute_63 rfl (lv_at hl 2 rfl) ?_
      rw [ek]
      refine zm_iald Cx hw (k := 11) (n := 6) (by decide) hk6 dX8_byRoute_64 ?_
      refine lv_topi (fun x_64 ex_64 => ?_)
      rw [hq1] at ex_64
      subst ex_64
      refine lv_iload hx hb dX8_byRoute_65 (lv_at hl 0 rfl) ?_
      refine lv_icmp_ne (tgt := 85) hx hb dX8_byRoute_67 (by decide) (fun c_67 => ?_) (fun c_67 => ?_)
      · skip
        rw [n3] at c_67
        refine lv_iconst (v := 0) hx hb dX8_byRoute_85 (by decide) ?_
        refine lv_istore hx hb dX8_byRoute_86 hl (by decide) rfl (fun ls hl => ?_)
        have hl : lv_has ls 7 [(6, _), (5, .int (nI v2.1)), (4, .int (nI v.1)), (3, .int rn), (0, .ref y), (1, .int (nI i)), (2, .int (nI h))] := hl
        refine lv_iload_n hx hb dX8_byRoute_88 rfl (lv_at hl 3 rfl) ?_
        refine lv_iconst (v := -1) hx hb dX8_byRoute_89 (by decide) ?_
        refine lv_icmp_eq (tgt := 98) hx hb dX8_byRoute_90 (by decide) (fun c_90 => ?_) (fun c_90 => ?_)
        · skip
          refine lv_ldc hx hb Cx.1.2.2.2.1 (Cx.1.2.2.2.2 (Cond.constant RX8 131 (65535)) (List.mem_of_getElem? (i := 6) rfl)) dX8_byRoute_98 ?_
          refine lv_goto (tgt := 104) hx hb dX8_byRoute_100 (by decide) ?_
          exact (z_ie Cx hr rfl (Nat.le_of_ble_eq_true rfl) (Nat.le_of_ble_eq_true rfl) hw dX8_byRoute_104 (by first | exact absurd rfl c_95 | exact absurd c_95 (by decide) | (rw [hres, if_pos c_90]) | (rw [hres, if_neg c_90]) | exact absurd c_90 hR1 | (rw [hres, decide_eq_true (p := (q.1 = v.1 ∧ q.2 = v2.1) ∨ (q.1 = v2.1 ∧ q.2 = v.1)) (by omega)]; rfl) | (rw [hres, decide_eq_false (p := (q.1 = v.1 ∧ q.2 = v2.1) ∨ (q.1 = v2.1 ∧ q.2 = v.1)) (by omega)]; rfl)))
        · skip
          refine lv_iload hx hb dX8_byRoute_93 (lv_at hl 0 rfl) ?_
          refine lv_if_eq (tgt := 103) hx hb dX8_byRoute_95 (by decide) (fun c_95 => ?_) (fun c_95 => ?_)
          · skip
            refine lv_iconst (v := 0) hx hb dX8_byRoute_103 (by decide) ?_
            exact (z_ie Cx hr rfl (Nat.le_of_ble_eq_true rfl) (Nat.le_of_ble_eq_true rfl) hw dX8_byRoute_104 (by first | exact absurd rfl c_95 | exact absurd c_95 (by decide) | (rw [hres, if_pos c_90]) | (rw [hres, if_neg c_90]) | exact absurd c_90 hR1 | (rw [hres, decide_eq_true (p := (q.1 = v.1 ∧ q.2 = v2.1) ∨ (q.1 = v2.1 ∧ q.2 = v.1)) (by omega)]; rfl) | (rw [hres, decide_eq_false (p := (q.1 = v.1 ∧ q.2 = v2.1) ∨ (q.1 = v2.1 ∧ q.2 = v.1)) (by omega)]; rfl)))
          · skip
            refine lv_ldc hx hb Cx.1.2.2.2.1 (Cx.1.2.2.2.2 (Cond.constant RX8 131 (65535)) (List.mem_of_getElem? (i := 6) rfl)) dX8_byRoute_98 ?_
            refine lv_goto (tgt := 104) hx hb dX8_byRoute_100 (by decide) ?_
            exact (z_ie Cx hr rfl (Nat.le_of_ble_eq_true rfl) (Nat.le_of_ble_eq_true rfl) hw dX8_byRoute_104 (by first | exact absurd rfl c_95 | exact absurd c_95 (by decide) | (rw [hres, if_pos c_90]) | (rw [hres, if_neg c_90]) | exact absurd c_90 hR1 | (rw [hres, decide_eq_true (p := (q.1 = v.1 ∧ q.2 = v2.1) ∨ (q.1 = v2.1 ∧ q.2 = v.1)) (by omega)]; rfl) | (rw [hres, decide_eq_false (p := (q.1 = v.1 ∧ q.2 = v2.1) ∨ (q.1 = v2.1 ∧ q.2 = v.1)) (by omega)]; rfl)))
      · skip
        rw [n3] at c_67
        refine lv_aload_n hx hb dX8_byRoute_70 rfl (lv_at hl 3 rfl) ?_
        refine z_get Cx hw (T := TX8) (N := 26) (ci := 11) (fun _ h => List.mem_cons_of_mem _ (List.mem_append_right _ (h))) zM_x rfl 12 (by decide) (List.mem_of_getElem? (i := 5) rfl) rfl rfl dX8_byRoute_71 ?_
        refine lv_iload_n hx hb dX8_byRoute_74 rfl (lv_at hl 2 rfl) ?_
        rw [ek]
        refine zm_iald Cx hw (k := 12) (n := 6) (by decide) hk6 dX8_byRoute_75 ?_
        refine lv_topi (fun x_75 ex_75 => ?_)
        rw [hq2] at ex_75
        subst ex_75
        refine lv_iload hx hb dX8_byRoute_76 (lv_at hl 1 rfl) ?_
        refine lv_icmp_ne (tgt := 85) hx hb dX8_byRoute_78 (by decide) (fun c_78 => ?_) (fun c_78 => ?_)
        · skip
          rw [n4] at c_78
          refine lv_iconst (v := 0) hx hb dX8_byRoute_85 (by decide) ?_
          refine lv_istore hx hb dX8_byRoute_86 hl (by decide) rfl (fun ls hl => ?_)
          have hl : lv_has ls 7 [(6, _), (5, .int (nI v2.1)), (4, .int (nI v.1)), (3, .int rn), (0, .ref y), (1, .int (nI i)), (2, .int (nI h))] := hl
          refine lv_iload_n hx hb dX8_byRoute_88 rfl (lv_at hl 3 rfl) ?_
          refine lv_iconst (v := -1) hx hb dX8_byRoute_89 (by decide) ?_
          refine lv_icmp_eq (tgt := 98) hx hb dX8_byRoute_90 (by decide) (fun c_90 => ?_) (fun c_90 => ?_)
          · skip
            refine lv_ldc hx hb Cx.1.2.2.2.1 (Cx.1.2.2.2.2 (Cond.constant RX8 131 (65535)) (List.mem_of_getElem? (i := 6) rfl)) dX8_byRoute_98 ?_
            refine lv_goto (tgt := 104) hx hb dX8_byRoute_100 (by decide) ?_
            exact (z_ie Cx hr rfl (Nat.le_of_ble_eq_true rfl) (Nat.le_of_ble_eq_true rfl) hw dX8_byRoute_104 (by first | exact absurd rfl c_95 | exact absurd c_95 (by decide) | (rw [hres, if_pos c_90]) | (rw [hres, if_neg c_90]) | exact absurd c_90 hR1 | (rw [hres, decide_eq_true (p := (q.1 = v.1 ∧ q.2 = v2.1) ∨ (q.1 = v2.1 ∧ q.2 = v.1)) (by omega)]; rfl) | (rw [hres, decide_eq_false (p := (q.1 = v.1 ∧ q.2 = v2.1) ∨ (q.1 = v2.1 ∧ q.2 = v.1)) (by omega)]; rfl)))
          · skip
            refine lv_iload hx hb dX8_byRoute_93 (lv_at hl 0 rfl) ?_
            refine lv_if_eq (tgt := 103) hx hb dX8_byRoute_95 (by decide) (fun c_95 => ?_) (fun c_95 => ?_)
            · skip
              refine lv_iconst (v := 0) hx hb dX8_byRoute_103 (by decide) ?_
              exact (z_ie Cx hr rfl (Nat.le_of_ble_eq_true rfl) (Nat.le_of_ble_eq_true rfl) hw dX8_byRoute_104 (by first | exact absurd rfl c_95 | exact absurd c_95 (by decide) | (rw [hres, if_pos c_90]) | (rw [hres, if_neg c_90]) | exact absurd c_90 hR1 | (rw [hres, decide_eq_true (p := (q.1 = v.1 ∧ q.2 = v2.1) ∨ (q.1 = v2.1 ∧ q.2 = v.1)) (by omega)]; rfl) | (rw [hres, decide_eq_false (p := (q.1 = v.1 ∧ q.2 = v2.1) ∨ (q.1 = v2.1 ∧ q.2 = v.1)) (by omega)]; rfl)))
            · skip
              refine lv_ldc hx hb Cx.1.2.2.2.1 (Cx.1.2.2.2.2 (Cond.constant RX8 131 (65535)) (List.mem_of_getElem? (i := 6) rfl)) dX8_byRoute_98 ?_
              refine lv_goto (tgt := 104) hx hb dX8_byRoute_100 (by decide) ?_
              exact (z_ie Cx hr rfl (Nat.le_of_ble_eq_true rfl) (Nat.le_of_ble_eq_true rfl) hw dX8_byRoute_104 (by first | exact absurd rfl c_95 | exact absurd c_95 (by decide) | (rw [hres, if_pos c_90]) | (rw [hres, if_neg c_90]) | exact absurd c_90 hR1 | (rw [hres, decide_eq_true (p := (q.1 = v.1 ∧ q.2 = v2.1) ∨ (q.1 = v2.1 ∧ q.2 = v.1)) (by omega)]; rfl) | (rw [hres, decide_eq_false (p := (q.1 = v.1 ∧ q.2 = v2.1) ∨ (q.1 = v2.1 ∧ q.2 = v.1)) (by omega)]; rfl)))
        · skip
          rw [n4] at c_78
          refine lv_iconst (v := 1) hx hb dX8_byRoute_81 (by decide) ?_
          refine lv_goto (tgt := 86) hx hb dX8_byRoute_82 (by decide) ?_
          refine lv_istore hx hb dX8_byRoute_86 hl (by decide) rfl (fun ls hl => ?_)
          have hl : lv_has ls 7 [(6, _), (5, .int (nI v2.1)), (4, .int (nI v.1)), (3, .int rn), (0, .ref y), (1, .int (nI i)), (2, .int (nI h))] := hl
          refine lv_iload_n hx hb dX8_byRoute_88 rfl (lv_at hl 3 rfl) ?_
          refine lv_iconst (v := -1) hx hb dX8_byRoute_89 (by decide) ?_
          refine lv_icmp_eq (tgt := 98) hx hb dX8_byRoute_90 (by decide) (fun c_90 => ?_) (fun c_90 => ?_)
          · skip
            refine lv_ldc hx hb Cx.1.2.2.2.1 (Cx.1.2.2.2.2 (Cond.constant RX8 131 (65535)) (List.mem_of_getElem? (i := 6) rfl)) dX8_byRoute_98 ?_
            refine lv_goto (tgt := 104) hx hb dX8_byRoute_100 (by decide) ?_
            exact (z_ie Cx hr rfl (Nat.le_of_ble_eq_true rfl) (Nat.le_of_ble_eq_true rfl) hw dX8_byRoute_104 (by first | exact absurd rfl c_95 | exact absurd c_95 (by decide) | (rw [hres, if_pos c_90]) | (rw [hres, if_neg c_90]) | exact absurd c_90 hR1 | (rw [hres, decide_eq_true (p := (q.1 = v.1 ∧ q.2 = v2.1) ∨ (q.1 = v2.1 ∧ q.2 = v.1)) (by omega)]; rfl) | (rw [hres, decide_eq_false (p := (q.1 = v.1 ∧ q.2 = v2.1) ∨ (q.1 = v2.1 ∧ q.2 = v.1)) (by omega)]; rfl)))
          · skip
            refine lv_iload hx hb dX8_byRoute_93 (lv_at hl 0 rfl) ?_
            refine lv_if_eq (tgt := 103) hx hb dX8_byRoute_95 (by decide) (fun c_95 => ?_) (fun c_95 => ?_)
            · skip
              refine lv_iconst (v := 0) hx hb dX8_byRoute_103 (by decide) ?_
              exact (z_ie Cx hr rfl (Nat.le_of_ble_eq_true rfl) (Nat.le_of_ble_eq_true rfl) hw dX8_byRoute_104 (by first | exact absurd rfl c_95 | exact absurd c_95 (by decide) | (rw [hres, if_pos c_90]) | (rw [hres, if_neg c_90]) | exact absurd c_90 hR1 | (rw [hres, decide_eq_true (p := (q.1 = v.1 ∧ q.2 = v2.1) ∨ (q.1 = v2.1 ∧ q.2 = v.1)) (by omega)]; rfl) | (rw [hres, decide_eq_false (p := (q.1 = v.1 ∧ q.2 = v2.1) ∨ (q.1 = v2.1 ∧ q.2 = v.1)) (by omega)]; rfl)))
            · skip
              refine lv_ldc hx hb Cx.1.2.2.2.1 (Cx.1.2.2.2.2 (Cond.constant RX8 131 (65535)) (List.mem_of_getElem? (i := 6) rfl)) dX8_byRoute_98 ?_
              refine lv_goto (tgt := 104) hx hb dX8_byRoute_100 (by decide) ?_
              exact (z_ie Cx hr rfl (Nat.le_of_ble_eq_true rfl) (Nat.le_of_ble_eq_true rfl) hw dX8_byRoute_104 (by first | exact absurd rfl c_95 | exact absurd c_95 (by decide) | (rw [hres, if_pos c_90]) | (rw [hres, if_neg c_90]) | exact absurd c_90 hR1 | (rw [hres, decide_eq_true (p := (q.1 = v.1 ∧ q.2 = v2.1) ∨ (q.1 = v2.1 ∧ q.2 = v.1)) (by omega)]; rfl) | (rw [hres, decide_eq_false (p := (q.1 = v.1 ∧ q.2 = v2.1) ∨ (q.1 = v2.1 ∧ q.2 = v.1)) (by omega)]; rfl)))
    · skip
      rw [n1] at c_45
      refine lv_aload_n hx hb dX8_byRoute_48 rfl (lv_at hl 3 rfl) ?_
      refine z_get Cx hw (T := TX8) (N := 26) (ci := 11) (fun _ h => List.mem_cons_of_mem _ (List.mem_append_right _ (h))) zM_x rfl 12 (by decide) (List.mem_of_getElem? (i := 5) rfl) rfl rfl dX8_byRoute_49 ?_
      refine lv_iload_n hx hb dX8_byRoute_52 rfl (lv_at hl 2 rfl) ?_
      rw [ek]
      refine zm_iald Cx hw (k := 12) (n := 6) (by decide) hk6 dX8_byRoute_53 ?_
      refine lv_topi (fun x_53 ex_53 => ?_)
      rw [hq2] at ex_53
      subst ex_53
      refine lv_iload hx hb dX8_byRoute_54 (lv_at hl 0 rfl) ?_
      refine lv_icmp_eq (tgt := 81) hx hb dX8_byRoute_56 (by decide) (fun c_56 => ?_) (fun c_56 => ?_)
      · skip
        rw [n2] at c_56
        refine lv_iconst (v := 1) hx hb dX8_byRoute_81 (by decide) ?_
        refine lv_goto (tgt := 86) hx hb dX8_byRoute_82 (by decide) ?_
        refine lv_istore hx hb dX8_byRoute_86 hl (by decide) rfl (fun ls hl => ?_)
        have hl : lv_has ls 7 [(6, _), (5, .int (nI v2.1)), (4, .int (nI v.1)), (3, .int rn), (0, .ref y), (1, .int (nI i)), (2, .int (nI h))] := hl
        refine lv_iload_n hx hb dX8_byRoute_88 rfl (lv_at hl 3 rfl) ?_
        refine lv_iconst (v := -1) hx hb dX8_byRoute_89 (by decide) ?_
        refine lv_icmp_eq (tgt := 98) hx hb dX8_byRoute_90 (by decide) (fun c_90 => ?_) (fun c_90 => ?_)
        · skip
          refine lv_ldc hx hb Cx.1.2.2.2.1 (Cx.1.2.2.2.2 (Cond.constant RX8 131 (65535)) (List.mem_of_getElem? (i := 6) rfl)) dX8_byRoute_98 ?_
          refine lv_goto (tgt := 104) hx hb dX8_byRoute_100 (by decide) ?_
          exact (z_ie Cx hr rfl (Nat.le_of_ble_eq_true rfl) (Nat.le_of_ble_eq_true rfl) hw dX8_byRoute_104 (by first | exact absurd rfl c_95 | exact absurd c_95 (by decide) | (rw [hres, if_pos c_90]) | (rw [hres, if_neg c_90]) | exact absurd c_90 hR1 | (rw [hres, decide_eq_true (p := (q.1 = v.1 ∧ q.2 = v2.1) ∨ (q.1 = v2.1 ∧ q.2 = v.1)) (by omega)]; rfl) | (rw [hres, decide_eq_false (p := (q.1 = v.1 ∧ q.2 = v2.1) ∨ (q.1 = v2.1 ∧ q.2 = v.1)) (by omega)]; rfl)))
        · skip
          refine lv_iload hx hb dX8_byRoute_93 (lv_at hl 0 rfl) ?_
          refine lv_if_eq (tgt := 103) hx hb dX8_byRoute_95 (by decide) (fun c_95 => ?_) (fun c_95 => ?_)
          · skip
            refine lv_iconst (v := 0) hx hb dX8_byRoute_103 (by decide) ?_
            exact (z_ie Cx hr rfl (Nat.le_of_ble_eq_true rfl) (Nat.le_of_ble_eq_true rfl) hw dX8_byRoute_104 (by first | exact absurd rfl c_95 | exact absurd c_95 (by decide) | (rw [hres, if_pos c_90]) | (rw [hres, if_neg c_90]) | exact absurd c_90 hR1 | (rw [hres, decide_eq_true (p := (q.1 = v.1 ∧ q.2 = v2.1) ∨ (q.1 = v2.1 ∧ q.2 = v.1)) (by omega)]; rfl) | (rw [hres, decide_eq_false (p := (q.1 = v.1 ∧ q.2 = v2.1) ∨ (q.1 = v2.1 ∧ q.2 = v.1)) (by omega)]; rfl)))
          · skip
            refine lv_ldc hx hb Cx.1.2.2.2.1 (Cx.1.2.2.2.2 (Cond.constant RX8 131 (65535)) (List.mem_of_getElem? (i := 6) rfl)) dX8_byRoute_98 ?_
            refine lv_goto (tgt := 104) hx hb dX8_byRoute_100 (by decide) ?_
            exact (z_ie Cx hr rfl (Nat.le_of_ble_eq_true rfl) (Nat.le_of_ble_eq_true rfl) hw dX8_byRoute_104 (by first | exact absurd rfl c_95 | exact absurd c_95 (by decide) | (rw [hres, if_pos c_90]) | (rw [hres, if_neg c_90]) | exact absurd c_90 hR1 | (rw [hres, decide_eq_true (p := (q.1 = v.1 ∧ q.2 = v2.1) ∨ (q.1 = v2.1 ∧ q.2 = v.1)) (by omega)]; rfl) | (rw [hres, decide_eq_false (p := (q.1 = v.1 ∧ q.2 = v2.1) ∨ (q.1 = v2.1 ∧ q.2 = v.1)) (by omega)]; rfl)))
      · skip
        rw [n2] at c_56
        refine lv_aload_n hx hb dX8_byRoute_59 rfl (lv_at hl 3 rfl) ?_
        refine z_get Cx hw (T := TX8) (N := 26) (ci := 11) (fun _ h => List.mem_cons_of_mem _ (List.mem_append_right _ (h))) zM_x rfl 11 (by decide) (List.mem_of_getElem? (i := 4) rfl) rfl rfl dX8_byRoute_60 ?_
        refine lv_iload_n hx hb dX8_byRoute_63 rfl (lv_at hl 2 rfl) ?_
        rw [ek]
        refine zm_iald Cx hw (k := 11) (n := 6) (by decide) hk6 dX8_byRoute_64 ?_
        refine lv_topi (fun x_64 ex_64 => ?_)
        rw [hq1] at ex_64
        subst ex_64
        refine lv_iload hx hb dX8_byRoute_65 (lv_at hl 0 rfl) ?_
        refine lv_icmp_ne (tgt := 85) hx hb dX8_byRoute_67 (by decide) (fun c_67 => ?_) (fun c_67 => ?_)
        · skip
          rw [n3] at c_67
          refine lv_iconst (v := 0) hx hb dX8_byRoute_85 (by decide) ?_
          refine lv_istore hx hb dX8_byRoute_86 hl (by decide) rfl (fun ls hl => ?_)
          have hl : lv_has ls 7 [(6, _), (5, .int (nI v2.1)), (4, .int (nI v.1)), (3, .int rn), (0, .ref y), (1, .int (nI i)), (2, .int (nI h))] := hl
          refine lv_iload_n hx hb dX8_byRoute_88 rfl (lv_at hl 3 rfl) ?_
          refine lv_iconst (v := -1) hx hb dX8_byRoute_89 (by decide) ?_
          refine lv_icmp_eq (tgt := 98) hx hb dX8_byRoute_90 (by decide) (fun c_90 => ?_) (fun c_90 => ?_)
          · skip
            refine lv_ldc hx hb Cx.1.2.2.2.1 (Cx.1.2.2.2.2 (Cond.constant RX8 131 (65535)) (List.mem_of_getElem? (i := 6) rfl)) dX8_byRoute_98 ?_
            refine lv_goto (tgt := 104) hx hb dX8_byRoute_100 (by decide) ?_
            exact (z_ie Cx hr rfl (Nat.le_of_ble_eq_true rfl) (Nat.le_of_ble_eq_true rfl) hw dX8_byRoute_104 (by first | exact absurd rfl c_95 | exact absurd c_95 (by decide) | (rw [hres, if_pos c_90]) | (rw [hres, if_neg c_90]) | exact absurd c_90 hR1 | (rw [hres, decide_eq_true (p := (q.1 = v.1 ∧ q.2 = v2.1) ∨ (q.1 = v2.1 ∧ q.2 = v.1)) (by omega)]; rfl) | (rw [hres, decide_eq_false (p := (q.1 = v.1 ∧ q.2 = v2.1) ∨ (q.1 = v2.1 ∧ q.2 = v.1)) (by omega)]; rfl)))
          · skip
            refine lv_iload hx hb dX8_byRoute_93 (lv_at hl 0 rfl) ?_
            refine lv_if_eq (tgt := 103) hx hb dX8_byRoute_95 (by decide) (fun c_95 => ?_) (fun c_95 => ?_)
            · skip
              refine lv_iconst (v := 0) hx hb dX8_byRoute_103 (by decide) ?_
              exact (z_ie Cx hr rfl (Nat.le_of_ble_eq_true rfl) (Nat.le_of_ble_eq_true rfl) hw dX8_byRoute_104 (by first | exact absurd rfl c_95 | exact absurd c_95 (by decide) | (rw [hres, if_pos c_90]) | (rw [hres, if_neg c_90]) | exact absurd c_90 hR1 | (rw [hres, decide_eq_true (p := (q.1 = v.1 ∧ q.2 = v2.1) ∨ (q.1 = v2.1 ∧ q.2 = v.1)) (by omega)]; rfl) | (rw [hres, decide_eq_false (p := (q.1 = v.1 ∧ q.2 = v2.1) ∨ (q.1 = v2.1 ∧ q.2 = v.1)) (by omega)]; rfl)))
            · skip
              refine lv_ldc hx hb Cx.1.2.2.2.1 (Cx.1.2.2.2.2 (Cond.constant RX8 131 (65535)) (List.mem_of_getElem? (i := 6) rfl)) dX8_byRoute_98 ?_
              refine lv_goto (tgt := 104) hx hb dX8_byRoute_100 (by decide) ?_
              exact (z_ie Cx hr rfl (Nat.le_of_ble_eq_true rfl) (Nat.le_of_ble_eq_true rfl) hw dX8_byRoute_104 (by first | exact absurd rfl c_95 | exact absurd c_95 (by decide) | (rw [hres, if_pos c_90]) | (rw [hres, if_neg c_90]) | exact absurd c_90 hR1 | (rw [hres, decide_eq_true (p := (q.1 = v.1 ∧ q.2 = v2.1) ∨ (q.1 = v2.1 ∧ q.2 = v.1)) (by omega)]; rfl) | (rw [hres, decide_eq_false (p := (q.1 = v.1 ∧ q.2 = v2.1) ∨ (q.1 = v2.1 ∧ q.2 = v.1)) (by omega)]; rfl)))
        · skip
          rw [n3] at c_67
          refine lv_aload_n hx hb dX8_byRoute_70 rfl (lv_at hl 3 rfl) ?_
          refine z_get Cx hw (T := TX8) (N := 26) (ci := 11) (fun _ h => List.mem_cons_of_mem _ (List.mem_append_right _ (h))) zM_x rfl 12 (by decide) (List.mem_of_getElem? (i := 5) rfl) rfl rfl dX8_byRoute_71 ?_
          refine lv_iload_n hx hb dX8_byRoute_74 rfl (lv_at hl 2 rfl) ?_
          rw [ek]
          refine zm_iald Cx hw (k := 12) (n := 6) (by decide) hk6 dX8_byRoute_75 ?_
          refine lv_topi (fun x_75 ex_75 => ?_)
          rw [hq2] at ex_75
          subst ex_75
          refine lv_iload hx hb dX8_byRoute_76 (lv_at hl 1 rfl) ?_
          refine lv_icmp_ne (tgt := 85) hx hb dX8_byRoute_78 (by decide) (fun c_78 => ?_) (fun c_78 => ?_)
          · skip
            rw [n4] at c_78
            refine lv_iconst (v := 0) hx hb dX8_byRoute_85 (by decide) ?_
            refine lv_istore hx hb dX8_byRoute_86 hl (by decide) rfl (fun ls hl => ?_)
            have hl : lv_has ls 7 [(6, _), (5, .int (nI v2.1)), (4, .int (nI v.1)), (3, .int rn), (0, .ref y), (1, .int (nI i)), (2, .int (nI h))] := hl
            refine lv_iload_n hx hb dX8_byRoute_88 rfl (lv_at hl 3 rfl) ?_
            refine lv_iconst (v := -1) hx hb dX8_byRoute_89 (by decide) ?_
            refine lv_icmp_eq (tgt := 98) hx hb dX8_byRoute_90 (by decide) (fun c_90 => ?_) (fun c_90 => ?_)
            · skip
              refine lv_ldc hx hb Cx.1.2.2.2.1 (Cx.1.2.2.2.2 (Cond.constant RX8 131 (65535)) (List.mem_of_getElem? (i := 6) rfl)) dX8_byRoute_98 ?_
              refine lv_goto (tgt := 104) hx hb dX8_byRoute_100 (by decide) ?_
              exact (z_ie Cx hr rfl (Nat.le_of_ble_eq_true rfl) (Nat.le_of_ble_eq_true rfl) hw dX8_byRoute_104 (by first | exact absurd rfl c_95 | exact absurd c_95 (by decide) | (rw [hres, if_pos c_90]) | (rw [hres, if_neg c_90]) | exact absurd c_90 hR1 | (rw [hres, decide_eq_true (p := (q.1 = v.1 ∧ q.2 = v2.1) ∨ (q.1 = v2.1 ∧ q.2 = v.1)) (by omega)]; rfl) | (rw [hres, decide_eq_false (p := (q.1 = v.1 ∧ q.2 = v2.1) ∨ (q.1 = v2.1 ∧ q.2 = v.1)) (by omega)]; rfl)))
            · skip
              refine lv_iload hx hb dX8_byRoute_93 (lv_at hl 0 rfl) ?_
              refine lv_if_eq (tgt := 103) hx hb dX8_byRoute_95 (by decide) (fun c_95 => ?_) (fun c_95 => ?_)
              · skip
                refine lv_iconst (v := 0) hx hb dX8_byRoute_103 (by decide) ?_
                exact (z_ie Cx hr rfl (Nat.le_of_ble_eq_true rfl) (Nat.le_of_ble_eq_true rfl) hw dX8_byRoute_104 (by first | exact absurd rfl c_95 | exact absurd c_95 (by decide) | (rw [hres, if_pos c_90]) | (rw [hres, if_neg c_90]) | exact absurd c_90 hR1 | (rw [hres, decide_eq_true (p := (q.1 = v.1 ∧ q.2 = v2.1) ∨ (q.1 = v2.1 ∧ q.2 = v.1)) (by omega)]; rfl) | (rw [hres, decide_eq_false (p := (q.1 = v.1 ∧ q.2 = v2.1) ∨ (q.1 = v2.1 ∧ q.2 = v.1)) (by omega)]; rfl)))
              · skip
                refine lv_ldc hx hb Cx.1.2.2.2.1 (Cx.1.2.2.2.2 (Cond.constant RX8 131 (65535)) (List.mem_of_getElem? (i := 6) rfl)) dX8_byRoute_98 ?_
                refine lv_goto (tgt := 104) hx hb dX8_byRoute_100 (by decide) ?_
                exact (z_ie Cx hr rfl (Nat.le_of_ble_eq_true rfl) (Nat.le_of_ble_eq_true rfl) hw dX8_byRoute_104 (by first | exact absurd rfl c_95 | exact absurd c_95 (by decide) | (rw [hres, if_pos c_90]) | (rw [hres, if_neg c_90]) | exact absurd c_90 hR1 | (rw [hres, decide_eq_true (p := (q.1 = v.1 ∧ q.2 = v2.1) ∨ (q.1 = v2.1 ∧ q.2 = v.1)) (by omega)]; rfl) | (rw [hres, decide_eq_false (p := (q.1 = v.1 ∧ q.2 = v2.1) ∨ (q.1 = v2.1 ∧ q.2 = v.1)) (by omega)]; rfl)))
          · skip
            rw [n4] at c_78
            refine lv_iconst (v := 1) hx hb dX8_byRoute_81 (by decide) ?_
            refine lv_goto (tgt := 86) hx hb dX8_byRoute_82 (by decide) ?_
            refine lv_istore hx hb dX8_byRoute_86 hl (by decide) rfl (fun ls hl => ?_)
            have hl : lv_has ls 7 [(6, _), (5, .int (nI v2.1)), (4, .int (nI v.1)), (3, .int rn), (0, .ref y), (1, .int (nI i)), (2, .int (nI h))] := hl
            refine lv_iload_n hx hb dX8_byRoute_88 rfl (lv_at hl 3 rfl) ?_
            refine lv_iconst (v := -1) hx hb dX8_byRoute_89 (by decide) ?_
            refine lv_icmp_eq (tgt := 98) hx hb dX8_byRoute_90 (by decide) (fun c_90 => ?_) (fun c_90 => ?_)
            · skip
              refine lv_ldc hx hb Cx.1.2.2.2.1 (Cx.1.2.2.2.2 (Cond.constant RX8 131 (65535)) (List.mem_of_getElem? (i := 6) rfl)) dX8_byRoute_98 ?_
              refine lv_goto (tgt := 104) hx hb dX8_byRoute_100 (by decide) ?_
              exact (z_ie Cx hr rfl (Nat.le_of_ble_eq_true rfl) (Nat.le_of_ble_eq_true rfl) hw dX8_byRoute_104 (by first | exact absurd rfl c_95 | exact absurd c_95 (by decide) | (rw [hres, if_pos c_90]) | (rw [hres, if_neg c_90]) | exact absurd c_90 hR1 | (rw [hres, decide_eq_true (p := (q.1 = v.1 ∧ q.2 = v2.1) ∨ (q.1 = v2.1 ∧ q.2 = v.1)) (by omega)]; rfl) | (rw [hres, decide_eq_false (p := (q.1 = v.1 ∧ q.2 = v2.1) ∨ (q.1 = v2.1 ∧ q.2 = v.1)) (by omega)]; rfl)))
            · skip
              refine lv_iload hx hb dX8_byRoute_93 (lv_at hl 0 rfl) ?_
              refine lv_if_eq (tgt := 103) hx hb dX8_byRoute_95 (by decide) (fun c_95 => ?_) (fun c_95 => ?_)
              · skip
                refine lv_iconst (v := 0) hx hb dX8_byRoute_103 (by decide) ?_
                exact (z_ie Cx hr rfl (Nat.le_of_ble_eq_true rfl) (Nat.le_of_ble_eq_true rfl) hw dX8_byRoute_104 (by first | exact absurd rfl c_95 | exact absurd c_95 (by decide) | (rw [hres, if_pos c_90]) | (rw [hres, if_neg c_90]) | exact absurd c_90 hR1 | (rw [hres, decide_eq_true (p := (q.1 = v.1 ∧ q.2 = v2.1) ∨ (q.1 = v2.1 ∧ q.2 = v.1)) (by omega)]; rfl) | (rw [hres, decide_eq_false (p := (q.1 = v.1 ∧ q.2 = v2.1) ∨ (q.1 = v2.1 ∧ q.2 = v.1)) (by omega)]; rfl)))
              · skip
                refine lv_ldc hx hb Cx.1.2.2.2.1 (Cx.1.2.2.2.2 (Cond.constant RX8 131 (65535)) (List.mem_of_getElem? (i := 6) rfl)) dX8_byRoute_98 ?_
                refine lv_goto (tgt := 104) hx hb dX8_byRoute_100 (by decide) ?_
                exact (z_ie Cx hr rfl (Nat.le_of_ble_eq_true rfl) (Nat.le_of_ble_eq_true rfl) hw dX8_byRoute_104 (by first | exact absurd rfl c_95 | exact absurd c_95 (by decide) | (rw [hres, if_pos c_90]) | (rw [hres, if_neg c_90]) | exact absurd c_90 hR1 | (rw [hres, decide_eq_true (p := (q.1 = v.1 ∧ q.2 = v2.1) ∨ (q.1 = v2.1 ∧ q.2 = v.1)) (by omega)]; rfl) | (rw [hres, decide_eq_false (p := (q.1 = v.1 ∧ q.2 = v2.1) ∨ (q.1 = v2.1 ∧ q.2 = v.1)) (by omega)]; rfl)))

set_option maxRecDepth 100000 in
set_option maxHeartbeats 4000000 in
/-- byPart 1 -/
theorem c_m_part_1 (E : zG) (l : Launch) (X : va_W) (C : zLs) (y : Nat) (ad : Nat → Nat) (sc : Nat → Int32) (g : Nat → Nat → Int32) (V : zCl) (hR : zMR sc g V) (hI : zInv V) (f t : Nat) (hf : f < (vH V).length) (ht : t < (vH V).length) : Met l yX8_byPart wsX8_byPart (zR 4 0 0) (zPre E [.ref y, .int (nI 1), .int (nI f), .int (nI t)] (zQ E (X ++ zMw E y ad sc g) C)) (zRi E (zQ E (X ++ zMw E y ad sc g) C) (zopenV V 1 f t)) 0 0 (eA E) := by
  refine z_of (cc := cX8_byPart) (maxL := 7) (ret := (some .int)) (by decide) rfl rfl (Nat.le_of_ble_eq_true rfl) ?_
  intro p e s m below meth c ls Cx hr hnm hw hl
  have hx := Cx.1.1
  have hb := Cx.1.2.1
  have hf12 : f < 12 := Nat.lt_of_lt_of_le hf hR.2.2.1.2.1
  have ht12 : t < 12 := Nat.lt_of_lt_of_le ht hR.2.2.1.2.1
  have hs1 := zV_H hI hf
  have hs2 := zV_H hI ht
  obtain ⟨⟨hf7, -⟩, hf8, -⟩ := hR.2.2.1.2.2 f _ (zhv_get hf)
  obtain ⟨⟨ht7, -⟩, ht8, -⟩ := hR.2.2.1.2.2 t _ (zhv_get ht)
  have hse : nI (zhv V f).1 = nI (zhv V t).1 ↔ (zhv V f).1 = (zhv V t).1 := nI_eq (by have := hR.2.1.2.1; omega) (by have := hR.2.1.2.1; omega)
  have hl : lv_has ls 7 [(0, .ref y), (1, .int (nI 1)), (2, .int (nI f)), (3, .int (nI t))] := hl
  refine lv_iload_n hx hb dX8_byPart_0 rfl (lv_at hl 1 rfl) ?_
  refine lv_iconst (v := 1) hx hb dX8_byPart_1 (by decide) ?_
  refine lv_icmp_eq (tgt := 10) hx hb dX8_byPart_2 (by decide) (fun c_2 => ?_) (fun c_2 => ?_)
  · skip
    refine lv_iload_n hx hb dX8_byPart_10 rfl (lv_at hl 1 rfl) ?_
    refine lv_iconst (v := 1) hx hb dX8_byPart_11 (by decide) ?_
    refine lv_icmp_ne (tgt := 30) hx hb dX8_byPart_12 (by decide) (fun c_12 => ?_) (fun c_12 => ?_)
    · skip
      exact absurd rfl c_12
    · skip
      refine lv_aload_n hx hb dX8_byPart_15 rfl (lv_at hl 0 rfl) ?_
      refine lv_iload_n hx hb dX8_byPart_16 rfl (lv_at hl 2 rfl) ?_
      refine lv_iconst (v := 0) hx hb dX8_byPart_17 (by decide) ?_
      refine lv_aload_n hx hb dX8_byPart_18 rfl (lv_at hl 0 rfl) ?_
      refine z_get Cx hw (T := TX8) (N := 26) (ci := 11) (fun _ h => List.mem_cons_of_mem _ (List.mem_append_right _ (h))) zM_x rfl 8 (by decide) (List.mem_of_getElem? (i := 1) rfl) rfl rfl dX8_byPart_19 ?_
      refine lv_iload_n hx hb dX8_byPart_22 rfl (lv_at hl 3 rfl) ?_
      refine zm_iald Cx hw (k := 8) (n := 12) (by decide) ht12 dX8_byPart_23 ?_
      refine lv_topi (fun x_23 ex_23 => ?_)
      rw [ht8] at ex_23
      subst ex_23
      refine z_goe hw.2 (z_runV Cx hw (c_m_groups E l X C y ad sc g V hR hI f hf 0 (zhv V t).2.1) (cwV 3 Cx.1.2.2.2.2 gX8_byPart_X8_byGroups rfl rfl rfl (by decide +kernel) ⟨Nat.le_of_ble_eq_true rfl, Nat.le_of_ble_eq_true rfl⟩) (z_recv Cx hw (r := (RX8, TX8, 26)) zM_x rfl) rfl hl.1 rfl (Nat.le_of_ble_eq_true rfl) dX8_byPart_24 ⟨Nat.le_of_ble_eq_true rfl, Nat.le_of_ble_eq_true rfl⟩) (fun H locs hw => ?_)
      refine lv_goto (tgt := 42) hx hb dX8_byPart_27 (by decide) ?_
      exact (z_ie Cx hr rfl (Nat.le_of_ble_eq_true rfl) (Nat.le_of_ble_eq_true rfl) hw dX8_byPart_42 (by simp [zopenV, zopen]))
  · skip
    exact absurd rfl c_2

set_option maxRecDepth 100000 in
set_option maxHeartbeats 4000000 in
/-- byPart 2 -/
theorem c_m_part_2 (E : zG) (l : Launch) (X : va_W) (C : zLs) (y : Nat) (ad : Nat → Nat) (sc : Nat → Int32) (g : Nat → Nat → Int32) (V : zCl) (hR : zMR sc g V) (hI : zInv V) (f t : Nat) (hf : f < (vH V).length) (ht : t < (vH V).length) : Met l yX8_byPart wsX8_byPart (zR 4 0 0) (zPre E [.ref y, .int (nI 2), .int (nI f), .int (nI t)] (zQ E (X ++ zMw E y ad sc g) C)) (zRi E (zQ E (X ++ zMw E y ad sc g) C) (zopenV V 2 f t)) 0 0 (eA E) := by
  refine z_of (cc := cX8_byPart) (maxL := 7) (ret := (some .int)) (by decide) rfl rfl (Nat.le_of_ble_eq_true rfl) ?_
  intro p e s m below meth c ls Cx hr hnm hw hl
  have hx := Cx.1.1
  have hb := Cx.1.2.1
  have hf12 : f < 12 := Nat.lt_of_lt_of_le hf hR.2.2.1.2.1
  have ht12 : t < 12 := Nat.lt_of_lt_of_le ht hR.2.2.1.2.1
  have hs1 := zV_H hI hf
  have hs2 := zV_H hI ht
  obtain ⟨⟨hf7, -⟩, hf8, -⟩ := hR.2.2.1.2.2 f _ (zhv_get hf)
  obtain ⟨⟨ht7, -⟩, ht8, -⟩ := hR.2.2.1.2.2 t _ (zhv_get ht)
  have hse : nI (zhv V f).1 = nI (zhv V t).1 ↔ (zhv V f).1 = (zhv V t).1 := nI_eq (by have := hR.2.1.2.1; omega) (by have := hR.2.1.2.1; omega)
  have hl : lv_has ls 7 [(0, .ref y), (1, .int (nI 2)), (2, .int (nI f)), (3, .int (nI t))] := hl
  refine lv_iload_n hx hb dX8_byPart_0 rfl (lv_at hl 1 rfl) ?_
  refine lv_iconst (v := 1) hx hb dX8_byPart_1 (by decide) ?_
  refine lv_icmp_eq (tgt := 10) hx hb dX8_byPart_2 (by decide) (fun c_2 => ?_) (fun c_2 => ?_)
  · skip
    exact absurd c_2 (by decide)
  · skip
    refine lv_iload_n hx hb dX8_byPart_5 rfl (lv_at hl 1 rfl) ?_
    refine lv_iconst (v := 5) hx hb dX8_byPart_6 (by decide) ?_
    refine lv_icmp_ne (tgt := 43) hx hb dX8_byPart_7 (by decide) (fun c_7 => ?_) (fun c_7 => ?_)
    · skip
      refine lv_aload_n hx hb dX8_byPart_43 rfl (lv_at hl 0 rfl) ?_
      refine z_get Cx hw (T := TX8) (N := 26) (ci := 11) (fun _ h => List.mem_cons_of_mem _ (List.mem_append_right _ (h))) zM_x rfl 7 (by decide) (List.mem_of_getElem? (i := 2) rfl) rfl rfl dX8_byPart_44 ?_
      refine lv_iload_n hx hb dX8_byPart_47 rfl (lv_at hl 2 rfl) ?_
      refine zm_iald Cx hw (k := 7) (n := 12) (by decide) hf12 dX8_byPart_48 ?_
      refine lv_topi (fun x_48 ex_48 => ?_)
      rw [hf7] at ex_48
      subst ex_48
      refine lv_istore hx hb dX8_byPart_49 hl (by decide) rfl (fun ls hl => ?_)
      have hl : lv_has ls 7 [(4, .int (nI (zhv V f).1)), (0, .ref y), (1, .int (nI 2)), (2, .int (nI f)), (3, .int (nI t))] := hl
      refine lv_aload_n hx hb dX8_byPart_51 rfl (lv_at hl 1 rfl) ?_
      refine z_get Cx hw (T := TX8) (N := 26) (ci := 11) (fun _ h => List.mem_cons_of_mem _ (List.mem_append_right _ (h))) zM_x rfl 7 (by decide) (List.mem_of_getElem? (i := 2) rfl) rfl rfl dX8_byPart_52 ?_
      refine lv_iload_n hx hb dX8_byPart_55 rfl (lv_at hl 4 rfl) ?_
      refine zm_iald Cx hw (k := 7) (n := 12) (by decide) ht12 dX8_byPart_56 ?_
      refine lv_topi (fun x_56 ex_56 => ?_)
      rw [ht7] at ex_56
      subst ex_56
      refine lv_istore hx hb dX8_byPart_57 hl (by decide) rfl (fun ls hl => ?_)
      have hl : lv_has ls 7 [(5, .int (nI (zhv V t).1)), (4, .int (nI (zhv V f).1)), (0, .ref y), (1, .int (nI 2)), (2, .int (nI f)), (3, .int (nI t))] := hl
      refine lv_iload hx hb dX8_byPart_59 (lv_at hl 1 rfl) ?_
      refine lv_iload hx hb dX8_byPart_61 (lv_at hl 0 rfl) ?_
      refine lv_icmp_ne (tgt := 69) hx hb dX8_byPart_63 (by decide) (fun c_63 => ?_) (fun c_63 => ?_)
      · skip
        have hs12 : ¬ (zhv V f).1 = (zhv V t).1 := fun h => c_63 (hse.mpr h)
        refine lv_iload_n hx hb dX8_byPart_69 rfl (lv_at hl 3 rfl) ?_
        refine lv_iconst (v := 3) hx hb dX8_byPart_70 (by decide) ?_
        refine lv_icmp_eq (tgt := 80) hx hb dX8_byPart_71 (by decide) (fun c_71 => ?_) (fun c_71 => ?_)
        · skip
          exact absurd c_71 (by decide)
        · skip
          refine lv_iload_n hx hb dX8_byPart_74 rfl (lv_at hl 3 rfl) ?_
          refine lv_bipush (v := 7) hx hb dX8_byPart_75 (by decide) ?_
          refine lv_icmp_ne (tgt := 103) hx hb dX8_byPart_77 (by decide) (fun c_77 => ?_) (fun c_77 => ?_)
          · skip
            refine lv_iload_n hx hb dX8_byPart_103 rfl (lv_at hl 3 rfl) ?_
            refine lv_iconst (v := 2) hx hb dX8_byPart_104 (by decide) ?_
            refine lv_icmp_eq (tgt := 113) hx hb dX8_byPart_105 (by decide) (fun c_105 => ?_) (fun c_105 => ?_)
            · skip
              refine lv_iload_n hx hb dX8_byPart_113 rfl (lv_at hl 3 rfl) ?_
              refine lv_iconst (v := 2) hx hb dX8_byPart_114 (by decide) ?_
              refine lv_icmp_ne (tgt := 134) hx hb dX8_byPart_115 (by decide) (fun c_115 => ?_) (fun c_115 => ?_)
              · skip
                exact absurd rfl c_115
              · skip
                refine lv_aload_n hx hb dX8_byPart_118 rfl (lv_at hl 2 rfl) ?_
                refine lv_iload hx hb dX8_byPart_119 (lv_at hl 1 rfl) ?_
                refine lv_iconst (v := 0) hx hb dX8_byPart_121 (by decide) ?_
                refine lv_aload_n hx hb dX8_byPart_122 rfl (lv_at hl 2 rfl) ?_
                refine z_get Cx hw (T := TX8) (N := 26) (ci := 11) (fun _ h => List.mem_cons_of_mem _ (List.mem_append_right _ (h))) zM_x rfl 8 (by decide) (List.mem_of_getElem? (i := 1) rfl) rfl rfl dX8_byPart_123 ?_
                refine lv_iload_n hx hb dX8_byPart_126 rfl (lv_at hl 5 rfl) ?_
                refine zm_iald Cx hw (k := 8) (n := 12) (by decide) ht12 dX8_byPart_127 ?_
                refine lv_topi (fun x_127 ex_127 => ?_)
                rw [ht8] at ex_127
                subst ex_127
                refine z_goe hw.2 (z_runV Cx hw (c_m_list E l X C y ad sc g V hR hI (zhv V f).1 hs1 0 (zhv V t).2.1) (cwV 3 Cx.1.2.2.2.2 gX8_byPart_X8_byList rfl rfl rfl (by decide +kernel) ⟨Nat.le_of_ble_eq_true rfl, Nat.le_of_ble_eq_true rfl⟩) (z_recv Cx hw (r := (RX8, TX8, 26)) zM_x rfl) rfl hl.1 rfl (Nat.le_of_ble_eq_true rfl) dX8_byPart_128 ⟨Nat.le_of_ble_eq_true rfl, Nat.le_of_ble_eq_true rfl⟩) (fun H locs hw => ?_)
                refine lv_goto (tgt := 147) hx hb dX8_byPart_131 (by decide) ?_
                exact (z_ie Cx hr rfl (Nat.le_of_ble_eq_true rfl) (Nat.le_of_ble_eq_true rfl) hw dX8_byPart_147 (by simp [zopenV, zopen, zrtdV, zrouteV, hs12]))
            · skip
              exact absurd rfl c_105
          · skip
            exact absurd c_77 (by decide)
      · skip
        have hs12 : (zhv V f).1 = (zhv V t).1 := hse.mp c_63
        refine lv_ldc hx hb Cx.1.2.2.2.1 (Cx.1.2.2.2.2 (Cond.constant RX8 131 (65535)) (List.mem_of_getElem? (i := 3) rfl)) dX8_byPart_66 ?_
        exact (z_ie Cx hr rfl (Nat.le_of_ble_eq_true rfl) (Nat.le_of_ble_eq_true rfl) hw dX8_byPart_68 (by simp [zopenV, zopen, zrtdV, zrouteV, hs12]))
    · skip
      exact absurd c_7 (by decide)

set_option maxRecDepth 100000 in
set_option maxHeartbeats 4000000 in
/-- byPart 3 -/
theorem c_m_part_3 (E : zG) (l : Launch) (X : va_W) (C : zLs) (y : Nat) (ad : Nat → Nat) (sc : Nat → Int32) (g : Nat → Nat → Int32) (V : zCl) (hR : zMR sc g V) (hI : zInv V) (f t : Nat) (hf : f < (vH V).length) (ht : t < (vH V).length) : Met l yX8_byPart wsX8_byPart (zR 4 0 0) (zPre E [.ref y, .int (nI 3), .int (nI f), .int (nI t)] (zQ E (X ++ zMw E y ad sc g) C)) (zRi E (zQ E (X ++ zMw E y ad sc g) C) (zopenV V 3 f t)) 0 0 (eA E) := by
  refine z_of (cc := cX8_byPart) (maxL := 7) (ret := (some .int)) (by decide) rfl rfl (Nat.le_of_ble_eq_true rfl) ?_
  intro p e s m below meth c ls Cx hr hnm hw hl
  have hx := Cx.1.1
  have hb := Cx.1.2.1
  have hf12 : f < 12 := Nat.lt_of_lt_of_le hf hR.2.2.1.2.1
  have ht12 : t < 12 := Nat.lt_of_lt_of_le ht hR.2.2.1.2.1
  have hs1 := zV_H hI hf
  have hs2 := zV_H hI ht
  obtain ⟨⟨hf7, -⟩, hf8, -⟩ := hR.2.2.1.2.2 f _ (zhv_get hf)
  obtain ⟨⟨ht7, -⟩, ht8, -⟩ := hR.2.2.1.2.2 t _ (zhv_get ht)
  have hse : nI (zhv V f).1 = nI (zhv V t).1 ↔ (zhv V f).1 = (zhv V t).1 := nI_eq (by have := hR.2.1.2.1; omega) (by have := hR.2.1.2.1; omega)
  have hl : lv_has ls 7 [(0, .ref y), (1, .int (nI 3)), (2, .int (nI f)), (3, .int (nI t))] := hl
  refine lv_iload_n hx hb dX8_byPart_0 rfl (lv_at hl 1 rfl) ?_
  refine lv_iconst (v := 1) hx hb dX8_byPart_1 (by decide) ?_
  refine lv_icmp_eq (tgt := 10) hx hb dX8_byPart_2 (by decide) (fun c_2 => ?_) (fun c_2 => ?_)
  · skip
    exact absurd c_2 (by decide)
  · skip
    refine lv_iload_n hx hb dX8_byPart_5 rfl (lv_at hl 1 rfl) ?_
    refine lv_iconst (v := 5) hx hb dX8_byPart_6 (by decide) ?_
    refine lv_icmp_ne (tgt := 43) hx hb dX8_byPart_7 (by decide) (fun c_7 => ?_) (fun c_7 => ?_)
    · skip
      refine lv_aload_n hx hb dX8_byPart_43 rfl (lv_at hl 0 rfl) ?_
      refine z_get Cx hw (T := TX8) (N := 26) (ci := 11) (fun _ h => List.mem_cons_of_mem _ (List.mem_append_right _ (h))) zM_x rfl 7 (by decide) (List.mem_of_getElem? (i := 2) rfl) rfl rfl dX8_byPart_44 ?_
      refine lv_iload_n hx hb dX8_byPart_47 rfl (lv_at hl 2 rfl) ?_
      refine zm_iald Cx hw (k := 7) (n := 12) (by decide) hf12 dX8_byPart_48 ?_
      refine lv_topi (fun x_48 ex_48 => ?_)
      rw [hf7] at ex_48
      subst ex_48
      refine lv_istore hx hb dX8_byPart_49 hl (by decide) rfl (fun ls hl => ?_)
      have hl : lv_has ls 7 [(4, .int (nI (zhv V f).1)), (0, .ref y), (1, .int (nI 3)), (2, .int (nI f)), (3, .int (nI t))] := hl
      refine lv_aload_n hx hb dX8_byPart_51 rfl (lv_at hl 1 rfl) ?_
      refine z_get Cx hw (T := TX8) (N := 26) (ci := 11) (fun _ h => List.mem_cons_of_mem _ (List.mem_append_right _ (h))) zM_x rfl 7 (by decide) (List.mem_of_getElem? (i := 2) rfl) rfl rfl dX8_byPart_52 ?_
      refine lv_iload_n hx hb dX8_byPart_55 rfl (lv_at hl 4 rfl) ?_
      refine zm_iald Cx hw (k := 7) (n := 12) (by decide) ht12 dX8_byPart_56 ?_
      refine lv_topi (fun x_56 ex_56 => ?_)
      rw [ht7] at ex_56
      subst ex_56
      refine lv_istore hx hb dX8_byPart_57 hl (by decide) rfl (fun ls hl => ?_)
      have hl : lv_has ls 7 [(5, .int (nI (zhv V t).1)), (4, .int (nI (zhv V f).1)), (0, .ref y), (1, .int (nI 3)), (2, .int (nI f)), (3, .int (nI t))] := hl
      refine lv_iload hx hb dX8_byPart_59 (lv_at hl 1 rfl) ?_
      refine lv_iload hx hb dX8_byPart_61 (lv_at hl 0 rfl) ?_
      refine lv_icmp_ne (tgt := 69) hx hb dX8_byPart_63 (by decide) (fun c_63 => ?_) (fun c_63 => ?_)
      · skip
        have hs12 : ¬ (zhv V f).1 = (zhv V t).1 := fun h => c_63 (hse.mpr h)
        refine lv_iload_n hx hb dX8_byPart_69 rfl (lv_at hl 3 rfl) ?_
        refine lv_iconst (v := 3) hx hb dX8_byPart_70 (by decide) ?_
        refine lv_icmp_eq (tgt := 80) hx hb dX8_byPart_71 (by decide) (fun c_71 => ?_) (fun c_71 => ?_)
        · skip
          refine lv_iload_n hx hb dX8_byPart_80 rfl (lv_at hl 3 rfl) ?_
          refine lv_iconst (v := 3) hx hb dX8_byPart_81 (by decide) ?_
          refine lv_icmp_ne (tgt := 95) hx hb dX8_byPart_82 (by decide) (fun c_82 => ?_) (fun c_82 => ?_)
          · skip
            exact absurd rfl c_82
          · skip
            refine lv_aload_n hx hb dX8_byPart_85 rfl (lv_at hl 2 rfl) ?_
            refine lv_iload hx hb dX8_byPart_86 (lv_at hl 1 rfl) ?_
            refine lv_iload_n hx hb dX8_byPart_88 rfl (lv_at hl 5 rfl) ?_
            refine z_goe hw.2 (z_runV Cx hw (c_m_byRoute E l X C y ad sc g V hR hI (zhv V f).1 t hs1 ht) (cwV 2 Cx.1.2.2.2.2 gX8_byPart_X8_byRoute rfl rfl rfl (by decide +kernel) ⟨Nat.le_of_ble_eq_true rfl, Nat.le_of_ble_eq_true rfl⟩) (z_recv Cx hw (r := (RX8, TX8, 26)) zM_x rfl) rfl hl.1 rfl (Nat.le_of_ble_eq_true rfl) dX8_byPart_89 ⟨Nat.le_of_ble_eq_true rfl, Nat.le_of_ble_eq_true rfl⟩) (fun H locs hw => ?_)
            refine lv_goto (tgt := 102) hx hb dX8_byPart_92 (by decide) ?_
            exact (z_ie Cx hr rfl (Nat.le_of_ble_eq_true rfl) (Nat.le_of_ble_eq_true rfl) hw dX8_byPart_102 (by simp [zopenV, zopen, zrtdV, zrouteV, hs12]))
        · skip
          exact absurd rfl c_71
      · skip
        have hs12 : (zhv V f).1 = (zhv V t).1 := hse.mp c_63
        refine lv_ldc hx hb Cx.1.2.2.2.1 (Cx.1.2.2.2.2 (Cond.constant RX8 131 (65535)) (List.mem_of_getElem? (i := 3) rfl)) dX8_byPart_66 ?_
        exact (z_ie Cx hr rfl (Nat.le_of_ble_eq_true rfl) (Nat.le_of_ble_eq_true rfl) hw dX8_byPart_68 (by simp [zopenV, zopen, zrtdV, zrouteV, hs12]))
    · skip
      exact absurd c_7 (by decide)

set_option maxRecDepth 100000 in
set_option maxHeartbeats 4000000 in
/-- byPart 4 -/
theorem c_m_part_4 (E : zG) (l : Launch) (X : va_W) (C : zLs) (y : Nat) (ad : Nat → Nat) (sc : Nat → Int32) (g : Nat → Nat → Int32) (V : zCl) (hR : zMR sc g V) (hI : zInv V) (f t : Nat) (hf : f < (vH V).length) (ht : t < (vH V).length) : Met l yX8_byPart wsX8_byPart (zR 4 0 0) (zPre E [.ref y, .int (nI 4), .int (nI f), .int (nI t)] (zQ E (X ++ zMw E y ad sc g) C)) (zRi E (zQ E (X ++ zMw E y ad sc g) C) (zopenV V 4 f t)) 0 0 (eA E) := by
  refine z_of (cc := cX8_byPart) (maxL := 7) (ret := (some .int)) (by decide) rfl rfl (Nat.le_of_ble_eq_true rfl) ?_
  intro p e s m below meth c ls Cx hr hnm hw hl
  have hx := Cx.1.1
  have hb := Cx.1.2.1
  have hf12 : f < 12 := Nat.lt_of_lt_of_le hf hR.2.2.1.2.1
  have ht12 : t < 12 := Nat.lt_of_lt_of_le ht hR.2.2.1.2.1
  have hs1 := zV_H hI hf
  have hs2 := zV_H hI ht
  obtain ⟨⟨hf7, -⟩, hf8, -⟩ := hR.2.2.1.2.2 f _ (zhv_get hf)
  obtain ⟨⟨ht7, -⟩, ht8, -⟩ := hR.2.2.1.2.2 t _ (zhv_get ht)
  have hse : nI (zhv V f).1 = nI (zhv V t).1 ↔ (zhv V f).1 = (zhv V t).1 := nI_eq (by have := hR.2.1.2.1; omega) (by have := hR.2.1.2.1; omega)
  have hl : lv_has ls 7 [(0, .ref y), (1, .int (nI 4)), (2, .int (nI f)), (3, .int (nI t))] := hl
  refine lv_iload_n hx hb dX8_byPart_0 rfl (lv_at hl 1 rfl) ?_
  refine lv_iconst (v := 1) hx hb dX8_byPart_1 (by decide) ?_
  refine lv_icmp_eq (tgt := 10) hx hb dX8_byPart_2 (by decide) (fun c_2 => ?_) (fun c_2 => ?_)
  · skip
    exact absurd c_2 (by decide)
  · skip
    refine lv_iload_n hx hb dX8_byPart_5 rfl (lv_at hl 1 rfl) ?_
    refine lv_iconst (v := 5) hx hb dX8_byPart_6 (by decide) ?_
    refine lv_icmp_ne (tgt := 43) hx hb dX8_byPart_7 (by decide) (fun c_7 => ?_) (fun c_7 => ?_)
    · skip
      refine lv_aload_n hx hb dX8_byPart_43 rfl (lv_at hl 0 rfl) ?_
      refine z_get Cx hw (T := TX8) (N := 26) (ci := 11) (fun _ h => List.mem_cons_of_mem _ (List.mem_append_right _ (h))) zM_x rfl 7 (by decide) (List.mem_of_getElem? (i := 2) rfl) rfl rfl dX8_byPart_44 ?_
      refine lv_iload_n hx hb dX8_byPart_47 rfl (lv_at hl 2 rfl) ?_
      refine zm_iald Cx hw (k := 7) (n := 12) (by decide) hf12 dX8_byPart_48 ?_
      refine lv_topi (fun x_48 ex_48 => ?_)
      rw [hf7] at ex_48
      subst ex_48
      refine lv_istore hx hb dX8_byPart_49 hl (by decide) rfl (fun ls hl => ?_)
      have hl : lv_has ls 7 [(4, .int (nI (zhv V f).1)), (0, .ref y), (1, .int (nI 4)), (2, .int (nI f)), (3, .int (nI t))] := hl
      refine lv_aload_n hx hb dX8_byPart_51 rfl (lv_at hl 1 rfl) ?_
      refine z_get Cx hw (T := TX8) (N := 26) (ci := 11) (fun _ h => List.mem_cons_of_mem _ (List.mem_append_right _ (h))) zM_x rfl 7 (by decide) (List.mem_of_getElem? (i := 2) rfl) rfl rfl dX8_byPart_52 ?_
      refine lv_iload_n hx hb dX8_byPart_55 rfl (lv_at hl 4 rfl) ?_
      refine zm_iald Cx hw (k := 7) (n := 12) (by decide) ht12 dX8_byPart_56 ?_
      refine lv_topi (fun x_56 ex_56 => ?_)
      rw [ht7] at ex_56
      subst ex_56
      refine lv_istore hx hb dX8_byPart_57 hl (by decide) rfl (fun ls hl => ?_)
      have hl : lv_has ls 7 [(5, .int (nI (zhv V t).1)), (4, .int (nI (zhv V f).1)), (0, .ref y), (1, .int (nI 4)), (2, .int (nI f)), (3, .int (nI t))] := hl
      refine lv_iload hx hb dX8_byPart_59 (lv_at hl 1 rfl) ?_
      refine lv_iload hx hb dX8_byPart_61 (lv_at hl 0 rfl) ?_
      refine lv_icmp_ne (tgt := 69) hx hb dX8_byPart_63 (by decide) (fun c_63 => ?_) (fun c_63 => ?_)
      · skip
        have hs12 : ¬ (zhv V f).1 = (zhv V t).1 := fun h => c_63 (hse.mpr h)
        refine lv_iload_n hx hb dX8_byPart_69 rfl (lv_at hl 3 rfl) ?_
        refine lv_iconst (v := 3) hx hb dX8_byPart_70 (by decide) ?_
        refine lv_icmp_eq (tgt := 80) hx hb dX8_byPart_71 (by decide) (fun c_71 => ?_) (fun c_71 => ?_)
        · skip
          exact absurd c_71 (by decide)
        · skip
          refine lv_iload_n hx hb dX8_byPart_74 rfl (lv_at hl 3 rfl) ?_
          refine lv_bipush (v := 7) hx hb dX8_byPart_75 (by decide) ?_
          refine lv_icmp_ne (tgt := 103) hx hb dX8_byPart_77 (by decide) (fun c_77 => ?_) (fun c_77 => ?_)
          · skip
            refine lv_iload_n hx hb dX8_byPart_103 rfl (lv_at hl 3 rfl) ?_
            refine lv_iconst (v := 2) hx hb dX8_byPart_104 (by decide) ?_
            refine lv_icmp_eq (tgt := 113) hx hb dX8_byPart_105 (by decide) (fun c_105 => ?_) (fun c_105 => ?_)
            · skip
              exact absurd c_105 (by decide)
            · skip
              refine lv_iload_n hx hb dX8_byPart_108 rfl (lv_at hl 3 rfl) ?_
              refine lv_iconst (v := 4) hx hb dX8_byPart_109 (by decide) ?_
              refine lv_icmp_ne (tgt := 148) hx hb dX8_byPart_110 (by decide) (fun c_110 => ?_) (fun c_110 => ?_)
              · skip
                exact absurd rfl c_110
              · skip
                refine lv_iload_n hx hb dX8_byPart_113 rfl (lv_at hl 3 rfl) ?_
                refine lv_iconst (v := 2) hx hb dX8_byPart_114 (by decide) ?_
                refine lv_icmp_ne (tgt := 134) hx hb dX8_byPart_115 (by decide) (fun c_115 => ?_) (fun c_115 => ?_)
                · skip
                  refine lv_aload_n hx hb dX8_byPart_134 rfl (lv_at hl 2 rfl) ?_
                  refine lv_iload hx hb dX8_byPart_135 (lv_at hl 0 rfl) ?_
                  refine lv_iconst (v := 1) hx hb dX8_byPart_137 (by decide) ?_
                  refine lv_aload_n hx hb dX8_byPart_138 rfl (lv_at hl 2 rfl) ?_
                  refine z_get Cx hw (T := TX8) (N := 26) (ci := 11) (fun _ h => List.mem_cons_of_mem _ (List.mem_append_right _ (h))) zM_x rfl 8 (by decide) (List.mem_of_getElem? (i := 1) rfl) rfl rfl dX8_byPart_139 ?_
                  refine lv_iload_n hx hb dX8_byPart_142 rfl (lv_at hl 4 rfl) ?_
                  refine zm_iald Cx hw (k := 8) (n := 12) (by decide) hf12 dX8_byPart_143 ?_
                  refine lv_topi (fun x_143 ex_143 => ?_)
                  rw [hf8] at ex_143
                  subst ex_143
                  refine z_goe hw.2 (z_runV Cx hw (c_m_list E l X C y ad sc g V hR hI (zhv V t).1 hs2 1 (zhv V f).2.1) (cwV 3 Cx.1.2.2.2.2 gX8_byPart_X8_byList rfl rfl rfl (by decide +kernel) ⟨Nat.le_of_ble_eq_true rfl, Nat.le_of_ble_eq_true rfl⟩) (z_recv Cx hw (r := (RX8, TX8, 26)) zM_x rfl) rfl hl.1 rfl (Nat.le_of_ble_eq_true rfl) dX8_byPart_144 ⟨Nat.le_of_ble_eq_true rfl, Nat.le_of_ble_eq_true rfl⟩) (fun H locs hw => ?_)
                  exact (z_ie Cx hr rfl (Nat.le_of_ble_eq_true rfl) (Nat.le_of_ble_eq_true rfl) hw dX8_byPart_147 (by simp [zopenV, zopen, zrtdV, zrouteV, hs12]))
                · skip
                  exact absurd c_115 (by decide)
          · skip
            exact absurd c_77 (by decide)
      · skip
        have hs12 : (zhv V f).1 = (zhv V t).1 := hse.mp c_63
        refine lv_ldc hx hb Cx.1.2.2.2.1 (Cx.1.2.2.2.2 (Cond.constant RX8 131 (65535)) (List.mem_of_getElem? (i := 3) rfl)) dX8_byPart_66 ?_
        exact (z_ie Cx hr rfl (Nat.le_of_ble_eq_true rfl) (Nat.le_of_ble_eq_true rfl) hw dX8_byPart_68 (by simp [zopenV, zopen, zrtdV, zrouteV, hs12]))
    · skip
      exact absurd c_7 (by decide)

set_option maxRecDepth 100000 in
set_option maxHeartbeats 4000000 in
/-- byPart 5 -/
theorem c_m_part_5 (E : zG) (l : Launch) (X : va_W) (C : zLs) (y : Nat) (ad : Nat → Nat) (sc : Nat → Int32) (g : Nat → Nat → Int32) (V : zCl) (hR : zMR sc g V) (hI : zInv V) (f t : Nat) (hf : f < (vH V).length) (ht : t < (vH V).length) : Met l yX8_byPart wsX8_byPart (zR 4 0 0) (zPre E [.ref y, .int (nI 5), .int (nI f), .int (nI t)] (zQ E (X ++ zMw E y ad sc g) C)) (zRi E (zQ E (X ++ zMw E y ad sc g) C) (zopenV V 5 f t)) 0 0 (eA E) := by
  refine z_of (cc := cX8_byPart) (maxL := 7) (ret := (some .int)) (by decide) rfl rfl (Nat.le_of_ble_eq_true rfl) ?_
  intro p e s m below meth c ls Cx hr hnm hw hl
  have hx := Cx.1.1
  have hb := Cx.1.2.1
  have hf12 : f < 12 := Nat.lt_of_lt_of_le hf hR.2.2.1.2.1
  have ht12 : t < 12 := Nat.lt_of_lt_of_le ht hR.2.2.1.2.1
  have hs1 := zV_H hI hf
  have hs2 := zV_H hI ht
  obtain ⟨⟨hf7, -⟩, hf8, -⟩ := hR.2.2.1.2.2 f _ (zhv_get hf)
  obtain ⟨⟨ht7, -⟩, ht8, -⟩ := hR.2.2.1.2.2 t _ (zhv_get ht)
  have hse : nI (zhv V f).1 = nI (zhv V t).1 ↔ (zhv V f).1 = (zhv V t).1 := nI_eq (by have := hR.2.1.2.1; omega) (by have := hR.2.1.2.1; omega)
  have hl : lv_has ls 7 [(0, .ref y), (1, .int (nI 5)), (2, .int (nI f)), (3, .int (nI t))] := hl
  refine lv_iload_n hx hb dX8_byPart_0 rfl (lv_at hl 1 rfl) ?_
  refine lv_iconst (v := 1) hx hb dX8_byPart_1 (by decide) ?_
  refine lv_icmp_eq (tgt := 10) hx hb dX8_byPart_2 (by decide) (fun c_2 => ?_) (fun c_2 => ?_)
  · skip
    exact absurd c_2 (by decide)
  · skip
    refine lv_iload_n hx hb dX8_byPart_5 rfl (lv_at hl 1 rfl) ?_
    refine lv_iconst (v := 5) hx hb dX8_byPart_6 (by decide) ?_
    refine lv_icmp_ne (tgt := 43) hx hb dX8_byPart_7 (by decide) (fun c_7 => ?_) (fun c_7 => ?_)
    · skip
      exact absurd rfl c_7
    · skip
      refine lv_iload_n hx hb dX8_byPart_10 rfl (lv_at hl 1 rfl) ?_
      refine lv_iconst (v := 1) hx hb dX8_byPart_11 (by decide) ?_
      refine lv_icmp_ne (tgt := 30) hx hb dX8_byPart_12 (by decide) (fun c_12 => ?_) (fun c_12 => ?_)
      · skip
        refine lv_aload_n hx hb dX8_byPart_30 rfl (lv_at hl 0 rfl) ?_
        refine lv_iload_n hx hb dX8_byPart_31 rfl (lv_at hl 3 rfl) ?_
        refine lv_iconst (v := 1) hx hb dX8_byPart_32 (by decide) ?_
        refine lv_aload_n hx hb dX8_byPart_33 rfl (lv_at hl 0 rfl) ?_
        refine z_get Cx hw (T := TX8) (N := 26) (ci := 11) (fun _ h => List.mem_cons_of_mem _ (List.mem_append_right _ (h))) zM_x rfl 8 (by decide) (List.mem_of_getElem? (i := 1) rfl) rfl rfl dX8_byPart_34 ?_
        refine lv_iload_n hx hb dX8_byPart_37 rfl (lv_at hl 2 rfl) ?_
        refine zm_iald Cx hw (k := 8) (n := 12) (by decide) hf12 dX8_byPart_38 ?_
        refine lv_topi (fun x_38 ex_38 => ?_)
        rw [hf8] at ex_38
        subst ex_38
        refine z_goe hw.2 (z_runV Cx hw (c_m_groups E l X C y ad sc g V hR hI t ht 1 (zhv V f).2.1) (cwV 3 Cx.1.2.2.2.2 gX8_byPart_X8_byGroups rfl rfl rfl (by decide +kernel) ⟨Nat.le_of_ble_eq_true rfl, Nat.le_of_ble_eq_true rfl⟩) (z_recv Cx hw (r := (RX8, TX8, 26)) zM_x rfl) rfl hl.1 rfl (Nat.le_of_ble_eq_true rfl) dX8_byPart_39 ⟨Nat.le_of_ble_eq_true rfl, Nat.le_of_ble_eq_true rfl⟩) (fun H locs hw => ?_)
        exact (z_ie Cx hr rfl (Nat.le_of_ble_eq_true rfl) (Nat.le_of_ble_eq_true rfl) hw dX8_byPart_42 (by simp [zopenV, zopen]))
      · skip
        exact absurd c_12 (by decide)

set_option maxRecDepth 100000 in
set_option maxHeartbeats 4000000 in
/-- byPart 6 -/
theorem c_m_part_6 (E : zG) (l : Launch) (X : va_W) (C : zLs) (y : Nat) (ad : Nat → Nat) (sc : Nat → Int32) (g : Nat → Nat → Int32) (V : zCl) (hR : zMR sc g V) (hI : zInv V) (f t : Nat) (hf : f < (vH V).length) (ht : t < (vH V).length) : Met l yX8_byPart wsX8_byPart (zR 4 0 0) (zPre E [.ref y, .int (nI 6), .int (nI f), .int (nI t)] (zQ E (X ++ zMw E y ad sc g) C)) (zRi E (zQ E (X ++ zMw E y ad sc g) C) (zopenV V 6 f t)) 0 0 (eA E) := by
  refine z_of (cc := cX8_byPart) (maxL := 7) (ret := (some .int)) (by decide) rfl rfl (Nat.le_of_ble_eq_true rfl) ?_
  intro p e s m below meth c ls Cx hr hnm hw hl
  have hx := Cx.1.1
  have hb := Cx.1.2.1
  have hf12 : f < 12 := Nat.lt_of_lt_of_le hf hR.2.2.1.2.1
  have ht12 : t < 12 := Nat.lt_of_lt_of_le ht hR.2.2.1.2.1
  have hs1 := zV_H hI hf
  have hs2 := zV_H hI ht
  obtain ⟨⟨hf7, -⟩, hf8, -⟩ := hR.2.2.1.2.2 f _ (zhv_get hf)
  obtain ⟨⟨ht7, -⟩, ht8, -⟩ := hR.2.2.1.2.2 t _ (zhv_get ht)
  have hse : nI (zhv V f).1 = nI (zhv V t).1 ↔ (zhv V f).1 = (zhv V t).1 := nI_eq (by have := hR.2.1.2.1; omega) (by have := hR.2.1.2.1; omega)
  have hl : lv_has ls 7 [(0, .ref y), (1, .int (nI 6)), (2, .int (nI f)), (3, .int (nI t))] := hl
  refine lv_iload_n hx hb dX8_byPart_0 rfl (lv_at hl 1 rfl) ?_
  refine lv_iconst (v := 1) hx hb dX8_byPart_1 (by decide) ?_
  refine lv_icmp_eq (tgt := 10) hx hb dX8_byPart_2 (by decide) (fun c_2 => ?_) (fun c_2 => ?_)
  · skip
    exact absurd c_2 (by decide)
  · skip
    refine lv_iload_n hx hb dX8_byPart_5 rfl (lv_at hl 1 rfl) ?_
    refine lv_iconst (v := 5) hx hb dX8_byPart_6 (by decide) ?_
    refine lv_icmp_ne (tgt := 43) hx hb dX8_byPart_7 (by decide) (fun c_7 => ?_) (fun c_7 => ?_)
    · skip
      refine lv_aload_n hx hb dX8_byPart_43 rfl (lv_at hl 0 rfl) ?_
      refine z_get Cx hw (T := TX8) (N := 26) (ci := 11) (fun _ h => List.mem_cons_of_mem _ (List.mem_append_right _ (h))) zM_x rfl 7 (by decide) (List.mem_of_getElem? (i := 2) rfl) rfl rfl dX8_byPart_44 ?_
      refine lv_iload_n hx hb dX8_byPart_47 rfl (lv_at hl 2 rfl) ?_
      refine zm_iald Cx hw (k := 7) (n := 12) (by decide) hf12 dX8_byPart_48 ?_
      refine lv_topi (fun x_48 ex_48 => ?_)
      rw [hf7] at ex_48
      subst ex_48
      refine lv_istore hx hb dX8_byPart_49 hl (by decide) rfl (fun ls hl => ?_)
      have hl : lv_has ls 7 [(4, .int (nI (zhv V f).1)), (0, .ref y), (1, .int (nI 6)), (2, .int (nI f)), (3, .int (nI t))] := hl
      refine lv_aload_n hx hb dX8_byPart_51 rfl (lv_at hl 1 rfl) ?_
      refine z_get Cx hw (T := TX8) (N := 26) (ci := 11) (fun _ h => List.mem_cons_of_mem _ (List.mem_append_right _ (h))) zM_x rfl 7 (by decide) (List.mem_of_getElem? (i := 2) rfl) rfl rfl dX8_byPart_52 ?_
      refine lv_iload_n hx hb dX8_byPart_55 rfl (lv_at hl 4 rfl) ?_
      refine zm_iald Cx hw (k := 7) (n := 12) (by decide) ht12 dX8_byPart_56 ?_
      refine lv_topi (fun x_56 ex_56 => ?_)
      rw [ht7] at ex_56
      subst ex_56
      refine lv_istore hx hb dX8_byPart_57 hl (by decide) rfl (fun ls hl => ?_)
      have hl : lv_has ls 7 [(5, .int (nI (zhv V t).1)), (4, .int (nI (zhv V f).1)), (0, .ref y), (1, .int (nI 6)), (2, .int (nI f)), (3, .int (nI t))] := hl
      refine lv_iload hx hb dX8_byPart_59 (lv_at hl 1 rfl) ?_
      refine lv_iload hx hb dX8_byPart_61 (lv_at hl 0 rfl) ?_
      refine lv_icmp_ne (tgt := 69) hx hb dX8_byPart_63 (by decide) (fun c_63 => ?_) (fun c_63 => ?_)
      · skip
        have hs12 : ¬ (zhv V f).1 = (zhv V t).1 := fun h => c_63 (hse.mpr h)
        refine lv_iload_n hx hb dX8_byPart_69 rfl (lv_at hl 3 rfl) ?_
        refine lv_iconst (v := 3) hx hb dX8_byPart_70 (by decide) ?_
        refine lv_icmp_eq (tgt := 80) hx hb dX8_byPart_71 (by decide) (fun c_71 => ?_) (fun c_71 => ?_)
        · skip
          exact absurd c_71 (by decide)
        · skip
          refine lv_iload_n hx hb dX8_byPart_74 rfl (lv_at hl 3 rfl) ?_
          refine lv_bipush (v := 7) hx hb dX8_byPart_75 (by decide) ?_
          refine lv_icmp_ne (tgt := 103) hx hb dX8_byPart_77 (by decide) (fun c_77 => ?_) (fun c_77 => ?_)
          · skip
            refine lv_iload_n hx hb dX8_byPart_103 rfl (lv_at hl 3 rfl) ?_
            refine lv_iconst (v := 2) hx hb dX8_byPart_104 (by decide) ?_
            refine lv_icmp_eq (tgt := 113) hx hb dX8_byPart_105 (by decide) (fun c_105 => ?_) (fun c_105 => ?_)
            · skip
              exact absurd c_105 (by decide)
            · skip
              refine lv_iload_n hx hb dX8_byPart_108 rfl (lv_at hl 3 rfl) ?_
              refine lv_iconst (v := 4) hx hb dX8_byPart_109 (by decide) ?_
              refine lv_icmp_ne (tgt := 148) hx hb dX8_byPart_110 (by decide) (fun c_110 => ?_) (fun c_110 => ?_)
              · skip
                refine lv_iload_n hx hb dX8_byPart_148 rfl (lv_at hl 3 rfl) ?_
                refine lv_bipush (v := 6) hx hb dX8_byPart_149 (by decide) ?_
                refine lv_icmp_ne (tgt := 170) hx hb dX8_byPart_151 (by decide) (fun c_151 => ?_) (fun c_151 => ?_)
                · skip
                  exact absurd rfl c_151
                · skip
                  refine lv_aload_n hx hb dX8_byPart_154 rfl (lv_at hl 2 rfl) ?_
                  refine lv_iload hx hb dX8_byPart_155 (lv_at hl 0 rfl) ?_
                  refine lv_iconst (v := 0) hx hb dX8_byPart_157 (by decide) ?_
                  refine lv_aload_n hx hb dX8_byPart_158 rfl (lv_at hl 2 rfl) ?_
                  refine z_get Cx hw (T := TX8) (N := 26) (ci := 11) (fun _ h => List.mem_cons_of_mem _ (List.mem_append_right _ (h))) zM_x rfl 8 (by decide) (List.mem_of_getElem? (i := 1) rfl) rfl rfl dX8_byPart_159 ?_
                  refine lv_iload_n hx hb dX8_byPart_162 rfl (lv_at hl 4 rfl) ?_
                  refine zm_iald Cx hw (k := 8) (n := 12) (by decide) hf12 dX8_byPart_163 ?_
                  refine lv_topi (fun x_163 ex_163 => ?_)
                  rw [hf8] at ex_163
                  subst ex_163
                  refine z_goe hw.2 (z_runV Cx hw (c_m_list E l X C y ad sc g V hR hI (zhv V t).1 hs2 0 (zhv V f).2.1) (cwV 3 Cx.1.2.2.2.2 gX8_byPart_X8_byList rfl rfl rfl (by decide +kernel) ⟨Nat.le_of_ble_eq_true rfl, Nat.le_of_ble_eq_true rfl⟩) (z_recv Cx hw (r := (RX8, TX8, 26)) zM_x rfl) rfl hl.1 rfl (Nat.le_of_ble_eq_true rfl) dX8_byPart_164 ⟨Nat.le_of_ble_eq_true rfl, Nat.le_of_ble_eq_true rfl⟩) (fun H locs hw => ?_)
                  refine lv_goto (tgt := 183) hx hb dX8_byPart_167 (by decide) ?_
                  refine lv_istore hx hb dX8_byPart_183 hl (by decide) rfl (fun ls hl => ?_)
                  have hl : lv_has ls 7 [(6, .int (zlp 0 (zhv V f).2.1 (zsv V (zhv V t).1).2.2.1 0 0 0)), (5, .int (nI (zhv V t).1)), (4, .int (nI (zhv V f).1)), (0, .ref y), (1, .int (nI 6)), (2, .int (nI f)), (3, .int (nI t))] := hl
                  refine lv_iload hx hb dX8_byPart_185 (lv_at hl 0 rfl) ?_
                  have hz : zopenV V 6 f t = zaon (zrep (zlp 0 (zhv V f).2.1 (zsv V (zhv V t).1).2.2.1 0 0 0)) := by simp [zopenV, zopen, hs12]
                  rw [zrep_bit] at hz
                  refine lv_bipush (v := nI 15) hx hb dX8_byPart_187 rfl ?_
                  refine lv_ishr hx hb dX8_byPart_189 ?_
                  refine lv_iconst (v := 1) hx hb dX8_byPart_190 (by decide) ?_
                  refine lv_iand hx hb dX8_byPart_191 ?_
                  refine lv_iconst (v := 1) hx hb dX8_byPart_192 (by decide) ?_
                  refine lv_icmp_ne (tgt := 201) hx hb dX8_byPart_193 (by decide) (fun c_193 => ?_) (fun c_193 => ?_)
                  · skip
                    refine lv_iconst (v := 0) hx hb dX8_byPart_201 (by decide) ?_
                    exact (z_ie Cx hr rfl (Nat.le_of_ble_eq_true rfl) (Nat.le_of_ble_eq_true rfl) hw dX8_byPart_202 (by first | (rw [hz, decide_eq_true c_193]; rfl) | (rw [hz, decide_eq_false c_193]; rfl)))
                  · skip
                    refine lv_ldc hx hb Cx.1.2.2.2.1 (Cx.1.2.2.2.2 (Cond.constant RX8 131 (65535)) (List.mem_of_getElem? (i := 3) rfl)) dX8_byPart_196 ?_
                    refine lv_goto (tgt := 202) hx hb dX8_byPart_198 (by decide) ?_
                    exact (z_ie Cx hr rfl (Nat.le_of_ble_eq_true rfl) (Nat.le_of_ble_eq_true rfl) hw dX8_byPart_202 (by first | (rw [hz, decide_eq_true c_193]; rfl) | (rw [hz, decide_eq_false c_193]; rfl)))
              · skip
                exact absurd c_110 (by decide)
          · skip
            exact absurd c_77 (by decide)
      · skip
        have hs12 : (zhv V f).1 = (zhv V t).1 := hse.mp c_63
        refine lv_ldc hx hb Cx.1.2.2.2.1 (Cx.1.2.2.2.2 (Cond.constant RX8 131 (65535)) (List.mem_of_getElem? (i := 3) rfl)) dX8_byPart_66 ?_
        exact (z_ie Cx hr rfl (Nat.le_of_ble_eq_true rfl) (Nat.le_of_ble_eq_true rfl) hw dX8_byPart_68 (by simp [zopenV, zopen, zrtdV, zrouteV, hs12]))
    · skip
      exact absurd c_7 (by decide)

set_option maxRecDepth 100000 in
set_option maxHeartbeats 4000000 in
/-- byPart 7 -/
theorem c_m_part_7 (E : zG) (l : Launch) (X : va_W) (C : zLs) (y : Nat) (ad : Nat → Nat) (sc : Nat → Int32) (g : Nat → Nat → Int32) (V : zCl) (hR : zMR sc g V) (hI : zInv V) (f t : Nat) (hf : f < (vH V).length) (ht : t < (vH V).length) : Met l yX8_byPart wsX8_byPart (zR 4 0 0) (zPre E [.ref y, .int (nI 7), .int (nI f), .int (nI t)] (zQ E (X ++ zMw E y ad sc g) C)) (zRi E (zQ E (X ++ zMw E y ad sc g) C) (zopenV V 7 f t)) 0 0 (eA E) := by
  refine z_of (cc := cX8_byPart) (maxL := 7) (ret := (some .int)) (by decide) rfl rfl (Nat.le_of_ble_eq_true rfl) ?_
  intro p e s m below meth c ls Cx hr hnm hw hl
  have hx := Cx.1.1
  have hb := Cx.1.2.1
  have hf12 : f < 12 := Nat.lt_of_lt_of_le hf hR.2.2.1.2.1
  have ht12 : t < 12 := Nat.lt_of_lt_of_le ht hR.2.2.1.2.1
  have hs1 := zV_H hI hf
  have hs2 := zV_H hI ht
  obtain ⟨⟨hf7, -⟩, hf8, -⟩ := hR.2.2.1.2.2 f _ (zhv_get hf)
  obtain ⟨⟨ht7, -⟩, ht8, -⟩ := hR.2.2.1.2.2 t _ (zhv_get ht)
  have hse : nI (zhv V f).1 = nI (zhv V t).1 ↔ (zhv V f).1 = (zhv V t).1 := nI_eq (by have := hR.2.1.2.1; omega) (by have := hR.2.1.2.1; omega)
  have hl : lv_has ls 7 [(0, .ref y), (1, .int (nI 7)), (2, .int (nI f)), (3, .int (nI t))] := hl
  refine lv_iload_n hx hb dX8_byPart_0 rfl (lv_at hl 1 rfl) ?_
  refine lv_iconst (v := 1) hx hb dX8_byPart_1 (by decide) ?_
  refine lv_icmp_eq (tgt := 10) hx hb dX8_byPart_2 (by decide) (fun c_2 => ?_) (fun c_2 => ?_)
  · skip
    exact absurd c_2 (by decide)
  · skip
    refine lv_iload_n hx hb dX8_byPart_5 rfl (lv_at hl 1 rfl) ?_
    refine lv_iconst (v := 5) hx hb dX8_byPart_6 (by decide) ?_
    refine lv_icmp_ne (tgt := 43) hx hb dX8_byPart_7 (by decide) (fun c_7 => ?_) (fun c_7 => ?_)
    · skip
      refine lv_aload_n hx hb dX8_byPart_43 rfl (lv_at hl 0 rfl) ?_
      refine z_get Cx hw (T := TX8) (N := 26) (ci := 11) (fun _ h => List.mem_cons_of_mem _ (List.mem_append_right _ (h))) zM_x rfl 7 (by decide) (List.mem_of_getElem? (i := 2) rfl) rfl rfl dX8_byPart_44 ?_
      refine lv_iload_n hx hb dX8_byPart_47 rfl (lv_at hl 2 rfl) ?_
      refine zm_iald Cx hw (k := 7) (n := 12) (by decide) hf12 dX8_byPart_48 ?_
      refine lv_topi (fun x_48 ex_48 => ?_)
      rw [hf7] at ex_48
      subst ex_48
      refine lv_istore hx hb dX8_byPart_49 hl (by decide) rfl (fun ls hl => ?_)
      have hl : lv_has ls 7 [(4, .int (nI (zhv V f).1)), (0, .ref y), (1, .int (nI 7)), (2, .int (nI f)), (3, .int (nI t))] := hl
      refine lv_aload_n hx hb dX8_byPart_51 rfl (lv_at hl 1 rfl) ?_
      refine z_get Cx hw (T := TX8) (N := 26) (ci := 11) (fun _ h => List.mem_cons_of_mem _ (List.mem_append_right _ (h))) zM_x rfl 7 (by decide) (List.mem_of_getElem? (i := 2) rfl) rfl rfl dX8_byPart_52 ?_
      refine lv_iload_n hx hb dX8_byPart_55 rfl (lv_at hl 4 rfl) ?_
      refine zm_iald Cx hw (k := 7) (n := 12) (by decide) ht12 dX8_byPart_56 ?_
      refine lv_topi (fun x_56 ex_56 => ?_)
      rw [ht7] at ex_56
      subst ex_56
      refine lv_istore hx hb dX8_byPart_57 hl (by decide) rfl (fun ls hl => ?_)
      have hl : lv_has ls 7 [(5, .int (nI (zhv V t).1)), (4, .int (nI (zhv V f).1)), (0, .ref y), (1, .int (nI 7)), (2, .int (nI f)), (3, .int (nI t))] := hl
      refine lv_iload hx hb dX8_byPart_59 (lv_at hl 1 rfl) ?_
      refine lv_iload hx hb dX8_byPart_61 (lv_at hl 0 rfl) ?_
      refine lv_icmp_ne (tgt := 69) hx hb dX8_byPart_63 (by decide) (fun c_63 => ?_) (fun c_63 => ?_)
      · skip
        have hs12 : ¬ (zhv V f).1 = (zhv V t).1 := fun h => c_63 (hse.mpr h)
        refine lv_iload_n hx hb dX8_byPart_69 rfl (lv_at hl 3 rfl) ?_
        refine lv_iconst (v := 3) hx hb dX8_byPart_70 (by decide) ?_
        refine lv_icmp_eq (tgt := 80) hx hb dX8_byPart_71 (by decide) (fun c_71 => ?_) (fun c_71 => ?_)
        · skip
          exact absurd c_71 (by decide)
        · skip
          refine lv_iload_n hx hb dX8_byPart_74 rfl (lv_at hl 3 rfl) ?_
          refine lv_bipush (v := 7) hx hb dX8_byPart_75 (by decide) ?_
          refine lv_icmp_ne (tgt := 103) hx hb dX8_byPart_77 (by decide) (fun c_77 => ?_) (fun c_77 => ?_)
          · skip
            exact absurd rfl c_77
          · skip
            refine lv_iload_n hx hb dX8_byPart_80 rfl (lv_at hl 3 rfl) ?_
            refine lv_iconst (v := 3) hx hb dX8_byPart_81 (by decide) ?_
            refine lv_icmp_ne (tgt := 95) hx hb dX8_byPart_82 (by decide) (fun c_82 => ?_) (fun c_82 => ?_)
            · skip
              refine lv_aload_n hx hb dX8_byPart_95 rfl (lv_at hl 2 rfl) ?_
              refine lv_iload hx hb dX8_byPart_96 (lv_at hl 0 rfl) ?_
              refine lv_iload_n hx hb dX8_byPart_98 rfl (lv_at hl 4 rfl) ?_
              refine z_goe hw.2 (z_runV Cx hw (c_m_byRoute E l X C y ad sc g V hR hI (zhv V t).1 f hs2 hf) (cwV 2 Cx.1.2.2.2.2 gX8_byPart_X8_byRoute rfl rfl rfl (by decide +kernel) ⟨Nat.le_of_ble_eq_true rfl, Nat.le_of_ble_eq_true rfl⟩) (z_recv Cx hw (r := (RX8, TX8, 26)) zM_x rfl) rfl hl.1 rfl (Nat.le_of_ble_eq_true rfl) dX8_byPart_99 ⟨Nat.le_of_ble_eq_true rfl, Nat.le_of_ble_eq_true rfl⟩) (fun H locs hw => ?_)
              exact (z_ie Cx hr rfl (Nat.le_of_ble_eq_true rfl) (Nat.le_of_ble_eq_true rfl) hw dX8_byPart_102 (by simp [zopenV, zopen, zrtdV, zrouteV, hs12]))
            · skip
              exact absurd c_82 (by decide)
      · skip
        have hs12 : (zhv V f).1 = (zhv V t).1 := hse.mp c_63
        refine lv_ldc hx hb Cx.1.2.2.2.1 (Cx.1.2.2.2.2 (Cond.constant RX8 131 (65535)) (List.mem_of_getElem? (i := 3) rfl)) dX8_byPart_66 ?_
        exact (z_ie Cx hr rfl (Nat.le_of_ble_eq_true rfl) (Nat.le_of_ble_eq_true rfl) hw dX8_byPart_68 (by simp [zopenV, zopen, zrtdV, zrouteV, hs12]))
    · skip
      exact absurd c_7 (by decide)

set_option maxRecDepth 100000 in
set_option maxHeartbeats 4000000 in
/-- byPart 8 -/
theorem c_m_part_8 (E : zG) (l : Launch) (X : va_W) (C : zLs) (y : Nat) (ad : Nat → Nat) (sc : Nat → Int32) (g : Nat → Nat → Int32) (V : zCl) (hR : zMR sc g V) (hI : zInv V) (f t : Nat) (hf : f < (vH V).length) (ht : t < (vH V).length) : Met l yX8_byPart wsX8_byPart (zR 4 0 0) (zPre E [.ref y, .int (nI 8), .int (nI f), .int (nI t)] (zQ E (X ++ zMw E y ad sc g) C)) (zRi E (zQ E (X ++ zMw E y ad sc g) C) (zopenV V 8 f t)) 0 0 (eA E) := by
  refine z_of (cc := cX8_byPart) (maxL := 7) (ret := (some .int)) (by decide) rfl rfl (Nat.le_of_ble_eq_true rfl) ?_
  intro p e s m below meth c ls Cx hr hnm hw hl
  have hx := Cx.1.1
  have hb := Cx.1.2.1
  have hf12 : f < 12 := Nat.lt_of_lt_of_le hf hR.2.2.1.2.1
  have ht12 : t < 12 := Nat.lt_of_lt_of_le ht hR.2.2.1.2.1
  have hs1 := zV_H hI hf
  have hs2 := zV_H hI ht
  obtain ⟨⟨hf7, -⟩, hf8, -⟩ := hR.2.2.1.2.2 f _ (zhv_get hf)
  obtain ⟨⟨ht7, -⟩, ht8, -⟩ := hR.2.2.1.2.2 t _ (zhv_get ht)
  have hse : nI (zhv V f).1 = nI (zhv V t).1 ↔ (zhv V f).1 = (zhv V t).1 := nI_eq (by have := hR.2.1.2.1; omega) (by have := hR.2.1.2.1; omega)
  have hl : lv_has ls 7 [(0, .ref y), (1, .int (nI 8)), (2, .int (nI f)), (3, .int (nI t))] := hl
  refine lv_iload_n hx hb dX8_byPart_0 rfl (lv_at hl 1 rfl) ?_
  refine lv_iconst (v := 1) hx hb dX8_byPart_1 (by decide) ?_
  refine lv_icmp_eq (tgt := 10) hx hb dX8_byPart_2 (by decide) (fun c_2 => ?_) (fun c_2 => ?_)
  · skip
    exact absurd c_2 (by decide)
  · skip
    refine lv_iload_n hx hb dX8_byPart_5 rfl (lv_at hl 1 rfl) ?_
    refine lv_iconst (v := 5) hx hb dX8_byPart_6 (by decide) ?_
    refine lv_icmp_ne (tgt := 43) hx hb dX8_byPart_7 (by decide) (fun c_7 => ?_) (fun c_7 => ?_)
    · skip
      refine lv_aload_n hx hb dX8_byPart_43 rfl (lv_at hl 0 rfl) ?_
      refine z_get Cx hw (T := TX8) (N := 26) (ci := 11) (fun _ h => List.mem_cons_of_mem _ (List.mem_append_right _ (h))) zM_x rfl 7 (by decide) (List.mem_of_getElem? (i := 2) rfl) rfl rfl dX8_byPart_44 ?_
      refine lv_iload_n hx hb dX8_byPart_47 rfl (lv_at hl 2 rfl) ?_
      refine zm_iald Cx hw (k := 7) (n := 12) (by decide) hf12 dX8_byPart_48 ?_
      refine lv_topi (fun x_48 ex_48 => ?_)
      rw [hf7] at ex_48
      subst ex_48
      refine lv_istore hx hb dX8_byPart_49 hl (by decide) rfl (fun ls hl => ?_)
      have hl : lv_has ls 7 [(4, .int (nI (zhv V f).1)), (0, .ref y), (1, .int (nI 8)), (2, .int (nI f)), (3, .int (nI t))] := hl
      refine lv_aload_n hx hb dX8_byPart_51 rfl (lv_at hl 1 rfl) ?_
      refine z_get Cx hw (T := TX8) (N := 26) (ci := 11) (fun _ h => List.mem_cons_of_mem _ (List.mem_append_right _ (h))) zM_x rfl 7 (by decide) (List.mem_of_getElem? (i := 2) rfl) rfl rfl dX8_byPart_52 ?_
      refine lv_iload_n hx hb dX8_byPart_55 rfl (lv_at hl 4 rfl) ?_
      refine zm_iald Cx hw (k := 7) (n := 12) (by decide) ht12 dX8_byPart_56 ?_
      refine lv_topi (fun x_56 ex_56 => ?_)
      rw [ht7] at ex_56
      subst ex_56
      refine lv_istore hx hb dX8_byPart_57 hl (by decide) rfl (fun ls hl => ?_)
      have hl : lv_has ls 7 [(5, .int (nI (zhv V t).1)), (4, .int (nI (zhv V f).1)), (0, .ref y), (1, .int (nI 8)), (2, .int (nI f)), (3, .int (nI t))] := hl
      refine lv_iload hx hb dX8_byPart_59 (lv_at hl 1 rfl) ?_
      refine lv_iload hx hb dX8_byPart_61 (lv_at hl 0 rfl) ?_
      refine lv_icmp_ne (tgt := 69) hx hb dX8_byPart_63 (by decide) (fun c_63 => ?_) (fun c_63 => ?_)
      · skip
        have hs12 : ¬ (zhv V f).1 = (zhv V t).1 := fun h => c_63 (hse.mpr h)
        refine lv_iload_n hx hb dX8_byPart_69 rfl (lv_at hl 3 rfl) ?_
        refine lv_iconst (v := 3) hx hb dX8_byPart_70 (by decide) ?_
        refine lv_icmp_eq (tgt := 80) hx hb dX8_byPart_71 (by decide) (fun c_71 => ?_) (fun c_71 => ?_)
        · skip
          exact absurd c_71 (by decide)
        · skip
          refine lv_iload_n hx hb dX8_byPart_74 rfl (lv_at hl 3 rfl) ?_
          refine lv_bipush (v := 7) hx hb dX8_byPart_75 (by decide) ?_
          refine lv_icmp_ne (tgt := 103) hx hb dX8_byPart_77 (by decide) (fun c_77 => ?_) (fun c_77 => ?_)
          · skip
            refine lv_iload_n hx hb dX8_byPart_103 rfl (lv_at hl 3 rfl) ?_
            refine lv_iconst (v := 2) hx hb dX8_byPart_104 (by decide) ?_
            refine lv_icmp_eq (tgt := 113) hx hb dX8_byPart_105 (by decide) (fun c_105 => ?_) (fun c_105 => ?_)
            · skip
              exact absurd c_105 (by decide)
            · skip
              refine lv_iload_n hx hb dX8_byPart_108 rfl (lv_at hl 3 rfl) ?_
              refine lv_iconst (v := 4) hx hb dX8_byPart_109 (by decide) ?_
              refine lv_icmp_ne (tgt := 148) hx hb dX8_byPart_110 (by decide) (fun c_110 => ?_) (fun c_110 => ?_)
              · skip
                refine lv_iload_n hx hb dX8_byPart_148 rfl (lv_at hl 3 rfl) ?_
                refine lv_bipush (v := 6) hx hb dX8_byPart_149 (by decide) ?_
                refine lv_icmp_ne (tgt := 170) hx hb dX8_byPart_151 (by decide) (fun c_151 => ?_) (fun c_151 => ?_)
                · skip
                  refine lv_aload_n hx hb dX8_byPart_170 rfl (lv_at hl 2 rfl) ?_
                  refine lv_iload hx hb dX8_byPart_171 (lv_at hl 1 rfl) ?_
                  refine lv_iconst (v := 1) hx hb dX8_byPart_173 (by decide) ?_
                  refine lv_aload_n hx hb dX8_byPart_174 rfl (lv_at hl 2 rfl) ?_
                  refine z_get Cx hw (T := TX8) (N := 26) (ci := 11) (fun _ h => List.mem_cons_of_mem _ (List.mem_append_right _ (h))) zM_x rfl 8 (by decide) (List.mem_of_getElem? (i := 1) rfl) rfl rfl dX8_byPart_175 ?_
                  refine lv_iload_n hx hb dX8_byPart_178 rfl (lv_at hl 5 rfl) ?_
                  refine zm_iald Cx hw (k := 8) (n := 12) (by decide) ht12 dX8_byPart_179 ?_
                  refine lv_topi (fun x_179 ex_179 => ?_)
                  rw [ht8] at ex_179
                  subst ex_179
                  refine z_goe hw.2 (z_runV Cx hw (c_m_list E l X C y ad sc g V hR hI (zhv V f).1 hs1 1 (zhv V t).2.1) (cwV 3 Cx.1.2.2.2.2 gX8_byPart_X8_byList rfl rfl rfl (by decide +kernel) ⟨Nat.le_of_ble_eq_true rfl, Nat.le_of_ble_eq_true rfl⟩) (z_recv Cx hw (r := (RX8, TX8, 26)) zM_x rfl) rfl hl.1 rfl (Nat.le_of_ble_eq_true rfl) dX8_byPart_180 ⟨Nat.le_of_ble_eq_true rfl, Nat.le_of_ble_eq_true rfl⟩) (fun H locs hw => ?_)
                  refine lv_istore hx hb dX8_byPart_183 hl (by decide) rfl (fun ls hl => ?_)
                  have hl : lv_has ls 7 [(6, .int (zlp 1 (zhv V t).2.1 (zsv V (zhv V f).1).2.2.1 0 0 0)), (5, .int (nI (zhv V t).1)), (4, .int (nI (zhv V f).1)), (0, .ref y), (1, .int (nI 8)), (2, .int (nI f)), (3, .int (nI t))] := hl
                  refine lv_iload hx hb dX8_byPart_185 (lv_at hl 0 rfl) ?_
                  have hz : zopenV V 8 f t = zaon (zrep (zlp 1 (zhv V t).2.1 (zsv V (zhv V f).1).2.2.1 0 0 0)) := by simp [zopenV, zopen, hs12]
                  rw [zrep_bit] at hz
                  refine lv_bipush (v := nI 15) hx hb dX8_byPart_187 rfl ?_
                  refine lv_ishr hx hb dX8_byPart_189 ?_
                  refine lv_iconst (v := 1) hx hb dX8_byPart_190 (by decide) ?_
                  refine lv_iand hx hb dX8_byPart_191 ?_
                  refine lv_iconst (v := 1) hx hb dX8_byPart_192 (by decide) ?_
                  refine lv_icmp_ne (tgt := 201) hx hb dX8_byPart_193 (by decide) (fun c_193 => ?_) (fun c_193 => ?_)
                  · skip
                    refine lv_iconst (v := 0) hx hb dX8_byPart_201 (by decide) ?_
                    exact (z_ie Cx hr rfl (Nat.le_of_ble_eq_true rfl) (Nat.le_of_ble_eq_true rfl) hw dX8_byPart_202 (by first | (rw [hz, decide_eq_true c_193]; rfl) | (rw [hz, decide_eq_false c_193]; rfl)))
                  · skip
                    refine lv_ldc hx hb Cx.1.2.2.2.1 (Cx.1.2.2.2.2 (Cond.constant RX8 131 (65535)) (List.mem_of_getElem? (i := 3) rfl)) dX8_byPart_196 ?_
                    refine lv_goto (tgt := 202) hx hb dX8_byPart_198 (by decide) ?_
                    exact (z_ie Cx hr rfl (Nat.le_of_ble_eq_true rfl) (Nat.le_of_ble_eq_true rfl) hw dX8_byPart_202 (by first | (rw [hz, decide_eq_true c_193]; rfl) | (rw [hz, decide_eq_false c_193]; rfl)))
                · skip
                  exact absurd c_151 (by decide)
              · skip
                exact absurd c_110 (by decide)
          · skip
            exact absurd c_77 (by decide)
      · skip
        have hs12 : (zhv V f).1 = (zhv V t).1 := hse.mp c_63
        refine lv_ldc hx hb Cx.1.2.2.2.1 (Cx.1.2.2.2.2 (Cond.constant RX8 131 (65535)) (List.mem_of_getElem? (i := 3) rfl)) dX8_byPart_66 ?_
        exact (z_ie Cx hr rfl (Nat.le_of_ble_eq_true rfl) (Nat.le_of_ble_eq_true rfl) hw dX8_byPart_68 (by simp [zopenV, zopen, zrtdV, zrouteV, hs12]))
    · skip
      exact absurd c_7 (by decide)

theorem c_m_byPart (E : zG) (l : Launch) (X : va_W) (C : zLs) (y : Nat) (ad : Nat → Nat) (sc : Nat → Int32) (g : Nat → Nat → Int32) (V : zCl) (hR : zMR sc g V) (hI : zInv V) (p f t : Nat) (hp1 : 1 ≤ p) (hp8 : p ≤ 8) (hf : f < (vH V).length) (ht : t < (vH V).length) : Met l yX8_byPart wsX8_byPart (zR 4 0 0) (zPre E [.ref y, .int (nI p), .int (nI f), .int (nI t)] (zQ E (X ++ zMw E y ad sc g) C)) (zRi E (zQ E (X ++ zMw E y ad sc g) C) (zopenV V p f t)) 0 0 (eA E) := by
  rcases (show p = 1 ∨ p = 2 ∨ p = 3 ∨ p = 4 ∨ p = 5 ∨ p = 6 ∨ p = 7 ∨ p = 8 by omega) with rfl | rfl | rfl | rfl | rfl | rfl | rfl | rfl
  · exact c_m_part_1 E l X C y ad sc g V hR hI f t hf ht
  · exact c_m_part_2 E l X C y ad sc g V hR hI f t hf ht
  · exact c_m_part_3 E l X C y ad sc g V hR hI f t hf ht
  · exact c_m_part_4 E l X C y ad sc g V hR hI f t hf ht
  · exact c_m_part_5 E l X C y ad sc g V hR hI f t hf ht
  · exact c_m_part_6 E l X C y ad sc g V hR hI f t hf ht
  · exact c_m_part_7 E l X C y ad sc g V hR hI f t hf ht
  · exact c_m_part_8 E l X C y ad sc g V hR hI f t hf ht
