set_option maxRecDepth 100000 in
set_option maxHeartbeats 4000000 in
/-- addSubnet -/
theorem c_m_addSubnet (E : zG) (l : Launch) (X : va_W) (C : zLs) (y : Nat) (ad : Nat → Nat) (sc : Nat → Int32) (g : Nat → Nat → Int32) (V : zCl) (hT : zMT sc g V) (hI : zInv V) (f b z : Int32) : Met l yX8_addSubnet wsX8_addSubnet (zR 3 0 0) (zPre E [.ref y, .int f, .int b, .int z] (zQ E (X ++ zMw E y ad sc g) C)) (zPm E X C y ad (zA_addSubnet V f b z)) 0 0 (eA E) := by
  refine z_of (cc := cX8_addSubnet) (maxL := 8) (ret := (some .int)) (by decide) rfl rfl (Nat.le_of_ble_eq_true rfl) ?_
  intro p e s m below meth c ls Cx hr hnm hw hl
  have hx := Cx.1.1
  have hb := Cx.1.2.1
  have hR := hT.1
  have hn1 : sc 1 = nI (vN V).length := hR.1.1
  have hm1 := hR.1.2.1
  have hn3 : sc 3 = nI (vS V).length := hR.2.1.1
  have hm3 := hR.2.1.2.1
  have hn6 : sc 6 = nI (vH V).length := hR.2.2.1.1
  have hm6 := hR.2.2.1.2.1
  have hn10 : sc 10 = nI (vP V).length := hR.2.2.2.1.1
  have hm10 := hR.2.2.2.1.2.1
  have hn13 : sc 13 = nI (vG V).length := hR.2.2.2.2.1
  have hm13 := hR.2.2.2.2.2.1
  have hl : lv_has ls 8 [(0, .ref y), (1, .int f), (2, .int b), (3, .int z)] := hl
  refine lv_iload_n hx hb dX8_addSubnet_0 rfl (lv_at hl 1 rfl) ?_
  refine lv_aload_n hx hb dX8_addSubnet_1 rfl (lv_at hl 0 rfl) ?_
  refine z_get Cx hw (T := TX8) (N := 26) (ci := 11) (fun _ h => List.mem_cons_of_mem _ (List.mem_append_right _ (h))) zM_x rfl 1 (by decide) (List.mem_of_getElem? (i := 1) rfl) rfl rfl dX8_addSubnet_2 ?_
  refine z_goe hw.2 (z_runS Cx hw (c_X8_isIn E l (zQ E (X ++ zMw E y ad sc g) C) f (sc 1)) (va_cwS 2 Cx.1.2.2.2.2 gX8_addSubnet_X8_isIn rfl rfl rfl (by decide +kernel) ⟨Nat.le_of_ble_eq_true rfl, Nat.le_of_ble_eq_true rfl⟩)  rfl hl.1 rfl (Nat.le_of_ble_eq_true rfl) dX8_addSubnet_5 ⟨Nat.le_of_ble_eq_true rfl, Nat.le_of_ble_eq_true rfl⟩) (fun H locs hw => ?_)
  refine lv_topi (fun x_5 ex_5 => ?_)
  obtain ⟨q1, hq1, e_5⟩ : ∃ q : Bool, (q = true ↔ zix f (vN V).length) ∧ x_5 = zb q := ⟨_, (by rw [hn1]; exact zmin_ix (by omega)), ex_5⟩
  clear ex_5
  subst e_5
  refine lv_istore hx hb dX8_addSubnet_8 hl (by decide) rfl (fun ls hl => ?_)
  have hl : lv_has ls 8 [(4, .int (zb q1)), (0, .ref y), (1, .int f), (2, .int b), (3, .int z)] := hl
  refine lv_iload hx hb dX8_addSubnet_10 (lv_at hl 0 rfl) ?_
  have cut_56 : ∀ (q2 : Bool) (H : Heap) (locs : List Loc) (ls : Array Slot), (q2 = true ↔ ∃ (k : Nat) (w : zBk), f = nI k ∧ (vN V)[k]? = some w ∧ zbok b z ∧ zwin w b z = true) → zHw E (zQ E (X ++ zMw E y ad sc g) C) s H locs → lv_has ls 8 [(0, .ref y), (1, .int f), (2, .int b), (3, .int z), (4, .int (zb q1)), (5, .int (zb q2))] → W p l e (zR 3 0 0) s m ([.ref y, .int f, .int b, .int z] : List Value).toArray below meth c H locs 0 0 (MQ below (zPm E X C y ad (zA_addSubnet V f b z)) ([.ref y, .int f, .int b, .int z] : List Value).toArray s 0 0 (eA E)) (F0 m 56 ls []) := by
    intro q2 H locs ls hq2 hw hl
    refine lv_aload_n hx hb dX8_addSubnet_56 rfl (lv_at hl 0 rfl) ?_
    refine z_get Cx hw (T := TX8) (N := 26) (ci := 11) (fun _ h => List.mem_cons_of_mem _ (List.mem_append_right _ (h))) zM_x rfl 3 (by decide) (List.mem_of_getElem? (i := 3) rfl) rfl rfl dX8_addSubnet_57 ?_
    refine lv_topi (fun x_57 ex_57 => ?_)
    have e_57 : x_57 = nI (vS V).length := ex_57.trans hn3
    clear ex_57
    subst e_57
    refine lv_bipush (v := nI 8) hx hb dX8_addSubnet_60 rfl ?_
    have cut_75 : ∀ (F : Bool) (H : Heap) (locs : List Loc) (ls : Array Slot), (q2 = true → F = (decide ((vS V).length < 8) && !((vS V).take 0).any (fun (s : zSb) => zovl s.2.1 (b, z)))) → zHw E (zQ E (X ++ zMw E y ad sc g) C) s H locs → lv_has ls 8 [(0, .ref y), (1, .int f), (2, .int b), (3, .int z), (4, .int (zb q1)), (5, .int (zb q2)), (6, .int (zb F)), (7, .int (nI 0))] → W p l e (zR 3 0 0) s m ([.ref y, .int f, .int b, .int z] : List Value).toArray below meth c H locs 0 0 (MQ below (zPm E X C y ad (zA_addSubnet V f b z)) ([.ref y, .int f, .int b, .int z] : List Value).toArray s 0 0 (eA E)) (F0 m 75 ls []) := by
      intro F H locs ls hF hw hl
      have loop_75 : ∀ (nn : Nat) (i : Nat) (F : Bool) (H : Heap) (locs : List Loc) (ls : Array Slot), (i ≤ (vS V).length) → (q2 = true → F = (decide ((vS V).length < 8) && !((vS V).take i).any (fun (s : zSb) => zovl s.2.1 (b, z)))) → (vS V).length - i < nn → zHw E (zQ E (X ++ zMw E y ad sc g) C) s H locs → lv_has ls 8 [(0, .ref y), (1, .int f), (2, .int b), (3, .int z), (4, .int (zb q1)), (5, .int (zb q2)), (6, .int (zb F)), (7, .int (nI i))] → W p l e (zR 3 0 0) s m ([.ref y, .int f, .int b, .int z] : List Value).toArray below meth c H locs 0 0 (MQ below (zPm E X C y ad (zA_addSubnet V f b z)) ([.ref y, .int f, .int b, .int z] : List Value).toArray s 0 0 (eA E)) (F0 m 75 ls []) := by
        intro nn
        induction nn with
        | zero => intro i F H locs ls hi hF hm; exact absurd hm (Nat.not_lt_zero _)
        | succ nn ih_75 =>
          intro i F H locs ls hi hF hm hw hl
          refine lv_iload hx hb dX8_addSubnet_75 (lv_at hl 7 rfl) ?_
          refine lv_aload_n hx hb dX8_addSubnet_77 rfl (lv_at hl 0 rfl) ?_
          refine z_get Cx hw (T := TX8) (N := 26) (ci := 11) (fun _ h => List.mem_cons_of_mem _ (List.mem_append_right _ (h))) zM_x rfl 3 (by decide) (List.mem_of_getElem? (i := 3) rfl) rfl rfl dX8_addSubnet_78 ?_
          refine lv_topi (fun x_78 ex_78 => ?_)
          have e_78 : x_78 = nI (vS V).length := ex_78.trans hn3
          clear ex_78
          subst e_78
          refine lv_icmp_ge (tgt := 125) hx hb dX8_addSubnet_81 (by decide) (fun c_81 => ?_) (fun c_81 => ?_)
          · skip
            have hiN : i = (vS V).length := by
              have := (nI_leI (a := (vS V).length) (b := i) (by omega) (by omega)).mp c_81
              omega
            have hex : q2 = true → (F = true ↔ ((vS V).length < 8 ∧ (vS V).any (fun (s : zSb) => zovl s.2.1 (b, z)) = false)) := fun h => by
              rw [hF h, hiN, List.take_length, Bool.and_eq_true, decide_eq_true_iff, Bool.not_eq_true']
            refine lv_aload_n hx hb dX8_addSubnet_125 rfl (lv_at hl 0 rfl) ?_
            refine lv_iload hx hb dX8_addSubnet_126 (lv_at hl 4 rfl) ?_
            refine lv_if_ne (tgt := 135) hx hb dX8_addSubnet_128 (by decide) (fun c_128 => ?_) (fun c_128 => ?_)
            · skip
              have hz1 := hq1.mp ((zb_1 _).mp c_128)
              refine lv_iload hx hb dX8_addSubnet_135 (lv_at hl 5 rfl) ?_
              refine lv_if_ne (tgt := 144) hx hb dX8_addSubnet_137 (by decide) (fun c_137 => ?_) (fun c_137 => ?_)
              · skip
                have hq2t := (zb_1 _).mp c_137
                obtain ⟨k2, w2, e2, hw02, hbz, hzw⟩ := hq2.mp hq2t
                refine lv_iload hx hb dX8_addSubnet_144 (lv_at hl 6 rfl) ?_
                refine lv_if_eq (tgt := 153) hx hb dX8_addSubnet_146 (by decide) (fun c_146 => ?_) (fun c_146 => ?_)
                · skip
                  have hcd : ¬ ((vS V).length < 8 ∧ (vS V).any (fun (s : zSb) => zovl s.2.1 (b, z)) = false) := fun h => by
                    have h9 := (zb_0 _).mp c_146
                    rw [(hex hq2t).mpr h] at h9; cases h9
                  refine lv_iconst (v := nI 3) hx hb dX8_addSubnet_153 rfl ?_
                  refine z_goe hw.2 (z_runV Cx hw (c_X8_holds E l X C y ad sc g _) (cwV 1 Cx.1.2.2.2.2 gX8_addSubnet_X8_holds rfl rfl rfl (by decide +kernel) ⟨Nat.le_of_ble_eq_true rfl, Nat.le_of_ble_eq_true rfl⟩) (z_recv Cx hw (r := (RX8, TX8, 26)) zM_x rfl) rfl hl.1 rfl (Nat.le_of_ble_eq_true rfl) dX8_addSubnet_154 ⟨Nat.le_of_ble_eq_true rfl, Nat.le_of_ble_eq_true rfl⟩) (fun H locs hw => ?_)
                  refine lv_if_ne (tgt := 162) hx hb dX8_addSubnet_157 (by decide) (fun c_157 => ?_) (fun c_157 => ?_)
                  · skip
                    exact absurd (by decide) c_157
                  · skip
                    refine lv_iconst (v := 0) hx hb dX8_addSubnet_160 (by decide) ?_
                    exact z_iret (wf := (fun (u : zU) => zQ E (X ++ zMw E y ad u.2.1 u.2.2.1) C)) Cx hr rfl (Nat.le_of_ble_eq_true rfl) (Nat.le_of_ble_eq_true rfl) (3, _, _, V) hw ⟨Or.inr ⟨hz1, k2, w2, e2, hw02, Or.inr ⟨⟨hbz, hzw⟩, Or.inl ⟨rfl, rfl, hcd⟩⟩⟩, zMT_0 hT _, rfl⟩ dX8_addSubnet_161
                · skip
                  have hcd := (hex hq2t).mp ((zb_1 _).mp c_146)
                  refine lv_iconst (v := nI 0) hx hb dX8_addSubnet_149 rfl ?_
                  refine lv_goto (tgt := 154) hx hb dX8_addSubnet_150 (by decide) ?_
                  refine z_goe hw.2 (z_runV Cx hw (c_X8_holds E l X C y ad sc g _) (cwV 1 Cx.1.2.2.2.2 gX8_addSubnet_X8_holds rfl rfl rfl (by decide +kernel) ⟨Nat.le_of_ble_eq_true rfl, Nat.le_of_ble_eq_true rfl⟩) (z_recv Cx hw (r := (RX8, TX8, 26)) zM_x rfl) rfl hl.1 rfl (Nat.le_of_ble_eq_true rfl) dX8_addSubnet_154 ⟨Nat.le_of_ble_eq_true rfl, Nat.le_of_ble_eq_true rfl⟩) (fun H locs hw => ?_)
                  refine lv_if_ne (tgt := 162) hx hb dX8_addSubnet_157 (by decide) (fun c_157 => ?_) (fun c_157 => ?_)
                  · skip
                    subst e2
                    refine lv_aload_n hx hb dX8_addSubnet_162 rfl (lv_at hl 0 rfl) ?_
                    refine z_get Cx hw (T := TX8) (N := 26) (ci := 11) (fun _ h => List.mem_cons_of_mem _ (List.mem_append_right _ (h))) zM_x rfl 4 (by decide) (List.mem_of_getElem? (i := 5) rfl) rfl rfl dX8_addSubnet_163 ?_
                    refine lv_aload_n hx hb dX8_addSubnet_166 rfl (lv_at hl 0 rfl) ?_
                    refine z_get Cx hw (T := TX8) (N := 26) (ci := 11) (fun _ h => List.mem_cons_of_mem _ (List.mem_append_right _ (h))) zM_x rfl 3 (by decide) (List.mem_of_getElem? (i := 3) rfl) rfl rfl dX8_addSubnet_167 ?_
                    refine lv_topi (fun x_167 ex_167 => ?_)
                    have e_167 : x_167 = nI (vS V).length := ex_167.trans hn3
                    clear ex_167
                    subst e_167
                    refine lv_iload_n hx hb dX8_addSubnet_170 rfl (lv_at hl 1 rfl) ?_
                    refine zm_iast Cx hw (k := 4) (n := 8) (by decide) hcd.1 dX8_addSubnet_171 (fun H locs hw => ?_)
                    refine lv_aload_n hx hb dX8_addSubnet_172 rfl (lv_at hl 0 rfl) ?_
                    refine z_get Cx hw (T := TX8) (N := 26) (ci := 11) (fun _ h => List.mem_cons_of_mem _ (List.mem_append_right _ (h))) zM_x rfl 5 (by decide) (List.mem_of_getElem? (i := 4) rfl) rfl rfl dX8_addSubnet_173 ?_
                    refine lv_aload_n hx hb dX8_addSubnet_176 rfl (lv_at hl 0 rfl) ?_
                    refine z_get Cx hw (T := TX8) (N := 26) (ci := 11) (fun _ h => List.mem_cons_of_mem _ (List.mem_append_right _ (h))) zM_x rfl 3 (by decide) (List.mem_of_getElem? (i := 3) rfl) rfl rfl dX8_addSubnet_177 ?_
                    refine lv_topi (fun x_177 ex_177 => ?_)
                    have e_177 : x_177 = nI (vS V).length := ex_177.trans hn3
                    clear ex_177
                    subst e_177
                    refine lv_iload_n hx hb dX8_addSubnet_180 rfl (lv_at hl 2 rfl) ?_
                    refine lv_iload_n hx hb dX8_addSubnet_181 rfl (lv_at hl 3 rfl) ?_
                    refine z_goe hw.2 (z_runS Cx hw (c_X8_block E l _ b z) (va_cwS 2 Cx.1.2.2.2.2 gX8_addSubnet_X8_block rfl rfl rfl (by decide +kernel) ⟨Nat.le_of_ble_eq_true rfl, Nat.le_of_ble_eq_true rfl⟩)  rfl hl.1 rfl (Nat.le_of_ble_eq_true rfl) dX8_addSubnet_182 ⟨Nat.le_of_ble_eq_true rfl, Nat.le_of_ble_eq_true rfl⟩) (fun H locs hw => ?_)
                    rw [show (16 : Int32) * b + z = zbi (b, z) from rfl]
                    refine zm_iast Cx hw (k := 5) (n := 8) (by decide) hcd.1 dX8_addSubnet_185 (fun H locs hw => ?_)
                    refine lv_aload_n hx hb dX8_addSubnet_186 rfl (lv_at hl 0 rfl) ?_
                    refine lv_dup hx hb dX8_addSubnet_187 rfl ?_
                    refine z_get Cx hw (T := TX8) (N := 26) (ci := 11) (fun _ h => List.mem_cons_of_mem _ (List.mem_append_right _ (h))) zM_x rfl 3 (by decide) (List.mem_of_getElem? (i := 3) rfl) rfl rfl dX8_addSubnet_188 ?_
                    refine lv_topi (fun x_188 ex_188 => ?_)
                    have e_188 : x_188 = nI (vS V).length := ex_188.trans hn3
                    clear ex_188
                    subst e_188
                    refine lv_iconst (v := 1) hx hb dX8_addSubnet_191 (by decide) ?_
                    refine lv_iadd hx hb dX8_addSubnet_192 ?_
                    rw [show nI (vS V).length + 1 = nI ((vS V).length + 1) from nI_1 _]
                    refine z_put Cx (X := X) hw (T := TX8) (N := 26) (ci := 11) (ty := .int) (fun _ h => List.mem_cons_of_mem _ (List.mem_append_right _ (h))) tyX8 tyX8_ok nmX8 zM_o rfl 3 (by decide) (List.mem_of_getElem? (i := 3) rfl) rfl rfl (by decide +kernel) rfl rfl (Nat.le_of_ble_eq_true rfl) dX8_addSubnet_193 (fun H locs hw2 => ?_)
                    have hw := zM_putS 3 (nI ((vS V).length + 1)) hw hw2 rfl
                    refine lv_aload_n hx hb dX8_addSubnet_196 rfl (lv_at hl 0 rfl) ?_
                    refine z_get Cx hw (T := TX8) (N := 26) (ci := 11) (fun _ h => List.mem_cons_of_mem _ (List.mem_append_right _ (h))) zM_x rfl 3 (by decide) (List.mem_of_getElem? (i := 3) rfl) rfl rfl dX8_addSubnet_197 ?_
                    refine lv_iconst (v := 1) hx hb dX8_addSubnet_200 (by decide) ?_
                    refine lv_isub hx hb dX8_addSubnet_201 ?_
                    exact z_iret (wf := (fun (u : zU) => zQ E (X ++ zMw E y ad u.2.1 u.2.2.1) C)) Cx hr rfl (Nat.le_of_ble_eq_true rfl) (Nat.le_of_ble_eq_true rfl) (0, _, _, _) hw ⟨Or.inr ⟨hz1, k2, w2, rfl, hw02, Or.inr ⟨⟨hbz, hzw⟩, Or.inr ⟨hcd, rfl, rfl, nI_pred _⟩⟩⟩, zMT_addS (zMT_0 hT _) hcd.1 (List.getElem?_eq_some_iff.mp hw02).1 (b, z), rfl⟩ dX8_addSubnet_202
                  · skip
                    exact absurd c_157 (by decide)
              · skip
                have hno2 : ¬ ∃ (k : Nat) (w : zBk), f = nI k ∧ (vN V)[k]? = some w ∧ zbok b z ∧ zwin w b z = true := fun h => by
                  have h9 := (zb_0 _).mp c_137
                  rw [hq2.mpr h] at h9; cases h9
                obtain ⟨k2, hk2, e2⟩ := hz1
                obtain ⟨w2, hw02⟩ : ∃ w, (vN V)[k2]? = some w := ⟨_, List.getElem?_eq_getElem hk2⟩
                refine lv_iconst (v := nI 2) hx hb dX8_addSubnet_140 rfl ?_
                refine lv_goto (tgt := 154) hx hb dX8_addSubnet_141 (by decide) ?_
                refine z_goe hw.2 (z_runV Cx hw (c_X8_holds E l X C y ad sc g _) (cwV 1 Cx.1.2.2.2.2 gX8_addSubnet_X8_holds rfl rfl rfl (by decide +kernel) ⟨Nat.le_of_ble_eq_true rfl, Nat.le_of_ble_eq_true rfl⟩) (z_recv Cx hw (r := (RX8, TX8, 26)) zM_x rfl) rfl hl.1 rfl (Nat.le_of_ble_eq_true rfl) dX8_addSubnet_154 ⟨Nat.le_of_ble_eq_true rfl, Nat.le_of_ble_eq_true rfl⟩) (fun H locs hw => ?_)
                refine lv_if_ne (tgt := 162) hx hb dX8_addSubnet_157 (by decide) (fun c_157 => ?_) (fun c_157 => ?_)
                · skip
                  exact absurd (by decide) c_157
                · skip
                  refine lv_iconst (v := 0) hx hb dX8_addSubnet_160 (by decide) ?_
                  exact z_iret (wf := (fun (u : zU) => zQ E (X ++ zMw E y ad u.2.1 u.2.2.1) C)) Cx hr rfl (Nat.le_of_ble_eq_true rfl) (Nat.le_of_ble_eq_true rfl) (2, _, _, V) hw ⟨Or.inr ⟨⟨k2, hk2, e2⟩, k2, w2, e2, hw02, Or.inl ⟨rfl, rfl, fun h => hno2 ⟨k2, w2, e2, hw02, h.1, h.2⟩⟩⟩, zMT_0 hT _, rfl⟩ dX8_addSubnet_161
            · skip
              have hz1 : ¬ zix f (vN V).length := fun h => by
                have h9 := (zb_0 _).mp c_128
                rw [hq1.mpr h] at h9; cases h9
              refine lv_iconst (v := nI 1) hx hb dX8_addSubnet_131 rfl ?_
              refine lv_goto (tgt := 154) hx hb dX8_addSubnet_132 (by decide) ?_
              refine z_goe hw.2 (z_runV Cx hw (c_X8_holds E l X C y ad sc g _) (cwV 1 Cx.1.2.2.2.2 gX8_addSubnet_X8_holds rfl rfl rfl (by decide +kernel) ⟨Nat.le_of_ble_eq_true rfl, Nat.le_of_ble_eq_true rfl⟩) (z_recv Cx hw (r := (RX8, TX8, 26)) zM_x rfl) rfl hl.1 rfl (Nat.le_of_ble_eq_true rfl) dX8_addSubnet_154 ⟨Nat.le_of_ble_eq_true rfl, Nat.le_of_ble_eq_true rfl⟩) (fun H locs hw => ?_)
              refine lv_if_ne (tgt := 162) hx hb dX8_addSubnet_157 (by decide) (fun c_157 => ?_) (fun c_157 => ?_)
              · skip
                exact absurd (by decide) c_157
              · skip
                refine lv_iconst (v := 0) hx hb dX8_addSubnet_160 (by decide) ?_
                exact z_iret (wf := (fun (u : zU) => zQ E (X ++ zMw E y ad u.2.1 u.2.2.1) C)) Cx hr rfl (Nat.le_of_ble_eq_true rfl) (Nat.le_of_ble_eq_true rfl) (1, _, _, V) hw ⟨Or.inl ⟨rfl, rfl, hz1⟩, zMT_0 hT _, rfl⟩ dX8_addSubnet_161
          · skip
            have hiN : i < (vS V).length := by
              rcases Nat.lt_or_ge i ((vS V).length) with h | h
              · exact h
              · exact absurd (nI_le h (by omega)) c_81
            have hu := List.getElem?_eq_getElem hiN
            generalize (vS V)[i] = u at hu
            have ht : (vS V).take (i + 1) = (vS V).take i ++ [u] := z_take hu
            have hg5 := (hR.2.1.2.2 i u hu).2.1
            refine lv_iload hx hb dX8_addSubnet_84 (lv_at hl 5 rfl) ?_
            refine lv_if_eq (tgt := 125) hx hb dX8_addSubnet_86 (by decide) (fun c_86 => ?_) (fun c_86 => ?_)
            · skip
              have hex : q2 = true → (F = true ↔ ((vS V).length < 8 ∧ (vS V).any (fun (s : zSb) => zovl s.2.1 (b, z)) = false)) := fun h => by
                rw [(zb_0 _).mp c_86] at h; cases h
              refine lv_aload_n hx hb dX8_addSubnet_125 rfl (lv_at hl 0 rfl) ?_
              refine lv_iload hx hb dX8_addSubnet_126 (lv_at hl 4 rfl) ?_
              refine lv_if_ne (tgt := 135) hx hb dX8_addSubnet_128 (by decide) (fun c_128 => ?_) (fun c_128 => ?_)
              · skip
                have hz1 := hq1.mp ((zb_1 _).mp c_128)
                refine lv_iload hx hb dX8_addSubnet_135 (lv_at hl 5 rfl) ?_
                refine lv_if_ne (tgt := 144) hx hb dX8_addSubnet_137 (by decide) (fun c_137 => ?_) (fun c_137 => ?_)
                · skip
                  have hq2t := (zb_1 _).mp c_137
                  obtain ⟨k2, w2, e2, hw02, hbz, hzw⟩ := hq2.mp hq2t
                  refine lv_iload hx hb dX8_addSubnet_144 (lv_at hl 6 rfl) ?_
                  refine lv_if_eq (tgt := 153) hx hb dX8_addSubnet_146 (by decide) (fun c_146 => ?_) (fun c_146 => ?_)
                  · skip
                    have hcd : ¬ ((vS V).length < 8 ∧ (vS V).any (fun (s : zSb) => zovl s.2.1 (b, z)) = false) := fun h => by
                      have h9 := (zb_0 _).mp c_146
                      rw [(hex hq2t).mpr h] at h9; cases h9
                    refine lv_iconst (v := nI 3) hx hb dX8_addSubnet_153 rfl ?_
                    refine z_goe hw.2 (z_runV Cx hw (c_X8_holds E l X C y ad sc g _) (cwV 1 Cx.1.2.2.2.2 gX8_addSubnet_X8_holds rfl rfl rfl (by decide +kernel) ⟨Nat.le_of_ble_eq_true rfl, Nat.le_of_ble_eq_true rfl⟩) (z_recv Cx hw (r := (RX8, TX8, 26)) zM_x rfl) rfl hl.1 rfl (Nat.le_of_ble_eq_true rfl) dX8_addSubnet_154 ⟨Nat.le_of_ble_eq_true rfl, Nat.le_of_ble_eq_true rfl⟩) (fun H locs hw => ?_)
                    refine lv_if_ne (tgt := 162) hx hb dX8_addSubnet_157 (by decide) (fun c_157 => ?_) (fun c_157 => ?_)
                    · skip
                      exact absurd (by decide) c_157
                    · skip
                      refine lv_iconst (v := 0) hx hb dX8_addSubnet_160 (by decide) ?_
                      exact z_iret (wf := (fun (u : zU) => zQ E (X ++ zMw E y ad u.2.1 u.2.2.1) C)) Cx hr rfl (Nat.le_of_ble_eq_true rfl) (Nat.le_of_ble_eq_true rfl) (3, _, _, V) hw ⟨Or.inr ⟨hz1, k2, w2, e2, hw02, Or.inr ⟨⟨hbz, hzw⟩, Or.inl ⟨rfl, rfl, hcd⟩⟩⟩, zMT_0 hT _, rfl⟩ dX8_addSubnet_161
                  · skip
                    have hcd := (hex hq2t).mp ((zb_1 _).mp c_146)
                    refine lv_iconst (v := nI 0) hx hb dX8_addSubnet_149 rfl ?_
                    refine lv_goto (tgt := 154) hx hb dX8_addSubnet_150 (by decide) ?_
                    refine z_goe hw.2 (z_runV Cx hw (c_X8_holds E l X C y ad sc g _) (cwV 1 Cx.1.2.2.2.2 gX8_addSubnet_X8_holds rfl rfl rfl (by decide +kernel) ⟨Nat.le_of_ble_eq_true rfl, Nat.le_of_ble_eq_true rfl⟩) (z_recv Cx hw (r := (RX8, TX8, 26)) zM_x rfl) rfl hl.1 rfl (Nat.le_of_ble_eq_true rfl) dX8_addSubnet_154 ⟨Nat.le_of_ble_eq_true rfl, Nat.le_of_ble_eq_true rfl⟩) (fun H locs hw => ?_)
                    refine lv_if_ne (tgt := 162) hx hb dX8_addSubnet_157 (by decide) (fun c_157 => ?_) (fun c_157 => ?_)
                    · skip
                      subst e2
                      refine lv_aload_n hx hb dX8_addSubnet_162 rfl (lv_at hl 0 rfl) ?_
                      refine z_get Cx hw (T := TX8) (N := 26) (ci := 11) (fun _ h => List.mem_cons_of_mem _ (List.mem_append_right _ (h))) zM_x rfl 4 (by decide) (List.mem_of_getElem? (i := 5) rfl) rfl rfl dX8_addSubnet_163 ?_
                      refine lv_aload_n hx hb dX8_addSubnet_166 rfl (lv_at hl 0 rfl) ?_
                      refine z_get Cx hw (T := TX8) (N := 26) (ci := 11) (fun _ h => List.mem_cons_of_mem _ (List.mem_append_right _ (h))) zM_x rfl 3 (by decide) (List.mem_of_getElem? (i := 3) rfl) rfl rfl dX8_addSubnet_167 ?_
                      refine lv_topi (fun x_167 ex_167 => ?_)
                      have e_167 : x_167 = nI (vS V).length := ex_167.trans hn3
                      clear ex_167
                      subst e_167
                      refine lv_iload_n hx hb dX8_addSubnet_170 rfl (lv_at hl 1 rfl) ?_
                      refine zm_iast Cx hw (k := 4) (n := 8) (by decide) hcd.1 dX8_addSubnet_171 (fun H locs hw => ?_)
                      refine lv_aload_n hx hb dX8_addSubnet_172 rfl (lv_at hl 0 rfl) ?_
                      refine z_get Cx hw (T := TX8) (N := 26) (ci := 11) (fun _ h => List.mem_cons_of_mem _ (List.mem_append_right _ (h))) zM_x rfl 5 (by decide) (List.mem_of_getElem? (i := 4) rfl) rfl rfl dX8_addSubnet_173 ?_
                      refine lv_aload_n hx hb dX8_addSubnet_176 rfl (lv_at hl 0 rfl) ?_
                      refine z_get Cx hw (T := TX8) (N := 26) (ci := 11) (fun _ h => List.mem_cons_of_mem _ (List.mem_append_right _ (h))) zM_x rfl 3 (by decide) (List.mem_of_getElem? (i := 3) rfl) rfl rfl dX8_addSubnet_177 ?_
                      refine lv_topi (fun x_177 ex_177 => ?_)
                      have e_177 : x_177 = nI (vS V).length := ex_177.trans hn3
                      clear ex_177
                      subst e_177
                      refine lv_iload_n hx hb dX8_addSubnet_180 rfl (lv_at hl 2 rfl) ?_
                      refine lv_iload_n hx hb dX8_addSubnet_181 rfl (lv_at hl 3 rfl) ?_
                      refine z_goe hw.2 (z_runS Cx hw (c_X8_block E l _ b z) (va_cwS 2 Cx.1.2.2.2.2 gX8_addSubnet_X8_block rfl rfl rfl (by decide +kernel) ⟨Nat.le_of_ble_eq_true rfl, Nat.le_of_ble_eq_true rfl⟩)  rfl hl.1 rfl (Nat.le_of_ble_eq_true rfl) dX8_addSubnet_182 ⟨Nat.le_of_ble_eq_true rfl, Nat.le_of_ble_eq_true rfl⟩) (fun H locs hw => ?_)
                      rw [show (16 : Int32) * b + z = zbi (b, z) from rfl]
                      refine zm_iast Cx hw (k := 5) (n := 8) (by decide) hcd.1 dX8_addSubnet_185 (fun H locs hw => ?_)
                      refine lv_aload_n hx hb dX8_addSubnet_186 rfl (lv_at hl 0 rfl) ?_
                      refine lv_dup hx hb dX8_addSubnet_187 rfl ?_
                      refine z_get Cx hw (T := TX8) (N := 26) (ci := 11) (fun _ h => List.mem_cons_of_mem _ (List.mem_append_right _ (h))) zM_x rfl 3 (by decide) (List.mem_of_getElem? (i := 3) rfl) rfl rfl dX8_addSubnet_188 ?_
                      refine lv_topi (fun x_188 ex_188 => ?_)
                      have e_188 : x_188 = nI (vS V).length := ex_188.trans hn3
                      clear ex_188
                      subst e_188
                      refine lv_iconst (v := 1) hx hb dX8_addSubnet_191 (by decide) ?_
                      refine lv_iadd hx hb dX8_addSubnet_192 ?_
                      rw [show nI (vS V).length + 1 = nI ((vS V).length + 1) from nI_1 _]
                      refine z_put Cx (X := X) hw (T := TX8) (N := 26) (ci := 11) (ty := .int) (fun _ h => List.mem_cons_of_mem _ (List.mem_append_right _ (h))) tyX8 tyX8_ok nmX8 zM_o rfl 3 (by decide) (List.mem_of_getElem? (i := 3) rfl) rfl rfl (by decide +kernel) rfl rfl (Nat.le_of_ble_eq_true rfl) dX8_addSubnet_193 (fun H locs hw2 => ?_)
                      have hw := zM_putS 3 (nI ((vS V).length + 1)) hw hw2 rfl
                      refine lv_aload_n hx hb dX8_addSubnet_196 rfl (lv_at hl 0 rfl) ?_
                      refine z_get Cx hw (T := TX8) (N := 26) (ci := 11) (fun _ h => List.mem_cons_of_mem _ (List.mem_append_right _ (h))) zM_x rfl 3 (by decide) (List.mem_of_getElem? (i := 3) rfl) rfl rfl dX8_addSubnet_197 ?_
                      refine lv_iconst (v := 1) hx hb dX8_addSubnet_200 (by decide) ?_
                      refine lv_isub hx hb dX8_addSubnet_201 ?_
                      exact z_iret (wf := (fun (u : zU) => zQ E (X ++ zMw E y ad u.2.1 u.2.2.1) C)) Cx hr rfl (Nat.le_of_ble_eq_true rfl) (Nat.le_of_ble_eq_true rfl) (0, _, _, _) hw ⟨Or.inr ⟨hz1, k2, w2, rfl, hw02, Or.inr ⟨⟨hbz, hzw⟩, Or.inr ⟨hcd, rfl, rfl, nI_pred _⟩⟩⟩, zMT_addS (zMT_0 hT _) hcd.1 (List.getElem?_eq_some_iff.mp hw02).1 (b, z), rfl⟩ dX8_addSubnet_202
                    · skip
                      exact absurd c_157 (by decide)
                · skip
                  have hno2 : ¬ ∃ (k : Nat) (w : zBk), f = nI k ∧ (vN V)[k]? = some w ∧ zbok b z ∧ zwin w b z = true := fun h => by
                    have h9 := (zb_0 _).mp c_137
                    rw [hq2.mpr h] at h9; cases h9
                  obtain ⟨k2, hk2, e2⟩ := hz1
                  obtain ⟨w2, hw02⟩ : ∃ w, (vN V)[k2]? = some w := ⟨_, List.getElem?_eq_getElem hk2⟩
                  refine lv_iconst (v := nI 2) hx hb dX8_addSubnet_140 rfl ?_
                  refine lv_goto (tgt := 154) hx hb dX8_addSubnet_141 (by decide) ?_
                  refine z_goe hw.2 (z_runV Cx hw (c_X8_holds E l X C y ad sc g _) (cwV 1 Cx.1.2.2.2.2 gX8_addSubnet_X8_holds rfl rfl rfl (by decide +kernel) ⟨Nat.le_of_ble_eq_true rfl, Nat.le_of_ble_eq_true rfl⟩) (z_recv Cx hw (r := (RX8, TX8, 26)) zM_x rfl) rfl hl.1 rfl (Nat.le_of_ble_eq_true rfl) dX8_addSubnet_154 ⟨Nat.le_of_ble_eq_true rfl, Nat.le_of_ble_eq_true rfl⟩) (fun H locs hw => ?_)
                  refine lv_if_ne (tgt := 162) hx hb dX8_addSubnet_157 (by decide) (fun c_157 => ?_) (fun c_157 => ?_)
                  · skip
                    exact absurd (by decide) c_157
                  · skip
                    refine lv_iconst (v := 0) hx hb dX8_addSubnet_160 (by decide) ?_
                    exact z_iret (wf := (fun (u : zU) => zQ E (X ++ zMw E y ad u.2.1 u.2.2.1) C)) Cx hr rfl (Nat.le_of_ble_eq_true rfl) (Nat.le_of_ble_eq_true rfl) (2, _, _, V) hw ⟨Or.inr ⟨⟨k2, hk2, e2⟩, k2, w2, e2, hw02, Or.inl ⟨rfl, rfl, fun h => hno2 ⟨k2, w2, e2, hw02, h.1, h.2⟩⟩⟩, zMT_0 hT _, rfl⟩ dX8_addSubnet_161
              · skip
                have hz1 : ¬ zix f (vN V).length := fun h => by
                  have h9 := (zb_0 _).mp c_128
                  rw [hq1.mpr h] at h9; cases h9
                refine lv_iconst (v := nI 1) hx hb dX8_addSubnet_131 rfl ?_
                refine lv_goto (tgt := 154) hx hb dX8_addSubnet_132 (by decide) ?_
                refine z_goe hw.2 (z_runV Cx hw (c_X8_holds E l X C y ad sc g _) (cwV 1 Cx.1.2.2.2.2 gX8_addSubnet_X8_holds rfl rfl rfl (by decide +kernel) ⟨Nat.le_of_ble_eq_true rfl, Nat.le_of_ble_eq_true rfl⟩) (z_recv Cx hw (r := (RX8, TX8, 26)) zM_x rfl) rfl hl.1 rfl (Nat.le_of_ble_eq_true rfl) dX8_addSubnet_154 ⟨Nat.le_of_ble_eq_true rfl, Nat.le_of_ble_eq_true rfl⟩) (fun H locs hw => ?_)
                refine lv_if_ne (tgt := 162) hx hb dX8_addSubnet_157 (by decide) (fun c_157 => ?_) (fun c_157 => ?_)
                · skip
                  exact absurd (by decide) c_157
                · skip
                  refine lv_iconst (v := 0) hx hb dX8_addSubnet_160 (by decide) ?_
                  exact z_iret (wf := (fun (u : zU) => zQ E (X ++ zMw E y ad u.2.1 u.2.2.1) C)) Cx hr rfl (Nat.le_of_ble_eq_true rfl) (Nat.le_of_ble_eq_true rfl) (1, _, _, V) hw ⟨Or.inl ⟨rfl, rfl, hz1⟩, zMT_0 hT _, rfl⟩ dX8_addSubnet_161
            · skip
              have hq2t : q2 = true := (zb_1 _).mp c_86
              have hbz : zbok b z := by
                obtain ⟨_, _, _, _, h, _⟩ := hq2.mp hq2t
                exact h
              refine lv_iload hx hb dX8_addSubnet_89 (lv_at hl 6 rfl) ?_
              refine lv_if_eq (tgt := 116) hx hb dX8_addSubnet_91 (by decide) (fun c_91 => ?_) (fun c_91 => ?_)
              · skip
                have hF0 : q2 = true → false = (decide ((vS V).length < 8) && !((vS V).take (i + 1)).any (fun (s : zSb) => zovl s.2.1 (b, z))) := fun h => by
                  have h9 := hF h
                  rw [(zb_0 _).mp c_91] at h9
                  rw [ht, List.any_append, Bool.not_or, ← Bool.and_assoc, ← h9]; rfl
                refine lv_iconst (v := zb false) hx hb dX8_addSubnet_116 rfl ?_
                refine lv_istore hx hb dX8_addSubnet_117 hl (by decide) rfl (fun ls hl => ?_)
                have hl : lv_has ls 8 [(6, .int (zb false)), (0, .ref y), (1, .int f), (2, .int b), (3, .int z), (4, .int (zb q1)), (5, .int (zb q2)), (7, .int (nI i))] := hl
                refine lv_iinc (v := nI (i + 1)) hx hb dX8_addSubnet_119 hl (k := 7) rfl (nI_1 i) (by decide) rfl (fun ls hl => ?_)
                have hl : lv_has ls 8 [(7, .int (nI (i + 1))), (6, .int (zb false)), (0, .ref y), (1, .int f), (2, .int b), (3, .int z), (4, .int (zb q1)), (5, .int (zb q2))] := hl
                refine lv_goto (tgt := 75) hx hb dX8_addSubnet_122 (by decide) ?_
                exact ih_75 (i + 1) false H _ ls (by omega) hF0 (by omega) hw (lv_sub hl [2, 3, 4, 5, 6, 7, 1, 0] rfl)
              · skip
                refine lv_aload_n hx hb dX8_addSubnet_94 rfl (lv_at hl 0 rfl) ?_
                refine z_get Cx hw (T := TX8) (N := 26) (ci := 11) (fun _ h => List.mem_cons_of_mem _ (List.mem_append_right _ (h))) zM_x rfl 5 (by decide) (List.mem_of_getElem? (i := 4) rfl) rfl rfl dX8_addSubnet_95 ?_
                refine lv_iload hx hb dX8_addSubnet_98 (lv_at hl 7 rfl) ?_
                refine zm_iald Cx hw (k := 5) (n := 8) (by decide) (by omega) dX8_addSubnet_100 ?_
                refine lv_topi (fun x_100 ex_100 => ?_)
                have e_100 := ex_100.trans (hg5)
                clear ex_100
                subst e_100
                refine lv_iload_n hx hb dX8_addSubnet_101 rfl (lv_at hl 2 rfl) ?_
                refine lv_iload_n hx hb dX8_addSubnet_102 rfl (lv_at hl 3 rfl) ?_
                refine z_goe hw.2 (z_runS Cx hw (c_X8_block E l (zQ E (X ++ zMw E y ad sc g) C) b z) (va_cwS 2 Cx.1.2.2.2.2 gX8_addSubnet_X8_block rfl rfl rfl (by decide +kernel) ⟨Nat.le_of_ble_eq_true rfl, Nat.le_of_ble_eq_true rfl⟩)  rfl hl.1 rfl (Nat.le_of_ble_eq_true rfl) dX8_addSubnet_103 ⟨Nat.le_of_ble_eq_true rfl, Nat.le_of_ble_eq_true rfl⟩) (fun H locs hw => ?_)
                rw [show (16 : Int32) * b + z = zbi (b, z) from rfl]
                refine z_goe hw.2 (z_runS Cx hw (c_X8_haveCommon E l (zQ E (X ++ zMw E y ad sc g) C) (zbi u.2.1) (zbi (b, z))) (va_cwS 2 Cx.1.2.2.2.2 gX8_addSubnet_X8_haveCommon rfl rfl rfl (by decide +kernel) ⟨Nat.le_of_ble_eq_true rfl, Nat.le_of_ble_eq_true rfl⟩)  rfl hl.1 rfl (Nat.le_of_ble_eq_true rfl) dX8_addSubnet_106 ⟨Nat.le_of_ble_eq_true rfl, Nat.le_of_ble_eq_true rfl⟩) (fun H locs hw => ?_)
                refine lv_if_ne (tgt := 116) hx hb dX8_addSubnet_109 (by decide) (fun c_109 => ?_) (fun c_109 => ?_)
                · skip
                  have hF1 : q2 = true → false = (decide ((vS V).length < 8) && !((vS V).take (i + 1)).any (fun (s : zSb) => zovl s.2.1 (b, z))) := fun h => by
                    have h8 := (zb_1 _).mp c_109
                    rw [zmcom_eq (hI.2.1 u (List.mem_of_getElem? hu)).2.1 hbz] at h8
                    rw [ht, List.any_append, List.any_cons, h8, Bool.true_or, Bool.or_true]; simp
                  refine lv_iconst (v := zb false) hx hb dX8_addSubnet_116 rfl ?_
                  refine lv_istore hx hb dX8_addSubnet_117 hl (by decide) rfl (fun ls hl => ?_)
                  have hl : lv_has ls 8 [(6, .int (zb false)), (0, .ref y), (1, .int f), (2, .int b), (3, .int z), (4, .int (zb q1)), (5, .int (zb q2)), (7, .int (nI i))] := hl
                  refine lv_iinc (v := nI (i + 1)) hx hb dX8_addSubnet_119 hl (k := 7) rfl (nI_1 i) (by decide) rfl (fun ls hl => ?_)
                  have hl : lv_has ls 8 [(7, .int (nI (i + 1))), (6, .int (zb false)), (0, .ref y), (1, .int f), (2, .int b), (3, .int z), (4, .int (zb q1)), (5, .int (zb q2))] := hl
                  refine lv_goto (tgt := 75) hx hb dX8_addSubnet_122 (by decide) ?_
                  exact ih_75 (i + 1) false H _ ls (by omega) hF1 (by omega) hw (lv_sub hl [2, 3, 4, 5, 6, 7, 1, 0] rfl)
                · skip
                  have hF2 : q2 = true → true = (decide ((vS V).length < 8) && !((vS V).take (i + 1)).any (fun (s : zSb) => zovl s.2.1 (b, z))) := fun h => by
                    have h9 := hF h
                    rw [(zb_1 _).mp c_91] at h9
                    have h8 := (zb_0 _).mp c_109
                    rw [zmcom_eq (hI.2.1 u (List.mem_of_getElem? hu)).2.1 hbz] at h8
                    rw [ht, List.any_append, List.any_cons, h8, List.any_nil, Bool.or_false, Bool.or_false]; exact h9
                  refine lv_iconst (v := zb true) hx hb dX8_addSubnet_112 rfl ?_
                  refine lv_goto (tgt := 117) hx hb dX8_addSubnet_113 (by decide) ?_
                  refine lv_istore hx hb dX8_addSubnet_117 hl (by decide) rfl (fun ls hl => ?_)
                  have hl : lv_has ls 8 [(6, .int (zb true)), (0, .ref y), (1, .int f), (2, .int b), (3, .int z), (4, .int (zb q1)), (5, .int (zb q2)), (7, .int (nI i))] := hl
                  refine lv_iinc (v := nI (i + 1)) hx hb dX8_addSubnet_119 hl (k := 7) rfl (nI_1 i) (by decide) rfl (fun ls hl => ?_)
                  have hl : lv_has ls 8 [(7, .int (nI (i + 1))), (6, .int (zb true)), (0, .ref y), (1, .int f), (2, .int b), (3, .int z), (4, .int (zb q1)), (5, .int (zb q2))] := hl
                  refine lv_goto (tgt := 75) hx hb dX8_addSubnet_122 (by decide) ?_
                  exact ih_75 (i + 1) true H _ ls (by omega) hF2 (by omega) hw (lv_sub hl [2, 3, 4, 5, 6, 7, 1, 0] rfl)
      exact loop_75 (((vS V).length - 0) + 1) 0 F _ _ ls (Nat.zero_le _) hF (Nat.lt_succ_self _) hw (lv_sub hl [0, 1, 2, 3, 4, 5, 6, 7] rfl)
    refine lv_icmp_ge (tgt := 69) hx hb dX8_addSubnet_62 (by decide) (fun c_62 => ?_) (fun c_62 => ?_)
    · skip
      have hc62 : ¬ (vS V).length < 8 := by
        have := (nI_leI (a := 8) (b := (vS V).length) (by omega) (by omega)).mp c_62
        omega
      refine lv_iconst (v := zb false) hx hb dX8_addSubnet_69 rfl ?_
      refine lv_istore hx hb dX8_addSubnet_70 hl (by decide) rfl (fun ls hl => ?_)
      have hl : lv_has ls 8 [(6, .int (zb false)), (0, .ref y), (1, .int f), (2, .int b), (3, .int z), (4, .int (zb q1)), (5, .int (zb q2))] := hl
      refine lv_iconst (v := nI 0) hx hb dX8_addSubnet_72 rfl ?_
      refine lv_istore hx hb dX8_addSubnet_73 hl (by decide) rfl (fun ls hl => ?_)
      have hl : lv_has ls 8 [(7, .int (nI 0)), (6, .int (zb false)), (0, .ref y), (1, .int f), (2, .int b), (3, .int z), (4, .int (zb q1)), (5, .int (zb q2))] := hl
      exact cut_75 false H _ ls (fun _ => by simp [hc62]) hw (lv_sub hl [2, 3, 4, 5, 6, 7, 1, 0] rfl)
    · skip
      have hc62 : (vS V).length < 8 := by
        rcases Nat.lt_or_ge ((vS V).length) 8 with h | h
        · exact h
        · exact absurd (nI_le (a := 8) h (by omega)) c_62
      refine lv_iconst (v := zb true) hx hb dX8_addSubnet_65 rfl ?_
      refine lv_goto (tgt := 70) hx hb dX8_addSubnet_66 (by decide) ?_
      refine lv_istore hx hb dX8_addSubnet_70 hl (by decide) rfl (fun ls hl => ?_)
      have hl : lv_has ls 8 [(6, .int (zb true)), (0, .ref y), (1, .int f), (2, .int b), (3, .int z), (4, .int (zb q1)), (5, .int (zb q2))] := hl
      refine lv_iconst (v := nI 0) hx hb dX8_addSubnet_72 rfl ?_
      refine lv_istore hx hb dX8_addSubnet_73 hl (by decide) rfl (fun ls hl => ?_)
      have hl : lv_has ls 8 [(7, .int (nI 0)), (6, .int (zb true)), (0, .ref y), (1, .int f), (2, .int b), (3, .int z), (4, .int (zb q1)), (5, .int (zb q2))] := hl
      exact cut_75 true H _ ls (fun _ => by simp [hc62]) hw (lv_sub hl [2, 3, 4, 5, 6, 7, 1, 0] rfl)
  refine lv_if_eq (tgt := 53) hx hb dX8_addSubnet_12 (by decide) (fun c_12 => ?_) (fun c_12 => ?_)
  · skip
    have hno : ¬ (∃ (k : Nat) (w : zBk), f = nI k ∧ (vN V)[k]? = some w ∧ zbok b z ∧ zwin w b z = true) := fun ⟨k9, w9, e9, hw9, hb9, hz9⟩ => by
      have h9 := (zb_0 _).mp c_12
      rw [hq1.mpr ⟨k9, (List.getElem?_eq_some_iff.mp hw9).1, e9⟩] at h9; cases h9
    refine lv_iconst (v := zb false) hx hb dX8_addSubnet_53 rfl ?_
    refine lv_istore hx hb dX8_addSubnet_54 hl (by decide) rfl (fun ls hl => ?_)
    have hl : lv_has ls 8 [(5, .int (zb false)), (4, .int (zb q1)), (0, .ref y), (1, .int f), (2, .int b), (3, .int z)] := hl
    exact cut_56 false H _ ls (iff_of_false Bool.false_ne_true hno) hw (lv_sub hl [2, 3, 4, 5, 1, 0] rfl)
  · skip
    obtain ⟨k, hk, rfl⟩ := hq1.mp ((zb_1 _).mp c_12)
    obtain ⟨w, hw0⟩ : ∃ w, (vN V)[k]? = some w := ⟨_, List.getElem?_eq_getElem hk⟩
    have hwk := hI.1.1 w (List.mem_of_getElem? hw0)
    have hg2 := hR.1.2.2 k w hw0
    have huw : ∀ (k9 : Nat) (w9 : zBk), nI k = nI k9 → (vN V)[k9]? = some w9 → w9 = w := fun k9 w9 e9 h9 => (z_ixeq (f := nI k) rfl h9 hw0 e9 rfl (by omega)).2
    refine lv_iload_n hx hb dX8_addSubnet_15 rfl (lv_at hl 3 rfl) ?_
    refine lv_iload_n hx hb dX8_addSubnet_16 rfl (lv_at hl 4 rfl) ?_
    refine z_goe hw.2 (z_runS Cx hw (c_X8_isBlock E l (zQ E (X ++ zMw E y ad sc g) C) b z) (va_cwS 2 Cx.1.2.2.2.2 gX8_addSubnet_X8_isBlock rfl rfl rfl (by decide +kernel) ⟨Nat.le_of_ble_eq_true rfl, Nat.le_of_ble_eq_true rfl⟩)  rfl hl.1 rfl (Nat.le_of_ble_eq_true rfl) dX8_addSubnet_17 ⟨Nat.le_of_ble_eq_true rfl, Nat.le_of_ble_eq_true rfl⟩) (fun H locs hw => ?_)
    refine lv_topi (fun x_17 ex_17 => ?_)
    obtain ⟨q3, hq3, e_17⟩ : ∃ q : Bool, (q = true ↔ zbok b z) ∧ x_17 = zb q := ⟨_, (by rw [decide_eq_true_iff]; exact zmblk_iff b z), ex_17⟩
    clear ex_17
    subst e_17
    refine lv_if_eq (tgt := 53) hx hb dX8_addSubnet_20 (by decide) (fun c_20 => ?_) (fun c_20 => ?_)
    · skip
      have hno : ¬ (∃ (k0 : Nat) (w : zBk), nI k = nI k0 ∧ (vN V)[k0]? = some w ∧ zbok b z ∧ zwin w b z = true) := fun ⟨k9, w9, e9, hw9, hb9, hz9⟩ => by
        have h9 := (zb_0 _).mp c_20
        rw [hq3.mpr hb9] at h9; cases h9
      refine lv_iconst (v := zb false) hx hb dX8_addSubnet_53 rfl ?_
      refine lv_istore hx hb dX8_addSubnet_54 hl (by decide) rfl (fun ls hl => ?_)
      have hl : lv_has ls 8 [(5, .int (zb false)), (4, .int (zb q1)), (0, .ref y), (1, .int (nI k)), (2, .int b), (3, .int z)] := hl
      exact cut_56 false H _ ls (iff_of_false Bool.false_ne_true hno) hw (lv_sub hl [2, 3, 4, 5, 1, 0] rfl)
    · skip
      have hbz : zbok b z := hq3.mp ((zb_1 _).mp c_20)
      refine lv_iload_n hx hb dX8_addSubnet_23 rfl (lv_at hl 4 rfl) ?_
      refine lv_aload_n hx hb dX8_addSubnet_24 rfl (lv_at hl 1 rfl) ?_
      refine z_get Cx hw (T := TX8) (N := 26) (ci := 11) (fun _ h => List.mem_cons_of_mem _ (List.mem_append_right _ (h))) zM_x rfl 2 (by decide) (List.mem_of_getElem? (i := 2) rfl) rfl rfl dX8_addSubnet_25 ?_
      refine lv_iload_n hx hb dX8_addSubnet_28 rfl (lv_at hl 2 rfl) ?_
      refine zm_iald Cx hw (k := 2) (n := 4) (by decide) (by omega) dX8_addSubnet_29 ?_
      refine lv_topi (fun x_29 ex_29 => ?_)
      have e_29 := ex_29.trans (hg2)
      clear ex_29
      subst e_29
      refine lv_bipush (v := 16) hx hb dX8_addSubnet_30 rfl ?_
      refine lv_irem hx hb dX8_addSubnet_32 (by decide) ?_
      refine lv_topi (fun x_32 ex_32 => ?_)
      rw [zsiz_eq hwk] at ex_32
      subst ex_32
      refine lv_icmp_gt (tgt := 53) hx hb dX8_addSubnet_33 (by decide) (fun c_33 => ?_) (fun c_33 => ?_)
      · skip
        have hno : ¬ (∃ (k0 : Nat) (w : zBk), nI k = nI k0 ∧ (vN V)[k0]? = some w ∧ zbok b z ∧ zwin w b z = true) := fun ⟨k9, w9, e9, hw9, hb9, hz9⟩ => by
          rw [huw k9 w9 e9 hw9] at hz9
          unfold zwin at hz9
          rw [Bool.and_eq_true, decide_eq_true_iff] at hz9
          exact Int32.not_le.mpr c_33 hz9.1
        refine lv_iconst (v := zb false) hx hb dX8_addSubnet_53 rfl ?_
        refine lv_istore hx hb dX8_addSubnet_54 hl (by decide) rfl (fun ls hl => ?_)
        have hl : lv_has ls 8 [(5, .int (zb false)), (4, .int (zb q1)), (0, .ref y), (1, .int (nI k)), (2, .int b), (3, .int z)] := hl
        exact cut_56 false H _ ls (iff_of_false Bool.false_ne_true hno) hw (lv_sub hl [2, 3, 4, 5, 1, 0] rfl)
      · skip
        refine lv_aload_n hx hb dX8_addSubnet_36 rfl (lv_at hl 1 rfl) ?_
        refine z_get Cx hw (T := TX8) (N := 26) (ci := 11) (fun _ h => List.mem_cons_of_mem _ (List.mem_append_right _ (h))) zM_x rfl 2 (by decide) (List.mem_of_getElem? (i := 2) rfl) rfl rfl dX8_addSubnet_37 ?_
        refine lv_iload_n hx hb dX8_addSubnet_40 rfl (lv_at hl 2 rfl) ?_
        refine zm_iald Cx hw (k := 2) (n := 4) (by decide) (by omega) dX8_addSubnet_41 ?_
        refine lv_topi (fun x_41 ex_41 => ?_)
        have e_41 := ex_41.trans (hg2)
        clear ex_41
        subst e_41
        refine lv_iload_n hx hb dX8_addSubnet_42 rfl (lv_at hl 3 rfl) ?_
        refine z_goe hw.2 (z_runS Cx hw (c_X8_has E l (zQ E (X ++ zMw E y ad sc g) C) (zbi w) b) (va_cwS 2 Cx.1.2.2.2.2 gX8_addSubnet_X8_has rfl rfl rfl (by decide +kernel) ⟨Nat.le_of_ble_eq_true rfl, Nat.le_of_ble_eq_true rfl⟩)  rfl hl.1 rfl (Nat.le_of_ble_eq_true rfl) dX8_addSubnet_43 ⟨Nat.le_of_ble_eq_true rfl, Nat.le_of_ble_eq_true rfl⟩) (fun H locs hw => ?_)
        refine lv_if_eq (tgt := 53) hx hb dX8_addSubnet_46 (by decide) (fun c_46 => ?_) (fun c_46 => ?_)
        · skip
          have hno : ¬ (∃ (k0 : Nat) (w : zBk), nI k = nI k0 ∧ (vN V)[k0]? = some w ∧ zbok b z ∧ zwin w b z = true) := fun ⟨k9, w9, e9, hw9, hb9, hz9⟩ => by
            rw [huw k9 w9 e9 hw9] at hz9
            unfold zwin at hz9
            rw [Bool.and_eq_true, ← zmhas_eq hwk, (zb_0 _).mp c_46] at hz9
            cases hz9.2
          refine lv_iconst (v := zb false) hx hb dX8_addSubnet_53 rfl ?_
          refine lv_istore hx hb dX8_addSubnet_54 hl (by decide) rfl (fun ls hl => ?_)
          have hl : lv_has ls 8 [(5, .int (zb false)), (4, .int (zb q1)), (0, .ref y), (1, .int (nI k)), (2, .int b), (3, .int z)] := hl
          exact cut_56 false H _ ls (iff_of_false Bool.false_ne_true hno) hw (lv_sub hl [2, 3, 4, 5, 1, 0] rfl)
        · skip
          have hyes : ∃ (k0 : Nat) (w : zBk), nI k = nI k0 ∧ (vN V)[k0]? = some w ∧ zbok b z ∧ zwin w b z = true := ⟨k, w, rfl, hw0, hbz, by
            unfold zwin
            rw [Bool.and_eq_true, ← zmhas_eq hwk, decide_eq_true_iff]
            exact ⟨Int32.not_lt.mp c_33, (zb_1 _).mp c_46⟩⟩
          refine lv_iconst (v := zb true) hx hb dX8_addSubnet_49 rfl ?_
          refine lv_goto (tgt := 54) hx hb dX8_addSubnet_50 (by decide) ?_
          refine lv_istore hx hb dX8_addSubnet_54 hl (by decide) rfl (fun ls hl => ?_)
          have hl : lv_has ls 8 [(5, .int (zb true)), (4, .int (zb q1)), (0, .ref y), (1, .int (nI k)), (2, .int b), (3, .int z)] := hl
          exact cut_56 true H _ ls (iff_of_true rfl hyes) hw (lv_sub hl [2, 3, 4, 5, 1, 0] rfl)

