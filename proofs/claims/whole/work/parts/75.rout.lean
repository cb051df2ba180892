set_option maxRecDepth 100000 in
set_option maxHeartbeats 4000000 in
/-- routeOf -/
theorem c_X8_routeOf (E : zG) (l : Launch) (X : va_W) (C : zLs) (y : Nat) (ad : Nat → Nat) (sc : Nat → Int32) (g : Nat → Nat → Int32) (V : zCl) (hN : zMN sc g V) (hW : zMS sc g V) (i : Nat) (v : zSb) (hv : (vS V)[i]? = some v) (w : zBk) (hw0 : (vN V)[v.1]? = some w) (x : Int32) : Met l yX8_routeOf wsX8_routeOf (zR 2 0 0) (zPre E [.ref y, .int (nI i), .int x] (zQ E (X ++ zMw E y ad sc g) C)) (zRi E (zQ E (X ++ zMw E y ad sc g) C) (zmrn x v.2.2.2 (if zmhas (zbi w) x = true then -1 else -2) (if zmhas (zbi w) x = true then zbi w - zbi w / 16 * 16 else 11))) 0 0 (eA E) := by
  refine z_of (cc := cX8_routeOf) (maxL := 8) (ret := (some .int)) (by decide) rfl rfl (Nat.le_of_ble_eq_true rfl) ?_
  intro p e s m below meth c ls Cx hr hnm hw hl
  have hx := Cx.1.1
  have hb := Cx.1.2.1
  obtain ⟨-, hm, hW⟩ := hW
  obtain ⟨-, hmN, hN⟩ := hN
  have hi8 : i < 8 := by
    have := (List.getElem?_eq_some_iff.mp hv).1
    omega
  obtain ⟨⟨hn1, hn2⟩, -, -, ⟨hsz, hle, hru⟩⟩ := hW i v hv
  have hn4 : v.1 < 4 := by omega
  have hnw := hN v.1 w hw0
  have hl : lv_has ls 8 [(0, .ref y), (1, .int (nI i)), (2, .int x)] := hl
  refine lv_aload_n hx hb dX8_routeOf_0 rfl (lv_at hl 0 rfl) ?_
  refine z_get Cx hw (T := TX8) (N := 26) (ci := 11) (fun _ h => List.mem_cons_of_mem _ (List.mem_append_right _ (h))) zM_x rfl 2 (by decide) (List.mem_of_getElem? (i := 1) rfl) rfl rfl dX8_routeOf_1 ?_
  refine lv_aload_n hx hb dX8_routeOf_4 rfl (lv_at hl 0 rfl) ?_
  refine z_get Cx hw (T := TX8) (N := 26) (ci := 11) (fun _ h => List.mem_cons_of_mem _ (List.mem_append_right _ (h))) zM_x rfl 4 (by decide) (List.mem_of_getElem? (i := 2) rfl) rfl rfl dX8_routeOf_5 ?_
  refine lv_iload_n hx hb dX8_routeOf_8 rfl (lv_at hl 1 rfl) ?_
  refine zm_iald Cx hw (k := 4) (n := 8) (by decide) hi8 dX8_routeOf_9 ?_
  refine lv_topi (fun x_9 ex_9 => ?_)
  rw [hn1] at ex_9
  subst ex_9
  refine zm_iald Cx hw (k := 2) (n := 4) (by decide) hn4 dX8_routeOf_10 ?_
  refine lv_topi (fun x_10 ex_10 => ?_)
  rw [hnw] at ex_10
  subst ex_10
  refine lv_istore_n hx hb dX8_routeOf_11 rfl hl (by decide) rfl (fun ls hl => ?_)
  have hl : lv_has ls 8 [(3, .int (zbi w)), (0, .ref y), (1, .int (nI i)), (2, .int x)] := hl
  refine lv_iload_n hx hb dX8_routeOf_12 rfl (lv_at hl 0 rfl) ?_
  refine lv_iload_n hx hb dX8_routeOf_13 rfl (lv_at hl 3 rfl) ?_
  refine z_goe hw.2 (z_runS Cx hw (c_X8_has E l _ (zbi w) x) (va_cwS 2 Cx.1.2.2.2.2 gX8_routeOf_X8_has rfl rfl rfl (by decide +kernel) ⟨Nat.le_of_ble_eq_true rfl, Nat.le_of_ble_eq_true rfl⟩)  rfl hl.1 rfl (Nat.le_of_ble_eq_true rfl) dX8_routeOf_14 ⟨Nat.le_of_ble_eq_true rfl, Nat.le_of_ble_eq_true rfl⟩) (fun H locs hw => ?_)
  refine lv_if_eq (tgt := 24) hx hb dX8_routeOf_17 (by decide) (fun c_17 => ?_) (fun c_17 => ?_)
  · skip
    have e_f : (if zmhas (zbi w) x = true then (-1 : Int32) else -2) = -2 := if_neg (by rw [(zb_0 _).mp c_17]; decide)
    refine lv_bipush (v := -2) hx hb dX8_routeOf_24 (by decide) ?_
    refine lv_istore hx hb dX8_routeOf_26 hl (by decide) rfl (fun ls hl => ?_)
    have hl : lv_has ls 8 [(4, _), (3, .int (zbi w)), (0, .ref y), (1, .int (nI i)), (2, .int x)] := hl
    refine lv_iload_n hx hb dX8_routeOf_28 rfl (lv_at hl 1 rfl) ?_
    refine lv_iload_n hx hb dX8_routeOf_29 rfl (lv_at hl 4 rfl) ?_
    refine z_goe hw.2 (z_runS Cx hw (c_X8_has E l _ (zbi w) x) (va_cwS 2 Cx.1.2.2.2.2 gX8_routeOf_X8_has rfl rfl rfl (by decide +kernel) ⟨Nat.le_of_ble_eq_true rfl, Nat.le_of_ble_eq_true rfl⟩)  rfl hl.1 rfl (Nat.le_of_ble_eq_true rfl) dX8_routeOf_30 ⟨Nat.le_of_ble_eq_true rfl, Nat.le_of_ble_eq_true rfl⟩) (fun H locs hw => ?_)
    refine lv_if_eq (tgt := 43) hx hb dX8_routeOf_33 (by decide) (fun c_33 => ?_) (fun c_33 => ?_)
    · skip
      have e_z : (if zmhas (zbi w) x = true then zbi w - zbi w / 16 * 16 else 11) = 11 := if_neg (by rw [(zb_0 _).mp c_33]; decide)
      refine lv_bipush (v := 11) hx hb dX8_routeOf_43 (by decide) ?_
      refine lv_istore hx hb dX8_routeOf_45 hl (by decide) rfl (fun ls hl => ?_)
      have hl : lv_has ls 8 [(5, _), (4, _), (3, .int (zbi w)), (0, .ref y), (1, .int (nI i)), (2, .int x)] := hl
      refine lv_bipush (v := nI 8) hx hb dX8_routeOf_47 rfl ?_
      refine lv_iload_n hx hb dX8_routeOf_49 rfl (lv_at hl 4 rfl) ?_
      refine lv_imul hx hb dX8_routeOf_50 ?_
      refine lv_topi (fun x_50 ex_50 => ?_)
      rw [zi_mul] at ex_50
      subst ex_50
      refine lv_istore hx hb dX8_routeOf_51 hl (by decide) rfl (fun ls hl => ?_)
      have hl : lv_has ls 8 [(6, .int (nI (8 * i))), (5, _), (4, _), (3, .int (zbi w)), (0, .ref y), (1, .int (nI i)), (2, .int x)] := hl
      have loop_53 : ∀ (nn : Nat) (j : Nat) (f0 z0 : Int32) (H : Heap) (locs : List Loc) (ls : Array Slot), (j ≤ v.2.2.2.length) → (zmrn x (v.2.2.2.drop j) f0 z0 = zmrn x v.2.2.2 (if zmhas (zbi w) x = true then -1 else -2) (if zmhas (zbi w) x = true then zbi w - zbi w / 16 * 16 else 11)) → v.2.2.2.length - j < nn → zHw E (zQ E (X ++ zMw E y ad sc g) C) s H locs → lv_has ls 8 [(0, .ref y), (1, .int (nI i)), (2, .int x), (3, .int (zbi w)), (4, .int f0), (5, .int z0), (6, .int (nI (8 * i + j)))] → W p l e (zR 2 0 0) s m ([.ref y, .int (nI i), .int x] : List Value).toArray below meth c H locs 0 0 (MQ below (zRi E (zQ E (X ++ zMw E y ad sc g) C) (zmrn x v.2.2.2 (if zmhas (zbi w) x = true then -1 else -2) (if zmhas (zbi w) x = true then zbi w - zbi w / 16 * 16 else 11))) ([.ref y, .int (nI i), .int x] : List Value).toArray s 0 0 (eA E)) (F0 m 53 ls []) := by
        intro nn
        induction nn with
        | zero => intro j f0 z0 H locs ls hj hacc hm; exact absurd hm (Nat.not_lt_zero _)
        | succ nn ih_53 =>
          intro j f0 z0 H locs ls hj hacc hm hw hl
          refine lv_iload hx hb dX8_routeOf_53 (lv_at hl 6 rfl) ?_
          refine lv_bipush (v := nI 8) hx hb dX8_routeOf_55 rfl ?_
          refine lv_iload_n hx hb dX8_routeOf_57 rfl (lv_at hl 1 rfl) ?_
          refine lv_imul hx hb dX8_routeOf_58 ?_
          refine lv_topi (fun x_58 ex_58 => ?_)
          rw [zi_mul] at ex_58
          subst ex_58
          refine lv_aload_n hx hb dX8_routeOf_59 rfl (lv_at hl 0 rfl) ?_
          refine z_get Cx hw (T := TX8) (N := 26) (ci := 11) (fun _ h => List.mem_cons_of_mem _ (List.mem_append_right _ (h))) zM_x rfl 23 (by decide) (List.mem_of_getElem? (i := 3) rfl) rfl rfl dX8_routeOf_60 ?_
          refine lv_iload_n hx hb dX8_routeOf_63 rfl (lv_at hl 1 rfl) ?_
          refine zm_iald Cx hw (k := 23) (n := 8) (by decide) hi8 dX8_routeOf_64 ?_
          refine lv_iadd hx hb dX8_routeOf_65 ?_
          refine lv_topi (fun x_65 ex_65 => ?_)
          rw [hsz, nI_add] at ex_65
          subst ex_65
          refine lv_icmp_ge (tgt := 152) hx hb dX8_routeOf_66 (by decide) (fun c_66 => ?_) (fun c_66 => ?_)
          · skip
            have hjl : v.2.2.2.length ≤ j := by
              have := (nI_leI (by omega) (by omega)).mp c_66
              omega
            rw [List.drop_of_length_le hjl, zmrn] at hacc
            refine lv_iload hx hb dX8_routeOf_152 (lv_at hl 4 rfl) ?_
            exact (z_ie Cx hr rfl (Nat.le_of_ble_eq_true rfl) (Nat.le_of_ble_eq_true rfl) hw dX8_routeOf_154 (by rw [← hacc]))
          · skip
            have hjl : j < v.2.2.2.length := by
              rcases Nat.lt_or_ge j v.2.2.2.length with h | h
              · exact h
              · exact absurd (nI_le (by omega) (by omega)) c_66
            have hr0 := List.getElem?_eq_getElem hjl
            rw [List.drop_eq_getElem_cons hjl] at hacc
            generalize v.2.2.2[j] = r at hr0 hacc
            obtain ⟨r1, r2⟩ := hru j r hr0
            refine lv_aload_n hx hb dX8_routeOf_69 rfl (lv_at hl 0 rfl) ?_
            refine z_get Cx hw (T := TX8) (N := 26) (ci := 11) (fun _ h => List.mem_cons_of_mem _ (List.mem_append_right _ (h))) zM_x rfl 24 (by decide) (List.mem_of_getElem? (i := 4) rfl) rfl rfl dX8_routeOf_70 ?_
            refine lv_iload hx hb dX8_routeOf_73 (lv_at hl 6 rfl) ?_
            refine zm_iald Cx hw (k := 24) (n := 64) (by decide) (by omega) dX8_routeOf_75 ?_
            refine lv_topi (fun x_75 ex_75 => ?_)
            rw [r1] at ex_75
            subst ex_75
            refine lv_iload_n hx hb dX8_routeOf_76 rfl (lv_at hl 2 rfl) ?_
            refine z_goe hw.2 (z_runS Cx hw (c_X8_has E l _ (zbi r.1) x) (va_cwS 2 Cx.1.2.2.2.2 gX8_routeOf_X8_has rfl rfl rfl (by decide +kernel) ⟨Nat.le_of_ble_eq_true rfl, Nat.le_of_ble_eq_true rfl⟩)  rfl hl.1 rfl (Nat.le_of_ble_eq_true rfl) dX8_routeOf_77 ⟨Nat.le_of_ble_eq_true rfl, Nat.le_of_ble_eq_true rfl⟩) (fun H locs hw => ?_)
            refine lv_if_eq (tgt := 102) hx hb dX8_routeOf_80 (by decide) (fun c_80 => ?_) (fun c_80 => ?_)
            · skip
              have e_s : ¬ (zmhas (zbi r.1) x = true ∧ zbi r.1 - zbi r.1 / 16 * 16 < z0) := fun h => by rw [(zb_0 _).mp c_80] at h; exact absurd h.1 (by decide)
              refine lv_iconst (v := 0) hx hb dX8_routeOf_102 (by decide) ?_
              refine lv_istore hx hb dX8_routeOf_103 hl (by decide) rfl (fun ls hl => ?_)
              have hl : lv_has ls 8 [(7, _), (0, .ref y), (1, .int (nI i)), (2, .int x), (3, .int (zbi w)), (4, .int f0), (5, .int z0), (6, .int (nI (8 * i + j)))] := hl
              refine lv_iload hx hb dX8_routeOf_105 (lv_at hl 0 rfl) ?_
              refine lv_if_eq (tgt := 120) hx hb dX8_routeOf_107 (by decide) (fun c_107 => ?_) (fun c_107 => ?_)
              · skip
                refine lv_iload hx hb dX8_routeOf_120 (lv_at hl 5 rfl) ?_
                refine lv_istore hx hb dX8_routeOf_122 hl (by decide) rfl (fun ls hl => ?_)
                have hl : lv_has ls 8 [(4, _), (7, _), (0, .ref y), (1, .int (nI i)), (2, .int x), (3, .int (zbi w)), (5, .int z0), (6, .int (nI (8 * i + j)))] := hl
                refine lv_iload hx hb dX8_routeOf_124 (lv_at hl 1 rfl) ?_
                refine lv_if_eq (tgt := 142) hx hb dX8_routeOf_126 (by decide) (fun c_126 => ?_) (fun c_126 => ?_)
                · skip
                  refine lv_iload hx hb dX8_routeOf_142 (lv_at hl 6 rfl) ?_
                  refine lv_istore hx hb dX8_routeOf_144 hl (by decide) rfl (fun ls hl => ?_)
                  have hl : lv_has ls 8 [(5, _), (4, _), (7, _), (0, .ref y), (1, .int (nI i)), (2, .int x), (3, .int (zbi w)), (6, .int (nI (8 * i + j)))] := hl
                  refine lv_iinc (v := nI (8 * i + (j + 1))) hx hb dX8_routeOf_146 hl (k := 7) rfl (nI_1 (8 * i + j)) (by decide) rfl (fun ls hl => ?_)
                  have hl : lv_has ls 8 [(6, .int (nI (8 * i + (j + 1)))), (5, _), (4, _), (7, _), (0, .ref y), (1, .int (nI i)), (2, .int x), (3, .int (zbi w))] := hl
                  refine lv_goto (tgt := 53) hx hb dX8_routeOf_149 (by decide) ?_
                  exact ih_53 (j + 1) _ _ H _ ls (by omega) (by first | exact absurd rfl c_107 | exact absurd rfl c_126 | exact absurd c_107 (by decide) | exact absurd c_126 (by decide) | (rw [← hacc, zmrn, if_pos e_s]) | (rw [← hacc, zmrn, if_neg e_s])) (by omega) hw (lv_sub hl [4, 5, 6, 7, 2, 1, 0] rfl)
                · skip
                  refine lv_aload_n hx hb dX8_routeOf_129 rfl (lv_at hl 2 rfl) ?_
                  refine z_get Cx hw (T := TX8) (N := 26) (ci := 11) (fun _ h => List.mem_cons_of_mem _ (List.mem_append_right _ (h))) zM_x rfl 24 (by decide) (List.mem_of_getElem? (i := 4) rfl) rfl rfl dX8_routeOf_130 ?_
                  refine lv_iload hx hb dX8_routeOf_133 (lv_at hl 7 rfl) ?_
                  refine zm_iald Cx hw (k := 24) (n := 64) (by decide) (by omega) dX8_routeOf_135 ?_
                  refine lv_topi (fun x_135 ex_135 => ?_)
                  rw [r1] at ex_135
                  subst ex_135
                  refine lv_bipush (v := 16) hx hb dX8_routeOf_136 (by decide) ?_
                  refine lv_irem hx hb dX8_routeOf_138 (by decide) ?_
                  refine lv_goto (tgt := 144) hx hb dX8_routeOf_139 (by decide) ?_
                  refine lv_istore hx hb dX8_routeOf_144 hl (by decide) rfl (fun ls hl => ?_)
                  have hl : lv_has ls 8 [(5, _), (4, _), (7, _), (0, .ref y), (1, .int (nI i)), (2, .int x), (3, .int (zbi w)), (6, .int (nI (8 * i + j)))] := hl
                  refine lv_iinc (v := nI (8 * i + (j + 1))) hx hb dX8_routeOf_146 hl (k := 7) rfl (nI_1 (8 * i + j)) (by decide) rfl (fun ls hl => ?_)
                  have hl : lv_has ls 8 [(6, .int (nI (8 * i + (j + 1)))), (5, _), (4, _), (7, _), (0, .ref y), (1, .int (nI i)), (2, .int x), (3, .int (zbi w))] := hl
                  refine lv_goto (tgt := 53) hx hb dX8_routeOf_149 (by decide) ?_
                  exact ih_53 (j + 1) _ _ H _ ls (by omega) (by first | exact absurd rfl c_107 | exact absurd rfl c_126 | exact absurd c_107 (by decide) | exact absurd c_126 (by decide) | (rw [← hacc, zmrn, if_pos e_s]) | (rw [← hacc, zmrn, if_neg e_s])) (by omega) hw (lv_sub hl [4, 5, 6, 7, 2, 1, 0] rfl)
              · skip
                refine lv_aload_n hx hb dX8_routeOf_110 rfl (lv_at hl 1 rfl) ?_
                refine z_get Cx hw (T := TX8) (N := 26) (ci := 11) (fun _ h => List.mem_cons_of_mem _ (List.mem_append_right _ (h))) zM_x rfl 25 (by decide) (List.mem_of_getElem? (i := 5) rfl) rfl rfl dX8_routeOf_111 ?_
                refine lv_iload hx hb dX8_routeOf_114 (lv_at hl 7 rfl) ?_
                refine zm_iald Cx hw (k := 25) (n := 64) (by decide) (by omega) dX8_routeOf_116 ?_
                refine lv_topi (fun x_116 ex_116 => ?_)
                rw [r2] at ex_116
                subst ex_116
                refine lv_goto (tgt := 122) hx hb dX8_routeOf_117 (by decide) ?_
                refine lv_istore hx hb dX8_routeOf_122 hl (by decide) rfl (fun ls hl => ?_)
                have hl : lv_has ls 8 [(4, _), (7, _), (0, .ref y), (1, .int (nI i)), (2, .int x), (3, .int (zbi w)), (5, .int z0), (6, .int (nI (8 * i + j)))] := hl
                refine lv_iload hx hb dX8_routeOf_124 (lv_at hl 1 rfl) ?_
                refine lv_if_eq (tgt := 142) hx hb dX8_routeOf_126 (by decide) (fun c_126 => ?_) (fun c_126 => ?_)
                · skip
                  refine lv_iload hx hb dX8_routeOf_142 (lv_at hl 6 rfl) ?_
                  refine lv_istore hx hb dX8_routeOf_144 hl (by decide) rfl (fun ls hl => ?_)
                  have hl : lv_has ls 8 [(5, _), (4, _), (7, _), (0, .ref y), (1, .int (nI i)), (2, .int x), (3, .int (zbi w)), (6, .int (nI (8 * i + j)))] := hl
                  refine lv_iinc (v := nI (8 * i + (j + 1))) hx hb dX8_routeOf_146 hl (k := 7) rfl (nI_1 (8 * i + j)) (by decide) rfl (fun ls hl => ?_)
                  have hl : lv_has ls 8 [(6, .int (nI (8 * i + (j + 1)))), (5, _), (4, _), (7, _), (0, .ref y), (1, .int (nI i)), (2, .int x), (3, .int (zbi w))] := hl
                  refine lv_goto (tgt := 53) hx hb dX8_routeOf_149 (by decide) ?_
                  exact ih_53 (j + 1) _ _ H _ ls (by omega) (by first | exact absurd rfl c_107 | exact absurd rfl c_126 | exact absurd c_107 (by decide) | exact absurd c_126 (by decide) | (rw [← hacc, zmrn, if_pos e_s]) | (rw [← hacc, zmrn, if_neg e_s])) (by omega) hw (lv_sub hl [4, 5, 6, 7, 2, 1, 0] rfl)
                · skip
                  refine lv_aload_n hx hb dX8_routeOf_129 rfl (lv_at hl 2 rfl) ?_
                  refine z_get Cx hw (T := TX8) (N := 26) (ci := 11) (fun _ h => List.mem_cons_of_mem _ (List.mem_append_right _ (h))) zM_x rfl 24 (by decide) (List.mem_of_getElem? (i := 4) rfl) rfl rfl dX8_routeOf_130 ?_
                  refine lv_iload hx hb dX8_routeOf_133 (lv_at hl 7 rfl) ?_
                  refine zm_iald Cx hw (k := 24) (n := 64) (by decide) (by omega) dX8_routeOf_135 ?_
                  refine lv_topi (fun x_135 ex_135 => ?_)
                  rw [r1] at ex_135
                  subst ex_135
                  refine lv_bipush (v := 16) hx hb dX8_routeOf_136 (by decide) ?_
                  refine lv_irem hx hb dX8_routeOf_138 (by decide) ?_
                  refine lv_goto (tgt := 144) hx hb dX8_routeOf_139 (by decide) ?_
                  refine lv_istore hx hb dX8_routeOf_144 hl (by decide) rfl (fun ls hl => ?_)
                  have hl : lv_has ls 8 [(5, _), (4, _), (7, _), (0, .ref y), (1, .int (nI i)), (2, .int x), (3, .int (zbi w)), (6, .int (nI (8 * i + j)))] := hl
                  refine lv_iinc (v := nI (8 * i + (j + 1))) hx hb dX8_routeOf_146 hl (k := 7) rfl (nI_1 (8 * i + j)) (by decide) rfl (fun ls hl => ?_)
                  have hl : lv_has ls 8 [(6, .int (nI (8 * i + (j + 1)))), (5, _), (4, _), (7, _), (0, .ref y), (1, .int (nI i)), (2, .int x), (3, .int (zbi w))] := hl
                  refine lv_goto (tgt := 53) hx hb dX8_routeOf_149 (by decide) ?_
                  exact ih_53 (j + 1) _ _ H _ ls (by omega) (by first | exact absurd rfl c_107 | exact absurd rfl c_126 | exact absurd c_107 (by decide) | exact absurd c_126 (by decide) | (rw [← hacc, zmrn, if_pos e_s]) | (rw [← hacc, zmrn, if_neg e_s])) (by omega) hw (lv_sub hl [4, 5, 6, 7, 2, 1, 0] rfl)
            · skip
              refine lv_aload_n hx hb dX8_routeOf_83 rfl (lv_at hl 0 rfl) ?_
              refine z_get Cx hw (T := TX8) (N := 26) (ci := 11) (fun _ h => List.mem_cons_of_mem _ (List.mem_append_right _ (h))) zM_x rfl 24 (by decide) (List.mem_of_getElem? (i := 4) rfl) rfl rfl dX8_routeOf_84 ?_
              refine lv_iload hx hb dX8_routeOf_87 (lv_at hl 6 rfl) ?_
              refine zm_iald Cx hw (k := 24) (n := 64) (by decide) (by omega) dX8_routeOf_89 ?_
              refine lv_topi (fun x_89 ex_89 => ?_)
              rw [r1] at ex_89
              subst ex_89
              refine lv_bipush (v := 16) hx hb dX8_routeOf_90 (by decide) ?_
              refine lv_irem hx hb dX8_routeOf_92 (by decide) ?_
              refine lv_iload hx hb dX8_routeOf_93 (lv_at hl 5 rfl) ?_
              refine lv_icmp_ge (tgt := 102) hx hb dX8_routeOf_95 (by decide) (fun c_95 => ?_) (fun c_95 => ?_)
              · skip
                have e_s : ¬ (zmhas (zbi r.1) x = true ∧ zbi r.1 - zbi r.1 / 16 * 16 < z0) := fun h => Int32.not_lt.mpr c_95 h.2
                refine lv_iconst (v := 0) hx hb dX8_routeOf_102 (by decide) ?_
                refine lv_istore hx hb dX8_routeOf_103 hl (by decide) rfl (fun ls hl => ?_)
                have hl : lv_has ls 8 [(7, _), (0, .ref y), (1, .int (nI i)), (2, .int x), (3, .int (zbi w)), (4, .int f0), (5, .int z0), (6, .int (nI (8 * i + j)))] := hl
                refine lv_iload hx hb dX8_routeOf_105 (lv_at hl 0 rfl) ?_
                refine lv_if_eq (tgt := 120) hx hb dX8_routeOf_107 (by decide) (fun c_107 => ?_) (fun c_107 => ?_)
                · skip
                  refine lv_iload hx hb dX8_routeOf_120 (lv_at hl 5 rfl) ?_
                  refine lv_istore hx hb dX8_routeOf_122 hl (by decide) rfl (fun ls hl => ?_)
                  have hl : lv_has ls 8 [(4, _), (7, _), (0, .ref y), (1, .int (nI i)), (2, .int x), (3, .int (zbi w)), (5, .int z0), (6, .int (nI (8 * i + j)))] := hl
                  refine lv_iload hx hb dX8_routeOf_124 (lv_at hl 1 rfl) ?_
                  refine lv_if_eq (tgt := 142) hx hb dX8_routeOf_126 (by decide) (fun c_126 => ?_) (fun c_126 => ?_)
                  · skip
                    refine lv_iload hx hb dX8_routeOf_142 (lv_at hl 6 rfl) ?_
                    refine lv_istore hx hb dX8_routeOf_144 hl (by decide) rfl (fun ls hl => ?_)
                    have hl : lv_has ls 8 [(5, _), (4, _), (7, _), (0, .ref y), (1, .int (nI i)), (2, .int x), (3, .int (zbi w)), (6, .int (nI (8 * i + j)))] := hl
                    refine lv_iinc (v := nI (8 * i + (j + 1))) hx hb dX8_routeOf_146 hl (k := 7) rfl (nI_1 (8 * i + j)) (by decide) rfl (fun ls hl => ?_)
                    have hl : lv_has ls 8 [(6, .int (nI (8 * i + (j + 1)))), (5, _), (4, _), (7, _), (0, .ref y), (1, .int (nI i)), (2, .int x), (3, .int (zbi w))] := hl
                    refine lv_goto (tgt := 53) hx hb dX8_routeOf_149 (by decide) ?_
                    exact ih_53 (j + 1) _ _ H _ ls (by omega) (by first | exact absurd rfl c_107 | exact absurd rfl c_126 | exact absurd c_107 (by decide) | exact absurd c_126 (by decide) | (rw [← hacc, zmrn, if_pos e_s]) | (rw [← hacc, zmrn, if_neg e_s])) (by omega) hw (lv_sub hl [4, 5, 6, 7, 2, 1, 0] rfl)
                  · skip
                    refine lv_aload_n hx hb dX8_routeOf_129 rfl (lv_at hl 2 rfl) ?_
                    refine z_get Cx hw (T := TX8) (N := 26) (ci := 11) (fun _ h => List.mem_cons_of_mem _ (List.mem_append_right _ (h))) zM_x rfl 24 (by decide) (List.mem_of_getElem? (i := 4) rfl) rfl rfl dX8_routeOf_130 ?_
                    refine lv_iload hx hb dX8_routeOf_133 (lv_at hl 7 rfl) ?_
                    refine zm_iald Cx hw (k := 24) (n := 64) (by decide) (by omega) dX8_routeOf_135 ?_
                    refine lv_topi (fun x_135 ex_135 => ?_)
                    rw [r1] at ex_135
                    subst ex_135
                    refine lv_bipush (v := 16) hx hb dX8_routeOf_136 (by decide) ?_
                    refine lv_irem hx hb dX8_routeOf_138 (by decide) ?_
                    refine lv_goto (tgt := 144) hx hb dX8_routeOf_139 (by decide) ?_
                    refine lv_istore hx hb dX8_routeOf_144 hl (by decide) rfl (fun ls hl => ?_)
                    have hl : lv_has ls 8 [(5, _), (4, _), (7, _), (0, .ref y), (1, .int (nI i)), (2, .int x), (3, .int (zbi w)), (6, .int (nI (8 * i + j)))] := hl
                    refine lv_iinc (v := nI (8 * i + (j + 1))) hx hb dX8_routeOf_146 hl (k := 7) rfl (nI_1 (8 * i + j)) (by decide) rfl (fun ls hl => ?_)
                    have hl : lv_has ls 8 [(6, .int (nI (8 * i + (j + 1)))), (5, _), (4, _), (7, _), (0, .ref y), (1, .int (nI i)), (2, .int x), (3, .int (zbi w))] := hl
                    refine lv_goto (tgt := 53) hx hb dX8_routeOf_149 (by decide) ?_
                    exact ih_53 (j + 1) _ _ H _ ls (by omega) (by first | exact absurd rfl c_107 | exact absurd rfl c_126 | exact absurd c_107 (by decide) | exact absurd c_126 (by decide) | (rw [← hacc, zmrn, if_pos e_s]) | (rw [← hacc, zmrn, if_neg e_s])) (by omega) hw (lv_sub hl [4, 5, 6, 7, 2, 1, 0] rfl)
                · skip
                  refine lv_aload_n hx hb dX8_routeOf_110 rfl (lv_at hl 1 rfl) ?_
                  refine z_get Cx hw (T := TX8) (N := 26) (ci := 11) (fun _ h => List.mem_cons_of_mem _ (List.mem_append_right _ (h))) zM_x rfl 25 (by decide) (List.mem_of_getElem? (i := 5) rfl) rfl rfl dX8_routeOf_111 ?_
                  refine lv_iload hx hb dX8_routeOf_114 (lv_at hl 7 rfl) ?_
                  refine zm_iald Cx hw (k := 25) (n := 64) (by decide) (by omega) dX8_routeOf_116 ?_
                  refine lv_topi (fun x_116 ex_116 => ?_)
                  rw [r2] at ex_116
                  subst ex_116
                  refine lv_goto (tgt := 122) hx hb dX8_routeOf_117 (by decide) ?_
                  refine lv_istore hx hb dX8_routeOf_122 hl (by decide) rfl (fun ls hl => ?_)
                  have hl : lv_has ls 8 [(4, _), (7, _), (0, .ref y), (1, .int (nI i)), (2, .int x), (3, .int (zbi w)), (5, .int z0), (6, .int (nI (8 * i + j)))] := hl
                  refine lv_iload hx hb dX8_routeOf_124 (lv_at hl 1 rfl) ?_
                  refine lv_if_eq (tgt := 142) hx hb dX8_routeOf_126 (by decide) (fun c_126 => ?_) (fun c_126 => ?_)
                  · skip
                    refine lv_iload hx hb dX8_routeOf_142 (lv_at hl 6 rfl) ?_
                    refine lv_istore hx hb dX8_routeOf_144 hl (by decide) rfl (fun ls hl => ?_)
                    have hl : lv_has ls 8 [(5, _), (4, _), (7, _), (0, .ref y), (1, .int (nI i)), (2, .int x), (3, .int (zbi w)), (6, .int (nI (8 * i + j)))] := hl
                    refine lv_iinc (v := nI (8 * i + (j + 1))) hx hb dX8_routeOf_146 hl (k := 7) rfl (nI_1 (8 * i + j)) (by decide) rfl (fun ls hl => ?_)
                    have hl : lv_has ls 8 [(6, .int (nI (8 * i + (j + 1)))), (5, _), (4, _), (7, _), (0, .ref y), (1, .int (nI i)), (2, .int x), (3, .int (zbi w))] := hl
                    refine lv_goto (tgt := 53) hx hb dX8_routeOf_149 (by decide) ?_
                    exact ih_53 (j + 1) _ _ H _ ls (by omega) (by first | exact absurd rfl c_107 | exact absurd rfl c_126 | exact absurd c_107 (by decide) | exact absurd c_126 (by decide) | (rw [← hacc, zmrn, if_pos e_s]) | (rw [← hacc, zmrn, if_neg e_s])) (by omega) hw (lv_sub hl [4, 5, 6, 7, 2, 1, 0] rfl)
                  · skip
                    refine lv_aload_n hx hb dX8_routeOf_129 rfl (lv_at hl 2 rfl) ?_
                    refine z_get Cx hw (T := TX8) (N := 26) (ci := 11) (fun _ h => List.mem_cons_of_mem _ (List.mem_append_right _ (h))) zM_x rfl 24 (by decide) (List.mem_of_getElem? (i := 4) rfl) rfl rfl dX8_routeOf_130 ?_
                    refine lv_iload hx hb dX8_routeOf_133 (lv_at hl 7 rfl) ?_
                    refine zm_iald Cx hw (k := 24) (n := 64) (by decide) (by omega) dX8_routeOf_135 ?_
                    refine lv_topi (fun x_135 ex_135 => ?_)
                    rw [r1] at ex_135
                    subst ex_135
                    refine lv_bipush (v := 16) hx hb dX8_routeOf_136 (by decide) ?_
                    refine lv_irem hx hb dX8_routeOf_138 (by decide) ?_
                    refine lv_goto (tgt := 144) hx hb dX8_routeOf_139 (by decide) ?_
                    refine lv_istore hx hb dX8_routeOf_144 hl (by decide) rfl (fun ls hl => ?_)
                    have hl : lv_has ls 8 [(5, _), (4, _), (7, _), (0, .ref y), (1, .int (nI i)), (2, .int x), (3, .int (zbi w)), (6, .int (nI (8 * i + j)))] := hl
                    refine lv_iinc (v := nI (8 * i + (j + 1))) hx hb dX8_routeOf_146 hl (k := 7) rfl (nI_1 (8 * i + j)) (by decide) rfl (fun ls hl => ?_)
                    have hl : lv_has ls 8 [(6, .int (nI (8 * i + (j + 1)))), (5, _), (4, _), (7, _), (0, .ref y), (1, .int (nI i)), (2, .int x), (3, .int (zbi w))] := hl
                    refine lv_goto (tgt := 53) hx hb dX8_routeOf_149 (by decide) ?_
                    exact ih_53 (j + 1) _ _ H _ ls (by omega) (by first | exact absurd rfl c_107 | exact absurd rfl c_126 | exact absurd c_107 (by decide) | exact absurd c_126 (by decide) | (rw [← hacc, zmrn, if_pos e_s]) | (rw [← hacc, zmrn, if_neg e_s])) (by omega) hw (lv_sub hl [4, 5, 6, 7, 2, 1, 0] rfl)
              · skip
                have e_s : (zmhas (zbi r.1) x = true ∧ zbi r.1 - zbi r.1 / 16 * 16 < z0) := ⟨(zb_1 _).mp c_80, Int32.not_le.mp c_95⟩
                refine lv_iconst (v := 1) hx hb dX8_routeOf_98 (by decide) ?_
                refine lv_goto (tgt := 103) hx hb dX8_routeOf_99 (by decide) ?_
                refine lv_istore hx hb dX8_routeOf_103 hl (by decide) rfl (fun ls hl => ?_)
                have hl : lv_has ls 8 [(7, _), (0, .ref y), (1, .int (nI i)), (2, .int x), (3, .int (zbi w)), (4, .int f0), (5, .int z0), (6, .int (nI (8 * i + j)))] := hl
                refine lv_iload hx hb dX8_routeOf_105 (lv_at hl 0 rfl) ?_
                refine lv_if_eq (tgt := 120) hx hb dX8_routeOf_107 (by decide) (fun c_107 => ?_) (fun c_107 => ?_)
                · skip
                  refine lv_iload hx hb dX8_routeOf_120 (lv_at hl 5 rfl) ?_
                  refine lv_istore hx hb dX8_routeOf_122 hl (by decide) rfl (fun ls hl => ?_)
                  have hl : lv_has ls 8 [(4, _), (7, _), (0, .ref y), (1, .int (nI i)), (2, .int x), (3, .int (zbi w)), (5, .int z0), (6, .int (nI (8 * i + j)))] := hl
                  refine lv_iload hx hb dX8_routeOf_124 (lv_at hl 1 rfl) ?_
                  refine lv_if_eq (tgt := 142) hx hb dX8_routeOf_126 (by decide) (fun c_126 => ?_) (fun c_126 => ?_)
                  · skip
                    refine lv_iload hx hb dX8_routeOf_142 (lv_at hl 6 rfl) ?_
                    refine lv_istore hx hb dX8_routeOf_144 hl (by decide) rfl (fun ls hl => ?_)
                    have hl : lv_has ls 8 [(5, _), (4, _), (7, _), (0, .ref y), (1, .int (nI i)), (2, .int x), (3, .int (zbi w)), (6, .int (nI (8 * i + j)))] := hl
                    refine lv_iinc (v := nI (8 * i + (j + 1))) hx hb dX8_routeOf_146 hl (k := 7) rfl (nI_1 (8 * i + j)) (by decide) rfl (fun ls hl => ?_)
                    have hl : lv_has ls 8 [(6, .int (nI (8 * i + (j + 1)))), (5, _), (4, _), (7, _), (0, .ref y), (1, .int (nI i)), (2, .int x), (3, .int (zbi w))] := hl
                    refine lv_goto (tgt := 53) hx hb dX8_routeOf_149 (by decide) ?_
                    exact ih_53 (j + 1) _ _ H _ ls (by omega) (by first | exact absurd rfl c_107 | exact absurd rfl c_126 | exact absurd c_107 (by decide) | exact absurd c_126 (by decide) | (rw [← hacc, zmrn, if_pos e_s]) | (rw [← hacc, zmrn, if_neg e_s])) (by omega) hw (lv_sub hl [4, 5, 6, 7, 2, 1, 0] rfl)
                  · skip
                    refine lv_aload_n hx hb dX8_routeOf_129 rfl (lv_at hl 2 rfl) ?_
                    refine z_get Cx hw (T := TX8) (N := 26) (ci := 11) (fun _ h => List.mem_cons_of_mem _ (List.mem_append_right _ (h))) zM_x rfl 24 (by decide) (List.mem_of_getElem? (i := 4) rfl) rfl rfl dX8_routeOf_130 ?_
                    refine lv_iload hx hb dX8_routeOf_133 (lv_at hl 7 rfl) ?_
                    refine zm_iald Cx hw (k := 24) (n := 64) (by decide) (by omega) dX8_routeOf_135 ?_
                    refine lv_topi (fun x_135 ex_135 => ?_)
                    rw [r1] at ex_135
                    subst ex_135
                    refine lv_bipush (v := 16) hx hb dX8_routeOf_136 (by decide) ?_
                    refine lv_irem hx hb dX8_routeOf_138 (by decide) ?_
                    refine lv_goto (tgt := 144) hx hb dX8_routeOf_139 (by decide) ?_
                    refine lv_istore hx hb dX8_routeOf_144 hl (by decide) rfl (fun ls hl => ?_)
                    have hl : lv_has ls 8 [(5, _), (4, _), (7, _), (0, .ref y), (1, .int (nI i)), (2, .int x), (3, .int (zbi w)), (6, .int (nI (8 * i + j)))] := hl
                    refine lv_iinc (v := nI (8 * i + (j + 1))) hx hb dX8_routeOf_146 hl (k := 7) rfl (nI_1 (8 * i + j)) (by decide) rfl (fun ls hl => ?_)
                    have hl : lv_has ls 8 [(6, .int (nI (8 * i + (j + 1)))), (5, _), (4, _), (7, _), (0, .ref y), (1, .int (nI i)), (2, .int x), (3, .int (zbi w))] := hl
                    refine lv_goto (tgt := 53) hx hb dX8_routeOf_149 (by decide) ?_
                    exact ih_53 (j + 1) _ _ H _ ls (by omega) (by first | exact absurd rfl c_107 | exact absurd rfl c_126 | exact absurd c_107 (by decide) | exact absurd c_126 (by decide) | (rw [← hacc, zmrn, if_pos e_s]) | (rw [← hacc, zmrn, if_neg e_s])) (by omega) hw (lv_sub hl [4, 5, 6, 7, 2, 1, 0] rfl)
                · skip
                  refine lv_aload_n hx hb dX8_routeOf_110 rfl (lv_at hl 1 rfl) ?_
                  refine z_get Cx hw (T := TX8) (N := 26) (ci := 11) (fun _ h => List.mem_cons_of_mem _ (List.mem_append_right _ (h))) zM_x rfl 25 (by decide) (List.mem_of_getElem? (i := 5) rfl) rfl rfl dX8_routeOf_111 ?_
                  refine lv_iload hx hb dX8_routeOf_114 (lv_at hl 7 rfl) ?_
                  refine zm_iald Cx hw (k := 25) (n := 64) (by decide) (by omega) dX8_routeOf_116 ?_
                  refine lv_topi (fun x_116 ex_116 => ?_)
                  rw [r2] at ex_116
                  subst ex_116
                  refine lv_goto (tgt := 122) hx hb dX8_routeOf_117 (by decide) ?_
                  refine lv_istore hx hb dX8_routeOf_122 hl (by decide) rfl (fun ls hl => ?_)
                  have hl : lv_has ls 8 [(4, _), (7, _), (0, .ref y), (1, .int (nI i)), (2, .int x), (3, .int (zbi w)), (5, .int z0), (6, .int (nI (8 * i + j)))] := hl
                  refine lv_iload hx hb dX8_routeOf_124 (lv_at hl 1 rfl) ?_
                  refine lv_if_eq (tgt := 142) hx hb dX8_routeOf_126 (by decide) (fun c_126 => ?_) (fun c_126 => ?_)
                  · skip
                    refine lv_iload hx hb dX8_routeOf_142 (lv_at hl 6 rfl) ?_
                    refine lv_istore hx hb dX8_routeOf_144 hl (by decide) rfl (fun ls hl => ?_)
                    have hl : lv_has ls 8 [(5, _), (4, _), (7, _), (0, .ref y), (1, .int (nI i)), (2, .int x), (3, .int (zbi w)), (6, .int (nI (8 * i + j)))] := hl
                    refine lv_iinc (v := nI (8 * i + (j + 1))) hx hb dX8_routeOf_146 hl (k := 7) rfl (nI_1 (8 * i + j)) (by decide) rfl (fun ls hl => ?_)
                    have hl : lv_has ls 8 [(6, .int (nI (8 * i + (j + 1)))), (5, _), (4, _), (7, _), (0, .ref y), (1, .int (nI i)), (2, .int x), (3, .int (zbi w))] := hl
                    refine lv_goto (tgt := 53) hx hb dX8_routeOf_149 (by decide) ?_
                    exact ih_53 (j + 1) _ _ H _ ls (by omega) (by first | exact absurd rfl c_107 | exact absurd rfl c_126 | exact absurd c_107 (by decide) | exact absurd c_126 (by decide) | (rw [← hacc, zmrn, if_pos e_s]) | (rw [← hacc, zmrn, if_neg e_s])) (by omega) hw (lv_sub hl [4, 5, 6, 7, 2, 1, 0] rfl)
                  · skip
                    refine lv_aload_n hx hb dX8_routeOf_129 rfl (lv_at hl 2 rfl) ?_
                    refine z_get Cx hw (T := TX8) (N := 26) (ci := 11) (fun _ h => List.mem_cons_of_mem _ (List.mem_append_right _ (h))) zM_x rfl 24 (by decide) (List.mem_of_getElem? (i := 4) rfl) rfl rfl dX8_routeOf_130 ?_
                    refine lv_iload hx hb dX8_routeOf_133 (lv_at hl 7 rfl) ?_
                    refine zm_iald Cx hw (k := 24) (n := 64) (by decide) (by omega) dX8_routeOf_135 ?_
                    refine lv_topi (fun x_135 ex_135 => ?_)
                    rw [r1] at ex_135
                    subst ex_135
                    refine lv_bipush (v := 16) hx hb dX8_routeOf_136 (by decide) ?_
                    refine lv_irem hx hb dX8_routeOf_138 (by decide) ?_
                    refine lv_goto (tgt := 144) hx hb dX8_routeOf_139 (by decide) ?_
                    refine lv_istore hx hb dX8_routeOf_144 hl (by decide) rfl (fun ls hl => ?_)
                    have hl : lv_has ls 8 [(5, _), (4, _), (7, _), (0, .ref y), (1, .int (nI i)), (2, .int x), (3, .int (zbi w)), (6, .int (nI (8 * i + j)))] := hl
                    refine lv_iinc (v := nI (8 * i + (j + 1))) hx hb dX8_routeOf_146 hl (k := 7) rfl (nI_1 (8 * i + j)) (by decide) rfl (fun ls hl => ?_)
                    have hl : lv_has ls 8 [(6, .int (nI (8 * i + (j + 1)))), (5, _), (4, _), (7, _), (0, .ref y), (1, .int (nI i)), (2, .int x), (3, .int (zbi w))] := hl
                    refine lv_goto (tgt := 53) hx hb dX8_routeOf_149 (by decide) ?_
                    exact ih_53 (j + 1) _ _ H _ ls (by omega) (by first | exact absurd rfl c_107 | exact absurd rfl c_126 | exact absurd c_107 (by decide) | exact absurd c_126 (by decide) | (rw [← hacc, zmrn, if_pos e_s]) | (rw [← hacc, zmrn, if_neg e_s])) (by omega) hw (lv_sub hl [4, 5, 6, 7, 2, 1, 0] rfl)
      exact loop_53 ((v.2.2.2.length - 0) + 1) 0 _ _ _ _ ls (Nat.zero_le _) (by rw [e_f, e_z]; rfl) (Nat.lt_succ_self _) hw (lv_sub hl [4, 5, 6, 3, 2, 1, 0] rfl)
    · skip
      have e_z : (if zmhas (zbi w) x = true then zbi w - zbi w / 16 * 16 else 11) = zbi w - zbi w / 16 * 16 := if_pos ((zb_1 _).mp c_33)
      refine lv_iload_n hx hb dX8_routeOf_36 rfl (lv_at hl 1 rfl) ?_
      refine lv_bipush (v := 16) hx hb dX8_routeOf_37 (by decide) ?_
      refine lv_irem hx hb dX8_routeOf_39 (by decide) ?_
      refine lv_goto (tgt := 45) hx hb dX8_routeOf_40 (by decide) ?_
      refine lv_istore hx hb dX8_routeOf_45 hl (by decide) rfl (fun ls hl => ?_)
      have hl : lv_has ls 8 [(5, _), (4, _), (3, .int (zbi w)), (0, .ref y), (1, .int (nI i)), (2, .int x)] := hl
      refine lv_bipush (v := nI 8) hx hb dX8_routeOf_47 rfl ?_
      refine lv_iload_n hx hb dX8_routeOf_49 rfl (lv_at hl 4 rfl) ?_
      refine lv_imul hx hb dX8_routeOf_50 ?_
      refine lv_topi (fun x_50 ex_50 => ?_)
      rw [zi_mul] at ex_50
      subst ex_50
      refine lv_istore hx hb dX8_routeOf_51 hl (by decide) rfl (fun ls hl => ?_)
      have hl : lv_has ls 8 [(6, .int (nI (8 * i))), (5, _), (4, _), (3, .int (zbi w)), (0, .ref y), (1, .int (nI i)), (2, .int x)] := hl
      have loop_53 : ∀ (nn : Nat) (j : Nat) (f0 z0 : Int32) (H : Heap) (locs : List Loc) (ls : Array Slot), (j ≤ v.2.2.2.length) → (zmrn x (v.2.2.2.drop j) f0 z0 = zmrn x v.2.2.2 (if zmhas (zbi w) x = true then -1 else -2) (if zmhas (zbi w) x = true then zbi w - zbi w / 16 * 16 else 11)) → v.2.2.2.length - j < nn → zHw E (zQ E (X ++ zMw E y ad sc g) C) s H locs → lv_has ls 8 [(0, .ref y), (1, .int (nI i)), (2, .int x), (3, .int (zbi w)), (4, .int f0), (5, .int z0), (6, .int (nI (8 * i + j)))] → W p l e (zR 2 0 0) s m ([.ref y, .int (nI i), .int x] : List Value).toArray below meth c H locs 0 0 (MQ below (zRi E (zQ E (X ++ zMw E y ad sc g) C) (zmrn x v.2.2.2 (if zmhas (zbi w) x = true then -1 else -2) (if zmhas (zbi w) x = true then zbi w - zbi w / 16 * 16 else 11))) ([.ref y, .int (nI i), .int x] : List Value).toArray s 0 0 (eA E)) (F0 m 53 ls []) := by
        intro nn
        induction nn with
        | zero => intro j f0 z0 H locs ls hj hacc hm; exact absurd hm (Nat.not_lt_zero _)
        | succ nn ih_53 =>
          intro j f0 z0 H locs ls hj hacc hm hw hl
          refine lv_iload hx hb dX8_routeOf_53 (lv_at hl 6 rfl) ?_
          refine lv_bipush (v := nI 8) hx hb dX8_routeOf_55 rfl ?_
          refine lv_iload_n hx hb dX8_routeOf_57 rfl (lv_at hl 1 rfl) ?_
          refine lv_imul hx hb dX8_routeOf_58 ?_
          refine lv_topi (fun x_58 ex_58 => ?_)
          rw [zi_mul] at ex_58
          subst ex_58
          refine lv_aload_n hx hb dX8_routeOf_59 rfl (lv_at hl 0 rfl) ?_
          refine z_get Cx hw (T := TX8) (N := 26) (ci := 11) (fun _ h => List.mem_cons_of_mem _ (List.mem_append_right _ (h))) zM_x rfl 23 (by decide) (List.mem_of_getElem? (i := 3) rfl) rfl rfl dX8_routeOf_60 ?_
          refine lv_iload_n hx hb dX8_routeOf_63 rfl (lv_at hl 1 rfl) ?_
          refine zm_iald Cx hw (k := 23) (n := 8) (by decide) hi8 dX8_routeOf_64 ?_
          refine lv_iadd hx hb dX8_routeOf_65 ?_
          refine lv_topi (fun x_65 ex_65 => ?_)
          rw [hsz, nI_add] at ex_65
          subst ex_65
          refine lv_icmp_ge (tgt := 152) hx hb dX8_routeOf_66 (by decide) (fun c_66 => ?_) (fun c_66 => ?_)
          · skip
            have hjl : v.2.2.2.length ≤ j := by
              have := (nI_leI (by omega) (by omega)).mp c_66
              omega
            rw [List.drop_of_length_le hjl, zmrn] at hacc
            refine lv_iload hx hb dX8_routeOf_152 (lv_at hl 4 rfl) ?_
            exact (z_ie Cx hr rfl (Nat.le_of_ble_eq_true rfl) (Nat.le_of_ble_eq_true rfl) hw dX8_routeOf_154 (by rw [← hacc]))
          · skip
            have hjl : j < v.2.2.2.length := by
              rcases Nat.lt_or_ge j v.2.2.2.length with h | h
              · exact h
              · exact absurd (nI_le (by omega) (by omega)) c_66
            have hr0 := List.getElem?_eq_getElem hjl
            rw [List.drop_eq_getElem_cons hjl] at hacc
            generalize v.2.2.2[j] = r at hr0 hacc
            obtain ⟨r1, r2⟩ := hru j r hr0
            refine lv_aload_n hx hb dX8_routeOf_69 rfl (lv_at hl 0 rfl) ?_
            refine z_get Cx hw (T := TX8) (N := 26) (ci := 11) (fun _ h => List.mem_cons_of_mem _ (List.mem_append_right _ (h))) zM_x rfl 24 (by decide) (List.mem_of_getElem? (i := 4) rfl) rfl rfl dX8_routeOf_70 ?_
            refine lv_iload hx hb dX8_routeOf_73 (lv_at hl 6 rfl) ?_
            refine zm_iald Cx hw (k := 24) (n := 64) (by decide) (by omega) dX8_routeOf_75 ?_
            refine lv_topi (fun x_75 ex_75 => ?_)
            rw [r1] at ex_75
            subst ex_75
            refine lv_iload_n hx hb dX8_routeOf_76 rfl (lv_at hl 2 rfl) ?_
            refine z_goe hw.2 (z_runS Cx hw (c_X8_has E l _ (zbi r.1) x) (va_cwS 2 Cx.1.2.2.2.2 gX8_routeOf_X8_has rfl rfl rfl (by decide +kernel) ⟨Nat.le_of_ble_eq_true rfl, Nat.le_of_ble_eq_true rfl⟩)  rfl hl.1 rfl (Nat.le_of_ble_eq_true rfl) dX8_routeOf_77 ⟨Nat.le_of_ble_eq_true rfl, Nat.le_of_ble_eq_true rfl⟩) (fun H locs hw => ?_)
            refine lv_if_eq (tgt := 102) hx hb dX8_routeOf_80 (by decide) (fun c_80 => ?_) (fun c_80 => ?_)
            · skip
              have e_s : ¬ (zmhas (zbi r.1) x = true ∧ zbi r.1 - zbi r.1 / 16 * 16 < z0) := fun h => by rw [(zb_0 _).mp c_80] at h; exact absurd h.1 (by decide)
              refine lv_iconst (v := 0) hx hb dX8_routeOf_102 (by decide) ?_
              refine lv_istore hx hb dX8_routeOf_103 hl (by decide) rfl (fun ls hl => ?_)
              have hl : lv_has ls 8 [(7, _), (0, .ref y), (1, .int (nI i)), (2, .int x), (3, .int (zbi w)), (4, .int f0), (5, .int z0), (6, .int (nI (8 * i + j)))] := hl
              refine lv_iload hx hb dX8_routeOf_105 (lv_at hl 0 rfl) ?_
              refine lv_if_eq (tgt := 120) hx hb dX8_routeOf_107 (by decide) (fun c_107 => ?_) (fun c_107 => ?_)
              · skip
                refine lv_iload hx hb dX8_routeOf_120 (lv_at hl 5 rfl) ?_
                refine lv_istore hx hb dX8_routeOf_122 hl (by decide) rfl (fun ls hl => ?_)
                have hl : lv_has ls 8 [(4, _), (7, _), (0, .ref y), (1, .int (nI i)), (2, .int x), (3, .int (zbi w)), (5, .int z0), (6, .int (nI (8 * i + j)))] := hl
                refine lv_iload hx hb dX8_routeOf_124 (lv_at hl 1 rfl) ?_
                refine lv_if_eq (tgt := 142) hx hb dX8_routeOf_126 (by decide) (fun c_126 => ?_) (fun c_126 => ?_)
                · skip
                  refine lv_iload hx hb dX8_routeOf_142 (lv_at hl 6 rfl) ?_
                  refine lv_istore hx hb dX8_routeOf_144 hl (by decide) rfl (fun ls hl => ?_)
                  have hl : lv_has ls 8 [(5, _), (4, _), (7, _), (0, .ref y), (1, .int (nI i)), (2, .int x), (3, .int (zbi w)), (6, .int (nI (8 * i + j)))] := hl
                  refine lv_iinc (v := nI (8 * i + (j + 1))) hx hb dX8_routeOf_146 hl (k := 7) rfl (nI_1 (8 * i + j)) (by decide) rfl (fun ls hl => ?_)
                  have hl : lv_has ls 8 [(6, .int (nI (8 * i + (j + 1)))), (5, _), (4, _), (7, _), (0, .ref y), (1, .int (nI i)), (2, .int x), (3, .int (zbi w))] := hl
                  refine lv_goto (tgt := 53) hx hb dX8_routeOf_149 (by decide) ?_
                  exact ih_53 (j + 1) _ _ H _ ls (by omega) (by first | exact absurd rfl c_107 | exact absurd rfl c_126 | exact absurd c_107 (by decide) | exact absurd c_126 (by decide) | (rw [← hacc, zmrn, if_pos e_s]) | (rw [← hacc, zmrn, if_neg e_s])) (by omega) hw (lv_sub hl [4, 5, 6, 7, 2, 1, 0] rfl)
                · skip
                  refine lv_aload_n hx hb dX8_routeOf_129 rfl (lv_at hl 2 rfl) ?_
                  refine z_get Cx hw (T := TX8) (N := 26) (ci := 11) (fun _ h => List.mem_cons_of_mem _ (List.mem_append_right _ (h))) zM_x rfl 24 (by decide) (List.mem_of_getElem? (i := 4) rfl) rfl rfl dX8_routeOf_130 ?_
                  refine lv_iload hx hb dX8_routeOf_133 (lv_at hl 7 rfl) ?_
                  refine zm_iald Cx hw (k := 24) (n := 64) (by decide) (by omega) dX8_routeOf_135 ?_
                  refine lv_topi (fun x_135 ex_135 => ?_)
                  rw [r1] at ex_135
                  subst ex_135
                  refine lv_bipush (v := 16) hx hb dX8_routeOf_136 (by decide) ?_
                  refine lv_irem hx hb dX8_routeOf_138 (by decide) ?_
                  refine lv_goto (tgt := 144) hx hb dX8_routeOf_139 (by decide) ?_
                  refine lv_istore hx hb dX8_routeOf_144 hl (by decide) rfl (fun ls hl => ?_)
                  have hl : lv_has ls 8 [(5, _), (4, _), (7, _), (0, .ref y), (1, .int (nI i)), (2, .int x), (3, .int (zbi w)), (6, .int (nI (8 * i + j)))] := hl
                  refine lv_iinc (v := nI (8 * i + (j + 1))) hx hb dX8_routeOf_146 hl (k := 7) rfl (nI_1 (8 * i + j)) (by decide) rfl (fun ls hl => ?_)
                  have hl : lv_has ls 8 [(6, .int (nI (8 * i + (j + 1)))), (5, _), (4, _), (7, _), (0, .ref y), (1, .int (nI i)), (2, .int x), (3, .int (zbi w))] := hl
                  refine lv_goto (tgt := 53) hx hb dX8_routeOf_149 (by decide) ?_
                  exact ih_53 (j + 1) _ _ H _ ls (by omega) (by first | exact absurd rfl c_107 | exact absurd rfl c_126 | exact absurd c_107 (by decide) | exact absurd c_126 (by decide) | (rw [← hacc, zmrn, if_pos e_s]) | (rw [← hacc, zmrn, if_neg e_s])) (by omega) hw (lv_sub hl [4, 5, 6, 7, 2, 1, 0] rfl)
              · skip
                refine lv_aload_n hx hb dX8_routeOf_110 rfl (lv_at hl 1 rfl) ?_
                refine z_get Cx hw (T := TX8) (N := 26) (ci := 11) (fun _ h => List.mem_cons_of_mem _ (List.mem_append_right _ (h))) zM_x rfl 25 (by decide) (List.mem_of_getElem? (i := 5) rfl) rfl rfl dX8_routeOf_111 ?_
                refine lv_iload hx hb dX8_routeOf_114 (lv_at hl 7 rfl) ?_
                refine zm_iald Cx hw (k := 25) (n := 64) (by decide) (by omega) dX8_routeOf_116 ?_
                refine lv_topi (fun x_116 ex_116 => ?_)
                rw [r2] at ex_116
                subst ex_116
                refine lv_goto (tgt := 122) hx hb dX8_routeOf_117 (by decide) ?_
                refine lv_istore hx hb dX8_routeOf_122 hl (by decide) rfl (fun ls hl => ?_)
                have hl : lv_has ls 8 [(4, _), (7, _), (0, .ref y), (1, .int (nI i)), (2, .int x), (3, .int (zbi w)), (5, .int z0), (6, .int (nI (8 * i + j)))] := hl
                refine lv_iload hx hb dX8_routeOf_124 (lv_at hl 1 rfl) ?_
                refine lv_if_eq (tgt := 142) hx hb dX8_routeOf_126 (by decide) (fun c_126 => ?_) (fun c_126 => ?_)
                · skip
                  refine lv_iload hx hb dX8_routeOf_142 (lv_at hl 6 rfl) ?_
                  refine lv_istore hx hb dX8_routeOf_144 hl (by decide) rfl (fun ls hl => ?_)
                  have hl : lv_has ls 8 [(5, _), (4, _), (7, _), (0, .ref y), (1, .int (nI i)), (2, .int x), (3, .int (zbi w)), (6, .int (nI (8 * i + j)))] := hl
                  refine lv_iinc (v := nI (8 * i + (j + 1))) hx hb dX8_routeOf_146 hl (k := 7) rfl (nI_1 (8 * i + j)) (by decide) rfl (fun ls hl => ?_)
                  have hl : lv_has ls 8 [(6, .int (nI (8 * i + (j + 1)))), (5, _), (4, _), (7, _), (0, .ref y), (1, .int (nI i)), (2, .int x), (3, .int (zbi w))] := hl
                  refine lv_goto (tgt := 53) hx hb dX8_routeOf_149 (by decide) ?_
                  exact ih_53 (j + 1) _ _ H _ ls (by omega) (by first | exact absurd rfl c_107 | exact absurd rfl c_126 | exact absurd c_107 (by decide) | exact absurd c_126 (by decide) | (rw [← hacc, zmrn, if_pos e_s]) | (rw [← hacc, zmrn, if_neg e_s])) (by omega) hw (lv_sub hl [4, 5, 6, 7, 2, 1, 0] rfl)
                · skip
                  refine lv_aload_n hx hb dX8_routeOf_129 rfl (lv_at hl 2 rfl) ?_
                  refine z_get Cx hw (T := TX8) (N := 26) (ci := 11) (fun _ h => List.mem_cons_of_mem _ (List.mem_append_right _ (h))) zM_x rfl 24 (by decide) (List.mem_of_getElem? (i := 4) rfl) rfl rfl dX8_routeOf_130 ?_
                  refine lv_iload hx hb dX8_routeOf_133 (lv_at hl 7 rfl) ?_
                  refine zm_iald Cx hw (k := 24) (n := 64) (by decide) (by omega) dX8_routeOf_135 ?_
                  refine lv_topi (fun x_135 ex_135 => ?_)
                  rw [r1] at ex_135
                  subst ex_135
                  refine lv_bipush (v := 16) hx hb dX8_routeOf_136 (by decide) ?_
                  refine lv_irem hx hb dX8_routeOf_138 (by decide) ?_
                  refine lv_goto (tgt := 144) hx hb dX8_routeOf_139 (by decide) ?_
                  refine lv_istore hx hb dX8_routeOf_144 hl (by decide) rfl (fun ls hl => ?_)
                  have hl : lv_has ls 8 [(5, _), (4, _), (7, _), (0, .ref y), (1, .int (nI i)), (2, .int x), (3, .int (zbi w)), (6, .int (nI (8 * i + j)))] := hl
                  refine lv_iinc (v := nI (8 * i + (j + 1))) hx hb dX8_routeOf_146 hl (k := 7) rfl (nI_1 (8 * i + j)) (by decide) rfl (fun ls hl => ?_)
                  have hl : lv_has ls 8 [(6, .int (nI (8 * i + (j + 1)))), (5, _), (4, _), (7, _), (0, .ref y), (1, .int (nI i)), (2, .int x), (3, .int (zbi w))] := hl
                  refine lv_goto (tgt := 53) hx hb dX8_routeOf_149 (by decide) ?_
                  exact ih_53 (j + 1) _ _ H _ ls (by omega) (by first | exact absurd rfl c_107 | exact absurd rfl c_126 | exact absurd c_107 (by decide) | exact absurd c_126 (by decide) | (rw [← hacc, zmrn, if_pos e_s]) | (rw [← hacc, zmrn, if_neg e_s])) (by omega) hw (lv_sub hl [4, 5, 6, 7, 2, 1, 0] rfl)
            · skip
              refine lv_aload_n hx hb dX8_routeOf_83 rfl (lv_at hl 0 rfl) ?_
              refine z_get Cx hw (T := TX8) (N := 26) (ci := 11) (fun _ h => List.mem_cons_of_mem _ (List.mem_append_right _ (h))) zM_x rfl 24 (by decide) (List.mem_of_getElem? (i := 4) rfl) rfl rfl dX8_routeOf_84 ?_
              refine lv_iload hx hb dX8_routeOf_87 (lv_at hl 6 rfl) ?_
              refine zm_iald Cx hw (k := 24) (n := 64) (by decide) (by omega) dX8_routeOf_89 ?_
              refine lv_topi (fun x_89 ex_89 => ?_)
              rw [r1] at ex_89
              subst ex_89
              refine lv_bipush (v := 16) hx hb dX8_routeOf_90 (by decide) ?_
              refine lv_irem hx hb dX8_routeOf_92 (by decide) ?_
              refine lv_iload hx hb dX8_routeOf_93 (lv_at hl 5 rfl) ?_
              refine lv_icmp_ge (tgt := 102) hx hb dX8_routeOf_95 (by decide) (fun c_95 => ?_) (fun c_95 => ?_)
              · skip
                have e_s : ¬ (zmhas (zbi r.1) x = true ∧ zbi r.1 - zbi r.1 / 16 * 16 < z0) := fun h => Int32.not_lt.mpr c_95 h.2
                refine lv_iconst (v := 0) hx hb dX8_routeOf_102 (by decide) ?_
                refine lv_istore hx hb dX8_routeOf_103 hl (by decide) rfl (fun ls hl => ?_)
                have hl : lv_has ls 8 [(7, _), (0, .ref y), (1, .int (nI i)), (2, .int x), (3, .int (zbi w)), (4, .int f0), (5, .int z0), (6, .int (nI (8 * i + j)))] := hl
                refine lv_iload hx hb dX8_routeOf_105 (lv_at hl 0 rfl) ?_
                refine lv_if_eq (tgt := 120) hx hb dX8_routeOf_107 (by decide) (fun c_107 => ?_) (fun c_107 => ?_)
                · skip
                  refine lv_iload hx hb dX8_routeOf_120 (lv_at hl 5 rfl) ?_
                  refine lv_istore hx hb dX8_routeOf_122 hl (by decide) rfl (fun ls hl => ?_)
                  have hl : lv_has ls 8 [(4, _), (7, _), (0, .ref y), (1, .int (nI i)), (2, .int x), (3, .int (zbi w)), (5, .int z0), (6, .int (nI (8 * i + j)))] := hl
                  refine lv_iload hx hb dX8_routeOf_124 (lv_at hl 1 rfl) ?_
                  refine lv_if_eq (tgt := 142) hx hb dX8_routeOf_126 (by decide) (fun c_126 => ?_) (fun c_126 => ?_)
                  · skip
                    refine lv_iload hx hb dX8_routeOf_142 (lv_at hl 6 rfl) ?_
                    refine lv_istore hx hb dX8_routeOf_144 hl (by decide) rfl (fun ls hl => ?_)
                    have hl : lv_has ls 8 [(5, _), (4, _), (7, _), (0, .ref y), (1, .int (nI i)), (2, .int x), (3, .int (zbi w)), (6, .int (nI (8 * i + j)))] := hl
                    refine lv_iinc (v := nI (8 * i + (j + 1))) hx hb dX8_routeOf_146 hl (k := 7) rfl (nI_1 (8 * i + j)) (by decide) rfl (fun ls hl => ?_)
                    have hl : lv_has ls 8 [(6, .int (nI (8 * i + (j + 1)))), (5, _), (4, _), (7, _), (0, .ref y), (1, .int (nI i)), (2, .int x), (3, .int (zbi w))] := hl
                    refine lv_goto (tgt := 53) hx hb dX8_routeOf_149 (by decide) ?_
                    exact ih_53 (j + 1) _ _ H _ ls (by omega) (by first | exact absurd rfl c_107 | exact absurd rfl c_126 | exact absurd c_107 (by decide) | exact absurd c_126 (by decide) | (rw [← hacc, zmrn, if_pos e_s]) | (rw [← hacc, zmrn, if_neg e_s])) (by omega) hw (lv_sub hl [4, 5, 6, 7, 2, 1, 0] rfl)
                  · skip
                    refine lv_aload_n hx hb dX8_routeOf_129 rfl (lv_at hl 2 rfl) ?_
                    refine z_get Cx hw (T := TX8) (N := 26) (ci := 11) (fun _ h => List.mem_cons_of_mem _ (List.mem_append_right _ (h))) zM_x rfl 24 (by decide) (List.mem_of_getElem? (i := 4) rfl) rfl rfl dX8_routeOf_130 ?_
                    refine lv_iload hx hb dX8_routeOf_133 (lv_at hl 7 rfl) ?_
                    refine zm_iald Cx hw (k := 24) (n := 64) (by decide) (by omega) dX8_routeOf_135 ?_
                    refine lv_topi (fun x_135 ex_135 => ?_)
                    rw [r1] at ex_135
                    subst ex_135
                    refine lv_bipush (v := 16) hx hb dX8_routeOf_136 (by decide) ?_
                    refine lv_irem hx hb dX8_routeOf_138 (by decide) ?_
                    refine lv_goto (tgt := 144) hx hb dX8_routeOf_139 (by decide) ?_
                    refine lv_istore hx hb dX8_routeOf_144 hl (by decide) rfl (fun ls hl => ?_)
                    have hl : lv_has ls 8 [(5, _), (4, _), (7, _), (0, .ref y), (1, .int (nI i)), (2, .int x), (3, .int (zbi w)), (6, .int (nI (8 * i + j)))] := hl
                    refine lv_iinc (v := nI (8 * i + (j + 1))) hx hb dX8_routeOf_146 hl (k := 7) rfl (nI_1 (8 * i + j)) (by decide) rfl (fun ls hl => ?_)
                    have hl : lv_has ls 8 [(6, .int (nI (8 * i + (j + 1)))), (5, _), (4, _), (7, _), (0, .ref y), (1, .int (nI i)), (2, .int x), (3, .int (zbi w))] := hl
                    refine lv_goto (tgt := 53) hx hb dX8_routeOf_149 (by decide) ?_
                    exact ih_53 (j + 1) _ _ H _ ls (by omega) (by first | exact absurd rfl c_107 | exact absurd rfl c_126 | exact absurd c_107 (by decide) | exact absurd c_126 (by decide) | (rw [← hacc, zmrn, if_pos e_s]) | (rw [← hacc, zmrn, if_neg e_s])) (by omega) hw (lv_sub hl [4, 5, 6, 7, 2, 1, 0] rfl)
                · skip
                  refine lv_aload_n hx hb dX8_routeOf_110 rfl (lv_at hl 1 rfl) ?_
                  refine z_get Cx hw (T := TX8) (N := 26) (ci := 11) (fun _ h => List.mem_cons_of_mem _ (List.mem_append_right _ (h))) zM_x rfl 25 (by decide) (List.mem_of_getElem? (i := 5) rfl) rfl rfl dX8_routeOf_111 ?_
                  refine lv_iload hx hb dX8_routeOf_114 (lv_at hl 7 rfl) ?_
                  refine zm_iald Cx hw (k := 25) (n := 64) (by decide) (by omega) dX8_routeOf_116 ?_
                  refine lv_topi (fun x_116 ex_116 => ?_)
                  rw [r2] at ex_116
                  subst ex_116
                  refine lv_goto (tgt := 122) hx hb dX8_routeOf_117 (by decide) ?_
                  refine lv_istore hx hb dX8_routeOf_122 hl (by decide) rfl (fun ls hl => ?_)
                  have hl : lv_has ls 8 [(4, _), (7, _), (0, .ref y), (1, .int (nI i)), (2, .int x), (3, .int (zbi w)), (5, .int z0), (6, .int (nI (8 * i + j)))] := hl
                  refine lv_iload hx hb dX8_routeOf_124 (lv_at hl 1 rfl) ?_
                  refine lv_if_eq (tgt := 142) hx hb dX8_routeOf_126 (by decide) (fun c_126 => ?_) (fun c_126 => ?_)
                  · skip
                    refine lv_iload hx hb dX8_routeOf_142 (lv_at hl 6 rfl) ?_
                    refine lv_istore hx hb dX8_routeOf_144 hl (by decide) rfl (fun ls hl => ?_)
                    have hl : lv_has ls 8 [(5, _), (4, _), (7, _), (0, .ref y), (1, .int (nI i)), (2, .int x), (3, .int (zbi w)), (6, .int (nI (8 * i + j)))] := hl
                    refine lv_iinc (v := nI (8 * i + (j + 1))) hx hb dX8_routeOf_146 hl (k := 7) rfl (nI_1 (8 * i + j)) (by decide) rfl (fun ls hl => ?_)
                    have hl : lv_has ls 8 [(6, .int (nI (8 * i + (j + 1)))), (5, _), (4, _), (7, _), (0, .ref y), (1, .int (nI i)), (2, .int x), (3, .int (zbi w))] := hl
                    refine lv_goto (tgt := 53) hx hb dX8_routeOf_149 (by decide) ?_
                    exact ih_53 (j + 1) _ _ H _ ls (by omega) (by first | exact absurd rfl c_107 | exact absurd rfl c_126 | exact absurd c_107 (by decide) | exact absurd c_126 (by decide) | (rw [← hacc, zmrn, if_pos e_s]) | (rw [← hacc, zmrn, if_neg e_s])) (by omega) hw (lv_sub hl [4, 5, 6, 7, 2, 1, 0] rfl)
                  · skip
                    refine lv_aload_n hx hb dX8_routeOf_129 rfl (lv_at hl 2 rfl) ?_
                    refine z_get Cx hw (T := TX8) (N := 26) (ci := 11) (fun _ h => List.mem_cons_of_mem _ (List.mem_append_right _ (h))) zM_x rfl 24 (by decide) (List.mem_of_getElem? (i := 4) rfl) rfl rfl dX8_routeOf_130 ?_
                    refine lv_iload hx hb dX8_routeOf_133 (lv_at hl 7 rfl) ?_
                    refine zm_iald Cx hw (k := 24) (n := 64) (by decide) (by omega) dX8_routeOf_135 ?_
                    refine lv_topi (fun x_135 ex_135 => ?_)
                    rw [r1] at ex_135
                    subst ex_135
                    refine lv_bipush (v := 16) hx hb dX8_routeOf_136 (by decide) ?_
                    refine lv_irem hx hb dX8_routeOf_138 (by decide) ?_
                    refine lv_goto (tgt := 144) hx hb dX8_routeOf_139 (by decide) ?_
                    refine lv_istore hx hb dX8_routeOf_144 hl (by decide) rfl (fun ls hl => ?_)
                    have hl : lv_has ls 8 [(5, _), (4, _), (7, _), (0, .ref y), (1, .int (nI i)), (2, .int x), (3, .int (zbi w)), (6, .int (nI (8 * i + j)))] := hl
                    refine lv_iinc (v := nI (8 * i + (j + 1))) hx hb dX8_routeOf_146 hl (k := 7) rfl (nI_1 (8 * i + j)) (by decide) rfl (fun ls hl => ?_)
                    have hl : lv_has ls 8 [(6, .int (nI (8 * i + (j + 1)))), (5, _), (4, _), (7, _), (0, .ref y), (1, .int (nI i)), (2, .int x), (3, .int (zbi w))] := hl
                    refine lv_goto (tgt := 53) hx hb dX8_routeOf_149 (by decide) ?_
                    exact ih_53 (j + 1) _ _ H _ ls (by omega) (by first | exact absurd rfl c_107 | exact absurd rfl c_126 | exact absurd c_107 (by decide) | exact absurd c_126 (by decide) | (rw [← hacc, zmrn, if_pos e_s]) | (rw [← hacc, zmrn, if_neg e_s])) (by omega) hw (lv_sub hl [4, 5, 6, 7, 2, 1, 0] rfl)
              · skip
                have e_s : (zmhas (zbi r.1) x = true ∧ zbi r.1 - zbi r.1 / 16 * 16 < z0) := ⟨(zb_1 _).mp c_80, Int32.not_le.mp c_95⟩
                refine lv_iconst (v := 1) hx hb dX8_routeOf_98 (by decide) ?_
                refine lv_goto (tgt := 103) hx hb dX8_routeOf_99 (by decide) ?_
                refine lv_istore hx hb dX8_routeOf_103 hl (by decide) rfl (fun ls hl => ?_)
                have hl : lv_has ls 8 [(7, _), (0, .ref y), (1, .int (nI i)), (2, .int x), (3, .int (zbi w)), (4, .int f0), (5, .int z0), (6, .int (nI (8 * i + j)))] := hl
                refine lv_iload hx hb dX8_routeOf_105 (lv_at hl 0 rfl) ?_
                refine lv_if_eq (tgt := 120) hx hb dX8_routeOf_107 (by decide) (fun c_107 => ?_) (fun c_107 => ?_)
                · skip
                  refine lv_iload hx hb dX8_routeOf_120 (lv_at hl 5 rfl) ?_
                  refine lv_istore hx hb dX8_routeOf_122 hl (by decide) rfl (fun ls hl => ?_)
                  have hl : lv_has ls 8 [(4, _), (7, _), (0, .ref y), (1, .int (nI i)), (2, .int x), (3, .int (zbi w)), (5, .int z0), (6, .int (nI (8 * i + j)))] := hl
                  refine lv_iload hx hb dX8_routeOf_124 (lv_at hl 1 rfl) ?_
                  refine lv_if_eq (tgt := 142) hx hb dX8_routeOf_126 (by decide) (fun c_126 => ?_) (fun c_126 => ?_)
                  · skip
                    refine lv_iload hx hb dX8_routeOf_142 (lv_at hl 6 rfl) ?_
                    refine lv_istore hx hb dX8_routeOf_144 hl (by decide) rfl (fun ls hl => ?_)
                    have hl : lv_has ls 8 [(5, _), (4, _), (7, _), (0, .ref y), (1, .int (nI i)), (2, .int x), (3, .int (zbi w)), (6, .int (nI (8 * i + j)))] := hl
                    refine lv_iinc (v := nI (8 * i + (j + 1))) hx hb dX8_routeOf_146 hl (k := 7) rfl (nI_1 (8 * i + j)) (by decide) rfl (fun ls hl => ?_)
                    have hl : lv_has ls 8 [(6, .int (nI (8 * i + (j + 1)))), (5, _), (4, _), (7, _), (0, .ref y), (1, .int (nI i)), (2, .int x), (3, .int (zbi w))] := hl
                    refine lv_goto (tgt := 53) hx hb dX8_routeOf_149 (by decide) ?_
                    exact ih_53 (j + 1) _ _ H _ ls (by omega) (by first | exact absurd rfl c_107 | exact absurd rfl c_126 | exact absurd c_107 (by decide) | exact absurd c_126 (by decide) | (rw [← hacc, zmrn, if_pos e_s]) | (rw [← hacc, zmrn, if_neg e_s])) (by omega) hw (lv_sub hl [4, 5, 6, 7, 2, 1, 0] rfl)
                  · skip
                    refine lv_aload_n hx hb dX8_routeOf_129 rfl (lv_at hl 2 rfl) ?_
                    refine z_get Cx hw (T := TX8) (N := 26) (ci := 11) (fun _ h => List.mem_cons_of_mem _ (List.mem_append_right _ (h))) zM_x rfl 24 (by decide) (List.mem_of_getElem? (i := 4) rfl) rfl rfl dX8_routeOf_130 ?_
                    refine lv_iload hx hb dX8_routeOf_133 (lv_at hl 7 rfl) ?_
                    refine zm_iald Cx hw (k := 24) (n := 64) (by decide) (by omega) dX8_routeOf_135 ?_
                    refine lv_topi (fun x_135 ex_135 => ?_)
                    rw [r1] at ex_135
                    subst ex_135
                    refine lv_bipush (v := 16) hx hb dX8_routeOf_136 (by decide) ?_
                    refine lv_irem hx hb dX8_routeOf_138 (by decide) ?_
                    refine lv_goto (tgt := 144) hx hb dX8_routeOf_139 (by decide) ?_
                    refine lv_istore hx hb dX8_routeOf_144 hl (by decide) rfl (fun ls hl => ?_)
                    have hl : lv_has ls 8 [(5, _), (4, _), (7, _), (0, .ref y), (1, .int (nI i)), (2, .int x), (3, .int (zbi w)), (6, .int (nI (8 * i + j)))] := hl
                    refine lv_iinc (v := nI (8 * i + (j + 1))) hx hb dX8_routeOf_146 hl (k := 7) rfl (nI_1 (8 * i + j)) (by decide) rfl (fun ls hl => ?_)
                    have hl : lv_has ls 8 [(6, .int (nI (8 * i + (j + 1)))), (5, _), (4, _), (7, _), (0, .ref y), (1, .int (nI i)), (2, .int x), (3, .int (zbi w))] := hl
                    refine lv_goto (tgt := 53) hx hb dX8_routeOf_149 (by decide) ?_
                    exact ih_53 (j + 1) _ _ H _ ls (by omega) (by first | exact absurd rfl c_107 | exact absurd rfl c_126 | exact absurd c_107 (by decide) | exact absurd c_126 (by decide) | (rw [← hacc, zmrn, if_pos e_s]) | (rw [← hacc, zmrn, if_neg e_s])) (by omega) hw (lv_sub hl [4, 5, 6, 7, 2, 1, 0] rfl)
                · skip
                  refine lv_aload_n hx hb dX8_routeOf_110 rfl (lv_at hl 1 rfl) ?_
                  refine z_get Cx hw (T := TX8) (N := 26) (ci := 11) (fun _ h => List.mem_cons_of_mem _ (List.mem_append_right _ (h))) zM_x rfl 25 (by decide) (List.mem_of_getElem? (i := 5) rfl) rfl rfl dX8_routeOf_111 ?_
                  refine lv_iload hx hb dX8_routeOf_114 (lv_at hl 7 rfl) ?_
                  refine zm_iald Cx hw (k := 25) (n := 64) (by decide) (by omega) dX8_routeOf_116 ?_
                  refine lv_topi (fun x_116 ex_116 => ?_)
                  rw [r2] at ex_116
                  subst ex_116
                  refine lv_goto (tgt := 122) hx hb dX8_routeOf_117 (by decide) ?_
                  refine lv_istore hx hb dX8_routeOf_122 hl (by decide) rfl (fun ls hl => ?_)
                  have hl : lv_has ls 8 [(4, _), (7, _), (0, .ref y), (1, .int (nI i)), (2, .int x), (3, .int (zbi w)), (5, .int z0), (6, .int (nI (8 * i + j)))] := hl
                  refine lv_iload hx hb dX8_routeOf_124 (lv_at hl 1 rfl) ?_
                  refine lv_if_eq (tgt := 142) hx hb dX8_routeOf_126 (by decide) (fun c_126 => ?_) (fun c_126 => ?_)
                  · skip
                    refine lv_iload hx hb dX8_routeOf_142 (lv_at hl 6 rfl) ?_
                    refine lv_istore hx hb dX8_routeOf_144 hl (by decide) rfl (fun ls hl => ?_)
                    have hl : lv_has ls 8 [(5, _), (4, _), (7, _), (0, .ref y), (1, .int (nI i)), (2, .int x), (3, .int (zbi w)), (6, .int (nI (8 * i + j)))] := hl
                    refine lv_iinc (v := nI (8 * i + (j + 1))) hx hb dX8_routeOf_146 hl (k := 7) rfl (nI_1 (8 * i + j)) (by decide) rfl (fun ls hl => ?_)
                    have hl : lv_has ls 8 [(6, .int (nI (8 * i + (j + 1)))), (5, _), (4, _), (7, _), (0, .ref y), (1, .int (nI i)), (2, .int x), (3, .int (zbi w))] := hl
                    refine lv_goto (tgt := 53) hx hb dX8_routeOf_149 (by decide) ?_
                    exact ih_53 (j + 1) _ _ H _ ls (by omega) (by first | exact absurd rfl c_107 | exact absurd rfl c_126 | exact absurd c_107 (by decide) | exact absurd c_126 (by decide) | (rw [← hacc, zmrn, if_pos e_s]) | (rw [← hacc, zmrn, if_neg e_s])) (by omega) hw (lv_sub hl [4, 5, 6, 7, 2, 1, 0] rfl)
                  · skip
                    refine lv_aload_n hx hb dX8_routeOf_129 rfl (lv_at hl 2 rfl) ?_
                    refine z_get Cx hw (T := TX8) (N := 26) (ci := 11) (fun _ h => List.mem_cons_of_mem _ (List.mem_append_right _ (h))) zM_x rfl 24 (by decide) (List.mem_of_getElem? (i := 4) rfl) rfl rfl dX8_routeOf_130 ?_
                    refine lv_iload hx hb dX8_routeOf_133 (lv_at hl 7 rfl) ?_
                    refine zm_iald Cx hw (k := 24) (n := 64) (by decide) (by omega) dX8_routeOf_135 ?_
                    refine lv_topi (fun x_135 ex_135 => ?_)
                    rw [r1] at ex_135
                    subst ex_135
                    refine lv_bipush (v := 16) hx hb dX8_routeOf_136 (by decide) ?_
                    refine lv_irem hx hb dX8_routeOf_138 (by decide) ?_
                    refine lv_goto (tgt := 144) hx hb dX8_routeOf_139 (by decide) ?_
                    refine lv_istore hx hb dX8_routeOf_144 hl (by decide) rfl (fun ls hl => ?_)
                    have hl : lv_has ls 8 [(5, _), (4, _), (7, _), (0, .ref y), (1, .int (nI i)), (2, .int x), (3, .int (zbi w)), (6, .int (nI (8 * i + j)))] := hl
                    refine lv_iinc (v := nI (8 * i + (j + 1))) hx hb dX8_routeOf_146 hl (k := 7) rfl (nI_1 (8 * i + j)) (by decide) rfl (fun ls hl => ?_)
                    have hl : lv_has ls 8 [(6, .int (nI (8 * i + (j + 1)))), (5, _), (4, _), (7, _), (0, .ref y), (1, .int (nI i)), (2, .int x), (3, .int (zbi w))] := hl
                    refine lv_goto (tgt := 53) hx hb dX8_routeOf_149 (by decide) ?_
                    exact ih_53 (j + 1) _ _ H _ ls (by omega) (by first | exact absurd rfl c_107 | exact absurd rfl c_126 | exact absurd c_107 (by decide) | exact absurd c_126 (by decide) | (rw [← hacc, zmrn, if_pos e_s]) | (rw [← hacc, zmrn, if_neg e_s])) (by omega) hw (lv_sub hl [4, 5, 6, 7, 2, 1, 0] rfl)
      exact loop_53 ((v.2.2.2.length - 0) + 1) 0 _ _ _ _ ls (Nat.zero_le _) (by rw [e_f, e_z]; rfl) (Nat.lt_succ_self _) hw (lv_sub hl [4, 5, 6, 3, 2, 1, 0] rfl)
  · skip
    have e_f : (if zmhas (zbi w) x = true then (-1 : Int32) else -2) = -1 := if_pos ((zb_1 _).mp c_17)
    refine lv_iconst (v := -1) hx hb dX8_routeOf_20 (by decide) ?_
    refine lv_goto (tgt := 26) hx hb dX8_routeOf_21 (by decide) ?_
    refine lv_istore hx hb dX8_routeOf_26 hl (by decide) rfl (fun ls hl => ?_)
    have hl : lv_has ls 8 [(4, _), (3, .int (zbi w)), (0, .ref y), (1, .int (nI i)), (2, .int x)] := hl
    refine lv_iload_n hx hb dX8_routeOf_28 rfl (lv_at hl 1 rfl) ?_
    refine lv_iload_n hx hb dX8_routeOf_29 rfl (lv_at hl 4 rfl) ?_
    refine z_goe hw.2 (z_runS Cx hw (c_X8_has E l _ (zbi w) x) (va_cwS 2 Cx.1.2.2.2.2 gX8_routeOf_X8_has rfl rfl rfl (by decide +kernel) ⟨Nat.le_of_ble_eq_true rfl, Nat.le_of_ble_eq_true rfl⟩)  rfl hl.1 rfl (Nat.le_of_ble_eq_true rfl) dX8_routeOf_30 ⟨Nat.le_of_ble_eq_true rfl, Nat.le_of_ble_eq_true rfl⟩) (fun H locs hw => ?_)
    refine lv_if_eq (tgt := 43) hx hb dX8_routeOf_33 (by decide) (fun c_33 => ?_) (fun c_33 => ?_)
    · skip
      have e_z : (if zmhas (zbi w) x = true then zbi w - zbi w / 16 * 16 else 11) = 11 := if_neg (by rw [(zb_0 _).mp c_33]; decide)
      refine lv_bipush (v := 11) hx hb dX8_routeOf_43 (by decide) ?_
      refine lv_istore hx hb dX8_routeOf_45 hl (by decide) rfl (fun ls hl => ?_)
      have hl : lv_has ls 8 [(5, _), (4, _), (3, .int (zbi w)), (0, .ref y), (1, .int (nI i)), (2, .int x)] := hl
      refine lv_bipush (v := nI 8) hx hb dX8_routeOf_47 rfl ?_
      refine lv_iload_n hx hb dX8_routeOf_49 rfl (lv_at hl 4 rfl) ?_
      refine lv_imul hx hb dX8_routeOf_50 ?_
      refine lv_topi (fun x_50 ex_50 => ?_)
      rw [zi_mul] at ex_50
      subst ex_50
      refine lv_istore hx hb dX8_routeOf_51 hl (by decide) rfl (fun ls hl => ?_)
      have hl : lv_has ls 8 [(6, .int (nI (8 * i))), (5, _), (4, _), (3, .int (zbi w)), (0, .ref y), (1, .int (nI i)), (2, .int x)] := hl
      have loop_53 : ∀ (nn : Nat) (j : Nat) (f0 z0 : Int32) (H : Heap) (locs : List Loc) (ls : Array Slot), (j ≤ v.2.2.2.length) → (zmrn x (v.2.2.2.drop j) f0 z0 = zmrn x v.2.2.2 (if zmhas (zbi w) x = true then -1 else -2) (if zmhas (zbi w) x = true then zbi w - zbi w / 16 * 16 else 11)) → v.2.2.2.length - j < nn → zHw E (zQ E (X ++ zMw E y ad sc g) C) s H locs → lv_has ls 8 [(0, .ref y), (1, .int (nI i)), (2, .int x), (3, .int (zbi w)), (4, .int f0), (5, .int z0), (6, .int (nI (8 * i + j)))] → W p l e (zR 2 0 0) s m ([.ref y, .int (nI i), .int x] : List Value).toArray below meth c H locs 0 0 (MQ below (zRi E (zQ E (X ++ zMw E y ad sc g) C) (zmrn x v.2.2.2 (if zmhas (zbi w) x = true then -1 else -2) (if zmhas (zbi w) x = true then zbi w - zbi w / 16 * 16 else 11))) ([.ref y, .int (nI i), .int x] : List Value).toArray s 0 0 (eA E)) (F0 m 53 ls []) := by
        intro nn
        induction nn with
        | zero => intro j f0 z0 H locs ls hj hacc hm; exact absurd hm (Nat.not_lt_zero _)
        | succ nn ih_53 =>
          intro j f0 z0 H locs ls hj hacc hm hw hl
          refine lv_iload hx hb dX8_routeOf_53 (lv_at hl 6 rfl) ?_
          refine lv_bipush (v := nI 8) hx hb dX8_routeOf_55 rfl ?_
          refine lv_iload_n hx hb dX8_routeOf_57 rfl (lv_at hl 1 rfl) ?_
          refine lv_imul hx hb dX8_routeOf_58 ?_
          refine lv_topi (fun x_58 ex_58 => ?_)
          rw [zi_mul] at ex_58
          subst ex_58
          refine lv_aload_n hx hb dX8_routeOf_59 rfl (lv_at hl 0 rfl) ?_
          refine z_get Cx hw (T := TX8) (N := 26) (ci := 11) (fun _ h => List.mem_cons_of_mem _ (List.mem_append_right _ (h))) zM_x rfl 23 (by decide) (List.mem_of_getElem? (i := 3) rfl) rfl rfl dX8_routeOf_60 ?_
          refine lv_iload_n hx hb dX8_routeOf_63 rfl (lv_at hl 1 rfl) ?_
          refine zm_iald Cx hw (k := 23) (n := 8) (by decide) hi8 dX8_routeOf_64 ?_
          refine lv_iadd hx hb dX8_routeOf_65 ?_
          refine lv_topi (fun x_65 ex_65 => ?_)
          rw [hsz, nI_add] at ex_65
          subst ex_65
          refine lv_icmp_ge (tgt := 152) hx hb dX8_routeOf_66 (by decide) (fun c_66 => ?_) (fun c_66 => ?_)
          · skip
            have hjl : v.2.2.2.length ≤ j := by
              have := (nI_leI (by omega) (by omega)).mp c_66
              omega
            rw [List.drop_of_length_le hjl, zmrn] at hacc
            refine lv_iload hx hb dX8_routeOf_152 (lv_at hl 4 rfl) ?_
            exact (z_ie Cx hr rfl (Nat.le_of_ble_eq_true rfl) (Nat.le_of_ble_eq_true rfl) hw dX8_routeOf_154 (by rw [← hacc]))
          · skip
            have hjl : j < v.2.2.2.length := by
              rcases Nat.lt_or_ge j v.2.2.2.length with h | h
              · exact h
              · exact absurd (nI_le (by omega) (by omega)) c_66
            have hr0 := List.getElem?_eq_getElem hjl
            rw [List.drop_eq_getElem_cons hjl] at hacc
            generalize v.2.2.2[j] = r at hr0 hacc
            obtain ⟨r1, r2⟩ := hru j r hr0
            refine lv_aload_n hx hb dX8_routeOf_69 rfl (lv_at hl 0 rfl) ?_
            refine z_get Cx hw (T := TX8) (N := 26) (ci := 11) (fun _ h => List.mem_cons_of_mem _ (List.mem_append_right _ (h))) zM_x rfl 24 (by decide) (List.mem_of_getElem? (i := 4) rfl) rfl rfl dX8_routeOf_70 ?_
            refine lv_iload hx hb dX8_routeOf_73 (lv_at hl 6 rfl) ?_
            refine zm_iald Cx hw (k := 24) (n := 64) (by decide) (by omega) dX8_routeOf_75 ?_
            refine lv_topi (fun x_75 ex_75 => ?_)
            rw [r1] at ex_75
            subst ex_75
            refine lv_iload_n hx hb dX8_routeOf_76 rfl (lv_at hl 2 rfl) ?_
            refine z_goe hw.2 (z_runS Cx hw (c_X8_has E l _ (zbi r.1) x) (va_cwS 2 Cx.1.2.2.2.2 gX8_routeOf_X8_has rfl rfl rfl (by decide +kernel) ⟨Nat.le_of_ble_eq_true rfl, Nat.le_of_ble_eq_true rfl⟩)  rfl hl.1 rfl (Nat.le_of_ble_eq_true rfl) dX8_routeOf_77 ⟨Nat.le_of_ble_eq_true rfl, Nat.le_of_ble_eq_true rfl⟩) (fun H locs hw => ?_)
            refine lv_if_eq (tgt := 102) hx hb dX8_routeOf_80 (by decide) (fun c_80 => ?_) (fun c_80 => ?_)
            · skip
              have e_s : ¬ (zmhas (zbi r.1) x = true ∧ zbi r.1 - zbi r.1 / 16 * 16 < z0) := fun h => by rw [(zb_0 _).mp c_80] at h; exact absurd h.1 (by decide)
              refine lv_iconst (v := 0) hx hb dX8_routeOf_102 (by decide) ?_
              refine lv_istore hx hb dX8_routeOf_103 hl (by decide) rfl (fun ls hl => ?_)
              have hl : lv_has ls 8 [(7, _), (0, .ref y), (1, .int (nI i)), (2, .int x), (3, .int (zbi w)), (4, .int f0), (5, .int z0), (6, .int (nI (8 * i + j)))] := hl
              refine lv_iload hx hb dX8_routeOf_105 (lv_at hl 0 rfl) ?_
              refine lv_if_eq (tgt := 120) hx hb dX8_routeOf_107 (by decide) (fun c_107 => ?_) (fun c_107 => ?_)
              · skip
                refine lv_iload hx hb dX8_routeOf_120 (lv_at hl 5 rfl) ?_
                refine lv_istore hx hb dX8_routeOf_122 hl (by decide) rfl (fun ls hl => ?_)
                have hl : lv_has ls 8 [(4, _), (7, _), (0, .ref y), (1, .int (nI i)), (2, .int x), (3, .int (zbi w)), (5, .int z0), (6, .int (nI (8 * i + j)))] := hl
                refine lv_iload hx hb dX8_routeOf_124 (lv_at hl 1 rfl) ?_
                refine lv_if_eq (tgt := 142) hx hb dX8_routeOf_126 (by decide) (fun c_126 => ?_) (fun c_126 => ?_)
                · skip
                  refine lv_iload hx hb dX8_routeOf_142 (lv_at hl 6 rfl) ?_
                  refine lv_istore hx hb dX8_routeOf_144 hl (by decide) rfl (fun ls hl => ?_)
                  have hl : lv_has ls 8 [(5, _), (4, _), (7, _), (0, .ref y), (1, .int (nI i)), (2, .int x), (3, .int (zbi w)), (6, .int (nI (8 * i + j)))] := hl
                  refine lv_iinc (v := nI (8 * i + (j + 1))) hx hb dX8_routeOf_146 hl (k := 7) rfl (nI_1 (8 * i + j)) (by decide) rfl (fun ls hl => ?_)
                  have hl : lv_has ls 8 [(6, .int (nI (8 * i + (j + 1)))), (5, _), (4, _), (7, _), (0, .ref y), (1, .int (nI i)), (2, .int x), (3, .int (zbi w))] := hl
                  refine lv_goto (tgt := 53) hx hb dX8_routeOf_149 (by decide) ?_
                  exact ih_53 (j + 1) _ _ H _ ls (by omega) (by first | exact absurd rfl c_107 | exact absurd rfl c_126 | exact absurd c_107 (by decide) | exact absurd c_126 (by decide) | (rw [← hacc, zmrn, if_pos e_s]) | (rw [← hacc, zmrn, if_neg e_s])) (by omega) hw (lv_sub hl [4, 5, 6, 7, 2, 1, 0] rfl)
                · skip
                  refine lv_aload_n hx hb dX8_routeOf_129 rfl (lv_at hl 2 rfl) ?_
                  refine z_get Cx hw (T := TX8) (N := 26) (ci := 11) (fun _ h => List.mem_cons_of_mem _ (List.mem_append_right _ (h))) zM_x rfl 24 (by decide) (List.mem_of_getElem? (i := 4) rfl) rfl rfl dX8_routeOf_130 ?_
                  refine lv_iload hx hb dX8_routeOf_133 (lv_at hl 7 rfl) ?_
                  refine zm_iald Cx hw (k := 24) (n := 64) (by decide) (by omega) dX8_routeOf_135 ?_
                  refine lv_topi (fun x_135 ex_135 => ?_)
                  rw [r1] at ex_135
                  subst ex_135
                  refine lv_bipush (v := 16) hx hb dX8_routeOf_136 (by decide) ?_
                  refine lv_irem hx hb dX8_routeOf_138 (by decide) ?_
                  refine lv_goto (tgt := 144) hx hb dX8_routeOf_139 (by decide) ?_
                  refine lv_istore hx hb dX8_routeOf_144 hl (by decide) rfl (fun ls hl => ?_)
                  have hl : lv_has ls 8 [(5, _), (4, _), (7, _), (0, .ref y), (1, .int (nI i)), (2, .int x), (3, .int (zbi w)), (6, .int (nI (8 * i + j)))] := hl
                  refine lv_iinc (v := nI (8 * i + (j + 1))) hx hb dX8_routeOf_146 hl (k := 7) rfl (nI_1 (8 * i + j)) (by decide) rfl (fun ls hl => ?_)
                  have hl : lv_has ls 8 [(6, .int (nI (8 * i + (j + 1)))), (5, _), (4, _), (7, _), (0, .ref y), (1, .int (nI i)), (2, .int x), (3, .int (zbi w))] := hl
                  refine lv_goto (tgt := 53) hx hb dX8_routeOf_149 (by decide) ?_
                  exact ih_53 (j + 1) _ _ H _ ls (by omega) (by first | exact absurd rfl c_107 | exact absurd rfl c_126 | exact absurd c_107 (by decide) | exact absurd c_126 (by decide) | (rw [← hacc, zmrn, if_pos e_s]) | (rw [← hacc, zmrn, if_neg e_s])) (by omega) hw (lv_sub hl [4, 5, 6, 7, 2, 1, 0] rfl)
              · skip
                refine lv_aload_n hx hb dX8_routeOf_110 rfl (lv_at hl 1 rfl) ?_
                refine z_get Cx hw (T := TX8) (N := 26) (ci := 11) (fun _ h => List.mem_cons_of_mem _ (List.mem_append_right _ (h))) zM_x rfl 25 (by decide) (List.mem_of_getElem? (i := 5) rfl) rfl rfl dX8_routeOf_111 ?_
                refine lv_iload hx hb dX8_routeOf_114 (lv_at hl 7 rfl) ?_
                refine zm_iald Cx hw (k := 25) (n := 64) (by decide) (by omega) dX8_routeOf_116 ?_
                refine lv_topi (fun x_116 ex_116 => ?_)
                rw [r2] at ex_116
                subst ex_116
                refine lv_goto (tgt := 122) hx hb dX8_routeOf_117 (by decide) ?_
                refine lv_istore hx hb dX8_routeOf_122 hl (by decide) rfl (fun ls hl => ?_)
                have hl : lv_has ls 8 [(4, _), (7, _), (0, .ref y), (1, .int (nI i)), (2, .int x), (3, .int (zbi w)), (5, .int z0), (6, .int (nI (8 * i + j)))] := hl
                refine lv_iload hx hb dX8_routeOf_124 (lv_at hl 1 rfl) ?_
                refine lv_if_eq (tgt := 142) hx hb dX8_routeOf_126 (by decide) (fun c_126 => ?_) (fun c_126 => ?_)
                · skip
                  refine lv_iload hx hb dX8_routeOf_142 (lv_at hl 6 rfl) ?_
                  refine lv_istore hx hb dX8_routeOf_144 hl (by decide) rfl (fun ls hl => ?_)
                  have hl : lv_has ls 8 [(5, _), (4, _), (7, _), (0, .ref y), (1, .int (nI i)), (2, .int x), (3, .int (zbi w)), (6, .int (nI (8 * i + j)))] := hl
                  refine lv_iinc (v := nI (8 * i + (j + 1))) hx hb dX8_routeOf_146 hl (k := 7) rfl (nI_1 (8 * i + j)) (by decide) rfl (fun ls hl => ?_)
                  have hl : lv_has ls 8 [(6, .int (nI (8 * i + (j + 1)))), (5, _), (4, _), (7, _), (0, .ref y), (1, .int (nI i)), (2, .int x), (3, .int (zbi w))] := hl
                  refine lv_goto (tgt := 53) hx hb dX8_routeOf_149 (by decide) ?_
                  exact ih_53 (j + 1) _ _ H _ ls (by omega) (by first | exact absurd rfl c_107 | exact absurd rfl c_126 | exact absurd c_107 (by decide) | exact absurd c_126 (by decide) | (rw [← hacc, zmrn, if_pos e_s]) | (rw [← hacc, zmrn, if_neg e_s])) (by omega) hw (lv_sub hl [4, 5, 6, 7, 2, 1, 0] rfl)
                · skip
                  refine lv_aload_n hx hb dX8_routeOf_129 rfl (lv_at hl 2 rfl) ?_
                  refine z_get Cx hw (T := TX8) (N := 26) (ci := 11) (fun _ h => List.mem_cons_of_mem _ (List.mem_append_right _ (h))) zM_x rfl 24 (by decide) (List.mem_of_getElem? (i := 4) rfl) rfl rfl dX8_routeOf_130 ?_
                  refine lv_iload hx hb dX8_routeOf_133 (lv_at hl 7 rfl) ?_
                  refine zm_iald Cx hw (k := 24) (n := 64) (by decide) (by omega) dX8_routeOf_135 ?_
                  refine lv_topi (fun x_135 ex_135 => ?_)
                  rw [r1] at ex_135
                  subst ex_135
                  refine lv_bipush (v := 16) hx hb dX8_routeOf_136 (by decide) ?_
                  refine lv_irem hx hb dX8_routeOf_138 (by decide) ?_
                  refine lv_goto (tgt := 144) hx hb dX8_routeOf_139 (by decide) ?_
                  refine lv_istore hx hb dX8_routeOf_144 hl (by decide) rfl (fun ls hl => ?_)
                  have hl : lv_has ls 8 [(5, _), (4, _), (7, _), (0, .ref y), (1, .int (nI i)), (2, .int x), (3, .int (zbi w)), (6, .int (nI (8 * i + j)))] := hl
                  refine lv_iinc (v := nI (8 * i + (j + 1))) hx hb dX8_routeOf_146 hl (k := 7) rfl (nI_1 (8 * i + j)) (by decide) rfl (fun ls hl => ?_)
                  have hl : lv_has ls 8 [(6, .int (nI (8 * i + (j + 1)))), (5, _), (4, _), (7, _), (0, .ref y), (1, .int (nI i)), (2, .int x), (3, .int (zbi w))] := hl
                  refine lv_goto (tgt := 53) hx hb dX8_routeOf_149 (by decide) ?_
                  exact ih_53 (j + 1) _ _ H _ ls (by omega) (by first | exact absurd rfl c_107 | exact absurd rfl c_126 | exact absurd c_107 (by decide) | exact absurd c_126 (by decide) | (rw [← hacc, zmrn, if_pos e_s]) | (rw [← hacc, zmrn, if_neg e_s])) (by omega) hw (lv_sub hl [4, 5, 6, 7, 2, 1, 0] rfl)
            · skip
              refine lv_aload_n hx hb dX8_routeOf_83 rfl (lv_at hl 0 rfl) ?_
              refine z_get Cx hw (T := TX8) (N := 26) (ci := 11) (fun _ h => List.mem_cons_of_mem _ (List.mem_append_right _ (h))) zM_x rfl 24 (by decide) (List.mem_of_getElem? (i := 4) rfl) rfl rfl dX8_routeOf_84 ?_
              refine lv_iload hx hb dX8_routeOf_87 (lv_at hl 6 rfl) ?_
              refine zm_iald Cx hw (k := 24) (n := 64) (by decide) (by omega) dX8_routeOf_89 ?_
              refine lv_topi (fun x_89 ex_89 => ?_)
              rw [r1] at ex_89
              subst ex_89
              refine lv_bipush (v := 16) hx hb dX8_routeOf_90 (by decide) ?_
              refine lv_irem hx hb dX8_routeOf_92 (by decide) ?_
              refine lv_iload hx hb dX8_routeOf_93 (lv_at hl 5 rfl) ?_
              refine lv_icmp_ge (tgt := 102) hx hb dX8_routeOf_95 (by decide) (fun c_95 => ?_) (fun c_95 => ?_)
              · skip
                have e_s : ¬ (zmhas (zbi r.1) x = true ∧ zbi r.1 - zbi r.1 / 16 * 16 < z0) := fun h => Int32.not_lt.mpr c_95 h.2
                refine lv_iconst (v := 0) hx hb dX8_routeOf_102 (by decide) ?_
                refine lv_istore hx hb dX8_routeOf_103 hl (by decide) rfl (fun ls hl => ?_)
                have hl : lv_has ls 8 [(7, _), (0, .ref y), (1, .int (nI i)), (2, .int x), (3, .int (zbi w)), (4, .int f0), (5, .int z0), (6, .int (nI (8 * i + j)))] := hl
                refine lv_iload hx hb dX8_routeOf_105 (lv_at hl 0 rfl) ?_
                refine lv_if_eq (tgt := 120) hx hb dX8_routeOf_107 (by decide) (fun c_107 => ?_) (fun c_107 => ?_)
                · skip
                  refine lv_iload hx hb dX8_routeOf_120 (lv_at hl 5 rfl) ?_
                  refine lv_istore hx hb dX8_routeOf_122 hl (by decide) rfl (fun ls hl => ?_)
                  have hl : lv_has ls 8 [(4, _), (7, _), (0, .ref y), (1, .int (nI i)), (2, .int x), (3, .int (zbi w)), (5, .int z0), (6, .int (nI (8 * i + j)))] := hl
                  refine lv_iload hx hb dX8_routeOf_124 (lv_at hl 1 rfl) ?_
                  refine lv_if_eq (tgt := 142) hx hb dX8_routeOf_126 (by decide) (fun c_126 => ?_) (fun c_126 => ?_)
                  · skip
                    refine lv_iload hx hb dX8_routeOf_142 (lv_at hl 6 rfl) ?_
                    refine lv_istore hx hb dX8_routeOf_144 hl (by decide) rfl (fun ls hl => ?_)
                    have hl : lv_has ls 8 [(5, _), (4, _), (7, _), (0, .ref y), (1, .int (nI i)), (2, .int x), (3, .int (zbi w)), (6, .int (nI (8 * i + j)))] := hl
                    refine lv_iinc (v := nI (8 * i + (j + 1))) hx hb dX8_routeOf_146 hl (k := 7) rfl (nI_1 (8 * i + j)) (by decide) rfl (fun ls hl => ?_)
                    have hl : lv_has ls 8 [(6, .int (nI (8 * i + (j + 1)))), (5, _), (4, _), (7, _), (0, .ref y), (1, .int (nI i)), (2, .int x), (3, .int (zbi w))] := hl
                    refine lv_goto (tgt := 53) hx hb dX8_routeOf_149 (by decide) ?_
                    exact ih_53 (j + 1) _ _ H _ ls (by omega) (by first | exact absurd rfl c_107 | exact absurd rfl c_126 | exact absurd c_107 (by decide) | exact absurd c_126 (by decide) | (rw [← hacc, zmrn, if_pos e_s]) | (rw [← hacc, zmrn, if_neg e_s])) (by omega) hw (lv_sub hl [4, 5, 6, 7, 2, 1, 0] rfl)
                  · skip
                    refine lv_aload_n hx hb dX8_routeOf_129 rfl (lv_at hl 2 rfl) ?_
                    refine z_get Cx hw (T := TX8) (N := 26) (ci := 11) (fun _ h => List.mem_cons_of_mem _ (List.mem_append_right _ (h))) zM_x rfl 24 (by decide) (List.mem_of_getElem? (i := 4) rfl) rfl rfl dX8_routeOf_130 ?_
                    refine lv_iload hx hb dX8_routeOf_133 (lv_at hl 7 rfl) ?_
                    refine zm_iald Cx hw (k := 24) (n := 64) (by decide) (by omega) dX8_routeOf_135 ?_
                    refine lv_topi (fun x_135 ex_135 => ?_)
                    rw [r1] at ex_135
                    subst ex_135
                    refine lv_bipush (v := 16) hx hb dX8_routeOf_136 (by decide) ?_
                    refine lv_irem hx hb dX8_routeOf_138 (by decide) ?_
                    refine lv_goto (tgt := 144) hx hb dX8_routeOf_139 (by decide) ?_
                    refine lv_istore hx hb dX8_routeOf_144 hl (by decide) rfl (fun ls hl => ?_)
                    have hl : lv_has ls 8 [(5, _), (4, _), (7, _), (0, .ref y), (1, .int (nI i)), (2, .int x), (3, .int (zbi w)), (6, .int (nI (8 * i + j)))] := hl
                    refine lv_iinc (v := nI (8 * i + (j + 1))) hx hb dX8_routeOf_146 hl (k := 7) rfl (nI_1 (8 * i + j)) (by decide) rfl (fun ls hl => ?_)
                    have hl : lv_has ls 8 [(6, .int (nI (8 * i + (j + 1)))), (5, _), (4, _), (7, _), (0, .ref y), (1, .int (nI i)), (2, .int x), (3, .int (zbi w))] := hl
                    refine lv_goto (tgt := 53) hx hb dX8_routeOf_149 (by decide) ?_
                    exact ih_53 (j + 1) _ _ H _ ls (by omega) (by first | exact absurd rfl c_107 | exact absurd rfl c_126 | exact absurd c_107 (by decide) | exact absurd c_126 (by decide) | (rw [← hacc, zmrn, if_pos e_s]) | (rw [← hacc, zmrn, if_neg e_s])) (by omega) hw (lv_sub hl [4, 5, 6, 7, 2, 1, 0] rfl)
                · skip
                  refine lv_aload_n hx hb dX8_routeOf_110 rfl (lv_at hl 1 rfl) ?_
                  refine z_get Cx hw (T := TX8) (N := 26) (ci := 11) (fun _ h => List.mem_cons_of_mem _ (List.mem_append_right _ (h))) zM_x rfl 25 (by decide) (List.mem_of_getElem? (i := 5) rfl) rfl rfl dX8_routeOf_111 ?_
                  refine lv_iload hx hb dX8_routeOf_114 (lv_at hl 7 rfl) ?_
                  refine zm_iald Cx hw (k := 25) (n := 64) (by decide) (by omega) dX8_routeOf_116 ?_
                  refine lv_topi (fun x_116 ex_116 => ?_)
                  rw [r2] at ex_116
                  subst ex_116
                  refine lv_goto (tgt := 122) hx hb dX8_routeOf_117 (by decide) ?_
                  refine lv_istore hx hb dX8_routeOf_122 hl (by decide) rfl (fun ls hl => ?_)
                  have hl : lv_has ls 8 [(4, _), (7, _), (0, .ref y), (1, .int (nI i)), (2, .int x), (3, .int (zbi w)), (5, .int z0), (6, .int (nI (8 * i + j)))] := hl
                  refine lv_iload hx hb dX8_routeOf_124 (lv_at hl 1 rfl) ?_
                  refine lv_if_eq (tgt := 142) hx hb dX8_routeOf_126 (by decide) (fun c_126 => ?_) (fun c_126 => ?_)
                  · skip
                    refine lv_iload hx hb dX8_routeOf_142 (lv_at hl 6 rfl) ?_
                    refine lv_istore hx hb dX8_routeOf_144 hl (by decide) rfl (fun ls hl => ?_)
                    have hl : lv_has ls 8 [(5, _), (4, _), (7, _), (0, .ref y), (1, .int (nI i)), (2, .int x), (3, .int (zbi w)), (6, .int (nI (8 * i + j)))] := hl
                    refine lv_iinc (v := nI (8 * i + (j + 1))) hx hb dX8_routeOf_146 hl (k := 7) rfl (nI_1 (8 * i + j)) (by decide) rfl (fun ls hl => ?_)
                    have hl : lv_has ls 8 [(6, .int (nI (8 * i + (j + 1)))), (5, _), (4, _), (7, _), (0, .ref y), (1, .int (nI i)), (2, .int x), (3, .int (zbi w))] := hl
                    refine lv_goto (tgt := 53) hx hb dX8_routeOf_149 (by decide) ?_
                    exact ih_53 (j + 1) _ _ H _ ls (by omega) (by first | exact absurd rfl c_107 | exact absurd rfl c_126 | exact absurd c_107 (by decide) | exact absurd c_126 (by decide) | (rw [← hacc, zmrn, if_pos e_s]) | (rw [← hacc, zmrn, if_neg e_s])) (by omega) hw (lv_sub hl [4, 5, 6, 7, 2, 1, 0] rfl)
                  · skip
                    refine lv_aload_n hx hb dX8_routeOf_129 rfl (lv_at hl 2 rfl) ?_
                    refine z_get Cx hw (T := TX8) (N := 26) (ci := 11) (fun _ h => List.mem_cons_of_mem _ (List.mem_append_right _ (h))) zM_x rfl 24 (by decide) (List.mem_of_getElem? (i := 4) rfl) rfl rfl dX8_routeOf_130 ?_
                    refine lv_iload hx hb dX8_routeOf_133 (lv_at hl 7 rfl) ?_
                    refine zm_iald Cx hw (k := 24) (n := 64) (by decide) (by omega) dX8_routeOf_135 ?_
                    refine lv_topi (fun x_135 ex_135 => ?_)
                    rw [r1] at ex_135
                    subst ex_135
                    refine lv_bipush (v := 16) hx hb dX8_routeOf_136 (by decide) ?_
                    refine lv_irem hx hb dX8_routeOf_138 (by decide) ?_
                    refine lv_goto (tgt := 144) hx hb dX8_routeOf_139 (by decide) ?_
                    refine lv_istore hx hb dX8_routeOf_144 hl (by decide) rfl (fun ls hl => ?_)
                    have hl : lv_has ls 8 [(5, _), (4, _), (7, _), (0, .ref y), (1, .int (nI i)), (2, .int x), (3, .int (zbi w)), (6, .int (nI (8 * i + j)))] := hl
                    refine lv_iinc (v := nI (8 * i + (j + 1))) hx hb dX8_routeOf_146 hl (k := 7) rfl (nI_1 (8 * i + j)) (by decide) rfl (fun ls hl => ?_)
                    have hl : lv_has ls 8 [(6, .int (nI (8 * i + (j + 1)))), (5, _), (4, _), (7, _), (0, .ref y), (1, .int (nI i)), (2, .int x), (3, .int (zbi w))] := hl
                    refine lv_goto (tgt := 53) hx hb dX8_routeOf_149 (by decide) ?_
                    exact ih_53 (j + 1) _ _ H _ ls (by omega) (by first | exact absurd rfl c_107 | exact absurd rfl c_126 | exact absurd c_107 (by decide) | exact absurd c_126 (by decide) | (rw [← hacc, zmrn, if_pos e_s]) | (rw [← hacc, zmrn, if_neg e_s])) (by omega) hw (lv_sub hl [4, 5, 6, 7, 2, 1, 0] rfl)
              · skip
                have e_s : (zmhas (zbi r.1) x = true ∧ zbi r.1 - zbi r.1 / 16 * 16 < z0) := ⟨(zb_1 _).mp c_80, Int32.not_le.mp c_95⟩
                refine lv_iconst (v := 1) hx hb dX8_routeOf_98 (by decide) ?_
                refine lv_goto (tgt := 103) hx hb dX8_routeOf_99 (by decide) ?_
                refine lv_istore hx hb dX8_routeOf_103 hl (by decide) rfl (fun ls hl => ?_)
                have hl : lv_has ls 8 [(7, _), (0, .ref y), (1, .int (nI i)), (2, .int x), (3, .int (zbi w)), (4, .int f0), (5, .int z0), (6, .int (nI (8 * i + j)))] := hl
                refine lv_iload hx hb dX8_routeOf_105 (lv_at hl 0 rfl) ?_
                refine lv_if_eq (tgt := 120) hx hb dX8_routeOf_107 (by decide) (fun c_107 => ?_) (fun c_107 => ?_)
                · skip
                  refine lv_iload hx hb dX8_routeOf_120 (lv_at hl 5 rfl) ?_
                  refine lv_istore hx hb dX8_routeOf_122 hl (by decide) rfl (fun ls hl => ?_)
                  have hl : lv_has ls 8 [(4, _), (7, _), (0, .ref y), (1, .int (nI i)), (2, .int x), (3, .int (zbi w)), (5, .int z0), (6, .int (nI (8 * i + j)))] := hl
                  refine lv_iload hx hb dX8_routeOf_124 (lv_at hl 1 rfl) ?_
                  refine lv_if_eq (tgt := 142) hx hb dX8_routeOf_126 (by decide) (fun c_126 => ?_) (fun c_126 => ?_)
                  · skip
                    refine lv_iload hx hb dX8_routeOf_142 (lv_at hl 6 rfl) ?_
                    refine lv_istore hx hb dX8_routeOf_144 hl (by decide) rfl (fun ls hl => ?_)
                    have hl : lv_has ls 8 [(5, _), (4, _), (7, _), (0, .ref y), (1, .int (nI i)), (2, .int x), (3, .int (zbi w)), (6, .int (nI (8 * i + j)))] := hl
                    refine lv_iinc (v := nI (8 * i + (j + 1))) hx hb dX8_routeOf_146 hl (k := 7) rfl (nI_1 (8 * i + j)) (by decide) rfl (fun ls hl => ?_)
                    have hl : lv_has ls 8 [(6, .int (nI (8 * i + (j + 1)))), (5, _), (4, _), (7, _), (0, .ref y), (1, .int (nI i)), (2, .int x), (3, .int (zbi w))] := hl
                    refine lv_goto (tgt := 53) hx hb dX8_routeOf_149 (by decide) ?_
                    exact ih_53 (j + 1) _ _ H _ ls (by omega) (by first | exact absurd rfl c_107 | exact absurd rfl c_126 | exact absurd c_107 (by decide) | exact absurd c_126 (by decide) | (rw [← hacc, zmrn, if_pos e_s]) | (rw [← hacc, zmrn, if_neg e_s])) (by omega) hw (lv_sub hl [4, 5, 6, 7, 2, 1, 0] rfl)
                  · skip
                    refine lv_aload_n hx hb dX8_routeOf_129 rfl (lv_at hl 2 rfl) ?_
                    refine z_get Cx hw (T := TX8) (N := 26) (ci := 11) (fun _ h => List.mem_cons_of_mem _ (List.mem_append_right _ (h))) zM_x rfl 24 (by decide) (List.mem_of_getElem? (i := 4) rfl) rfl rfl dX8_routeOf_130 ?_
                    refine lv_iload hx hb dX8_routeOf_133 (lv_at hl 7 rfl) ?_
                    refine zm_iald Cx hw (k := 24) (n := 64) (by decide) (by omega) dX8_routeOf_135 ?_
                    refine lv_topi (fun x_135 ex_135 => ?_)
                    rw [r1] at ex_135
                    subst ex_135
                    refine lv_bipush (v := 16) hx hb dX8_routeOf_136 (by decide) ?_
                    refine lv_irem hx hb dX8_routeOf_138 (by decide) ?_
                    refine lv_goto (tgt := 144) hx hb dX8_routeOf_139 (by decide) ?_
                    refine lv_istore hx hb dX8_routeOf_144 hl (by decide) rfl (fun ls hl => ?_)
                    have hl : lv_has ls 8 [(5, _), (4, _), (7, _), (0, .ref y), (1, .int (nI i)), (2, .int x), (3, .int (zbi w)), (6, .int (nI (8 * i + j)))] := hl
                    refine lv_iinc (v := nI (8 * i + (j + 1))) hx hb dX8_routeOf_146 hl (k := 7) rfl (nI_1 (8 * i + j)) (by decide) rfl (fun ls hl => ?_)
                    have hl : lv_has ls 8 [(6, .int (nI (8 * i + (j + 1)))), (5, _), (4, _), (7, _), (0, .ref y), (1, .int (nI i)), (2, .int x), (3, .int (zbi w))] := hl
                    refine lv_goto (tgt := 53) hx hb dX8_routeOf_149 (by decide) ?_
                    exact ih_53 (j + 1) _ _ H _ ls (by omega) (by first | exact absurd rfl c_107 | exact absurd rfl c_126 | exact absurd c_107 (by decide) | exact absurd c_126 (by decide) | (rw [← hacc, zmrn, if_pos e_s]) | (rw [← hacc, zmrn, if_neg e_s])) (by omega) hw (lv_sub hl [4, 5, 6, 7, 2, 1, 0] rfl)
                · skip
                  refine lv_aload_n hx hb dX8_routeOf_110 rfl (lv_at hl 1 rfl) ?_
                  refine z_get Cx hw (T := TX8) (N := 26) (ci := 11) (fun _ h => List.mem_cons_of_mem _ (List.mem_append_right _ (h))) zM_x rfl 25 (by decide) (List.mem_of_getElem? (i := 5) rfl) rfl rfl dX8_routeOf_111 ?_
                  refine lv_iload hx hb dX8_routeOf_114 (lv_at hl 7 rfl) ?_
                  refine zm_iald Cx hw (k := 25) (n := 64) (by decide) (by omega) dX8_routeOf_116 ?_
                  refine lv_topi (fun x_116 ex_116 => ?_)
                  rw [r2] at ex_116
                  subst ex_116
                  refine lv_goto (tgt := 122) hx hb dX8_routeOf_117 (by decide) ?_
                  refine lv_istore hx hb dX8_routeOf_122 hl (by decide) rfl (fun ls hl => ?_)
                  have hl : lv_has ls 8 [(4, _), (7, _), (0, .ref y), (1, .int (nI i)), (2, .int x), (3, .int (zbi w)), (5, .int z0), (6, .int (nI (8 * i + j)))] := hl
                  refine lv_iload hx hb dX8_routeOf_124 (lv_at hl 1 rfl) ?_
                  refine lv_if_eq (tgt := 142) hx hb dX8_routeOf_126 (by decide) (fun c_126 => ?_) (fun c_126 => ?_)
                  · skip
                    refine lv_iload hx hb dX8_routeOf_142 (lv_at hl 6 rfl) ?_
                    refine lv_istore hx hb dX8_routeOf_144 hl (by decide) rfl (fun ls hl => ?_)
                    have hl : lv_has ls 8 [(5, _), (4, _), (7, _), (0, .ref y), (1, .int (nI i)), (2, .int x), (3, .int (zbi w)), (6, .int (nI (8 * i + j)))] := hl
                    refine lv_iinc (v := nI (8 * i + (j + 1))) hx hb dX8_routeOf_146 hl (k := 7) rfl (nI_1 (8 * i + j)) (by decide) rfl (fun ls hl => ?_)
                    have hl : lv_has ls 8 [(6, .int (nI (8 * i + (j + 1)))), (5, _), (4, _), (7, _), (0, .ref y), (1, .int (nI i)), (2, .int x), (3, .int (zbi w))] := hl
                    refine lv_goto (tgt := 53) hx hb dX8_routeOf_149 (by decide) ?_
                    exact ih_53 (j + 1) _ _ H _ ls (by omega) (by first | exact absurd rfl c_107 | exact absurd rfl c_126 | exact absurd c_107 (by decide) | exact absurd c_126 (by decide) | (rw [← hacc, zmrn, if_pos e_s]) | (rw [← hacc, zmrn, if_neg e_s])) (by omega) hw (lv_sub hl [4, 5, 6, 7, 2, 1, 0] rfl)
                  · skip
                    refine lv_aload_n hx hb dX8_routeOf_129 rfl (lv_at hl 2 rfl) ?_
                    refine z_get Cx hw (T := TX8) (N := 26) (ci := 11) (fun _ h => List.mem_cons_of_mem _ (List.mem_append_right _ (h))) zM_x rfl 24 (by decide) (List.mem_of_getElem? (i := 4) rfl) rfl rfl dX8_routeOf_130 ?_
                    refine lv_iload hx hb dX8_routeOf_133 (lv_at hl 7 rfl) ?_
                    refine zm_iald Cx hw (k := 24) (n := 64) (by decide) (by omega) dX8_routeOf_135 ?_
                    refine lv_topi (fun x_135 ex_135 => ?_)
                    rw [r1] at ex_135
                    subst ex_135
                    refine lv_bipush (v := 16) hx hb dX8_routeOf_136 (by decide) ?_
                    refine lv_irem hx hb dX8_routeOf_138 (by decide) ?_
                    refine lv_goto (tgt := 144) hx hb dX8_routeOf_139 (by decide) ?_
                    refine lv_istore hx hb dX8_routeOf_144 hl (by decide) rfl (fun ls hl => ?_)
                    have hl : lv_has ls 8 [(5, _), (4, _), (7, _), (0, .ref y), (1, .int (nI i)), (2, .int x), (3, .int (zbi w)), (6, .int (nI (8 * i + j)))] := hl
                    refine lv_iinc (v := nI (8 * i + (j + 1))) hx hb dX8_routeOf_146 hl (k := 7) rfl (nI_1 (8 * i + j)) (by decide) rfl (fun ls hl => ?_)
                    have hl : lv_has ls 8 [(6, .int (nI (8 * i + (j + 1)))), (5, _), (4, _), (7, _), (0, .ref y), (1, .int (nI i)), (2, .int x), (3, .int (zbi w))] := hl
                    refine lv_goto (tgt := 53) hx hb dX8_routeOf_149 (by decide) ?_
                    exact ih_53 (j + 1) _ _ H _ ls (by omega) (by first | exact absurd rfl c_107 | exact absurd rfl c_126 | exact absurd c_107 (by decide) | exact absurd c_126 (by decide) | (rw [← hacc, zmrn, if_pos e_s]) | (rw [← hacc, zmrn, if_neg e_s])) (by omega) hw (lv_sub hl [4, 5, 6, 7, 2, 1, 0] rfl)
      exact loop_53 ((v.2.2.2.length - 0) + 1) 0 _ _ _ _ ls (Nat.zero_le _) (by rw [e_f, e_z]; rfl) (Nat.lt_succ_self _) hw (lv_sub hl [4, 5, 6, 3, 2, 1, 0] rfl)
    · skip
      have e_z : (if zmhas (zbi w) x = true then zbi w - zbi w / 16 * 16 else 11) = zbi w - zbi w / 16 * 16 := if_pos ((zb_1 _).mp c_33)
      refine lv_iload_n hx hb dX8_routeOf_36 rfl (lv_at hl 1 rfl) ?_
      refine lv_bipush (v := 16) hx hb dX8_routeOf_37 (by decide) ?_
      refine lv_irem hx hb dX8_routeOf_39 (by decide) ?_
      refine lv_goto (tgt := 45) hx hb dX8_routeOf_40 (by decide) ?_
      refine lv_istore hx hb dX8_routeOf_45 hl (by decide) rfl (fun ls hl => ?_)
      have hl : lv_has ls 8 [(5, _), (4, _), (3, .int (zbi w)), (0, .ref y), (1, .int (nI i)), (2, .int x)] := hl
      refine lv_bipush (v := nI 8) hx hb dX8_routeOf_47 rfl ?_
      refine lv_iload_n hx hb dX8_routeOf_49 rfl (lv_at hl 4 rfl) ?_
      refine lv_imul hx hb dX8_routeOf_50 ?_
      refine lv_topi (fun x_50 ex_50 => ?_)
      rw [zi_mul] at ex_50
      subst ex_50
      refine lv_istore hx hb dX8_routeOf_51 hl (by decide) rfl (fun ls hl => ?_)
      have hl : lv_has ls 8 [(6, .int (nI (8 * i))), (5, _), (4, _), (3, .int (zbi w)), (0, .ref y), (1, .int (nI i)), (2, .int x)] := hl
      have loop_53 : ∀ (nn : Nat) (j : Nat) (f0 z0 : Int32) (H : Heap) (locs : List Loc) (ls : Array Slot), (j ≤ v.2.2.2.length) → (zmrn x (v.2.2.2.drop j) f0 z0 = zmrn x v.2.2.2 (if zmhas (zbi w) x = true then -1 else -2) (if zmhas (zbi w) x = true then zbi w - zbi w / 16 * 16 else 11)) → v.2.2.2.length - j < nn → zHw E (zQ E (X ++ zMw E y ad sc g) C) s H locs → lv_has ls 8 [(0, .ref y), (1, .int (nI i)), (2, .int x), (3, .int (zbi w)), (4, .int f0), (5, .int z0), (6, .int (nI (8 * i + j)))] → W p l e (zR 2 0 0) s m ([.ref y, .int (nI i), .int x] : List Value).toArray below meth c H locs 0 0 (MQ below (zRi E (zQ E (X ++ zMw E y ad sc g) C) (zmrn x v.2.2.2 (if zmhas (zbi w) x = true then -1 else -2) (if zmhas (zbi w) x = true then zbi w - zbi w / 16 * 16 else 11))) ([.ref y, .int (nI i), .int x] : List Value).toArray s 0 0 (eA E)) (F0 m 53 ls []) := by
        intro nn
        induction nn with
        | zero => intro j f0 z0 H locs ls hj hacc hm; exact absurd hm (Nat.not_lt_zero _)
        | succ nn ih_53 =>
          intro j f0 z0 H locs ls hj hacc hm hw hl
          refine lv_iload hx hb dX8_routeOf_53 (lv_at hl 6 rfl) ?_
          refine lv_bipush (v := nI 8) hx hb dX8_routeOf_55 rfl ?_
          refine lv_iload_n hx hb dX8_routeOf_57 rfl (lv_at hl 1 rfl) ?_
          refine lv_imul hx hb dX8_routeOf_58 ?_
          refine lv_topi (fun x_58 ex_58 => ?_)
          rw [zi_mul] at ex_58
          subst ex_58
          refine lv_aload_n hx hb dX8_routeOf_59 rfl (lv_at hl 0 rfl) ?_
          refine z_get Cx hw (T := TX8) (N := 26) (ci := 11) (fun _ h => List.mem_cons_of_mem _ (List.mem_append_right _ (h))) zM_x rfl 23 (by decide) (List.mem_of_getElem? (i := 3) rfl) rfl rfl dX8_routeOf_60 ?_
          refine lv_iload_n hx hb dX8_routeOf_63 rfl (lv_at hl 1 rfl) ?_
          refine zm_iald Cx hw (k := 23) (n := 8) (by decide) hi8 dX8_routeOf_64 ?_
          refine lv_iadd hx hb dX8_routeOf_65 ?_
          refine lv_topi (fun x_65 ex_65 => ?_)
          rw [hsz, nI_add] at ex_65
          subst ex_65
          refine lv_icmp_ge (tgt := 152) hx hb dX8_routeOf_66 (by decide) (fun c_66 => ?_) (fun c_66 => ?_)
          · skip
            have hjl : v.2.2.2.length ≤ j := by
              have := (nI_leI (by omega) (by omega)).mp c_66
              omega
            rw [List.drop_of_length_le hjl, zmrn] at hacc
            refine lv_iload hx hb dX8_routeOf_152 (lv_at hl 4 rfl) ?_
            exact (z_ie Cx hr rfl (Nat.le_of_ble_eq_true rfl) (Nat.le_of_ble_eq_true rfl) hw dX8_routeOf_154 (by rw [← hacc]))
          · skip
            have hjl : j < v.2.2.2.length := by
              rcases Nat.lt_or_ge j v.2.2.2.length with h | h
              · exact h
              · exact absurd (nI_le (by omega) (by omega)) c_66
            have hr0 := List.getElem?_eq_getElem hjl
            rw [List.drop_eq_getElem_cons hjl] at hacc
            generalize v.2.2.2[j] = r at hr0 hacc
            obtain ⟨r1, r2⟩ := hru j r hr0
            refine lv_aload_n hx hb dX8_routeOf_69 rfl (lv_at hl 0 rfl) ?_
            refine z_get Cx hw (T := TX8) (N := 26) (ci := 11) (fun _ h => List.mem_cons_of_mem _ (List.mem_append_right _ (h))) zM_x rfl 24 (by decide) (List.mem_of_getElem? (i := 4) rfl) rfl rfl dX8_routeOf_70 ?_
            refine lv_iload hx hb dX8_routeOf_73 (lv_at hl 6 rfl) ?_
            refine zm_iald Cx hw (k := 24) (n := 64) (by decide) (by omega) dX8_routeOf_75 ?_
            refine lv_topi (fun x_75 ex_75 => ?_)
            rw [r1] at ex_75
            subst ex_75
            refine lv_iload_n hx hb dX8_routeOf_76 rfl (lv_at hl 2 rfl) ?_
            refine z_goe hw.2 (z_runS Cx hw (c_X8_has E l _ (zbi r.1) x) (va_cwS 2 Cx.1.2.2.2.2 gX8_routeOf_X8_has rfl rfl rfl (by decide +kernel) ⟨Nat.le_of_ble_eq_true rfl, Nat.le_of_ble_eq_true rfl⟩)  rfl hl.1 rfl (Nat.le_of_ble_eq_true rfl) dX8_routeOf_77 ⟨Nat.le_of_ble_eq_true rfl, Nat.le_of_ble_eq_true rfl⟩) (fun H locs hw => ?_)
            refine lv_if_eq (tgt := 102) hx hb dX8_routeOf_80 (by decide) (fun c_80 => ?_) (fun c_80 => ?_)
            · skip
              have e_s : ¬ (zmhas (zbi r.1) x = true ∧ zbi r.1 - zbi r.1 / 16 * 16 < z0) := fun h => by rw [(zb_0 _).mp c_80] at h; exact absurd h.1 (by decide)
              refine lv_iconst (v := 0) hx hb dX8_routeOf_102 (by decide) ?_
              refine lv_istore hx hb dX8_routeOf_103 hl (by decide) rfl (fun ls hl => ?_)
              have hl : lv_has ls 8 [(7, _), (0, .ref y), (1, .int (nI i)), (2, .int x), (3, .int (zbi w)), (4, .int f0), (5, .int z0), (6, .int (nI (8 * i + j)))] := hl
              refine lv_iload hx hb dX8_routeOf_105 (lv_at hl 0 rfl) ?_
              refine lv_if_eq (tgt := 120) hx hb dX8_routeOf_107 (by decide) (fun c_107 => ?_) (fun c_107 => ?_)
              · skip
                refine lv_iload hx hb dX8_routeOf_120 (lv_at hl 5 rfl) ?_
                refine lv_istore hx hb dX8_routeOf_122 hl (by decide) rfl (fun ls hl => ?_)
                have hl : lv_has ls 8 [(4, _), (7, _), (0, .ref y), (1, .int (nI i)), (2, .int x), (3, .int (zbi w)), (5, .int z0), (6, .int (nI (8 * i + j)))] := hl
                refine lv_iload hx hb dX8_routeOf_124 (lv_at hl 1 rfl) ?_
                refine lv_if_eq (tgt := 142) hx hb dX8_routeOf_126 (by decide) (fun c_126 => ?_) (fun c_126 => ?_)
                · skip
                  refine lv_iload hx hb dX8_routeOf_142 (lv_at hl 6 rfl) ?_
                  refine lv_istore hx hb dX8_routeOf_144 hl (by decide) rfl (fun ls hl => ?_)
                  have hl : lv_has ls 8 [(5, _), (4, _), (7, _), (0, .ref y), (1, .int (nI i)), (2, .int x), (3, .int (zbi w)), (6, .int (nI (8 * i + j)))] := hl
                  refine lv_iinc (v := nI (8 * i + (j + 1))) hx hb dX8_routeOf_146 hl (k := 7) rfl (nI_1 (8 * i + j)) (by decide) rfl (fun ls hl => ?_)
                  have hl : lv_has ls 8 [(6, .int (nI (8 * i + (j + 1)))), (5, _), (4, _), (7, _), (0, .ref y), (1, .int (nI i)), (2, .int x), (3, .int (zbi w))] := hl
                  refine lv_goto (tgt := 53) hx hb dX8_routeOf_149 (by decide) ?_
                  exact ih_53 (j + 1) _ _ H _ ls (by omega) (by first | exact absurd rfl c_107 | exact absurd rfl c_126 | exact absurd c_107 (by decide) | exact absurd c_126 (by decide) | (rw [← hacc, zmrn, if_pos e_s]) | (rw [← hacc, zmrn, if_neg e_s])) (by omega) hw (lv_sub hl [4, 5, 6, 7, 2, 1, 0] rfl)
                · skip
                  refine lv_aload_n hx hb dX8_routeOf_129 rfl (lv_at hl 2 rfl) ?_
                  refine z_get Cx hw (T := TX8) (N := 26) (ci := 11) (fun _ h => List.mem_cons_of_mem _ (List.mem_append_right _ (h))) zM_x rfl 24 (by decide) (List.mem_of_getElem? (i := 4) rfl) rfl rfl dX8_routeOf_130 ?_
                  refine lv_iload hx hb dX8_routeOf_133 (lv_at hl 7 rfl) ?_
                  refine zm_iald Cx hw (k := 24) (n := 64) (by decide) (by omega) dX8_routeOf_135 ?_
                  refine lv_topi (fun x_135 ex_135 => ?_)
                  rw [r1] at ex_135
                  subst ex_135
                  refine lv_bipush (v := 16) hx hb dX8_routeOf_136 (by decide) ?_
                  refine lv_irem hx hb dX8_routeOf_138 (by decide) ?_
                  refine lv_goto (tgt := 144) hx hb dX8_routeOf_139 (by decide) ?_
                  refine lv_istore hx hb dX8_routeOf_144 hl (by decide) rfl (fun ls hl => ?_)
                  have hl : lv_has ls 8 [(5, _), (4, _), (7, _), (0, .ref y), (1, .int (nI i)), (2, .int x), (3, .int (zbi w)), (6, .int (nI (8 * i + j)))] := hl
                  refine lv_iinc (v := nI (8 * i + (j + 1))) hx hb dX8_routeOf_146 hl (k := 7) rfl (nI_1 (8 * i + j)) (by decide) rfl (fun ls hl => ?_)
                  have hl : lv_has ls 8 [(6, .int (nI (8 * i + (j + 1)))), (5, _), (4, _), (7, _), (0, .ref y), (1, .int (nI i)), (2, .int x), (3, .int (zbi w))] := hl
                  refine lv_goto (tgt := 53) hx hb dX8_routeOf_149 (by decide) ?_
                  exact ih_53 (j + 1) _ _ H _ ls (by omega) (by first | exact absurd rfl c_107 | exact absurd rfl c_126 | exact absurd c_107 (by decide) | exact absurd c_126 (by decide) | (rw [← hacc, zmrn, if_pos e_s]) | (rw [← hacc, zmrn, if_neg e_s])) (by omega) hw (lv_sub hl [4, 5, 6, 7, 2, 1, 0] rfl)
              · skip
                refine lv_aload_n hx hb dX8_routeOf_110 rfl (lv_at hl 1 rfl) ?_
                refine z_get Cx hw (T := TX8) (N := 26) (ci := 11) (fun _ h => List.mem_cons_of_mem _ (List.mem_append_right _ (h))) zM_x rfl 25 (by decide) (List.mem_of_getElem? (i := 5) rfl) rfl rfl dX8_routeOf_111 ?_
                refine lv_iload hx hb dX8_routeOf_114 (lv_at hl 7 rfl) ?_
                refine zm_iald Cx hw (k := 25) (n := 64) (by decide) (by omega) dX8_routeOf_116 ?_
                refine lv_topi (fun x_116 ex_116 => ?_)
                rw [r2] at ex_116
                subst ex_116
                refine lv_goto (tgt := 122) hx hb dX8_routeOf_117 (by decide) ?_
                refine lv_istore hx hb dX8_routeOf_122 hl (by decide) rfl (fun ls hl => ?_)
                have hl : lv_has ls 8 [(4, _), (7, _), (0, .ref y), (1, .int (nI i)), (2, .int x), (3, .int (zbi w)), (5, .int z0), (6, .int (nI (8 * i + j)))] := hl
                refine lv_iload hx hb dX8_routeOf_124 (lv_at hl 1 rfl) ?_
                refine lv_if_eq (tgt := 142) hx hb dX8_routeOf_126 (by decide) (fun c_126 => ?_) (fun c_126 => ?_)
                · skip
                  refine lv_iload hx hb dX8_routeOf_142 (lv_at hl 6 rfl) ?_
                  refine lv_istore hx hb dX8_routeOf_144 hl (by decide) rfl (fun ls hl => ?_)
                  have hl : lv_has ls 8 [(5, _), (4, _), (7, _), (0, .ref y), (1, .int (nI i)), (2, .int x), (3, .int (zbi w)), (6, .int (nI (8 * i + j)))] := hl
                  refine lv_iinc (v := nI (8 * i + (j + 1))) hx hb dX8_routeOf_146 hl (k := 7) rfl (nI_1 (8 * i + j)) (by decide) rfl (fun ls hl => ?_)
                  have hl : lv_has ls 8 [(6, .int (nI (8 * i + (j + 1)))), (5, _), (4, _), (7, _), (0, .ref y), (1, .int (nI i)), (2, .int x), (3, .int (zbi w))] := hl
                  refine lv_goto (tgt := 53) hx hb dX8_routeOf_149 (by decide) ?_
                  exact ih_53 (j + 1) _ _ H _ ls (by omega) (by first | exact absurd rfl c_107 | exact absurd rfl c_126 | exact absurd c_107 (by decide) | exact absurd c_126 (by decide) | (rw [← hacc, zmrn, if_pos e_s]) | (rw [← hacc, zmrn, if_neg e_s])) (by omega) hw (lv_sub hl [4, 5, 6, 7, 2, 1, 0] rfl)
                · skip
                  refine lv_aload_n hx hb dX8_routeOf_129 rfl (lv_at hl 2 rfl) ?_
                  refine z_get Cx hw (T := TX8) (N := 26) (ci := 11) (fun _ h => List.mem_cons_of_mem _ (List.mem_append_right _ (h))) zM_x rfl 24 (by decide) (List.mem_of_getElem? (i := 4) rfl) rfl rfl dX8_routeOf_130 ?_
                  refine lv_iload hx hb dX8_routeOf_133 (lv_at hl 7 rfl) ?_
                  refine zm_iald Cx hw (k := 24) (n := 64) (by decide) (by omega) dX8_routeOf_135 ?_
                  refine lv_topi (fun x_135 ex_135 => ?_)
                  rw [r1] at ex_135
                  subst ex_135
                  refine lv_bipush (v := 16) hx hb dX8_routeOf_136 (by decide) ?_
                  refine lv_irem hx hb dX8_routeOf_138 (by decide) ?_
                  refine lv_goto (tgt := 144) hx hb dX8_routeOf_139 (by decide) ?_
                  refine lv_istore hx hb dX8_routeOf_144 hl (by decide) rfl (fun ls hl => ?_)
                  have hl : lv_has ls 8 [(5, _), (4, _), (7, _), (0, .ref y), (1, .int (nI i)), (2, .int x), (3, .int (zbi w)), (6, .int (nI (8 * i + j)))] := hl
                  refine lv_iinc (v := nI (8 * i + (j + 1))) hx hb dX8_routeOf_146 hl (k := 7) rfl (nI_1 (8 * i + j)) (by decide) rfl (fun ls hl => ?_)
                  have hl : lv_has ls 8 [(6, .int (nI (8 * i + (j + 1)))), (5, _), (4, _), (7, _), (0, .ref y), (1, .int (nI i)), (2, .int x), (3, .int (zbi w))] := hl
                  refine lv_goto (tgt := 53) hx hb dX8_routeOf_149 (by decide) ?_
                  exact ih_53 (j + 1) _ _ H _ ls (by omega) (by first | exact absurd rfl c_107 | exact absurd rfl c_126 | exact absurd c_107 (by decide) | exact absurd c_126 (by decide) | (rw [← hacc, zmrn, if_pos e_s]) | (rw [← hacc, zmrn, if_neg e_s])) (by omega) hw (lv_sub hl [4, 5, 6, 7, 2, 1, 0] rfl)
            · skip
              refine lv_aload_n hx hb dX8_routeOf_83 rfl (lv_at hl 0 rfl) ?_
              refine z_get Cx hw (T := TX8) (N := 26) (ci := 11) (fun _ h => List.mem_cons_of_mem _ (List.mem_append_right _ (h))) zM_x rfl 24 (by decide) (List.mem_of_getElem? (i := 4) rfl) rfl rfl dX8_routeOf_84 ?_
              refine lv_iload hx hb dX8_routeOf_87 (lv_at hl 6 rfl) ?_
              refine zm_iald Cx hw (k := 24) (n := 64) (by decide) (by omega) dX8_routeOf_89 ?_
              refine lv_topi (fun x_89 ex_89 => ?_)
              rw [r1] at ex_89
              subst ex_89
              refine lv_bipush (v := 16) hx hb dX8_routeOf_90 (by decide) ?_
              refine lv_irem hx hb dX8_routeOf_92 (by decide) ?_
              refine lv_iload hx hb dX8_routeOf_93 (lv_at hl 5 rfl) ?_
              refine lv_icmp_ge (tgt := 102) hx hb dX8_routeOf_95 (by decide) (fun c_95 => ?_) (fun c_95 => ?_)
              · skip
                have e_s : ¬ (zmhas (zbi r.1) x = true ∧ zbi r.1 - zbi r.1 / 16 * 16 < z0) := fun h => Int32.not_lt.mpr c_95 h.2
                refine lv_iconst (v := 0) hx hb dX8_routeOf_102 (by decide) ?_
                refine lv_istore hx hb dX8_routeOf_103 hl (by decide) rfl (fun ls hl => ?_)
                have hl : lv_has ls 8 [(7, _), (0, .ref y), (1, .int (nI i)), (2, .int x), (3, .int (zbi w)), (4, .int f0), (5, .int z0), (6, .int (nI (8 * i + j)))] := hl
                refine lv_iload hx hb dX8_routeOf_105 (lv_at hl 0 rfl) ?_
                refine lv_if_eq (tgt := 120) hx hb dX8_routeOf_107 (by decide) (fun c_107 => ?_) (fun c_107 => ?_)
                · skip
                  refine lv_iload hx hb dX8_routeOf_120 (lv_at hl 5 rfl) ?_
                  refine lv_istore hx hb dX8_routeOf_122 hl (by decide) rfl (fun ls hl => ?_)
                  have hl : lv_has ls 8 [(4, _), (7, _), (0, .ref y), (1, .int (nI i)), (2, .int x), (3, .int (zbi w)), (5, .int z0), (6, .int (nI (8 * i + j)))] := hl
                  refine lv_iload hx hb dX8_routeOf_124 (lv_at hl 1 rfl) ?_
                  refine lv_if_eq (tgt := 142) hx hb dX8_routeOf_126 (by decide) (fun c_126 => ?_) (fun c_126 => ?_)
                  · skip
                    refine lv_iload hx hb dX8_routeOf_142 (lv_at hl 6 rfl) ?_
                    refine lv_istore hx hb dX8_routeOf_144 hl (by decide) rfl (fun ls hl => ?_)
                    have hl : lv_has ls 8 [(5, _), (4, _), (7, _), (0, .ref y), (1, .int (nI i)), (2, .int x), (3, .int (zbi w)), (6, .int (nI (8 * i + j)))] := hl
                    refine lv_iinc (v := nI (8 * i + (j + 1))) hx hb dX8_routeOf_146 hl (k := 7) rfl (nI_1 (8 * i + j)) (by decide) rfl (fun ls hl => ?_)
                    have hl : lv_has ls 8 [(6, .int (nI (8 * i + (j + 1)))), (5, _), (4, _), (7, _), (0, .ref y), (1, .int (nI i)), (2, .int x), (3, .int (zbi w))] := hl
                    refine lv_goto (tgt := 53) hx hb dX8_routeOf_149 (by decide) ?_
                    exact ih_53 (j + 1) _ _ H _ ls (by omega) (by first | exact absurd rfl c_107 | exact absurd rfl c_126 | exact absurd c_107 (by decide) | exact absurd c_126 (by decide) | (rw [← hacc, zmrn, if_pos e_s]) | (rw [← hacc, zmrn, if_neg e_s])) (by omega) hw (lv_sub hl [4, 5, 6, 7, 2, 1, 0] rfl)
                  · skip
                    refine lv_aload_n hx hb dX8_routeOf_129 rfl (lv_at hl 2 rfl) ?_
                    refine z_get Cx hw (T := TX8) (N := 26) (ci := 11) (fun _ h => List.mem_cons_of_mem _ (List.mem_append_right _ (h))) zM_x rfl 24 (by decide) (List.mem_of_getElem? (i := 4) rfl) rfl rfl dX8_routeOf_130 ?_
                    refine lv_iload hx hb dX8_routeOf_133 (lv_at hl 7 rfl) ?_
                    refine zm_iald Cx hw (k := 24) (n := 64) (by decide) (by omega) dX8_routeOf_135 ?_
                    refine lv_topi (fun x_135 ex_135 => ?_)
                    rw [r1] at ex_135
                    subst ex_135
                    refine lv_bipush (v := 16) hx hb dX8_routeOf_136 (by decide) ?_
                    refine lv_irem hx hb dX8_routeOf_138 (by decide) ?_
                    refine lv_goto (tgt := 144) hx hb dX8_routeOf_139 (by decide) ?_
                    refine lv_istore hx hb dX8_routeOf_144 hl (by decide) rfl (fun ls hl => ?_)
                    have hl : lv_has ls 8 [(5, _), (4, _), (7, _), (0, .ref y), (1, .int (nI i)), (2, .int x), (3, .int (zbi w)), (6, .int (nI (8 * i + j)))] := hl
                    refine lv_iinc (v := nI (8 * i + (j + 1))) hx hb dX8_routeOf_146 hl (k := 7) rfl (nI_1 (8 * i + j)) (by decide) rfl (fun ls hl => ?_)
                    have hl : lv_has ls 8 [(6, .int (nI (8 * i + (j + 1)))), (5, _), (4, _), (7, _), (0, .ref y), (1, .int (nI i)), (2, .int x), (3, .int (zbi w))] := hl
                    refine lv_goto (tgt := 53) hx hb dX8_routeOf_149 (by decide) ?_
                    exact ih_53 (j + 1) _ _ H _ ls (by omega) (by first | exact absurd rfl c_107 | exact absurd rfl c_126 | exact absurd c_107 (by decide) | exact absurd c_126 (by decide) | (rw [← hacc, zmrn, if_pos e_s]) | (rw [← hacc, zmrn, if_neg e_s])) (by omega) hw (lv_sub hl [4, 5, 6, 7, 2, 1, 0] rfl)
                · skip
                  refine lv_aload_n hx hb dX8_routeOf_110 rfl (lv_at hl 1 rfl) ?_
                  refine z_get Cx hw (T := TX8) (N := 26) (ci := 11) (fun _ h => List.mem_cons_of_mem _ (List.mem_append_right _ (h))) zM_x rfl 25 (by decide) (List.mem_of_getElem? (i := 5) rfl) rfl rfl dX8_routeOf_111 ?_
                  refine lv_iload hx hb dX8_routeOf_114 (lv_at hl 7 rfl) ?_
                  refine zm_iald Cx hw (k := 25) (n := 64) (by decide) (by omega) dX8_routeOf_116 ?_
                  refine lv_topi (fun x_116 ex_116 => ?_)
                  rw [r2] at ex_116
                  subst ex_116
                  refine lv_goto (tgt := 122) hx hb dX8_routeOf_117 (by decide) ?_
                  refine lv_istore hx hb dX8_routeOf_122 hl (by decide) rfl (fun ls hl => ?_)
                  have hl : lv_has ls 8 [(4, _), (7, _), (0, .ref y), (1, .int (nI i)), (2, .int x), (3, .int (zbi w)), (5, .int z0), (6, .int (nI (8 * i + j)))] := hl
                  refine lv_iload hx hb dX8_routeOf_124 (lv_at hl 1 rfl) ?_
                  refine lv_if_eq (tgt := 142) hx hb dX8_routeOf_126 (by decide) (fun c_126 => ?_) (fun c_126 => ?_)
                  · skip
                    refine lv_iload hx hb dX8_routeOf_142 (lv_at hl 6 rfl) ?_
                    refine lv_istore hx hb dX8_routeOf_144 hl (by decide) rfl (fun ls hl => ?_)
                    have hl : lv_has ls 8 [(5, _), (4, _), (7, _), (0, .ref y), (1, .int (nI i)), (2, .int x), (3, .int (zbi w)), (6, .int (nI (8 * i + j)))] := hl
                    refine lv_iinc (v := nI (8 * i + (j + 1))) hx hb dX8_routeOf_146 hl (k := 7) rfl (nI_1 (8 * i + j)) (by decide) rfl (fun ls hl => ?_)
                    have hl : lv_has ls 8 [(6, .int (nI (8 * i + (j + 1)))), (5, _), (4, _), (7, _), (0, .ref y), (1, .int (nI i)), (2, .int x), (3, .int (zbi w))] := hl
                    refine lv_goto (tgt := 53) hx hb dX8_routeOf_149 (by decide) ?_
                    exact ih_53 (j + 1) _ _ H _ ls (by omega) (by first | exact absurd rfl c_107 | exact absurd rfl c_126 | exact absurd c_107 (by decide) | exact absurd c_126 (by decide) | (rw [← hacc, zmrn, if_pos e_s]) | (rw [← hacc, zmrn, if_neg e_s])) (by omega) hw (lv_sub hl [4, 5, 6, 7, 2, 1, 0] rfl)
                  · skip
                    refine lv_aload_n hx hb dX8_routeOf_129 rfl (lv_at hl 2 rfl) ?_
                    refine z_get Cx hw (T := TX8) (N := 26) (ci := 11) (fun _ h => List.mem_cons_of_mem _ (List.mem_append_right _ (h))) zM_x rfl 24 (by decide) (List.mem_of_getElem? (i := 4) rfl) rfl rfl dX8_routeOf_130 ?_
                    refine lv_iload hx hb dX8_routeOf_133 (lv_at hl 7 rfl) ?_
                    refine zm_iald Cx hw (k := 24) (n := 64) (by decide) (by omega) dX8_routeOf_135 ?_
                    refine lv_topi (fun x_135 ex_135 => ?_)
                    rw [r1] at ex_135
                    subst ex_135
                    refine lv_bipush (v := 16) hx hb dX8_routeOf_136 (by decide) ?_
                    refine lv_irem hx hb dX8_routeOf_138 (by decide) ?_
                    refine lv_goto (tgt := 144) hx hb dX8_routeOf_139 (by decide) ?_
                    refine lv_istore hx hb dX8_routeOf_144 hl (by decide) rfl (fun ls hl => ?_)
                    have hl : lv_has ls 8 [(5, _), (4, _), (7, _), (0, .ref y), (1, .int (nI i)), (2, .int x), (3, .int (zbi w)), (6, .int (nI (8 * i + j)))] := hl
                    refine lv_iinc (v := nI (8 * i + (j + 1))) hx hb dX8_routeOf_146 hl (k := 7) rfl (nI_1 (8 * i + j)) (by decide) rfl (fun ls hl => ?_)
                    have hl : lv_has ls 8 [(6, .int (nI (8 * i + (j + 1)))), (5, _), (4, _), (7, _), (0, .ref y), (1, .int (nI i)), (2, .int x), (3, .int (zbi w))] := hl
                    refine lv_goto (tgt := 53) hx hb dX8_routeOf_149 (by decide) ?_
                    exact ih_53 (j + 1) _ _ H _ ls (by omega) (by first | exact absurd rfl c_107 | exact absurd rfl c_126 | exact absurd c_107 (by decide) | exact absurd c_126 (by decide) | (rw [← hacc, zmrn, if_pos e_s]) | (rw [← hacc, zmrn, if_neg e_s])) (by omega) hw (lv_sub hl [4, 5, 6, 7, 2, 1, 0] rfl)
              · skip
                have e_s : (zmhas (zbi r.1) x = true ∧ zbi r.1 - zbi r.1 / 16 * 16 < z0) := ⟨(zb_1 _).mp c_80, Int32.not_le.mp c_95⟩
                refine lv_iconst (v := 1) hx hb dX8_routeOf_98 (by decide) ?_
                refine lv_goto (tgt := 103) hx hb dX8_routeOf_99 (by decide) ?_
                refine lv_istore hx hb dX8_routeOf_103 hl (by decide) rfl (fun ls hl => ?_)
                have hl : lv_has ls 8 [(7, _), (0, .ref y), (1, .int (nI i)), (2, .int x), (3, .int (zbi w)), (4, .int f0), (5, .int z0), (6, .int (nI (8 * i + j)))] := hl
                refine lv_iload hx hb dX8_routeOf_105 (lv_at hl 0 rfl) ?_
                refine lv_if_eq (tgt := 120) hx hb dX8_routeOf_107 (by decide) (fun c_107 => ?_) (fun c_107 => ?_)
                · skip
                  refine lv_iload hx hb dX8_routeOf_120 (lv_at hl 5 rfl) ?_
                  refine lv_istore hx hb dX8_routeOf_122 hl (by decide) rfl (fun ls hl => ?_)
                  have hl : lv_has ls 8 [(4, _), (7, _), (0, .ref y), (1, .int (nI i)), (2, .int x), (3, .int (zbi w)), (5, .int z0), (6, .int (nI (8 * i + j)))] := hl
                  refine lv_iload hx hb dX8_routeOf_124 (lv_at hl 1 rfl) ?_
                  refine lv_if_eq (tgt := 142) hx hb dX8_routeOf_126 (by decide) (fun c_126 => ?_) (fun c_126 => ?_)
                  · skip
                    refine lv_iload hx hb dX8_routeOf_142 (lv_at hl 6 rfl) ?_
                    refine lv_istore hx hb dX8_routeOf_144 hl (by decide) rfl (fun ls hl => ?_)
                    have hl : lv_has ls 8 [(5, _), (4, _), (7, _), (0, .ref y), (1, .int (nI i)), (2, .int x), (3, .int (zbi w)), (6, .int (nI (8 * i + j)))] := hl
                    refine lv_iinc (v := nI (8 * i + (j + 1))) hx hb dX8_routeOf_146 hl (k := 7) rfl (nI_1 (8 * i + j)) (by decide) rfl (fun ls hl => ?_)
                    have hl : lv_has ls 8 [(6, .int (nI (8 * i + (j + 1)))), (5, _), (4, _), (7, _), (0, .ref y), (1, .int (nI i)), (2, .int x), (3, .int (zbi w))] := hl
                    refine lv_goto (tgt := 53) hx hb dX8_routeOf_149 (by decide) ?_
                    exact ih_53 (j + 1) _ _ H _ ls (by omega) (by first | exact absurd rfl c_107 | exact absurd rfl c_126 | exact absurd c_107 (by decide) | exact absurd c_126 (by decide) | (rw [← hacc, zmrn, if_pos e_s]) | (rw [← hacc, zmrn, if_neg e_s])) (by omega) hw (lv_sub hl [4, 5, 6, 7, 2, 1, 0] rfl)
                  · skip
                    refine lv_aload_n hx hb dX8_routeOf_129 rfl (lv_at hl 2 rfl) ?_
                    refine z_get Cx hw (T := TX8) (N := 26) (ci := 11) (fun _ h => List.mem_cons_of_mem _ (List.mem_append_right _ (h))) zM_x rfl 24 (by decide) (List.mem_of_getElem? (i := 4) rfl) rfl rfl dX8_routeOf_130 ?_
                    refine lv_iload hx hb dX8_routeOf_133 (lv_at hl 7 rfl) ?_
                    refine zm_iald Cx hw (k := 24) (n := 64) (by decide) (by omega) dX8_routeOf_135 ?_
                    refine lv_topi (fun x_135 ex_135 => ?_)
                    rw [r1] at ex_135
                    subst ex_135
                    refine lv_bipush (v := 16) hx hb dX8_routeOf_136 (by decide) ?_
                    refine lv_irem hx hb dX8_routeOf_138 (by decide) ?_
                    refine lv_goto (tgt := 144) hx hb dX8_routeOf_139 (by decide) ?_
                    refine lv_istore hx hb dX8_routeOf_144 hl (by decide) rfl (fun ls hl => ?_)
                    have hl : lv_has ls 8 [(5, _), (4, _), (7, _), (0, .ref y), (1, .int (nI i)), (2, .int x), (3, .int (zbi w)), (6, .int (nI (8 * i + j)))] := hl
                    refine lv_iinc (v := nI (8 * i + (j + 1))) hx hb dX8_routeOf_146 hl (k := 7) rfl (nI_1 (8 * i + j)) (by decide) rfl (fun ls hl => ?_)
                    have hl : lv_has ls 8 [(6, .int (nI (8 * i + (j + 1)))), (5, _), (4, _), (7, _), (0, .ref y), (1, .int (nI i)), (2, .int x), (3, .int (zbi w))] := hl
                    refine lv_goto (tgt := 53) hx hb dX8_routeOf_149 (by decide) ?_
                    exact ih_53 (j + 1) _ _ H _ ls (by omega) (by first | exact absurd rfl c_107 | exact absurd rfl c_126 | exact absurd c_107 (by decide) | exact absurd c_126 (by decide) | (rw [← hacc, zmrn, if_pos e_s]) | (rw [← hacc, zmrn, if_neg e_s])) (by omega) hw (lv_sub hl [4, 5, 6, 7, 2, 1, 0] rfl)
                · skip
                  refine lv_aload_n hx hb dX8_routeOf_110 rfl (lv_at hl 1 rfl) ?_
                  refine z_get Cx hw (T := TX8) (N := 26) (ci := 11) (fun _ h => List.mem_cons_of_mem _ (List.mem_append_right _ (h))) zM_x rfl 25 (by decide) (List.mem_of_getElem? (i := 5) rfl) rfl rfl dX8_routeOf_111 ?_
                  refine lv_iload hx hb dX8_routeOf_114 (lv_at hl 7 rfl) ?_
                  refine zm_iald Cx hw (k := 25) (n := 64) (by decide) (by omega) dX8_routeOf_116 ?_
                  refine lv_topi (fun x_116 ex_116 => ?_)
                  rw [r2] at ex_116
                  subst ex_116
                  refine lv_goto (tgt := 122) hx hb dX8_routeOf_117 (by decide) ?_
                  refine lv_istore hx hb dX8_routeOf_122 hl (by decide) rfl (fun ls hl => ?_)
                  have hl : lv_has ls 8 [(4, _), (7, _), (0, .ref y), (1, .int (nI i)), (2, .int x), (3, .int (zbi w)), (5, .int z0), (6, .int (nI (8 * i + j)))] := hl
                  refine lv_iload hx hb dX8_routeOf_124 (lv_at hl 1 rfl) ?_
                  refine lv_if_eq (tgt := 142) hx hb dX8_routeOf_126 (by decide) (fun c_126 => ?_) (fun c_126 => ?_)
                  · skip
                    refine lv_iload hx hb dX8_routeOf_142 (lv_at hl 6 rfl) ?_
                    refine lv_istore hx hb dX8_routeOf_144 hl (by decide) rfl (fun ls hl => ?_)
                    have hl : lv_has ls 8 [(5, _), (4, _), (7, _), (0, .ref y), (1, .int (nI i)), (2, .int x), (3, .int (zbi w)), (6, .int (nI (8 * i + j)))] := hl
                    refine lv_iinc (v := nI (8 * i + (j + 1))) hx hb dX8_routeOf_146 hl (k := 7) rfl (nI_1 (8 * i + j)) (by decide) rfl (fun ls hl => ?_)
                    have hl : lv_has ls 8 [(6, .int (nI (8 * i + (j + 1)))), (5, _), (4, _), (7, _), (0, .ref y), (1, .int (nI i)), (2, .int x), (3, .int (zbi w))] := hl
                    refine lv_goto (tgt := 53) hx hb dX8_routeOf_149 (by decide) ?_
                    exact ih_53 (j + 1) _ _ H _ ls (by omega) (by first | exact absurd rfl c_107 | exact absurd rfl c_126 | exact absurd c_107 (by decide) | exact absurd c_126 (by decide) | (rw [← hacc, zmrn, if_pos e_s]) | (rw [← hacc, zmrn, if_neg e_s])) (by omega) hw (lv_sub hl [4, 5, 6, 7, 2, 1, 0] rfl)
                  · skip
                    refine lv_aload_n hx hb dX8_routeOf_129 rfl (lv_at hl 2 rfl) ?_
                    refine z_get Cx hw (T := TX8) (N := 26) (ci := 11) (fun _ h => List.mem_cons_of_mem _ (List.mem_append_right _ (h))) zM_x rfl 24 (by decide) (List.mem_of_getElem? (i := 4) rfl) rfl rfl dX8_routeOf_130 ?_
                    refine lv_iload hx hb dX8_routeOf_133 (lv_at hl 7 rfl) ?_
                    refine zm_iald Cx hw (k := 24) (n := 64) (by decide) (by omega) dX8_routeOf_135 ?_
                    refine lv_topi (fun x_135 ex_135 => ?_)
                    rw [r1] at ex_135
                    subst ex_135
                    refine lv_bipush (v := 16) hx hb dX8_routeOf_136 (by decide) ?_
                    refine lv_irem hx hb dX8_routeOf_138 (by decide) ?_
                    refine lv_goto (tgt := 144) hx hb dX8_routeOf_139 (by decide) ?_
                    refine lv_istore hx hb dX8_routeOf_144 hl (by decide) rfl (fun ls hl => ?_)
                    have hl : lv_has ls 8 [(5, _), (4, _), (7, _), (0, .ref y), (1, .int (nI i)), (2, .int x), (3, .int (zbi w)), (6, .int (nI (8 * i + j)))] := hl
                    refine lv_iinc (v := nI (8 * i + (j + 1))) hx hb dX8_routeOf_146 hl (k := 7) rfl (nI_1 (8 * i + j)) (by decide) rfl (fun ls hl => ?_)
                    have hl : lv_has ls 8 [(6, .int (nI (8 * i + (j + 1)))), (5, _), (4, _), (7, _), (0, .ref y), (1, .int (nI i)), (2, .int x), (3, .int (zbi w))] := hl
                    refine lv_goto (tgt := 53) hx hb dX8_routeOf_149 (by decide) ?_
                    exact ih_53 (j + 1) _ _ H _ ls (by omega) (by first | exact absurd rfl c_107 | exact absurd rfl c_126 | exact absurd c_107 (by decide) | exact absurd c_126 (by decide) | (rw [← hacc, zmrn, if_pos e_s]) | (rw [← hacc, zmrn, if_neg e_s])) (by omega) hw (lv_sub hl [4, 5, 6, 7, 2, 1, 0] rfl)
      exact loop_53 ((v.2.2.2.length - 0) + 1) 0 _ _ _ _ ls (Nat.zero_le _) (by rw [e_f, e_z]; rfl) (Nat.lt_succ_self _) hw (lv_sub hl [4, 5, 6, 3, 2, 1, 0] rfl)

