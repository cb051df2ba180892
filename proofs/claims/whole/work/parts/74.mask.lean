set_option maxRecDepth 100000 in
set_option maxHeartbeats 4000000 in
/-- byList -/
theorem c_X8_byList (E : zG) (l : Launch) (X : va_W) (C : zLs) (y : Nat) (ad : Nat → Nat) (sc : Nat → Int32) (g : Nat → Nat → Int32) (V : zCl) (hW : zMS sc g V) (i : Nat) (v : zSb) (hv : (vS V)[i]? = some v) (inw x : Int32) : Met l yX8_byList wsX8_byList (zR 2 0 0) (zPre E [.ref y, .int (nI i), .int inw, .int x] (zQ E (X ++ zMw E y ad sc g) C)) (zRi E (zQ E (X ++ zMw E y ad sc g) C) (zmlp inw x v.2.2.1 65535 0 0)) 0 0 (eA E) := by
  refine z_of (cc := cX8_byList) (maxL := 9) (ret := (some .int)) (by decide) rfl rfl (Nat.le_of_ble_eq_true rfl) ?_
  intro p e s m below meth c ls Cx hr hnm hw hl
  have hx := Cx.1.1
  have hb := Cx.1.2.1
  obtain ⟨-, hm, hW⟩ := hW
  have hi8 : i < 8 := by
    have := (List.getElem?_eq_some_iff.mp hv).1
    omega
  obtain ⟨-, -, ⟨hsz, hle, hru⟩, -⟩ := hW i v hv
  have hl : lv_has ls 9 [(0, .ref y), (1, .int (nI i)), (2, .int inw), (3, .int x)] := hl
  refine lv_iconst (v := 0) hx hb dX8_byList_0 (by decide) ?_
  refine lv_istore hx hb dX8_byList_1 hl (by decide) rfl (fun ls hl => ?_)
  have hl : lv_has ls 9 [(4, .int 0), (0, .ref y), (1, .int (nI i)), (2, .int inw), (3, .int x)] := hl
  refine lv_ldc hx hb Cx.1.2.2.2.1 (Cx.1.2.2.2.2 (Cond.constant RX8 131 (65535)) (List.mem_of_getElem? (i := 1) rfl)) dX8_byList_3 ?_
  refine lv_istore hx hb dX8_byList_5 hl (by decide) rfl (fun ls hl => ?_)
  have hl : lv_has ls 9 [(5, .int 65535), (4, .int 0), (0, .ref y), (1, .int (nI i)), (2, .int inw), (3, .int x)] := hl
  refine lv_iconst (v := 0) hx hb dX8_byList_7 (by decide) ?_
  refine lv_istore hx hb dX8_byList_8 hl (by decide) rfl (fun ls hl => ?_)
  have hl : lv_has ls 9 [(6, .int 0), (5, .int 65535), (4, .int 0), (0, .ref y), (1, .int (nI i)), (2, .int inw), (3, .int x)] := hl
  refine lv_bipush (v := nI 12) hx hb dX8_byList_10 rfl ?_
  refine lv_iload_n hx hb dX8_byList_12 rfl (lv_at hl 4 rfl) ?_
  refine lv_imul hx hb dX8_byList_13 ?_
  refine lv_topi (fun x_13 ex_13 => ?_)
  rw [zi_mul] at ex_13
  subst ex_13
  refine lv_istore hx hb dX8_byList_14 hl (by decide) rfl (fun ls hl => ?_)
  have hl : lv_has ls 9 [(7, .int (nI (12 * i))), (6, .int 0), (5, .int 65535), (4, .int 0), (0, .ref y), (1, .int (nI i)), (2, .int inw), (3, .int x)] := hl
  have loop_16 : ∀ (nn : Nat) (j : Nat) (o k0 st : Int32) (H : Heap) (locs : List Loc) (ls : Array Slot), (j ≤ v.2.2.1.length) → (zmlp inw x (v.2.2.1.drop j) o k0 st = zmlp inw x v.2.2.1 65535 0 0) → v.2.2.1.length - j < nn → zHw E (zQ E (X ++ zMw E y ad sc g) C) s H locs → lv_has ls 9 [(0, .ref y), (1, .int (nI i)), (2, .int inw), (3, .int x), (4, .int st), (5, .int o), (6, .int k0), (7, .int (nI (12 * i + j)))] → W p l e (zR 2 0 0) s m ([.ref y, .int (nI i), .int inw, .int x] : List Value).toArray below meth c H locs 0 0 (MQ below (zRi E (zQ E (X ++ zMw E y ad sc g) C) (zmlp inw x v.2.2.1 65535 0 0)) ([.ref y, .int (nI i), .int inw, .int x] : List Value).toArray s 0 0 (eA E)) (F0 m 16 ls []) := by
    intro nn
    induction nn with
    | zero => intro j o k0 st H locs ls hj hacc hm; exact absurd hm (Nat.not_lt_zero _)
    | succ nn ih_16 =>
      intro j o k0 st H locs ls hj hacc hm hw hl
      refine lv_iload hx hb dX8_byList_16 (lv_at hl 7 rfl) ?_
      refine lv_bipush (v := nI 12) hx hb dX8_byList_18 rfl ?_
      refine lv_iload_n hx hb dX8_byList_20 rfl (lv_at hl 1 rfl) ?_
      refine lv_imul hx hb dX8_byList_21 ?_
      refine lv_topi (fun x_21 ex_21 => ?_)
      rw [zi_mul] at ex_21
      subst ex_21
      refine lv_aload_n hx hb dX8_byList_22 rfl (lv_at hl 0 rfl) ?_
      refine z_get Cx hw (T := TX8) (N := 26) (ci := 11) (fun _ h => List.mem_cons_of_mem _ (List.mem_append_right _ (h))) zM_x rfl 18 (by decide) (List.mem_of_getElem? (i := 2) rfl) rfl rfl dX8_byList_23 ?_
      refine lv_iload_n hx hb dX8_byList_26 rfl (lv_at hl 1 rfl) ?_
      refine zm_iald Cx hw (k := 18) (n := 8) (by decide) hi8 dX8_byList_27 ?_
      refine lv_iadd hx hb dX8_byList_28 ?_
      refine lv_topi (fun x_28 ex_28 => ?_)
      rw [hsz, nI_add] at ex_28
      subst ex_28
      refine lv_icmp_ge (tgt := 132) hx hb dX8_byList_29 (by decide) (fun c_29 => ?_) (fun c_29 => ?_)
      · skip
        have hjl : v.2.2.1.length ≤ j := by
          have := (nI_leI (by omega) (by omega)).mp c_29
          omega
        rw [List.drop_of_length_le hjl, zmlp] at hacc
        refine lv_iload hx hb dX8_byList_132 (lv_at hl 6 rfl) ?_
        refine lv_if_eq (tgt := 142) hx hb dX8_byList_134 (by decide) (fun c_134 => ?_) (fun c_134 => ?_)
        · skip
          refine lv_ldc hx hb Cx.1.2.2.2.1 (Cx.1.2.2.2.2 (Cond.constant RX8 131 (65535)) (List.mem_of_getElem? (i := 1) rfl)) dX8_byList_142 ?_
          exact (z_ie Cx hr rfl (Nat.le_of_ble_eq_true rfl) (Nat.le_of_ble_eq_true rfl) hw dX8_byList_144 (by rw [← hacc]; first | rw [if_pos c_134] | rw [if_neg c_134]))
        · skip
          refine lv_iload hx hb dX8_byList_137 (lv_at hl 4 rfl) ?_
          refine lv_goto (tgt := 144) hx hb dX8_byList_139 (by decide) ?_
          exact (z_ie Cx hr rfl (Nat.le_of_ble_eq_true rfl) (Nat.le_of_ble_eq_true rfl) hw dX8_byList_144 (by rw [← hacc]; first | rw [if_pos c_134] | rw [if_neg c_134]))
      · skip
        have hjl : j < v.2.2.1.length := by
          rcases Nat.lt_or_ge j v.2.2.1.length with h | h
          · exact h
          · exact absurd (nI_le (by omega) (by omega)) c_29
        have hr0 := List.getElem?_eq_getElem hjl
        rw [List.drop_eq_getElem_cons hjl] at hacc
        generalize v.2.2.1[j] = r at hr0 hacc
        obtain ⟨r1, r2, r3, r4⟩ := hru j r hr0
        refine lv_iload hx hb dX8_byList_32 (lv_at hl 6 rfl) ?_
        refine lv_if_ne (tgt := 48) hx hb dX8_byList_34 (by decide) (fun c_34 => ?_) (fun c_34 => ?_)
        · skip
          have e_k : (if k0 = 0 then zb (decide (r.1 = inw)) else (1 : Int32)) = 1 := if_neg c_34
          refine lv_iconst (v := 1) hx hb dX8_byList_48 (by decide) ?_
          refine lv_goto (tgt := 53) hx hb dX8_byList_49 (by decide) ?_
          refine lv_istore hx hb dX8_byList_53 hl (by decide) rfl (fun ls hl => ?_)
          have hl : lv_has ls 9 [(6, _), (0, .ref y), (1, .int (nI i)), (2, .int inw), (3, .int x), (4, .int st), (5, .int o), (7, .int (nI (12 * i + j)))] := hl
          refine lv_aload_n hx hb dX8_byList_55 rfl (lv_at hl 1 rfl) ?_
          refine z_get Cx hw (T := TX8) (N := 26) (ci := 11) (fun _ h => List.mem_cons_of_mem _ (List.mem_append_right _ (h))) zM_x rfl 19 (by decide) (List.mem_of_getElem? (i := 3) rfl) rfl rfl dX8_byList_56 ?_
          refine lv_iload hx hb dX8_byList_59 (lv_at hl 7 rfl) ?_
          refine zm_zald Cx hw (k := 19) (n := 96) (by decide) (by omega) dX8_byList_61 ?_
          refine lv_topi (fun x_61 ex_61 => ?_)
          rw [r1] at ex_61
          subst ex_61
          refine lv_iload_n hx hb dX8_byList_62 rfl (lv_at hl 3 rfl) ?_
          refine lv_icmp_ne (tgt := 93) hx hb dX8_byList_63 (by decide) (fun c_63 => ?_) (fun c_63 => ?_)
          · skip
            have e_i : (if zmRHas r inw x = true then o &&& r.2.2.2 else 0) = 0 := if_neg (by unfold zmRHas; rw [decide_eq_false c_63]; exact fun h => by cases h)
            refine lv_iconst (v := 0) hx hb dX8_byList_93 (by decide) ?_
            refine lv_istore hx hb dX8_byList_94 hl (by decide) rfl (fun ls hl => ?_)
            have hl : lv_has ls 9 [(8, _), (6, _), (0, .ref y), (1, .int (nI i)), (2, .int inw), (3, .int x), (4, .int st), (5, .int o), (7, .int (nI (12 * i + j)))] := hl
            refine lv_iload hx hb dX8_byList_96 (lv_at hl 6 rfl) ?_
            refine lv_aload_n hx hb dX8_byList_98 rfl (lv_at hl 2 rfl) ?_
            refine z_get Cx hw (T := TX8) (N := 26) (ci := 11) (fun _ h => List.mem_cons_of_mem _ (List.mem_append_right _ (h))) zM_x rfl 20 (by decide) (List.mem_of_getElem? (i := 6) rfl) rfl rfl dX8_byList_99 ?_
            refine lv_iload hx hb dX8_byList_102 (lv_at hl 8 rfl) ?_
            refine zm_zald Cx hw (k := 20) (n := 96) (by decide) (by omega) dX8_byList_104 ?_
            refine lv_topi (fun x_104 ex_104 => ?_)
            rw [r2] at ex_104
            subst ex_104
            refine lv_if_eq (tgt := 113) hx hb dX8_byList_105 (by decide) (fun c_105 => ?_) (fun c_105 => ?_)
            · skip
              refine lv_iconst (v := 0) hx hb dX8_byList_113 (by decide) ?_
              refine lv_ior hx hb dX8_byList_114 ?_
              refine lv_istore hx hb dX8_byList_115 hl (by decide) rfl (fun ls hl => ?_)
              have hl : lv_has ls 9 [(4, _), (8, _), (6, _), (0, .ref y), (1, .int (nI i)), (2, .int inw), (3, .int x), (5, .int o), (7, .int (nI (12 * i + j)))] := hl
              refine lv_iload hx hb dX8_byList_117 (lv_at hl 7 rfl) ?_
              refine lv_iload hx hb dX8_byList_119 (lv_at hl 1 rfl) ?_
              refine lv_iconst (v := -1) hx hb dX8_byList_121 (by decide) ?_
              refine lv_ixor hx hb dX8_byList_122 ?_
              refine lv_iand hx hb dX8_byList_123 ?_
              refine lv_istore hx hb dX8_byList_124 hl (by decide) rfl (fun ls hl => ?_)
              have hl : lv_has ls 9 [(5, _), (4, _), (8, _), (6, _), (0, .ref y), (1, .int (nI i)), (2, .int inw), (3, .int x), (7, .int (nI (12 * i + j)))] := hl
              refine lv_iinc (v := nI (12 * i + (j + 1))) hx hb dX8_byList_126 hl (k := 8) rfl (nI_1 (12 * i + j)) (by decide) rfl (fun ls hl => ?_)
              have hl : lv_has ls 9 [(7, .int (nI (12 * i + (j + 1)))), (5, _), (4, _), (8, _), (6, _), (0, .ref y), (1, .int (nI i)), (2, .int inw), (3, .int x)] := hl
              refine lv_goto (tgt := 16) hx hb dX8_byList_129 (by decide) ?_
              exact ih_16 (j + 1) _ _ _ H _ ls (by omega) (by rw [← hacc, zmlp, e_k, e_i]; first | rw [if_pos c_105] | rw [if_neg c_105]) (by omega) hw (lv_sub hl [5, 6, 7, 8, 2, 1, 4, 0] rfl)
            · skip
              refine lv_iload hx hb dX8_byList_108 (lv_at hl 0 rfl) ?_
              refine lv_goto (tgt := 114) hx hb dX8_byList_110 (by decide) ?_
              refine lv_ior hx hb dX8_byList_114 ?_
              refine lv_istore hx hb dX8_byList_115 hl (by decide) rfl (fun ls hl => ?_)
              have hl : lv_has ls 9 [(4, _), (8, _), (6, _), (0, .ref y), (1, .int (nI i)), (2, .int inw), (3, .int x), (5, .int o), (7, .int (nI (12 * i + j)))] := hl
              refine lv_iload hx hb dX8_byList_117 (lv_at hl 7 rfl) ?_
              refine lv_iload hx hb dX8_byList_119 (lv_at hl 1 rfl) ?_
              refine lv_iconst (v := -1) hx hb dX8_byList_121 (by decide) ?_
              refine lv_ixor hx hb dX8_byList_122 ?_
              refine lv_iand hx hb dX8_byList_123 ?_
              refine lv_istore hx hb dX8_byList_124 hl (by decide) rfl (fun ls hl => ?_)
              have hl : lv_has ls 9 [(5, _), (4, _), (8, _), (6, _), (0, .ref y), (1, .int (nI i)), (2, .int inw), (3, .int x), (7, .int (nI (12 * i + j)))] := hl
              refine lv_iinc (v := nI (12 * i + (j + 1))) hx hb dX8_byList_126 hl (k := 8) rfl (nI_1 (12 * i + j)) (by decide) rfl (fun ls hl => ?_)
              have hl : lv_has ls 9 [(7, .int (nI (12 * i + (j + 1)))), (5, _), (4, _), (8, _), (6, _), (0, .ref y), (1, .int (nI i)), (2, .int inw), (3, .int x)] := hl
              refine lv_goto (tgt := 16) hx hb dX8_byList_129 (by decide) ?_
              exact ih_16 (j + 1) _ _ _ H _ ls (by omega) (by rw [← hacc, zmlp, e_k, e_i]; first | rw [if_pos c_105] | rw [if_neg c_105]) (by omega) hw (lv_sub hl [5, 6, 7, 8, 2, 1, 4, 0] rfl)
          · skip
            refine lv_aload_n hx hb dX8_byList_66 rfl (lv_at hl 1 rfl) ?_
            refine z_get Cx hw (T := TX8) (N := 26) (ci := 11) (fun _ h => List.mem_cons_of_mem _ (List.mem_append_right _ (h))) zM_x rfl 21 (by decide) (List.mem_of_getElem? (i := 4) rfl) rfl rfl dX8_byList_67 ?_
            refine lv_iload hx hb dX8_byList_70 (lv_at hl 7 rfl) ?_
            refine zm_iald Cx hw (k := 21) (n := 96) (by decide) (by omega) dX8_byList_72 ?_
            refine lv_topi (fun x_72 ex_72 => ?_)
            rw [r3] at ex_72
            subst ex_72
            refine lv_iload_n hx hb dX8_byList_73 rfl (lv_at hl 4 rfl) ?_
            refine z_goe hw.2 (z_runS Cx hw (c_X8_has E l _ (zbi r.2.2.1) x) (va_cwS 2 Cx.1.2.2.2.2 gX8_byList_X8_has rfl rfl rfl (by decide +kernel) ⟨Nat.le_of_ble_eq_true rfl, Nat.le_of_ble_eq_true rfl⟩)  rfl hl.1 rfl (Nat.le_of_ble_eq_true rfl) dX8_byList_74 ⟨Nat.le_of_ble_eq_true rfl, Nat.le_of_ble_eq_true rfl⟩) (fun H locs hw => ?_)
            refine lv_if_eq (tgt := 93) hx hb dX8_byList_77 (by decide) (fun c_77 => ?_) (fun c_77 => ?_)
            · skip
              have e_i : (if zmRHas r inw x = true then o &&& r.2.2.2 else 0) = 0 := if_neg (by unfold zmRHas; rw [(zb_0 _).mp c_77, Bool.and_false]; decide)
              refine lv_iconst (v := 0) hx hb dX8_byList_93 (by decide) ?_
              refine lv_istore hx hb dX8_byList_94 hl (by decide) rfl (fun ls hl => ?_)
              have hl : lv_has ls 9 [(8, _), (6, _), (0, .ref y), (1, .int (nI i)), (2, .int inw), (3, .int x), (4, .int st), (5, .int o), (7, .int (nI (12 * i + j)))] := hl
              refine lv_iload hx hb dX8_byList_96 (lv_at hl 6 rfl) ?_
              refine lv_aload_n hx hb dX8_byList_98 rfl (lv_at hl 2 rfl) ?_
              refine z_get Cx hw (T := TX8) (N := 26) (ci := 11) (fun _ h => List.mem_cons_of_mem _ (List.mem_append_right _ (h))) zM_x rfl 20 (by decide) (List.mem_of_getElem? (i := 6) rfl) rfl rfl dX8_byList_99 ?_
              refine lv_iload hx hb dX8_byList_102 (lv_at hl 8 rfl) ?_
              refine zm_zald Cx hw (k := 20) (n := 96) (by decide) (by omega) dX8_byList_104 ?_
              refine lv_topi (fun x_104 ex_104 => ?_)
              rw [r2] at ex_104
              subst ex_104
              refine lv_if_eq (tgt := 113) hx hb dX8_byList_105 (by decide) (fun c_105 => ?_) (fun c_105 => ?_)
              · skip
                refine lv_iconst (v := 0) hx hb dX8_byList_113 (by decide) ?_
                refine lv_ior hx hb dX8_byList_114 ?_
                refine lv_istore hx hb dX8_byList_115 hl (by decide) rfl (fun ls hl => ?_)
                have hl : lv_has ls 9 [(4, _), (8, _), (6, _), (0, .ref y), (1, .int (nI i)), (2, .int inw), (3, .int x), (5, .int o), (7, .int (nI (12 * i + j)))] := hl
                refine lv_iload hx hb dX8_byList_117 (lv_at hl 7 rfl) ?_
                refine lv_iload hx hb dX8_byList_119 (lv_at hl 1 rfl) ?_
                refine lv_iconst (v := -1) hx hb dX8_byList_121 (by decide) ?_
                refine lv_ixor hx hb dX8_byList_122 ?_
                refine lv_iand hx hb dX8_byList_123 ?_
                refine lv_istore hx hb dX8_byList_124 hl (by decide) rfl (fun ls hl => ?_)
                have hl : lv_has ls 9 [(5, _), (4, _), (8, _), (6, _), (0, .ref y), (1, .int (nI i)), (2, .int inw), (3, .int x), (7, .int (nI (12 * i + j)))] := hl
                refine lv_iinc (v := nI (12 * i + (j + 1))) hx hb dX8_byList_126 hl (k := 8) rfl (nI_1 (12 * i + j)) (by decide) rfl (fun ls hl => ?_)
                have hl : lv_has ls 9 [(7, .int (nI (12 * i + (j + 1)))), (5, _), (4, _), (8, _), (6, _), (0, .ref y), (1, .int (nI i)), (2, .int inw), (3, .int x)] := hl
                refine lv_goto (tgt := 16) hx hb dX8_byList_129 (by decide) ?_
                exact ih_16 (j + 1) _ _ _ H _ ls (by omega) (by rw [← hacc, zmlp, e_k, e_i]; first | rw [if_pos c_105] | rw [if_neg c_105]) (by omega) hw (lv_sub hl [5, 6, 7, 8, 2, 1, 4, 0] rfl)
              · skip
                refine lv_iload hx hb dX8_byList_108 (lv_at hl 0 rfl) ?_
                refine lv_goto (tgt := 114) hx hb dX8_byList_110 (by decide) ?_
                refine lv_ior hx hb dX8_byList_114 ?_
                refine lv_istore hx hb dX8_byList_115 hl (by decide) rfl (fun ls hl => ?_)
                have hl : lv_has ls 9 [(4, _), (8, _), (6, _), (0, .ref y), (1, .int (nI i)), (2, .int inw), (3, .int x), (5, .int o), (7, .int (nI (12 * i + j)))] := hl
                refine lv_iload hx hb dX8_byList_117 (lv_at hl 7 rfl) ?_
                refine lv_iload hx hb dX8_byList_119 (lv_at hl 1 rfl) ?_
                refine lv_iconst (v := -1) hx hb dX8_byList_121 (by decide) ?_
                refine lv_ixor hx hb dX8_byList_122 ?_
                refine lv_iand hx hb dX8_byList_123 ?_
                refine lv_istore hx hb dX8_byList_124 hl (by decide) rfl (fun ls hl => ?_)
                have hl : lv_has ls 9 [(5, _), (4, _), (8, _), (6, _), (0, .ref y), (1, .int (nI i)), (2, .int inw), (3, .int x), (7, .int (nI (12 * i + j)))] := hl
                refine lv_iinc (v := nI (12 * i + (j + 1))) hx hb dX8_byList_126 hl (k := 8) rfl (nI_1 (12 * i + j)) (by decide) rfl (fun ls hl => ?_)
                have hl : lv_has ls 9 [(7, .int (nI (12 * i + (j + 1)))), (5, _), (4, _), (8, _), (6, _), (0, .ref y), (1, .int (nI i)), (2, .int inw), (3, .int x)] := hl
                refine lv_goto (tgt := 16) hx hb dX8_byList_129 (by decide) ?_
                exact ih_16 (j + 1) _ _ _ H _ ls (by omega) (by rw [← hacc, zmlp, e_k, e_i]; first | rw [if_pos c_105] | rw [if_neg c_105]) (by omega) hw (lv_sub hl [5, 6, 7, 8, 2, 1, 4, 0] rfl)
            · skip
              have e_i : (if zmRHas r inw x = true then o &&& r.2.2.2 else 0) = o &&& r.2.2.2 := if_pos (by unfold zmRHas; rw [(zb_1 _).mp c_77, decide_eq_true c_63]; rfl)
              refine lv_iload hx hb dX8_byList_80 (lv_at hl 6 rfl) ?_
              refine lv_aload_n hx hb dX8_byList_82 rfl (lv_at hl 1 rfl) ?_
              refine z_get Cx hw (T := TX8) (N := 26) (ci := 11) (fun _ h => List.mem_cons_of_mem _ (List.mem_append_right _ (h))) zM_x rfl 22 (by decide) (List.mem_of_getElem? (i := 5) rfl) rfl rfl dX8_byList_83 ?_
              refine lv_iload hx hb dX8_byList_86 (lv_at hl 7 rfl) ?_
              refine zm_iald Cx hw (k := 22) (n := 96) (by decide) (by omega) dX8_byList_88 ?_
              refine lv_topi (fun x_88 ex_88 => ?_)
              rw [r4] at ex_88
              subst ex_88
              refine lv_iand hx hb dX8_byList_89 ?_
              refine lv_goto (tgt := 94) hx hb dX8_byList_90 (by decide) ?_
              refine lv_istore hx hb dX8_byList_94 hl (by decide) rfl (fun ls hl => ?_)
              have hl : lv_has ls 9 [(8, _), (6, _), (0, .ref y), (1, .int (nI i)), (2, .int inw), (3, .int x), (4, .int st), (5, .int o), (7, .int (nI (12 * i + j)))] := hl
              refine lv_iload hx hb dX8_byList_96 (lv_at hl 6 rfl) ?_
              refine lv_aload_n hx hb dX8_byList_98 rfl (lv_at hl 2 rfl) ?_
              refine z_get Cx hw (T := TX8) (N := 26) (ci := 11) (fun _ h => List.mem_cons_of_mem _ (List.mem_append_right _ (h))) zM_x rfl 20 (by decide) (List.mem_of_getElem? (i := 6) rfl) rfl rfl dX8_byList_99 ?_
              refine lv_iload hx hb dX8_byList_102 (lv_at hl 8 rfl) ?_
              refine zm_zald Cx hw (k := 20) (n := 96) (by decide) (by omega) dX8_byList_104 ?_
              refine lv_topi (fun x_104 ex_104 => ?_)
              rw [r2] at ex_104
              subst ex_104
              refine lv_if_eq (tgt := 113) hx hb dX8_byList_105 (by decide) (fun c_105 => ?_) (fun c_105 => ?_)
              · skip
                refine lv_iconst (v := 0) hx hb dX8_byList_113 (by decide) ?_
                refine lv_ior hx hb dX8_byList_114 ?_
                refine lv_istore hx hb dX8_byList_115 hl (by decide) rfl (fun ls hl => ?_)
                have hl : lv_has ls 9 [(4, _), (8, _), (6, _), (0, .ref y), (1, .int (nI i)), (2, .int inw), (3, .int x), (5, .int o), (7, .int (nI (12 * i + j)))] := hl
                refine lv_iload hx hb dX8_byList_117 (lv_at hl 7 rfl) ?_
                refine lv_iload hx hb dX8_byList_119 (lv_at hl 1 rfl) ?_
                refine lv_iconst (v := -1) hx hb dX8_byList_121 (by decide) ?_
                refine lv_ixor hx hb dX8_byList_122 ?_
                refine lv_iand hx hb dX8_byList_123 ?_
                refine lv_istore hx hb dX8_byList_124 hl (by decide) rfl (fun ls hl => ?_)
                have hl : lv_has ls 9 [(5, _), (4, _), (8, _), (6, _), (0, .ref y), (1, .int (nI i)), (2, .int inw), (3, .int x), (7, .int (nI (12 * i + j)))] := hl
                refine lv_iinc (v := nI (12 * i + (j + 1))) hx hb dX8_byList_126 hl (k := 8) rfl (nI_1 (12 * i + j)) (by decide) rfl (fun ls hl => ?_)
                have hl : lv_has ls 9 [(7, .int (nI (12 * i + (j + 1)))), (5, _), (4, _), (8, _), (6, _), (0, .ref y), (1, .int (nI i)), (2, .int inw), (3, .int x)] := hl
                refine lv_goto (tgt := 16) hx hb dX8_byList_129 (by decide) ?_
                exact ih_16 (j + 1) _ _ _ H _ ls (by omega) (by rw [← hacc, zmlp, e_k, e_i]; first | rw [if_pos c_105] | rw [if_neg c_105]) (by omega) hw (lv_sub hl [5, 6, 7, 8, 2, 1, 4, 0] rfl)
              · skip
                refine lv_iload hx hb dX8_byList_108 (lv_at hl 0 rfl) ?_
                refine lv_goto (tgt := 114) hx hb dX8_byList_110 (by decide) ?_
                refine lv_ior hx hb dX8_byList_114 ?_
                refine lv_istore hx hb dX8_byList_115 hl (by decide) rfl (fun ls hl => ?_)
                have hl : lv_has ls 9 [(4, _), (8, _), (6, _), (0, .ref y), (1, .int (nI i)), (2, .int inw), (3, .int x), (5, .int o), (7, .int (nI (12 * i + j)))] := hl
                refine lv_iload hx hb dX8_byList_117 (lv_at hl 7 rfl) ?_
                refine lv_iload hx hb dX8_byList_119 (lv_at hl 1 rfl) ?_
                refine lv_iconst (v := -1) hx hb dX8_byList_121 (by decide) ?_
                refine lv_ixor hx hb dX8_byList_122 ?_
                refine lv_iand hx hb dX8_byList_123 ?_
                refine lv_istore hx hb dX8_byList_124 hl (by decide) rfl (fun ls hl => ?_)
                have hl : lv_has ls 9 [(5, _), (4, _), (8, _), (6, _), (0, .ref y), (1, .int (nI i)), (2, .int inw), (3, .int x), (7, .int (nI (12 * i + j)))] := hl
                refine lv_iinc (v := nI (12 * i + (j + 1))) hx hb dX8_byList_126 hl (k := 8) rfl (nI_1 (12 * i + j)) (by decide) rfl (fun ls hl => ?_)
                have hl : lv_has ls 9 [(7, .int (nI (12 * i + (j + 1)))), (5, _), (4, _), (8, _), (6, _), (0, .ref y), (1, .int (nI i)), (2, .int inw), (3, .int x)] := hl
                refine lv_goto (tgt := 16) hx hb dX8_byList_129 (by decide) ?_
                exact ih_16 (j + 1) _ _ _ H _ ls (by omega) (by rw [← hacc, zmlp, e_k, e_i]; first | rw [if_pos c_105] | rw [if_neg c_105]) (by omega) hw (lv_sub hl [5, 6, 7, 8, 2, 1, 4, 0] rfl)
        · skip
          refine lv_aload_n hx hb dX8_byList_37 rfl (lv_at hl 0 rfl) ?_
          refine z_get Cx hw (T := TX8) (N := 26) (ci := 11) (fun _ h => List.mem_cons_of_mem _ (List.mem_append_right _ (h))) zM_x rfl 19 (by decide) (List.mem_of_getElem? (i := 3) rfl) rfl rfl dX8_byList_38 ?_
          refine lv_iload hx hb dX8_byList_41 (lv_at hl 7 rfl) ?_
          refine zm_zald Cx hw (k := 19) (n := 96) (by decide) (by omega) dX8_byList_43 ?_
          refine lv_topi (fun x_43 ex_43 => ?_)
          rw [r1] at ex_43
          subst ex_43
          refine lv_iload_n hx hb dX8_byList_44 rfl (lv_at hl 2 rfl) ?_
          refine lv_icmp_ne (tgt := 52) hx hb dX8_byList_45 (by decide) (fun c_45 => ?_) (fun c_45 => ?_)
          · skip
            have e_k : (if k0 = 0 then zb (decide (r.1 = inw)) else (1 : Int32)) = 0 := by rw [if_pos c_34, decide_eq_false c_45]; rfl
            refine lv_iconst (v := 0) hx hb dX8_byList_52 (by decide) ?_
            refine lv_istore hx hb dX8_byList_53 hl (by decide) rfl (fun ls hl => ?_)
            have hl : lv_has ls 9 [(6, _), (0, .ref y), (1, .int (nI i)), (2, .int inw), (3, .int x), (4, .int st), (5, .int o), (7, .int (nI (12 * i + j)))] := hl
            refine lv_aload_n hx hb dX8_byList_55 rfl (lv_at hl 1 rfl) ?_
            refine z_get Cx hw (T := TX8) (N := 26) (ci := 11) (fun _ h => List.mem_cons_of_mem _ (List.mem_append_right _ (h))) zM_x rfl 19 (by decide) (List.mem_of_getElem? (i := 3) rfl) rfl rfl dX8_byList_56 ?_
            refine lv_iload hx hb dX8_byList_59 (lv_at hl 7 rfl) ?_
            refine zm_zald Cx hw (k := 19) (n := 96) (by decide) (by omega) dX8_byList_61 ?_
            refine lv_topi (fun x_61 ex_61 => ?_)
            rw [r1] at ex_61
            subst ex_61
            refine lv_iload_n hx hb dX8_byList_62 rfl (lv_at hl 3 rfl) ?_
            refine lv_icmp_ne (tgt := 93) hx hb dX8_byList_63 (by decide) (fun c_63 => ?_) (fun c_63 => ?_)
            · skip
              have e_i : (if zmRHas r inw x = true then o &&& r.2.2.2 else 0) = 0 := if_neg (by unfold zmRHas; rw [decide_eq_false c_63]; exact fun h => by cases h)
              refine lv_iconst (v := 0) hx hb dX8_byList_93 (by decide) ?_
              refine lv_istore hx hb dX8_byList_94 hl (by decide) rfl (fun ls hl => ?_)
              have hl : lv_has ls 9 [(8, _), (6, _), (0, .ref y), (1, .int (nI i)), (2, .int inw), (3, .int x), (4, .int st), (5, .int o), (7, .int (nI (12 * i + j)))] := hl
              refine lv_iload hx hb dX8_byList_96 (lv_at hl 6 rfl) ?_
              refine lv_aload_n hx hb dX8_byList_98 rfl (lv_at hl 2 rfl) ?_
              refine z_get Cx hw (T := TX8) (N := 26) (ci := 11) (fun _ h => List.mem_cons_of_mem _ (List.mem_append_right _ (h))) zM_x rfl 20 (by decide) (List.mem_of_getElem? (i := 6) rfl) rfl rfl dX8_byList_99 ?_
              refine lv_iload hx hb dX8_byList_102 (lv_at hl 8 rfl) ?_
              refine zm_zald Cx hw (k := 20) (n := 96) (by decide) (by omega) dX8_byList_104 ?_
              refine lv_topi (fun x_104 ex_104 => ?_)
              rw [r2] at ex_104
              subst ex_104
              refine lv_if_eq (tgt := 113) hx hb dX8_byList_105 (by decide) (fun c_105 => ?_) (fun c_105 => ?_)
              · skip
                refine lv_iconst (v := 0) hx hb dX8_byList_113 (by decide) ?_
                refine lv_ior hx hb dX8_byList_114 ?_
                refine lv_istore hx hb dX8_byList_115 hl (by decide) rfl (fun ls hl => ?_)
                have hl : lv_has ls 9 [(4, _), (8, _), (6, _), (0, .ref y), (1, .int (nI i)), (2, .int inw), (3, .int x), (5, .int o), (7, .int (nI (12 * i + j)))] := hl
                refine lv_iload hx hb dX8_byList_117 (lv_at hl 7 rfl) ?_
                refine lv_iload hx hb dX8_byList_119 (lv_at hl 1 rfl) ?_
                refine lv_iconst (v := -1) hx hb dX8_byList_121 (by decide) ?_
                refine lv_ixor hx hb dX8_byList_122 ?_
                refine lv_iand hx hb dX8_byList_123 ?_
                refine lv_istore hx hb dX8_byList_124 hl (by decide) rfl (fun ls hl => ?_)
                have hl : lv_has ls 9 [(5, _), (4, _), (8, _), (6, _), (0, .ref y), (1, .int (nI i)), (2, .int inw), (3, .int x), (7, .int (nI (12 * i + j)))] := hl
                refine lv_iinc (v := nI (12 * i + (j + 1))) hx hb dX8_byList_126 hl (k := 8) rfl (nI_1 (12 * i + j)) (by decide) rfl (fun ls hl => ?_)
                have hl : lv_has ls 9 [(7, .int (nI (12 * i + (j + 1)))), (5, _), (4, _), (8, _), (6, _), (0, .ref y), (1, .int (nI i)), (2, .int inw), (3, .int x)] := hl
                refine lv_goto (tgt := 16) hx hb dX8_byList_129 (by decide) ?_
                exact ih_16 (j + 1) _ _ _ H _ ls (by omega) (by rw [← hacc, zmlp, e_k, e_i]; first | rw [if_pos c_105] | rw [if_neg c_105]) (by omega) hw (lv_sub hl [5, 6, 7, 8, 2, 1, 4, 0] rfl)
              · skip
                refine lv_iload hx hb dX8_byList_108 (lv_at hl 0 rfl) ?_
                refine lv_goto (tgt := 114) hx hb dX8_byList_110 (by decide) ?_
                refine lv_ior hx hb dX8_byList_114 ?_
                refine lv_istore hx hb dX8_byList_115 hl (by decide) rfl (fun ls hl => ?_)
                have hl : lv_has ls 9 [(4, _), (8, _), (6, _), (0, .ref y), (1, .int (nI i)), (2, .int inw), (3, .int x), (5, .int o), (7, .int (nI (12 * i + j)))] := hl
                refine lv_iload hx hb dX8_byList_117 (lv_at hl 7 rfl) ?_
                refine lv_iload hx hb dX8_byList_119 (lv_at hl 1 rfl) ?_
                refine lv_iconst (v := -1) hx hb dX8_byList_121 (by decide) ?_
                refine lv_ixor hx hb dX8_byList_122 ?_
                refine lv_iand hx hb dX8_byList_123 ?_
                refine lv_istore hx hb dX8_byList_124 hl (by decide) rfl (fun ls hl => ?_)
                have hl : lv_has ls 9 [(5, _), (4, _), (8, _), (6, _), (0, .ref y), (1, .int (nI i)), (2, .int inw), (3, .int x), (7, .int (nI (12 * i + j)))] := hl
                refine lv_iinc (v := nI (12 * i + (j + 1))) hx hb dX8_byList_126 hl (k := 8) rfl (nI_1 (12 * i + j)) (by decide) rfl (fun ls hl => ?_)
                have hl : lv_has ls 9 [(7, .int (nI (12 * i + (j + 1)))), (5, _), (4, _), (8, _), (6, _), (0, .ref y), (1, .int (nI i)), (2, .int inw), (3, .int x)] := hl
                refine lv_goto (tgt := 16) hx hb dX8_byList_129 (by decide) ?_
                exact ih_16 (j + 1) _ _ _ H _ ls (by omega) (by rw [← hacc, zmlp, e_k, e_i]; first | rw [if_pos c_105] | rw [if_neg c_105]) (by omega) hw (lv_sub hl [5, 6, 7, 8, 2, 1, 4, 0] rfl)
            · skip
              refine lv_aload_n hx hb dX8_byList_66 rfl (lv_at hl 1 rfl) ?_
              refine z_get Cx hw (T := TX8) (N := 26) (ci := 11) (fun _ h => List.mem_cons_of_mem _ (List.mem_append_right _ (h))) zM_x rfl 21 (by decide) (List.mem_of_getElem? (i := 4) rfl) rfl rfl dX8_byList_67 ?_
              refine lv_iload hx hb dX8_byList_70 (lv_at hl 7 rfl) ?_
              refine zm_iald Cx hw (k := 21) (n := 96) (by decide) (by omega) dX8_byList_72 ?_
              refine lv_topi (fun x_72 ex_72 => ?_)
              rw [r3] at ex_72
              subst ex_72
              refine lv_iload_n hx hb dX8_byList_73 rfl (lv_at hl 4 rfl) ?_
              refine z_goe hw.2 (z_runS Cx hw (c_X8_has E l _ (zbi r.2.2.1) x) (va_cwS 2 Cx.1.2.2.2.2 gX8_byList_X8_has rfl rfl rfl (by decide +kernel) ⟨Nat.le_of_ble_eq_true rfl, Nat.le_of_ble_eq_true rfl⟩)  rfl hl.1 rfl (Nat.le_of_ble_eq_true rfl) dX8_byList_74 ⟨Nat.le_of_ble_eq_true rfl, Nat.le_of_ble_eq_true rfl⟩) (fun H locs hw => ?_)
              refine lv_if_eq (tgt := 93) hx hb dX8_byList_77 (by decide) (fun c_77 => ?_) (fun c_77 => ?_)
              · skip
                have e_i : (if zmRHas r inw x = true then o &&& r.2.2.2 else 0) = 0 := if_neg (by unfold zmRHas; rw [(zb_0 _).mp c_77, Bool.and_false]; decide)
                refine lv_iconst (v := 0) hx hb dX8_byList_93 (by decide) ?_
                refine lv_istore hx hb dX8_byList_94 hl (by decide) rfl (fun ls hl => ?_)
                have hl : lv_has ls 9 [(8, _), (6, _), (0, .ref y), (1, .int (nI i)), (2, .int inw), (3, .int x), (4, .int st), (5, .int o), (7, .int (nI (12 * i + j)))] := hl
                refine lv_iload hx hb dX8_byList_96 (lv_at hl 6 rfl) ?_
                refine lv_aload_n hx hb dX8_byList_98 rfl (lv_at hl 2 rfl) ?_
                refine z_get Cx hw (T := TX8) (N := 26) (ci := 11) (fun _ h => List.mem_cons_of_mem _ (List.mem_append_right _ (h))) zM_x rfl 20 (by decide) (List.mem_of_getElem? (i := 6) rfl) rfl rfl dX8_byList_99 ?_
                refine lv_iload hx hb dX8_byList_102 (lv_at hl 8 rfl) ?_
                refine zm_zald Cx hw (k := 20) (n := 96) (by decide) (by omega) dX8_byList_104 ?_
                refine lv_topi (fun x_104 ex_104 => ?_)
                rw [r2] at ex_104
                subst ex_104
                refine lv_if_eq (tgt := 113) hx hb dX8_byList_105 (by decide) (fun c_105 => ?_) (fun c_105 => ?_)
                · skip
                  refine lv_iconst (v := 0) hx hb dX8_byList_113 (by decide) ?_
                  refine lv_ior hx hb dX8_byList_114 ?_
                  refine lv_istore hx hb dX8_byList_115 hl (by decide) rfl (fun ls hl => ?_)
                  have hl : lv_has ls 9 [(4, _), (8, _), (6, _), (0, .ref y), (1, .int (nI i)), (2, .int inw), (3, .int x), (5, .int o), (7, .int (nI (12 * i + j)))] := hl
                  refine lv_iload hx hb dX8_byList_117 (lv_at hl 7 rfl) ?_
                  refine lv_iload hx hb dX8_byList_119 (lv_at hl 1 rfl) ?_
                  refine lv_iconst (v := -1) hx hb dX8_byList_121 (by decide) ?_
                  refine lv_ixor hx hb dX8_byList_122 ?_
                  refine lv_iand hx hb dX8_byList_123 ?_
                  refine lv_istore hx hb dX8_byList_124 hl (by decide) rfl (fun ls hl => ?_)
                  have hl : lv_has ls 9 [(5, _), (4, _), (8, _), (6, _), (0, .ref y), (1, .int (nI i)), (2, .int inw), (3, .int x), (7, .int (nI (12 * i + j)))] := hl
                  refine lv_iinc (v := nI (12 * i + (j + 1))) hx hb dX8_byList_126 hl (k := 8) rfl (nI_1 (12 * i + j)) (by decide) rfl (fun ls hl => ?_)
                  have hl : lv_has ls 9 [(7, .int (nI (12 * i + (j + 1)))), (5, _), (4, _), (8, _), (6, _), (0, .ref y), (1, .int (nI i)), (2, .int inw), (3, .int x)] := hl
                  refine lv_goto (tgt := 16) hx hb dX8_byList_129 (by decide) ?_
                  exact ih_16 (j + 1) _ _ _ H _ ls (by omega) (by rw [← hacc, zmlp, e_k, e_i]; first | rw [if_pos c_105] | rw [if_neg c_105]) (by omega) hw (lv_sub hl [5, 6, 7, 8, 2, 1, 4, 0] rfl)
                · skip
                  refine lv_iload hx hb dX8_byList_108 (lv_at hl 0 rfl) ?_
                  refine lv_goto (tgt := 114) hx hb dX8_byList_110 (by decide) ?_
                  refine lv_ior hx hb dX8_byList_114 ?_
                  refine lv_istore hx hb dX8_byList_115 hl (by decide) rfl (fun ls hl => ?_)
                  have hl : lv_has ls 9 [(4, _), (8, _), (6, _), (0, .ref y), (1, .int (nI i)), (2, .int inw), (3, .int x), (5, .int o), (7, .int (nI (12 * i + j)))] := hl
                  refine lv_iload hx hb dX8_byList_117 (lv_at hl 7 rfl) ?_
                  refine lv_iload hx hb dX8_byList_119 (lv_at hl 1 rfl) ?_
                  refine lv_iconst (v := -1) hx hb dX8_byList_121 (by decide) ?_
                  refine lv_ixor hx hb dX8_byList_122 ?_
                  refine lv_iand hx hb dX8_byList_123 ?_
                  refine lv_istore hx hb dX8_byList_124 hl (by decide) rfl (fun ls hl => ?_)
                  have hl : lv_has ls 9 [(5, _), (4, _), (8, _), (6, _), (0, .ref y), (1, .int (nI i)), (2, .int inw), (3, .int x), (7, .int (nI (12 * i + j)))] := hl
                  refine lv_iinc (v := nI (12 * i + (j + 1))) hx hb dX8_byList_126 hl (k := 8) rfl (nI_1 (12 * i + j)) (by decide) rfl (fun ls hl => ?_)
                  have hl : lv_has ls 9 [(7, .int (nI (12 * i + (j + 1)))), (5, _), (4, _), (8, _), (6, _), (0, .ref y), (1, .int (nI i)), (2, .int inw), (3, .int x)] := hl
                  refine lv_goto (tgt := 16) hx hb dX8_byList_129 (by decide) ?_
                  exact ih_16 (j + 1) _ _ _ H _ ls (by omega) (by rw [← hacc, zmlp, e_k, e_i]; first | rw [if_pos c_105] | rw [if_neg c_105]) (by omega) hw (lv_sub hl [5, 6, 7, 8, 2, 1, 4, 0] rfl)
              · skip
                have e_i : (if zmRHas r inw x = true then o &&& r.2.2.2 else 0) = o &&& r.2.2.2 := if_pos (by unfold zmRHas; rw [(zb_1 _).mp c_77, decide_eq_true c_63]; rfl)
                refine lv_iload hx hb dX8_byList_80 (lv_at hl 6 rfl) ?_
                refine lv_aload_n hx hb dX8_byList_82 rfl (lv_at hl 1 rfl) ?_
                refine z_get Cx hw (T := TX8) (N := 26) (ci := 11) (fun _ h => List.mem_cons_of_mem _ (List.mem_append_right _ (h))) zM_x rfl 22 (by decide) (List.mem_of_getElem? (i := 5) rfl) rfl rfl dX8_byList_83 ?_
                refine lv_iload hx hb dX8_byList_86 (lv_at hl 7 rfl) ?_
                refine zm_iald Cx hw (k := 22) (n := 96) (by decide) (by omega) dX8_byList_88 ?_
                refine lv_topi (fun x_88 ex_88 => ?_)
                rw [r4] at ex_88
                subst ex_88
                refine lv_iand hx hb dX8_byList_89 ?_
                refine lv_goto (tgt := 94) hx hb dX8_byList_90 (by decide) ?_
                refine lv_istore hx hb dX8_byList_94 hl (by decide) rfl (fun ls hl => ?_)
                have hl : lv_has ls 9 [(8, _), (6, _), (0, .ref y), (1, .int (nI i)), (2, .int inw), (3, .int x), (4, .int st), (5, .int o), (7, .int (nI (12 * i + j)))] := hl
                refine lv_iload hx hb dX8_byList_96 (lv_at hl 6 rfl) ?_
                refine lv_aload_n hx hb dX8_byList_98 rfl (lv_at hl 2 rfl) ?_
                refine z_get Cx hw (T := TX8) (N := 26) (ci := 11) (fun _ h => List.mem_cons_of_mem _ (List.mem_append_right _ (h))) zM_x rfl 20 (by decide) (List.mem_of_getElem? (i := 6) rfl) rfl rfl dX8_byList_99 ?_
                refine lv_iload hx hb dX8_byList_102 (lv_at hl 8 rfl) ?_
                refine zm_zald Cx hw (k := 20) (n := 96) (by decide) (by omega) dX8_byList_104 ?_
                refine lv_topi (fun x_104 ex_104 => ?_)
                rw [r2] at ex_104
                subst ex_104
                refine lv_if_eq (tgt := 113) hx hb dX8_byList_105 (by decide) (fun c_105 => ?_) (fun c_105 => ?_)
                · skip
                  refine lv_iconst (v := 0) hx hb dX8_byList_113 (by decide) ?_
                  refine lv_ior hx hb dX8_byList_114 ?_
                  refine lv_istore hx hb dX8_byList_115 hl (by decide) rfl (fun ls hl => ?_)
                  have hl : lv_has ls 9 [(4, _), (8, _), (6, _), (0, .ref y), (1, .int (nI i)), (2, .int inw), (3, .int x), (5, .int o), (7, .int (nI (12 * i + j)))] := hl
                  refine lv_iload hx hb dX8_byList_117 (lv_at hl 7 rfl) ?_
                  refine lv_iload hx hb dX8_byList_119 (lv_at hl 1 rfl) ?_
                  refine lv_iconst (v := -1) hx hb dX8_byList_121 (by decide) ?_
                  refine lv_ixor hx hb dX8_byList_122 ?_
                  refine lv_iand hx hb dX8_byList_123 ?_
                  refine lv_istore hx hb dX8_byList_124 hl (by decide) rfl (fun ls hl => ?_)
                  have hl : lv_has ls 9 [(5, _), (4, _), (8, _), (6, _), (0, .ref y), (1, .int (nI i)), (2, .int inw), (3, .int x), (7, .int (nI (12 * i + j)))] := hl
                  refine lv_iinc (v := nI (12 * i + (j + 1))) hx hb dX8_byList_126 hl (k := 8) rfl (nI_1 (12 * i + j)) (by decide) rfl (fun ls hl => ?_)
                  have hl : lv_has ls 9 [(7, .int (nI (12 * i + (j + 1)))), (5, _), (4, _), (8, _), (6, _), (0, .ref y), (1, .int (nI i)), (2, .int inw), (3, .int x)] := hl
                  refine lv_goto (tgt := 16) hx hb dX8_byList_129 (by decide) ?_
                  exact ih_16 (j + 1) _ _ _ H _ ls (by omega) (by rw [← hacc, zmlp, e_k, e_i]; first | rw [if_pos c_105] | rw [if_neg c_105]) (by omega) hw (lv_sub hl [5, 6, 7, 8, 2, 1, 4, 0] rfl)
                · skip
                  refine lv_iload hx hb dX8_byList_108 (lv_at hl 0 rfl) ?_
                  refine lv_goto (tgt := 114) hx hb dX8_byList_110 (by decide) ?_
                  refine lv_ior hx hb dX8_byList_114 ?_
                  refine lv_istore hx hb dX8_byList_115 hl (by decide) rfl (fun ls hl => ?_)
                  have hl : lv_has ls 9 [(4, _), (8, _), (6, _), (0, .ref y), (1, .int (nI i)), (2, .int inw), (3, .int x), (5, .int o), (7, .int (nI (12 * i + j)))] := hl
                  refine lv_iload hx hb dX8_byList_117 (lv_at hl 7 rfl) ?_
                  refine lv_iload hx hb dX8_byList_119 (lv_at hl 1 rfl) ?_
                  refine lv_iconst (v := -1) hx hb dX8_byList_121 (by decide) ?_
                  refine lv_ixor hx hb dX8_byList_122 ?_
                  refine lv_iand hx hb dX8_byList_123 ?_
                  refine lv_istore hx hb dX8_byList_124 hl (by decide) rfl (fun ls hl => ?_)
                  have hl : lv_has ls 9 [(5, _), (4, _), (8, _), (6, _), (0, .ref y), (1, .int (nI i)), (2, .int inw), (3, .int x), (7, .int (nI (12 * i + j)))] := hl
                  refine lv_iinc (v := nI (12 * i + (j + 1))) hx hb dX8_byList_126 hl (k := 8) rfl (nI_1 (12 * i + j)) (by decide) rfl (fun ls hl => ?_)
                  have hl : lv_has ls 9 [(7, .int (nI (12 * i + (j + 1)))), (5, _), (4, _), (8, _), (6, _), (0, .ref y), (1, .int (nI i)), (2, .int inw), (3, .int x)] := hl
                  refine lv_goto (tgt := 16) hx hb dX8_byList_129 (by decide) ?_
                  exact ih_16 (j + 1) _ _ _ H _ ls (by omega) (by rw [← hacc, zmlp, e_k, e_i]; first | rw [if_pos c_105] | rw [if_neg c_105]) (by omega) hw (lv_sub hl [5, 6, 7, 8, 2, 1, 4, 0] rfl)
          · skip
            have e_k : (if k0 = 0 then zb (decide (r.1 = inw)) else (1 : Int32)) = 1 := by rw [if_pos c_34, decide_eq_true c_45]; rfl
            refine lv_iconst (v := 1) hx hb dX8_byList_48 (by decide) ?_
            refine lv_goto (tgt := 53) hx hb dX8_byList_49 (by decide) ?_
            refine lv_istore hx hb dX8_byList_53 hl (by decide) rfl (fun ls hl => ?_)
            have hl : lv_has ls 9 [(6, _), (0, .ref y), (1, .int (nI i)), (2, .int inw), (3, .int x), (4, .int st), (5, .int o), (7, .int (nI (12 * i + j)))] := hl
            refine lv_aload_n hx hb dX8_byList_55 rfl (lv_at hl 1 rfl) ?_
            refine z_get Cx hw (T := TX8) (N := 26) (ci := 11) (fun _ h => List.mem_cons_of_mem _ (List.mem_append_right _ (h))) zM_x rfl 19 (by decide) (List.mem_of_getElem? (i := 3) rfl) rfl rfl dX8_byList_56 ?_
            refine lv_iload hx hb dX8_byList_59 (lv_at hl 7 rfl) ?_
            refine zm_zald Cx hw (k := 19) (n := 96) (by decide) (by omega) dX8_byList_61 ?_
            refine lv_topi (fun x_61 ex_61 => ?_)
            rw [r1] at ex_61
            subst ex_61
            refine lv_iload_n hx hb dX8_byList_62 rfl (lv_at hl 3 rfl) ?_
            refine lv_icmp_ne (tgt := 93) hx hb dX8_byList_63 (by decide) (fun c_63 => ?_) (fun c_63 => ?_)
            · skip
              have e_i : (if zmRHas r inw x = true then o &&& r.2.2.2 else 0) = 0 := if_neg (by unfold zmRHas; rw [decide_eq_false c_63]; exact fun h => by cases h)
              refine lv_iconst (v := 0) hx hb dX8_byList_93 (by decide) ?_
              refine lv_istore hx hb dX8_byList_94 hl (by decide) rfl (fun ls hl => ?_)
              have hl : lv_has ls 9 [(8, _), (6, _), (0, .ref y), (1, .int (nI i)), (2, .int inw), (3, .int x), (4, .int st), (5, .int o), (7, .int (nI (12 * i + j)))] := hl
              refine lv_iload hx hb dX8_byList_96 (lv_at hl 6 rfl) ?_
              refine lv_aload_n hx hb dX8_byList_98 rfl (lv_at hl 2 rfl) ?_
              refine z_get Cx hw (T := TX8) (N := 26) (ci := 11) (fun _ h => List.mem_cons_of_mem _ (List.mem_append_right _ (h))) zM_x rfl 20 (by decide) (List.mem_of_getElem? (i := 6) rfl) rfl rfl dX8_byList_99 ?_
              refine lv_iload hx hb dX8_byList_102 (lv_at hl 8 rfl) ?_
              refine zm_zald Cx hw (k := 20) (n := 96) (by decide) (by omega) dX8_byList_104 ?_
              refine lv_topi (fun x_104 ex_104 => ?_)
              rw [r2] at ex_104
              subst ex_104
              refine lv_if_eq (tgt := 113) hx hb dX8_byList_105 (by decide) (fun c_105 => ?_) (fun c_105 => ?_)
              · skip
                refine lv_iconst (v := 0) hx hb dX8_byList_113 (by decide) ?_
                refine lv_ior hx hb dX8_byList_114 ?_
                refine lv_istore hx hb dX8_byList_115 hl (by decide) rfl (fun ls hl => ?_)
                have hl : lv_has ls 9 [(4, _), (8, _), (6, _), (0, .ref y), (1, .int (nI i)), (2, .int inw), (3, .int x), (5, .int o), (7, .int (nI (12 * i + j)))] := hl
                refine lv_iload hx hb dX8_byList_117 (lv_at hl 7 rfl) ?_
                refine lv_iload hx hb dX8_byList_119 (lv_at hl 1 rfl) ?_
                refine lv_iconst (v := -1) hx hb dX8_byList_121 (by decide) ?_
                refine lv_ixor hx hb dX8_byList_122 ?_
                refine lv_iand hx hb dX8_byList_123 ?_
                refine lv_istore hx hb dX8_byList_124 hl (by decide) rfl (fun ls hl => ?_)
                have hl : lv_has ls 9 [(5, _), (4, _), (8, _), (6, _), (0, .ref y), (1, .int (nI i)), (2, .int inw), (3, .int x), (7, .int (nI (12 * i + j)))] := hl
                refine lv_iinc (v := nI (12 * i + (j + 1))) hx hb dX8_byList_126 hl (k := 8) rfl (nI_1 (12 * i + j)) (by decide) rfl (fun ls hl => ?_)
                have hl : lv_has ls 9 [(7, .int (nI (12 * i + (j + 1)))), (5, _), (4, _), (8, _), (6, _), (0, .ref y), (1, .int (nI i)), (2, .int inw), (3, .int x)] := hl
                refine lv_goto (tgt := 16) hx hb dX8_byList_129 (by decide) ?_
                exact ih_16 (j + 1) _ _ _ H _ ls (by omega) (by rw [← hacc, zmlp, e_k, e_i]; first | rw [if_pos c_105] | rw [if_neg c_105]) (by omega) hw (lv_sub hl [5, 6, 7, 8, 2, 1, 4, 0] rfl)
              · skip
                refine lv_iload hx hb dX8_byList_108 (lv_at hl 0 rfl) ?_
                refine lv_goto (tgt := 114) hx hb dX8_byList_110 (by decide) ?_
                refine lv_ior hx hb dX8_byList_114 ?_
                refine lv_istore hx hb dX8_byList_115 hl (by decide) rfl (fun ls hl => ?_)
                have hl : lv_has ls 9 [(4, _), (8, _), (6, _), (0, .ref y), (1, .int (nI i)), (2, .int inw), (3, .int x), (5, .int o), (7, .int (nI (12 * i + j)))] := hl
                refine lv_iload hx hb dX8_byList_117 (lv_at hl 7 rfl) ?_
                refine lv_iload hx hb dX8_byList_119 (lv_at hl 1 rfl) ?_
                refine lv_iconst (v := -1) hx hb dX8_byList_121 (by decide) ?_
                refine lv_ixor hx hb dX8_byList_122 ?_
                refine lv_iand hx hb dX8_byList_123 ?_
                refine lv_istore hx hb dX8_byList_124 hl (by decide) rfl (fun ls hl => ?_)
                have hl : lv_has ls 9 [(5, _), (4, _), (8, _), (6, _), (0, .ref y), (1, .int (nI i)), (2, .int inw), (3, .int x), (7, .int (nI (12 * i + j)))] := hl
                refine lv_iinc (v := nI (12 * i + (j + 1))) hx hb dX8_byList_126 hl (k := 8) rfl (nI_1 (12 * i + j)) (by decide) rfl (fun ls hl => ?_)
                have hl : lv_has ls 9 [(7, .int (nI (12 * i + (j + 1)))), (5, _), (4, _), (8, _), (6, _), (0, .ref y), (1, .int (nI i)), (2, .int inw), (3, .int x)] := hl
                refine lv_goto (tgt := 16) hx hb dX8_byList_129 (by decide) ?_
                exact ih_16 (j + 1) _ _ _ H _ ls (by omega) (by rw [← hacc, zmlp, e_k, e_i]; first | rw [if_pos c_105] | rw [if_neg c_105]) (by omega) hw (lv_sub hl [5, 6, 7, 8, 2, 1, 4, 0] rfl)
            · skip
              refine lv_aload_n hx hb dX8_byList_66 rfl (lv_at hl 1 rfl) ?_
              refine z_get Cx hw (T := TX8) (N := 26) (ci := 11) (fun _ h => List.mem_cons_of_mem _ (List.mem_append_right _ (h))) zM_x rfl 21 (by decide) (List.mem_of_getElem? (i := 4) rfl) rfl rfl dX8_byList_67 ?_
              refine lv_iload hx hb dX8_byList_70 (lv_at hl 7 rfl) ?_
              refine zm_iald Cx hw (k := 21) (n := 96) (by decide) (by omega) dX8_byList_72 ?_
              refine lv_topi (fun x_72 ex_72 => ?_)
              rw [r3] at ex_72
              subst ex_72
              refine lv_iload_n hx hb dX8_byList_73 rfl (lv_at hl 4 rfl) ?_
              refine z_goe hw.2 (z_runS Cx hw (c_X8_has E l _ (zbi r.2.2.1) x) (va_cwS 2 Cx.1.2.2.2.2 gX8_byList_X8_has rfl rfl rfl (by decide +kernel) ⟨Nat.le_of_ble_eq_true rfl, Nat.le_of_ble_eq_true rfl⟩)  rfl hl.1 rfl (Nat.le_of_ble_eq_true rfl) dX8_byList_74 ⟨Nat.le_of_ble_eq_true rfl, Nat.le_of_ble_eq_true rfl⟩) (fun H locs hw => ?_)
              refine lv_if_eq (tgt := 93) hx hb dX8_byList_77 (by decide) (fun c_77 => ?_) (fun c_77 => ?_)
              · skip
                have e_i : (if zmRHas r inw x = true then o &&& r.2.2.2 else 0) = 0 := if_neg (by unfold zmRHas; rw [(zb_0 _).mp c_77, Bool.and_false]; decide)
                refine lv_iconst (v := 0) hx hb dX8_byList_93 (by decide) ?_
                refine lv_istore hx hb dX8_byList_94 hl (by decide) rfl (fun ls hl => ?_)
                have hl : lv_has ls 9 [(8, _), (6, _), (0, .ref y), (1, .int (nI i)), (2, .int inw), (3, .int x), (4, .int st), (5, .int o), (7, .int (nI (12 * i + j)))] := hl
                refine lv_iload hx hb dX8_byList_96 (lv_at hl 6 rfl) ?_
                refine lv_aload_n hx hb dX8_byList_98 rfl (lv_at hl 2 rfl) ?_
                refine z_get Cx hw (T := TX8) (N := 26) (ci := 11) (fun _ h => List.mem_cons_of_mem _ (List.mem_append_right _ (h))) zM_x rfl 20 (by decide) (List.mem_of_getElem? (i := 6) rfl) rfl rfl dX8_byList_99 ?_
                refine lv_iload hx hb dX8_byList_102 (lv_at hl 8 rfl) ?_
                refine zm_zald Cx hw (k := 20) (n := 96) (by decide) (by omega) dX8_byList_104 ?_
                refine lv_topi (fun x_104 ex_104 => ?_)
                rw [r2] at ex_104
                subst ex_104
                refine lv_if_eq (tgt := 113) hx hb dX8_byList_105 (by decide) (fun c_105 => ?_) (fun c_105 => ?_)
                · skip
                  refine lv_iconst (v := 0) hx hb dX8_byList_113 (by decide) ?_
                  refine lv_ior hx hb dX8_byList_114 ?_
                  refine lv_istore hx hb dX8_byList_115 hl (by decide) rfl (fun ls hl => ?_)
                  have hl : lv_has ls 9 [(4, _), (8, _), (6, _), (0, .ref y), (1, .int (nI i)), (2, .int inw), (3, .int x), (5, .int o), (7, .int (nI (12 * i + j)))] := hl
                  refine lv_iload hx hb dX8_byList_117 (lv_at hl 7 rfl) ?_
                  refine lv_iload hx hb dX8_byList_119 (lv_at hl 1 rfl) ?_
                  refine lv_iconst (v := -1) hx hb dX8_byList_121 (by decide) ?_
                  refine lv_ixor hx hb dX8_byList_122 ?_
                  refine lv_iand hx hb dX8_byList_123 ?_
                  refine lv_istore hx hb dX8_byList_124 hl (by decide) rfl (fun ls hl => ?_)
                  have hl : lv_has ls 9 [(5, _), (4, _), (8, _), (6, _), (0, .ref y), (1, .int (nI i)), (2, .int inw), (3, .int x), (7, .int (nI (12 * i + j)))] := hl
                  refine lv_iinc (v := nI (12 * i + (j + 1))) hx hb dX8_byList_126 hl (k := 8) rfl (nI_1 (12 * i + j)) (by decide) rfl (fun ls hl => ?_)
                  have hl : lv_has ls 9 [(7, .int (nI (12 * i + (j + 1)))), (5, _), (4, _), (8, _), (6, _), (0, .ref y), (1, .int (nI i)), (2, .int inw), (3, .int x)] := hl
                  refine lv_goto (tgt := 16) hx hb dX8_byList_129 (by decide) ?_
                  exact ih_16 (j + 1) _ _ _ H _ ls (by omega) (by rw [← hacc, zmlp, e_k, e_i]; first | rw [if_pos c_105] | rw [if_neg c_105]) (by omega) hw (lv_sub hl [5, 6, 7, 8, 2, 1, 4, 0] rfl)
                · skip
                  refine lv_iload hx hb dX8_byList_108 (lv_at hl 0 rfl) ?_
                  refine lv_goto (tgt := 114) hx hb dX8_byList_110 (by decide) ?_
                  refine lv_ior hx hb dX8_byList_114 ?_
                  refine lv_istore hx hb dX8_byList_115 hl (by decide) rfl (fun ls hl => ?_)
                  have hl : lv_has ls 9 [(4, _), (8, _), (6, _), (0, .ref y), (1, .int (nI i)), (2, .int inw), (3, .int x), (5, .int o), (7, .int (nI (12 * i + j)))] := hl
                  refine lv_iload hx hb dX8_byList_117 (lv_at hl 7 rfl) ?_
                  refine lv_iload hx hb dX8_byList_119 (lv_at hl 1 rfl) ?_
                  refine lv_iconst (v := -1) hx hb dX8_byList_121 (by decide) ?_
                  refine lv_ixor hx hb dX8_byList_122 ?_
                  refine lv_iand hx hb dX8_byList_123 ?_
                  refine lv_istore hx hb dX8_byList_124 hl (by decide) rfl (fun ls hl => ?_)
                  have hl : lv_has ls 9 [(5, _), (4, _), (8, _), (6, _), (0, .ref y), (1, .int (nI i)), (2, .int inw), (3, .int x), (7, .int (nI (12 * i + j)))] := hl
                  refine lv_iinc (v := nI (12 * i + (j + 1))) hx hb dX8_byList_126 hl (k := 8) rfl (nI_1 (12 * i + j)) (by decide) rfl (fun ls hl => ?_)
                  have hl : lv_has ls 9 [(7, .int (nI (12 * i + (j + 1)))), (5, _), (4, _), (8, _), (6, _), (0, .ref y), (1, .int (nI i)), (2, .int inw), (3, .int x)] := hl
                  refine lv_goto (tgt := 16) hx hb dX8_byList_129 (by decide) ?_
                  exact ih_16 (j + 1) _ _ _ H _ ls (by omega) (by rw [← hacc, zmlp, e_k, e_i]; first | rw [if_pos c_105] | rw [if_neg c_105]) (by omega) hw (lv_sub hl [5, 6, 7, 8, 2, 1, 4, 0] rfl)
              · skip
                have e_i : (if zmRHas r inw x = true then o &&& r.2.2.2 else 0) = o &&& r.2.2.2 := if_pos (by unfold zmRHas; rw [(zb_1 _).mp c_77, decide_eq_true c_63]; rfl)
                refine lv_iload hx hb dX8_byList_80 (lv_at hl 6 rfl) ?_
                refine lv_aload_n hx hb dX8_byList_82 rfl (lv_at hl 1 rfl) ?_
                refine z_get Cx hw (T := TX8) (N := 26) (ci := 11) (fun _ h => List.mem_cons_of_mem _ (List.mem_append_right _ (h))) zM_x rfl 22 (by decide) (List.mem_of_getElem? (i := 5) rfl) rfl rfl dX8_byList_83 ?_
                refine lv_iload hx hb dX8_byList_86 (lv_at hl 7 rfl) ?_
                refine zm_iald Cx hw (k := 22) (n := 96) (by decide) (by omega) dX8_byList_88 ?_
                refine lv_topi (fun x_88 ex_88 => ?_)
                rw [r4] at ex_88
                subst ex_88
                refine lv_iand hx hb dX8_byList_89 ?_
                refine lv_goto (tgt := 94) hx hb dX8_byList_90 (by decide) ?_
                refine lv_istore hx hb dX8_byList_94 hl (by decide) rfl (fun ls hl => ?_)
                have hl : lv_has ls 9 [(8, _), (6, _), (0, .ref y), (1, .int (nI i)), (2, .int inw), (3, .int x), (4, .int st), (5, .int o), (7, .int (nI (12 * i + j)))] := hl
                refine lv_iload hx hb dX8_byList_96 (lv_at hl 6 rfl) ?_
                refine lv_aload_n hx hb dX8_byList_98 rfl (lv_at hl 2 rfl) ?_
                refine z_get Cx hw (T := TX8) (N := 26) (ci := 11) (fun _ h => List.mem_cons_of_mem _ (List.mem_append_right _ (h))) zM_x rfl 20 (by decide) (List.mem_of_getElem? (i := 6) rfl) rfl rfl dX8_byList_99 ?_
                refine lv_iload hx hb dX8_byList_102 (lv_at hl 8 rfl) ?_
                refine zm_zald Cx hw (k := 20) (n := 96) (by decide) (by omega) dX8_byList_104 ?_
                refine lv_topi (fun x_104 ex_104 => ?_)
                rw [r2] at ex_104
                subst ex_104
                refine lv_if_eq (tgt := 113) hx hb dX8_byList_105 (by decide) (fun c_105 => ?_) (fun c_105 => ?_)
                · skip
                  refine lv_iconst (v := 0) hx hb dX8_byList_113 (by decide) ?_
                  refine lv_ior hx hb dX8_byList_114 ?_
                  refine lv_istore hx hb dX8_byList_115 hl (by decide) rfl (fun ls hl => ?_)
                  have hl : lv_has ls 9 [(4, _), (8, _), (6, _), (0, .ref y), (1, .int (nI i)), (2, .int inw), (3, .int x), (5, .int o), (7, .int (nI (12 * i + j)))] := hl
                  refine lv_iload hx hb dX8_byList_117 (lv_at hl 7 rfl) ?_
                  refine lv_iload hx hb dX8_byList_119 (lv_at hl 1 rfl) ?_
                  refine lv_iconst (v := -1) hx hb dX8_byList_121 (by decide) ?_
                  refine lv_ixor hx hb dX8_byList_122 ?_
                  refine lv_iand hx hb dX8_byList_123 ?_
                  refine lv_istore hx hb dX8_byList_124 hl (by decide) rfl (fun ls hl => ?_)
                  have hl : lv_has ls 9 [(5, _), (4, _), (8, _), (6, _), (0, .ref y), (1, .int (nI i)), (2, .int inw), (3, .int x), (7, .int (nI (12 * i + j)))] := hl
                  refine lv_iinc (v := nI (12 * i + (j + 1))) hx hb dX8_byList_126 hl (k := 8) rfl (nI_1 (12 * i + j)) (by decide) rfl (fun ls hl => ?_)
                  have hl : lv_has ls 9 [(7, .int (nI (12 * i + (j + 1)))), (5, _), (4, _), (8, _), (6, _), (0, .ref y), (1, .int (nI i)), (2, .int inw), (3, .int x)] := hl
                  refine lv_goto (tgt := 16) hx hb dX8_byList_129 (by decide) ?_
                  exact ih_16 (j + 1) _ _ _ H _ ls (by omega) (by rw [← hacc, zmlp, e_k, e_i]; first | rw [if_pos c_105] | rw [if_neg c_105]) (by omega) hw (lv_sub hl [5, 6, 7, 8, 2, 1, 4, 0] rfl)
                · skip
                  refine lv_iload hx hb dX8_byList_108 (lv_at hl 0 rfl) ?_
                  refine lv_goto (tgt := 114) hx hb dX8_byList_110 (by decide) ?_
                  refine lv_ior hx hb dX8_byList_114 ?_
                  refine lv_istore hx hb dX8_byList_115 hl (by decide) rfl (fun ls hl => ?_)
                  have hl : lv_has ls 9 [(4, _), (8, _), (6, _), (0, .ref y), (1, .int (nI i)), (2, .int inw), (3, .int x), (5, .int o), (7, .int (nI (12 * i + j)))] := hl
                  refine lv_iload hx hb dX8_byList_117 (lv_at hl 7 rfl) ?_
                  refine lv_iload hx hb dX8_byList_119 (lv_at hl 1 rfl) ?_
                  refine lv_iconst (v := -1) hx hb dX8_byList_121 (by decide) ?_
                  refine lv_ixor hx hb dX8_byList_122 ?_
                  refine lv_iand hx hb dX8_byList_123 ?_
                  refine lv_istore hx hb dX8_byList_124 hl (by decide) rfl (fun ls hl => ?_)
                  have hl : lv_has ls 9 [(5, _), (4, _), (8, _), (6, _), (0, .ref y), (1, .int (nI i)), (2, .int inw), (3, .int x), (7, .int (nI (12 * i + j)))] := hl
                  refine lv_iinc (v := nI (12 * i + (j + 1))) hx hb dX8_byList_126 hl (k := 8) rfl (nI_1 (12 * i + j)) (by decide) rfl (fun ls hl => ?_)
                  have hl : lv_has ls 9 [(7, .int (nI (12 * i + (j + 1)))), (5, _), (4, _), (8, _), (6, _), (0, .ref y), (1, .int (nI i)), (2, .int inw), (3, .int x)] := hl
                  refine lv_goto (tgt := 16) hx hb dX8_byList_129 (by decide) ?_
                  exact ih_16 (j + 1) _ _ _ H _ ls (by omega) (by rw [← hacc, zmlp, e_k, e_i]; first | rw [if_pos c_105] | rw [if_neg c_105]) (by omega) hw (lv_sub hl [5, 6, 7, 8, 2, 1, 4, 0] rfl)
  exact loop_16 ((v.2.2.1.length - 0) + 1) 0 65535 0 0 _ _ ls (Nat.zero_le _) rfl (Nat.lt_succ_self _) hw (lv_sub hl [4, 5, 6, 7, 3, 2, 1, 0] rfl)

