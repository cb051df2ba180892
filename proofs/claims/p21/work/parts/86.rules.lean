/-! the law's rules of groups -/
theorem zmod_ne {i t n : Nat} (hi : i < n) (ht : t < n - 1) : (i + 1 + t) % n < n ∧ ¬ i = (i + 1 + t) % n := by
  rcases Nat.lt_or_ge (i + 1 + t) n with h | h
  · rw [Nat.mod_eq_of_lt h]
    omega
  · rw [Nat.mod_eq_sub_mod h, Nat.mod_eq_of_lt (by omega)]
    omega
theorem zmod_lt {a n : Nat} (h : 0 < n) : a % n < n := Nat.mod_lt a h
set_option maxRecDepth 100000 in
set_option maxHeartbeats 4000000 in
theorem c_L_rules (E : zG) (l : Launch) (hl0 : l.stackTraces = false) (x o : Nat) (f : Nat → Int32) (Y : va_W) (C : zLs) (V : zCl) (hrc : zRC Y C x V) (hL : zLw V f) (a b : Nat) (ha : a < 2 ^ 31) (hb0 : b < 2 ^ 31) : Met l yL_rules wsL_rules (zR 9 100 1000) (zPre E [.ref x, .ref o, .int (nI a), .int (nI b)] (zQ E ([(o, zci E f)] ++ Y) C)) (zqL E x o) 100 1000 (eA E) := by
  refine z_of (cc := cL_rules) (maxL := 12) (ret := (some .boolean)) (by decide) rfl rfl (Nat.le_of_ble_eq_true rfl) ?_
  intro p e s m below meth c ls Cx hr hnm hw hl
  have hx := Cx.1.1
  have hb := Cx.1.2.1
  have hL2 := hL
  obtain ⟨⟨hI, hN, hS6, hS, hH8, hG6, hG10⟩, g0, g1, g2, g3, g4, g5⟩ := hL2
  obtain ⟨xf, hx0⟩ := hrc.x
  have hl : lv_has ls 12 [(0, .ref x), (1, .ref o), (2, .int (nI a)), (3, .int (nI b))] := hl
  have cut_17 : ∀ (gr : Nat) (H : Heap) (locs : List Loc) (ls : Array Slot), (gr < 6) → (¬ (vG V).length = 0 → gr < (vG V).length) → zHA E ([(o, zci E f)] ++ Y) C s H locs → lv_has ls 12 [(0, .ref x), (1, .ref o), (2, .int (nI a)), (3, .int (nI b)), (4, .int (nI gr))] → W p l e (zR 9 100 1000) s m ([.ref x, .ref o, .int (nI a), .int (nI b)] : List Value).toArray below meth c H locs 0 0 (MQ below (zqL E x o) ([.ref x, .ref o, .int (nI a), .int (nI b)] : List Value).toArray s 100 1000 (eA E)) (F0 m 17 ls []) := by
    intro gr H locs ls hgr hgn hw hl
    refine lv_aload_n hx hb dL_rules_17 rfl (lv_at hl 1 rfl) ?_
    refine lv_iconst (v := nI 1) hx hb dL_rules_18 rfl ?_
    refine zc_iald Cx hw (by omega) (v := nI ((vG V).length)) g1 dL_rules_19 ?_
    refine lv_if_eq (tgt := 42) hx hb dL_rules_20 (by decide) (fun c_20 => ?_) (fun c_20 => ?_)
    · skip
      have n_20 : ((vG V).length) = 0 := (nI_eq (b := 0) (by omega) (by omega)).mp c_20
      refine lv_aload_n hx hb dL_rules_42 rfl (lv_at hl 1 rfl) ?_
      refine lv_bipush (v := nI 28) hx hb dL_rules_43 rfl ?_
      refine lv_iload hx hb dL_rules_45 (lv_at hl 4 rfl) ?_
      refine lv_iadd hx hb dL_rules_47 ?_
      refine lv_topi (fun q_47 e_47 => ?_)
      rw [nI_add] at e_47
      subst e_47
      have hle2 := zgl_le hL gr
      refine zc_iald Cx hw (by omega) (v := nI (zgl V gr)) (g4 gr hgr) dL_rules_48 ?_
      refine lv_bipush (v := nI 10) hx hb dL_rules_49 rfl ?_
      refine lv_icmp_gt (tgt := 58) hx hb dL_rules_51 (by decide) (fun c_51 => ?_) (fun c_51 => ?_)
      · skip
        have n_51 : 10 < (zgl V gr) := (nI_ltI (by omega) (by omega)).mp c_51
        omega
      · skip
        have n_51 : ¬ 10 < (zgl V gr) := fun h => c_51 ((nI_ltI (by omega) (by omega)).mpr h)
        refine lv_iconst (v := nI 1) hx hb dL_rules_54 rfl ?_
        refine lv_goto (tgt := 59) hx hb dL_rules_55 (by decide) ?_
        exact z_iret (wf := fun (u : zUw) => zQ E ([(o, zci E u.2.1)] ++ u.1.1) u.1.2) Cx hr rfl (Nat.le_of_ble_eq_true rfl) (Nat.le_of_ble_eq_true rfl) ((Y, C), f, V) hw ⟨rfl, hrc, hL⟩ dL_rules_59
    · skip
      have n_20 : ¬ ((vG V).length) = 0 := fun h => c_20 ((nI_eq (b := 0) (by omega) (by omega)).mpr h)
      refine lv_aload_n hx hb dL_rules_23 rfl (lv_at hl 1 rfl) ?_
      refine lv_bipush (v := nI 28) hx hb dL_rules_24 rfl ?_
      refine lv_iload hx hb dL_rules_26 (lv_at hl 4 rfl) ?_
      refine lv_iadd hx hb dL_rules_28 ?_
      refine lv_topi (fun q_28 e_28 => ?_)
      rw [nI_add] at e_28
      subst e_28
      have hle := zgl_le hL gr
      refine zc_iald Cx hw (by omega) (v := nI (zgl V gr)) (g4 gr hgr) dL_rules_29 ?_
      refine lv_bipush (v := nI 10) hx hb dL_rules_30 rfl ?_
      refine lv_icmp_eq (tgt := 42) hx hb dL_rules_32 (by decide) (fun c_32 => ?_) (fun c_32 => ?_)
      · skip
        have n_32 : (zgl V gr) = 10 := (nI_eq (by omega) (by omega)).mp c_32
        refine lv_aload_n hx hb dL_rules_42 rfl (lv_at hl 1 rfl) ?_
        refine lv_bipush (v := nI 28) hx hb dL_rules_43 rfl ?_
        refine lv_iload hx hb dL_rules_45 (lv_at hl 4 rfl) ?_
        refine lv_iadd hx hb dL_rules_47 ?_
        refine lv_topi (fun q_47 e_47 => ?_)
        rw [nI_add] at e_47
        subst e_47
        have hle2 := zgl_le hL gr
        refine zc_iald Cx hw (by omega) (v := nI (zgl V gr)) (g4 gr hgr) dL_rules_48 ?_
        refine lv_bipush (v := nI 10) hx hb dL_rules_49 rfl ?_
        refine lv_icmp_gt (tgt := 58) hx hb dL_rules_51 (by decide) (fun c_51 => ?_) (fun c_51 => ?_)
        · skip
          have n_51 : 10 < (zgl V gr) := (nI_ltI (by omega) (by omega)).mp c_51
          omega
        · skip
          have n_51 : ¬ 10 < (zgl V gr) := fun h => c_51 ((nI_ltI (by omega) (by omega)).mpr h)
          refine lv_iconst (v := nI 1) hx hb dL_rules_54 rfl ?_
          refine lv_goto (tgt := 59) hx hb dL_rules_55 (by decide) ?_
          exact z_iret (wf := fun (u : zUw) => zQ E ([(o, zci E u.2.1)] ++ u.1.1) u.1.2) Cx hr rfl (Nat.le_of_ble_eq_true rfl) (Nat.le_of_ble_eq_true rfl) ((Y, C), f, V) hw ⟨rfl, hrc, hL⟩ dL_rules_59
      · skip
        have n_32 : ¬ (zgl V gr) = 10 := fun h => c_32 ((nI_eq (by omega) (by omega)).mpr h)
        refine lv_aload_n hx hb dL_rules_35 rfl (lv_at hl 1 rfl) ?_
        refine lv_iconst (v := nI 0) hx hb dL_rules_36 rfl ?_
        refine zc_iald Cx hw (by omega) (v := nI ((vH V).length)) g0 dL_rules_37 ?_
        refine lv_iconst (v := nI 2) hx hb dL_rules_38 rfl ?_
        refine lv_icmp_ge (tgt := 60) hx hb dL_rules_39 (by decide) (fun c_39 => ?_) (fun c_39 => ?_)
        · skip
          have n_39 : 2 ≤ ((vH V).length) := (nI_leI (by omega) (by omega)).mp c_39
          obtain ⟨v, hv⟩ : ∃ v, (vG V)[gr]? = some v := ⟨_, List.getElem?_eq_getElem (hgn n_20)⟩
          have hvl := zgl_get hv
          have hv10 : v.length < 10 := by omega
          have cut_89 : ∀ (K : Nat) (H : Heap) (locs : List Loc) (ls : Array Slot), (K ≤ 10) → zHA E ([(o, zci E f)] ++ Y) C s H locs → lv_has ls 12 [(0, .ref x), (1, .ref o), (2, .int (nI a)), (3, .int (nI b)), (4, .int (nI gr)), (5, .int (nI K))] → W p l e (zR 9 100 1000) s m ([.ref x, .ref o, .int (nI a), .int (nI b)] : List Value).toArray below meth c H locs 0 0 (MQ below (zqL E x o) ([.ref x, .ref o, .int (nI a), .int (nI b)] : List Value).toArray s 100 1000 (eA E)) (F0 m 89 ls []) := by
            intro K H locs ls hK hw hl
            refine lv_iload_n hx hb dL_rules_89 rfl (lv_at hl 3 rfl) ?_
            refine lv_bipush (v := nI 11) hx hb dL_rules_90 rfl ?_
            refine lv_idiv hx hb dL_rules_92 (nI_ne0 (by omega) (by omega)) ?_
            refine lv_topi (fun q_92 e_92 => ?_)
            rw [pk_div (by omega) (by omega) (by omega)] at e_92
            subst e_92
            refine lv_sipush (v := nI 1024) hx hb dL_rules_93 rfl ?_
            refine lv_irem hx hb dL_rules_96 (nI_ne0 (by omega) (by omega)) ?_
            refine lv_topi (fun q_96 e_96 => ?_)
            rw [pk_rem (by omega) (by omega) (by omega)] at e_96
            subst e_96
            refine lv_iload hx hb dL_rules_97 (lv_at hl 5 rfl) ?_
            refine lv_ishr hx hb dL_rules_99 ?_
            refine lv_iload hx hb dL_rules_100 (lv_at hl 5 rfl) ?_
            refine lv_ishl hx hb dL_rules_102 ?_
            refine lv_topi (fun q_102 e_102 => ?_)
            have f_102 : q_102 = nI (b / 11 % 1024 / 2 ^ K * 2 ^ K) := by
              rw [e_102]; exact (zsh_blk (by omega) hK).1
            clear e_102
            subst f_102
            obtain ⟨B, eB⟩ : ∃ B : Nat, B = b / 11 % 1024 / 2 ^ K * 2 ^ K := ⟨_, rfl⟩
            rw [← eB]
            have hBk : zbok (nI B) (nI K) := by rw [eB]; exact (zsh_blk (by omega) hK).2
            refine lv_istore hx hb dL_rules_103 hl (by decide) rfl (fun ls hl => ?_)
            have hl : lv_has ls 12 [(6, .int (nI B)), (0, .ref x), (1, .ref o), (2, .int (nI a)), (3, .int (nI b)), (4, .int (nI gr)), (5, .int (nI K))] := hl
            refine lv_iload_n hx hb dL_rules_105 rfl (lv_at hl 4 rfl) ?_
            refine lv_sipush (v := nI 11264) hx hb dL_rules_106 rfl ?_
            refine lv_idiv hx hb dL_rules_109 (nI_ne0 (by omega) (by omega)) ?_
            refine lv_topi (fun q_109 e_109 => ?_)
            rw [pk_div (by omega) (by omega) (by omega)] at e_109
            subst e_109
            refine lv_bipush (v := nI 16) hx hb dL_rules_110 rfl ?_
            refine lv_irem hx hb dL_rules_112 (nI_ne0 (by omega) (by omega)) ?_
            refine lv_topi (fun q_112 e_112 => ?_)
            rw [pk_rem (by omega) (by omega) (by omega)] at e_112
            subst e_112
            obtain ⟨F, eF⟩ : ∃ F : Nat, F = (b / 11264) % 16 := ⟨_, rfl⟩
            rw [← eF]
            have hF : F < 16 := by omega
            refine lv_istore hx hb dL_rules_113 hl (by decide) rfl (fun ls hl => ?_)
            have hl : lv_has ls 12 [(7, .int (nI F)), (6, .int (nI B)), (0, .ref x), (1, .ref o), (2, .int (nI a)), (3, .int (nI b)), (4, .int (nI gr)), (5, .int (nI K))] := hl
            refine lv_iload_n hx hb dL_rules_115 rfl (lv_at hl 4 rfl) ?_
            refine lv_aload_n hx hb dL_rules_116 rfl (lv_at hl 3 rfl) ?_
            refine lv_iconst (v := nI 0) hx hb dL_rules_117 rfl ?_
            refine zc_iald Cx hw (by omega) (v := nI ((vH V).length)) g0 dL_rules_118 ?_
            refine lv_irem hx hb dL_rules_119 (nI_ne0 (by omega) (by omega)) ?_
            refine lv_topi (fun q_119 e_119 => ?_)
            rw [pk_rem (by omega) (by omega) (by omega)] at e_119
            subst e_119
            obtain ⟨i0, ei0⟩ : ∃ i0 : Nat, i0 = a % ((vH V).length) := ⟨_, rfl⟩
            rw [← ei0]
            have hi0 : i0 < (vH V).length := by rw [ei0]; exact zmod_lt (by omega)
            refine lv_istore hx hb dL_rules_120 hl (by decide) rfl (fun ls hl => ?_)
            have hl : lv_has ls 12 [(8, .int (nI i0)), (7, .int (nI F)), (6, .int (nI B)), (0, .ref x), (1, .ref o), (2, .int (nI a)), (3, .int (nI b)), (4, .int (nI gr)), (5, .int (nI K))] := hl
            refine lv_iload hx hb dL_rules_122 (lv_at hl 0 rfl) ?_
            refine lv_iconst (v := nI 1) hx hb dL_rules_124 rfl ?_
            refine lv_iadd hx hb dL_rules_125 ?_
            refine lv_topi (fun q_125 e_125 => ?_)
            rw [nI_add] at e_125
            subst e_125
            refine lv_iload_n hx hb dL_rules_126 rfl (lv_at hl 6 rfl) ?_
            refine lv_aload_n hx hb dL_rules_127 rfl (lv_at hl 4 rfl) ?_
            refine lv_iconst (v := nI 0) hx hb dL_rules_128 rfl ?_
            refine zc_iald Cx hw (by omega) (v := nI ((vH V).length)) g0 dL_rules_129 ?_
            refine lv_iconst (v := nI 1) hx hb dL_rules_130 rfl ?_
            refine lv_isub hx hb dL_rules_131 ?_
            refine lv_topi (fun q_131 e_131 => ?_)
            rw [pk_sub (by omega)] at e_131
            subst e_131
            refine lv_irem hx hb dL_rules_132 (nI_ne0 (by omega) (by omega)) ?_
            refine lv_topi (fun q_132 e_132 => ?_)
            rw [pk_rem (by omega) (by omega) (by omega)] at e_132
            subst e_132
            obtain ⟨t0, et0⟩ : ∃ t0 : Nat, t0 = b % (((vH V).length) - 1) := ⟨_, rfl⟩
            rw [← et0]
            have ht0 : t0 < (vH V).length - 1 := by rw [et0]; exact zmod_lt (by omega)
            refine lv_iadd hx hb dL_rules_133 ?_
            refine lv_topi (fun q_133 e_133 => ?_)
            rw [nI_add] at e_133
            subst e_133
            refine lv_aload_n hx hb dL_rules_134 rfl (lv_at hl 4 rfl) ?_
            refine lv_iconst (v := nI 0) hx hb dL_rules_135 rfl ?_
            refine zc_iald Cx hw (by omega) (v := nI ((vH V).length)) g0 dL_rules_136 ?_
            refine lv_irem hx hb dL_rules_137 (nI_ne0 (by omega) (by omega)) ?_
            refine lv_topi (fun q_137 e_137 => ?_)
            rw [pk_rem (by omega) (by omega) (by omega)] at e_137
            subst e_137
            obtain ⟨j0, ej0⟩ : ∃ j0 : Nat, j0 = ((i0 + 1) + t0) % ((vH V).length) := ⟨_, rfl⟩
            rw [← ej0]
            have hj0 : j0 < (vH V).length ∧ ¬ i0 = j0 := by rw [ej0]; exact zmod_ne hi0 ht0
            refine lv_istore hx hb dL_rules_138 hl (by decide) rfl (fun ls hl => ?_)
            have hl : lv_has ls 12 [(9, .int (nI j0)), (8, .int (nI i0)), (7, .int (nI F)), (6, .int (nI B)), (0, .ref x), (1, .ref o), (2, .int (nI a)), (3, .int (nI b)), (4, .int (nI gr)), (5, .int (nI K))] := hl
            refine lv_aload_n hx hb dL_rules_140 rfl (lv_at hl 4 rfl) ?_
            refine lv_iload hx hb dL_rules_141 (lv_at hl 1 rfl) ?_
            refine lv_iload hx hb dL_rules_143 (lv_at hl 0 rfl) ?_
            refine z_goe hw.2 (z_runV Cx hw (c_q_ports E l _ C x V hl0 (hrc.grow (fun q hq => List.mem_append_right _ hq)) i0 j0 hi0 hj0.1 hj0.2 (by omega)) (cwV 2 Cx.1.2.2.2.2 gL_rules_X7_ports rfl rfl rfl (by decide +kernel) ⟨(Nat.le_of_ble_eq_true rfl), (Nat.le_of_ble_eq_true rfl)⟩) (z_recv Cx hw (r := (RX7, TX7, 5)) (List.mem_append_right _ hx0) rfl) rfl hl.1 rfl (Nat.le_of_ble_eq_true rfl) dL_rules_145 ⟨(Nat.le_of_ble_eq_true rfl), (Nat.le_of_ble_eq_true rfl)⟩) (fun H locs hw => ?_)
            refine lv_istore hx hb dL_rules_148 hl (by decide) rfl (fun ls hl => ?_)
            have hl : lv_has ls 12 [(10, .int (zworkV V i0 j0)), (9, .int (nI j0)), (8, .int (nI i0)), (7, .int (nI F)), (6, .int (nI B)), (0, .ref x), (1, .ref o), (2, .int (nI a)), (3, .int (nI b)), (4, .int (nI gr)), (5, .int (nI K))] := hl
            refine lv_aload_n hx hb dL_rules_150 rfl (lv_at hl 6 rfl) ?_
            refine lv_bipush (v := nI 28) hx hb dL_rules_151 rfl ?_
            refine lv_iload hx hb dL_rules_153 (lv_at hl 9 rfl) ?_
            refine lv_iadd hx hb dL_rules_155 ?_
            refine lv_topi (fun q_155 e_155 => ?_)
            rw [nI_add] at e_155
            subst e_155
            refine lv_dup2_11 hx hb dL_rules_156 rfl rfl ?_
            refine zc_iald Cx hw (by omega) (v := nI v.length) ((g4 gr hgr).trans (by rw [hvl])) dL_rules_157 ?_
            refine lv_iconst (v := nI 1) hx hb dL_rules_158 rfl ?_
            refine lv_iadd hx hb dL_rules_159 ?_
            refine lv_topi (fun q_159 e_159 => ?_)
            rw [nI_add] at e_159
            subst e_159
            refine zc_iast Cx hw (by omega) dL_rules_160 (fun H locs hw => ?_)
            have hw : zHA E ([(o, zci E (upd f (28 + gr) (nI (v.length + 1))))] ++ Y) C s H locs := hw
            refine lv_aload_n hx hb dL_rules_161 rfl (lv_at hl 5 rfl) ?_
            refine lv_iload hx hb dL_rules_162 (lv_at hl 9 rfl) ?_
            refine lv_iload_n hx hb dL_rules_164 rfl (lv_at hl 7 rfl) ?_
            refine lv_bipush (v := nI 6) hx hb dL_rules_165 rfl ?_
            refine lv_idiv hx hb dL_rules_167 (nI_ne0 (by omega) (by omega)) ?_
            refine lv_topi (fun q_167 e_167 => ?_)
            rw [pk_div (by omega) (by omega) (by omega)] at e_167
            subst e_167
            refine lv_iconst (v := nI 2) hx hb dL_rules_168 rfl ?_
            refine lv_irem hx hb dL_rules_169 (nI_ne0 (by omega) (by omega)) ?_
            refine lv_topi (fun q_169 e_169 => ?_)
            rw [pk_rem (by omega) (by omega) (by omega)] at e_169
            subst e_169
            refine zl_bne Cx dL_rules_170 dL_rules_173 dL_rules_174 dL_rules_177 ?_
            obtain ⟨i1, ei1⟩ : ∃ i1 : Bool, i1 = decide (nI (a / 6 % 2) = 0) := ⟨_, rfl⟩
            rw [← ei1]
            skip
            refine lv_iload hx hb dL_rules_178 (lv_at hl 4 rfl) ?_
            refine lv_iload hx hb dL_rules_180 (lv_at hl 10 rfl) ?_
            refine lv_iload hx hb dL_rules_182 (lv_at hl 3 rfl) ?_
            refine lv_iload hx hb dL_rules_184 (lv_at hl 3 rfl) ?_
            refine lv_iload_n hx hb dL_rules_186 rfl (lv_at hl 7 rfl) ?_
            refine lv_bipush (v := nI 12) hx hb dL_rules_187 rfl ?_
            refine lv_idiv hx hb dL_rules_189 (nI_ne0 (by omega) (by omega)) ?_
            refine lv_topi (fun q_189 e_189 => ?_)
            rw [pk_div (by omega) (by omega) (by omega)] at e_189
            subst e_189
            refine lv_bipush (v := nI 16) hx hb dL_rules_190 rfl ?_
            refine lv_iload hx hb dL_rules_192 (lv_at hl 3 rfl) ?_
            refine lv_isub hx hb dL_rules_194 ?_
            refine lv_topi (fun q_194 e_194 => ?_)
            rw [pk_sub (by omega)] at e_194
            subst e_194
            refine lv_irem hx hb dL_rules_195 (nI_ne0 (by omega) (by omega)) ?_
            refine lv_topi (fun q_195 e_195 => ?_)
            rw [pk_rem (by omega) (by omega) (by omega)] at e_195
            subst e_195
            obtain ⟨t1, et1⟩ : ∃ t1 : Nat, t1 = (a / 12) % (16 - F) := ⟨_, rfl⟩
            rw [← et1]
            have ht1 : t1 < 16 - F := by rw [et1]; exact zmod_lt (by omega)
            refine lv_iadd hx hb dL_rules_196 ?_
            refine lv_topi (fun q_196 e_196 => ?_)
            rw [nI_add] at e_196
            subst e_196
            obtain ⟨La, eLa⟩ : ∃ La : Nat, La = F + t1 := ⟨_, rfl⟩
            rw [← eLa]
            have hLa : F ≤ La ∧ La < 16 := by omega
            refine z_goi (wf := fun (u : va_W × zLs) => zQ E ([(o, zci E (upd f (28 + gr) (nI (v.length + 1))))] ++ u.1) u.2) hw.2 (z_runV Cx hw (c_q_allow E l [(o, zci E (upd f (28 + gr) (nI (v.length + 1))))] Y C x V hl0 hrc gr v i1 (nI B) (nI K) (nI F) (nI La) hv hBk (zpok_n hLa.1 hLa.2) hv10 (by omega)) (cwV 6 Cx.1.2.2.2.2 gL_rules_X7_allow rfl rfl rfl (by decide +kernel) ⟨(Nat.le_of_ble_eq_true rfl), (Nat.le_of_ble_eq_true rfl)⟩) (z_recv Cx hw (r := (RX7, TX7, 5)) (List.mem_append_right _ hx0) rfl) rfl hl.1 rfl (Nat.le_of_ble_eq_true rfl) dL_rules_197 ⟨(Nat.le_of_ble_eq_true rfl), (Nat.le_of_ble_eq_true rfl)⟩) (fun r_197 u_197 H locs hp hw => ?_)
            obtain ⟨Y_197, C_197⟩ := u_197
            obtain ⟨hr_197, hrc⟩ := hp
            have hr_197 : r_197 = nI (v.length + 1) := hr_197
            subst hr_197
            obtain ⟨V1, eV1⟩ : ∃ V9 : zCl, V9 = ((vN V, vS V, vH V, vP V, (vG V).set gr (v ++ [(zb i1, zb true, (nI B, nI K), zps (nI F) (nI La))])) : zCl) := ⟨_, rfl⟩
            have hrc : zRC Y_197 C_197 x V1 := by rw [eV1]; exact hrc
            have hw : zHA E ([(o, zci E (upd f (28 + gr) (nI (v.length + 1))))] ++ Y_197) C_197 s H locs := hw
            obtain ⟨xf, hx0⟩ := hrc.x
            have hL1 : zLw V1 (upd f (28 + gr) (nI (v.length + 1))) := by rw [eV1]; exact zLw_allow hL hv hBk (zpok_n hLa.1 hLa.2) hv10
            have hnH : (vH V1).length = (vH V).length := by rw [eV1]
            refine lv_aload_n hx hb dL_rules_200 rfl (lv_at hl 6 rfl) ?_
            refine lv_bipush (v := nI 28) hx hb dL_rules_201 rfl ?_
            refine lv_iload hx hb dL_rules_203 (lv_at hl 9 rfl) ?_
            refine lv_iadd hx hb dL_rules_205 ?_
            refine lv_topi (fun q_205 e_205 => ?_)
            rw [nI_add] at e_205
            subst e_205
            refine zc_iald Cx hw (by omega) (v := nI (v.length + 1)) pk_us dL_rules_206 ?_
            refine lv_icmp_ne (tgt := 214) hx hb dL_rules_207 (by decide) (fun c_207 => ?_) (fun c_207 => ?_)
            · skip
              have n_207 : ¬ (v.length + 1) = (v.length + 1) := fun h => c_207 ((nI_eq (by omega) (by omega)).mpr h)
              exact absurd rfl n_207
            · skip
              have n_207 : (v.length + 1) = (v.length + 1) := (nI_eq (by omega) (by omega)).mp c_207
              refine lv_iconst (v := nI 1) hx hb dL_rules_210 rfl ?_
              refine lv_goto (tgt := 215) hx hb dL_rules_211 (by decide) ?_
              refine lv_istore hx hb dL_rules_215 hl (by decide) rfl (fun ls hl => ?_)
              have hl : lv_has ls 12 [(11, .int (nI 1)), (10, .int (zworkV V i0 j0)), (9, .int (nI j0)), (8, .int (nI i0)), (7, .int (nI F)), (6, .int (nI B)), (0, .ref x), (1, .ref o), (2, .int (nI a)), (3, .int (nI b)), (4, .int (nI gr)), (5, .int (nI K))] := hl
              refine lv_iload hx hb dL_rules_217 (lv_at hl 0 rfl) ?_
              refine lv_if_eq (tgt := 242) hx hb dL_rules_219 (by decide) (fun c_219 => ?_) (fun c_219 => ?_)
              · skip
                have n_219 : 1 = 0 := (nI_eq (b := 0) (by omega) (by omega)).mp c_219
                omega
              · skip
                have n_219 : ¬ 1 = 0 := fun h => c_219 ((nI_eq (b := 0) (by omega) (by omega)).mpr h)
                refine lv_iload hx hb dL_rules_222 (lv_at hl 1 rfl) ?_
                refine lv_aload_n hx hb dL_rules_224 rfl (lv_at hl 6 rfl) ?_
                refine lv_iload hx hb dL_rules_225 (lv_at hl 3 rfl) ?_
                refine lv_iload hx hb dL_rules_227 (lv_at hl 2 rfl) ?_
                refine z_goe hw.2 (z_runV Cx hw (c_q_ports E l _ C_197 x V1 hl0 (hrc.grow (fun q hq => List.mem_append_right _ hq)) i0 j0 (by omega) (by omega) hj0.2 (by omega)) (cwV 2 Cx.1.2.2.2.2 gL_rules_X7_ports rfl rfl rfl (by decide +kernel) ⟨(Nat.le_of_ble_eq_true rfl), (Nat.le_of_ble_eq_true rfl)⟩) (z_recv Cx hw (r := (RX7, TX7, 5)) (List.mem_append_right _ hx0) rfl) rfl hl.1 rfl (Nat.le_of_ble_eq_true rfl) dL_rules_229 ⟨(Nat.le_of_ble_eq_true rfl), (Nat.le_of_ble_eq_true rfl)⟩) (fun H locs hw => ?_)
                refine lv_iconst (v := (-1)) hx hb dL_rules_232 rfl ?_
                refine lv_ixor hx hb dL_rules_233 ?_
                refine lv_iand hx hb dL_rules_234 ?_
                refine lv_if_ne (tgt := 242) hx hb dL_rules_235 (by decide) (fun c_235 => ?_) (fun c_235 => ?_)
                · skip
                  exact absurd (by rw [eV1]; exact zwork_set hv i0 j0) c_235
                · skip
                  refine lv_iconst (v := nI 1) hx hb dL_rules_238 rfl ?_
                  refine lv_goto (tgt := 243) hx hb dL_rules_239 (by decide) ?_
                  exact z_iret (wf := fun (u : zUw) => zQ E ([(o, zci E u.2.1)] ++ u.1.1) u.1.2) Cx hr rfl (Nat.le_of_ble_eq_true rfl) (Nat.le_of_ble_eq_true rfl) ((Y_197, C_197), (upd f (28 + gr) (nI (v.length + 1))), V1) hw ⟨rfl, hrc, hL1⟩ dL_rules_243
          refine lv_iload_n hx hb dL_rules_60 rfl (lv_at hl 3 rfl) ?_
          refine lv_iload_n hx hb dL_rules_61 rfl (lv_at hl 2 rfl) ?_
          refine lv_iconst (v := nI 2) hx hb dL_rules_62 rfl ?_
          refine lv_irem hx hb dL_rules_63 (nI_ne0 (by omega) (by omega)) ?_
          refine lv_topi (fun q_63 e_63 => ?_)
          rw [pk_rem (by omega) (by omega) (by omega)] at e_63
          subst e_63
          refine lv_if_ne (tgt := 72) hx hb dL_rules_64 (by decide) (fun c_64 => ?_) (fun c_64 => ?_)
          · skip
            have n_64 : ¬ (a % 2) = 0 := fun h => c_64 ((nI_eq (b := 0) (by omega) (by omega)).mpr h)
            refine lv_iconst (v := nI 4) hx hb dL_rules_72 rfl ?_
            refine lv_irem hx hb dL_rules_73 (nI_ne0 (by omega) (by omega)) ?_
            refine lv_topi (fun q_73 e_73 => ?_)
            rw [pk_rem (by omega) (by omega) (by omega)] at e_73
            subst e_73
            refine lv_iload_n hx hb dL_rules_74 rfl (lv_at hl 2 rfl) ?_
            refine lv_iconst (v := nI 2) hx hb dL_rules_75 rfl ?_
            refine lv_irem hx hb dL_rules_76 (nI_ne0 (by omega) (by omega)) ?_
            refine lv_topi (fun q_76 e_76 => ?_)
            rw [pk_rem (by omega) (by omega) (by omega)] at e_76
            subst e_76
            refine lv_if_ne (tgt := 84) hx hb dL_rules_77 (by decide) (fun c_77 => ?_) (fun c_77 => ?_)
            · skip
              have n_77 : ¬ (a % 2) = 0 := fun h => c_77 ((nI_eq (b := 0) (by omega) (by omega)).mpr h)
              refine lv_bipush (v := nI 7) hx hb dL_rules_84 rfl ?_
              refine lv_iadd hx hb dL_rules_86 ?_
              refine lv_topi (fun q_86 e_86 => ?_)
              rw [nI_add] at e_86
              subst e_86
              refine lv_istore hx hb dL_rules_87 hl (by decide) rfl (fun ls hl => ?_)
              have hl : lv_has ls 12 [(5, .int (nI ((b % 4) + 7))), (0, .ref x), (1, .ref o), (2, .int (nI a)), (3, .int (nI b)), (4, .int (nI gr))] := hl
              exact cut_89 ((b % 4) + 7) _ _ ls (by omega) hw (lv_sub hl [1, 2, 3, 4, 5, 0] rfl)
            · skip
              have n_77 : (a % 2) = 0 := (nI_eq (b := 0) (by omega) (by omega)).mp c_77
              omega
          · skip
            have n_64 : (a % 2) = 0 := (nI_eq (b := 0) (by omega) (by omega)).mp c_64
            refine lv_bipush (v := nI 11) hx hb dL_rules_67 rfl ?_
            refine lv_goto (tgt := 73) hx hb dL_rules_69 (by decide) ?_
            refine lv_irem hx hb dL_rules_73 (nI_ne0 (by omega) (by omega)) ?_
            refine lv_topi (fun q_73 e_73 => ?_)
            rw [pk_rem (by omega) (by omega) (by omega)] at e_73
            subst e_73
            refine lv_iload_n hx hb dL_rules_74 rfl (lv_at hl 2 rfl) ?_
            refine lv_iconst (v := nI 2) hx hb dL_rules_75 rfl ?_
            refine lv_irem hx hb dL_rules_76 (nI_ne0 (by omega) (by omega)) ?_
            refine lv_topi (fun q_76 e_76 => ?_)
            rw [pk_rem (by omega) (by omega) (by omega)] at e_76
            subst e_76
            refine lv_if_ne (tgt := 84) hx hb dL_rules_77 (by decide) (fun c_77 => ?_) (fun c_77 => ?_)
            · skip
              have n_77 : ¬ (a % 2) = 0 := fun h => c_77 ((nI_eq (b := 0) (by omega) (by omega)).mpr h)
              omega
            · skip
              have n_77 : (a % 2) = 0 := (nI_eq (b := 0) (by omega) (by omega)).mp c_77
              refine lv_iconst (v := nI 0) hx hb dL_rules_80 rfl ?_
              refine lv_goto (tgt := 86) hx hb dL_rules_81 (by decide) ?_
              refine lv_iadd hx hb dL_rules_86 ?_
              refine lv_topi (fun q_86 e_86 => ?_)
              rw [nI_add] at e_86
              subst e_86
              refine lv_istore hx hb dL_rules_87 hl (by decide) rfl (fun ls hl => ?_)
              have hl : lv_has ls 12 [(5, .int (nI ((b % 11) + 0))), (0, .ref x), (1, .ref o), (2, .int (nI a)), (3, .int (nI b)), (4, .int (nI gr))] := hl
              exact cut_89 ((b % 11) + 0) _ _ ls (by omega) hw (lv_sub hl [1, 2, 3, 4, 5, 0] rfl)
        · skip
          have n_39 : ¬ 2 ≤ ((vH V).length) := fun h => c_39 ((nI_leI (by omega) (by omega)).mpr h)
          refine lv_aload_n hx hb dL_rules_42 rfl (lv_at hl 1 rfl) ?_
          refine lv_bipush (v := nI 28) hx hb dL_rules_43 rfl ?_
          refine lv_iload hx hb dL_rules_45 (lv_at hl 4 rfl) ?_
          refine lv_iadd hx hb dL_rules_47 ?_
          refine lv_topi (fun q_47 e_47 => ?_)
          rw [nI_add] at e_47
          subst e_47
          have hle2 := zgl_le hL gr
          refine zc_iald Cx hw (by omega) (v := nI (zgl V gr)) (g4 gr hgr) dL_rules_48 ?_
          refine lv_bipush (v := nI 10) hx hb dL_rules_49 rfl ?_
          refine lv_icmp_gt (tgt := 58) hx hb dL_rules_51 (by decide) (fun c_51 => ?_) (fun c_51 => ?_)
          · skip
            have n_51 : 10 < (zgl V gr) := (nI_ltI (by omega) (by omega)).mp c_51
            omega
          · skip
            have n_51 : ¬ 10 < (zgl V gr) := fun h => c_51 ((nI_ltI (by omega) (by omega)).mpr h)
            refine lv_iconst (v := nI 1) hx hb dL_rules_54 rfl ?_
            refine lv_goto (tgt := 59) hx hb dL_rules_55 (by decide) ?_
            exact z_iret (wf := fun (u : zUw) => zQ E ([(o, zci E u.2.1)] ++ u.1.1) u.1.2) Cx hr rfl (Nat.le_of_ble_eq_true rfl) (Nat.le_of_ble_eq_true rfl) ((Y, C), f, V) hw ⟨rfl, hrc, hL⟩ dL_rules_59
  refine lv_aload_n hx hb dL_rules_0 rfl (lv_at hl 1 rfl) ?_
  refine lv_iconst (v := nI 1) hx hb dL_rules_1 rfl ?_
  refine zc_iald Cx hw (by omega) (v := nI ((vG V).length)) g1 dL_rules_2 ?_
  refine lv_if_ne (tgt := 10) hx hb dL_rules_3 (by decide) (fun c_3 => ?_) (fun c_3 => ?_)
  · skip
    have n_3 : ¬ ((vG V).length) = 0 := fun h => c_3 ((nI_eq (b := 0) (by omega) (by omega)).mpr h)
    refine lv_iload_n hx hb dL_rules_10 rfl (lv_at hl 2 rfl) ?_
    refine lv_aload_n hx hb dL_rules_11 rfl (lv_at hl 1 rfl) ?_
    refine lv_iconst (v := nI 1) hx hb dL_rules_12 rfl ?_
    refine zc_iald Cx hw (by omega) (v := nI ((vG V).length)) g1 dL_rules_13 ?_
    have hm := zmod_lt (a := a) (n := (vG V).length) (by omega)
    refine lv_irem hx hb dL_rules_14 (nI_ne0 (by omega) (by omega)) ?_
    refine lv_topi (fun q_14 e_14 => ?_)
    rw [pk_rem (by omega) (by omega) (by omega)] at e_14
    subst e_14
    refine lv_istore hx hb dL_rules_15 hl (by decide) rfl (fun ls hl => ?_)
    have hl : lv_has ls 12 [(4, .int (nI (a % ((vG V).length)))), (0, .ref x), (1, .ref o), (2, .int (nI a)), (3, .int (nI b))] := hl
    exact cut_17 (a % ((vG V).length)) _ _ ls (by omega) (fun h => by omega) hw (lv_sub hl [1, 2, 3, 4, 0] rfl)
  · skip
    have n_3 : ((vG V).length) = 0 := (nI_eq (b := 0) (by omega) (by omega)).mp c_3
    refine lv_iconst (v := nI 0) hx hb dL_rules_6 rfl ?_
    refine lv_goto (tgt := 15) hx hb dL_rules_7 (by decide) ?_
    refine lv_istore hx hb dL_rules_15 hl (by decide) rfl (fun ls hl => ?_)
    have hl : lv_has ls 12 [(4, .int (nI 0)), (0, .ref x), (1, .ref o), (2, .int (nI a)), (3, .int (nI b))] := hl
    exact cut_17 0 _ _ ls (by omega) (fun h => by omega) hw (lv_sub hl [1, 2, 3, 4, 0] rfl)

