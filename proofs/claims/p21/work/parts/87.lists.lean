/-! the law's rules of lists -/
theorem z_insl {α : Type} (x : α) : ∀ l : List α, l.insertIdx l.length x = l ++ [x]
  | [] => rfl
  | a :: l => congrArg (fun q => a :: q) (z_insl x l)
set_option maxRecDepth 100000 in
set_option maxHeartbeats 4000000 in
theorem c_L_lists (E : zG) (l : Launch) (hl0 : l.stackTraces = false) (x o : Nat) (f : Nat → Int32) (Y : va_W) (C : zLs) (V : zCl) (hrc : zRC Y C x V) (hL : zLw V f) (a b : Nat) (ha : a < 2 ^ 31) (hb0 : b < 2 ^ 31) : Met l yL_lists wsL_lists (zR 9 100 1000) (zPre E [.ref x, .ref o, .int (nI a), .int (nI b)] (zQ E ([(o, zci E f)] ++ Y) C)) (zqL E x o) 100 1000 (eA E) := by
  refine z_of (cc := cL_lists) (maxL := 12) (ret := (some .boolean)) (by decide) rfl rfl (Nat.le_of_ble_eq_true rfl) ?_
  intro p e s m below meth c ls Cx hr hnm hw hl
  have hx := Cx.1.1
  have hb := Cx.1.2.1
  have hL2 := hL
  obtain ⟨⟨hI, hN, hS6, hS, hH8, hG6, hG10⟩, g0, g1, g2, g3, g4, g5⟩ := hL2
  obtain ⟨xf, hx0⟩ := hrc.x
  have hl : lv_has ls 12 [(0, .ref x), (1, .ref o), (2, .int (nI a)), (3, .int (nI b))] := hl
  refine lv_iload_n hx hb dL_lists_0 rfl (lv_at hl 2 rfl) ?_
  refine lv_bipush (v := nI 6) hx hb dL_lists_1 rfl ?_
  refine lv_irem hx hb dL_lists_3 (nI_ne0 (by omega) (by omega)) ?_
  refine lv_topi (fun q_3 e_3 => ?_)
  rw [pk_rem (by omega) (by omega) (by omega)] at e_3
  subst e_3
  obtain ⟨s0, es0⟩ : ∃ s0 : Nat, s0 = a % 6 := ⟨_, rfl⟩
  rw [← es0]
  have hs0 : s0 < 6 := by omega
  obtain ⟨v, hv, -, hSo, hIs⟩ := zL_net hL.1 hs0
  have hm12 : v.2.2.1.length ≤ 12 := hSo.2.2.1
  refine lv_istore hx hb dL_lists_4 hl (by decide) rfl (fun ls hl => ?_)
  have hl : lv_has ls 12 [(4, .int (nI s0)), (0, .ref x), (1, .ref o), (2, .int (nI a)), (3, .int (nI b))] := hl
  refine lv_aload_n hx hb dL_lists_6 rfl (lv_at hl 2 rfl) ?_
  refine lv_bipush (v := nI 34) hx hb dL_lists_7 rfl ?_
  refine lv_iload hx hb dL_lists_9 (lv_at hl 0 rfl) ?_
  refine lv_iadd hx hb dL_lists_11 ?_
  refine lv_topi (fun q_11 e_11 => ?_)
  rw [nI_add] at e_11
  subst e_11
  refine zc_iald Cx hw (by omega) (v := nI v.2.2.1.length) (g5 s0 v hv) dL_lists_12 ?_
  refine lv_istore hx hb dL_lists_13 hl (by decide) rfl (fun ls hl => ?_)
  have hl : lv_has ls 12 [(5, .int (nI v.2.2.1.length)), (4, .int (nI s0)), (0, .ref x), (1, .ref o), (2, .int (nI a)), (3, .int (nI b))] := hl
  refine lv_iload hx hb dL_lists_15 (lv_at hl 0 rfl) ?_
  refine lv_if_le (tgt := 26) hx hb dL_lists_17 (by decide) (fun c_17 => ?_) (fun c_17 => ?_)
  · skip
    have n_17 : v.2.2.1.length ≤ 0 := (nI_leI (b := 0) (by omega) (by omega)).mp c_17
    refine lv_iload hx hb dL_lists_26 (lv_at hl 0 rfl) ?_
    refine lv_bipush (v := nI 12) hx hb dL_lists_28 rfl ?_
    refine lv_icmp_ne (tgt := 70) hx hb dL_lists_30 (by decide) (fun c_30 => ?_) (fun c_30 => ?_)
    · skip
      have n_30 : ¬ v.2.2.1.length = 12 := fun h => c_30 ((nI_eq (by omega) (by omega)).mpr h)
      have hm11 : v.2.2.1.length < 12 := by omega
      refine lv_iload_n hx hb dL_lists_70 rfl (lv_at hl 5 rfl) ?_
      refine lv_iconst (v := nI 4) hx hb dL_lists_71 rfl ?_
      refine lv_idiv hx hb dL_lists_72 (nI_ne0 (by omega) (by omega)) ?_
      refine lv_topi (fun q_72 e_72 => ?_)
      rw [pk_div (by omega) (by omega) (by omega)] at e_72
      subst e_72
      refine lv_bipush (v := nI 11) hx hb dL_lists_73 rfl ?_
      refine lv_irem hx hb dL_lists_75 (nI_ne0 (by omega) (by omega)) ?_
      refine lv_topi (fun q_75 e_75 => ?_)
      rw [pk_rem (by omega) (by omega) (by omega)] at e_75
      subst e_75
      obtain ⟨K, eK⟩ : ∃ K : Nat, K = (b / 4) % 11 := ⟨_, rfl⟩
      rw [← eK]
      have hK : K ≤ 10 := by omega
      refine lv_istore hx hb dL_lists_76 hl (by decide) rfl (fun ls hl => ?_)
      have hl : lv_has ls 12 [(6, .int (nI K)), (5, .int (nI v.2.2.1.length)), (4, .int (nI s0)), (0, .ref x), (1, .ref o), (2, .int (nI a)), (3, .int (nI b))] := hl
      refine lv_iload_n hx hb dL_lists_78 rfl (lv_at hl 6 rfl) ?_
      refine lv_bipush (v := nI 44) hx hb dL_lists_79 rfl ?_
      refine lv_idiv hx hb dL_lists_81 (nI_ne0 (by omega) (by omega)) ?_
      refine lv_topi (fun q_81 e_81 => ?_)
      rw [pk_div (by omega) (by omega) (by omega)] at e_81
      subst e_81
      refine lv_sipush (v := nI 1024) hx hb dL_lists_82 rfl ?_
      refine lv_irem hx hb dL_lists_85 (nI_ne0 (by omega) (by omega)) ?_
      refine lv_topi (fun q_85 e_85 => ?_)
      rw [pk_rem (by omega) (by omega) (by omega)] at e_85
      subst e_85
      refine lv_iload hx hb dL_lists_86 (lv_at hl 0 rfl) ?_
      refine lv_ishr hx hb dL_lists_88 ?_
      refine lv_iload hx hb dL_lists_89 (lv_at hl 0 rfl) ?_
      refine lv_ishl hx hb dL_lists_91 ?_
      refine lv_topi (fun q_91 e_91 => ?_)
      have f_91 : q_91 = nI (b / 44 % 1024 / 2 ^ K * 2 ^ K) := by
        rw [e_91]; exact (zsh_blk (by omega) hK).1
      clear e_91
      subst f_91
      obtain ⟨B, eB⟩ : ∃ B : Nat, B = b / 44 % 1024 / 2 ^ K * 2 ^ K := ⟨_, rfl⟩
      rw [← eB]
      have hBk : zbok (nI B) (nI K) := by rw [eB]; exact (zsh_blk (by omega) hK).2
      refine lv_istore hx hb dL_lists_92 hl (by decide) rfl (fun ls hl => ?_)
      have hl : lv_has ls 12 [(7, .int (nI B)), (6, .int (nI K)), (5, .int (nI v.2.2.1.length)), (4, .int (nI s0)), (0, .ref x), (1, .ref o), (2, .int (nI a)), (3, .int (nI b))] := hl
      refine lv_iload_n hx hb dL_lists_94 rfl (lv_at hl 7 rfl) ?_
      refine lv_ldc hx hb Cx.1.2.2.2.1 (Cx.1.2.2.2.2 (Cond.constant RL 72 (45056)) (List.mem_of_getElem? (i := 1) rfl)) dL_lists_95 ?_
      refine lv_topi (fun q_95 e_95 => ?_)
      have f_95 : q_95 = nI 45056 := e_95
      clear e_95
      subst f_95
      refine lv_idiv hx hb dL_lists_97 (nI_ne0 (by omega) (by omega)) ?_
      refine lv_topi (fun q_97 e_97 => ?_)
      rw [pk_div (by omega) (by omega) (by omega)] at e_97
      subst e_97
      refine lv_bipush (v := nI 16) hx hb dL_lists_98 rfl ?_
      refine lv_irem hx hb dL_lists_100 (nI_ne0 (by omega) (by omega)) ?_
      refine lv_topi (fun q_100 e_100 => ?_)
      rw [pk_rem (by omega) (by omega) (by omega)] at e_100
      subst e_100
      obtain ⟨F, eF⟩ : ∃ F : Nat, F = (b / 45056) % 16 := ⟨_, rfl⟩
      rw [← eF]
      have hF : F < 16 := by omega
      refine lv_istore hx hb dL_lists_101 hl (by decide) rfl (fun ls hl => ?_)
      have hl : lv_has ls 12 [(8, .int (nI F)), (7, .int (nI B)), (6, .int (nI K)), (5, .int (nI v.2.2.1.length)), (4, .int (nI s0)), (0, .ref x), (1, .ref o), (2, .int (nI a)), (3, .int (nI b))] := hl
      refine lv_aload_n hx hb dL_lists_103 rfl (lv_at hl 5 rfl) ?_
      refine lv_iload hx hb dL_lists_104 (lv_at hl 4 rfl) ?_
      refine z_goe hw.2 (z_runV Cx hw (c_q_idleRules E l _ C x V hl0 (hrc.grow (fun q hq => List.mem_append_right _ hq)) s0 (by omega) (by omega)) (cwV 1 Cx.1.2.2.2.2 gL_lists_X7_idleRules rfl rfl rfl (by decide +kernel) ⟨(Nat.le_of_ble_eq_true rfl), (Nat.le_of_ble_eq_true rfl)⟩) (z_recv Cx hw (r := (RX7, TX7, 5)) (List.mem_append_right _ hx0) rfl) rfl hl.1 rfl (Nat.le_of_ble_eq_true rfl) dL_lists_106 ⟨(Nat.le_of_ble_eq_true rfl), (Nat.le_of_ble_eq_true rfl)⟩) (fun H locs hw => ?_)
      rw [zsv_rules hv]
      have hid := zidles_le [] v.2.2.1
      refine lv_istore hx hb dL_lists_109 hl (by decide) rfl (fun ls hl => ?_)
      have hl : lv_has ls 12 [(9, .int (nI (zidles [] v.2.2.1))), (8, .int (nI F)), (7, .int (nI B)), (6, .int (nI K)), (5, .int (nI v.2.2.1.length)), (4, .int (nI s0)), (0, .ref x), (1, .ref o), (2, .int (nI a)), (3, .int (nI b))] := hl
      refine lv_aload_n hx hb dL_lists_111 rfl (lv_at hl 7 rfl) ?_
      refine lv_bipush (v := nI 34) hx hb dL_lists_112 rfl ?_
      refine lv_iload hx hb dL_lists_114 (lv_at hl 5 rfl) ?_
      refine lv_iadd hx hb dL_lists_116 ?_
      refine lv_topi (fun q_116 e_116 => ?_)
      rw [nI_add] at e_116
      subst e_116
      refine lv_dup2_11 hx hb dL_lists_117 rfl rfl ?_
      refine zc_iald Cx hw (by omega) (v := nI v.2.2.1.length) (g5 s0 v hv) dL_lists_118 ?_
      refine lv_iconst (v := nI 1) hx hb dL_lists_119 rfl ?_
      refine lv_iadd hx hb dL_lists_120 ?_
      refine lv_topi (fun q_120 e_120 => ?_)
      rw [nI_add] at e_120
      subst e_120
      refine zc_iast Cx hw (by omega) dL_lists_121 (fun H locs hw => ?_)
      have hw : zHA E ([(o, zci E (upd f (34 + s0) (nI (v.2.2.1.length + 1))))] ++ Y) C s H locs := hw
      refine lv_aload_n hx hb dL_lists_122 rfl (lv_at hl 6 rfl) ?_
      refine lv_iload hx hb dL_lists_123 (lv_at hl 5 rfl) ?_
      refine lv_iload hx hb dL_lists_125 (lv_at hl 4 rfl) ?_
      refine lv_iload_n hx hb dL_lists_127 rfl (lv_at hl 8 rfl) ?_
      refine lv_bipush (v := nI 6) hx hb dL_lists_128 rfl ?_
      refine lv_idiv hx hb dL_lists_130 (nI_ne0 (by omega) (by omega)) ?_
      refine lv_topi (fun q_130 e_130 => ?_)
      rw [pk_div (by omega) (by omega) (by omega)] at e_130
      subst e_130
      refine lv_iconst (v := nI 2) hx hb dL_lists_131 rfl ?_
      refine lv_irem hx hb dL_lists_132 (nI_ne0 (by omega) (by omega)) ?_
      refine lv_topi (fun q_132 e_132 => ?_)
      rw [pk_rem (by omega) (by omega) (by omega)] at e_132
      subst e_132
      refine zl_bne Cx dL_lists_133 dL_lists_136 dL_lists_137 dL_lists_140 ?_
      obtain ⟨i1, ei1⟩ : ∃ i1 : Bool, i1 = decide (nI (a / 6 % 2) = 0) := ⟨_, rfl⟩
      rw [← ei1]
      refine lv_iload_n hx hb dL_lists_141 rfl (lv_at hl 8 rfl) ?_
      refine lv_bipush (v := nI 12) hx hb dL_lists_142 rfl ?_
      refine lv_idiv hx hb dL_lists_144 (nI_ne0 (by omega) (by omega)) ?_
      refine lv_topi (fun q_144 e_144 => ?_)
      rw [pk_div (by omega) (by omega) (by omega)] at e_144
      subst e_144
      refine lv_iconst (v := nI 2) hx hb dL_lists_145 rfl ?_
      refine lv_irem hx hb dL_lists_146 (nI_ne0 (by omega) (by omega)) ?_
      refine lv_topi (fun q_146 e_146 => ?_)
      rw [pk_rem (by omega) (by omega) (by omega)] at e_146
      subst e_146
      refine zl_bne Cx dL_lists_147 dL_lists_150 dL_lists_151 dL_lists_154 ?_
      obtain ⟨i2, ei2⟩ : ∃ i2 : Bool, i2 = decide (nI (a / 12 % 2) = 0) := ⟨_, rfl⟩
      rw [← ei2]
      refine lv_iload hx hb dL_lists_155 (lv_at hl 2 rfl) ?_
      refine lv_iload hx hb dL_lists_157 (lv_at hl 3 rfl) ?_
      refine lv_iload hx hb dL_lists_159 (lv_at hl 1 rfl) ?_
      refine lv_iload hx hb dL_lists_161 (lv_at hl 1 rfl) ?_
      refine lv_iload_n hx hb dL_lists_163 rfl (lv_at hl 8 rfl) ?_
      refine lv_bipush (v := nI 24) hx hb dL_lists_164 rfl ?_
      refine lv_idiv hx hb dL_lists_166 (nI_ne0 (by omega) (by omega)) ?_
      refine lv_topi (fun q_166 e_166 => ?_)
      rw [pk_div (by omega) (by omega) (by omega)] at e_166
      subst e_166
      refine lv_bipush (v := nI 16) hx hb dL_lists_167 rfl ?_
      refine lv_iload hx hb dL_lists_169 (lv_at hl 1 rfl) ?_
      refine lv_isub hx hb dL_lists_171 ?_
      refine lv_topi (fun q_171 e_171 => ?_)
      rw [pk_sub (by omega)] at e_171
      subst e_171
      refine lv_irem hx hb dL_lists_172 (nI_ne0 (by omega) (by omega)) ?_
      refine lv_topi (fun q_172 e_172 => ?_)
      rw [pk_rem (by omega) (by omega) (by omega)] at e_172
      subst e_172
      obtain ⟨t1, et1⟩ : ∃ t1 : Nat, t1 = (a / 24) % (16 - F) := ⟨_, rfl⟩
      rw [← et1]
      have ht1 : t1 < 16 - F := by rw [et1]; exact zmod_lt (by omega)
      refine lv_iadd hx hb dL_lists_173 ?_
      refine lv_topi (fun q_173 e_173 => ?_)
      rw [nI_add] at e_173
      subst e_173
      obtain ⟨La, eLa⟩ : ∃ La : Nat, La = F + t1 := ⟨_, rfl⟩
      rw [← eLa]
      have hLa : F ≤ La ∧ La < 16 := by omega
      refine z_goi (wf := fun (u : va_W × zLs) => zQ E ([(o, zci E (upd f (34 + s0) (nI (v.2.2.1.length + 1))))] ++ u.1) u.2) hw.2 (z_runV Cx hw (c_q_putRule E l [(o, zci E (upd f (34 + s0) (nI (v.2.2.1.length + 1))))] Y C x V hl0 hrc s0 v.2.2.1.length v i1 i2 (nI B) (nI K) (nI F) (nI La) hv (Nat.le_refl _) hBk (zpok_n hLa.1 hLa.2) hm11 (by omega)) (cwV 8 Cx.1.2.2.2.2 gL_lists_X7_putRule rfl rfl rfl (by decide +kernel) ⟨(Nat.le_of_ble_eq_true rfl), (Nat.le_of_ble_eq_true rfl)⟩) (z_recv Cx hw (r := (RX7, TX7, 5)) (List.mem_append_right _ hx0) rfl) rfl hl.1 rfl (Nat.le_of_ble_eq_true rfl) dL_lists_174 ⟨(Nat.le_of_ble_eq_true rfl), (Nat.le_of_ble_eq_true rfl)⟩) (fun r_174 u_174 H locs hp hw => ?_)
      obtain ⟨Y_174, C_174⟩ := u_174
      obtain ⟨hr_174, hrc⟩ := hp
      have hr_174 : r_174 = nI (v.2.2.1.length + 1) := hr_174
      subst hr_174
      obtain ⟨V1, eV1⟩ : ∃ V9 : zCl, V9 = ((vN V, (vS V).set s0 (v.1, v.2.1, v.2.2.1.insertIdx v.2.2.1.length (zb i1, zb i2, (nI B, nI K), zps (nI F) (nI La)), v.2.2.2), V.2.2) : zCl) := ⟨_, rfl⟩
      have hrc : zRC Y_174 C_174 x V1 := by rw [eV1]; exact hrc
      have hw : zHA E ([(o, zci E (upd f (34 + s0) (nI (v.2.2.1.length + 1))))] ++ Y_174) C_174 s H locs := hw
      obtain ⟨xf, hx0⟩ := hrc.x
      have hne := zps_ne F hF La hLa.2 hLa.1
      have hL1 : zLw V1 (upd f (34 + s0) (nI (v.2.2.1.length + 1))) := by rw [eV1]; exact zLw_putRule hL hv hBk (zpok_n hLa.1 hLa.2) hm11 hne
      have hv1 : (vS V1)[s0]? = some (v.1, v.2.1, v.2.2.1 ++ [((zb i1, zb i2, (nI B, nI K), zps (nI F) (nI La)) : zRl)], v.2.2.2) := by
        rw [eV1]
        show ((vS V).set s0 (v.1, v.2.1, v.2.2.1.insertIdx v.2.2.1.length ((zb i1, zb i2, (nI B, nI K), zps (nI F) (nI La)) : zRl), v.2.2.2))[s0]? = _
        rw [List.getElem?_set_self (List.getElem?_eq_some_iff.mp hv).1, z_insl]
      have hs61 : (vS V1).length = 6 := hL1.1.2.2.1
      obtain ⟨rl, erl⟩ : ∃ rl : zRl, rl = ((zb i1, zb i2, (nI B, nI K), zps (nI F) (nI La)) : zRl) := ⟨_, rfl⟩
      rw [← erl] at hv1
      have hone := zidles_more v.2.2.1 rl
      have hfst := zidles_first v.2.2.1 rl (fun u hu => ⟨((hL1.1.1.2.1 _ (List.mem_of_getElem? hv1)).2.2.1 u hu).1, (hL1.1.2.2.2.1 s0 _ hv1).2.2.2.1 u hu⟩)
      refine lv_iload hx hb dL_lists_177 (lv_at hl 4 rfl) ?_
      refine lv_iconst (v := nI 1) hx hb dL_lists_179 rfl ?_
      refine lv_iadd hx hb dL_lists_180 ?_
      refine lv_topi (fun q_180 e_180 => ?_)
      rw [nI_add] at e_180
      subst e_180
      refine lv_icmp_ne (tgt := 188) hx hb dL_lists_181 (by decide) (fun c_181 => ?_) (fun c_181 => ?_)
      · skip
        have n_181 : ¬ (v.2.2.1.length + 1) = (v.2.2.1.length + 1) := fun h => c_181 ((nI_eq (by omega) (by omega)).mpr h)
        exact absurd rfl n_181
      · skip
        have n_181 : (v.2.2.1.length + 1) = (v.2.2.1.length + 1) := (nI_eq (by omega) (by omega)).mp c_181
        refine lv_iconst (v := nI 1) hx hb dL_lists_184 rfl ?_
        refine lv_goto (tgt := 189) hx hb dL_lists_185 (by decide) ?_
        refine lv_istore hx hb dL_lists_189 hl (by decide) rfl (fun ls hl => ?_)
        have hl : lv_has ls 12 [(10, .int (nI 1)), (9, .int (nI (zidles [] v.2.2.1))), (8, .int (nI F)), (7, .int (nI B)), (6, .int (nI K)), (5, .int (nI v.2.2.1.length)), (4, .int (nI s0)), (0, .ref x), (1, .ref o), (2, .int (nI a)), (3, .int (nI b))] := hl
        refine lv_aload_n hx hb dL_lists_191 rfl (lv_at hl 7 rfl) ?_
        refine lv_iload hx hb dL_lists_192 (lv_at hl 6 rfl) ?_
        refine z_goe hw.2 (z_runV Cx hw (c_q_idleRules E l _ C_174 x V1 hl0 (hrc.grow (fun q hq => List.mem_append_right _ hq)) s0 (by omega) (by omega)) (cwV 1 Cx.1.2.2.2.2 gL_lists_X7_idleRules rfl rfl rfl (by decide +kernel) ⟨(Nat.le_of_ble_eq_true rfl), (Nat.le_of_ble_eq_true rfl)⟩) (z_recv Cx hw (r := (RX7, TX7, 5)) (List.mem_append_right _ hx0) rfl) rfl hl.1 rfl (Nat.le_of_ble_eq_true rfl) dL_lists_194 ⟨(Nat.le_of_ble_eq_true rfl), (Nat.le_of_ble_eq_true rfl)⟩) (fun H locs hw => ?_)
        rw [zsv_rules hv1]
        show W p l e (zR 9 100 1000) s m _ below meth c H locs _ _ _ (F0 m 197 ls [.int (nI (zidles [] (v.2.2.1 ++ [rl])))])
        refine lv_istore hx hb dL_lists_197 hl (by decide) rfl (fun ls hl => ?_)
        have hl : lv_has ls 12 [(11, .int (nI (zidles [] (v.2.2.1 ++ [rl])))), (10, .int (nI 1)), (9, .int (nI (zidles [] v.2.2.1))), (8, .int (nI F)), (7, .int (nI B)), (6, .int (nI K)), (5, .int (nI v.2.2.1.length)), (4, .int (nI s0)), (0, .ref x), (1, .ref o), (2, .int (nI a)), (3, .int (nI b))] := hl
        refine lv_iload hx hb dL_lists_199 (lv_at hl 1 rfl) ?_
        refine lv_if_eq (tgt := 231) hx hb dL_lists_201 (by decide) (fun c_201 => ?_) (fun c_201 => ?_)
        · skip
          have n_201 : 1 = 0 := (nI_eq (b := 0) (by omega) (by omega)).mp c_201
          omega
        · skip
          have n_201 : ¬ 1 = 0 := fun h => c_201 ((nI_eq (b := 0) (by omega) (by omega)).mpr h)
          refine lv_iload hx hb dL_lists_204 (lv_at hl 0 rfl) ?_
          refine lv_iload hx hb dL_lists_206 (lv_at hl 2 rfl) ?_
          refine lv_icmp_eq (tgt := 220) hx hb dL_lists_208 (by decide) (fun c_208 => ?_) (fun c_208 => ?_)
          · skip
            have n_208 : (zidles [] (v.2.2.1 ++ [rl])) = (zidles [] v.2.2.1) := (nI_eq (by omega) (by omega)).mp c_208
            refine lv_iload hx hb dL_lists_220 (lv_at hl 0 rfl) ?_
            refine lv_iload hx hb dL_lists_222 (lv_at hl 6 rfl) ?_
            refine lv_icmp_gt (tgt := 231) hx hb dL_lists_224 (by decide) (fun c_224 => ?_) (fun c_224 => ?_)
            · skip
              have n_224 : v.2.2.1.length < (zidles [] (v.2.2.1 ++ [rl])) := (nI_ltI (by omega) (by omega)).mp c_224
              omega
            · skip
              have n_224 : ¬ v.2.2.1.length < (zidles [] (v.2.2.1 ++ [rl])) := fun h => c_224 ((nI_ltI (by omega) (by omega)).mpr h)
              refine lv_iconst (v := nI 1) hx hb dL_lists_227 rfl ?_
              refine lv_goto (tgt := 232) hx hb dL_lists_228 (by decide) ?_
              exact z_iret (wf := fun (u : zUw) => zQ E ([(o, zci E u.2.1)] ++ u.1.1) u.1.2) Cx hr rfl (Nat.le_of_ble_eq_true rfl) (Nat.le_of_ble_eq_true rfl) ((Y_174, C_174), (upd f (34 + s0) (nI (v.2.2.1.length + 1))), V1) hw ⟨rfl, hrc, hL1⟩ dL_lists_232
          · skip
            have n_208 : ¬ (zidles [] (v.2.2.1 ++ [rl])) = (zidles [] v.2.2.1) := fun h => c_208 ((nI_eq (by omega) (by omega)).mpr h)
            refine lv_iload hx hb dL_lists_211 (lv_at hl 0 rfl) ?_
            refine lv_iload hx hb dL_lists_213 (lv_at hl 2 rfl) ?_
            refine lv_iconst (v := nI 1) hx hb dL_lists_215 rfl ?_
            refine lv_iadd hx hb dL_lists_216 ?_
            refine lv_topi (fun q_216 e_216 => ?_)
            rw [nI_add] at e_216
            subst e_216
            refine lv_icmp_ne (tgt := 231) hx hb dL_lists_217 (by decide) (fun c_217 => ?_) (fun c_217 => ?_)
            · skip
              have n_217 : ¬ (zidles [] (v.2.2.1 ++ [rl])) = ((zidles [] v.2.2.1) + 1) := fun h => c_217 ((nI_eq (by omega) (by omega)).mpr h)
              omega
            · skip
              have n_217 : (zidles [] (v.2.2.1 ++ [rl])) = ((zidles [] v.2.2.1) + 1) := (nI_eq (by omega) (by omega)).mp c_217
              refine lv_iload hx hb dL_lists_220 (lv_at hl 0 rfl) ?_
              refine lv_iload hx hb dL_lists_222 (lv_at hl 6 rfl) ?_
              refine lv_icmp_gt (tgt := 231) hx hb dL_lists_224 (by decide) (fun c_224 => ?_) (fun c_224 => ?_)
              · skip
                have n_224 : v.2.2.1.length < (zidles [] (v.2.2.1 ++ [rl])) := (nI_ltI (by omega) (by omega)).mp c_224
                omega
              · skip
                have n_224 : ¬ v.2.2.1.length < (zidles [] (v.2.2.1 ++ [rl])) := fun h => c_224 ((nI_ltI (by omega) (by omega)).mpr h)
                refine lv_iconst (v := nI 1) hx hb dL_lists_227 rfl ?_
                refine lv_goto (tgt := 232) hx hb dL_lists_228 (by decide) ?_
                exact z_iret (wf := fun (u : zUw) => zQ E ([(o, zci E u.2.1)] ++ u.1.1) u.1.2) Cx hr rfl (Nat.le_of_ble_eq_true rfl) (Nat.le_of_ble_eq_true rfl) ((Y_174, C_174), (upd f (34 + s0) (nI (v.2.2.1.length + 1))), V1) hw ⟨rfl, hrc, hL1⟩ dL_lists_232
    · skip
      have n_30 : v.2.2.1.length = 12 := (nI_eq (by omega) (by omega)).mp c_30
      refine lv_aload_n hx hb dL_lists_33 rfl (lv_at hl 3 rfl) ?_
      refine lv_bipush (v := nI 34) hx hb dL_lists_34 rfl ?_
      refine lv_iload hx hb dL_lists_36 (lv_at hl 1 rfl) ?_
      refine lv_iadd hx hb dL_lists_38 ?_
      refine lv_topi (fun q_38 e_38 => ?_)
      rw [nI_add] at e_38
      subst e_38
      refine lv_dup2_11 hx hb dL_lists_39 rfl rfl ?_
      refine zc_iald Cx hw (by omega) (v := nI v.2.2.1.length) (g5 s0 v hv) dL_lists_40 ?_
      refine lv_iconst (v := nI 1) hx hb dL_lists_41 rfl ?_
      refine lv_isub hx hb dL_lists_42 ?_
      refine lv_topi (fun q_42 e_42 => ?_)
      rw [pk_sub (by omega)] at e_42
      subst e_42
      refine zc_iast Cx hw (by omega) dL_lists_43 (fun H locs hw => ?_)
      have hw : zHA E ([(o, zci E (upd f (34 + s0) (nI (v.2.2.1.length - 1))))] ++ Y) C s H locs := hw
      refine lv_aload_n hx hb dL_lists_44 rfl (lv_at hl 2 rfl) ?_
      refine lv_iload hx hb dL_lists_45 (lv_at hl 1 rfl) ?_
      refine lv_iload_n hx hb dL_lists_47 rfl (lv_at hl 4 rfl) ?_
      refine lv_bipush (v := nI 6) hx hb dL_lists_48 rfl ?_
      refine lv_idiv hx hb dL_lists_50 (nI_ne0 (by omega) (by omega)) ?_
      refine lv_topi (fun q_50 e_50 => ?_)
      rw [pk_div (by omega) (by omega) (by omega)] at e_50
      subst e_50
      refine lv_iload hx hb dL_lists_51 (lv_at hl 0 rfl) ?_
      have hmp : 0 < v.2.2.1.length := by omega
      have hj := zmod_lt (a := a / 6) hmp
      refine lv_irem hx hb dL_lists_53 (nI_ne0 (by omega) (by omega)) ?_
      refine lv_topi (fun q_53 e_53 => ?_)
      rw [pk_rem (by omega) (by omega) (by omega)] at e_53
      subst e_53
      refine z_goi (wf := fun (u : va_W × zLs) => zQ E ([(o, zci E (upd f (34 + s0) (nI (v.2.2.1.length - 1))))] ++ u.1) u.2) hw.2 (z_runV Cx hw (c_q_removeRule E l [(o, zci E (upd f (34 + s0) (nI (v.2.2.1.length - 1))))] Y C x V hl0 hrc s0 (a / 6 % v.2.2.1.length) v hv hj hm12 (by omega)) (cwV 2 Cx.1.2.2.2.2 gL_lists_X7_removeRule rfl rfl rfl (by decide +kernel) ⟨(Nat.le_of_ble_eq_true rfl), (Nat.le_of_ble_eq_true rfl)⟩) (z_recv Cx hw (r := (RX7, TX7, 5)) (List.mem_append_right _ hx0) rfl) rfl hl.1 rfl (Nat.le_of_ble_eq_true rfl) dL_lists_54 ⟨(Nat.le_of_ble_eq_true rfl), (Nat.le_of_ble_eq_true rfl)⟩) (fun r_54 u_54 H locs hp hw => ?_)
      obtain ⟨Y_54, C_54⟩ := u_54
      obtain ⟨hr_54, hrc⟩ := hp
      have hr_54 : r_54 = nI (v.2.2.1.length - 1) := hr_54
      subst hr_54
      obtain ⟨V1, eV1⟩ : ∃ V9 : zCl, V9 = ((vN V, (vS V).set s0 (v.1, v.2.1, v.2.2.1.eraseIdx (a / 6 % v.2.2.1.length), v.2.2.2), V.2.2) : zCl) := ⟨_, rfl⟩
      have hrc : zRC Y_54 C_54 x V1 := by rw [eV1]; exact hrc
      have hw : zHA E ([(o, zci E (upd f (34 + s0) (nI (v.2.2.1.length - 1))))] ++ Y_54) C_54 s H locs := hw
      obtain ⟨xf, hx0⟩ := hrc.x
      have hL1 : zLw V1 (upd f (34 + s0) (nI (v.2.2.1.length - 1))) := by rw [eV1]; exact zLw_removeRule hL hv hj
      refine lv_iload hx hb dL_lists_57 (lv_at hl 0 rfl) ?_
      refine lv_iconst (v := nI 1) hx hb dL_lists_59 rfl ?_
      refine lv_isub hx hb dL_lists_60 ?_
      refine lv_topi (fun q_60 e_60 => ?_)
      rw [pk_sub (by omega)] at e_60
      subst e_60
      refine lv_icmp_ne (tgt := 68) hx hb dL_lists_61 (by decide) (fun c_61 => ?_) (fun c_61 => ?_)
      · skip
        have n_61 : ¬ (v.2.2.1.length - 1) = (v.2.2.1.length - 1) := fun h => c_61 ((nI_eq (by omega) (by omega)).mpr h)
        exact absurd rfl n_61
      · skip
        have n_61 : (v.2.2.1.length - 1) = (v.2.2.1.length - 1) := (nI_eq (by omega) (by omega)).mp c_61
        refine lv_iconst (v := nI 1) hx hb dL_lists_64 rfl ?_
        refine lv_goto (tgt := 69) hx hb dL_lists_65 (by decide) ?_
        exact z_iret (wf := fun (u : zUw) => zQ E ([(o, zci E u.2.1)] ++ u.1.1) u.1.2) Cx hr rfl (Nat.le_of_ble_eq_true rfl) (Nat.le_of_ble_eq_true rfl) ((Y_54, C_54), (upd f (34 + s0) (nI (v.2.2.1.length - 1))), V1) hw ⟨rfl, hrc, hL1⟩ dL_lists_69
  · skip
    have n_17 : ¬ v.2.2.1.length ≤ 0 := fun h => c_17 ((nI_leI (b := 0) (by omega) (by omega)).mpr h)
    refine lv_iload_n hx hb dL_lists_20 rfl (lv_at hl 5 rfl) ?_
    refine lv_iconst (v := nI 4) hx hb dL_lists_21 rfl ?_
    refine lv_irem hx hb dL_lists_22 (nI_ne0 (by omega) (by omega)) ?_
    refine lv_topi (fun q_22 e_22 => ?_)
    rw [pk_rem (by omega) (by omega) (by omega)] at e_22
    subst e_22
    refine lv_if_eq (tgt := 33) hx hb dL_lists_23 (by decide) (fun c_23 => ?_) (fun c_23 => ?_)
    · skip
      have n_23 : (b % 4) = 0 := (nI_eq (b := 0) (by omega) (by omega)).mp c_23
      refine lv_aload_n hx hb dL_lists_33 rfl (lv_at hl 3 rfl) ?_
      refine lv_bipush (v := nI 34) hx hb dL_lists_34 rfl ?_
      refine lv_iload hx hb dL_lists_36 (lv_at hl 1 rfl) ?_
      refine lv_iadd hx hb dL_lists_38 ?_
      refine lv_topi (fun q_38 e_38 => ?_)
      rw [nI_add] at e_38
      subst e_38
      refine lv_dup2_11 hx hb dL_lists_39 rfl rfl ?_
      refine zc_iald Cx hw (by omega) (v := nI v.2.2.1.length) (g5 s0 v hv) dL_lists_40 ?_
      refine lv_iconst (v := nI 1) hx hb dL_lists_41 rfl ?_
      refine lv_isub hx hb dL_lists_42 ?_
      refine lv_topi (fun q_42 e_42 => ?_)
      rw [pk_sub (by omega)] at e_42
      subst e_42
      refine zc_iast Cx hw (by omega) dL_lists_43 (fun H locs hw => ?_)
      have hw : zHA E ([(o, zci E (upd f (34 + s0) (nI (v.2.2.1.length - 1))))] ++ Y) C s H locs := hw
      refine lv_aload_n hx hb dL_lists_44 rfl (lv_at hl 2 rfl) ?_
      refine lv_iload hx hb dL_lists_45 (lv_at hl 1 rfl) ?_
      refine lv_iload_n hx hb dL_lists_47 rfl (lv_at hl 4 rfl) ?_
      refine lv_bipush (v := nI 6) hx hb dL_lists_48 rfl ?_
      refine lv_idiv hx hb dL_lists_50 (nI_ne0 (by omega) (by omega)) ?_
      refine lv_topi (fun q_50 e_50 => ?_)
      rw [pk_div (by omega) (by omega) (by omega)] at e_50
      subst e_50
      refine lv_iload hx hb dL_lists_51 (lv_at hl 0 rfl) ?_
      have hmp : 0 < v.2.2.1.length := by omega
      have hj := zmod_lt (a := a / 6) hmp
      refine lv_irem hx hb dL_lists_53 (nI_ne0 (by omega) (by omega)) ?_
      refine lv_topi (fun q_53 e_53 => ?_)
      rw [pk_rem (by omega) (by omega) (by omega)] at e_53
      subst e_53
      refine z_goi (wf := fun (u : va_W × zLs) => zQ E ([(o, zci E (upd f (34 + s0) (nI (v.2.2.1.length - 1))))] ++ u.1) u.2) hw.2 (z_runV Cx hw (c_q_removeRule E l [(o, zci E (upd f (34 + s0) (nI (v.2.2.1.length - 1))))] Y C x V hl0 hrc s0 (a / 6 % v.2.2.1.length) v hv hj hm12 (by omega)) (cwV 2 Cx.1.2.2.2.2 gL_lists_X7_removeRule rfl rfl rfl (by decide +kernel) ⟨(Nat.le_of_ble_eq_true rfl), (Nat.le_of_ble_eq_true rfl)⟩) (z_recv Cx hw (r := (RX7, TX7, 5)) (List.mem_append_right _ hx0) rfl) rfl hl.1 rfl (Nat.le_of_ble_eq_true rfl) dL_lists_54 ⟨(Nat.le_of_ble_eq_true rfl), (Nat.le_of_ble_eq_true rfl)⟩) (fun r_54 u_54 H locs hp hw => ?_)
      obtain ⟨Y_54, C_54⟩ := u_54
      obtain ⟨hr_54, hrc⟩ := hp
      have hr_54 : r_54 = nI (v.2.2.1.length - 1) := hr_54
      subst hr_54
      obtain ⟨V1, eV1⟩ : ∃ V9 : zCl, V9 = ((vN V, (vS V).set s0 (v.1, v.2.1, v.2.2.1.eraseIdx (a / 6 % v.2.2.1.length), v.2.2.2), V.2.2) : zCl) := ⟨_, rfl⟩
      have hrc : zRC Y_54 C_54 x V1 := by rw [eV1]; exact hrc
      have hw : zHA E ([(o, zci E (upd f (34 + s0) (nI (v.2.2.1.length - 1))))] ++ Y_54) C_54 s H locs := hw
      obtain ⟨xf, hx0⟩ := hrc.x
      have hL1 : zLw V1 (upd f (34 + s0) (nI (v.2.2.1.length - 1))) := by rw [eV1]; exact zLw_removeRule hL hv hj
      refine lv_iload hx hb dL_lists_57 (lv_at hl 0 rfl) ?_
      refine lv_iconst (v := nI 1) hx hb dL_lists_59 rfl ?_
      refine lv_isub hx hb dL_lists_60 ?_
      refine lv_topi (fun q_60 e_60 => ?_)
      rw [pk_sub (by omega)] at e_60
      subst e_60
      refine lv_icmp_ne (tgt := 68) hx hb dL_lists_61 (by decide) (fun c_61 => ?_) (fun c_61 => ?_)
      · skip
        have n_61 : ¬ (v.2.2.1.length - 1) = (v.2.2.1.length - 1) := fun h => c_61 ((nI_eq (by omega) (by omega)).mpr h)
        exact absurd rfl n_61
      · skip
        have n_61 : (v.2.2.1.length - 1) = (v.2.2.1.length - 1) := (nI_eq (by omega) (by omega)).mp c_61
        refine lv_iconst (v := nI 1) hx hb dL_lists_64 rfl ?_
        refine lv_goto (tgt := 69) hx hb dL_lists_65 (by decide) ?_
        exact z_iret (wf := fun (u : zUw) => zQ E ([(o, zci E u.2.1)] ++ u.1.1) u.1.2) Cx hr rfl (Nat.le_of_ble_eq_true rfl) (Nat.le_of_ble_eq_true rfl) ((Y_54, C_54), (upd f (34 + s0) (nI (v.2.2.1.length - 1))), V1) hw ⟨rfl, hrc, hL1⟩ dL_lists_69
    · skip
      have n_23 : ¬ (b % 4) = 0 := fun h => c_23 ((nI_eq (b := 0) (by omega) (by omega)).mpr h)
      refine lv_iload hx hb dL_lists_26 (lv_at hl 0 rfl) ?_
      refine lv_bipush (v := nI 12) hx hb dL_lists_28 rfl ?_
      refine lv_icmp_ne (tgt := 70) hx hb dL_lists_30 (by decide) (fun c_30 => ?_) (fun c_30 => ?_)
      · skip
        have n_30 : ¬ v.2.2.1.length = 12 := fun h => c_30 ((nI_eq (by omega) (by omega)).mpr h)
        have hm11 : v.2.2.1.length < 12 := by omega
        refine lv_iload_n hx hb dL_lists_70 rfl (lv_at hl 5 rfl) ?_
        refine lv_iconst (v := nI 4) hx hb dL_lists_71 rfl ?_
        refine lv_idiv hx hb dL_lists_72 (nI_ne0 (by omega) (by omega)) ?_
        refine lv_topi (fun q_72 e_72 => ?_)
        rw [pk_div (by omega) (by omega) (by omega)] at e_72
        subst e_72
        refine lv_bipush (v := nI 11) hx hb dL_lists_73 rfl ?_
        refine lv_irem hx hb dL_lists_75 (nI_ne0 (by omega) (by omega)) ?_
        refine lv_topi (fun q_75 e_75 => ?_)
        rw [pk_rem (by omega) (by omega) (by omega)] at e_75
        subst e_75
        obtain ⟨K, eK⟩ : ∃ K : Nat, K = (b / 4) % 11 := ⟨_, rfl⟩
        rw [← eK]
        have hK : K ≤ 10 := by omega
        refine lv_istore hx hb dL_lists_76 hl (by decide) rfl (fun ls hl => ?_)
        have hl : lv_has ls 12 [(6, .int (nI K)), (5, .int (nI v.2.2.1.length)), (4, .int (nI s0)), (0, .ref x), (1, .ref o), (2, .int (nI a)), (3, .int (nI b))] := hl
        refine lv_iload_n hx hb dL_lists_78 rfl (lv_at hl 6 rfl) ?_
        refine lv_bipush (v := nI 44) hx hb dL_lists_79 rfl ?_
        refine lv_idiv hx hb dL_lists_81 (nI_ne0 (by omega) (by omega)) ?_
        refine lv_topi (fun q_81 e_81 => ?_)
        rw [pk_div (by omega) (by omega) (by omega)] at e_81
        subst e_81
        refine lv_sipush (v := nI 1024) hx hb dL_lists_82 rfl ?_
        refine lv_irem hx hb dL_lists_85 (nI_ne0 (by omega) (by omega)) ?_
        refine lv_topi (fun q_85 e_85 => ?_)
        rw [pk_rem (by omega) (by omega) (by omega)] at e_85
        subst e_85
        refine lv_iload hx hb dL_lists_86 (lv_at hl 0 rfl) ?_
        refine lv_ishr hx hb dL_lists_88 ?_
        refine lv_iload hx hb dL_lists_89 (lv_at hl 0 rfl) ?_
        refine lv_ishl hx hb dL_lists_91 ?_
        refine lv_topi (fun q_91 e_91 => ?_)
        have f_91 : q_91 = nI (b / 44 % 1024 / 2 ^ K * 2 ^ K) := by
          rw [e_91]; exact (zsh_blk (by omega) hK).1
        clear e_91
        subst f_91
        obtain ⟨B, eB⟩ : ∃ B : Nat, B = b / 44 % 1024 / 2 ^ K * 2 ^ K := ⟨_, rfl⟩
        rw [← eB]
        have hBk : zbok (nI B) (nI K) := by rw [eB]; exact (zsh_blk (by omega) hK).2
        refine lv_istore hx hb dL_lists_92 hl (by decide) rfl (fun ls hl => ?_)
        have hl : lv_has ls 12 [(7, .int (nI B)), (6, .int (nI K)), (5, .int (nI v.2.2.1.length)), (4, .int (nI s0)), (0, .ref x), (1, .ref o), (2, .int (nI a)), (3, .int (nI b))] := hl
        refine lv_iload_n hx hb dL_lists_94 rfl (lv_at hl 7 rfl) ?_
        refine lv_ldc hx hb Cx.1.2.2.2.1 (Cx.1.2.2.2.2 (Cond.constant RL 72 (45056)) (List.mem_of_getElem? (i := 1) rfl)) dL_lists_95 ?_
        refine lv_topi (fun q_95 e_95 => ?_)
        have f_95 : q_95 = nI 45056 := e_95
        clear e_95
        subst f_95
        refine lv_idiv hx hb dL_lists_97 (nI_ne0 (by omega) (by omega)) ?_
        refine lv_topi (fun q_97 e_97 => ?_)
        rw [pk_div (by omega) (by omega) (by omega)] at e_97
        subst e_97
        refine lv_bipush (v := nI 16) hx hb dL_lists_98 rfl ?_
        refine lv_irem hx hb dL_lists_100 (nI_ne0 (by omega) (by omega)) ?_
        refine lv_topi (fun q_100 e_100 => ?_)
        rw [pk_rem (by omega) (by omega) (by omega)] at e_100
        subst e_100
        obtain ⟨F, eF⟩ : ∃ F : Nat, F = (b / 45056) % 16 := ⟨_, rfl⟩
        rw [← eF]
        have hF : F < 16 := by omega
        refine lv_istore hx hb dL_lists_101 hl (by decide) rfl (fun ls hl => ?_)
        have hl : lv_has ls 12 [(8, .int (nI F)), (7, .int (nI B)), (6, .int (nI K)), (5, .int (nI v.2.2.1.length)), (4, .int (nI s0)), (0, .ref x), (1, .ref o), (2, .int (nI a)), (3, .int (nI b))] := hl
        refine lv_aload_n hx hb dL_lists_103 rfl (lv_at hl 5 rfl) ?_
        refine lv_iload hx hb dL_lists_104 (lv_at hl 4 rfl) ?_
        refine z_goe hw.2 (z_runV Cx hw (c_q_idleRules E l _ C x V hl0 (hrc.grow (fun q hq => List.mem_append_right _ hq)) s0 (by omega) (by omega)) (cwV 1 Cx.1.2.2.2.2 gL_lists_X7_idleRules rfl rfl rfl (by decide +kernel) ⟨(Nat.le_of_ble_eq_true rfl), (Nat.le_of_ble_eq_true rfl)⟩) (z_recv Cx hw (r := (RX7, TX7, 5)) (List.mem_append_right _ hx0) rfl) rfl hl.1 rfl (Nat.le_of_ble_eq_true rfl) dL_lists_106 ⟨(Nat.le_of_ble_eq_true rfl), (Nat.le_of_ble_eq_true rfl)⟩) (fun H locs hw => ?_)
        rw [zsv_rules hv]
        have hid := zidles_le [] v.2.2.1
        refine lv_istore hx hb dL_lists_109 hl (by decide) rfl (fun ls hl => ?_)
        have hl : lv_has ls 12 [(9, .int (nI (zidles [] v.2.2.1))), (8, .int (nI F)), (7, .int (nI B)), (6, .int (nI K)), (5, .int (nI v.2.2.1.length)), (4, .int (nI s0)), (0, .ref x), (1, .ref o), (2, .int (nI a)), (3, .int (nI b))] := hl
        refine lv_aload_n hx hb dL_lists_111 rfl (lv_at hl 7 rfl) ?_
        refine lv_bipush (v := nI 34) hx hb dL_lists_112 rfl ?_
        refine lv_iload hx hb dL_lists_114 (lv_at hl 5 rfl) ?_
        refine lv_iadd hx hb dL_lists_116 ?_
        refine lv_topi (fun q_116 e_116 => ?_)
        rw [nI_add] at e_116
        subst e_116
        refine lv_dup2_11 hx hb dL_lists_117 rfl rfl ?_
        refine zc_iald Cx hw (by omega) (v := nI v.2.2.1.length) (g5 s0 v hv) dL_lists_118 ?_
        refine lv_iconst (v := nI 1) hx hb dL_lists_119 rfl ?_
        refine lv_iadd hx hb dL_lists_120 ?_
        refine lv_topi (fun q_120 e_120 => ?_)
        rw [nI_add] at e_120
        subst e_120
        refine zc_iast Cx hw (by omega) dL_lists_121 (fun H locs hw => ?_)
        have hw : zHA E ([(o, zci E (upd f (34 + s0) (nI (v.2.2.1.length + 1))))] ++ Y) C s H locs := hw
        refine lv_aload_n hx hb dL_lists_122 rfl (lv_at hl 6 rfl) ?_
        refine lv_iload hx hb dL_lists_123 (lv_at hl 5 rfl) ?_
        refine lv_iload hx hb dL_lists_125 (lv_at hl 4 rfl) ?_
        refine lv_iload_n hx hb dL_lists_127 rfl (lv_at hl 8 rfl) ?_
        refine lv_bipush (v := nI 6) hx hb dL_lists_128 rfl ?_
        refine lv_idiv hx hb dL_lists_130 (nI_ne0 (by omega) (by omega)) ?_
        refine lv_topi (fun q_130 e_130 => ?_)
        rw [pk_div (by omega) (by omega) (by omega)] at e_130
        subst e_130
        refine lv_iconst (v := nI 2) hx hb dL_lists_131 rfl ?_
        refine lv_irem hx hb dL_lists_132 (nI_ne0 (by omega) (by omega)) ?_
        refine lv_topi (fun q_132 e_132 => ?_)
        rw [pk_rem (by omega) (by omega) (by omega)] at e_132
        subst e_132
        refine zl_bne Cx dL_lists_133 dL_lists_136 dL_lists_137 dL_lists_140 ?_
        obtain ⟨i1, ei1⟩ : ∃ i1 : Bool, i1 = decide (nI (a / 6 % 2) = 0) := ⟨_, rfl⟩
        rw [← ei1]
        refine lv_iload_n hx hb dL_lists_141 rfl (lv_at hl 8 rfl) ?_
        refine lv_bipush (v := nI 12) hx hb dL_lists_142 rfl ?_
        refine lv_idiv hx hb dL_lists_144 (nI_ne0 (by omega) (by omega)) ?_
        refine lv_topi (fun q_144 e_144 => ?_)
        rw [pk_div (by omega) (by omega) (by omega)] at e_144
        subst e_144
        refine lv_iconst (v := nI 2) hx hb dL_lists_145 rfl ?_
        refine lv_irem hx hb dL_lists_146 (nI_ne0 (by omega) (by omega)) ?_
        refine lv_topi (fun q_146 e_146 => ?_)
        rw [pk_rem (by omega) (by omega) (by omega)] at e_146
        subst e_146
        refine zl_bne Cx dL_lists_147 dL_lists_150 dL_lists_151 dL_lists_154 ?_
        obtain ⟨i2, ei2⟩ : ∃ i2 : Bool, i2 = decide (nI (a / 12 % 2) = 0) := ⟨_, rfl⟩
        rw [← ei2]
        refine lv_iload hx hb dL_lists_155 (lv_at hl 2 rfl) ?_
        refine lv_iload hx hb dL_lists_157 (lv_at hl 3 rfl) ?_
        refine lv_iload hx hb dL_lists_159 (lv_at hl 1 rfl) ?_
        refine lv_iload hx hb dL_lists_161 (lv_at hl 1 rfl) ?_
        refine lv_iload_n hx hb dL_lists_163 rfl (lv_at hl 8 rfl) ?_
        refine lv_bipush (v := nI 24) hx hb dL_lists_164 rfl ?_
        refine lv_idiv hx hb dL_lists_166 (nI_ne0 (by omega) (by omega)) ?_
        refine lv_topi (fun q_166 e_166 => ?_)
        rw [pk_div (by omega) (by omega) (by omega)] at e_166
        subst e_166
        refine lv_bipush (v := nI 16) hx hb dL_lists_167 rfl ?_
        refine lv_iload hx hb dL_lists_169 (lv_at hl 1 rfl) ?_
        refine lv_isub hx hb dL_lists_171 ?_
        refine lv_topi (fun q_171 e_171 => ?_)
        rw [pk_sub (by omega)] at e_171
        subst e_171
        refine lv_irem hx hb dL_lists_172 (nI_ne0 (by omega) (by omega)) ?_
        refine lv_topi (fun q_172 e_172 => ?_)
        rw [pk_rem (by omega) (by omega) (by omega)] at e_172
        subst e_172
        obtain ⟨t1, et1⟩ : ∃ t1 : Nat, t1 = (a / 24) % (16 - F) := ⟨_, rfl⟩
        rw [← et1]
        have ht1 : t1 < 16 - F := by rw [et1]; exact zmod_lt (by omega)
        refine lv_iadd hx hb dL_lists_173 ?_
        refine lv_topi (fun q_173 e_173 => ?_)
        rw [nI_add] at e_173
        subst e_173
        obtain ⟨La, eLa⟩ : ∃ La : Nat, La = F + t1 := ⟨_, rfl⟩
        rw [← eLa]
        have hLa : F ≤ La ∧ La < 16 := by omega
        refine z_goi (wf := fun (u : va_W × zLs) => zQ E ([(o, zci E (upd f (34 + s0) (nI (v.2.2.1.length + 1))))] ++ u.1) u.2) hw.2 (z_runV Cx hw (c_q_putRule E l [(o, zci E (upd f (34 + s0) (nI (v.2.2.1.length + 1))))] Y C x V hl0 hrc s0 v.2.2.1.length v i1 i2 (nI B) (nI K) (nI F) (nI La) hv (Nat.le_refl _) hBk (zpok_n hLa.1 hLa.2) hm11 (by omega)) (cwV 8 Cx.1.2.2.2.2 gL_lists_X7_putRule rfl rfl rfl (by decide +kernel) ⟨(Nat.le_of_ble_eq_true rfl), (Nat.le_of_ble_eq_true rfl)⟩) (z_recv Cx hw (r := (RX7, TX7, 5)) (List.mem_append_right _ hx0) rfl) rfl hl.1 rfl (Nat.le_of_ble_eq_true rfl) dL_lists_174 ⟨(Nat.le_of_ble_eq_true rfl), (Nat.le_of_ble_eq_true rfl)⟩) (fun r_174 u_174 H locs hp hw => ?_)
        obtain ⟨Y_174, C_174⟩ := u_174
        obtain ⟨hr_174, hrc⟩ := hp
        have hr_174 : r_174 = nI (v.2.2.1.length + 1) := hr_174
        subst hr_174
        obtain ⟨V1, eV1⟩ : ∃ V9 : zCl, V9 = ((vN V, (vS V).set s0 (v.1, v.2.1, v.2.2.1.insertIdx v.2.2.1.length (zb i1, zb i2, (nI B, nI K), zps (nI F) (nI La)), v.2.2.2), V.2.2) : zCl) := ⟨_, rfl⟩
        have hrc : zRC Y_174 C_174 x V1 := by rw [eV1]; exact hrc
        have hw : zHA E ([(o, zci E (upd f (34 + s0) (nI (v.2.2.1.length + 1))))] ++ Y_174) C_174 s H locs := hw
        obtain ⟨xf, hx0⟩ := hrc.x
        have hne := zps_ne F hF La hLa.2 hLa.1
        have hL1 : zLw V1 (upd f (34 + s0) (nI (v.2.2.1.length + 1))) := by rw [eV1]; exact zLw_putRule hL hv hBk (zpok_n hLa.1 hLa.2) hm11 hne
        have hv1 : (vS V1)[s0]? = some (v.1, v.2.1, v.2.2.1 ++ [((zb i1, zb i2, (nI B, nI K), zps (nI F) (nI La)) : zRl)], v.2.2.2) := by
          rw [eV1]
          show ((vS V).set s0 (v.1, v.2.1, v.2.2.1.insertIdx v.2.2.1.length ((zb i1, zb i2, (nI B, nI K), zps (nI F) (nI La)) : zRl), v.2.2.2))[s0]? = _
          rw [List.getElem?_set_self (List.getElem?_eq_some_iff.mp hv).1, z_insl]
        have hs61 : (vS V1).length = 6 := hL1.1.2.2.1
        obtain ⟨rl, erl⟩ : ∃ rl : zRl, rl = ((zb i1, zb i2, (nI B, nI K), zps (nI F) (nI La)) : zRl) := ⟨_, rfl⟩
        rw [← erl] at hv1
        have hone := zidles_more v.2.2.1 rl
        have hfst := zidles_first v.2.2.1 rl (fun u hu => ⟨((hL1.1.1.2.1 _ (List.mem_of_getElem? hv1)).2.2.1 u hu).1, (hL1.1.2.2.2.1 s0 _ hv1).2.2.2.1 u hu⟩)
        refine lv_iload hx hb dL_lists_177 (lv_at hl 4 rfl) ?_
        refine lv_iconst (v := nI 1) hx hb dL_lists_179 rfl ?_
        refine lv_iadd hx hb dL_lists_180 ?_
        refine lv_topi (fun q_180 e_180 => ?_)
        rw [nI_add] at e_180
        subst e_180
        refine lv_icmp_ne (tgt := 188) hx hb dL_lists_181 (by decide) (fun c_181 => ?_) (fun c_181 => ?_)
        · skip
          have n_181 : ¬ (v.2.2.1.length + 1) = (v.2.2.1.length + 1) := fun h => c_181 ((nI_eq (by omega) (by omega)).mpr h)
          exact absurd rfl n_181
        · skip
          have n_181 : (v.2.2.1.length + 1) = (v.2.2.1.length + 1) := (nI_eq (by omega) (by omega)).mp c_181
          refine lv_iconst (v := nI 1) hx hb dL_lists_184 rfl ?_
          refine lv_goto (tgt := 189) hx hb dL_lists_185 (by decide) ?_
          refine lv_istore hx hb dL_lists_189 hl (by decide) rfl (fun ls hl => ?_)
          have hl : lv_has ls 12 [(10, .int (nI 1)), (9, .int (nI (zidles [] v.2.2.1))), (8, .int (nI F)), (7, .int (nI B)), (6, .int (nI K)), (5, .int (nI v.2.2.1.length)), (4, .int (nI s0)), (0, .ref x), (1, .ref o), (2, .int (nI a)), (3, .int (nI b))] := hl
          refine lv_aload_n hx hb dL_lists_191 rfl (lv_at hl 7 rfl) ?_
          refine lv_iload hx hb dL_lists_192 (lv_at hl 6 rfl) ?_
          refine z_goe hw.2 (z_runV Cx hw (c_q_idleRules E l _ C_174 x V1 hl0 (hrc.grow (fun q hq => List.mem_append_right _ hq)) s0 (by omega) (by omega)) (cwV 1 Cx.1.2.2.2.2 gL_lists_X7_idleRules rfl rfl rfl (by decide +kernel) ⟨(Nat.le_of_ble_eq_true rfl), (Nat.le_of_ble_eq_true rfl)⟩) (z_recv Cx hw (r := (RX7, TX7, 5)) (List.mem_append_right _ hx0) rfl) rfl hl.1 rfl (Nat.le_of_ble_eq_true rfl) dL_lists_194 ⟨(Nat.le_of_ble_eq_true rfl), (Nat.le_of_ble_eq_true rfl)⟩) (fun H locs hw => ?_)
          rw [zsv_rules hv1]
          show W p l e (zR 9 100 1000) s m _ below meth c H locs _ _ _ (F0 m 197 ls [.int (nI (zidles [] (v.2.2.1 ++ [rl])))])
          refine lv_istore hx hb dL_lists_197 hl (by decide) rfl (fun ls hl => ?_)
          have hl : lv_has ls 12 [(11, .int (nI (zidles [] (v.2.2.1 ++ [rl])))), (10, .int (nI 1)), (9, .int (nI (zidles [] v.2.2.1))), (8, .int (nI F)), (7, .int (nI B)), (6, .int (nI K)), (5, .int (nI v.2.2.1.length)), (4, .int (nI s0)), (0, .ref x), (1, .ref o), (2, .int (nI a)), (3, .int (nI b))] := hl
          refine lv_iload hx hb dL_lists_199 (lv_at hl 1 rfl) ?_
          refine lv_if_eq (tgt := 231) hx hb dL_lists_201 (by decide) (fun c_201 => ?_) (fun c_201 => ?_)
          · skip
            have n_201 : 1 = 0 := (nI_eq (b := 0) (by omega) (by omega)).mp c_201
            omega
          · skip
            have n_201 : ¬ 1 = 0 := fun h => c_201 ((nI_eq (b := 0) (by omega) (by omega)).mpr h)
            refine lv_iload hx hb dL_lists_204 (lv_at hl 0 rfl) ?_
            refine lv_iload hx hb dL_lists_206 (lv_at hl 2 rfl) ?_
            refine lv_icmp_eq (tgt := 220) hx hb dL_lists_208 (by decide) (fun c_208 => ?_) (fun c_208 => ?_)
            · skip
              have n_208 : (zidles [] (v.2.2.1 ++ [rl])) = (zidles [] v.2.2.1) := (nI_eq (by omega) (by omega)).mp c_208
              refine lv_iload hx hb dL_lists_220 (lv_at hl 0 rfl) ?_
              refine lv_iload hx hb dL_lists_222 (lv_at hl 6 rfl) ?_
              refine lv_icmp_gt (tgt := 231) hx hb dL_lists_224 (by decide) (fun c_224 => ?_) (fun c_224 => ?_)
              · skip
                have n_224 : v.2.2.1.length < (zidles [] (v.2.2.1 ++ [rl])) := (nI_ltI (by omega) (by omega)).mp c_224
                omega
              · skip
                have n_224 : ¬ v.2.2.1.length < (zidles [] (v.2.2.1 ++ [rl])) := fun h => c_224 ((nI_ltI (by omega) (by omega)).mpr h)
                refine lv_iconst (v := nI 1) hx hb dL_lists_227 rfl ?_
                refine lv_goto (tgt := 232) hx hb dL_lists_228 (by decide) ?_
                exact z_iret (wf := fun (u : zUw) => zQ E ([(o, zci E u.2.1)] ++ u.1.1) u.1.2) Cx hr rfl (Nat.le_of_ble_eq_true rfl) (Nat.le_of_ble_eq_true rfl) ((Y_174, C_174), (upd f (34 + s0) (nI (v.2.2.1.length + 1))), V1) hw ⟨rfl, hrc, hL1⟩ dL_lists_232
            · skip
              have n_208 : ¬ (zidles [] (v.2.2.1 ++ [rl])) = (zidles [] v.2.2.1) := fun h => c_208 ((nI_eq (by omega) (by omega)).mpr h)
              refine lv_iload hx hb dL_lists_211 (lv_at hl 0 rfl) ?_
              refine lv_iload hx hb dL_lists_213 (lv_at hl 2 rfl) ?_
              refine lv_iconst (v := nI 1) hx hb dL_lists_215 rfl ?_
              refine lv_iadd hx hb dL_lists_216 ?_
              refine lv_topi (fun q_216 e_216 => ?_)
              rw [nI_add] at e_216
              subst e_216
              refine lv_icmp_ne (tgt := 231) hx hb dL_lists_217 (by decide) (fun c_217 => ?_) (fun c_217 => ?_)
              · skip
                have n_217 : ¬ (zidles [] (v.2.2.1 ++ [rl])) = ((zidles [] v.2.2.1) + 1) := fun h => c_217 ((nI_eq (by omega) (by omega)).mpr h)
                omega
              · skip
                have n_217 : (zidles [] (v.2.2.1 ++ [rl])) = ((zidles [] v.2.2.1) + 1) := (nI_eq (by omega) (by omega)).mp c_217
                refine lv_iload hx hb dL_lists_220 (lv_at hl 0 rfl) ?_
                refine lv_iload hx hb dL_lists_222 (lv_at hl 6 rfl) ?_
                refine lv_icmp_gt (tgt := 231) hx hb dL_lists_224 (by decide) (fun c_224 => ?_) (fun c_224 => ?_)
                · skip
                  have n_224 : v.2.2.1.length < (zidles [] (v.2.2.1 ++ [rl])) := (nI_ltI (by omega) (by omega)).mp c_224
                  omega
                · skip
                  have n_224 : ¬ v.2.2.1.length < (zidles [] (v.2.2.1 ++ [rl])) := fun h => c_224 ((nI_ltI (by omega) (by omega)).mpr h)
                  refine lv_iconst (v := nI 1) hx hb dL_lists_227 rfl ?_
                  refine lv_goto (tgt := 232) hx hb dL_lists_228 (by decide) ?_
                  exact z_iret (wf := fun (u : zUw) => zQ E ([(o, zci E u.2.1)] ++ u.1.1) u.1.2) Cx hr rfl (Nat.le_of_ble_eq_true rfl) (Nat.le_of_ble_eq_true rfl) ((Y_174, C_174), (upd f (34 + s0) (nI (v.2.2.1.length + 1))), V1) hw ⟨rfl, hrc, hL1⟩ dL_lists_232
      · skip
        have n_30 : v.2.2.1.length = 12 := (nI_eq (by omega) (by omega)).mp c_30
        refine lv_aload_n hx hb dL_lists_33 rfl (lv_at hl 3 rfl) ?_
        refine lv_bipush (v := nI 34) hx hb dL_lists_34 rfl ?_
        refine lv_iload hx hb dL_lists_36 (lv_at hl 1 rfl) ?_
        refine lv_iadd hx hb dL_lists_38 ?_
        refine lv_topi (fun q_38 e_38 => ?_)
        rw [nI_add] at e_38
        subst e_38
        refine lv_dup2_11 hx hb dL_lists_39 rfl rfl ?_
        refine zc_iald Cx hw (by omega) (v := nI v.2.2.1.length) (g5 s0 v hv) dL_lists_40 ?_
        refine lv_iconst (v := nI 1) hx hb dL_lists_41 rfl ?_
        refine lv_isub hx hb dL_lists_42 ?_
        refine lv_topi (fun q_42 e_42 => ?_)
        rw [pk_sub (by omega)] at e_42
        subst e_42
        refine zc_iast Cx hw (by omega) dL_lists_43 (fun H locs hw => ?_)
        have hw : zHA E ([(o, zci E (upd f (34 + s0) (nI (v.2.2.1.length - 1))))] ++ Y) C s H locs := hw
        refine lv_aload_n hx hb dL_lists_44 rfl (lv_at hl 2 rfl) ?_
        refine lv_iload hx hb dL_lists_45 (lv_at hl 1 rfl) ?_
        refine lv_iload_n hx hb dL_lists_47 rfl (lv_at hl 4 rfl) ?_
        refine lv_bipush (v := nI 6) hx hb dL_lists_48 rfl ?_
        refine lv_idiv hx hb dL_lists_50 (nI_ne0 (by omega) (by omega)) ?_
        refine lv_topi (fun q_50 e_50 => ?_)
        rw [pk_div (by omega) (by omega) (by omega)] at e_50
        subst e_50
        refine lv_iload hx hb dL_lists_51 (lv_at hl 0 rfl) ?_
        have hmp : 0 < v.2.2.1.length := by omega
        have hj := zmod_lt (a := a / 6) hmp
        refine lv_irem hx hb dL_lists_53 (nI_ne0 (by omega) (by omega)) ?_
        refine lv_topi (fun q_53 e_53 => ?_)
        rw [pk_rem (by omega) (by omega) (by omega)] at e_53
        subst e_53
        refine z_goi (wf := fun (u : va_W × zLs) => zQ E ([(o, zci E (upd f (34 + s0) (nI (v.2.2.1.length - 1))))] ++ u.1) u.2) hw.2 (z_runV Cx hw (c_q_removeRule E l [(o, zci E (upd f (34 + s0) (nI (v.2.2.1.length - 1))))] Y C x V hl0 hrc s0 (a / 6 % v.2.2.1.length) v hv hj hm12 (by omega)) (cwV 2 Cx.1.2.2.2.2 gL_lists_X7_removeRule rfl rfl rfl (by decide +kernel) ⟨(Nat.le_of_ble_eq_true rfl), (Nat.le_of_ble_eq_true rfl)⟩) (z_recv Cx hw (r := (RX7, TX7, 5)) (List.mem_append_right _ hx0) rfl) rfl hl.1 rfl (Nat.le_of_ble_eq_true rfl) dL_lists_54 ⟨(Nat.le_of_ble_eq_true rfl), (Nat.le_of_ble_eq_true rfl)⟩) (fun r_54 u_54 H locs hp hw => ?_)
        obtain ⟨Y_54, C_54⟩ := u_54
        obtain ⟨hr_54, hrc⟩ := hp
        have hr_54 : r_54 = nI (v.2.2.1.length - 1) := hr_54
        subst hr_54
        obtain ⟨V1, eV1⟩ : ∃ V9 : zCl, V9 = ((vN V, (vS V).set s0 (v.1, v.2.1, v.2.2.1.eraseIdx (a / 6 % v.2.2.1.length), v.2.2.2), V.2.2) : zCl) := ⟨_, rfl⟩
        have hrc : zRC Y_54 C_54 x V1 := by rw [eV1]; exact hrc
        have hw : zHA E ([(o, zci E (upd f (34 + s0) (nI (v.2.2.1.length - 1))))] ++ Y_54) C_54 s H locs := hw
        obtain ⟨xf, hx0⟩ := hrc.x
        have hL1 : zLw V1 (upd f (34 + s0) (nI (v.2.2.1.length - 1))) := by rw [eV1]; exact zLw_removeRule hL hv hj
        refine lv_iload hx hb dL_lists_57 (lv_at hl 0 rfl) ?_
        refine lv_iconst (v := nI 1) hx hb dL_lists_59 rfl ?_
        refine lv_isub hx hb dL_lists_60 ?_
        refine lv_topi (fun q_60 e_60 => ?_)
        rw [pk_sub (by omega)] at e_60
        subst e_60
        refine lv_icmp_ne (tgt := 68) hx hb dL_lists_61 (by decide) (fun c_61 => ?_) (fun c_61 => ?_)
        · skip
          have n_61 : ¬ (v.2.2.1.length - 1) = (v.2.2.1.length - 1) := fun h => c_61 ((nI_eq (by omega) (by omega)).mpr h)
          exact absurd rfl n_61
        · skip
          have n_61 : (v.2.2.1.length - 1) = (v.2.2.1.length - 1) := (nI_eq (by omega) (by omega)).mp c_61
          refine lv_iconst (v := nI 1) hx hb dL_lists_64 rfl ?_
          refine lv_goto (tgt := 69) hx hb dL_lists_65 (by decide) ?_
          exact z_iret (wf := fun (u : zUw) => zQ E ([(o, zci E u.2.1)] ++ u.1.1) u.1.2) Cx hr rfl (Nat.le_of_ble_eq_true rfl) (Nat.le_of_ble_eq_true rfl) ((Y_54, C_54), (upd f (34 + s0) (nI (v.2.2.1.length - 1))), V1) hw ⟨rfl, hrc, hL1⟩ dL_lists_69

