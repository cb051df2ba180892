/-! a step of the law -/
set_option maxRecDepth 100000 in
set_option maxHeartbeats 4000000 in
theorem c_L_step (E : zG) (l : Launch) (hl0 : l.stackTraces = false) (x o : Nat) (f : Nat → Int32) (Y : va_W) (C : zLs) (V : zCl) (hrc : zRC Y C x V) (hL : zLw V f) (w a b : Nat) (hw0 : w < 2 ^ 31) (ha : a < 2 ^ 31) (hb0 : b < 2 ^ 31) : Met l yL_step wsL_step (zR 10 100 1000) (zPre E [.ref x, .ref o, .int (nI w), .int (nI a), .int (nI b)] (zQ E ([(o, zci E f)] ++ Y) C)) (zqL E x o) 100 1000 (eA E) := by
  refine z_of (cc := cL_step) (maxL := 8) (ret := (some .boolean)) (by decide) rfl rfl (Nat.le_of_ble_eq_true rfl) ?_
  intro p e s m below meth c ls Cx hr hnm hw hl
  have hx := Cx.1.1
  have hb := Cx.1.2.1
  have hL2 := hL
  obtain ⟨⟨hI, hN, hS6, hS, hH8, hG6, hG10⟩, g0, g1, g2, g3, g4, g5⟩ := hL2
  obtain ⟨xf, hx0⟩ := hrc.x
  have hP6 : (vP V).length ≤ 6 := hI.2.2.2.2
  have hl : lv_has ls 8 [(0, .ref x), (1, .ref o), (2, .int (nI w)), (3, .int (nI a)), (4, .int (nI b))] := hl
  refine lv_iload_n hx hb dL_step_0 rfl (lv_at hl 2 rfl) ?_
  refine lv_bipush (v := nI 12) hx hb dL_step_1 rfl ?_
  refine lv_irem hx hb dL_step_3 (nI_ne0 (by omega) (by omega)) ?_
  refine lv_topi (fun q_3 e_3 => ?_)
  rw [pk_rem (by omega) (by omega) (by omega)] at e_3
  subst e_3
  obtain ⟨j, ej⟩ : ∃ j : Nat, j = w % 12 := ⟨_, rfl⟩
  rw [← ej]
  have hj : j < 12 := by omega
  rcases (show j = 0 ∨ j = 1 ∨ j = 2 ∨ j = 3 ∨ j = 4 ∨ j = 5 ∨ j = 6 ∨ j = 7 ∨ j = 8 ∨ j = 9 ∨ j = 10 ∨ j = 11 by omega) with rfl | rfl | rfl | rfl | rfl | rfl | rfl | rfl | rfl | rfl | rfl | rfl
  · refine lv_tableIn (off := 60) (tgt := 64) hx hb dL_step_4 (by decide) (by decide) rfl (by decide) ?_
    refine lv_aload_n hx hb dL_step_64 rfl (lv_at hl 0 rfl) ?_
    refine lv_aload_n hx hb dL_step_65 rfl (lv_at hl 1 rfl) ?_
    refine lv_iload_n hx hb dL_step_66 rfl (lv_at hl 3 rfl) ?_
    refine lv_bipush (v := nI 6) hx hb dL_step_67 rfl ?_
    refine lv_irem hx hb dL_step_69 (nI_ne0 (by omega) (by omega)) ?_
    refine lv_topi (fun q_69 e_69 => ?_)
    rw [pk_rem (by omega) (by omega) (by omega)] at e_69
    subst e_69
    refine lv_iload hx hb dL_step_70 (lv_at hl 4 rfl) ?_
    refine lv_bipush (v := nI 64) hx hb dL_step_72 rfl ?_
    refine lv_irem hx hb dL_step_74 (nI_ne0 (by omega) (by omega)) ?_
    refine lv_topi (fun q_74 e_74 => ?_)
    rw [pk_rem (by omega) (by omega) (by omega)] at e_74
    subst e_74
    refine z_goi (wf := fun (u : zUw) => zQ E ([(o, zci E u.2.1)] ++ u.1.1) u.1.2) hw.2 (z_runS Cx hw (c_L_hosts E l hl0 x o f Y C V hrc hL (a % 6) (b % 64) (by omega) (by omega)) (va_cwS 4 Cx.1.2.2.2.2 gL_step_L_hosts rfl rfl rfl (by decide +kernel) ⟨(Nat.le_of_ble_eq_true rfl), (Nat.le_of_ble_eq_true rfl)⟩) rfl hl.1 rfl (Nat.le_of_ble_eq_true rfl) dL_step_75 ⟨(Nat.le_of_ble_eq_true rfl), (Nat.le_of_ble_eq_true rfl)⟩) (fun r_75 u_75 H locs hp hw => ?_)
    obtain ⟨⟨Y1, C1⟩, f1, V1⟩ := u_75
    obtain ⟨hr_75, hrc, hL⟩ := hp
    have hr_75 : r_75 = nI 1 := hr_75
    subst hr_75
    have hrc : zRC Y1 C1 x V1 := hrc
    have hL : zLw V1 f1 := hL
    have hw : zHA E ([(o, zci E f1)] ++ Y1) C1 s H locs := hw
    obtain ⟨xf, hx0⟩ := hrc.x
    exact z_iret (wf := fun (u : zUw) => zQ E ([(o, zci E u.2.1)] ++ u.1.1) u.1.2) Cx hr rfl (Nat.le_of_ble_eq_true rfl) (Nat.le_of_ble_eq_true rfl) ((Y1, C1), f1, V1) hw ⟨rfl, hrc, hL⟩ dL_step_78
  · refine lv_tableIn (off := 60) (tgt := 64) hx hb dL_step_4 (by decide) (by decide) rfl (by decide) ?_
    refine lv_aload_n hx hb dL_step_64 rfl (lv_at hl 0 rfl) ?_
    refine lv_aload_n hx hb dL_step_65 rfl (lv_at hl 1 rfl) ?_
    refine lv_iload_n hx hb dL_step_66 rfl (lv_at hl 3 rfl) ?_
    refine lv_bipush (v := nI 6) hx hb dL_step_67 rfl ?_
    refine lv_irem hx hb dL_step_69 (nI_ne0 (by omega) (by omega)) ?_
    refine lv_topi (fun q_69 e_69 => ?_)
    rw [pk_rem (by omega) (by omega) (by omega)] at e_69
    subst e_69
    refine lv_iload hx hb dL_step_70 (lv_at hl 4 rfl) ?_
    refine lv_bipush (v := nI 64) hx hb dL_step_72 rfl ?_
    refine lv_irem hx hb dL_step_74 (nI_ne0 (by omega) (by omega)) ?_
    refine lv_topi (fun q_74 e_74 => ?_)
    rw [pk_rem (by omega) (by omega) (by omega)] at e_74
    subst e_74
    refine z_goi (wf := fun (u : zUw) => zQ E ([(o, zci E u.2.1)] ++ u.1.1) u.1.2) hw.2 (z_runS Cx hw (c_L_hosts E l hl0 x o f Y C V hrc hL (a % 6) (b % 64) (by omega) (by omega)) (va_cwS 4 Cx.1.2.2.2.2 gL_step_L_hosts rfl rfl rfl (by decide +kernel) ⟨(Nat.le_of_ble_eq_true rfl), (Nat.le_of_ble_eq_true rfl)⟩) rfl hl.1 rfl (Nat.le_of_ble_eq_true rfl) dL_step_75 ⟨(Nat.le_of_ble_eq_true rfl), (Nat.le_of_ble_eq_true rfl)⟩) (fun r_75 u_75 H locs hp hw => ?_)
    obtain ⟨⟨Y1, C1⟩, f1, V1⟩ := u_75
    obtain ⟨hr_75, hrc, hL⟩ := hp
    have hr_75 : r_75 = nI 1 := hr_75
    subst hr_75
    have hrc : zRC Y1 C1 x V1 := hrc
    have hL : zLw V1 f1 := hL
    have hw : zHA E ([(o, zci E f1)] ++ Y1) C1 s H locs := hw
    obtain ⟨xf, hx0⟩ := hrc.x
    exact z_iret (wf := fun (u : zUw) => zQ E ([(o, zci E u.2.1)] ++ u.1.1) u.1.2) Cx hr rfl (Nat.le_of_ble_eq_true rfl) (Nat.le_of_ble_eq_true rfl) ((Y1, C1), f1, V1) hw ⟨rfl, hrc, hL⟩ dL_step_78
  · refine lv_tableIn (off := 75) (tgt := 79) hx hb dL_step_4 (by decide) (by decide) rfl (by decide) ?_
    refine lv_aload_n hx hb dL_step_79 rfl (lv_at hl 1 rfl) ?_
    refine lv_iconst (v := nI 1) hx hb dL_step_80 rfl ?_
    refine zc_iald Cx hw (by omega) (v := nI ((vG V).length)) g1 dL_step_81 ?_
    refine lv_bipush (v := nI 6) hx hb dL_step_82 rfl ?_
    refine lv_icmp_ne (tgt := 105) hx hb dL_step_84 (by decide) (fun c_84 => ?_) (fun c_84 => ?_)
    · skip
      have n_84 : ¬ ((vG V).length) = 6 := fun h => c_84 ((nI_eq (by omega) (by omega)).mpr h)
      refine lv_aload_n hx hb dL_step_105 rfl (lv_at hl 1 rfl) ?_
      refine lv_iconst (v := nI 1) hx hb dL_step_106 rfl ?_
      refine lv_dup2_11 hx hb dL_step_107 rfl rfl ?_
      refine zc_iald Cx hw (by omega) (v := nI ((vG V).length)) g1 dL_step_108 ?_
      refine lv_iconst (v := nI 1) hx hb dL_step_109 rfl ?_
      refine lv_iadd hx hb dL_step_110 ?_
      refine lv_topi (fun q_110 e_110 => ?_)
      rw [nI_add] at e_110
      subst e_110
      refine zc_iast Cx hw (by omega) dL_step_111 (fun H locs hw => ?_)
      have hw : zHA E ([(o, zci E (upd f 1 (nI (((vG V).length) + 1))))] ++ Y) C s H locs := hw
      refine lv_aload_n hx hb dL_step_112 rfl (lv_at hl 0 rfl) ?_
      refine z_goi (wf := fun (u : va_W × zLs) => zQ E ([(o, zci E (upd f 1 (nI (((vG V).length) + 1))))] ++ u.1) u.2) hw.2 (z_runV Cx hw (c_q_addGroup E l [(o, zci E (upd f 1 (nI (((vG V).length) + 1))))] Y C x V hl0 hrc (by omega)) (cwV 0 Cx.1.2.2.2.2 gL_step_X7_addGroup rfl rfl rfl (by decide +kernel) ⟨(Nat.le_of_ble_eq_true rfl), (Nat.le_of_ble_eq_true rfl)⟩) (z_recv Cx hw (r := (RX7, TX7, 5)) (List.mem_append_right _ hx0) rfl) rfl hl.1 rfl (Nat.le_of_ble_eq_true rfl) dL_step_113 ⟨(Nat.le_of_ble_eq_true rfl), (Nat.le_of_ble_eq_true rfl)⟩) (fun r_113 u_113 H locs hp hw => ?_)
      obtain ⟨Y_113, C_113⟩ := u_113
      obtain ⟨hr_113, hrc⟩ := hp
      have hr_113 : r_113 = nI ((vG V).length) := hr_113
      subst hr_113
      obtain ⟨V1, eV1⟩ : ∃ V9 : zCl, V9 = ((vN V, vS V, vH V, vP V, vG V ++ [[]]) : zCl) := ⟨_, rfl⟩
      have hrc : zRC Y_113 C_113 x V1 := by rw [eV1]; exact hrc
      have hw : zHA E ([(o, zci E (upd f 1 (nI (((vG V).length) + 1))))] ++ Y_113) C_113 s H locs := hw
      obtain ⟨xf, hx0⟩ := hrc.x
      have hL1 : zLw V1 (upd f 1 (nI ((vG V).length + 1))) := by rw [eV1]; exact zLw_addGroup hL (by omega)
      refine lv_aload_n hx hb dL_step_116 rfl (lv_at hl 1 rfl) ?_
      refine lv_iconst (v := nI 1) hx hb dL_step_117 rfl ?_
      refine zc_iald Cx hw (by omega) (v := nI ((vG V).length + 1)) pk_us dL_step_118 ?_
      refine lv_iconst (v := nI 1) hx hb dL_step_119 rfl ?_
      refine lv_isub hx hb dL_step_120 ?_
      refine lv_topi (fun q_120 e_120 => ?_)
      have f_120 : q_120 = nI ((vG V).length) := by
        rw [e_120]; exact (pk_sub (by omega)).trans (by rw [Nat.add_sub_cancel])
      clear e_120
      subst f_120
      refine lv_icmp_ne (tgt := 128) hx hb dL_step_121 (by decide) (fun c_121 => ?_) (fun c_121 => ?_)
      · skip
        have n_121 : ¬ ((vG V).length) = ((vG V).length) := fun h => c_121 ((nI_eq (by omega) (by omega)).mpr h)
        exact absurd rfl n_121
      · skip
        have n_121 : ((vG V).length) = ((vG V).length) := (nI_eq (by omega) (by omega)).mp c_121
        refine lv_iconst (v := nI 1) hx hb dL_step_124 rfl ?_
        refine lv_goto (tgt := 129) hx hb dL_step_125 (by decide) ?_
        exact z_iret (wf := fun (u : zUw) => zQ E ([(o, zci E u.2.1)] ++ u.1.1) u.1.2) Cx hr rfl (Nat.le_of_ble_eq_true rfl) (Nat.le_of_ble_eq_true rfl) ((Y_113, C_113), (upd f 1 (nI (((vG V).length) + 1))), V1) hw ⟨rfl, hrc, hL1⟩ dL_step_129
    · skip
      have n_84 : ((vG V).length) = 6 := (nI_eq (by omega) (by omega)).mp c_84
      refine lv_aload_n hx hb dL_step_87 rfl (lv_at hl 0 rfl) ?_
      refine lv_iload hx hb dL_step_88 (lv_at hl 4 rfl) ?_
      refine lv_bipush (v := nI 16) hx hb dL_step_90 rfl ?_
      refine lv_irem hx hb dL_step_92 (nI_ne0 (by omega) (by omega)) ?_
      refine lv_topi (fun q_92 e_92 => ?_)
      rw [pk_rem (by omega) (by omega) (by omega)] at e_92
      subst e_92
      have hpl := zpairs_lt V (zbit (nI (b % 16))) (N := (vH V).length) (by omega)
      refine z_goe hw.2 (z_runV Cx hw (c_q_pairs E l _ C x V hl0 (hrc.grow (fun q hq => List.mem_append_right _ hq)) (b % 16) (by omega)) (cwV 1 Cx.1.2.2.2.2 gL_step_X7_pairs rfl rfl rfl (by decide +kernel) ⟨(Nat.le_of_ble_eq_true rfl), (Nat.le_of_ble_eq_true rfl)⟩) (z_recv Cx hw (r := (RX7, TX7, 5)) (List.mem_append_right _ hx0) rfl) rfl hl.1 rfl (Nat.le_of_ble_eq_true rfl) dL_step_93 ⟨(Nat.le_of_ble_eq_true rfl), (Nat.le_of_ble_eq_true rfl)⟩) (fun H locs hw => ?_)
      refine lv_if_lt (tgt := 103) hx hb dL_step_96 (by decide) (fun c_96 => ?_) (fun c_96 => ?_)
      · skip
        have n_96 : (zpairsO V (zbit (nI (b % 16))) (vH V).length (vH V).length 0 0) < 0 := (nI_ltI (b := 0) (by omega) (by omega)).mp c_96
        omega
      · skip
        have n_96 : ¬ (zpairsO V (zbit (nI (b % 16))) (vH V).length (vH V).length 0 0) < 0 := fun h => c_96 ((nI_ltI (b := 0) (by omega) (by omega)).mpr h)
        refine lv_iconst (v := nI 1) hx hb dL_step_99 rfl ?_
        refine lv_goto (tgt := 104) hx hb dL_step_100 (by decide) ?_
        exact z_iret (wf := fun (u : zUw) => zQ E ([(o, zci E u.2.1)] ++ u.1.1) u.1.2) Cx hr rfl (Nat.le_of_ble_eq_true rfl) (Nat.le_of_ble_eq_true rfl) ((Y, C), f, V) hw ⟨rfl, hrc, hL⟩ dL_step_104
  · refine lv_tableIn (off := 126) (tgt := 130) hx hb dL_step_4 (by decide) (by decide) rfl (by decide) ?_
    refine lv_aload_n hx hb dL_step_130 rfl (lv_at hl 0 rfl) ?_
    refine lv_aload_n hx hb dL_step_131 rfl (lv_at hl 1 rfl) ?_
    refine lv_iload_n hx hb dL_step_132 rfl (lv_at hl 3 rfl) ?_
    refine lv_iload hx hb dL_step_133 (lv_at hl 4 rfl) ?_
    refine z_goi (wf := fun (u : zUw) => zQ E ([(o, zci E u.2.1)] ++ u.1.1) u.1.2) hw.2 (z_runS Cx hw (c_L_rules E l hl0 x o f Y C V hrc hL a b ha hb0) (va_cwS 4 Cx.1.2.2.2.2 gL_step_L_rules rfl rfl rfl (by decide +kernel) ⟨(Nat.le_of_ble_eq_true rfl), (Nat.le_of_ble_eq_true rfl)⟩) rfl hl.1 rfl (Nat.le_of_ble_eq_true rfl) dL_step_135 ⟨(Nat.le_of_ble_eq_true rfl), (Nat.le_of_ble_eq_true rfl)⟩) (fun r_135 u_135 H locs hp hw => ?_)
    obtain ⟨⟨Y1, C1⟩, f1, V1⟩ := u_135
    obtain ⟨hr_135, hrc, hL⟩ := hp
    have hr_135 : r_135 = nI 1 := hr_135
    subst hr_135
    have hrc : zRC Y1 C1 x V1 := hrc
    have hL : zLw V1 f1 := hL
    have hw : zHA E ([(o, zci E f1)] ++ Y1) C1 s H locs := hw
    obtain ⟨xf, hx0⟩ := hrc.x
    exact z_iret (wf := fun (u : zUw) => zQ E ([(o, zci E u.2.1)] ++ u.1.1) u.1.2) Cx hr rfl (Nat.le_of_ble_eq_true rfl) (Nat.le_of_ble_eq_true rfl) ((Y1, C1), f1, V1) hw ⟨rfl, hrc, hL⟩ dL_step_138
  · refine lv_tableIn (off := 126) (tgt := 130) hx hb dL_step_4 (by decide) (by decide) rfl (by decide) ?_
    refine lv_aload_n hx hb dL_step_130 rfl (lv_at hl 0 rfl) ?_
    refine lv_aload_n hx hb dL_step_131 rfl (lv_at hl 1 rfl) ?_
    refine lv_iload_n hx hb dL_step_132 rfl (lv_at hl 3 rfl) ?_
    refine lv_iload hx hb dL_step_133 (lv_at hl 4 rfl) ?_
    refine z_goi (wf := fun (u : zUw) => zQ E ([(o, zci E u.2.1)] ++ u.1.1) u.1.2) hw.2 (z_runS Cx hw (c_L_rules E l hl0 x o f Y C V hrc hL a b ha hb0) (va_cwS 4 Cx.1.2.2.2.2 gL_step_L_rules rfl rfl rfl (by decide +kernel) ⟨(Nat.le_of_ble_eq_true rfl), (Nat.le_of_ble_eq_true rfl)⟩) rfl hl.1 rfl (Nat.le_of_ble_eq_true rfl) dL_step_135 ⟨(Nat.le_of_ble_eq_true rfl), (Nat.le_of_ble_eq_true rfl)⟩) (fun r_135 u_135 H locs hp hw => ?_)
    obtain ⟨⟨Y1, C1⟩, f1, V1⟩ := u_135
    obtain ⟨hr_135, hrc, hL⟩ := hp
    have hr_135 : r_135 = nI 1 := hr_135
    subst hr_135
    have hrc : zRC Y1 C1 x V1 := hrc
    have hL : zLw V1 f1 := hL
    have hw : zHA E ([(o, zci E f1)] ++ Y1) C1 s H locs := hw
    obtain ⟨xf, hx0⟩ := hrc.x
    exact z_iret (wf := fun (u : zUw) => zQ E ([(o, zci E u.2.1)] ++ u.1.1) u.1.2) Cx hr rfl (Nat.le_of_ble_eq_true rfl) (Nat.le_of_ble_eq_true rfl) ((Y1, C1), f1, V1) hw ⟨rfl, hrc, hL⟩ dL_step_138
  · refine lv_tableIn (off := 126) (tgt := 130) hx hb dL_step_4 (by decide) (by decide) rfl (by decide) ?_
    refine lv_aload_n hx hb dL_step_130 rfl (lv_at hl 0 rfl) ?_
    refine lv_aload_n hx hb dL_step_131 rfl (lv_at hl 1 rfl) ?_
    refine lv_iload_n hx hb dL_step_132 rfl (lv_at hl 3 rfl) ?_
    refine lv_iload hx hb dL_step_133 (lv_at hl 4 rfl) ?_
    refine z_goi (wf := fun (u : zUw) => zQ E ([(o, zci E u.2.1)] ++ u.1.1) u.1.2) hw.2 (z_runS Cx hw (c_L_rules E l hl0 x o f Y C V hrc hL a b ha hb0) (va_cwS 4 Cx.1.2.2.2.2 gL_step_L_rules rfl rfl rfl (by decide +kernel) ⟨(Nat.le_of_ble_eq_true rfl), (Nat.le_of_ble_eq_true rfl)⟩) rfl hl.1 rfl (Nat.le_of_ble_eq_true rfl) dL_step_135 ⟨(Nat.le_of_ble_eq_true rfl), (Nat.le_of_ble_eq_true rfl)⟩) (fun r_135 u_135 H locs hp hw => ?_)
    obtain ⟨⟨Y1, C1⟩, f1, V1⟩ := u_135
    obtain ⟨hr_135, hrc, hL⟩ := hp
    have hr_135 : r_135 = nI 1 := hr_135
    subst hr_135
    have hrc : zRC Y1 C1 x V1 := hrc
    have hL : zLw V1 f1 := hL
    have hw : zHA E ([(o, zci E f1)] ++ Y1) C1 s H locs := hw
    obtain ⟨xf, hx0⟩ := hrc.x
    exact z_iret (wf := fun (u : zUw) => zQ E ([(o, zci E u.2.1)] ++ u.1.1) u.1.2) Cx hr rfl (Nat.le_of_ble_eq_true rfl) (Nat.le_of_ble_eq_true rfl) ((Y1, C1), f1, V1) hw ⟨rfl, hrc, hL⟩ dL_step_138
  · refine lv_tableIn (off := 135) (tgt := 139) hx hb dL_step_4 (by decide) (by decide) rfl (by decide) ?_
    refine lv_aload_n hx hb dL_step_139 rfl (lv_at hl 1 rfl) ?_
    refine lv_iconst (v := nI 0) hx hb dL_step_140 rfl ?_
    refine zc_iald Cx hw (by omega) (v := nI ((vH V).length)) g0 dL_step_141 ?_
    refine lv_if_eq (tgt := 151) hx hb dL_step_142 (by decide) (fun c_142 => ?_) (fun c_142 => ?_)
    · skip
      have n_142 : ((vH V).length) = 0 := (nI_eq (b := 0) (by omega) (by omega)).mp c_142
      refine lv_aload_n hx hb dL_step_151 rfl (lv_at hl 0 rfl) ?_
      refine lv_iload_n hx hb dL_step_152 rfl (lv_at hl 3 rfl) ?_
      refine lv_bipush (v := nI 16) hx hb dL_step_153 rfl ?_
      refine lv_irem hx hb dL_step_155 (nI_ne0 (by omega) (by omega)) ?_
      refine lv_topi (fun q_155 e_155 => ?_)
      rw [pk_rem (by omega) (by omega) (by omega)] at e_155
      subst e_155
      have hpl := zpairs_lt V (zbit (nI (a % 16))) (N := (vH V).length) (by omega)
      refine z_goe hw.2 (z_runV Cx hw (c_q_pairs E l _ C x V hl0 (hrc.grow (fun q hq => List.mem_append_right _ hq)) (a % 16) (by omega)) (cwV 1 Cx.1.2.2.2.2 gL_step_X7_pairs rfl rfl rfl (by decide +kernel) ⟨(Nat.le_of_ble_eq_true rfl), (Nat.le_of_ble_eq_true rfl)⟩) (z_recv Cx hw (r := (RX7, TX7, 5)) (List.mem_append_right _ hx0) rfl) rfl hl.1 rfl (Nat.le_of_ble_eq_true rfl) dL_step_156 ⟨(Nat.le_of_ble_eq_true rfl), (Nat.le_of_ble_eq_true rfl)⟩) (fun H locs hw => ?_)
      refine lv_if_ne (tgt := 166) hx hb dL_step_159 (by decide) (fun c_159 => ?_) (fun c_159 => ?_)
      · skip
        have n_159 : ¬ (zpairsO V (zbit (nI (a % 16))) (vH V).length (vH V).length 0 0) = 0 := fun h => c_159 ((nI_eq (b := 0) (by omega) (by omega)).mpr h)
        exact absurd (zpairs_none (Or.inl n_142) _) n_159
      · skip
        have n_159 : (zpairsO V (zbit (nI (a % 16))) (vH V).length (vH V).length 0 0) = 0 := (nI_eq (b := 0) (by omega) (by omega)).mp c_159
        refine lv_iconst (v := nI 1) hx hb dL_step_162 rfl ?_
        refine lv_goto (tgt := 167) hx hb dL_step_163 (by decide) ?_
        exact z_iret (wf := fun (u : zUw) => zQ E ([(o, zci E u.2.1)] ++ u.1.1) u.1.2) Cx hr rfl (Nat.le_of_ble_eq_true rfl) (Nat.le_of_ble_eq_true rfl) ((Y, C), f, V) hw ⟨rfl, hrc, hL⟩ dL_step_167
    · skip
      have n_142 : ¬ ((vH V).length) = 0 := fun h => c_142 ((nI_eq (b := 0) (by omega) (by omega)).mpr h)
      refine lv_aload_n hx hb dL_step_145 rfl (lv_at hl 1 rfl) ?_
      refine lv_iconst (v := nI 1) hx hb dL_step_146 rfl ?_
      refine zc_iald Cx hw (by omega) (v := nI ((vG V).length)) g1 dL_step_147 ?_
      refine lv_if_ne (tgt := 168) hx hb dL_step_148 (by decide) (fun c_148 => ?_) (fun c_148 => ?_)
      · skip
        have n_148 : ¬ ((vG V).length) = 0 := fun h => c_148 ((nI_eq (b := 0) (by omega) (by omega)).mpr h)
        have cut_182 : ∀ (i1 : Bool) (H : Heap) (locs : List Loc) (ls : Array Slot), zHA E ([(o, zci E f)] ++ Y) C s H locs → lv_has ls 8 [(0, .ref x), (1, .ref o), (2, .int (nI w)), (3, .int (nI a)), (4, .int (nI b)), (5, .int (zb i1))] → W p l e (zR 10 100 1000) s m ([.ref x, .ref o, .int (nI w), .int (nI a), .int (nI b)] : List Value).toArray below meth c H locs 0 0 (MQ below (zqL E x o) ([.ref x, .ref o, .int (nI w), .int (nI a), .int (nI b)] : List Value).toArray s 100 1000 (eA E)) (F0 m 182 ls []) := by
          intro i1 H locs ls  hw hl
          refine lv_aload_n hx hb dL_step_182 rfl (lv_at hl 0 rfl) ?_
          refine lv_iload_n hx hb dL_step_183 rfl (lv_at hl 3 rfl) ?_
          refine lv_aload_n hx hb dL_step_184 rfl (lv_at hl 1 rfl) ?_
          refine lv_iconst (v := nI 0) hx hb dL_step_185 rfl ?_
          refine zc_iald Cx hw (by omega) (v := nI ((vH V).length)) g0 dL_step_186 ?_
          refine lv_irem hx hb dL_step_187 (nI_ne0 (by omega) (by omega)) ?_
          refine lv_topi (fun q_187 e_187 => ?_)
          rw [pk_rem (by omega) (by omega) (by omega)] at e_187
          subst e_187
          obtain ⟨k0, ek0⟩ : ∃ k0 : Nat, k0 = a % ((vH V).length) := ⟨_, rfl⟩
          rw [← ek0]
          have hk0 : k0 < (vH V).length := by rw [ek0]; exact zmod_lt (by omega)
          refine lv_iload hx hb dL_step_188 (lv_at hl 4 rfl) ?_
          refine lv_aload_n hx hb dL_step_190 rfl (lv_at hl 1 rfl) ?_
          refine lv_iconst (v := nI 1) hx hb dL_step_191 rfl ?_
          refine zc_iald Cx hw (by omega) (v := nI ((vG V).length)) g1 dL_step_192 ?_
          refine lv_irem hx hb dL_step_193 (nI_ne0 (by omega) (by omega)) ?_
          refine lv_topi (fun q_193 e_193 => ?_)
          rw [pk_rem (by omega) (by omega) (by omega)] at e_193
          subst e_193
          obtain ⟨j0, ej0⟩ : ∃ j0 : Nat, j0 = b % ((vG V).length) := ⟨_, rfl⟩
          rw [← ej0]
          have hj0 : j0 < (vG V).length := by rw [ej0]; exact zmod_lt (by omega)
          refine lv_iload hx hb dL_step_194 (lv_at hl 5 rfl) ?_
          refine z_goi (wf := fun (u : va_W × zLs) => zQ E ([(o, zci E f)] ++ u.1) u.2) hw.2 (z_runV Cx hw (c_q_setGroup E l [(o, zci E f)] Y C x V hl0 hrc k0 j0 (zhv V k0) i1 (zhv_get hk0) hj0 (by omega)) (cwV 3 Cx.1.2.2.2.2 gL_step_X7_setGroup rfl rfl rfl (by decide +kernel) ⟨(Nat.le_of_ble_eq_true rfl), (Nat.le_of_ble_eq_true rfl)⟩) (z_recv Cx hw (r := (RX7, TX7, 5)) (List.mem_append_right _ hx0) rfl) rfl hl.1 rfl (Nat.le_of_ble_eq_true rfl) dL_step_196 ⟨(Nat.le_of_ble_eq_true rfl), (Nat.le_of_ble_eq_true rfl)⟩) (fun r_196 u_196 H locs hp hw => ?_)
          obtain ⟨Y_196, C_196⟩ := u_196
          obtain ⟨hr_196, hrc⟩ := hp
          have hr_196 : r_196 = zb (!decide ((zhv V k0).2.2 &&& (1 : Int32) <<< (nI j0 &&& 31) = 0)) := hr_196
          subst hr_196
          obtain ⟨V1, eV1⟩ : ∃ V9 : zCl, V9 = ((vN V, vS V, (vH V).set k0 (((zhv V k0).1, (zhv V k0).2.1, zput (zhv V k0).2.2 (nI j0) (zb i1)) : zHo), vP V, vG V) : zCl) := ⟨_, rfl⟩
          have hrc : zRC Y_196 C_196 x V1 := by rw [eV1]; exact hrc
          have hw : zHA E ([(o, zci E f)] ++ Y_196) C_196 s H locs := hw
          obtain ⟨xf, hx0⟩ := hrc.x
          have hL1 : zLw V1 f := by rw [eV1]; exact zLw_setGroup hL (zhv_get hk0) hj0
          have hk1 : (vH V1)[k0]? = some (((zhv V k0).1, (zhv V k0).2.1, zput (zhv V k0).2.2 (nI j0) (zb i1)) : zHo) := by
            rw [eV1]
            show ((vH V).set k0 (((zhv V k0).1, (zhv V k0).2.1, zput (zhv V k0).2.2 (nI j0) (zb i1)) : zHo))[k0]? = _
            rw [List.getElem?_set_self hk0]
          have hn1 : (vH V1).length ≤ 8 := hL1.1.2.2.2.2.1
          have hj1 : j0 < (vG V1).length := by rw [eV1]; exact hj0
          refine lv_pop hx hb dL_step_199 rfl ?_
          refine lv_aload_n hx hb dL_step_200 rfl (lv_at hl 0 rfl) ?_
          refine lv_iload_n hx hb dL_step_201 rfl (lv_at hl 3 rfl) ?_
          refine lv_aload_n hx hb dL_step_202 rfl (lv_at hl 1 rfl) ?_
          refine lv_iconst (v := nI 0) hx hb dL_step_203 rfl ?_
          refine zc_iald Cx hw (by omega) (v := nI ((vH V).length)) g0 dL_step_204 ?_
          refine lv_irem hx hb dL_step_205 (nI_ne0 (by omega) (by omega)) ?_
          refine lv_topi (fun q_205 e_205 => ?_)
          have f_205 : q_205 = nI k0 := by
            rw [e_205, pk_rem (by omega) (by omega) (by omega), ek0]
          clear e_205
          subst f_205
          refine lv_iload hx hb dL_step_206 (lv_at hl 4 rfl) ?_
          refine lv_aload_n hx hb dL_step_208 rfl (lv_at hl 1 rfl) ?_
          refine lv_iconst (v := nI 1) hx hb dL_step_209 rfl ?_
          refine zc_iald Cx hw (by omega) (v := nI ((vG V).length)) g1 dL_step_210 ?_
          refine lv_irem hx hb dL_step_211 (nI_ne0 (by omega) (by omega)) ?_
          refine lv_topi (fun q_211 e_211 => ?_)
          have f_211 : q_211 = nI j0 := by
            rw [e_211, pk_rem (by omega) (by omega) (by omega), ej0]
          clear e_211
          subst f_211
          refine lv_iload hx hb dL_step_212 (lv_at hl 5 rfl) ?_
          refine z_goi (wf := fun (u : va_W × zLs) => zQ E ([(o, zci E f)] ++ u.1) u.2) hw.2 (z_runV Cx hw (c_q_setGroup E l [(o, zci E f)] Y_196 C_196 x V1 hl0 hrc k0 j0 (((zhv V k0).1, (zhv V k0).2.1, zput (zhv V k0).2.2 (nI j0) (zb i1)) : zHo) i1 hk1 hj1 (by omega)) (cwV 3 Cx.1.2.2.2.2 gL_step_X7_setGroup rfl rfl rfl (by decide +kernel) ⟨(Nat.le_of_ble_eq_true rfl), (Nat.le_of_ble_eq_true rfl)⟩) (z_recv Cx hw (r := (RX7, TX7, 5)) (List.mem_append_right _ hx0) rfl) rfl hl.1 rfl (Nat.le_of_ble_eq_true rfl) dL_step_214 ⟨(Nat.le_of_ble_eq_true rfl), (Nat.le_of_ble_eq_true rfl)⟩) (fun r_214 u_214 H locs hp hw => ?_)
          obtain ⟨Y_214, C_214⟩ := u_214
          obtain ⟨hr_214, hrc⟩ := hp
          have hr_214 : r_214 = zb (!decide (zput (zhv V k0).2.2 (nI j0) (zb i1) &&& (1 : Int32) <<< (nI j0 &&& 31) = 0)) := hr_214
          subst hr_214
          obtain ⟨V2, eV2⟩ : ∃ V9 : zCl, V9 = ((vN V1, vS V1, (vH V1).set k0 ((((zhv V k0).1, (zhv V k0).2.1, zput (zhv V k0).2.2 (nI j0) (zb i1)) : zHo).1, (((zhv V k0).1, (zhv V k0).2.1, zput (zhv V k0).2.2 (nI j0) (zb i1)) : zHo).2.1, zput (((zhv V k0).1, (zhv V k0).2.1, zput (zhv V k0).2.2 (nI j0) (zb i1)) : zHo).2.2 (nI j0) (zb i1)), vP V1, vG V1) : zCl) := ⟨_, rfl⟩
          have hrc : zRC Y_214 C_214 x V2 := by rw [eV2]; exact hrc
          have hw : zHA E ([(o, zci E f)] ++ Y_214) C_214 s H locs := hw
          obtain ⟨xf, hx0⟩ := hrc.x
          have hL2 : zLw V2 f := by rw [eV2]; exact zLw_setGroup hL1 hk1 hj1
          refine lv_iload hx hb dL_step_217 (lv_at hl 5 rfl) ?_
          refine lv_icmp_ne (tgt := 226) hx hb dL_step_219 (by decide) (fun c_219 => ?_) (fun c_219 => ?_)
          · skip
            exact absurd (by rw [zput_bit _ (by omega)]) c_219
          · skip
            refine lv_iconst (v := nI 1) hx hb dL_step_222 rfl ?_
            refine lv_goto (tgt := 227) hx hb dL_step_223 (by decide) ?_
            exact z_iret (wf := fun (u : zUw) => zQ E ([(o, zci E u.2.1)] ++ u.1.1) u.1.2) Cx hr rfl (Nat.le_of_ble_eq_true rfl) (Nat.le_of_ble_eq_true rfl) ((Y_214, C_214), f, V2) hw ⟨rfl, hrc, hL2⟩ dL_step_227
        refine lv_iload hx hb dL_step_168 (lv_at hl 4 rfl) ?_
        refine lv_iconst (v := nI 5) hx hb dL_step_170 rfl ?_
        refine lv_irem hx hb dL_step_171 (nI_ne0 (by omega) (by omega)) ?_
        refine lv_topi (fun q_171 e_171 => ?_)
        rw [pk_rem (by omega) (by omega) (by omega)] at e_171
        subst e_171
        refine lv_if_le (tgt := 179) hx hb dL_step_172 (by decide) (fun c_172 => ?_) (fun c_172 => ?_)
        · skip
          have n_172 : (b % 5) ≤ 0 := (nI_leI (b := 0) (by omega) (by omega)).mp c_172
          refine lv_iconst (v := zb false) hx hb dL_step_179 rfl ?_
          refine lv_istore hx hb dL_step_180 hl (by decide) rfl (fun ls hl => ?_)
          have hl : lv_has ls 8 [(5, .int (zb false)), (0, .ref x), (1, .ref o), (2, .int (nI w)), (3, .int (nI a)), (4, .int (nI b))] := hl
          exact cut_182 false _ _ ls  hw (lv_sub hl [1, 2, 3, 4, 5, 0] rfl)
        · skip
          have n_172 : ¬ (b % 5) ≤ 0 := fun h => c_172 ((nI_leI (b := 0) (by omega) (by omega)).mpr h)
          refine lv_iconst (v := zb true) hx hb dL_step_175 rfl ?_
          refine lv_goto (tgt := 180) hx hb dL_step_176 (by decide) ?_
          refine lv_istore hx hb dL_step_180 hl (by decide) rfl (fun ls hl => ?_)
          have hl : lv_has ls 8 [(5, .int (zb true)), (0, .ref x), (1, .ref o), (2, .int (nI w)), (3, .int (nI a)), (4, .int (nI b))] := hl
          exact cut_182 true _ _ ls  hw (lv_sub hl [1, 2, 3, 4, 5, 0] rfl)
      · skip
        have n_148 : ((vG V).length) = 0 := (nI_eq (b := 0) (by omega) (by omega)).mp c_148
        refine lv_aload_n hx hb dL_step_151 rfl (lv_at hl 0 rfl) ?_
        refine lv_iload_n hx hb dL_step_152 rfl (lv_at hl 3 rfl) ?_
        refine lv_bipush (v := nI 16) hx hb dL_step_153 rfl ?_
        refine lv_irem hx hb dL_step_155 (nI_ne0 (by omega) (by omega)) ?_
        refine lv_topi (fun q_155 e_155 => ?_)
        rw [pk_rem (by omega) (by omega) (by omega)] at e_155
        subst e_155
        have hpl := zpairs_lt V (zbit (nI (a % 16))) (N := (vH V).length) (by omega)
        refine z_goe hw.2 (z_runV Cx hw (c_q_pairs E l _ C x V hl0 (hrc.grow (fun q hq => List.mem_append_right _ hq)) (a % 16) (by omega)) (cwV 1 Cx.1.2.2.2.2 gL_step_X7_pairs rfl rfl rfl (by decide +kernel) ⟨(Nat.le_of_ble_eq_true rfl), (Nat.le_of_ble_eq_true rfl)⟩) (z_recv Cx hw (r := (RX7, TX7, 5)) (List.mem_append_right _ hx0) rfl) rfl hl.1 rfl (Nat.le_of_ble_eq_true rfl) dL_step_156 ⟨(Nat.le_of_ble_eq_true rfl), (Nat.le_of_ble_eq_true rfl)⟩) (fun H locs hw => ?_)
        refine lv_if_ne (tgt := 166) hx hb dL_step_159 (by decide) (fun c_159 => ?_) (fun c_159 => ?_)
        · skip
          have n_159 : ¬ (zpairsO V (zbit (nI (a % 16))) (vH V).length (vH V).length 0 0) = 0 := fun h => c_159 ((nI_eq (b := 0) (by omega) (by omega)).mpr h)
          exact absurd (zpairs_none (Or.inr n_148) _) n_159
        · skip
          have n_159 : (zpairsO V (zbit (nI (a % 16))) (vH V).length (vH V).length 0 0) = 0 := (nI_eq (b := 0) (by omega) (by omega)).mp c_159
          refine lv_iconst (v := nI 1) hx hb dL_step_162 rfl ?_
          refine lv_goto (tgt := 167) hx hb dL_step_163 (by decide) ?_
          exact z_iret (wf := fun (u : zUw) => zQ E ([(o, zci E u.2.1)] ++ u.1.1) u.1.2) Cx hr rfl (Nat.le_of_ble_eq_true rfl) (Nat.le_of_ble_eq_true rfl) ((Y, C), f, V) hw ⟨rfl, hrc, hL⟩ dL_step_167
  · refine lv_tableIn (off := 135) (tgt := 139) hx hb dL_step_4 (by decide) (by decide) rfl (by decide) ?_
    refine lv_aload_n hx hb dL_step_139 rfl (lv_at hl 1 rfl) ?_
    refine lv_iconst (v := nI 0) hx hb dL_step_140 rfl ?_
    refine zc_iald Cx hw (by omega) (v := nI ((vH V).length)) g0 dL_step_141 ?_
    refine lv_if_eq (tgt := 151) hx hb dL_step_142 (by decide) (fun c_142 => ?_) (fun c_142 => ?_)
    · skip
      have n_142 : ((vH V).length) = 0 := (nI_eq (b := 0) (by omega) (by omega)).mp c_142
      refine lv_aload_n hx hb dL_step_151 rfl (lv_at hl 0 rfl) ?_
      refine lv_iload_n hx hb dL_step_152 rfl (lv_at hl 3 rfl) ?_
      refine lv_bipush (v := nI 16) hx hb dL_step_153 rfl ?_
      refine lv_irem hx hb dL_step_155 (nI_ne0 (by omega) (by omega)) ?_
      refine lv_topi (fun q_155 e_155 => ?_)
      rw [pk_rem (by omega) (by omega) (by omega)] at e_155
      subst e_155
      have hpl := zpairs_lt V (zbit (nI (a % 16))) (N := (vH V).length) (by omega)
      refine z_goe hw.2 (z_runV Cx hw (c_q_pairs E l _ C x V hl0 (hrc.grow (fun q hq => List.mem_append_right _ hq)) (a % 16) (by omega)) (cwV 1 Cx.1.2.2.2.2 gL_step_X7_pairs rfl rfl rfl (by decide +kernel) ⟨(Nat.le_of_ble_eq_true rfl), (Nat.le_of_ble_eq_true rfl)⟩) (z_recv Cx hw (r := (RX7, TX7, 5)) (List.mem_append_right _ hx0) rfl) rfl hl.1 rfl (Nat.le_of_ble_eq_true rfl) dL_step_156 ⟨(Nat.le_of_ble_eq_true rfl), (Nat.le_of_ble_eq_true rfl)⟩) (fun H locs hw => ?_)
      refine lv_if_ne (tgt := 166) hx hb dL_step_159 (by decide) (fun c_159 => ?_) (fun c_159 => ?_)
      · skip
        have n_159 : ¬ (zpairsO V (zbit (nI (a % 16))) (vH V).length (vH V).length 0 0) = 0 := fun h => c_159 ((nI_eq (b := 0) (by omega) (by omega)).mpr h)
        exact absurd (zpairs_none (Or.inl n_142) _) n_159
      · skip
        have n_159 : (zpairsO V (zbit (nI (a % 16))) (vH V).length (vH V).length 0 0) = 0 := (nI_eq (b := 0) (by omega) (by omega)).mp c_159
        refine lv_iconst (v := nI 1) hx hb dL_step_162 rfl ?_
        refine lv_goto (tgt := 167) hx hb dL_step_163 (by decide) ?_
        exact z_iret (wf := fun (u : zUw) => zQ E ([(o, zci E u.2.1)] ++ u.1.1) u.1.2) Cx hr rfl (Nat.le_of_ble_eq_true rfl) (Nat.le_of_ble_eq_true rfl) ((Y, C), f, V) hw ⟨rfl, hrc, hL⟩ dL_step_167
    · skip
      have n_142 : ¬ ((vH V).length) = 0 := fun h => c_142 ((nI_eq (b := 0) (by omega) (by omega)).mpr h)
      refine lv_aload_n hx hb dL_step_145 rfl (lv_at hl 1 rfl) ?_
      refine lv_iconst (v := nI 1) hx hb dL_step_146 rfl ?_
      refine zc_iald Cx hw (by omega) (v := nI ((vG V).length)) g1 dL_step_147 ?_
      refine lv_if_ne (tgt := 168) hx hb dL_step_148 (by decide) (fun c_148 => ?_) (fun c_148 => ?_)
      · skip
        have n_148 : ¬ ((vG V).length) = 0 := fun h => c_148 ((nI_eq (b := 0) (by omega) (by omega)).mpr h)
        have cut_182 : ∀ (i1 : Bool) (H : Heap) (locs : List Loc) (ls : Array Slot), zHA E ([(o, zci E f)] ++ Y) C s H locs → lv_has ls 8 [(0, .ref x), (1, .ref o), (2, .int (nI w)), (3, .int (nI a)), (4, .int (nI b)), (5, .int (zb i1))] → W p l e (zR 10 100 1000) s m ([.ref x, .ref o, .int (nI w), .int (nI a), .int (nI b)] : List Value).toArray below meth c H locs 0 0 (MQ below (zqL E x o) ([.ref x, .ref o, .int (nI w), .int (nI a), .int (nI b)] : List Value).toArray s 100 1000 (eA E)) (F0 m 182 ls []) := by
          intro i1 H locs ls  hw hl
          refine lv_aload_n hx hb dL_step_182 rfl (lv_at hl 0 rfl) ?_
          refine lv_iload_n hx hb dL_step_183 rfl (lv_at hl 3 rfl) ?_
          refine lv_aload_n hx hb dL_step_184 rfl (lv_at hl 1 rfl) ?_
          refine lv_iconst (v := nI 0) hx hb dL_step_185 rfl ?_
          refine zc_iald Cx hw (by omega) (v := nI ((vH V).length)) g0 dL_step_186 ?_
          refine lv_irem hx hb dL_step_187 (nI_ne0 (by omega) (by omega)) ?_
          refine lv_topi (fun q_187 e_187 => ?_)
          rw [pk_rem (by omega) (by omega) (by omega)] at e_187
          subst e_187
          obtain ⟨k0, ek0⟩ : ∃ k0 : Nat, k0 = a % ((vH V).length) := ⟨_, rfl⟩
          rw [← ek0]
          have hk0 : k0 < (vH V).length := by rw [ek0]; exact zmod_lt (by omega)
          refine lv_iload hx hb dL_step_188 (lv_at hl 4 rfl) ?_
          refine lv_aload_n hx hb dL_step_190 rfl (lv_at hl 1 rfl) ?_
          refine lv_iconst (v := nI 1) hx hb dL_step_191 rfl ?_
          refine zc_iald Cx hw (by omega) (v := nI ((vG V).length)) g1 dL_step_192 ?_
          refine lv_irem hx hb dL_step_193 (nI_ne0 (by omega) (by omega)) ?_
          refine lv_topi (fun q_193 e_193 => ?_)
          rw [pk_rem (by omega) (by omega) (by omega)] at e_193
          subst e_193
          obtain ⟨j0, ej0⟩ : ∃ j0 : Nat, j0 = b % ((vG V).length) := ⟨_, rfl⟩
          rw [← ej0]
          have hj0 : j0 < (vG V).length := by rw [ej0]; exact zmod_lt (by omega)
          refine lv_iload hx hb dL_step_194 (lv_at hl 5 rfl) ?_
          refine z_goi (wf := fun (u : va_W × zLs) => zQ E ([(o, zci E f)] ++ u.1) u.2) hw.2 (z_runV Cx hw (c_q_setGroup E l [(o, zci E f)] Y C x V hl0 hrc k0 j0 (zhv V k0) i1 (zhv_get hk0) hj0 (by omega)) (cwV 3 Cx.1.2.2.2.2 gL_step_X7_setGroup rfl rfl rfl (by decide +kernel) ⟨(Nat.le_of_ble_eq_true rfl), (Nat.le_of_ble_eq_true rfl)⟩) (z_recv Cx hw (r := (RX7, TX7, 5)) (List.mem_append_right _ hx0) rfl) rfl hl.1 rfl (Nat.le_of_ble_eq_true rfl) dL_step_196 ⟨(Nat.le_of_ble_eq_true rfl), (Nat.le_of_ble_eq_true rfl)⟩) (fun r_196 u_196 H locs hp hw => ?_)
          obtain ⟨Y_196, C_196⟩ := u_196
          obtain ⟨hr_196, hrc⟩ := hp
          have hr_196 : r_196 = zb (!decide ((zhv V k0).2.2 &&& (1 : Int32) <<< (nI j0 &&& 31) = 0)) := hr_196
          subst hr_196
          obtain ⟨V1, eV1⟩ : ∃ V9 : zCl, V9 = ((vN V, vS V, (vH V).set k0 (((zhv V k0).1, (zhv V k0).2.1, zput (zhv V k0).2.2 (nI j0) (zb i1)) : zHo), vP V, vG V) : zCl) := ⟨_, rfl⟩
          have hrc : zRC Y_196 C_196 x V1 := by rw [eV1]; exact hrc
          have hw : zHA E ([(o, zci E f)] ++ Y_196) C_196 s H locs := hw
          obtain ⟨xf, hx0⟩ := hrc.x
          have hL1 : zLw V1 f := by rw [eV1]; exact zLw_setGroup hL (zhv_get hk0) hj0
          have hk1 : (vH V1)[k0]? = some (((zhv V k0).1, (zhv V k0).2.1, zput (zhv V k0).2.2 (nI j0) (zb i1)) : zHo) := by
            rw [eV1]
            show ((vH V).set k0 (((zhv V k0).1, (zhv V k0).2.1, zput (zhv V k0).2.2 (nI j0) (zb i1)) : zHo))[k0]? = _
            rw [List.getElem?_set_self hk0]
          have hn1 : (vH V1).length ≤ 8 := hL1.1.2.2.2.2.1
          have hj1 : j0 < (vG V1).length := by rw [eV1]; exact hj0
          refine lv_pop hx hb dL_step_199 rfl ?_
          refine lv_aload_n hx hb dL_step_200 rfl (lv_at hl 0 rfl) ?_
          refine lv_iload_n hx hb dL_step_201 rfl (lv_at hl 3 rfl) ?_
          refine lv_aload_n hx hb dL_step_202 rfl (lv_at hl 1 rfl) ?_
          refine lv_iconst (v := nI 0) hx hb dL_step_203 rfl ?_
          refine zc_iald Cx hw (by omega) (v := nI ((vH V).length)) g0 dL_step_204 ?_
          refine lv_irem hx hb dL_step_205 (nI_ne0 (by omega) (by omega)) ?_
          refine lv_topi (fun q_205 e_205 => ?_)
          have f_205 : q_205 = nI k0 := by
            rw [e_205, pk_rem (by omega) (by omega) (by omega), ek0]
          clear e_205
          subst f_205
          refine lv_iload hx hb dL_step_206 (lv_at hl 4 rfl) ?_
          refine lv_aload_n hx hb dL_step_208 rfl (lv_at hl 1 rfl) ?_
          refine lv_iconst (v := nI 1) hx hb dL_step_209 rfl ?_
          refine zc_iald Cx hw (by omega) (v := nI ((vG V).length)) g1 dL_step_210 ?_
          refine lv_irem hx hb dL_step_211 (nI_ne0 (by omega) (by omega)) ?_
          refine lv_topi (fun q_211 e_211 => ?_)
          have f_211 : q_211 = nI j0 := by
            rw [e_211, pk_rem (by omega) (by omega) (by omega), ej0]
          clear e_211
          subst f_211
          refine lv_iload hx hb dL_step_212 (lv_at hl 5 rfl) ?_
          refine z_goi (wf := fun (u : va_W × zLs) => zQ E ([(o, zci E f)] ++ u.1) u.2) hw.2 (z_runV Cx hw (c_q_setGroup E l [(o, zci E f)] Y_196 C_196 x V1 hl0 hrc k0 j0 (((zhv V k0).1, (zhv V k0).2.1, zput (zhv V k0).2.2 (nI j0) (zb i1)) : zHo) i1 hk1 hj1 (by omega)) (cwV 3 Cx.1.2.2.2.2 gL_step_X7_setGroup rfl rfl rfl (by decide +kernel) ⟨(Nat.le_of_ble_eq_true rfl), (Nat.le_of_ble_eq_true rfl)⟩) (z_recv Cx hw (r := (RX7, TX7, 5)) (List.mem_append_right _ hx0) rfl) rfl hl.1 rfl (Nat.le_of_ble_eq_true rfl) dL_step_214 ⟨(Nat.le_of_ble_eq_true rfl), (Nat.le_of_ble_eq_true rfl)⟩) (fun r_214 u_214 H locs hp hw => ?_)
          obtain ⟨Y_214, C_214⟩ := u_214
          obtain ⟨hr_214, hrc⟩ := hp
          have hr_214 : r_214 = zb (!decide (zput (zhv V k0).2.2 (nI j0) (zb i1) &&& (1 : Int32) <<< (nI j0 &&& 31) = 0)) := hr_214
          subst hr_214
          obtain ⟨V2, eV2⟩ : ∃ V9 : zCl, V9 = ((vN V1, vS V1, (vH V1).set k0 ((((zhv V k0).1, (zhv V k0).2.1, zput (zhv V k0).2.2 (nI j0) (zb i1)) : zHo).1, (((zhv V k0).1, (zhv V k0).2.1, zput (zhv V k0).2.2 (nI j0) (zb i1)) : zHo).2.1, zput (((zhv V k0).1, (zhv V k0).2.1, zput (zhv V k0).2.2 (nI j0) (zb i1)) : zHo).2.2 (nI j0) (zb i1)), vP V1, vG V1) : zCl) := ⟨_, rfl⟩
          have hrc : zRC Y_214 C_214 x V2 := by rw [eV2]; exact hrc
          have hw : zHA E ([(o, zci E f)] ++ Y_214) C_214 s H locs := hw
          obtain ⟨xf, hx0⟩ := hrc.x
          have hL2 : zLw V2 f := by rw [eV2]; exact zLw_setGroup hL1 hk1 hj1
          refine lv_iload hx hb dL_step_217 (lv_at hl 5 rfl) ?_
          refine lv_icmp_ne (tgt := 226) hx hb dL_step_219 (by decide) (fun c_219 => ?_) (fun c_219 => ?_)
          · skip
            exact absurd (by rw [zput_bit _ (by omega)]) c_219
          · skip
            refine lv_iconst (v := nI 1) hx hb dL_step_222 rfl ?_
            refine lv_goto (tgt := 227) hx hb dL_step_223 (by decide) ?_
            exact z_iret (wf := fun (u : zUw) => zQ E ([(o, zci E u.2.1)] ++ u.1.1) u.1.2) Cx hr rfl (Nat.le_of_ble_eq_true rfl) (Nat.le_of_ble_eq_true rfl) ((Y_214, C_214), f, V2) hw ⟨rfl, hrc, hL2⟩ dL_step_227
        refine lv_iload hx hb dL_step_168 (lv_at hl 4 rfl) ?_
        refine lv_iconst (v := nI 5) hx hb dL_step_170 rfl ?_
        refine lv_irem hx hb dL_step_171 (nI_ne0 (by omega) (by omega)) ?_
        refine lv_topi (fun q_171 e_171 => ?_)
        rw [pk_rem (by omega) (by omega) (by omega)] at e_171
        subst e_171
        refine lv_if_le (tgt := 179) hx hb dL_step_172 (by decide) (fun c_172 => ?_) (fun c_172 => ?_)
        · skip
          have n_172 : (b % 5) ≤ 0 := (nI_leI (b := 0) (by omega) (by omega)).mp c_172
          refine lv_iconst (v := zb false) hx hb dL_step_179 rfl ?_
          refine lv_istore hx hb dL_step_180 hl (by decide) rfl (fun ls hl => ?_)
          have hl : lv_has ls 8 [(5, .int (zb false)), (0, .ref x), (1, .ref o), (2, .int (nI w)), (3, .int (nI a)), (4, .int (nI b))] := hl
          exact cut_182 false _ _ ls  hw (lv_sub hl [1, 2, 3, 4, 5, 0] rfl)
        · skip
          have n_172 : ¬ (b % 5) ≤ 0 := fun h => c_172 ((nI_leI (b := 0) (by omega) (by omega)).mpr h)
          refine lv_iconst (v := zb true) hx hb dL_step_175 rfl ?_
          refine lv_goto (tgt := 180) hx hb dL_step_176 (by decide) ?_
          refine lv_istore hx hb dL_step_180 hl (by decide) rfl (fun ls hl => ?_)
          have hl : lv_has ls 8 [(5, .int (zb true)), (0, .ref x), (1, .ref o), (2, .int (nI w)), (3, .int (nI a)), (4, .int (nI b))] := hl
          exact cut_182 true _ _ ls  hw (lv_sub hl [1, 2, 3, 4, 5, 0] rfl)
      · skip
        have n_148 : ((vG V).length) = 0 := (nI_eq (b := 0) (by omega) (by omega)).mp c_148
        refine lv_aload_n hx hb dL_step_151 rfl (lv_at hl 0 rfl) ?_
        refine lv_iload_n hx hb dL_step_152 rfl (lv_at hl 3 rfl) ?_
        refine lv_bipush (v := nI 16) hx hb dL_step_153 rfl ?_
        refine lv_irem hx hb dL_step_155 (nI_ne0 (by omega) (by omega)) ?_
        refine lv_topi (fun q_155 e_155 => ?_)
        rw [pk_rem (by omega) (by omega) (by omega)] at e_155
        subst e_155
        have hpl := zpairs_lt V (zbit (nI (a % 16))) (N := (vH V).length) (by omega)
        refine z_goe hw.2 (z_runV Cx hw (c_q_pairs E l _ C x V hl0 (hrc.grow (fun q hq => List.mem_append_right _ hq)) (a % 16) (by omega)) (cwV 1 Cx.1.2.2.2.2 gL_step_X7_pairs rfl rfl rfl (by decide +kernel) ⟨(Nat.le_of_ble_eq_true rfl), (Nat.le_of_ble_eq_true rfl)⟩) (z_recv Cx hw (r := (RX7, TX7, 5)) (List.mem_append_right _ hx0) rfl) rfl hl.1 rfl (Nat.le_of_ble_eq_true rfl) dL_step_156 ⟨(Nat.le_of_ble_eq_true rfl), (Nat.le_of_ble_eq_true rfl)⟩) (fun H locs hw => ?_)
        refine lv_if_ne (tgt := 166) hx hb dL_step_159 (by decide) (fun c_159 => ?_) (fun c_159 => ?_)
        · skip
          have n_159 : ¬ (zpairsO V (zbit (nI (a % 16))) (vH V).length (vH V).length 0 0) = 0 := fun h => c_159 ((nI_eq (b := 0) (by omega) (by omega)).mpr h)
          exact absurd (zpairs_none (Or.inr n_148) _) n_159
        · skip
          have n_159 : (zpairsO V (zbit (nI (a % 16))) (vH V).length (vH V).length 0 0) = 0 := (nI_eq (b := 0) (by omega) (by omega)).mp c_159
          refine lv_iconst (v := nI 1) hx hb dL_step_162 rfl ?_
          refine lv_goto (tgt := 167) hx hb dL_step_163 (by decide) ?_
          exact z_iret (wf := fun (u : zUw) => zQ E ([(o, zci E u.2.1)] ++ u.1.1) u.1.2) Cx hr rfl (Nat.le_of_ble_eq_true rfl) (Nat.le_of_ble_eq_true rfl) ((Y, C), f, V) hw ⟨rfl, hrc, hL⟩ dL_step_167
  · refine lv_tableIn (off := 224) (tgt := 228) hx hb dL_step_4 (by decide) (by decide) rfl (by decide) ?_
    refine lv_aload_n hx hb dL_step_228 rfl (lv_at hl 0 rfl) ?_
    refine lv_aload_n hx hb dL_step_229 rfl (lv_at hl 1 rfl) ?_
    refine lv_iload_n hx hb dL_step_230 rfl (lv_at hl 3 rfl) ?_
    refine lv_iload hx hb dL_step_231 (lv_at hl 4 rfl) ?_
    refine z_goi (wf := fun (u : zUw) => zQ E ([(o, zci E u.2.1)] ++ u.1.1) u.1.2) hw.2 (z_runS Cx hw (c_L_lists E l hl0 x o f Y C V hrc hL a b ha hb0) (va_cwS 4 Cx.1.2.2.2.2 gL_step_L_lists rfl rfl rfl (by decide +kernel) ⟨(Nat.le_of_ble_eq_true rfl), (Nat.le_of_ble_eq_true rfl)⟩) rfl hl.1 rfl (Nat.le_of_ble_eq_true rfl) dL_step_233 ⟨(Nat.le_of_ble_eq_true rfl), (Nat.le_of_ble_eq_true rfl)⟩) (fun r_233 u_233 H locs hp hw => ?_)
    obtain ⟨⟨Y1, C1⟩, f1, V1⟩ := u_233
    obtain ⟨hr_233, hrc, hL⟩ := hp
    have hr_233 : r_233 = nI 1 := hr_233
    subst hr_233
    have hrc : zRC Y1 C1 x V1 := hrc
    have hL : zLw V1 f1 := hL
    have hw : zHA E ([(o, zci E f1)] ++ Y1) C1 s H locs := hw
    obtain ⟨xf, hx0⟩ := hrc.x
    exact z_iret (wf := fun (u : zUw) => zQ E ([(o, zci E u.2.1)] ++ u.1.1) u.1.2) Cx hr rfl (Nat.le_of_ble_eq_true rfl) (Nat.le_of_ble_eq_true rfl) ((Y1, C1), f1, V1) hw ⟨rfl, hrc, hL⟩ dL_step_236
  · refine lv_tableIn (off := 233) (tgt := 237) hx hb dL_step_4 (by decide) (by decide) rfl (by decide) ?_
    refine lv_aload_n hx hb dL_step_237 rfl (lv_at hl 0 rfl) ?_
    refine lv_aload_n hx hb dL_step_238 rfl (lv_at hl 1 rfl) ?_
    refine lv_iload_n hx hb dL_step_239 rfl (lv_at hl 3 rfl) ?_
    refine lv_iload hx hb dL_step_240 (lv_at hl 4 rfl) ?_
    refine z_goi (wf := fun (u : zUw) => zQ E ([(o, zci E u.2.1)] ++ u.1.1) u.1.2) hw.2 (z_runS Cx hw (c_L_routes E l hl0 x o f Y C V hrc hL a b ha hb0) (va_cwS 4 Cx.1.2.2.2.2 gL_step_L_routes rfl rfl rfl (by decide +kernel) ⟨(Nat.le_of_ble_eq_true rfl), (Nat.le_of_ble_eq_true rfl)⟩) rfl hl.1 rfl (Nat.le_of_ble_eq_true rfl) dL_step_242 ⟨(Nat.le_of_ble_eq_true rfl), (Nat.le_of_ble_eq_true rfl)⟩) (fun r_242 u_242 H locs hp hw => ?_)
    obtain ⟨⟨Y1, C1⟩, f1, V1⟩ := u_242
    obtain ⟨hr_242, hrc, hL⟩ := hp
    have hr_242 : r_242 = nI 1 := hr_242
    subst hr_242
    have hrc : zRC Y1 C1 x V1 := hrc
    have hL : zLw V1 f1 := hL
    have hw : zHA E ([(o, zci E f1)] ++ Y1) C1 s H locs := hw
    obtain ⟨xf, hx0⟩ := hrc.x
    exact z_iret (wf := fun (u : zUw) => zQ E ([(o, zci E u.2.1)] ++ u.1.1) u.1.2) Cx hr rfl (Nat.le_of_ble_eq_true rfl) (Nat.le_of_ble_eq_true rfl) ((Y1, C1), f1, V1) hw ⟨rfl, hrc, hL⟩ dL_step_245
  · refine lv_tableIn (off := 242) (tgt := 246) hx hb dL_step_4 (by decide) (by decide) rfl (by decide) ?_
    refine lv_aload_n hx hb dL_step_246 rfl (lv_at hl 1 rfl) ?_
    refine lv_iconst (v := nI 2) hx hb dL_step_247 rfl ?_
    refine zc_iald Cx hw (by omega) (v := nI ((vP V).length)) g2 dL_step_248 ?_
    refine lv_bipush (v := nI 6) hx hb dL_step_249 rfl ?_
    refine lv_icmp_ne (tgt := 277) hx hb dL_step_251 (by decide) (fun c_251 => ?_) (fun c_251 => ?_)
    · skip
      have n_251 : ¬ ((vP V).length) = 6 := fun h => c_251 ((nI_eq (by omega) (by omega)).mpr h)
      refine lv_aload_n hx hb dL_step_277 rfl (lv_at hl 1 rfl) ?_
      refine lv_iconst (v := nI 2) hx hb dL_step_278 rfl ?_
      refine lv_dup2_11 hx hb dL_step_279 rfl rfl ?_
      refine zc_iald Cx hw (by omega) (v := nI ((vP V).length)) g2 dL_step_280 ?_
      refine lv_iconst (v := nI 1) hx hb dL_step_281 rfl ?_
      refine lv_iadd hx hb dL_step_282 ?_
      refine lv_topi (fun q_282 e_282 => ?_)
      rw [nI_add] at e_282
      subst e_282
      refine zc_iast Cx hw (by omega) dL_step_283 (fun H locs hw => ?_)
      have hw : zHA E ([(o, zci E (upd f 2 (nI (((vP V).length) + 1))))] ++ Y) C s H locs := hw
      refine lv_aload_n hx hb dL_step_284 rfl (lv_at hl 0 rfl) ?_
      refine lv_iload_n hx hb dL_step_285 rfl (lv_at hl 3 rfl) ?_
      refine lv_iconst (v := nI 3) hx hb dL_step_286 rfl ?_
      refine lv_irem hx hb dL_step_287 (nI_ne0 (by omega) (by omega)) ?_
      refine lv_topi (fun q_287 e_287 => ?_)
      rw [pk_rem (by omega) (by omega) (by omega)] at e_287
      subst e_287
      refine lv_iload_n hx hb dL_step_288 rfl (lv_at hl 3 rfl) ?_
      refine lv_iconst (v := nI 3) hx hb dL_step_289 rfl ?_
      refine lv_irem hx hb dL_step_290 (nI_ne0 (by omega) (by omega)) ?_
      refine lv_topi (fun q_290 e_290 => ?_)
      rw [pk_rem (by omega) (by omega) (by omega)] at e_290
      subst e_290
      refine lv_iconst (v := nI 1) hx hb dL_step_291 rfl ?_
      refine lv_iadd hx hb dL_step_292 ?_
      refine lv_topi (fun q_292 e_292 => ?_)
      rw [nI_add] at e_292
      subst e_292
      refine lv_iload hx hb dL_step_293 (lv_at hl 4 rfl) ?_
      refine lv_iconst (v := nI 2) hx hb dL_step_295 rfl ?_
      refine lv_irem hx hb dL_step_296 (nI_ne0 (by omega) (by omega)) ?_
      refine lv_topi (fun q_296 e_296 => ?_)
      rw [pk_rem (by omega) (by omega) (by omega)] at e_296
      subst e_296
      refine lv_iadd hx hb dL_step_297 ?_
      refine lv_topi (fun q_297 e_297 => ?_)
      rw [nI_add] at e_297
      subst e_297
      refine lv_iconst (v := nI 3) hx hb dL_step_298 rfl ?_
      refine lv_irem hx hb dL_step_299 (nI_ne0 (by omega) (by omega)) ?_
      refine lv_topi (fun q_299 e_299 => ?_)
      rw [pk_rem (by omega) (by omega) (by omega)] at e_299
      subst e_299
      have hN3 : (vN V).length = 3 := by rw [hN]; rfl
      have hP6 := hI.2.2.2.2
      refine z_goi (wf := fun (u : va_W × zLs) => zQ E ([(o, zci E (upd f 2 (nI (((vP V).length) + 1))))] ++ u.1) u.2) hw.2 (z_runV Cx hw (c_q_addPeering E l [(o, zci E (upd f 2 (nI (((vP V).length) + 1))))] Y C x V hl0 hrc (a % 3) ((a % 3 + 1 + b % 2) % 3) (by omega) (by omega) (by omega) (by omega) (by omega)) (cwV 2 Cx.1.2.2.2.2 gL_step_X7_addPeering rfl rfl rfl (by decide +kernel) ⟨(Nat.le_of_ble_eq_true rfl), (Nat.le_of_ble_eq_true rfl)⟩) (z_recv Cx hw (r := (RX7, TX7, 5)) (List.mem_append_right _ hx0) rfl) rfl hl.1 rfl (Nat.le_of_ble_eq_true rfl) dL_step_300 ⟨(Nat.le_of_ble_eq_true rfl), (Nat.le_of_ble_eq_true rfl)⟩) (fun r_300 u_300 H locs hp hw => ?_)
      obtain ⟨Y_300, C_300⟩ := u_300
      obtain ⟨hr_300, hrc⟩ := hp
      have hr_300 : r_300 = nI ((vP V).length) := hr_300
      subst hr_300
      obtain ⟨V1, eV1⟩ : ∃ V9 : zCl, V9 = ((vN V, vS V, vH V, vP V ++ [(a % 3, (a % 3 + 1 + b % 2) % 3)], vG V) : zCl) := ⟨_, rfl⟩
      have hrc : zRC Y_300 C_300 x V1 := by rw [eV1]; exact hrc
      have hw : zHA E ([(o, zci E (upd f 2 (nI (((vP V).length) + 1))))] ++ Y_300) C_300 s H locs := hw
      obtain ⟨xf, hx0⟩ := hrc.x
      have hL1 : zLw V1 (upd f 2 (nI ((vP V).length + 1))) := by rw [eV1]; exact zLw_addPeering hL (by omega) (by omega) (by omega) (by omega)
      refine lv_aload_n hx hb dL_step_303 rfl (lv_at hl 1 rfl) ?_
      refine lv_iconst (v := nI 2) hx hb dL_step_304 rfl ?_
      refine zc_iald Cx hw (by omega) (v := nI ((vP V).length + 1)) pk_us dL_step_305 ?_
      refine lv_iconst (v := nI 1) hx hb dL_step_306 rfl ?_
      refine lv_isub hx hb dL_step_307 ?_
      refine lv_topi (fun q_307 e_307 => ?_)
      have f_307 : q_307 = nI ((vP V).length) := by
        rw [e_307]; exact (pk_sub (by omega)).trans (by rw [Nat.add_sub_cancel])
      clear e_307
      subst f_307
      refine lv_icmp_ne (tgt := 315) hx hb dL_step_308 (by decide) (fun c_308 => ?_) (fun c_308 => ?_)
      · skip
        have n_308 : ¬ ((vP V).length) = ((vP V).length) := fun h => c_308 ((nI_eq (by omega) (by omega)).mpr h)
        exact absurd rfl n_308
      · skip
        have n_308 : ((vP V).length) = ((vP V).length) := (nI_eq (by omega) (by omega)).mp c_308
        refine lv_iconst (v := nI 1) hx hb dL_step_311 rfl ?_
        refine lv_goto (tgt := 316) hx hb dL_step_312 (by decide) ?_
        exact z_iret (wf := fun (u : zUw) => zQ E ([(o, zci E u.2.1)] ++ u.1.1) u.1.2) Cx hr rfl (Nat.le_of_ble_eq_true rfl) (Nat.le_of_ble_eq_true rfl) ((Y_300, C_300), (upd f 2 (nI (((vP V).length) + 1))), V1) hw ⟨rfl, hrc, hL1⟩ dL_step_316
    · skip
      have n_251 : ((vP V).length) = 6 := (nI_eq (by omega) (by omega)).mp c_251
      refine lv_aload_n hx hb dL_step_254 rfl (lv_at hl 0 rfl) ?_
      refine lv_iload_n hx hb dL_step_255 rfl (lv_at hl 3 rfl) ?_
      refine lv_bipush (v := nI 6) hx hb dL_step_256 rfl ?_
      refine lv_irem hx hb dL_step_258 (nI_ne0 (by omega) (by omega)) ?_
      refine lv_topi (fun q_258 e_258 => ?_)
      rw [pk_rem (by omega) (by omega) (by omega)] at e_258
      subst e_258
      refine lv_sipush (v := nI 1023) hx hb dL_step_259 rfl ?_
      refine z_goe hw.2 (z_runV Cx hw (c_q_routeFor E l _ C x V hl0 (hrc.grow (fun q hq => List.mem_append_right _ hq)) (a % 6) (nI 1023) (by omega) (zadr_n (by omega)) (by omega)) (cwV 2 Cx.1.2.2.2.2 gL_step_X7_routeFor rfl rfl rfl (by decide +kernel) ⟨(Nat.le_of_ble_eq_true rfl), (Nat.le_of_ble_eq_true rfl)⟩) (z_recv Cx hw (r := (RX7, TX7, 5)) (List.mem_append_right _ hx0) rfl) rfl hl.1 rfl (Nat.le_of_ble_eq_true rfl) dL_step_262 ⟨(Nat.le_of_ble_eq_true rfl), (Nat.le_of_ble_eq_true rfl)⟩) (fun H locs hw => ?_)
      refine lv_aload_n hx hb dL_step_265 rfl (lv_at hl 1 rfl) ?_
      refine lv_iconst (v := nI 2) hx hb dL_step_266 rfl ?_
      refine zc_iald Cx hw (by omega) (v := nI ((vP V).length)) g2 dL_step_267 ?_
      refine lv_icmp_ge (tgt := 275) hx hb dL_step_268 (by decide) (fun c_268 => ?_) (fun c_268 => ?_)
      · skip
        exact absurd c_268 (Int32.not_le.mpr (zroute_lt hL.1 (by omega) _))
      · skip
        refine lv_iconst (v := nI 1) hx hb dL_step_271 rfl ?_
        refine lv_goto (tgt := 276) hx hb dL_step_272 (by decide) ?_
        exact z_iret (wf := fun (u : zUw) => zQ E ([(o, zci E u.2.1)] ++ u.1.1) u.1.2) Cx hr rfl (Nat.le_of_ble_eq_true rfl) (Nat.le_of_ble_eq_true rfl) ((Y, C), f, V) hw ⟨rfl, hrc, hL⟩ dL_step_276
  · refine lv_tableOut (tgt := 317) hx hb dL_step_4 (Or.inr (by decide)) (by decide) ?_
    have cut_334 : ∀ (gr : Nat) (H : Heap) (locs : List Loc) (ls : Array Slot), (gr < 6) → (¬ (vG V).length = 0 → gr < (vG V).length) → zHA E ([(o, zci E f)] ++ Y) C s H locs → lv_has ls 8 [(0, .ref x), (1, .ref o), (2, .int (nI w)), (3, .int (nI a)), (4, .int (nI b)), (6, .int (nI gr))] → W p l e (zR 10 100 1000) s m ([.ref x, .ref o, .int (nI w), .int (nI a), .int (nI b)] : List Value).toArray below meth c H locs 0 0 (MQ below (zqL E x o) ([.ref x, .ref o, .int (nI w), .int (nI a), .int (nI b)] : List Value).toArray s 100 1000 (eA E)) (F0 m 334 ls []) := by
      intro gr H locs ls hgr hgn hw hl
      refine lv_aload_n hx hb dL_step_334 rfl (lv_at hl 1 rfl) ?_
      refine lv_bipush (v := nI 28) hx hb dL_step_335 rfl ?_
      refine lv_iload hx hb dL_step_337 (lv_at hl 5 rfl) ?_
      refine lv_iadd hx hb dL_step_339 ?_
      refine lv_topi (fun q_339 e_339 => ?_)
      rw [nI_add] at e_339
      subst e_339
      have hle := zgl_le hL gr
      refine zc_iald Cx hw (by omega) (v := nI (zgl V gr)) (g4 gr hgr) dL_step_340 ?_
      refine lv_istore hx hb dL_step_341 hl (by decide) rfl (fun ls hl => ?_)
      have hl : lv_has ls 8 [(7, .int (nI (zgl V gr))), (0, .ref x), (1, .ref o), (2, .int (nI w)), (3, .int (nI a)), (4, .int (nI b)), (6, .int (nI gr))] := hl
      refine lv_aload_n hx hb dL_step_343 rfl (lv_at hl 2 rfl) ?_
      refine lv_iconst (v := nI 1) hx hb dL_step_344 rfl ?_
      refine zc_iald Cx hw (by omega) (v := nI ((vG V).length)) g1 dL_step_345 ?_
      refine lv_if_eq (tgt := 356) hx hb dL_step_346 (by decide) (fun c_346 => ?_) (fun c_346 => ?_)
      · skip
        have n_346 : ((vG V).length) = 0 := (nI_eq (b := 0) (by omega) (by omega)).mp c_346
        refine lv_iload hx hb dL_step_356 (lv_at hl 0 rfl) ?_
        refine lv_bipush (v := nI 10) hx hb dL_step_358 rfl ?_
        refine lv_icmp_gt (tgt := 367) hx hb dL_step_360 (by decide) (fun c_360 => ?_) (fun c_360 => ?_)
        · skip
          have n_360 : 10 < (zgl V gr) := (nI_ltI (by omega) (by omega)).mp c_360
          omega
        · skip
          have n_360 : ¬ 10 < (zgl V gr) := fun h => c_360 ((nI_ltI (by omega) (by omega)).mpr h)
          refine lv_iconst (v := nI 1) hx hb dL_step_363 rfl ?_
          refine lv_goto (tgt := 368) hx hb dL_step_364 (by decide) ?_
          exact z_iret (wf := fun (u : zUw) => zQ E ([(o, zci E u.2.1)] ++ u.1.1) u.1.2) Cx hr rfl (Nat.le_of_ble_eq_true rfl) (Nat.le_of_ble_eq_true rfl) ((Y, C), f, V) hw ⟨rfl, hrc, hL⟩ dL_step_368
      · skip
        have n_346 : ¬ ((vG V).length) = 0 := fun h => c_346 ((nI_eq (b := 0) (by omega) (by omega)).mpr h)
        refine lv_iload hx hb dL_step_349 (lv_at hl 5 rfl) ?_
        refine lv_iconst (v := nI 3) hx hb dL_step_351 rfl ?_
        refine lv_irem hx hb dL_step_352 (nI_ne0 (by omega) (by omega)) ?_
        refine lv_topi (fun q_352 e_352 => ?_)
        rw [pk_rem (by omega) (by omega) (by omega)] at e_352
        subst e_352
        refine lv_if_le (tgt := 369) hx hb dL_step_353 (by decide) (fun c_353 => ?_) (fun c_353 => ?_)
        · skip
          have n_353 : (b % 3) ≤ 0 := (nI_leI (b := 0) (by omega) (by omega)).mp c_353
          obtain ⟨v, hv⟩ : ∃ v, (vG V)[gr]? = some v := ⟨_, List.getElem?_eq_getElem (hgn n_346)⟩
          have hvl := zgl_get hv
          refine lv_aload_n hx hb dL_step_369 rfl (lv_at hl 2 rfl) ?_
          refine lv_bipush (v := nI 28) hx hb dL_step_370 rfl ?_
          refine lv_iload hx hb dL_step_372 (lv_at hl 6 rfl) ?_
          refine lv_iadd hx hb dL_step_374 ?_
          refine lv_topi (fun q_374 e_374 => ?_)
          rw [nI_add] at e_374
          subst e_374
          refine lv_iconst (v := nI 0) hx hb dL_step_375 rfl ?_
          refine zc_iast Cx hw (by omega) dL_step_376 (fun H locs hw => ?_)
          have hw : zHA E ([(o, zci E (upd f (28 + gr) (nI 0)))] ++ Y) C s H locs := hw
          refine lv_aload_n hx hb dL_step_377 rfl (lv_at hl 1 rfl) ?_
          refine lv_iload hx hb dL_step_378 (lv_at hl 6 rfl) ?_
          refine z_goi (wf := fun (u : va_W × zLs) => zQ E ([(o, zci E (upd f (28 + gr) (nI 0)))] ++ u.1) u.2) hw.2 (z_runV Cx hw (c_q_clearGroup E l [(o, zci E (upd f (28 + gr) (nI 0)))] Y C x V hl0 hrc gr v hv (by omega)) (cwV 1 Cx.1.2.2.2.2 gL_step_X7_clearGroup rfl rfl rfl (by decide +kernel) ⟨(Nat.le_of_ble_eq_true rfl), (Nat.le_of_ble_eq_true rfl)⟩) (z_recv Cx hw (r := (RX7, TX7, 5)) (List.mem_append_right _ hx0) rfl) rfl hl.1 rfl (Nat.le_of_ble_eq_true rfl) dL_step_380 ⟨(Nat.le_of_ble_eq_true rfl), (Nat.le_of_ble_eq_true rfl)⟩) (fun r_380 u_380 H locs hp hw => ?_)
          obtain ⟨Y_380, C_380⟩ := u_380
          obtain ⟨hr_380, hrc⟩ := hp
          have hr_380 : r_380 = nI v.length := hr_380
          subst hr_380
          obtain ⟨V1, eV1⟩ : ∃ V9 : zCl, V9 = ((vN V, vS V, vH V, vP V, (vG V).set gr []) : zCl) := ⟨_, rfl⟩
          have hrc : zRC Y_380 C_380 x V1 := by rw [eV1]; exact hrc
          have hw : zHA E ([(o, zci E (upd f (28 + gr) (nI 0)))] ++ Y_380) C_380 s H locs := hw
          obtain ⟨xf, hx0⟩ := hrc.x
          have hL1 : zLw V1 (upd f (28 + gr) (nI 0)) := by rw [eV1]; exact zLw_clearGroup hL hv
          have hv1 : (vG V1)[gr]? = some ([] : List zRl) := by
            rw [eV1]
            show ((vG V).set gr [])[gr]? = _
            rw [List.getElem?_set_self (List.getElem?_eq_some_iff.mp hv).1]
          have hn1 : (vG V1).length ≤ 6 := hL1.1.2.2.2.2.2.1
          refine lv_iload hx hb dL_step_383 (lv_at hl 0 rfl) ?_
          refine lv_icmp_ne (tgt := 401) hx hb dL_step_385 (by decide) (fun c_385 => ?_) (fun c_385 => ?_)
          · skip
            have n_385 : ¬ v.length = (zgl V gr) := fun h => c_385 ((nI_eq (by omega) (by omega)).mpr h)
            omega
          · skip
            have n_385 : v.length = (zgl V gr) := (nI_eq (by omega) (by omega)).mp c_385
            refine lv_aload_n hx hb dL_step_388 rfl (lv_at hl 1 rfl) ?_
            refine lv_iload hx hb dL_step_389 (lv_at hl 6 rfl) ?_
            refine z_goi (wf := fun (u : va_W × zLs) => zQ E ([(o, zci E (upd f (28 + gr) (nI 0)))] ++ u.1) u.2) hw.2 (z_runV Cx hw (c_q_clearGroup E l [(o, zci E (upd f (28 + gr) (nI 0)))] Y_380 C_380 x V1 hl0 hrc gr [] hv1 (by omega)) (cwV 1 Cx.1.2.2.2.2 gL_step_X7_clearGroup rfl rfl rfl (by decide +kernel) ⟨(Nat.le_of_ble_eq_true rfl), (Nat.le_of_ble_eq_true rfl)⟩) (z_recv Cx hw (r := (RX7, TX7, 5)) (List.mem_append_right _ hx0) rfl) rfl hl.1 rfl (Nat.le_of_ble_eq_true rfl) dL_step_391 ⟨(Nat.le_of_ble_eq_true rfl), (Nat.le_of_ble_eq_true rfl)⟩) (fun r_391 u_391 H locs hp hw => ?_)
            obtain ⟨Y_391, C_391⟩ := u_391
            obtain ⟨hr_391, hrc⟩ := hp
            have hr_391 : r_391 = nI 0 := hr_391
            subst hr_391
            obtain ⟨V2, eV2⟩ : ∃ V9 : zCl, V9 = ((vN V1, vS V1, vH V1, vP V1, (vG V1).set gr []) : zCl) := ⟨_, rfl⟩
            have hrc : zRC Y_391 C_391 x V2 := by rw [eV2]; exact hrc
            have hw : zHA E ([(o, zci E (upd f (28 + gr) (nI 0)))] ++ Y_391) C_391 s H locs := hw
            obtain ⟨xf, hx0⟩ := hrc.x
            have e21 : V2 = V1 := by
              rw [eV2, eV1]
              show (vN V, vS V, vH V, vP V, ((vG V).set gr []).set gr []) = (vN V, vS V, vH V, vP V, (vG V).set gr [])
              first | rw [List.set_set] | simp
            have hL2 : zLw V2 (upd f (28 + gr) (nI 0)) := by rw [e21]; exact hL1
            refine lv_if_ne (tgt := 401) hx hb dL_step_394 (by decide) (fun c_394 => ?_) (fun c_394 => ?_)
            · skip
              have n_394 : ¬ 0 = 0 := fun h => c_394 ((nI_eq (b := 0) (by omega) (by omega)).mpr h)
              omega
            · skip
              have n_394 : 0 = 0 := (nI_eq (b := 0) (by omega) (by omega)).mp c_394
              refine lv_iconst (v := nI 1) hx hb dL_step_397 rfl ?_
              refine lv_goto (tgt := 402) hx hb dL_step_398 (by decide) ?_
              exact z_iret (wf := fun (u : zUw) => zQ E ([(o, zci E u.2.1)] ++ u.1.1) u.1.2) Cx hr rfl (Nat.le_of_ble_eq_true rfl) (Nat.le_of_ble_eq_true rfl) ((Y_391, C_391), (upd f (28 + gr) (nI 0)), V2) hw ⟨rfl, hrc, hL2⟩ dL_step_402
        · skip
          have n_353 : ¬ (b % 3) ≤ 0 := fun h => c_353 ((nI_leI (b := 0) (by omega) (by omega)).mpr h)
          refine lv_iload hx hb dL_step_356 (lv_at hl 0 rfl) ?_
          refine lv_bipush (v := nI 10) hx hb dL_step_358 rfl ?_
          refine lv_icmp_gt (tgt := 367) hx hb dL_step_360 (by decide) (fun c_360 => ?_) (fun c_360 => ?_)
          · skip
            have n_360 : 10 < (zgl V gr) := (nI_ltI (by omega) (by omega)).mp c_360
            omega
          · skip
            have n_360 : ¬ 10 < (zgl V gr) := fun h => c_360 ((nI_ltI (by omega) (by omega)).mpr h)
            refine lv_iconst (v := nI 1) hx hb dL_step_363 rfl ?_
            refine lv_goto (tgt := 368) hx hb dL_step_364 (by decide) ?_
            exact z_iret (wf := fun (u : zUw) => zQ E ([(o, zci E u.2.1)] ++ u.1.1) u.1.2) Cx hr rfl (Nat.le_of_ble_eq_true rfl) (Nat.le_of_ble_eq_true rfl) ((Y, C), f, V) hw ⟨rfl, hrc, hL⟩ dL_step_368
    refine lv_aload_n hx hb dL_step_317 rfl (lv_at hl 1 rfl) ?_
    refine lv_iconst (v := nI 1) hx hb dL_step_318 rfl ?_
    refine zc_iald Cx hw (by omega) (v := nI ((vG V).length)) g1 dL_step_319 ?_
    refine lv_if_ne (tgt := 327) hx hb dL_step_320 (by decide) (fun c_320 => ?_) (fun c_320 => ?_)
    · skip
      have n_320 : ¬ ((vG V).length) = 0 := fun h => c_320 ((nI_eq (b := 0) (by omega) (by omega)).mpr h)
      refine lv_iload_n hx hb dL_step_327 rfl (lv_at hl 3 rfl) ?_
      refine lv_aload_n hx hb dL_step_328 rfl (lv_at hl 1 rfl) ?_
      refine lv_iconst (v := nI 1) hx hb dL_step_329 rfl ?_
      refine zc_iald Cx hw (by omega) (v := nI ((vG V).length)) g1 dL_step_330 ?_
      have hm := zmod_lt (a := a) (n := (vG V).length) (by omega)
      refine lv_irem hx hb dL_step_331 (nI_ne0 (by omega) (by omega)) ?_
      refine lv_topi (fun q_331 e_331 => ?_)
      rw [pk_rem (by omega) (by omega) (by omega)] at e_331
      subst e_331
      refine lv_istore hx hb dL_step_332 hl (by decide) rfl (fun ls hl => ?_)
      have hl : lv_has ls 8 [(6, .int (nI (a % ((vG V).length)))), (0, .ref x), (1, .ref o), (2, .int (nI w)), (3, .int (nI a)), (4, .int (nI b))] := hl
      exact cut_334 (a % ((vG V).length)) _ _ ls (by omega) (fun h => by omega) hw (lv_sub hl [1, 2, 3, 4, 5, 0] rfl)
    · skip
      have n_320 : ((vG V).length) = 0 := (nI_eq (b := 0) (by omega) (by omega)).mp c_320
      refine lv_iconst (v := nI 0) hx hb dL_step_323 rfl ?_
      refine lv_goto (tgt := 332) hx hb dL_step_324 (by decide) ?_
      refine lv_istore hx hb dL_step_332 hl (by decide) rfl (fun ls hl => ?_)
      have hl : lv_has ls 8 [(6, .int (nI 0)), (0, .ref x), (1, .ref o), (2, .int (nI w)), (3, .int (nI a)), (4, .int (nI b))] := hl
      exact cut_334 (0) _ _ ls (by omega) (fun h => by omega) hw (lv_sub hl [1, 2, 3, 4, 5, 0] rfl)

