/-! the law's small methods, and its adding of hosts -/
/-- what a method of the law leaves: the class's cells, the array, the cloud; it answers true -/
abbrev zUw : Type := (va_W × zLs) × (Nat → Int32) × zCl
abbrev zqL (E : zG) (x o : Nat) : Array Value → State → Outcome → State → Prop := va_Qi (fun r (u : zUw) => r = nI 1 ∧ zRC u.1.1 u.1.2 x u.2.2 ∧ zLw u.2.2 u.2.1) (fun u tt => zQ E ([(o, zci E u.2.1)] ++ u.1.1) u.1.2 tt.heap) (eA E)
theorem c_L_draw (E : zG) (l : Launch) (w : Heap → Prop) (b L k : Nat) (xs : Nat → Int32) (hk : k < L) (hL : L ≤ 1000) (hbA : ¬ eA E b) : Met l yL_draw wsL_draw (zR 0 0 0) (va_Pc [.ref b, .int (nI k)] (fun U => zu E w U ∧ zXs b L xs U)) (zRi E w (xs k &&& 2147483647)) 0 0 (eA E) := by
  refine z_ofN (N := zXs b L xs) (cc := cL_draw) (maxL := 2) (ret := some .int) (by decide) rfl rfl (Nat.le_of_ble_eq_true rfl) ?_
  intro p e s m below meth c ls hX Cx hr hw hl
  have hx := Cx.1.1
  have hb := Cx.1.2.1
  have hl : lv_has ls 2 [(0, .ref b), (1, .int (nI k))] := hl
  refine lv_iload_n hx hb dL_draw_0 rfl (lv_at hl 1 rfl) ?_
  refine lv_aload_n hx hb dL_draw_1 rfl (lv_at hl 0 rfl) ?_
  refine va_slen hx hb hX.1 hX.2 hbA hw.2 dL_draw_2 ?_
  refine lv_icmp_ge (tgt := 15) hx hb dL_draw_3 (by decide) (fun h => absurd h (nI_ge hk (by omega))) (fun _ => ?_)
  refine lv_aload_n hx hb dL_draw_6 rfl (lv_at hl 0 rfl) ?_
  refine lv_iload_n hx hb dL_draw_7 rfl (lv_at hl 1 rfl) ?_
  refine va_sld hx hb hX.1 hX.2 hbA hw.2 (vp_in_nI hk (by omega)) dL_draw_8 ?_
  rw [nI_clamp (by omega)]
  refine lv_ldc hx hb Cx.1.2.2.2.1 (Cx.1.2.2.2.2 (Cond.constant RL 7 (2147483647)) (List.mem_of_getElem? (i := 1) rfl)) dL_draw_9 ?_
  refine lv_iand hx hb dL_draw_11 ?_
  refine lv_goto (tgt := 24) hx hb dL_draw_12 (by decide) ?_
  exact z_ie Cx hr rfl (Nat.le_of_ble_eq_true rfl) (Nat.le_of_ble_eq_true rfl) hw dL_draw_24 rfl
set_option maxRecDepth 100000 in
set_option maxHeartbeats 4000000 in
theorem c_L_baseOf (E : zG) (l : Launch) (w : Heap → Prop) (a : Nat) (ha : a < 6) : Met l yL_baseOf wsL_baseOf (zR 0 0 0) (zPre E [.int (nI a)] w) (zRi E w (nI (zbase a))) 0 0 (eA E) := by
  refine z_of (cc := cL_baseOf) (maxL := 1) (ret := (some .int)) (by decide) rfl rfl (Nat.le_of_ble_eq_true rfl) ?_
  intro p e s m below meth c ls Cx hr hnm hw hl
  have hx := Cx.1.1
  have hb := Cx.1.2.1
  have hl : lv_has ls 1 [(0, .int (nI a))] := hl
  refine lv_sipush (v := nI 256) hx hb dL_baseOf_0 rfl ?_
  refine lv_iload_n hx hb dL_baseOf_3 rfl (lv_at hl 0 rfl) ?_
  refine lv_iconst (v := nI 2) hx hb dL_baseOf_4 rfl ?_
  refine lv_idiv hx hb dL_baseOf_5 (nI_ne0 (by omega) (by omega)) ?_
  refine lv_topi (fun q_5 e_5 => ?_)
  rw [pk_div (by omega) (by omega) (by omega)] at e_5
  subst e_5
  refine lv_imul hx hb dL_baseOf_6 ?_
  refine lv_topi (fun q_6 e_6 => ?_)
  rw [pk_mul] at e_6
  subst e_6
  refine lv_bipush (v := nI 64) hx hb dL_baseOf_7 rfl ?_
  refine lv_iload_n hx hb dL_baseOf_9 rfl (lv_at hl 0 rfl) ?_
  refine lv_iconst (v := nI 2) hx hb dL_baseOf_10 rfl ?_
  refine lv_irem hx hb dL_baseOf_11 (nI_ne0 (by omega) (by omega)) ?_
  refine lv_topi (fun q_11 e_11 => ?_)
  rw [pk_rem (by omega) (by omega) (by omega)] at e_11
  subst e_11
  refine lv_imul hx hb dL_baseOf_12 ?_
  refine lv_topi (fun q_12 e_12 => ?_)
  rw [pk_mul] at e_12
  subst e_12
  refine lv_iadd hx hb dL_baseOf_13 ?_
  refine lv_topi (fun q_13 e_13 => ?_)
  rw [nI_add] at e_13
  subst e_13
  exact z_ie Cx hr rfl (Nat.le_of_ble_eq_true rfl) (Nat.le_of_ble_eq_true rfl) hw dL_baseOf_14 rfl

set_option maxRecDepth 100000 in
set_option maxHeartbeats 4000000 in
theorem c_L_hosts (E : zG) (l : Launch) (hl0 : l.stackTraces = false) (x o : Nat) (f : Nat → Int32) (Y : va_W) (C : zLs) (V : zCl) (hrc : zRC Y C x V) (hL : zLw V f) (a b : Nat) (ha : a < 6) (hb0 : b < 64) : Met l yL_hosts wsL_hosts (zR 9 100 1000) (zPre E [.ref x, .ref o, .int (nI a), .int (nI b)] (zQ E ([(o, zci E f)] ++ Y) C)) (zqL E x o) 100 1000 (eA E) := by
  refine z_of (cc := cL_hosts) (maxL := 7) (ret := (some .boolean)) (by decide) rfl rfl (Nat.le_of_ble_eq_true rfl) ?_
  intro p e s m below meth c ls Cx hr hnm hw hl
  have hx := Cx.1.1
  have hb := Cx.1.2.1
  have hL2 := hL
  obtain ⟨⟨hI, hN, hS6, hS, hH8, hG6, hG10⟩, g0, g1, g2, g3, g4, g5⟩ := hL2
  obtain ⟨xf, hx0⟩ := hrc.x
  have hl : lv_has ls 7 [(0, .ref x), (1, .ref o), (2, .int (nI a)), (3, .int (nI b))] := hl
  refine lv_iload_n hx hb dL_hosts_0 rfl (lv_at hl 2 rfl) ?_
  have hzb : zbase a ≤ 576 := by unfold zbase; omega
  refine z_goe hw.2 (z_runS Cx hw (c_L_baseOf E l (zQ E ([(o, zci E f)] ++ Y) C) a ha) (va_cwS 1 Cx.1.2.2.2.2 gL_hosts_L_baseOf rfl rfl rfl (by decide +kernel) ⟨(Nat.le_of_ble_eq_true rfl), (Nat.le_of_ble_eq_true rfl)⟩) rfl hl.1 rfl (Nat.le_of_ble_eq_true rfl) dL_hosts_1 ⟨(Nat.le_of_ble_eq_true rfl), (Nat.le_of_ble_eq_true rfl)⟩) (fun H locs hw => ?_)
  refine lv_iload_n hx hb dL_hosts_4 rfl (lv_at hl 3 rfl) ?_
  refine lv_iadd hx hb dL_hosts_5 ?_
  refine lv_topi (fun q_5 e_5 => ?_)
  rw [nI_add] at e_5
  subst e_5
  refine lv_istore hx hb dL_hosts_6 hl (by decide) rfl (fun ls hl => ?_)
  have hl : lv_has ls 7 [(4, .int (nI ((zbase a) + b))), (0, .ref x), (1, .ref o), (2, .int (nI a)), (3, .int (nI b))] := hl
  refine lv_aload_n hx hb dL_hosts_8 rfl (lv_at hl 2 rfl) ?_
  refine lv_iconst (v := nI 0) hx hb dL_hosts_9 rfl ?_
  refine zc_iald Cx hw (by omega) (v := nI ((vH V).length)) g0 dL_hosts_10 ?_
  refine lv_bipush (v := nI 8) hx hb dL_hosts_11 rfl ?_
  refine zl_bge Cx dL_hosts_13 dL_hosts_16 dL_hosts_17 dL_hosts_20 ?_
  obtain ⟨q0, eq0⟩ : ∃ q0 : Bool, q0 = (!decide (nI 8 ≤ nI (vH V).length)) := ⟨_, rfl⟩
  rw [← eq0]
  have hq0 : q0 = true → (vH V).length < 8 := fun h => by
    rw [eq0] at h
    rcases Nat.lt_or_ge (vH V).length 8 with h9 | h9
    · exact h9
    · rw [decide_eq_true ((nI_leI (by omega) (by omega)).mpr h9)] at h
      cases h
  refine lv_istore hx hb dL_hosts_21 hl (by decide) rfl (fun ls hl => ?_)
  have hl : lv_has ls 7 [(5, .int (zb q0)), (4, .int (nI ((zbase a) + b))), (0, .ref x), (1, .ref o), (2, .int (nI a)), (3, .int (nI b))] := hl
  refine lv_iconst (v := nI 0) hx hb dL_hosts_23 rfl ?_
  refine lv_istore hx hb dL_hosts_24 hl (by decide) rfl (fun ls hl => ?_)
  have hl : lv_has ls 7 [(6, .int (nI 0)), (5, .int (zb q0)), (4, .int (nI ((zbase a) + b))), (0, .ref x), (1, .ref o), (2, .int (nI a)), (3, .int (nI b))] := hl
  have loop_26 : ∀ (nn : Nat) (k : Nat) (q : Bool) (H : Heap) (locs : List Loc) (ls : Array Slot), (k ≤ (vH V).length) → (q = true → (vH V).length < 8 ∧ ∀ (i : Nat) (h : zHo), i < k → (vH V)[i]? = some h → ¬ h.2.1 = nI (zbase a + b)) → (vH V).length - k < nn → zHA E ([(o, zci E f)] ++ Y) C s H locs → lv_has ls 7 [(0, .ref x), (1, .ref o), (2, .int (nI a)), (3, .int (nI b)), (4, .int (nI (zbase a + b))), (5, .int (zb q)), (6, .int (nI k))] → W p l e (zR 9 100 1000) s m ([.ref x, .ref o, .int (nI a), .int (nI b)] : List Value).toArray below meth c H locs 0 0 (MQ below (zqL E x o) ([.ref x, .ref o, .int (nI a), .int (nI b)] : List Value).toArray s 100 1000 (eA E)) (F0 m 26 ls []) := by
    intro nn
    induction nn with
    | zero => intro k q H locs ls hk hq hm; exact absurd hm (Nat.not_lt_zero _)
    | succ nn ih_26 =>
      intro k q H locs ls hk hq hm hw hl
      refine lv_iload hx hb dL_hosts_26 (lv_at hl 6 rfl) ?_
      refine lv_aload_n hx hb dL_hosts_28 rfl (lv_at hl 1 rfl) ?_
      refine lv_iconst (v := nI 0) hx hb dL_hosts_29 rfl ?_
      refine zc_iald Cx hw (by omega) (v := nI ((vH V).length)) g0 dL_hosts_30 ?_
      refine lv_icmp_ge (tgt := 64) hx hb dL_hosts_31 (by decide) (fun c_31 => ?_) (fun c_31 => ?_)
      · skip
        have n_31 : ((vH V).length) ≤ k := (nI_leI (by omega) (by omega)).mp c_31
        refine lv_iload hx hb dL_hosts_64 (lv_at hl 5 rfl) ?_
        refine lv_if_ne (tgt := 86) hx hb dL_hosts_66 (by decide) (fun c_66 => ?_) (fun c_66 => ?_)
        · skip
          have hq1 : q = true := (zb_1 q).mp c_66
          have hq := hq hq1
          refine lv_aload_n hx hb dL_hosts_86 rfl (lv_at hl 1 rfl) ?_
          refine lv_iconst (v := nI 4) hx hb dL_hosts_87 rfl ?_
          refine lv_aload_n hx hb dL_hosts_88 rfl (lv_at hl 1 rfl) ?_
          refine lv_iconst (v := nI 0) hx hb dL_hosts_89 rfl ?_
          refine zc_iald Cx hw (by omega) (v := nI ((vH V).length)) g0 dL_hosts_90 ?_
          refine lv_iadd hx hb dL_hosts_91 ?_
          refine lv_topi (fun q_91 e_91 => ?_)
          rw [nI_add] at e_91
          subst e_91
          refine lv_iload_n hx hb dL_hosts_92 rfl (lv_at hl 2 rfl) ?_
          refine zc_iast Cx hw (by omega) dL_hosts_93 (fun H locs hw => ?_)
          have hw : zHA E ([(o, zci E (upd f (4 + ((vH V).length)) (nI a)))] ++ Y) C s H locs := hw
          refine lv_aload_n hx hb dL_hosts_94 rfl (lv_at hl 1 rfl) ?_
          refine lv_bipush (v := nI 16) hx hb dL_hosts_95 rfl ?_
          refine lv_aload_n hx hb dL_hosts_97 rfl (lv_at hl 1 rfl) ?_
          refine lv_iconst (v := nI 0) hx hb dL_hosts_98 rfl ?_
          refine zc_iald Cx hw (by omega) (v := nI ((vH V).length)) (by rw [pk_un (by omega)]; exact g0) dL_hosts_99 ?_
          refine lv_iadd hx hb dL_hosts_100 ?_
          refine lv_topi (fun q_100 e_100 => ?_)
          rw [nI_add] at e_100
          subst e_100
          refine lv_iload hx hb dL_hosts_101 (lv_at hl 4 rfl) ?_
          refine zc_iast Cx hw (by omega) dL_hosts_103 (fun H locs hw => ?_)
          have hw : zHA E ([(o, zci E (upd (upd f (4 + ((vH V).length)) (nI a)) (16 + ((vH V).length)) (nI (zbase a + b))))] ++ Y) C s H locs := hw
          refine lv_aload_n hx hb dL_hosts_104 rfl (lv_at hl 1 rfl) ?_
          refine lv_iconst (v := nI 0) hx hb dL_hosts_105 rfl ?_
          refine lv_dup2_11 hx hb dL_hosts_106 rfl rfl ?_
          refine zc_iald Cx hw (by omega) (v := nI ((vH V).length)) (by rw [pk_un (by omega), pk_un (by omega)]; exact g0) dL_hosts_107 ?_
          refine lv_iconst (v := nI 1) hx hb dL_hosts_108 rfl ?_
          refine lv_iadd hx hb dL_hosts_109 ?_
          refine lv_topi (fun q_109 e_109 => ?_)
          rw [nI_add] at e_109
          subst e_109
          refine zc_iast Cx hw (by omega) dL_hosts_110 (fun H locs hw => ?_)
          have hw : zHA E ([(o, zci E (upd (upd (upd f (4 + ((vH V).length)) (nI a)) (16 + ((vH V).length)) (nI (zbase a + b))) 0 (nI (((vH V).length) + 1))))] ++ Y) C s H locs := hw
          refine lv_aload_n hx hb dL_hosts_111 rfl (lv_at hl 0 rfl) ?_
          refine lv_iload_n hx hb dL_hosts_112 rfl (lv_at hl 2 rfl) ?_
          refine lv_iload hx hb dL_hosts_113 (lv_at hl 4 rfl) ?_
          obtain ⟨v, hv, -, hSo, -⟩ := zL_net hL.1 ha
          have hin : zhs v.2.1.1 v.2.1.2 (nI (zbase a + b)) = true := by rw [hSo.2.1]; exact (zaddr_in ha hb0).1
          have hany : (vH V).any (fun h => decide (h.2.1 = nI (zbase a + b))) = false := List.any_eq_false.mpr (fun h hh => by
            obtain ⟨i, hi⟩ := List.getElem?_of_mem hh
            have h9 := hq.2 i h (by have := (List.getElem?_eq_some_iff.mp hi).1; omega) hi
            rw [decide_eq_false h9]
            decide)
          refine z_goi (wf := fun (u : va_W × zLs) => zQ E ([(o, zci E (upd (upd (upd f (4 + ((vH V).length)) (nI a)) (16 + ((vH V).length)) (nI (zbase a + b))) 0 (nI (((vH V).length) + 1))))] ++ u.1) u.2) hw.2 (z_runV Cx hw (c_q_addHost E l [(o, zci E (upd (upd (upd f (4 + ((vH V).length)) (nI a)) (16 + ((vH V).length)) (nI (zbase a + b))) 0 (nI (((vH V).length) + 1))))] Y C x V hl0 hrc a v (nI (zbase a + b)) hv hin (by omega) hany (by omega)) (cwV 2 Cx.1.2.2.2.2 gL_hosts_X7_addHost rfl rfl rfl (by decide +kernel) ⟨(Nat.le_of_ble_eq_true rfl), (Nat.le_of_ble_eq_true rfl)⟩) (z_recv Cx hw (r := (RX7, TX7, 5)) (List.mem_append_right _ hx0) rfl) rfl hl.1 rfl (Nat.le_of_ble_eq_true rfl) dL_hosts_115 ⟨(Nat.le_of_ble_eq_true rfl), (Nat.le_of_ble_eq_true rfl)⟩) (fun r_115 u_115 H locs hp hw => ?_)
          obtain ⟨Y_115, C_115⟩ := u_115
          obtain ⟨hr_115, hrc⟩ := hp
          have hr_115 : r_115 = nI ((vH V).length) := hr_115
          subst hr_115
          obtain ⟨V1, eV1⟩ : ∃ V9 : zCl, V9 = ((vN V, vS V, vH V ++ [(a, nI (zbase a + b), 0)], vP V, vG V) : zCl) := ⟨_, rfl⟩
          have hrc : zRC Y_115 C_115 x V1 := by rw [eV1]; exact hrc
          have hw : zHA E ([(o, zci E (upd (upd (upd f (4 + ((vH V).length)) (nI a)) (16 + ((vH V).length)) (nI (zbase a + b))) 0 (nI (((vH V).length) + 1))))] ++ Y_115) C_115 s H locs := hw
          obtain ⟨xf, hx0⟩ := hrc.x
          have hl1 : (vH V1).length = (vH V).length + 1 := by rw [eV1]; show (vH V ++ [((a, nI (zbase a + b), 0) : zHo)]).length = _; rw [List.length_append]; rfl
          have hL1 : zLw V1 (upd (upd (upd f (4 + (vH V).length) (nI a)) (16 + (vH V).length) (nI (zbase a + b))) 0 (nI ((vH V).length + 1))) := by rw [eV1]; exact zLw_addHost hL hv hin hq.1 hany
          have hnew : (zhv V1 (vH V).length).2.2 = 0 := by
            rw [eV1]
            unfold zhv
            show ((vH V ++ [((a, nI (zbase a + b), 0) : zHo)]).getD (vH V).length (0, 0, 0)).2.2 = 0
            rw [List.getD_eq_getElem?_getD, List.getElem?_append_right (Nat.le_refl _), Nat.sub_self]
            rfl
          have hw0 : ∀ i, zworkV V1 i (vH V).length = 0 := fun i => zw_0 (p := 5) (by omega) (by omega) (zopen_5 hnew)
          refine lv_aload_n hx hb dL_hosts_118 rfl (lv_at hl 1 rfl) ?_
          refine lv_iconst (v := nI 0) hx hb dL_hosts_119 rfl ?_
          refine zc_iald Cx hw (by omega) (v := nI ((vH V).length + 1)) (by rw [pk_us]) dL_hosts_120 ?_
          refine lv_iconst (v := nI 1) hx hb dL_hosts_121 rfl ?_
          refine lv_isub hx hb dL_hosts_122 ?_
          refine lv_topi (fun q_122 e_122 => ?_)
          have f_122 : q_122 = nI ((vH V).length) := by
            rw [e_122]; exact (pk_sub (by omega)).trans (by rw [Nat.add_sub_cancel])
          clear e_122
          subst f_122
          refine lv_icmp_ne (tgt := 182) hx hb dL_hosts_123 (by decide) (fun c_123 => ?_) (fun c_123 => ?_)
          · skip
            have n_123 : ¬ ((vH V).length) = ((vH V).length) := fun h => c_123 ((nI_eq (by omega) (by omega)).mpr h)
            exact absurd rfl n_123
          · skip
            have n_123 : ((vH V).length) = ((vH V).length) := (nI_eq (by omega) (by omega)).mp c_123
            refine lv_aload_n hx hb dL_hosts_126 rfl (lv_at hl 0 rfl) ?_
            refine lv_aload_n hx hb dL_hosts_127 rfl (lv_at hl 1 rfl) ?_
            refine lv_iconst (v := nI 0) hx hb dL_hosts_128 rfl ?_
            refine zc_iald Cx hw (by omega) (v := nI ((vH V).length + 1)) (by rw [pk_us]) dL_hosts_129 ?_
            refine lv_iconst (v := nI 1) hx hb dL_hosts_130 rfl ?_
            refine lv_isub hx hb dL_hosts_131 ?_
            refine lv_topi (fun q_131 e_131 => ?_)
            have f_131 : q_131 = nI ((vH V).length) := by
              rw [e_131]; exact (pk_sub (by omega)).trans (by rw [Nat.add_sub_cancel])
            clear e_131
            subst f_131
            refine z_goe hw.2 (z_runV Cx hw (c_q_reachedFrom E l _ C_115 x V1 hl0 (hrc.grow (fun q hq => List.mem_append_right _ hq)) (vH V).length (by omega) (by omega)) (cwV 1 Cx.1.2.2.2.2 gL_hosts_X7_reachedFrom rfl rfl rfl (by decide +kernel) ⟨(Nat.le_of_ble_eq_true rfl), (Nat.le_of_ble_eq_true rfl)⟩) (z_recv Cx hw (r := (RX7, TX7, 5)) (List.mem_append_right _ hx0) rfl) rfl hl.1 rfl (Nat.le_of_ble_eq_true rfl) dL_hosts_132 ⟨(Nat.le_of_ble_eq_true rfl), (Nat.le_of_ble_eq_true rfl)⟩) (fun H locs hw => ?_)
            refine lv_if_ne (tgt := 182) hx hb dL_hosts_135 (by decide) (fun c_135 => ?_) (fun c_135 => ?_)
            · skip
              exact absurd (zreach_new hw0 _) c_135
            · skip
              refine lv_aload_n hx hb dL_hosts_138 rfl (lv_at hl 1 rfl) ?_
              refine lv_iconst (v := nI 0) hx hb dL_hosts_139 rfl ?_
              refine zc_iald Cx hw (by omega) (v := nI ((vH V).length + 1)) (by rw [pk_us]) dL_hosts_140 ?_
              refine lv_iconst (v := nI 1) hx hb dL_hosts_141 rfl ?_
              refine lv_icmp_eq (tgt := 178) hx hb dL_hosts_142 (by decide) (fun c_142 => ?_) (fun c_142 => ?_)
              · skip
                have n_142 : ((vH V).length + 1) = 1 := (nI_eq (by omega) (by omega)).mp c_142
                refine lv_iconst (v := nI 1) hx hb dL_hosts_178 rfl ?_
                refine lv_goto (tgt := 183) hx hb dL_hosts_179 (by decide) ?_
                exact z_iret (wf := fun (u : zUw) => zQ E ([(o, zci E u.2.1)] ++ u.1.1) u.1.2) Cx hr rfl (Nat.le_of_ble_eq_true rfl) (Nat.le_of_ble_eq_true rfl) ((Y_115, C_115), (upd (upd (upd f (4 + ((vH V).length)) (nI a)) (16 + ((vH V).length)) (nI (zbase a + b))) 0 (nI (((vH V).length) + 1))), V1) hw ⟨rfl, hrc, hL1⟩ dL_hosts_183
              · skip
                have n_142 : ¬ ((vH V).length + 1) = 1 := fun h => c_142 ((nI_eq (by omega) (by omega)).mpr h)
                refine lv_aload_n hx hb dL_hosts_145 rfl (lv_at hl 0 rfl) ?_
                refine lv_iconst (v := nI 0) hx hb dL_hosts_146 rfl ?_
                refine lv_aload_n hx hb dL_hosts_147 rfl (lv_at hl 1 rfl) ?_
                refine lv_iconst (v := nI 0) hx hb dL_hosts_148 rfl ?_
                refine zc_iald Cx hw (by omega) (v := nI ((vH V).length + 1)) (by rw [pk_us]) dL_hosts_149 ?_
                refine lv_iconst (v := nI 1) hx hb dL_hosts_150 rfl ?_
                refine lv_isub hx hb dL_hosts_151 ?_
                refine lv_topi (fun q_151 e_151 => ?_)
                have f_151 : q_151 = nI ((vH V).length) := by
                  rw [e_151]; exact (pk_sub (by omega)).trans (by rw [Nat.add_sub_cancel])
                clear e_151
                subst f_151
                refine z_goe hw.2 (z_runV Cx hw (c_q_ports E l _ C_115 x V1 hl0 (hrc.grow (fun q hq => List.mem_append_right _ hq)) 0 (vH V).length (by omega) (by omega) (by omega) (by omega)) (cwV 2 Cx.1.2.2.2.2 gL_hosts_X7_ports rfl rfl rfl (by decide +kernel) ⟨(Nat.le_of_ble_eq_true rfl), (Nat.le_of_ble_eq_true rfl)⟩) (z_recv Cx hw (r := (RX7, TX7, 5)) (List.mem_append_right _ hx0) rfl) rfl hl.1 rfl (Nat.le_of_ble_eq_true rfl) dL_hosts_152 ⟨(Nat.le_of_ble_eq_true rfl), (Nat.le_of_ble_eq_true rfl)⟩) (fun H locs hw => ?_)
                refine lv_if_ne (tgt := 182) hx hb dL_hosts_155 (by decide) (fun c_155 => ?_) (fun c_155 => ?_)
                · skip
                  exact absurd (hw0 0) c_155
                · skip
                  refine lv_aload_n hx hb dL_hosts_158 rfl (lv_at hl 0 rfl) ?_
                  refine lv_aload_n hx hb dL_hosts_159 rfl (lv_at hl 1 rfl) ?_
                  refine lv_iconst (v := nI 0) hx hb dL_hosts_160 rfl ?_
                  refine zc_iald Cx hw (by omega) (v := nI ((vH V).length + 1)) (by rw [pk_us]) dL_hosts_161 ?_
                  refine lv_iconst (v := nI 1) hx hb dL_hosts_162 rfl ?_
                  refine lv_isub hx hb dL_hosts_163 ?_
                  refine lv_topi (fun q_163 e_163 => ?_)
                  have f_163 : q_163 = nI ((vH V).length) := by
                    rw [e_163]; exact (pk_sub (by omega)).trans (by rw [Nat.add_sub_cancel])
                  clear e_163
                  subst f_163
                  refine lv_iconst (v := nI 0) hx hb dL_hosts_164 rfl ?_
                  refine lv_iload_n hx hb dL_hosts_165 rfl (lv_at hl 3 rfl) ?_
                  refine lv_bipush (v := nI 16) hx hb dL_hosts_166 rfl ?_
                  refine lv_irem hx hb dL_hosts_168 (nI_ne0 (by omega) (by omega)) ?_
                  refine lv_topi (fun q_168 e_168 => ?_)
                  rw [pk_rem (by omega) (by omega) (by omega)] at e_168
                  subst e_168
                  refine z_goe hw.2 (z_runV Cx hw (c_q_blocks E l _ C_115 x V1 hl0 (hrc.grow (fun q hq => List.mem_append_right _ hq)) (vH V).length 0 (b % 16) (by omega) (by omega) (by omega) (by omega) (by omega)) (cwV 3 Cx.1.2.2.2.2 gL_hosts_X7_blocks rfl rfl rfl (by decide +kernel) ⟨(Nat.le_of_ble_eq_true rfl), (Nat.le_of_ble_eq_true rfl)⟩) (z_recv Cx hw (r := (RX7, TX7, 5)) (List.mem_append_right _ hx0) rfl) rfl hl.1 rfl (Nat.le_of_ble_eq_true rfl) dL_hosts_169 ⟨(Nat.le_of_ble_eq_true rfl), (Nat.le_of_ble_eq_true rfl)⟩) (fun H locs hw => ?_)
                  refine lv_iconst (v := nI 2) hx hb dL_hosts_172 rfl ?_
                  refine lv_iand hx hb dL_hosts_173 ?_
                  refine lv_iconst (v := nI 2) hx hb dL_hosts_174 rfl ?_
                  refine lv_icmp_ne (tgt := 182) hx hb dL_hosts_175 (by decide) (fun c_175 => ?_) (fun c_175 => ?_)
                  · skip
                    exact absurd (by rw [zblocks_e]; exact zblocks_new (by omega) (zopen_1 hnew)) c_175
                  · skip
                    refine lv_iconst (v := nI 1) hx hb dL_hosts_178 rfl ?_
                    refine lv_goto (tgt := 183) hx hb dL_hosts_179 (by decide) ?_
                    exact z_iret (wf := fun (u : zUw) => zQ E ([(o, zci E u.2.1)] ++ u.1.1) u.1.2) Cx hr rfl (Nat.le_of_ble_eq_true rfl) (Nat.le_of_ble_eq_true rfl) ((Y_115, C_115), (upd (upd (upd f (4 + ((vH V).length)) (nI a)) (16 + ((vH V).length)) (nI (zbase a + b))) 0 (nI (((vH V).length) + 1))), V1) hw ⟨rfl, hrc, hL1⟩ dL_hosts_183
        · skip
          have hq1 : q = false := (zb_0 q).mp c_66
          refine lv_aload_n hx hb dL_hosts_69 rfl (lv_at hl 0 rfl) ?_
          refine lv_iload_n hx hb dL_hosts_70 rfl (lv_at hl 2 rfl) ?_
          refine lv_iload hx hb dL_hosts_71 (lv_at hl 4 rfl) ?_
          refine z_goe hw.2 (z_runV Cx hw (c_q_routeFor E l _ C x V hl0 (hrc.grow (fun q hq => List.mem_append_right _ hq)) a (nI (zbase a + b)) (by omega) (zadr_n (zaddr_in ha hb0).2.2) (by omega)) (cwV 2 Cx.1.2.2.2.2 gL_hosts_X7_routeFor rfl rfl rfl (by decide +kernel) ⟨(Nat.le_of_ble_eq_true rfl), (Nat.le_of_ble_eq_true rfl)⟩) (z_recv Cx hw (r := (RX7, TX7, 5)) (List.mem_append_right _ hx0) rfl) rfl hl.1 rfl (Nat.le_of_ble_eq_true rfl) dL_hosts_73 ⟨(Nat.le_of_ble_eq_true rfl), (Nat.le_of_ble_eq_true rfl)⟩) (fun H locs hw => ?_)
          refine lv_iconst (v := (-1)) hx hb dL_hosts_76 rfl ?_
          refine lv_icmp_lt (tgt := 84) hx hb dL_hosts_77 (by decide) (fun c_77 => ?_) (fun c_77 => ?_)
          · skip
            exact absurd c_77 (zroute_ge hL.1 ha (zaddr_in ha hb0).2.1)
          · skip
            refine lv_iconst (v := nI 1) hx hb dL_hosts_80 rfl ?_
            refine lv_goto (tgt := 85) hx hb dL_hosts_81 (by decide) ?_
            exact z_iret (wf := fun (u : zUw) => zQ E ([(o, zci E u.2.1)] ++ u.1.1) u.1.2) Cx hr rfl (Nat.le_of_ble_eq_true rfl) (Nat.le_of_ble_eq_true rfl) ((Y, C), f, V) hw ⟨rfl, hrc, hL⟩ dL_hosts_85
      · skip
        have n_31 : ¬ ((vH V).length) ≤ k := fun h => c_31 ((nI_leI (by omega) (by omega)).mpr h)
        refine lv_iload hx hb dL_hosts_34 (lv_at hl 5 rfl) ?_
        refine lv_if_eq (tgt := 55) hx hb dL_hosts_36 (by decide) (fun c_36 => ?_) (fun c_36 => ?_)
        · skip
          refine lv_iconst (v := zb false) hx hb dL_hosts_55 rfl ?_
          refine lv_istore hx hb dL_hosts_56 hl (by decide) rfl (fun ls hl => ?_)
          have hl : lv_has ls 7 [(5, .int (zb false)), (0, .ref x), (1, .ref o), (2, .int (nI a)), (3, .int (nI b)), (4, .int (nI (zbase a + b))), (6, .int (nI k))] := hl
          refine lv_iinc (v := nI (k + 1)) hx hb dL_hosts_58 hl (k := 6) rfl (nI_add _ _) (by decide) rfl (fun ls hl => ?_)
          have hl : lv_has ls 7 [(6, .int (nI (k + 1))), (5, .int (zb false)), (0, .ref x), (1, .ref o), (2, .int (nI a)), (3, .int (nI b)), (4, .int (nI (zbase a + b)))] := hl
          refine lv_goto (tgt := 26) hx hb dL_hosts_61 (by decide) ?_
          exact ih_26 (k + 1) false H _ ls (by omega) (fun h => by cases h) (by omega) hw (lv_sub hl [2, 3, 4, 5, 6, 1, 0] rfl)
        · skip
          have hq1 : q = true := (zb_1 q).mp c_36
          refine lv_aload_n hx hb dL_hosts_39 rfl (lv_at hl 1 rfl) ?_
          refine lv_bipush (v := nI 16) hx hb dL_hosts_40 rfl ?_
          refine lv_iload hx hb dL_hosts_42 (lv_at hl 6 rfl) ?_
          refine lv_iadd hx hb dL_hosts_44 ?_
          refine lv_topi (fun q_44 e_44 => ?_)
          rw [nI_add] at e_44
          subst e_44
          refine zc_iald Cx hw (by omega) (v := (zhv V k).2.1) (g3 k (zhv V k) (zhv_get (by omega))).2 dL_hosts_45 ?_
          refine lv_iload hx hb dL_hosts_46 (lv_at hl 4 rfl) ?_
          refine lv_icmp_eq (tgt := 55) hx hb dL_hosts_48 (by decide) (fun c_48 => ?_) (fun c_48 => ?_)
          · skip
            refine lv_iconst (v := zb false) hx hb dL_hosts_55 rfl ?_
            refine lv_istore hx hb dL_hosts_56 hl (by decide) rfl (fun ls hl => ?_)
            have hl : lv_has ls 7 [(5, .int (zb false)), (0, .ref x), (1, .ref o), (2, .int (nI a)), (3, .int (nI b)), (4, .int (nI (zbase a + b))), (6, .int (nI k))] := hl
            refine lv_iinc (v := nI (k + 1)) hx hb dL_hosts_58 hl (k := 6) rfl (nI_add _ _) (by decide) rfl (fun ls hl => ?_)
            have hl : lv_has ls 7 [(6, .int (nI (k + 1))), (5, .int (zb false)), (0, .ref x), (1, .ref o), (2, .int (nI a)), (3, .int (nI b)), (4, .int (nI (zbase a + b)))] := hl
            refine lv_goto (tgt := 26) hx hb dL_hosts_61 (by decide) ?_
            exact ih_26 (k + 1) false H _ ls (by omega) (fun h => by cases h) (by omega) hw (lv_sub hl [2, 3, 4, 5, 6, 1, 0] rfl)
          · skip
            have hq2 : true = true → (vH V).length < 8 ∧ ∀ (i : Nat) (h : zHo), i < k + 1 → (vH V)[i]? = some h → ¬ h.2.1 = nI (zbase a + b) := fun _ => ⟨(hq hq1).1, fun i h hi hh => by
              rcases Nat.lt_or_ge i k with h9 | h9
              · exact (hq hq1).2 i h h9 hh
              · have e9 : i = k := by omega
                rw [e9, zhv_get (by omega)] at hh
                rw [← Option.some.inj hh]
                exact c_48⟩
            refine lv_iconst (v := zb true) hx hb dL_hosts_51 rfl ?_
            refine lv_goto (tgt := 56) hx hb dL_hosts_52 (by decide) ?_
            refine lv_istore hx hb dL_hosts_56 hl (by decide) rfl (fun ls hl => ?_)
            have hl : lv_has ls 7 [(5, .int (zb true)), (0, .ref x), (1, .ref o), (2, .int (nI a)), (3, .int (nI b)), (4, .int (nI (zbase a + b))), (6, .int (nI k))] := hl
            refine lv_iinc (v := nI (k + 1)) hx hb dL_hosts_58 hl (k := 6) rfl (nI_add _ _) (by decide) rfl (fun ls hl => ?_)
            have hl : lv_has ls 7 [(6, .int (nI (k + 1))), (5, .int (zb true)), (0, .ref x), (1, .ref o), (2, .int (nI a)), (3, .int (nI b)), (4, .int (nI (zbase a + b)))] := hl
            refine lv_goto (tgt := 26) hx hb dL_hosts_61 (by decide) ?_
            exact ih_26 (k + 1) true H _ ls (by omega) hq2 (by omega) hw (lv_sub hl [2, 3, 4, 5, 6, 1, 0] rfl)
  exact loop_26 (((vH V).length - 0) + 1) 0 q0 H _ ls (Nat.zero_le _) (fun h => ⟨hq0 h, fun i _ hi => absurd hi (Nat.not_lt_zero i)⟩) (Nat.lt_succ_self _) hw (lv_sub hl [3, 4, 5, 6, 2, 1, 0] rfl)

