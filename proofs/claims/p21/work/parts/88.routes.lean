/-! the law's routes -/
/-- what was there before: a peering's number, or -1 -/
theorem zold_ok {V : zCl} {v : zSb} {w0 : zBk} {r : Int32} (hI : zIs V v) (hP : (vP V).length ≤ 6) (h : (∃ w ∈ v.2.2.2, w.1 = w0 ∧ r = w.2) ∨ ((∀ w ∈ v.2.2.2, ¬ w.1 = w0) ∧ r = -1)) : ¬ r < -1 ∧ (¬ (vP V).length = 0 → ¬ nI (vP V).length ≤ r) := by
  rcases h with ⟨w, hw, -, e⟩ | ⟨-, e⟩
  · rw [e]
    have hz := (hI.2.2.2.1 w hw).2
    refine ⟨(zix_ge hz (by omega)).1, fun _ => ?_⟩
    obtain ⟨k, hk, ek⟩ := hz
    rw [ek]
    exact nI_ge hk (by omega)
  · rw [e]
    refine ⟨by decide, fun hp h9 => ?_⟩
    rw [zi_le, nI_toInt (by omega)] at h9
    have e1 : (-1 : Int32).toInt = -1 := rfl
    omega
theorem znew_ok {V : zCl} {v : zSb} {w0 : zBk} {r pe : Int32} (hI : zIs V v) (h : (∃ w ∈ v.2.2.2, w.1 = w0 ∧ r = w.2) ∨ ((∀ w ∈ v.2.2.2, ¬ w.1 = w0) ∧ r = -1)) (h2 : (pe = -1 ∧ ∀ t ∈ v.2.2.2, ¬ t.1 = w0) ∨ (¬ pe = -1 ∧ (w0, pe) ∈ v.2.2.2)) : r = pe := by
  rcases h with ⟨w, hw, ew, e⟩ | ⟨hn, e⟩
  · rcases h2 with ⟨-, h2⟩ | ⟨-, h2⟩
    · exact absurd ew (h2 w hw)
    · have e9 := z_inj hI.2.2.2.2 w hw (w0, pe) h2 ew
      rw [e, e9]
  · rcases h2 with ⟨h1, -⟩ | ⟨-, h2⟩
    · rw [e, h1]
    · exact absurd rfl (hn _ h2)
set_option maxRecDepth 100000 in
set_option maxHeartbeats 4000000 in
theorem c_L_routes (E : zG) (l : Launch) (hl0 : l.stackTraces = false) (x o : Nat) (f : Nat → Int32) (Y : va_W) (C : zLs) (V : zCl) (hrc : zRC Y C x V) (hL : zLw V f) (a b : Nat) (ha : a < 2 ^ 31) (hb0 : b < 2 ^ 31) : Met l yL_routes wsL_routes (zR 9 100 1000) (zPre E [.ref x, .ref o, .int (nI a), .int (nI b)] (zQ E ([(o, zci E f)] ++ Y) C)) (zqL E x o) 100 1000 (eA E) := by
  refine z_of (cc := cL_routes) (maxL := 8) (ret := (some .boolean)) (by decide) rfl rfl (Nat.le_of_ble_eq_true rfl) ?_
  intro p e s m below meth c ls Cx hr hnm hw hl
  have hx := Cx.1.1
  have hb := Cx.1.2.1
  have hL2 := hL
  obtain ⟨⟨hI, hN, hS6, hS, hH8, hG6, hG10⟩, g0, g1, g2, g3, g4, g5⟩ := hL2
  obtain ⟨xf, hx0⟩ := hrc.x
  have hP6 : (vP V).length ≤ 6 := hI.2.2.2.2
  have hl : lv_has ls 8 [(0, .ref x), (1, .ref o), (2, .int (nI a)), (3, .int (nI b))] := hl
  refine lv_aload_n hx hb dL_routes_0 rfl (lv_at hl 1 rfl) ?_
  refine lv_iconst (v := nI 2) hx hb dL_routes_1 rfl ?_
  refine zc_iald Cx hw (by omega) (v := nI ((vP V).length)) g2 dL_routes_2 ?_
  refine lv_if_ne (tgt := 52) hx hb dL_routes_3 (by decide) (fun c_3 => ?_) (fun c_3 => ?_)
  · skip
    have n_3 : ¬ ((vP V).length) = 0 := fun h => c_3 ((nI_eq (b := 0) (by omega) (by omega)).mpr h)
    have cut_119 : ∀ (K B : Nat) (H : Heap) (locs : List Loc) (ls : Array Slot), (zRB K B) → zHA E ([(o, zci E f)] ++ Y) C s H locs → lv_has ls 8 [(0, .ref x), (1, .ref o), (2, .int (nI a)), (3, .int (nI b)), (4, .int (nI K)), (5, .int (nI B))] → W p l e (zR 9 100 1000) s m ([.ref x, .ref o, .int (nI a), .int (nI b)] : List Value).toArray below meth c H locs 0 0 (MQ below (zqL E x o) ([.ref x, .ref o, .int (nI a), .int (nI b)] : List Value).toArray s 100 1000 (eA E)) (F0 m 119 ls []) := by
      intro K B H locs ls hB hw hl
      have hBs := zRB_in hB
      obtain ⟨hbk, hB512, hK10⟩ := zRB_ok hB
      have hs0 : a % 6 < 6 := by omega
      obtain ⟨v, hv, -, hSo, hIs⟩ := zL_net hL.1 hs0
      have hP6 := hI.2.2.2.2
      refine lv_iload_n hx hb dL_routes_119 rfl (lv_at hl 2 rfl) ?_
      refine lv_bipush (v := nI 6) hx hb dL_routes_120 rfl ?_
      refine lv_idiv hx hb dL_routes_122 (nI_ne0 (by omega) (by omega)) ?_
      refine lv_topi (fun q_122 e_122 => ?_)
      rw [pk_div (by omega) (by omega) (by omega)] at e_122
      subst e_122
      refine lv_aload_n hx hb dL_routes_123 rfl (lv_at hl 1 rfl) ?_
      refine lv_iconst (v := nI 2) hx hb dL_routes_124 rfl ?_
      refine zc_iald Cx hw (by omega) (v := nI ((vP V).length)) g2 dL_routes_125 ?_
      refine lv_iconst (v := nI 1) hx hb dL_routes_126 rfl ?_
      refine lv_iadd hx hb dL_routes_127 ?_
      refine lv_topi (fun q_127 e_127 => ?_)
      rw [nI_add] at e_127
      subst e_127
      have ht0 := zmod_lt (a := a / 6) (n := (vP V).length + 1) (by omega)
      refine lv_irem hx hb dL_routes_128 (nI_ne0 (by omega) (by omega)) ?_
      refine lv_topi (fun q_128 e_128 => ?_)
      rw [pk_rem (by omega) (by omega) (by omega)] at e_128
      subst e_128
      refine lv_iconst (v := nI 1) hx hb dL_routes_129 rfl ?_
      refine lv_isub hx hb dL_routes_130 ?_
      refine lv_topi (fun q_130 e_130 => ?_)
      have f_130 : q_130 = nI (a / 6 % ((vP V).length + 1)) - nI 1 := by
        exact e_130
      clear e_130
      subst f_130
      obtain ⟨pe, epe⟩ : ∃ pe : Int32, pe = nI (a / 6 % ((vP V).length + 1)) - nI 1 := ⟨_, rfl⟩
      rw [← epe]
      have hpe : pe = -1 ∨ (¬ pe < 0 ∧ zix pe (vP V).length) := by
        rcases Nat.eq_zero_or_pos (a / 6 % ((vP V).length + 1)) with h9 | h9
        · exact Or.inl (by rw [epe, h9]; decide)
        · refine Or.inr ?_
          rw [epe, pk_sub h9]
          exact ⟨nI_pos (by omega), _, by omega, rfl⟩
      have hpe2 : pe = -1 ∨ zix pe (vP V).length := hpe.imp id (fun h => h.2)
      refine lv_istore hx hb dL_routes_131 hl (by decide) rfl (fun ls hl => ?_)
      have hl : lv_has ls 8 [(6, .int pe), (0, .ref x), (1, .ref o), (2, .int (nI a)), (3, .int (nI b)), (4, .int (nI K)), (5, .int (nI B))] := hl
      refine lv_aload_n hx hb dL_routes_133 rfl (lv_at hl 1 rfl) ?_
      refine lv_iload_n hx hb dL_routes_134 rfl (lv_at hl 3 rfl) ?_
      refine lv_bipush (v := nI 6) hx hb dL_routes_135 rfl ?_
      refine lv_irem hx hb dL_routes_137 (nI_ne0 (by omega) (by omega)) ?_
      refine lv_topi (fun q_137 e_137 => ?_)
      rw [pk_rem (by omega) (by omega) (by omega)] at e_137
      subst e_137
      refine lv_iload hx hb dL_routes_138 (lv_at hl 6 rfl) ?_
      refine lv_iload hx hb dL_routes_140 (lv_at hl 5 rfl) ?_
      refine lv_iload hx hb dL_routes_142 (lv_at hl 0 rfl) ?_
      refine z_goi (wf := fun (u : (va_W × zLs) × zCl) => zQ E ([(o, zci E f)] ++ u.1.1) u.1.2) hw.2 (z_runV Cx hw (c_q_setRoute E l [(o, zci E f)] Y C x V hl0 hrc (a % 6) v (nI B) (nI K) pe hv hbk hpe2 (zBs_room hL hv hBs) (by omega)) (cwV 4 Cx.1.2.2.2.2 gL_routes_X7_setRoute rfl rfl rfl (by decide +kernel) ⟨(Nat.le_of_ble_eq_true rfl), (Nat.le_of_ble_eq_true rfl)⟩) (z_recv Cx hw (r := (RX7, TX7, 5)) (List.mem_append_right _ hx0) rfl) rfl hl.1 rfl (Nat.le_of_ble_eq_true rfl) dL_routes_144 ⟨(Nat.le_of_ble_eq_true rfl), (Nat.le_of_ble_eq_true rfl)⟩) (fun r1 u_144 H locs hp hw => ?_)
      obtain ⟨⟨Y_144, C_144⟩, V1⟩ := u_144
      obtain ⟨hz_144, hrc⟩ := hp
      have hz_144 : zA_setRoute V (nI (a % 6)) (nI B) (nI K) pe 0 r1 V1 := hz_144
      have hrc : zRC Y_144 C_144 x V1 := hrc
      have hw : zHA E ([(o, zci E f)] ++ Y_144) C_144 s H locs := hw
      obtain ⟨xf, hx0⟩ := hrc.x
      obtain ⟨hL1, ts1, hv1, hP1, hts1, hr1⟩ := zLw_setRoute hL hv hBs hz_144
      have hold := zold_ok hIs hP6 hr1
      have hI1 := hL1.1.1.2.1 _ (List.mem_of_getElem? hv1)
      have hS1 : (vS V1).length = 6 := hL1.1.2.2.1
      refine lv_istore hx hb dL_routes_147 hl (by decide) rfl (fun ls hl => ?_)
      have hl : lv_has ls 8 [(7, .int r1), (6, .int pe), (0, .ref x), (1, .ref o), (2, .int (nI a)), (3, .int (nI b)), (4, .int (nI K)), (5, .int (nI B))] := hl
      refine lv_iload hx hb dL_routes_149 (lv_at hl 0 rfl) ?_
      refine lv_iconst (v := (-1)) hx hb dL_routes_151 rfl ?_
      refine lv_icmp_lt (tgt := 235) hx hb dL_routes_152 (by decide) (fun c_152 => ?_) (fun c_152 => ?_)
      · skip
        exact absurd c_152 hold.1
      · skip
        refine lv_iload hx hb dL_routes_155 (lv_at hl 0 rfl) ?_
        refine lv_aload_n hx hb dL_routes_157 rfl (lv_at hl 3 rfl) ?_
        refine lv_iconst (v := nI 2) hx hb dL_routes_158 rfl ?_
        refine zc_iald Cx hw (by omega) (v := nI ((vP V).length)) g2 dL_routes_159 ?_
        refine lv_icmp_ge (tgt := 235) hx hb dL_routes_160 (by decide) (fun c_160 => ?_) (fun c_160 => ?_)
        · skip
          exact absurd c_160 (hold.2 (by omega))
        · skip
          refine lv_aload_n hx hb dL_routes_163 rfl (lv_at hl 2 rfl) ?_
          refine lv_iload_n hx hb dL_routes_164 rfl (lv_at hl 4 rfl) ?_
          refine lv_bipush (v := nI 6) hx hb dL_routes_165 rfl ?_
          refine lv_irem hx hb dL_routes_167 (nI_ne0 (by omega) (by omega)) ?_
          refine lv_topi (fun q_167 e_167 => ?_)
          rw [pk_rem (by omega) (by omega) (by omega)] at e_167
          subst e_167
          refine lv_iload hx hb dL_routes_168 (lv_at hl 7 rfl) ?_
          refine lv_iload hx hb dL_routes_170 (lv_at hl 6 rfl) ?_
          refine lv_iload hx hb dL_routes_172 (lv_at hl 1 rfl) ?_
          refine z_goi (wf := fun (u : (va_W × zLs) × zCl) => zQ E ([(o, zci E f)] ++ u.1.1) u.1.2) hw.2 (z_runV Cx hw (c_q_setRoute E l [(o, zci E f)] Y_144 C_144 x V1 hl0 hrc (a % 6) (v.1, v.2.1, v.2.2.1, ts1) (nI B) (nI K) pe hv1 hbk (by rw [hP1]; exact hpe2) (zBs_room hL1 hv1 hBs) (by omega)) (cwV 4 Cx.1.2.2.2.2 gL_routes_X7_setRoute rfl rfl rfl (by decide +kernel) ⟨(Nat.le_of_ble_eq_true rfl), (Nat.le_of_ble_eq_true rfl)⟩) (z_recv Cx hw (r := (RX7, TX7, 5)) (List.mem_append_right _ hx0) rfl) rfl hl.1 rfl (Nat.le_of_ble_eq_true rfl) dL_routes_174 ⟨(Nat.le_of_ble_eq_true rfl), (Nat.le_of_ble_eq_true rfl)⟩) (fun r2 u_174 H locs hp hw => ?_)
          obtain ⟨⟨Y_174, C_174⟩, V2⟩ := u_174
          obtain ⟨hz_174, hrc⟩ := hp
          have hz_174 : zA_setRoute V1 (nI (a % 6)) (nI B) (nI K) pe 0 r2 V2 := hz_174
          have hrc : zRC Y_174 C_174 x V2 := hrc
          have hw : zHA E ([(o, zci E f)] ++ Y_174) C_174 s H locs := hw
          obtain ⟨xf, hx0⟩ := hrc.x
          obtain ⟨hL2, ts2, hv2, hP2, hts2, hr2⟩ := zLw_setRoute hL1 hv1 hBs hz_174
          have hsame := znew_ok hI1 hr2 hts1
          have hS2 : (vS V2).length = 6 := hL2.1.2.2.1
          refine lv_iload hx hb dL_routes_177 (lv_at hl 1 rfl) ?_
          refine lv_icmp_ne (tgt := 235) hx hb dL_routes_179 (by decide) (fun c_179 => ?_) (fun c_179 => ?_)
          · skip
            exact absurd hsame c_179
          · skip
            refine lv_iload hx hb dL_routes_182 (lv_at hl 1 rfl) ?_
            refine lv_if_lt (tgt := 231) hx hb dL_routes_184 (by decide) (fun c_184 => ?_) (fun c_184 => ?_)
            · skip
              refine lv_iconst (v := nI 1) hx hb dL_routes_231 rfl ?_
              refine lv_goto (tgt := 236) hx hb dL_routes_232 (by decide) ?_
              exact z_iret (wf := fun (u : zUw) => zQ E ([(o, zci E u.2.1)] ++ u.1.1) u.1.2) Cx hr rfl (Nat.le_of_ble_eq_true rfl) (Nat.le_of_ble_eq_true rfl) ((Y_174, C_174), f, V2) hw ⟨rfl, hrc, hL2⟩ dL_routes_236
            · skip
              refine lv_iload hx hb dL_routes_187 (lv_at hl 6 rfl) ?_
              refine lv_bipush (v := nI 10) hx hb dL_routes_189 rfl ?_
              refine lv_icmp_eq (tgt := 231) hx hb dL_routes_191 (by decide) (fun c_191 => ?_) (fun c_191 => ?_)
              · skip
                have n_191 : K = 10 := (nI_eq (by omega) (by omega)).mp c_191
                refine lv_iconst (v := nI 1) hx hb dL_routes_231 rfl ?_
                refine lv_goto (tgt := 236) hx hb dL_routes_232 (by decide) ?_
                exact z_iret (wf := fun (u : zUw) => zQ E ([(o, zci E u.2.1)] ++ u.1.1) u.1.2) Cx hr rfl (Nat.le_of_ble_eq_true rfl) (Nat.le_of_ble_eq_true rfl) ((Y_174, C_174), f, V2) hw ⟨rfl, hrc, hL2⟩ dL_routes_236
              · skip
                have n_191 : ¬ K = 10 := fun h => c_191 ((nI_eq (by omega) (by omega)).mpr h)
                refine lv_iload hx hb dL_routes_194 (lv_at hl 7 rfl) ?_
                refine lv_sipush (v := nI 256) hx hb dL_routes_196 rfl ?_
                refine lv_idiv hx hb dL_routes_199 (nI_ne0 (by omega) (by omega)) ?_
                refine lv_topi (fun q_199 e_199 => ?_)
                rw [pk_div (by omega) (by omega) (by omega)] at e_199
                subst e_199
                refine lv_iload_n hx hb dL_routes_200 rfl (lv_at hl 4 rfl) ?_
                refine lv_bipush (v := nI 6) hx hb dL_routes_201 rfl ?_
                refine lv_irem hx hb dL_routes_203 (nI_ne0 (by omega) (by omega)) ?_
                refine lv_topi (fun q_203 e_203 => ?_)
                rw [pk_rem (by omega) (by omega) (by omega)] at e_203
                subst e_203
                refine lv_iconst (v := nI 2) hx hb dL_routes_204 rfl ?_
                refine lv_idiv hx hb dL_routes_205 (nI_ne0 (by omega) (by omega)) ?_
                refine lv_topi (fun q_205 e_205 => ?_)
                rw [pk_div (by omega) (by omega) (by omega)] at e_205
                subst e_205
                refine lv_icmp_ne (tgt := 216) hx hb dL_routes_206 (by decide) (fun c_206 => ?_) (fun c_206 => ?_)
                · skip
                  have n_206 : ¬ (B / 256) = ((a % 6) / 2) := fun h => c_206 ((nI_eq (by omega) (by omega)).mpr h)
                  refine lv_aload_n hx hb dL_routes_216 rfl (lv_at hl 2 rfl) ?_
                  refine lv_iload_n hx hb dL_routes_217 rfl (lv_at hl 4 rfl) ?_
                  refine lv_bipush (v := nI 6) hx hb dL_routes_218 rfl ?_
                  refine lv_irem hx hb dL_routes_220 (nI_ne0 (by omega) (by omega)) ?_
                  refine lv_topi (fun q_220 e_220 => ?_)
                  rw [pk_rem (by omega) (by omega) (by omega)] at e_220
                  subst e_220
                  refine lv_iload hx hb dL_routes_221 (lv_at hl 7 rfl) ?_
                  refine lv_iconst (v := nI 5) hx hb dL_routes_223 rfl ?_
                  refine lv_iadd hx hb dL_routes_224 ?_
                  refine lv_topi (fun q_224 e_224 => ?_)
                  rw [nI_add] at e_224
                  subst e_224
                  refine z_goe hw.2 (z_runV Cx hw (c_q_routeFor E l _ C_174 x V2 hl0 (hrc.grow (fun q hq => List.mem_append_right _ hq)) (a % 6) (nI (B + 5)) (by omega) (zadr_n (by omega)) (by omega)) (cwV 2 Cx.1.2.2.2.2 gL_routes_X7_routeFor rfl rfl rfl (by decide +kernel) ⟨(Nat.le_of_ble_eq_true rfl), (Nat.le_of_ble_eq_true rfl)⟩) (z_recv Cx hw (r := (RX7, TX7, 5)) (List.mem_append_right _ hx0) rfl) rfl hl.1 rfl (Nat.le_of_ble_eq_true rfl) dL_routes_225 ⟨(Nat.le_of_ble_eq_true rfl), (Nat.le_of_ble_eq_true rfl)⟩) (fun H locs hw => ?_)
                  refine lv_if_lt (tgt := 235) hx hb dL_routes_228 (by decide) (fun c_228 => ?_) (fun c_228 => ?_)
                  · skip
                    exact absurd c_228 (zroute_set hL2.1 hs0 hv2 hB (by omega) (by omega) (hts2.elim (fun h => absurd (by rw [h.1]; decide) c_184) (fun h => h.2)))
                  · skip
                    refine lv_iconst (v := nI 1) hx hb dL_routes_231 rfl ?_
                    refine lv_goto (tgt := 236) hx hb dL_routes_232 (by decide) ?_
                    exact z_iret (wf := fun (u : zUw) => zQ E ([(o, zci E u.2.1)] ++ u.1.1) u.1.2) Cx hr rfl (Nat.le_of_ble_eq_true rfl) (Nat.le_of_ble_eq_true rfl) ((Y_174, C_174), f, V2) hw ⟨rfl, hrc, hL2⟩ dL_routes_236
                · skip
                  have n_206 : (B / 256) = ((a % 6) / 2) := (nI_eq (by omega) (by omega)).mp c_206
                  refine lv_iload hx hb dL_routes_209 (lv_at hl 6 rfl) ?_
                  refine lv_bipush (v := nI 8) hx hb dL_routes_211 rfl ?_
                  refine lv_icmp_eq (tgt := 231) hx hb dL_routes_213 (by decide) (fun c_213 => ?_) (fun c_213 => ?_)
                  · skip
                    have n_213 : K = 8 := (nI_eq (by omega) (by omega)).mp c_213
                    refine lv_iconst (v := nI 1) hx hb dL_routes_231 rfl ?_
                    refine lv_goto (tgt := 236) hx hb dL_routes_232 (by decide) ?_
                    exact z_iret (wf := fun (u : zUw) => zQ E ([(o, zci E u.2.1)] ++ u.1.1) u.1.2) Cx hr rfl (Nat.le_of_ble_eq_true rfl) (Nat.le_of_ble_eq_true rfl) ((Y_174, C_174), f, V2) hw ⟨rfl, hrc, hL2⟩ dL_routes_236
                  · skip
                    have n_213 : ¬ K = 8 := fun h => c_213 ((nI_eq (by omega) (by omega)).mpr h)
                    refine lv_aload_n hx hb dL_routes_216 rfl (lv_at hl 2 rfl) ?_
                    refine lv_iload_n hx hb dL_routes_217 rfl (lv_at hl 4 rfl) ?_
                    refine lv_bipush (v := nI 6) hx hb dL_routes_218 rfl ?_
                    refine lv_irem hx hb dL_routes_220 (nI_ne0 (by omega) (by omega)) ?_
                    refine lv_topi (fun q_220 e_220 => ?_)
                    rw [pk_rem (by omega) (by omega) (by omega)] at e_220
                    subst e_220
                    refine lv_iload hx hb dL_routes_221 (lv_at hl 7 rfl) ?_
                    refine lv_iconst (v := nI 5) hx hb dL_routes_223 rfl ?_
                    refine lv_iadd hx hb dL_routes_224 ?_
                    refine lv_topi (fun q_224 e_224 => ?_)
                    rw [nI_add] at e_224
                    subst e_224
                    refine z_goe hw.2 (z_runV Cx hw (c_q_routeFor E l _ C_174 x V2 hl0 (hrc.grow (fun q hq => List.mem_append_right _ hq)) (a % 6) (nI (B + 5)) (by omega) (zadr_n (by omega)) (by omega)) (cwV 2 Cx.1.2.2.2.2 gL_routes_X7_routeFor rfl rfl rfl (by decide +kernel) ⟨(Nat.le_of_ble_eq_true rfl), (Nat.le_of_ble_eq_true rfl)⟩) (z_recv Cx hw (r := (RX7, TX7, 5)) (List.mem_append_right _ hx0) rfl) rfl hl.1 rfl (Nat.le_of_ble_eq_true rfl) dL_routes_225 ⟨(Nat.le_of_ble_eq_true rfl), (Nat.le_of_ble_eq_true rfl)⟩) (fun H locs hw => ?_)
                    refine lv_if_lt (tgt := 235) hx hb dL_routes_228 (by decide) (fun c_228 => ?_) (fun c_228 => ?_)
                    · skip
                      exact absurd c_228 (zroute_set hL2.1 hs0 hv2 hB (by omega) (by omega) (hts2.elim (fun h => absurd (by rw [h.1]; decide) c_184) (fun h => h.2)))
                    · skip
                      refine lv_iconst (v := nI 1) hx hb dL_routes_231 rfl ?_
                      refine lv_goto (tgt := 236) hx hb dL_routes_232 (by decide) ?_
                      exact z_iret (wf := fun (u : zUw) => zQ E ([(o, zci E u.2.1)] ++ u.1.1) u.1.2) Cx hr rfl (Nat.le_of_ble_eq_true rfl) (Nat.le_of_ble_eq_true rfl) ((Y_174, C_174), f, V2) hw ⟨rfl, hrc, hL2⟩ dL_routes_236
    refine lv_iload_n hx hb dL_routes_52 rfl (lv_at hl 3 rfl) ?_
    refine lv_iconst (v := nI 3) hx hb dL_routes_53 rfl ?_
    refine lv_irem hx hb dL_routes_54 (nI_ne0 (by omega) (by omega)) ?_
    refine lv_topi (fun q_54 e_54 => ?_)
    rw [pk_rem (by omega) (by omega) (by omega)] at e_54
    subst e_54
    refine lv_if_ne (tgt := 63) hx hb dL_routes_55 (by decide) (fun c_55 => ?_) (fun c_55 => ?_)
    · skip
      have n_55 : ¬ (b % 3) = 0 := fun h => c_55 ((nI_eq (b := 0) (by omega) (by omega)).mpr h)
      refine lv_iload_n hx hb dL_routes_63 rfl (lv_at hl 3 rfl) ?_
      refine lv_iconst (v := nI 3) hx hb dL_routes_64 rfl ?_
      refine lv_irem hx hb dL_routes_65 (nI_ne0 (by omega) (by omega)) ?_
      refine lv_topi (fun q_65 e_65 => ?_)
      rw [pk_rem (by omega) (by omega) (by omega)] at e_65
      subst e_65
      refine lv_iconst (v := nI 1) hx hb dL_routes_66 rfl ?_
      refine lv_icmp_ne (tgt := 75) hx hb dL_routes_67 (by decide) (fun c_67 => ?_) (fun c_67 => ?_)
      · skip
        have n_67 : ¬ (b % 3) = 1 := fun h => c_67 ((nI_eq (by omega) (by omega)).mpr h)
        refine lv_bipush (v := nI 6) hx hb dL_routes_75 rfl ?_
        refine lv_istore hx hb dL_routes_77 hl (by decide) rfl (fun ls hl => ?_)
        have hl : lv_has ls 8 [(4, .int (nI 6)), (0, .ref x), (1, .ref o), (2, .int (nI a)), (3, .int (nI b))] := hl
        refine lv_iload hx hb dL_routes_79 (lv_at hl 0 rfl) ?_
        refine lv_bipush (v := nI 10) hx hb dL_routes_81 rfl ?_
        refine lv_icmp_ne (tgt := 90) hx hb dL_routes_83 (by decide) (fun c_83 => ?_) (fun c_83 => ?_)
        · skip
          have n_83 : ¬ 6 = 10 := fun h => c_83 ((nI_eq (by omega) (by omega)).mpr h)
          refine lv_iload hx hb dL_routes_90 (lv_at hl 0 rfl) ?_
          refine lv_bipush (v := nI 8) hx hb dL_routes_92 rfl ?_
          refine lv_icmp_ne (tgt := 109) hx hb dL_routes_94 (by decide) (fun c_94 => ?_) (fun c_94 => ?_)
          · skip
            have n_94 : ¬ 6 = 8 := fun h => c_94 ((nI_eq (by omega) (by omega)).mpr h)
            refine lv_bipush (v := nI 64) hx hb dL_routes_109 rfl ?_
            refine lv_iload_n hx hb dL_routes_111 rfl (lv_at hl 4 rfl) ?_
            refine lv_iconst (v := nI 3) hx hb dL_routes_112 rfl ?_
            refine lv_idiv hx hb dL_routes_113 (nI_ne0 (by omega) (by omega)) ?_
            refine lv_topi (fun q_113 e_113 => ?_)
            rw [pk_div (by omega) (by omega) (by omega)] at e_113
            subst e_113
            refine lv_iconst (v := nI 4) hx hb dL_routes_114 rfl ?_
            refine lv_irem hx hb dL_routes_115 (nI_ne0 (by omega) (by omega)) ?_
            refine lv_topi (fun q_115 e_115 => ?_)
            rw [pk_rem (by omega) (by omega) (by omega)] at e_115
            subst e_115
            refine lv_imul hx hb dL_routes_116 ?_
            refine lv_topi (fun q_116 e_116 => ?_)
            rw [pk_mul] at e_116
            subst e_116
            refine lv_istore hx hb dL_routes_117 hl (by decide) rfl (fun ls hl => ?_)
            have hl : lv_has ls 8 [(5, .int (nI (64 * ((b / 3) % 4)))), (4, .int (nI 6)), (0, .ref x), (1, .ref o), (2, .int (nI a)), (3, .int (nI b))] := hl
            exact cut_119 6 (64 * ((b / 3) % 4)) _ _ ls (by first | exact Or.inl ⟨rfl, rfl⟩ | exact Or.inr (Or.inl ⟨rfl, _, by omega, rfl⟩) | exact Or.inr (Or.inr ⟨rfl, _, by omega, rfl⟩)) hw (lv_sub hl [2, 3, 4, 5, 1, 0] rfl)
          · skip
            have n_94 : 6 = 8 := (nI_eq (by omega) (by omega)).mp c_94
            omega
        · skip
          have n_83 : 6 = 10 := (nI_eq (by omega) (by omega)).mp c_83
          omega
      · skip
        have n_67 : (b % 3) = 1 := (nI_eq (by omega) (by omega)).mp c_67
        refine lv_bipush (v := nI 8) hx hb dL_routes_70 rfl ?_
        refine lv_goto (tgt := 77) hx hb dL_routes_72 (by decide) ?_
        refine lv_istore hx hb dL_routes_77 hl (by decide) rfl (fun ls hl => ?_)
        have hl : lv_has ls 8 [(4, .int (nI 8)), (0, .ref x), (1, .ref o), (2, .int (nI a)), (3, .int (nI b))] := hl
        refine lv_iload hx hb dL_routes_79 (lv_at hl 0 rfl) ?_
        refine lv_bipush (v := nI 10) hx hb dL_routes_81 rfl ?_
        refine lv_icmp_ne (tgt := 90) hx hb dL_routes_83 (by decide) (fun c_83 => ?_) (fun c_83 => ?_)
        · skip
          have n_83 : ¬ 8 = 10 := fun h => c_83 ((nI_eq (by omega) (by omega)).mpr h)
          refine lv_iload hx hb dL_routes_90 (lv_at hl 0 rfl) ?_
          refine lv_bipush (v := nI 8) hx hb dL_routes_92 rfl ?_
          refine lv_icmp_ne (tgt := 109) hx hb dL_routes_94 (by decide) (fun c_94 => ?_) (fun c_94 => ?_)
          · skip
            have n_94 : ¬ 8 = 8 := fun h => c_94 ((nI_eq (by omega) (by omega)).mpr h)
            omega
          · skip
            have n_94 : 8 = 8 := (nI_eq (by omega) (by omega)).mp c_94
            refine lv_sipush (v := nI 256) hx hb dL_routes_97 rfl ?_
            refine lv_iload_n hx hb dL_routes_100 rfl (lv_at hl 4 rfl) ?_
            refine lv_iconst (v := nI 3) hx hb dL_routes_101 rfl ?_
            refine lv_idiv hx hb dL_routes_102 (nI_ne0 (by omega) (by omega)) ?_
            refine lv_topi (fun q_102 e_102 => ?_)
            rw [pk_div (by omega) (by omega) (by omega)] at e_102
            subst e_102
            refine lv_iconst (v := nI 3) hx hb dL_routes_103 rfl ?_
            refine lv_irem hx hb dL_routes_104 (nI_ne0 (by omega) (by omega)) ?_
            refine lv_topi (fun q_104 e_104 => ?_)
            rw [pk_rem (by omega) (by omega) (by omega)] at e_104
            subst e_104
            refine lv_imul hx hb dL_routes_105 ?_
            refine lv_topi (fun q_105 e_105 => ?_)
            rw [pk_mul] at e_105
            subst e_105
            refine lv_goto (tgt := 117) hx hb dL_routes_106 (by decide) ?_
            refine lv_istore hx hb dL_routes_117 hl (by decide) rfl (fun ls hl => ?_)
            have hl : lv_has ls 8 [(5, .int (nI (256 * ((b / 3) % 3)))), (4, .int (nI 8)), (0, .ref x), (1, .ref o), (2, .int (nI a)), (3, .int (nI b))] := hl
            exact cut_119 8 (256 * ((b / 3) % 3)) _ _ ls (by first | exact Or.inl ⟨rfl, rfl⟩ | exact Or.inr (Or.inl ⟨rfl, _, by omega, rfl⟩) | exact Or.inr (Or.inr ⟨rfl, _, by omega, rfl⟩)) hw (lv_sub hl [2, 3, 4, 5, 1, 0] rfl)
        · skip
          have n_83 : 8 = 10 := (nI_eq (by omega) (by omega)).mp c_83
          omega
    · skip
      have n_55 : (b % 3) = 0 := (nI_eq (b := 0) (by omega) (by omega)).mp c_55
      refine lv_bipush (v := nI 10) hx hb dL_routes_58 rfl ?_
      refine lv_goto (tgt := 77) hx hb dL_routes_60 (by decide) ?_
      refine lv_istore hx hb dL_routes_77 hl (by decide) rfl (fun ls hl => ?_)
      have hl : lv_has ls 8 [(4, .int (nI 10)), (0, .ref x), (1, .ref o), (2, .int (nI a)), (3, .int (nI b))] := hl
      refine lv_iload hx hb dL_routes_79 (lv_at hl 0 rfl) ?_
      refine lv_bipush (v := nI 10) hx hb dL_routes_81 rfl ?_
      refine lv_icmp_ne (tgt := 90) hx hb dL_routes_83 (by decide) (fun c_83 => ?_) (fun c_83 => ?_)
      · skip
        have n_83 : ¬ 10 = 10 := fun h => c_83 ((nI_eq (by omega) (by omega)).mpr h)
        omega
      · skip
        have n_83 : 10 = 10 := (nI_eq (by omega) (by omega)).mp c_83
        refine lv_iconst (v := nI 0) hx hb dL_routes_86 rfl ?_
        refine lv_goto (tgt := 117) hx hb dL_routes_87 (by decide) ?_
        refine lv_istore hx hb dL_routes_117 hl (by decide) rfl (fun ls hl => ?_)
        have hl : lv_has ls 8 [(5, .int (nI 0)), (4, .int (nI 10)), (0, .ref x), (1, .ref o), (2, .int (nI a)), (3, .int (nI b))] := hl
        exact cut_119 10 (0) _ _ ls (by first | exact Or.inl ⟨rfl, rfl⟩ | exact Or.inr (Or.inl ⟨rfl, _, by omega, rfl⟩) | exact Or.inr (Or.inr ⟨rfl, _, by omega, rfl⟩)) hw (lv_sub hl [2, 3, 4, 5, 1, 0] rfl)
  · skip
    have n_3 : ((vP V).length) = 0 := (nI_eq (b := 0) (by omega) (by omega)).mp c_3
    refine lv_aload_n hx hb dL_routes_6 rfl (lv_at hl 0 rfl) ?_
    refine lv_iload_n hx hb dL_routes_7 rfl (lv_at hl 2 rfl) ?_
    refine lv_bipush (v := nI 6) hx hb dL_routes_8 rfl ?_
    refine lv_irem hx hb dL_routes_10 (nI_ne0 (by omega) (by omega)) ?_
    refine lv_topi (fun q_10 e_10 => ?_)
    rw [pk_rem (by omega) (by omega) (by omega)] at e_10
    subst e_10
    refine lv_iload_n hx hb dL_routes_11 rfl (lv_at hl 3 rfl) ?_
    refine lv_sipush (v := nI 1024) hx hb dL_routes_12 rfl ?_
    refine lv_irem hx hb dL_routes_15 (nI_ne0 (by omega) (by omega)) ?_
    refine lv_topi (fun q_15 e_15 => ?_)
    rw [pk_rem (by omega) (by omega) (by omega)] at e_15
    subst e_15
    have hs0 : a % 6 < 6 := by omega
    refine z_goe hw.2 (z_runV Cx hw (c_q_routeFor E l _ C x V hl0 (hrc.grow (fun q hq => List.mem_append_right _ hq)) (a % 6) (nI (b % 1024)) (by omega) (zadr_n (by omega)) (by omega)) (cwV 2 Cx.1.2.2.2.2 gL_routes_X7_routeFor rfl rfl rfl (by decide +kernel) ⟨(Nat.le_of_ble_eq_true rfl), (Nat.le_of_ble_eq_true rfl)⟩) (z_recv Cx hw (r := (RX7, TX7, 5)) (List.mem_append_right _ hx0) rfl) rfl hl.1 rfl (Nat.le_of_ble_eq_true rfl) dL_routes_16 ⟨(Nat.le_of_ble_eq_true rfl), (Nat.le_of_ble_eq_true rfl)⟩) (fun H locs hw => ?_)
    refine lv_iload_n hx hb dL_routes_19 rfl (lv_at hl 3 rfl) ?_
    refine lv_sipush (v := nI 1024) hx hb dL_routes_20 rfl ?_
    refine lv_irem hx hb dL_routes_23 (nI_ne0 (by omega) (by omega)) ?_
    refine lv_topi (fun q_23 e_23 => ?_)
    rw [pk_rem (by omega) (by omega) (by omega)] at e_23
    subst e_23
    refine lv_sipush (v := nI 256) hx hb dL_routes_24 rfl ?_
    refine lv_idiv hx hb dL_routes_27 (nI_ne0 (by omega) (by omega)) ?_
    refine lv_topi (fun q_27 e_27 => ?_)
    rw [pk_div (by omega) (by omega) (by omega)] at e_27
    subst e_27
    refine lv_iload_n hx hb dL_routes_28 rfl (lv_at hl 2 rfl) ?_
    refine lv_bipush (v := nI 6) hx hb dL_routes_29 rfl ?_
    refine lv_irem hx hb dL_routes_31 (nI_ne0 (by omega) (by omega)) ?_
    refine lv_topi (fun q_31 e_31 => ?_)
    rw [pk_rem (by omega) (by omega) (by omega)] at e_31
    subst e_31
    refine lv_iconst (v := nI 2) hx hb dL_routes_32 rfl ?_
    refine lv_idiv hx hb dL_routes_33 (nI_ne0 (by omega) (by omega)) ?_
    refine lv_topi (fun q_33 e_33 => ?_)
    rw [pk_div (by omega) (by omega) (by omega)] at e_33
    subst e_33
    refine lv_icmp_ne (tgt := 41) hx hb dL_routes_34 (by decide) (fun c_34 => ?_) (fun c_34 => ?_)
    · skip
      have n_34 : ¬ ((b % 1024) / 256) = ((a % 6) / 2) := fun h => c_34 ((nI_eq (by omega) (by omega)).mpr h)
      refine lv_bipush (v := (-2)) hx hb dL_routes_41 rfl ?_
      refine lv_icmp_ne (tgt := 50) hx hb dL_routes_43 (by decide) (fun c_43 => ?_) (fun c_43 => ?_)
      · skip
        exact absurd (by rw [zroute_none hL.1 hs0 n_3 (by omega), if_neg n_34]) c_43
      · skip
        refine lv_iconst (v := nI 1) hx hb dL_routes_46 rfl ?_
        refine lv_goto (tgt := 51) hx hb dL_routes_47 (by decide) ?_
        exact z_iret (wf := fun (u : zUw) => zQ E ([(o, zci E u.2.1)] ++ u.1.1) u.1.2) Cx hr rfl (Nat.le_of_ble_eq_true rfl) (Nat.le_of_ble_eq_true rfl) ((Y, C), f, V) hw ⟨rfl, hrc, hL⟩ dL_routes_51
    · skip
      have n_34 : ((b % 1024) / 256) = ((a % 6) / 2) := (nI_eq (by omega) (by omega)).mp c_34
      refine lv_iconst (v := (-1)) hx hb dL_routes_37 rfl ?_
      refine lv_goto (tgt := 43) hx hb dL_routes_38 (by decide) ?_
      refine lv_icmp_ne (tgt := 50) hx hb dL_routes_43 (by decide) (fun c_43 => ?_) (fun c_43 => ?_)
      · skip
        exact absurd (by rw [zroute_none hL.1 hs0 n_3 (by omega), if_pos n_34]) c_43
      · skip
        refine lv_iconst (v := nI 1) hx hb dL_routes_46 rfl ?_
        refine lv_goto (tgt := 51) hx hb dL_routes_47 (by decide) ?_
        exact z_iret (wf := fun (u : zUw) => zQ E ([(o, zci E u.2.1)] ++ u.1.1) u.1.2) Cx hr rfl (Nat.le_of_ble_eq_true rfl) (Nat.le_of_ble_eq_true rfl) ((Y, C), f, V) hw ⟨rfl, hrc, hL⟩ dL_routes_51

