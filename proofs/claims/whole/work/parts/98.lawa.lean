/-! the law's cases -/
def zSt (E : zG) (y x o : Nat) (ad : Nat → Nat) (s : State) (sc : Nat → Int32) (g : Nat → Nat → Int32) (ov : Nat → Int64) (Y : va_W) (C : zLs) (V V2 : zCl) (H : Heap) (locs : List Loc) : Prop := zHA E ((zMw E y ad sc g ++ [(o, zoc E ov)]) ++ Y) C s H locs ∧ zRC Y C x V ∧ zMT sc g V2 ∧ zInv V ∧ zEqv V V2
def zKK (p : Program) (l : Launch) (e : Env) (s : State) (m : MethodId) (b : Nat) (below : List Frame) (meth : Method) (c : Code) (Q : State → Prop) (E : zG) (y x o : Nat) (ad : Nat → Nat) (n cells slots pc : Nat) : Prop :=
  ∀ (sc : Nat → Int32) (g : Nat → Nat → Int32) (ov : Nat → Int64) (Y : va_W) (C : zLs) (V V2 : zCl) (H : Heap) (locs : List Loc) (ls : Array Slot), zSt E y x o ad s sc g ov Y C V V2 H locs → lv_has ls 7 [(0, .ref b), (1, .ref x), (2, .ref y), (3, .ref o), (4, .int (nI n))] → W p l e room_1 s m #[Value.ref b] below meth c H locs cells slots Q (F0 m pc ls [])
theorem z_swap {X Y : va_W} {a : Nat × va_E} : ((X ++ [a]) ++ Y).Perm ((Y ++ [a]) ++ X) := by
  refine List.perm_append_comm.trans ?_
  rw [List.append_assoc]
  exact List.Perm.append_left Y List.perm_append_comm
theorem zGd.le {P K : Prop} {c k : Nat} {V V' : zCl} (h : zGd P c k V' V K) (hk : k ≤ 3) (hK : K → c ≤ 3) : c ≤ 3 := by
  rcases h with ⟨e, -⟩ | ⟨-, h⟩
  · omega
  · exact hK h
theorem zov_0 {f : Nat → Int64} {k : Nat} {r : Int32} (h : k = 0) : zov f k r 0 = r.toInt64 := by
  subst h
  unfold zov
  rw [if_pos rfl]
  exact pk_uLs
theorem zk_eq0 {k : Nat} (hk : k ≤ 3) (h : nI k = 0) : k = 0 := (nI_eq (b := 0) (by omega) (by omega)).mp h
theorem lg_cmp_self (v : Int64) : lg_cmp v v = 0 := by simp [lg_cmp]
section
variable {p : Program} {l : Launch} {e : Env} {R : Room} {s : State} {m : MethodId} {args : Array Value} {below : List Frame} {meth : Method} {c : Code} {H : Heap} {locs : List Loc} {cells slots : Nat} {Q : State → Prop}
variable {E : zG} {own : String} {cc : ByteArray} {Ts : List Cond} {nL pc : Nat} {ls : Array Slot} {rest st0 : List Value} {w : Heap → Prop}
theorem zl_sld (Cx : zC E p s m args meth c own cc Ts nL) {b L : Nat} {xs : Nat → Int32} (hX : va_X b L xs s s.heap) (hbl : b < s.heap.size) (hbA : ¬ eA E b) (hw : zHw E w s H locs) {i : Nat} (hi : i < L) (hL : L ≤ 4608) (hdg : decode cc pc = .ok (.iaload, 1))
    (kk : W p l e R s m args below meth c H locs cells slots Q (F0 m (pc + 1) ls (.int (xs i) :: rest))) : W p l e R s m args below meth c H locs cells slots Q (F0 m pc ls (.int (nI i) :: .ref b :: rest)) := by
  refine va_sld Cx.1.1 Cx.1.2.1 hX hbl hbA hw.2 (vp_in_nI hi (by omega)) hdg ?_
  rw [nI_clamp (by omega)]
  exact kk
theorem zl_bool (Cx : zC E p s m args meth c own cc Ts nL) {v : Int32} (d1 : decode cc pc = .ok (.ifCond .eq 7, 3)) (d2 : decode cc (pc + 3) = .ok (.iconst 1, 1)) (d3 : decode cc (pc + 4) = .ok (.goto 4, 3)) (d4 : decode cc (pc + 7) = .ok (.iconst 0, 1))
    (kk : W p l e R s m args below meth c H locs cells slots Q (F0 m (pc + 8) ls (.int (zb (!decide (v = 0))) :: rest))) : W p l e R s m args below meth c H locs cells slots Q (F0 m pc ls (.int v :: rest)) := by
  have hx := Cx.1.1
  have hb := Cx.1.2.1
  refine lv_if_eq (tgt := pc + 7) hx hb d1 (by omega) (fun h => ?_) (fun h => ?_)
  · rw [decide_eq_true h] at kk
    exact lv_iconst (v := zb (!true)) hx hb d4 (by decide) kk
  · rw [decide_eq_false h] at kk
    refine lv_iconst (v := zb (!false)) hx hb d2 (by decide) ?_
    exact lv_goto (tgt := pc + 8) hx hb d3 (by omega) kk
theorem z_runSW (Cx : zC E p s m args meth c own cc Ts nL) (hnc : zNc s) (hw : zHw E w s H locs) {y : MethodName} {bytes : ByteArray} {maxL mc ms n index : Nat} {ret : Option FieldType} {hh : List (Nat × Nat × Nat × Nat)} {ws : List Cond} {rm : Room} {As : List Value} {Qc : Array Value → State → Outcome → State → Prop} (hM : Met l y ws rm (va_Pc As (fun U => zu E w U ∧ zNc U)) Qc mc ms (eA E)) (cw : vx_CSW R s args own index y bytes maxL ret hh ws rm mc ms n)
    (hn : As.length = n) (hsize : ls.size = nL) (hstack : st0 = As.reverse ++ rest) (hW : (rest.map fun v => v.category).sum ≤ 8) (hdg : decode cc pc = .ok (.invokestatic index, 3)) (hf : cells + mc ≤ R.cells ∧ slots + ms ≤ R.slots) :
    va_Run p l e R s m args below meth c H locs cells slots mc ms (F0 m pc ls st0) rest (Qc As.toArray) (eA E) :=
  vx_runSW Cx.1 hM cw ⟨fun _ _ _ _ h => ⟨h.1, zu.calling h.2.1, h.2.2⟩, fun U hU hW => ⟨rfl, hw.u Cx.2.1 U hU hW, hnc.1.moved hW.alike, hnc.2.1.moved hW.alike, hnc.2.2.moved hW.alike⟩⟩ rfl hn hsize hstack (lv_room hW) hdg hf
end
theorem zle_addNetwork {V V' : zCl} {b z : Int32} {c : Nat} {r : Int32} (h : zA_addNetwork V b z c r V') : c ≤ 3 := h.le (by decide) (fun h => h.le (by decide) (fun h => by rw [h.1]; decide))
set_option maxRecDepth 100000 in
set_option maxHeartbeats 4000000 in
theorem law_addNetwork {p : Program} {l : Launch} {e : Env} {s : State} {m : MethodId} {below : List Frame} {meth : Method} {c : Code} {Q : State → Prop} {E : zG} {b L : Nat} {xs : Nat → Int32} (hl0 : l.stackTraces = false) (Cx : zC E p s m #[Value.ref b] meth c RL cL_law wsL_law 7) (hnc : zNc s) (hX : va_X b L xs s s.heap) (hbl : b < s.heap.size) (hbA : ¬ eA E b) {n y x o cells slots : Nat} {ad : Nat → Nat} {sc : Nat → Int32} {g : Nat → Nat → Int32} {ov : Nat → Int64} {Y : va_W} {C : zLs} {V V2 : zCl} {H : Heap} {locs : List Loc} {ls : Array Slot} (hn : n + 9 ≤ L) (hL : L ≤ 4608) (hc : cells + 20 ≤ room_1.cells) (hs : slots + 200 ≤ room_1.slots) (St : zSt E y x o ad s sc g ov Y C V V2 H locs) (hl : lv_has ls 7 [(0, .ref b), (1, .ref x), (2, .ref y), (3, .ref o), (4, .int (nI n))])
    (kk : zKK p l e s m b below meth c Q E y x o ad n (cells + 20) (slots + 200) 1551) : W p l e room_1 s m #[Value.ref b] below meth c H locs cells slots Q (F0 m 128 ls []) := by
  obtain ⟨hw, hrc, hT, hI, hE⟩ := St
  have hx := Cx.1.1
  have hb := Cx.1.2.1
  have hI2 := zInv_eqv hI hE
  have hlN : (vN V).length ≤ 1000 := by rw [hE.1]; exact Nat.le_trans hT.1.1.2.1 (by omega)
  have hlS : (vS V).length ≤ 1000 := by rw [hE.len]; exact Nat.le_trans hT.1.2.1.2.1 (by omega)
  have hlH : (vH V).length ≤ 1000 := by rw [hE.2.2.1]; exact Nat.le_trans hT.1.2.2.1.2.1 (by omega)
  have hlG : (vG V).length ≤ 1000 := by rw [hE.2.2.2.2]; exact Nat.le_trans hT.1.2.2.2.2.2.1 (by omega)
  refine lv_aload_n hx hb dL_law_128 rfl (lv_at hl 1 rfl) ?_
  refine lv_aload_n hx hb dL_law_129 rfl (lv_at hl 0 rfl) ?_
  refine lv_iload hx hb dL_law_130 (lv_at hl 4 rfl) ?_
  refine lv_iconst (v := nI 1) hx hb dL_law_132 rfl ?_
  refine lv_iadd hx hb dL_law_133 ?_
  refine lv_topi (fun q133 e133 => ?_)
  rw [nI_add] at e133
  subst e133
  refine zl_sld Cx hX hbl hbA hw (show n + 1 < L by omega) hL dL_law_134 ?_
  refine lv_aload_n hx hb dL_law_135 rfl (lv_at hl 0 rfl) ?_
  refine lv_iload hx hb dL_law_136 (lv_at hl 4 rfl) ?_
  refine lv_iconst (v := nI 2) hx hb dL_law_138 rfl ?_
  refine lv_iadd hx hb dL_law_139 ?_
  refine lv_topi (fun q139 e139 => ?_)
  rw [nI_add] at e139
  subst e139
  refine zl_sld Cx hX hbl hbA hw (show n + 2 < L by omega) hL dL_law_140 ?_
  refine lv_aload_n hx hb dL_law_141 rfl (lv_at hl 3 rfl) ?_
  refine z_goi (wf := zWL E (zMw E y ad sc g) o ov) hw.2 (z_runSW Cx hnc hw (c_L_addNetwork E l hl0 (zMw E y ad sc g) Y C x o ov V hrc (xs (n + 1)) (xs (n + 2))) (vx_cwSW 4 Cx.1.2.2.2.2 (zgs2 gL_law_L_addNetwork) rfl rfl rfl (by decide +kernel) ⟨(Nat.le_of_ble_eq_true rfl), (Nat.le_of_ble_eq_true rfl)⟩) rfl hl.1 rfl (Nat.le_of_ble_eq_true rfl) dL_law_142 ⟨hc, hs⟩) (fun r u H locs hp hw => ?_)
  obtain ⟨⟨Y1, C1⟩, k1, r1, V1⟩ := u
  obtain ⟨hr1, hrel, hrc1⟩ := hp
  have hr1 : r = nI k1 := hr1
  subst hr1
  have hrel : zA_addNetwork V (xs (n + 1)) (xs (n + 2)) k1 r1 V1 := hrel
  have hrc1 : zRC Y1 C1 x V1 := hrc1
  have hw : zHA E ((zMw E y ad sc g ++ [(o, zoc E (zov ov k1 r1))]) ++ Y1) C1 s H locs := hw
  have hk3 := zle_addNetwork (V' := V1) hrel
  refine lv_istore hx hb dL_law_145 hl (by decide) rfl (fun ls hl => ?_)
  have hl : lv_has ls 7 [(5, .int (nI k1)), (0, .ref b), (1, .ref x), (2, .ref y), (3, .ref o), (4, .int (nI n))] := hl
  have hw : zHA E ((Y1 ++ [(o, zoc E (zov ov k1 r1))]) ++ zMw E y ad sc g) C1 s H locs := ⟨hw.1.perm z_swap, hw.2⟩
  refine lv_aload_n hx hb dL_law_147 rfl (lv_at hl 3 rfl) ?_
  refine lv_aload_n hx hb dL_law_148 rfl (lv_at hl 1 rfl) ?_
  refine lv_iload hx hb dL_law_149 (lv_at hl 5 rfl) ?_
  refine lv_iconst (v := nI 1) hx hb dL_law_151 rfl ?_
  refine lv_iadd hx hb dL_law_152 ?_
  refine lv_topi (fun q152 e152 => ?_)
  rw [nI_add] at e152
  subst e152
  refine zl_sld Cx hX hbl hbA hw (show n + 1 < L by omega) hL dL_law_153 ?_
  refine lv_aload_n hx hb dL_law_154 rfl (lv_at hl 1 rfl) ?_
  refine lv_iload hx hb dL_law_155 (lv_at hl 5 rfl) ?_
  refine lv_iconst (v := nI 2) hx hb dL_law_157 rfl ?_
  refine lv_iadd hx hb dL_law_158 ?_
  refine lv_topi (fun q158 e158 => ?_)
  rw [nI_add] at e158
  subst e158
  refine zl_sld Cx hX hbl hbA hw (show n + 2 < L by omega) hL dL_law_159 ?_
  refine z_goi (wf := fun (u : zU) => zQ E ((Y1 ++ [(o, zoc E (zov ov k1 r1))]) ++ zMw E y ad u.2.1 u.2.2.1) C1) hw.2 (z_runV Cx hw (c_m_addNetwork E l (Y1 ++ [(o, zoc E (zov ov k1 r1))]) C1 y ad sc g V2 hT hI2 (xs (n + 1)) (xs (n + 2))) (cwV 2 Cx.1.2.2.2.2 gL_law_X8_addNetwork rfl rfl rfl (by decide +kernel) ⟨(Nat.le_of_ble_eq_true rfl), (Nat.le_of_ble_eq_true rfl)⟩) (z_recv Cx hw (r := (RX8, TX8, 26)) zM_x rfl) rfl hl.1 rfl (Nat.le_of_ble_eq_true rfl) dL_law_160 ⟨hc, hs⟩) (fun r2 u H locs hp hw => ?_)
  obtain ⟨k2, sc2, g2, W2⟩ := u
  obtain ⟨hrel2, hT2, hk2⟩ := hp
  have hrel2 : zA_addNetwork V2 (xs (n + 1)) (xs (n + 2)) k2 r2 W2 := hrel2
  have hT2 : zMT sc2 g2 W2 := hT2
  have hk2 : sc2 0 = nI k2 := hk2
  have hw : zHA E ((Y1 ++ [(o, zoc E (zov ov k1 r1))]) ++ zMw E y ad sc2 g2) C1 s H locs := hw
  obtain ⟨hk, hrr, hE2⟩ := zd_addNetwork hE hrel hrel2
  have hI1 := zk_addNetwork hI hrel
  subst hk
  refine lv_istore hx hb dL_law_163 hl (by decide) rfl (fun ls hl => ?_)
  have hl : lv_has ls 7 [(6, .int r2), (5, .int (nI k1)), (0, .ref b), (1, .ref x), (2, .ref y), (3, .ref o), (4, .int (nI n))] := hl
  refine lv_aload_n hx hb dL_law_165 rfl (lv_at hl 4 rfl) ?_
  refine z_goe hw.2 (z_runV Cx hw (c_X8_thrown E l (Y1 ++ [(o, zoc E (zov ov k1 r1))]) C1 y ad sc2 g2) (cwV 0 Cx.1.2.2.2.2 gL_law_X8_thrown rfl rfl rfl (by decide +kernel) ⟨(Nat.le_of_ble_eq_true rfl), (Nat.le_of_ble_eq_true rfl)⟩) (z_recv Cx hw (r := (RX8, TX8, 26)) zM_x rfl) rfl hl.1 rfl (Nat.le_of_ble_eq_true rfl) dL_law_166 ⟨hc, hs⟩) (fun H locs hw => ?_)
  rw [hk2]
  refine lv_iload hx hb dL_law_169 (lv_at hl 1 rfl) ?_
  refine lv_icmp_eq (tgt := 176) hx hb dL_law_171 (by decide) (fun _ => ?_) (fun h => absurd rfl h)
  refine lv_iload hx hb dL_law_176 (lv_at hl 1 rfl) ?_
  have hend : W p l e room_1 s m #[Value.ref b] below meth c H locs (cells + 20 + 0 + 0) (slots + 200 + 0 + 0) Q (F0 m 193 ls []) := by
    refine lv_goto (tgt := 1551) hx hb dL_law_193 (by decide) ?_
    exact kk _ _ _ _ _ _ _ _ _ ls ⟨⟨hw.1.perm z_swap, hw.2⟩, hrc1, hT2, hI1, hE2⟩ (lv_sub hl [2, 3, 4, 5, 6] rfl)
  refine lv_if_ne (tgt := 193) hx hb dL_law_178 (by decide) (fun _ => hend) (fun h0 => ?_)
  have hk0 : k1 = 0 := zk_eq0 hk3 h0
  refine lv_aload_n hx hb dL_law_181 rfl (lv_at hl 5 rfl) ?_
  refine lv_iconst (v := 0) hx hb dL_law_182 (by decide) ?_
  refine zl_lald Cx hw dL_law_183 ?_
  rw [zov_0 hk0, hrr hk0]
  refine lv_iload hx hb dL_law_184 (lv_at hl 0 rfl) ?_
  refine lv_i2l hx hb dL_law_186 rfl ?_
  refine W.lcmp hx hb dL_law_187 ?_
  rw [lg_cmp_self]
  exact lv_if_eq (tgt := 193) hx hb dL_law_188 (by decide) (fun _ => hend) (fun h => absurd rfl h)

theorem zle_addSubnet {V V' : zCl} {f b z : Int32} {c : Nat} {r : Int32} (h : zA_addSubnet V f b z c r V') : c ≤ 3 := h.le (by decide) (fun ⟨_, _, _, _, h⟩ => h.le (by decide) (fun h => h.le (by decide) (fun h => by rw [h.1]; decide)))
set_option maxRecDepth 100000 in
set_option maxHeartbeats 4000000 in
theorem law_addSubnet {p : Program} {l : Launch} {e : Env} {s : State} {m : MethodId} {below : List Frame} {meth : Method} {c : Code} {Q : State → Prop} {E : zG} {b L : Nat} {xs : Nat → Int32} (hl0 : l.stackTraces = false) (Cx : zC E p s m #[Value.ref b] meth c RL cL_law wsL_law 7) (hnc : zNc s) (hX : va_X b L xs s s.heap) (hbl : b < s.heap.size) (hbA : ¬ eA E b) {n y x o cells slots : Nat} {ad : Nat → Nat} {sc : Nat → Int32} {g : Nat → Nat → Int32} {ov : Nat → Int64} {Y : va_W} {C : zLs} {V V2 : zCl} {H : Heap} {locs : List Loc} {ls : Array Slot} (hn : n + 9 ≤ L) (hL : L ≤ 4608) (hc : cells + 20 ≤ room_1.cells) (hs : slots + 200 ≤ room_1.slots) (St : zSt E y x o ad s sc g ov Y C V V2 H locs) (hl : lv_has ls 7 [(0, .ref b), (1, .ref x), (2, .ref y), (3, .ref o), (4, .int (nI n))])
    (kk : zKK p l e s m b below meth c Q E y x o ad n (cells + 20) (slots + 200) 1551) : W p l e room_1 s m #[Value.ref b] below meth c H locs cells slots Q (F0 m 196 ls []) := by
  obtain ⟨hw, hrc, hT, hI, hE⟩ := St
  have hx := Cx.1.1
  have hb := Cx.1.2.1
  have hI2 := zInv_eqv hI hE
  have hlN : (vN V).length ≤ 1000 := by rw [hE.1]; exact Nat.le_trans hT.1.1.2.1 (by omega)
  have hlS : (vS V).length ≤ 1000 := by rw [hE.len]; exact Nat.le_trans hT.1.2.1.2.1 (by omega)
  have hlH : (vH V).length ≤ 1000 := by rw [hE.2.2.1]; exact Nat.le_trans hT.1.2.2.1.2.1 (by omega)
  have hlG : (vG V).length ≤ 1000 := by rw [hE.2.2.2.2]; exact Nat.le_trans hT.1.2.2.2.2.2.1 (by omega)
  refine lv_aload_n hx hb dL_law_196 rfl (lv_at hl 1 rfl) ?_
  refine lv_aload_n hx hb dL_law_197 rfl (lv_at hl 0 rfl) ?_
  refine lv_iload hx hb dL_law_198 (lv_at hl 4 rfl) ?_
  refine lv_iconst (v := nI 1) hx hb dL_law_200 rfl ?_
  refine lv_iadd hx hb dL_law_201 ?_
  refine lv_topi (fun q201 e201 => ?_)
  rw [nI_add] at e201
  subst e201
  refine zl_sld Cx hX hbl hbA hw (show n + 1 < L by omega) hL dL_law_202 ?_
  refine lv_aload_n hx hb dL_law_203 rfl (lv_at hl 0 rfl) ?_
  refine lv_iload hx hb dL_law_204 (lv_at hl 4 rfl) ?_
  refine lv_iconst (v := nI 2) hx hb dL_law_206 rfl ?_
  refine lv_iadd hx hb dL_law_207 ?_
  refine lv_topi (fun q207 e207 => ?_)
  rw [nI_add] at e207
  subst e207
  refine zl_sld Cx hX hbl hbA hw (show n + 2 < L by omega) hL dL_law_208 ?_
  refine lv_aload_n hx hb dL_law_209 rfl (lv_at hl 0 rfl) ?_
  refine lv_iload hx hb dL_law_210 (lv_at hl 4 rfl) ?_
  refine lv_iconst (v := nI 3) hx hb dL_law_212 rfl ?_
  refine lv_iadd hx hb dL_law_213 ?_
  refine lv_topi (fun q213 e213 => ?_)
  rw [nI_add] at e213
  subst e213
  refine zl_sld Cx hX hbl hbA hw (show n + 3 < L by omega) hL dL_law_214 ?_
  refine lv_aload_n hx hb dL_law_215 rfl (lv_at hl 3 rfl) ?_
  refine z_goi (wf := zWL E (zMw E y ad sc g) o ov) hw.2 (z_runSW Cx hnc hw (c_L_addSubnet E l hl0 (zMw E y ad sc g) Y C x o ov V hrc (xs (n + 1)) (xs (n + 2)) (xs (n + 3))) (vx_cwSW 5 Cx.1.2.2.2.2 (zgs2 gL_law_L_addSubnet) rfl rfl rfl (by decide +kernel) ⟨(Nat.le_of_ble_eq_true rfl), (Nat.le_of_ble_eq_true rfl)⟩) rfl hl.1 rfl (Nat.le_of_ble_eq_true rfl) dL_law_216 ⟨hc, hs⟩) (fun r u H locs hp hw => ?_)
  obtain ⟨⟨Y1, C1⟩, k1, r1, V1⟩ := u
  obtain ⟨hr1, hrel, hrc1⟩ := hp
  have hr1 : r = nI k1 := hr1
  subst hr1
  have hrel : zA_addSubnet V (xs (n + 1)) (xs (n + 2)) (xs (n + 3)) k1 r1 V1 := hrel
  have hrc1 : zRC Y1 C1 x V1 := hrc1
  have hw : zHA E ((zMw E y ad sc g ++ [(o, zoc E (zov ov k1 r1))]) ++ Y1) C1 s H locs := hw
  have hk3 := zle_addSubnet (V' := V1) hrel
  refine lv_istore hx hb dL_law_219 hl (by decide) rfl (fun ls hl => ?_)
  have hl : lv_has ls 7 [(5, .int (nI k1)), (0, .ref b), (1, .ref x), (2, .ref y), (3, .ref o), (4, .int (nI n))] := hl
  have hw : zHA E ((Y1 ++ [(o, zoc E (zov ov k1 r1))]) ++ zMw E y ad sc g) C1 s H locs := ⟨hw.1.perm z_swap, hw.2⟩
  refine lv_aload_n hx hb dL_law_221 rfl (lv_at hl 3 rfl) ?_
  refine lv_aload_n hx hb dL_law_222 rfl (lv_at hl 1 rfl) ?_
  refine lv_iload hx hb dL_law_223 (lv_at hl 5 rfl) ?_
  refine lv_iconst (v := nI 1) hx hb dL_law_225 rfl ?_
  refine lv_iadd hx hb dL_law_226 ?_
  refine lv_topi (fun q226 e226 => ?_)
  rw [nI_add] at e226
  subst e226
  refine zl_sld Cx hX hbl hbA hw (show n + 1 < L by omega) hL dL_law_227 ?_
  refine lv_aload_n hx hb dL_law_228 rfl (lv_at hl 1 rfl) ?_
  refine lv_iload hx hb dL_law_229 (lv_at hl 5 rfl) ?_
  refine lv_iconst (v := nI 2) hx hb dL_law_231 rfl ?_
  refine lv_iadd hx hb dL_law_232 ?_
  refine lv_topi (fun q232 e232 => ?_)
  rw [nI_add] at e232
  subst e232
  refine zl_sld Cx hX hbl hbA hw (show n + 2 < L by omega) hL dL_law_233 ?_
  refine lv_aload_n hx hb dL_law_234 rfl (lv_at hl 1 rfl) ?_
  refine lv_iload hx hb dL_law_235 (lv_at hl 5 rfl) ?_
  refine lv_iconst (v := nI 3) hx hb dL_law_237 rfl ?_
  refine lv_iadd hx hb dL_law_238 ?_
  refine lv_topi (fun q238 e238 => ?_)
  rw [nI_add] at e238
  subst e238
  refine zl_sld Cx hX hbl hbA hw (show n + 3 < L by omega) hL dL_law_239 ?_
  refine z_goi (wf := fun (u : zU) => zQ E ((Y1 ++ [(o, zoc E (zov ov k1 r1))]) ++ zMw E y ad u.2.1 u.2.2.1) C1) hw.2 (z_runV Cx hw (c_m_addSubnet E l (Y1 ++ [(o, zoc E (zov ov k1 r1))]) C1 y ad sc g V2 hT hI2 (xs (n + 1)) (xs (n + 2)) (xs (n + 3))) (cwV 3 Cx.1.2.2.2.2 gL_law_X8_addSubnet rfl rfl rfl (by decide +kernel) ⟨(Nat.le_of_ble_eq_true rfl), (Nat.le_of_ble_eq_true rfl)⟩) (z_recv Cx hw (r := (RX8, TX8, 26)) zM_x rfl) rfl hl.1 rfl (Nat.le_of_ble_eq_true rfl) dL_law_240 ⟨hc, hs⟩) (fun r2 u H locs hp hw => ?_)
  obtain ⟨k2, sc2, g2, W2⟩ := u
  obtain ⟨hrel2, hT2, hk2⟩ := hp
  have hrel2 : zA_addSubnet V2 (xs (n + 1)) (xs (n + 2)) (xs (n + 3)) k2 r2 W2 := hrel2
  have hT2 : zMT sc2 g2 W2 := hT2
  have hk2 : sc2 0 = nI k2 := hk2
  have hw : zHA E ((Y1 ++ [(o, zoc E (zov ov k1 r1))]) ++ zMw E y ad sc2 g2) C1 s H locs := hw
  obtain ⟨hk, hrr, hE2⟩ := zd_addSubnet hE hlN hrel hrel2
  have hI1 := zk_addSubnet hI hrel
  subst hk
  refine lv_istore hx hb dL_law_243 hl (by decide) rfl (fun ls hl => ?_)
  have hl : lv_has ls 7 [(6, .int r2), (5, .int (nI k1)), (0, .ref b), (1, .ref x), (2, .ref y), (3, .ref o), (4, .int (nI n))] := hl
  refine lv_aload_n hx hb dL_law_245 rfl (lv_at hl 4 rfl) ?_
  refine z_goe hw.2 (z_runV Cx hw (c_X8_thrown E l (Y1 ++ [(o, zoc E (zov ov k1 r1))]) C1 y ad sc2 g2) (cwV 0 Cx.1.2.2.2.2 gL_law_X8_thrown rfl rfl rfl (by decide +kernel) ⟨(Nat.le_of_ble_eq_true rfl), (Nat.le_of_ble_eq_true rfl)⟩) (z_recv Cx hw (r := (RX8, TX8, 26)) zM_x rfl) rfl hl.1 rfl (Nat.le_of_ble_eq_true rfl) dL_law_246 ⟨hc, hs⟩) (fun H locs hw => ?_)
  rw [hk2]
  refine lv_iload hx hb dL_law_249 (lv_at hl 1 rfl) ?_
  refine lv_icmp_eq (tgt := 256) hx hb dL_law_251 (by decide) (fun _ => ?_) (fun h => absurd rfl h)
  refine lv_iload hx hb dL_law_256 (lv_at hl 1 rfl) ?_
  have hend : W p l e room_1 s m #[Value.ref b] below meth c H locs (cells + 20 + 0 + 0) (slots + 200 + 0 + 0) Q (F0 m 273 ls []) := by
    refine lv_goto (tgt := 1551) hx hb dL_law_273 (by decide) ?_
    exact kk _ _ _ _ _ _ _ _ _ ls ⟨⟨hw.1.perm z_swap, hw.2⟩, hrc1, hT2, hI1, hE2⟩ (lv_sub hl [2, 3, 4, 5, 6] rfl)
  refine lv_if_ne (tgt := 273) hx hb dL_law_258 (by decide) (fun _ => hend) (fun h0 => ?_)
  have hk0 : k1 = 0 := zk_eq0 hk3 h0
  refine lv_aload_n hx hb dL_law_261 rfl (lv_at hl 5 rfl) ?_
  refine lv_iconst (v := 0) hx hb dL_law_262 (by decide) ?_
  refine zl_lald Cx hw dL_law_263 ?_
  rw [zov_0 hk0, hrr hk0]
  refine lv_iload hx hb dL_law_264 (lv_at hl 0 rfl) ?_
  refine lv_i2l hx hb dL_law_266 rfl ?_
  refine W.lcmp hx hb dL_law_267 ?_
  rw [lg_cmp_self]
  exact lv_if_eq (tgt := 273) hx hb dL_law_268 (by decide) (fun _ => hend) (fun h => absurd rfl h)

theorem zle_addHost {V V' : zCl} {f a : Int32} {c : Nat} {r : Int32} (h : zA_addHost V f a c r V') : c ≤ 3 := h.le (by decide) (fun ⟨_, _, _, _, h⟩ => h.le (by decide) (fun h => h.le (by decide) (fun h => by rw [h.1]; decide)))
set_option maxRecDepth 100000 in
set_option maxHeartbeats 4000000 in
theorem law_addHost {p : Program} {l : Launch} {e : Env} {s : State} {m : MethodId} {below : List Frame} {meth : Method} {c : Code} {Q : State → Prop} {E : zG} {b L : Nat} {xs : Nat → Int32} (hl0 : l.stackTraces = false) (Cx : zC E p s m #[Value.ref b] meth c RL cL_law wsL_law 7) (hnc : zNc s) (hX : va_X b L xs s s.heap) (hbl : b < s.heap.size) (hbA : ¬ eA E b) {n y x o cells slots : Nat} {ad : Nat → Nat} {sc : Nat → Int32} {g : Nat → Nat → Int32} {ov : Nat → Int64} {Y : va_W} {C : zLs} {V V2 : zCl} {H : Heap} {locs : List Loc} {ls : Array Slot} (hn : n + 9 ≤ L) (hL : L ≤ 4608) (hc : cells + 20 ≤ room_1.cells) (hs : slots + 200 ≤ room_1.slots) (St : zSt E y x o ad s sc g ov Y C V V2 H locs) (hl : lv_has ls 7 [(0, .ref b), (1, .ref x), (2, .ref y), (3, .ref o), (4, .int (nI n))])
    (kk : zKK p l e s m b below meth c Q E y x o ad n (cells + 20) (slots + 200) 1551) : W p l e room_1 s m #[Value.ref b] below meth c H locs cells slots Q (F0 m 276 ls []) := by
  obtain ⟨hw, hrc, hT, hI, hE⟩ := St
  have hx := Cx.1.1
  have hb := Cx.1.2.1
  have hI2 := zInv_eqv hI hE
  have hlN : (vN V).length ≤ 1000 := by rw [hE.1]; exact Nat.le_trans hT.1.1.2.1 (by omega)
  have hlS : (vS V).length ≤ 1000 := by rw [hE.len]; exact Nat.le_trans hT.1.2.1.2.1 (by omega)
  have hlH : (vH V).length ≤ 1000 := by rw [hE.2.2.1]; exact Nat.le_trans hT.1.2.2.1.2.1 (by omega)
  have hlG : (vG V).length ≤ 1000 := by rw [hE.2.2.2.2]; exact Nat.le_trans hT.1.2.2.2.2.2.1 (by omega)
  refine lv_aload_n hx hb dL_law_276 rfl (lv_at hl 1 rfl) ?_
  refine lv_aload_n hx hb dL_law_277 rfl (lv_at hl 0 rfl) ?_
  refine lv_iload hx hb dL_law_278 (lv_at hl 4 rfl) ?_
  refine lv_iconst (v := nI 1) hx hb dL_law_280 rfl ?_
  refine lv_iadd hx hb dL_law_281 ?_
  refine lv_topi (fun q281 e281 => ?_)
  rw [nI_add] at e281
  subst e281
  refine zl_sld Cx hX hbl hbA hw (show n + 1 < L by omega) hL dL_law_282 ?_
  refine lv_aload_n hx hb dL_law_283 rfl (lv_at hl 0 rfl) ?_
  refine lv_iload hx hb dL_law_284 (lv_at hl 4 rfl) ?_
  refine lv_iconst (v := nI 2) hx hb dL_law_286 rfl ?_
  refine lv_iadd hx hb dL_law_287 ?_
  refine lv_topi (fun q287 e287 => ?_)
  rw [nI_add] at e287
  subst e287
  refine zl_sld Cx hX hbl hbA hw (show n + 2 < L by omega) hL dL_law_288 ?_
  refine lv_aload_n hx hb dL_law_289 rfl (lv_at hl 3 rfl) ?_
  refine z_goi (wf := zWL E (zMw E y ad sc g) o ov) hw.2 (z_runSW Cx hnc hw (c_L_addHost E l hl0 (zMw E y ad sc g) Y C x o ov V hrc (xs (n + 1)) (xs (n + 2))) (vx_cwSW 4 Cx.1.2.2.2.2 (zgs2 gL_law_L_addHost) rfl rfl rfl (by decide +kernel) ⟨(Nat.le_of_ble_eq_true rfl), (Nat.le_of_ble_eq_true rfl)⟩) rfl hl.1 rfl (Nat.le_of_ble_eq_true rfl) dL_law_290 ⟨hc, hs⟩) (fun r u H locs hp hw => ?_)
  obtain ⟨⟨Y1, C1⟩, k1, r1, V1⟩ := u
  obtain ⟨hr1, hrel, hrc1⟩ := hp
  have hr1 : r = nI k1 := hr1
  subst hr1
  have hrel : zA_addHost V (xs (n + 1)) (xs (n + 2)) k1 r1 V1 := hrel
  have hrc1 : zRC Y1 C1 x V1 := hrc1
  have hw : zHA E ((zMw E y ad sc g ++ [(o, zoc E (zov ov k1 r1))]) ++ Y1) C1 s H locs := hw
  have hk3 := zle_addHost (V' := V1) hrel
  refine lv_istore hx hb dL_law_293 hl (by decide) rfl (fun ls hl => ?_)
  have hl : lv_has ls 7 [(5, .int (nI k1)), (0, .ref b), (1, .ref x), (2, .ref y), (3, .ref o), (4, .int (nI n))] := hl
  have hw : zHA E ((Y1 ++ [(o, zoc E (zov ov k1 r1))]) ++ zMw E y ad sc g) C1 s H locs := ⟨hw.1.perm z_swap, hw.2⟩
  refine lv_aload_n hx hb dL_law_295 rfl (lv_at hl 3 rfl) ?_
  refine lv_aload_n hx hb dL_law_296 rfl (lv_at hl 1 rfl) ?_
  refine lv_iload hx hb dL_law_297 (lv_at hl 5 rfl) ?_
  refine lv_iconst (v := nI 1) hx hb dL_law_299 rfl ?_
  refine lv_iadd hx hb dL_law_300 ?_
  refine lv_topi (fun q300 e300 => ?_)
  rw [nI_add] at e300
  subst e300
  refine zl_sld Cx hX hbl hbA hw (show n + 1 < L by omega) hL dL_law_301 ?_
  refine lv_aload_n hx hb dL_law_302 rfl (lv_at hl 1 rfl) ?_
  refine lv_iload hx hb dL_law_303 (lv_at hl 5 rfl) ?_
  refine lv_iconst (v := nI 2) hx hb dL_law_305 rfl ?_
  refine lv_iadd hx hb dL_law_306 ?_
  refine lv_topi (fun q306 e306 => ?_)
  rw [nI_add] at e306
  subst e306
  refine zl_sld Cx hX hbl hbA hw (show n + 2 < L by omega) hL dL_law_307 ?_
  refine z_goi (wf := fun (u : zU) => zQ E ((Y1 ++ [(o, zoc E (zov ov k1 r1))]) ++ zMw E y ad u.2.1 u.2.2.1) C1) hw.2 (z_runV Cx hw (c_m_addHost E l (Y1 ++ [(o, zoc E (zov ov k1 r1))]) C1 y ad sc g V2 hT hI2 (xs (n + 1)) (xs (n + 2))) (cwV 2 Cx.1.2.2.2.2 gL_law_X8_addHost rfl rfl rfl (by decide +kernel) ⟨(Nat.le_of_ble_eq_true rfl), (Nat.le_of_ble_eq_true rfl)⟩) (z_recv Cx hw (r := (RX8, TX8, 26)) zM_x rfl) rfl hl.1 rfl (Nat.le_of_ble_eq_true rfl) dL_law_308 ⟨hc, hs⟩) (fun r2 u H locs hp hw => ?_)
  obtain ⟨k2, sc2, g2, W2⟩ := u
  obtain ⟨hrel2, hT2, hk2⟩ := hp
  have hrel2 : zA_addHost V2 (xs (n + 1)) (xs (n + 2)) k2 r2 W2 := hrel2
  have hT2 : zMT sc2 g2 W2 := hT2
  have hk2 : sc2 0 = nI k2 := hk2
  have hw : zHA E ((Y1 ++ [(o, zoc E (zov ov k1 r1))]) ++ zMw E y ad sc2 g2) C1 s H locs := hw
  obtain ⟨hk, hrr, hE2⟩ := zd_addHost hE hlS hrel hrel2
  have hI1 := zk_addHost hI hrel
  subst hk
  refine lv_istore hx hb dL_law_311 hl (by decide) rfl (fun ls hl => ?_)
  have hl : lv_has ls 7 [(6, .int r2), (5, .int (nI k1)), (0, .ref b), (1, .ref x), (2, .ref y), (3, .ref o), (4, .int (nI n))] := hl
  refine lv_aload_n hx hb dL_law_313 rfl (lv_at hl 4 rfl) ?_
  refine z_goe hw.2 (z_runV Cx hw (c_X8_thrown E l (Y1 ++ [(o, zoc E (zov ov k1 r1))]) C1 y ad sc2 g2) (cwV 0 Cx.1.2.2.2.2 gL_law_X8_thrown rfl rfl rfl (by decide +kernel) ⟨(Nat.le_of_ble_eq_true rfl), (Nat.le_of_ble_eq_true rfl)⟩) (z_recv Cx hw (r := (RX8, TX8, 26)) zM_x rfl) rfl hl.1 rfl (Nat.le_of_ble_eq_true rfl) dL_law_314 ⟨hc, hs⟩) (fun H locs hw => ?_)
  rw [hk2]
  refine lv_iload hx hb dL_law_317 (lv_at hl 1 rfl) ?_
  refine lv_icmp_eq (tgt := 324) hx hb dL_law_319 (by decide) (fun _ => ?_) (fun h => absurd rfl h)
  refine lv_iload hx hb dL_law_324 (lv_at hl 1 rfl) ?_
  have hend : W p l e room_1 s m #[Value.ref b] below meth c H locs (cells + 20 + 0 + 0) (slots + 200 + 0 + 0) Q (F0 m 341 ls []) := by
    refine lv_goto (tgt := 1551) hx hb dL_law_341 (by decide) ?_
    exact kk _ _ _ _ _ _ _ _ _ ls ⟨⟨hw.1.perm z_swap, hw.2⟩, hrc1, hT2, hI1, hE2⟩ (lv_sub hl [2, 3, 4, 5, 6] rfl)
  refine lv_if_ne (tgt := 341) hx hb dL_law_326 (by decide) (fun _ => hend) (fun h0 => ?_)
  have hk0 : k1 = 0 := zk_eq0 hk3 h0
  refine lv_aload_n hx hb dL_law_329 rfl (lv_at hl 5 rfl) ?_
  refine lv_iconst (v := 0) hx hb dL_law_330 (by decide) ?_
  refine zl_lald Cx hw dL_law_331 ?_
  rw [zov_0 hk0, hrr hk0]
  refine lv_iload hx hb dL_law_332 (lv_at hl 0 rfl) ?_
  refine lv_i2l hx hb dL_law_334 rfl ?_
  refine W.lcmp hx hb dL_law_335 ?_
  rw [lg_cmp_self]
  exact lv_if_eq (tgt := 341) hx hb dL_law_336 (by decide) (fun _ => hend) (fun h => absurd rfl h)

theorem zle_addPeering {V V' : zCl} {f t : Int32} {c : Nat} {r : Int32} (h : zA_addPeering V f t c r V') : c ≤ 3 := h.le (by decide) (fun ⟨_, _, _, _, _, _, h⟩ => h.le (by decide) (fun h => h.le (by decide) (fun h => by rw [h.1]; decide)))
set_option maxRecDepth 100000 in
set_option maxHeartbeats 4000000 in
theorem law_addPeering {p : Program} {l : Launch} {e : Env} {s : State} {m : MethodId} {below : List Frame} {meth : Method} {c : Code} {Q : State → Prop} {E : zG} {b L : Nat} {xs : Nat → Int32} (hl0 : l.stackTraces = false) (Cx : zC E p s m #[Value.ref b] meth c RL cL_law wsL_law 7) (hnc : zNc s) (hX : va_X b L xs s s.heap) (hbl : b < s.heap.size) (hbA : ¬ eA E b) {n y x o cells slots : Nat} {ad : Nat → Nat} {sc : Nat → Int32} {g : Nat → Nat → Int32} {ov : Nat → Int64} {Y : va_W} {C : zLs} {V V2 : zCl} {H : Heap} {locs : List Loc} {ls : Array Slot} (hn : n + 9 ≤ L) (hL : L ≤ 4608) (hc : cells + 20 ≤ room_1.cells) (hs : slots + 200 ≤ room_1.slots) (St : zSt E y x o ad s sc g ov Y C V V2 H locs) (hl : lv_has ls 7 [(0, .ref b), (1, .ref x), (2, .ref y), (3, .ref o), (4, .int (nI n))])
    (kk : zKK p l e s m b below meth c Q E y x o ad n (cells + 20) (slots + 200) 1551) : W p l e room_1 s m #[Value.ref b] below meth c H locs cells slots Q (F0 m 344 ls []) := by
  obtain ⟨hw, hrc, hT, hI, hE⟩ := St
  have hx := Cx.1.1
  have hb := Cx.1.2.1
  have hI2 := zInv_eqv hI hE
  have hlN : (vN V).length ≤ 1000 := by rw [hE.1]; exact Nat.le_trans hT.1.1.2.1 (by omega)
  have hlS : (vS V).length ≤ 1000 := by rw [hE.len]; exact Nat.le_trans hT.1.2.1.2.1 (by omega)
  have hlH : (vH V).length ≤ 1000 := by rw [hE.2.2.1]; exact Nat.le_trans hT.1.2.2.1.2.1 (by omega)
  have hlG : (vG V).length ≤ 1000 := by rw [hE.2.2.2.2]; exact Nat.le_trans hT.1.2.2.2.2.2.1 (by omega)
  refine lv_aload_n hx hb dL_law_344 rfl (lv_at hl 1 rfl) ?_
  refine lv_aload_n hx hb dL_law_345 rfl (lv_at hl 0 rfl) ?_
  refine lv_iload hx hb dL_law_346 (lv_at hl 4 rfl) ?_
  refine lv_iconst (v := nI 1) hx hb dL_law_348 rfl ?_
  refine lv_iadd hx hb dL_law_349 ?_
  refine lv_topi (fun q349 e349 => ?_)
  rw [nI_add] at e349
  subst e349
  refine zl_sld Cx hX hbl hbA hw (show n + 1 < L by omega) hL dL_law_350 ?_
  refine lv_aload_n hx hb dL_law_351 rfl (lv_at hl 0 rfl) ?_
  refine lv_iload hx hb dL_law_352 (lv_at hl 4 rfl) ?_
  refine lv_iconst (v := nI 2) hx hb dL_law_354 rfl ?_
  refine lv_iadd hx hb dL_law_355 ?_
  refine lv_topi (fun q355 e355 => ?_)
  rw [nI_add] at e355
  subst e355
  refine zl_sld Cx hX hbl hbA hw (show n + 2 < L by omega) hL dL_law_356 ?_
  refine lv_aload_n hx hb dL_law_357 rfl (lv_at hl 3 rfl) ?_
  refine z_goi (wf := zWL E (zMw E y ad sc g) o ov) hw.2 (z_runSW Cx hnc hw (c_L_addPeering E l hl0 (zMw E y ad sc g) Y C x o ov V hrc (xs (n + 1)) (xs (n + 2))) (vx_cwSW 4 Cx.1.2.2.2.2 (zgs2 gL_law_L_addPeering) rfl rfl rfl (by decide +kernel) ⟨(Nat.le_of_ble_eq_true rfl), (Nat.le_of_ble_eq_true rfl)⟩) rfl hl.1 rfl (Nat.le_of_ble_eq_true rfl) dL_law_358 ⟨hc, hs⟩) (fun r u H locs hp hw => ?_)
  obtain ⟨⟨Y1, C1⟩, k1, r1, V1⟩ := u
  obtain ⟨hr1, hrel, hrc1⟩ := hp
  have hr1 : r = nI k1 := hr1
  subst hr1
  have hrel : zA_addPeering V (xs (n + 1)) (xs (n + 2)) k1 r1 V1 := hrel
  have hrc1 : zRC Y1 C1 x V1 := hrc1
  have hw : zHA E ((zMw E y ad sc g ++ [(o, zoc E (zov ov k1 r1))]) ++ Y1) C1 s H locs := hw
  have hk3 := zle_addPeering (V' := V1) hrel
  refine lv_istore hx hb dL_law_361 hl (by decide) rfl (fun ls hl => ?_)
  have hl : lv_has ls 7 [(5, .int (nI k1)), (0, .ref b), (1, .ref x), (2, .ref y), (3, .ref o), (4, .int (nI n))] := hl
  have hw : zHA E ((Y1 ++ [(o, zoc E (zov ov k1 r1))]) ++ zMw E y ad sc g) C1 s H locs := ⟨hw.1.perm z_swap, hw.2⟩
  refine lv_aload_n hx hb dL_law_363 rfl (lv_at hl 3 rfl) ?_
  refine lv_aload_n hx hb dL_law_364 rfl (lv_at hl 1 rfl) ?_
  refine lv_iload hx hb dL_law_365 (lv_at hl 5 rfl) ?_
  refine lv_iconst (v := nI 1) hx hb dL_law_367 rfl ?_
  refine lv_iadd hx hb dL_law_368 ?_
  refine lv_topi (fun q368 e368 => ?_)
  rw [nI_add] at e368
  subst e368
  refine zl_sld Cx hX hbl hbA hw (show n + 1 < L by omega) hL dL_law_369 ?_
  refine lv_aload_n hx hb dL_law_370 rfl (lv_at hl 1 rfl) ?_
  refine lv_iload hx hb dL_law_371 (lv_at hl 5 rfl) ?_
  refine lv_iconst (v := nI 2) hx hb dL_law_373 rfl ?_
  refine lv_iadd hx hb dL_law_374 ?_
  refine lv_topi (fun q374 e374 => ?_)
  rw [nI_add] at e374
  subst e374
  refine zl_sld Cx hX hbl hbA hw (show n + 2 < L by omega) hL dL_law_375 ?_
  refine z_goi (wf := fun (u : zU) => zQ E ((Y1 ++ [(o, zoc E (zov ov k1 r1))]) ++ zMw E y ad u.2.1 u.2.2.1) C1) hw.2 (z_runV Cx hw (c_m_addPeering E l (Y1 ++ [(o, zoc E (zov ov k1 r1))]) C1 y ad sc g V2 hT hI2 (xs (n + 1)) (xs (n + 2))) (cwV 2 Cx.1.2.2.2.2 gL_law_X8_addPeering rfl rfl rfl (by decide +kernel) ⟨(Nat.le_of_ble_eq_true rfl), (Nat.le_of_ble_eq_true rfl)⟩) (z_recv Cx hw (r := (RX8, TX8, 26)) zM_x rfl) rfl hl.1 rfl (Nat.le_of_ble_eq_true rfl) dL_law_376 ⟨hc, hs⟩) (fun r2 u H locs hp hw => ?_)
  obtain ⟨k2, sc2, g2, W2⟩ := u
  obtain ⟨hrel2, hT2, hk2⟩ := hp
  have hrel2 : zA_addPeering V2 (xs (n + 1)) (xs (n + 2)) k2 r2 W2 := hrel2
  have hT2 : zMT sc2 g2 W2 := hT2
  have hk2 : sc2 0 = nI k2 := hk2
  have hw : zHA E ((Y1 ++ [(o, zoc E (zov ov k1 r1))]) ++ zMw E y ad sc2 g2) C1 s H locs := hw
  obtain ⟨hk, hrr, hE2⟩ := zd_addPeering hE hlN hrel hrel2
  have hI1 := zk_addPeering hI hrel
  subst hk
  refine lv_istore hx hb dL_law_379 hl (by decide) rfl (fun ls hl => ?_)
  have hl : lv_has ls 7 [(6, .int r2), (5, .int (nI k1)), (0, .ref b), (1, .ref x), (2, .ref y), (3, .ref o), (4, .int (nI n))] := hl
  refine lv_aload_n hx hb dL_law_381 rfl (lv_at hl 4 rfl) ?_
  refine z_goe hw.2 (z_runV Cx hw (c_X8_thrown E l (Y1 ++ [(o, zoc E (zov ov k1 r1))]) C1 y ad sc2 g2) (cwV 0 Cx.1.2.2.2.2 gL_law_X8_thrown rfl rfl rfl (by decide +kernel) ⟨(Nat.le_of_ble_eq_true rfl), (Nat.le_of_ble_eq_true rfl)⟩) (z_recv Cx hw (r := (RX8, TX8, 26)) zM_x rfl) rfl hl.1 rfl (Nat.le_of_ble_eq_true rfl) dL_law_382 ⟨hc, hs⟩) (fun H locs hw => ?_)
  rw [hk2]
  refine lv_iload hx hb dL_law_385 (lv_at hl 1 rfl) ?_
  refine lv_icmp_eq (tgt := 392) hx hb dL_law_387 (by decide) (fun _ => ?_) (fun h => absurd rfl h)
  refine lv_iload hx hb dL_law_392 (lv_at hl 1 rfl) ?_
  have hend : W p l e room_1 s m #[Value.ref b] below meth c H locs (cells + 20 + 0 + 0) (slots + 200 + 0 + 0) Q (F0 m 409 ls []) := by
    refine lv_goto (tgt := 1551) hx hb dL_law_409 (by decide) ?_
    exact kk _ _ _ _ _ _ _ _ _ ls ⟨⟨hw.1.perm z_swap, hw.2⟩, hrc1, hT2, hI1, hE2⟩ (lv_sub hl [2, 3, 4, 5, 6] rfl)
  refine lv_if_ne (tgt := 409) hx hb dL_law_394 (by decide) (fun _ => hend) (fun h0 => ?_)
  have hk0 : k1 = 0 := zk_eq0 hk3 h0
  refine lv_aload_n hx hb dL_law_397 rfl (lv_at hl 5 rfl) ?_
  refine lv_iconst (v := 0) hx hb dL_law_398 (by decide) ?_
  refine zl_lald Cx hw dL_law_399 ?_
  rw [zov_0 hk0, hrr hk0]
  refine lv_iload hx hb dL_law_400 (lv_at hl 0 rfl) ?_
  refine lv_i2l hx hb dL_law_402 rfl ?_
  refine W.lcmp hx hb dL_law_403 ?_
  rw [lg_cmp_self]
  exact lv_if_eq (tgt := 409) hx hb dL_law_404 (by decide) (fun _ => hend) (fun h => absurd rfl h)

theorem zle_addGroup {V V' : zCl}  {c : Nat} {r : Int32} (h : zA_addGroup V  c r V') : c ≤ 3 := h.le (by decide) (fun h => by rw [h.1]; decide)
set_option maxRecDepth 100000 in
set_option maxHeartbeats 4000000 in
theorem law_addGroup {p : Program} {l : Launch} {e : Env} {s : State} {m : MethodId} {below : List Frame} {meth : Method} {c : Code} {Q : State → Prop} {E : zG} {b L : Nat} {xs : Nat → Int32} (hl0 : l.stackTraces = false) (Cx : zC E p s m #[Value.ref b] meth c RL cL_law wsL_law 7) (hnc : zNc s) (hX : va_X b L xs s s.heap) (hbl : b < s.heap.size) (hbA : ¬ eA E b) {n y x o cells slots : Nat} {ad : Nat → Nat} {sc : Nat → Int32} {g : Nat → Nat → Int32} {ov : Nat → Int64} {Y : va_W} {C : zLs} {V V2 : zCl} {H : Heap} {locs : List Loc} {ls : Array Slot} (hn : n + 9 ≤ L) (hL : L ≤ 4608) (hc : cells + 20 ≤ room_1.cells) (hs : slots + 200 ≤ room_1.slots) (St : zSt E y x o ad s sc g ov Y C V V2 H locs) (hl : lv_has ls 7 [(0, .ref b), (1, .ref x), (2, .ref y), (3, .ref o), (4, .int (nI n))])
    (kk : zKK p l e s m b below meth c Q E y x o ad n (cells + 20) (slots + 200) 1551) : W p l e room_1 s m #[Value.ref b] below meth c H locs cells slots Q (F0 m 412 ls []) := by
  obtain ⟨hw, hrc, hT, hI, hE⟩ := St
  have hx := Cx.1.1
  have hb := Cx.1.2.1
  have hI2 := zInv_eqv hI hE
  have hlN : (vN V).length ≤ 1000 := by rw [hE.1]; exact Nat.le_trans hT.1.1.2.1 (by omega)
  have hlS : (vS V).length ≤ 1000 := by rw [hE.len]; exact Nat.le_trans hT.1.2.1.2.1 (by omega)
  have hlH : (vH V).length ≤ 1000 := by rw [hE.2.2.1]; exact Nat.le_trans hT.1.2.2.1.2.1 (by omega)
  have hlG : (vG V).length ≤ 1000 := by rw [hE.2.2.2.2]; exact Nat.le_trans hT.1.2.2.2.2.2.1 (by omega)
  refine lv_aload_n hx hb dL_law_412 rfl (lv_at hl 1 rfl) ?_
  refine lv_aload_n hx hb dL_law_413 rfl (lv_at hl 3 rfl) ?_
  refine z_goi (wf := zWL E (zMw E y ad sc g) o ov) hw.2 (z_runSW Cx hnc hw (c_L_addGroup E l hl0 (zMw E y ad sc g) Y C x o ov V hrc ) (vx_cwSW 2 Cx.1.2.2.2.2 (zgs2 gL_law_L_addGroup) rfl rfl rfl (by decide +kernel) ⟨(Nat.le_of_ble_eq_true rfl), (Nat.le_of_ble_eq_true rfl)⟩) rfl hl.1 rfl (Nat.le_of_ble_eq_true rfl) dL_law_414 ⟨hc, hs⟩) (fun r u H locs hp hw => ?_)
  obtain ⟨⟨Y1, C1⟩, k1, r1, V1⟩ := u
  obtain ⟨hr1, hrel, hrc1⟩ := hp
  have hr1 : r = nI k1 := hr1
  subst hr1
  have hrel : zA_addGroup V  k1 r1 V1 := hrel
  have hrc1 : zRC Y1 C1 x V1 := hrc1
  have hw : zHA E ((zMw E y ad sc g ++ [(o, zoc E (zov ov k1 r1))]) ++ Y1) C1 s H locs := hw
  have hk3 := zle_addGroup (V' := V1) hrel
  refine lv_istore hx hb dL_law_417 hl (by decide) rfl (fun ls hl => ?_)
  have hl : lv_has ls 7 [(5, .int (nI k1)), (0, .ref b), (1, .ref x), (2, .ref y), (3, .ref o), (4, .int (nI n))] := hl
  have hw : zHA E ((Y1 ++ [(o, zoc E (zov ov k1 r1))]) ++ zMw E y ad sc g) C1 s H locs := ⟨hw.1.perm z_swap, hw.2⟩
  refine lv_aload_n hx hb dL_law_419 rfl (lv_at hl 3 rfl) ?_
  refine z_goi (wf := fun (u : zU) => zQ E ((Y1 ++ [(o, zoc E (zov ov k1 r1))]) ++ zMw E y ad u.2.1 u.2.2.1) C1) hw.2 (z_runV Cx hw (c_m_addGroup E l (Y1 ++ [(o, zoc E (zov ov k1 r1))]) C1 y ad sc g V2 hT hI2 ) (cwV 0 Cx.1.2.2.2.2 gL_law_X8_addGroup rfl rfl rfl (by decide +kernel) ⟨(Nat.le_of_ble_eq_true rfl), (Nat.le_of_ble_eq_true rfl)⟩) (z_recv Cx hw (r := (RX8, TX8, 26)) zM_x rfl) rfl hl.1 rfl (Nat.le_of_ble_eq_true rfl) dL_law_420 ⟨hc, hs⟩) (fun r2 u H locs hp hw => ?_)
  obtain ⟨k2, sc2, g2, W2⟩ := u
  obtain ⟨hrel2, hT2, hk2⟩ := hp
  have hrel2 : zA_addGroup V2  k2 r2 W2 := hrel2
  have hT2 : zMT sc2 g2 W2 := hT2
  have hk2 : sc2 0 = nI k2 := hk2
  have hw : zHA E ((Y1 ++ [(o, zoc E (zov ov k1 r1))]) ++ zMw E y ad sc2 g2) C1 s H locs := hw
  obtain ⟨hk, hrr, hE2⟩ := zd_addGroup hE hrel hrel2
  have hI1 := zk_addGroup hI hrel
  subst hk
  refine lv_istore hx hb dL_law_423 hl (by decide) rfl (fun ls hl => ?_)
  have hl : lv_has ls 7 [(6, .int r2), (5, .int (nI k1)), (0, .ref b), (1, .ref x), (2, .ref y), (3, .ref o), (4, .int (nI n))] := hl
  refine lv_aload_n hx hb dL_law_425 rfl (lv_at hl 4 rfl) ?_
  refine z_goe hw.2 (z_runV Cx hw (c_X8_thrown E l (Y1 ++ [(o, zoc E (zov ov k1 r1))]) C1 y ad sc2 g2) (cwV 0 Cx.1.2.2.2.2 gL_law_X8_thrown rfl rfl rfl (by decide +kernel) ⟨(Nat.le_of_ble_eq_true rfl), (Nat.le_of_ble_eq_true rfl)⟩) (z_recv Cx hw (r := (RX8, TX8, 26)) zM_x rfl) rfl hl.1 rfl (Nat.le_of_ble_eq_true rfl) dL_law_426 ⟨hc, hs⟩) (fun H locs hw => ?_)
  rw [hk2]
  refine lv_iload hx hb dL_law_429 (lv_at hl 1 rfl) ?_
  refine lv_icmp_eq (tgt := 436) hx hb dL_law_431 (by decide) (fun _ => ?_) (fun h => absurd rfl h)
  refine lv_iload hx hb dL_law_436 (lv_at hl 1 rfl) ?_
  have hend : W p l e room_1 s m #[Value.ref b] below meth c H locs (cells + 20 + 0 + 0) (slots + 200 + 0 + 0) Q (F0 m 453 ls []) := by
    refine lv_goto (tgt := 1551) hx hb dL_law_453 (by decide) ?_
    exact kk _ _ _ _ _ _ _ _ _ ls ⟨⟨hw.1.perm z_swap, hw.2⟩, hrc1, hT2, hI1, hE2⟩ (lv_sub hl [2, 3, 4, 5, 6] rfl)
  refine lv_if_ne (tgt := 453) hx hb dL_law_438 (by decide) (fun _ => hend) (fun h0 => ?_)
  have hk0 : k1 = 0 := zk_eq0 hk3 h0
  refine lv_aload_n hx hb dL_law_441 rfl (lv_at hl 5 rfl) ?_
  refine lv_iconst (v := 0) hx hb dL_law_442 (by decide) ?_
  refine zl_lald Cx hw dL_law_443 ?_
  rw [zov_0 hk0, hrr hk0]
  refine lv_iload hx hb dL_law_444 (lv_at hl 0 rfl) ?_
  refine lv_i2l hx hb dL_law_446 rfl ?_
  refine W.lcmp hx hb dL_law_447 ?_
  rw [lg_cmp_self]
  exact lv_if_eq (tgt := 453) hx hb dL_law_448 (by decide) (fun _ => hend) (fun h => absurd rfl h)

