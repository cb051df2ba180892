/-! the law's small methods: one call of the class each -/
abbrev zoc (E : zG) (f : Nat → Int64) : va_E := Sum.inl (eJ E, 1, .inr (.inl f))
def zov (f : Nat → Int64) (c : Nat) (r : Int32) : Nat → Int64 := if c = 0 then vp_updL f 0 r.toInt64 else f
def wl3 : List Cond := [Cond.classLink RL 13 "java/lang/IllegalArgumentException", Cond.classLink RL 15 "java/lang/IllegalStateException", Cond.classLink RL 21 "java/lang/IndexOutOfBoundsException"]
theorem wl3_in : GoodIn wsL_law wl3 := goodIn_sub (List.forall_mem_cons.mpr ⟨List.mem_of_getElem? (i := 66) (by decide +kernel), List.forall_mem_cons.mpr ⟨List.mem_of_getElem? (i := 297) (by decide +kernel), List.forall_mem_cons.mpr ⟨List.mem_of_getElem? (i := 204) (by decide +kernel), fun _ h => nomatch h⟩⟩⟩) (by decide +kernel)
theorem zgm {big ws : List Cond} (h : GoodIn big ws) : GoodIn (big ++ wl3) ws := fun w hw => ⟨List.mem_append_left _ (h w hw).1, (h w hw).2⟩
theorem zgs2 {own : String} {i : Nat} {y : MethodName} {ws : List Cond} (h : GoodIn wsL_law (va_wsS own i y ws)) : GoodIn wsL_law (va_wsS own i y (ws ++ wl3)) := by
  intro w hw
  unfold va_wsS at hw
  rw [← List.append_assoc] at hw
  rcases List.mem_append.mp hw with hw | hw
  · exact h w (by unfold va_wsS; exact hw)
  · exact wl3_in w hw
abbrev zNc (U : State) : Prop := va_Nc zIAE zIOO U ∧ va_Nc zISE zIOO U ∧ va_Nc zISE zIAE U
abbrev zUL : Type := (va_W × zLs) × Nat × Int32 × zCl
abbrev zWL (E : zG) (X : va_W) (o : Nat) (ov : Nat → Int64) (u : zUL) : Heap → Prop := zQ E ((X ++ [(o, zoc E (zov ov u.2.1 u.2.2.1))]) ++ u.1.1) u.1.2
abbrev zPL (E : zG) (X : va_W) (o x : Nat) (ov : Nat → Int64) (rel : Nat → Int32 → zCl → Prop) : Array Value → State → Outcome → State → Prop := va_Qi (fun r (u : zUL) => r = nI u.2.1 ∧ rel u.2.1 u.2.2.1 u.2.2.2 ∧ zRC u.1.1 u.1.2 x u.2.2.2) (fun u tt => zWL E X o ov u tt.heap) (eA E)
theorem zQ.perm {E : zG} {Z Z' : va_W} {C : zLs} {H : Heap} (h : zQ E Z C H) (hp : Z.Perm Z') : zQ E Z' C H := by
  obtain ⟨YA, hP, hA⟩ := h
  refine ⟨YA, hP.perm (hp.append_right YA), hA.mono (fun y hy => ?_)⟩
  obtain ⟨ci, fs, hm, b⟩ := hy
  exact ⟨ci, fs, hp.mem_iff.mp hm, b⟩
theorem z_outp {X Y : va_W} {a : Nat × va_E} : ((X ++ [a]) ++ Y).Perm ((X ++ Y) ++ [a]) := by
  rw [List.append_assoc, List.append_assoc]
  exact List.Perm.append_left X List.perm_append_comm
theorem zh_of {E : zG} {l : Launch} {y : MethodName} {ws ws' : List Cond} {rm : Room} {cc : ByteArray} {maxL : Nat} {ret : Option FieldType} {hh : List (Nat × Nat × Nat × Nat)} {av : List Value} {w : Heap → Prop} {Qc : Array Value → State → Outcome → State → Prop} {mc ms : Nat} {own : String} (hy : plainName y.cls = true) (ho : y.cls = own) (hw : ws = Cond.codeWith y cc maxL ret hh :: ws') (hlen : (lg_sl av).length ≤ maxL)
    (body : ∀ (p : Program) (e : Env) (s : State) (m : MethodId) (below : List Frame) (meth : Method) (c : Code) (ls : Array Slot), c.exceptionTable.toList = tableOf hh → zNc s → zC E p s m av.toArray meth c own cc ws maxL → meth.sig.returnType = ret → zHw E w s s.heap [] → lv_has ls maxL (lv_args 0 av) → W p l e rm s m av.toArray below meth c s.heap [] 0 0 (MQ below Qc av.toArray s mc ms (eA E)) (F0 m 0 ls [])) : Met l y ws rm (va_Pc av (fun U => zu E w U ∧ zNc U)) Qc mc ms (eA E) := by
  refine MetFree.of_bodyS (code := cc) (maxLocals := maxL) (ret := ret) hy ?_ ?_
  · intro args s m h hn
    obtain ⟨m9, meth, c, hn9, h1, h2, h3, h4, -, h5, h6, -⟩ := Cond.codeWith_spec (atoms_spec (ws := ws) h _ (by rw [hw]; exact List.mem_cons_self))
    cases hn.symm.trans hn9
    exact ⟨meth, c, h1, h2, h3, h4, h5, h6⟩
  · intro p e s m args below meth c s₁ B hml hP _
    obtain ⟨rfl, hu, hnc⟩ := hP
    have hh0 : s₁.heap = s.heap := by rw [B.state]; rfl
    have hown : s.vm.findClass own = some m.cls := by rw [← ho]; exact findClass_of_methodNamed B.named
    have hts := atoms_spec (ws := ws) B.pre
    have Cx : zC E p s m av.toArray meth c own cc ws maxL := ⟨⟨B.exec, B.bytes, hml, hown, hts⟩, hu.2, B.notSynchronized⟩
    have ht := vx_table (x := y) B (hts _ (by rw [hw]; exact List.mem_cons_self))
    have K := body p e s m below meth c _ ht hnc Cx B.returns ⟨hu.1, va_S.rf⟩ (lv_entry av hlen)
    rw [← lg_entry_eq] at K
    obtain ⟨t, a1, o, b1, b2, b3⟩ := K s₁ hh0 (Stand.of_body B)
    exact ⟨t, o, a1, b1, b2, ⟨b3.1, b3.2⟩⟩
section
variable {p : Program} {l : Launch} {e : Env} {R : Room} {s : State} {m : MethodId} {args : Array Value} {below : List Frame} {meth : Method} {c : Code} {H : Heap} {locs : List Loc} {cells slots : Nat} {Q : State → Prop}
variable {E : zG} {own : String} {cc : ByteArray} {Ts : List Cond} {nL pc : Nat} {ls : Array Slot} {rest : List Value} {X Y : va_W} {C : zLs}
theorem z_hand (Cx : zC E p s m args meth c own cc Ts nL) {hh : List (Nat × Nat × Nat × Nat)} (ht : c.exceptionTable.toList = tableOf hh) (pre : List (Nat × Nat × Nat × Nat)) (x : Nat × Nat × Nat × Nat) (suf : List (Nat × Nat × Nat × Nat)) (hs : hh = pre ++ x :: suf) {nm : String} (hcl : nm ∈ [zIOO, zIAE, zISE]) (hpass : ∀ z ∈ pre, z.2.2.2 ≠ 0 ∧ ∃ n2 : String, Cond.classLink own z.2.2.2 n2 ∈ Ts ∧ va_Nc nm n2 s) (hx : covers ⟨x.1, x.2.1, x.2.2.1, x.2.2.2⟩ pc = true) (h0 : x.2.2.2 ≠ 0) (hlink : Cond.classLink own x.2.2.2 nm ∈ Ts)
    {ce : Cell} {q9 : Addr} (h1 : H[q9]? = some ce) (h2 : ce.vm = .none) (h3 : s.vm.findClass nm = some ce.cls) (kk : W p l e R s m args below meth c H locs cells slots Q (F0 m x.2.2.1 ls [.ref q9])) : vx_W p l e R s m args below meth c H locs cells slots Q (F0 m pc ls rest) q9 := by
  obtain ⟨⟨hx1, hb, hml, hown, hts⟩, ⟨hK, hA0, -, -, -, -, -, hca, -⟩, hlk⟩ := Cx
  refine vx_catch hown (tableOf pre) ⟨x.1, x.2.1, x.2.2.1, x.2.2.2⟩ (tableOf suf) (by rw [ht, hs]; simp [tableOf]) (fun z hz => ?_) hx h0 (hts _ hlink) (va_Nw.use rfl (hca _ hcl)) h1 h2 h3 kk
  obtain ⟨y, hy, rfl⟩ := List.mem_map.mp hz
  obtain ⟨a1, n2, a2, a3⟩ := hpass y hy
  exact Or.inr ⟨a1, n2, hts _ a2, a3⟩
theorem zl_last (Cx : zC E p s m args meth c own cc Ts nL) {o : Nat} {f : Nat → Int64} (hw : zHA E ((X ++ [(o, zoc E f)]) ++ Y) C s H locs) {v : Int64} (hdg : decode cc pc = .ok (.lastore, 1))
    (kk : ∀ (H1 : Heap) (locs1 : List Loc), zHA E ((X ++ [(o, zoc E (vp_updL f 0 v))]) ++ Y) C s H1 locs1 → W p l e R s m args below meth c H1 locs1 cells slots Q (F0 m (pc + 1) ls rest)) : W p l e R s m args below meth c H locs cells slots Q (F0 m pc ls (.long v :: .int 0 :: .ref o :: rest)) := by
  obtain ⟨⟨YA, ⟨hP, hD⟩, hA⟩, hS⟩ := (⟨hw.1.perm z_outp, hw.2⟩ : zHA E ((X ++ Y) ++ [(o, zoc E f)]) C s H locs)
  have hm : (o, zoc E f) ∈ [(o, zoc E f)] := List.mem_cons_self
  obtain ⟨q0, hq0⟩ := List.getElem?_of_mem (List.mem_append_left YA (List.mem_append_right (X ++ Y) hm))
  refine va_last Cx.1.1 Cx.1.2.1 Cx.2.1.1 hP hD hS q0 3 hq0 rfl (i := 0) (vp_in_nI (n := 0) (N := 1) (by omega) (by omega)) hdg (fun H1 locs1 h1 h2 h3 => kk H1 locs1 ⟨?_, h3⟩)
  rw [sb_cl0] at h1 h2
  have h4 := zQ_setA ⟨hP, hD⟩ hA hm hq0 h1 h2
  have e9 : zset [(o, zoc E f)] o (zoc E (vp_updL f 0 v)) = [(o, zoc E (vp_updL f 0 v))] := by simp [zset]
  have h5 : zQ E ((X ++ Y) ++ [(o, zoc E (vp_updL f 0 v))]) C H1 := by rw [← e9]; exact h4
  exact h5.perm z_outp.symm
theorem zl_lald (Cx : zC E p s m args meth c own cc Ts nL) {o : Nat} {f : Nat → Int64} (hw : zHA E ((X ++ [(o, zoc E f)]) ++ Y) C s H locs) (hdg : decode cc pc = .ok (.laload, 1))
    (kk : W p l e R s m args below meth c H locs cells slots Q (F0 m (pc + 1) ls (.long (f 0) :: rest))) : W p l e R s m args below meth c H locs cells slots Q (F0 m pc ls (.int 0 :: .ref o :: rest)) := by
  obtain ⟨⟨YA, ⟨hP, hD⟩, hA⟩, hS⟩ := hw
  obtain ⟨q0, hq0⟩ := List.getElem?_of_mem (List.mem_append_left YA (List.mem_append_left Y (List.mem_append_right X (List.mem_cons_self (a := (o, zoc E f)) (l := [])))))
  refine va_lald Cx.1.1 Cx.1.2.1 Cx.2.1.1 hP q0 3 hq0 rfl (i := 0) (vp_in_nI (n := 0) (N := 1) (by omega) (by omega)) hdg ?_
  rw [sb_cl0]
  exact kk
end
set_option maxRecDepth 100000 in
set_option maxHeartbeats 4000000 in
/-- addNetwork -/
theorem c_L_addNetwork (E : zG) (l : Launch) (hl0 : l.stackTraces = false) (X Y : va_W) (C : zLs) (x o : Nat) (ov : Nat → Int64) (V : zCl) (hrc : zRC Y C x V) (b z : Int32) : Met l yL_addNetwork (wsL_addNetwork ++ wl3) (zR 9 20 200) (va_Pc [.ref x, .int b, .int z, .ref o] (fun U => zu E (zQ E ((X ++ [(o, zoc E ov)]) ++ Y) C) U ∧ zNc U)) (zPL E X o x ov (zA_addNetwork V b z)) 20 200 (eA E) := by
  refine zh_of (cc := cL_addNetwork) (maxL := 5) (ret := (some .int)) (hh := [(0, 10, 13, 13), (0, 10, 17, 15)]) (by decide) rfl rfl (Nat.le_of_ble_eq_true rfl) ?_
  intro p e s m below meth c ls ht hnc Cx hr hw hl
  have hx := Cx.1.1
  have hb := Cx.1.2.1
  have hrc0 := hrc
  obtain ⟨q0, q1, q2, q3, q4, ns, ss, hs, ps, gs, ro, rw9, hRb⟩ := hrc0
  have hx0 : (x, Sum.inr (10, [.ref q0, .ref q1, .ref q2, .ref q3, .ref q4])) ∈ (X ++ [(o, zoc E ov)]) ++ Y := List.mem_append_right _ hRb.1
  have hl : lv_has ls 5 [(0, .ref x), (1, .int b), (2, .int z), (3, .ref o)] := hl
  refine lv_aload_n hx hb dL_addNetwork_0 rfl (lv_at hl 3 rfl) ?_
  refine lv_iconst (v := 0) hx hb dL_addNetwork_1 (by decide) ?_
  refine lv_aload_n hx hb dL_addNetwork_2 rfl (lv_at hl 0 rfl) ?_
  refine lv_iload_n hx hb dL_addNetwork_3 rfl (lv_at hl 1 rfl) ?_
  refine lv_iload_n hx hb dL_addNetwork_4 rfl (lv_at hl 2 rfl) ?_
  refine zx_goi (wf := fun (u : va_W × zLs) => zQ E ((X ++ [(o, zoc E ov)]) ++ u.1) u.2) hw.2 (zx_runV Cx hw (c_X7_addNetwork E l hl0 (X ++ [(o, zoc E ov)]) Y C x V hrc b z) (cwV 2 Cx.1.2.2.2.2 (zgm gL_addNetwork_X7_addNetwork) rfl rfl rfl (by decide +kernel) ⟨Nat.le_of_ble_eq_true rfl, Nat.le_of_ble_eq_true rfl⟩) (z_recv Cx hw (r := (RX7, TX7, 5)) hx0 rfl) rfl hl.1 rfl (Nat.le_of_ble_eq_true rfl) dL_addNetwork_5 ⟨Nat.le_of_ble_eq_true rfl, Nat.le_of_ble_eq_true rfl⟩) (?hkx) (fun r_5 u_5 H locs hp_5 hw => ?_)
  case hkx =>
    intro nm ce q9 H1 locs1 hp hw1 g1 g2 g3
    rcases zx_addNetwork hp with ⟨rfl, hrel⟩ | ⟨rfl, hrel⟩
    · refine z_hand (hh := [(0, 10, 13, 13), (0, 10, 17, 15)]) Cx ht [] (0, 10, 13, 13) [(0, 10, 17, 15)] rfl (List.mem_of_getElem? (i := 1) rfl) (fun _ h => nomatch h) rfl (by decide) (List.mem_append_right _ (List.mem_of_getElem? (i := 0) rfl)) g1 g2 g3 ?_
      refine lv_astore hx hb dL_addNetwork_13 hl (by decide) rfl (fun ls hl => ?_)
      refine lv_iconst (v := nI 1) hx hb dL_addNetwork_15 rfl ?_
      exact z_iret (wf := (zWL E X o ov)) Cx hr rfl (Nat.le_of_ble_eq_true rfl) (Nat.le_of_ble_eq_true rfl) ((Y, C), 1, 0, V) hw1 ⟨rfl, hrel, hrc⟩ dL_addNetwork_16
    · refine z_hand (hh := [(0, 10, 13, 13), (0, 10, 17, 15)]) Cx ht [(0, 10, 13, 13)] (0, 10, 17, 15) [] rfl (List.mem_of_getElem? (i := 2) rfl) (List.forall_mem_cons.mpr ⟨⟨by decide, zIAE, (List.mem_append_right _ (List.mem_of_getElem? (i := 0) rfl)), hnc.2.2⟩, fun _ h => nomatch h⟩) rfl (by decide) (List.mem_append_right _ (List.mem_of_getElem? (i := 1) rfl)) g1 g2 g3 ?_
      refine lv_astore hx hb dL_addNetwork_17 hl (by decide) rfl (fun ls hl => ?_)
      refine lv_iconst (v := nI 2) hx hb dL_addNetwork_19 rfl ?_
      exact z_iret (wf := (zWL E X o ov)) Cx hr rfl (Nat.le_of_ble_eq_true rfl) (Nat.le_of_ble_eq_true rfl) ((Y, C), 2, 0, V) hw1 ⟨rfl, hrel, hrc⟩ dL_addNetwork_20
  obtain ⟨V1, hrel, hrc1⟩ := zs_addNetwork hp_5
  refine lv_i2l hx hb dL_addNetwork_8 rfl ?_
  refine zl_last Cx hw dL_addNetwork_9 (fun H locs hw => ?_)
  refine lv_goto (tgt := 21) hx hb dL_addNetwork_10 (by decide) ?_
  refine lv_iconst (v := nI 0) hx hb dL_addNetwork_21 rfl ?_
  exact z_iret (wf := (zWL E X o ov)) Cx hr rfl (Nat.le_of_ble_eq_true rfl) (Nat.le_of_ble_eq_true rfl) (u_5, 0, r_5, V1) hw ⟨rfl, hrel, hrc1⟩ dL_addNetwork_22

set_option maxRecDepth 100000 in
set_option maxHeartbeats 4000000 in
/-- addSubnet -/
theorem c_L_addSubnet (E : zG) (l : Launch) (hl0 : l.stackTraces = false) (X Y : va_W) (C : zLs) (x o : Nat) (ov : Nat → Int64) (V : zCl) (hrc : zRC Y C x V) (f b z : Int32) : Met l yL_addSubnet (wsL_addSubnet ++ wl3) (zR 9 20 200) (va_Pc [.ref x, .int f, .int b, .int z, .ref o] (fun U => zu E (zQ E ((X ++ [(o, zoc E ov)]) ++ Y) C) U ∧ zNc U)) (zPL E X o x ov (zA_addSubnet V f b z)) 20 200 (eA E) := by
  refine zh_of (cc := cL_addSubnet) (maxL := 6) (ret := (some .int)) (hh := [(0, 12, 15, 21), (0, 12, 19, 13), (0, 12, 23, 15)]) (by decide) rfl rfl (Nat.le_of_ble_eq_true rfl) ?_
  intro p e s m below meth c ls ht hnc Cx hr hw hl
  have hx := Cx.1.1
  have hb := Cx.1.2.1
  have hrc0 := hrc
  obtain ⟨q0, q1, q2, q3, q4, ns, ss, hs, ps, gs, ro, rw9, hRb⟩ := hrc0
  have hx0 : (x, Sum.inr (10, [.ref q0, .ref q1, .ref q2, .ref q3, .ref q4])) ∈ (X ++ [(o, zoc E ov)]) ++ Y := List.mem_append_right _ hRb.1
  have hl : lv_has ls 6 [(0, .ref x), (1, .int f), (2, .int b), (3, .int z), (4, .ref o)] := hl
  refine lv_aload hx hb dL_addSubnet_0 (lv_at hl 4 rfl) ?_
  refine lv_iconst (v := 0) hx hb dL_addSubnet_2 (by decide) ?_
  refine lv_aload_n hx hb dL_addSubnet_3 rfl (lv_at hl 0 rfl) ?_
  refine lv_iload_n hx hb dL_addSubnet_4 rfl (lv_at hl 1 rfl) ?_
  refine lv_iload_n hx hb dL_addSubnet_5 rfl (lv_at hl 2 rfl) ?_
  refine lv_iload_n hx hb dL_addSubnet_6 rfl (lv_at hl 3 rfl) ?_
  refine zx_goi (wf := fun (u : va_W × zLs) => zQ E ((X ++ [(o, zoc E ov)]) ++ u.1) u.2) hw.2 (zx_runV Cx hw (c_X7_addSubnet E l hl0 (X ++ [(o, zoc E ov)]) Y C x V hrc f b z) (cwV 3 Cx.1.2.2.2.2 (zgm gL_addSubnet_X7_addSubnet) rfl rfl rfl (by decide +kernel) ⟨Nat.le_of_ble_eq_true rfl, Nat.le_of_ble_eq_true rfl⟩) (z_recv Cx hw (r := (RX7, TX7, 5)) hx0 rfl) rfl hl.1 rfl (Nat.le_of_ble_eq_true rfl) dL_addSubnet_7 ⟨Nat.le_of_ble_eq_true rfl, Nat.le_of_ble_eq_true rfl⟩) (?hkx) (fun r_7 u_7 H locs hp_7 hw => ?_)
  case hkx =>
    intro nm ce q9 H1 locs1 hp hw1 g1 g2 g3
    rcases zx_addSubnet hp with ⟨rfl, hrel⟩ | ⟨rfl, hrel⟩ | ⟨rfl, hrel⟩
    · refine z_hand (hh := [(0, 12, 15, 21), (0, 12, 19, 13), (0, 12, 23, 15)]) Cx ht [] (0, 12, 15, 21) [(0, 12, 19, 13), (0, 12, 23, 15)] rfl (List.mem_of_getElem? (i := 0) rfl) (fun _ h => nomatch h) rfl (by decide) (List.mem_append_right _ (List.mem_of_getElem? (i := 2) rfl)) g1 g2 g3 ?_
      refine lv_astore hx hb dL_addSubnet_15 hl (by decide) rfl (fun ls hl => ?_)
      refine lv_iconst (v := nI 1) hx hb dL_addSubnet_17 rfl ?_
      exact z_iret (wf := (zWL E X o ov)) Cx hr rfl (Nat.le_of_ble_eq_true rfl) (Nat.le_of_ble_eq_true rfl) ((Y, C), 1, 0, V) hw1 ⟨rfl, hrel, hrc⟩ dL_addSubnet_18
    · refine z_hand (hh := [(0, 12, 15, 21), (0, 12, 19, 13), (0, 12, 23, 15)]) Cx ht [(0, 12, 15, 21)] (0, 12, 19, 13) [(0, 12, 23, 15)] rfl (List.mem_of_getElem? (i := 1) rfl) (List.forall_mem_cons.mpr ⟨⟨by decide, zIOO, (List.mem_append_right _ (List.mem_of_getElem? (i := 2) rfl)), hnc.1⟩, fun _ h => nomatch h⟩) rfl (by decide) (List.mem_append_right _ (List.mem_of_getElem? (i := 0) rfl)) g1 g2 g3 ?_
      refine lv_astore hx hb dL_addSubnet_19 hl (by decide) rfl (fun ls hl => ?_)
      refine lv_iconst (v := nI 2) hx hb dL_addSubnet_21 rfl ?_
      exact z_iret (wf := (zWL E X o ov)) Cx hr rfl (Nat.le_of_ble_eq_true rfl) (Nat.le_of_ble_eq_true rfl) ((Y, C), 2, 0, V) hw1 ⟨rfl, hrel, hrc⟩ dL_addSubnet_22
    · refine z_hand (hh := [(0, 12, 15, 21), (0, 12, 19, 13), (0, 12, 23, 15)]) Cx ht [(0, 12, 15, 21), (0, 12, 19, 13)] (0, 12, 23, 15) [] rfl (List.mem_of_getElem? (i := 2) rfl) (List.forall_mem_cons.mpr ⟨⟨by decide, zIOO, (List.mem_append_right _ (List.mem_of_getElem? (i := 2) rfl)), hnc.2.1⟩, List.forall_mem_cons.mpr ⟨⟨by decide, zIAE, (List.mem_append_right _ (List.mem_of_getElem? (i := 0) rfl)), hnc.2.2⟩, fun _ h => nomatch h⟩⟩) rfl (by decide) (List.mem_append_right _ (List.mem_of_getElem? (i := 1) rfl)) g1 g2 g3 ?_
      refine lv_astore hx hb dL_addSubnet_23 hl (by decide) rfl (fun ls hl => ?_)
      refine lv_iconst (v := nI 3) hx hb dL_addSubnet_25 rfl ?_
      exact z_iret (wf := (zWL E X o ov)) Cx hr rfl (Nat.le_of_ble_eq_true rfl) (Nat.le_of_ble_eq_true rfl) ((Y, C), 3, 0, V) hw1 ⟨rfl, hrel, hrc⟩ dL_addSubnet_26
  obtain ⟨V1, hrel, hrc1⟩ := zs_addSubnet hp_7
  refine lv_i2l hx hb dL_addSubnet_10 rfl ?_
  refine zl_last Cx hw dL_addSubnet_11 (fun H locs hw => ?_)
  refine lv_goto (tgt := 27) hx hb dL_addSubnet_12 (by decide) ?_
  refine lv_iconst (v := nI 0) hx hb dL_addSubnet_27 rfl ?_
  exact z_iret (wf := (zWL E X o ov)) Cx hr rfl (Nat.le_of_ble_eq_true rfl) (Nat.le_of_ble_eq_true rfl) (u_7, 0, r_7, V1) hw ⟨rfl, hrel, hrc1⟩ dL_addSubnet_28

set_option maxRecDepth 100000 in
set_option maxHeartbeats 4000000 in
/-- addHost -/
theorem c_L_addHost (E : zG) (l : Launch) (hl0 : l.stackTraces = false) (X Y : va_W) (C : zLs) (x o : Nat) (ov : Nat → Int64) (V : zCl) (hrc : zRC Y C x V) (f a : Int32) : Met l yL_addHost (wsL_addHost ++ wl3) (zR 9 20 200) (va_Pc [.ref x, .int f, .int a, .ref o] (fun U => zu E (zQ E ((X ++ [(o, zoc E ov)]) ++ Y) C) U ∧ zNc U)) (zPL E X o x ov (zA_addHost V f a)) 20 200 (eA E) := by
  refine zh_of (cc := cL_addHost) (maxL := 5) (ret := (some .int)) (hh := [(0, 10, 13, 21), (0, 10, 17, 13), (0, 10, 21, 15)]) (by decide) rfl rfl (Nat.le_of_ble_eq_true rfl) ?_
  intro p e s m below meth c ls ht hnc Cx hr hw hl
  have hx := Cx.1.1
  have hb := Cx.1.2.1
  have hrc0 := hrc
  obtain ⟨q0, q1, q2, q3, q4, ns, ss, hs, ps, gs, ro, rw9, hRb⟩ := hrc0
  have hx0 : (x, Sum.inr (10, [.ref q0, .ref q1, .ref q2, .ref q3, .ref q4])) ∈ (X ++ [(o, zoc E ov)]) ++ Y := List.mem_append_right _ hRb.1
  have hl : lv_has ls 5 [(0, .ref x), (1, .int f), (2, .int a), (3, .ref o)] := hl
  refine lv_aload_n hx hb dL_addHost_0 rfl (lv_at hl 3 rfl) ?_
  refine lv_iconst (v := 0) hx hb dL_addHost_1 (by decide) ?_
  refine lv_aload_n hx hb dL_addHost_2 rfl (lv_at hl 0 rfl) ?_
  refine lv_iload_n hx hb dL_addHost_3 rfl (lv_at hl 1 rfl) ?_
  refine lv_iload_n hx hb dL_addHost_4 rfl (lv_at hl 2 rfl) ?_
  refine zx_goi (wf := fun (u : va_W × zLs) => zQ E ((X ++ [(o, zoc E ov)]) ++ u.1) u.2) hw.2 (zx_runV Cx hw (c_X7_addHost E l hl0 (X ++ [(o, zoc E ov)]) Y C x V hrc f a) (cwV 2 Cx.1.2.2.2.2 (zgm gL_addHost_X7_addHost) rfl rfl rfl (by decide +kernel) ⟨Nat.le_of_ble_eq_true rfl, Nat.le_of_ble_eq_true rfl⟩) (z_recv Cx hw (r := (RX7, TX7, 5)) hx0 rfl) rfl hl.1 rfl (Nat.le_of_ble_eq_true rfl) dL_addHost_5 ⟨Nat.le_of_ble_eq_true rfl, Nat.le_of_ble_eq_true rfl⟩) (?hkx) (fun r_5 u_5 H locs hp_5 hw => ?_)
  case hkx =>
    intro nm ce q9 H1 locs1 hp hw1 g1 g2 g3
    rcases zx_addHost hp with ⟨rfl, hrel⟩ | ⟨rfl, hrel⟩ | ⟨rfl, hrel⟩
    · refine z_hand (hh := [(0, 10, 13, 21), (0, 10, 17, 13), (0, 10, 21, 15)]) Cx ht [] (0, 10, 13, 21) [(0, 10, 17, 13), (0, 10, 21, 15)] rfl (List.mem_of_getElem? (i := 0) rfl) (fun _ h => nomatch h) rfl (by decide) (List.mem_append_right _ (List.mem_of_getElem? (i := 2) rfl)) g1 g2 g3 ?_
      refine lv_astore hx hb dL_addHost_13 hl (by decide) rfl (fun ls hl => ?_)
      refine lv_iconst (v := nI 1) hx hb dL_addHost_15 rfl ?_
      exact z_iret (wf := (zWL E X o ov)) Cx hr rfl (Nat.le_of_ble_eq_true rfl) (Nat.le_of_ble_eq_true rfl) ((Y, C), 1, 0, V) hw1 ⟨rfl, hrel, hrc⟩ dL_addHost_16
    · refine z_hand (hh := [(0, 10, 13, 21), (0, 10, 17, 13), (0, 10, 21, 15)]) Cx ht [(0, 10, 13, 21)] (0, 10, 17, 13) [(0, 10, 21, 15)] rfl (List.mem_of_getElem? (i := 1) rfl) (List.forall_mem_cons.mpr ⟨⟨by decide, zIOO, (List.mem_append_right _ (List.mem_of_getElem? (i := 2) rfl)), hnc.1⟩, fun _ h => nomatch h⟩) rfl (by decide) (List.mem_append_right _ (List.mem_of_getElem? (i := 0) rfl)) g1 g2 g3 ?_
      refine lv_astore hx hb dL_addHost_17 hl (by decide) rfl (fun ls hl => ?_)
      refine lv_iconst (v := nI 2) hx hb dL_addHost_19 rfl ?_
      exact z_iret (wf := (zWL E X o ov)) Cx hr rfl (Nat.le_of_ble_eq_true rfl) (Nat.le_of_ble_eq_true rfl) ((Y, C), 2, 0, V) hw1 ⟨rfl, hrel, hrc⟩ dL_addHost_20
    · refine z_hand (hh := [(0, 10, 13, 21), (0, 10, 17, 13), (0, 10, 21, 15)]) Cx ht [(0, 10, 13, 21), (0, 10, 17, 13)] (0, 10, 21, 15) [] rfl (List.mem_of_getElem? (i := 2) rfl) (List.forall_mem_cons.mpr ⟨⟨by decide, zIOO, (List.mem_append_right _ (List.mem_of_getElem? (i := 2) rfl)), hnc.2.1⟩, List.forall_mem_cons.mpr ⟨⟨by decide, zIAE, (List.mem_append_right _ (List.mem_of_getElem? (i := 0) rfl)), hnc.2.2⟩, fun _ h => nomatch h⟩⟩) rfl (by decide) (List.mem_append_right _ (List.mem_of_getElem? (i := 1) rfl)) g1 g2 g3 ?_
      refine lv_astore hx hb dL_addHost_21 hl (by decide) rfl (fun ls hl => ?_)
      refine lv_iconst (v := nI 3) hx hb dL_addHost_23 rfl ?_
      exact z_iret (wf := (zWL E X o ov)) Cx hr rfl (Nat.le_of_ble_eq_true rfl) (Nat.le_of_ble_eq_true rfl) ((Y, C), 3, 0, V) hw1 ⟨rfl, hrel, hrc⟩ dL_addHost_24
  obtain ⟨V1, hrel, hrc1⟩ := zs_addHost hp_5
  refine lv_i2l hx hb dL_addHost_8 rfl ?_
  refine zl_last Cx hw dL_addHost_9 (fun H locs hw => ?_)
  refine lv_goto (tgt := 25) hx hb dL_addHost_10 (by decide) ?_
  refine lv_iconst (v := nI 0) hx hb dL_addHost_25 rfl ?_
  exact z_iret (wf := (zWL E X o ov)) Cx hr rfl (Nat.le_of_ble_eq_true rfl) (Nat.le_of_ble_eq_true rfl) (u_5, 0, r_5, V1) hw ⟨rfl, hrel, hrc1⟩ dL_addHost_26

set_option maxRecDepth 100000 in
set_option maxHeartbeats 4000000 in
/-- addPeering -/
theorem c_L_addPeering (E : zG) (l : Launch) (hl0 : l.stackTraces = false) (X Y : va_W) (C : zLs) (x o : Nat) (ov : Nat → Int64) (V : zCl) (hrc : zRC Y C x V) (f t : Int32) : Met l yL_addPeering (wsL_addPeering ++ wl3) (zR 9 20 200) (va_Pc [.ref x, .int f, .int t, .ref o] (fun U => zu E (zQ E ((X ++ [(o, zoc E ov)]) ++ Y) C) U ∧ zNc U)) (zPL E X o x ov (zA_addPeering V f t)) 20 200 (eA E) := by
  refine zh_of (cc := cL_addPeering) (maxL := 5) (ret := (some .int)) (hh := [(0, 10, 13, 21), (0, 10, 17, 13), (0, 10, 21, 15)]) (by decide) rfl rfl (Nat.le_of_ble_eq_true rfl) ?_
  intro p e s m below meth c ls ht hnc Cx hr hw hl
  have hx := Cx.1.1
  have hb := Cx.1.2.1
  have hrc0 := hrc
  obtain ⟨q0, q1, q2, q3, q4, ns, ss, hs, ps, gs, ro, rw9, hRb⟩ := hrc0
  have hx0 : (x, Sum.inr (10, [.ref q0, .ref q1, .ref q2, .ref q3, .ref q4])) ∈ (X ++ [(o, zoc E ov)]) ++ Y := List.mem_append_right _ hRb.1
  have hl : lv_has ls 5 [(0, .ref x), (1, .int f), (2, .int t), (3, .ref o)] := hl
  refine lv_aload_n hx hb dL_addPeering_0 rfl (lv_at hl 3 rfl) ?_
  refine lv_iconst (v := 0) hx hb dL_addPeering_1 (by decide) ?_
  refine lv_aload_n hx hb dL_addPeering_2 rfl (lv_at hl 0 rfl) ?_
  refine lv_iload_n hx hb dL_addPeering_3 rfl (lv_at hl 1 rfl) ?_
  refine lv_iload_n hx hb dL_addPeering_4 rfl (lv_at hl 2 rfl) ?_
  refine zx_goi (wf := fun (u : va_W × zLs) => zQ E ((X ++ [(o, zoc E ov)]) ++ u.1) u.2) hw.2 (zx_runV Cx hw (c_X7_addPeering E l hl0 (X ++ [(o, zoc E ov)]) Y C x V hrc f t) (cwV 2 Cx.1.2.2.2.2 (zgm gL_addPeering_X7_addPeering) rfl rfl rfl (by decide +kernel) ⟨Nat.le_of_ble_eq_true rfl, Nat.le_of_ble_eq_true rfl⟩) (z_recv Cx hw (r := (RX7, TX7, 5)) hx0 rfl) rfl hl.1 rfl (Nat.le_of_ble_eq_true rfl) dL_addPeering_5 ⟨Nat.le_of_ble_eq_true rfl, Nat.le_of_ble_eq_true rfl⟩) (?hkx) (fun r_5 u_5 H locs hp_5 hw => ?_)
  case hkx =>
    intro nm ce q9 H1 locs1 hp hw1 g1 g2 g3
    rcases zx_addPeering hp with ⟨rfl, hrel⟩ | ⟨rfl, hrel⟩ | ⟨rfl, hrel⟩
    · refine z_hand (hh := [(0, 10, 13, 21), (0, 10, 17, 13), (0, 10, 21, 15)]) Cx ht [] (0, 10, 13, 21) [(0, 10, 17, 13), (0, 10, 21, 15)] rfl (List.mem_of_getElem? (i := 0) rfl) (fun _ h => nomatch h) rfl (by decide) (List.mem_append_right _ (List.mem_of_getElem? (i := 2) rfl)) g1 g2 g3 ?_
      refine lv_astore hx hb dL_addPeering_13 hl (by decide) rfl (fun ls hl => ?_)
      refine lv_iconst (v := nI 1) hx hb dL_addPeering_15 rfl ?_
      exact z_iret (wf := (zWL E X o ov)) Cx hr rfl (Nat.le_of_ble_eq_true rfl) (Nat.le_of_ble_eq_true rfl) ((Y, C), 1, 0, V) hw1 ⟨rfl, hrel, hrc⟩ dL_addPeering_16
    · refine z_hand (hh := [(0, 10, 13, 21), (0, 10, 17, 13), (0, 10, 21, 15)]) Cx ht [(0, 10, 13, 21)] (0, 10, 17, 13) [(0, 10, 21, 15)] rfl (List.mem_of_getElem? (i := 1) rfl) (List.forall_mem_cons.mpr ⟨⟨by decide, zIOO, (List.mem_append_right _ (List.mem_of_getElem? (i := 2) rfl)), hnc.1⟩, fun _ h => nomatch h⟩) rfl (by decide) (List.mem_append_right _ (List.mem_of_getElem? (i := 0) rfl)) g1 g2 g3 ?_
      refine lv_astore hx hb dL_addPeering_17 hl (by decide) rfl (fun ls hl => ?_)
      refine lv_iconst (v := nI 2) hx hb dL_addPeering_19 rfl ?_
      exact z_iret (wf := (zWL E X o ov)) Cx hr rfl (Nat.le_of_ble_eq_true rfl) (Nat.le_of_ble_eq_true rfl) ((Y, C), 2, 0, V) hw1 ⟨rfl, hrel, hrc⟩ dL_addPeering_20
    · refine z_hand (hh := [(0, 10, 13, 21), (0, 10, 17, 13), (0, 10, 21, 15)]) Cx ht [(0, 10, 13, 21), (0, 10, 17, 13)] (0, 10, 21, 15) [] rfl (List.mem_of_getElem? (i := 2) rfl) (List.forall_mem_cons.mpr ⟨⟨by decide, zIOO, (List.mem_append_right _ (List.mem_of_getElem? (i := 2) rfl)), hnc.2.1⟩, List.forall_mem_cons.mpr ⟨⟨by decide, zIAE, (List.mem_append_right _ (List.mem_of_getElem? (i := 0) rfl)), hnc.2.2⟩, fun _ h => nomatch h⟩⟩) rfl (by decide) (List.mem_append_right _ (List.mem_of_getElem? (i := 1) rfl)) g1 g2 g3 ?_
      refine lv_astore hx hb dL_addPeering_21 hl (by decide) rfl (fun ls hl => ?_)
      refine lv_iconst (v := nI 3) hx hb dL_addPeering_23 rfl ?_
      exact z_iret (wf := (zWL E X o ov)) Cx hr rfl (Nat.le_of_ble_eq_true rfl) (Nat.le_of_ble_eq_true rfl) ((Y, C), 3, 0, V) hw1 ⟨rfl, hrel, hrc⟩ dL_addPeering_24
  obtain ⟨V1, hrel, hrc1⟩ := zs_addPeering hp_5
  refine lv_i2l hx hb dL_addPeering_8 rfl ?_
  refine zl_last Cx hw dL_addPeering_9 (fun H locs hw => ?_)
  refine lv_goto (tgt := 25) hx hb dL_addPeering_10 (by decide) ?_
  refine lv_iconst (v := nI 0) hx hb dL_addPeering_25 rfl ?_
  exact z_iret (wf := (zWL E X o ov)) Cx hr rfl (Nat.le_of_ble_eq_true rfl) (Nat.le_of_ble_eq_true rfl) (u_5, 0, r_5, V1) hw ⟨rfl, hrel, hrc1⟩ dL_addPeering_26

set_option maxRecDepth 100000 in
set_option maxHeartbeats 4000000 in
/-- addGroup -/
theorem c_L_addGroup (E : zG) (l : Launch) (hl0 : l.stackTraces = false) (X Y : va_W) (C : zLs) (x o : Nat) (ov : Nat → Int64) (V : zCl) (hrc : zRC Y C x V)  : Met l yL_addGroup (wsL_addGroup ++ wl3) (zR 9 20 200) (va_Pc [.ref x, .ref o] (fun U => zu E (zQ E ((X ++ [(o, zoc E ov)]) ++ Y) C) U ∧ zNc U)) (zPL E X o x ov (zA_addGroup V)) 20 200 (eA E) := by
  refine zh_of (cc := cL_addGroup) (maxL := 3) (ret := (some .int)) (hh := [(0, 8, 11, 15)]) (by decide) rfl rfl (Nat.le_of_ble_eq_true rfl) ?_
  intro p e s m below meth c ls ht hnc Cx hr hw hl
  have hx := Cx.1.1
  have hb := Cx.1.2.1
  have hrc0 := hrc
  obtain ⟨q0, q1, q2, q3, q4, ns, ss, hs, ps, gs, ro, rw9, hRb⟩ := hrc0
  have hx0 : (x, Sum.inr (10, [.ref q0, .ref q1, .ref q2, .ref q3, .ref q4])) ∈ (X ++ [(o, zoc E ov)]) ++ Y := List.mem_append_right _ hRb.1
  have hl : lv_has ls 3 [(0, .ref x), (1, .ref o)] := hl
  refine lv_aload_n hx hb dL_addGroup_0 rfl (lv_at hl 1 rfl) ?_
  refine lv_iconst (v := 0) hx hb dL_addGroup_1 (by decide) ?_
  refine lv_aload_n hx hb dL_addGroup_2 rfl (lv_at hl 0 rfl) ?_
  refine zx_goi (wf := fun (u : va_W × zLs) => zQ E ((X ++ [(o, zoc E ov)]) ++ u.1) u.2) hw.2 (zx_runV Cx hw (c_X7_addGroup E l hl0 (X ++ [(o, zoc E ov)]) Y C x V hrc ) (cwV 0 Cx.1.2.2.2.2 (zgm gL_addGroup_X7_addGroup) rfl rfl rfl (by decide +kernel) ⟨Nat.le_of_ble_eq_true rfl, Nat.le_of_ble_eq_true rfl⟩) (z_recv Cx hw (r := (RX7, TX7, 5)) hx0 rfl) rfl hl.1 rfl (Nat.le_of_ble_eq_true rfl) dL_addGroup_3 ⟨Nat.le_of_ble_eq_true rfl, Nat.le_of_ble_eq_true rfl⟩) (?hkx) (fun r_3 u_3 H locs hp_3 hw => ?_)
  case hkx =>
    intro nm ce q9 H1 locs1 hp hw1 g1 g2 g3
    obtain ⟨rfl, hrel⟩ := zx_addGroup hp
    refine z_hand (hh := [(0, 8, 11, 15)]) Cx ht [] (0, 8, 11, 15) [] rfl (List.mem_of_getElem? (i := 2) rfl) (fun _ h => nomatch h) rfl (by decide) (List.mem_append_right _ (List.mem_of_getElem? (i := 1) rfl)) g1 g2 g3 ?_
    refine lv_astore_n hx hb dL_addGroup_11 rfl hl (by decide) rfl (fun ls hl => ?_)
    refine lv_iconst (v := nI 1) hx hb dL_addGroup_12 rfl ?_
    exact z_iret (wf := (zWL E X o ov)) Cx hr rfl (Nat.le_of_ble_eq_true rfl) (Nat.le_of_ble_eq_true rfl) ((Y, C), 1, 0, V) hw1 ⟨rfl, hrel, hrc⟩ dL_addGroup_13
  obtain ⟨V1, hrel, hrc1⟩ := zs_addGroup hp_3
  refine lv_i2l hx hb dL_addGroup_6 rfl ?_
  refine zl_last Cx hw dL_addGroup_7 (fun H locs hw => ?_)
  refine lv_goto (tgt := 14) hx hb dL_addGroup_8 (by decide) ?_
  refine lv_iconst (v := nI 0) hx hb dL_addGroup_14 rfl ?_
  exact z_iret (wf := (zWL E X o ov)) Cx hr rfl (Nat.le_of_ble_eq_true rfl) (Nat.le_of_ble_eq_true rfl) (u_3, 0, r_3, V1) hw ⟨rfl, hrel, hrc1⟩ dL_addGroup_15

set_option maxRecDepth 100000 in
set_option maxHeartbeats 4000000 in
/-- allow -/
theorem c_L_allow (E : zG) (l : Launch) (hl0 : l.stackTraces = false) (X Y : va_W) (C : zLs) (x o : Nat) (ov : Nat → Int64) (V : zCl) (hrc : zRC Y C x V) (g : Int32) (i : Bool) (b z f la : Int32) : Met l yL_allow (wsL_allow ++ wl3) (zR 9 20 200) (va_Pc [.ref x, .int g, .int (zb i), .int b, .int z, .int f, .int la, .ref o] (fun U => zu E (zQ E ((X ++ [(o, zoc E ov)]) ++ Y) C) U ∧ zNc U)) (zPL E X o x ov (zA_allow V g i b z f la)) 20 200 (eA E) := by
  refine zh_of (cc := cL_allow) (maxL := 9) (ret := (some .int)) (hh := [(0, 18, 21, 21), (0, 18, 25, 13), (0, 18, 29, 15)]) (by decide) rfl rfl (Nat.le_of_ble_eq_true rfl) ?_
  intro p e s m below meth c ls ht hnc Cx hr hw hl
  have hx := Cx.1.1
  have hb := Cx.1.2.1
  have hrc0 := hrc
  obtain ⟨q0, q1, q2, q3, q4, ns, ss, hs, ps, gs, ro, rw9, hRb⟩ := hrc0
  have hx0 : (x, Sum.inr (10, [.ref q0, .ref q1, .ref q2, .ref q3, .ref q4])) ∈ (X ++ [(o, zoc E ov)]) ++ Y := List.mem_append_right _ hRb.1
  have hl : lv_has ls 9 [(0, .ref x), (1, .int g), (2, .int (zb i)), (3, .int b), (4, .int z), (5, .int f), (6, .int la), (7, .ref o)] := hl
  refine lv_aload hx hb dL_allow_0 (lv_at hl 7 rfl) ?_
  refine lv_iconst (v := 0) hx hb dL_allow_2 (by decide) ?_
  refine lv_aload_n hx hb dL_allow_3 rfl (lv_at hl 0 rfl) ?_
  refine lv_iload_n hx hb dL_allow_4 rfl (lv_at hl 1 rfl) ?_
  refine lv_iload_n hx hb dL_allow_5 rfl (lv_at hl 2 rfl) ?_
  refine lv_iload_n hx hb dL_allow_6 rfl (lv_at hl 3 rfl) ?_
  refine lv_iload hx hb dL_allow_7 (lv_at hl 4 rfl) ?_
  refine lv_iload hx hb dL_allow_9 (lv_at hl 5 rfl) ?_
  refine lv_iload hx hb dL_allow_11 (lv_at hl 6 rfl) ?_
  refine zx_goi (wf := fun (u : va_W × zLs) => zQ E ((X ++ [(o, zoc E ov)]) ++ u.1) u.2) hw.2 (zx_runV Cx hw (c_X7_allow E l hl0 (X ++ [(o, zoc E ov)]) Y C x V hrc g i b z f la) (cwV 6 Cx.1.2.2.2.2 (zgm gL_allow_X7_allow) rfl rfl rfl (by decide +kernel) ⟨Nat.le_of_ble_eq_true rfl, Nat.le_of_ble_eq_true rfl⟩) (z_recv Cx hw (r := (RX7, TX7, 5)) hx0 rfl) rfl hl.1 rfl (Nat.le_of_ble_eq_true rfl) dL_allow_13 ⟨Nat.le_of_ble_eq_true rfl, Nat.le_of_ble_eq_true rfl⟩) (?hkx) (fun r_13 u_13 H locs hp_13 hw => ?_)
  case hkx =>
    intro nm ce q9 H1 locs1 hp hw1 g1 g2 g3
    rcases zx_allow hp with ⟨rfl, hrel⟩ | ⟨rfl, hrel⟩ | ⟨rfl, hrel⟩
    · refine z_hand (hh := [(0, 18, 21, 21), (0, 18, 25, 13), (0, 18, 29, 15)]) Cx ht [] (0, 18, 21, 21) [(0, 18, 25, 13), (0, 18, 29, 15)] rfl (List.mem_of_getElem? (i := 0) rfl) (fun _ h => nomatch h) rfl (by decide) (List.mem_append_right _ (List.mem_of_getElem? (i := 2) rfl)) g1 g2 g3 ?_
      refine lv_astore hx hb dL_allow_21 hl (by decide) rfl (fun ls hl => ?_)
      refine lv_iconst (v := nI 1) hx hb dL_allow_23 rfl ?_
      exact z_iret (wf := (zWL E X o ov)) Cx hr rfl (Nat.le_of_ble_eq_true rfl) (Nat.le_of_ble_eq_true rfl) ((Y, C), 1, 0, V) hw1 ⟨rfl, hrel, hrc⟩ dL_allow_24
    · refine z_hand (hh := [(0, 18, 21, 21), (0, 18, 25, 13), (0, 18, 29, 15)]) Cx ht [(0, 18, 21, 21)] (0, 18, 25, 13) [(0, 18, 29, 15)] rfl (List.mem_of_getElem? (i := 1) rfl) (List.forall_mem_cons.mpr ⟨⟨by decide, zIOO, (List.mem_append_right _ (List.mem_of_getElem? (i := 2) rfl)), hnc.1⟩, fun _ h => nomatch h⟩) rfl (by decide) (List.mem_append_right _ (List.mem_of_getElem? (i := 0) rfl)) g1 g2 g3 ?_
      refine lv_astore hx hb dL_allow_25 hl (by decide) rfl (fun ls hl => ?_)
      refine lv_iconst (v := nI 2) hx hb dL_allow_27 rfl ?_
      exact z_iret (wf := (zWL E X o ov)) Cx hr rfl (Nat.le_of_ble_eq_true rfl) (Nat.le_of_ble_eq_true rfl) ((Y, C), 2, 0, V) hw1 ⟨rfl, hrel, hrc⟩ dL_allow_28
    · refine z_hand (hh := [(0, 18, 21, 21), (0, 18, 25, 13), (0, 18, 29, 15)]) Cx ht [(0, 18, 21, 21), (0, 18, 25, 13)] (0, 18, 29, 15) [] rfl (List.mem_of_getElem? (i := 2) rfl) (List.forall_mem_cons.mpr ⟨⟨by decide, zIOO, (List.mem_append_right _ (List.mem_of_getElem? (i := 2) rfl)), hnc.2.1⟩, List.forall_mem_cons.mpr ⟨⟨by decide, zIAE, (List.mem_append_right _ (List.mem_of_getElem? (i := 0) rfl)), hnc.2.2⟩, fun _ h => nomatch h⟩⟩) rfl (by decide) (List.mem_append_right _ (List.mem_of_getElem? (i := 1) rfl)) g1 g2 g3 ?_
      refine lv_astore hx hb dL_allow_29 hl (by decide) rfl (fun ls hl => ?_)
      refine lv_iconst (v := nI 3) hx hb dL_allow_31 rfl ?_
      exact z_iret (wf := (zWL E X o ov)) Cx hr rfl (Nat.le_of_ble_eq_true rfl) (Nat.le_of_ble_eq_true rfl) ((Y, C), 3, 0, V) hw1 ⟨rfl, hrel, hrc⟩ dL_allow_32
  obtain ⟨V1, hrel, hrc1⟩ := zs_allow hp_13
  refine lv_i2l hx hb dL_allow_16 rfl ?_
  refine zl_last Cx hw dL_allow_17 (fun H locs hw => ?_)
  refine lv_goto (tgt := 33) hx hb dL_allow_18 (by decide) ?_
  refine lv_iconst (v := nI 0) hx hb dL_allow_33 rfl ?_
  exact z_iret (wf := (zWL E X o ov)) Cx hr rfl (Nat.le_of_ble_eq_true rfl) (Nat.le_of_ble_eq_true rfl) (u_13, 0, r_13, V1) hw ⟨rfl, hrel, hrc1⟩ dL_allow_34

set_option maxRecDepth 100000 in
set_option maxHeartbeats 4000000 in
/-- clearGroup -/
theorem c_L_clearGroup (E : zG) (l : Launch) (hl0 : l.stackTraces = false) (X Y : va_W) (C : zLs) (x o : Nat) (ov : Nat → Int64) (V : zCl) (hrc : zRC Y C x V) (g : Int32) : Met l yL_clearGroup (wsL_clearGroup ++ wl3) (zR 9 20 200) (va_Pc [.ref x, .int g, .ref o] (fun U => zu E (zQ E ((X ++ [(o, zoc E ov)]) ++ Y) C) U ∧ zNc U)) (zPL E X o x ov (zA_clearGroup V g)) 20 200 (eA E) := by
  refine zh_of (cc := cL_clearGroup) (maxL := 4) (ret := (some .int)) (hh := [(0, 9, 12, 21)]) (by decide) rfl rfl (Nat.le_of_ble_eq_true rfl) ?_
  intro p e s m below meth c ls ht hnc Cx hr hw hl
  have hx := Cx.1.1
  have hb := Cx.1.2.1
  have hrc0 := hrc
  obtain ⟨q0, q1, q2, q3, q4, ns, ss, hs, ps, gs, ro, rw9, hRb⟩ := hrc0
  have hx0 : (x, Sum.inr (10, [.ref q0, .ref q1, .ref q2, .ref q3, .ref q4])) ∈ (X ++ [(o, zoc E ov)]) ++ Y := List.mem_append_right _ hRb.1
  have hl : lv_has ls 4 [(0, .ref x), (1, .int g), (2, .ref o)] := hl
  refine lv_aload_n hx hb dL_clearGroup_0 rfl (lv_at hl 2 rfl) ?_
  refine lv_iconst (v := 0) hx hb dL_clearGroup_1 (by decide) ?_
  refine lv_aload_n hx hb dL_clearGroup_2 rfl (lv_at hl 0 rfl) ?_
  refine lv_iload_n hx hb dL_clearGroup_3 rfl (lv_at hl 1 rfl) ?_
  refine zx_goi (wf := fun (u : va_W × zLs) => zQ E ((X ++ [(o, zoc E ov)]) ++ u.1) u.2) hw.2 (zx_runV Cx hw (c_X7_clearGroup E l hl0 (X ++ [(o, zoc E ov)]) Y C x V hrc g) (cwV 1 Cx.1.2.2.2.2 (zgm gL_clearGroup_X7_clearGroup) rfl rfl rfl (by decide +kernel) ⟨Nat.le_of_ble_eq_true rfl, Nat.le_of_ble_eq_true rfl⟩) (z_recv Cx hw (r := (RX7, TX7, 5)) hx0 rfl) rfl hl.1 rfl (Nat.le_of_ble_eq_true rfl) dL_clearGroup_4 ⟨Nat.le_of_ble_eq_true rfl, Nat.le_of_ble_eq_true rfl⟩) (?hkx) (fun r_4 u_4 H locs hp_4 hw => ?_)
  case hkx =>
    intro nm ce q9 H1 locs1 hp hw1 g1 g2 g3
    obtain ⟨rfl, hrel⟩ := zx_clearGroup hp
    refine z_hand (hh := [(0, 9, 12, 21)]) Cx ht [] (0, 9, 12, 21) [] rfl (List.mem_of_getElem? (i := 0) rfl) (fun _ h => nomatch h) rfl (by decide) (List.mem_append_right _ (List.mem_of_getElem? (i := 2) rfl)) g1 g2 g3 ?_
    refine lv_astore_n hx hb dL_clearGroup_12 rfl hl (by decide) rfl (fun ls hl => ?_)
    refine lv_iconst (v := nI 1) hx hb dL_clearGroup_13 rfl ?_
    exact z_iret (wf := (zWL E X o ov)) Cx hr rfl (Nat.le_of_ble_eq_true rfl) (Nat.le_of_ble_eq_true rfl) ((Y, C), 1, 0, V) hw1 ⟨rfl, hrel, hrc⟩ dL_clearGroup_14
  obtain ⟨V1, hrel, hrc1⟩ := zs_clearGroup hp_4
  refine lv_i2l hx hb dL_clearGroup_7 rfl ?_
  refine zl_last Cx hw dL_clearGroup_8 (fun H locs hw => ?_)
  refine lv_goto (tgt := 15) hx hb dL_clearGroup_9 (by decide) ?_
  refine lv_iconst (v := nI 0) hx hb dL_clearGroup_15 rfl ?_
  exact z_iret (wf := (zWL E X o ov)) Cx hr rfl (Nat.le_of_ble_eq_true rfl) (Nat.le_of_ble_eq_true rfl) (u_4, 0, r_4, V1) hw ⟨rfl, hrel, hrc1⟩ dL_clearGroup_16

set_option maxRecDepth 100000 in
set_option maxHeartbeats 4000000 in
/-- setGroup -/
theorem c_L_setGroup (E : zG) (l : Launch) (hl0 : l.stackTraces = false) (X Y : va_W) (C : zLs) (x o : Nat) (ov : Nat → Int64) (V : zCl) (hrc : zRC Y C x V) (f g : Int32) (i : Bool) : Met l yL_setGroup (wsL_setGroup ++ wl3) (zR 9 20 200) (va_Pc [.ref x, .int f, .int g, .int (zb i), .ref o] (fun U => zu E (zQ E ((X ++ [(o, zoc E ov)]) ++ Y) C) U ∧ zNc U)) (zPL E X o x ov (zA_setGroup V f g i)) 20 200 (eA E) := by
  refine zh_of (cc := cL_setGroup) (maxL := 6) (ret := (some .int)) (hh := [(0, 19, 22, 21)]) (by decide) rfl rfl (Nat.le_of_ble_eq_true rfl) ?_
  intro p e s m below meth c ls ht hnc Cx hr hw hl
  have hx := Cx.1.1
  have hb := Cx.1.2.1
  have hrc0 := hrc
  obtain ⟨q0, q1, q2, q3, q4, ns, ss, hs, ps, gs, ro, rw9, hRb⟩ := hrc0
  have hx0 : (x, Sum.inr (10, [.ref q0, .ref q1, .ref q2, .ref q3, .ref q4])) ∈ (X ++ [(o, zoc E ov)]) ++ Y := List.mem_append_right _ hRb.1
  have hl : lv_has ls 6 [(0, .ref x), (1, .int f), (2, .int g), (3, .int (zb i)), (4, .ref o)] := hl
  refine lv_aload hx hb dL_setGroup_0 (lv_at hl 4 rfl) ?_
  refine lv_iconst (v := 0) hx hb dL_setGroup_2 (by decide) ?_
  refine lv_aload_n hx hb dL_setGroup_3 rfl (lv_at hl 0 rfl) ?_
  refine lv_iload_n hx hb dL_setGroup_4 rfl (lv_at hl 1 rfl) ?_
  refine lv_iload_n hx hb dL_setGroup_5 rfl (lv_at hl 2 rfl) ?_
  refine lv_iload_n hx hb dL_setGroup_6 rfl (lv_at hl 3 rfl) ?_
  refine zx_goi (wf := fun (u : va_W × zLs) => zQ E ((X ++ [(o, zoc E ov)]) ++ u.1) u.2) hw.2 (zx_runV Cx hw (c_X7_setGroup E l hl0 (X ++ [(o, zoc E ov)]) Y C x V hrc f g i) (cwV 3 Cx.1.2.2.2.2 (zgm gL_setGroup_X7_setGroup) rfl rfl rfl (by decide +kernel) ⟨Nat.le_of_ble_eq_true rfl, Nat.le_of_ble_eq_true rfl⟩) (z_recv Cx hw (r := (RX7, TX7, 5)) hx0 rfl) rfl hl.1 rfl (Nat.le_of_ble_eq_true rfl) dL_setGroup_7 ⟨Nat.le_of_ble_eq_true rfl, Nat.le_of_ble_eq_true rfl⟩) (?hkx) (fun r_7 u_7 H locs hp_7 hw => ?_)
  case hkx =>
    intro nm ce q9 H1 locs1 hp hw1 g1 g2 g3
    obtain ⟨rfl, hrel⟩ := zx_setGroup hp
    refine z_hand (hh := [(0, 19, 22, 21)]) Cx ht [] (0, 19, 22, 21) [] rfl (List.mem_of_getElem? (i := 0) rfl) (fun _ h => nomatch h) rfl (by decide) (List.mem_append_right _ (List.mem_of_getElem? (i := 2) rfl)) g1 g2 g3 ?_
    refine lv_astore hx hb dL_setGroup_22 hl (by decide) rfl (fun ls hl => ?_)
    refine lv_iconst (v := nI 1) hx hb dL_setGroup_24 rfl ?_
    exact z_iret (wf := (zWL E X o ov)) Cx hr rfl (Nat.le_of_ble_eq_true rfl) (Nat.le_of_ble_eq_true rfl) ((Y, C), 1, 0, V) hw1 ⟨rfl, hrel, hrc⟩ dL_setGroup_25
  obtain ⟨V1, hrel, hrc1⟩ := zs_setGroup hp_7
  have hrb : r_7 = 0 ∨ r_7 = 1 := by
    obtain ⟨_, _, _, _, _, h9⟩ := hp_7
    rw [h9]
    exact (by decide : ∀ q : Bool, zb q = 0 ∨ zb q = 1) _
  refine lv_if_eq (tgt := 17) hx hb dL_setGroup_10 (by decide) (fun c_10 => ?_) (fun c_10 => ?_)
  · skip
    refine lv_lconst (v := r_7.toInt64) hx hb dL_setGroup_17 (by rw [c_10]; rfl) ?_
    refine zl_last Cx hw dL_setGroup_18 (fun H locs hw => ?_)
    refine lv_goto (tgt := 26) hx hb dL_setGroup_19 (by decide) ?_
    refine lv_iconst (v := nI 0) hx hb dL_setGroup_26 rfl ?_
    exact z_iret (wf := (zWL E X o ov)) Cx hr rfl (Nat.le_of_ble_eq_true rfl) (Nat.le_of_ble_eq_true rfl) (u_7, 0, r_7, V1) hw ⟨rfl, hrel, hrc1⟩ dL_setGroup_27
  · skip
    refine lv_lconst (v := r_7.toInt64) hx hb dL_setGroup_13 (by rw [hrb.resolve_left c_10]; rfl) ?_
    refine lv_goto (tgt := 18) hx hb dL_setGroup_14 (by decide) ?_
    refine zl_last Cx hw dL_setGroup_18 (fun H locs hw => ?_)
    refine lv_goto (tgt := 26) hx hb dL_setGroup_19 (by decide) ?_
    refine lv_iconst (v := nI 0) hx hb dL_setGroup_26 rfl ?_
    exact z_iret (wf := (zWL E X o ov)) Cx hr rfl (Nat.le_of_ble_eq_true rfl) (Nat.le_of_ble_eq_true rfl) (u_7, 0, r_7, V1) hw ⟨rfl, hrel, hrc1⟩ dL_setGroup_27

set_option maxRecDepth 100000 in
set_option maxHeartbeats 4000000 in
/-- putRule -/
theorem c_L_putRule (E : zG) (l : Launch) (hl0 : l.stackTraces = false) (X Y : va_W) (C : zLs) (x o : Nat) (ov : Nat → Int64) (V : zCl) (hrc : zRC Y C x V) (f pl : Int32) (i al : Bool) (b z fp la : Int32) : Met l yL_putRule (wsL_putRule ++ wl3) (zR 9 20 200) (va_Pc [.ref x, .int f, .int pl, .int (zb i), .int (zb al), .int b, .int z, .int fp, .int la, .ref o] (fun U => zu E (zQ E ((X ++ [(o, zoc E ov)]) ++ Y) C) U ∧ zNc U)) (zPL E X o x ov (zA_putRule V f pl i al b z fp la)) 20 200 (eA E) := by
  refine zh_of (cc := cL_putRule) (maxL := 11) (ret := (some .int)) (hh := [(0, 22, 25, 21), (0, 22, 29, 13), (0, 22, 33, 15)]) (by decide) rfl rfl (Nat.le_of_ble_eq_true rfl) ?_
  intro p e s m below meth c ls ht hnc Cx hr hw hl
  have hx := Cx.1.1
  have hb := Cx.1.2.1
  have hrc0 := hrc
  obtain ⟨q0, q1, q2, q3, q4, ns, ss, hs, ps, gs, ro, rw9, hRb⟩ := hrc0
  have hx0 : (x, Sum.inr (10, [.ref q0, .ref q1, .ref q2, .ref q3, .ref q4])) ∈ (X ++ [(o, zoc E ov)]) ++ Y := List.mem_append_right _ hRb.1
  have hl : lv_has ls 11 [(0, .ref x), (1, .int f), (2, .int pl), (3, .int (zb i)), (4, .int (zb al)), (5, .int b), (6, .int z), (7, .int fp), (8, .int la), (9, .ref o)] := hl
  refine lv_aload hx hb dL_putRule_0 (lv_at hl 9 rfl) ?_
  refine lv_iconst (v := 0) hx hb dL_putRule_2 (by decide) ?_
  refine lv_aload_n hx hb dL_putRule_3 rfl (lv_at hl 0 rfl) ?_
  refine lv_iload_n hx hb dL_putRule_4 rfl (lv_at hl 1 rfl) ?_
  refine lv_iload_n hx hb dL_putRule_5 rfl (lv_at hl 2 rfl) ?_
  refine lv_iload_n hx hb dL_putRule_6 rfl (lv_at hl 3 rfl) ?_
  refine lv_iload hx hb dL_putRule_7 (lv_at hl 4 rfl) ?_
  refine lv_iload hx hb dL_putRule_9 (lv_at hl 5 rfl) ?_
  refine lv_iload hx hb dL_putRule_11 (lv_at hl 6 rfl) ?_
  refine lv_iload hx hb dL_putRule_13 (lv_at hl 7 rfl) ?_
  refine lv_iload hx hb dL_putRule_15 (lv_at hl 8 rfl) ?_
  refine zx_goi (wf := fun (u : va_W × zLs) => zQ E ((X ++ [(o, zoc E ov)]) ++ u.1) u.2) hw.2 (zx_runV Cx hw (c_X7_putRule E l hl0 (X ++ [(o, zoc E ov)]) Y C x V hrc f pl i al b z fp la) (cwV 8 Cx.1.2.2.2.2 (zgm gL_putRule_X7_putRule) rfl rfl rfl (by decide +kernel) ⟨Nat.le_of_ble_eq_true rfl, Nat.le_of_ble_eq_true rfl⟩) (z_recv Cx hw (r := (RX7, TX7, 5)) hx0 rfl) rfl hl.1 rfl (Nat.le_of_ble_eq_true rfl) dL_putRule_17 ⟨Nat.le_of_ble_eq_true rfl, Nat.le_of_ble_eq_true rfl⟩) (?hkx) (fun r_17 u_17 H locs hp_17 hw => ?_)
  case hkx =>
    intro nm ce q9 H1 locs1 hp hw1 g1 g2 g3
    rcases zx_putRule hp with ⟨rfl, hrel⟩ | ⟨rfl, hrel⟩ | ⟨rfl, hrel⟩
    · refine z_hand (hh := [(0, 22, 25, 21), (0, 22, 29, 13), (0, 22, 33, 15)]) Cx ht [] (0, 22, 25, 21) [(0, 22, 29, 13), (0, 22, 33, 15)] rfl (List.mem_of_getElem? (i := 0) rfl) (fun _ h => nomatch h) rfl (by decide) (List.mem_append_right _ (List.mem_of_getElem? (i := 2) rfl)) g1 g2 g3 ?_
      refine lv_astore hx hb dL_putRule_25 hl (by decide) rfl (fun ls hl => ?_)
      refine lv_iconst (v := nI 1) hx hb dL_putRule_27 rfl ?_
      exact z_iret (wf := (zWL E X o ov)) Cx hr rfl (Nat.le_of_ble_eq_true rfl) (Nat.le_of_ble_eq_true rfl) ((Y, C), 1, 0, V) hw1 ⟨rfl, hrel, hrc⟩ dL_putRule_28
    · refine z_hand (hh := [(0, 22, 25, 21), (0, 22, 29, 13), (0, 22, 33, 15)]) Cx ht [(0, 22, 25, 21)] (0, 22, 29, 13) [(0, 22, 33, 15)] rfl (List.mem_of_getElem? (i := 1) rfl) (List.forall_mem_cons.mpr ⟨⟨by decide, zIOO, (List.mem_append_right _ (List.mem_of_getElem? (i := 2) rfl)), hnc.1⟩, fun _ h => nomatch h⟩) rfl (by decide) (List.mem_append_right _ (List.mem_of_getElem? (i := 0) rfl)) g1 g2 g3 ?_
      refine lv_astore hx hb dL_putRule_29 hl (by decide) rfl (fun ls hl => ?_)
      refine lv_iconst (v := nI 2) hx hb dL_putRule_31 rfl ?_
      exact z_iret (wf := (zWL E X o ov)) Cx hr rfl (Nat.le_of_ble_eq_true rfl) (Nat.le_of_ble_eq_true rfl) ((Y, C), 2, 0, V) hw1 ⟨rfl, hrel, hrc⟩ dL_putRule_32
    · refine z_hand (hh := [(0, 22, 25, 21), (0, 22, 29, 13), (0, 22, 33, 15)]) Cx ht [(0, 22, 25, 21), (0, 22, 29, 13)] (0, 22, 33, 15) [] rfl (List.mem_of_getElem? (i := 2) rfl) (List.forall_mem_cons.mpr ⟨⟨by decide, zIOO, (List.mem_append_right _ (List.mem_of_getElem? (i := 2) rfl)), hnc.2.1⟩, List.forall_mem_cons.mpr ⟨⟨by decide, zIAE, (List.mem_append_right _ (List.mem_of_getElem? (i := 0) rfl)), hnc.2.2⟩, fun _ h => nomatch h⟩⟩) rfl (by decide) (List.mem_append_right _ (List.mem_of_getElem? (i := 1) rfl)) g1 g2 g3 ?_
      refine lv_astore hx hb dL_putRule_33 hl (by decide) rfl (fun ls hl => ?_)
      refine lv_iconst (v := nI 3) hx hb dL_putRule_35 rfl ?_
      exact z_iret (wf := (zWL E X o ov)) Cx hr rfl (Nat.le_of_ble_eq_true rfl) (Nat.le_of_ble_eq_true rfl) ((Y, C), 3, 0, V) hw1 ⟨rfl, hrel, hrc⟩ dL_putRule_36
  obtain ⟨V1, hrel, hrc1⟩ := zs_putRule hp_17
  refine lv_i2l hx hb dL_putRule_20 rfl ?_
  refine zl_last Cx hw dL_putRule_21 (fun H locs hw => ?_)
  refine lv_goto (tgt := 37) hx hb dL_putRule_22 (by decide) ?_
  refine lv_iconst (v := nI 0) hx hb dL_putRule_37 rfl ?_
  exact z_iret (wf := (zWL E X o ov)) Cx hr rfl (Nat.le_of_ble_eq_true rfl) (Nat.le_of_ble_eq_true rfl) (u_17, 0, r_17, V1) hw ⟨rfl, hrel, hrc1⟩ dL_putRule_38

set_option maxRecDepth 100000 in
set_option maxHeartbeats 4000000 in
/-- removeRule -/
theorem c_L_removeRule (E : zG) (l : Launch) (hl0 : l.stackTraces = false) (X Y : va_W) (C : zLs) (x o : Nat) (ov : Nat → Int64) (V : zCl) (hrc : zRC Y C x V) (f pl : Int32) : Met l yL_removeRule (wsL_removeRule ++ wl3) (zR 9 20 200) (va_Pc [.ref x, .int f, .int pl, .ref o] (fun U => zu E (zQ E ((X ++ [(o, zoc E ov)]) ++ Y) C) U ∧ zNc U)) (zPL E X o x ov (zA_removeRule V f pl)) 20 200 (eA E) := by
  refine zh_of (cc := cL_removeRule) (maxL := 5) (ret := (some .int)) (hh := [(0, 10, 13, 21)]) (by decide) rfl rfl (Nat.le_of_ble_eq_true rfl) ?_
  intro p e s m below meth c ls ht hnc Cx hr hw hl
  have hx := Cx.1.1
  have hb := Cx.1.2.1
  have hrc0 := hrc
  obtain ⟨q0, q1, q2, q3, q4, ns, ss, hs, ps, gs, ro, rw9, hRb⟩ := hrc0
  have hx0 : (x, Sum.inr (10, [.ref q0, .ref q1, .ref q2, .ref q3, .ref q4])) ∈ (X ++ [(o, zoc E ov)]) ++ Y := List.mem_append_right _ hRb.1
  have hl : lv_has ls 5 [(0, .ref x), (1, .int f), (2, .int pl), (3, .ref o)] := hl
  refine lv_aload_n hx hb dL_removeRule_0 rfl (lv_at hl 3 rfl) ?_
  refine lv_iconst (v := 0) hx hb dL_removeRule_1 (by decide) ?_
  refine lv_aload_n hx hb dL_removeRule_2 rfl (lv_at hl 0 rfl) ?_
  refine lv_iload_n hx hb dL_removeRule_3 rfl (lv_at hl 1 rfl) ?_
  refine lv_iload_n hx hb dL_removeRule_4 rfl (lv_at hl 2 rfl) ?_
  refine zx_goi (wf := fun (u : va_W × zLs) => zQ E ((X ++ [(o, zoc E ov)]) ++ u.1) u.2) hw.2 (zx_runV Cx hw (c_X7_removeRule E l hl0 (X ++ [(o, zoc E ov)]) Y C x V hrc f pl) (cwV 2 Cx.1.2.2.2.2 (zgm gL_removeRule_X7_removeRule) rfl rfl rfl (by decide +kernel) ⟨Nat.le_of_ble_eq_true rfl, Nat.le_of_ble_eq_true rfl⟩) (z_recv Cx hw (r := (RX7, TX7, 5)) hx0 rfl) rfl hl.1 rfl (Nat.le_of_ble_eq_true rfl) dL_removeRule_5 ⟨Nat.le_of_ble_eq_true rfl, Nat.le_of_ble_eq_true rfl⟩) (?hkx) (fun r_5 u_5 H locs hp_5 hw => ?_)
  case hkx =>
    intro nm ce q9 H1 locs1 hp hw1 g1 g2 g3
    obtain ⟨rfl, hrel⟩ := zx_removeRule hp
    refine z_hand (hh := [(0, 10, 13, 21)]) Cx ht [] (0, 10, 13, 21) [] rfl (List.mem_of_getElem? (i := 0) rfl) (fun _ h => nomatch h) rfl (by decide) (List.mem_append_right _ (List.mem_of_getElem? (i := 2) rfl)) g1 g2 g3 ?_
    refine lv_astore hx hb dL_removeRule_13 hl (by decide) rfl (fun ls hl => ?_)
    refine lv_iconst (v := nI 1) hx hb dL_removeRule_15 rfl ?_
    exact z_iret (wf := (zWL E X o ov)) Cx hr rfl (Nat.le_of_ble_eq_true rfl) (Nat.le_of_ble_eq_true rfl) ((Y, C), 1, 0, V) hw1 ⟨rfl, hrel, hrc⟩ dL_removeRule_16
  obtain ⟨V1, hrel, hrc1⟩ := zs_removeRule hp_5
  refine lv_i2l hx hb dL_removeRule_8 rfl ?_
  refine zl_last Cx hw dL_removeRule_9 (fun H locs hw => ?_)
  refine lv_goto (tgt := 17) hx hb dL_removeRule_10 (by decide) ?_
  refine lv_iconst (v := nI 0) hx hb dL_removeRule_17 rfl ?_
  exact z_iret (wf := (zWL E X o ov)) Cx hr rfl (Nat.le_of_ble_eq_true rfl) (Nat.le_of_ble_eq_true rfl) (u_5, 0, r_5, V1) hw ⟨rfl, hrel, hrc1⟩ dL_removeRule_18

set_option maxRecDepth 100000 in
set_option maxHeartbeats 4000000 in
/-- setRoute -/
theorem c_L_setRoute (E : zG) (l : Launch) (hl0 : l.stackTraces = false) (X Y : va_W) (C : zLs) (x o : Nat) (ov : Nat → Int64) (V : zCl) (hrc : zRC Y C x V) (f b z pe : Int32) : Met l yL_setRoute (wsL_setRoute ++ wl3) (zR 9 20 200) (va_Pc [.ref x, .int f, .int b, .int z, .int pe, .ref o] (fun U => zu E (zQ E ((X ++ [(o, zoc E ov)]) ++ Y) C) U ∧ zNc U)) (zPL E X o x ov (zA_setRoute V f b z pe)) 20 200 (eA E) := by
  refine zh_of (cc := cL_setRoute) (maxL := 7) (ret := (some .int)) (hh := [(0, 14, 17, 21), (0, 14, 21, 13), (0, 14, 25, 15)]) (by decide) rfl rfl (Nat.le_of_ble_eq_true rfl) ?_
  intro p e s m below meth c ls ht hnc Cx hr hw hl
  have hx := Cx.1.1
  have hb := Cx.1.2.1
  have hrc0 := hrc
  obtain ⟨q0, q1, q2, q3, q4, ns, ss, hs, ps, gs, ro, rw9, hRb⟩ := hrc0
  have hx0 : (x, Sum.inr (10, [.ref q0, .ref q1, .ref q2, .ref q3, .ref q4])) ∈ (X ++ [(o, zoc E ov)]) ++ Y := List.mem_append_right _ hRb.1
  have hl : lv_has ls 7 [(0, .ref x), (1, .int f), (2, .int b), (3, .int z), (4, .int pe), (5, .ref o)] := hl
  refine lv_aload hx hb dL_setRoute_0 (lv_at hl 5 rfl) ?_
  refine lv_iconst (v := 0) hx hb dL_setRoute_2 (by decide) ?_
  refine lv_aload_n hx hb dL_setRoute_3 rfl (lv_at hl 0 rfl) ?_
  refine lv_iload_n hx hb dL_setRoute_4 rfl (lv_at hl 1 rfl) ?_
  refine lv_iload_n hx hb dL_setRoute_5 rfl (lv_at hl 2 rfl) ?_
  refine lv_iload_n hx hb dL_setRoute_6 rfl (lv_at hl 3 rfl) ?_
  refine lv_iload hx hb dL_setRoute_7 (lv_at hl 4 rfl) ?_
  refine zx_goi (wf := fun (u : va_W × zLs) => zQ E ((X ++ [(o, zoc E ov)]) ++ u.1) u.2) hw.2 (zx_runV Cx hw (c_X7_setRoute E l hl0 (X ++ [(o, zoc E ov)]) Y C x V hrc f b z pe) (cwV 4 Cx.1.2.2.2.2 (zgm gL_setRoute_X7_setRoute) rfl rfl rfl (by decide +kernel) ⟨Nat.le_of_ble_eq_true rfl, Nat.le_of_ble_eq_true rfl⟩) (z_recv Cx hw (r := (RX7, TX7, 5)) hx0 rfl) rfl hl.1 rfl (Nat.le_of_ble_eq_true rfl) dL_setRoute_9 ⟨Nat.le_of_ble_eq_true rfl, Nat.le_of_ble_eq_true rfl⟩) (?hkx) (fun r_9 u_9 H locs hp_9 hw => ?_)
  case hkx =>
    intro nm ce q9 H1 locs1 hp hw1 g1 g2 g3
    rcases zx_setRoute hp with ⟨rfl, hrel⟩ | ⟨rfl, hrel⟩ | ⟨rfl, hrel⟩
    · refine z_hand (hh := [(0, 14, 17, 21), (0, 14, 21, 13), (0, 14, 25, 15)]) Cx ht [] (0, 14, 17, 21) [(0, 14, 21, 13), (0, 14, 25, 15)] rfl (List.mem_of_getElem? (i := 0) rfl) (fun _ h => nomatch h) rfl (by decide) (List.mem_append_right _ (List.mem_of_getElem? (i := 2) rfl)) g1 g2 g3 ?_
      refine lv_astore hx hb dL_setRoute_17 hl (by decide) rfl (fun ls hl => ?_)
      refine lv_iconst (v := nI 1) hx hb dL_setRoute_19 rfl ?_
      exact z_iret (wf := (zWL E X o ov)) Cx hr rfl (Nat.le_of_ble_eq_true rfl) (Nat.le_of_ble_eq_true rfl) ((Y, C), 1, 0, V) hw1 ⟨rfl, hrel, hrc⟩ dL_setRoute_20
    · refine z_hand (hh := [(0, 14, 17, 21), (0, 14, 21, 13), (0, 14, 25, 15)]) Cx ht [(0, 14, 17, 21)] (0, 14, 21, 13) [(0, 14, 25, 15)] rfl (List.mem_of_getElem? (i := 1) rfl) (List.forall_mem_cons.mpr ⟨⟨by decide, zIOO, (List.mem_append_right _ (List.mem_of_getElem? (i := 2) rfl)), hnc.1⟩, fun _ h => nomatch h⟩) rfl (by decide) (List.mem_append_right _ (List.mem_of_getElem? (i := 0) rfl)) g1 g2 g3 ?_
      refine lv_astore hx hb dL_setRoute_21 hl (by decide) rfl (fun ls hl => ?_)
      refine lv_iconst (v := nI 2) hx hb dL_setRoute_23 rfl ?_
      exact z_iret (wf := (zWL E X o ov)) Cx hr rfl (Nat.le_of_ble_eq_true rfl) (Nat.le_of_ble_eq_true rfl) ((Y, C), 2, 0, V) hw1 ⟨rfl, hrel, hrc⟩ dL_setRoute_24
    · refine z_hand (hh := [(0, 14, 17, 21), (0, 14, 21, 13), (0, 14, 25, 15)]) Cx ht [(0, 14, 17, 21), (0, 14, 21, 13)] (0, 14, 25, 15) [] rfl (List.mem_of_getElem? (i := 2) rfl) (List.forall_mem_cons.mpr ⟨⟨by decide, zIOO, (List.mem_append_right _ (List.mem_of_getElem? (i := 2) rfl)), hnc.2.1⟩, List.forall_mem_cons.mpr ⟨⟨by decide, zIAE, (List.mem_append_right _ (List.mem_of_getElem? (i := 0) rfl)), hnc.2.2⟩, fun _ h => nomatch h⟩⟩) rfl (by decide) (List.mem_append_right _ (List.mem_of_getElem? (i := 1) rfl)) g1 g2 g3 ?_
      refine lv_astore hx hb dL_setRoute_25 hl (by decide) rfl (fun ls hl => ?_)
      refine lv_iconst (v := nI 3) hx hb dL_setRoute_27 rfl ?_
      exact z_iret (wf := (zWL E X o ov)) Cx hr rfl (Nat.le_of_ble_eq_true rfl) (Nat.le_of_ble_eq_true rfl) ((Y, C), 3, 0, V) hw1 ⟨rfl, hrel, hrc⟩ dL_setRoute_28
  obtain ⟨V1, hrel, hrc1⟩ := zs_setRoute hp_9
  refine lv_i2l hx hb dL_setRoute_12 rfl ?_
  refine zl_last Cx hw dL_setRoute_13 (fun H locs hw => ?_)
  refine lv_goto (tgt := 29) hx hb dL_setRoute_14 (by decide) ?_
  refine lv_iconst (v := nI 0) hx hb dL_setRoute_29 rfl ?_
  exact z_iret (wf := (zWL E X o ov)) Cx hr rfl (Nat.le_of_ble_eq_true rfl) (Nat.le_of_ble_eq_true rfl) (u_9, 0, r_9, V1) hw ⟨rfl, hrel, hrc1⟩ dL_setRoute_30

set_option maxRecDepth 100000 in
set_option maxHeartbeats 4000000 in
/-- routeFor -/
theorem c_L_routeFor (E : zG) (l : Launch) (hl0 : l.stackTraces = false) (X Y : va_W) (C : zLs) (x o : Nat) (ov : Nat → Int64) (V : zCl) (hrc : zRC Y C x V) (f a : Int32) : Met l yL_routeFor (wsL_routeFor ++ wl3) (zR 9 20 200) (va_Pc [.ref x, .int f, .int a, .ref o] (fun U => zu E (zQ E ((X ++ [(o, zoc E ov)]) ++ Y) C) U ∧ zNc U)) (zPL E X o x ov (fun c r V' => V' = V ∧ zA_routeFor V f a c r)) 20 200 (eA E) := by
  refine zh_of (cc := cL_routeFor) (maxL := 5) (ret := (some .int)) (hh := [(0, 10, 13, 21), (0, 10, 17, 13)]) (by decide) rfl rfl (Nat.le_of_ble_eq_true rfl) ?_
  intro p e s m below meth c ls ht hnc Cx hr hw hl
  have hx := Cx.1.1
  have hb := Cx.1.2.1
  have hrc0 := hrc
  obtain ⟨q0, q1, q2, q3, q4, ns, ss, hs, ps, gs, ro, rw9, hRb⟩ := hrc0
  have hx0 : (x, Sum.inr (10, [.ref q0, .ref q1, .ref q2, .ref q3, .ref q4])) ∈ (X ++ [(o, zoc E ov)]) ++ Y := List.mem_append_right _ hRb.1
  have hl : lv_has ls 5 [(0, .ref x), (1, .int f), (2, .int a), (3, .ref o)] := hl
  refine lv_aload_n hx hb dL_routeFor_0 rfl (lv_at hl 3 rfl) ?_
  refine lv_iconst (v := 0) hx hb dL_routeFor_1 (by decide) ?_
  refine lv_aload_n hx hb dL_routeFor_2 rfl (lv_at hl 0 rfl) ?_
  refine lv_iload_n hx hb dL_routeFor_3 rfl (lv_at hl 1 rfl) ?_
  refine lv_iload_n hx hb dL_routeFor_4 rfl (lv_at hl 2 rfl) ?_
  refine zx_goi (wf := fun (u : Nat) => zQ E ((X ++ [(o, zoc E ov)]) ++ Y) C) hw.2 (zx_runV Cx hw (c_X7_routeFor E l hl0 ((X ++ [(o, zoc E ov)]) ++ Y) C x V (hrc.grow (fun q hq => List.mem_append_right _ hq)) f a) (cwV 2 Cx.1.2.2.2.2 (zgm gL_routeFor_X7_routeFor) rfl rfl rfl (by decide +kernel) ⟨Nat.le_of_ble_eq_true rfl, Nat.le_of_ble_eq_true rfl⟩) (z_recv Cx hw (r := (RX7, TX7, 5)) hx0 rfl) rfl hl.1 rfl (Nat.le_of_ble_eq_true rfl) dL_routeFor_5 ⟨Nat.le_of_ble_eq_true rfl, Nat.le_of_ble_eq_true rfl⟩) (?hkx) (fun r_5 u_5 H locs hp_5 hw => ?_)
  case hkx =>
    intro nm ce q9 H1 locs1 hp hw1 g1 g2 g3
    rcases zx_routeFor hp with ⟨rfl, hrel⟩ | ⟨rfl, hrel⟩
    · refine z_hand (hh := [(0, 10, 13, 21), (0, 10, 17, 13)]) Cx ht [] (0, 10, 13, 21) [(0, 10, 17, 13)] rfl (List.mem_of_getElem? (i := 0) rfl) (fun _ h => nomatch h) rfl (by decide) (List.mem_append_right _ (List.mem_of_getElem? (i := 2) rfl)) g1 g2 g3 ?_
      refine lv_astore hx hb dL_routeFor_13 hl (by decide) rfl (fun ls hl => ?_)
      refine lv_iconst (v := nI 1) hx hb dL_routeFor_15 rfl ?_
      exact z_iret (wf := (zWL E X o ov)) Cx hr rfl (Nat.le_of_ble_eq_true rfl) (Nat.le_of_ble_eq_true rfl) ((Y, C), 1, 0, V) hw1 ⟨rfl, ⟨rfl, hrel⟩, hrc⟩ dL_routeFor_16
    · refine z_hand (hh := [(0, 10, 13, 21), (0, 10, 17, 13)]) Cx ht [(0, 10, 13, 21)] (0, 10, 17, 13) [] rfl (List.mem_of_getElem? (i := 1) rfl) (List.forall_mem_cons.mpr ⟨⟨by decide, zIOO, (List.mem_append_right _ (List.mem_of_getElem? (i := 2) rfl)), hnc.1⟩, fun _ h => nomatch h⟩) rfl (by decide) (List.mem_append_right _ (List.mem_of_getElem? (i := 0) rfl)) g1 g2 g3 ?_
      refine lv_astore hx hb dL_routeFor_17 hl (by decide) rfl (fun ls hl => ?_)
      refine lv_iconst (v := nI 2) hx hb dL_routeFor_19 rfl ?_
      exact z_iret (wf := (zWL E X o ov)) Cx hr rfl (Nat.le_of_ble_eq_true rfl) (Nat.le_of_ble_eq_true rfl) ((Y, C), 2, 0, V) hw1 ⟨rfl, ⟨rfl, hrel⟩, hrc⟩ dL_routeFor_20
  have hrel := zs_routeFor (u := u_5) hp_5
  refine lv_i2l hx hb dL_routeFor_8 rfl ?_
  refine zl_last Cx hw dL_routeFor_9 (fun H locs hw => ?_)
  refine lv_goto (tgt := 21) hx hb dL_routeFor_10 (by decide) ?_
  refine lv_iconst (v := nI 0) hx hb dL_routeFor_21 rfl ?_
  exact z_iret (wf := (zWL E X o ov)) Cx hr rfl (Nat.le_of_ble_eq_true rfl) (Nat.le_of_ble_eq_true rfl) ((Y, C), 0, r_5, V) hw ⟨rfl, ⟨rfl, hrel⟩, hrc⟩ dL_routeFor_22

set_option maxRecDepth 100000 in
set_option maxHeartbeats 4000000 in
/-- ports -/
theorem c_L_ports (E : zG) (l : Launch) (hl0 : l.stackTraces = false) (X Y : va_W) (C : zLs) (x o : Nat) (ov : Nat → Int64) (V : zCl) (hrc : zRC Y C x V) (f t : Int32) : Met l yL_ports (wsL_ports ++ wl3) (zR 9 20 200) (va_Pc [.ref x, .int f, .int t, .ref o] (fun U => zu E (zQ E ((X ++ [(o, zoc E ov)]) ++ Y) C) U ∧ zNc U)) (zPL E X o x ov (fun c r V' => V' = V ∧ zA_ports V f t c r)) 20 200 (eA E) := by
  refine zh_of (cc := cL_ports) (maxL := 5) (ret := (some .int)) (hh := [(0, 10, 13, 21), (0, 10, 17, 13)]) (by decide) rfl rfl (Nat.le_of_ble_eq_true rfl) ?_
  intro p e s m below meth c ls ht hnc Cx hr hw hl
  have hx := Cx.1.1
  have hb := Cx.1.2.1
  have hrc0 := hrc
  obtain ⟨q0, q1, q2, q3, q4, ns, ss, hs, ps, gs, ro, rw9, hRb⟩ := hrc0
  have hx0 : (x, Sum.inr (10, [.ref q0, .ref q1, .ref q2, .ref q3, .ref q4])) ∈ (X ++ [(o, zoc E ov)]) ++ Y := List.mem_append_right _ hRb.1
  have hl : lv_has ls 5 [(0, .ref x), (1, .int f), (2, .int t), (3, .ref o)] := hl
  refine lv_aload_n hx hb dL_ports_0 rfl (lv_at hl 3 rfl) ?_
  refine lv_iconst (v := 0) hx hb dL_ports_1 (by decide) ?_
  refine lv_aload_n hx hb dL_ports_2 rfl (lv_at hl 0 rfl) ?_
  refine lv_iload_n hx hb dL_ports_3 rfl (lv_at hl 1 rfl) ?_
  refine lv_iload_n hx hb dL_ports_4 rfl (lv_at hl 2 rfl) ?_
  refine zx_goi (wf := fun (u : Nat × Nat) => zQ E ((X ++ [(o, zoc E ov)]) ++ Y) C) hw.2 (zx_runV Cx hw (c_X7_ports E l hl0 ((X ++ [(o, zoc E ov)]) ++ Y) C x V (hrc.grow (fun q hq => List.mem_append_right _ hq)) f t) (cwV 2 Cx.1.2.2.2.2 (zgm gL_ports_X7_ports) rfl rfl rfl (by decide +kernel) ⟨Nat.le_of_ble_eq_true rfl, Nat.le_of_ble_eq_true rfl⟩) (z_recv Cx hw (r := (RX7, TX7, 5)) hx0 rfl) rfl hl.1 rfl (Nat.le_of_ble_eq_true rfl) dL_ports_5 ⟨Nat.le_of_ble_eq_true rfl, Nat.le_of_ble_eq_true rfl⟩) (?hkx) (fun r_5 u_5 H locs hp_5 hw => ?_)
  case hkx =>
    intro nm ce q9 H1 locs1 hp hw1 g1 g2 g3
    rcases zx_ports hp with ⟨rfl, hrel⟩ | ⟨rfl, hrel⟩
    · refine z_hand (hh := [(0, 10, 13, 21), (0, 10, 17, 13)]) Cx ht [] (0, 10, 13, 21) [(0, 10, 17, 13)] rfl (List.mem_of_getElem? (i := 0) rfl) (fun _ h => nomatch h) rfl (by decide) (List.mem_append_right _ (List.mem_of_getElem? (i := 2) rfl)) g1 g2 g3 ?_
      refine lv_astore hx hb dL_ports_13 hl (by decide) rfl (fun ls hl => ?_)
      refine lv_iconst (v := nI 1) hx hb dL_ports_15 rfl ?_
      exact z_iret (wf := (zWL E X o ov)) Cx hr rfl (Nat.le_of_ble_eq_true rfl) (Nat.le_of_ble_eq_true rfl) ((Y, C), 1, 0, V) hw1 ⟨rfl, ⟨rfl, hrel⟩, hrc⟩ dL_ports_16
    · refine z_hand (hh := [(0, 10, 13, 21), (0, 10, 17, 13)]) Cx ht [(0, 10, 13, 21)] (0, 10, 17, 13) [] rfl (List.mem_of_getElem? (i := 1) rfl) (List.forall_mem_cons.mpr ⟨⟨by decide, zIOO, (List.mem_append_right _ (List.mem_of_getElem? (i := 2) rfl)), hnc.1⟩, fun _ h => nomatch h⟩) rfl (by decide) (List.mem_append_right _ (List.mem_of_getElem? (i := 0) rfl)) g1 g2 g3 ?_
      refine lv_astore hx hb dL_ports_17 hl (by decide) rfl (fun ls hl => ?_)
      refine lv_iconst (v := nI 2) hx hb dL_ports_19 rfl ?_
      exact z_iret (wf := (zWL E X o ov)) Cx hr rfl (Nat.le_of_ble_eq_true rfl) (Nat.le_of_ble_eq_true rfl) ((Y, C), 2, 0, V) hw1 ⟨rfl, ⟨rfl, hrel⟩, hrc⟩ dL_ports_20
  have hrel := zs_ports (u := u_5) hp_5
  refine lv_i2l hx hb dL_ports_8 rfl ?_
  refine zl_last Cx hw dL_ports_9 (fun H locs hw => ?_)
  refine lv_goto (tgt := 21) hx hb dL_ports_10 (by decide) ?_
  refine lv_iconst (v := nI 0) hx hb dL_ports_21 rfl ?_
  exact z_iret (wf := (zWL E X o ov)) Cx hr rfl (Nat.le_of_ble_eq_true rfl) (Nat.le_of_ble_eq_true rfl) ((Y, C), 0, r_5, V) hw ⟨rfl, ⟨rfl, hrel⟩, hrc⟩ dL_ports_22

set_option maxRecDepth 100000 in
set_option maxHeartbeats 4000000 in
/-- blockedBy -/
theorem c_L_blockedBy (E : zG) (l : Launch) (hl0 : l.stackTraces = false) (X Y : va_W) (C : zLs) (x o : Nat) (ov : Nat → Int64) (V : zCl) (hrc : zRC Y C x V) (f t p0 : Int32) : Met l yL_blockedBy (wsL_blockedBy ++ wl3) (zR 9 20 200) (va_Pc [.ref x, .int f, .int t, .int p0, .ref o] (fun U => zu E (zQ E ((X ++ [(o, zoc E ov)]) ++ Y) C) U ∧ zNc U)) (zPL E X o x ov (fun c r V' => V' = V ∧ zA_blockedBy V f t p0 c r)) 20 200 (eA E) := by
  refine zh_of (cc := cL_blockedBy) (maxL := 6) (ret := (some .int)) (hh := [(0, 12, 15, 21), (0, 12, 19, 13)]) (by decide) rfl rfl (Nat.le_of_ble_eq_true rfl) ?_
  intro p e s m below meth c ls ht hnc Cx hr hw hl
  have hx := Cx.1.1
  have hb := Cx.1.2.1
  have hrc0 := hrc
  obtain ⟨q0, q1, q2, q3, q4, ns, ss, hs, ps, gs, ro, rw9, hRb⟩ := hrc0
  have hx0 : (x, Sum.inr (10, [.ref q0, .ref q1, .ref q2, .ref q3, .ref q4])) ∈ (X ++ [(o, zoc E ov)]) ++ Y := List.mem_append_right _ hRb.1
  have hl : lv_has ls 6 [(0, .ref x), (1, .int f), (2, .int t), (3, .int p0), (4, .ref o)] := hl
  refine lv_aload hx hb dL_blockedBy_0 (lv_at hl 4 rfl) ?_
  refine lv_iconst (v := 0) hx hb dL_blockedBy_2 (by decide) ?_
  refine lv_aload_n hx hb dL_blockedBy_3 rfl (lv_at hl 0 rfl) ?_
  refine lv_iload_n hx hb dL_blockedBy_4 rfl (lv_at hl 1 rfl) ?_
  refine lv_iload_n hx hb dL_blockedBy_5 rfl (lv_at hl 2 rfl) ?_
  refine lv_iload_n hx hb dL_blockedBy_6 rfl (lv_at hl 3 rfl) ?_
  refine zx_goi (wf := fun (u : Nat × Nat) => zQ E ((X ++ [(o, zoc E ov)]) ++ Y) C) hw.2 (zx_runV Cx hw (c_X7_blockedBy E l hl0 ((X ++ [(o, zoc E ov)]) ++ Y) C x V (hrc.grow (fun q hq => List.mem_append_right _ hq)) f t p0) (cwV 3 Cx.1.2.2.2.2 (zgm gL_blockedBy_X7_blockedBy) rfl rfl rfl (by decide +kernel) ⟨Nat.le_of_ble_eq_true rfl, Nat.le_of_ble_eq_true rfl⟩) (z_recv Cx hw (r := (RX7, TX7, 5)) hx0 rfl) rfl hl.1 rfl (Nat.le_of_ble_eq_true rfl) dL_blockedBy_7 ⟨Nat.le_of_ble_eq_true rfl, Nat.le_of_ble_eq_true rfl⟩) (?hkx) (fun r_7 u_7 H locs hp_7 hw => ?_)
  case hkx =>
    intro nm ce q9 H1 locs1 hp hw1 g1 g2 g3
    rcases zx_blockedBy hp with ⟨rfl, hrel⟩ | ⟨rfl, hrel⟩
    · refine z_hand (hh := [(0, 12, 15, 21), (0, 12, 19, 13)]) Cx ht [] (0, 12, 15, 21) [(0, 12, 19, 13)] rfl (List.mem_of_getElem? (i := 0) rfl) (fun _ h => nomatch h) rfl (by decide) (List.mem_append_right _ (List.mem_of_getElem? (i := 2) rfl)) g1 g2 g3 ?_
      refine lv_astore hx hb dL_blockedBy_15 hl (by decide) rfl (fun ls hl => ?_)
      refine lv_iconst (v := nI 1) hx hb dL_blockedBy_17 rfl ?_
      exact z_iret (wf := (zWL E X o ov)) Cx hr rfl (Nat.le_of_ble_eq_true rfl) (Nat.le_of_ble_eq_true rfl) ((Y, C), 1, 0, V) hw1 ⟨rfl, ⟨rfl, hrel⟩, hrc⟩ dL_blockedBy_18
    · refine z_hand (hh := [(0, 12, 15, 21), (0, 12, 19, 13)]) Cx ht [(0, 12, 15, 21)] (0, 12, 19, 13) [] rfl (List.mem_of_getElem? (i := 1) rfl) (List.forall_mem_cons.mpr ⟨⟨by decide, zIOO, (List.mem_append_right _ (List.mem_of_getElem? (i := 2) rfl)), hnc.1⟩, fun _ h => nomatch h⟩) rfl (by decide) (List.mem_append_right _ (List.mem_of_getElem? (i := 0) rfl)) g1 g2 g3 ?_
      refine lv_astore hx hb dL_blockedBy_19 hl (by decide) rfl (fun ls hl => ?_)
      refine lv_iconst (v := nI 2) hx hb dL_blockedBy_21 rfl ?_
      exact z_iret (wf := (zWL E X o ov)) Cx hr rfl (Nat.le_of_ble_eq_true rfl) (Nat.le_of_ble_eq_true rfl) ((Y, C), 2, 0, V) hw1 ⟨rfl, ⟨rfl, hrel⟩, hrc⟩ dL_blockedBy_22
  have hrel := zs_blockedBy (u := u_7) hp_7
  refine lv_i2l hx hb dL_blockedBy_10 rfl ?_
  refine zl_last Cx hw dL_blockedBy_11 (fun H locs hw => ?_)
  refine lv_goto (tgt := 23) hx hb dL_blockedBy_12 (by decide) ?_
  refine lv_iconst (v := nI 0) hx hb dL_blockedBy_23 rfl ?_
  exact z_iret (wf := (zWL E X o ov)) Cx hr rfl (Nat.le_of_ble_eq_true rfl) (Nat.le_of_ble_eq_true rfl) ((Y, C), 0, r_7, V) hw ⟨rfl, ⟨rfl, hrel⟩, hrc⟩ dL_blockedBy_24

set_option maxRecDepth 100000 in
set_option maxHeartbeats 4000000 in
/-- blocks -/
theorem c_L_blocks (E : zG) (l : Launch) (hl0 : l.stackTraces = false) (X Y : va_W) (C : zLs) (x o : Nat) (ov : Nat → Int64) (V : zCl) (hrc : zRC Y C x V) (f t p0 : Int32) : Met l yL_blocks (wsL_blocks ++ wl3) (zR 9 20 200) (va_Pc [.ref x, .int f, .int t, .int p0, .ref o] (fun U => zu E (zQ E ((X ++ [(o, zoc E ov)]) ++ Y) C) U ∧ zNc U)) (zPL E X o x ov (fun c r V' => V' = V ∧ zA_blocks V f t p0 c r)) 20 200 (eA E) := by
  refine zh_of (cc := cL_blocks) (maxL := 6) (ret := (some .int)) (hh := [(0, 12, 15, 21), (0, 12, 19, 13)]) (by decide) rfl rfl (Nat.le_of_ble_eq_true rfl) ?_
  intro p e s m below meth c ls ht hnc Cx hr hw hl
  have hx := Cx.1.1
  have hb := Cx.1.2.1
  have hrc0 := hrc
  obtain ⟨q0, q1, q2, q3, q4, ns, ss, hs, ps, gs, ro, rw9, hRb⟩ := hrc0
  have hx0 : (x, Sum.inr (10, [.ref q0, .ref q1, .ref q2, .ref q3, .ref q4])) ∈ (X ++ [(o, zoc E ov)]) ++ Y := List.mem_append_right _ hRb.1
  have hl : lv_has ls 6 [(0, .ref x), (1, .int f), (2, .int t), (3, .int p0), (4, .ref o)] := hl
  refine lv_aload hx hb dL_blocks_0 (lv_at hl 4 rfl) ?_
  refine lv_iconst (v := 0) hx hb dL_blocks_2 (by decide) ?_
  refine lv_aload_n hx hb dL_blocks_3 rfl (lv_at hl 0 rfl) ?_
  refine lv_iload_n hx hb dL_blocks_4 rfl (lv_at hl 1 rfl) ?_
  refine lv_iload_n hx hb dL_blocks_5 rfl (lv_at hl 2 rfl) ?_
  refine lv_iload_n hx hb dL_blocks_6 rfl (lv_at hl 3 rfl) ?_
  refine zx_goi (wf := fun (u : Nat × Nat) => zQ E ((X ++ [(o, zoc E ov)]) ++ Y) C) hw.2 (zx_runV Cx hw (c_X7_blocks E l hl0 ((X ++ [(o, zoc E ov)]) ++ Y) C x V (hrc.grow (fun q hq => List.mem_append_right _ hq)) f t p0) (cwV 3 Cx.1.2.2.2.2 (zgm gL_blocks_X7_blocks) rfl rfl rfl (by decide +kernel) ⟨Nat.le_of_ble_eq_true rfl, Nat.le_of_ble_eq_true rfl⟩) (z_recv Cx hw (r := (RX7, TX7, 5)) hx0 rfl) rfl hl.1 rfl (Nat.le_of_ble_eq_true rfl) dL_blocks_7 ⟨Nat.le_of_ble_eq_true rfl, Nat.le_of_ble_eq_true rfl⟩) (?hkx) (fun r_7 u_7 H locs hp_7 hw => ?_)
  case hkx =>
    intro nm ce q9 H1 locs1 hp hw1 g1 g2 g3
    rcases zx_blocks hp with ⟨rfl, hrel⟩ | ⟨rfl, hrel⟩
    · refine z_hand (hh := [(0, 12, 15, 21), (0, 12, 19, 13)]) Cx ht [] (0, 12, 15, 21) [(0, 12, 19, 13)] rfl (List.mem_of_getElem? (i := 0) rfl) (fun _ h => nomatch h) rfl (by decide) (List.mem_append_right _ (List.mem_of_getElem? (i := 2) rfl)) g1 g2 g3 ?_
      refine lv_astore hx hb dL_blocks_15 hl (by decide) rfl (fun ls hl => ?_)
      refine lv_iconst (v := nI 1) hx hb dL_blocks_17 rfl ?_
      exact z_iret (wf := (zWL E X o ov)) Cx hr rfl (Nat.le_of_ble_eq_true rfl) (Nat.le_of_ble_eq_true rfl) ((Y, C), 1, 0, V) hw1 ⟨rfl, ⟨rfl, hrel⟩, hrc⟩ dL_blocks_18
    · refine z_hand (hh := [(0, 12, 15, 21), (0, 12, 19, 13)]) Cx ht [(0, 12, 15, 21)] (0, 12, 19, 13) [] rfl (List.mem_of_getElem? (i := 1) rfl) (List.forall_mem_cons.mpr ⟨⟨by decide, zIOO, (List.mem_append_right _ (List.mem_of_getElem? (i := 2) rfl)), hnc.1⟩, fun _ h => nomatch h⟩) rfl (by decide) (List.mem_append_right _ (List.mem_of_getElem? (i := 0) rfl)) g1 g2 g3 ?_
      refine lv_astore hx hb dL_blocks_19 hl (by decide) rfl (fun ls hl => ?_)
      refine lv_iconst (v := nI 2) hx hb dL_blocks_21 rfl ?_
      exact z_iret (wf := (zWL E X o ov)) Cx hr rfl (Nat.le_of_ble_eq_true rfl) (Nat.le_of_ble_eq_true rfl) ((Y, C), 2, 0, V) hw1 ⟨rfl, ⟨rfl, hrel⟩, hrc⟩ dL_blocks_22
  have hrel := zs_blocks (u := u_7) hp_7
  refine lv_i2l hx hb dL_blocks_10 rfl ?_
  refine zl_last Cx hw dL_blocks_11 (fun H locs hw => ?_)
  refine lv_goto (tgt := 23) hx hb dL_blocks_12 (by decide) ?_
  refine lv_iconst (v := nI 0) hx hb dL_blocks_23 rfl ?_
  exact z_iret (wf := (zWL E X o ov)) Cx hr rfl (Nat.le_of_ble_eq_true rfl) (Nat.le_of_ble_eq_true rfl) ((Y, C), 0, r_7, V) hw ⟨rfl, ⟨rfl, hrel⟩, hrc⟩ dL_blocks_24

set_option maxRecDepth 100000 in
set_option maxHeartbeats 4000000 in
/-- pairs -/
theorem c_L_pairs (E : zG) (l : Launch) (hl0 : l.stackTraces = false) (X Y : va_W) (C : zLs) (x o : Nat) (ov : Nat → Int64) (V : zCl) (hrc : zRC Y C x V) (f : Int32) : Met l yL_pairs (wsL_pairs ++ wl3) (zR 9 20 200) (va_Pc [.ref x, .int f, .ref o] (fun U => zu E (zQ E ((X ++ [(o, zoc E ov)]) ++ Y) C) U ∧ zNc U)) (zPL E X o x ov (fun c r V' => V' = V ∧ zA_pairs V f c r)) 20 200 (eA E) := by
  refine zh_of (cc := cL_pairs) (maxL := 4) (ret := (some .int)) (hh := [(0, 9, 12, 13)]) (by decide) rfl rfl (Nat.le_of_ble_eq_true rfl) ?_
  intro p e s m below meth c ls ht hnc Cx hr hw hl
  have hx := Cx.1.1
  have hb := Cx.1.2.1
  have hrc0 := hrc
  obtain ⟨q0, q1, q2, q3, q4, ns, ss, hs, ps, gs, ro, rw9, hRb⟩ := hrc0
  have hx0 : (x, Sum.inr (10, [.ref q0, .ref q1, .ref q2, .ref q3, .ref q4])) ∈ (X ++ [(o, zoc E ov)]) ++ Y := List.mem_append_right _ hRb.1
  have hl : lv_has ls 4 [(0, .ref x), (1, .int f), (2, .ref o)] := hl
  refine lv_aload_n hx hb dL_pairs_0 rfl (lv_at hl 2 rfl) ?_
  refine lv_iconst (v := 0) hx hb dL_pairs_1 (by decide) ?_
  refine lv_aload_n hx hb dL_pairs_2 rfl (lv_at hl 0 rfl) ?_
  refine lv_iload_n hx hb dL_pairs_3 rfl (lv_at hl 1 rfl) ?_
  refine zx_goi (wf := fun (u : Unit) => zQ E ((X ++ [(o, zoc E ov)]) ++ Y) C) hw.2 (zx_runV Cx hw (c_X7_pairs E l hl0 ((X ++ [(o, zoc E ov)]) ++ Y) C x V (hrc.grow (fun q hq => List.mem_append_right _ hq)) f) (cwV 1 Cx.1.2.2.2.2 (zgm gL_pairs_X7_pairs) rfl rfl rfl (by decide +kernel) ⟨Nat.le_of_ble_eq_true rfl, Nat.le_of_ble_eq_true rfl⟩) (z_recv Cx hw (r := (RX7, TX7, 5)) hx0 rfl) rfl hl.1 rfl (Nat.le_of_ble_eq_true rfl) dL_pairs_4 ⟨Nat.le_of_ble_eq_true rfl, Nat.le_of_ble_eq_true rfl⟩) (?hkx) (fun r_4 u_4 H locs hp_4 hw => ?_)
  case hkx =>
    intro nm ce q9 H1 locs1 hp hw1 g1 g2 g3
    obtain ⟨rfl, hrel⟩ := zx_pairs hp
    refine z_hand (hh := [(0, 9, 12, 13)]) Cx ht [] (0, 9, 12, 13) [] rfl (List.mem_of_getElem? (i := 1) rfl) (fun _ h => nomatch h) rfl (by decide) (List.mem_append_right _ (List.mem_of_getElem? (i := 0) rfl)) g1 g2 g3 ?_
    refine lv_astore_n hx hb dL_pairs_12 rfl hl (by decide) rfl (fun ls hl => ?_)
    refine lv_iconst (v := nI 1) hx hb dL_pairs_13 rfl ?_
    exact z_iret (wf := (zWL E X o ov)) Cx hr rfl (Nat.le_of_ble_eq_true rfl) (Nat.le_of_ble_eq_true rfl) ((Y, C), 1, 0, V) hw1 ⟨rfl, ⟨rfl, hrel⟩, hrc⟩ dL_pairs_14
  have hrel := zs_pairs (u := u_4) hp_4
  refine lv_i2l hx hb dL_pairs_7 rfl ?_
  refine zl_last Cx hw dL_pairs_8 (fun H locs hw => ?_)
  refine lv_goto (tgt := 15) hx hb dL_pairs_9 (by decide) ?_
  refine lv_iconst (v := nI 0) hx hb dL_pairs_15 rfl ?_
  exact z_iret (wf := (zWL E X o ov)) Cx hr rfl (Nat.le_of_ble_eq_true rfl) (Nat.le_of_ble_eq_true rfl) ((Y, C), 0, r_4, V) hw ⟨rfl, ⟨rfl, hrel⟩, hrc⟩ dL_pairs_16

set_option maxRecDepth 100000 in
set_option maxHeartbeats 4000000 in
/-- reachedFrom -/
theorem c_L_reachedFrom (E : zG) (l : Launch) (hl0 : l.stackTraces = false) (X Y : va_W) (C : zLs) (x o : Nat) (ov : Nat → Int64) (V : zCl) (hrc : zRC Y C x V) (f : Int32) : Met l yL_reachedFrom (wsL_reachedFrom ++ wl3) (zR 9 20 200) (va_Pc [.ref x, .int f, .ref o] (fun U => zu E (zQ E ((X ++ [(o, zoc E ov)]) ++ Y) C) U ∧ zNc U)) (zPL E X o x ov (fun c r V' => V' = V ∧ zA_reachedFrom V f c r)) 20 200 (eA E) := by
  refine zh_of (cc := cL_reachedFrom) (maxL := 4) (ret := (some .int)) (hh := [(0, 9, 12, 21)]) (by decide) rfl rfl (Nat.le_of_ble_eq_true rfl) ?_
  intro p e s m below meth c ls ht hnc Cx hr hw hl
  have hx := Cx.1.1
  have hb := Cx.1.2.1
  have hrc0 := hrc
  obtain ⟨q0, q1, q2, q3, q4, ns, ss, hs, ps, gs, ro, rw9, hRb⟩ := hrc0
  have hx0 : (x, Sum.inr (10, [.ref q0, .ref q1, .ref q2, .ref q3, .ref q4])) ∈ (X ++ [(o, zoc E ov)]) ++ Y := List.mem_append_right _ hRb.1
  have hl : lv_has ls 4 [(0, .ref x), (1, .int f), (2, .ref o)] := hl
  refine lv_aload_n hx hb dL_reachedFrom_0 rfl (lv_at hl 2 rfl) ?_
  refine lv_iconst (v := 0) hx hb dL_reachedFrom_1 (by decide) ?_
  refine lv_aload_n hx hb dL_reachedFrom_2 rfl (lv_at hl 0 rfl) ?_
  refine lv_iload_n hx hb dL_reachedFrom_3 rfl (lv_at hl 1 rfl) ?_
  refine zx_goi (wf := fun (u : Nat) => zQ E ((X ++ [(o, zoc E ov)]) ++ Y) C) hw.2 (zx_runV Cx hw (c_X7_reachedFrom E l hl0 ((X ++ [(o, zoc E ov)]) ++ Y) C x V (hrc.grow (fun q hq => List.mem_append_right _ hq)) f) (cwV 1 Cx.1.2.2.2.2 (zgm gL_reachedFrom_X7_reachedFrom) rfl rfl rfl (by decide +kernel) ⟨Nat.le_of_ble_eq_true rfl, Nat.le_of_ble_eq_true rfl⟩) (z_recv Cx hw (r := (RX7, TX7, 5)) hx0 rfl) rfl hl.1 rfl (Nat.le_of_ble_eq_true rfl) dL_reachedFrom_4 ⟨Nat.le_of_ble_eq_true rfl, Nat.le_of_ble_eq_true rfl⟩) (?hkx) (fun r_4 u_4 H locs hp_4 hw => ?_)
  case hkx =>
    intro nm ce q9 H1 locs1 hp hw1 g1 g2 g3
    obtain ⟨rfl, hrel⟩ := zx_reachedFrom hp
    refine z_hand (hh := [(0, 9, 12, 21)]) Cx ht [] (0, 9, 12, 21) [] rfl (List.mem_of_getElem? (i := 0) rfl) (fun _ h => nomatch h) rfl (by decide) (List.mem_append_right _ (List.mem_of_getElem? (i := 2) rfl)) g1 g2 g3 ?_
    refine lv_astore_n hx hb dL_reachedFrom_12 rfl hl (by decide) rfl (fun ls hl => ?_)
    refine lv_iconst (v := nI 1) hx hb dL_reachedFrom_13 rfl ?_
    exact z_iret (wf := (zWL E X o ov)) Cx hr rfl (Nat.le_of_ble_eq_true rfl) (Nat.le_of_ble_eq_true rfl) ((Y, C), 1, 0, V) hw1 ⟨rfl, ⟨rfl, hrel⟩, hrc⟩ dL_reachedFrom_14
  have hrel := zs_reachedFrom (u := u_4) hp_4
  refine lv_i2l hx hb dL_reachedFrom_7 rfl ?_
  refine zl_last Cx hw dL_reachedFrom_8 (fun H locs hw => ?_)
  refine lv_goto (tgt := 15) hx hb dL_reachedFrom_9 (by decide) ?_
  refine lv_iconst (v := nI 0) hx hb dL_reachedFrom_15 rfl ?_
  exact z_iret (wf := (zWL E X o ov)) Cx hr rfl (Nat.le_of_ble_eq_true rfl) (Nat.le_of_ble_eq_true rfl) ((Y, C), 0, r_4, V) hw ⟨rfl, ⟨rfl, hrel⟩, hrc⟩ dL_reachedFrom_16

set_option maxRecDepth 100000 in
set_option maxHeartbeats 4000000 in
/-- idleRules -/
theorem c_L_idleRules (E : zG) (l : Launch) (hl0 : l.stackTraces = false) (X Y : va_W) (C : zLs) (x o : Nat) (ov : Nat → Int64) (V : zCl) (hrc : zRC Y C x V) (f : Int32) : Met l yL_idleRules (wsL_idleRules ++ wl3) (zR 9 20 200) (va_Pc [.ref x, .int f, .ref o] (fun U => zu E (zQ E ((X ++ [(o, zoc E ov)]) ++ Y) C) U ∧ zNc U)) (zPL E X o x ov (fun c r V' => V' = V ∧ zA_idleRules V f c r)) 20 200 (eA E) := by
  refine zh_of (cc := cL_idleRules) (maxL := 4) (ret := (some .int)) (hh := [(0, 9, 12, 21)]) (by decide) rfl rfl (Nat.le_of_ble_eq_true rfl) ?_
  intro p e s m below meth c ls ht hnc Cx hr hw hl
  have hx := Cx.1.1
  have hb := Cx.1.2.1
  have hrc0 := hrc
  obtain ⟨q0, q1, q2, q3, q4, ns, ss, hs, ps, gs, ro, rw9, hRb⟩ := hrc0
  have hx0 : (x, Sum.inr (10, [.ref q0, .ref q1, .ref q2, .ref q3, .ref q4])) ∈ (X ++ [(o, zoc E ov)]) ++ Y := List.mem_append_right _ hRb.1
  have hl : lv_has ls 4 [(0, .ref x), (1, .int f), (2, .ref o)] := hl
  refine lv_aload_n hx hb dL_idleRules_0 rfl (lv_at hl 2 rfl) ?_
  refine lv_iconst (v := 0) hx hb dL_idleRules_1 (by decide) ?_
  refine lv_aload_n hx hb dL_idleRules_2 rfl (lv_at hl 0 rfl) ?_
  refine lv_iload_n hx hb dL_idleRules_3 rfl (lv_at hl 1 rfl) ?_
  refine zx_goi (wf := fun (u : Nat) => zQ E ((X ++ [(o, zoc E ov)]) ++ Y) C) hw.2 (zx_runV Cx hw (c_X7_idleRules E l hl0 ((X ++ [(o, zoc E ov)]) ++ Y) C x V (hrc.grow (fun q hq => List.mem_append_right _ hq)) f) (cwV 1 Cx.1.2.2.2.2 (zgm gL_idleRules_X7_idleRules) rfl rfl rfl (by decide +kernel) ⟨Nat.le_of_ble_eq_true rfl, Nat.le_of_ble_eq_true rfl⟩) (z_recv Cx hw (r := (RX7, TX7, 5)) hx0 rfl) rfl hl.1 rfl (Nat.le_of_ble_eq_true rfl) dL_idleRules_4 ⟨Nat.le_of_ble_eq_true rfl, Nat.le_of_ble_eq_true rfl⟩) (?hkx) (fun r_4 u_4 H locs hp_4 hw => ?_)
  case hkx =>
    intro nm ce q9 H1 locs1 hp hw1 g1 g2 g3
    obtain ⟨rfl, hrel⟩ := zx_idleRules hp
    refine z_hand (hh := [(0, 9, 12, 21)]) Cx ht [] (0, 9, 12, 21) [] rfl (List.mem_of_getElem? (i := 0) rfl) (fun _ h => nomatch h) rfl (by decide) (List.mem_append_right _ (List.mem_of_getElem? (i := 2) rfl)) g1 g2 g3 ?_
    refine lv_astore_n hx hb dL_idleRules_12 rfl hl (by decide) rfl (fun ls hl => ?_)
    refine lv_iconst (v := nI 1) hx hb dL_idleRules_13 rfl ?_
    exact z_iret (wf := (zWL E X o ov)) Cx hr rfl (Nat.le_of_ble_eq_true rfl) (Nat.le_of_ble_eq_true rfl) ((Y, C), 1, 0, V) hw1 ⟨rfl, ⟨rfl, hrel⟩, hrc⟩ dL_idleRules_14
  have hrel := zs_idleRules (u := u_4) hp_4
  refine lv_i2l hx hb dL_idleRules_7 rfl ?_
  refine zl_last Cx hw dL_idleRules_8 (fun H locs hw => ?_)
  refine lv_goto (tgt := 15) hx hb dL_idleRules_9 (by decide) ?_
  refine lv_iconst (v := nI 0) hx hb dL_idleRules_15 rfl ?_
  exact z_iret (wf := (zWL E X o ov)) Cx hr rfl (Nat.le_of_ble_eq_true rfl) (Nat.le_of_ble_eq_true rfl) ((Y, C), 0, r_4, V) hw ⟨rfl, ⟨rfl, hrel⟩, hrc⟩ dL_idleRules_16

