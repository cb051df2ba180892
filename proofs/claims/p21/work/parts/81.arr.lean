/-! the law's array of 40 ints, its script, its booleans -/
theorem zQ.perm {E : zG} {Z Z' : va_W} {C : zLs} {H : Heap} (h : zQ E Z C H) (hp : Z.Perm Z') : zQ E Z' C H := by
  obtain ⟨YA, hP, hA⟩ := h
  refine ⟨YA, hP.perm (hp.append_right YA), hA.mono (fun y hy => ?_)⟩
  obtain ⟨ci, fs, hm, b⟩ := hy
  exact ⟨ci, fs, hp.mem_iff.mp hm, b⟩
theorem zQ_setA {E : zG} {X Y YA : va_W} {C : zLs} {H1 : Heap} {H : Heap} {a k : Nat} {e e' : ClassId × vp_A} (hP : zP E ((X ++ Y) ++ YA) H) (hA : zA E (X ++ Y) YA C) (he : (a, (Sum.inl e : va_E)) ∈ Y) (hk : ((X ++ Y) ++ YA)[k]? = some (a, Sum.inl e))
    (h1 : va_P (eD E) vwCl (((X ++ Y) ++ YA).set k (a, Sum.inl e')) H1) (h2 : va_D (eA E) (((X ++ Y) ++ YA).set k (a, Sum.inl e'))) : zQ E (X ++ zset Y a (Sum.inl e')) C H1 := by
  have e1 := zset_eq (e := Sum.inl e') hP.2 hk
  rw [e1] at h1 h2
  have hn := z_nodup hP.2
  rw [List.map_append, List.map_append] at hn
  obtain ⟨hn1, -, hn3⟩ := List.nodup_append.mp hn
  obtain ⟨-, -, hn2⟩ := List.nodup_append.mp hn1
  have hY : a ∈ Y.map (fun q => q.1) := List.mem_map.mpr ⟨_, he, rfl⟩
  have eX : zset X a (Sum.inl e') = X := zset_ne (fun q hq hqa => hn2 q.1 (List.mem_map.mpr ⟨q, hq, rfl⟩) a hY hqa)
  have eYA : zset YA a (Sum.inl e') = YA := zset_ne (fun q hq hqa => hn3 a (List.mem_append_right _ hY) q.1 (List.mem_map.mpr ⟨q, hq, rfl⟩) hqa.symm)
  rw [zset_app, zset_app, eX, eYA] at h1 h2
  refine ⟨YA, ⟨h1, h2⟩, hA.mono (fun y hy => ?_)⟩
  obtain ⟨cj, gs, hm, b1, b2⟩ := hy
  have c : y ≠ a := fun c => by
    subst c
    have hu := hP.uniq (List.mem_append_left _ hm) (List.mem_of_getElem? hk)
    cases hu
  rcases List.mem_append.mp hm with h | h
  · exact ⟨cj, gs, List.mem_append_left _ h, b1, b2⟩
  · exact ⟨cj, gs, List.mem_append_right _ (zset_old h c), b1, b2⟩
abbrev zci (E : zG) (f : Nat → Int32) : va_E := Sum.inl (eI E, 40, .inl f)
theorem zRC.x {Y : va_W} {C : zLs} {x : Nat} {V : zCl} (h : zRC Y C x V) : ∃ fs : List Value, (x, Sum.inr (10, fs)) ∈ Y := by
  obtain ⟨q0, q1, q2, q3, q4, ns, ss, hs, ps, gs, ro, rw9, h, -⟩ := h
  exact ⟨_, h⟩
theorem zn_e0 {n : Nat} (hn : n < 2 ^ 31) : nI n = 0 ↔ n = 0 := nI_eq (b := 0) hn (by omega)
theorem zn_le0 {n : Nat} (hn : n < 2 ^ 31) : nI n ≤ 0 ↔ n ≤ 0 := nI_leI (b := 0) hn (by omega)
theorem zn_one : ∀ b : Bool, zb b = 1 ↔ b = true := by decide
/-- a method's begin, with something said of the state beside -/
theorem z_ofN {N : State → Prop} {E : zG} {l : Launch} {y : MethodName} {ws ws' : List Cond} {rm : Room} {cc : ByteArray} {maxL : Nat} {ret : Option FieldType} {av : List Value} {w : Heap → Prop} {Qc : Array Value → State → Outcome → State → Prop} {mc ms : Nat} {own : String} (hy : plainName y.cls = true) (ho : y.cls = own) (hw : ws = Cond.code y cc maxL ret :: ws') (hlen : (lg_sl av).length ≤ maxL)
    (body : ∀ (p : Program) (e : Env) (s : State) (m : MethodId) (below : List Frame) (meth : Method) (c : Code) (ls : Array Slot), N s → zC E p s m av.toArray meth c own cc ws maxL → meth.sig.returnType = ret → zHw E w s s.heap [] → lv_has ls maxL (lv_args 0 av) → W p l e rm s m av.toArray below meth c s.heap [] 0 0 (MQ below Qc av.toArray s mc ms (eA E)) (F0 m 0 ls [])) : Met l y ws rm (va_Pc av (fun U => zu E w U ∧ N U)) Qc mc ms (eA E) := by
  refine Met.ofW (cc := cc) (maxL := maxL) (ret := ret) hy hw ?_
  intro p e s m args below meth c s₁ B hml hv
  obtain ⟨rfl, hu, hn⟩ := hv
  have hown : s.vm.findClass own = some m.cls := by rw [← ho]; exact findClass_of_methodNamed B.named
  have hts := atoms_spec (ws := ws) B.pre
  have Cx : zC E p s m av.toArray meth c own cc ws maxL := ⟨⟨B.exec, B.bytes, hml, hown, hts⟩, hu.2, B.notSynchronized⟩
  rw [lg_entry_eq]
  exact body p e s m below meth c _ hn Cx B.returns ⟨hu.1, va_S.rf⟩ (lv_entry av hlen)
abbrev zXs (b L : Nat) (xs : Nat → Int32) (U : State) : Prop := va_X b L xs U U.heap ∧ b < U.heap.size
section
variable {p : Program} {l : Launch} {e : Env} {R : Room} {s : State} {m : MethodId} {args : Array Value} {below : List Frame} {meth : Method} {c : Code} {H : Heap} {locs : List Loc} {cells slots : Nat} {Q : State → Prop}
variable {E : zG} {own : String} {cc : ByteArray} {Ts : List Cond} {nL pc : Nat} {ls : Array Slot} {rest st0 : List Value} {X Y Z : va_W} {C : zLs} {o : Nat} {f : Nat → Int32} {w : Heap → Prop}
theorem zc_iald (Cx : zC E p s m args meth c own cc Ts nL) (hw : zHA E ([(o, zci E f)] ++ Y) C s H locs) {i : Nat} (hi : i < 40) {v : Int32} (hv : f i = v) (hdg : decode cc pc = .ok (.iaload, 1))
    (kk : W p l e R s m args below meth c H locs cells slots Q (F0 m (pc + 1) ls (.int v :: rest))) : W p l e R s m args below meth c H locs cells slots Q (F0 m pc ls (.int (nI i) :: .ref o :: rest)) := by
  obtain ⟨⟨YA, ⟨hP, hD⟩, hA⟩, hS⟩ := hw
  obtain ⟨q0, hq0⟩ := List.getElem?_of_mem (List.mem_append_left YA (List.mem_append_left Y (List.mem_cons_self (a := (o, zci E f)) (l := []))))
  refine va_iald Cx.1.1 Cx.1.2.1 Cx.2.1.1 hP q0 0 hq0 rfl (vp_in_nI hi (by omega)) hdg ?_
  rw [nI_clamp (by omega), hv]
  exact kk
theorem zc_iast (Cx : zC E p s m args meth c own cc Ts nL) (hw : zHA E ([(o, zci E f)] ++ Y) C s H locs) {i : Nat} (hi : i < 40) {v : Int32} (hdg : decode cc pc = .ok (.iastore, 1))
    (kk : ∀ (H1 : Heap) (locs1 : List Loc), zHA E ([(o, zci E (upd f i v))] ++ Y) C s H1 locs1 → W p l e R s m args below meth c H1 locs1 cells slots Q (F0 m (pc + 1) ls rest)) : W p l e R s m args below meth c H locs cells slots Q (F0 m pc ls (.int v :: .int (nI i) :: .ref o :: rest)) := by
  obtain ⟨⟨YA, ⟨hP, hD⟩, hA⟩, hS⟩ := (⟨hw.1.perm List.perm_append_comm, hw.2⟩ : zHA E (Y ++ [(o, zci E f)]) C s H locs)
  have hm : (o, zci E f) ∈ [(o, zci E f)] := List.mem_cons_self
  obtain ⟨q0, hq0⟩ := List.getElem?_of_mem (List.mem_append_left YA (List.mem_append_right Y hm))
  refine va_iast Cx.1.1 Cx.1.2.1 Cx.2.1.1 hP hD hS q0 0 hq0 rfl (vp_in_nI hi (by omega)) hdg (fun H1 locs1 h1 h2 h3 => kk H1 locs1 ⟨?_, h3⟩)
  rw [nI_clamp (by omega)] at h1 h2
  have h4 := zQ_setA ⟨hP, hD⟩ hA hm hq0 h1 h2
  have e9 : zset [(o, zci E f)] o (zci E (upd f i v)) = [(o, zci E (upd f i v))] := by simp [zset]
  have h5 : zQ E (Y ++ [(o, zci E (upd f i v))]) C H1 := by rw [← e9]; exact h4
  exact h5.perm List.perm_append_comm
theorem z_newa (Cx : zC E p s m args meth c own cc Ts nL) (hw : zHA E Z C s H locs) {atype : ArrayType} {ty : FieldType} {i0 : Nat} {ci : ClassId} {n : Nat} {a0 : vp_A} (hty : newarray.typeOf atype = ty) (hti : (eTy E)[i0]? = some (ci, ty)) (harr : Cond.arrayClass (newarray.typeOf atype) ∈ Ts) (ha : ∀ cA : ClassId, vp_cell cA a0 = arrV cA n (fun _ => defaultValue ty)) (hn : n < 1000) (hsm : componentBytes ty ≤ 8) (hob : ∀ Cn, ty ≠ .object Cn) (hcells : cells + 1 ≤ R.cells) (hslots : slots + n ≤ R.slots) (hdg : decode cc pc = .ok (.newarray atype, 2))
    (kk : ∀ (q : Nat) (H1 : Heap), (∀ x ∈ Z, x.1 ≠ q) → zHA E (Z ++ [(q, Sum.inl (ci, a0))]) C s H1 locs → W p l e R s m args below meth c H1 locs (cells + 1) (slots + n) Q (F0 m (pc + 2) ls (.ref q :: rest))) : W p l e R s m args below meth c H locs cells slots Q (F0 m pc ls (.int (nI n) :: rest)) := by
  obtain ⟨⟨hx, hb, hml, hown, hts⟩, ⟨hK, hA0, -⟩, -⟩ := Cx
  obtain ⟨⟨YA, ⟨hP, hD⟩, hA⟩, hS⟩ := hw
  have hbytes : n * componentBytes ty ≤ 536870912 := Nat.le_trans (Nat.mul_le_mul (Nat.le_of_lt hn) hsm) (Nat.le_of_ble_eq_true rfl)
  refine va_newa hx hb (hts _ harr) hty hK hP hD hS hA0 ha (nI_pos (by omega)) (nI_clamp (by omega)) hbytes hcells hslots hdg (fun q cA H1 hK1 h1 h2 h3 => ?_)
  have e1 : s.vm.findClass ("[" ++ ty.toString) = some cA := by
    have h := (hK1.2 4 _ rfl).2
    clear hty hti harr ha hsm hbytes hdg hP hD hA h1 h2 h3 kk
    revert h hob
    cases ty <;> intro hob h <;> first | exact h | exact absurd rfl (hob _)
  have e2 : s.vm.findClass ("[" ++ ty.toString) = some ci := by
    have h := (hK.2 i0 _ hti).2
    clear hty hti harr ha hsm hbytes hdg hP hD hA h1 h2 h3 kk e1 hK1
    revert h hob
    cases ty <;> intro hob h <;> first | exact h | exact absurd rfl (hob _)
  cases e1.symm.trans e2
  have hf := zP_push (E := E) ⟨h1, h2⟩
  refine kk q H1 (fun x hx => hf x (List.mem_append_left _ hx)) ⟨⟨YA, ?_, hA.mono (fun y hy => ?_)⟩, h3⟩
  · refine (show zP E ((Z ++ YA) ++ [(q, Sum.inl (ci, a0))]) H1 from ⟨h1, h2⟩).perm ?_
    rw [List.append_assoc, List.append_assoc]
    exact List.Perm.append_left Z List.perm_append_comm
  · obtain ⟨cj, gs, hm, b1, b2⟩ := hy
    exact ⟨cj, gs, List.mem_append_left _ hm, b1, b2⟩
theorem zl_bne (Cx : zC E p s m args meth c own cc Ts nL) {v : Int32} (d1 : decode cc pc = .ok (.ifCond .ne 7, 3)) (d2 : decode cc (pc + 3) = .ok (.iconst 1, 1)) (d3 : decode cc (pc + 4) = .ok (.goto 4, 3)) (d4 : decode cc (pc + 7) = .ok (.iconst 0, 1))
    (kk : W p l e R s m args below meth c H locs cells slots Q (F0 m (pc + 8) ls (.int (zb (decide (v = 0))) :: rest))) : W p l e R s m args below meth c H locs cells slots Q (F0 m pc ls (.int v :: rest)) := by
  have hx := Cx.1.1
  have hb := Cx.1.2.1
  refine lv_if_ne (tgt := pc + 7) hx hb d1 (by omega) (fun h => ?_) (fun h => ?_)
  · rw [decide_eq_false h] at kk
    exact lv_iconst (v := zb false) hx hb d4 (by decide) kk
  · rw [decide_eq_true h] at kk
    refine lv_iconst (v := zb true) hx hb d2 (by decide) ?_
    exact lv_goto (tgt := pc + 8) hx hb d3 (by omega) kk
theorem zl_bge (Cx : zC E p s m args meth c own cc Ts nL) {x y : Int32} (d1 : decode cc pc = .ok (.if_icmp .ge 7, 3)) (d2 : decode cc (pc + 3) = .ok (.iconst 1, 1)) (d3 : decode cc (pc + 4) = .ok (.goto 4, 3)) (d4 : decode cc (pc + 7) = .ok (.iconst 0, 1))
    (kk : W p l e R s m args below meth c H locs cells slots Q (F0 m (pc + 8) ls (.int (zb (!decide (y ≤ x))) :: rest))) : W p l e R s m args below meth c H locs cells slots Q (F0 m pc ls (.int y :: .int x :: rest)) := by
  have hx := Cx.1.1
  have hb := Cx.1.2.1
  refine lv_icmp_ge (tgt := pc + 7) hx hb d1 (by omega) (fun h => ?_) (fun h => ?_)
  · rw [decide_eq_true h] at kk
    exact lv_iconst (v := zb (!true)) hx hb d4 (by decide) kk
  · rw [decide_eq_false h] at kk
    refine lv_iconst (v := zb (!false)) hx hb d2 (by decide) ?_
    exact lv_goto (tgt := pc + 8) hx hb d3 (by omega) kk
theorem z_runSN {N : State → Prop} (Cx : zC E p s m args meth c own cc Ts nL) (hw : zHw E w s H locs) (hN : ∀ U : State, U.heap = H → s.WarmedH U.vm → N U) (hNb : ∀ (U : State) (g : JFrame) (mk : MethodId) (a : Array Value), N U → N (U.calling g mk a)) {y : MethodName} {bytes : ByteArray} {maxL mc ms n index : Nat} {ret : Option FieldType} {ws : List Cond} {rm : Room} {As : List Value} {Qc : Array Value → State → Outcome → State → Prop} (hM : Met l y ws rm (va_Pc As (fun U => zu E w U ∧ N U)) Qc mc ms (eA E)) (cw : CallB R s args own index y bytes maxL ret ws rm mc ms n ∧ (Cond.static y).before args s = true)
    (hn : As.length = n) (hsize : ls.size = nL) (hstack : st0 = As.reverse ++ rest) (hW : (rest.map fun v => v.category).sum ≤ 8) (hdg : decode cc pc = .ok (.invokestatic index, 3)) (hf : cells + mc ≤ R.cells ∧ slots + ms ≤ R.slots) :
    va_Run p l e R s m args below meth c H locs cells slots mc ms (F0 m pc ls st0) rest (Qc As.toArray) (eA E) :=
  va_runS Cx.1 hM cw ⟨fun a U g mk h => ⟨h.1, zu.calling h.2.1, hNb U g mk a h.2.2⟩, fun U hU hW => ⟨rfl, hw.u Cx.2.1 U hU hW, hN U hU hW⟩⟩ rfl hn hsize hstack (lv_room hW) hdg hf
theorem zXs_at {b L : Nat} {xs : Nat → Int32} (hX : zXs b L xs s) (hbA : ¬ eA E b) (hw : zHw E w s H locs) : ∀ U : State, U.heap = H → s.WarmedH U.vm → zXs b L xs U := by
  intro U hU hW
  have h1 : U.heap[b]? = s.heap[b]? := by rw [hU]; exact hw.2.2.1 b hX.2 hbA
  exact ⟨va_X.kept (va_X.moved hW.alike hX.1) h1, by rw [hU]; exact Nat.lt_of_lt_of_le hX.2 hw.2.1⟩
theorem zXs_calling {b L : Nat} {xs : Nat → Int32} : ∀ (U : State) (g : JFrame) (mk : MethodId) (a : Array Value), zXs b L xs U → zXs b L xs (U.calling g mk a) := fun _ _ _ _ h => h
end
