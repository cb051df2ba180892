/-! begins of methods, throws -/
theorem z_of {E : zG} {l : Launch} {y : MethodName} {ws ws' : List Cond} {rm : Room} {cc : ByteArray} {maxL : Nat} {ret : Option FieldType} {av : List Value} {w : Heap → Prop} {Qc : Array Value → State → Outcome → State → Prop} {mc ms : Nat} {own : String} (hy : plainName y.cls = true) (ho : y.cls = own) (hw : ws = Cond.code y cc maxL ret :: ws') (hlen : (lg_sl av).length ≤ maxL)
    (body : ∀ (p : Program) (e : Env) (s : State) (m : MethodId) (below : List Frame) (meth : Method) (c : Code) (ls : Array Slot), zC E p s m av.toArray meth c own cc ws maxL → meth.sig.returnType = ret → meth.name = y.name → zHw E w s s.heap [] → lv_has ls maxL (lv_args 0 av) → W p l e rm s m av.toArray below meth c s.heap [] 0 0 (MQ below Qc av.toArray s mc ms (eA E)) (F0 m 0 ls [])) : Met l y ws rm (zPre E av w) Qc mc ms (eA E) := by
  refine Met.ofW (cc := cc) (maxL := maxL) (ret := ret) hy hw ?_
  intro p e s m args below meth c s₁ B hml hv
  obtain ⟨rfl, hu⟩ := hv
  have hown : s.vm.findClass own = some m.cls := by rw [← ho]; exact findClass_of_methodNamed B.named
  have hts := atoms_spec (ws := ws) B.pre
  have Cx : zC E p s m av.toArray meth c own cc ws maxL := ⟨⟨B.exec, B.bytes, hml, hown, hts⟩, hu.2, B.notSynchronized⟩
  rw [lg_entry_eq]
  exact body p e s m below meth c _ Cx B.returns (name_of_methodNamed B.named B.method).1 ⟨hu.1, va_S.rf⟩ (lv_entry av hlen)
theorem zx_of {E : zG} {l : Launch} {y : MethodName} {ws ws' : List Cond} {rm : Room} {cc : ByteArray} {maxL : Nat} {ret : Option FieldType} {av : List Value} {w : Heap → Prop} {Qc : Array Value → State → Outcome → State → Prop} {XC : String → State → State → Prop} {mc ms : Nat} {own : String} (hy : plainName y.cls = true) (ho : y.cls = own) (hw : ws = Cond.code y cc maxL ret :: ws') (hlen : (lg_sl av).length ≤ maxL)
    (body : ∀ (p : Program) (e : Env) (s : State) (m : MethodId) (below : List Frame) (meth : Method) (c : Code) (ls : Array Slot), (∀ x ∈ c.exceptionTable.toList, False) → zC E p s m av.toArray meth c own cc ws maxL → meth.sig.returnType = ret → meth.name = y.name → zHw E w s s.heap [] → lv_has ls maxL (lv_args 0 av) → W p l e rm s m av.toArray below meth c s.heap [] 0 0 (vx_MQ below Qc XC av.toArray s mc ms (eA E)) (F0 m 0 ls [])) : vx_Met l y ws rm (zPre E av w) Qc XC mc ms (eA E) := by
  refine vx_ofW (cc := cc) (maxL := maxL) (ret := ret) hy hw ?_
  intro p e s m args below meth c s₁ B hml ht hv
  obtain ⟨rfl, hu⟩ := hv
  have hown : s.vm.findClass own = some m.cls := by rw [← ho]; exact findClass_of_methodNamed B.named
  have hts := atoms_spec (ws := ws) B.pre
  have Cx : zC E p s m av.toArray meth c own cc ws maxL := ⟨⟨B.exec, B.bytes, hml, hown, hts⟩, hu.2, B.notSynchronized⟩
  rw [lg_entry_eq]
  exact body p e s m below meth c _ ht Cx B.returns (name_of_methodNamed B.named B.method).1 ⟨hu.1, va_S.rf⟩ (lv_entry av hlen)
abbrev zSup : List String := ["java/lang/RuntimeException", "java/lang/Exception"]
section
variable {p : Program} {l : Launch} {e : Env} {R : Room} {s : State} {m : MethodId} {args : Array Value} {below : List Frame} {meth : Method} {c : Code} {H : Heap} {locs : List Loc} {cells slots : Nat} {Q : State → Prop}
variable {E : zG} {own : String} {cc : ByteArray} {Ts : List Cond} {nL pc : Nat} {ls : Array Slot} {rest st0 : List Value} {Z X Y : va_W} {C : zLs} {a : Nat}
theorem z_throw {mc ms ik is ic : Nat} {Qc : Array Value → State → Outcome → State → Prop} {Z0 Z1 : va_W} {C0 C1 : zLs} {px : String → Prop} {cls text : String} (Cx : zC E p s m args meth c RX7 cc Ts nL) (hl : l.stackTraces = false) (ht : ∀ x ∈ c.exceptionTable.toList, False) (hw : zHA E Z1 C1 s H locs) (htx : (is, text) ∈ zTx) (hcl : cls ∈ [zIOO, zIAE, zISE])
    (hk : Cond.classLink RX7 ik cls ∈ Ts) (hini : Cond.initialized cls ∈ Ts) (hat : ∀ w ∈ (vx_atS RX7 ic cls zSup).filter goodWord, w ∈ Ts) (hbad : ∀ w ∈ (vx_atS RX7 ic cls zSup).filter (fun w => !goodWord w), w ∈ [Cond.castable cls cls, Cond.declares (Bundle.initS "java/lang/RuntimeException"), Cond.declares (Bundle.initS "java/lang/Exception"), Cond.declares (Bundle.initS Bundle.tN)])
    (hgood : ∀ w ∈ Cond.classLink RX7 ik cls :: Cond.initialized cls :: vx_atS RX7 ic cls zSup, vx_ot w = true) (hfit : Bundle.fit cls = true) (hsize : ls.size = nL)
    (d0 : decode cc pc = .ok (.new ik, 3)) (d3 : decode cc (pc + 3) = .ok (.dup, 1)) (d4 : decode cc (pc + 4) = .ok (.ldc is, 2)) (d6 : decode cc (pc + 6) = .ok (.invokespecial ic, 3)) (d9 : decode cc (pc + 9) = .ok (.athrow, 1))
    (hRf : 5 < R.frames) (hRl : (rest.map fun v => v.category).sum + 82 ≤ R.locals) (hRc : cells + 1 ≤ R.cells) (hRs : slots + 6 ≤ R.slots) (hpx : px cls) (hz : ∀ H1, zQ E Z1 C1 H1 → zQ E Z0 C0 H1) (hc : cells + 1 ≤ mc) (hs : slots + 6 ≤ ms) :
    W p l e R s m args below meth c H locs cells slots (vx_MQ below Qc (zX E (zQ E Z0 C0) px) args s mc ms (eA E)) (F0 m pc ls rest) := by
  obtain ⟨⟨hx, hb, hml, hown, hts⟩, ⟨hK, hA0, -, -, ⟨hU, hN⟩, hstr, -, hca, hdc⟩, hlk⟩ := Cx
  obtain ⟨sa, hsa⟩ := hstr _ htx
  refine vx_throwS (names := zSup) hx hb hl hown hfit (by decide) (hts _ hk) (hts _ hini) hsa ?_ hgood hU hN hw.2 (hsize.trans hml.symm) d0 d3 d4 d6 d9 (fun x hx => (ht x hx).elim) hRf (Nat.le_trans (Nat.le_of_eq rfl) hRl) hRc hRs hlk (fun t hvm h1 h2 => ?_) hw.2.2.2 hc hs
  · exact vx_hat (fun w hw => hts w (hat w hw)) hbad (vx_c (va_Nw.use rfl (hca _ hcl)) (vx_c (va_Nw.use rfl (hdc _ (List.mem_of_getElem? (i := 0) rfl))) (vx_c (va_Nw.use rfl (hdc _ (List.mem_of_getElem? (i := 1) rfl))) (vx_c (va_Nw.use rfl (hdc _ (List.mem_of_getElem? (i := 2) rfl))) vx_n))))
  · refine ⟨(), trivial, ⟨hpx, hz _ (hw.1.kept h2)⟩, Nat.le_trans hw.2.1 h1, fun q h3 h4 => ?_⟩
    rw [h2 q (Nat.lt_of_lt_of_le h3 hw.2.1)]
    exact hw.2.2.1 q h3 h4
section
variable {w : Heap → Prop}
/-- a call whose end is told exactly -/
theorem z_goe {v : Int32} {mc ms : Nat} {av : Array Value} (hS : va_S (eA E) s.heap H locs) (hr : va_Run p l e R s m args below meth c H locs cells slots mc ms (F0 m pc ls st0) rest (zRi E w v av) (eA E))
    (kk : ∀ (H1 : Heap) (locs1 : List Loc), zHw E w s H1 locs1 → W p l e R s m args below meth c H1 locs1 (cells + mc) (slots + ms) Q (F0 m (pc + 3) ls (.int v :: rest))) : W p l e R s m args below meth c H locs cells slots Q (F0 m pc ls st0) :=
  z_goi (wf := fun _ => w) hS hr (fun r _ H1 locs1 hp hw => by rw [hp]; exact kk H1 locs1 hw)
theorem z_goev {mc ms : Nat} {av : Array Value} (hS : va_S (eA E) s.heap H locs) (hr : va_Run p l e R s m args below meth c H locs cells slots mc ms (F0 m pc ls st0) rest (zRv E w av) (eA E))
    (kk : ∀ (H1 : Heap) (locs1 : List Loc), zHw E w s H1 locs1 → W p l e R s m args below meth c H1 locs1 (cells + mc) (slots + ms) Q (F0 m (pc + 3) ls rest)) : W p l e R s m args below meth c H locs cells slots Q (F0 m pc ls st0) :=
  z_gov (wf := fun _ => w) hS hr (fun _ H1 locs1 _ hw => kk H1 locs1 hw)
theorem z_goer {y : Nat} {mc ms : Nat} {av : Array Value} (hS : va_S (eA E) s.heap H locs) (hr : va_Run p l e R s m args below meth c H locs cells slots mc ms (F0 m pc ls st0) rest (zRr E w y av) (eA E))
    (kk : ∀ (H1 : Heap) (locs1 : List Loc), zHw E w s H1 locs1 → W p l e R s m args below meth c H1 locs1 (cells + mc) (slots + ms) Q (F0 m (pc + 3) ls (.ref y :: rest))) : W p l e R s m args below meth c H locs cells slots Q (F0 m pc ls st0) :=
  z_gor (pr := fun (_ : Unit) a => a = y) (wf := fun _ => w) hS hr (fun _ ra H1 locs1 _ he hw => by rw [he]; exact kk H1 locs1 hw)
/-- the same ends of a method -/
theorem z_ie {mc ms : Nat} {v v2 : Int32} (Cx : zC E p s m args meth c own cc Ts nL) {ty : FieldType} (hr : meth.sig.returnType = some ty) (hn : narrow ty (.int v) = .int v) (hc : cells ≤ mc) (hs : slots ≤ ms) (hw : zHw E w s H locs) (hdg : decode cc pc = .ok (.ireturn, 1)) (hp : v = v2) :
    W p l e R s m args below meth c H locs cells slots (MQ below (zRi E w v2) args s mc ms (eA E)) (F0 m pc ls [.int v]) := z_iret (wf := fun _ => w) Cx hr hn hc hs () hw hp hdg
theorem z_ve {mc ms : Nat} (Cx : zC E p s m args meth c own cc Ts nL) (hr : meth.sig.returnType = none) (hc : cells ≤ mc) (hs : slots ≤ ms) (hw : zHw E w s H locs) (hdg : decode cc pc = .ok (.return_, 1)) :
    W p l e R s m args below meth c H locs cells slots (MQ below (zRv E w) args s mc ms (eA E)) (F0 m pc ls []) := z_vret (wf := fun _ => w) Cx hr hc hs () hw trivial hdg
theorem z_re {mc ms y : Nat} (Cx : zC E p s m args meth c own cc Ts nL) {rt : FieldType} (hr : meth.sig.returnType = some rt) (hrt : (∃ n, rt = .object n) ∨ ∃ t, rt = .array t) (hc : cells ≤ mc) (hs : slots ≤ ms) (hw : zHw E w s H locs) (hdg : decode cc pc = .ok (.areturn, 1)) (hp : a = y) :
    W p l e R s m args below meth c H locs cells slots (MQ below (zRr E w y) args s mc ms (eA E)) (F0 m pc ls [.ref a]) := z_aret (pr := fun (_ : Unit) a => a = y) (wf := fun _ => w) Cx hr hrt hc hs () hw trivial hp hdg
end
end
theorem z_inc (i : Nat) : nI i + Int32.ofInt 1 = nI (i + 1) := nI_1 i
