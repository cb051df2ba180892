/-! the frame of the claim (pasted from kit/laws/SKELETON, as far as the walk of the law's body), and what stands at its start -/
def R_law : String := "CloudPathsLaw"
def lw_P (b : Addr) (xs : List Int32) (args : Array Value) (s : State) : Prop := args = #[.ref b] ∧ s.IntsAt b xs ∧ xs.length ≤ 260 ∧ (Jvm.Cond.and given_1 narrow_1).before args s = true
def lw_Q (_ : Array Value) (s : State) (o : Outcome) (t : State) : Prop := o = .returned (some (.int 1)) ∧ Framed s o t [] 600056 7301712
def lw_Z (below : List Frame) (a : Array Value) (s : State) : State → Prop := fun t => ∃ o, t.status = .running ∧ Ended t below o ∧ lw_Q a s o t
/-- the law's own end, with 1 on the stack, nothing written that was there before, its room as the claim has it -/
theorem lw_ret {p : Program} {l : Launch} {e : Env} {s : State} {m : MethodId} {below : List Frame} {meth : Method} {c : Code} {b : Nat} (hx : p.tables.exec = Jvm.exec) (hb : c.code = code) (hr : meth.sig.returnType = ret) (hlocks : meth.locks = false) {pc : Nat} {H : Heap} {ls : Array Slot} (hdg : decode code pc = .ok (.ireturn, 1)) : W p l e room_1 s m #[Value.ref b] below meth c H [] 600056 7301712 (lw_Z below #[Value.ref b] s) (F0 m pc ls [.int 1]) := by
  intro T hT X
  obtain ⟨fs, hret, hrun, hended, hW, hframe⟩ := X.leave (v := some (.int 1)) (hlocks := hlocks) (fun h => by rw [hr] at h; cases h)
  have hmeth' : T.vm.method? m = some meth := X.method'
  refine ⟨T.setFrames fs, ?_, .returned (some (.int 1)), hrun, hended, rfl, ⟨_, rfl⟩, hW, hframe⟩
  jvm_step X.here [X.here.top, hx, hb, hdg, hmeth', hr, ret, narrow_b1]
  (try refine ⟨rfl, ?_⟩); (try refine ⟨rfl, ?_⟩)
  first | (intro acts; rw [hret _ acts rfl rfl rfl]) | rw [hret _ _ rfl rfl rfl]
  exact Steps.refl _
/-- what holds at the law's entry: the machine, the code, the tables' words (any of lw_tbl by 'hts w (by decide +kernel)'), the script of L ints xs at the cell b, what the Statement gives of the start (any of its parts by flat_of_before) -/
def lw_At (p : Program) (s : State) (m : MethodId) (meth : Method) (c : Code) (b L : Nat) (xs : Nat → Int32) : Prop :=
  p.tables.exec = Jvm.exec ∧ c.code = code ∧ meth.sig.returnType = ret ∧ c.maxLocals = 7 ∧ s.vm.findClass R_law = some m.cls ∧ (∀ w ∈ lw_tbl, w.before #[Value.ref b] s = true) ∧ va_X b L xs s s.heap ∧ b < s.heap.size ∧ meth.locks = false ∧ (Jvm.Cond.and given_1 narrow_1).before #[Value.ref b] s = true
set_option maxRecDepth 100000 in
set_option maxHeartbeats 4000000 in
theorem z_env {s : State} {b : Nat} (hts : ∀ w ∈ lw_tbl, w.before #[Value.ref b] s = true) (hgv : (Jvm.Cond.and given_1 narrow_1).before #[Value.ref b] s = true) : ∃ E : zG, (eA E = fun q => s.heap.size ≤ q) ∧ zK E s s.heap := by
  have hf := flat_of_before _ hgv
  have hA0 : ∀ a : Nat, a < s.heap.size → ¬ (fun q : Nat => s.heap.size ≤ q) a := fun a h => Nat.not_le.mpr h
  obtain ⟨cJx4a65c, iJx4a65c, kJx4a65c⟩ := u_known (C := RJx4a65c) (T := TJx4a65c) (N := 3) (n := 3) hts inJx4a65c (hts (.instantiable RJx4a65c 3) (by decide +kernel))
  obtain ⟨cX0, iX0, kX0⟩ := u_known (C := RX0) (T := TX0) (N := 2) (n := 2) hts inX0 (hts (.instantiable RX0 2) (by decide +kernel))
  obtain ⟨cX1, iX1, kX1⟩ := u_known (C := RX1) (T := TX1) (N := 1) (n := 1) hts inX1 (hts (.instantiable RX1 1) (by decide +kernel))
  obtain ⟨cX2, iX2, kX2⟩ := u_known (C := RX2) (T := TX2) (N := 3) (n := 3) hts inX2 (hts (.instantiable RX2 3) (by decide +kernel))
  obtain ⟨cX3, iX3, kX3⟩ := u_known (C := RX3) (T := TX3) (N := 2) (n := 2) hts inX3 (hts (.instantiable RX3 2) (by decide +kernel))
  obtain ⟨cX4, iX4, kX4⟩ := u_known (C := RX4) (T := TX4) (N := 2) (n := 2) hts inX4 (hts (.instantiable RX4 2) (by decide +kernel))
  obtain ⟨cX5, iX5, kX5⟩ := u_known (C := RX5) (T := TX5) (N := 4) (n := 4) hts inX5 (hts (.instantiable RX5 4) (by decide +kernel))
  obtain ⟨cX6, iX6, kX6⟩ := u_known (C := RX6) (T := TX6) (N := 4) (n := 4) hts inX6 (hts (.instantiable RX6 4) (by decide +kernel))
  obtain ⟨cX7, iX7, kX7⟩ := u_known (C := RX7) (T := TX7) (N := 5) (n := 5) hts inX7 (hts (.instantiable RX7 5) (by decide +kernel))
  obtain ⟨aI, kI, oI, hI1, hI2, hI3⟩ := Cond.arrayClass_spec (hts (.arrayClass .int) (by decide +kernel))
  obtain ⟨oO, aO, kO, hO1, -, hO2, hO3, hO4⟩ := Cond.arrayOver_spec (hts (.arrayOver (.object "java/lang/Object")) (by decide +kernel))
  obtain ⟨t, ht, hT⟩ := va_Tof (args := #[Value.ref b]) (s := s) (tm := .static "java/util/ArrayList" "DEFAULTCAPACITY_EMPTY_ELEMENTDATA" "[Ljava/lang/Object;") (ty := .object "java/lang/Object") (N := 0) (f := fun _ => .null) (A := fun q : Nat => s.heap.size ≤ q) (Nat.le_of_ble_eq_true rfl) (hf _ (by decide +kernel)) (va_eqt (hf _ (by decide +kernel))) (fun j hj => absurd hj (Nat.not_lt_zero j)) hA0
  have hZ := va_Zof (args := #[Value.ref b]) (s := s) (C := "java/util/ArrayList") (n := "DEFAULTCAPACITY_EMPTY_ELEMENTDATA") (d := "[Ljava/lang/Object;") (v := .ref t) (A := fun q : Nat => s.heap.size ≤ q) (hts _ (by decide +kernel)) (hts _ (by decide +kernel)) ht hA0
  obtain ⟨mi, hmi⟩ := va_Mi.of (C := "[Ljava/lang/Object;") (hf _ (by decide +kernel))
  have hdc : va_Dc s := va_Dc.of (hts _ (by decide +kernel))
  have hao : va_AO "java/lang/Object" s := va_AO.of (A := #[Value.ref b]) (hts _ (by decide +kernel))
  have hu : vx_Zq Bundle.tN "UNASSIGNED_STACK" Bundle.steD (fun q : Nat => s.heap.size ≤ q) s s.heap := vx_Zqof (args := #[Value.ref b]) (hts _ (by decide +kernel)) (hts _ (by decide +kernel)) (hf _ (by decide +kernel)) hA0
  have hn : vx_Zq Bundle.tN "SUPPRESSED_SENTINEL" Bundle.listD (fun q : Nat => s.heap.size ≤ q) s s.heap := vx_Zqof (args := #[Value.ref b]) (hts _ (by decide +kernel)) (hts _ (by decide +kernel)) (hf _ (by decide +kernel)) hA0
  have hstr : ∀ q ∈ zTx, ∃ a : Nat, vk_R "CloudPaths" q.1 q.2 a s := by
    have h1 : ∀ q ∈ zTx, Cond.stringRef "CloudPaths" q.1 q.2 ∈ lw_tbl := by decide +kernel
    have h2 : ∀ q ∈ zTx, Cond.exactly (.string "CloudPaths" q.1) "java/lang/String" ∈ flatC (Jvm.Cond.and given_1 narrow_1) := by decide +kernel
    intro q hq
    obtain ⟨a, c, cA, kA, q1, -⟩ := Cond.exactly_spec (args := #[Value.ref b]) (first := s) (o := none) (s := s) (idx := []) (t := .string "CloudPaths" q.1) (cls := "java/lang/String") (hf _ (h2 q hq))
    exact ⟨a, vk_R.of (A := #[Value.ref b]) (hts _ (h1 q hq)) q1⟩
  have hca : ∀ x ∈ [zIOO, zIAE, zISE], va_Nw (.castable x x) s := by
    have h1 : ∀ x ∈ [zIOO, zIAE, zISE], Cond.castable x x ∈ lw_tbl := by decide +kernel
    exact fun x hx => va_Nw.of rfl (hts _ (h1 x hx))
  have hde : ∀ x ∈ zDc, va_Nw (.declares x) s := by
    have h1 : ∀ x ∈ zDc, Cond.declares x ∈ lw_tbl := by decide +kernel
    exact fun x hx => va_Nw.of rfl (hts _ (h1 x hx))
  have hco : ∀ x ∈ [RX0, RX1, RX2, RX3, RX4, RX5, RX6], va_Nw (.castable x "java/lang/Object") s := by
    have h1 : ∀ x ∈ [RX0, RX1, RX2, RX3, RX4, RX5, RX6], Cond.castable x "java/lang/Object" ∈ lw_tbl := by decide +kernel
    exact fun x hx => va_Nw.of rfl (hts _ (h1 x hx))
  have hAr : ∀ (ty : FieldType) (cA : ClassId) (kA : Class) (comp : ClassId), s.vm.classes[cA]? = some kA → kA.kind = .array comp ty → ArrOfT s cA ty := fun ty cA kA comp h2 h3 n z => ⟨fun k h => (by cases h), kA, h2, comp, h3⟩
  refine ⟨((fun k => ([cJx4a65c, cJx4a65c, cJx4a65c, cX0, cX1, cX2, cX3, cX4, cX5, cX6, cX7] : List ClassId).getD k cJx4a65c, fun k => ([iJx4a65c, iJx4a65c, iJx4a65c, iX0, iX1, iX2, iX3, iX4, iX5, iX6, iX7] : List (Nat → Nat)).getD k iJx4a65c), (fun q : Nat => s.heap.size ≤ q), aI, aI, aO, aI, t, mi), rfl, ⟨⟨fun k q hq => ?_, fun k q hq => ?_⟩, fun q h => h, ⟨hZ, hT⟩, ⟨hmi, hdc, hao⟩, ⟨hu, hn⟩, hstr, fun ci r hr h3 h9 => ?_, hca, hde⟩⟩
  · rcases (show k = 0 ∨ k = 1 ∨ k = 2 ∨ k = 3 ∨ k = 4 ∨ k = 5 ∨ k = 6 ∨ k = 7 ∨ k = 8 ∨ k = 9 ∨ k = 10 ∨ 11 ≤ k by omega) with rfl | rfl | rfl | rfl | rfl | rfl | rfl | rfl | rfl | rfl | rfl | h
    · cases hq; exact kJx4a65c
    · cases hq; exact kJx4a65c
    · cases hq; exact kJx4a65c
    · cases hq; exact kX0
    · cases hq; exact kX1
    · cases hq; exact kX2
    · cases hq; exact kX3
    · cases hq; exact kX4
    · cases hq; exact kX5
    · cases hq; exact kX6
    · cases hq; exact kX7
    · rw [List.getElem?_eq_none (show vwCl.length ≤ k from h)] at hq
      cases hq
  · rcases (show k = 0 ∨ k = 1 ∨ k = 2 ∨ k = 3 ∨ 4 ≤ k by omega) with rfl | rfl | rfl | rfl | h
    · cases hq; exact ⟨hAr _ _ _ _ hI2 hI3, hI1⟩
    · cases hq; exact ⟨hAr _ _ _ _ hI2 hI3, hI1⟩
    · cases hq; exact ⟨hAr _ _ _ _ hO2 hO3, kO, oO, hO2, hO3, hO1, hO4⟩
    · cases hq; exact ⟨hAr _ _ _ _ hI2 hI3, hI1⟩
    · rw [List.getElem?_eq_none (by exact h)] at hq
      cases hq
  · rcases (show ci = 3 ∨ ci = 4 ∨ ci = 5 ∨ ci = 6 ∨ ci = 7 ∨ ci = 8 ∨ ci = 9 by omega) with rfl | rfl | rfl | rfl | rfl | rfl | rfl
    · cases hr; exact hco _ (List.mem_of_getElem? (i := 0) rfl)
    · cases hr; exact hco _ (List.mem_of_getElem? (i := 1) rfl)
    · cases hr; exact hco _ (List.mem_of_getElem? (i := 2) rfl)
    · cases hr; exact hco _ (List.mem_of_getElem? (i := 3) rfl)
    · cases hr; exact hco _ (List.mem_of_getElem? (i := 4) rfl)
    · cases hr; exact hco _ (List.mem_of_getElem? (i := 5) rfl)
    · cases hr; exact hco _ (List.mem_of_getElem? (i := 6) rfl)
