/-! calls of the class that throw nothing, told exactly -/
theorem q_no {l : Launch} {y : MethodName} {ws : List Cond} {rm : Room} {E : zG} {Pc : Array Value → State → Prop} {Qc Qd : Array Value → State → Outcome → State → Prop} {w : Heap → Prop} {px : String → Prop} {mc ms : Nat} (h : vx_Met l y ws rm Pc Qc (zX E w px) mc ms (eA E)) (hno : ∀ nm, px nm → False) (hQ : ∀ a s o t, Qc a s o t → Qd a s o t) : Met l y ws rm Pc Qd mc ms (eA E) :=
  MetFree.mono h (fun _ _ h => h) (fun _ _ _ _ _ h => h) (fun a s o t _ hq => by
    rcases hq with ⟨h1, h2⟩ | ⟨q, -, nm, ce, L, ⟨u, -, ⟨hp, -⟩, -⟩, -⟩
    · exact ⟨hQ _ _ _ _ h1, h2⟩
    · exact (hno nm hp).elim)
theorem q_ask {l : Launch} {y : MethodName} {ws : List Cond} {rm : Room} {E : zG} {Pc : Array Value → State → Prop} {w : Heap → Prop} {px : String → Prop} {mc ms : Nat} {S : Type} {post : Int32 → S → Prop} (h : vx_Met l y ws rm Pc (va_Qi post (fun _ tt => w tt.heap) (eA E)) (zX E w px) mc ms (eA E)) (hno : ∀ nm, px nm → False) {v : Int32} (hv : ∀ r u, post r u → r = v) : Met l y ws rm Pc (zRi E w v) mc ms (eA E) :=
  q_no h hno (fun a s o t hq => by
    obtain ⟨⟨r, u, e, hp, hB⟩, hF⟩ := hq
    exact ⟨⟨r, (), e, hv r u hp, hB⟩, hF⟩)
theorem q_chg {l : Launch} {y : MethodName} {ws : List Cond} {rm : Room} {E : zG} {Pc : Array Value → State → Prop} {w : Heap → Prop} {px : String → Prop} {mc ms : Nat} {S : Type} {post post2 : Int32 → S → Prop} {wf : S → State → Prop} (h : vx_Met l y ws rm Pc (va_Qi post wf (eA E)) (zX E w px) mc ms (eA E)) (hno : ∀ nm, px nm → False) (hv : ∀ r u, post r u → post2 r u) : Met l y ws rm Pc (va_Qi post2 wf (eA E)) mc ms (eA E) :=
  q_no h hno (fun a s o t hq => by
    obtain ⟨⟨r, u, e, hp, hB⟩, hF⟩ := hq
    exact ⟨⟨r, u, e, hv r u hp, hB⟩, hF⟩)
theorem zn_inj {a b n : Nat} (e : nI a = nI b) (ha : a < n) (hb : b < n) (hn : n ≤ 1000) : b = a := ((nI_eq (by omega) (by omega)).mp e).symm
theorem zn_ge {a b : Nat} (e : nI a = nI b) (ha : a ≤ 1000) (hb : b ≤ 1000) : b = a := ((nI_eq (by omega) (by omega)).mp e).symm
theorem zprt_n {q : Nat} (h : q < 16) : zprt (nI q) := ⟨nI_pos (by omega), nI_lt (b := 16) h (by omega)⟩
theorem zadr_n {a : Nat} (h : a < 1024) : ¬ nI a < 0 ∧ nI a < 1024 := ⟨nI_pos (by omega), nI_lt (b := 1024) h (by omega)⟩
section
variable (E : zG) (l : Launch) (Z X Y : va_W) (C : zLs) (x : Nat) (V : zCl)
theorem zx2_no {V : zCl} {i j : Nat} {ok : Prop} (hi : i < (vH V).length) (hj : j < (vH V).length) (hij : ¬ i = j) (hok : ok) (hn : (vH V).length ≤ 1000) : ∀ nm, zx2 V (nI i) (nI j) ok nm → False := by
  intro nm h
  rcases h with ⟨-, h⟩ | ⟨-, -, h⟩
  · exact h ⟨⟨i, hi, rfl⟩, ⟨j, hj, rfl⟩⟩
  · exact h ⟨fun e => hij ((nI_eq (by omega) (by omega)).mp e), hok⟩
theorem c_q_ports (hl0 : l.stackTraces = false) (hrc : zRC Z C x V) (i j : Nat) (hi : i < (vH V).length) (hj : j < (vH V).length) (hij : ¬ i = j) (hn : (vH V).length ≤ 1000) : Met l yX7_ports wsX7_ports (zR 8 20 200) (zPre E [.ref x, .int (nI i), .int (nI j)] (zQ E Z C)) (zRi E (zQ E Z C) (zworkV V i j)) 20 200 (eA E) :=
  q_ask (c_X7_ports E l hl0 Z C x V hrc (nI i) (nI j)) (zx2_no hi hj hij trivial hn) (fun r u h => by
    obtain ⟨⟨e1, e2, h1, h2, -⟩, h3⟩ := h
    rw [h3, zn_inj e1 hi h1 hn, zn_inj e2 hj h2 hn])
theorem c_q_blockedBy (hl0 : l.stackTraces = false) (hrc : zRC Z C x V) (i j q : Nat) (hi : i < (vH V).length) (hj : j < (vH V).length) (hij : ¬ i = j) (hq : q < 16) (hn : (vH V).length ≤ 1000) : Met l yX7_blockedBy wsX7_blockedBy (zR 8 20 200) (zPre E [.ref x, .int (nI i), .int (nI j), .int (nI q)] (zQ E Z C)) (zRi E (zQ E Z C) (zfirstP (fun p => zopenV V p i j) (zbit (nI q)) 8 1)) 20 200 (eA E) :=
  q_ask (c_X7_blockedBy E l hl0 Z C x V hrc (nI i) (nI j) (nI q)) (zx2_no hi hj hij (zprt_n hq) hn) (fun r u h => by
    obtain ⟨⟨e1, e2, h1, h2, -⟩, h3⟩ := h
    rw [h3, zn_inj e1 hi h1 hn, zn_inj e2 hj h2 hn])
theorem c_q_blocks (hl0 : l.stackTraces = false) (hrc : zRC Z C x V) (i j q : Nat) (hi : i < (vH V).length) (hj : j < (vH V).length) (hij : ¬ i = j) (hq : q < 16) (hn : (vH V).length ≤ 1000) : Met l yX7_blocks wsX7_blocks (zR 8 20 200) (zPre E [.ref x, .int (nI i), .int (nI j), .int (nI q)] (zQ E Z C)) (zRi E (zQ E Z C) (zsumP (fun p => zopenV V p i j) (zbit (nI q)) 8 1 0)) 20 200 (eA E) :=
  q_ask (c_X7_blocks E l hl0 Z C x V hrc (nI i) (nI j) (nI q)) (zx2_no hi hj hij (zprt_n hq) hn) (fun r u h => by
    obtain ⟨⟨e1, e2, h1, h2, -⟩, h3⟩ := h
    rw [h3, zn_inj e1 hi h1 hn, zn_inj e2 hj h2 hn])
theorem c_q_routeFor (hl0 : l.stackTraces = false) (hrc : zRC Z C x V) (k : Nat) (a : Int32) (hk : k < (vS V).length) (ha : ¬ a < 0 ∧ a < 1024) (hn : (vS V).length ≤ 1000) : Met l yX7_routeFor wsX7_routeFor (zR 8 20 200) (zPre E [.ref x, .int (nI k), .int a] (zQ E Z C)) (zRi E (zQ E Z C) (zrouteV V k a)) 20 200 (eA E) :=
  q_ask (c_X7_routeFor E l hl0 Z C x V hrc (nI k) a) (fun nm h => h.elim (fun h => h.2 ⟨k, hk, rfl⟩) (fun h => h.2.2 ha)) (fun r u h => by
    obtain ⟨⟨e1, h1, -⟩, h3⟩ := h
    rw [h3, zn_inj e1 hk h1 hn])
theorem c_q_idleRules (hl0 : l.stackTraces = false) (hrc : zRC Z C x V) (k : Nat) (hk : k < (vS V).length) (hn : (vS V).length ≤ 1000) : Met l yX7_idleRules wsX7_idleRules (zR 8 20 200) (zPre E [.ref x, .int (nI k)] (zQ E Z C)) (zRi E (zQ E Z C) (nI (zidles [] (zsv V k).2.2.1))) 20 200 (eA E) :=
  q_ask (c_X7_idleRules E l hl0 Z C x V hrc (nI k)) (fun nm h => h.2 ⟨k, hk, rfl⟩) (fun r u h => by
    obtain ⟨⟨e1, h1⟩, h3⟩ := h
    rw [h3, zn_inj e1 hk h1 hn])
theorem c_q_reachedFrom (hl0 : l.stackTraces = false) (hrc : zRC Z C x V) (k : Nat) (hk : k < (vH V).length) (hn : (vH V).length ≤ 1000) : Met l yX7_reachedFrom wsX7_reachedFrom (zR 8 20 200) (zPre E [.ref x, .int (nI k)] (zQ E Z C)) (zRi E (zQ E Z C) (zreach V k (vH V).length 0 0)) 20 200 (eA E) :=
  q_ask (c_X7_reachedFrom E l hl0 Z C x V hrc (nI k)) (fun nm h => h.2 ⟨k, hk, rfl⟩) (fun r u h => by
    obtain ⟨⟨e1, h1⟩, h3⟩ := h
    rw [h3, zn_inj e1 hk h1 hn])
theorem c_q_pairs (hl0 : l.stackTraces = false) (hrc : zRC Z C x V) (q : Nat) (hq : q < 16) : Met l yX7_pairs wsX7_pairs (zR 8 20 200) (zPre E [.ref x, .int (nI q)] (zQ E Z C)) (zRi E (zQ E Z C) (nI (zpairsO V (zbit (nI q)) (vH V).length (vH V).length 0 0))) 20 200 (eA E) :=
  q_ask (c_X7_pairs E l hl0 Z C x V hrc (nI q)) (fun nm h => h.2 (zprt_n hq)) (fun r u h => h.2)
/-- a changing call's end: the answer v, the cloud V1 -/
abbrev zqP (E : zG) (X : va_W) (x : Nat) (v : Int32) (V1 : zCl) : Array Value → State → Outcome → State → Prop := va_Qi (fun r (u : va_W × zLs) => r = v ∧ zRC u.1 u.2 x V1) (fun u tt => zQ E (X ++ u.1) u.2 tt.heap) (eA E)
theorem c_q_addNetwork (hl0 : l.stackTraces = false) (hrc : zRC Y C x V) (b z : Int32) (h1 : zbok b z) (h2 : (vN V).length < 4) (h3 : (vN V).any (fun w => zovl w (b, z)) = false) : Met l yX7_addNetwork wsX7_addNetwork (zR 8 20 200) (zPre E [.ref x, .int b, .int z] (zQ E (X ++ Y) C)) (zqP E X x (nI (vN V).length) (vN V ++ [(b, z)], V.2)) 20 200 (eA E) :=
  q_chg (c_X7_addNetwork E l hl0 X Y C x V hrc b z) (fun nm h => h.elim (fun h => h.2 h1) (fun h => h.2.2.elim (fun h => by omega) (fun h => by rw [h3] at h; cases h))) (fun r u h => ⟨h.2.2, h.2.1⟩)
theorem c_q_addSubnet (hl0 : l.stackTraces = false) (hrc : zRC Y C x V) (k : Nat) (w : zBk) (b z : Int32) (hk : (vN V)[k]? = some w) (h1 : zbok b z) (h2 : zwin w b z = true) (h3 : (vS V).length < 8) (h4 : (vS V).any (fun (s : zSb) => zovl s.2.1 (b, z)) = false) (hn : (vN V).length ≤ 1000) : Met l yX7_addSubnet wsX7_addSubnet (zR 8 20 200) (zPre E [.ref x, .int (nI k), .int b, .int z] (zQ E (X ++ Y) C)) (zqP E X x (nI (vS V).length) (vN V, vS V ++ [(k, (b, z), [], [])], V.2.2)) 20 200 (eA E) := by
  have hk1 := (List.getElem?_eq_some_iff.mp hk).1
  have eq : ∀ {k2 : Nat} {w2 : zBk}, nI k = nI k2 → (vN V)[k2]? = some w2 → k2 = k ∧ w2 = w := fun e h => by
    have e1 := zn_inj e hk1 (List.getElem?_eq_some_iff.mp h).1 hn
    rw [e1, hk] at h
    exact ⟨e1, (Option.some.inj h).symm⟩
  refine q_chg (c_X7_addSubnet E l hl0 X Y C x V hrc (nI k) b z) (fun nm h => ?_) (fun r u h => ?_)
  · rcases h with ⟨-, h⟩ | ⟨-, -, h⟩ | ⟨-, -, k2, w2, e, h, h5⟩ | ⟨-, -, -, h | h⟩
    · exact h ⟨k, hk1, rfl⟩
    · exact h h1
    · rw [(eq e h).2, h2] at h5
      cases h5
    · omega
    · rw [h4] at h
      cases h
  · obtain ⟨k2, w2, ⟨e, h, -⟩, h5, h6⟩ := h
    rw [(eq e h).1] at h5
    exact ⟨h6, h5⟩
theorem zS_eq {V : zCl} {k : Nat} {v : zSb} (hk : (vS V)[k]? = some v) (hn : (vS V).length ≤ 1000) : ∀ {k2 : Nat} {w2 : zSb}, nI k = nI k2 → (vS V)[k2]? = some w2 → k2 = k ∧ w2 = v := fun e h => by
  have e1 := zn_inj e (List.getElem?_eq_some_iff.mp hk).1 (List.getElem?_eq_some_iff.mp h).1 hn
  rw [e1, hk] at h
  exact ⟨e1, (Option.some.inj h).symm⟩
theorem zG_eq {V : zCl} {k : Nat} {v : List zRl} (hk : (vG V)[k]? = some v) (hn : (vG V).length ≤ 1000) : ∀ {k2 : Nat} {w2 : List zRl}, nI k = nI k2 → (vG V)[k2]? = some w2 → k2 = k ∧ w2 = v := fun e h => by
  have e1 := zn_inj e (List.getElem?_eq_some_iff.mp hk).1 (List.getElem?_eq_some_iff.mp h).1 hn
  rw [e1, hk] at h
  exact ⟨e1, (Option.some.inj h).symm⟩
theorem c_q_addHost (hl0 : l.stackTraces = false) (hrc : zRC Y C x V) (k : Nat) (v : zSb) (a : Int32) (hk : (vS V)[k]? = some v) (h2 : zhs v.2.1.1 v.2.1.2 a = true) (h3 : (vH V).length < 12) (h4 : (vH V).any (fun h => decide (h.2.1 = a)) = false) (hn : (vS V).length ≤ 1000) : Met l yX7_addHost wsX7_addHost (zR 8 20 200) (zPre E [.ref x, .int (nI k), .int a] (zQ E (X ++ Y) C)) (zqP E X x (nI (vH V).length) (vN V, vS V, vH V ++ [(k, a, 0)], vP V, vG V)) 20 200 (eA E) := by
  refine q_chg (c_X7_addHost E l hl0 X Y C x V hrc (nI k) a) (fun nm h => ?_) (fun r u h => ?_)
  · rcases h with ⟨-, h⟩ | ⟨-, k2, w2, e, h, h5⟩ | ⟨-, k2, w2, e, h, h5, h6 | h6⟩
    · exact h ⟨k, (List.getElem?_eq_some_iff.mp hk).1, rfl⟩
    · rw [(zS_eq hk hn e h).2, h2] at h5
      cases h5
    · omega
    · rw [h4] at h6
      cases h6
  · obtain ⟨k2, ⟨e, v2, h, -⟩, h5, h6⟩ := h
    rw [(zS_eq hk hn e h).1] at h5
    exact ⟨h6, h5⟩
theorem c_q_addPeering (hl0 : l.stackTraces = false) (hrc : zRC Y C x V) (k j : Nat) (hk : k < (vN V).length) (hj : j < (vN V).length) (hkj : ¬ k = j) (h6 : (vP V).length < 6) (hn : (vN V).length ≤ 1000) : Met l yX7_addPeering wsX7_addPeering (zR 8 20 200) (zPre E [.ref x, .int (nI k), .int (nI j)] (zQ E (X ++ Y) C)) (zqP E X x (nI (vP V).length) (vN V, vS V, vH V, vP V ++ [(k, j)], vG V)) 20 200 (eA E) := by
  refine q_chg (c_X7_addPeering E l hl0 X Y C x V hrc (nI k) (nI j)) (fun nm h => ?_) (fun r u h => ?_)
  · rcases h with ⟨-, h⟩ | ⟨-, -, h⟩ | ⟨-, -, -, h⟩
    · exact h ⟨⟨k, hk, rfl⟩, ⟨j, hj, rfl⟩⟩
    · exact hkj ((nI_eq (by omega) (by omega)).mp h)
    · omega
  · obtain ⟨k2, j2, ⟨e1, e2, a1, a2, -⟩, h5, h6⟩ := h
    rw [zn_inj e1 hk a1 hn, zn_inj e2 hj a2 hn] at h5
    exact ⟨h6, h5⟩
theorem c_q_addGroup (hl0 : l.stackTraces = false) (hrc : zRC Y C x V) (h6 : (vG V).length < 6) : Met l yX7_addGroup wsX7_addGroup (zR 8 20 200) (zPre E [.ref x] (zQ E (X ++ Y) C)) (zqP E X x (nI (vG V).length) (vN V, vS V, vH V, vP V, vG V ++ [[]])) 20 200 (eA E) :=
  q_chg (c_X7_addGroup E l hl0 X Y C x V hrc) (fun nm h => by have := h.2; omega) (fun r u h => ⟨h.2.2, h.2.1⟩)
theorem c_q_allow (hl0 : l.stackTraces = false) (hrc : zRC Y C x V) (k : Nat) (v : List zRl) (i : Bool) (b z f la : Int32) (hk : (vG V)[k]? = some v) (h1 : zbok b z) (h2 : zpok f la) (h3 : v.length < 10) (hn : (vG V).length ≤ 1000) : Met l yX7_allow wsX7_allow (zR 8 20 200) (zPre E [.ref x, .int (nI k), .int (zb i), .int b, .int z, .int f, .int la] (zQ E (X ++ Y) C)) (zqP E X x (nI (v.length + 1)) (vN V, vS V, vH V, vP V, (vG V).set k (v ++ [(zb i, zb true, (b, z), zps f la)]))) 20 200 (eA E) := by
  refine q_chg (c_X7_allow E l hl0 X Y C x V hrc (nI k) i b z f la) (fun nm h => ?_) (fun r u h => ?_)
  · rcases h with ⟨-, h⟩ | ⟨-, -, h⟩ | ⟨-, -, k2, v2, e, h, h5⟩
    · exact h ⟨k, (List.getElem?_eq_some_iff.mp hk).1, rfl⟩
    · exact h ⟨h1, h2⟩
    · rw [(zG_eq hk hn e h).2] at h5
      omega
  · obtain ⟨k2, v2, ⟨e, h, -⟩, h5, h6⟩ := h
    rw [(zG_eq hk hn e h).1, (zG_eq hk hn e h).2] at h5
    rw [(zG_eq hk hn e h).2] at h6
    exact ⟨h6, h5⟩
theorem c_q_clearGroup (hl0 : l.stackTraces = false) (hrc : zRC Y C x V) (k : Nat) (v : List zRl) (hk : (vG V)[k]? = some v) (hn : (vG V).length ≤ 1000) : Met l yX7_clearGroup wsX7_clearGroup (zR 8 20 200) (zPre E [.ref x, .int (nI k)] (zQ E (X ++ Y) C)) (zqP E X x (nI v.length) (vN V, vS V, vH V, vP V, (vG V).set k [])) 20 200 (eA E) := by
  refine q_chg (c_X7_clearGroup E l hl0 X Y C x V hrc (nI k)) (fun nm h => h.2 ⟨k, (List.getElem?_eq_some_iff.mp hk).1, rfl⟩) (fun r u h => ?_)
  obtain ⟨k2, v2, ⟨e, h⟩, h5, h6⟩ := h
  rw [(zG_eq hk hn e h).1] at h5
  rw [(zG_eq hk hn e h).2] at h6
  exact ⟨h6, h5⟩
theorem c_q_setGroup (hl0 : l.stackTraces = false) (hrc : zRC Y C x V) (k j : Nat) (v : zHo) (i : Bool) (hk : (vH V)[k]? = some v) (hj : j < (vG V).length) (hn : (vH V).length ≤ 1000) : Met l yX7_setGroup wsX7_setGroup (zR 8 20 200) (zPre E [.ref x, .int (nI k), .int (nI j), .int (zb i)] (zQ E (X ++ Y) C)) (zqP E X x (zb (!decide (v.2.2 &&& (1 : Int32) <<< (nI j &&& 31) = 0))) (vN V, vS V, (vH V).set k (v.1, v.2.1, zput v.2.2 (nI j) (zb i)), vP V, vG V)) 20 200 (eA E) := by
  have hk1 := (List.getElem?_eq_some_iff.mp hk).1
  refine q_chg (c_X7_setGroup E l hl0 X Y C x V hrc (nI k) (nI j) i) (fun nm h => h.2 ⟨⟨k, hk1, rfl⟩, ⟨j, hj, rfl⟩⟩) (fun r u h => ?_)
  obtain ⟨k2, j2, v2, ⟨e, -, -, h⟩, h5, h6⟩ := h
  have e1 := zn_inj e hk1 (List.getElem?_eq_some_iff.mp h).1 hn
  rw [e1, hk] at h
  cases h
  rw [e1] at h5
  exact ⟨h6, h5⟩
theorem c_q_putRule (hl0 : l.stackTraces = false) (hrc : zRC Y C x V) (k j : Nat) (v : zSb) (i al : Bool) (b z fp la : Int32) (hk : (vS V)[k]? = some v) (hj : j ≤ v.2.2.1.length) (h1 : zbok b z) (h2 : zpok fp la) (h3 : v.2.2.1.length < 12) (hn : (vS V).length ≤ 1000) : Met l yX7_putRule wsX7_putRule (zR 8 20 200) (zPre E [.ref x, .int (nI k), .int (nI j), .int (zb i), .int (zb al), .int b, .int z, .int fp, .int la] (zQ E (X ++ Y) C)) (zqP E X x (nI (v.2.2.1.length + 1)) (vN V, (vS V).set k (v.1, v.2.1, v.2.2.1.insertIdx j (zb i, zb al, (b, z), zps fp la), v.2.2.2), V.2.2)) 20 200 (eA E) := by
  have hz : ∃ (k2 j2 : Nat) (v2 : zSb), nI k = nI k2 ∧ (vS V)[k2]? = some v2 ∧ nI j = nI j2 ∧ j2 ≤ v2.2.2.1.length := ⟨k, j, v, rfl, hk, rfl, hj⟩
  refine q_chg (c_X7_putRule E l hl0 X Y C x V hrc (nI k) (nI j) i al b z fp la) (fun nm h => ?_) (fun r u h => ?_)
  · rcases h with ⟨-, h⟩ | ⟨-, -, h⟩ | ⟨-, -, k2, j2, v2, ⟨e, h, -⟩, h5⟩
    · exact h hz
    · exact h ⟨h1, h2⟩
    · rw [(zS_eq hk hn e h).2] at h5
      omega
  · obtain ⟨k2, j2, v2, ⟨⟨e, h, e2, h2⟩, -⟩, h5, h6⟩ := h
    rw [(zS_eq hk hn e h).2] at h2
    rw [(zS_eq hk hn e h).1, (zS_eq hk hn e h).2, zn_ge e2 (by omega) (by omega)] at h5
    rw [(zS_eq hk hn e h).2] at h6
    exact ⟨h6, h5⟩
theorem c_q_removeRule (hl0 : l.stackTraces = false) (hrc : zRC Y C x V) (k j : Nat) (v : zSb) (hk : (vS V)[k]? = some v) (hj : j < v.2.2.1.length) (h3 : v.2.2.1.length ≤ 12) (hn : (vS V).length ≤ 1000) : Met l yX7_removeRule wsX7_removeRule (zR 8 20 200) (zPre E [.ref x, .int (nI k), .int (nI j)] (zQ E (X ++ Y) C)) (zqP E X x (nI (v.2.2.1.length - 1)) (vN V, (vS V).set k (v.1, v.2.1, v.2.2.1.eraseIdx j, v.2.2.2), V.2.2)) 20 200 (eA E) := by
  refine q_chg (c_X7_removeRule E l hl0 X Y C x V hrc (nI k) (nI j)) (fun nm h => h.2 ⟨k, j, v, rfl, hk, rfl, hj⟩) (fun r u h => ?_)
  obtain ⟨k2, j2, v2, ⟨e, h, e2, h2⟩, h5, h6⟩ := h
  rw [(zS_eq hk hn e h).2] at h2
  rw [(zS_eq hk hn e h).1, (zS_eq hk hn e h).2, zn_ge e2 (by omega) (by omega)] at h5
  rw [(zS_eq hk hn e h).2] at h6
  exact ⟨h6, h5⟩
/-- setRoute's end: by its relation -/
abbrev zqR (E : zG) (X : va_W) (x : Nat) (V : zCl) (f b z pe : Int32) : Array Value → State → Outcome → State → Prop := va_Qi (fun r (u : (va_W × zLs) × zCl) => zA_setRoute V f b z pe 0 r u.2 ∧ zRC u.1.1 u.1.2 x u.2) (fun u tt => zQ E (X ++ u.1.1) u.1.2 tt.heap) (eA E)
theorem c_q_setRoute (hl0 : l.stackTraces = false) (hrc : zRC Y C x V) (k : Nat) (v : zSb) (b z pe : Int32) (hk : (vS V)[k]? = some v) (h1 : zbok b z) (h2 : pe = -1 ∨ zix pe (vP V).length) (h3 : (∃ w ∈ v.2.2.2, w.1 = (b, z)) ∨ v.2.2.2.length < 8) (hn : (vS V).length ≤ 1000) : Met l yX7_setRoute wsX7_setRoute (zR 8 20 200) (zPre E [.ref x, .int (nI k), .int b, .int z, .int pe] (zQ E (X ++ Y) C)) (zqR E X x V (nI k) b z pe) 20 200 (eA E) := by
  refine q_no (c_X7_setRoute E l hl0 X Y C x V hrc (nI k) b z pe) (fun nm h => ?_) (fun a s o t hq => ?_)
  · rcases h with ⟨-, h⟩ | ⟨-, -, h⟩ | ⟨-, -, -, -, k2, v2, e, h, h5, h6⟩
    · exact h ⟨⟨k, (List.getElem?_eq_some_iff.mp hk).1, rfl⟩, h2⟩
    · exact h h1
    · rw [(zS_eq hk hn e h).2] at h5 h6
      rcases h3 with ⟨w, hw, ew⟩ | h3
      · exact h6 w hw ⟨congrArg Prod.fst ew, congrArg Prod.snd ew⟩
      · omega
  · obtain ⟨⟨r, u, e, hp, hB⟩, hF⟩ := hq
    obtain ⟨V1, hr, hz⟩ := zs_setRoute hp
    exact ⟨⟨r, (u, V1), e, ⟨hr, hz⟩, hB⟩, hF⟩
end
