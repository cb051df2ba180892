/-! the whole cloud as a value V: networks, subnets (network's number, block, rules, routes), hosts (subnet's number, address, groups), peerings, groups; and how the class holds it -/
abbrev zSb : Type := Nat × zBk × List zRl × List zRt
abbrev zHo : Type := Nat × Int32 × Int32
abbrev zCl : Type := List zBk × List zSb × List zHo × List (Nat × Nat) × List (List zRl)
abbrev vN (V : zCl) : List zBk := V.1
abbrev vS (V : zCl) : List zSb := V.2.1
abbrev vH (V : zCl) : List zHo := V.2.2.1
abbrev vP (V : zCl) : List (Nat × Nat) := V.2.2.2.1
abbrev vG (V : zCl) : List (List zRl) := V.2.2.2.2
def zsb (Y : va_W) (C : zLs) (ns : List Nat) (ro : Nat → Nat × Nat) (rw : Nat → Nat) (a : Nat) (v : zSb) : Prop := ∃ (nw bk rl rt : Nat) (es fs : List Nat), (a, Sum.inr (9, [.ref nw, .ref bk, .ref rl, .ref rt])) ∈ Y ∧ ns[v.1]? = some nw ∧ (bk, Sum.inr (3, [.int v.2.1.1, .int v.2.1.2])) ∈ Y ∧ (C rl = some es ∧ zls (zrl Y) es v.2.2.1 ∧ es.Nodup ∧ es.length ≤ 12) ∧ (C rt = some fs ∧ zls (zrt Y) fs v.2.2.2 ∧ fs.Nodup ∧ fs.length ≤ 8) ∧ ro rl = (1, a) ∧ ro rt = (2, a) ∧ ∀ r ∈ fs, rw r = a
def zho (Y : va_W) (ss : List Nat) (a : Nat) (v : zHo) : Prop := ∃ sb : Nat, (a, Sum.inr (5, [.ref sb, .int v.2.1, .int v.2.2])) ∈ Y ∧ ss[v.1]? = some sb
def zgo (Y : va_W) (C : zLs) (ro : Nat → Nat × Nat) (a : Nat) (v : List zRl) : Prop := ∃ (q : Nat) (es : List Nat), (a, Sum.inr (4, [.ref q])) ∈ Y ∧ C q = some es ∧ zls (zrl Y) es v ∧ es.length ≤ 10 ∧ ro q = (3, a)
/-- the five lists and their owners -/
def zRCb (Y : va_W) (C : zLs) (x : Nat) (V : zCl) (q0 q1 q2 q3 q4 : Nat) (ns ss hs ps gs : List Nat) (ro : Nat → Nat × Nat) (rw : Nat → Nat) : Prop :=
  (x, Sum.inr (10, [.ref q0, .ref q1, .ref q2, .ref q3, .ref q4])) ∈ Y ∧
  (C q0 = some ns ∧ C q1 = some ss ∧ C q2 = some hs ∧ C q3 = some ps ∧ C q4 = some gs) ∧
  (zls (zbk Y) ns (vN V) ∧ zls (zsb Y C ns ro rw) ss (vS V) ∧ zls (zho Y ss) hs (vH V) ∧ zls (zpr Y ns) ps (vP V) ∧ zls (zgo Y C ro) gs (vG V)) ∧
  (ns.Nodup ∧ ss.Nodup ∧ hs.Nodup ∧ gs.Nodup) ∧
  (ro q0 = (0, 0) ∧ ro q1 = (0, 1) ∧ ro q2 = (0, 2) ∧ ro q3 = (0, 3) ∧ ro q4 = (0, 4)) ∧
  (ns.length ≤ 4 ∧ ss.length ≤ 8 ∧ hs.length ≤ 12 ∧ ps.length ≤ 6 ∧ gs.length ≤ 6)
def zRC (Y : va_W) (C : zLs) (x : Nat) (V : zCl) : Prop := ∃ (q0 q1 q2 q3 q4 : Nat) (ns ss hs ps gs : List Nat) (ro : Nat → Nat × Nat) (rw : Nat → Nat), zRCb Y C x V q0 q1 q2 q3 q4 ns ss hs ps gs ro rw
theorem zls.imp {α : Type} {P P' : Nat → α → Prop} {as : List Nat} {vs : List α} (h : zls P as vs) (hp : ∀ a v, P a v → P' a v) : zls P' as vs := ⟨h.1, fun i a v h1 h2 => hp a v (h.2 i a v h1 h2)⟩
theorem zrl.grow {Y Y' : va_W} (hY : ∀ q ∈ Y, q ∈ Y') {a : Nat} {v : zRl} (h : zrl Y a v) : zrl Y' a v := by
  obtain ⟨b, h1, h2⟩ := h
  exact ⟨b, hY _ h1, hY _ h2⟩
theorem zrt.grow {Y Y' : va_W} (hY : ∀ q ∈ Y, q ∈ Y') {a : Nat} {v : zRt} (h : zrt Y a v) : zrt Y' a v := by
  obtain ⟨b, h1, h2⟩ := h
  exact ⟨b, hY _ h1, hY _ h2⟩
theorem zpr.grow {Y Y' : va_W} (hY : ∀ q ∈ Y, q ∈ Y') {ns : List Nat} {a : Nat} {v : Nat × Nat} (h : zpr Y ns a v) : zpr Y' ns a v := by
  obtain ⟨o1, o2, h1, h2, h3⟩ := h
  exact ⟨o1, o2, hY _ h1, h2, h3⟩
theorem zsb.grow {Y Y' : va_W} (hY : ∀ q ∈ Y, q ∈ Y') {C : zLs} {ns : List Nat} {ro : Nat → Nat × Nat} {rw : Nat → Nat} {a : Nat} {v : zSb} (h : zsb Y C ns ro rw a v) : zsb Y' C ns ro rw a v := by
  obtain ⟨nw, bk, rl, rt, es, fs, h1, h2, h3, ⟨h4, h5, h6⟩, ⟨h7, h8, h9⟩, h10⟩ := h
  exact ⟨nw, bk, rl, rt, es, fs, hY _ h1, h2, hY _ h3, ⟨h4, h5.imp (fun _ _ h => h.grow hY), h6⟩, ⟨h7, h8.imp (fun _ _ h => h.grow hY), h9⟩, h10⟩
theorem zho.grow {Y Y' : va_W} (hY : ∀ q ∈ Y, q ∈ Y') {ss : List Nat} {a : Nat} {v : zHo} (h : zho Y ss a v) : zho Y' ss a v := by
  obtain ⟨sb, h1, h2⟩ := h
  exact ⟨sb, hY _ h1, h2⟩
theorem zgo.grow {Y Y' : va_W} (hY : ∀ q ∈ Y, q ∈ Y') {C : zLs} {ro : Nat → Nat × Nat} {a : Nat} {v : List zRl} (h : zgo Y C ro a v) : zgo Y' C ro a v := by
  obtain ⟨q, es, h1, h2, h3, h4⟩ := h
  exact ⟨q, es, hY _ h1, h2, h3.imp (fun _ _ h => h.grow hY), h4⟩
theorem zRCb.grow {Y Y' : va_W} (hY : ∀ q ∈ Y, q ∈ Y') {C : zLs} {x : Nat} {V : zCl} {q0 q1 q2 q3 q4 : Nat} {ns ss hs ps gs : List Nat} {ro : Nat → Nat × Nat} {rw : Nat → Nat} (h : zRCb Y C x V q0 q1 q2 q3 q4 ns ss hs ps gs ro rw) : zRCb Y' C x V q0 q1 q2 q3 q4 ns ss hs ps gs ro rw := by
  obtain ⟨h1, h2, ⟨h3, h4, h5, h6, h7⟩, h8⟩ := h
  exact ⟨hY _ h1, h2, ⟨h3.imp (fun _ _ h => hY _ h), h4.imp (fun _ _ h => h.grow hY), h5.imp (fun _ _ h => h.grow hY), h6.imp (fun _ _ h => h.grow hY), h7.imp (fun _ _ h => h.grow hY)⟩, h8⟩
theorem zRC.grow {Y Y' : va_W} (hY : ∀ q ∈ Y, q ∈ Y') {C : zLs} {x : Nat} {V : zCl} (h : zRC Y C x V) : zRC Y' C x V := by
  obtain ⟨q0, q1, q2, q3, q4, ns, ss, hs, ps, gs, ro, rw, h⟩ := h
  exact ⟨q0, q1, q2, q3, q4, ns, ss, hs, ps, gs, ro, rw, h.grow hY⟩
/-- a subnet's value, its network's block beside it -/
def zsv (V : zCl) (s : Nat) : zSv := (((vS V).getD s (0, (0, 0), [], [])).1, (vN V).getD ((vS V).getD s (0, (0, 0), [], [])).1 (0, 0), ((vS V).getD s (0, (0, 0), [], [])).2.2.1, ((vS V).getD s (0, (0, 0), [], [])).2.2.2)
def zhv (V : zCl) (i : Nat) : zHo := (vH V).getD i (0, 0, 0)
def zworkV (V : zCl) (f t : Nat) : Int32 := zwork (vG V) (vP V) (zhv V f).1 (zhv V t).1 (zsv V (zhv V f).1) (zsv V (zhv V t).1) (zhv V f).2.1 (zhv V f).2.2 (zhv V t).2.1 (zhv V t).2.2 8
def zopenV (V : zCl) (p f t : Nat) : Int32 := zopen (vG V) (vP V) p (zhv V f).1 (zhv V t).1 (zsv V (zhv V f).1) (zsv V (zhv V t).1) (zhv V f).2.1 (zhv V f).2.2 (zhv V t).2.1 (zhv V t).2.2
theorem zls.get {α : Type} {P : Nat → α → Prop} {as : List Nat} {vs : List α} (h : zls P as vs) {i a : Nat} (hi : as[i]? = some a) : ∃ v, vs[i]? = some v ∧ P a v := by
  have hl : i < as.length := (List.getElem?_eq_some_iff.mp hi).1
  have hj : i < vs.length := by rw [← h.1]; exact hl
  exact ⟨vs[i], List.getElem?_eq_getElem hj, h.2 i a _ hi (List.getElem?_eq_getElem hj)⟩
theorem zRCb.sf {Z : va_W} {C : zLs} {x : Nat} {V : zCl} {q0 q1 q2 q3 q4 : Nat} {ns ss hs ps gs : List Nat} {ro : Nat → Nat × Nat} {rw : Nat → Nat} (h : zRCb Z C x V q0 q1 q2 q3 q4 ns ss hs ps gs ro rw) {i sb : Nat} (hi : ss[i]? = some sb) : zsf Z C ns sb (zsv V i) := by
  obtain ⟨-, -, ⟨h3, h4, -, -, -⟩, -⟩ := h
  obtain ⟨v, hv, nw, bk, rl, rt, es, fs, k1, k2, k3, ⟨k4, k5, k6, k7⟩, ⟨k8, k9, k10, k11⟩, -⟩ := h4.get hi
  obtain ⟨w, hw, kw⟩ := h3.get k2
  have e1 : (vS V).getD i (0, (0, 0), [], []) = v := by rw [List.getD_eq_getElem?_getD, hv]; rfl
  have e2 : (vN V).getD v.1 (0, 0) = w := by rw [List.getD_eq_getElem?_getD, hw]; rfl
  unfold zsv
  rw [e1, e2]
  exact ⟨nw, bk, rl, rt, es, fs, k1, k2, kw, k4, k5, by omega, k8, k9, by omega⟩
theorem zRCb.hf {Z : va_W} {C : zLs} {x : Nat} {V : zCl} {q0 q1 q2 q3 q4 : Nat} {ns ss hs ps gs : List Nat} {ro : Nat → Nat × Nat} {rw : Nat → Nat} (h : zRCb Z C x V q0 q1 q2 q3 q4 ns ss hs ps gs ro rw) {i a : Nat} (hi : hs[i]? = some a) : zhf Z C ns ss a (zhv V i).1 (zsv V (zhv V i).1) (zhv V i).2.1 (zhv V i).2.2 := by
  have h0 := h
  obtain ⟨-, -, ⟨-, -, h5, -, -⟩, -⟩ := h
  obtain ⟨v, hv, sb, k1, k2⟩ := h5.get hi
  have e1 : zhv V i = v := by unfold zhv; rw [List.getD_eq_getElem?_getD, hv]; rfl
  rw [e1]
  exact ⟨sb, k1, k2, h0.sf k2⟩
theorem zRCb.cf {Z : va_W} {C : zLs} {x : Nat} {V : zCl} {q0 q1 q2 q3 q4 : Nat} {ns ss hs ps gs : List Nat} {ro : Nat → Nat × Nat} {rw : Nat → Nat} (h : zRCb Z C x V q0 q1 q2 q3 q4 ns ss hs ps gs ro rw) : zcf Z C x ns ss (vG V) (vP V) := by
  obtain ⟨h1, ⟨-, -, -, c3, c4⟩, ⟨-, -, -, h6, h7⟩, ⟨n1, n2, -, -⟩, -, l1, l2, l3, l4, l5⟩ := h
  exact ⟨q0, q1, q2, q3, q4, gs, ps, h1, c4, h7.imp (fun _ _ h => by obtain ⟨q, es, a1, a2, a3, a4, -⟩ := h; exact ⟨q, es, a1, a2, a3, a4⟩), by omega, c3, h6, by omega, n1, n2⟩
theorem zRCb.hel {Z : va_W} {C : zLs} {x : Nat} {V : zCl} {q0 q1 q2 q3 q4 : Nat} {ns ss hs ps gs : List Nat} {ro : Nat → Nat × Nat} {rw : Nat → Nat} (h : zRCb Z C x V q0 q1 q2 q3 q4 ns ss hs ps gs ro rw) : ∀ y ∈ hs, ∃ fs : List Value, (y, Sum.inr (5, fs)) ∈ Z := by
  intro y hy
  obtain ⟨i, hi⟩ := List.getElem?_of_mem hy
  obtain ⟨v, -, sb, k1, -⟩ := h.2.2.1.2.2.1.get hi
  exact ⟨_, k1⟩
theorem zRCb.nel {Z : va_W} {C : zLs} {x : Nat} {V : zCl} {q0 q1 q2 q3 q4 : Nat} {ns ss hs ps gs : List Nat} {ro : Nat → Nat × Nat} {rw : Nat → Nat} (h : zRCb Z C x V q0 q1 q2 q3 q4 ns ss hs ps gs ro rw) : ∀ y ∈ ns, ∃ fs : List Value, (y, Sum.inr (3, fs)) ∈ Z := by
  intro y hy
  obtain ⟨i, hi⟩ := List.getElem?_of_mem hy
  obtain ⟨v, -, k1⟩ := h.2.2.1.1.get hi
  exact ⟨_, k1⟩
theorem zRCb.sel {Z : va_W} {C : zLs} {x : Nat} {V : zCl} {q0 q1 q2 q3 q4 : Nat} {ns ss hs ps gs : List Nat} {ro : Nat → Nat × Nat} {rw : Nat → Nat} (h : zRCb Z C x V q0 q1 q2 q3 q4 ns ss hs ps gs ro rw) : ∀ y ∈ ss, ∃ fs : List Value, (y, Sum.inr (9, fs)) ∈ Z := by
  intro y hy
  obtain ⟨i, hi⟩ := List.getElem?_of_mem hy
  obtain ⟨v, -, nw, bk, rl, rt, es, fs, k1, -⟩ := h.2.2.1.2.1.get hi
  exact ⟨_, k1⟩
theorem zRCb.gel {Z : va_W} {C : zLs} {x : Nat} {V : zCl} {q0 q1 q2 q3 q4 : Nat} {ns ss hs ps gs : List Nat} {ro : Nat → Nat × Nat} {rw : Nat → Nat} (h : zRCb Z C x V q0 q1 q2 q3 q4 ns ss hs ps gs ro rw) : ∀ y ∈ gs, ∃ fs : List Value, (y, Sum.inr (4, fs)) ∈ Z := by
  intro y hy
  obtain ⟨i, hi⟩ := List.getElem?_of_mem hy
  obtain ⟨v, -, q, es, k1, -⟩ := h.2.2.1.2.2.2.2.get hi
  exact ⟨_, k1⟩
/-- an index in range -/
def zix (i : Int32) (n : Nat) : Prop := ∃ k, k < n ∧ i = nI k
