/-! the reference's cells behind a change -/
def zMZ (g : Nat → Nat → Int32) (W : zCl) : Prop := (∀ i, (vS W).length ≤ i → g 18 i = 0 ∧ g 23 i = 0) ∧ (∀ i, (vH W).length ≤ i → g 9 i = 0) ∧ (∀ i, (vG W).length ≤ i → g 14 i = 0) ∧ ∀ q, vp_nar .boolean (g 15 q) = g 15 q ∧ vp_nar .boolean (g 19 q) = g 19 q ∧ vp_nar .boolean (g 20 q) = g 20 q
def zMT (sc : Nat → Int32) (g : Nat → Nat → Int32) (W : zCl) : Prop := zMR sc g W ∧ zMZ g W
theorem zMT_0 {sc : Nat → Int32} {g : Nat → Nat → Int32} {V : zCl} (h : zMT sc g V) (c : Int32) : zMT (va_up sc 0 c) g V := h
abbrev zU : Type := Nat × (Nat → Int32) × (Nat → Nat → Int32) × zCl
abbrev zPm (E : zG) (X : va_W) (C : zLs) (y : Nat) (ad : Nat → Nat) (rel : Nat → Int32 → zCl → Prop) : Array Value → State → Outcome → State → Prop := va_Qi (fun r (u : zU) => rel u.1 r u.2.2.2 ∧ zMT u.2.1 u.2.2.1 u.2.2.2 ∧ u.2.1 0 = nI u.1) (fun u tt => zQ E (X ++ zMw E y ad u.2.1 u.2.2.1) C tt.heap) (eA E)
theorem zn_b (b : Bool) : vp_nar .boolean (zb b) = zb b := by cases b <;> rfl
theorem zn_upd {f : Nat → Int32} (h : ∀ q, vp_nar .boolean (f q) = f q) {v : Int32} (hv : vp_nar .boolean v = v) (k : Nat) : ∀ q, vp_nar .boolean (upd f k v q) = upd f k v q := by
  intro q
  by_cases e : q = k
  · rw [e, pk_us]; exact hv
  · rw [pk_un e]; exact h q
theorem z_apat {α : Type} {l : List α} {a : α} {i : Nat} {v : α} (h : (l ++ [a])[i]? = some v) : (i < l.length ∧ l[i]? = some v) ∨ (i = l.length ∧ v = a) := by
  rcases Nat.lt_trichotomy i l.length with q | q | q
  · rw [List.getElem?_append_left q] at h
    exact Or.inl ⟨q, h⟩
  · rw [List.getElem?_append_right (by omega), q, Nat.sub_self] at h
    cases h
    exact Or.inr ⟨q, rfl⟩
  · rw [List.getElem?_eq_none (by rw [List.length_append]; exact q)] at h
    cases h
theorem z_stat {α : Type} {l : List α} {a : α} {k i : Nat} {v : α} (h : (l.set k a)[i]? = some v) : (i ≠ k ∧ l[i]? = some v) ∨ (i = k ∧ v = a) := by
  rw [List.getElem?_set] at h
  by_cases e : k = i
  · rw [if_pos e] at h
    by_cases e2 : k < l.length
    · rw [if_pos e2] at h
      cases h
      exact Or.inr ⟨e.symm, rfl⟩
    · rw [if_neg e2] at h
      cases h
  · rw [if_neg e] at h
    exact Or.inl ⟨fun q => e q.symm, h⟩
theorem z_l1 {α : Type} (l : List α) (a : α) : (l ++ [a]).length = l.length + 1 := by rw [List.length_append]; rfl
section
variable {sc : Nat → Int32} {g : Nat → Nat → Int32} {V : zCl}
theorem zMT_addN (h : zMT sc g V) (hn : (vN V).length < 4) (w : zBk) : zMT (va_up sc 1 (nI ((vN V).length + 1))) (va_up g 2 (upd (g 2) (vN V).length (zbi w))) (vN V ++ [w], V.2) := by
  obtain ⟨⟨⟨n1, n2, n3⟩, ⟨s1, s2, s3⟩, hH, ⟨p1, p2, p3⟩, hG⟩, hZ⟩ := h
  have hl := z_l1 (vN V) w
  refine ⟨⟨⟨congrArg nI hl.symm, by show (vN V ++ [w]).length ≤ 4; omega, fun i u hu => ?_⟩, ⟨s1, s2, fun i v hv => ?_⟩, hH, ⟨p1, p2, fun i q hq => ?_⟩, hG⟩, hZ⟩
  · show upd (g 2) (vN V).length (zbi w) i = zbi u
    rcases z_apat hu with ⟨a, b⟩ | ⟨a, b⟩
    · rw [pk_un (Nat.ne_of_lt a)]; exact n3 i u b
    · rw [a, b, pk_us]
  · have h := s3 i v hv
    exact ⟨⟨h.1.1, by show v.1 < (vN V ++ [w]).length; have := h.1.2; omega⟩, h.2⟩
  · have h := p3 i q hq
    exact ⟨⟨h.1.1, by show q.1 < (vN V ++ [w]).length; have := h.1.2; omega⟩, h.2.1, by show q.2 < (vN V ++ [w]).length; have := h.2.2; omega⟩
theorem zMT_addS (h : zMT sc g V) (hn : (vS V).length < 8) {k : Nat} (hk : k < (vN V).length) (w : zBk) : zMT (va_up sc 3 (nI ((vS V).length + 1))) (va_up (va_up g 4 (upd (g 4) (vS V).length (nI k))) 5 (upd (g 5) (vS V).length (zbi w))) (vN V, vS V ++ [(k, w, [], [])], V.2.2) := by
  obtain ⟨⟨hN, ⟨s1, s2, s3⟩, ⟨h1, h2, h3⟩, hP, hG⟩, ⟨z1, z2⟩⟩ := h
  have hl := z_l1 (vS V) (k, w, [], [])
  refine ⟨⟨hN, ⟨congrArg nI hl.symm, by show (vS V ++ [(k, w, [], [])]).length ≤ 8; omega, fun i v hv => ?_⟩, ⟨h1, h2, fun i y hy => ?_⟩, hP, hG⟩, ⟨fun i hi => z1 i (by have hi : (vS V ++ [(k, w, [], [])]).length ≤ i := hi; omega), z2⟩⟩
  · rcases z_apat hv with ⟨a, b⟩ | ⟨a, b⟩
    · obtain ⟨⟨c1, c2⟩, c3, c4⟩ := s3 i v b
      exact ⟨⟨by show upd (g 4) (vS V).length (nI k) i = _; rw [pk_un (Nat.ne_of_lt a)]; exact c1, c2⟩, by show upd (g 5) (vS V).length (zbi w) i = _; rw [pk_un (Nat.ne_of_lt a)]; exact c3, c4⟩
    · obtain ⟨y1, y2⟩ := z1 (vS V).length (Nat.le_refl _)
      rw [a, b]
      exact ⟨⟨pk_us, hk⟩, pk_us, ⟨y1, Nat.zero_le _, fun j r h => by simp at h⟩, ⟨y2, Nat.zero_le _, fun j r h => by simp at h⟩⟩
  · obtain ⟨⟨c1, c2⟩, c3⟩ := h3 i y hy
    exact ⟨⟨c1, by show y.1 < (vS V ++ [(k, w, [], [])]).length; omega⟩, c3⟩
theorem zMT_addH (h : zMT sc g V) (hn : (vH V).length < 12) {k : Nat} (hk : k < (vS V).length) (a : Int32) : zMT (va_up sc 6 (nI ((vH V).length + 1))) (va_up (va_up g 7 (upd (g 7) (vH V).length (nI k))) 8 (upd (g 8) (vH V).length a)) (vN V, vS V, vH V ++ [(k, a, 0)], vP V, vG V) := by
  obtain ⟨⟨hN, hS, ⟨h1, h2, h3⟩, hP, hG⟩, ⟨z1, z2, z3⟩⟩ := h
  have hl := z_l1 (vH V) (k, a, 0)
  refine ⟨⟨hN, hS, ⟨congrArg nI hl.symm, by show (vH V ++ [(k, a, 0)]).length ≤ 12; omega, fun i y hy => ?_⟩, hP, hG⟩, ⟨z1, fun i hi => z2 i (by have hi : (vH V ++ [(k, a, 0)]).length ≤ i := hi; omega), z3⟩⟩
  rcases z_apat hy with ⟨c, b⟩ | ⟨c, b⟩
  · obtain ⟨⟨c1, c2⟩, c3, c4⟩ := h3 i y b
    exact ⟨⟨by show upd (g 7) (vH V).length (nI k) i = _; rw [pk_un (Nat.ne_of_lt c)]; exact c1, c2⟩, by show upd (g 8) (vH V).length a i = _; rw [pk_un (Nat.ne_of_lt c)]; exact c3, c4⟩
  · rw [c, b]
    exact ⟨⟨pk_us, hk⟩, pk_us, z2 _ (Nat.le_refl _)⟩
theorem zMT_addP (h : zMT sc g V) (hn : (vP V).length < 6) {k j : Nat} (hk : k < (vN V).length) (hj : j < (vN V).length) : zMT (va_up sc 10 (nI ((vP V).length + 1))) (va_up (va_up g 11 (upd (g 11) (vP V).length (nI k))) 12 (upd (g 12) (vP V).length (nI j))) (vN V, vS V, vH V, vP V ++ [(k, j)], vG V) := by
  obtain ⟨⟨hN, hS, hH, ⟨p1, p2, p3⟩, hG⟩, hZ⟩ := h
  have hl := z_l1 (vP V) (k, j)
  refine ⟨⟨hN, hS, hH, ⟨congrArg nI hl.symm, by show (vP V ++ [(k, j)]).length ≤ 6; omega, fun i q hq => ?_⟩, hG⟩, hZ⟩
  rcases z_apat hq with ⟨c, b⟩ | ⟨c, b⟩
  · obtain ⟨⟨c1, c2⟩, c3, c4⟩ := p3 i q b
    exact ⟨⟨by show upd (g 11) (vP V).length (nI k) i = _; rw [pk_un (Nat.ne_of_lt c)]; exact c1, c2⟩, by show upd (g 12) (vP V).length (nI j) i = _; rw [pk_un (Nat.ne_of_lt c)]; exact c3, c4⟩
  · rw [c, b]
    exact ⟨⟨pk_us, hk⟩, pk_us, hj⟩
theorem zMT_addG (h : zMT sc g V) (hn : (vG V).length < 6) : zMT (va_up sc 13 (nI ((vG V).length + 1))) g (vN V, vS V, vH V, vP V, vG V ++ [[]]) := by
  obtain ⟨⟨hN, hS, hH, hP, ⟨g1, g2, g3⟩⟩, ⟨z1, z2, z3, z4⟩⟩ := h
  have hl := z_l1 (vG V) []
  refine ⟨⟨hN, hS, hH, hP, ⟨congrArg nI hl.symm, by show (vG V ++ [[]]).length ≤ 6; omega, fun i v hv => ?_⟩⟩, ⟨z1, z2, fun i hi => z3 i (by have hi : (vG V ++ [[]]).length ≤ i := hi; omega), z4⟩⟩
  rcases z_apat hv with ⟨c, b⟩ | ⟨c, b⟩
  · exact g3 i v b
  · rw [c, b]
    exact ⟨z3 _ (Nat.le_refl _), Nat.zero_le _, fun j r h => by simp at h⟩
theorem zMT_allow (h : zMT sc g V) {k : Nat} {v : List zRl} (hv : (vG V)[k]? = some v) (hl : v.length < 10) (i : Bool) (w : zBk) (po : Int32) : zMT sc (va_up (va_up (va_up (va_up g 15 (upd (g 15) (10 * k + v.length) (zb i))) 16 (upd (g 16) (10 * k + v.length) (zbi w))) 17 (upd (g 17) (10 * k + v.length) po)) 14 (upd (g 14) k (nI (v.length + 1)))) (vN V, vS V, vH V, vP V, (vG V).set k (v ++ [(zb i, zb true, w, po)])) := by
  obtain ⟨⟨hN, hS, hH, hP, ⟨g1, g2, g3⟩⟩, ⟨z1, z2, z3, z4⟩⟩ := h
  have hk := (List.getElem?_eq_some_iff.mp hv).1
  have hls : ((vG V).set k (v ++ [(zb i, zb true, w, po)])).length = (vG V).length := List.length_set
  refine ⟨⟨hN, hS, hH, hP, ⟨by show sc 13 = nI ((vG V).set k _).length; rw [hls]; exact g1, by show ((vG V).set k _).length ≤ 6; omega, fun n u hu => ?_⟩⟩, ⟨z1, z2, fun n hn => ?_, fun q => ⟨zn_upd (fun q => (z4 q).1) (zn_b i) _ q, (z4 q).2⟩⟩⟩
  · rcases z_stat hu with ⟨c, b⟩ | ⟨c, b⟩
    · obtain ⟨e1, e2, e3⟩ := g3 n u b
      have hn := (List.getElem?_eq_some_iff.mp b).1
      refine ⟨by show upd (g 14) k _ n = _; rw [pk_un c]; exact e1, e2, fun j r hr => ?_⟩
      have hj := (List.getElem?_eq_some_iff.mp hr).1
      obtain ⟨f1, f2, f3⟩ := e3 j r hr
      have ne : 10 * n + j ≠ 10 * k + v.length := by omega
      exact ⟨by show upd (g 15) _ _ _ = _; rw [pk_un ne]; exact f1, by show upd (g 16) _ _ _ = _; rw [pk_un ne]; exact f2, by show upd (g 17) _ _ _ = _; rw [pk_un ne]; exact f3⟩
    · obtain ⟨e1, e2, e3⟩ := g3 k v hv
      have hl1 := z_l1 v (zb i, zb true, w, po)
      rw [c, b]
      refine ⟨by show upd (g 14) k _ k = _; rw [pk_us, hl1], by omega, fun j r hr => ?_⟩
      rcases z_apat hr with ⟨p, q⟩ | ⟨p, q⟩
      · obtain ⟨f1, f2, f3⟩ := e3 j r q
        have ne : 10 * k + j ≠ 10 * k + v.length := by omega
        exact ⟨by show upd (g 15) _ _ _ = _; rw [pk_un ne]; exact f1, by show upd (g 16) _ _ _ = _; rw [pk_un ne]; exact f2, by show upd (g 17) _ _ _ = _; rw [pk_un ne]; exact f3⟩
      · rw [p, q]
        exact ⟨pk_us, pk_us, pk_us⟩
  · have hn : ((vG V).set k (v ++ [(zb i, zb true, w, po)])).length ≤ n := hn
    show upd (g 14) k _ n = 0
    rw [pk_un (by omega)]
    exact z3 n (by omega)
theorem zMT_clear (h : zMT sc g V) {k : Nat} (hk : k < (vG V).length) : zMT sc (va_up g 14 (upd (g 14) k (nI 0))) (vN V, vS V, vH V, vP V, (vG V).set k []) := by
  obtain ⟨⟨hN, hS, hH, hP, ⟨g1, g2, g3⟩⟩, ⟨z1, z2, z3, z4⟩⟩ := h
  have hls : ((vG V).set k []).length = (vG V).length := List.length_set
  refine ⟨⟨hN, hS, hH, hP, ⟨by show sc 13 = nI ((vG V).set k _).length; rw [hls]; exact g1, by show ((vG V).set k _).length ≤ 6; omega, fun n u hu => ?_⟩⟩, ⟨z1, z2, fun n hn => ?_, z4⟩⟩
  · rcases z_stat hu with ⟨c, b⟩ | ⟨c, b⟩
    · obtain ⟨e1, e2, e3⟩ := g3 n u b
      exact ⟨by show upd (g 14) k _ n = _; rw [pk_un c]; exact e1, e2, e3⟩
    · rw [c, b]
      exact ⟨pk_us, Nat.zero_le _, fun j r h => by simp at h⟩
  · have hn : ((vG V).set k []).length ≤ n := hn
    show upd (g 14) k _ n = 0
    rw [pk_un (by omega)]
    exact z3 n (by omega)
theorem zMT_host (h : zMT sc g V) {k : Nat} {v : zHo} (hv : (vH V)[k]? = some v) (x : Int32) : zMT sc (va_up g 9 (upd (g 9) k x)) (vN V, vS V, (vH V).set k (v.1, v.2.1, x), vP V, vG V) := by
  obtain ⟨⟨hN, hS, ⟨h1, h2, h3⟩, hP, hG⟩, ⟨z1, z2, z3⟩⟩ := h
  have hk := (List.getElem?_eq_some_iff.mp hv).1
  have hls : ((vH V).set k (v.1, v.2.1, x)).length = (vH V).length := List.length_set
  refine ⟨⟨hN, hS, ⟨by show sc 6 = nI ((vH V).set k _).length; rw [hls]; exact h1, by show ((vH V).set k _).length ≤ 12; omega, fun i y hy => ?_⟩, hP, hG⟩, ⟨z1, fun i hi => ?_, z3⟩⟩
  · rcases z_stat hy with ⟨c, b⟩ | ⟨c, b⟩
    · obtain ⟨e1, e2, e3⟩ := h3 i y b
      exact ⟨e1, e2, by show upd (g 9) k x i = _; rw [pk_un c]; exact e3⟩
    · obtain ⟨e1, e2, e3⟩ := h3 k v hv
      rw [c, b]
      exact ⟨e1, e2, pk_us⟩
  · have hi : ((vH V).set k (v.1, v.2.1, x)).length ≤ i := hi
    show upd (g 9) k x i = 0
    rw [pk_un (by omega)]
    exact z2 i (by omega)
/-- a subnet's rules anew -/
theorem zMT_rules {g' : Nat → Nat → Int32} (h : zMT sc g V) {k : Nat} {v : zSb} (hv : (vS V)[k]? = some v) {rs : List zRl} (hg : ∀ a, a ≠ 18 → a ≠ 19 → a ≠ 20 → a ≠ 21 → a ≠ 22 → g' a = g a) (h18 : g' 18 = upd (g 18) k (nI rs.length)) (hl : rs.length ≤ 12)
    (hout : ∀ a, 19 ≤ a → a ≤ 22 → ∀ q, (q < 12 * k ∨ 12 * k + 12 ≤ q) → g' a q = g a q) (hin : ∀ (j : Nat) (r : zRl), rs[j]? = some r → zMl g' (12 * k + j) r) (hb : ∀ q, vp_nar .boolean (g' 19 q) = g' 19 q ∧ vp_nar .boolean (g' 20 q) = g' 20 q) : zMT sc g' (vN V, (vS V).set k (v.1, v.2.1, rs, v.2.2.2), V.2.2) := by
  obtain ⟨⟨hN, ⟨s1, s2, s3⟩, hH, hP, hG⟩, ⟨z1, z2, z3, z4⟩⟩ := h
  have hk := (List.getElem?_eq_some_iff.mp hv).1
  have hls : ((vS V).set k (v.1, v.2.1, rs, v.2.2.2)).length = (vS V).length := List.length_set
  have G : ∀ a, a ≠ 18 → a ≠ 19 → a ≠ 20 → a ≠ 21 → a ≠ 22 → ∀ q, g' a q = g a q := fun a e1 e2 e3 e4 e5 q => by rw [hg a e1 e2 e3 e4 e5]
  have z : ∀ i u, (vS V)[i]? = some u → i ≠ k → zMsub g' V i u := fun i u hu hi => by
    obtain ⟨⟨c1, c2⟩, c3, ⟨c4, c5, c6⟩, ⟨c7, c8, c9⟩⟩ := s3 i u hu
    refine ⟨⟨(G 4 (by decide) (by decide) (by decide) (by decide) (by decide) i).trans c1, c2⟩, (G 5 (by decide) (by decide) (by decide) (by decide) (by decide) i).trans c3, ⟨by rw [h18, pk_un hi]; exact c4, c5, fun j r hr => ?_⟩, ⟨(G 23 (by decide) (by decide) (by decide) (by decide) (by decide) i).trans c7, c8, fun j r hr => ?_⟩⟩
    · have hj := (List.getElem?_eq_some_iff.mp hr).1
      have ho : 12 * i + j < 12 * k ∨ 12 * k + 12 ≤ 12 * i + j := by omega
      obtain ⟨f1, f2, f3, f4⟩ := c6 j r hr
      exact ⟨(hout 19 (by decide) (by decide) _ ho).trans f1, (hout 20 (by decide) (by decide) _ ho).trans f2, (hout 21 (by decide) (by decide) _ ho).trans f3, (hout 22 (by decide) (by decide) _ ho).trans f4⟩
    · obtain ⟨f1, f2⟩ := c9 j r hr
      exact ⟨(G 24 (by decide) (by decide) (by decide) (by decide) (by decide) _).trans f1, (G 25 (by decide) (by decide) (by decide) (by decide) (by decide) _).trans f2⟩
  refine ⟨⟨⟨hN.1, hN.2.1, fun i w hw => (G 2 (by decide) (by decide) (by decide) (by decide) (by decide) i).trans (hN.2.2 i w hw)⟩, ⟨by show sc 3 = nI ((vS V).set k _).length; rw [hls]; exact s1, by show ((vS V).set k _).length ≤ 8; omega, fun i u hu => ?_⟩, ⟨hH.1, hH.2.1, fun i y hy => ?_⟩, ⟨hP.1, hP.2.1, fun i q hq => ?_⟩, ⟨hG.1, hG.2.1, fun i u hu => ?_⟩⟩, ⟨fun i hi => ?_, fun i hi => (G 9 (by decide) (by decide) (by decide) (by decide) (by decide) i).trans (z2 i hi), fun i hi => (G 14 (by decide) (by decide) (by decide) (by decide) (by decide) i).trans (z3 i hi), fun q => ⟨?_, hb q⟩⟩⟩
  · rcases z_stat hu with ⟨c, b⟩ | ⟨c, b⟩
    · exact z i u b c
    · obtain ⟨⟨c1, c2⟩, c3, -, ⟨c7, c8, c9⟩⟩ := s3 k v hv
      rw [c, b]
      refine ⟨⟨(G 4 (by decide) (by decide) (by decide) (by decide) (by decide) k).trans c1, c2⟩, (G 5 (by decide) (by decide) (by decide) (by decide) (by decide) k).trans c3, ⟨by rw [h18, pk_us], hl, hin⟩, ⟨(G 23 (by decide) (by decide) (by decide) (by decide) (by decide) k).trans c7, c8, fun j r hr => ?_⟩⟩
      obtain ⟨f1, f2⟩ := c9 j r hr
      exact ⟨(G 24 (by decide) (by decide) (by decide) (by decide) (by decide) _).trans f1, (G 25 (by decide) (by decide) (by decide) (by decide) (by decide) _).trans f2⟩
  · obtain ⟨⟨c1, c2⟩, c3, c4⟩ := hH.2.2 i y hy
    exact ⟨⟨(G 7 (by decide) (by decide) (by decide) (by decide) (by decide) i).trans c1, by show y.1 < ((vS V).set k _).length; omega⟩, (G 8 (by decide) (by decide) (by decide) (by decide) (by decide) i).trans c3, (G 9 (by decide) (by decide) (by decide) (by decide) (by decide) i).trans c4⟩
  · obtain ⟨⟨c1, c2⟩, c3, c4⟩ := hP.2.2 i q hq
    exact ⟨⟨(G 11 (by decide) (by decide) (by decide) (by decide) (by decide) i).trans c1, c2⟩, (G 12 (by decide) (by decide) (by decide) (by decide) (by decide) i).trans c3, c4⟩
  · obtain ⟨c1, c2, c3⟩ := hG.2.2 i u hu
    refine ⟨(G 14 (by decide) (by decide) (by decide) (by decide) (by decide) i).trans c1, c2, fun j r hr => ?_⟩
    obtain ⟨f1, f2, f3⟩ := c3 j r hr
    exact ⟨(G 15 (by decide) (by decide) (by decide) (by decide) (by decide) _).trans f1, (G 16 (by decide) (by decide) (by decide) (by decide) (by decide) _).trans f2, (G 17 (by decide) (by decide) (by decide) (by decide) (by decide) _).trans f3⟩
  · have hi : ((vS V).set k (v.1, v.2.1, rs, v.2.2.2)).length ≤ i := hi
    obtain ⟨c1, c2⟩ := z1 i (by omega)
    exact ⟨by rw [h18, pk_un (by omega)]; exact c1, (G 23 (by decide) (by decide) (by decide) (by decide) (by decide) i).trans c2⟩
  · rw [G 15 (by decide) (by decide) (by decide) (by decide) (by decide) q]
    exact (z4 q).1
/-- a subnet's routes anew -/
theorem zMT_routes {g' : Nat → Nat → Int32} (h : zMT sc g V) {k : Nat} {v : zSb} (hv : (vS V)[k]? = some v) {rs : List zRt} (hg : ∀ a, a ≠ 23 → a ≠ 24 → a ≠ 25 → g' a = g a) (h23 : ∀ i, i ≠ k → g' 23 i = g 23 i) (h23k : g' 23 k = nI rs.length) (hl : rs.length ≤ 8)
    (hout : ∀ a, 24 ≤ a → a ≤ 25 → ∀ q, (q < 8 * k ∨ 8 * k + 8 ≤ q) → g' a q = g a q) (hin : ∀ (j : Nat) (r : zRt), rs[j]? = some r → zMt g' (8 * k + j) r) : zMT sc g' (vN V, (vS V).set k (v.1, v.2.1, v.2.2.1, rs), V.2.2) := by
  obtain ⟨⟨hN, ⟨s1, s2, s3⟩, hH, hP, hG⟩, ⟨z1, z2, z3, z4⟩⟩ := h
  have hk := (List.getElem?_eq_some_iff.mp hv).1
  have hls : ((vS V).set k (v.1, v.2.1, v.2.2.1, rs)).length = (vS V).length := List.length_set
  have G : ∀ a, a ≠ 23 → a ≠ 24 → a ≠ 25 → ∀ q, g' a q = g a q := fun a e1 e2 e3 q => by rw [hg a e1 e2 e3]
  have L : ∀ (q : Nat) (r : zRl), zMl g q r → zMl g' q r := fun q r h => ⟨(G 19 (by decide) (by decide) (by decide) q).trans h.1, (G 20 (by decide) (by decide) (by decide) q).trans h.2.1, (G 21 (by decide) (by decide) (by decide) q).trans h.2.2.1, (G 22 (by decide) (by decide) (by decide) q).trans h.2.2.2⟩
  refine ⟨⟨⟨hN.1, hN.2.1, fun i w hw => (G 2 (by decide) (by decide) (by decide) i).trans (hN.2.2 i w hw)⟩, ⟨by show sc 3 = nI ((vS V).set k _).length; rw [hls]; exact s1, by show ((vS V).set k _).length ≤ 8; omega, fun i u hu => ?_⟩, ⟨hH.1, hH.2.1, fun i y hy => ?_⟩, ⟨hP.1, hP.2.1, fun i q hq => ?_⟩, ⟨hG.1, hG.2.1, fun i u hu => ?_⟩⟩, ⟨fun i hi => ?_, fun i hi => (G 9 (by decide) (by decide) (by decide) i).trans (z2 i hi), fun i hi => (G 14 (by decide) (by decide) (by decide) i).trans (z3 i hi), fun q => ?_⟩⟩
  · rcases z_stat hu with ⟨c, b⟩ | ⟨c, b⟩
    · obtain ⟨⟨c1, c2⟩, c3, ⟨c4, c5, c6⟩, ⟨c7, c8, c9⟩⟩ := s3 i u b
      refine ⟨⟨(G 4 (by decide) (by decide) (by decide) i).trans c1, c2⟩, (G 5 (by decide) (by decide) (by decide) i).trans c3, ⟨(G 18 (by decide) (by decide) (by decide) i).trans c4, c5, fun j r hr => L _ _ (c6 j r hr)⟩, ⟨(h23 i c).trans c7, c8, fun j r hr => ?_⟩⟩
      have hj := (List.getElem?_eq_some_iff.mp hr).1
      have ho : 8 * i + j < 8 * k ∨ 8 * k + 8 ≤ 8 * i + j := by omega
      obtain ⟨f1, f2⟩ := c9 j r hr
      exact ⟨(hout 24 (by decide) (by decide) _ ho).trans f1, (hout 25 (by decide) (by decide) _ ho).trans f2⟩
    · obtain ⟨⟨c1, c2⟩, c3, ⟨c4, c5, c6⟩, -⟩ := s3 k v hv
      rw [c, b]
      exact ⟨⟨(G 4 (by decide) (by decide) (by decide) k).trans c1, c2⟩, (G 5 (by decide) (by decide) (by decide) k).trans c3, ⟨(G 18 (by decide) (by decide) (by decide) k).trans c4, c5, fun j r hr => L _ _ (c6 j r hr)⟩, ⟨h23k, hl, hin⟩⟩
  · obtain ⟨⟨c1, c2⟩, c3, c4⟩ := hH.2.2 i y hy
    exact ⟨⟨(G 7 (by decide) (by decide) (by decide) i).trans c1, by show y.1 < ((vS V).set k _).length; omega⟩, (G 8 (by decide) (by decide) (by decide) i).trans c3, (G 9 (by decide) (by decide) (by decide) i).trans c4⟩
  · obtain ⟨⟨c1, c2⟩, c3, c4⟩ := hP.2.2 i q hq
    exact ⟨⟨(G 11 (by decide) (by decide) (by decide) i).trans c1, c2⟩, (G 12 (by decide) (by decide) (by decide) i).trans c3, c4⟩
  · obtain ⟨c1, c2, c3⟩ := hG.2.2 i u hu
    refine ⟨(G 14 (by decide) (by decide) (by decide) i).trans c1, c2, fun j r hr => ?_⟩
    obtain ⟨f1, f2, f3⟩ := c3 j r hr
    exact ⟨(G 15 (by decide) (by decide) (by decide) _).trans f1, (G 16 (by decide) (by decide) (by decide) _).trans f2, (G 17 (by decide) (by decide) (by decide) _).trans f3⟩
  · have hi : ((vS V).set k (v.1, v.2.1, v.2.2.1, rs)).length ≤ i := hi
    obtain ⟨c1, c2⟩ := z1 i (by omega)
    exact ⟨(G 18 (by decide) (by decide) (by decide) i).trans c1, (h23 i (by omega)).trans c2⟩
  · obtain ⟨c1, c2, c3⟩ := z4 q
    exact ⟨by rw [G 15 (by decide) (by decide) (by decide) q]; exact c1, by rw [G 19 (by decide) (by decide) (by decide) q]; exact c2, by rw [G 20 (by decide) (by decide) (by decide) q]; exact c3⟩
end
