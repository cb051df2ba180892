/-! one ArrayList's cells apart from all the rest -/
def zL (E : zG) (q : Nat) (es : List Nat) (tail : va_W) : Prop := ∃ (mc : Int32) (t : Nat), (t = eT E ∧ es = [] ∧ tail = [(q, Sum.inr (2, [.int mc, .ref t, .int 0]))]) ∨ ∃ (n : Nat) (row : Nat → Option Nat), tail = [(q, Sum.inr (2, [.int mc, .ref t, .int (nI es.length)])), (t, zoa E n row)] ∧ es.length ≤ n ∧ 10 ≤ n ∧ n ≤ 100 ∧ ∀ i y, es[i]? = some y → row i = some y
theorem z_split1 {α : Type} {x : α} : ∀ {l : List α}, x ∈ l → ∃ r : List α, l.Perm (r ++ [x])
  | b :: l, h => by
    rcases List.mem_cons.mp h with h | h
    · subst h
      exact ⟨l, (List.perm_append_comm (l₁ := [x]) (l₂ := l))⟩
    · obtain ⟨r, hr⟩ := z_split1 h
      exact ⟨b :: r, List.Perm.cons b hr⟩
theorem zQ_split {E : zG} {Z : va_W} {C : zLs} {H : Heap} {q : Nat} {es : List Nat} (h : zQ E Z C H) (hq : C q = some es) : ∃ (RA tail : va_W), zA E Z RA (va_up C q none) ∧ zL E q es tail ∧ zP E ((Z ++ RA) ++ tail) H ∧ ∀ y ∈ es, zV Z y := by
  obtain ⟨YA, hP, ow, hA⟩ := h
  obtain ⟨hv, mc, t, he, ht⟩ := hA q es hq
  rcases ht with ⟨rfl, rfl⟩ | ⟨how, n, row, hm, b1, b2, b3, b4⟩
  · obtain ⟨r, hr⟩ := z_split1 he
    have hP1 : zP E ((Z ++ r) ++ [(q, Sum.inr (2, [.int mc, .ref (eT E), .int 0]))]) H := hP.perm (by rw [List.append_assoc]; exact List.Perm.append_left Z hr)
    refine ⟨r, _, ⟨ow, fun q' es' h' => ?_⟩, ⟨mc, eT E, Or.inl ⟨rfl, rfl, rfl⟩⟩, hP1, hv⟩
    by_cases c : q' = q
    · subst c; rw [va_up_self] at h'; cases h'
    · rw [va_up_ne _ _ c] at h'
      obtain ⟨hv', mc', a', he', ht'⟩ := hA q' es' h'
      have cut : ∀ {x : Nat × va_E}, x ∈ YA → x.1 ≠ q → x ∈ r := fun hx hn => by
        rcases List.mem_append.mp (hr.mem_iff.mp hx) with h | h
        · exact h
        · exact absurd (by rw [List.mem_singleton.mp h]) hn
      refine ⟨hv', mc', a', cut he' c, ?_⟩
      rcases ht' with h | ⟨h1, n', row', hm', h2⟩
      · exact Or.inl h
      · refine Or.inr ⟨h1, n', row', cut hm' (fun e => ?_), h2⟩
        have e' : a' = q := e
        subst e'
        have := hP.uniq (List.mem_append_right Z he) (List.mem_append_right Z hm')
        cases this
  · obtain ⟨r0, hr0⟩ := z_split1 hm
    have hne : (q, (Sum.inr (2, [.int mc, .ref t, .int (nI es.length)]) : va_E)) ∈ r0 := by
      rcases List.mem_append.mp (hr0.mem_iff.mp he) with h | h
      · exact h
      · have := List.mem_singleton.mp h; cases this
    obtain ⟨r, hr⟩ := z_split1 hne
    have hp : YA.Perm (r ++ [(q, Sum.inr (2, [.int mc, .ref t, .int (nI es.length)])), (t, zoa E n row)]) := by
      refine hr0.trans ?_
      have := hr.append_right [(t, zoa E n row)]
      rw [List.append_assoc] at this
      exact this
    have hP1 : zP E ((Z ++ r) ++ [(q, Sum.inr (2, [.int mc, .ref t, .int (nI es.length)])), (t, zoa E n row)]) H := hP.perm (by rw [List.append_assoc]; exact List.Perm.append_left Z hp)
    refine ⟨r, _, ⟨ow, fun q' es' h' => ?_⟩, ⟨mc, t, Or.inr ⟨n, row, rfl, b1, b2, b3, b4⟩⟩, hP1, hv⟩
    by_cases c : q' = q
    · subst c; rw [va_up_self] at h'; cases h'
    · rw [va_up_ne _ _ c] at h'
      obtain ⟨hv', mc', a', he', ht'⟩ := hA q' es' h'
      have cut : ∀ {x : Nat × va_E}, x ∈ YA → x.1 ≠ q → x ≠ (t, zoa E n row) → x ∈ r := fun hx hn hn2 => by
        rcases List.mem_append.mp (hp.mem_iff.mp hx) with h | h
        · exact h
        · rcases List.mem_cons.mp h with h | h
          · exact absurd (by rw [h]) hn
          · exact absurd (List.mem_singleton.mp h) hn2
      refine ⟨hv', mc', a', cut he' c (fun e => by cases e), ?_⟩
      rcases ht' with h | ⟨h1, n', row', hm', h2⟩
      · exact Or.inl h
      · refine Or.inr ⟨h1, n', row', cut hm' (fun e => ?_) (fun e => ?_), h2⟩
        · have e' : a' = q := e
          subst e'
          have := hP.uniq (List.mem_append_right Z he) (List.mem_append_right Z hm')
          cases this
        · have e' : a' = t := congrArg (fun x => x.1) e
          subst e'
          exact c (h1.symm.trans how)
theorem zQ_join {E : zG} {Z RA tail : va_W} {C : zLs} {H : Heap} {q : Nat} {es : List Nat} (hA : zA E Z RA (va_up C q none)) (hL : zL E q es tail) (hP : zP E ((Z ++ RA) ++ tail) H) (hv : ∀ y ∈ es, zV Z y) : zQ E Z (va_up C q (some es)) H := by
  obtain ⟨ow, hA⟩ := hA
  refine ⟨RA ++ tail, by rw [← List.append_assoc]; exact hP, ?_⟩
  obtain ⟨mc, t, ⟨rfl, rfl, rfl⟩ | ⟨n, row, rfl, b1, b2, b3, b4⟩⟩ := hL
  · refine ⟨ow, fun q' es' h' => ?_⟩
    by_cases c : q' = q
    · subst c
      rw [va_up_self] at h'
      cases h'
      exact ⟨hv, mc, eT E, List.mem_append_right _ List.mem_cons_self, Or.inl ⟨rfl, rfl⟩⟩
    · rw [va_up_ne _ _ c] at h'
      obtain ⟨hv', mc', a', he', ht'⟩ := hA q' es' (by rw [va_up_ne _ _ c]; exact h')
      refine ⟨hv', mc', a', List.mem_append_left _ he', ?_⟩
      rcases ht' with h | ⟨h1, n', row', hm', h2⟩
      · exact Or.inl h
      · exact Or.inr ⟨h1, n', row', List.mem_append_left _ hm', h2⟩
  · refine ⟨va_up ow t q, fun q' es' h' => ?_⟩
    by_cases c : q' = q
    · subst c
      rw [va_up_self] at h'
      cases h'
      exact ⟨hv, mc, t, List.mem_append_right _ List.mem_cons_self, Or.inr ⟨va_up_self _ _ _, n, row, List.mem_append_right _ (List.mem_cons_of_mem _ List.mem_cons_self), b1, b2, b3, b4⟩⟩
    · rw [va_up_ne _ _ c] at h'
      obtain ⟨hv', mc', a', he', ht'⟩ := hA q' es' (by rw [va_up_ne _ _ c]; exact h')
      refine ⟨hv', mc', a', List.mem_append_left _ he', ?_⟩
      rcases ht' with h | ⟨h1, n', row', hm', h2⟩
      · exact Or.inl h
      · refine Or.inr ⟨?_, n', row', List.mem_append_left _ hm', h2⟩
        have hn := z_nodup hP.2
        rw [List.map_append] at hn
        obtain ⟨-, -, hn3⟩ := List.nodup_append.mp hn
        have : a' ≠ t := hn3 a' (List.mem_map.mpr ⟨_, List.mem_append_right Z hm', rfl⟩) t (List.mem_map.mpr ⟨_, List.mem_cons_of_mem _ List.mem_cons_self, rfl⟩)
        rw [va_up_ne _ _ this]
        exact h1
/-- the tail's cells, written -/
theorem z_m1 {R : va_W} {x : Nat × va_E} : x ∈ R ++ [x] := List.mem_append_right _ List.mem_cons_self
theorem z_m2 {R : va_W} {x y : Nat × va_E} : x ∈ R ++ [x, y] := List.mem_append_right _ List.mem_cons_self
theorem z_m3 {R : va_W} {x y : Nat × va_E} : y ∈ R ++ [x, y] := List.mem_append_right _ (List.mem_cons_of_mem _ List.mem_cons_self)
theorem zV.app {R T : va_W} {y : Nat} (h : zV R y) : zV (R ++ T) y := by
  obtain ⟨ci, fs, hm, b⟩ := h
  exact ⟨ci, fs, List.mem_append_left _ hm, b⟩
theorem zt_1 {E : zG} {R : va_W} {q : Nat} {e1 e1' : va_E} {s : State} {H H1 : Heap} {locs locs1 : List Loc} (h0 : zH E (R ++ [(q, e1)]) s H locs) (h : zH E (zset (R ++ [(q, e1)]) q e1') s H1 locs1) : zH E (R ++ [(q, e1')]) s H1 locs1 := by
  have hn := z_nodup h0.1.2
  rw [List.map_append] at hn
  obtain ⟨-, -, hn3⟩ := List.nodup_append.mp hn
  have eR : zset R q e1' = R := zset_ne (fun x hx e => hn3 x.1 (List.mem_map.mpr ⟨x, hx, rfl⟩) q (List.mem_map.mpr ⟨_, List.mem_cons_self, rfl⟩) e)
  rw [zset_app, eR] at h
  have e2 : zset [(q, e1)] q e1' = [(q, e1')] := by simp [zset]
  rw [e2] at h
  exact h
theorem zt_ne {E : zG} {R : va_W} {q t : Nat} {e1 e2 : va_E} {s : State} {H : Heap} {locs : List Loc} (h0 : zH E (R ++ [(q, e1), (t, e2)]) s H locs) : q ≠ t ∧ (∀ x ∈ R, x.1 ≠ q) ∧ ∀ x ∈ R, x.1 ≠ t := by
  have hn := z_nodup h0.1.2
  rw [List.map_append] at hn
  obtain ⟨-, hn2, hn3⟩ := List.nodup_append.mp hn
  refine ⟨?_, fun x hx e => ?_, fun x hx e => ?_⟩
  · have h4 : ([q, t] : List Nat).Nodup := hn2
    simpa using h4
  · exact hn3 x.1 (List.mem_map.mpr ⟨x, hx, rfl⟩) q (List.mem_map.mpr ⟨_, List.mem_cons_self, rfl⟩) e
  · exact hn3 x.1 (List.mem_map.mpr ⟨x, hx, rfl⟩) t (List.mem_map.mpr ⟨_, List.mem_cons_of_mem _ List.mem_cons_self, rfl⟩) e
theorem zt_2 {E : zG} {R : va_W} {q t : Nat} {e1 e1' e2 : va_E} {s : State} {H H1 : Heap} {locs locs1 : List Loc} (h0 : zH E (R ++ [(q, e1), (t, e2)]) s H locs) (h : zH E (zset (R ++ [(q, e1), (t, e2)]) q e1') s H1 locs1) : zH E (R ++ [(q, e1'), (t, e2)]) s H1 locs1 := by
  obtain ⟨n1, n2, -⟩ := zt_ne h0
  rw [zset_app, zset_ne n2] at h
  have e3 : zset [(q, e1), (t, e2)] q e1' = [(q, e1'), (t, e2)] := by simp [zset, Ne.symm n1]
  rw [e3] at h
  exact h
theorem zt_3 {E : zG} {R : va_W} {q t : Nat} {e1 e2 e2' : va_E} {s : State} {H H1 : Heap} {locs locs1 : List Loc} (h0 : zH E (R ++ [(q, e1), (t, e2)]) s H locs) (h : zH E (zset (R ++ [(q, e1), (t, e2)]) t e2') s H1 locs1) : zH E (R ++ [(q, e1), (t, e2')]) s H1 locs1 := by
  obtain ⟨n1, -, n3⟩ := zt_ne h0
  rw [zset_app, zset_ne n3] at h
  have e3 : zset [(q, e1), (t, e2)] t e2' = [(q, e1), (t, e2')] := by simp [zset, n1]
  rw [e3] at h
  exact h
