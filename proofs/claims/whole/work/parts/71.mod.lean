/-! the reference's cells: an object of 26 fields at y, its arrays at ad k; sc: what the int fields hold, g: what the arrays hold -/
def zMk : List (Nat × Bool × Nat) := [(2, false, 4), (4, false, 8), (5, false, 8), (7, false, 12), (8, false, 12), (9, false, 12), (11, false, 6), (12, false, 6), (14, false, 6), (15, true, 60), (16, false, 60), (17, false, 60), (18, false, 8), (19, true, 96), (20, true, 96), (21, false, 96), (22, false, 96), (23, false, 8), (24, false, 64), (25, false, 64)]
def zMf (ad : Nat → Nat) (sc : Nat → Int32) : List Value := [.int (sc 0), .int (sc 1), .ref (ad 2), .int (sc 3), .ref (ad 4), .ref (ad 5), .int (sc 6), .ref (ad 7), .ref (ad 8), .ref (ad 9), .int (sc 10), .ref (ad 11), .ref (ad 12), .int (sc 13), .ref (ad 14), .ref (ad 15), .ref (ad 16), .ref (ad 17), .ref (ad 18), .ref (ad 19), .ref (ad 20), .ref (ad 21), .ref (ad 22), .ref (ad 23), .ref (ad 24), .ref (ad 25)]
abbrev zMc (E : zG) (t : Nat × Bool × Nat) (f : Nat → Int32) : va_E := Sum.inl (if t.2.1 = true then eZ E else eI E, t.2.2, .inl f)
def zMw (E : zG) (y : Nat) (ad : Nat → Nat) (sc : Nat → Int32) (g : Nat → Nat → Int32) : va_W := (y, Sum.inr (11, zMf ad sc)) :: zMk.map (fun t => (ad t.1, zMc E t (g t.1)))
theorem zMk_len : ∀ t ∈ zMk, t.2.2 < 2 ^ 31 := by decide
theorem zMk_inj : ∀ t ∈ zMk, ∀ u ∈ zMk, t.1 = u.1 → t = u := by decide
section
variable {E : zG} {X : va_W} {y : Nat} {ad : Nat → Nat} {sc : Nat → Int32} {g : Nat → Nat → Int32} {C : zLs}
theorem zM_o : (y, Sum.inr (11, zMf ad sc)) ∈ zMw E y ad sc g := List.mem_cons_self
theorem zM_a {t : Nat × Bool × Nat} (ht : t ∈ zMk) : (ad t.1, zMc E t (g t.1)) ∈ zMw E y ad sc g := List.mem_cons_of_mem _ (List.mem_map.mpr ⟨t, ht, rfl⟩)
theorem zM_x : (y, Sum.inr (11, zMf ad sc)) ∈ X ++ zMw E y ad sc g := List.mem_append_right X zM_o
/-- the places are apart -/
def zMn (y : Nat) (ad : Nat → Nat) : Prop := (∀ t ∈ zMk, ad t.1 ≠ y) ∧ ∀ t ∈ zMk, ∀ u ∈ zMk, ad t.1 = ad u.1 → t = u
theorem zM_n {YA : va_W} {H : Heap} (h : zP E ((X ++ zMw E y ad sc g) ++ YA) H) : zMn y ad := by
  have hn := z_nodup h.2
  rw [List.map_append, List.map_append] at hn
  obtain ⟨hn1, -, -⟩ := List.nodup_append.mp hn
  obtain ⟨-, hn2, -⟩ := List.nodup_append.mp hn1
  unfold zMw at hn2
  rw [List.map_cons, List.map_map] at hn2
  obtain ⟨a1, a2⟩ := List.nodup_cons.mp hn2
  refine ⟨fun t ht e => a1 (List.mem_map.mpr ⟨t, ht, e⟩), fun t ht u hu e => ?_⟩
  obtain ⟨i, hi⟩ := List.getElem?_of_mem ht
  obtain ⟨j, hj⟩ := List.getElem?_of_mem hu
  have b1 : (zMk.map ((fun q => q.1) ∘ fun t => (ad t.1, zMc E t (g t.1))))[i]? = some (ad t.1) := by rw [List.getElem?_map, hi]; rfl
  have b2 : (zMk.map ((fun q => q.1) ∘ fun t => (ad t.1, zMc E t (g t.1))))[j]? = some (ad u.1) := by rw [List.getElem?_map, hj]; rfl
  have hij := (z_nd a2 b1 b2).mp e
  rw [hij, hj] at hi
  exact (Option.some.inj hi).symm
theorem zM_setS (hn : zMn y ad) {k : Nat} {v : Int32} {fs : List Value} (hf : fs = zMf ad (va_up sc k v)) : zset (zMw E y ad sc g) y (Sum.inr (11, fs)) = zMw E y ad (va_up sc k v) g := by
  subst hf
  unfold zMw
  rw [show ∀ (q : Nat × va_E) (r : va_W), q :: r = [q] ++ r from fun _ _ => rfl, zset_app, zset_ne (A := zMk.map _) (fun q hq => ?_)]
  · simp [zset]
  · obtain ⟨t, ht, rfl⟩ := List.mem_map.mp hq
    exact hn.1 t ht
theorem zM_setA (hn : zMn y ad) {t : Nat × Bool × Nat} (ht : t ∈ zMk) (f : Nat → Int32) : zset (zMw E y ad sc g) (ad t.1) (zMc E t f) = zMw E y ad sc (va_up g t.1 f) := by
  unfold zMw zset
  rw [List.map_cons, List.map_map, if_neg (Ne.symm (hn.1 t ht))]
  congr 1
  refine List.map_congr_left (fun u hu => ?_)
  show (if ad u.1 = ad t.1 then (ad t.1, zMc E t f) else (ad u.1, zMc E u (g u.1))) = (ad u.1, zMc E u (va_up g t.1 f u.1))
  by_cases c : ad u.1 = ad t.1
  · have e := hn.2 u hu t ht c
    subst e
    rw [if_pos rfl, va_up_self]
  · rw [if_neg c, va_up_ne _ _ (fun e => c (by rw [e]))]
end
theorem zQ_setA {E : zG} {X Y YA : va_W} {C : zLs} {H1 : Heap} {H : Heap} {a k : Nat} {e e' : ClassId × vp_A} (hP : zP E ((X ++ Y) ++ YA) H) (hA : zA E (X ++ Y) YA C) (he : (a, (Sum.inl e : va_E)) ∈ Y) (hk : ((X ++ Y) ++ YA)[k]? = some (a, Sum.inl e))
    (h1 : va_P (eD E) vwCl (((X ++ Y) ++ YA).set k (a, Sum.inl e')) H1) (h2 : va_D (eA E) (((X ++ Y) ++ YA).set k (a, Sum.inl e'))) : zQ E (X ++ zset Y a (Sum.inl e')) C H1 := by
  have e1 := zset_eq (e := Sum.inl e') hP.2 hk
  rw [e1] at h1 h2
  have hn := z_nodup hP.2
  rw [List.map_append, List.map_append] at hn
  obtain ⟨hn1, -, hn3⟩ := List.nodup_append.mp hn
  obtain ⟨-, -, hn2⟩ := List.nodup_append.mp hn1
  have hY : a ∈ Y.map (fun q => q.1) := List.mem_map.mpr ⟨_, he, rfl⟩
  have eX : zset X a (Sum.inl e') = X := zset_ne (fun q hq hqa => hn2 q.1 (List.mem_map.mpr ⟨q, hq, rfl⟩) a hY hqa)
  have eYA : zset YA a (Sum.inl e') = YA := zset_ne (fun q hq hqa => hn3 a (List.mem_append_right _ hY) q.1 (List.mem_map.mpr ⟨q, hq, rfl⟩) hqa.symm)
  rw [zset_app, zset_app, eX, eYA] at h1 h2
  refine ⟨YA, ⟨h1, h2⟩, hA.mono (fun y hy => ?_)⟩
  obtain ⟨cj, gs, hm, b1, b2⟩ := hy
  have c : y ≠ a := fun c => by
    subst c
    have hu := hP.uniq (List.mem_append_left _ hm) (List.mem_of_getElem? hk)
    cases hu
  rcases List.mem_append.mp hm with h | h
  · exact ⟨cj, gs, List.mem_append_left _ h, b1, b2⟩
  · exact ⟨cj, gs, List.mem_append_right _ (zset_old h c), b1, b2⟩
section
variable {p : Program} {l : Launch} {e : Env} {R : Room} {s : State} {m : MethodId} {args : Array Value} {below : List Frame} {meth : Method} {c : Code} {H : Heap} {locs : List Loc} {cells slots : Nat} {Q : State → Prop}
variable {E : zG} {own : String} {cc : ByteArray} {Ts : List Cond} {nL pc : Nat} {ls : Array Slot} {rest : List Value} {X : va_W} {C : zLs} {y : Nat} {ad : Nat → Nat} {sc : Nat → Int32} {g : Nat → Nat → Int32}
theorem zm_iald (Cx : zC E p s m args meth c own cc Ts nL) (hw : zHA E (X ++ zMw E y ad sc g) C s H locs) {k n i : Nat} (hk : (k, false, n) ∈ zMk) (hi : i < n) (hdg : decode cc pc = .ok (.iaload, 1))
    (kk : W p l e R s m args below meth c H locs cells slots Q (F0 m (pc + 1) ls (.int (g k i) :: rest))) : W p l e R s m args below meth c H locs cells slots Q (F0 m pc ls (.int (nI i) :: .ref (ad k) :: rest)) := by
  obtain ⟨⟨YA, ⟨hP, hD⟩, hA⟩, hS⟩ := hw
  have hn : n < 2 ^ 31 := zMk_len _ hk
  obtain ⟨q0, hq0⟩ := List.getElem?_of_mem (List.mem_append_left YA (List.mem_append_right X (zM_a (E := E) (y := y) (ad := ad) (sc := sc) (g := g) hk)))
  refine va_iald Cx.1.1 Cx.1.2.1 Cx.2.1.1 hP q0 0 hq0 rfl (vp_in_nI hi hn) hdg ?_
  rw [nI_clamp (Nat.lt_trans hi hn)]
  exact kk
theorem zm_zald (Cx : zC E p s m args meth c own cc Ts nL) (hw : zHA E (X ++ zMw E y ad sc g) C s H locs) {k n i : Nat} (hk : (k, true, n) ∈ zMk) (hi : i < n) (hdg : decode cc pc = .ok (.baload, 1))
    (kk : W p l e R s m args below meth c H locs cells slots Q (F0 m (pc + 1) ls (.int (g k i) :: rest))) : W p l e R s m args below meth c H locs cells slots Q (F0 m pc ls (.int (nI i) :: .ref (ad k) :: rest)) := by
  obtain ⟨⟨YA, ⟨hP, hD⟩, hA⟩, hS⟩ := hw
  have hn : n < 2 ^ 31 := zMk_len _ hk
  obtain ⟨q0, hq0⟩ := List.getElem?_of_mem (List.mem_append_left YA (List.mem_append_right X (zM_a (E := E) (y := y) (ad := ad) (sc := sc) (g := g) hk)))
  refine va_zald Cx.1.1 Cx.1.2.1 Cx.2.1.1 hP q0 1 hq0 rfl (vp_in_nI hi hn) hdg ?_
  rw [nI_clamp (Nat.lt_trans hi hn)]
  exact kk
theorem zm_iast (Cx : zC E p s m args meth c own cc Ts nL) (hw : zHA E (X ++ zMw E y ad sc g) C s H locs) {k n i : Nat} {v : Int32} (hk : (k, false, n) ∈ zMk) (hi : i < n) (hdg : decode cc pc = .ok (.iastore, 1))
    (kk : ∀ (H1 : Heap) (locs1 : List Loc), zHA E (X ++ zMw E y ad sc (va_up g k (upd (g k) i v))) C s H1 locs1 → W p l e R s m args below meth c H1 locs1 cells slots Q (F0 m (pc + 1) ls rest)) : W p l e R s m args below meth c H locs cells slots Q (F0 m pc ls (.int v :: .int (nI i) :: .ref (ad k) :: rest)) := by
  obtain ⟨⟨YA, ⟨hP, hD⟩, hA⟩, hS⟩ := hw
  have hn : n < 2 ^ 31 := zMk_len _ hk
  have hm := zM_a (E := E) (y := y) (ad := ad) (sc := sc) (g := g) hk
  obtain ⟨q0, hq0⟩ := List.getElem?_of_mem (List.mem_append_left YA (List.mem_append_right X hm))
  refine va_iast Cx.1.1 Cx.1.2.1 Cx.2.1.1 hP hD hS q0 0 hq0 rfl (vp_in_nI hi hn) hdg (fun H1 locs1 h1 h2 h3 => kk H1 locs1 ⟨?_, h3⟩)
  rw [nI_clamp (Nat.lt_trans hi hn)] at h1 h2
  rw [← zM_setA (E := E) (sc := sc) (g := g) (zM_n ⟨hP, hD⟩) hk (upd (g k) i v)]
  exact zQ_setA ⟨hP, hD⟩ hA hm hq0 h1 h2
theorem zm_zast (Cx : zC E p s m args meth c own cc Ts nL) (hw : zHA E (X ++ zMw E y ad sc g) C s H locs) {k n i : Nat} {v : Int32} (hk : (k, true, n) ∈ zMk) (hi : i < n) (hv : vp_nar .boolean v = v) (hdg : decode cc pc = .ok (.bastore, 1))
    (kk : ∀ (H1 : Heap) (locs1 : List Loc), zHA E (X ++ zMw E y ad sc (va_up g k (upd (g k) i v))) C s H1 locs1 → W p l e R s m args below meth c H1 locs1 cells slots Q (F0 m (pc + 1) ls rest)) : W p l e R s m args below meth c H locs cells slots Q (F0 m pc ls (.int v :: .int (nI i) :: .ref (ad k) :: rest)) := by
  obtain ⟨⟨YA, ⟨hP, hD⟩, hA⟩, hS⟩ := hw
  have hn : n < 2 ^ 31 := zMk_len _ hk
  have hm := zM_a (E := E) (y := y) (ad := ad) (sc := sc) (g := g) hk
  obtain ⟨q0, hq0⟩ := List.getElem?_of_mem (List.mem_append_left YA (List.mem_append_right X hm))
  refine va_zast Cx.1.1 Cx.1.2.1 Cx.2.1.1 hP hD hS q0 1 hq0 rfl (vp_in_nI hi hn) hdg (fun H1 locs1 h1 h2 h3 => kk H1 locs1 ⟨?_, h3⟩)
  rw [nI_clamp (Nat.lt_trans hi hn), hv] at h1 h2
  rw [← zM_setA (E := E) (sc := sc) (g := g) (zM_n ⟨hP, hD⟩) hk (upd (g k) i v)]
  exact zQ_setA ⟨hP, hD⟩ hA hm hq0 h1 h2
end
theorem zM_putS {E : zG} {X : va_W} {y : Nat} {ad : Nat → Nat} {sc : Nat → Int32} {g : Nat → Nat → Int32} {C : zLs} {s s2 : State} {H H0 : Heap} {locs locs0 : List Loc} {fs : List Value} (k : Nat) (v : Int32) (hw : zHA E (X ++ zMw E y ad sc g) C s2 H0 locs0) (hw2 : zHA E (X ++ zset (zMw E y ad sc g) y (Sum.inr (11, fs))) C s H locs) (hf : fs = zMf ad (va_up sc k v)) : zHA E (X ++ zMw E y ad (va_up sc k v) g) C s H locs := by
  obtain ⟨⟨YA, hP, hA⟩, hS⟩ := hw
  rw [zM_setS (zM_n hP) hf] at hw2
  exact hw2
