/-! ArrayList's methods, seen by the class: C alone changes -/
theorem zV_of {E : zG} {Z RA : va_W} {es : List Nat} {row : Nat → Option Nat} {n : Nat} (hl : n = es.length) (hv : ∀ y ∈ es, zV Z y) (hr : ∀ i y, es[i]? = some y → row i = some y) : ∀ i, i < n → ∀ y, row i = some y → zV (Z ++ RA) y := by
  intro i hi y hy
  have h1 : es[i]? = some (es[i]'(by omega)) := List.getElem?_eq_getElem (by omega)
  have h2 := hr i _ h1
  rw [hy] at h2
  rw [Option.some.inj h2]
  exact (hv _ (List.getElem_mem _)).app
set_option maxRecDepth 100000 in
set_option maxHeartbeats 4000000 in
/-- ArrayList.add(e) -/
theorem c_al_add (E : zG) (l : Launch) (Z : va_W) (C : zLs) (q : Nat) (es : List Nat) (hq : C q = some es) (v : Nat) (hvv : zV Z v) (hlen : es.length ≤ 50) : Met l yJx4a65c_add_9ea2d wsJx4a65c_add_9ea2d (zR 7 1 100) (zPre E [.ref q, .ref v] (zQ E Z C)) (zRi E (zQ E Z (va_up C q (some (es ++ [v])))) 1) 1 100 (eA E) := by
  refine z_cases (fun U a h => ?_)
  obtain ⟨rfl, hQ, hK⟩ := h
  obtain ⟨RA, tail, hA, hL, hP, hv⟩ := zQ_split hQ hq
  have hv' : ∀ y ∈ es ++ [v], zV Z y := fun y hy => (List.mem_append.mp hy).elim (hv y) (fun h => by rw [List.mem_singleton.mp h]; exact hvv)
  have hle : (es ++ [v]).length = es.length + 1 := by simp
  obtain ⟨mc, t, ⟨rfl, rfl, rfl⟩ | ⟨n, row, rfl, b1, b2, b3, b4⟩⟩ := hL
  · refine ⟨_, _, c_addE E l (Z ++ RA) q mc v hvv.app, ⟨rfl, hP, hK⟩, fun o t h => ?_⟩
    obtain ⟨⟨r, u, ho, hr, hB⟩, hF⟩ := h
    refine ⟨⟨r, (), ho, hr, zQ_join hA ⟨u.2, u.1, Or.inr ⟨10, _, rfl, by simp, by decide, by decide, fun i y hy => ?_⟩⟩ hB hv'⟩, hF⟩
    have hi : i = 0 := by
      have := (List.getElem?_eq_some_iff.mp hy).1
      simp at this; omega
    subst hi
    cases hy
    exact va_up_self _ _ _
  · rcases Nat.lt_or_ge es.length n with c | c
    · refine ⟨_, _, c_addR E l (Z ++ RA) q mc t es.length n row c b3 v hvv.app, ⟨rfl, hP, hK⟩, fun o t h => ?_⟩
      obtain ⟨⟨r, u, ho, hr, hB⟩, hF⟩ := h
      refine ⟨⟨r, (), ho, hr, zQ_join hA ⟨u.2, u.1, Or.inr ⟨n, _, by rw [hle], by omega, b2, b3, fun i y hy => ?_⟩⟩ hB hv'⟩, hF⟩
      rcases Nat.lt_trichotomy i es.length with d | d | d
      · rw [va_up_ne _ _ (by omega)]
        rw [List.getElem?_append_left d] at hy
        exact b4 i y hy
      · subst d
        rw [va_up_self]
        simp at hy
        rw [hy]
      · have := (List.getElem?_eq_some_iff.mp hy).1
        omega
    · have hn : n = es.length := by omega
      subst hn
      refine ⟨_, _, c_addF E l (Z ++ RA) q mc t es.length row (by omega) (by omega) (zV_of (E := E) rfl hv b4) v hvv.app, ⟨rfl, hP, hK⟩, fun o t h => ?_⟩
      obtain ⟨⟨r, u, ho, hr, hB⟩, hF⟩ := h
      refine ⟨⟨r, (), ho, hr, zQ_join hA ⟨u.2, u.1, Or.inr ⟨es.length + es.length / 2, _, by rw [hle], by omega, by omega, by omega, fun i y hy => ?_⟩⟩ hB hv'⟩, hF⟩
      rcases Nat.lt_trichotomy i es.length with d | d | d
      · rw [va_up_ne _ _ (by omega), pk_cpy_in (Nat.zero_le _) (by omega)]
        rw [List.getElem?_append_left d] at hy
        rw [Nat.zero_add, Nat.sub_zero]
        exact b4 i y hy
      · subst d
        rw [va_up_self]
        simp at hy
        rw [hy]
      · have := (List.getElem?_eq_some_iff.mp hy).1
        omega
/-- a list with one put in -/
theorem z_ins {es : List Nat} {i v n : Nat} {row : Nat → Option Nat} (hl : n = es.length) (hi : i ≤ n) (b4 : ∀ j y, es[j]? = some y → row j = some y) : ∀ j y, (es.insertIdx i v)[j]? = some y → va_up (va_cpy row row i (i + 1) (n - i)) i (some v) j = some y := by
  intro j y hy
  have hj : j < es.length + 1 := by
    have := (List.getElem?_eq_some_iff.mp hy).1
    rw [List.length_insertIdx_of_le_length (by omega)] at this
    exact this
  rcases Nat.lt_trichotomy j i with d | d | d
  · rw [List.getElem?_insertIdx_of_lt d] at hy
    rw [va_up_ne _ _ (by omega), pk_cpy_out (Or.inl (by omega))]
    exact b4 j y hy
  · subst d
    rw [List.getElem?_insertIdx_self, if_pos (by omega)] at hy
    rw [va_up_self]
    exact hy
  · rw [List.getElem?_insertIdx_of_gt d] at hy
    rw [va_up_ne _ _ (by omega), pk_cpy_in (by omega) (by omega)]
    have e : i + (j - (i + 1)) = j - 1 := by omega
    rw [e]
    exact b4 (j - 1) y hy
set_option maxRecDepth 100000 in
set_option maxHeartbeats 4000000 in
/-- ArrayList.add(i, e) -/
theorem c_al_addAt (E : zG) (l : Launch) (Z : va_W) (C : zLs) (q : Nat) (es : List Nat) (hq : C q = some es) (i v : Nat) (hi : i ≤ es.length) (hvv : zV Z v) (hlen : es.length ≤ 50) : Met l yJx4a65c_add_7a177 wsJx4a65c_add_7a177 (zR 7 1 100) (zPre E [.ref q, .int (nI i), .ref v] (zQ E Z C)) (zRv E (zQ E Z (va_up C q (some (es.insertIdx i v))))) 1 100 (eA E) := by
  refine z_cases (fun U a h => ?_)
  obtain ⟨rfl, hQ, hK⟩ := h
  obtain ⟨RA, tail, hA, hL, hP, hv⟩ := zQ_split hQ hq
  have hv' : ∀ y ∈ es.insertIdx i v, zV Z y := fun y hy => by
    rcases (List.mem_insertIdx hi).mp hy with h | h
    · rw [h]; exact hvv
    · exact hv y h
  have hle : (es.insertIdx i v).length = es.length + 1 := List.length_insertIdx_of_le_length hi v
  obtain ⟨mc, t, ⟨rfl, rfl, rfl⟩ | ⟨n, row, rfl, b1, b2, b3, b4⟩⟩ := hL
  · have hi0 : i = 0 := by simpa using hi
    subst hi0
    refine ⟨_, _, c_addAtE E l (Z ++ RA) q mc v hvv.app, ⟨rfl, hP, hK⟩, fun o t h => ?_⟩
    obtain ⟨⟨u, ho, -, hB⟩, hF⟩ := h
    refine ⟨⟨(), ho, trivial, zQ_join hA ⟨u.2, u.1, Or.inr ⟨10, _, rfl, by simp, by decide, by decide, ?_⟩⟩ hB hv'⟩, hF⟩
    exact z_ins (n := 0) rfl (Nat.le_refl 0) (fun j y hy => nomatch hy)
  · rcases Nat.lt_or_ge es.length n with c | c
    · refine ⟨_, _, c_addAtR E l (Z ++ RA) q mc t es.length n row c b3 (zV_of (E := E) rfl hv b4) v hvv.app i hi, ⟨rfl, hP, hK⟩, fun o t h => ?_⟩
      obtain ⟨⟨u, ho, -, hB⟩, hF⟩ := h
      exact ⟨⟨(), ho, trivial, zQ_join hA ⟨u.2, u.1, Or.inr ⟨n, _, by rw [hle], by omega, b2, b3, z_ins rfl hi b4⟩⟩ hB hv'⟩, hF⟩
    · have hn : n = es.length := by omega
      subst hn
      refine ⟨_, _, c_addAtF E l (Z ++ RA) q mc t es.length row (by omega) (by omega) (zV_of (E := E) rfl hv b4) v hvv.app i hi, ⟨rfl, hP, hK⟩, fun o t h => ?_⟩
      obtain ⟨⟨u, ho, -, hB⟩, hF⟩ := h
      refine ⟨⟨(), ho, trivial, zQ_join hA ⟨u.2, u.1, Or.inr ⟨es.length + es.length / 2, _, by rw [hle], by omega, by omega, by omega, z_ins rfl hi (fun j y hy => ?_)⟩⟩ hB hv'⟩, hF⟩
      have hj := (List.getElem?_eq_some_iff.mp hy).1
      rw [pk_cpy_in (Nat.zero_le _) (by omega), Nat.zero_add, Nat.sub_zero]
      exact b4 j y hy
set_option maxRecDepth 100000 in
set_option maxHeartbeats 4000000 in
/-- ArrayList.remove(i), in range -/
theorem c_al_rem (E : zG) (l : Launch) (Z : va_W) (C : zLs) (q : Nat) (es : List Nat) (hq : C q = some es) (i y : Nat) (hy : es[i]? = some y) : Met l yJx4a65c_remove_915e3 wsJx4a65c_remove_915e3 (zR 3 0 0) (zPre E [.ref q, .int (nI i)] (zQ E Z C)) (zRr E (zQ E Z (va_up C q (some (es.eraseIdx i)))) y) 0 0 (eA E) := by
  refine z_cases (fun U a h => ?_)
  obtain ⟨rfl, hQ, hK⟩ := h
  obtain ⟨RA, tail, hA, hL, hP, hv⟩ := zQ_split hQ hq
  have hi := (List.getElem?_eq_some_iff.mp hy).1
  obtain ⟨mc, t, ⟨rfl, rfl, rfl⟩ | ⟨n, row, rfl, b1, b2, b3, b4⟩⟩ := hL
  · cases hy
  · refine ⟨_, _, c_remR E l (Z ++ RA) q mc t es.length n row b1 b3 (zV_of (E := E) rfl hv b4) i hi y (b4 i y hy), ⟨rfl, hP, hK⟩, fun o t h => ?_⟩
    obtain ⟨⟨u, ra, ho, hp, ⟨hra, hB⟩⟩, hF⟩ := h
    have hle : (es.eraseIdx i).length = es.length - 1 := List.length_eraseIdx_of_lt hi
    refine ⟨⟨(), ra, ho, trivial, hra, zQ_join hA ⟨u.1, _, Or.inr ⟨n, u.2, by rw [hle], by omega, b2, b3, fun j z hz => ?_⟩⟩ hB (fun z hz => hv z (List.mem_of_mem_eraseIdx hz))⟩, hF⟩
    have hj : j < es.length - 1 := by
      have := (List.getElem?_eq_some_iff.mp hz).1
      omega
    rw [hp j hj]
    rw [List.getElem?_eraseIdx] at hz
    by_cases c : j < i
    · rw [if_pos c] at hz ⊢
      exact b4 j z hz
    · rw [if_neg c] at hz ⊢
      exact b4 (j + 1) z hz
set_option maxRecDepth 100000 in
set_option maxHeartbeats 4000000 in
/-- ArrayList.clear() -/
theorem c_al_clear (E : zG) (l : Launch) (Z : va_W) (C : zLs) (q : Nat) (es : List Nat) (hq : C q = some es) : Met l yJx4a65c_clear_da8c8 wsJx4a65c_clear_da8c8 (zR 0 0 0) (zPre E [.ref q] (zQ E Z C)) (zRv E (zQ E Z (va_up C q (some [])))) 0 0 (eA E) := by
  refine z_cases (fun U a h => ?_)
  obtain ⟨rfl, hQ, hK⟩ := h
  obtain ⟨RA, tail, hA, hL, hP, hv⟩ := zQ_split hQ hq
  obtain ⟨mc, t, ⟨rfl, rfl, rfl⟩ | ⟨n, row, rfl, b1, b2, b3, b4⟩⟩ := hL
  · refine ⟨_, _, c_clearE E l (Z ++ RA) q mc, ⟨rfl, hP, hK⟩, fun o t h => ?_⟩
    obtain ⟨⟨u, ho, -, hB⟩, hF⟩ := h
    exact ⟨⟨(), ho, trivial, zQ_join hA ⟨u, eT E, Or.inl ⟨rfl, rfl, rfl⟩⟩ hB (fun _ h => nomatch h)⟩, hF⟩
  · refine ⟨_, _, c_clearR E l (Z ++ RA) q mc t es.length n row b1 b3, ⟨rfl, hP, hK⟩, fun o t h => ?_⟩
    obtain ⟨⟨u, ho, -, hB⟩, hF⟩ := h
    exact ⟨⟨(), ho, trivial, zQ_join hA ⟨u.1, _, Or.inr ⟨n, u.2, rfl, Nat.zero_le _, b2, b3, fun _ _ h => nomatch h⟩⟩ hB (fun _ h => nomatch h)⟩, hF⟩
/-- an ArrayList that was made and whose constructor hasn't run -/
def zQR (E : zG) (Z : va_W) (C : zLs) (q : Nat) (H : Heap) : Prop := ∃ YA : va_W, zP E ((Z ++ YA) ++ [(q, Sum.inr (2, [.int 0, .null, .int 0]))]) H ∧ zA E Z YA C ∧ C q = none
theorem z_upnone {C : zLs} {q : Nat} (h : C q = none) : va_up C q none = C := funext fun j => by
  unfold va_up
  by_cases c : j = q
  · rw [if_pos c, c, h]
  · rw [if_neg c]
set_option maxRecDepth 100000 in
set_option maxHeartbeats 4000000 in
/-- ArrayList() -/
theorem c_al_init (E : zG) (l : Launch) (Z : va_W) (C : zLs) (q : Nat) : Met l yJx4a65c_init_da8c8 wsJx4a65c_init_da8c8 (zR 3 0 0) (zPre E [.ref q] (zQR E Z C q)) (zRv E (zQ E Z (va_up C q (some [])))) 0 0 (eA E) := by
  refine z_cases (fun U a h => ?_)
  obtain ⟨rfl, ⟨YA, hP, hA, hC⟩, hK⟩ := h
  refine ⟨_, _, c_alinit E l (Z ++ YA) q, ⟨rfl, hP, hK⟩, fun o t h => ?_⟩
  obtain ⟨⟨u, ho, -, hB⟩, hF⟩ := h
  exact ⟨⟨(), ho, trivial, zQ_join (by rw [z_upnone hC]; exact hA) ⟨0, eT E, Or.inl ⟨rfl, rfl, rfl⟩⟩ hB (fun _ h => nomatch h)⟩, hF⟩
section
variable {p : Program} {l : Launch} {e : Env} {R : Room} {s : State} {m : MethodId} {args : Array Value} {below : List Frame} {meth : Method} {c : Code} {H : Heap} {locs : List Loc} {cells slots : Nat} {Q : State → Prop}
variable {E : zG} {own : String} {cc : ByteArray} {Ts : List Cond} {nL pc : Nat} {ls : Array Slot} {rest st0 : List Value} {Z X Y : va_W} {C : zLs} {a : Nat}
theorem z_newL (Cx : zC E p s m args meth c own cc Ts nL) (hw : zHA E Z C s H locs) {index : Nat} (hin : ∀ w ∈ u_ws RJx4a65c TJx4a65c 3, w ∈ Ts) (hcl : Cond.classLink own index RJx4a65c ∈ Ts) (hinst : Cond.instantiable RJx4a65c 3 ∈ Ts) (hini : Cond.initialized RJx4a65c ∈ Ts) (hcells : cells + 1 ≤ R.cells) (hslots : slots + 3 ≤ R.slots) (hdg : decode cc pc = .ok (.new index, 3))
    (kk : ∀ (q : Nat) (H1 : Heap), C q = none → (∀ x ∈ Z, x.1 ≠ q) → zHw E (zQR E Z C q) s H1 locs → W p l e R s m args below meth c H1 locs (cells + 1) (slots + 3) Q (F0 m (pc + 3) ls (.ref q :: rest))) : W p l e R s m args below meth c H locs cells slots Q (F0 m pc ls rest) := by
  obtain ⟨⟨hx, hb, hml, hown, hts⟩, ⟨hK, hA0, -⟩, -⟩ := Cx
  obtain ⟨⟨YA, ⟨hP, hD⟩, hA⟩, hS⟩ := hw
  refine va_new (ci := 2) hx hb hts hin tyJx4a65c tyJx4a65c_ok hown (hts _ hcl) (hts _ hinst) (hts _ hini) hK hP hD hS hA0 rfl (fs := [.int 0, .null, .int 0]) (fun j hj => by rcases (show j = 0 ∨ j = 1 ∨ j = 2 by omega) with rfl | rfl | rfl <;> rfl) hcells hslots hdg (fun q H1 h1 h2 h3 => ?_)
  have hf := zP_push (E := E) ⟨h1, h2⟩
  have hC : C q = none := by
    cases hc : C q with
    | none => rfl
    | some es =>
      obtain ⟨ow, hA⟩ := hA
      obtain ⟨-, mc, t, he, -⟩ := hA q es hc
      exact absurd rfl (hf _ (List.mem_append_right Z he))
  exact kk q H1 hC (fun x hx => hf x (List.mem_append_left _ hx)) ⟨⟨YA, ⟨h1, h2⟩, hA, hC⟩, h3⟩
end
