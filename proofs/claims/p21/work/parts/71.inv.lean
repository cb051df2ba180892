/-! what holds of every cloud that the calls make -/
theorem zhs_iff {K : Nat} (hK : K < 32) (b x : Int32) : zhs b (nI K) x = true ↔ x.toInt / ((2 ^ K : Nat) : Int) = b.toInt / ((2 ^ K : Nat) : Int) := by
  have hs : ((nI K &&& 31).toBitVec.smod 32).toNat = K := s_l K hK
  unfold zhs
  rw [decide_eq_true_iff, zi_eq, pk_shr x _ K hs, pk_shr b _ K hs, Int.shiftRight_eq_div_pow, Int.shiftRight_eq_div_pow]
theorem zhs_tr {b c x : Int32} {K K2 : Nat} (h : K ≤ K2) (hK2 : K2 < 32) (hx : zhs b (nI K) x = true) : zhs c (nI K2) x = zhs c (nI K2) b := by
  have h2 := (zhs_iff (by omega) b x).mp hx
  have e : ((2 ^ K2 : Nat) : Int) = ((2 ^ K : Nat) : Int) * ((2 ^ (K2 - K) : Nat) : Int) := by
    rw [← Int.natCast_mul, ← Nat.pow_add, show K + (K2 - K) = K2 by omega]
  have h3 : x.toInt / ((2 ^ K2 : Nat) : Int) = b.toInt / ((2 ^ K2 : Nat) : Int) := by
    rw [e, ← Int.ediv_ediv_of_nonneg (Int.natCast_nonneg _), ← Int.ediv_ediv_of_nonneg (Int.natCast_nonneg _), h2]
  have h4 : zhs c (nI K2) x = true ↔ zhs c (nI K2) b = true := by
    rw [zhs_iff hK2, zhs_iff hK2, h3]
  cases h5 : zhs c (nI K2) b with
  | true => exact h4.mpr h5
  | false =>
    cases h6 : zhs c (nI K2) x with
    | false => rfl
    | true => rw [h4.mp h6] at h5; cases h5
theorem zovl_of {v w : zBk} (hv : zbok v.1 v.2) (hw : zbok w.1 w.2) {x : Int32} (h1 : zhs v.1 v.2 x = true) (h2 : zhs w.1 w.2 x = true) : zovl v w = true := by
  obtain ⟨b, k⟩ := v
  obtain ⟨c, j⟩ := w
  obtain ⟨B, K, -, ek, hK, -, -⟩ := zbok_nat hv
  obtain ⟨C, J, -, ej, hJ, -, -⟩ := zbok_nat hw
  have ek : k = nI K := ek
  have ej : j = nI J := ej
  subst ek
  subst ej
  unfold zovl
  rw [Bool.or_eq_true]
  rcases Nat.le_total K J with h | h
  · exact Or.inr ((zhs_tr h (by omega) h1).symm.trans h2)
  · exact Or.inl ((zhs_tr h (by omega) h2).symm.trans h1)
theorem zwin_all {w : zBk} {b z : Int32} (hw : zbok w.1 w.2) (hb : zbok b z) (h : zwin w b z = true) (x : Int32) (hx : zhs b z x = true) : zhs w.1 w.2 x = true := by
  obtain ⟨c, j⟩ := w
  obtain ⟨B, K, -, ek, hK, -, -⟩ := zbok_nat hb
  obtain ⟨C, J, -, ej, hJ, -, -⟩ := zbok_nat hw
  have ej : j = nI J := ej
  subst ek
  subst ej
  unfold zwin at h
  rw [Bool.and_eq_true] at h
  have h1 : K ≤ J := (nI_leI (by omega) (by omega)).mp (of_decide_eq_true h.1)
  exact (zhs_tr h1 (by omega) hx).trans h.2
theorem zhs_base {w : zBk} (hw : zbok w.1 w.2) : zhs w.1 w.2 w.1 = true := by
  unfold zhs
  exact decide_eq_true rfl
def zIs (V : zCl) (v : zSb) : Prop := (∃ w, (vN V)[v.1]? = some w ∧ ∀ x, zhs v.2.1.1 v.2.1.2 x = true → zhs w.1 w.2 x = true) ∧ zbok v.2.1.1 v.2.1.2 ∧ (∀ r ∈ v.2.2.1, zrok r) ∧ (∀ t ∈ v.2.2.2, zbok t.1.1 t.1.2 ∧ zix t.2 (vP V).length) ∧ (v.2.2.2.map (fun t => t.1)).Nodup
def zIh (V : zCl) (h : zHo) : Prop := ∃ v, (vS V)[h.1]? = some v ∧ zhs v.2.1.1 v.2.1.2 h.2.1 = true
def zId (N : List zBk) : Prop := (∀ w ∈ N, zbok w.1 w.2) ∧ ∀ (i j : Nat) (v w : zBk) (x : Int32), N[i]? = some v → N[j]? = some w → zhs v.1 v.2 x = true → zhs w.1 w.2 x = true → i = j
def zInv (V : zCl) : Prop := zId (vN V) ∧ (∀ v ∈ vS V, zIs V v) ∧ (∀ h ∈ vH V, zIh V h) ∧ (∀ v ∈ vG V, ∀ r ∈ v, zrok r) ∧ (vP V).length ≤ 6
theorem zhv_get {V : zCl} {i : Nat} (hi : i < (vH V).length) : (vH V)[i]? = some (zhv V i) := by
  unfold zhv
  rw [List.getD_eq_getElem?_getD, List.getElem?_eq_getElem hi]; rfl
theorem zV_S {V : zCl} (hI : zInv V) {i : Nat} (hi : i < (vS V).length) : ∃ v w, (vS V)[i]? = some v ∧ (vN V)[v.1]? = some w ∧ zsv V i = (v.1, w, v.2.2.1, v.2.2.2) ∧ zIs V v ∧ zbok w.1 w.2 := by
  have hv := List.getElem?_eq_getElem hi
  have hs := hI.2.1 _ (List.mem_of_getElem? hv)
  obtain ⟨w, hw, -⟩ := hs.1
  exact ⟨_, w, hv, hw, zsv_eq hv hw, hs, hI.1.1 w (List.mem_of_getElem? hw)⟩
theorem zV_H {V : zCl} (hI : zInv V) {i : Nat} (hi : i < (vH V).length) : (zhv V i).1 < (vS V).length := by
  obtain ⟨v, hv, -⟩ := hI.2.2.1 _ (List.mem_of_getElem? (zhv_get hi))
  exact (List.getElem?_eq_some_iff.mp hv).1
/-! which route counts -/
theorem zrn_mem (x : Int32) : ∀ (vs : List zRt) (n sm : Int32), zrn x vs n sm = n ∨ ∃ t ∈ vs, zrn x vs n sm = t.2 := by
  intro vs
  induction vs with
  | nil => intro n sm; exact Or.inl rfl
  | cons v vs ih =>
    intro n sm
    rw [zrn]
    by_cases c : v.1.2 < sm ∧ zhs v.1.1 v.1.2 x = true
    · rw [if_pos c]
      rcases ih v.2 v.1.2 with h | ⟨t, ht, h⟩
      · exact Or.inr ⟨v, List.mem_cons_self, h⟩
      · exact Or.inr ⟨t, List.mem_cons_of_mem _ ht, h⟩
    · rw [if_neg c]
      rcases ih n sm with h | ⟨t, ht, h⟩
      · exact Or.inl h
      · exact Or.inr ⟨t, List.mem_cons_of_mem _ ht, h⟩
theorem zrouteV_in {V : zCl} (hI : zInv V) {i : Nat} (hi : i < (vS V).length) (x : Int32) : (zrouteV V i x = -1 ∧ zhs (zsv V i).2.1.1 (zsv V i).2.1.2 x = true) ∨ zrouteV V i x = -2 ∨ zix (zrouteV V i x) (vP V).length := by
  obtain ⟨v, w, hv, hw, e, hs, hb⟩ := zV_S hI hi
  unfold zrouteV zrnum
  rw [e]
  by_cases c : zhs w.1 w.2 x = true
  · simp only [if_pos c]
    rcases zrn_mem x v.2.2.2 (-1) w.2 with h | ⟨t, ht, h⟩
    · exact Or.inl ⟨h, c⟩
    · rw [h]
      exact Or.inr (Or.inr (hs.2.2.2.1 t ht).2)
  · simp only [if_neg c]
    rcases zrn_mem x v.2.2.2 (-2) 11 with h | ⟨t, ht, h⟩
    · exact Or.inr (Or.inl h)
    · rw [h]
      exact Or.inr (Or.inr (hs.2.2.2.1 t ht).2)
def zrtdV (V : zCl) (i h : Nat) : Bool := zrtd (vP V) (zsv V i).1 (zsv V (zhv V h).1).1 (zrouteV V i (zhv V h).2.1)
theorem zix_nn {x : Int32} {n : Nat} (h : zix x n) (hn : n ≤ 1000) : ¬ x < 0 := by
  obtain ⟨k, hk, rfl⟩ := h
  exact nI_pos (by omega)
theorem zrtdV_l {V : zCl} (hI : zInv V) {i h : Nat} (hi : i < (vS V).length) (hh : h < (vH V).length) (e : zrouteV V i (zhv V h).2.1 = -1) : zrtdV V i h = true := by
  obtain ⟨v, w, hv, hw, e1, hs, hb⟩ := zV_S hI hi
  obtain ⟨v2, w2, hv2, hw2, e2, hs2, hb2⟩ := zV_S hI (zV_H hI hh)
  have hx : zhs (zsv V i).2.1.1 (zsv V i).2.1.2 (zhv V h).2.1 = true := by
    rcases zrouteV_in hI hi (zhv V h).2.1 with c | c | c
    · exact c.2
    · rw [e] at c; exact absurd c (by decide)
    · rw [e] at c
      exact absurd (zix_nn c (Nat.le_trans hI.2.2.2.2 (by omega))) (by decide)
  rw [e1] at hx
  have hx : zhs w.1 w.2 (zhv V h).2.1 = true := hx
  obtain ⟨v3, hv3, hx3⟩ := hI.2.2.1 _ (List.mem_of_getElem? (zhv_get hh))
  rw [hv2] at hv3
  cases hv3
  obtain ⟨w3, hw3, hin⟩ := hs2.1
  rw [hw2] at hw3
  cases hw3
  have hij : v.1 = v2.1 := hI.1.2 v.1 v2.1 w w2 _ hw hw2 hx (hin _ hx3)
  unfold zrtdV zrtd
  rw [e, if_pos rfl, e1, e2]
  exact decide_eq_true hij
theorem zrtdV_n {V : zCl} {i h : Nat} (e : zrouteV V i (zhv V h).2.1 = -2) : zrtdV V i h = false := by
  unfold zrtdV zrtd
  rw [e, if_neg (by decide), if_pos (by decide)]
theorem zrtdV_p {V : zCl} {i h k : Nat} {q : Nat × Nat} (e : zrouteV V i (zhv V h).2.1 = nI k) (hk : (vP V)[k]? = some q) (h6 : k < 6) : zrtdV V i h = decide ((q.1 = (zsv V i).1 ∧ q.2 = (zsv V (zhv V h).1).1) ∨ (q.1 = (zsv V (zhv V h).1).1 ∧ q.2 = (zsv V i).1)) := by
  have h1 : ¬ nI k = -1 := fun c => absurd (nI_pos (n := k) (by omega)) (by rw [c]; decide)
  unfold zrtdV zrtd
  rw [e, if_neg h1, if_neg (nI_pos (by omega)), nI_clamp (by omega), hk]
def zA2 (V : zCl) (f t : Int32) (ok : Prop) (val : Nat → Nat → Int32) (c : Nat) (r : Int32) : Prop := (c = 0 ∧ ∃ i j : Nat, f = nI i ∧ t = nI j ∧ i < (vH V).length ∧ j < (vH V).length ∧ ¬ i = j ∧ ok ∧ r = val i j) ∨ (c = 1 ∧ ¬ (zix f (vH V).length ∧ zix t (vH V).length)) ∨ (c = 2 ∧ (zix f (vH V).length ∧ zix t (vH V).length) ∧ ¬ (¬ f = t ∧ ok))
def zA_ports (V : zCl) (f t : Int32) : Nat → Int32 → Prop := zA2 V f t True (zworkV V)
def zA_blockedBy (V : zCl) (f t p0 : Int32) : Nat → Int32 → Prop := zA2 V f t (zprt p0) (fun i j => zfirstP (fun p => zopenV V p i j) (zbit p0) 8 1)
def zA_blocks (V : zCl) (f t p0 : Int32) : Nat → Int32 → Prop := zA2 V f t (zprt p0) (fun i j => zsumP (fun p => zopenV V p i j) (zbit p0) 8 1 0)
def zA_routeFor (V : zCl) (f a : Int32) (c : Nat) (r : Int32) : Prop := (c = 0 ∧ ∃ k : Nat, f = nI k ∧ k < (vS V).length ∧ (¬ a < 0 ∧ a < 1024) ∧ r = zrouteV V k a) ∨ (c = 1 ∧ ¬ zix f (vS V).length) ∨ (c = 2 ∧ zix f (vS V).length ∧ ¬ (¬ a < 0 ∧ a < 1024))
def zA_pairs (V : zCl) (f : Int32) (c : Nat) (r : Int32) : Prop := (c = 0 ∧ zprt f ∧ r = nI (zpairsO V (zbit f) (vH V).length (vH V).length 0 0)) ∨ (c = 1 ∧ ¬ zprt f)
def zA_reachedFrom (V : zCl) (f : Int32) (c : Nat) (r : Int32) : Prop := (c = 0 ∧ ∃ k : Nat, f = nI k ∧ k < (vH V).length ∧ r = zreach V k (vH V).length 0 0) ∨ (c = 1 ∧ ¬ zix f (vH V).length)
def zA_idleRules (V : zCl) (f : Int32) (c : Nat) (r : Int32) : Prop := (c = 0 ∧ ∃ k : Nat, f = nI k ∧ k < (vS V).length ∧ r = nI (zidles [] (zsv V k).2.2.1)) ∨ (c = 1 ∧ ¬ zix f (vS V).length)
theorem z_dec {i : Nat} (h : 1 ≤ i) : nI i + (-1) = nI (i - 1) := by
  obtain ⟨j, rfl⟩ : ∃ j, i = j + 1 := ⟨i - 1, by omega⟩
  exact pk_m1 j
theorem zor_nat (a b : Nat) : nI a ||| nI b = nI (a ||| b) := by
  apply Int32.toBitVec_inj.1
  show BitVec.ofNat 32 a ||| BitVec.ofNat 32 b = BitVec.ofNat 32 (a ||| b)
  apply BitVec.eq_of_getLsbD_eq
  intro i hi
  simp [hi]
theorem zshl_nat : ∀ i, i < 13 → (1 : Int32) <<< (nI i &&& 31) = nI (2 ^ i) := by decide +kernel
theorem zor_bit {S i : Nat} (h : S < 2 ^ i) (hi : i < 13) : nI S ||| (1 : Int32) <<< (nI i &&& 31) = nI S + (1 : Int32) <<< (nI i &&& 31) ∧ ∃ S' : Nat, S' < 2 ^ (i + 1) ∧ nI S + (1 : Int32) <<< (nI i &&& 31) = nI S' := by
  have e : S ||| 2 ^ i = S + 2 ^ i := by
    have := Nat.two_pow_add_eq_or_of_lt h 1
    rw [Nat.mul_one] at this
    rw [Nat.or_comm, ← this, Nat.add_comm]
  rw [zshl_nat i hi, zor_nat, nI_add, e]
  exact ⟨rfl, S + 2 ^ i, by rw [Nat.pow_succ]; omega, rfl⟩
abbrev zworkP (V : zCl) (f t p : Nat) : Int32 := zwork (vG V) (vP V) (zhv V f).1 (zhv V t).1 (zsv V (zhv V f).1) (zsv V (zhv V t).1) (zhv V f).2.1 (zhv V f).2.2 (zhv V t).2.1 (zhv V t).2.2 p
/-! what the calls that change do: (code of the throw, answer, the cloud behind it) -/
def zGd (P : Prop) (c k : Nat) (V' V : zCl) (K : Prop) : Prop := (c = k ∧ V' = V ∧ ¬ P) ∨ (P ∧ K)
def zA_addNetwork (V : zCl) (b z : Int32) (c : Nat) (r : Int32) (V' : zCl) : Prop := zGd (zbok b z) c 1 V' V (zGd ((vN V).length < 4 ∧ (vN V).any (fun w => zovl w (b, z)) = false) c 2 V' V (c = 0 ∧ V' = (vN V ++ [(b, z)], V.2) ∧ r = nI (vN V).length))
def zA_addSubnet (V : zCl) (f b z : Int32) (c : Nat) (r : Int32) (V' : zCl) : Prop := zGd (zix f (vN V).length) c 1 V' V (∃ (k : Nat) (w : zBk), f = nI k ∧ (vN V)[k]? = some w ∧ zGd (zbok b z ∧ zwin w b z = true) c 2 V' V (zGd ((vS V).length < 8 ∧ (vS V).any (fun (s : zSb) => zovl s.2.1 (b, z)) = false) c 3 V' V (c = 0 ∧ V' = (vN V, vS V ++ [(k, (b, z), [], [])], V.2.2) ∧ r = nI (vS V).length)))
def zA_addHost (V : zCl) (f a : Int32) (c : Nat) (r : Int32) (V' : zCl) : Prop := zGd (zix f (vS V).length) c 1 V' V (∃ (k : Nat) (v : zSb), f = nI k ∧ (vS V)[k]? = some v ∧ zGd (zhs v.2.1.1 v.2.1.2 a = true) c 2 V' V (zGd ((vH V).length < 12 ∧ (vH V).any (fun h => decide (h.2.1 = a)) = false) c 3 V' V (c = 0 ∧ V' = (vN V, vS V, vH V ++ [(k, a, 0)], vP V, vG V) ∧ r = nI (vH V).length)))
def zA_addPeering (V : zCl) (f t : Int32) (c : Nat) (r : Int32) (V' : zCl) : Prop := zGd (zix f (vN V).length ∧ zix t (vN V).length) c 1 V' V (∃ (k j : Nat), f = nI k ∧ t = nI j ∧ k < (vN V).length ∧ j < (vN V).length ∧ zGd (¬ f = t) c 2 V' V (zGd ((vP V).length < 6) c 3 V' V (c = 0 ∧ V' = (vN V, vS V, vH V, vP V ++ [(k, j)], vG V) ∧ r = nI (vP V).length)))
def zA_addGroup (V : zCl) (c : Nat) (r : Int32) (V' : zCl) : Prop := zGd ((vG V).length < 6) c 1 V' V (c = 0 ∧ V' = (vN V, vS V, vH V, vP V, vG V ++ [[]]) ∧ r = nI (vG V).length)
def zA_allow (V : zCl) (gr : Int32) (i : Bool) (b z f la : Int32) (c : Nat) (r : Int32) (V' : zCl) : Prop := zGd (zix gr (vG V).length) c 1 V' V (∃ (k : Nat) (v : List zRl), gr = nI k ∧ (vG V)[k]? = some v ∧ zGd (zbok b z ∧ zpok f la) c 2 V' V (zGd (v.length < 10) c 3 V' V (c = 0 ∧ V' = (vN V, vS V, vH V, vP V, (vG V).set k (v ++ [(zb i, zb true, (b, z), zps f la)])) ∧ r = nI (v.length + 1))))
def zA_clearGroup (V : zCl) (gr : Int32) (c : Nat) (r : Int32) (V' : zCl) : Prop := zGd (zix gr (vG V).length) c 1 V' V (∃ (k : Nat) (v : List zRl), gr = nI k ∧ (vG V)[k]? = some v ∧ c = 0 ∧ V' = (vN V, vS V, vH V, vP V, (vG V).set k []) ∧ r = nI v.length)
def zA_setGroup (V : zCl) (f gr : Int32) (i : Bool) (c : Nat) (r : Int32) (V' : zCl) : Prop := zGd (zix f (vH V).length ∧ zix gr (vG V).length) c 1 V' V (∃ (k j : Nat) (v : zHo), f = nI k ∧ gr = nI j ∧ j < (vG V).length ∧ (vH V)[k]? = some v ∧ c = 0 ∧ V' = (vN V, vS V, (vH V).set k (v.1, v.2.1, zput v.2.2 gr (zb i)), vP V, vG V) ∧ r = zb (!decide (v.2.2 &&& (1 : Int32) <<< (gr &&& 31) = 0)))
def zPl (V : zCl) (f pl : Int32) (k j : Nat) (v : zSb) (u : Nat) : Prop := f = nI k ∧ (vS V)[k]? = some v ∧ pl = nI j ∧ j < v.2.2.1.length + u
def zA_putRule (V : zCl) (f pl : Int32) (i al : Bool) (b z fp la : Int32) (c : Nat) (r : Int32) (V' : zCl) : Prop := zGd (∃ k j v, zPl V f pl k j v 1) c 1 V' V (∃ k j v, zPl V f pl k j v 1 ∧ zGd (zbok b z ∧ zpok fp la) c 2 V' V (zGd (v.2.2.1.length < 12) c 3 V' V (c = 0 ∧ V' = (vN V, (vS V).set k (v.1, v.2.1, v.2.2.1.insertIdx j (zb i, zb al, (b, z), zps fp la), v.2.2.2), V.2.2) ∧ r = nI (v.2.2.1.length + 1))))
def zA_removeRule (V : zCl) (f pl : Int32) (c : Nat) (r : Int32) (V' : zCl) : Prop := zGd (∃ k j v, zPl V f pl k j v 0) c 1 V' V (∃ k j v, zPl V f pl k j v 0 ∧ c = 0 ∧ V' = (vN V, (vS V).set k (v.1, v.2.1, v.2.2.1.eraseIdx j, v.2.2.2), V.2.2) ∧ r = nI (v.2.2.1.length - 1))
def zA_setRoute (V : zCl) (f b z pe : Int32) (c : Nat) (r : Int32) (V' : zCl) : Prop := zGd (zix f (vS V).length ∧ (pe = -1 ∨ zix pe (vP V).length)) c 1 V' V (∃ (k : Nat) (v : zSb), f = nI k ∧ (vS V)[k]? = some v ∧ zGd (zbok b z) c 2 V' V (zGd (pe = -1 ∨ (∃ w ∈ v.2.2.2, w.1 = (b, z)) ∨ v.2.2.2.length < 8) c 3 V' V (c = 0 ∧
  ((∃ (w : zRt) (rs rs' : List zRt), w.1 = (b, z) ∧ v.2.2.2.Perm (w :: rs) ∧ r = w.2 ∧ ((pe = -1 ∧ rs' = rs) ∨ (¬ pe = -1 ∧ rs'.Perm (((b, z), pe) :: rs))) ∧ V' = (vN V, (vS V).set k (v.1, v.2.1, v.2.2.1, rs'), V.2.2)) ∨
   ((∀ w ∈ v.2.2.2, ¬ w.1 = (b, z)) ∧ r = -1 ∧ ((pe = -1 ∧ V' = V) ∨ (¬ pe = -1 ∧ V' = (vN V, (vS V).set k (v.1, v.2.1, v.2.2.1, v.2.2.2 ++ [((b, z), pe)]), V.2.2))))))))
