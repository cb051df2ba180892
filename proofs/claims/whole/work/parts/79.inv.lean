/-! what holds of every cloud that the calls make -/
theorem zhs_iff {K : Nat} (hK : K < 32) (b x : Int32) : zhs b (nI K) x = true ↔ x.toInt / ((2 ^ K : Nat) : Int) = b.toInt / ((2 ^ K : Nat) : Int) := by
  have hs : ((nI K &&& 31).toBitVec.smod 32).toNat = K := s_l K hK
  unfold zhs
  rw [decide_eq_true_iff, zi_eq, pk_shr x _ K hs, pk_shr b _ K hs, Int.shiftRight_eq_div_pow, Int.shiftRight_eq_div_pow]
theorem zhs_tr {b c x : Int32} {K K2 : Nat} (h : K ≤ K2) (hK2 : K2 < 32) (hx : zhs b (nI K) x = true) : zhs c (nI K2) x = zhs c (nI K2) b := by
  have h2 := (zhs_iff (by omega) b x).mp hx
  have e : ((2 ^ K2 : Nat) : Int) = ((2 ^ K : Nat) : Int) * ((2 ^ (K2 - K) : Nat) : Int) := by
    rw [← Int.natCast_mul, ← Nat.pow_add, show K + (K2 - K) = K2 by omega]
  have h3 : x.toInt / ((2 ^ K2 : Nat) : Int) = b.toInt / ((2 ^ K2 : Nat) : Int) := by
    rw [e, ← Int.ediv_ediv_of_nonneg (Int.natCast_nonneg _), ← Int.ediv_ediv_of_nonneg (Int.natCast_nonneg _), h2]
  have h4 : zhs c (nI K2) x = true ↔ zhs c (nI K2) b = true := by
    rw [zhs_iff hK2, zhs_iff hK2, h3]
  cases h5 : zhs c (nI K2) b with
  | true => exact h4.mpr h5
  | false =>
    cases h6 : zhs c (nI K2) x with
    | false => rfl
    | true => rw [h4.mp h6] at h5; cases h5
theorem zovl_of {v w : zBk} (hv : zbok v.1 v.2) (hw : zbok w.1 w.2) {x : Int32} (h1 : zhs v.1 v.2 x = true) (h2 : zhs w.1 w.2 x = true) : zovl v w = true := by
  obtain ⟨b, k⟩ := v
  obtain ⟨c, j⟩ := w
  obtain ⟨B, K, -, ek, hK, -, -⟩ := zbok_nat hv
  obtain ⟨C, J, -, ej, hJ, -, -⟩ := zbok_nat hw
  have ek : k = nI K := ek
  have ej : j = nI J := ej
  subst ek
  subst ej
  unfold zovl
  rw [Bool.or_eq_true]
  rcases Nat.le_total K J with h | h
  · exact Or.inr ((zhs_tr h (by omega) h1).symm.trans h2)
  · exact Or.inl ((zhs_tr h (by omega) h2).symm.trans h1)
theorem zwin_all {w : zBk} {b z : Int32} (hw : zbok w.1 w.2) (hb : zbok b z) (h : zwin w b z = true) (x : Int32) (hx : zhs b z x = true) : zhs w.1 w.2 x = true := by
  obtain ⟨c, j⟩ := w
  obtain ⟨B, K, -, ek, hK, -, -⟩ := zbok_nat hb
  obtain ⟨C, J, -, ej, hJ, -, -⟩ := zbok_nat hw
  have ej : j = nI J := ej
  subst ek
  subst ej
  unfold zwin at h
  rw [Bool.and_eq_true] at h
  have h1 : K ≤ J := (nI_leI (by omega) (by omega)).mp (of_decide_eq_true h.1)
  exact (zhs_tr h1 (by omega) hx).trans h.2
theorem zhs_base {w : zBk} (hw : zbok w.1 w.2) : zhs w.1 w.2 w.1 = true := by
  unfold zhs
  exact decide_eq_true rfl
def zIs (V : zCl) (v : zSb) : Prop := (∃ w, (vN V)[v.1]? = some w ∧ ∀ x, zhs v.2.1.1 v.2.1.2 x = true → zhs w.1 w.2 x = true) ∧ zbok v.2.1.1 v.2.1.2 ∧ (∀ r ∈ v.2.2.1, zrok r) ∧ (∀ t ∈ v.2.2.2, zbok t.1.1 t.1.2 ∧ zix t.2 (vP V).length) ∧ (v.2.2.2.map (fun t => t.1)).Nodup
def zIh (V : zCl) (h : zHo) : Prop := ∃ v, (vS V)[h.1]? = some v ∧ zhs v.2.1.1 v.2.1.2 h.2.1 = true
def zId (N : List zBk) : Prop := (∀ w ∈ N, zbok w.1 w.2) ∧ ∀ (i j : Nat) (v w : zBk) (x : Int32), N[i]? = some v → N[j]? = some w → zhs v.1 v.2 x = true → zhs w.1 w.2 x = true → i = j
def zInv (V : zCl) : Prop := zId (vN V) ∧ (∀ v ∈ vS V, zIs V v) ∧ (∀ h ∈ vH V, zIh V h) ∧ (∀ v ∈ vG V, ∀ r ∈ v, zrok r) ∧ (vP V).length ≤ 6
theorem zhv_get {V : zCl} {i : Nat} (hi : i < (vH V).length) : (vH V)[i]? = some (zhv V i) := by
  unfold zhv
  rw [List.getD_eq_getElem?_getD, List.getElem?_eq_getElem hi]; rfl
theorem zV_S {V : zCl} (hI : zInv V) {i : Nat} (hi : i < (vS V).length) : ∃ v w, (vS V)[i]? = some v ∧ (vN V)[v.1]? = some w ∧ zsv V i = (v.1, w, v.2.2.1, v.2.2.2) ∧ zIs V v ∧ zbok w.1 w.2 := by
  have hv := List.getElem?_eq_getElem hi
  have hs := hI.2.1 _ (List.mem_of_getElem? hv)
  obtain ⟨w, hw, -⟩ := hs.1
  exact ⟨_, w, hv, hw, zsv_eq hv hw, hs, hI.1.1 w (List.mem_of_getElem? hw)⟩
theorem zV_H {V : zCl} (hI : zInv V) {i : Nat} (hi : i < (vH V).length) : (zhv V i).1 < (vS V).length := by
  obtain ⟨v, hv, -⟩ := hI.2.2.1 _ (List.mem_of_getElem? (zhv_get hi))
  exact (List.getElem?_eq_some_iff.mp hv).1
/-! which route counts -/
theorem zrn_mem (x : Int32) : ∀ (vs : List zRt) (n sm : Int32), zrn x vs n sm = n ∨ ∃ t ∈ vs, zrn x vs n sm = t.2 := by
  intro vs
  induction vs with
  | nil => intro n sm; exact Or.inl rfl
  | cons v vs ih =>
    intro n sm
    rw [zrn]
    by_cases c : v.1.2 < sm ∧ zhs v.1.1 v.1.2 x = true
    · rw [if_pos c]
      rcases ih v.2 v.1.2 with h | ⟨t, ht, h⟩
      · exact Or.inr ⟨v, List.mem_cons_self, h⟩
      · exact Or.inr ⟨t, List.mem_cons_of_mem _ ht, h⟩
    · rw [if_neg c]
      rcases ih n sm with h | ⟨t, ht, h⟩
      · exact Or.inl h
      · exact Or.inr ⟨t, List.mem_cons_of_mem _ ht, h⟩
theorem zrouteV_in {V : zCl} (hI : zInv V) {i : Nat} (hi : i < (vS V).length) (x : Int32) : (zrouteV V i x = -1 ∧ zhs (zsv V i).2.1.1 (zsv V i).2.1.2 x = true) ∨ zrouteV V i x = -2 ∨ zix (zrouteV V i x) (vP V).length := by
  obtain ⟨v, w, hv, hw, e, hs, hb⟩ := zV_S hI hi
  unfold zrouteV zrnum
  rw [e]
  by_cases c : zhs w.1 w.2 x = true
  · simp only [if_pos c]
    rcases zrn_mem x v.2.2.2 (-1) w.2 with h | ⟨t, ht, h⟩
    · exact Or.inl ⟨h, c⟩
    · rw [h]
      exact Or.inr (Or.inr (hs.2.2.2.1 t ht).2)
  · simp only [if_neg c]
    rcases zrn_mem x v.2.2.2 (-2) 11 with h | ⟨t, ht, h⟩
    · exact Or.inr (Or.inl h)
    · rw [h]
      exact Or.inr (Or.inr (hs.2.2.2.1 t ht).2)
def zrtdV (V : zCl) (i h : Nat) : Bool := zrtd (vP V) (zsv V i).1 (zsv V (zhv V h).1).1 (zrouteV V i (zhv V h).2.1)
theorem zix_nn {x : Int32} {n : Nat} (h : zix x n) (hn : n ≤ 1000) : ¬ x < 0 := by
  obtain ⟨k, hk, rfl⟩ := h
  exact nI_pos (by omega)
theorem zrtdV_l {V : zCl} (hI : zInv V) {i h : Nat} (hi : i < (vS V).length) (hh : h < (vH V).length) (e : zrouteV V i (zhv V h).2.1 = -1) : zrtdV V i h = true := by
  obtain ⟨v, w, hv, hw, e1, hs, hb⟩ := zV_S hI hi
  obtain ⟨v2, w2, hv2, hw2, e2, hs2, hb2⟩ := zV_S hI (zV_H hI hh)
  have hx : zhs (zsv V i).2.1.1 (zsv V i).2.1.2 (zhv V h).2.1 = true := by
    rcases zrouteV_in hI hi (zhv V h).2.1 with c | c | c
    · exact c.2
    · rw [e] at c; exact absurd c (by decide)
    · rw [e] at c
      exact absurd (zix_nn c (Nat.le_trans hI.2.2.2.2 (by omega))) (by decide)
  rw [e1] at hx
  have hx : zhs w.1 w.2 (zhv V h).2.1 = true := hx
  obtain ⟨v3, hv3, hx3⟩ := hI.2.2.1 _ (List.mem_of_getElem? (zhv_get hh))
  rw [hv2] at hv3
  cases hv3
  obtain ⟨w3, hw3, hin⟩ := hs2.1
  rw [hw2] at hw3
  cases hw3
  have hij : v.1 = v2.1 := hI.1.2 v.1 v2.1 w w2 _ hw hw2 hx (hin _ hx3)
  unfold zrtdV zrtd
  rw [e, if_pos rfl, e1, e2]
  exact decide_eq_true hij
theorem zrtdV_n {V : zCl} {i h : Nat} (e : zrouteV V i (zhv V h).2.1 = -2) : zrtdV V i h = false := by
  unfold zrtdV zrtd
  rw [e, if_neg (by decide), if_pos (by decide)]
theorem zrtdV_p {V : zCl} {i h k : Nat} {q : Nat × Nat} (e : zrouteV V i (zhv V h).2.1 = nI k) (hk : (vP V)[k]? = some q) (h6 : k < 6) : zrtdV V i h = decide ((q.1 = (zsv V i).1 ∧ q.2 = (zsv V (zhv V h).1).1) ∨ (q.1 = (zsv V (zhv V h).1).1 ∧ q.2 = (zsv V i).1)) := by
  have h1 : ¬ nI k = -1 := fun c => absurd (nI_pos (n := k) (by omega)) (by rw [c]; decide)
  unfold zrtdV zrtd
  rw [e, if_neg h1, if_neg (nI_pos (by omega)), nI_clamp (by omega), hk]
/-! the same cloud with its routes in another order -/
theorem zsv_eqv {V W : zCl} (hI : zInv V) (hE : zEqv V W) {i : Nat} (hi : i < (vS V).length) : (zsv V i).1 = (zsv W i).1 ∧ (zsv V i).2.2.1 = (zsv W i).2.2.1 ∧ (∀ x, zrnum (zsv V i).2.1.1 (zsv V i).2.1.2 (zsv V i).2.2.2 x = zrnum (zsv W i).2.1.1 (zsv W i).2.1.2 (zsv W i).2.2.2 x) := by
  obtain ⟨v, w, hv, hw, e, hs, hb⟩ := zV_S hI hi
  have hi2 : i < (vS W).length := by rw [← hE.2.1.1]; exact hi
  have hv2 := List.getElem?_eq_getElem hi2
  obtain ⟨k1, k2, k3, k4⟩ := hE.2.1.2 i v _ hv hv2
  have hw2 : (vN W)[((vS W)[i]).1]? = some w := by rw [← hE.1, ← k1]; exact hw
  rw [e, zsv_eq hv2 hw2]
  exact ⟨k1, k3, fun x => zrnum_perm k4 (fun t ht => (hs.2.2.2.1 t ht).1) hs.2.2.2.2 w.1 w.2 x⟩
theorem zopen_congr {gvs : List (List zRl)} {pvs : List (Nat × Nat)} {p s1 s2 : Nat} {a1 g1 a2 g2 : Int32} {v1 v2 w1 w2 : zSv} (h1 : v1.1 = w1.1 ∧ v1.2.2.1 = w1.2.2.1 ∧ ∀ x, zrnum v1.2.1.1 v1.2.1.2 v1.2.2.2 x = zrnum w1.2.1.1 w1.2.1.2 w1.2.2.2 x) (h2 : v2.1 = w2.1 ∧ v2.2.2.1 = w2.2.2.1 ∧ ∀ x, zrnum v2.2.1.1 v2.2.1.2 v2.2.2.2 x = zrnum w2.2.1.1 w2.2.1.2 w2.2.2.2 x) : zopen gvs pvs p s1 s2 v1 v2 a1 g1 a2 g2 = zopen gvs pvs p s1 s2 w1 w2 a1 g1 a2 g2 := by
  obtain ⟨e1, r1, n1⟩ := h1
  obtain ⟨e2, r2, n2⟩ := h2
  have m1 := n1 a2
  have m2 := n2 a1
  unfold zopen
  rw [m1, m2, e1, r1, e2, r2]
theorem zwork_congr {gvs : List (List zRl)} {pvs : List (Nat × Nat)} {s1 s2 : Nat} {a1 g1 a2 g2 : Int32} {v1 v2 w1 w2 : zSv} (h1 : v1.1 = w1.1 ∧ v1.2.2.1 = w1.2.2.1 ∧ ∀ x, zrnum v1.2.1.1 v1.2.1.2 v1.2.2.2 x = zrnum w1.2.1.1 w1.2.1.2 w1.2.2.2 x) (h2 : v2.1 = w2.1 ∧ v2.2.2.1 = w2.2.2.1 ∧ ∀ x, zrnum v2.2.1.1 v2.2.1.2 v2.2.2.2 x = zrnum w2.2.1.1 w2.2.1.2 w2.2.2.2 x) : ∀ p : Nat, zwork gvs pvs s1 s2 v1 v2 a1 g1 a2 g2 p = zwork gvs pvs s1 s2 w1 w2 a1 g1 a2 g2 p := by
  intro p
  induction p with
  | zero => rfl
  | succ p ih => rw [zwork, zwork, ih, zopen_congr h1 h2]
section
variable {V W : zCl}
theorem zhv_eqv (hE : zEqv V W) (i : Nat) : zhv V i = zhv W i := by unfold zhv; rw [hE.2.2.1]
theorem zopenV_eqv (hI : zInv V) (hE : zEqv V W) (p : Nat) {f t : Nat} (hf : f < (vH V).length) (ht : t < (vH V).length) : zopenV V p f t = zopenV W p f t := by
  have e1 := zsv_eqv hI hE (zV_H hI hf)
  have e2 := zsv_eqv hI hE (zV_H hI ht)
  unfold zopenV
  rw [← zhv_eqv hE f, ← zhv_eqv hE t, ← hE.2.2.2.1, ← hE.2.2.2.2]
  exact zopen_congr e1 e2
theorem zworkV_eqv (hI : zInv V) (hE : zEqv V W) {f t : Nat} (hf : f < (vH V).length) (ht : t < (vH V).length) : zworkV V f t = zworkV W f t := by
  have e1 := zsv_eqv hI hE (zV_H hI hf)
  have e2 := zsv_eqv hI hE (zV_H hI ht)
  unfold zworkV
  rw [← zhv_eqv hE f, ← zhv_eqv hE t, ← hE.2.2.2.1, ← hE.2.2.2.2]
  exact zwork_congr e1 e2 8
theorem zEqv.mem (hE : zEqv V W) {w : zSb} {i : Nat} (hw : (vS W)[i]? = some w) : ∃ v, (vS V)[i]? = some v ∧ v.1 = w.1 ∧ v.2.1 = w.2.1 ∧ v.2.2.1 = w.2.2.1 ∧ v.2.2.2.Perm w.2.2.2 := by
  have hi : i < (vS V).length := by rw [hE.2.1.1]; exact (List.getElem?_eq_some_iff.mp hw).1
  exact ⟨_, List.getElem?_eq_getElem hi, hE.2.1.2 i _ w (List.getElem?_eq_getElem hi) hw⟩
theorem zEqv.symm (hE : zEqv V W) : zEqv W V := by
  obtain ⟨h1, ⟨h2, h3⟩, h4, h5, h6⟩ := hE
  refine ⟨h1.symm, ⟨h2.symm, fun i v w hv hw => ?_⟩, h4.symm, h5.symm, h6.symm⟩
  obtain ⟨a, b, c, d⟩ := h3 i w v hw hv
  exact ⟨a.symm, b.symm, c.symm, d.symm⟩
theorem zEqv.refl (V : zCl) : zEqv V V := ⟨rfl, ⟨rfl, fun i v w hv hw => by rw [hv] at hw; cases hw; exact ⟨rfl, rfl, rfl, List.Perm.refl _⟩⟩, rfl, rfl, rfl⟩
theorem zInv_eqv (hI : zInv V) (hE : zEqv V W) : zInv W := by
  obtain ⟨h1, h2, h3, h4, h5⟩ := hI
  refine ⟨by rw [← hE.1]; exact h1, fun w hw => ?_, fun h hh => ?_, by rw [← hE.2.2.2.2]; exact h4, by rw [← hE.2.2.2.1]; exact h5⟩
  · obtain ⟨i, hi⟩ := List.getElem?_of_mem hw
    obtain ⟨v, hv, k1, k2, k3, k4⟩ := hE.mem hi
    obtain ⟨a, b, c, d, e⟩ := h2 v (List.mem_of_getElem? hv)
    refine ⟨by rw [← hE.1, ← k1, ← k2]; exact a, by rw [← k2]; exact b, by rw [← k3]; exact c, fun t ht => ?_, (k4.map (fun t => t.1)).nodup e⟩
    rw [← hE.2.2.2.1]
    exact d t (k4.mem_iff.mpr ht)
  · rw [← hE.2.2.1] at hh
    obtain ⟨v, hv, hx⟩ := h3 h hh
    have hi : h.1 < (vS W).length := by rw [← hE.2.1.1]; exact (List.getElem?_eq_some_iff.mp hv).1
    obtain ⟨-, k2, -, -⟩ := hE.2.1.2 h.1 v _ hv (List.getElem?_eq_getElem hi)
    exact ⟨_, List.getElem?_eq_getElem hi, by rw [← k2]; exact hx⟩
end
