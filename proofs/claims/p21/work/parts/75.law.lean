/-! what the law holds beside the cloud: the cloud V, and what stands in its array of 40 ints -/
def zbase (s : Nat) : Nat := 256 * (s / 2) + 64 * (s % 2)
def zBs : List zBk := [(nI 0, nI 10), (nI 0, nI 8), (nI 256, nI 8), (nI 512, nI 8), (nI 0, nI 6), (nI 64, nI 6), (nI 128, nI 6), (nI 192, nI 6)]
def zNt : List zBk := [(nI 0, nI 8), (nI 256, nI 8), (nI 512, nI 8)]
def zSo (s : Nat) (v : zSb) : Prop := v.1 = s / 2 ∧ v.2.1 = (nI (zbase s), nI 6) ∧ v.2.2.1.length ≤ 12 ∧ (∀ r ∈ v.2.2.1, ¬ r.2.2.2 = 0) ∧ (∀ t ∈ v.2.2.2, t.1 ∈ zBs)
def zLv (V : zCl) : Prop := zInv V ∧ vN V = zNt ∧ (vS V).length = 6 ∧ (∀ s v, (vS V)[s]? = some v → zSo s v) ∧ (vH V).length ≤ 8 ∧ (vG V).length ≤ 6 ∧ (∀ v ∈ vG V, v.length ≤ 10)
def zgl (V : zCl) (g : Nat) : Nat := ((vG V).getD g []).length
def zLf (V : zCl) (f : Nat → Int32) : Prop := f 0 = nI (vH V).length ∧ f 1 = nI (vG V).length ∧ f 2 = nI (vP V).length ∧ (∀ i h, (vH V)[i]? = some h → f (4 + i) = nI h.1 ∧ f (16 + i) = h.2.1) ∧ (∀ g, g < 6 → f (28 + g) = nI (zgl V g)) ∧ (∀ s v, (vS V)[s]? = some v → f (34 + s) = nI v.2.2.1.length)
def zLw (V : zCl) (f : Nat → Int32) : Prop := zLv V ∧ zLf V f
theorem z_setget {α : Type} {l : List α} {k i : Nat} {a b : α} (h : (l.set k a)[i]? = some b) : (i = k ∧ b = a) ∨ (i ≠ k ∧ l[i]? = some b) := by
  rw [List.getElem?_set] at h
  by_cases e : k = i
  · rw [if_pos e] at h
    by_cases c : k < l.length
    · rw [if_pos (by omega)] at h
      exact Or.inl ⟨e.symm, (Option.some.inj h).symm⟩
    · rw [if_neg (by omega)] at h
      cases h
  · rw [if_neg e] at h
    exact Or.inr ⟨fun h => e h.symm, h⟩
theorem z_appget {α : Type} {l : List α} {i : Nat} {a b : α} (h : (l ++ [a])[i]? = some b) : l[i]? = some b ∨ (i = l.length ∧ b = a) := by
  rcases Nat.lt_trichotomy i l.length with q | q | q
  · rw [List.getElem?_append_left q] at h
    exact Or.inl h
  · rw [List.getElem?_append_right (by omega), q, Nat.sub_self] at h
    exact Or.inr ⟨q, (Option.some.inj h).symm⟩
  · rw [List.getElem?_eq_none (by rw [List.length_append]; exact q)] at h
    cases h
theorem z_ndle : ∀ {l m : List zBk}, l.Nodup → l ⊆ m → l.length ≤ m.length
  | [], _, _, _ => Nat.zero_le _
  | a :: l, m, hn, hs => by
    obtain ⟨h1, h2⟩ := List.nodup_cons.mp hn
    have ha : a ∈ m := hs List.mem_cons_self
    have h3 : l ⊆ m.erase a := fun y hy => (List.mem_erase_of_ne (fun e => h1 (by rw [← e]; exact hy))).mpr (hs (List.mem_cons_of_mem _ hy))
    have h4 := z_ndle h2 h3
    rw [List.length_erase_of_mem ha] at h4
    have h5 := List.length_pos_of_mem ha
    rw [List.length_cons]
    omega
section
variable {V : zCl} {f : Nat → Int32}
theorem zgl_le (h : zLw V f) (g : Nat) : zgl V g ≤ 10 := by
  unfold zgl
  rw [List.getD_eq_getElem?_getD]
  cases hg : (vG V)[g]? with
  | none => exact Nat.zero_le _
  | some v => exact h.1.2.2.2.2.2.2 v (List.mem_of_getElem? hg)
theorem zgl_get {g : Nat} {v : List zRl} (hv : (vG V)[g]? = some v) : zgl V g = v.length := by
  unfold zgl
  rw [List.getD_eq_getElem?_getD, hv]
  rfl
theorem zgl_out {g : Nat} (h : (vG V).length ≤ g) : zgl V g = 0 := by
  unfold zgl
  rw [List.getD_eq_getElem?_getD, List.getElem?_eq_none h]
  rfl
theorem zLw_addGroup (h : zLw V f) (h6 : (vG V).length < 6) : zLw (vN V, vS V, vH V, vP V, vG V ++ [[]]) (upd f 1 (nI ((vG V).length + 1))) := by
  obtain ⟨⟨h1, h2, h3, h4, h5, h6', h7⟩, g0, g1, g2, g3, g4, g5⟩ := h
  have hl : (vG V ++ [[]]).length = (vG V).length + 1 := by rw [List.length_append]; rfl
  refine ⟨⟨zk_addGroup (c := 0) (r := nI (vG V).length) h1 (Or.inr ⟨h6, rfl, rfl, rfl⟩), h2, h3, h4, h5, by show (vG V ++ [[]]).length ≤ 6; omega, fun v hv => ?_⟩, ?_, ?_, ?_, fun i h hh => ?_, fun g hg => ?_, fun s v hv => ?_⟩
  · rcases List.mem_append.mp hv with hv | hv
    · exact h7 v hv
    · rw [List.mem_singleton.mp hv]; exact Nat.zero_le _
  · rw [pk_un (by decide)]; exact g0
  · rw [pk_us]; show _ = nI (vG V ++ [[]]).length; rw [hl]
  · rw [pk_un (by decide)]; exact g2
  · rw [pk_un (by omega), pk_un (by omega)]; exact g3 i h hh
  · rw [pk_un (by omega), g4 g hg]
    refine congrArg nI ?_
    show zgl V g = ((vG V ++ [[]]).getD g []).length
    unfold zgl
    rw [List.getD_eq_getElem?_getD, List.getD_eq_getElem?_getD]
    rcases Nat.lt_trichotomy g (vG V).length with q | q | q
    · rw [List.getElem?_append_left q]
    · rw [List.getElem?_append_right (by omega), q, Nat.sub_self, List.getElem?_eq_none (by omega)]
      rfl
    · rw [List.getElem?_eq_none (by omega), List.getElem?_eq_none (by omega)]
  · rw [pk_un (by omega)]; exact g5 s v hv
theorem zLw_addPeering (h : zLw V f) {k j : Nat} (hk : k < 3) (hj : j < 3) (hkj : ¬ k = j) (h6 : (vP V).length < 6) : zLw (vN V, vS V, vH V, vP V ++ [(k, j)], vG V) (upd f 2 (nI ((vP V).length + 1))) := by
  obtain ⟨⟨h1, h2, h3⟩, g0, g1, g2, g3, g4, g5⟩ := h
  have hN : (vN V).length = 3 := by rw [h2]; rfl
  have hz : zA_addPeering V (nI k) (nI j) 0 (nI (vP V).length) (vN V, vS V, vH V, vP V ++ [(k, j)], vG V) := Or.inr ⟨⟨⟨k, by omega, rfl⟩, ⟨j, by omega, rfl⟩⟩, k, j, rfl, rfl, by omega, by omega, Or.inr ⟨fun e => hkj ((nI_eq (by omega) (by omega)).mp e), Or.inr ⟨h6, rfl, rfl, rfl⟩⟩⟩
  refine ⟨⟨zk_addPeering h1 hz, h2, h3⟩, ?_, ?_, ?_, fun i h hh => ?_, fun g hg => ?_, fun s v hv => ?_⟩
  · rw [pk_un (by decide)]; exact g0
  · rw [pk_un (by decide)]; exact g1
  · rw [pk_us]; show _ = nI (vP V ++ [(k, j)]).length; rw [List.length_append]; rfl
  · rw [pk_un (by omega), pk_un (by omega)]; exact g3 i h hh
  · rw [pk_un (by omega)]; exact g4 g hg
  · rw [pk_un (by omega)]; exact g5 s v hv
theorem zgl_set {k : Nat} {v w : List zRl} (hv : (vG V)[k]? = some v) (g : Nat) : zgl (vN V, vS V, vH V, vP V, (vG V).set k w) g = if g = k then w.length else zgl V g := by
  show (((vG V).set k w).getD g []).length = _
  have hk := (List.getElem?_eq_some_iff.mp hv).1
  rw [List.getD_eq_getElem?_getD, List.getElem?_set]
  by_cases e : k = g
  · rw [if_pos e, if_pos (by omega), if_pos e.symm]; rfl
  · rw [if_neg e, if_neg (fun h => e h.symm)]
    unfold zgl
    rw [List.getD_eq_getElem?_getD]
/-- a group's rules anew -/
theorem zLw_setG (h : zLw V f) {k : Nat} {v w : List zRl} (hv : (vG V)[k]? = some v) (hw : w.length ≤ 10) (hI : zInv (vN V, vS V, vH V, vP V, (vG V).set k w)) : zLw (vN V, vS V, vH V, vP V, (vG V).set k w) (upd f (28 + k) (nI w.length)) := by
  obtain ⟨⟨h1, h2, h3, h4, h5, h6, h7⟩, g0, g1, g2, g3, g4, g5⟩ := h
  have hk : k < 6 := Nat.lt_of_lt_of_le (List.getElem?_eq_some_iff.mp hv).1 h6
  refine ⟨⟨hI, h2, h3, h4, h5, by show ((vG V).set k w).length ≤ 6; rw [List.length_set]; exact h6, fun u hu => ?_⟩, ?_, ?_, ?_, fun i h hh => ?_, fun g hg => ?_, fun s u hu => ?_⟩
  · rcases List.mem_or_eq_of_mem_set hu with hu | hu
    · exact h7 u hu
    · rw [hu]; exact hw
  · rw [pk_un (by omega)]; exact g0
  · rw [pk_un (by omega)]; show _ = nI ((vG V).set k w).length; rw [List.length_set]; exact g1
  · rw [pk_un (by omega)]; exact g2
  · have hi := (List.getElem?_eq_some_iff.mp hh).1
    have hi : i < (vH V).length := hi
    rw [pk_un (by omega), pk_un (by omega)]; exact g3 i h hh
  · rw [zgl_set hv]
    by_cases e : g = k
    · rw [if_pos e, e, pk_us]
    · rw [if_neg e, pk_un (by omega)]; exact g4 g hg
  · rw [pk_un (by have := (List.getElem?_eq_some_iff.mp hu).1; omega)]; exact g5 s u hu
theorem zLw_allow (h : zLw V f) {k : Nat} {v : List zRl} {i : Bool} {b z fp la : Int32} (hv : (vG V)[k]? = some v) (h1 : zbok b z) (h2 : zpok fp la) (h3 : v.length < 10) : zLw (vN V, vS V, vH V, vP V, (vG V).set k (v ++ [(zb i, zb true, (b, z), zps fp la)])) (upd f (28 + k) (nI (v.length + 1))) := by
  have hl : (v ++ [((zb i, zb true, (b, z), zps fp la) : zRl)]).length = v.length + 1 := by rw [List.length_append]; rfl
  have hz : zA_allow V (nI k) i b z fp la 0 (nI (v.length + 1)) (vN V, vS V, vH V, vP V, (vG V).set k (v ++ [(zb i, zb true, (b, z), zps fp la)])) := Or.inr ⟨⟨k, (List.getElem?_eq_some_iff.mp hv).1, rfl⟩, k, v, rfl, hv, Or.inr ⟨⟨h1, h2⟩, Or.inr ⟨h3, rfl, rfl, rfl⟩⟩⟩
  have h9 := zLw_setG h (w := v ++ [(zb i, zb true, (b, z), zps fp la)]) hv (by omega) (zk_allow h.1.1 hz)
  rw [hl] at h9
  exact h9
theorem zLw_clearGroup (h : zLw V f) {k : Nat} {v : List zRl} (hv : (vG V)[k]? = some v) : zLw (vN V, vS V, vH V, vP V, (vG V).set k []) (upd f (28 + k) (nI 0)) := by
  have hz : zA_clearGroup V (nI k) 0 (nI v.length) (vN V, vS V, vH V, vP V, (vG V).set k []) := Or.inr ⟨⟨k, (List.getElem?_eq_some_iff.mp hv).1, rfl⟩, k, v, rfl, hv, rfl, rfl, rfl⟩
  exact zLw_setG h (w := []) hv (Nat.zero_le _) (zk_clearGroup h.1.1 hz)
theorem zLw_setGroup (h : zLw V f) {k j : Nat} {v : zHo} {i : Bool} (hv : (vH V)[k]? = some v) (hj : j < (vG V).length) : zLw (vN V, vS V, (vH V).set k (v.1, v.2.1, zput v.2.2 (nI j) (zb i)), vP V, vG V) f := by
  obtain ⟨⟨h1, h2, h3, h4, h5, h6, h7⟩, g0, g1, g2, g3, g4, g5⟩ := h
  have hk := (List.getElem?_eq_some_iff.mp hv).1
  have hz : zA_setGroup V (nI k) (nI j) i 0 (zb (!decide (v.2.2 &&& (1 : Int32) <<< (nI j &&& 31) = 0))) (vN V, vS V, (vH V).set k (v.1, v.2.1, zput v.2.2 (nI j) (zb i)), vP V, vG V) := Or.inr ⟨⟨⟨k, hk, rfl⟩, ⟨j, hj, rfl⟩⟩, k, j, v, rfl, rfl, hj, hv, rfl, rfl, rfl⟩
  refine ⟨⟨zk_setGroup h1 hz, h2, h3, h4, by show ((vH V).set k _).length ≤ 8; rw [List.length_set]; exact h5, h6, h7⟩, by show _ = nI ((vH V).set k _).length; rw [List.length_set]; exact g0, g1, g2, fun i u hu => ?_, g4, g5⟩
  rcases z_setget hu with ⟨e, eu⟩ | ⟨e, hu⟩
  · rw [eu, e]
    exact g3 k v hv
  · exact g3 i u hu
theorem zLw_addHost (h : zLw V f) {k : Nat} {v : zSb} {a : Int32} (hv : (vS V)[k]? = some v) (h2 : zhs v.2.1.1 v.2.1.2 a = true) (h8 : (vH V).length < 8) (h4 : (vH V).any (fun h => decide (h.2.1 = a)) = false) : zLw (vN V, vS V, vH V ++ [(k, a, 0)], vP V, vG V) (upd (upd (upd f (4 + (vH V).length) (nI k)) (16 + (vH V).length) a) 0 (nI ((vH V).length + 1))) := by
  obtain ⟨⟨h1, hN, h3, hS, h5, h6, h7⟩, g0, g1, g2, g3, g4, g5⟩ := h
  have hz : zA_addHost V (nI k) a 0 (nI (vH V).length) (vN V, vS V, vH V ++ [(k, a, 0)], vP V, vG V) := Or.inr ⟨⟨k, (List.getElem?_eq_some_iff.mp hv).1, rfl⟩, k, v, rfl, hv, Or.inr ⟨h2, Or.inr ⟨⟨by omega, h4⟩, rfl, rfl, rfl⟩⟩⟩
  have hl : (vH V ++ [((k, a, 0) : zHo)]).length = (vH V).length + 1 := by rw [List.length_append]; rfl
  refine ⟨⟨zk_addHost h1 hz, hN, h3, hS, by show (vH V ++ [((k, a, 0) : zHo)]).length ≤ 8; omega, h6, h7⟩, ?_, ?_, ?_, fun i u hu => ?_, fun g hg => ?_, fun s u hu => ?_⟩
  · rw [pk_us]; show _ = nI (vH V ++ [((k, a, 0) : zHo)]).length; rw [hl]
  · rw [pk_un (by omega), pk_un (by omega), pk_un (by omega)]; exact g1
  · rw [pk_un (by omega), pk_un (by omega), pk_un (by omega)]; exact g2
  · rcases z_appget hu with hu | ⟨e, eu⟩
    · have hi := (List.getElem?_eq_some_iff.mp hu).1
      rw [pk_un (by omega), pk_un (by omega), pk_un (by omega), pk_un (by omega), pk_un (by omega), pk_un (by omega)]
      exact g3 i u hu
    · rw [eu, e, pk_un (by omega), pk_un (by omega), pk_us, pk_un (by omega), pk_us]
      exact ⟨rfl, rfl⟩
  · rw [pk_un (by omega), pk_un (by omega), pk_un (by omega)]; exact g4 g hg
  · have hs := (List.getElem?_eq_some_iff.mp hu).1
    rw [pk_un (by omega), pk_un (by omega), pk_un (by omega)]; exact g5 s u hu
/-- a subnet's rules and routes anew -/
theorem zLv_setS (h : zLv V) {k : Nat} {v : zSb} {rs : List zRl} {ts : List zRt} (hv : (vS V)[k]? = some v) (h1 : rs.length ≤ 12) (h2 : ∀ r ∈ rs, ¬ r.2.2.2 = 0) (h3 : ∀ t ∈ ts, t.1 ∈ zBs) (hI : zInv (vN V, (vS V).set k (v.1, v.2.1, rs, ts), V.2.2)) : zLv (vN V, (vS V).set k (v.1, v.2.1, rs, ts), V.2.2) := by
  obtain ⟨-, hN, hS, hT, h5⟩ := h
  refine ⟨hI, hN, by show ((vS V).set k _).length = 6; rw [List.length_set]; exact hS, fun s u hu => ?_, h5⟩
  rcases z_setget hu with ⟨e, eu⟩ | ⟨e, hu⟩
  · obtain ⟨a1, a2, -⟩ := hT k v hv
    rw [eu, e]
    exact ⟨a1, a2, h1, h2, h3⟩
  · exact hT s u hu
theorem zLf_setR (h : zLf V f) {k : Nat} {v : zSb} {rs : List zRl} {ts : List zRt} (hv : (vS V)[k]? = some v) (hk : (vS V).length = 6) (hH : (vH V).length ≤ 8) : zLf (vN V, (vS V).set k (v.1, v.2.1, rs, ts), V.2.2) (upd f (34 + k) (nI rs.length)) := by
  obtain ⟨g0, g1, g2, g3, g4, g5⟩ := h
  have hk6 : k < 6 := by rw [← hk]; exact (List.getElem?_eq_some_iff.mp hv).1
  refine ⟨?_, ?_, ?_, fun i u hu => ?_, fun g hg => ?_, fun s u hu => ?_⟩
  · rw [pk_un (by omega)]; exact g0
  · rw [pk_un (by omega)]; exact g1
  · rw [pk_un (by omega)]; exact g2
  · have hi : i < (vH V).length := (List.getElem?_eq_some_iff.mp hu).1
    rw [pk_un (by omega), pk_un (by omega)]; exact g3 i u hu
  · rw [pk_un (by omega)]; exact g4 g hg
  · rcases z_setget hu with ⟨e, eu⟩ | ⟨e, hu⟩
    · rw [e, eu, pk_us]
    · rw [pk_un (by omega)]; exact g5 s u hu
theorem zLf_setT (h : zLf V f) {k : Nat} {v : zSb} {ts : List zRt} (hv : (vS V)[k]? = some v) : zLf (vN V, (vS V).set k (v.1, v.2.1, v.2.2.1, ts), V.2.2) f := by
  obtain ⟨g0, g1, g2, g3, g4, g5⟩ := h
  refine ⟨g0, g1, g2, g3, g4, fun s u hu => ?_⟩
  rcases z_setget hu with ⟨e, eu⟩ | ⟨e, hu⟩
  · rw [e, eu]; exact g5 k v hv
  · exact g5 s u hu
theorem zLw_putRule (h : zLw V f) {k : Nat} {v : zSb} {i al : Bool} {b z fp la : Int32} (hv : (vS V)[k]? = some v) (h1 : zbok b z) (h2 : zpok fp la) (h3 : v.2.2.1.length < 12) (h4 : ¬ zps fp la = 0) : zLw (vN V, (vS V).set k (v.1, v.2.1, v.2.2.1.insertIdx v.2.2.1.length (zb i, zb al, (b, z), zps fp la), v.2.2.2), V.2.2) (upd f (34 + k) (nI (v.2.2.1.length + 1))) := by
  have hz : zA_putRule V (nI k) (nI v.2.2.1.length) i al b z fp la 0 (nI (v.2.2.1.length + 1)) (vN V, (vS V).set k (v.1, v.2.1, v.2.2.1.insertIdx v.2.2.1.length (zb i, zb al, (b, z), zps fp la), v.2.2.2), V.2.2) := Or.inr ⟨⟨k, v.2.2.1.length, v, rfl, hv, rfl, by omega⟩, k, v.2.2.1.length, v, ⟨rfl, hv, rfl, by omega⟩, Or.inr ⟨⟨h1, h2⟩, Or.inr ⟨h3, rfl, rfl, rfl⟩⟩⟩
  obtain ⟨-, -, -, a4, a5⟩ := h.1.2.2.2.1 k v hv
  have hl : (v.2.2.1.insertIdx v.2.2.1.length ((zb i, zb al, (b, z), zps fp la) : zRl)).length = v.2.2.1.length + 1 := by rw [List.length_insertIdx, if_pos (Nat.le_refl _)]
  refine ⟨zLv_setS h.1 hv (by omega) (fun r hr => ?_) a5 (zk_putRule h.1.1 hz), ?_⟩
  · rcases (List.mem_insertIdx (Nat.le_refl _)).mp hr with e | hr
    · rw [e]; exact h4
    · exact a4 r hr
  · have h9 := zLf_setR (rs := v.2.2.1.insertIdx v.2.2.1.length ((zb i, zb al, (b, z), zps fp la) : zRl)) (ts := v.2.2.2) h.2 hv h.1.2.2.1 h.1.2.2.2.2.1
    rw [hl] at h9
    exact h9
theorem zLw_removeRule (h : zLw V f) {k j : Nat} {v : zSb} (hv : (vS V)[k]? = some v) (hj : j < v.2.2.1.length) : zLw (vN V, (vS V).set k (v.1, v.2.1, v.2.2.1.eraseIdx j, v.2.2.2), V.2.2) (upd f (34 + k) (nI (v.2.2.1.length - 1))) := by
  obtain ⟨-, -, a3, a4, a5⟩ := h.1.2.2.2.1 k v hv
  have hz : zA_removeRule V (nI k) (nI j) 0 (nI (v.2.2.1.length - 1)) (vN V, (vS V).set k (v.1, v.2.1, v.2.2.1.eraseIdx j, v.2.2.2), V.2.2) := Or.inr ⟨⟨k, j, v, rfl, hv, rfl, by omega⟩, k, j, v, ⟨rfl, hv, rfl, by omega⟩, rfl, rfl, rfl⟩
  have hl : (v.2.2.1.eraseIdx j).length = v.2.2.1.length - 1 := by rw [List.length_eraseIdx, if_pos hj]
  refine ⟨zLv_setS h.1 hv (by omega) (fun r hr => a4 r (List.mem_of_mem_eraseIdx hr)) a5 (zk_removeRule h.1.1 hz), ?_⟩
  have h9 := zLf_setR (rs := v.2.2.1.eraseIdx j) (ts := v.2.2.2) h.2 hv h.1.2.2.1 h.1.2.2.2.2.1
  rw [hl] at h9
  exact h9
/-- a route set: the routes of its subnet behind it -/
theorem zLw_setRoute {k : Nat} {v : zSb} {b z pe r : Int32} {V' : zCl} (h : zLw V f) (hv : (vS V)[k]? = some v) (hb : (b, z) ∈ zBs) (hz : zA_setRoute V (nI k) b z pe 0 r V') : zLw V' f ∧ ∃ ts, (vS V')[k]? = some (v.1, v.2.1, v.2.2.1, ts) ∧ vP V' = vP V ∧ ((pe = -1 ∧ ∀ t ∈ ts, ¬ t.1 = (b, z)) ∨ (¬ pe = -1 ∧ ((b, z), pe) ∈ ts)) ∧ ((∃ w ∈ v.2.2.2, w.1 = (b, z) ∧ r = w.2) ∨ ((∀ w ∈ v.2.2.2, ¬ w.1 = (b, z)) ∧ r = -1)) := by
  have hI := zk_setRoute h.1.1 hz
  have hk := (List.getElem?_eq_some_iff.mp hv).1
  obtain ⟨-, -, a3, a4, a5⟩ := h.1.2.2.2.1 k v hv
  obtain ⟨-, -, -, -, hnd⟩ := h.1.1.2.1 v (List.mem_of_getElem? hv)
  rcases hz with ⟨h0, -⟩ | ⟨-, k2, v2, e, hv2, hz⟩
  · cases h0
  have hS := h.1.2.2.1
  obtain ⟨e1, e2⟩ := zS_eq hv (by omega) e hv2
  subst e2
  rw [e1] at hz
  rcases hz with ⟨h0, -⟩ | ⟨-, ⟨h0, -⟩ | ⟨-, -, hz⟩⟩
  · cases h0
  · cases h0
  have put : ∀ ts : List zRt, (∀ t ∈ ts, t.1 ∈ zBs) → V' = (vN V, (vS V).set k (v2.1, v2.2.1, v2.2.2.1, ts), V.2.2) → zLw V' f ∧ (vS V')[k]? = some (v2.1, v2.2.1, v2.2.2.1, ts) ∧ vP V' = vP V := fun ts ht eV => by
    subst eV
    refine ⟨⟨zLv_setS h.1 hv a3 a4 ht hI, zLf_setT h.2 hv⟩, ?_, rfl⟩
    show ((vS V).set k _)[k]? = _
    rw [List.getElem?_set_self hk]
  rcases hz with ⟨w, rs, rs', x2, x3, x4, x5, x6⟩ | ⟨x2, x3, x4⟩
  · have b4 : ∀ t ∈ rs, t.1 ∈ zBs := fun t ht => a5 t (x3.mem_iff.mpr (List.mem_cons_of_mem _ ht))
    have b5 := (x3.map (fun t => t.1)).nodup hnd
    rw [List.map_cons, List.nodup_cons] at b5
    have hw : w ∈ v2.2.2.2 := x3.mem_iff.mpr List.mem_cons_self
    rcases x5 with ⟨p1, p2⟩ | ⟨p1, p2⟩
    · subst p2
      obtain ⟨c1, c2, c3⟩ := put rs' b4 x6
      exact ⟨c1, rs', c2, c3, Or.inl ⟨p1, fun t ht e9 => b5.1 (List.mem_map.mpr ⟨t, ht, e9.trans x2.symm⟩)⟩, Or.inl ⟨w, hw, x2, x4⟩⟩
    · obtain ⟨c1, c2, c3⟩ := put rs' (fun t ht => by
        rcases List.mem_cons.mp (p2.mem_iff.mp ht) with ht | ht
        · rw [ht]; exact hb
        · exact b4 t ht) x6
      exact ⟨c1, rs', c2, c3, Or.inr ⟨p1, p2.mem_iff.mpr List.mem_cons_self⟩, Or.inl ⟨w, hw, x2, x4⟩⟩
  · rcases x4 with ⟨p1, p2⟩ | ⟨p1, p2⟩
    · rw [p2]
      exact ⟨h, v2.2.2.2, hv, rfl, Or.inl ⟨p1, x2⟩, Or.inr ⟨x2, x3⟩⟩
    · obtain ⟨c1, c2, c3⟩ := put (v2.2.2.2 ++ [((b, z), pe)]) (fun t ht => by
        rcases List.mem_append.mp ht with ht | ht
        · exact a5 t ht
        · rw [List.mem_singleton.mp ht]; exact hb) p2
      exact ⟨c1, _, c2, c3, Or.inr ⟨p1, List.mem_append_right _ (List.mem_singleton.mpr rfl)⟩, Or.inr ⟨x2, x3⟩⟩
/-- a table has room for each of the law's blocks -/
theorem zBs_room (h : zLw V f) {k : Nat} {v : zSb} {w : zBk} (hv : (vS V)[k]? = some v) (hw : w ∈ zBs) : (∃ t ∈ v.2.2.2, t.1 = w) ∨ v.2.2.2.length < 8 := by
  obtain ⟨-, -, -, -, a5⟩ := h.1.2.2.2.1 k v hv
  obtain ⟨-, -, -, -, hnd⟩ := h.1.1.2.1 v (List.mem_of_getElem? hv)
  by_cases c : ∃ t ∈ v.2.2.2, t.1 = w
  · exact Or.inl c
  · refine Or.inr ?_
    have h1 : (w :: v.2.2.2.map (fun t => t.1)).Nodup := by
      rw [List.nodup_cons]
      refine ⟨fun h => ?_, hnd⟩
      obtain ⟨t, ht, e⟩ := List.mem_map.mp h
      exact c ⟨t, ht, e⟩
    have h2 : (w :: v.2.2.2.map (fun t => t.1)) ⊆ zBs := by
      intro y hy
      rcases List.mem_cons.mp hy with e | hy
      · rw [e]; exact hw
      · obtain ⟨t, ht, e⟩ := List.mem_map.mp hy
        rw [← e]; exact a5 t ht
    have h3 := z_ndle h1 h2
    rw [List.length_cons, List.length_map] at h3
    have h8 : zBs.length = 8 := rfl
    omega
end
