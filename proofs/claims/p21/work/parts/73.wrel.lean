/-! what the class's contracts say, as the relations of 81 and 83 -/
theorem zs_addNetwork {V : zCl} {x : Nat} {b z : Int32} {r : Int32} {u : va_W × zLs} (h : (zbok b z ∧ (vN V).length < 4 ∧ (vN V).any (fun w => zovl w (b, z)) = false) ∧ zRC u.1 u.2 x (vN V ++ [(b, z)], V.2) ∧ r = nI (vN V).length) : ∃ V', zA_addNetwork V b z 0 r V' ∧ zRC u.1 u.2 x V' := by
  obtain ⟨⟨h1, h2, h3⟩, h4, h5⟩ := h
  exact ⟨_, Or.inr ⟨h1, Or.inr ⟨⟨h2, h3⟩, rfl, rfl, h5⟩⟩, h4⟩
theorem zx_addNetwork {V : zCl} {b z : Int32} {nm : String} (h : ((fun nm => (nm = zIAE ∧ ¬ zbok b z) ∨ (nm = zISE ∧ zbok b z ∧ (4 ≤ (vN V).length ∨ (vN V).any (fun w => zovl w (b, z)) = true))) nm)) : (nm = zIAE ∧ zA_addNetwork V b z 1 0 V) ∨ (nm = zISE ∧ zA_addNetwork V b z 2 0 V) := by
  rcases h with ⟨e, h⟩ | ⟨e, h1, h2⟩
  · exact Or.inl ⟨e, Or.inl ⟨rfl, rfl, h⟩⟩
  · exact Or.inr ⟨e, Or.inr ⟨h1, Or.inl ⟨rfl, rfl, fun h9 => h2.elim (fun q => by omega) (fun q => by rw [q] at h9; cases h9.2)⟩⟩⟩
theorem zs_addSubnet {V : zCl} {x : Nat} {f b z : Int32} {r : Int32} {u : va_W × zLs} (h : ∃ (k : Nat) (w : zBk), (f = nI k ∧ (vN V)[k]? = some w ∧ zwin w b z = true ∧ zbok b z ∧ (vS V).length < 8 ∧ (vS V).any (fun (s : zSb) => zovl s.2.1 (b, z)) = false) ∧ zRC u.1 u.2 x (vN V, vS V ++ [(k, (b, z), [], [])], V.2.2) ∧ r = nI (vS V).length) : ∃ V', zA_addSubnet V f b z 0 r V' ∧ zRC u.1 u.2 x V' := by
  obtain ⟨k, w, ⟨e1, h1, h2, h3, h4, h5⟩, h6, h7⟩ := h
  exact ⟨_, Or.inr ⟨⟨k, (List.getElem?_eq_some_iff.mp h1).1, e1⟩, k, w, e1, h1, Or.inr ⟨⟨h3, h2⟩, Or.inr ⟨⟨h4, h5⟩, rfl, rfl, h7⟩⟩⟩, h6⟩
theorem zx_addSubnet {V : zCl} {f b z : Int32} {nm : String} (h : ((fun nm => (nm = zIOO ∧ ¬ zix f (vN V).length) ∨ (nm = zIAE ∧ zix f (vN V).length ∧ ¬ zbok b z) ∨ (nm = zIAE ∧ zbok b z ∧ ∃ (k : Nat) (w : zBk), f = nI k ∧ (vN V)[k]? = some w ∧ zwin w b z =  false) ∨ (nm = zISE ∧ zbok b z ∧ (∃ (k : Nat) (w : zBk), f = nI k ∧ (vN V)[k]? = some w ∧ zwin w b z =  true) ∧ (8 ≤ (vS V).length ∨ (vS V).any (fun (s : zSb) => zovl s.2.1 (b, z)) = true))) nm)) : (nm = zIOO ∧ zA_addSubnet V f b z 1 0 V) ∨ (nm = zIAE ∧ zA_addSubnet V f b z 2 0 V) ∨ (nm = zISE ∧ zA_addSubnet V f b z 3 0 V) := by
  rcases h with ⟨e, h⟩ | ⟨e, h1, h2⟩ | ⟨e, h1, k, w, e1, h2, h3⟩ | ⟨e, h1, ⟨k, w, e1, h2, h3⟩, h4⟩
  · exact Or.inl ⟨e, Or.inl ⟨rfl, rfl, h⟩⟩
  · obtain ⟨k, hk, e1⟩ := h1
    exact Or.inr (Or.inl ⟨e, Or.inr ⟨⟨k, hk, e1⟩, k, _, e1, List.getElem?_eq_getElem hk, Or.inl ⟨rfl, rfl, fun h9 => h2 h9.1⟩⟩⟩)
  · exact Or.inr (Or.inl ⟨e, Or.inr ⟨⟨k, (List.getElem?_eq_some_iff.mp h2).1, e1⟩, k, w, e1, h2, Or.inl ⟨rfl, rfl, fun h9 => by rw [h3] at h9; cases h9.2⟩⟩⟩)
  · exact Or.inr (Or.inr ⟨e, Or.inr ⟨⟨k, (List.getElem?_eq_some_iff.mp h2).1, e1⟩, k, w, e1, h2, Or.inr ⟨⟨h1, h3⟩, Or.inl ⟨rfl, rfl, fun h9 => h4.elim (fun q => by omega) (fun q => by rw [q] at h9; cases h9.2)⟩⟩⟩⟩)
theorem zs_addHost {V : zCl} {x : Nat} {f a : Int32} {r : Int32} {u : va_W × zLs} (h : ∃ k : Nat, (f = nI k ∧ ∃ v : zSb, (vS V)[k]? = some v ∧ zhs v.2.1.1 v.2.1.2 a = true ∧ (vH V).length < 12 ∧ (vH V).any (fun h => decide (h.2.1 = a)) = false) ∧ zRC u.1 u.2 x (vN V, vS V, vH V ++ [(k, a, 0)], vP V, vG V) ∧ r = nI (vH V).length) : ∃ V', zA_addHost V f a 0 r V' ∧ zRC u.1 u.2 x V' := by
  obtain ⟨k, ⟨e1, v, h1, h2, h3, h4⟩, h6, h7⟩ := h
  exact ⟨_, Or.inr ⟨⟨k, (List.getElem?_eq_some_iff.mp h1).1, e1⟩, k, v, e1, h1, Or.inr ⟨h2, Or.inr ⟨⟨h3, h4⟩, rfl, rfl, h7⟩⟩⟩, h6⟩
theorem zx_addHost {V : zCl} {f a : Int32} {nm : String} (h : ((fun nm => (nm = zIOO ∧ ¬ zix f (vS V).length) ∨ (nm = zIAE ∧ ∃ (k : Nat) (v : zSb), f = nI k ∧ (vS V)[k]? = some v ∧ zhs v.2.1.1 v.2.1.2 a =  false) ∨ (nm = zISE ∧ ∃ (k : Nat) (v : zSb), f = nI k ∧ (vS V)[k]? = some v ∧ zhs v.2.1.1 v.2.1.2 a =  true ∧ (12 ≤ (vH V).length ∨ (vH V).any (fun h => decide (h.2.1 = a)) = true))) nm)) : (nm = zIOO ∧ zA_addHost V f a 1 0 V) ∨ (nm = zIAE ∧ zA_addHost V f a 2 0 V) ∨ (nm = zISE ∧ zA_addHost V f a 3 0 V) := by
  rcases h with ⟨e, h⟩ | ⟨e, k, v, e1, h2, h3⟩ | ⟨e, k, v, e1, h2, h3, h4⟩
  · exact Or.inl ⟨e, Or.inl ⟨rfl, rfl, h⟩⟩
  · exact Or.inr (Or.inl ⟨e, Or.inr ⟨⟨k, (List.getElem?_eq_some_iff.mp h2).1, e1⟩, k, v, e1, h2, Or.inl ⟨rfl, rfl, fun h9 => by rw [h3] at h9; cases h9⟩⟩⟩)
  · exact Or.inr (Or.inr ⟨e, Or.inr ⟨⟨k, (List.getElem?_eq_some_iff.mp h2).1, e1⟩, k, v, e1, h2, Or.inr ⟨h3, Or.inl ⟨rfl, rfl, fun h9 => h4.elim (fun q => by omega) (fun q => by rw [q] at h9; cases h9.2)⟩⟩⟩⟩)
theorem zs_addPeering {V : zCl} {x : Nat} {f t : Int32} {r : Int32} {u : va_W × zLs} (h : ∃ k j : Nat, (f = nI k ∧ t = nI j ∧ k < (vN V).length ∧ j < (vN V).length ∧ ¬ f = t ∧ (vP V).length < 6) ∧ zRC u.1 u.2 x (vN V, vS V, vH V, vP V ++ [(k, j)], vG V) ∧ r = nI (vP V).length) : ∃ V', zA_addPeering V f t 0 r V' ∧ zRC u.1 u.2 x V' := by
  obtain ⟨k, j, ⟨e1, e2, h1, h2, h3, h4⟩, h6, h7⟩ := h
  exact ⟨_, Or.inr ⟨⟨⟨k, h1, e1⟩, j, h2, e2⟩, k, j, e1, e2, h1, h2, Or.inr ⟨h3, Or.inr ⟨h4, rfl, rfl, h7⟩⟩⟩, h6⟩
theorem zx_addPeering {V : zCl} {f t : Int32} {nm : String} (h : ((fun nm => (nm = zIOO ∧ ¬ (zix f (vN V).length ∧ zix t (vN V).length)) ∨ (nm = zIAE ∧ (zix f (vN V).length ∧ zix t (vN V).length) ∧ f = t) ∨ (nm = zISE ∧ (zix f (vN V).length ∧ zix t (vN V).length) ∧ ¬ f = t ∧ 6 ≤ (vP V).length)) nm)) : (nm = zIOO ∧ zA_addPeering V f t 1 0 V) ∨ (nm = zIAE ∧ zA_addPeering V f t 2 0 V) ∨ (nm = zISE ∧ zA_addPeering V f t 3 0 V) := by
  rcases h with ⟨e, h⟩ | ⟨e, ⟨⟨k, hk, e1⟩, j, hj, e2⟩, h2⟩ | ⟨e, ⟨⟨k, hk, e1⟩, j, hj, e2⟩, h2, h3⟩
  · exact Or.inl ⟨e, Or.inl ⟨rfl, rfl, h⟩⟩
  · exact Or.inr (Or.inl ⟨e, Or.inr ⟨⟨⟨k, hk, e1⟩, j, hj, e2⟩, k, j, e1, e2, hk, hj, Or.inl ⟨rfl, rfl, fun h9 => h9 h2⟩⟩⟩)
  · exact Or.inr (Or.inr ⟨e, Or.inr ⟨⟨⟨k, hk, e1⟩, j, hj, e2⟩, k, j, e1, e2, hk, hj, Or.inr ⟨h2, Or.inl ⟨rfl, rfl, by omega⟩⟩⟩⟩)
theorem zs_addGroup {V : zCl} {x : Nat}  {r : Int32} {u : va_W × zLs} (h : ((vG V).length < 6) ∧ zRC u.1 u.2 x (vN V, vS V, vH V, vP V, vG V ++ [[]]) ∧ r = nI (vG V).length) : ∃ V', zA_addGroup V  0 r V' ∧ zRC u.1 u.2 x V' := by
  obtain ⟨h1, h6, h7⟩ := h
  exact ⟨_, Or.inr ⟨h1, rfl, rfl, h7⟩, h6⟩
theorem zx_addGroup {V : zCl}  {nm : String} (h : ((fun nm => nm = zISE ∧ 6 ≤ (vG V).length) nm)) : (nm = zISE ∧ zA_addGroup V  1 0 V) := by
  exact ⟨h.1, Or.inl ⟨rfl, rfl, by have := h.2; omega⟩⟩
theorem zs_allow {V : zCl} {x : Nat} {g : Int32} {i : Bool} {b z f la : Int32} {r : Int32} {u : va_W × zLs} (h : ∃ (k : Nat) (v : List zRl), (g = nI k ∧ (vG V)[k]? = some v ∧ zbok b z ∧ zpok f la ∧ v.length < 10) ∧ zRC u.1 u.2 x (vN V, vS V, vH V, vP V, (vG V).set k (v ++ [(zb i, zb true, (b, z), zps f la)])) ∧ r = nI (v.length + 1)) : ∃ V', zA_allow V g i b z f la 0 r V' ∧ zRC u.1 u.2 x V' := by
  obtain ⟨k, v, ⟨e1, h1, h2, h3, h4⟩, h6, h7⟩ := h
  exact ⟨_, Or.inr ⟨⟨k, (List.getElem?_eq_some_iff.mp h1).1, e1⟩, k, v, e1, h1, Or.inr ⟨⟨h2, h3⟩, Or.inr ⟨h4, rfl, rfl, h7⟩⟩⟩, h6⟩
theorem zx_allow {V : zCl} {g : Int32} {i : Bool} {b z f la : Int32} {nm : String} (h : ((fun nm => (nm = zIOO ∧ ¬ zix g (vG V).length) ∨ (nm = zIAE ∧ zix g (vG V).length ∧ ¬ (zbok b z ∧ zpok f la)) ∨ (nm = zISE ∧ (zbok b z ∧ zpok f la) ∧ ∃ (k : Nat) (v : List zRl), g = nI k ∧ (vG V)[k]? = some v ∧ 10 ≤ v.length)) nm)) : (nm = zIOO ∧ zA_allow V g i b z f la 1 0 V) ∨ (nm = zIAE ∧ zA_allow V g i b z f la 2 0 V) ∨ (nm = zISE ∧ zA_allow V g i b z f la 3 0 V) := by
  rcases h with ⟨e, h⟩ | ⟨e, ⟨k, hk, e1⟩, h2⟩ | ⟨e, h1, k, v, e1, h2, h3⟩
  · exact Or.inl ⟨e, Or.inl ⟨rfl, rfl, h⟩⟩
  · exact Or.inr (Or.inl ⟨e, Or.inr ⟨⟨k, hk, e1⟩, k, _, e1, List.getElem?_eq_getElem hk, Or.inl ⟨rfl, rfl, h2⟩⟩⟩)
  · exact Or.inr (Or.inr ⟨e, Or.inr ⟨⟨k, (List.getElem?_eq_some_iff.mp h2).1, e1⟩, k, v, e1, h2, Or.inr ⟨h1, Or.inl ⟨rfl, rfl, by omega⟩⟩⟩⟩)
theorem zs_clearGroup {V : zCl} {x : Nat} {g : Int32} {r : Int32} {u : va_W × zLs} (h : ∃ (k : Nat) (v : List zRl), (g = nI k ∧ (vG V)[k]? = some v) ∧ zRC u.1 u.2 x (vN V, vS V, vH V, vP V, (vG V).set k []) ∧ r = nI v.length) : ∃ V', zA_clearGroup V g 0 r V' ∧ zRC u.1 u.2 x V' := by
  obtain ⟨k, v, ⟨e1, h1⟩, h6, h7⟩ := h
  exact ⟨_, Or.inr ⟨⟨k, (List.getElem?_eq_some_iff.mp h1).1, e1⟩, k, v, e1, h1, rfl, rfl, h7⟩, h6⟩
theorem zx_clearGroup {V : zCl} {g : Int32} {nm : String} (h : ((fun nm => nm = zIOO ∧ ¬ zix g (vG V).length) nm)) : (nm = zIOO ∧ zA_clearGroup V g 1 0 V) := by
  exact ⟨h.1, Or.inl ⟨rfl, rfl, h.2⟩⟩
theorem zs_setGroup {V : zCl} {x : Nat} {f g : Int32} {i : Bool} {r : Int32} {u : va_W × zLs} (h : ∃ (k j : Nat) (v : zHo), (f = nI k ∧ g = nI j ∧ j < (vG V).length ∧ (vH V)[k]? = some v) ∧ zRC u.1 u.2 x (vN V, vS V, (vH V).set k (v.1, v.2.1, zput v.2.2 g (zb i)), vP V, vG V) ∧ r = zb (!decide (v.2.2 &&& (1 : Int32) <<< (g &&& 31) = 0))) : ∃ V', zA_setGroup V f g i 0 r V' ∧ zRC u.1 u.2 x V' := by
  obtain ⟨k, j, v, ⟨e1, e2, h1, h2⟩, h6, h7⟩ := h
  exact ⟨_, Or.inr ⟨⟨⟨k, (List.getElem?_eq_some_iff.mp h2).1, e1⟩, j, h1, e2⟩, k, j, v, e1, e2, h1, h2, rfl, rfl, h7⟩, h6⟩
theorem zx_setGroup {V : zCl} {f g : Int32} {i : Bool} {nm : String} (h : ((fun nm => nm = zIOO ∧ ¬ (zix f (vH V).length ∧ zix g (vG V).length)) nm)) : (nm = zIOO ∧ zA_setGroup V f g i 1 0 V) := by
  exact ⟨h.1, Or.inl ⟨rfl, rfl, h.2⟩⟩
theorem zs_putRule {V : zCl} {x : Nat} {f pl : Int32} {i al : Bool} {b z fp la : Int32} {r : Int32} {u : va_W × zLs} (h : ∃ (k j : Nat) (v : zSb), ((f = nI k ∧ (vS V)[k]? = some v ∧ pl = nI j ∧ j ≤ v.2.2.1.length) ∧ (zbok b z ∧ zpok fp la) ∧ v.2.2.1.length < 12) ∧ zRC u.1 u.2 x (vN V, (vS V).set k (v.1, v.2.1, v.2.2.1.insertIdx j (zb i, zb al, (b, z), zps fp la), v.2.2.2), V.2.2) ∧ r = nI (v.2.2.1.length + 1)) : ∃ V', zA_putRule V f pl i al b z fp la 0 r V' ∧ zRC u.1 u.2 x V' := by
  obtain ⟨k, j, v, ⟨⟨e1, h1, e2, h2⟩, ⟨h3, h4⟩, h5⟩, h6, h7⟩ := h
  exact ⟨_, Or.inr ⟨⟨k, j, v, e1, h1, e2, by omega⟩, k, j, v, ⟨e1, h1, e2, by omega⟩, Or.inr ⟨⟨h3, h4⟩, Or.inr ⟨h5, rfl, rfl, h7⟩⟩⟩, h6⟩
theorem zx_putRule {V : zCl} {f pl : Int32} {i al : Bool} {b z fp la : Int32} {nm : String} (h : ((fun nm => (nm = zIOO ∧ ¬ ∃ (k j : Nat) (v : zSb), f = nI k ∧ (vS V)[k]? = some v ∧ pl = nI j ∧ j ≤ v.2.2.1.length) ∨ (nm = zIAE ∧ (∃ (k j : Nat) (v : zSb), f = nI k ∧ (vS V)[k]? = some v ∧ pl = nI j ∧ j ≤ v.2.2.1.length) ∧ ¬ (zbok b z ∧ zpok fp la)) ∨ (nm = zISE ∧ (zbok b z ∧ zpok fp la) ∧ ∃ (k j : Nat) (v : zSb), (f = nI k ∧ (vS V)[k]? = some v ∧ pl = nI j ∧ j ≤ v.2.2.1.length) ∧ 12 ≤ v.2.2.1.length)) nm)) : (nm = zIOO ∧ zA_putRule V f pl i al b z fp la 1 0 V) ∨ (nm = zIAE ∧ zA_putRule V f pl i al b z fp la 2 0 V) ∨ (nm = zISE ∧ zA_putRule V f pl i al b z fp la 3 0 V) := by
  have up : ∀ {k j : Nat} {v : zSb}, (f = nI k ∧ (vS V)[k]? = some v ∧ pl = nI j ∧ j ≤ v.2.2.1.length) → zPl V f pl k j v 1 := fun h => ⟨h.1, h.2.1, h.2.2.1, by have := h.2.2.2; omega⟩
  have dn : ∀ {k j : Nat} {v : zSb}, zPl V f pl k j v 1 → (f = nI k ∧ (vS V)[k]? = some v ∧ pl = nI j ∧ j ≤ v.2.2.1.length) := fun h => ⟨h.1, h.2.1, h.2.2.1, by have := h.2.2.2; omega⟩
  rcases h with ⟨e, h⟩ | ⟨e, ⟨k, j, v, h1⟩, h2⟩ | ⟨e, h1, k, j, v, h2, h3⟩
  · exact Or.inl ⟨e, Or.inl ⟨rfl, rfl, fun ⟨k, j, v, h9⟩ => h ⟨k, j, v, dn h9⟩⟩⟩
  · exact Or.inr (Or.inl ⟨e, Or.inr ⟨⟨k, j, v, up h1⟩, k, j, v, up h1, Or.inl ⟨rfl, rfl, h2⟩⟩⟩)
  · exact Or.inr (Or.inr ⟨e, Or.inr ⟨⟨k, j, v, up h2⟩, k, j, v, up h2, Or.inr ⟨h1, Or.inl ⟨rfl, rfl, by omega⟩⟩⟩⟩)
theorem zs_removeRule {V : zCl} {x : Nat} {f pl : Int32} {r : Int32} {u : va_W × zLs} (h : ∃ (k j : Nat) (v : zSb), (f = nI k ∧ (vS V)[k]? = some v ∧ pl = nI j ∧ j < v.2.2.1.length) ∧ zRC u.1 u.2 x (vN V, (vS V).set k (v.1, v.2.1, v.2.2.1.eraseIdx j, v.2.2.2), V.2.2) ∧ r = nI (v.2.2.1.length - 1)) : ∃ V', zA_removeRule V f pl 0 r V' ∧ zRC u.1 u.2 x V' := by
  obtain ⟨k, j, v, ⟨e1, h1, e2, h2⟩, h6, h7⟩ := h
  exact ⟨_, Or.inr ⟨⟨k, j, v, e1, h1, e2, h2⟩, k, j, v, ⟨e1, h1, e2, h2⟩, rfl, rfl, h7⟩, h6⟩
theorem zx_removeRule {V : zCl} {f pl : Int32} {nm : String} (h : ((fun nm => nm = zIOO ∧ ¬ ∃ (k j : Nat) (v : zSb), f = nI k ∧ (vS V)[k]? = some v ∧ pl = nI j ∧ j < v.2.2.1.length) nm)) : (nm = zIOO ∧ zA_removeRule V f pl 1 0 V) := by
  exact ⟨h.1, Or.inl ⟨rfl, rfl, fun ⟨k, j, v, h9⟩ => h.2 ⟨k, j, v, h9.1, h9.2.1, h9.2.2.1, h9.2.2.2⟩⟩⟩
theorem zs_setRoute {V : zCl} {x : Nat} {f b z pe : Int32} {r : Int32} {u : va_W × zLs} (h : ∃ (k : Nat) (v : zSb), (f = nI k ∧ (vS V)[k]? = some v ∧ (pe = -1 ∨ zix pe (vP V).length) ∧ zbok b z) ∧ ((∃ (i : Nat) (w : zRt), v.2.2.2[i]? = some w ∧ w.1.1 = b ∧ w.1.2 = z ∧ r = w.2 ∧ ((pe = -1 ∧ zRC u.1 u.2 x (vN V, (vS V).set k (v.1, v.2.1, v.2.2.1, v.2.2.2.eraseIdx i), V.2.2)) ∨ (¬ pe = -1 ∧ zRC u.1 u.2 x (vN V, (vS V).set k (v.1, v.2.1, v.2.2.1, v.2.2.2.set i (w.1, pe)), V.2.2)))) ∨ ((∀ w ∈ v.2.2.2, ¬ (w.1.1 = b ∧ w.1.2 = z)) ∧ r = -1 ∧ ((pe = -1 ∧ zRC u.1 u.2 x V) ∨ (¬ pe = -1 ∧ v.2.2.2.length < 8 ∧ zRC u.1 u.2 x (vN V, (vS V).set k (v.1, v.2.1, v.2.2.1, v.2.2.2 ++ [((b, z), pe)]), V.2.2)))))) : ∃ V', zA_setRoute V f b z pe 0 r V' ∧ zRC u.1 u.2 x V' := by
  obtain ⟨k, v, ⟨e1, h1, h2, h3⟩, h4⟩ := h
  have hz : zix f (vS V).length ∧ (pe = -1 ∨ zix pe (vP V).length) := ⟨⟨k, (List.getElem?_eq_some_iff.mp h1).1, e1⟩, h2⟩
  rcases h4 with ⟨i, w, a1, a2, a3, a4, a5⟩ | ⟨a1, a2, a3⟩
  · have ew : w.1 = (b, z) := Prod.ext a2 a3
    have hin : pe = -1 ∨ (∃ w ∈ v.2.2.2, w.1 = (b, z)) ∨ v.2.2.2.length < 8 := Or.inr (Or.inl ⟨w, List.mem_of_getElem? a1, ew⟩)
    rcases a5 with ⟨q1, q2⟩ | ⟨q1, q2⟩
    · exact ⟨_, Or.inr ⟨hz, k, v, e1, h1, Or.inr ⟨h3, Or.inr ⟨hin, rfl, Or.inl ⟨w, _, _, ew, z_pera a1, a4, Or.inl ⟨q1, rfl⟩, rfl⟩⟩⟩⟩, q2⟩
    · refine ⟨_, Or.inr ⟨hz, k, v, e1, h1, Or.inr ⟨h3, Or.inr ⟨hin, rfl, Or.inl ⟨w, _, _, ew, z_pera a1, a4, Or.inr ⟨q1, ?_⟩, rfl⟩⟩⟩⟩, q2⟩
      rw [ew]
      exact z_pers ((b, z), pe) (List.getElem?_eq_some_iff.mp a1).1
  · have hno : ∀ w ∈ v.2.2.2, ¬ w.1 = (b, z) := fun w hw e9 => a1 w hw ⟨congrArg Prod.fst e9, congrArg Prod.snd e9⟩
    rcases a3 with ⟨q1, q2⟩ | ⟨q1, q2, q3⟩
    · exact ⟨_, Or.inr ⟨hz, k, v, e1, h1, Or.inr ⟨h3, Or.inr ⟨Or.inl q1, rfl, Or.inr ⟨hno, a2, Or.inl ⟨q1, rfl⟩⟩⟩⟩⟩, q2⟩
    · exact ⟨_, Or.inr ⟨hz, k, v, e1, h1, Or.inr ⟨h3, Or.inr ⟨Or.inr (Or.inr q2), rfl, Or.inr ⟨hno, a2, Or.inr ⟨q1, rfl⟩⟩⟩⟩⟩, q3⟩
theorem zx_setRoute {V : zCl} {f b z pe : Int32} {nm : String} (h : ((fun nm => (nm = zIOO ∧ ¬ (zix f (vS V).length ∧ (pe = -1 ∨ zix pe (vP V).length))) ∨ (nm = zIAE ∧ (zix f (vS V).length ∧ (pe = -1 ∨ zix pe (vP V).length)) ∧ ¬ zbok b z) ∨ (nm = zISE ∧ (pe = -1 ∨ zix pe (vP V).length) ∧ zbok b z ∧ ¬ pe = -1 ∧ ∃ (k : Nat) (v : zSb), f = nI k ∧ (vS V)[k]? = some v ∧ 8 ≤ v.2.2.2.length ∧ (∀ w ∈ v.2.2.2, ¬ (w.1.1 = b ∧ w.1.2 = z)))) nm)) : (nm = zIOO ∧ zA_setRoute V f b z pe 1 0 V) ∨ (nm = zIAE ∧ zA_setRoute V f b z pe 2 0 V) ∨ (nm = zISE ∧ zA_setRoute V f b z pe 3 0 V) := by
  rcases h with ⟨e, h⟩ | ⟨e, ⟨⟨k, hk, e1⟩, h1⟩, h2⟩ | ⟨e, h1, h2, h3, k, v, e1, h4, h5, h6⟩
  · exact Or.inl ⟨e, Or.inl ⟨rfl, rfl, h⟩⟩
  · exact Or.inr (Or.inl ⟨e, Or.inr ⟨⟨⟨k, hk, e1⟩, h1⟩, k, _, e1, List.getElem?_eq_getElem hk, Or.inl ⟨rfl, rfl, h2⟩⟩⟩)
  · refine Or.inr (Or.inr ⟨e, Or.inr ⟨⟨⟨k, (List.getElem?_eq_some_iff.mp h4).1, e1⟩, h1⟩, k, v, e1, h4, Or.inr ⟨h2, Or.inl ⟨rfl, rfl, fun h9 => ?_⟩⟩⟩⟩)
    rcases h9 with h9 | ⟨w, hw, ew⟩ | h9
    · exact h3 h9
    · exact h6 w hw ⟨congrArg Prod.fst ew, congrArg Prod.snd ew⟩
    · omega
theorem zs_routeFor {V : zCl} {f a : Int32} {r : Int32} {u : Nat} (h : (f = nI u ∧ u < (vS V).length ∧ ¬ a < 0 ∧ a < 1024) ∧ r = zrouteV V u a) : zA_routeFor V f a 0 r := by
  exact Or.inl ⟨rfl, u, h.1.1, h.1.2.1, h.1.2.2, h.2⟩
theorem zx_routeFor {V : zCl} {f a : Int32} {nm : String} (h : ((fun nm => (nm = zIOO ∧ ¬ zix f (vS V).length) ∨ (nm = zIAE ∧ zix f (vS V).length ∧ ¬ (¬ a < 0 ∧ a < 1024))) nm)) : (nm = zIOO ∧ zA_routeFor V f a 1 0) ∨ (nm = zIAE ∧ zA_routeFor V f a 2 0) := by
  exact h.imp (fun h => ⟨h.1, Or.inr (Or.inl ⟨rfl, h.2⟩)⟩) (fun h => ⟨h.1, Or.inr (Or.inr ⟨rfl, h.2⟩)⟩)
theorem zs_ports {V : zCl} {f t : Int32} {r : Int32} {u : Nat × Nat} (h : (f = nI u.1 ∧ t = nI u.2 ∧ u.1 < (vH V).length ∧ u.2 < (vH V).length ∧ ¬ u.1 = u.2 ∧ True) ∧ r = zworkV V u.1 u.2) : zA_ports V f t 0 r := by
  obtain ⟨⟨a1, a2, a3, a4, a5, a6⟩, a7⟩ := h
  exact Or.inl ⟨rfl, u.1, u.2, a1, a2, a3, a4, a5, a6, a7⟩
theorem zx_ports {V : zCl} {f t : Int32} {nm : String} (h : (zx2 V f t True nm)) : (nm = zIOO ∧ zA_ports V f t 1 0) ∨ (nm = zIAE ∧ zA_ports V f t 2 0) := by
  exact h.imp (fun h => ⟨h.1, Or.inr (Or.inl ⟨rfl, h.2⟩)⟩) (fun h => ⟨h.1, Or.inr (Or.inr ⟨rfl, h.2⟩)⟩)
theorem zs_blockedBy {V : zCl} {f t p0 : Int32} {r : Int32} {u : Nat × Nat} (h : (f = nI u.1 ∧ t = nI u.2 ∧ u.1 < (vH V).length ∧ u.2 < (vH V).length ∧ ¬ u.1 = u.2 ∧ zprt p0) ∧ r = zfirstP (fun p => zopenV V p u.1 u.2) (zbit p0) 8 1) : zA_blockedBy V f t p0 0 r := by
  obtain ⟨⟨a1, a2, a3, a4, a5, a6⟩, a7⟩ := h
  exact Or.inl ⟨rfl, u.1, u.2, a1, a2, a3, a4, a5, a6, a7⟩
theorem zx_blockedBy {V : zCl} {f t p0 : Int32} {nm : String} (h : (zx2 V f t (zprt p0) nm)) : (nm = zIOO ∧ zA_blockedBy V f t p0 1 0) ∨ (nm = zIAE ∧ zA_blockedBy V f t p0 2 0) := by
  exact h.imp (fun h => ⟨h.1, Or.inr (Or.inl ⟨rfl, h.2⟩)⟩) (fun h => ⟨h.1, Or.inr (Or.inr ⟨rfl, h.2⟩)⟩)
theorem zs_blocks {V : zCl} {f t p0 : Int32} {r : Int32} {u : Nat × Nat} (h : (f = nI u.1 ∧ t = nI u.2 ∧ u.1 < (vH V).length ∧ u.2 < (vH V).length ∧ ¬ u.1 = u.2 ∧ zprt p0) ∧ r = zsumP (fun p => zopenV V p u.1 u.2) (zbit p0) 8 1 0) : zA_blocks V f t p0 0 r := by
  obtain ⟨⟨a1, a2, a3, a4, a5, a6⟩, a7⟩ := h
  exact Or.inl ⟨rfl, u.1, u.2, a1, a2, a3, a4, a5, a6, a7⟩
theorem zx_blocks {V : zCl} {f t p0 : Int32} {nm : String} (h : (zx2 V f t (zprt p0) nm)) : (nm = zIOO ∧ zA_blocks V f t p0 1 0) ∨ (nm = zIAE ∧ zA_blocks V f t p0 2 0) := by
  exact h.imp (fun h => ⟨h.1, Or.inr (Or.inl ⟨rfl, h.2⟩)⟩) (fun h => ⟨h.1, Or.inr (Or.inr ⟨rfl, h.2⟩)⟩)
theorem zs_pairs {V : zCl} {f : Int32} {r : Int32} {u : Unit} (h : zprt f ∧ r = nI (zpairsO V (zbit f) (vH V).length (vH V).length 0 0)) : zA_pairs V f 0 r := by
  exact Or.inl ⟨rfl, h⟩
theorem zx_pairs {V : zCl} {f : Int32} {nm : String} (h : ((fun nm => nm = zIAE ∧ ¬ zprt f) nm)) : (nm = zIAE ∧ zA_pairs V f 1 0) := by
  exact ⟨h.1, Or.inr ⟨rfl, h.2⟩⟩
theorem zs_reachedFrom {V : zCl} {f : Int32} {r : Int32} {u : Nat} (h : (f = nI u ∧ u < (vH V).length) ∧ r = zreach V u (vH V).length 0 0) : zA_reachedFrom V f 0 r := by
  exact Or.inl ⟨rfl, u, h.1.1, h.1.2, h.2⟩
theorem zx_reachedFrom {V : zCl} {f : Int32} {nm : String} (h : ((fun nm => nm = zIOO ∧ ¬ zix f (vH V).length) nm)) : (nm = zIOO ∧ zA_reachedFrom V f 1 0) := by
  exact ⟨h.1, Or.inr ⟨rfl, h.2⟩⟩
theorem zs_idleRules {V : zCl} {f : Int32} {r : Int32} {u : Nat} (h : (f = nI u ∧ u < (vS V).length) ∧ r = nI (zidles [] (zsv V u).2.2.1)) : zA_idleRules V f 0 r := by
  exact Or.inl ⟨rfl, u, h.1.1, h.1.2, h.2⟩
theorem zx_idleRules {V : zCl} {f : Int32} {nm : String} (h : ((fun nm => nm = zIOO ∧ ¬ zix f (vS V).length) nm)) : (nm = zIOO ∧ zA_idleRules V f 1 0) := by
  exact ⟨h.1, Or.inr ⟨rfl, h.2⟩⟩
