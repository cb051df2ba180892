/-! what the calls that change do: (code of the throw, answer, the cloud behind it) -/
def zGd (P : Prop) (c k : Nat) (V' V : zCl) (K : Prop) : Prop := (c = k ∧ V' = V ∧ ¬ P) ∨ (P ∧ K)
def zA_addNetwork (V : zCl) (b z : Int32) (c : Nat) (r : Int32) (V' : zCl) : Prop := zGd (zbok b z) c 1 V' V (zGd ((vN V).length < 4 ∧ (vN V).any (fun w => zovl w (b, z)) = false) c 2 V' V (c = 0 ∧ V' = (vN V ++ [(b, z)], V.2) ∧ r = nI (vN V).length))
def zA_addSubnet (V : zCl) (f b z : Int32) (c : Nat) (r : Int32) (V' : zCl) : Prop := zGd (zix f (vN V).length) c 1 V' V (∃ (k : Nat) (w : zBk), f = nI k ∧ (vN V)[k]? = some w ∧ zGd (zbok b z ∧ zwin w b z = true) c 2 V' V (zGd ((vS V).length < 8 ∧ (vS V).any (fun (s : zSb) => zovl s.2.1 (b, z)) = false) c 3 V' V (c = 0 ∧ V' = (vN V, vS V ++ [(k, (b, z), [], [])], V.2.2) ∧ r = nI (vS V).length)))
def zA_addHost (V : zCl) (f a : Int32) (c : Nat) (r : Int32) (V' : zCl) : Prop := zGd (zix f (vS V).length) c 1 V' V (∃ (k : Nat) (v : zSb), f = nI k ∧ (vS V)[k]? = some v ∧ zGd (zhs v.2.1.1 v.2.1.2 a = true) c 2 V' V (zGd ((vH V).length < 12 ∧ (vH V).any (fun h => decide (h.2.1 = a)) = false) c 3 V' V (c = 0 ∧ V' = (vN V, vS V, vH V ++ [(k, a, 0)], vP V, vG V) ∧ r = nI (vH V).length)))
def zA_addPeering (V : zCl) (f t : Int32) (c : Nat) (r : Int32) (V' : zCl) : Prop := zGd (zix f (vN V).length ∧ zix t (vN V).length) c 1 V' V (∃ (k j : Nat), f = nI k ∧ t = nI j ∧ k < (vN V).length ∧ j < (vN V).length ∧ zGd (¬ f = t) c 2 V' V (zGd ((vP V).length < 6) c 3 V' V (c = 0 ∧ V' = (vN V, vS V, vH V, vP V ++ [(k, j)], vG V) ∧ r = nI (vP V).length)))
def zA_addGroup (V : zCl) (c : Nat) (r : Int32) (V' : zCl) : Prop := zGd ((vG V).length < 6) c 1 V' V (c = 0 ∧ V' = (vN V, vS V, vH V, vP V, vG V ++ [[]]) ∧ r = nI (vG V).length)
def zA_allow (V : zCl) (gr : Int32) (i : Bool) (b z f la : Int32) (c : Nat) (r : Int32) (V' : zCl) : Prop := zGd (zix gr (vG V).length) c 1 V' V (∃ (k : Nat) (v : List zRl), gr = nI k ∧ (vG V)[k]? = some v ∧ zGd (zbok b z ∧ zpok f la) c 2 V' V (zGd (v.length < 10) c 3 V' V (c = 0 ∧ V' = (vN V, vS V, vH V, vP V, (vG V).set k (v ++ [(zb i, zb true, (b, z), zps f la)])) ∧ r = nI (v.length + 1))))
def zA_clearGroup (V : zCl) (gr : Int32) (c : Nat) (r : Int32) (V' : zCl) : Prop := zGd (zix gr (vG V).length) c 1 V' V (∃ (k : Nat) (v : List zRl), gr = nI k ∧ (vG V)[k]? = some v ∧ c = 0 ∧ V' = (vN V, vS V, vH V, vP V, (vG V).set k []) ∧ r = nI v.length)
def zA_setGroup (V : zCl) (f gr : Int32) (i : Bool) (c : Nat) (r : Int32) (V' : zCl) : Prop := zGd (zix f (vH V).length ∧ zix gr (vG V).length) c 1 V' V (∃ (k j : Nat) (v : zHo), f = nI k ∧ gr = nI j ∧ j < (vG V).length ∧ (vH V)[k]? = some v ∧ c = 0 ∧ V' = (vN V, vS V, (vH V).set k (v.1, v.2.1, zput v.2.2 gr (zb i)), vP V, vG V) ∧ r = zb (!decide (v.2.2 &&& (1 : Int32) <<< (gr &&& 31) = 0)))
def zPl (V : zCl) (f pl : Int32) (k j : Nat) (v : zSb) (u : Nat) : Prop := f = nI k ∧ (vS V)[k]? = some v ∧ pl = nI j ∧ j < v.2.2.1.length + u
def zA_putRule (V : zCl) (f pl : Int32) (i al : Bool) (b z fp la : Int32) (c : Nat) (r : Int32) (V' : zCl) : Prop := zGd (∃ k j v, zPl V f pl k j v 1) c 1 V' V (∃ k j v, zPl V f pl k j v 1 ∧ zGd (zbok b z ∧ zpok fp la) c 2 V' V (zGd (v.2.2.1.length < 12) c 3 V' V (c = 0 ∧ V' = (vN V, (vS V).set k (v.1, v.2.1, v.2.2.1.insertIdx j (zb i, zb al, (b, z), zps fp la), v.2.2.2), V.2.2) ∧ r = nI (v.2.2.1.length + 1))))
def zA_removeRule (V : zCl) (f pl : Int32) (c : Nat) (r : Int32) (V' : zCl) : Prop := zGd (∃ k j v, zPl V f pl k j v 0) c 1 V' V (∃ k j v, zPl V f pl k j v 0 ∧ c = 0 ∧ V' = (vN V, (vS V).set k (v.1, v.2.1, v.2.2.1.eraseIdx j, v.2.2.2), V.2.2) ∧ r = nI (v.2.2.1.length - 1))
def zA_setRoute (V : zCl) (f b z pe : Int32) (c : Nat) (r : Int32) (V' : zCl) : Prop := zGd (zix f (vS V).length ∧ (pe = -1 ∨ zix pe (vP V).length)) c 1 V' V (∃ (k : Nat) (v : zSb), f = nI k ∧ (vS V)[k]? = some v ∧ zGd (zbok b z) c 2 V' V (zGd (pe = -1 ∨ (∃ w ∈ v.2.2.2, w.1 = (b, z)) ∨ v.2.2.2.length < 8) c 3 V' V (c = 0 ∧
  ((∃ (w : zRt) (rs rs' : List zRt), w.1 = (b, z) ∧ v.2.2.2.Perm (w :: rs) ∧ r = w.2 ∧ ((pe = -1 ∧ rs' = rs) ∨ (¬ pe = -1 ∧ rs'.Perm (((b, z), pe) :: rs))) ∧ V' = (vN V, (vS V).set k (v.1, v.2.1, v.2.2.1, rs'), V.2.2)) ∨
   ((∀ w ∈ v.2.2.2, ¬ w.1 = (b, z)) ∧ r = -1 ∧ ((pe = -1 ∧ V' = V) ∨ (¬ pe = -1 ∧ V' = (vN V, (vS V).set k (v.1, v.2.1, v.2.2.1, v.2.2.2 ++ [((b, z), pe)]), V.2.2))))))))
/-- both sides answer alike -/
def zDet (c : Nat) (r : Int32) (V' : zCl) (c2 : Nat) (r2 : Int32) (W' : zCl) : Prop := c = c2 ∧ (c = 0 → r = r2) ∧ zEqv V' W'
section
variable {V W V' W' : zCl} {c c2 : Nat} {r r2 : Int32} {f t a b z pl pe gr : Int32}
theorem zGd.det {P P' K K2 : Prop} {k : Nat} (h : zGd P c k V' V K) (h2 : zGd P' c2 k W' W K2) (hP : P ↔ P') (hE : zEqv V W) (hk : k ≠ 0) (hK : P → K → K2 → zDet c r V' c2 r2 W') : zDet c r V' c2 r2 W' := by
  rcases h with ⟨a1, a2, a3⟩ | ⟨a1, a2⟩
  · rcases h2 with ⟨b1, b2, b3⟩ | ⟨b1, b2⟩
    · exact ⟨a1.trans b1.symm, fun h => absurd (a1.symm.trans h) hk, by rw [a2, b2]; exact hE⟩
    · exact absurd (hP.mpr b1) a3
  · rcases h2 with ⟨b1, b2, b3⟩ | ⟨b1, b2⟩
    · exact absurd (hP.mp a1) b3
    · exact hK a1 a2 b2
theorem zdet_0 {v : Int32} (hc : c = 0) (hc2 : c2 = 0) (hr : r = v) (hr2 : r2 = v) (hE : zEqv V' W') : zDet c r V' c2 r2 W' := ⟨hc.trans hc2.symm, fun _ => hr.trans hr2.symm, hE⟩
theorem zEqv.S (hE : zEqv V W) {k k2 : Nat} {v w : zSb} (hv : (vS V)[k]? = some v) (hw : (vS W)[k2]? = some w) (e1 : f = nI k) (e2 : f = nI k2) (hl : (vS V).length ≤ 1000) : k = k2 ∧ v.1 = w.1 ∧ v.2.1 = w.2.1 ∧ v.2.2.1 = w.2.2.1 ∧ v.2.2.2.Perm w.2.2.2 := by
  have h1 := (List.getElem?_eq_some_iff.mp hv).1
  have h2 := (List.getElem?_eq_some_iff.mp hw).1
  have h3 := hE.2.1.1
  have e : k = k2 := (nI_eq (by omega) (by omega)).mp (e1.symm.trans e2)
  subst e
  exact ⟨rfl, hE.2.1.2 k v w hv hw⟩
theorem z_ixeq {α : Type} {l l2 : List α} (hl : l = l2) {k k2 : Nat} {v w : α} (hv : l[k]? = some v) (hw : l2[k2]? = some w) (e1 : f = nI k) (e2 : f = nI k2) (hn : l.length ≤ 1000) : k = k2 ∧ v = w := by
  subst hl
  have h1 := (List.getElem?_eq_some_iff.mp hv).1
  have h2 := (List.getElem?_eq_some_iff.mp hw).1
  have e : k = k2 := (nI_eq (by omega) (by omega)).mp (e1.symm.trans e2)
  subst e
  rw [hv] at hw
  exact ⟨rfl, Option.some.inj hw⟩
theorem z_lteq {n k k2 : Nat} (h1 : k < n) (h2 : k2 < n) (e1 : f = nI k) (e2 : f = nI k2) (hn : n ≤ 1000) : k = k2 := (nI_eq (by omega) (by omega)).mp (e1.symm.trans e2)
/-- a subnet's value anew, on both sides -/
theorem zEqv.setS (hE : zEqv V W) {k : Nat} {v w : zSb} (h : v.1 = w.1 ∧ v.2.1 = w.2.1 ∧ v.2.2.1 = w.2.2.1 ∧ v.2.2.2.Perm w.2.2.2) : zEqv (vN V, (vS V).set k v, V.2.2) (vN W, (vS W).set k w, W.2.2) := by
  obtain ⟨h1, ⟨h2, h3⟩, h4⟩ := hE
  refine ⟨h1, ⟨by show ((vS V).set k v).length = ((vS W).set k w).length; rw [List.length_set, List.length_set]; exact h2, fun i a b ha hb => ?_⟩, h4⟩
  have ha : ((vS V).set k v)[i]? = some a := ha
  have hb : ((vS W).set k w)[i]? = some b := hb
  rw [List.getElem?_set] at ha hb
  by_cases e : k = i
  · rw [if_pos e] at ha hb
    by_cases l1 : k < (vS V).length
    · rw [if_pos (by omega)] at ha
      rw [if_pos (by omega)] at hb
      cases ha
      cases hb
      exact h
    · rw [if_neg (by omega)] at ha
      cases ha
  · rw [if_neg e] at ha hb
    exact h3 i a b ha hb
theorem zEqv.len (hE : zEqv V W) : (vS V).length = (vS W).length := hE.2.1.1
theorem zEqv.any (hE : zEqv V W) : (vS V).any (fun (s : zSb) => zovl s.2.1 (b, z)) = (vS W).any (fun (s : zSb) => zovl s.2.1 (b, z)) := by
  have h : (vS V).map (fun s : zSb => s.2.1) = (vS W).map (fun s : zSb => s.2.1) := by
    refine List.ext_getElem? (fun i => ?_)
    rw [List.getElem?_map, List.getElem?_map]
    rcases Nat.lt_or_ge i (vS V).length with c | c
    · have c2 : i < (vS W).length := by rw [← hE.len]; exact c
      obtain ⟨-, e, -⟩ := hE.2.1.2 i _ _ (List.getElem?_eq_getElem c) (List.getElem?_eq_getElem c2)
      rw [List.getElem?_eq_getElem c, List.getElem?_eq_getElem c2]
      exact congrArg some e
    · rw [List.getElem?_eq_none c, List.getElem?_eq_none (by rw [← hE.len]; exact c)]
  have h2 := congrArg (fun l => l.any (fun w => zovl w (b, z))) h
  simp only [List.any_map] at h2
  exact h2
theorem zd_addNetwork (hE : zEqv V W) (h : zA_addNetwork V b z c r V') (h2 : zA_addNetwork W b z c2 r2 W') : zDet c r V' c2 r2 W' := by
  have e := hE.1
  refine h.det h2 Iff.rfl hE (by decide) (fun _ h h2 => h.det h2 (by rw [e]) hE (by decide) (fun _ h h2 => ?_))
  obtain ⟨x1, x2, x3⟩ := h
  obtain ⟨y1, y2, y3⟩ := h2
  refine zdet_0 x1 y1 x3 (by rw [y3, e]) ?_
  rw [x2, y2]
  exact ⟨by show vN V ++ _ = vN W ++ _; rw [e], hE.2⟩
theorem zd_addSubnet (hE : zEqv V W) (hl : (vN V).length ≤ 1000) (h : zA_addSubnet V f b z c r V') (h2 : zA_addSubnet W f b z c2 r2 W') : zDet c r V' c2 r2 W' := by
  have e := hE.1
  refine h.det h2 (by rw [e]) hE (by decide) (fun _ h h2 => ?_)
  obtain ⟨k, w, a1, a2, h⟩ := h
  obtain ⟨k2, w2, b1, b2, h2⟩ := h2
  obtain ⟨ek, ew⟩ := z_ixeq e a2 b2 a1 b1 hl
  subst ek
  subst ew
  refine h.det h2 Iff.rfl hE (by decide) (fun _ h h2 => h.det h2 (by rw [hE.len, hE.any]) hE (by decide) (fun _ h h2 => ?_))
  obtain ⟨x1, x2, x3⟩ := h
  obtain ⟨y1, y2, y3⟩ := h2
  refine zdet_0 x1 y1 x3 (by rw [y3, hE.len]) ?_
  rw [x2, y2]
  refine ⟨e, ⟨by show (vS V ++ _).length = (vS W ++ _).length; rw [List.length_append, List.length_append, hE.len], fun i v' w' hv hw => ?_⟩, hE.2.2⟩
  have hv : (vS V ++ [(k, (b, z), [], [])])[i]? = some v' := hv
  have hw : (vS W ++ [(k, (b, z), [], [])])[i]? = some w' := hw
  rcases Nat.lt_or_ge i (vS V).length with hi | hi
  · rw [List.getElem?_append_left hi] at hv
    rw [List.getElem?_append_left (by rw [← hE.len]; exact hi)] at hw
    exact hE.2.1.2 i v' w' hv hw
  · rw [List.getElem?_append_right hi] at hv
    rw [List.getElem?_append_right (by rw [← hE.len]; exact hi), ← hE.len] at hw
    rw [hv] at hw
    cases hw
    exact ⟨rfl, rfl, rfl, List.Perm.refl _⟩
theorem zd_addHost (hE : zEqv V W) (hl : (vS V).length ≤ 1000) (h : zA_addHost V f a c r V') (h2 : zA_addHost W f a c2 r2 W') : zDet c r V' c2 r2 W' := by
  have e := hE.2.2.1
  refine h.det h2 (by rw [hE.len]) hE (by decide) (fun _ h h2 => ?_)
  obtain ⟨k, v, a1, a2, h⟩ := h
  obtain ⟨k2, w, b1, b2, h2⟩ := h2
  obtain ⟨ek, -, ew, -⟩ := hE.S a2 b2 a1 b1 hl
  subst ek
  refine h.det h2 (by rw [ew]) hE (by decide) (fun _ h h2 => h.det h2 (by rw [e]) hE (by decide) (fun _ h h2 => ?_))
  obtain ⟨x1, x2, x3⟩ := h
  obtain ⟨y1, y2, y3⟩ := h2
  refine zdet_0 x1 y1 x3 (by rw [y3, e]) ?_
  rw [x2, y2]
  exact ⟨hE.1, hE.2.1, by show vH V ++ _ = vH W ++ _; rw [e], hE.2.2.2⟩
theorem zd_addPeering (hE : zEqv V W) (hl : (vN V).length ≤ 1000) (h : zA_addPeering V f t c r V') (h2 : zA_addPeering W f t c2 r2 W') : zDet c r V' c2 r2 W' := by
  have e := hE.2.2.2.1
  refine h.det h2 (by rw [hE.1]) hE (by decide) (fun _ h h2 => ?_)
  obtain ⟨k, j, a1, a2, a3, a4, h⟩ := h
  obtain ⟨k2, j2, b1, b2, b3, b4, h2⟩ := h2
  rw [← hE.1] at b3 b4
  have ek := z_lteq a3 b3 a1 b1 hl
  have ej := z_lteq a4 b4 a2 b2 hl
  subst ek
  subst ej
  refine h.det h2 Iff.rfl hE (by decide) (fun _ h h2 => h.det h2 (by rw [e]) hE (by decide) (fun _ h h2 => ?_))
  obtain ⟨x1, x2, x3⟩ := h
  obtain ⟨y1, y2, y3⟩ := h2
  refine zdet_0 x1 y1 x3 (by rw [y3, e]) ?_
  rw [x2, y2]
  exact ⟨hE.1, hE.2.1, hE.2.2.1, by show vP V ++ _ = vP W ++ _; rw [e], hE.2.2.2.2⟩
theorem zd_addGroup (hE : zEqv V W) (h : zA_addGroup V c r V') (h2 : zA_addGroup W c2 r2 W') : zDet c r V' c2 r2 W' := by
  have e := hE.2.2.2.2
  refine h.det h2 (by rw [e]) hE (by decide) (fun _ h h2 => ?_)
  obtain ⟨x1, x2, x3⟩ := h
  obtain ⟨y1, y2, y3⟩ := h2
  refine zdet_0 x1 y1 x3 (by rw [y3, e]) ?_
  rw [x2, y2]
  exact ⟨hE.1, hE.2.1, hE.2.2.1, hE.2.2.2.1, by show vG V ++ _ = vG W ++ _; rw [e]⟩
theorem zd_allow {i : Bool} {fp la : Int32} (hE : zEqv V W) (hl : (vG V).length ≤ 1000) (h : zA_allow V gr i b z fp la c r V') (h2 : zA_allow W gr i b z fp la c2 r2 W') : zDet c r V' c2 r2 W' := by
  have e := hE.2.2.2.2
  refine h.det h2 (by rw [e]) hE (by decide) (fun _ h h2 => ?_)
  obtain ⟨k, v, a1, a2, h⟩ := h
  obtain ⟨k2, w, b1, b2, h2⟩ := h2
  obtain ⟨ek, ew⟩ := z_ixeq e a2 b2 a1 b1 hl
  subst ek
  subst ew
  refine h.det h2 Iff.rfl hE (by decide) (fun _ h h2 => h.det h2 Iff.rfl hE (by decide) (fun _ h h2 => ?_))
  obtain ⟨x1, x2, x3⟩ := h
  obtain ⟨y1, y2, y3⟩ := h2
  refine zdet_0 x1 y1 x3 y3 ?_
  rw [x2, y2]
  exact ⟨hE.1, hE.2.1, hE.2.2.1, hE.2.2.2.1, by show (vG V).set k _ = (vG W).set k _; rw [e]⟩
theorem zd_clearGroup (hE : zEqv V W) (hl : (vG V).length ≤ 1000) (h : zA_clearGroup V gr c r V') (h2 : zA_clearGroup W gr c2 r2 W') : zDet c r V' c2 r2 W' := by
  have e := hE.2.2.2.2
  refine h.det h2 (by rw [e]) hE (by decide) (fun _ h h2 => ?_)
  obtain ⟨k, v, a1, a2, x1, x2, x3⟩ := h
  obtain ⟨k2, w, b1, b2, y1, y2, y3⟩ := h2
  obtain ⟨ek, ew⟩ := z_ixeq e a2 b2 a1 b1 hl
  subst ek
  subst ew
  refine zdet_0 x1 y1 x3 y3 ?_
  rw [x2, y2]
  exact ⟨hE.1, hE.2.1, hE.2.2.1, hE.2.2.2.1, by show (vG V).set k _ = (vG W).set k _; rw [e]⟩
theorem zd_setGroup {i : Bool} (hE : zEqv V W) (hl : (vH V).length ≤ 1000) (h : zA_setGroup V f gr i c r V') (h2 : zA_setGroup W f gr i c2 r2 W') : zDet c r V' c2 r2 W' := by
  have e := hE.2.2.1
  refine h.det h2 (by rw [e, hE.2.2.2.2]) hE (by decide) (fun _ h h2 => ?_)
  obtain ⟨k, j, v, a1, -, -, a2, x1, x2, x3⟩ := h
  obtain ⟨k2, j2, w, b1, -, -, b2, y1, y2, y3⟩ := h2
  obtain ⟨ek, ew⟩ := z_ixeq e a2 b2 a1 b1 hl
  subst ek
  subst ew
  refine zdet_0 x1 y1 x3 y3 ?_
  rw [x2, y2]
  exact ⟨hE.1, hE.2.1, by show (vH V).set k _ = (vH W).set k _; rw [e], hE.2.2.2⟩
theorem zPl.eqv (hE : zEqv V W) {k j u : Nat} {v : zSb} (h : zPl V f pl k j v u) : ∃ w, zPl W f pl k j w u := by
  obtain ⟨a1, a2, a3, a4⟩ := h
  obtain ⟨w, hw, -, -, e, -⟩ := hE.symm.mem a2
  exact ⟨w, a1, hw, a3, by rw [e]; exact a4⟩
theorem zPl.iff (hE : zEqv V W) (u : Nat) : (∃ k j v, zPl V f pl k j v u) ↔ ∃ k j v, zPl W f pl k j v u :=
  ⟨fun ⟨k, j, _, h⟩ => ⟨k, j, h.eqv hE⟩, fun ⟨k, j, _, h⟩ => ⟨k, j, h.eqv hE.symm⟩⟩
theorem zPl.eq (hE : zEqv V W) {k j k2 j2 u : Nat} {v w : zSb} (hl : (vS V).length ≤ 1000) (hu : v.2.2.1.length + u ≤ 1000) (h : zPl V f pl k j v u) (h2 : zPl W f pl k2 j2 w u) : k = k2 ∧ j = j2 ∧ v.1 = w.1 ∧ v.2.1 = w.2.1 ∧ v.2.2.1 = w.2.2.1 ∧ v.2.2.2.Perm w.2.2.2 := by
  obtain ⟨a1, a2, a3, a4⟩ := h
  obtain ⟨b1, b2, b3, b4⟩ := h2
  obtain ⟨ek, e1, e2, e3, e4⟩ := hE.S a2 b2 a1 b1 hl
  rw [← e3] at b4
  exact ⟨ek, z_lteq a4 b4 a3 b3 hu, e1, e2, e3, e4⟩
theorem zd_putRule {i al : Bool} {fp la : Int32} (hE : zEqv V W) (hl : (vS V).length ≤ 1000) (hu : ∀ v ∈ vS V, v.2.2.1.length ≤ 900) (h : zA_putRule V f pl i al b z fp la c r V') (h2 : zA_putRule W f pl i al b z fp la c2 r2 W') : zDet c r V' c2 r2 W' := by
  refine h.det h2 (zPl.iff hE 1) hE (by decide) (fun _ h h2 => ?_)
  obtain ⟨k, j, v, a1, h⟩ := h
  obtain ⟨k2, j2, w, b1, h2⟩ := h2
  obtain ⟨ek, ej, e1, e2, e3, e4⟩ := a1.eq hE hl (by have := hu v (List.mem_of_getElem? a1.2.1); omega) b1
  subst ek
  subst ej
  refine h.det h2 Iff.rfl hE (by decide) (fun _ h h2 => h.det h2 (by rw [e3]) hE (by decide) (fun _ h h2 => ?_))
  obtain ⟨x1, x2, x3⟩ := h
  obtain ⟨y1, y2, y3⟩ := h2
  refine zdet_0 x1 y1 x3 (by rw [y3, e3]) ?_
  rw [x2, y2]
  exact hE.setS ⟨e1, e2, by show List.insertIdx _ _ _ = List.insertIdx _ _ _; rw [e3], e4⟩
theorem zd_removeRule (hE : zEqv V W) (hl : (vS V).length ≤ 1000) (hu : ∀ v ∈ vS V, v.2.2.1.length ≤ 900) (h : zA_removeRule V f pl c r V') (h2 : zA_removeRule W f pl c2 r2 W') : zDet c r V' c2 r2 W' := by
  refine h.det h2 (zPl.iff hE 0) hE (by decide) (fun _ h h2 => ?_)
  obtain ⟨k, j, v, a1, x1, x2, x3⟩ := h
  obtain ⟨k2, j2, w, b1, y1, y2, y3⟩ := h2
  obtain ⟨ek, ej, e1, e2, e3, e4⟩ := a1.eq hE hl (by have := hu v (List.mem_of_getElem? a1.2.1); omega) b1
  subst ek
  subst ej
  refine zdet_0 x1 y1 x3 (by rw [y3, e3]) ?_
  rw [x2, y2]
  exact hE.setS ⟨e1, e2, by show List.eraseIdx _ _ = List.eraseIdx _ _; rw [e3], e4⟩
theorem zd_setRoute (hI : zInv V) (hE : zEqv V W) (hl : (vS V).length ≤ 1000) (h : zA_setRoute V f b z pe c r V') (h2 : zA_setRoute W f b z pe c2 r2 W') : zDet c r V' c2 r2 W' := by
  refine h.det h2 (by rw [hE.len, hE.2.2.2.1]) hE (by decide) (fun _ h h2 => ?_)
  obtain ⟨k, v, a1, a2, h⟩ := h
  obtain ⟨k2, w, b1, b2, h2⟩ := h2
  obtain ⟨ek, e1, e2, e3, e4⟩ := hE.S a2 b2 a1 b1 hl
  subst ek
  have hv := hI.2.1 v (List.mem_of_getElem? a2)
  refine h.det h2 Iff.rfl hE (by decide) (fun _ h h2 => h.det h2 ?_ hE (by decide) (fun _ h h2 => ?_))
  · rw [e4.length_eq]
    constructor
    · rintro (h | ⟨u, hu, h⟩ | h)
      · exact Or.inl h
      · exact Or.inr (Or.inl ⟨u, e4.mem_iff.mp hu, h⟩)
      · exact Or.inr (Or.inr h)
    · rintro (h | ⟨u, hu, h⟩ | h)
      · exact Or.inl h
      · exact Or.inr (Or.inl ⟨u, e4.mem_iff.mpr hu, h⟩)
      · exact Or.inr (Or.inr h)
  · obtain ⟨x1, h⟩ := h
    obtain ⟨y1, h2⟩ := h2
    rcases h with ⟨u, rs, rs', x2, x3, x4, x5, x6⟩ | ⟨x2, x3, x4⟩
    · rcases h2 with ⟨u2, rt, rt', y2, y3, y4, y5, y6⟩ | ⟨y2, y3, y4⟩
      · have hu : u ∈ v.2.2.2 := x3.mem_iff.mpr List.mem_cons_self
        have hu2 : u2 ∈ v.2.2.2 := e4.mem_iff.mpr (y3.mem_iff.mpr List.mem_cons_self)
        have eu : u = u2 := z_inj hv.2.2.2.2 u hu u2 hu2 (x2.trans y2.symm)
        subst eu
        have hp : rs.Perm rt := (x3.symm.trans (e4.trans y3)).cons_inv
        refine zdet_0 x1 y1 x4 y4 ?_
        rw [x6, y6]
        refine hE.setS ⟨e1, e2, e3, ?_⟩
        show rs'.Perm rt'
        rcases x5 with ⟨p1, p2⟩ | ⟨p1, p2⟩
        · rcases y5 with ⟨q1, q2⟩ | ⟨q1, q2⟩
          · rw [p2, q2]; exact hp
          · exact absurd p1 q1
        · rcases y5 with ⟨q1, q2⟩ | ⟨q1, q2⟩
          · exact absurd q1 p1
          · exact p2.trans ((hp.cons _).trans q2.symm)
      · exact absurd x2 (y2 u (e4.mem_iff.mp (x3.mem_iff.mpr List.mem_cons_self)))
    · rcases h2 with ⟨u2, rt, rt', y2, y3, y4, y5, y6⟩ | ⟨y2, y3, y4⟩
      · exact absurd y2 (x2 u2 (e4.mem_iff.mpr (y3.mem_iff.mpr List.mem_cons_self)))
      · refine zdet_0 x1 y1 x3 y3 ?_
        rcases x4 with ⟨p1, p2⟩ | ⟨p1, p2⟩
        · rcases y4 with ⟨q1, q2⟩ | ⟨q1, q2⟩
          · rw [p2, q2]; exact hE
          · exact absurd p1 q1
        · rcases y4 with ⟨q1, q2⟩ | ⟨q1, q2⟩
          · exact absurd q1 p1
          · rw [p2, q2]
            exact hE.setS ⟨e1, e2, e3, e4.append_right _⟩
/-! the asking calls -/
theorem zA2.det {ok : Prop} {val val2 : Nat → Nat → Int32} (hE : zEqv V W) (hl : (vH V).length ≤ 1000) (hv : ∀ i j, i < (vH V).length → j < (vH V).length → val i j = val2 i j) (h : zA2 V f t ok val c r) (h2 : zA2 W f t ok val2 c2 r2) : zDet c r V c2 r2 W := by
  unfold zA2 at h2
  rw [← hE.2.2.1] at h2
  rcases h with ⟨x1, i, j, x2, x3, x4, x5, x6, x7, x8⟩ | ⟨x1, x2⟩ | ⟨x1, x2, x3⟩
  · rcases h2 with ⟨y1, i2, j2, y2, y3, y4, y5, y6, y7, y8⟩ | ⟨y1, y2⟩ | ⟨y1, y2, y3⟩
    · have ei := z_lteq x4 y4 x2 y2 hl
      have ej := z_lteq x5 y5 x3 y3 hl
      subst ei
      subst ej
      exact zdet_0 x1 y1 x8 (by rw [y8, hv i j x4 x5]) hE
    · exact absurd ⟨⟨i, x4, x2⟩, ⟨j, x5, x3⟩⟩ y2
    · exact absurd ⟨fun h => x6 ((nI_eq (by omega) (by omega)).mp (x2.symm.trans (h.trans x3))), x7⟩ y3
  · rcases h2 with ⟨y1, i2, j2, y2, y3, y4, y5, y6, y7, y8⟩ | ⟨y1, y2⟩ | ⟨y1, y2, y3⟩
    · exact absurd ⟨⟨i2, y4, y2⟩, ⟨j2, y5, y3⟩⟩ x2
    · exact ⟨x1.trans y1.symm, fun h => by omega, hE⟩
    · exact absurd y2 x2
  · rcases h2 with ⟨y1, i2, j2, y2, y3, y4, y5, y6, y7, y8⟩ | ⟨y1, y2⟩ | ⟨y1, y2, y3⟩
    · exact absurd ⟨fun h => y6 ((nI_eq (by omega) (by omega)).mp (y2.symm.trans (h.trans y3))), y7⟩ x3
    · exact absurd x2 y2
    · exact ⟨x1.trans y1.symm, fun h => by omega, hE⟩
theorem zfirstP_congr {g g2 : Nat → Int32} (h : ∀ p, g p = g2 p) (m : Int32) : ∀ n i, zfirstP g m n i = zfirstP g2 m n i := by
  have e : g = g2 := funext h
  subst e
  exact fun _ _ => rfl
theorem zsumP_congr {g g2 : Nat → Int32} (h : ∀ p, g p = g2 p) (m : Int32) : ∀ n i s, zsumP g m n i s = zsumP g2 m n i s := by
  have e : g = g2 := funext h
  subst e
  exact fun _ _ _ => rfl
theorem zpairsI_eqv (hI : zInv V) (hE : zEqv V W) (m : Int32) {i : Nat} (hi : i < (vH V).length) : ∀ n j cn, j + n ≤ (vH V).length → zpairsI V m i n j cn = zpairsI W m i n j cn := by
  intro n
  induction n with
  | zero => intro j cn _; rfl
  | succ n ih =>
    intro j cn h
    rw [zpairsI, zpairsI, zworkV_eqv hI hE hi (by omega), ih _ _ (by omega)]
theorem zpairsO_eqv (hI : zInv V) (hE : zEqv V W) (m : Int32) : ∀ n i cn, i + n ≤ (vH V).length → zpairsO V m (vH V).length n i cn = zpairsO W m (vH V).length n i cn := by
  intro n
  induction n with
  | zero => intro i cn _; rfl
  | succ n ih =>
    intro i cn h
    rw [zpairsO, zpairsO, zpairsI_eqv hI hE m (by omega) _ _ _ (by omega), ih _ _ (by omega)]
theorem zreach_eqv (hI : zInv V) (hE : zEqv V W) {k : Nat} (hk : k < (vH V).length) : ∀ n i s, i + n ≤ (vH V).length → zreach V k n i s = zreach W k n i s := by
  intro n
  induction n with
  | zero => intro i s _; rfl
  | succ n ih =>
    intro i s h
    rw [zreach, zreach, zworkV_eqv hI hE (by omega) hk, ih _ _ (by omega)]
theorem zd_ports (hI : zInv V) (hE : zEqv V W) (hl : (vH V).length ≤ 1000) (h : zA_ports V f t c r) (h2 : zA_ports W f t c2 r2) : zDet c r V c2 r2 W := zA2.det hE hl (fun _ _ hi hj => zworkV_eqv hI hE hi hj) h h2
theorem zd_blockedBy {p0 : Int32} (hI : zInv V) (hE : zEqv V W) (hl : (vH V).length ≤ 1000) (h : zA_blockedBy V f t p0 c r) (h2 : zA_blockedBy W f t p0 c2 r2) : zDet c r V c2 r2 W := zA2.det hE hl (fun _ _ hi hj => zfirstP_congr (fun p => zopenV_eqv hI hE p hi hj) _ 8 1) h h2
theorem zd_blocks {p0 : Int32} (hI : zInv V) (hE : zEqv V W) (hl : (vH V).length ≤ 1000) (h : zA_blocks V f t p0 c r) (h2 : zA_blocks W f t p0 c2 r2) : zDet c r V c2 r2 W := zA2.det hE hl (fun _ _ hi hj => zsumP_congr (fun p => zopenV_eqv hI hE p hi hj) _ 8 1 0) h h2
theorem zd_routeFor (hI : zInv V) (hE : zEqv V W) (hl : (vS V).length ≤ 1000) (h : zA_routeFor V f a c r) (h2 : zA_routeFor W f a c2 r2) : zDet c r V c2 r2 W := by
  unfold zA_routeFor at h2
  rw [← hE.len] at h2
  rcases h with ⟨x1, k, x2, x3, x4, x5⟩ | ⟨x1, x2⟩ | ⟨x1, x2, x3⟩
  · rcases h2 with ⟨y1, k2, y2, y3, y4, y5⟩ | ⟨y1, y2⟩ | ⟨y1, y2, y3⟩
    · have ek := z_lteq x3 y3 x2 y2 hl
      subst ek
      exact zdet_0 x1 y1 x5 (by rw [y5]; exact ((zsv_eqv hI hE x3).2.2 a).symm) hE
    · exact absurd ⟨k, x3, x2⟩ y2
    · exact absurd x4 y3
  · rcases h2 with ⟨y1, k2, y2, y3, y4, y5⟩ | ⟨y1, y2⟩ | ⟨y1, y2, y3⟩
    · exact absurd ⟨k2, y3, y2⟩ x2
    · exact ⟨x1.trans y1.symm, fun h => by omega, hE⟩
    · exact absurd y2 x2
  · rcases h2 with ⟨y1, k2, y2, y3, y4, y5⟩ | ⟨y1, y2⟩ | ⟨y1, y2, y3⟩
    · exact absurd y4 x3
    · exact absurd x2 y2
    · exact ⟨x1.trans y1.symm, fun h => by omega, hE⟩
theorem zd_pairs (hI : zInv V) (hE : zEqv V W) (h : zA_pairs V f c r) (h2 : zA_pairs W f c2 r2) : zDet c r V c2 r2 W := by
  unfold zA_pairs at h2
  rw [← hE.2.2.1, ← zpairsO_eqv hI hE _ _ _ _ (by omega)] at h2
  rcases h with ⟨x1, x2, x3⟩ | ⟨x1, x2⟩
  · rcases h2 with ⟨y1, y2, y3⟩ | ⟨y1, y2⟩
    · exact zdet_0 x1 y1 x3 y3 hE
    · exact absurd x2 y2
  · rcases h2 with ⟨y1, y2, y3⟩ | ⟨y1, y2⟩
    · exact absurd y2 x2
    · exact ⟨x1.trans y1.symm, fun h => by omega, hE⟩
theorem zd_reachedFrom (hI : zInv V) (hE : zEqv V W) (hl : (vH V).length ≤ 1000) (h : zA_reachedFrom V f c r) (h2 : zA_reachedFrom W f c2 r2) : zDet c r V c2 r2 W := by
  unfold zA_reachedFrom at h2
  rw [← hE.2.2.1] at h2
  rcases h with ⟨x1, k, x2, x3, x4⟩ | ⟨x1, x2⟩
  · rcases h2 with ⟨y1, k2, y2, y3, y4⟩ | ⟨y1, y2⟩
    · have ek := z_lteq x3 y3 x2 y2 hl
      subst ek
      exact zdet_0 x1 y1 x4 (by rw [y4, zreach_eqv hI hE x3 _ _ _ (by omega)]) hE
    · exact absurd ⟨k, x3, x2⟩ y2
  · rcases h2 with ⟨y1, k2, y2, y3, y4⟩ | ⟨y1, y2⟩
    · exact absurd ⟨k2, y3, y2⟩ x2
    · exact ⟨x1.trans y1.symm, fun h => by omega, hE⟩
theorem zd_idleRules (hI : zInv V) (hE : zEqv V W) (hl : (vS V).length ≤ 1000) (h : zA_idleRules V f c r) (h2 : zA_idleRules W f c2 r2) : zDet c r V c2 r2 W := by
  unfold zA_idleRules at h2
  rw [← hE.len] at h2
  rcases h with ⟨x1, k, x2, x3, x4⟩ | ⟨x1, x2⟩
  · rcases h2 with ⟨y1, k2, y2, y3, y4⟩ | ⟨y1, y2⟩
    · have ek := z_lteq x3 y3 x2 y2 hl
      subst ek
      exact zdet_0 x1 y1 x4 (by rw [y4, (zsv_eqv hI hE x3).2.1]) hE
    · exact absurd ⟨k, x3, x2⟩ y2
  · rcases h2 with ⟨y1, k2, y2, y3, y4⟩ | ⟨y1, y2⟩
    · exact absurd ⟨k2, y3, y2⟩ x2
    · exact ⟨x1.trans y1.symm, fun h => by omega, hE⟩
end
