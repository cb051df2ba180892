/-! the layer: a world is a list of cells, told by membership; the environment E: D, the places that may change, the array kinds, ArrayList's shared empty array, the mirror of Object[] -/
abbrev zG : Type := va_G × (Nat → Prop) × ClassId × ClassId × ClassId × ClassId × Nat × Nat
abbrev eD (E : zG) : va_G := E.1
abbrev eA (E : zG) : Nat → Prop := E.2.1
abbrev eI (E : zG) : ClassId := E.2.2.1
abbrev eZ (E : zG) : ClassId := E.2.2.2.1
abbrev eO (E : zG) : ClassId := E.2.2.2.2.1
abbrev eJ (E : zG) : ClassId := E.2.2.2.2.2.1
abbrev eT (E : zG) : Nat := E.2.2.2.2.2.2.1
abbrev eM (E : zG) : Nat := E.2.2.2.2.2.2.2
abbrev eTy (E : zG) : List (ClassId × FieldType) := [(eI E, .int), (eI E, .int), (eO E, .object "java/lang/Object"), (eI E, .int)]
/-- the texts of the class's own throws, by their places in its pool -/
def zTx : List (Nat × String) := [(38, "there are 4 networks"), (53, "another network has an address of the block"), (68, "the block is not within that of the network"), (71, "there are 8 subnets"), (79, "another subnet has an address of the block"), (92, "the address is not in the block of the subnet"), (94, "there are 12 hosts"), (102, "a host has this address"), (107, "a peering joins two different networks"), (109, "there are 6 peerings"), (114, "there are 6 groups"), (130, "the group has 10 rules"), (158, "there is no such place"), (161, "the list has 12 rules"), (180, "the table has 8 routes"), (187, "there is no such address"), (210, "there is no such number"), (212, "base and size are no block of addresses"), (216, "first or last is out of range"), (218, "the port is out of range"), (220, "a connection goes to another host")]
abbrev zIOO : String := "java/lang/IndexOutOfBoundsException"
abbrev zIAE : String := "java/lang/IllegalArgumentException"
abbrev zISE : String := "java/lang/IllegalStateException"
def zDc : List MethodName := [Bundle.initS "java/lang/RuntimeException", Bundle.initS "java/lang/Exception", Bundle.initS Bundle.tN]
/-- what stays as it is through the whole run -/
def zK (E : zG) (U : State) (H : Heap) : Prop :=
  va_K (eD E) vwCl (eTy E) U ∧ (∀ q : Nat, H.size ≤ q → eA E q) ∧
  (va_Z "java/util/ArrayList" "DEFAULTCAPACITY_EMPTY_ELEMENTDATA" "[Ljava/lang/Object;" (.ref (eT E)) (eA E) U H ∧ va_T (.object "java/lang/Object") (eT E) 0 (fun _ => .null) (eA E) U H) ∧
  (va_Mi "[Ljava/lang/Object;" (eM E) U ∧ va_Dc U ∧ va_AO "java/lang/Object" U) ∧
  (vx_Zq Bundle.tN "UNASSIGNED_STACK" Bundle.steD (eA E) U H ∧ vx_Zq Bundle.tN "SUPPRESSED_SENTINEL" Bundle.listD (eA E) U H) ∧
  (∀ q ∈ zTx, ∃ a : Nat, vk_R "CloudPaths" q.1 q.2 a U) ∧
  (∀ (ci : Nat) (r : vw_C), vwCl[ci]? = some r → 3 ≤ ci → ci ≤ 9 → va_Nw (.castable r.1 "java/lang/Object") U) ∧
  (∀ x ∈ [zIOO, zIAE, zISE], va_Nw (.castable x x) U) ∧ (∀ x ∈ zDc, va_Nw (.declares x) U)
theorem zK.at {E : zG} {s U : State} {H H1 : Heap} {A0 : Heap} {locs : List Loc} (h : zK E s s.heap) (hS : va_S (eA E) s.heap H locs) (hW : s.WarmedH U.vm) (hU : U.heap = H) : zK E U U.heap := by
  obtain ⟨h1, h2, ⟨h3, h4⟩, ⟨h5, h6, h7⟩, ⟨h8, h9⟩, h10, h11, h12, h13⟩ := h
  have hA := hW.alike
  have hk : ∀ a : Nat, a < s.heap.size → ¬ eA E a → U.heap[a]? = s.heap[a]? := by rw [hU]; exact hS.2.1
  refine ⟨va_K.moved hA h1, fun q hq => h2 q (Nat.le_trans hS.1 (by rw [← hU]; exact hq)), ⟨va_Z.moved hA (va_Z.kept h3 hk), va_T.moved hA (va_T.kept h4 hk)⟩, ⟨va_Mi.moved hA h5, va_Dc.moved hA h6, va_AO.moved hA h7⟩, ⟨vx_Zq.moved hA (vx_Zq.kept h8 hk), vx_Zq.moved hA (vx_Zq.kept h9 hk)⟩, fun q hq => ?_, fun ci r h a b => va_Nw.warmC hW (h11 ci r h a b), fun x hx => va_Nw.warmC hW (h12 x hx), fun x hx => va_Nw.warmD hW (h13 x hx)⟩
  obtain ⟨a, ha⟩ := h10 q hq
  exact ⟨a, vk_R.warm hW ha⟩
theorem zK.calling {E : zG} {a : Array Value} {U : State} {g : JFrame} {mk : MethodId} (h : zK E U U.heap) : zK E (U.calling g mk a) (U.calling g mk a).heap :=
  zK.at (H1 := U.heap) (A0 := U.heap) h (va_S.rf (A := eA E) (H0 := U.heap)) (State.WarmedH.refl U) rfl
/-! worlds as lists of cells -/
def zP (E : zG) (ws : va_W) (H : Heap) : Prop := va_P (eD E) vwCl ws H ∧ va_D (eA E) ws
theorem z_nodup {A : Nat → Prop} {ws : va_W} (h : va_D A ws) : (ws.map (fun q => q.1)).Nodup := by
  rw [List.Nodup, List.pairwise_iff_getElem]
  intro i j hi hj hij heq
  simp only [List.length_map] at hi hj
  simp only [List.getElem_map] at heq
  have := h.1 i j ws[i] ws[j] (List.getElem?_eq_getElem hi) (List.getElem?_eq_getElem hj) heq
  omega
theorem z_ofNodup {A : Nat → Prop} {ws : va_W} (h : (ws.map (fun q => q.1)).Nodup) (hA : ∀ q ∈ ws, A q.1) : va_D A ws := by
  rw [List.Nodup, List.pairwise_iff_getElem] at h
  refine ⟨fun i j p q hi hj hpq => ?_, fun k q hk => hA q (List.mem_of_getElem? hk)⟩
  obtain ⟨li, ei⟩ := List.getElem?_eq_some_iff.mp hi
  obtain ⟨lj, ej⟩ := List.getElem?_eq_some_iff.mp hj
  have li' : i < (ws.map (fun q => q.1)).length := by rw [List.length_map]; exact li
  have lj' : j < (ws.map (fun q => q.1)).length := by rw [List.length_map]; exact lj
  rcases Nat.lt_trichotomy i j with c | c | c
  · exact absurd (by simp only [List.getElem_map, ei, ej, hpq]) (h i j li' lj' c)
  · exact c
  · exact absurd (by simp only [List.getElem_map, ei, ej, hpq]) (h j i lj' li' c)
theorem zP.perm {E : zG} {ws ws' : va_W} {H : Heap} (h : zP E ws H) (hp : ws.Perm ws') : zP E ws' H := by
  refine ⟨fun k q hk => ?_, z_ofNodup ((hp.map (fun q => q.1)).nodup_iff.mp (z_nodup h.2)) (fun q hq => ?_)⟩
  · obtain ⟨i, hi⟩ := List.getElem?_of_mem (hp.mem_iff.mpr (List.mem_of_getElem? hk))
    exact h.1 i q hi
  · obtain ⟨i, hi⟩ := List.getElem?_of_mem (hp.mem_iff.mpr hq)
    exact h.2.2 i q hi
theorem zP.drop {E : zG} {ws ws' : va_W} {H : Heap} (h : zP E ws H) (hp : ws'.Sublist ws) : zP E ws' H := by
  refine ⟨fun k q hk => ?_, z_ofNodup ((z_nodup h.2).sublist (hp.map (fun q => q.1))) (fun q hq => ?_)⟩
  · obtain ⟨i, hi⟩ := List.getElem?_of_mem (hp.subset (List.mem_of_getElem? hk))
    exact h.1 i q hi
  · obtain ⟨i, hi⟩ := List.getElem?_of_mem (hp.subset hq)
    exact h.2.2 i q hi
theorem zP.uniq {E : zG} {ws : va_W} {H : Heap} (h : zP E ws H) {a : Nat} {e e' : va_E} (h1 : (a, e) ∈ ws) (h2 : (a, e') ∈ ws) : e = e' := by
  obtain ⟨i, hi⟩ := List.getElem?_of_mem h1
  obtain ⟨j, hj⟩ := List.getElem?_of_mem h2
  have hij := h.2.1 i j (a, e) (a, e') hi hj rfl
  subst hij
  rw [hi] at hj
  exact (Prod.mk.inj (Option.some.inj hj)).2
theorem zP.kept {E : zG} {ws : va_W} {H H1 : Heap} (h : zP E ws H) (hk : ∀ q : Nat, q < H.size → H1[q]? = H[q]?) : zP E ws H1 :=
  ⟨fun k q hq => (h.1 k q hq).kept (hk q.1 (h.1 k q hq).lt), h.2⟩
/-- the world with a's cell new -/
def zset (ws : va_W) (a : Nat) (e : va_E) : va_W := ws.map (fun q => if q.1 = a then (a, e) else q)
theorem zset_app (A B : va_W) (a : Nat) (e : va_E) : zset (A ++ B) a e = zset A a e ++ zset B a e := List.map_append
theorem zset_ne {A : va_W} {a : Nat} {e : va_E} (h : ∀ q ∈ A, q.1 ≠ a) : zset A a e = A := by
  have h1 : A.map (fun q => if q.1 = a then (a, e) else q) = A.map id := List.map_congr_left (fun q hq => by rw [if_neg (h q hq)]; rfl)
  exact h1.trans (List.map_id A)
theorem zset_self {ws : va_W} {a : Nat} {e e0 : va_E} (h : (a, e0) ∈ ws) : (a, e) ∈ zset ws a e := List.mem_map.mpr ⟨(a, e0), h, if_pos rfl⟩
theorem zset_old {ws : va_W} {a b : Nat} {e e0 : va_E} (h : (b, e0) ∈ ws) (hb : b ≠ a) : (b, e0) ∈ zset ws a e := List.mem_map.mpr ⟨(b, e0), h, if_neg hb⟩
theorem zset_inv {ws : va_W} {a b : Nat} {e e0 : va_E} (h : (b, e0) ∈ zset ws a e) : (b ≠ a ∧ (b, e0) ∈ ws) ∨ (b = a ∧ e0 = e) := by
  obtain ⟨q, hq, he⟩ := List.mem_map.mp h
  by_cases c : q.1 = a
  · rw [if_pos c] at he
    cases he
    exact Or.inr ⟨rfl, rfl⟩
  · rw [if_neg c] at he
    subst he
    exact Or.inl ⟨c, hq⟩
theorem zset_fst (ws : va_W) (a : Nat) (e : va_E) : (zset ws a e).map (fun q => q.1) = ws.map (fun q => q.1) := by
  unfold zset
  rw [List.map_map]
  refine List.map_congr_left (fun q _ => ?_)
  show (if q.1 = a then (a, e) else q).1 = q.1
  by_cases c : q.1 = a
  · rw [if_pos c]; exact c.symm
  · rw [if_neg c]
theorem zset_eq {A : Nat → Prop} {ws : va_W} {a k : Nat} {e e0 : va_E} (hD : va_D A ws) (hk : ws[k]? = some (a, e0)) : ws.set k (a, e) = zset ws a e := by
  have hl := (List.getElem?_eq_some_iff.mp hk).1
  refine List.ext_getElem? (fun i => ?_)
  unfold zset
  rw [List.getElem?_map]
  by_cases c : i = k
  · subst c
    rw [List.getElem?_set_self hl, hk]
    show _ = some (if a = a then (a, e) else (a, e0))
    rw [if_pos rfl]
  · rw [List.getElem?_set_ne (Ne.symm c)]
    cases hi : ws[i]? with
    | none => rfl
    | some q =>
      show some q = some (if q.1 = a then (a, e) else q)
      by_cases d : q.1 = a
      · exact absurd (hD.1 i k q (a, e0) hi hk d) c
      · rw [if_neg d]
/-! a call of the class's own: the state is (Z, C): Z the cells of the caller and of the own objects, C what each ArrayList holds -/
def zV (Z : va_W) (y : Nat) : Prop := ∃ (ci : Nat) (fs : List Value), (y, Sum.inr (ci, fs)) ∈ Z ∧ 3 ≤ ci ∧ ci ≤ 9
abbrev zLs : Type := Nat → Option (List Nat)
/-- the lists, in their cells YA -/
def zA (E : zG) (Z YA : va_W) (C : zLs) : Prop := ∃ ow : Nat → Nat, ∀ (q : Nat) (es : List Nat), C q = some es → (∀ y ∈ es, zV Z y) ∧ ∃ (mc : Int32) (a : Nat), (q, Sum.inr (2, [.int mc, .ref a, .int (nI es.length)])) ∈ YA ∧
  ((a = eT E ∧ es = []) ∨ (ow a = q ∧ ∃ (n : Nat) (row : Nat → Option Nat), (a, Sum.inl (eO E, n, .inr (.inr (.inr (.inr row))))) ∈ YA ∧ es.length ≤ n ∧ 10 ≤ n ∧ n ≤ 100 ∧ ∀ i y, es[i]? = some y → row i = some y))
def zQ (E : zG) (Z : va_W) (C : zLs) (H : Heap) : Prop := ∃ YA : va_W, zP E (Z ++ YA) H ∧ zA E Z YA C
/-- a start: the heap is as w says, and what stays stands -/
def zu (E : zG) (w : Heap → Prop) (U : State) : Prop := w U.heap ∧ zK E U U.heap
/-- on the way: the heap is as w says, and nothing old was written -/
def zHw (E : zG) (w : Heap → Prop) (s : State) (H : Heap) (locs : List Loc) : Prop := w H ∧ va_S (eA E) s.heap H locs
abbrev zHA (E : zG) (Z : va_W) (C : zLs) : State → Heap → List Loc → Prop := zHw E (zQ E Z C)
theorem zu.calling {E : zG} {w : Heap → Prop} {a : Array Value} {U : State} {g : JFrame} {mk : MethodId} (h : zu E w U) : zu E w (U.calling g mk a) := ⟨h.1, zK.calling h.2⟩
theorem zHw.u {E : zG} {w : Heap → Prop} {s : State} {H : Heap} {locs : List Loc} (h : zHw E w s H locs) (hK : zK E s s.heap) : ∀ U : State, U.heap = H → s.WarmedH U.vm → zu E w U := fun U hU hW =>
  ⟨by rw [hU]; exact h.1, zK.at (H1 := H) (A0 := H) hK h.2 hW hU⟩
theorem zQ.uniq {E : zG} {Z : va_W} {C : zLs} {H : Heap} (h : zQ E Z C H) {a : Nat} {e e' : va_E} (h1 : (a, e) ∈ Z) (h2 : (a, e') ∈ Z) : e = e' := by
  obtain ⟨YA, hP, -⟩ := h
  exact hP.uniq (List.mem_append_left _ h1) (List.mem_append_left _ h2)
theorem zQ.kept {E : zG} {Z : va_W} {C : zLs} {H H1 : Heap} (h : zQ E Z C H) (hk : ∀ q : Nat, q < H.size → H1[q]? = H[q]?) : zQ E Z C H1 := by
  obtain ⟨YA, hP, hA⟩ := h
  exact ⟨YA, hP.kept hk, hA⟩
theorem zA.mono {E : zG} {Z Z' YA : va_W} {C : zLs} (h : zA E Z YA C) (hv : ∀ y, zV Z y → zV Z' y) : zA E Z' YA C := by
  obtain ⟨ow, h⟩ := h
  exact ⟨ow, fun q es hq => ⟨fun y hy => hv y ((h q es hq).1 y hy), (h q es hq).2⟩⟩
/-! the frame of a method -/
def zC (E : zG) (p : Program) (s : State) (m : MethodId) (args : Array Value) (meth : Method) (c : Code) (own : String) (cc : ByteArray) (Ts : List Cond) (nL : Nat) : Prop := CallFix p m c cc nL s args Ts own ∧ zK E s s.heap ∧ meth.locks = false
