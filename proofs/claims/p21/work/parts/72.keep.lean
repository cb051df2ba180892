/-! what holds of every cloud is kept  by every call -/
section
variable {V V' : zCl} {c : Nat} {r f t a b z pl pe gr : Int32}
theorem zGd.keep {P K : Prop} {k : Nat} (h : zGd P c k V' V K) (hI : zInv V) (hK : P → K → zInv V') : zInv V' := by
  rcases h with ⟨-, e, -⟩ | ⟨p, q⟩
  · rw [e]; exact hI
  · exact hK p q
theorem zk_addNetwork (hI : zInv V) (h : zA_addNetwork V b z c r V') : zInv V' := by
  refine h.keep hI (fun hb h => h.keep hI (fun hc h => ?_))
  obtain ⟨-, e, -⟩ := h
  obtain ⟨⟨h1, h2⟩, h3, h4, h5⟩ := hI
  have no : ∀ (i : Nat) (v : zBk) (x : Int32), (vN V)[i]? = some v → zhs v.1 v.2 x = true → zhs b z x = true → False := fun i v x hv hx hx2 => by
    have h9 := zovl_of (w := (b, z)) (h1 v (List.mem_of_getElem? hv)) hb hx hx2
    have h8 := List.any_eq_false.mp hc.2 v (List.mem_of_getElem? hv)
    exact h8 h9
  have ap : ∀ (i : Nat) (v : zBk), (vN V ++ [(b, z)])[i]? = some v → (vN V)[i]? = some v ∨ (i = (vN V).length ∧ v = (b, z)) := fun i v hv => by
    rcases Nat.lt_trichotomy i (vN V).length with q | q | q
    · rw [List.getElem?_append_left q] at hv
      exact Or.inl hv
    · rw [List.getElem?_append_right (by omega), q, Nat.sub_self] at hv
      cases hv
      exact Or.inr ⟨q, rfl⟩
    · rw [List.getElem?_eq_none (by rw [List.length_append]; exact q)] at hv
      cases hv
  rw [e]
  refine ⟨⟨fun w hw => ?_, fun i j v w x hv hw hx hx2 => ?_⟩, fun v hv => ?_, h4, h5⟩
  · rcases List.mem_append.mp hw with hw | hw
    · exact h1 w hw
    · rw [List.mem_singleton.mp hw]; exact hb
  · rcases ap i v hv with p | ⟨p, rfl⟩
    · rcases ap j w hw with q | ⟨q, rfl⟩
      · exact h2 i j v w x p q hx hx2
      · exact (no i v x p hx hx2).elim
    · rcases ap j w hw with q | ⟨q, rfl⟩
      · exact (no j w x q hx2 hx).elim
      · rw [p, q]
  · obtain ⟨⟨w, hw, hw2⟩, k⟩ := h3 v hv
    exact ⟨⟨w, by show (vN V ++ [(b, z)])[v.1]? = some w; rw [List.getElem?_append_left (List.getElem?_eq_some_iff.mp hw).1]; exact hw, hw2⟩, k⟩
theorem zk_addSubnet (hI : zInv V) (h : zA_addSubnet V f b z c r V') : zInv V' := by
  refine h.keep hI (fun _ h => ?_)
  obtain ⟨k, w, -, hw, h⟩ := h
  refine h.keep hI (fun hb h => h.keep hI (fun _ h => ?_))
  obtain ⟨-, e, -⟩ := h
  obtain ⟨h1, h3, h4, h5⟩ := hI
  rw [e]
  refine ⟨h1, fun v hv => ?_, fun y hy => ?_, h5⟩
  · rcases List.mem_append.mp hv with hv | hv
    · exact h3 v hv
    · rw [List.mem_singleton.mp hv]
      exact ⟨⟨w, hw, fun x hx => zwin_all (h1.1 w (List.mem_of_getElem? hw)) hb.1 hb.2 x hx⟩, hb.1, fun _ h => (List.not_mem_nil h).elim, fun _ h => (List.not_mem_nil h).elim, List.nodup_nil⟩
  · obtain ⟨v, hv, hx⟩ := h4 y hy
    exact ⟨v, by show (vS V ++ _)[y.1]? = some v; rw [List.getElem?_append_left (List.getElem?_eq_some_iff.mp hv).1]; exact hv, hx⟩
theorem zk_addHost (hI : zInv V) (h : zA_addHost V f a c r V') : zInv V' := by
  refine h.keep hI (fun _ h => ?_)
  obtain ⟨k, v, -, hv, h⟩ := h
  refine h.keep hI (fun hb h => h.keep hI (fun _ h => ?_))
  obtain ⟨-, e, -⟩ := h
  obtain ⟨h1, h3, h4, h5⟩ := hI
  rw [e]
  refine ⟨h1, h3, fun y hy => ?_, h5⟩
  rcases List.mem_append.mp hy with hy | hy
  · exact h4 y hy
  · rw [List.mem_singleton.mp hy]
    exact ⟨v, hv, hb⟩
theorem zk_addPeering (hI : zInv V) (h : zA_addPeering V f t c r V') : zInv V' := by
  refine h.keep hI (fun _ h => ?_)
  obtain ⟨k, j, -, -, -, -, h⟩ := h
  refine h.keep hI (fun _ h => h.keep hI (fun hc h => ?_))
  obtain ⟨-, e, -⟩ := h
  obtain ⟨h1, h3, h4, h5, h6⟩ := hI
  have hl : (vP V ++ [(k, j)]).length = (vP V).length + 1 := by rw [List.length_append]; rfl
  rw [e]
  refine ⟨h1, fun v hv => ?_, h4, h5, by show (vP V ++ [(k, j)]).length ≤ 6; omega⟩
  obtain ⟨a1, a2, a3, a4, a5⟩ := h3 v hv
  refine ⟨a1, a2, a3, fun t ht => ⟨(a4 t ht).1, ?_⟩, a5⟩
  obtain ⟨q, hq, eq⟩ := (a4 t ht).2
  exact ⟨q, by show q < (vP V ++ [(k, j)]).length; omega, eq⟩
theorem zk_addGroup (hI : zInv V) (h : zA_addGroup V c r V') : zInv V' := by
  refine h.keep hI (fun _ h => ?_)
  obtain ⟨-, e, -⟩ := h
  obtain ⟨h1, h3, h4, h5, h6⟩ := hI
  rw [e]
  refine ⟨h1, h3, h4, fun v hv => ?_, h6⟩
  rcases List.mem_append.mp hv with hv | hv
  · exact h5 v hv
  · rw [List.mem_singleton.mp hv]
    exact fun _ h => (List.not_mem_nil h).elim
theorem zk_allow {i : Bool} {fp la : Int32} (hI : zInv V) (h : zA_allow V gr i b z fp la c r V') : zInv V' := by
  refine h.keep hI (fun _ h => ?_)
  obtain ⟨k, v, -, hv, h⟩ := h
  refine h.keep hI (fun hb h => h.keep hI (fun _ h => ?_))
  obtain ⟨-, e, -⟩ := h
  obtain ⟨h1, h3, h4, h5, h6⟩ := hI
  rw [e]
  refine ⟨h1, h3, h4, fun u hu => ?_, h6⟩
  rcases List.mem_or_eq_of_mem_set hu with hu | hu
  · exact h5 u hu
  · rw [hu]
    intro q hq
    rcases List.mem_append.mp hq with hq | hq
    · exact h5 v (List.mem_of_getElem? hv) q hq
    · rw [List.mem_singleton.mp hq]
      exact ⟨hb.1, zps_ok hb.2⟩
theorem zk_clearGroup (hI : zInv V) (h : zA_clearGroup V gr c r V') : zInv V' := by
  refine h.keep hI (fun _ h => ?_)
  obtain ⟨k, v, -, hv, -, e, -⟩ := h
  obtain ⟨h1, h3, h4, h5, h6⟩ := hI
  rw [e]
  refine ⟨h1, h3, h4, fun u hu => ?_, h6⟩
  rcases List.mem_or_eq_of_mem_set hu with hu | hu
  · exact h5 u hu
  · rw [hu]
    exact fun _ h => (List.not_mem_nil h).elim
theorem zk_setGroup {i : Bool} (hI : zInv V) (h : zA_setGroup V f gr i c r V') : zInv V' := by
  refine h.keep hI (fun _ h => ?_)
  obtain ⟨k, j, v, -, -, -, hv, -, e, -⟩ := h
  obtain ⟨h1, h3, h4, h5⟩ := hI
  rw [e]
  refine ⟨h1, h3, fun u hu => ?_, h5⟩
  rcases List.mem_or_eq_of_mem_set hu with hu | hu
  · exact h4 u hu
  · rw [hu]
    exact h4 v (List.mem_of_getElem? hv)
theorem zInv_setS (hI : zInv V) {k : Nat} {v v' : zSb} (hv : (vS V)[k]? = some v) (h : zIs V v') (e : v'.2.1 = v.2.1) : zInv (vN V, (vS V).set k v', V.2.2) := by
  obtain ⟨h1, h3, h4, h5⟩ := hI
  refine ⟨h1, fun u hu => ?_, fun y hy => ?_, h5⟩
  · rcases List.mem_or_eq_of_mem_set hu with hu | hu
    · exact h3 u hu
    · rw [hu]; exact h
  · obtain ⟨u, hu, hx⟩ := h4 y hy
    by_cases q : k = y.1
    · rw [← q, hv] at hu
      cases hu
      refine ⟨v', ?_, by rw [e]; exact hx⟩
      show ((vS V).set k v')[y.1]? = some v'
      rw [List.getElem?_set, if_pos q, if_pos (List.getElem?_eq_some_iff.mp hv).1]
    · refine ⟨u, ?_, hx⟩
      show ((vS V).set k v')[y.1]? = some u
      rw [List.getElem?_set, if_neg q]
      exact hu
theorem zk_putRule {i al : Bool} {fp la : Int32} (hI : zInv V) (h : zA_putRule V f pl i al b z fp la c r V') : zInv V' := by
  refine h.keep hI (fun _ h => ?_)
  obtain ⟨k, j, v, hp, h⟩ := h
  refine h.keep hI (fun hb h => h.keep hI (fun _ h => ?_))
  obtain ⟨-, e, -⟩ := h
  obtain ⟨-, hv, -, hj⟩ := hp
  have h3 := hI.2.1 v (List.mem_of_getElem? hv)
  rw [e]
  refine zInv_setS hI hv ⟨h3.1, h3.2.1, fun u hu => ?_, h3.2.2.2⟩ rfl
  have hu : u ∈ v.2.2.1.insertIdx j (zb i, zb al, (b, z), zps fp la) := hu
  rcases (List.mem_insertIdx (by omega)).mp hu with hu | hu
  · rw [hu]; exact ⟨hb.1, zps_ok hb.2⟩
  · exact h3.2.2.1 u hu
theorem zk_removeRule (hI : zInv V) (h : zA_removeRule V f pl c r V') : zInv V' := by
  refine h.keep hI (fun _ h => ?_)
  obtain ⟨k, j, v, hp, -, e, -⟩ := h
  obtain ⟨-, hv, -, hj⟩ := hp
  have h3 := hI.2.1 v (List.mem_of_getElem? hv)
  rw [e]
  exact zInv_setS hI hv ⟨h3.1, h3.2.1, fun u hu => h3.2.2.1 u (List.mem_of_mem_eraseIdx hu), h3.2.2.2⟩ rfl
theorem zk_setRoute (hI : zInv V) (h : zA_setRoute V f b z pe c r V') : zInv V' := by
  refine h.keep hI (fun hpe h => ?_)
  obtain ⟨k, v, -, hv, h⟩ := h
  refine h.keep hI (fun hb h => h.keep hI (fun _ h => ?_))
  obtain ⟨-, h⟩ := h
  have h3 := hI.2.1 v (List.mem_of_getElem? hv)
  obtain ⟨a1, a2, a3, a4, a5⟩ := h3
  have hpx : ¬ pe = -1 → zix pe (vP V).length := fun h => hpe.2.resolve_left h
  rcases h with ⟨u, rs, rs', x2, x3, -, x5, x6⟩ | ⟨x2, -, x4⟩
  · rw [x6]
    have b4 : ∀ t ∈ rs, zbok t.1.1 t.1.2 ∧ zix t.2 (vP V).length := fun t ht => a4 t (x3.mem_iff.mpr (List.mem_cons_of_mem _ ht))
    have b5 := (x3.map (fun t => t.1)).nodup a5
    rw [List.map_cons, List.nodup_cons] at b5
    refine zInv_setS hI hv ⟨a1, a2, a3, ?_, ?_⟩ rfl
    · rcases x5 with ⟨-, p2⟩ | ⟨p1, p2⟩
      · intro t ht
        have ht : t ∈ rs' := ht
        rw [p2] at ht
        exact b4 t ht
      · intro t ht
        rcases List.mem_cons.mp (p2.mem_iff.mp ht) with ht | ht
        · rw [ht]; exact ⟨hb, hpx p1⟩
        · exact b4 t ht
    · show (rs'.map (fun t => t.1)).Nodup
      rcases x5 with ⟨-, p2⟩ | ⟨p1, p2⟩
      · rw [p2]; exact b5.2
      · refine (p2.map (fun t => t.1)).symm.nodup ?_
        rw [List.map_cons, List.nodup_cons, ← x2]
        exact b5
  · rcases x4 with ⟨-, p2⟩ | ⟨p1, p2⟩
    · rw [p2]; exact hI
    · rw [p2]
      refine zInv_setS hI hv ⟨a1, a2, a3, ?_, ?_⟩ rfl
      · intro t ht
        rcases List.mem_append.mp ht with ht | ht
        · exact a4 t ht
        · rw [List.mem_singleton.mp ht]; exact ⟨hb, hpx p1⟩
      · show ((v.2.2.2 ++ [((b, z), pe)]).map (fun t => t.1)).Nodup
        rw [List.map_append, List.nodup_append]
        refine ⟨a5, by simp, fun p hp q hq => ?_⟩
        obtain ⟨w, hw, ew⟩ := List.mem_map.mp hp
        have eq : q = (b, z) := by simpa using hq
        rw [eq, ← ew]
        exact x2 w hw
end
