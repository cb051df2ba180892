/-! rows over a world that is told cell by cell (ArrayList's own methods, the reference) -/
abbrev zoa (E : zG) (n : Nat) (row : Nat → Option Nat) : va_E := Sum.inl (eO E, n, .inr (.inr (.inr (.inr row))))
abbrev zH (E : zG) (ws : va_W) : State → Heap → List Loc → Prop := zHw E (zP E ws)
theorem zP_set {E : zG} {ws : va_W} {H1 : Heap} {a k : Nat} {e e0 : va_E} {D : Nat → Prop} (hD : va_D (eA E) ws) (hk : ws[k]? = some (a, e0)) (h1 : va_P (eD E) vwCl (ws.set k (a, e)) H1) (h2 : va_D (eA E) (ws.set k (a, e))) : zP E (zset ws a e) H1 := by
  rw [zset_eq hD hk] at h1 h2
  exact ⟨h1, h2⟩
section
variable {p : Program} {l : Launch} {e : Env} {R : Room} {s : State} {m : MethodId} {args : Array Value} {below : List Frame} {meth : Method} {c : Code} {H : Heap} {locs : List Loc} {cells slots : Nat} {Q : State → Prop}
variable {E : zG} {own : String} {cc : ByteArray} {Ts : List Cond} {nL pc : Nat} {ls : Array Slot} {rest st0 : List Value} {ws : va_W} {a : Nat}
theorem z_same (Cx : zC E p s m args meth c own cc Ts nL) {ref o n d : String} (h : o = ref ∨ Cond.sameField ref o n d ∈ Ts) : ∀ x, s.fieldFound? o n d = some x → s.fieldFound? ref n d = some x := by
  intro x hx
  rcases h with h | h
  · rw [← h]; exact hx
  · exact u_same (Cx.1.2.2.2.2 _ h) x hx
theorem zr_recv (Cx : zC E p s m args meth c own cc Ts nL) (hw : zH E ws s H locs) {ci : Nat} {fs : List Value} {r : vw_C} (he : (a, Sum.inr (ci, fs)) ∈ ws) (hc : vwCl[ci]? = some r) : ∃ cell : Cell, H[a]? = some cell ∧ cell.vm.isStatics = false ∧ s.vm.findClass r.1 = some cell.cls := by
  obtain ⟨q0, hq0⟩ := List.getElem?_of_mem he
  exact va_recv Cx.2.1.1 hw.1.1 hc hq0
theorem zr_get (Cx : zC E p s m args meth c own cc Ts nL) (hw : zH E ws s H locs) {Cn ref : String} {T : u_T} {N ci index : Nat} (hin : ∀ w ∈ u_ws Cn T N, w ∈ Ts) {fs : List Value} (he : (a, Sum.inr (ci, fs)) ∈ ws) (hc : vwCl[ci]? = some (Cn, T, N)) (k : Nat) (hk : k < N) (hlink : Cond.fieldLink own index ref (T k).2.1 (T k).2.2.1 ∈ Ts) (hsame : (T k).1 = ref ∨ Cond.sameField ref (T k).1 (T k).2.1 (T k).2.2.1 ∈ Ts) {v : Value} (hv : fs[k]? = some v) (hdg : decode cc pc = .ok (.getfield index, 3))
    (kk : W p l e R s m args below meth c H locs cells slots Q (F0 m (pc + 3) ls (v :: rest))) : W p l e R s m args below meth c H locs cells slots Q (F0 m pc ls (.ref a :: rest)) := by
  obtain ⟨q0, hq0⟩ := List.getElem?_of_mem he
  exact va_get Cx.1.1 Cx.1.2.1 Cx.1.2.2.2.2 hin Cx.1.2.2.2.1 Cx.2.1.1 hw.1.1 q0 hq0 hc k hk (Cx.1.2.2.2.2 _ hlink) (z_same Cx hsame) hv hdg kk
theorem zr_put (Cx : zC E p s m args meth c own cc Ts nL) (hw : zH E ws s H locs) {Cn ref : String} {T : u_T} {N ci index : Nat} (hin : ∀ w ∈ u_ws Cn T N, w ∈ Ts) (ty0 : Nat → FieldType) (hty : ∀ k, k < N → parseFieldDescriptor (T k).2.2.1 = some (ty0 k)) (hnm : ∀ a, a < N → ∀ b, b < N → a ≠ b → (T a).2.1 ≠ (T b).2.1) {fs : List Value} (he : (a, Sum.inr (ci, fs)) ∈ ws) (hc : vwCl[ci]? = some (Cn, T, N)) (k : Nat) (hk : k < N) (hlink : Cond.fieldLink own index ref (T k).2.1 (T k).2.2.1 ∈ Ts) (hsame : (T k).1 = ref ∨ Cond.sameField ref (T k).1 (T k).2.1 (T k).2.2.1 ∈ Ts) (hfin : (T k).2.2.2 = false)
    {ty : FieldType} {v : Value} (hd : parseFieldDescriptor (T k).2.2.1 = some ty) (hn : narrow ty v = v) (hfit : fits ty v = true) (hl : k < fs.length) (hdg : decode cc pc = .ok (.putfield index, 3))
    (kk : ∀ (H1 : Heap) (locs1 : List Loc), zH E (zset ws a (Sum.inr (ci, fs.set k v))) s H1 locs1 → W p l e R s m args below meth c H1 locs1 cells slots Q (F0 m (pc + 3) ls rest)) : W p l e R s m args below meth c H locs cells slots Q (F0 m pc ls (v :: .ref a :: rest)) := by
  obtain ⟨q0, hq0⟩ := List.getElem?_of_mem he
  exact va_put Cx.1.1 Cx.1.2.1 Cx.1.2.2.2.2 hin ty0 hty hnm Cx.1.2.2.2.1 Cx.2.1.1 hw.1.1 hw.1.2 hw.2 q0 hq0 hc k hk (Cx.1.2.2.2.2 _ hlink) (z_same Cx hsame) hfin hd hn hfit hl hdg (fun H1 locs1 h1 h2 h3 => kk H1 locs1 ⟨zP_set (D := eA E) hw.1.2 hq0 h1 h2, h3⟩)
theorem zr_alen (Cx : zC E p s m args meth c own cc Ts nL) (hw : zH E ws s H locs) {n : Nat} {row : Nat → Option Nat} (he : (a, zoa E n row) ∈ ws) (hdg : decode cc pc = .ok (.arraylength, 1))
    (kk : W p l e R s m args below meth c H locs cells slots Q (F0 m (pc + 1) ls (.int (nI n) :: rest))) : W p l e R s m args below meth c H locs cells slots Q (F0 m pc ls (.ref a :: rest)) := by
  obtain ⟨q0, hq0⟩ := List.getElem?_of_mem he
  exact va_alen Cx.1.1 Cx.1.2.1 Cx.2.1.1 hw.1.1 q0 2 hq0 (ty := .object "java/lang/Object") rfl rfl hdg kk
/-- the shared empty array's length -/
theorem zr_alen0 {w : Heap → Prop} (Cx : zC E p s m args meth c own cc Ts nL) (hw : zHw E w s H locs) (hdg : decode cc pc = .ok (.arraylength, 1))
    (kk : W p l e R s m args below meth c H locs cells slots Q (F0 m (pc + 1) ls (.int 0 :: rest))) : W p l e R s m args below meth c H locs cells slots Q (F0 m pc ls (.ref (eT E) :: rest)) :=
  va_tlen Cx.1.1 Cx.1.2.1 Cx.2.1.2.2.1.2 hw.2 rfl hdg kk
theorem zr_aald (Cx : zC E p s m args meth c own cc Ts nL) (hw : zH E ws s H locs) {n j y : Nat} {row : Nat → Option Nat} (he : (a, zoa E n row) ∈ ws) (hj : j < n) (hn : n < 2 ^ 31) (hy : row j = some y) (hdg : decode cc pc = .ok (.aaload, 1))
    (kk : W p l e R s m args below meth c H locs cells slots Q (F0 m (pc + 1) ls (.ref y :: rest))) : W p l e R s m args below meth c H locs cells slots Q (F0 m pc ls (.int (nI j) :: .ref a :: rest)) := by
  obtain ⟨q0, hq0⟩ := List.getElem?_of_mem he
  refine va_aldq Cx.1.1 Cx.1.2.1 Cx.2.1.1 hw.1.1 q0 2 hq0 (C := "java/lang/Object") rfl (vp_in_nI hj hn) hdg ?_
  rw [nI_clamp (Nat.lt_trans hj hn), hy]
  exact kk
theorem zr_any (Cx : zC E p s m args meth c own cc Ts nL) (hw : zH E ws s H locs) {v : Nat} (hv : zV ws v) : va_Any "java/lang/Object" s H v := by
  obtain ⟨ci, fs, hm, b1, b2⟩ := hv
  obtain ⟨q0, hq0⟩ := List.getElem?_of_mem hm
  obtain ⟨r, hr, -⟩ := hw.1.1 q0 _ hq0
  refine va_rAny Cx.2.1.1 hw.1.1 hq0 hr (fun comp c0 h1 h2 => ?_)
  have h3 := Cx.2.1.2.2.2.2.2.2.1 ci r hr b1 b2
  obtain ⟨c3, c4, hc3, hc4, hasg⟩ := Cond.castable_spec (va_Nw.use (A := args) rfl h3)
  cases hc3.symm.trans h2
  cases hc4.symm.trans h1
  exact hasg
theorem zr_aast (Cx : zC E p s m args meth c own cc Ts nL) (hw : zH E ws s H locs) {n j v : Nat} {row : Nat → Option Nat} (he : (a, zoa E n row) ∈ ws) (hj : j < n) (hn : n < 2 ^ 31) (hv : zV ws v) (hdg : decode cc pc = .ok (.aastore, 1))
    (kk : ∀ (H1 : Heap) (locs1 : List Loc), zH E (zset ws a (zoa E n (va_up row j (some v)))) s H1 locs1 → W p l e R s m args below meth c H1 locs1 cells slots Q (F0 m (pc + 1) ls rest)) : W p l e R s m args below meth c H locs cells slots Q (F0 m pc ls (.ref v :: .int (nI j) :: .ref a :: rest)) := by
  have hr := zr_any Cx hw hv
  obtain ⟨q0, hq0⟩ := List.getElem?_of_mem he
  refine va_astqM Cx.1.1 Cx.1.2.1 Cx.2.1.1 hw.1.1 hw.1.2 hw.2 q0 2 hq0 (E := "java/lang/Object") rfl hr (vp_in_nI hj hn) hdg (fun H1 locs1 h1 h2 h3 => ?_)
  rw [nI_clamp (Nat.lt_trans hj hn)] at h1 h2
  exact kk H1 locs1 ⟨zP_set (D := eA E) hw.1.2 hq0 h1 h2, h3⟩
theorem zr_aastN (Cx : zC E p s m args meth c own cc Ts nL) (hw : zH E ws s H locs) {n j : Nat} {row : Nat → Option Nat} (he : (a, zoa E n row) ∈ ws) (hj : j < n) (hn : n < 2 ^ 31) (hdg : decode cc pc = .ok (.aastore, 1))
    (kk : ∀ (H1 : Heap) (locs1 : List Loc), zH E (zset ws a (zoa E n (va_up row j none))) s H1 locs1 → W p l e R s m args below meth c H1 locs1 cells slots Q (F0 m (pc + 1) ls rest)) : W p l e R s m args below meth c H locs cells slots Q (F0 m pc ls (.null :: .int (nI j) :: .ref a :: rest)) := by
  obtain ⟨q0, hq0⟩ := List.getElem?_of_mem he
  refine va_astqN Cx.1.1 Cx.1.2.1 Cx.2.1.1 hw.1.1 hw.1.2 hw.2 q0 2 hq0 (C := "java/lang/Object") rfl (vp_in_nI hj hn) hdg (fun H1 locs1 h1 h2 h3 => ?_)
  rw [nI_clamp (Nat.lt_trans hj hn)] at h1 h2
  exact kk H1 locs1 ⟨zP_set (D := eA E) hw.1.2 hq0 h1 h2, h3⟩
theorem zP_push {E : zG} {ws : va_W} {H1 : Heap} {q : Nat} {e : va_E} (h : zP E (ws ++ [(q, e)]) H1) : ∀ x ∈ ws, x.1 ≠ q := by
  intro x hx hxq
  have hn := z_nodup h.2
  rw [List.map_append] at hn
  obtain ⟨-, -, hn3⟩ := List.nodup_append.mp hn
  exact hn3 x.1 (List.mem_map.mpr ⟨x, hx, rfl⟩) q (List.mem_map.mpr ⟨_, List.mem_singleton.mpr rfl, rfl⟩) hxq
theorem zr_newq (Cx : zC E p s m args meth c own cc Ts nL) (hw : zH E ws s H locs) {index N' : Nat} (hlink : Cond.classLink own index "java/lang/Object" ∈ Ts) (hN : N' < 1000) (hcells : cells + 1 ≤ R.cells) (hslots : slots + N' ≤ R.slots) (hdg : decode cc pc = .ok (.anewarray index, 3))
    (kk : ∀ (q : Nat) (H1 : Heap), (∀ x ∈ ws, x.1 ≠ q) → zH E (ws ++ [(q, zoa E N' (fun _ => none))]) s H1 locs → W p l e R s m args below meth c H1 locs (cells + 1) (slots + N') Q (F0 m (pc + 3) ls (.ref q :: rest))) : W p l e R s m args below meth c H locs cells slots Q (F0 m pc ls (.int (nI N') :: rest)) := by
  refine va_newq Cx.1.1 Cx.1.2.1 Cx.1.2.2.2.1 (Cx.1.2.2.2.2 _ hlink) Cx.2.1.2.2.2.1.2.2 Cx.2.1.1 hw.1.1 hw.1.2 hw.2 Cx.2.1.2.1 (nI_pos (by omega)) (nI_clamp (by omega)) (by omega) hcells hslots hdg (fun q cA H1 hK h1 h2 h3 => ?_)
  have e1 : s.vm.findClass ("[" ++ (FieldType.object "java/lang/Object").toString) = some cA := by
    obtain ⟨_, _, _, _, _, h⟩ := (hK.2 4 _ rfl).2
    exact h
  have e2 : s.vm.findClass ("[" ++ (FieldType.object "java/lang/Object").toString) = some (eO E) := by
    obtain ⟨_, _, _, _, _, h⟩ := (Cx.2.1.1.2 2 _ rfl).2
    exact h
  cases e1.symm.trans e2
  exact kk q H1 (zP_push ⟨h1, h2⟩) ⟨⟨h1, h2⟩, h3⟩
/-- System.arraycopy of references, from one Object[] to another one, or within one -/
theorem zr_copy (Cx : zC E p s m args meth c own cc Ts nL) (hw : zH E ws s H locs) (hsz : ls.size = nL) {index : Nat} (hlink : Cond.methodLink own index arraycopyName ∈ Ts) (hnat : Cond.native arraycopyName ∈ Ts) (hstat : Cond.static arraycopyName ∈ Ts) (hini : Cond.initialized "java/lang/System" ∈ Ts)
    {a0 n0 n1 sp dp n : Nat} {f g : Nat → Option Nat} (he0 : (a0, zoa E n0 f) ∈ ws) (he1 : (a, zoa E n1 g) ∈ ws) (h4 : sp + n ≤ n0) (h5 : dp + n ≤ n1) (h6 : n0 < 1000) (h7 : n1 < 1000) (hel : ∀ i, i < n → ∀ y, f (sp + i) = some y → zV ws y)
    (hframes : 1 ≤ R.frames) (hlocals : (rest.map fun v => v.category).sum + (nativeFrameWords "java/lang/System" "arraycopy" 5 + 11) ≤ R.locals) (hdg : decode cc pc = .ok (.invokestatic index, 3))
    (kk : ∀ (H1 : Heap) (locs1 : List Loc), zH E (zset ws a (zoa E n1 (va_cpy f g sp dp n))) s H1 locs1 → W p l e R s m args below meth c H1 locs1 cells slots Q (F0 m (pc + 3) ls rest)) : W p l e R s m args below meth c H locs cells slots Q (F0 m pc ls (.int (nI n) :: .int (nI dp) :: .ref a :: .int (nI sp) :: .ref a0 :: rest)) := by
  obtain ⟨q0, hq0⟩ := List.getElem?_of_mem he0
  obtain ⟨q1, hq1⟩ := List.getElem?_of_mem he1
  have c1 : (nI n).toNatClampNeg = n := nI_clamp (by omega)
  have c2 : (nI sp).toNatClampNeg = sp := nI_clamp (by omega)
  have c3 : (nI dp).toNatClampNeg = dp := nI_clamp (by omega)
  refine va_copyM Cx.1.1 Cx.1.2.1 (Cx.1.2.2.1.trans hsz.symm) Cx.1.2.2.2.1 (Cx.1.2.2.2.2 _ hlink) (Cx.1.2.2.2.2 _ hnat) (Cx.1.2.2.2.2 _ hstat) (Cx.1.2.2.2.2 _ hini) Cx.2.1.1 hw.1.1 hw.1.2 hw.2 q0 q1 2 2 hq0 hq1 (E0 := "java/lang/Object") (E1 := "java/lang/Object") rfl rfl (nI_pos (by omega)) (nI_pos (by omega)) (nI_pos (by omega)) (by rw [c1, c2]; exact h4) (by rw [c1, c3]; exact h5) (fun i hi y hy => ?_) hframes hlocals hdg (fun H1 locs1 h1 h2 h3 => ?_)
  · rw [c1] at hi
    rw [c2] at hy
    exact zr_any Cx hw (hel i hi y hy)
  · rw [c1, c2, c3] at h1 h2
    exact kk H1 locs1 ⟨zP_set (D := eA E) hw.1.2 hq1 h1 h2, h3⟩
end
