/-! rows over the layer -/
theorem zQ_set {E : zG} {X Y YA : va_W} {C : zLs} {H H1 : Heap} {a k ci : Nat} {fs fs' : List Value} (hP : zP E ((X ++ Y) ++ YA) H) (hA : zA E (X ++ Y) YA C) (he : (a, Sum.inr (ci, fs)) ∈ Y) (hk : ((X ++ Y) ++ YA)[k]? = some (a, Sum.inr (ci, fs)))
    (h1 : va_P (eD E) vwCl (((X ++ Y) ++ YA).set k (a, Sum.inr (ci, fs'))) H1) (h2 : va_D (eA E) (((X ++ Y) ++ YA).set k (a, Sum.inr (ci, fs')))) : zQ E (X ++ zset Y a (Sum.inr (ci, fs'))) C H1 := by
  have e1 := zset_eq (e := Sum.inr (ci, fs')) hP.2 hk
  rw [e1] at h1 h2
  have hn := z_nodup hP.2
  rw [List.map_append, List.map_append] at hn
  obtain ⟨hn1, -, hn3⟩ := List.nodup_append.mp hn
  obtain ⟨-, -, hn2⟩ := List.nodup_append.mp hn1
  have hY : a ∈ Y.map (fun q => q.1) := List.mem_map.mpr ⟨_, he, rfl⟩
  have eX : zset X a (Sum.inr (ci, fs')) = X := zset_ne (fun q hq hqa => hn2 q.1 (List.mem_map.mpr ⟨q, hq, rfl⟩) a hY hqa)
  have eYA : zset YA a (Sum.inr (ci, fs')) = YA := zset_ne (fun q hq hqa => hn3 a (List.mem_append_right _ hY) q.1 (List.mem_map.mpr ⟨q, hq, rfl⟩) hqa.symm)
  rw [zset_app, zset_app, eX, eYA] at h1 h2
  refine ⟨YA, ⟨h1, h2⟩, hA.mono (fun y hy => ?_)⟩
  obtain ⟨cj, gs, hm, b1, b2⟩ := hy
  by_cases c : y = a
  · subst c
    have hu := hP.uniq (List.mem_append_left _ hm) (List.mem_of_getElem? hk)
    have hc : cj = ci := by
      have := Sum.inr.inj hu
      exact (Prod.mk.inj this).1
    exact ⟨ci, fs', List.mem_append_right _ (zset_self he), by rw [← hc]; exact b1, by rw [← hc]; exact b2⟩
  · rcases List.mem_append.mp hm with h | h
    · exact ⟨cj, gs, List.mem_append_left _ h, b1, b2⟩
    · exact ⟨cj, gs, List.mem_append_right _ (zset_old h c), b1, b2⟩
theorem zQ_new {E : zG} {X Y YA : va_W} {C : zLs} {H H1 : Heap} {q ci : Nat} {fs : List Value} (hA : zA E (X ++ Y) YA C)
    (h1 : va_P (eD E) vwCl (((X ++ Y) ++ YA) ++ [(q, Sum.inr (ci, fs))]) H1) (h2 : va_D (eA E) (((X ++ Y) ++ YA) ++ [(q, Sum.inr (ci, fs))])) : zQ E (X ++ (Y ++ [(q, Sum.inr (ci, fs))])) C H1 ∧ ∀ x ∈ X ++ Y, x.1 ≠ q := by
  have hP1 : zP E (((X ++ Y) ++ YA) ++ [(q, Sum.inr (ci, fs))]) H1 := ⟨h1, h2⟩
  refine ⟨⟨YA, hP1.perm ?_, hA.mono (fun y hy => ?_)⟩, fun x hx hxq => ?_⟩
  · simp only [List.append_assoc]
    exact List.Perm.append_left X (List.Perm.append_left Y List.perm_append_comm)
  · obtain ⟨cj, gs, hm, b1, b2⟩ := hy
    refine ⟨cj, gs, ?_, b1, b2⟩
    rcases List.mem_append.mp hm with h | h
    · exact List.mem_append_left _ h
    · exact List.mem_append_right _ (List.mem_append_left _ h)
  · have hn := z_nodup h2
    rw [List.map_append] at hn
    obtain ⟨-, -, hn3⟩ := List.nodup_append.mp hn
    exact hn3 x.1 (List.mem_map.mpr ⟨x, List.mem_append_left _ hx, rfl⟩) q (List.mem_map.mpr ⟨_, List.mem_singleton.mpr rfl, rfl⟩) hxq
/-- own objects that are no more spoken of -/
theorem zQ_drop {E : zG} {X Y : va_W} {C : zLs} {H : Heap} {x : Nat × va_E} (h : zQ E (X ++ (Y ++ [x])) C H) (hC : ∀ q es, C q = some es → ∀ y ∈ es, zV (X ++ Y) y) : zQ E (X ++ Y) C H := by
  obtain ⟨YA, hP, ow, hA⟩ := h
  refine ⟨YA, hP.drop ?_, ow, fun q es hq => ⟨fun y hy => hC q es hq y hy, (hA q es hq).2⟩⟩
  exact List.Sublist.append (List.Sublist.append (List.Sublist.refl X) (List.sublist_append_left Y [x])) (List.Sublist.refl YA)
theorem zQ.V {E : zG} {Z : va_W} {C : zLs} {H : Heap} (h : zQ E Z C H) : ∀ q es, C q = some es → ∀ y ∈ es, zV Z y := by
  obtain ⟨YA, hP, ow, hA⟩ := h
  exact fun q es hq => (hA q es hq).1
abbrev zR (d mc ms : Nat) : Room := { frames := d, cells := mc, slots := ms, locals := 40 * d }
abbrev zPre (E : zG) (av : List Value) (w : Heap → Prop) : Array Value → State → Prop := va_Pc av (zu E w)
/-- ends: an int, nothing, a cell; exactly that state -/
abbrev zRi (E : zG) (w : Heap → Prop) (v : Int32) : Array Value → State → Outcome → State → Prop := va_Qi (fun r (_ : Unit) => r = v) (fun _ t => w t.heap) (eA E)
abbrev zRv (E : zG) (w : Heap → Prop) : Array Value → State → Outcome → State → Prop := va_Qv (fun (_ : Unit) => True) (fun _ t => w t.heap) (eA E)
abbrev zRr (E : zG) (w : Heap → Prop) (y : Nat) : Array Value → State → Outcome → State → Prop := va_Qr (fun (_ : Unit) => True) (fun _ a t => a = y ∧ w t.heap) (eA E)
/-- a throw: the state as it was -/
def zX (E : zG) (w : Heap → Prop) (px : String → Prop) : String → State → State → Prop := vx_X (fun (_ : Unit) => True) (fun nm _ t => px nm ∧ w t.heap) (eA E)
section
variable {p : Program} {l : Launch} {e : Env} {R : Room} {s : State} {m : MethodId} {args : Array Value} {below : List Frame} {meth : Method} {c : Code} {H : Heap} {locs : List Loc} {cells slots : Nat} {Q : State → Prop}
variable {E : zG} {own : String} {cc : ByteArray} {Ts : List Cond} {nL pc : Nat} {ls : Array Slot} {rest st0 : List Value} {Z X Y : va_W} {C : zLs} {a : Nat}
theorem z_recv (Cx : zC E p s m args meth c own cc Ts nL) (hw : zHA E Z C s H locs) {ci : Nat} {fs : List Value} {r : vw_C} (he : (a, Sum.inr (ci, fs)) ∈ Z) (hc : vwCl[ci]? = some r) : ∃ cell : Cell, H[a]? = some cell ∧ cell.vm.isStatics = false ∧ s.vm.findClass r.1 = some cell.cls := by
  obtain ⟨⟨YA, ⟨hP, hD⟩, hA⟩, hS⟩ := hw
  obtain ⟨q0, hq0⟩ := List.getElem?_of_mem (List.mem_append_left YA he)
  exact va_recv Cx.2.1.1 hP hc hq0
theorem z_recvL (Cx : zC E p s m args meth c own cc Ts nL) (hw : zHA E Z C s H locs) {q : Nat} {es : List Nat} (hq : C q = some es) : ∃ cell : Cell, H[q]? = some cell ∧ cell.vm.isStatics = false ∧ s.vm.findClass RJx4a65c = some cell.cls := by
  obtain ⟨⟨YA, ⟨hP, hD⟩, ow, hA⟩, hS⟩ := hw
  obtain ⟨-, mc, a, he, -⟩ := hA q es hq
  obtain ⟨q0, hq0⟩ := List.getElem?_of_mem (List.mem_append_right Z he)
  exact va_recv (q := (RJx4a65c, TJx4a65c, 3)) Cx.2.1.1 hP rfl hq0
theorem z_get (Cx : zC E p s m args meth c own cc Ts nL) (hw : zHA E Z C s H locs) {Cn : String} {T : u_T} {N ci index : Nat} (hin : ∀ w ∈ u_ws Cn T N, w ∈ Ts) {fs : List Value} (he : (a, Sum.inr (ci, fs)) ∈ Z) (hc : vwCl[ci]? = some (Cn, T, N)) (k : Nat) (hk : k < N) (hlink : Cond.fieldLink own index Cn (T k).2.1 (T k).2.2.1 ∈ Ts) (hdecl : (T k).1 = Cn) {v : Value} (hv : fs[k]? = some v) (hdg : decode cc pc = .ok (.getfield index, 3))
    (kk : W p l e R s m args below meth c H locs cells slots Q (F0 m (pc + 3) ls (v :: rest))) : W p l e R s m args below meth c H locs cells slots Q (F0 m pc ls (.ref a :: rest)) := by
  obtain ⟨⟨hx, hb, hml, hown, hts⟩, ⟨hK, -⟩, -⟩ := Cx
  obtain ⟨⟨YA, ⟨hP, hD⟩, hA⟩, hS⟩ := hw
  obtain ⟨q0, hq0⟩ := List.getElem?_of_mem (List.mem_append_left YA he)
  exact va_get hx hb hts hin hown hK hP q0 hq0 hc k hk (hts _ hlink) (fun x h => by rw [hdecl] at h; exact h) hv hdg kk
theorem z_put (Cx : zC E p s m args meth c own cc Ts nL) (hw : zHA E (X ++ Y) C s H locs) {Cn : String} {T : u_T} {N ci index : Nat} (hin : ∀ w ∈ u_ws Cn T N, w ∈ Ts) (ty0 : Nat → FieldType) (hty : ∀ k, k < N → parseFieldDescriptor (T k).2.2.1 = some (ty0 k)) (hnm : ∀ a, a < N → ∀ b, b < N → a ≠ b → (T a).2.1 ≠ (T b).2.1) {fs : List Value} (he : (a, Sum.inr (ci, fs)) ∈ Y) (hc : vwCl[ci]? = some (Cn, T, N)) (k : Nat) (hk : k < N) (hlink : Cond.fieldLink own index Cn (T k).2.1 (T k).2.2.1 ∈ Ts) (hdecl : (T k).1 = Cn) (hfin : (T k).2.2.2 = false)
    {ty : FieldType} {v : Value} (hd : parseFieldDescriptor (T k).2.2.1 = some ty) (hn : narrow ty v = v) (hfit : fits ty v = true) (hl : k < fs.length) (hdg : decode cc pc = .ok (.putfield index, 3))
    (kk : ∀ (H1 : Heap) (locs1 : List Loc), zHA E (X ++ zset Y a (Sum.inr (ci, fs.set k v))) C s H1 locs1 → W p l e R s m args below meth c H1 locs1 cells slots Q (F0 m (pc + 3) ls rest)) : W p l e R s m args below meth c H locs cells slots Q (F0 m pc ls (v :: .ref a :: rest)) := by
  obtain ⟨⟨hx, hb, hml, hown, hts⟩, ⟨hK, -⟩, -⟩ := Cx
  obtain ⟨⟨YA, ⟨hP, hD⟩, hA⟩, hS⟩ := hw
  obtain ⟨q0, hq0⟩ := List.getElem?_of_mem (List.mem_append_left YA (List.mem_append_right X he))
  exact va_put hx hb hts hin ty0 hty hnm hown hK hP hD hS q0 hq0 hc k hk (hts _ hlink) (fun x h => by rw [hdecl] at h; exact h) hfin hd hn hfit hl hdg (fun H1 locs1 h1 h2 h3 => kk H1 locs1 ⟨zQ_set ⟨hP, hD⟩ hA he hq0 h1 h2, h3⟩)
/-- a final field, in its own constructor -/
theorem z_putF (Cx : zC E p s m args meth c own cc Ts nL) (hw : zHA E (X ++ Y) C s H locs) {Cn : String} {T : u_T} {N ci index : Nat} (hin : ∀ w ∈ u_ws Cn T N, w ∈ Ts) (ty0 : Nat → FieldType) (hty : ∀ k, k < N → parseFieldDescriptor (T k).2.2.1 = some (ty0 k)) (hnm : ∀ a, a < N → ∀ b, b < N → a ≠ b → (T a).2.1 ≠ (T b).2.1) {fs : List Value} (he : (a, Sum.inr (ci, fs)) ∈ Y) (hc : vwCl[ci]? = some (Cn, T, N)) (k : Nat) (hk : k < N) (hlink : Cond.fieldLink own index Cn (T k).2.1 (T k).2.2.1 ∈ Ts) (hdecl : (T k).1 = Cn) (hfin : (T k).2.2.2 = true) (hin2 : meth.name = "<init>") (hdecl2 : (T k).1 = own)
    {ty : FieldType} {v : Value} (hd : parseFieldDescriptor (T k).2.2.1 = some ty) (hn : narrow ty v = v) (hfit : fits ty v = true) (hl : k < fs.length) (hdg : decode cc pc = .ok (.putfield index, 3))
    (kk : ∀ (H1 : Heap) (locs1 : List Loc), zHA E (X ++ zset Y a (Sum.inr (ci, fs.set k v))) C s H1 locs1 → W p l e R s m args below meth c H1 locs1 cells slots Q (F0 m (pc + 3) ls rest)) : W p l e R s m args below meth c H locs cells slots Q (F0 m pc ls (v :: .ref a :: rest)) := by
  obtain ⟨⟨hx, hb, hml, hown, hts⟩, ⟨hK, -⟩, -⟩ := Cx
  obtain ⟨⟨YA, ⟨hP, hD⟩, hA⟩, hS⟩ := hw
  obtain ⟨q0, hq0⟩ := List.getElem?_of_mem (List.mem_append_left YA (List.mem_append_right X he))
  exact va_putF hx hb hts hin ty0 hty hnm hown hK hP hD hS q0 hq0 hc k hk (hts _ hlink) (fun x h => by rw [hdecl] at h; exact h) hfin hin2 hdecl2 hd hn hfit hl hdg (fun H1 locs1 h1 h2 h3 => kk H1 locs1 ⟨zQ_set ⟨hP, hD⟩ hA he hq0 h1 h2, h3⟩)
theorem z_new (Cx : zC E p s m args meth c own cc Ts nL) (hw : zHA E (X ++ Y) C s H locs) {Cn : String} {T : u_T} {N ci index : Nat} (hin : ∀ w ∈ u_ws Cn T N, w ∈ Ts) (ty : Nat → FieldType) (hty : ∀ k, k < N → parseFieldDescriptor (T k).2.2.1 = some (ty k)) (hcl : Cond.classLink own index Cn ∈ Ts) (hinst : Cond.instantiable Cn N ∈ Ts) (hini : Cond.initialized Cn ∈ Ts) (hc : vwCl[ci]? = some (Cn, T, N)) {fs : List Value} (hfs : ∀ j, j < N → defaultValue (ty j) = vp_V fs j) (hcells : cells + 1 ≤ R.cells) (hslots : slots + N ≤ R.slots) (hdg : decode cc pc = .ok (.new index, 3))
    (kk : ∀ (q : Nat) (H1 : Heap), (∀ x ∈ X ++ Y, x.1 ≠ q) → zHA E (X ++ (Y ++ [(q, Sum.inr (ci, fs))])) C s H1 locs → W p l e R s m args below meth c H1 locs (cells + 1) (slots + N) Q (F0 m (pc + 3) ls (.ref q :: rest))) : W p l e R s m args below meth c H locs cells slots Q (F0 m pc ls rest) := by
  obtain ⟨⟨hx, hb, hml, hown, hts⟩, ⟨hK, hA0, -⟩, -⟩ := Cx
  obtain ⟨⟨YA, ⟨hP, hD⟩, hA⟩, hS⟩ := hw
  exact va_new hx hb hts hin ty hty hown (hts _ hcl) (hts _ hinst) (hts _ hini) hK hP hD hS hA0 hc hfs hcells hslots hdg (fun q H1 h1 h2 h3 => kk q H1 (zQ_new (H := H) hA h1 h2).2 ⟨(zQ_new (H := H) hA h1 h2).1, h3⟩)
theorem z_cast (Cx : zC E p s m args meth c own cc Ts nL) (hw : zHA E Z C s H locs) {ci index : Nat} {fs : List Value} {r : vw_C} (he : (a, Sum.inr (ci, fs)) ∈ Z) (hc : vwCl[ci]? = some r) (hlink : Cond.classLink own index r.1 ∈ Ts) (hdg : decode cc pc = .ok (.checkcast index, 3))
    (k : W p l e R s m args below meth c H locs cells slots Q (F0 m (pc + 3) ls (.ref a :: rest))) : W p l e R s m args below meth c H locs cells slots Q (F0 m pc ls (.ref a :: rest)) := by
  have hr := z_recv Cx hw he hc
  obtain ⟨⟨hx, hb, hml, hown, hts⟩, -, -⟩ := Cx
  obtain ⟨cell, h1, h2, h3⟩ := hr
  intro T hT X
  obtain ⟨vm', X', st⟩ := X.checkcastYes hx hown (hts _ hlink) (by rw [hT]; exact h1) h2 h3 (Vm.assignable_self _ _) (g := F0 m pc ls (.ref a :: rest)) rfl rfl (by rw [hb]; exact hdg)
  obtain ⟨t, a1, b1⟩ := k (T.setVm vm') hT X'
  exact ⟨t, st t a1, b1⟩
/-! the calls -/
section
variable {w w0 w1 : Heap → Prop}
theorem z_blind {av : List Value} : FrameBlind (zPre E av w) := fun a U g mk h => ⟨h.1, zu.calling h.2⟩
theorem z_goi {S : Type} {post : Int32 → S → Prop} {wf : S → Heap → Prop} {mc ms : Nat} {av : Array Value} (hS : va_S (eA E) s.heap H locs) (hr : va_Run p l e R s m args below meth c H locs cells slots mc ms (F0 m pc ls st0) rest (va_Qi post (fun u t => wf u t.heap) (eA E) av) (eA E))
    (kk : ∀ (r : Int32) (u : S) (H1 : Heap) (locs1 : List Loc), post r u → zHw E (wf u) s H1 locs1 → W p l e R s m args below meth c H1 locs1 (cells + mc) (slots + ms) Q (F0 m (pc + 3) ls (.int r :: rest))) : W p l e R s m args below meth c H locs cells slots Q (F0 m pc ls st0) :=
  va_calli hr hS (fun _ _ h => h) (fun _ h => h) (fun r u t H1 locs1 ht _ hp hB _ _ hS1 => kk r u H1 locs1 hp ⟨by rw [← ht]; exact hB, hS1⟩)
theorem z_gov {S : Type} {post : S → Prop} {wf : S → Heap → Prop} {mc ms : Nat} {av : Array Value} (hS : va_S (eA E) s.heap H locs) (hr : va_Run p l e R s m args below meth c H locs cells slots mc ms (F0 m pc ls st0) rest (va_Qv post (fun u t => wf u t.heap) (eA E) av) (eA E))
    (kk : ∀ (u : S) (H1 : Heap) (locs1 : List Loc), post u → zHw E (wf u) s H1 locs1 → W p l e R s m args below meth c H1 locs1 (cells + mc) (slots + ms) Q (F0 m (pc + 3) ls rest)) : W p l e R s m args below meth c H locs cells slots Q (F0 m pc ls st0) :=
  va_callv hr hS (fun _ _ h => h) (fun _ h => h) (fun u t H1 locs1 ht _ hp hB _ _ hS1 => kk u H1 locs1 hp ⟨by rw [← ht]; exact hB, hS1⟩)
theorem z_gor {S : Type} {post : S → Prop} {pr : S → Nat → Prop} {wf : S → Heap → Prop} {mc ms : Nat} {av : Array Value} (hS : va_S (eA E) s.heap H locs) (hr : va_Run p l e R s m args below meth c H locs cells slots mc ms (F0 m pc ls st0) rest (va_Qr post (fun u a t => pr u a ∧ wf u t.heap) (eA E) av) (eA E))
    (kk : ∀ (u : S) (ra : Nat) (H1 : Heap) (locs1 : List Loc), post u → pr u ra → zHw E (wf u) s H1 locs1 → W p l e R s m args below meth c H1 locs1 (cells + mc) (slots + ms) Q (F0 m (pc + 3) ls (.ref ra :: rest))) : W p l e R s m args below meth c H locs cells slots Q (F0 m pc ls st0) :=
  va_callr hr hS (fun _ _ h => h) (fun _ h => h) (fun u ra t H1 locs1 ht _ hp hB _ _ hS1 => kk u ra H1 locs1 hp hB.1 ⟨by rw [← ht]; exact hB.2, hS1⟩)
section
variable {y : MethodName} {bytes : ByteArray} {maxL mc ms n index : Nat} {ret : Option FieldType} {ws : List Cond} {rm : Room} {Cn : String} {b : Addr} {As : List Value} {Qc : Array Value → State → Outcome → State → Prop} {XC : String → State → State → Prop}
theorem z_runV (Cx : zC E p s m args meth c own cc Ts nL) (hw : zHw E w s H locs) (hM : Met l y ws rm (zPre E (.ref b :: As) w) Qc mc ms (eA E)) (cw : CallW R s args own Cn index y bytes maxL ret ws rm mc ms n) (hrv : ∃ cell : Cell, H[b]? = some cell ∧ cell.vm.isStatics = false ∧ s.vm.findClass Cn = some cell.cls)
    (hn : As.length = n) (hsize : ls.size = nL) (hstack : st0 = As.reverse ++ .ref b :: rest) (hW : (rest.map fun v => v.category).sum ≤ 8) (hdg : decode cc pc = .ok (.invokevirtual index, 3)) (hf : cells + mc ≤ R.cells ∧ slots + ms ≤ R.slots) :
    va_Run p l e R s m args below meth c H locs cells slots mc ms (F0 m pc ls st0) rest (Qc (Value.ref b :: As).toArray) (eA E) :=
  va_runV Cx.1 hM cw ⟨z_blind, hrv, fun U hU hW => ⟨rfl, hw.u Cx.2.1 U hU hW⟩⟩ rfl hn hsize hstack (lv_room hW) hdg hf
theorem z_runS (Cx : zC E p s m args meth c own cc Ts nL) (hw : zHw E w s H locs) (hM : Met l y ws rm (zPre E As w) Qc mc ms (eA E)) (cw : CallB R s args own index y bytes maxL ret ws rm mc ms n ∧ (Cond.static y).before args s = true)
    (hn : As.length = n) (hsize : ls.size = nL) (hstack : st0 = As.reverse ++ rest) (hW : (rest.map fun v => v.category).sum ≤ 8) (hdg : decode cc pc = .ok (.invokestatic index, 3)) (hf : cells + mc ≤ R.cells ∧ slots + ms ≤ R.slots) :
    va_Run p l e R s m args below meth c H locs cells slots mc ms (F0 m pc ls st0) rest (Qc As.toArray) (eA E) :=
  va_runS Cx.1 hM cw ⟨z_blind, fun U hU hW => ⟨rfl, hw.u Cx.2.1 U hU hW⟩⟩ rfl hn hsize hstack (lv_room hW) hdg hf
theorem z_runI (Cx : zC E p s m args meth c own cc Ts nL) (hw : zHw E w s H locs) (hM : Met l y ws rm (zPre E (.ref b :: As) w) Qc mc ms (eA E)) (cw : CallB R s args own index y bytes maxL none ws rm mc ms n ∧ y.name = "<init>" ∧ (Cond.instanceMethod y).before args s = true)
    (hn : As.length = n) (hsize : ls.size = nL) (hstack : st0 = As.reverse ++ .ref b :: rest) (hW : (rest.map fun v => v.category).sum ≤ 8) (hdg : decode cc pc = .ok (.invokespecial index, 3)) (hf : cells + mc ≤ R.cells ∧ slots + ms ≤ R.slots) :
    va_Run p l e R s m args below meth c H locs cells slots mc ms (F0 m pc ls st0) rest (Qc (Value.ref b :: As).toArray) (eA E) :=
  va_runI Cx.1 hM cw ⟨z_blind, fun U hU hW => ⟨rfl, hw.u Cx.2.1 U hU hW⟩⟩ rfl hn hsize hstack (lv_room hW) hdg hf
theorem zx_runV (Cx : zC E p s m args meth c own cc Ts nL) (hw : zHw E w s H locs) (hM : vx_Met l y ws rm (zPre E (.ref b :: As) w) Qc XC mc ms (eA E)) (cw : CallW R s args own Cn index y bytes maxL ret ws rm mc ms n) (hrv : ∃ cell : Cell, H[b]? = some cell ∧ cell.vm.isStatics = false ∧ s.vm.findClass Cn = some cell.cls)
    (hn : As.length = n) (hsize : ls.size = nL) (hstack : st0 = As.reverse ++ .ref b :: rest) (hW : (rest.map fun v => v.category).sum ≤ 8) (hdg : decode cc pc = .ok (.invokevirtual index, 3)) (hf : cells + mc ≤ R.cells ∧ slots + ms ≤ R.slots) :
    vx_Run p l e R s m args below meth c H locs cells slots mc ms (F0 m pc ls st0) rest (Qc (Value.ref b :: As).toArray) XC (eA E) :=
  vx_runV Cx.1 hM cw ⟨z_blind, hrv, fun U hU hW => ⟨rfl, hw.u Cx.2.1 U hU hW⟩⟩ rfl hn hsize hstack (lv_room hW) hdg hf
theorem zx_runS (Cx : zC E p s m args meth c own cc Ts nL) (hw : zHw E w s H locs) (hM : vx_Met l y ws rm (zPre E As w) Qc XC mc ms (eA E)) (cw : CallB R s args own index y bytes maxL ret ws rm mc ms n ∧ (Cond.static y).before args s = true)
    (hn : As.length = n) (hsize : ls.size = nL) (hstack : st0 = As.reverse ++ rest) (hW : (rest.map fun v => v.category).sum ≤ 8) (hdg : decode cc pc = .ok (.invokestatic index, 3)) (hf : cells + mc ≤ R.cells ∧ slots + ms ≤ R.slots) :
    vx_Run p l e R s m args below meth c H locs cells slots mc ms (F0 m pc ls st0) rest (Qc As.toArray) XC (eA E) :=
  vx_runS Cx.1 hM cw ⟨z_blind, fun U hU hW => ⟨rfl, hw.u Cx.2.1 U hU hW⟩⟩ rfl hn hsize hstack (lv_room hW) hdg hf
end
/-- behind a throw: the state as it was, the class of what was thrown -/
def zT (p : Program) (l : Launch) (e : Env) (R : Room) (s : State) (m : MethodId) (args : Array Value) (below : List Frame) (meth : Method) (c : Code) (cells slots : Nat) (Q : State → Prop) (E : zG) (w : Heap → Prop) (px : String → Prop) (g : JFrame) : Prop :=
  ∀ (nm : String) (ce : Cell) (q9 : Addr) (H1 : Heap) (locs1 : List Loc), px nm → zHw E w s H1 locs1 → H1[q9]? = some ce → ce.vm = .none → s.vm.findClass nm = some ce.cls → vx_W p l e R s m args below meth c H1 locs1 cells slots Q g q9
theorem zx_goi {S : Type} {post : Int32 → S → Prop} {wf : S → Heap → Prop} {px : String → Prop} {mc ms : Nat} {av : Array Value} (hS : va_S (eA E) s.heap H locs) (hr : vx_Run p l e R s m args below meth c H locs cells slots mc ms (F0 m pc ls st0) rest (va_Qi post (fun u t => wf u t.heap) (eA E) av) (zX E w px) (eA E))
    (kx : zT p l e R s m args below meth c (cells + mc) (slots + ms) Q E w px (F0 m pc ls rest))
    (kk : ∀ (r : Int32) (u : S) (H1 : Heap) (locs1 : List Loc), post r u → zHw E (wf u) s H1 locs1 → W p l e R s m args below meth c H1 locs1 (cells + mc) (slots + ms) Q (F0 m (pc + 3) ls (.int r :: rest))) : W p l e R s m args below meth c H locs cells slots Q (F0 m pc ls st0) :=
  vx_calli hr hS (fun _ _ h => h) (fun _ h => h) (fun _ _ h => h) (fun nm ce q9 _ t H1 locs1 ht _ _ hB _ _ hS1 h1 h2 h3 => kx nm ce q9 H1 locs1 hB.1 ⟨by rw [← ht]; exact hB.2, hS1⟩ h1 h2 h3) (fun r u t H1 locs1 ht _ hp hB _ _ hS1 => kk r u H1 locs1 hp ⟨by rw [← ht]; exact hB, hS1⟩)
theorem zx_gov {S : Type} {post : S → Prop} {wf : S → Heap → Prop} {px : String → Prop} {mc ms : Nat} {av : Array Value} (hS : va_S (eA E) s.heap H locs) (hr : vx_Run p l e R s m args below meth c H locs cells slots mc ms (F0 m pc ls st0) rest (va_Qv post (fun u t => wf u t.heap) (eA E) av) (zX E w px) (eA E))
    (kx : zT p l e R s m args below meth c (cells + mc) (slots + ms) Q E w px (F0 m pc ls rest))
    (kk : ∀ (u : S) (H1 : Heap) (locs1 : List Loc), post u → zHw E (wf u) s H1 locs1 → W p l e R s m args below meth c H1 locs1 (cells + mc) (slots + ms) Q (F0 m (pc + 3) ls rest)) : W p l e R s m args below meth c H locs cells slots Q (F0 m pc ls st0) :=
  vx_callv hr hS (fun _ _ h => h) (fun _ h => h) (fun _ _ h => h) (fun nm ce q9 _ t H1 locs1 ht _ _ hB _ _ hS1 h1 h2 h3 => kx nm ce q9 H1 locs1 hB.1 ⟨by rw [← ht]; exact hB.2, hS1⟩ h1 h2 h3) (fun u t H1 locs1 ht _ hp hB _ _ hS1 => kk u H1 locs1 hp ⟨by rw [← ht]; exact hB, hS1⟩)
theorem zx_gor {S : Type} {post : S → Prop} {pr : S → Nat → Prop} {wf : S → Heap → Prop} {px : String → Prop} {mc ms : Nat} {av : Array Value} (hS : va_S (eA E) s.heap H locs) (hr : vx_Run p l e R s m args below meth c H locs cells slots mc ms (F0 m pc ls st0) rest (va_Qr post (fun u a t => pr u a ∧ wf u t.heap) (eA E) av) (zX E w px) (eA E))
    (kx : zT p l e R s m args below meth c (cells + mc) (slots + ms) Q E w px (F0 m pc ls rest))
    (kk : ∀ (u : S) (ra : Nat) (H1 : Heap) (locs1 : List Loc), post u → pr u ra → zHw E (wf u) s H1 locs1 → W p l e R s m args below meth c H1 locs1 (cells + mc) (slots + ms) Q (F0 m (pc + 3) ls (.ref ra :: rest))) : W p l e R s m args below meth c H locs cells slots Q (F0 m pc ls st0) := by
  intro T hT X
  rcases hr T hT X with ⟨v, st₀, t, T', L, h0, X', hL, e1, e2, ⟨⟨u, ra, hv, hp, hpr, hb⟩, hF⟩, st⟩ | ⟨q, st₀, t, T', L, nm, ce, h0, X', hL, e1, e2, ⟨u, hp, hb, hF⟩, hce, hcv, hcl, st⟩
  · cases hv
    obtain ⟨k1, k2, k3⟩ := vx_keep h0 e1 hS (fun _ _ h => h) (fun _ h => h) hL hF
    obtain ⟨t2, a1, b1⟩ := kk u ra T'.heap (locs ++ L) hp hpr ⟨by rw [e1]; exact hb, k3⟩ T' rfl X'
    exact ⟨t2, st t2 a1, b1⟩
  · obtain ⟨k1, k2, k3⟩ := vx_keep h0 e1 hS (fun _ _ h => h) (fun _ h => h) hL hF
    obtain ⟨t2, a1, b1⟩ := kx nm ce q T'.heap (locs ++ L) hb.1 ⟨by rw [e1]; exact hb.2, k3⟩ (by rw [e1]; exact hce) hcv hcl T' rfl X'
    exact ⟨t2, st.trans a1, b1⟩
/-! the ends -/
theorem z_iret {S : Type} {post : Int32 → S → Prop} {wf : S → Heap → Prop} {mc ms : Nat} {v : Int32} (Cx : zC E p s m args meth c own cc Ts nL) {ty : FieldType} (hr : meth.sig.returnType = some ty) (hn : narrow ty (.int v) = .int v) (hc : cells ≤ mc) (hs : slots ≤ ms) (u : S) (hw : zHw E (wf u) s H locs) (hp : post v u) (hdg : decode cc pc = .ok (.ireturn, 1)) :
    W p l e R s m args below meth c H locs cells slots (MQ below (va_Qi post (fun u t => wf u t.heap) (eA E)) args s mc ms (eA E)) (F0 m pc ls [.int v]) := by
  refine W.widen hc hs ?_
  exact W.zret Cx.1.1 Cx.1.2.1 hr hn (fun t ht _ => ⟨⟨v, u, rfl, hp, show wf u t.heap by rw [ht]; exact hw.1⟩, hw.2.F ht⟩) hw.2.2.2 hdg Cx.2.2
theorem z_vret {S : Type} {post : S → Prop} {wf : S → Heap → Prop} {mc ms : Nat} (Cx : zC E p s m args meth c own cc Ts nL) (hr : meth.sig.returnType = none) (hc : cells ≤ mc) (hs : slots ≤ ms) (u : S) (hw : zHw E (wf u) s H locs) (hp : post u) (hdg : decode cc pc = .ok (.return_, 1)) :
    W p l e R s m args below meth c H locs cells slots (MQ below (va_Qv post (fun u t => wf u t.heap) (eA E)) args s mc ms (eA E)) (F0 m pc ls []) := by
  refine W.widen hc hs ?_
  exact W.vret Cx.1.1 Cx.1.2.1 hr (fun t ht _ => ⟨⟨u, rfl, hp, show wf u t.heap by rw [ht]; exact hw.1⟩, hw.2.F ht⟩) hw.2.2.2 hdg Cx.2.2
theorem z_aret {S : Type} {post : S → Prop} {pr : S → Nat → Prop} {wf : S → Heap → Prop} {mc ms : Nat} (Cx : zC E p s m args meth c own cc Ts nL) {rt : FieldType} (hr : meth.sig.returnType = some rt) (hrt : (∃ n, rt = .object n) ∨ ∃ t, rt = .array t) (hc : cells ≤ mc) (hs : slots ≤ ms) (u : S) (hw : zHw E (wf u) s H locs) (hp : post u) (hpr : pr u a) (hdg : decode cc pc = .ok (.areturn, 1)) :
    W p l e R s m args below meth c H locs cells slots (MQ below (va_Qr post (fun u a t => pr u a ∧ wf u t.heap) (eA E)) args s mc ms (eA E)) (F0 m pc ls [.ref a]) := by
  refine W.widen hc hs ?_
  exact W.aret Cx.1.1 Cx.1.2.1 hr hrt (Or.inr ⟨_, rfl⟩) (fun t ht _ => ⟨⟨u, a, rfl, hp, hpr, show wf u t.heap by rw [ht]; exact hw.1⟩, hw.2.F ht⟩) hw.2.2.2 hdg Cx.2.2
/-- what is thrown in a call leaves this method too -/
theorem z_out {mc ms : Nat} {Qc : Array Value → State → Outcome → State → Prop} {px px1 : String → Prop} (Cx : zC E p s m args meth c own cc Ts nL) (ht : ∀ x ∈ c.exceptionTable.toList, False) (hc : cells ≤ mc) (hs : slots ≤ ms) (hpx : ∀ nm, px1 nm → px nm) (hz : ∀ H1, w1 H1 → w0 H1) :
    zT p l e R s m args below meth c cells slots (vx_MQ below Qc (zX E w0 px) args s mc ms (eA E)) E w1 px1 (F0 m pc ls rest) := by
  intro nm ce q9 H1 locs1 hp hw h1 h2 h3
  exact vx_out (fun x hx => (ht x hx).elim) Cx.2.2 h1 h2 h3 (fun t e1 _ => ⟨(), trivial, ⟨hpx nm hp, by rw [e1]; exact hz H1 hw.1⟩, hw.2.F e1⟩) hw.2.2.2 hc hs
end
end
