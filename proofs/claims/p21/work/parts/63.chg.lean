/-! how a change of the cells is a change of the value -/
section
variable {α : Type} {P P' : Nat → α → Prop} {as : List Nat} {vs : List α}
theorem zls.push (h : zls P as vs) {a : Nat} {v : α} (ha : P a v) : zls P (as ++ [a]) (vs ++ [v]) := by
  refine ⟨by rw [List.length_append, List.length_append, h.1]; rfl, fun i b w h1 h2 => ?_⟩
  rcases Nat.lt_trichotomy i as.length with hi | hi | hi
  · rw [List.getElem?_append_left hi] at h1
    rw [List.getElem?_append_left (by rw [← h.1]; exact hi)] at h2
    exact h.2 i b w h1 h2
  · rw [hi, List.getElem?_append_right (Nat.le_refl _), Nat.sub_self] at h1
    rw [hi, h.1, List.getElem?_append_right (Nat.le_refl _), Nat.sub_self] at h2
    cases h1
    cases h2
    exact ha
  · have h3 : (as ++ [a])[i]? = none := List.getElem?_eq_none (by rw [List.length_append]; exact hi)
    rw [h3] at h1
    cases h1
theorem zls.ins (h : zls P as vs) {i a : Nat} {v : α} (hi : i ≤ as.length) (ha : P a v) : zls P (as.insertIdx i a) (vs.insertIdx i v) := by
  have hi2 : i ≤ vs.length := by rw [← h.1]; exact hi
  refine ⟨by rw [List.length_insertIdx_of_le_length hi, List.length_insertIdx_of_le_length hi2, h.1], fun j b w h1 h2 => ?_⟩
  rw [List.getElem?_insertIdx] at h1 h2
  by_cases c1 : j < i
  · rw [if_pos c1] at h1 h2
    exact h.2 j b w h1 h2
  · rw [if_neg c1] at h1 h2
    by_cases c2 : j = i
    · rw [if_pos c2, if_pos (by omega)] at h1 h2
      cases h1
      cases h2
      exact ha
    · rw [if_neg c2] at h1 h2
      exact h.2 _ b w h1 h2
theorem zls.era (h : zls P as vs) (i : Nat) : zls P (as.eraseIdx i) (vs.eraseIdx i) := by
  refine ⟨by rw [List.length_eraseIdx, List.length_eraseIdx, h.1], fun j b w h1 h2 => ?_⟩
  rw [List.getElem?_eraseIdx] at h1 h2
  by_cases c1 : j < i
  · rw [if_pos c1] at h1 h2
    exact h.2 j b w h1 h2
  · rw [if_neg c1] at h1 h2
    exact h.2 _ b w h1 h2
theorem zls.setv (h : zls P as vs) (hn : as.Nodup) {i a : Nat} {v' : α} (hi : as[i]? = some a) (ho : ∀ b w, b ≠ a → P b w → P' b w) (ha : P' a v') : zls P' as (vs.set i v') := by
  refine ⟨by rw [List.length_set, h.1], fun j b w h1 h2 => ?_⟩
  rw [List.getElem?_set] at h2
  by_cases c1 : i = j
  · subst c1
    rw [if_pos rfl, if_pos (by rw [← h.1]; exact (List.getElem?_eq_some_iff.mp hi).1)] at h2
    rw [hi] at h1
    cases h1
    cases h2
    exact ha
  · rw [if_neg c1] at h2
    refine ho b w (fun e => c1 ?_) (h.2 j b w h1 h2)
    subst e
    exact (z_nd hn hi h1).mp rfl
theorem zls.nil : zls P [] [] := ⟨rfl, fun i a v h _ => by simp at h⟩
end
theorem zset_mem {Y : va_W} {a : Nat} {e : va_E} {q : Nat × va_E} (h : q ∈ Y) (hn : q.1 ≠ a) : q ∈ zset Y a e := List.mem_map.mpr ⟨q, h, if_neg hn⟩
section
variable {Y Y' : va_W} {C C' : zLs} {ns ns' ss ss' : List Nat} {ro ro' : Nat → Nat × Nat} {rw rw' : Nat → Nat} {a q : Nat} {o : Option (List Nat)}
theorem zsb.up {v : zSb} (h : zsb Y C ns ro rw a v) (h1 : ro q ≠ (1, a)) (h2 : ro q ≠ (2, a)) : zsb Y (va_up C q o) ns ro rw a v := by
  obtain ⟨nw, bk, rl, rt, es, fs, k1, k2, k3, ⟨k4, k5⟩, ⟨k6, k7⟩, k8, k9, k10⟩ := h
  have e1 : rl ≠ q := fun e => h1 (by rw [← e]; exact k8)
  have e2 : rt ≠ q := fun e => h2 (by rw [← e]; exact k9)
  exact ⟨nw, bk, rl, rt, es, fs, k1, k2, k3, ⟨by rw [va_up_ne _ _ e1]; exact k4, k5⟩, ⟨by rw [va_up_ne _ _ e2]; exact k6, k7⟩, k8, k9, k10⟩
theorem zgo.up {v : List zRl} (h : zgo Y C ro a v) (h1 : ro q ≠ (3, a)) : zgo Y (va_up C q o) ro a v := by
  obtain ⟨r, es, k1, k2, k3, k4, k5⟩ := h
  have e1 : r ≠ q := fun e => h1 (by rw [← e]; exact k5)
  exact ⟨r, es, k1, by rw [va_up_ne _ _ e1]; exact k2, k3, k4, k5⟩
theorem zsb.more {v : zSb} (h : zsb Y C ns ro rw a v) (hY : ∀ q ∈ Y, q ∈ Y') (hC : ∀ q es, C q = some es → C' q = some es) (hn : ∀ i n : Nat, ns[i]? = some n → ns'[i]? = some n) (hro : ∀ q es, C q = some es → ro' q = ro q) (hrw : ∀ r e, (r, e) ∈ Y → rw' r = rw r) : zsb Y' C' ns' ro' rw' a v := by
  obtain ⟨nw, bk, rl, rt, es, fs, k1, k2, k3, ⟨k4, k5, k6⟩, ⟨k7, k8, k9⟩, k10, k11, k12⟩ := h
  refine ⟨nw, bk, rl, rt, es, fs, hY _ k1, hn _ _ k2, hY _ k3, ⟨hC _ _ k4, k5.imp (fun _ _ h => h.grow hY), k6⟩, ⟨hC _ _ k7, k8.imp (fun _ _ h => h.grow hY), k9⟩, (hro _ _ k4).trans k10, (hro _ _ k7).trans k11, fun r hr => ?_⟩
  obtain ⟨i, hi⟩ := List.getElem?_of_mem hr
  obtain ⟨w, -, b, h1, -⟩ := k8.get hi
  exact (hrw r _ h1).trans (k12 r hr)
theorem zgo.more {v : List zRl} (h : zgo Y C ro a v) (hY : ∀ q ∈ Y, q ∈ Y') (hC : ∀ q es, C q = some es → C' q = some es) (hro : ∀ q es, C q = some es → ro' q = ro q) : zgo Y' C' ro' a v := by
  obtain ⟨r, es, k1, k2, k3, k4, k5⟩ := h
  exact ⟨r, es, hY _ k1, hC _ _ k2, k3.imp (fun _ _ h => h.grow hY), k4, (hro _ _ k2).trans k5⟩
theorem zho.more {v : zHo} (h : zho Y ss a v) (hY : ∀ q ∈ Y, q ∈ Y') (hn : ∀ i n : Nat, ss[i]? = some n → ss'[i]? = some n) : zho Y' ss' a v := by
  obtain ⟨sb, h1, h2⟩ := h
  exact ⟨sb, hY _ h1, hn _ _ h2⟩
theorem zpr.more {v : Nat × Nat} (h : zpr Y ns a v) (hY : ∀ q ∈ Y, q ∈ Y') (hn : ∀ i n : Nat, ns[i]? = some n → ns'[i]? = some n) : zpr Y' ns' a v := by
  obtain ⟨o1, o2, h1, h2, h3⟩ := h
  exact ⟨o1, o2, hY _ h1, hn _ _ h2, hn _ _ h3⟩
end
theorem z_app {l : List Nat} {y i n : Nat} (h : l[i]? = some n) : (l ++ [y])[i]? = some n := by
  rw [List.getElem?_append_left (List.getElem?_eq_some_iff.mp h).1]
  exact h
theorem z_ndp {l : List Nat} {y : Nat} (h : l.Nodup) (hy : ∀ a ∈ l, a ≠ y) : (l ++ [y]).Nodup := by
  rw [List.nodup_append]
  refine ⟨h, by simp, fun a ha b hb => ?_⟩
  rw [List.mem_singleton.mp hb]
  exact hy a ha
theorem z_r1 {a b c d : Nat} (h : a ≠ c) : (a, b) ≠ (c, d) := fun e => h (congrArg Prod.fst e)
theorem z_r2 {a b c d : Nat} (h : b ≠ d) : (a, b) ≠ (c, d) := fun e => h (congrArg Prod.snd e)
section
variable {Y : va_W} {C : zLs} {x : Nat} {V : zCl} {q0 q1 q2 q3 q4 : Nat} {ns ss hs ps gs : List Nat} {ro : Nat → Nat × Nat} {rw : Nat → Nat}
/-- roles keep the five lists apart -/
theorem z_rne {q r : Nat} {u v : Nat × Nat} (hq : ro q = u) (hr : ro r = v) (h : u ≠ v) : q ≠ r := fun e => h (by rw [← hq, ← hr, e])
theorem zRCb.addN (h : zRCb Y C x V q0 q1 q2 q3 q4 ns ss hs ps gs ro rw) {q : Nat} (hfr : ∀ x ∈ Y, x.1 ≠ q) (b k : Int32) (hn : ns.length < 4) : zRC (Y ++ [(q, Sum.inr (3, [.int b, .int k]))]) (va_up C q0 (some (ns ++ [q]))) x (vN V ++ [(b, k)], V.2) := by
  have hel := h.nel
  obtain ⟨h0, ⟨c0, c1, c2, c3, c4⟩, ⟨z0, z1, z2, z3, z4⟩, ⟨n0, n1, n2, n4⟩, ⟨r0, r1, r2, r3, r4⟩, l0, l1, l2, l3, l4⟩ := h
  have hY : ∀ p ∈ Y, p ∈ Y ++ [(q, (Sum.inr (3, [.int b, .int k]) : va_E))] := fun p hp => List.mem_append_left _ hp
  have hap : ∀ i n : Nat, ns[i]? = some n → (ns ++ [q])[i]? = some n := fun i n h => z_app h
  refine ⟨q0, q1, q2, q3, q4, ns ++ [q], ss, hs, ps, gs, ro, rw, hY _ h0, ⟨va_up_self _ _ _, (va_up_ne _ _ (z_rne r1 r0 (z_r2 (by decide)))).trans c1, (va_up_ne _ _ (z_rne r2 r0 (z_r2 (by decide)))).trans c2, (va_up_ne _ _ (z_rne r3 r0 (z_r2 (by decide)))).trans c3, (va_up_ne _ _ (z_rne r4 r0 (z_r2 (by decide)))).trans c4⟩, ⟨?_, ?_, ?_, ?_, ?_⟩, ⟨?_, n1, n2, n4⟩, ⟨r0, r1, r2, r3, r4⟩, ?_, l1, l2, l3, l4⟩
  · exact (z0.imp (fun _ _ h => hY _ h)).push (List.mem_append_right _ List.mem_cons_self)
  · exact z1.imp (fun a v h => zsb.up (h.more hY (fun _ _ h => h) hap (fun _ _ _ => rfl) (fun _ _ _ => rfl)) (by rw [r0]; exact z_r1 (by decide)) (by rw [r0]; exact z_r1 (by decide)))
  · exact z2.imp (fun a v h => h.grow hY)
  · exact z3.imp (fun a v h => h.more hY hap)
  · exact z4.imp (fun a v h => zgo.up (h.grow hY) (by rw [r0]; exact z_r1 (by decide)))
  · exact z_ndp n0 (fun a ha => by obtain ⟨fs, hf⟩ := hel a ha; exact hfr _ hf)
  · rw [List.length_append]; exact hn
theorem zRCb.addH (h : zRCb Y C x V q0 q1 q2 q3 q4 ns ss hs ps gs ro rw) {q s sb : Nat} (hfr : ∀ x ∈ Y, x.1 ≠ q) (ad : Int32) (hsb : ss[s]? = some sb) (hn : hs.length < 12) : zRC (Y ++ [(q, Sum.inr (5, [.ref sb, .int ad, .int 0]))]) (va_up C q2 (some (hs ++ [q]))) x (vN V, vS V, vH V ++ [(s, ad, 0)], vP V, vG V) := by
  have hel := h.hel
  obtain ⟨h0, ⟨c0, c1, c2, c3, c4⟩, ⟨z0, z1, z2, z3, z4⟩, ⟨n0, n1, n2, n4⟩, ⟨r0, r1, r2, r3, r4⟩, l0, l1, l2, l3, l4⟩ := h
  have hY : ∀ p ∈ Y, p ∈ Y ++ [(q, (Sum.inr (5, [.ref sb, .int ad, .int 0]) : va_E))] := fun p hp => List.mem_append_left _ hp
  refine ⟨q0, q1, q2, q3, q4, ns, ss, hs ++ [q], ps, gs, ro, rw, hY _ h0, ⟨(va_up_ne _ _ (z_rne r0 r2 (z_r2 (by decide)))).trans c0, (va_up_ne _ _ (z_rne r1 r2 (z_r2 (by decide)))).trans c1, va_up_self _ _ _, (va_up_ne _ _ (z_rne r3 r2 (z_r2 (by decide)))).trans c3, (va_up_ne _ _ (z_rne r4 r2 (z_r2 (by decide)))).trans c4⟩, ⟨?_, ?_, ?_, ?_, ?_⟩, ⟨n0, n1, ?_, n4⟩, ⟨r0, r1, r2, r3, r4⟩, l0, l1, ?_, l3, l4⟩
  · exact z0.imp (fun _ _ h => hY _ h)
  · exact z1.imp (fun a v h => zsb.up (h.grow hY) (by rw [r2]; exact z_r1 (by decide)) (by rw [r2]; exact z_r1 (by decide)))
  · exact (z2.imp (fun a v h => h.grow hY)).push ⟨sb, List.mem_append_right _ List.mem_cons_self, hsb⟩
  · exact z3.imp (fun a v h => h.grow hY)
  · exact z4.imp (fun a v h => zgo.up (h.grow hY) (by rw [r2]; exact z_r1 (by decide)))
  · exact z_ndp n2 (fun a ha => by obtain ⟨fs, hf⟩ := hel a ha; exact hfr _ hf)
  · rw [List.length_append]; exact hn
theorem zRCb.addP (h : zRCb Y C x V q0 q1 q2 q3 q4 ns ss hs ps gs ro rw) {q i j o1 o2 : Nat} (h1 : ns[i]? = some o1) (h2 : ns[j]? = some o2) (hn : ps.length < 6) : zRC (Y ++ [(q, Sum.inr (6, [.ref o1, .ref o2]))]) (va_up C q3 (some (ps ++ [q]))) x (vN V, vS V, vH V, vP V ++ [(i, j)], vG V) := by
  obtain ⟨h0, ⟨c0, c1, c2, c3, c4⟩, ⟨z0, z1, z2, z3, z4⟩, ⟨n0, n1, n2, n4⟩, ⟨r0, r1, r2, r3, r4⟩, l0, l1, l2, l3, l4⟩ := h
  have hY : ∀ p ∈ Y, p ∈ Y ++ [(q, (Sum.inr (6, [.ref o1, .ref o2]) : va_E))] := fun p hp => List.mem_append_left _ hp
  refine ⟨q0, q1, q2, q3, q4, ns, ss, hs, ps ++ [q], gs, ro, rw, hY _ h0, ⟨(va_up_ne _ _ (z_rne r0 r3 (z_r2 (by decide)))).trans c0, (va_up_ne _ _ (z_rne r1 r3 (z_r2 (by decide)))).trans c1, (va_up_ne _ _ (z_rne r2 r3 (z_r2 (by decide)))).trans c2, va_up_self _ _ _, (va_up_ne _ _ (z_rne r4 r3 (z_r2 (by decide)))).trans c4⟩, ⟨?_, ?_, ?_, ?_, ?_⟩, ⟨n0, n1, n2, n4⟩, ⟨r0, r1, r2, r3, r4⟩, l0, l1, l2, ?_, l4⟩
  · exact z0.imp (fun _ _ h => hY _ h)
  · exact z1.imp (fun a v h => zsb.up (h.grow hY) (by rw [r3]; exact z_r1 (by decide)) (by rw [r3]; exact z_r1 (by decide)))
  · exact z2.imp (fun a v h => h.grow hY)
  · exact (z3.imp (fun a v h => h.grow hY)).push ⟨o1, o2, List.mem_append_right _ List.mem_cons_self, h1, h2⟩
  · exact z4.imp (fun a v h => zgo.up (h.grow hY) (by rw [r3]; exact z_r1 (by decide)))
  · rw [List.length_append]; exact hn
end
/-- a function anew at one place -/
theorem z_upro {C : zLs} {q : Nat} {u : Nat × Nat} {ro : Nat → Nat × Nat} (hq : C q = none) : ∀ (r : Nat) (es : List Nat), C r = some es → va_up ro q u r = ro r := fun r es h => va_up_ne _ _ (fun e => by rw [e, hq] at h; cases h)
theorem z_upC {C : zLs} {q : Nat} {o : Option (List Nat)} (hq : C q = none) : ∀ (r : Nat) (es : List Nat), C r = some es → va_up C q o r = some es := fun r es h => (va_up_ne _ _ (fun e => by rw [e, hq] at h; cases h)).trans h
section
variable {Y : va_W} {C : zLs} {x : Nat} {V : zCl} {q0 q1 q2 q3 q4 : Nat} {ns ss hs ps gs : List Nat} {ro : Nat → Nat × Nat} {rw : Nat → Nat}
theorem zRCb.addG (h : zRCb Y C x V q0 q1 q2 q3 q4 ns ss hs ps gs ro rw) {q g : Nat} (hq : C q = none) (hfr : ∀ x ∈ Y, x.1 ≠ g) (hn : gs.length < 6) : zRC (Y ++ [(g, Sum.inr (4, [.ref q]))]) (va_up (va_up C q (some [])) q4 (some (gs ++ [g]))) x (vN V, vS V, vH V, vP V, vG V ++ [[]]) := by
  have hel := h.gel
  obtain ⟨h0, ⟨c0, c1, c2, c3, c4⟩, ⟨z0, z1, z2, z3, z4⟩, ⟨n0, n1, n2, n4⟩, ⟨r0, r1, r2, r3, r4⟩, l0, l1, l2, l3, l4⟩ := h
  have hY : ∀ p ∈ Y, p ∈ Y ++ [(g, (Sum.inr (4, [.ref q]) : va_E))] := fun p hp => List.mem_append_left _ hp
  have hC := z_upC (o := some []) hq
  have hro := z_upro (u := (3, g)) (ro := ro) hq
  have s4 : va_up ro q (3, g) q4 = (0, 4) := (hro _ _ c4).trans r4
  have hne : q ≠ q4 := fun e => by rw [e, c4] at hq; cases hq
  have hga : ∀ a ∈ gs, a ≠ g := fun a ha => by obtain ⟨fs, hf⟩ := hel a ha; exact hfr _ hf
  refine ⟨q0, q1, q2, q3, q4, ns, ss, hs, ps, gs ++ [g], va_up ro q (3, g), rw, hY _ h0, ⟨(va_up_ne _ _ (z_rne r0 r4 (z_r2 (by decide)))).trans (hC _ _ c0), (va_up_ne _ _ (z_rne r1 r4 (z_r2 (by decide)))).trans (hC _ _ c1), (va_up_ne _ _ (z_rne r2 r4 (z_r2 (by decide)))).trans (hC _ _ c2), (va_up_ne _ _ (z_rne r3 r4 (z_r2 (by decide)))).trans (hC _ _ c3), va_up_self _ _ _⟩, ⟨?_, ?_, ?_, ?_, ?_⟩, ⟨n0, n1, n2, ?_⟩, ⟨(hro _ _ c0).trans r0, (hro _ _ c1).trans r1, (hro _ _ c2).trans r2, (hro _ _ c3).trans r3, s4⟩, l0, l1, l2, l3, ?_⟩
  · exact z0.imp (fun _ _ h => hY _ h)
  · exact z1.imp (fun a v h => zsb.up (h.more hY hC (fun _ _ h => h) hro (fun _ _ _ => rfl)) (by rw [s4]; exact z_r1 (by decide)) (by rw [s4]; exact z_r1 (by decide)))
  · exact z2.imp (fun a v h => h.grow hY)
  · exact z3.imp (fun a v h => h.grow hY)
  · refine zls.push (z4.imp (fun a v h => zgo.up (h.more hY hC hro) (by rw [s4]; exact z_r1 (by decide)))) ⟨q, [], List.mem_append_right _ List.mem_cons_self, ?_, zls.nil, Nat.zero_le _, va_up_self _ _ _⟩
    rw [va_up_ne _ _ hne, va_up_self]
  · exact z_ndp n4 hga
  · rw [List.length_append]; exact hn
theorem zRCb.addS (h : zRCb Y C x V q0 q1 q2 q3 q4 ns ss hs ps gs ro rw) {q a k nw bk rl rt : Nat} {b z : Int32} (hl : C rl = none) (ht : va_up C rl (some []) rt = none) (hfa : ∀ x ∈ Y, x.1 ≠ a) (hbk : (bk, Sum.inr (3, [.int b, .int z])) ∈ Y) (hnw : ns[k]? = some nw) (hn : ss.length < 8) : zRC (Y ++ [(a, Sum.inr (9, [.ref nw, .ref bk, .ref rl, .ref rt]))]) (va_up (va_up (va_up C rl (some [])) rt (some [])) q1 (some (ss ++ [a]))) x (vN V, vS V ++ [(k, (b, z), [], [])], V.2.2) := by
  have hel := h.sel
  obtain ⟨h0, ⟨c0, c1, c2, c3, c4⟩, ⟨z0, z1, z2, z3, z4⟩, ⟨n0, n1, n2, n4⟩, ⟨r0, r1, r2, r3, r4⟩, l0, l1, l2, l3, l4⟩ := h
  have hY : ∀ p ∈ Y, p ∈ Y ++ [(a, (Sum.inr (9, [.ref nw, .ref bk, .ref rl, .ref rt]) : va_E))] := fun p hp => List.mem_append_left _ hp
  have hC1 := z_upC (o := some []) hl
  have hC : ∀ q es, C q = some es → va_up (va_up C rl (some [])) rt (some []) q = some es := fun q es h => z_upC (o := some []) ht _ _ (hC1 _ _ h)
  have hro : ∀ q es, C q = some es → va_up (va_up ro rl (1, a)) rt (2, a) q = ro q := fun q es h => (z_upro (ro := va_up ro rl (1, a)) ht q es (hC1 _ _ h)).trans (z_upro hl q es h)
  have hlt : rl ≠ rt := fun e => by rw [e, va_up_self] at ht; cases ht
  have hl1 : rl ≠ q1 := fun e => by rw [e, c1] at hl; cases hl
  have ht1 : rt ≠ q1 := fun e => by rw [e, hC1 _ _ c1] at ht; cases ht
  have s1 : va_up (va_up ro rl (1, a)) rt (2, a) q1 = (0, 1) := (hro _ _ c1).trans r1
  have hsa : ∀ y ∈ ss, y ≠ a := fun y hy => by obtain ⟨fs, hf⟩ := hel y hy; exact hfa _ hf
  refine ⟨q0, q1, q2, q3, q4, ns, ss ++ [a], hs, ps, gs, va_up (va_up ro rl (1, a)) rt (2, a), rw, hY _ h0, ⟨(va_up_ne _ _ (z_rne r0 r1 (z_r2 (by decide)))).trans (hC _ _ c0), va_up_self _ _ _, (va_up_ne _ _ (z_rne r2 r1 (z_r2 (by decide)))).trans (hC _ _ c2), (va_up_ne _ _ (z_rne r3 r1 (z_r2 (by decide)))).trans (hC _ _ c3), (va_up_ne _ _ (z_rne r4 r1 (z_r2 (by decide)))).trans (hC _ _ c4)⟩, ⟨?_, ?_, ?_, ?_, ?_⟩, ⟨n0, ?_, n2, n4⟩, ⟨(hro _ _ c0).trans r0, s1, (hro _ _ c2).trans r2, (hro _ _ c3).trans r3, (hro _ _ c4).trans r4⟩, l0, ?_, l2, l3, l4⟩
  · exact z0.imp (fun _ _ h => hY _ h)
  · refine zls.push (z1.imp (fun a v h => zsb.up (h.more hY hC (fun _ _ h => h) hro (fun _ _ _ => rfl)) (by rw [s1]; exact z_r1 (by decide)) (by rw [s1]; exact z_r1 (by decide)))) ⟨nw, bk, rl, rt, [], [], List.mem_append_right _ List.mem_cons_self, hnw, hY _ hbk, ⟨?_, zls.nil, List.nodup_nil, Nat.zero_le _⟩, ⟨?_, zls.nil, List.nodup_nil, Nat.zero_le _⟩, ?_, va_up_self _ _ _, fun r hr => by cases hr⟩
    · rw [va_up_ne _ _ hl1, va_up_ne _ _ hlt, va_up_self]
    · rw [va_up_ne _ _ ht1, va_up_self]
    · rw [va_up_ne _ _ hlt, va_up_self]
  · exact z2.imp (fun a v h => h.more hY (fun i n h => z_app h))
  · exact z3.imp (fun a v h => h.grow hY)
  · exact z4.imp (fun a v h => zgo.up (h.more hY hC hro) (by rw [s1]; exact z_r1 (by decide)))
  · exact z_ndp n1 hsa
  · rw [List.length_append]; exact hn
/-- a group's rules anew -/
theorem zRCb.grp (h : zRCb Y C x V q0 q1 q2 q3 q4 ns ss hs ps gs ro rw) {k g q : Nat} {es' : List Nat} {vs' : List zRl} (hk : gs[k]? = some g) (hg : (g, Sum.inr (4, [.ref q])) ∈ Y) (hr : ro q = (3, g)) (hz : zls (zrl Y) es' vs') (hl : es'.length ≤ 10) : zRC Y (va_up C q (some es')) x (vN V, vS V, vH V, vP V, (vG V).set k vs') := by
  obtain ⟨h0, ⟨c0, c1, c2, c3, c4⟩, ⟨z0, z1, z2, z3, z4⟩, ⟨n0, n1, n2, n4⟩, ⟨r0, r1, r2, r3, r4⟩, l0, l1, l2, l3, l4⟩ := h
  refine ⟨q0, q1, q2, q3, q4, ns, ss, hs, ps, gs, ro, rw, h0, ⟨(va_up_ne _ _ (z_rne r0 hr (z_r1 (by decide)))).trans c0, (va_up_ne _ _ (z_rne r1 hr (z_r1 (by decide)))).trans c1, (va_up_ne _ _ (z_rne r2 hr (z_r1 (by decide)))).trans c2, (va_up_ne _ _ (z_rne r3 hr (z_r1 (by decide)))).trans c3, (va_up_ne _ _ (z_rne r4 hr (z_r1 (by decide)))).trans c4⟩, ⟨z0, ?_, z2, z3, ?_⟩, ⟨n0, n1, n2, n4⟩, ⟨r0, r1, r2, r3, r4⟩, l0, l1, l2, l3, l4⟩
  · exact z1.imp (fun a v h => zsb.up h (by rw [hr]; exact z_r1 (by decide)) (by rw [hr]; exact z_r1 (by decide)))
  · exact z4.setv n4 hk (fun b w hb h => zgo.up h (by rw [hr]; exact z_r2 (Ne.symm hb))) ⟨q, es', hg, va_up_self _ _ _, hz, hl, hr⟩
/-- a subnet's rules anew -/
theorem zRCb.lst (h : zRCb Y C x V q0 q1 q2 q3 q4 ns ss hs ps gs ro rw) {k a nw bk rl rt : Nat} {v : zSb} {fs es' : List Nat} {vs' : List zRl} (hk : ss[k]? = some a) (hm : (a, Sum.inr (9, [.ref nw, .ref bk, .ref rl, .ref rt])) ∈ Y) (hnw : ns[v.1]? = some nw) (hbk : (bk, Sum.inr (3, [.int v.2.1.1, .int v.2.1.2])) ∈ Y) (ht : C rt = some fs ∧ zls (zrt Y) fs v.2.2.2 ∧ fs.Nodup ∧ fs.length ≤ 8) (hr : ro rl = (1, a)) (hrt : ro rt = (2, a)) (hrw : ∀ r ∈ fs, rw r = a) (hz : zls (zrl Y) es' vs') (hnd : es'.Nodup) (hl : es'.length ≤ 12) : zRC Y (va_up C rl (some es')) x (vN V, (vS V).set k (v.1, v.2.1, vs', v.2.2.2), V.2.2) := by
  obtain ⟨h0, ⟨c0, c1, c2, c3, c4⟩, ⟨z0, z1, z2, z3, z4⟩, ⟨n0, n1, n2, n4⟩, ⟨r0, r1, r2, r3, r4⟩, l0, l1, l2, l3, l4⟩ := h
  refine ⟨q0, q1, q2, q3, q4, ns, ss, hs, ps, gs, ro, rw, h0, ⟨(va_up_ne _ _ (z_rne r0 hr (z_r1 (by decide)))).trans c0, (va_up_ne _ _ (z_rne r1 hr (z_r1 (by decide)))).trans c1, (va_up_ne _ _ (z_rne r2 hr (z_r1 (by decide)))).trans c2, (va_up_ne _ _ (z_rne r3 hr (z_r1 (by decide)))).trans c3, (va_up_ne _ _ (z_rne r4 hr (z_r1 (by decide)))).trans c4⟩, ⟨z0, ?_, z2, z3, ?_⟩, ⟨n0, n1, n2, n4⟩, ⟨r0, r1, r2, r3, r4⟩, l0, l1, l2, l3, l4⟩
  · exact z1.setv n1 hk (fun b w hb h => zsb.up h (by rw [hr]; exact z_r2 (Ne.symm hb)) (by rw [hr]; exact z_r1 (by decide))) ⟨nw, bk, rl, rt, es', fs, hm, hnw, hbk, ⟨va_up_self _ _ _, hz, hnd, hl⟩, ⟨(va_up_ne _ _ (z_rne hrt hr (z_r1 (by decide)))).trans ht.1, ht.2⟩, hr, hrt, hrw⟩
  · exact z4.imp (fun a v h => zgo.up h (by rw [hr]; exact z_r1 (by decide)))
/-- a subnet's routes anew -/
theorem zRCb.rts (h : zRCb Y C x V q0 q1 q2 q3 q4 ns ss hs ps gs ro rw) {k a nw bk rl rt : Nat} {v : zSb} {es fs' : List Nat} {vs' : List zRt} (hk : ss[k]? = some a) (hm : (a, Sum.inr (9, [.ref nw, .ref bk, .ref rl, .ref rt])) ∈ Y) (hnw : ns[v.1]? = some nw) (hbk : (bk, Sum.inr (3, [.int v.2.1.1, .int v.2.1.2])) ∈ Y) (hl0 : C rl = some es ∧ zls (zrl Y) es v.2.2.1 ∧ es.Nodup ∧ es.length ≤ 12) (hrl : ro rl = (1, a)) (hr : ro rt = (2, a)) (hrw : ∀ r ∈ fs', rw r = a) (hz : zls (zrt Y) fs' vs') (hnd : fs'.Nodup) (hl : fs'.length ≤ 8) : zRC Y (va_up C rt (some fs')) x (vN V, (vS V).set k (v.1, v.2.1, v.2.2.1, vs'), V.2.2) := by
  obtain ⟨h0, ⟨c0, c1, c2, c3, c4⟩, ⟨z0, z1, z2, z3, z4⟩, ⟨n0, n1, n2, n4⟩, ⟨r0, r1, r2, r3, r4⟩, l0, l1, l2, l3, l4⟩ := h
  refine ⟨q0, q1, q2, q3, q4, ns, ss, hs, ps, gs, ro, rw, h0, ⟨(va_up_ne _ _ (z_rne r0 hr (z_r1 (by decide)))).trans c0, (va_up_ne _ _ (z_rne r1 hr (z_r1 (by decide)))).trans c1, (va_up_ne _ _ (z_rne r2 hr (z_r1 (by decide)))).trans c2, (va_up_ne _ _ (z_rne r3 hr (z_r1 (by decide)))).trans c3, (va_up_ne _ _ (z_rne r4 hr (z_r1 (by decide)))).trans c4⟩, ⟨z0, ?_, z2, z3, ?_⟩, ⟨n0, n1, n2, n4⟩, ⟨r0, r1, r2, r3, r4⟩, l0, l1, l2, l3, l4⟩
  · exact z1.setv n1 hk (fun b w hb h => zsb.up h (by rw [hr]; exact z_r1 (by decide)) (by rw [hr]; exact z_r2 (Ne.symm hb))) ⟨nw, bk, rl, rt, es, fs', hm, hnw, hbk, ⟨(va_up_ne _ _ (z_rne hrl hr (z_r1 (by decide)))).trans hl0.1, hl0.2⟩, ⟨va_up_self _ _ _, hz, hnd, hl⟩, hrl, hr, hrw⟩
  · exact z4.imp (fun a v h => zgo.up h (by rw [hr]; exact z_r1 (by decide)))
end
/-! a field written: a host's groups, a route's peering -/
section
variable {Y : va_W} {a c0 : Nat} {e0 e1 : va_E} {f0 : List Value}
theorem z_oth (hm : (a, (Sum.inr (c0, f0) : va_E)) ∈ Y) (hu : ∀ e, (a, e) ∈ Y → e = Sum.inr (c0, f0)) {b ci : Nat} {fs : List Value} (hb : (b, (Sum.inr (ci, fs) : va_E)) ∈ Y) (hc : ci ≠ c0) : (b, (Sum.inr (ci, fs) : va_E)) ∈ zset Y a e1 :=
  zset_old hb (fun e => by
    subst e
    have := hu _ hb
    cases this
    exact hc rfl)
variable {C : zLs} {ns ss : List Nat} {ro : Nat → Nat × Nat} {rw : Nat → Nat}
theorem zrl.oth (hm : (a, (Sum.inr (c0, f0) : va_E)) ∈ Y) (hu : ∀ e, (a, e) ∈ Y → e = Sum.inr (c0, f0)) (h5 : c0 = 5 ∨ c0 = 7) {b : Nat} {v : zRl} (h : zrl Y b v) : zrl (zset Y a e1) b v := by
  obtain ⟨q, h1, h2⟩ := h
  exact ⟨q, z_oth hm hu h1 (by omega), z_oth hm hu h2 (by omega)⟩
theorem zrt.oth (hm : (a, (Sum.inr (c0, f0) : va_E)) ∈ Y) (hu : ∀ e, (a, e) ∈ Y → e = Sum.inr (c0, f0)) (h5 : c0 = 5 ∨ c0 = 7) {b : Nat} {v : zRt} (hb : b ≠ a) (h : zrt Y b v) : zrt (zset Y a e1) b v := by
  obtain ⟨q, h1, h2⟩ := h
  exact ⟨q, zset_old h1 hb, z_oth hm hu h2 (by omega)⟩
theorem zpr.oth (hm : (a, (Sum.inr (c0, f0) : va_E)) ∈ Y) (hu : ∀ e, (a, e) ∈ Y → e = Sum.inr (c0, f0)) (h5 : c0 = 5 ∨ c0 = 7) {b : Nat} {v : Nat × Nat} (h : zpr Y ns b v) : zpr (zset Y a e1) ns b v := by
  obtain ⟨o1, o2, h1, h2, h3⟩ := h
  exact ⟨o1, o2, z_oth hm hu h1 (by omega), h2, h3⟩
theorem zgo.oth (hm : (a, (Sum.inr (c0, f0) : va_E)) ∈ Y) (hu : ∀ e, (a, e) ∈ Y → e = Sum.inr (c0, f0)) (h5 : c0 = 5 ∨ c0 = 7) {b : Nat} {v : List zRl} (h : zgo Y C ro b v) : zgo (zset Y a e1) C ro b v := by
  obtain ⟨q, es, h1, h2, h3, h4⟩ := h
  exact ⟨q, es, z_oth hm hu h1 (by omega), h2, h3.imp (fun _ _ h => zrl.oth hm hu h5 h), h4⟩
theorem zls.impm {α : Type} {P P' : Nat → α → Prop} {as : List Nat} {vs : List α} (h : zls P as vs) (hp : ∀ a v, a ∈ as → P a v → P' a v) : zls P' as vs := ⟨h.1, fun i a v h1 h2 => hp a v (List.mem_of_getElem? h1) (h.2 i a v h1 h2)⟩
theorem zsb.oth (hm : (a, (Sum.inr (c0, f0) : va_E)) ∈ Y) (hu : ∀ e, (a, e) ∈ Y → e = Sum.inr (c0, f0)) (h5 : c0 = 5 ∨ c0 = 7) {b : Nat} {v : zSb} (hb : c0 = 5 ∨ b ≠ rw a) (h : zsb Y C ns ro rw b v) : zsb (zset Y a e1) C ns ro rw b v := by
  obtain ⟨nw, bk, rl, rt, es, fs, h1, h2, h3, ⟨h4, k4, h5', h6⟩, ⟨h7, k7, h8, h9⟩, h10, h11, h12⟩ := h
  refine ⟨nw, bk, rl, rt, es, fs, z_oth hm hu h1 (by omega), h2, z_oth hm hu h3 (by omega), ⟨h4, k4.imp (fun _ _ h => zrl.oth hm hu h5 h), h5', h6⟩, ⟨h7, k7.impm (fun r w hr h => zrt.oth hm hu h5 (fun e => ?_) h), h8, h9⟩, h10, h11, h12⟩
  subst e
  rcases hb with hb | hb
  · subst hb
    obtain ⟨q, g1, -⟩ := h
    have := hu _ g1
    cases this
  · exact hb (h12 r hr).symm
end
section
variable {Y : va_W} {C : zLs} {x : Nat} {V : zCl} {q0 q1 q2 q3 q4 : Nat} {ns ss hs ps gs : List Nat} {ro : Nat → Nat × Nat} {rw : Nat → Nat}
theorem zRCb.fresh {Y' : va_W} {rw' : Nat → Nat} (h : zRCb Y C x V q0 q1 q2 q3 q4 ns ss hs ps gs ro rw) (hY : ∀ q ∈ Y, q ∈ Y') (hrw : ∀ r e, (r, e) ∈ Y → rw' r = rw r) : zRCb Y' C x V q0 q1 q2 q3 q4 ns ss hs ps gs ro rw' := by
  obtain ⟨h1, h2, ⟨h3, h4, h5, h6, h7⟩, h8⟩ := h
  exact ⟨hY _ h1, h2, ⟨h3.imp (fun _ _ h => hY _ h), h4.imp (fun _ _ h => h.more hY (fun _ _ h => h) (fun _ _ h => h) (fun _ _ _ => rfl) hrw), h5.imp (fun _ _ h => h.grow hY), h6.imp (fun _ _ h => h.grow hY), h7.imp (fun _ _ h => h.grow hY)⟩, h8⟩
theorem zRCb.hst (h : zRCb Y C x V q0 q1 q2 q3 q4 ns ss hs ps gs ro rw) {k y s sb : Nat} {ad g0 g1 : Int32} (hk : hs[k]? = some y) (hm : (y, Sum.inr (5, [.ref sb, .int ad, .int g0])) ∈ Y) (hu : ∀ e, (y, e) ∈ Y → e = Sum.inr (5, [.ref sb, .int ad, .int g0])) (hs0 : ss[s]? = some sb) : zRC (zset Y y (Sum.inr (5, [.ref sb, .int ad, .int g1]))) C x (vN V, vS V, (vH V).set k (s, ad, g1), vP V, vG V) := by
  obtain ⟨h0, hc, ⟨z0, z1, z2, z3, z4⟩, ⟨n0, n1, n2, n4⟩, hr, hl⟩ := h
  refine ⟨q0, q1, q2, q3, q4, ns, ss, hs, ps, gs, ro, rw, z_oth hm hu h0 (by decide), hc, ⟨?_, ?_, ?_, ?_, ?_⟩, ⟨n0, n1, n2, n4⟩, hr, hl⟩
  · exact z0.imp (fun _ _ h => z_oth hm hu h (by decide))
  · exact z1.imp (fun _ _ h => zsb.oth hm hu (Or.inl rfl) (Or.inl rfl) h)
  · exact z2.setv n2 hk (fun b w hb h => by obtain ⟨s1, j1, j2⟩ := h; exact ⟨s1, zset_old j1 hb, j2⟩) ⟨sb, zset_self hm, hs0⟩
  · exact z3.imp (fun _ _ h => zpr.oth hm hu (Or.inl rfl) h)
  · exact z4.imp (fun _ _ h => zgo.oth hm hu (Or.inl rfl) h)
theorem zRCb.rset (h : zRCb Y C x V q0 q1 q2 q3 q4 ns ss hs ps gs ro rw) {k a nw bk rl rt i r rb : Nat} {v : zSb} {fs : List Nat} {w : zRt} {pe : Int32} (hk : ss[k]? = some a) (hma : (a, Sum.inr (9, [.ref nw, .ref bk, .ref rl, .ref rt])) ∈ Y) (hv : (vS V)[k]? = some v) (hrt : C rt = some fs) (hi : fs[i]? = some r) (hm : (r, Sum.inr (7, [.ref rb, .int w.2])) ∈ Y) (hu : ∀ e, (r, e) ∈ Y → e = Sum.inr (7, [.ref rb, .int w.2])) (hua : ∀ e, (a, e) ∈ Y → e = Sum.inr (9, [.ref nw, .ref bk, .ref rl, .ref rt])) (hrb : (rb, Sum.inr (3, [.int w.1.1, .int w.1.2])) ∈ Y) : zRC (zset Y r (Sum.inr (7, [.ref rb, .int pe]))) C x (vN V, (vS V).set k (v.1, v.2.1, v.2.2.1, v.2.2.2.set i (w.1, pe)), V.2.2) := by
  obtain ⟨h0, hc, ⟨z0, z1, z2, z3, z4⟩, ⟨n0, n1, n2, n4⟩, hr, hl⟩ := h
  have hza := z1.2 k a v hk hv
  obtain ⟨nw', bk', rl', rt', es, fs', h1, h2, h3, ⟨h4, k4, h5', h6⟩, ⟨h7, k7, h8, h9⟩, h10, h11, h12⟩ := hza
  have he := hua _ h1
  cases he
  rw [hrt] at h7
  cases h7
  have hra : rw r = a := h12 r (List.mem_of_getElem? hi)
  refine ⟨q0, q1, q2, q3, q4, ns, ss, hs, ps, gs, ro, rw, z_oth hm hu h0 (by decide), hc, ⟨?_, ?_, ?_, ?_, ?_⟩, ⟨n0, n1, n2, n4⟩, hr, hl⟩
  · exact z0.imp (fun _ _ h => z_oth hm hu h (by decide))
  · refine z1.setv n1 hk (fun b w hb h => zsb.oth hm hu (Or.inr rfl) (Or.inr (by rw [hra]; exact hb)) h) ⟨nw, bk, rl, rt, es, fs, z_oth hm hu h1 (by decide), h2, z_oth hm hu h3 (by decide), ⟨h4, k4.imp (fun _ _ h => zrl.oth hm hu (Or.inr rfl) h), h5', h6⟩, ⟨hrt, ?_, h8, h9⟩, h10, h11, h12⟩
    exact k7.setv h8 hi (fun b w hb h => zrt.oth hm hu (Or.inr rfl) hb h) ⟨rb, zset_self hm, z_oth hm hu hrb (by decide)⟩
  · exact z2.imp (fun _ _ h => by obtain ⟨s1, j1, j2⟩ := h; exact ⟨s1, z_oth hm hu j1 (by decide), j2⟩)
  · exact z3.imp (fun _ _ h => zpr.oth hm hu (Or.inr rfl) h)
  · exact z4.imp (fun _ _ h => zgo.oth hm hu (Or.inr rfl) h)
end
