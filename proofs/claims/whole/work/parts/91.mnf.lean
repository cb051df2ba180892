/-! the reference's routes -/
theorem z_pera {α : Type} : ∀ {t : List α} {n : Nat} {w : α}, t[n]? = some w → t.Perm (w :: t.eraseIdx n) := by
  intro t
  induction t with
  | nil => intro n w h; simp at h
  | cons a t ih =>
    intro n w h
    cases n with
    | zero =>
      simp only [List.getElem?_cons_zero, Option.some.injEq] at h
      subst h
      exact List.Perm.refl _
    | succ n =>
      simp only [List.getElem?_cons_succ] at h
      rw [List.eraseIdx_cons_succ]
      exact ((ih h).cons a).trans (List.Perm.swap w a _)
theorem z_pers {α : Type} : ∀ {t : List α} {n : Nat} (u : α), n < t.length → (t.set n u).Perm (u :: t.eraseIdx n) := by
  intro t
  induction t with
  | nil => intro n u h; exact absurd h (Nat.not_lt_zero _)
  | cons a t ih =>
    intro n u h
    cases n with
    | zero => exact List.Perm.refl _
    | succ n =>
      rw [List.set_cons_succ, List.eraseIdx_cons_succ]
      exact ((ih u (Nat.lt_of_succ_lt_succ h)).cons a).trans (List.Perm.swap u a _)
/-- the last one in the place of one that goes -/
theorem z_perd {α : Type} {l : List α} {n : Nat} {w u : α} (hw : l[n]? = some w) (hu : l[l.length - 1]? = some u) : l.Perm (w :: (l.take (l.length - 1)).set n u) := by
  have hn := (List.getElem?_eq_some_iff.mp hw).1
  have hl : l = l.take (l.length - 1) ++ [u] := by
    have h1 := z_take (i := l.length - 1) hu
    rw [show l.length - 1 + 1 = l.length by omega, List.take_length] at h1
    exact h1
  by_cases c : n = l.length - 1
  · have e : w = u := by rw [c, hu] at hw; exact (Option.some.inj hw).symm
    rw [List.set_eq_of_length_le (by rw [List.length_take]; omega), e]
    exact (List.Perm.of_eq hl).trans (List.perm_append_singleton u _)
  · have hn2 : n < (l.take (l.length - 1)).length := by rw [List.length_take]; omega
    have ht : (l.take (l.length - 1))[n]? = some w := by rw [List.getElem?_take, if_pos (by omega)]; exact hw
    refine (List.Perm.of_eq hl).trans ((List.perm_append_singleton u _).trans ?_)
    exact ((z_pera ht).cons u).trans ((List.Perm.swap w u _).trans ((z_pers u hn2).symm.cons w))
section
variable {sc : Nat → Int32} {g : Nat → Nat → Int32} {V : zCl} {k : Nat} {v : zSb}
theorem zMT_rdel (h : zMT sc g V) (hv : (vS V)[k]? = some v) {n : Nat} {u : zRt} (hn : n < v.2.2.2.length) (hu : v.2.2.2[v.2.2.2.length - 1]? = some u) :
    zMT sc (va_up (va_up (va_up g 23 (upd (g 23) k (nI (v.2.2.2.length - 1)))) 24 (upd (g 24) (8 * k + n) (g 24 (8 * k + (v.2.2.2.length - 1))))) 25 (upd (g 25) (8 * k + n) (g 25 (8 * k + (v.2.2.2.length - 1))))) (vN V, (vS V).set k (v.1, v.2.1, v.2.2.1, (v.2.2.2.take (v.2.2.2.length - 1)).set n u), V.2.2) := by
  obtain ⟨-, -, -, ⟨hsz, hle, hru⟩⟩ := h.1.2.1.2.2 k v hv
  obtain ⟨u1, u2⟩ := hru _ u hu
  have hlen : ((v.2.2.2.take (v.2.2.2.length - 1)).set n u).length = v.2.2.2.length - 1 := by rw [List.length_set, List.length_take]; omega
  refine zMT_routes h hv (fun a e1 e2 e3 => ?_) (fun i hi => ?_) ?_ (by omega) (fun a a1 a2 q hq => ?_) (fun j r hr => ?_)
  · rw [va_up_ne _ _ e3, va_up_ne _ _ e2, va_up_ne _ _ e1]
  · show upd (g 23) k _ i = _
    rw [pk_un hi]
  · show upd (g 23) k _ k = _
    rw [pk_us, hlen]
  · have hq2 : q ≠ 8 * k + n := by omega
    rcases (show a = 24 ∨ a = 25 by omega) with rfl | rfl
    · show upd (g 24) _ _ q = _
      rw [pk_un hq2]
    · show upd (g 25) _ _ q = _
      rw [pk_un hq2]
  · rcases z_stat hr with ⟨c, q⟩ | ⟨c, q⟩
    · rw [List.getElem?_take] at q
      by_cases c2 : j < v.2.2.2.length - 1
      · rw [if_pos c2] at q
        obtain ⟨f1, f2⟩ := hru j r q
        have hq2 : 8 * k + j ≠ 8 * k + n := by omega
        exact ⟨by show upd (g 24) _ _ _ = _; rw [pk_un hq2, f1], by show upd (g 25) _ _ _ = _; rw [pk_un hq2, f2]⟩
      · rw [if_neg c2] at q
        cases q
    · rw [c, q]
      exact ⟨by show upd (g 24) _ _ _ = _; rw [pk_us, u1], by show upd (g 25) _ _ _ = _; rw [pk_us, u2]⟩
theorem zMT_rset (h : zMT sc g V) (hv : (vS V)[k]? = some v) {n : Nat} (hn : n < v.2.2.2.length) (w : zBk) (pe : Int32) :
    zMT sc (va_up (va_up (va_up g 24 (upd (g 24) (8 * k + n) (zbi w))) 25 (upd (g 25) (8 * k + n) pe)) 23 (upd (g 23) k (nI (v.2.2.2.length + 0)))) (vN V, (vS V).set k (v.1, v.2.1, v.2.2.1, v.2.2.2.set n (w, pe)), V.2.2) := by
  obtain ⟨-, -, -, ⟨hsz, hle, hru⟩⟩ := h.1.2.1.2.2 k v hv
  have hlen : (v.2.2.2.set n (w, pe)).length = v.2.2.2.length := List.length_set
  refine zMT_routes h hv (fun a e1 e2 e3 => ?_) (fun i hi => ?_) ?_ (by omega) (fun a a1 a2 q hq => ?_) (fun j r hr => ?_)
  · rw [va_up_ne _ _ e1, va_up_ne _ _ e3, va_up_ne _ _ e2]
  · show upd (g 23) k _ i = _
    rw [pk_un hi]
  · show upd (g 23) k _ k = _
    rw [pk_us, hlen]; rfl
  · have hq2 : q ≠ 8 * k + n := by omega
    rcases (show a = 24 ∨ a = 25 by omega) with rfl | rfl
    · show upd (g 24) _ _ q = _
      rw [pk_un hq2]
    · show upd (g 25) _ _ q = _
      rw [pk_un hq2]
  · rcases z_stat hr with ⟨c, q⟩ | ⟨c, q⟩
    · obtain ⟨f1, f2⟩ := hru j r q
      have hq2 : 8 * k + j ≠ 8 * k + n := by omega
      exact ⟨by show upd (g 24) _ _ _ = _; rw [pk_un hq2, f1], by show upd (g 25) _ _ _ = _; rw [pk_un hq2, f2]⟩
    · rw [c, q]
      exact ⟨pk_us, pk_us⟩
theorem zMT_radd (h : zMT sc g V) (hv : (vS V)[k]? = some v) (hl : v.2.2.2.length < 8) (w : zBk) (pe : Int32) :
    zMT sc (va_up (va_up (va_up g 24 (upd (g 24) (8 * k + v.2.2.2.length) (zbi w))) 25 (upd (g 25) (8 * k + v.2.2.2.length) pe)) 23 (upd (g 23) k (nI (v.2.2.2.length + 1)))) (vN V, (vS V).set k (v.1, v.2.1, v.2.2.1, v.2.2.2 ++ [(w, pe)]), V.2.2) := by
  obtain ⟨-, -, -, ⟨hsz, hle, hru⟩⟩ := h.1.2.1.2.2 k v hv
  have hlen := z_l1 v.2.2.2 (w, pe)
  refine zMT_routes h hv (fun a e1 e2 e3 => ?_) (fun i hi => ?_) ?_ (by omega) (fun a a1 a2 q hq => ?_) (fun j r hr => ?_)
  · rw [va_up_ne _ _ e1, va_up_ne _ _ e3, va_up_ne _ _ e2]
  · show upd (g 23) k _ i = _
    rw [pk_un hi]
  · show upd (g 23) k _ k = _
    rw [pk_us, hlen]
  · have hq2 : q ≠ 8 * k + v.2.2.2.length := by omega
    rcases (show a = 24 ∨ a = 25 by omega) with rfl | rfl
    · show upd (g 24) _ _ q = _
      rw [pk_un hq2]
    · show upd (g 25) _ _ q = _
      rw [pk_un hq2]
  · rcases z_apat hr with ⟨c, q⟩ | ⟨c, q⟩
    · obtain ⟨f1, f2⟩ := hru j r q
      have hq2 : 8 * k + j ≠ 8 * k + v.2.2.2.length := by omega
      exact ⟨by show upd (g 24) _ _ _ = _; rw [pk_un hq2, f1], by show upd (g 25) _ _ _ = _; rw [pk_un hq2, f2]⟩
    · rw [c, q]
      exact ⟨pk_us, pk_us⟩
end
theorem z_nm1 {n : Nat} (h : n < 2 ^ 31) : ¬ nI n = -1 := fun c => absurd (nI_pos h) (by rw [c]; decide)
set_option maxRecDepth 100000 in
set_option maxHeartbeats 4000000 in
/-- setRoute -/
theorem c_m_setRoute (E : zG) (l : Launch) (X : va_W) (C : zLs) (y : Nat) (ad : Nat → Nat) (sc : Nat → Int32) (g : Nat → Nat → Int32) (V : zCl) (hT : zMT sc g V) (hI : zInv V) (f b z pe : Int32) : Met l yX8_setRoute wsX8_setRoute (zR 3 0 0) (zPre E [.ref y, .int f, .int b, .int z, .int pe] (zQ E (X ++ zMw E y ad sc g) C)) (zPm E X C y ad (zA_setRoute V f b z pe)) 0 0 (eA E) := by
  refine z_of (cc := cX8_setRoute) (maxL := 10) (ret := (some .int)) (by decide) rfl rfl (Nat.le_of_ble_eq_true rfl) ?_
  intro p e s m below meth c ls Cx hr hnm hw hl
  have hx := Cx.1.1
  have hb := Cx.1.2.1
  have hR := hT.1
  have hn1 : sc 1 = nI (vN V).length := hR.1.1
  have hm1 := hR.1.2.1
  have hn3 : sc 3 = nI (vS V).length := hR.2.1.1
  have hm3 := hR.2.1.2.1
  have hn6 : sc 6 = nI (vH V).length := hR.2.2.1.1
  have hm6 := hR.2.2.1.2.1
  have hn10 : sc 10 = nI (vP V).length := hR.2.2.2.1.1
  have hm10 := hR.2.2.2.1.2.1
  have hn13 : sc 13 = nI (vG V).length := hR.2.2.2.2.1
  have hm13 := hR.2.2.2.2.2.1
  have hl : lv_has ls 10 [(0, .ref y), (1, .int f), (2, .int b), (3, .int z), (4, .int pe)] := hl
  refine lv_iload_n hx hb dX8_setRoute_0 rfl (lv_at hl 1 rfl) ?_
  refine lv_aload_n hx hb dX8_setRoute_1 rfl (lv_at hl 0 rfl) ?_
  refine z_get Cx hw (T := TX8) (N := 26) (ci := 11) (fun _ h => List.mem_cons_of_mem _ (List.mem_append_right _ (h))) zM_x rfl 3 (by decide) (List.mem_of_getElem? (i := 1) rfl) rfl rfl dX8_setRoute_2 ?_
  refine z_goe hw.2 (z_runS Cx hw (c_X8_isIn E l (zQ E (X ++ zMw E y ad sc g) C) f (sc 3)) (va_cwS 2 Cx.1.2.2.2.2 gX8_setRoute_X8_isIn rfl rfl rfl (by decide +kernel) ⟨Nat.le_of_ble_eq_true rfl, Nat.le_of_ble_eq_true rfl⟩)  rfl hl.1 rfl (Nat.le_of_ble_eq_true rfl) dX8_setRoute_5 ⟨Nat.le_of_ble_eq_true rfl, Nat.le_of_ble_eq_true rfl⟩) (fun H locs hw => ?_)
  refine lv_topi (fun x_5 ex_5 => ?_)
  obtain ⟨q0, hq0, e_5⟩ : ∃ q : Bool, (q = true ↔ zix f (vS V).length) ∧ x_5 = zb q := ⟨_, (by rw [hn3]; exact zmin_ix (by omega)), ex_5⟩
  clear ex_5
  subst e_5
  have cut_36 : ∀ (q1 : Bool) (H : Heap) (locs : List Loc) (ls : Array Slot), (q1 = true ↔ (zix f (vS V).length ∧ (pe = -1 ∨ zix pe (vP V).length))) → zHw E (zQ E (X ++ zMw E y ad sc g) C) s H locs → lv_has ls 10 [(0, .ref y), (1, .int f), (2, .int b), (3, .int z), (4, .int pe), (5, .int (zb q1))] → W p l e (zR 3 0 0) s m ([.ref y, .int f, .int b, .int z, .int pe] : List Value).toArray below meth c H locs 0 0 (MQ below (zPm E X C y ad (zA_setRoute V f b z pe)) ([.ref y, .int f, .int b, .int z, .int pe] : List Value).toArray s 0 0 (eA E)) (F0 m 36 ls []) := by
    intro q1 H locs ls hq1 hw hl
    refine lv_iload hx hb dX8_setRoute_36 (lv_at hl 5 rfl) ?_
    have cut_56 : ∀ (q2 : Bool) (H : Heap) (locs : List Loc) (ls : Array Slot), (q2 = true ↔ (q1 = true ∧ zbok b z)) → zHw E (zQ E (X ++ zMw E y ad sc g) C) s H locs → lv_has ls 10 [(0, .ref y), (1, .int f), (2, .int b), (3, .int z), (4, .int pe), (5, .int (zb q1)), (6, .int (zb q2))] → W p l e (zR 3 0 0) s m ([.ref y, .int f, .int b, .int z, .int pe] : List Value).toArray below meth c H locs 0 0 (MQ below (zPm E X C y ad (zA_setRoute V f b z pe)) ([.ref y, .int f, .int b, .int z, .int pe] : List Value).toArray s 0 0 (eA E)) (F0 m 56 ls []) := by
      intro q2 H locs ls hq2 hw hl
      refine lv_iconst (v := -1) hx hb dX8_setRoute_56 (by decide) ?_
      refine lv_istore hx hb dX8_setRoute_57 hl (by decide) rfl (fun ls hl => ?_)
      have hl : lv_has ls 10 [(7, .int (-1)), (0, .ref y), (1, .int f), (2, .int b), (3, .int z), (4, .int pe), (5, .int (zb q1)), (6, .int (zb q2))] := hl
      have cut_120 : ∀ (tv : Int32) (H : Heap) (locs : List Loc) (ls : Array Slot), (q2 = true → ∀ (k : Nat) (v : zSb), f = nI k → (vS V)[k]? = some v → ((tv = -1 ∧ ∀ w ∈ v.2.2.2, ¬ w.1 = (b, z)) ∨ ∃ (n : Nat) (w : zRt), tv = nI n ∧ v.2.2.2[n]? = some w ∧ w.1 = (b, z))) → zHw E (zQ E (X ++ zMw E y ad sc g) C) s H locs → lv_has ls 10 [(0, .ref y), (1, .int f), (2, .int b), (3, .int z), (4, .int pe), (5, .int (zb q1)), (6, .int (zb q2)), (7, .int tv)] → W p l e (zR 3 0 0) s m ([.ref y, .int f, .int b, .int z, .int pe] : List Value).toArray below meth c H locs 0 0 (MQ below (zPm E X C y ad (zA_setRoute V f b z pe)) ([.ref y, .int f, .int b, .int z, .int pe] : List Value).toArray s 0 0 (eA E)) (F0 m 120 ls []) := by
        intro tv H locs ls hex hw hl
        refine lv_aload_n hx hb dX8_setRoute_120 rfl (lv_at hl 0 rfl) ?_
        refine lv_iload hx hb dX8_setRoute_121 (lv_at hl 5 rfl) ?_
        refine lv_if_ne (tgt := 130) hx hb dX8_setRoute_123 (by decide) (fun c_123 => ?_) (fun c_123 => ?_)
        · skip
          have hzq1 := hq1.mp ((zb_1 _).mp c_123)
          have hq1t : q1 = true := (zb_1 _).mp c_123
          have hare := hzq1
          obtain ⟨⟨k, hk, rfl⟩, hpe⟩ := hzq1
          obtain ⟨v, hv⟩ : ∃ v, (vS V)[k]? = some v := ⟨_, List.getElem?_eq_getElem hk⟩
          obtain ⟨-, -, -, ⟨hsz, hle, hru⟩⟩ := hR.2.1.2.2 k v hv
          have hk8 : k < 8 := by omega
          refine lv_iload hx hb dX8_setRoute_130 (lv_at hl 6 rfl) ?_
          refine lv_if_ne (tgt := 139) hx hb dX8_setRoute_132 (by decide) (fun c_132 => ?_) (fun c_132 => ?_)
          · skip
            have hq2t := (zb_1 _).mp c_132
            have hbz := (hq2.mp hq2t).2
            have hexk := hex hq2t k v rfl hv
            have cut_175 : ∀  (H : Heap) (locs : List Loc) (ls : Array Slot), (pe = -1 ∨ ¬ tv = -1 ∨ v.2.2.2.length < 8) → zHw E (zQ E (X ++ zMw E y ad (va_up sc 0 (nI 0)) g) C) s H locs → lv_has ls 10 [(0, .ref y), (1, .int (nI k)), (2, .int b), (3, .int z), (4, .int pe), (5, .int (zb q1)), (6, .int (zb q2)), (7, .int tv)] → W p l e (zR 3 0 0) s m ([.ref y, .int (nI k), .int b, .int z, .int pe] : List Value).toArray below meth c H locs 0 0 (MQ below (zPm E X C y ad (zA_setRoute V (nI k) b z pe)) ([.ref y, .int (nI k), .int b, .int z, .int pe] : List Value).toArray s 0 0 (eA E)) (F0 m 175 ls []) := by
              intro  H locs ls hcd hw hl
              refine lv_iload hx hb dX8_setRoute_175 (lv_at hl 7 rfl) ?_
              refine lv_iconst (v := -1) hx hb dX8_setRoute_177 (by decide) ?_
              refine lv_icmp_ne (tgt := 185) hx hb dX8_setRoute_178 (by decide) (fun c_178 => ?_) (fun c_178 => ?_)
              · skip
                obtain ⟨n, w, rfl, hw1, ew⟩ := hexk.resolve_left (fun h => c_178 h.1)
                have hnl := (List.getElem?_eq_some_iff.mp hw1).1
                obtain ⟨r1, r2⟩ := hru n w hw1
                refine lv_aload_n hx hb dX8_setRoute_185 rfl (lv_at hl 0 rfl) ?_
                refine z_get Cx hw (T := TX8) (N := 26) (ci := 11) (fun _ h => List.mem_cons_of_mem _ (List.mem_append_right _ (h))) zM_x rfl 25 (by decide) (List.mem_of_getElem? (i := 5) rfl) rfl rfl dX8_setRoute_186 ?_
                refine lv_bipush (v := nI 8) hx hb dX8_setRoute_189 rfl ?_
                refine lv_iload_n hx hb dX8_setRoute_191 rfl (lv_at hl 1 rfl) ?_
                refine lv_imul hx hb dX8_setRoute_192 ?_
                refine lv_topi (fun x_192 ex_192 => ?_)
                rw [zi_mul] at ex_192
                subst ex_192
                refine lv_iload hx hb dX8_setRoute_193 (lv_at hl 7 rfl) ?_
                refine lv_iadd hx hb dX8_setRoute_195 ?_
                refine lv_topi (fun x_195 ex_195 => ?_)
                rw [nI_add] at ex_195
                subst ex_195
                refine zm_iald Cx hw (k := 25) (n := 64) (by decide) (by omega) dX8_setRoute_196 ?_
                refine lv_topi (fun x_196 ex_196 => ?_)
                have e_196 := ex_196.trans (r2)
                clear ex_196
                subst e_196
                refine lv_istore hx hb dX8_setRoute_197 hl (by decide) rfl (fun ls hl => ?_)
                have hl : lv_has ls 10 [(8, .int w.2), (0, .ref y), (1, .int (nI k)), (2, .int b), (3, .int z), (4, .int pe), (5, .int (zb q1)), (6, .int (zb q2)), (7, .int (nI n))] := hl
                refine lv_iload hx hb dX8_setRoute_199 (lv_at hl 5 rfl) ?_
                refine lv_iconst (v := -1) hx hb dX8_setRoute_201 (by decide) ?_
                refine lv_icmp_ne (tgt := 277) hx hb dX8_setRoute_202 (by decide) (fun c_202 => ?_) (fun c_202 => ?_)
                · skip
                  refine lv_iload hx hb dX8_setRoute_277 (lv_at hl 5 rfl) ?_
                  refine lv_iconst (v := -1) hx hb dX8_setRoute_279 (by decide) ?_
                  refine lv_icmp_eq (tgt := 353) hx hb dX8_setRoute_280 (by decide) (fun c_280 => ?_) (fun c_280 => ?_)
                  · skip
                    exact absurd c_280 c_202
                  · skip
                    refine lv_iload hx hb dX8_setRoute_283 (lv_at hl 8 rfl) ?_
                    refine lv_iconst (v := -1) hx hb dX8_setRoute_285 (by decide) ?_
                    refine lv_icmp_ne (tgt := 298) hx hb dX8_setRoute_286 (by decide) (fun c_286 => ?_) (fun c_286 => ?_)
                    · skip
                      refine lv_iload hx hb dX8_setRoute_298 (lv_at hl 8 rfl) ?_
                      refine lv_istore hx hb dX8_setRoute_300 hl (by decide) rfl (fun ls hl => ?_)
                      have hl : lv_has ls 10 [(9, .int (nI n)), (8, .int w.2), (0, .ref y), (1, .int (nI k)), (2, .int b), (3, .int z), (4, .int pe), (5, .int (zb q1)), (6, .int (zb q2)), (7, .int (nI n))] := hl
                      refine lv_aload_n hx hb dX8_setRoute_302 rfl (lv_at hl 2 rfl) ?_
                      refine z_get Cx hw (T := TX8) (N := 26) (ci := 11) (fun _ h => List.mem_cons_of_mem _ (List.mem_append_right _ (h))) zM_x rfl 24 (by decide) (List.mem_of_getElem? (i := 4) rfl) rfl rfl dX8_setRoute_303 ?_
                      refine lv_bipush (v := nI 8) hx hb dX8_setRoute_306 rfl ?_
                      refine lv_iload_n hx hb dX8_setRoute_308 rfl (lv_at hl 3 rfl) ?_
                      refine lv_imul hx hb dX8_setRoute_309 ?_
                      refine lv_topi (fun x_309 ex_309 => ?_)
                      rw [zi_mul] at ex_309
                      subst ex_309
                      refine lv_iload hx hb dX8_setRoute_310 (lv_at hl 0 rfl) ?_
                      refine lv_iadd hx hb dX8_setRoute_312 ?_
                      refine lv_topi (fun x_312 ex_312 => ?_)
                      rw [nI_add] at ex_312
                      subst ex_312
                      refine lv_iload_n hx hb dX8_setRoute_313 rfl (lv_at hl 4 rfl) ?_
                      refine lv_iload_n hx hb dX8_setRoute_314 rfl (lv_at hl 5 rfl) ?_
                      refine z_goe hw.2 (z_runS Cx hw (c_X8_block E l _ b z) (va_cwS 2 Cx.1.2.2.2.2 gX8_setRoute_X8_block rfl rfl rfl (by decide +kernel) ⟨Nat.le_of_ble_eq_true rfl, Nat.le_of_ble_eq_true rfl⟩)  rfl hl.1 rfl (Nat.le_of_ble_eq_true rfl) dX8_setRoute_315 ⟨Nat.le_of_ble_eq_true rfl, Nat.le_of_ble_eq_true rfl⟩) (fun H locs hw => ?_)
                      rw [show (16 : Int32) * b + z = zbi (b, z) from rfl]
                      refine zm_iast Cx hw (k := 24) (n := 64) (by decide) (by omega) dX8_setRoute_318 (fun H locs hw => ?_)
                      refine lv_aload_n hx hb dX8_setRoute_319 rfl (lv_at hl 2 rfl) ?_
                      refine z_get Cx hw (T := TX8) (N := 26) (ci := 11) (fun _ h => List.mem_cons_of_mem _ (List.mem_append_right _ (h))) zM_x rfl 25 (by decide) (List.mem_of_getElem? (i := 5) rfl) rfl rfl dX8_setRoute_320 ?_
                      refine lv_bipush (v := nI 8) hx hb dX8_setRoute_323 rfl ?_
                      refine lv_iload_n hx hb dX8_setRoute_325 rfl (lv_at hl 3 rfl) ?_
                      refine lv_imul hx hb dX8_setRoute_326 ?_
                      refine lv_topi (fun x_326 ex_326 => ?_)
                      rw [zi_mul] at ex_326
                      subst ex_326
                      refine lv_iload hx hb dX8_setRoute_327 (lv_at hl 0 rfl) ?_
                      refine lv_iadd hx hb dX8_setRoute_329 ?_
                      refine lv_topi (fun x_329 ex_329 => ?_)
                      rw [nI_add] at ex_329
                      subst ex_329
                      refine lv_iload hx hb dX8_setRoute_330 (lv_at hl 6 rfl) ?_
                      refine zm_iast Cx hw (k := 25) (n := 64) (by decide) (by omega) dX8_setRoute_332 (fun H locs hw => ?_)
                      refine lv_aload_n hx hb dX8_setRoute_333 rfl (lv_at hl 2 rfl) ?_
                      refine z_get Cx hw (T := TX8) (N := 26) (ci := 11) (fun _ h => List.mem_cons_of_mem _ (List.mem_append_right _ (h))) zM_x rfl 23 (by decide) (List.mem_of_getElem? (i := 3) rfl) rfl rfl dX8_setRoute_334 ?_
                      refine lv_iload_n hx hb dX8_setRoute_337 rfl (lv_at hl 3 rfl) ?_
                      refine lv_dup2_11 hx hb dX8_setRoute_338 rfl rfl ?_
                      refine zm_iald Cx hw (k := 23) (n := 8) (by decide) hk8 dX8_setRoute_339 ?_
                      refine lv_topi (fun x_339 ex_339 => ?_)
                      have e_339 := ex_339.trans (hsz)
                      clear ex_339
                      subst e_339
                      refine lv_iload hx hb dX8_setRoute_340 (lv_at hl 9 rfl) ?_
                      refine lv_iconst (v := -1) hx hb dX8_setRoute_342 (by decide) ?_
                      refine lv_icmp_ne (tgt := 350) hx hb dX8_setRoute_343 (by decide) (fun c_343 => ?_) (fun c_343 => ?_)
                      · skip
                        refine lv_iconst (v := nI 0) hx hb dX8_setRoute_350 rfl ?_
                        refine lv_iadd hx hb dX8_setRoute_351 ?_
                        refine lv_topi (fun x_351 ex_351 => ?_)
                        rw [nI_add] at ex_351
                        subst ex_351
                        refine zm_iast Cx hw (k := 23) (n := 8) (by decide) hk8 dX8_setRoute_352 (fun H locs hw => ?_)
                        refine lv_iload hx hb dX8_setRoute_353 (lv_at hl 1 rfl) ?_
                        exact z_iret (wf := (fun (u : zU) => zQ E (X ++ zMw E y ad u.2.1 u.2.2.1) C)) Cx hr rfl (Nat.le_of_ble_eq_true rfl) (Nat.le_of_ble_eq_true rfl) (0, _, _, _) hw ⟨Or.inr ⟨hare, k, v, rfl, hv, Or.inr ⟨hbz, Or.inr ⟨Or.inr (Or.inl ⟨w, List.mem_of_getElem? hw1, ew⟩), rfl, Or.inl ⟨w, _, _, ew, z_pera hw1, rfl, Or.inr ⟨c_202, z_pers ((b, z), pe) hnl⟩, rfl⟩⟩⟩⟩, zMT_rset (zMT_0 hT _) hv hnl (b, z) pe, rfl⟩ dX8_setRoute_355
                      · skip
                        exact absurd c_343 c_178
                    · skip
                      exact absurd c_286 c_178
                · skip
                  refine lv_iload hx hb dX8_setRoute_205 (lv_at hl 8 rfl) ?_
                  refine lv_iconst (v := -1) hx hb dX8_setRoute_207 (by decide) ?_
                  refine lv_icmp_eq (tgt := 277) hx hb dX8_setRoute_208 (by decide) (fun c_208 => ?_) (fun c_208 => ?_)
                  · skip
                    exact absurd c_208 c_178
                  · skip
                    refine lv_aload_n hx hb dX8_setRoute_211 rfl (lv_at hl 1 rfl) ?_
                    obtain ⟨u, hul⟩ : ∃ u, v.2.2.2[v.2.2.2.length - 1]? = some u := ⟨_, List.getElem?_eq_getElem (by omega)⟩
                    refine z_get Cx hw (T := TX8) (N := 26) (ci := 11) (fun _ h => List.mem_cons_of_mem _ (List.mem_append_right _ (h))) zM_x rfl 23 (by decide) (List.mem_of_getElem? (i := 3) rfl) rfl rfl dX8_setRoute_212 ?_
                    refine lv_iload_n hx hb dX8_setRoute_215 rfl (lv_at hl 2 rfl) ?_
                    refine lv_dup2_11 hx hb dX8_setRoute_216 rfl rfl ?_
                    refine zm_iald Cx hw (k := 23) (n := 8) (by decide) hk8 dX8_setRoute_217 ?_
                    refine lv_topi (fun x_217 ex_217 => ?_)
                    have e_217 := ex_217.trans (hsz)
                    clear ex_217
                    subst e_217
                    refine lv_iconst (v := nI 1) hx hb dX8_setRoute_218 rfl ?_
                    refine lv_isub hx hb dX8_setRoute_219 ?_
                    rw [show nI v.2.2.2.length - nI 1 = nI (v.2.2.2.length - 1) from pk_sub (by omega)]
                    refine zm_iast Cx hw (k := 23) (n := 8) (by decide) hk8 dX8_setRoute_220 (fun H locs hw => ?_)
                    refine lv_aload_n hx hb dX8_setRoute_221 rfl (lv_at hl 1 rfl) ?_
                    refine z_get Cx hw (T := TX8) (N := 26) (ci := 11) (fun _ h => List.mem_cons_of_mem _ (List.mem_append_right _ (h))) zM_x rfl 24 (by decide) (List.mem_of_getElem? (i := 4) rfl) rfl rfl dX8_setRoute_222 ?_
                    refine lv_bipush (v := nI 8) hx hb dX8_setRoute_225 rfl ?_
                    refine lv_iload_n hx hb dX8_setRoute_227 rfl (lv_at hl 2 rfl) ?_
                    refine lv_imul hx hb dX8_setRoute_228 ?_
                    refine lv_topi (fun x_228 ex_228 => ?_)
                    rw [zi_mul] at ex_228
                    subst ex_228
                    refine lv_iload hx hb dX8_setRoute_229 (lv_at hl 8 rfl) ?_
                    refine lv_iadd hx hb dX8_setRoute_231 ?_
                    refine lv_topi (fun x_231 ex_231 => ?_)
                    rw [nI_add] at ex_231
                    subst ex_231
                    refine lv_aload_n hx hb dX8_setRoute_232 rfl (lv_at hl 1 rfl) ?_
                    refine z_get Cx hw (T := TX8) (N := 26) (ci := 11) (fun _ h => List.mem_cons_of_mem _ (List.mem_append_right _ (h))) zM_x rfl 24 (by decide) (List.mem_of_getElem? (i := 4) rfl) rfl rfl dX8_setRoute_233 ?_
                    refine lv_bipush (v := nI 8) hx hb dX8_setRoute_236 rfl ?_
                    refine lv_iload_n hx hb dX8_setRoute_238 rfl (lv_at hl 2 rfl) ?_
                    refine lv_imul hx hb dX8_setRoute_239 ?_
                    refine lv_topi (fun x_239 ex_239 => ?_)
                    rw [zi_mul] at ex_239
                    subst ex_239
                    refine lv_aload_n hx hb dX8_setRoute_240 rfl (lv_at hl 1 rfl) ?_
                    refine z_get Cx hw (T := TX8) (N := 26) (ci := 11) (fun _ h => List.mem_cons_of_mem _ (List.mem_append_right _ (h))) zM_x rfl 23 (by decide) (List.mem_of_getElem? (i := 3) rfl) rfl rfl dX8_setRoute_241 ?_
                    refine lv_iload_n hx hb dX8_setRoute_244 rfl (lv_at hl 2 rfl) ?_
                    refine zm_iald Cx hw (k := 23) (n := 8) (by decide) hk8 dX8_setRoute_245 ?_
                    refine lv_topi (fun x_245 ex_245 => ?_)
                    have e_245 := ex_245.trans (pk_us)
                    clear ex_245
                    subst e_245
                    refine lv_iadd hx hb dX8_setRoute_246 ?_
                    refine lv_topi (fun x_246 ex_246 => ?_)
                    rw [nI_add] at ex_246
                    subst ex_246
                    refine zm_iald Cx hw (k := 24) (n := 64) (by decide) (by omega) dX8_setRoute_247 ?_
                    refine zm_iast Cx hw (k := 24) (n := 64) (by decide) (by omega) dX8_setRoute_248 (fun H locs hw => ?_)
                    refine lv_aload_n hx hb dX8_setRoute_249 rfl (lv_at hl 1 rfl) ?_
                    refine z_get Cx hw (T := TX8) (N := 26) (ci := 11) (fun _ h => List.mem_cons_of_mem _ (List.mem_append_right _ (h))) zM_x rfl 25 (by decide) (List.mem_of_getElem? (i := 5) rfl) rfl rfl dX8_setRoute_250 ?_
                    refine lv_bipush (v := nI 8) hx hb dX8_setRoute_253 rfl ?_
                    refine lv_iload_n hx hb dX8_setRoute_255 rfl (lv_at hl 2 rfl) ?_
                    refine lv_imul hx hb dX8_setRoute_256 ?_
                    refine lv_topi (fun x_256 ex_256 => ?_)
                    rw [zi_mul] at ex_256
                    subst ex_256
                    refine lv_iload hx hb dX8_setRoute_257 (lv_at hl 8 rfl) ?_
                    refine lv_iadd hx hb dX8_setRoute_259 ?_
                    refine lv_topi (fun x_259 ex_259 => ?_)
                    rw [nI_add] at ex_259
                    subst ex_259
                    refine lv_aload_n hx hb dX8_setRoute_260 rfl (lv_at hl 1 rfl) ?_
                    refine z_get Cx hw (T := TX8) (N := 26) (ci := 11) (fun _ h => List.mem_cons_of_mem _ (List.mem_append_right _ (h))) zM_x rfl 25 (by decide) (List.mem_of_getElem? (i := 5) rfl) rfl rfl dX8_setRoute_261 ?_
                    refine lv_bipush (v := nI 8) hx hb dX8_setRoute_264 rfl ?_
                    refine lv_iload_n hx hb dX8_setRoute_266 rfl (lv_at hl 2 rfl) ?_
                    refine lv_imul hx hb dX8_setRoute_267 ?_
                    refine lv_topi (fun x_267 ex_267 => ?_)
                    rw [zi_mul] at ex_267
                    subst ex_267
                    refine lv_aload_n hx hb dX8_setRoute_268 rfl (lv_at hl 1 rfl) ?_
                    refine z_get Cx hw (T := TX8) (N := 26) (ci := 11) (fun _ h => List.mem_cons_of_mem _ (List.mem_append_right _ (h))) zM_x rfl 23 (by decide) (List.mem_of_getElem? (i := 3) rfl) rfl rfl dX8_setRoute_269 ?_
                    refine lv_iload_n hx hb dX8_setRoute_272 rfl (lv_at hl 2 rfl) ?_
                    refine zm_iald Cx hw (k := 23) (n := 8) (by decide) hk8 dX8_setRoute_273 ?_
                    refine lv_topi (fun x_273 ex_273 => ?_)
                    have e_273 := ex_273.trans (pk_us)
                    clear ex_273
                    subst e_273
                    refine lv_iadd hx hb dX8_setRoute_274 ?_
                    refine lv_topi (fun x_274 ex_274 => ?_)
                    rw [nI_add] at ex_274
                    subst ex_274
                    refine zm_iald Cx hw (k := 25) (n := 64) (by decide) (by omega) dX8_setRoute_275 ?_
                    refine zm_iast Cx hw (k := 25) (n := 64) (by decide) (by omega) dX8_setRoute_276 (fun H locs hw => ?_)
                    refine lv_iload hx hb dX8_setRoute_277 (lv_at hl 5 rfl) ?_
                    refine lv_iconst (v := -1) hx hb dX8_setRoute_279 (by decide) ?_
                    refine lv_icmp_eq (tgt := 353) hx hb dX8_setRoute_280 (by decide) (fun c_280 => ?_) (fun c_280 => ?_)
                    · skip
                      refine lv_iload hx hb dX8_setRoute_353 (lv_at hl 0 rfl) ?_
                      exact z_iret (wf := (fun (u : zU) => zQ E (X ++ zMw E y ad u.2.1 u.2.2.1) C)) Cx hr rfl (Nat.le_of_ble_eq_true rfl) (Nat.le_of_ble_eq_true rfl) (0, _, _, _) hw ⟨Or.inr ⟨hare, k, v, rfl, hv, Or.inr ⟨hbz, Or.inr ⟨Or.inl c_202, rfl, Or.inl ⟨w, _, _, ew, z_perd hw1 hul, rfl, Or.inl ⟨c_202, rfl⟩, rfl⟩⟩⟩⟩, zMT_rdel (zMT_0 hT _) hv hnl hul, rfl⟩ dX8_setRoute_355
                    · skip
                      exact absurd c_202 c_280
              · skip
                have hno : ∀ w ∈ v.2.2.2, ¬ w.1 = (b, z) := by
                  rcases hexk with h | ⟨n, w2, e2, hw2, -⟩
                  · exact h.2
                  · rw [c_178] at e2
                    exact absurd e2.symm (z_nm1 (n := n) (by have := (List.getElem?_eq_some_iff.mp hw2).1; omega))
                refine lv_iconst (v := -1) hx hb dX8_setRoute_181 (by decide) ?_
                refine lv_goto (tgt := 197) hx hb dX8_setRoute_182 (by decide) ?_
                refine lv_istore hx hb dX8_setRoute_197 hl (by decide) rfl (fun ls hl => ?_)
                have hl : lv_has ls 10 [(8, .int (-1)), (0, .ref y), (1, .int (nI k)), (2, .int b), (3, .int z), (4, .int pe), (5, .int (zb q1)), (6, .int (zb q2)), (7, .int tv)] := hl
                refine lv_iload hx hb dX8_setRoute_199 (lv_at hl 5 rfl) ?_
                refine lv_iconst (v := -1) hx hb dX8_setRoute_201 (by decide) ?_
                refine lv_icmp_ne (tgt := 277) hx hb dX8_setRoute_202 (by decide) (fun c_202 => ?_) (fun c_202 => ?_)
                · skip
                  refine lv_iload hx hb dX8_setRoute_277 (lv_at hl 5 rfl) ?_
                  refine lv_iconst (v := -1) hx hb dX8_setRoute_279 (by decide) ?_
                  refine lv_icmp_eq (tgt := 353) hx hb dX8_setRoute_280 (by decide) (fun c_280 => ?_) (fun c_280 => ?_)
                  · skip
                    exact absurd c_280 c_202
                  · skip
                    refine lv_iload hx hb dX8_setRoute_283 (lv_at hl 8 rfl) ?_
                    refine lv_iconst (v := -1) hx hb dX8_setRoute_285 (by decide) ?_
                    refine lv_icmp_ne (tgt := 298) hx hb dX8_setRoute_286 (by decide) (fun c_286 => ?_) (fun c_286 => ?_)
                    · skip
                      exact absurd c_178 c_286
                    · skip
                      refine lv_aload_n hx hb dX8_setRoute_289 rfl (lv_at hl 1 rfl) ?_
                      refine z_get Cx hw (T := TX8) (N := 26) (ci := 11) (fun _ h => List.mem_cons_of_mem _ (List.mem_append_right _ (h))) zM_x rfl 23 (by decide) (List.mem_of_getElem? (i := 3) rfl) rfl rfl dX8_setRoute_290 ?_
                      refine lv_iload_n hx hb dX8_setRoute_293 rfl (lv_at hl 2 rfl) ?_
                      have hl8 : v.2.2.2.length < 8 := (hcd.resolve_left c_202).resolve_left (fun h => h c_178)
                      refine zm_iald Cx hw (k := 23) (n := 8) (by decide) hk8 dX8_setRoute_294 ?_
                      refine lv_topi (fun x_294 ex_294 => ?_)
                      have e_294 := ex_294.trans (hsz)
                      clear ex_294
                      subst e_294
                      refine lv_goto (tgt := 300) hx hb dX8_setRoute_295 (by decide) ?_
                      refine lv_istore hx hb dX8_setRoute_300 hl (by decide) rfl (fun ls hl => ?_)
                      have hl : lv_has ls 10 [(9, .int (nI v.2.2.2.length)), (8, .int (-1)), (0, .ref y), (1, .int (nI k)), (2, .int b), (3, .int z), (4, .int pe), (5, .int (zb q1)), (6, .int (zb q2)), (7, .int tv)] := hl
                      refine lv_aload_n hx hb dX8_setRoute_302 rfl (lv_at hl 2 rfl) ?_
                      refine z_get Cx hw (T := TX8) (N := 26) (ci := 11) (fun _ h => List.mem_cons_of_mem _ (List.mem_append_right _ (h))) zM_x rfl 24 (by decide) (List.mem_of_getElem? (i := 4) rfl) rfl rfl dX8_setRoute_303 ?_
                      refine lv_bipush (v := nI 8) hx hb dX8_setRoute_306 rfl ?_
                      refine lv_iload_n hx hb dX8_setRoute_308 rfl (lv_at hl 3 rfl) ?_
                      refine lv_imul hx hb dX8_setRoute_309 ?_
                      refine lv_topi (fun x_309 ex_309 => ?_)
                      rw [zi_mul] at ex_309
                      subst ex_309
                      refine lv_iload hx hb dX8_setRoute_310 (lv_at hl 0 rfl) ?_
                      refine lv_iadd hx hb dX8_setRoute_312 ?_
                      refine lv_topi (fun x_312 ex_312 => ?_)
                      rw [nI_add] at ex_312
                      subst ex_312
                      refine lv_iload_n hx hb dX8_setRoute_313 rfl (lv_at hl 4 rfl) ?_
                      refine lv_iload_n hx hb dX8_setRoute_314 rfl (lv_at hl 5 rfl) ?_
                      refine z_goe hw.2 (z_runS Cx hw (c_X8_block E l _ b z) (va_cwS 2 Cx.1.2.2.2.2 gX8_setRoute_X8_block rfl rfl rfl (by decide +kernel) ⟨Nat.le_of_ble_eq_true rfl, Nat.le_of_ble_eq_true rfl⟩)  rfl hl.1 rfl (Nat.le_of_ble_eq_true rfl) dX8_setRoute_315 ⟨Nat.le_of_ble_eq_true rfl, Nat.le_of_ble_eq_true rfl⟩) (fun H locs hw => ?_)
                      rw [show (16 : Int32) * b + z = zbi (b, z) from rfl]
                      refine zm_iast Cx hw (k := 24) (n := 64) (by decide) (by omega) dX8_setRoute_318 (fun H locs hw => ?_)
                      refine lv_aload_n hx hb dX8_setRoute_319 rfl (lv_at hl 2 rfl) ?_
                      refine z_get Cx hw (T := TX8) (N := 26) (ci := 11) (fun _ h => List.mem_cons_of_mem _ (List.mem_append_right _ (h))) zM_x rfl 25 (by decide) (List.mem_of_getElem? (i := 5) rfl) rfl rfl dX8_setRoute_320 ?_
                      refine lv_bipush (v := nI 8) hx hb dX8_setRoute_323 rfl ?_
                      refine lv_iload_n hx hb dX8_setRoute_325 rfl (lv_at hl 3 rfl) ?_
                      refine lv_imul hx hb dX8_setRoute_326 ?_
                      refine lv_topi (fun x_326 ex_326 => ?_)
                      rw [zi_mul] at ex_326
                      subst ex_326
                      refine lv_iload hx hb dX8_setRoute_327 (lv_at hl 0 rfl) ?_
                      refine lv_iadd hx hb dX8_setRoute_329 ?_
                      refine lv_topi (fun x_329 ex_329 => ?_)
                      rw [nI_add] at ex_329
                      subst ex_329
                      refine lv_iload hx hb dX8_setRoute_330 (lv_at hl 6 rfl) ?_
                      refine zm_iast Cx hw (k := 25) (n := 64) (by decide) (by omega) dX8_setRoute_332 (fun H locs hw => ?_)
                      refine lv_aload_n hx hb dX8_setRoute_333 rfl (lv_at hl 2 rfl) ?_
                      refine z_get Cx hw (T := TX8) (N := 26) (ci := 11) (fun _ h => List.mem_cons_of_mem _ (List.mem_append_right _ (h))) zM_x rfl 23 (by decide) (List.mem_of_getElem? (i := 3) rfl) rfl rfl dX8_setRoute_334 ?_
                      refine lv_iload_n hx hb dX8_setRoute_337 rfl (lv_at hl 3 rfl) ?_
                      refine lv_dup2_11 hx hb dX8_setRoute_338 rfl rfl ?_
                      refine zm_iald Cx hw (k := 23) (n := 8) (by decide) hk8 dX8_setRoute_339 ?_
                      refine lv_topi (fun x_339 ex_339 => ?_)
                      have e_339 := ex_339.trans (hsz)
                      clear ex_339
                      subst e_339
                      refine lv_iload hx hb dX8_setRoute_340 (lv_at hl 9 rfl) ?_
                      refine lv_iconst (v := -1) hx hb dX8_setRoute_342 (by decide) ?_
                      refine lv_icmp_ne (tgt := 350) hx hb dX8_setRoute_343 (by decide) (fun c_343 => ?_) (fun c_343 => ?_)
                      · skip
                        exact absurd c_178 c_343
                      · skip
                        refine lv_iconst (v := nI 1) hx hb dX8_setRoute_346 rfl ?_
                        refine lv_goto (tgt := 351) hx hb dX8_setRoute_347 (by decide) ?_
                        refine lv_iadd hx hb dX8_setRoute_351 ?_
                        refine lv_topi (fun x_351 ex_351 => ?_)
                        rw [nI_add] at ex_351
                        subst ex_351
                        refine zm_iast Cx hw (k := 23) (n := 8) (by decide) hk8 dX8_setRoute_352 (fun H locs hw => ?_)
                        refine lv_iload hx hb dX8_setRoute_353 (lv_at hl 1 rfl) ?_
                        exact z_iret (wf := (fun (u : zU) => zQ E (X ++ zMw E y ad u.2.1 u.2.2.1) C)) Cx hr rfl (Nat.le_of_ble_eq_true rfl) (Nat.le_of_ble_eq_true rfl) (0, _, _, _) hw ⟨Or.inr ⟨hare, k, v, rfl, hv, Or.inr ⟨hbz, Or.inr ⟨Or.inr (Or.inr hl8), rfl, Or.inr ⟨hno, rfl, Or.inr ⟨c_202, rfl⟩⟩⟩⟩⟩, zMT_radd (zMT_0 hT _) hv hl8 (b, z) pe, rfl⟩ dX8_setRoute_355
                · skip
                  refine lv_iload hx hb dX8_setRoute_205 (lv_at hl 8 rfl) ?_
                  refine lv_iconst (v := -1) hx hb dX8_setRoute_207 (by decide) ?_
                  refine lv_icmp_eq (tgt := 277) hx hb dX8_setRoute_208 (by decide) (fun c_208 => ?_) (fun c_208 => ?_)
                  · skip
                    refine lv_iload hx hb dX8_setRoute_277 (lv_at hl 5 rfl) ?_
                    refine lv_iconst (v := -1) hx hb dX8_setRoute_279 (by decide) ?_
                    refine lv_icmp_eq (tgt := 353) hx hb dX8_setRoute_280 (by decide) (fun c_280 => ?_) (fun c_280 => ?_)
                    · skip
                      refine lv_iload hx hb dX8_setRoute_353 (lv_at hl 0 rfl) ?_
                      exact z_iret (wf := (fun (u : zU) => zQ E (X ++ zMw E y ad u.2.1 u.2.2.1) C)) Cx hr rfl (Nat.le_of_ble_eq_true rfl) (Nat.le_of_ble_eq_true rfl) (0, _, _, V) hw ⟨Or.inr ⟨hare, k, v, rfl, hv, Or.inr ⟨hbz, Or.inr ⟨Or.inl c_202, rfl, Or.inr ⟨hno, rfl, Or.inl ⟨c_202, rfl⟩⟩⟩⟩⟩, zMT_0 hT _, rfl⟩ dX8_setRoute_355
                    · skip
                      exact absurd c_202 c_280
                  · skip
                    exact absurd c_178 c_208
            refine lv_iload hx hb dX8_setRoute_139 (lv_at hl 4 rfl) ?_
            refine lv_iconst (v := -1) hx hb dX8_setRoute_141 (by decide) ?_
            refine lv_icmp_eq (tgt := 166) hx hb dX8_setRoute_142 (by decide) (fun c_142 => ?_) (fun c_142 => ?_)
            · skip
              refine lv_iconst (v := nI 0) hx hb dX8_setRoute_166 rfl ?_
              refine z_goe hw.2 (z_runV Cx hw (c_X8_holds E l X C y ad sc g _) (cwV 1 Cx.1.2.2.2.2 gX8_setRoute_X8_holds rfl rfl rfl (by decide +kernel) ⟨Nat.le_of_ble_eq_true rfl, Nat.le_of_ble_eq_true rfl⟩) (z_recv Cx hw (r := (RX8, TX8, 26)) zM_x rfl) rfl hl.1 rfl (Nat.le_of_ble_eq_true rfl) dX8_setRoute_167 ⟨Nat.le_of_ble_eq_true rfl, Nat.le_of_ble_eq_true rfl⟩) (fun H locs hw => ?_)
              refine lv_if_ne (tgt := 175) hx hb dX8_setRoute_170 (by decide) (fun c_170 => ?_) (fun c_170 => ?_)
              · skip
                exact cut_175  H _ ls (Or.inl c_142) hw (lv_sub hl [0, 1, 2, 3, 4, 5, 6, 7] rfl)
              · skip
                exact absurd c_170 (by decide)
            · skip
              refine lv_iload hx hb dX8_setRoute_145 (lv_at hl 7 rfl) ?_
              refine lv_iconst (v := -1) hx hb dX8_setRoute_147 (by decide) ?_
              refine lv_icmp_ne (tgt := 166) hx hb dX8_setRoute_148 (by decide) (fun c_148 => ?_) (fun c_148 => ?_)
              · skip
                refine lv_iconst (v := nI 0) hx hb dX8_setRoute_166 rfl ?_
                refine z_goe hw.2 (z_runV Cx hw (c_X8_holds E l X C y ad sc g _) (cwV 1 Cx.1.2.2.2.2 gX8_setRoute_X8_holds rfl rfl rfl (by decide +kernel) ⟨Nat.le_of_ble_eq_true rfl, Nat.le_of_ble_eq_true rfl⟩) (z_recv Cx hw (r := (RX8, TX8, 26)) zM_x rfl) rfl hl.1 rfl (Nat.le_of_ble_eq_true rfl) dX8_setRoute_167 ⟨Nat.le_of_ble_eq_true rfl, Nat.le_of_ble_eq_true rfl⟩) (fun H locs hw => ?_)
                refine lv_if_ne (tgt := 175) hx hb dX8_setRoute_170 (by decide) (fun c_170 => ?_) (fun c_170 => ?_)
                · skip
                  exact cut_175  H _ ls (Or.inr (Or.inl c_148)) hw (lv_sub hl [0, 1, 2, 3, 4, 5, 6, 7] rfl)
                · skip
                  exact absurd c_170 (by decide)
              · skip
                refine lv_aload_n hx hb dX8_setRoute_151 rfl (lv_at hl 0 rfl) ?_
                refine z_get Cx hw (T := TX8) (N := 26) (ci := 11) (fun _ h => List.mem_cons_of_mem _ (List.mem_append_right _ (h))) zM_x rfl 23 (by decide) (List.mem_of_getElem? (i := 3) rfl) rfl rfl dX8_setRoute_152 ?_
                refine lv_iload_n hx hb dX8_setRoute_155 rfl (lv_at hl 1 rfl) ?_
                refine zm_iald Cx hw (k := 23) (n := 8) (by decide) hk8 dX8_setRoute_156 ?_
                refine lv_topi (fun x_156 ex_156 => ?_)
                have e_156 := ex_156.trans (hsz)
                clear ex_156
                subst e_156
                refine lv_bipush (v := nI 8) hx hb dX8_setRoute_157 rfl ?_
                refine lv_icmp_ne (tgt := 166) hx hb dX8_setRoute_159 (by decide) (fun c_159 => ?_) (fun c_159 => ?_)
                · skip
                  have hcd : v.2.2.2.length < 8 := by
                    have h9 : ¬ v.2.2.2.length = 8 := fun h => c_159 (by rw [h])
                    omega
                  refine lv_iconst (v := nI 0) hx hb dX8_setRoute_166 rfl ?_
                  refine z_goe hw.2 (z_runV Cx hw (c_X8_holds E l X C y ad sc g _) (cwV 1 Cx.1.2.2.2.2 gX8_setRoute_X8_holds rfl rfl rfl (by decide +kernel) ⟨Nat.le_of_ble_eq_true rfl, Nat.le_of_ble_eq_true rfl⟩) (z_recv Cx hw (r := (RX8, TX8, 26)) zM_x rfl) rfl hl.1 rfl (Nat.le_of_ble_eq_true rfl) dX8_setRoute_167 ⟨Nat.le_of_ble_eq_true rfl, Nat.le_of_ble_eq_true rfl⟩) (fun H locs hw => ?_)
                  refine lv_if_ne (tgt := 175) hx hb dX8_setRoute_170 (by decide) (fun c_170 => ?_) (fun c_170 => ?_)
                  · skip
                    exact cut_175  H _ ls (Or.inr (Or.inr hcd)) hw (lv_sub hl [0, 1, 2, 3, 4, 5, 6, 7] rfl)
                  · skip
                    exact absurd c_170 (by decide)
                · skip
                  have hl8 : ¬ v.2.2.2.length < 8 := by
                    have h9 := (nI_eq (a := v.2.2.2.length) (b := 8) (by omega) (by omega)).mp c_159
                    omega
                  have hcd : ¬ (pe = -1 ∨ (∃ w ∈ v.2.2.2, w.1 = (b, z)) ∨ v.2.2.2.length < 8) := fun h => by
                    rcases h with h | ⟨w, hw1, ew⟩ | h
                    · exact c_142 h
                    · rcases hexk with h | ⟨n, w2, e2, hw2, -⟩
                      · exact h.2 w hw1 ew
                      · rw [c_148] at e2
                        exact z_nm1 (n := n) (by have := (List.getElem?_eq_some_iff.mp hw2).1; omega) e2.symm
                    · exact hl8 h
                  refine lv_iconst (v := nI 3) hx hb dX8_setRoute_162 rfl ?_
                  refine lv_goto (tgt := 167) hx hb dX8_setRoute_163 (by decide) ?_
                  refine z_goe hw.2 (z_runV Cx hw (c_X8_holds E l X C y ad sc g _) (cwV 1 Cx.1.2.2.2.2 gX8_setRoute_X8_holds rfl rfl rfl (by decide +kernel) ⟨Nat.le_of_ble_eq_true rfl, Nat.le_of_ble_eq_true rfl⟩) (z_recv Cx hw (r := (RX8, TX8, 26)) zM_x rfl) rfl hl.1 rfl (Nat.le_of_ble_eq_true rfl) dX8_setRoute_167 ⟨Nat.le_of_ble_eq_true rfl, Nat.le_of_ble_eq_true rfl⟩) (fun H locs hw => ?_)
                  refine lv_if_ne (tgt := 175) hx hb dX8_setRoute_170 (by decide) (fun c_170 => ?_) (fun c_170 => ?_)
                  · skip
                    exact absurd (by decide) c_170
                  · skip
                    refine lv_iconst (v := 0) hx hb dX8_setRoute_173 (by decide) ?_
                    exact z_iret (wf := (fun (u : zU) => zQ E (X ++ zMw E y ad u.2.1 u.2.2.1) C)) Cx hr rfl (Nat.le_of_ble_eq_true rfl) (Nat.le_of_ble_eq_true rfl) (3, _, _, V) hw ⟨Or.inr ⟨hare, k, v, rfl, hv, Or.inr ⟨hbz, Or.inl ⟨rfl, rfl, hcd⟩⟩⟩, zMT_0 hT _, rfl⟩ dX8_setRoute_174
          · skip
            have hbz : ¬ zbok b z := fun h => by
              have h9 := (zb_0 _).mp c_132
              rw [hq2.mpr ⟨hq1t, h⟩] at h9; cases h9
            refine lv_iconst (v := nI 2) hx hb dX8_setRoute_135 rfl ?_
            refine lv_goto (tgt := 167) hx hb dX8_setRoute_136 (by decide) ?_
            refine z_goe hw.2 (z_runV Cx hw (c_X8_holds E l X C y ad sc g _) (cwV 1 Cx.1.2.2.2.2 gX8_setRoute_X8_holds rfl rfl rfl (by decide +kernel) ⟨Nat.le_of_ble_eq_true rfl, Nat.le_of_ble_eq_true rfl⟩) (z_recv Cx hw (r := (RX8, TX8, 26)) zM_x rfl) rfl hl.1 rfl (Nat.le_of_ble_eq_true rfl) dX8_setRoute_167 ⟨Nat.le_of_ble_eq_true rfl, Nat.le_of_ble_eq_true rfl⟩) (fun H locs hw => ?_)
            refine lv_if_ne (tgt := 175) hx hb dX8_setRoute_170 (by decide) (fun c_170 => ?_) (fun c_170 => ?_)
            · skip
              exact absurd (by decide) c_170
            · skip
              refine lv_iconst (v := 0) hx hb dX8_setRoute_173 (by decide) ?_
              exact z_iret (wf := (fun (u : zU) => zQ E (X ++ zMw E y ad u.2.1 u.2.2.1) C)) Cx hr rfl (Nat.le_of_ble_eq_true rfl) (Nat.le_of_ble_eq_true rfl) (2, _, _, V) hw ⟨Or.inr ⟨hare, k, v, rfl, hv, Or.inl ⟨rfl, rfl, hbz⟩⟩, zMT_0 hT _, rfl⟩ dX8_setRoute_174
        · skip
          have hzq1 : ¬ (zix f (vS V).length ∧ (pe = -1 ∨ zix pe (vP V).length)) := fun h => by
            have h9 := (zb_0 _).mp c_123
            rw [hq1.mpr h] at h9; cases h9
          refine lv_iconst (v := nI 1) hx hb dX8_setRoute_126 rfl ?_
          refine lv_goto (tgt := 167) hx hb dX8_setRoute_127 (by decide) ?_
          refine z_goe hw.2 (z_runV Cx hw (c_X8_holds E l X C y ad sc g _) (cwV 1 Cx.1.2.2.2.2 gX8_setRoute_X8_holds rfl rfl rfl (by decide +kernel) ⟨Nat.le_of_ble_eq_true rfl, Nat.le_of_ble_eq_true rfl⟩) (z_recv Cx hw (r := (RX8, TX8, 26)) zM_x rfl) rfl hl.1 rfl (Nat.le_of_ble_eq_true rfl) dX8_setRoute_167 ⟨Nat.le_of_ble_eq_true rfl, Nat.le_of_ble_eq_true rfl⟩) (fun H locs hw => ?_)
          refine lv_if_ne (tgt := 175) hx hb dX8_setRoute_170 (by decide) (fun c_170 => ?_) (fun c_170 => ?_)
          · skip
            exact absurd (by decide) c_170
          · skip
            refine lv_iconst (v := 0) hx hb dX8_setRoute_173 (by decide) ?_
            exact z_iret (wf := (fun (u : zU) => zQ E (X ++ zMw E y ad u.2.1 u.2.2.1) C)) Cx hr rfl (Nat.le_of_ble_eq_true rfl) (Nat.le_of_ble_eq_true rfl) (1, _, _, V) hw ⟨Or.inl ⟨rfl, rfl, hzq1⟩, zMT_0 hT _, rfl⟩ dX8_setRoute_174
      refine lv_iconst (v := nI 0) hx hb dX8_setRoute_59 rfl ?_
      refine lv_istore hx hb dX8_setRoute_60 hl (by decide) rfl (fun ls hl => ?_)
      have hl : lv_has ls 10 [(8, .int (nI 0)), (7, .int (-1)), (0, .ref y), (1, .int f), (2, .int b), (3, .int z), (4, .int pe), (5, .int (zb q1)), (6, .int (zb q2))] := hl
      have loop_62 : ∀ (nn : Nat) (i : Nat) (tv : Int32) (H : Heap) (locs : List Loc) (ls : Array Slot), (i ≤ 8) → (q2 = true → ∀ (k : Nat) (v : zSb), f = nI k → (vS V)[k]? = some v → ((tv = -1 ∧ ∀ (n : Nat) (w : zRt), n < i → v.2.2.2[n]? = some w → ¬ w.1 = (b, z)) ∨ ∃ (n : Nat) (w : zRt), tv = nI n ∧ v.2.2.2[n]? = some w ∧ w.1 = (b, z))) → 8 - i < nn → zHw E (zQ E (X ++ zMw E y ad sc g) C) s H locs → lv_has ls 10 [(0, .ref y), (1, .int f), (2, .int b), (3, .int z), (4, .int pe), (5, .int (zb q1)), (6, .int (zb q2)), (7, .int tv), (8, .int (nI i))] → W p l e (zR 3 0 0) s m ([.ref y, .int f, .int b, .int z, .int pe] : List Value).toArray below meth c H locs 0 0 (MQ below (zPm E X C y ad (zA_setRoute V f b z pe)) ([.ref y, .int f, .int b, .int z, .int pe] : List Value).toArray s 0 0 (eA E)) (F0 m 62 ls []) := by
        intro nn
        induction nn with
        | zero => intro i tv H locs ls hi hat hm; exact absurd hm (Nat.not_lt_zero _)
        | succ nn ih_62 =>
          intro i tv H locs ls hi hat hm hw hl
          refine lv_iload hx hb dX8_setRoute_62 (lv_at hl 8 rfl) ?_
          refine lv_bipush (v := nI 8) hx hb dX8_setRoute_64 rfl ?_
          refine lv_icmp_ge (tgt := 120) hx hb dX8_setRoute_66 (by decide) (fun c_66 => ?_) (fun c_66 => ?_)
          · skip
            have hi8 : i = 8 := by
              have := (nI_leI (a := 8) (b := i) (by omega) (by omega)).mp c_66
              omega
            exact cut_120 tv H _ ls (fun h k v e1 hv => (hat h k v e1 hv).imp (fun h => ⟨h.1, fun w hw1 => by
              obtain ⟨n, hn⟩ := List.getElem?_of_mem hw1
              have hle := (hR.2.1.2.2 k v hv).2.2.2.2.1
              exact h.2 n w (by have := (List.getElem?_eq_some_iff.mp hn).1; omega) hn⟩) (fun h => h)) hw (lv_sub hl [0, 1, 2, 3, 4, 5, 6, 7] rfl)
          · skip
            have hi8 : i < 8 := by
              rcases Nat.lt_or_ge i 8 with h | h
              · exact h
              · exact absurd (nI_le (a := 8) h (by omega)) c_66
            refine lv_iload hx hb dX8_setRoute_69 (lv_at hl 6 rfl) ?_
            refine lv_if_eq (tgt := 120) hx hb dX8_setRoute_71 (by decide) (fun c_71 => ?_) (fun c_71 => ?_)
            · skip
              exact cut_120 tv H _ ls (fun h => by rw [(zb_0 _).mp c_71] at h; cases h) hw (lv_sub hl [0, 1, 2, 3, 4, 5, 6, 7] rfl)
            · skip
              have hq2t : q2 = true := (zb_1 _).mp c_71
              obtain ⟨hq1t, hbz⟩ := hq2.mp hq2t
              obtain ⟨⟨k, hk, rfl⟩, hpe⟩ := hq1.mp hq1t
              obtain ⟨v, hv⟩ : ∃ v, (vS V)[k]? = some v := ⟨_, List.getElem?_eq_getElem hk⟩
              obtain ⟨-, -, -, ⟨hsz, hle, hru⟩⟩ := hR.2.1.2.2 k v hv
              have hk8 : k < 8 := by omega
              have huv : ∀ k9 v9, nI k = nI k9 → (vS V)[k9]? = some v9 → v9 = v := fun k9 v9 e9 h9 => (z_ixeq (f := nI k) rfl h9 hv e9 rfl (by omega)).2
              have hvr := hI.2.1 v (List.mem_of_getElem? hv)
              refine lv_iload hx hb dX8_setRoute_74 (lv_at hl 8 rfl) ?_
              refine lv_aload_n hx hb dX8_setRoute_76 rfl (lv_at hl 0 rfl) ?_
              refine z_get Cx hw (T := TX8) (N := 26) (ci := 11) (fun _ h => List.mem_cons_of_mem _ (List.mem_append_right _ (h))) zM_x rfl 23 (by decide) (List.mem_of_getElem? (i := 3) rfl) rfl rfl dX8_setRoute_77 ?_
              refine lv_iload_n hx hb dX8_setRoute_80 rfl (lv_at hl 1 rfl) ?_
              refine zm_iald Cx hw (k := 23) (n := 8) (by decide) hk8 dX8_setRoute_81 ?_
              refine lv_topi (fun x_81 ex_81 => ?_)
              have e_81 := ex_81.trans (hsz)
              clear ex_81
              subst e_81
              refine lv_icmp_ge (tgt := 110) hx hb dX8_setRoute_82 (by decide) (fun c_82 => ?_) (fun c_82 => ?_)
              · skip
                have hil : v.2.2.2.length ≤ i := (nI_leI (by omega) (by omega)).mp c_82
                have hat2 : q2 = true → ∀ (k0 : Nat) (v : zSb), nI k = nI k0 → (vS V)[k0]? = some v → ((tv = -1 ∧ ∀ (n : Nat) (w : zRt), n < (i + 1) → v.2.2.2[n]? = some w → ¬ w.1 = (b, z)) ∨ ∃ (n : Nat) (w : zRt), tv = nI n ∧ v.2.2.2[n]? = some w ∧ w.1 = (b, z)) := fun h k9 v9 e9 h9 => (hat h k9 v9 e9 h9).imp (fun hh => ⟨hh.1, fun n w hn hw1 => hh.2 n w (by rw [huv k9 v9 e9 h9] at hw1; have := (List.getElem?_eq_some_iff.mp hw1).1; omega) hw1⟩) (fun hh => hh)
                refine lv_iload hx hb dX8_setRoute_110 (lv_at hl 7 rfl) ?_
                refine lv_istore hx hb dX8_setRoute_112 hl (by decide) rfl (fun ls hl => ?_)
                have hl : lv_has ls 10 [(7, .int tv), (0, .ref y), (1, .int (nI k)), (2, .int b), (3, .int z), (4, .int pe), (5, .int (zb q1)), (6, .int (zb q2)), (8, .int (nI i))] := hl
                refine lv_iinc (v := nI (i + 1)) hx hb dX8_setRoute_114 hl (k := 8) rfl (nI_1 i) (by decide) rfl (fun ls hl => ?_)
                have hl : lv_has ls 10 [(8, .int (nI (i + 1))), (7, .int tv), (0, .ref y), (1, .int (nI k)), (2, .int b), (3, .int z), (4, .int pe), (5, .int (zb q1)), (6, .int (zb q2))] := hl
                refine lv_goto (tgt := 62) hx hb dX8_setRoute_117 (by decide) ?_
                exact ih_62 (i + 1) tv H _ ls (by omega) hat2 (by omega) hw (lv_sub hl [2, 3, 4, 5, 6, 7, 8, 1, 0] rfl)
              · skip
                have hil : i < v.2.2.2.length := by
                  rcases Nat.lt_or_ge i v.2.2.2.length with h | h
                  · exact h
                  · exact absurd (nI_le h (by omega)) c_82
                obtain ⟨w, hw1⟩ : ∃ w, v.2.2.2[i]? = some w := ⟨_, List.getElem?_eq_getElem hil⟩
                obtain ⟨r1, r2⟩ := hru i w hw1
                have hwk := (hvr.2.2.2.1 w (List.mem_of_getElem? hw1)).1
                refine lv_aload_n hx hb dX8_setRoute_85 rfl (lv_at hl 0 rfl) ?_
                refine z_get Cx hw (T := TX8) (N := 26) (ci := 11) (fun _ h => List.mem_cons_of_mem _ (List.mem_append_right _ (h))) zM_x rfl 24 (by decide) (List.mem_of_getElem? (i := 4) rfl) rfl rfl dX8_setRoute_86 ?_
                refine lv_bipush (v := nI 8) hx hb dX8_setRoute_89 rfl ?_
                refine lv_iload_n hx hb dX8_setRoute_91 rfl (lv_at hl 1 rfl) ?_
                refine lv_imul hx hb dX8_setRoute_92 ?_
                refine lv_topi (fun x_92 ex_92 => ?_)
                rw [zi_mul] at ex_92
                subst ex_92
                refine lv_iload hx hb dX8_setRoute_93 (lv_at hl 8 rfl) ?_
                refine lv_iadd hx hb dX8_setRoute_95 ?_
                refine lv_topi (fun x_95 ex_95 => ?_)
                rw [nI_add] at ex_95
                subst ex_95
                refine zm_iald Cx hw (k := 24) (n := 64) (by decide) (by omega) dX8_setRoute_96 ?_
                refine lv_topi (fun x_96 ex_96 => ?_)
                have e_96 := ex_96.trans (r1)
                clear ex_96
                subst e_96
                refine lv_iload_n hx hb dX8_setRoute_97 rfl (lv_at hl 2 rfl) ?_
                refine lv_iload_n hx hb dX8_setRoute_98 rfl (lv_at hl 3 rfl) ?_
                refine z_goe hw.2 (z_runS Cx hw (c_X8_block E l (zQ E (X ++ zMw E y ad sc g) C) b z) (va_cwS 2 Cx.1.2.2.2.2 gX8_setRoute_X8_block rfl rfl rfl (by decide +kernel) ⟨Nat.le_of_ble_eq_true rfl, Nat.le_of_ble_eq_true rfl⟩)  rfl hl.1 rfl (Nat.le_of_ble_eq_true rfl) dX8_setRoute_99 ⟨Nat.le_of_ble_eq_true rfl, Nat.le_of_ble_eq_true rfl⟩) (fun H locs hw => ?_)
                rw [show (16 : Int32) * b + z = zbi (b, z) from rfl]
                refine lv_icmp_ne (tgt := 110) hx hb dX8_setRoute_102 (by decide) (fun c_102 => ?_) (fun c_102 => ?_)
                · skip
                  have hwn : ¬ w.1 = (b, z) := fun h => c_102 (by rw [h])
                  have hat2 : q2 = true → ∀ (k0 : Nat) (v : zSb), nI k = nI k0 → (vS V)[k0]? = some v → ((tv = -1 ∧ ∀ (n : Nat) (w : zRt), n < (i + 1) → v.2.2.2[n]? = some w → ¬ w.1 = (b, z)) ∨ ∃ (n : Nat) (w : zRt), tv = nI n ∧ v.2.2.2[n]? = some w ∧ w.1 = (b, z)) := fun h k9 v9 e9 h9 => (hat h k9 v9 e9 h9).imp (fun hh => ⟨hh.1, fun n w2 hn hw2 => by
                    rcases Nat.lt_or_ge n i with c9 | c9
                    · exact hh.2 n w2 c9 hw2
                    · rw [huv k9 v9 e9 h9, show n = i by omega, hw1] at hw2
                      rw [← Option.some.inj hw2]; exact hwn⟩) (fun hh => hh)
                  refine lv_iload hx hb dX8_setRoute_110 (lv_at hl 7 rfl) ?_
                  refine lv_istore hx hb dX8_setRoute_112 hl (by decide) rfl (fun ls hl => ?_)
                  have hl : lv_has ls 10 [(7, .int tv), (0, .ref y), (1, .int (nI k)), (2, .int b), (3, .int z), (4, .int pe), (5, .int (zb q1)), (6, .int (zb q2)), (8, .int (nI i))] := hl
                  refine lv_iinc (v := nI (i + 1)) hx hb dX8_setRoute_114 hl (k := 8) rfl (nI_1 i) (by decide) rfl (fun ls hl => ?_)
                  have hl : lv_has ls 10 [(8, .int (nI (i + 1))), (7, .int tv), (0, .ref y), (1, .int (nI k)), (2, .int b), (3, .int z), (4, .int pe), (5, .int (zb q1)), (6, .int (zb q2))] := hl
                  refine lv_goto (tgt := 62) hx hb dX8_setRoute_117 (by decide) ?_
                  exact ih_62 (i + 1) tv H _ ls (by omega) hat2 (by omega) hw (lv_sub hl [2, 3, 4, 5, 6, 7, 8, 1, 0] rfl)
                · skip
                  have hwe : w.1 = (b, z) := zbi_inj hwk hbz c_102
                  have hat3 : q2 = true → ∀ (k0 : Nat) (v : zSb), nI k = nI k0 → (vS V)[k0]? = some v → ((nI i = -1 ∧ ∀ (n : Nat) (w : zRt), n < (i + 1) → v.2.2.2[n]? = some w → ¬ w.1 = (b, z)) ∨ ∃ (n : Nat) (w : zRt), nI i = nI n ∧ v.2.2.2[n]? = some w ∧ w.1 = (b, z)) := fun h k9 v9 e9 h9 => Or.inr ⟨i, w, rfl, by rw [huv k9 v9 e9 h9]; exact hw1, hwe⟩
                  refine lv_iload hx hb dX8_setRoute_105 (lv_at hl 8 rfl) ?_
                  refine lv_goto (tgt := 112) hx hb dX8_setRoute_107 (by decide) ?_
                  refine lv_istore hx hb dX8_setRoute_112 hl (by decide) rfl (fun ls hl => ?_)
                  have hl : lv_has ls 10 [(7, .int (nI i)), (0, .ref y), (1, .int (nI k)), (2, .int b), (3, .int z), (4, .int pe), (5, .int (zb q1)), (6, .int (zb q2)), (8, .int (nI i))] := hl
                  refine lv_iinc (v := nI (i + 1)) hx hb dX8_setRoute_114 hl (k := 8) rfl (nI_1 i) (by decide) rfl (fun ls hl => ?_)
                  have hl : lv_has ls 10 [(8, .int (nI (i + 1))), (7, .int (nI i)), (0, .ref y), (1, .int (nI k)), (2, .int b), (3, .int z), (4, .int pe), (5, .int (zb q1)), (6, .int (zb q2))] := hl
                  refine lv_goto (tgt := 62) hx hb dX8_setRoute_117 (by decide) ?_
                  exact ih_62 (i + 1) (nI i) H _ ls (by omega) hat3 (by omega) hw (lv_sub hl [2, 3, 4, 5, 6, 7, 8, 1, 0] rfl)
      exact loop_62 ((8 - 0) + 1) 0 (-1) _ _ ls (by omega) (fun _ k v _ _ => Or.inl ⟨rfl, fun n w h => absurd h (Nat.not_lt_zero _)⟩) (Nat.lt_succ_self _) hw (lv_sub hl [2, 3, 4, 5, 6, 7, 8, 1, 0] rfl)
    refine lv_if_eq (tgt := 53) hx hb dX8_setRoute_38 (by decide) (fun c_38 => ?_) (fun c_38 => ?_)
    · skip
      refine lv_iconst (v := zb false) hx hb dX8_setRoute_53 rfl ?_
      refine lv_istore hx hb dX8_setRoute_54 hl (by decide) rfl (fun ls hl => ?_)
      have hl : lv_has ls 10 [(6, .int (zb false)), (0, .ref y), (1, .int f), (2, .int b), (3, .int z), (4, .int pe), (5, .int (zb q1))] := hl
      exact cut_56 false H _ ls (iff_of_false Bool.false_ne_true (fun h => by rw [(zb_0 _).mp c_38] at h; cases h.1)) hw (lv_sub hl [1, 2, 3, 4, 5, 6, 0] rfl)
    · skip
      have hq1t : q1 = true := (zb_1 _).mp c_38
      refine lv_iload_n hx hb dX8_setRoute_41 rfl (lv_at hl 2 rfl) ?_
      refine lv_iload_n hx hb dX8_setRoute_42 rfl (lv_at hl 3 rfl) ?_
      refine z_goe hw.2 (z_runS Cx hw (c_X8_isBlock E l (zQ E (X ++ zMw E y ad sc g) C) b z) (va_cwS 2 Cx.1.2.2.2.2 gX8_setRoute_X8_isBlock rfl rfl rfl (by decide +kernel) ⟨Nat.le_of_ble_eq_true rfl, Nat.le_of_ble_eq_true rfl⟩)  rfl hl.1 rfl (Nat.le_of_ble_eq_true rfl) dX8_setRoute_43 ⟨Nat.le_of_ble_eq_true rfl, Nat.le_of_ble_eq_true rfl⟩) (fun H locs hw => ?_)
      refine lv_topi (fun x_43 ex_43 => ?_)
      obtain ⟨q3, hq3, e_43⟩ : ∃ q : Bool, (q = true ↔ zbok b z) ∧ x_43 = zb q := ⟨_, (by rw [decide_eq_true_iff]; exact zmblk_iff b z), ex_43⟩
      clear ex_43
      subst e_43
      refine lv_if_eq (tgt := 53) hx hb dX8_setRoute_46 (by decide) (fun c_46 => ?_) (fun c_46 => ?_)
      · skip
        have hzq3 : ¬ (zbok b z) := fun h => by
          have h9 := (zb_0 _).mp c_46
          rw [hq3.mpr h] at h9; cases h9
        refine lv_iconst (v := zb false) hx hb dX8_setRoute_53 rfl ?_
        refine lv_istore hx hb dX8_setRoute_54 hl (by decide) rfl (fun ls hl => ?_)
        have hl : lv_has ls 10 [(6, .int (zb false)), (0, .ref y), (1, .int f), (2, .int b), (3, .int z), (4, .int pe), (5, .int (zb q1))] := hl
        exact cut_56 false H _ ls (iff_of_false Bool.false_ne_true (fun h => hzq3 h.2)) hw (lv_sub hl [1, 2, 3, 4, 5, 6, 0] rfl)
      · skip
        have hzq3 := hq3.mp ((zb_1 _).mp c_46)
        refine lv_iconst (v := zb true) hx hb dX8_setRoute_49 rfl ?_
        refine lv_goto (tgt := 54) hx hb dX8_setRoute_50 (by decide) ?_
        refine lv_istore hx hb dX8_setRoute_54 hl (by decide) rfl (fun ls hl => ?_)
        have hl : lv_has ls 10 [(6, .int (zb true)), (0, .ref y), (1, .int f), (2, .int b), (3, .int z), (4, .int pe), (5, .int (zb q1))] := hl
        exact cut_56 true H _ ls (iff_of_true rfl ⟨hq1t, hzq3⟩) hw (lv_sub hl [1, 2, 3, 4, 5, 6, 0] rfl)
  refine lv_if_eq (tgt := 33) hx hb dX8_setRoute_8 (by decide) (fun c_8 => ?_) (fun c_8 => ?_)
  · skip
    have hzq0 : ¬ (zix f (vS V).length) := fun h => by
      have h9 := (zb_0 _).mp c_8
      rw [hq0.mpr h] at h9; cases h9
    refine lv_iconst (v := zb false) hx hb dX8_setRoute_33 rfl ?_
    refine lv_istore hx hb dX8_setRoute_34 hl (by decide) rfl (fun ls hl => ?_)
    have hl : lv_has ls 10 [(5, .int (zb false)), (0, .ref y), (1, .int f), (2, .int b), (3, .int z), (4, .int pe)] := hl
    exact cut_36 false H _ ls (iff_of_false Bool.false_ne_true (fun h => hzq0 h.1)) hw (lv_sub hl [1, 2, 3, 4, 5, 0] rfl)
  · skip
    have hzq0 := hq0.mp ((zb_1 _).mp c_8)
    refine lv_iload hx hb dX8_setRoute_11 (lv_at hl 4 rfl) ?_
    refine lv_iconst (v := -1) hx hb dX8_setRoute_13 (by decide) ?_
    refine lv_icmp_eq (tgt := 29) hx hb dX8_setRoute_14 (by decide) (fun c_14 => ?_) (fun c_14 => ?_)
    · skip
      refine lv_iconst (v := zb true) hx hb dX8_setRoute_29 rfl ?_
      refine lv_goto (tgt := 34) hx hb dX8_setRoute_30 (by decide) ?_
      refine lv_istore hx hb dX8_setRoute_34 hl (by decide) rfl (fun ls hl => ?_)
      have hl : lv_has ls 10 [(5, .int (zb true)), (0, .ref y), (1, .int f), (2, .int b), (3, .int z), (4, .int pe)] := hl
      exact cut_36 true H _ ls (iff_of_true rfl ⟨hzq0, Or.inl c_14⟩) hw (lv_sub hl [1, 2, 3, 4, 5, 0] rfl)
    · skip
      refine lv_iload hx hb dX8_setRoute_17 (lv_at hl 4 rfl) ?_
      refine lv_aload_n hx hb dX8_setRoute_19 rfl (lv_at hl 0 rfl) ?_
      refine z_get Cx hw (T := TX8) (N := 26) (ci := 11) (fun _ h => List.mem_cons_of_mem _ (List.mem_append_right _ (h))) zM_x rfl 10 (by decide) (List.mem_of_getElem? (i := 2) rfl) rfl rfl dX8_setRoute_20 ?_
      refine z_goe hw.2 (z_runS Cx hw (c_X8_isIn E l (zQ E (X ++ zMw E y ad sc g) C) pe (sc 10)) (va_cwS 2 Cx.1.2.2.2.2 gX8_setRoute_X8_isIn rfl rfl rfl (by decide +kernel) ⟨Nat.le_of_ble_eq_true rfl, Nat.le_of_ble_eq_true rfl⟩)  rfl hl.1 rfl (Nat.le_of_ble_eq_true rfl) dX8_setRoute_23 ⟨Nat.le_of_ble_eq_true rfl, Nat.le_of_ble_eq_true rfl⟩) (fun H locs hw => ?_)
      refine lv_topi (fun x_23 ex_23 => ?_)
      obtain ⟨q4, hq4, e_23⟩ : ∃ q : Bool, (q = true ↔ zix pe (vP V).length) ∧ x_23 = zb q := ⟨_, (by rw [hn10]; exact zmin_ix (by omega)), ex_23⟩
      clear ex_23
      subst e_23
      refine lv_if_eq (tgt := 33) hx hb dX8_setRoute_26 (by decide) (fun c_26 => ?_) (fun c_26 => ?_)
      · skip
        have hzq4 : ¬ (zix pe (vP V).length) := fun h => by
          have h9 := (zb_0 _).mp c_26
          rw [hq4.mpr h] at h9; cases h9
        refine lv_iconst (v := zb false) hx hb dX8_setRoute_33 rfl ?_
        refine lv_istore hx hb dX8_setRoute_34 hl (by decide) rfl (fun ls hl => ?_)
        have hl : lv_has ls 10 [(5, .int (zb false)), (0, .ref y), (1, .int f), (2, .int b), (3, .int z), (4, .int pe)] := hl
        exact cut_36 false H _ ls (iff_of_false Bool.false_ne_true (fun h => h.2.elim c_14 hzq4)) hw (lv_sub hl [1, 2, 3, 4, 5, 0] rfl)
      · skip
        have hzq4 := hq4.mp ((zb_1 _).mp c_26)
        refine lv_iconst (v := zb true) hx hb dX8_setRoute_29 rfl ?_
        refine lv_goto (tgt := 34) hx hb dX8_setRoute_30 (by decide) ?_
        refine lv_istore hx hb dX8_setRoute_34 hl (by decide) rfl (fun ls hl => ?_)
        have hl : lv_has ls 10 [(5, .int (zb true)), (0, .ref y), (1, .int f), (2, .int b), (3, .int z), (4, .int pe)] := hl
        exact cut_36 true H _ ls (iff_of_true rfl ⟨hzq0, Or.inr hzq4⟩) hw (lv_sub hl [1, 2, 3, 4, 5, 0] rfl)

