/-! the reference's lists: rows moved on, rows moved back -/
def zsh4 (g : Nat → Nat → Int32) (F : (Nat → Int32) → Nat → Int32) : Nat → Nat → Int32 := fun a => if 19 ≤ a ∧ a ≤ 22 then F (g a) else g a
def zshD (f : Nat → Int32) (lo hi : Nat) : Nat → Int32 := fun q => if lo < q ∧ q ≤ hi then f (q - 1) else f q
def zshU (f : Nat → Int32) (lo k : Nat) : Nat → Int32 := fun q => if lo ≤ q ∧ q < k then f (q + 1) else f q
theorem zsh4_eq (g : Nat → Nat → Int32) (a b : Nat) : va_up (va_up (va_up (va_up g 19 (upd (g 19) a (g 19 b))) 20 (upd (g 20) a (g 20 b))) 21 (upd (g 21) a (g 21 b))) 22 (upd (g 22) a (g 22 b)) = zsh4 g (fun f => upd f a (f b)) := by
  funext q
  rcases (show q = 19 ∨ q = 20 ∨ q = 21 ∨ q = 22 ∨ (q ≠ 19 ∧ q ≠ 20 ∧ q ≠ 21 ∧ q ≠ 22) by omega) with rfl | rfl | rfl | rfl | ⟨h1, h2, h3, h4⟩
  · rfl
  · rfl
  · rfl
  · rfl
  · rw [va_up_ne _ _ h4, va_up_ne _ _ h3, va_up_ne _ _ h2, va_up_ne _ _ h1]
    unfold zsh4
    rw [if_neg (by omega)]
theorem zsh4_comp (g : Nat → Nat → Int32) (F G : (Nat → Int32) → Nat → Int32) : zsh4 (zsh4 g F) G = zsh4 g (fun f => G (F f)) := by
  funext a
  unfold zsh4
  by_cases h : 19 ≤ a ∧ a ≤ 22
  · simp only [if_pos h]
  · simp only [if_neg h]
theorem zsh4_id {g : Nat → Nat → Int32} {F : (Nat → Int32) → Nat → Int32} (h : ∀ f, F f = f) : zsh4 g F = g := by
  funext a
  unfold zsh4
  by_cases c : 19 ≤ a ∧ a ≤ 22
  · rw [if_pos c, h]
  · rw [if_neg c]
theorem zsh4_out {g : Nat → Nat → Int32} {F : (Nat → Int32) → Nat → Int32} {a : Nat} (h : a < 19 ∨ 22 < a) : zsh4 g F a = g a := by
  unfold zsh4
  rw [if_neg (by omega)]
theorem zshD_0 (f : Nat → Int32) (n : Nat) : zshD f n n = f := by
  funext q
  unfold zshD
  rw [if_neg (by omega)]
theorem zshU_0 (f : Nat → Int32) (n : Nat) : zshU f n n = f := by
  funext q
  unfold zshU
  rw [if_neg (by omega)]
theorem zshD_step (f : Nat → Int32) {k hi : Nat} (h1 : 1 ≤ k) (h2 : k ≤ hi) : upd (zshD f k hi) k (zshD f k hi (k - 1)) = zshD f (k - 1) hi := by
  funext q
  by_cases e : q = k
  · subst e
    rw [pk_us]
    unfold zshD
    rw [if_neg (by omega), if_pos (by omega)]
  · rw [pk_un e]
    unfold zshD
    by_cases c : k < q ∧ q ≤ hi
    · rw [if_pos c, if_pos (by omega)]
    · rw [if_neg c, if_neg (by omega)]
theorem zshU_step (f : Nat → Int32) {lo k : Nat} (h1 : lo ≤ k) : upd (zshU f lo k) k (zshU f lo k (k + 1)) = zshU f lo (k + 1) := by
  funext q
  by_cases e : q = k
  · subst e
    rw [pk_us]
    unfold zshU
    rw [if_neg (by omega), if_pos (by omega)]
  · rw [pk_un e]
    unfold zshU
    by_cases c : lo ≤ q ∧ q < k
    · rw [if_pos c, if_pos (by omega)]
    · rw [if_neg c, if_neg (by omega)]
def zNb (g : Nat → Nat → Int32) : Prop := ∀ q, vp_nar .boolean (g 19 q) = g 19 q ∧ vp_nar .boolean (g 20 q) = g 20 q
theorem zNb_sh {g : Nat → Nat → Int32} (h : zNb g) {F : (Nat → Int32) → Nat → Int32} (hF : ∀ f q, ∃ q', F f q = f q') : zNb (zsh4 g F) := by
  intro q
  obtain ⟨q1, e1⟩ := hF (g 19) q
  obtain ⟨q2, e2⟩ := hF (g 20) q
  have a1 : zsh4 g F 19 q = g 19 q1 := e1
  have a2 : zsh4 g F 20 q = g 20 q2 := e2
  rw [a1, a2]
  exact ⟨(h q1).1, (h q2).2⟩
theorem zshD_in (lo hi : Nat) : ∀ (f : Nat → Int32) (q : Nat), ∃ q', zshD f lo hi q = f q' := by
  intro f q
  unfold zshD
  by_cases c : lo < q ∧ q ≤ hi
  · rw [if_pos c]; exact ⟨_, rfl⟩
  · rw [if_neg c]; exact ⟨_, rfl⟩
theorem zshU_in (lo k : Nat) : ∀ (f : Nat → Int32) (q : Nat), ∃ q', zshU f lo k q = f q' := by
  intro f q
  unfold zshU
  by_cases c : lo ≤ q ∧ q < k
  · rw [if_pos c]; exact ⟨_, rfl⟩
  · rw [if_neg c]; exact ⟨_, rfl⟩
set_option maxRecDepth 100000 in
set_option maxHeartbeats 4000000 in
/-- copies -/
theorem c_m_copies (E : zG) (l : Launch) (X : va_W) (C : zLs) (y : Nat) (ad : Nat → Nat) (sc : Nat → Int32) (g : Nat → Nat → Int32) (hb0 : zNb g) (a b : Nat) (ha : a < 96) (hb1 : b < 96) : Met l yX8_copies wsX8_copies (zR 2 0 0) (zPre E [.ref y, .int (nI a), .int (nI b)] (zQ E (X ++ zMw E y ad sc g) C)) (zRv E (zQ E (X ++ zMw E y ad sc (zsh4 g (fun f => upd f a (f b)))) C)) 0 0 (eA E) := by
  refine z_of (cc := cX8_copies) (maxL := 3) (ret := none) (by decide) rfl rfl (Nat.le_of_ble_eq_true rfl) ?_
  intro p e s m below meth c ls Cx hr hnm hw hl
  have hx := Cx.1.1
  have hb := Cx.1.2.1
  have hl : lv_has ls 3 [(0, .ref y), (1, .int (nI a)), (2, .int (nI b))] := hl
  refine lv_aload_n hx hb dX8_copies_0 rfl (lv_at hl 0 rfl) ?_
  refine z_get Cx hw (T := TX8) (N := 26) (ci := 11) (fun _ h => List.mem_cons_of_mem _ (List.mem_append_right _ (h))) zM_x rfl 19 (by decide) (List.mem_of_getElem? (i := 1) rfl) rfl rfl dX8_copies_1 ?_
  refine lv_iload_n hx hb dX8_copies_4 rfl (lv_at hl 1 rfl) ?_
  refine lv_aload_n hx hb dX8_copies_5 rfl (lv_at hl 0 rfl) ?_
  refine z_get Cx hw (T := TX8) (N := 26) (ci := 11) (fun _ h => List.mem_cons_of_mem _ (List.mem_append_right _ (h))) zM_x rfl 19 (by decide) (List.mem_of_getElem? (i := 1) rfl) rfl rfl dX8_copies_6 ?_
  refine lv_iload_n hx hb dX8_copies_9 rfl (lv_at hl 2 rfl) ?_
  refine zm_zald Cx hw (k := 19) (n := 96) (by decide) hb1 dX8_copies_10 ?_
  refine zm_zast Cx hw (k := 19) (n := 96) (by decide) ha (hb0 b).1 dX8_copies_11 (fun H locs hw => ?_)
  refine lv_aload_n hx hb dX8_copies_12 rfl (lv_at hl 0 rfl) ?_
  refine z_get Cx hw (T := TX8) (N := 26) (ci := 11) (fun _ h => List.mem_cons_of_mem _ (List.mem_append_right _ (h))) zM_x rfl 20 (by decide) (List.mem_of_getElem? (i := 2) rfl) rfl rfl dX8_copies_13 ?_
  refine lv_iload_n hx hb dX8_copies_16 rfl (lv_at hl 1 rfl) ?_
  refine lv_aload_n hx hb dX8_copies_17 rfl (lv_at hl 0 rfl) ?_
  refine z_get Cx hw (T := TX8) (N := 26) (ci := 11) (fun _ h => List.mem_cons_of_mem _ (List.mem_append_right _ (h))) zM_x rfl 20 (by decide) (List.mem_of_getElem? (i := 2) rfl) rfl rfl dX8_copies_18 ?_
  refine lv_iload_n hx hb dX8_copies_21 rfl (lv_at hl 2 rfl) ?_
  refine zm_zald Cx hw (k := 20) (n := 96) (by decide) hb1 dX8_copies_22 ?_
  refine zm_zast Cx hw (k := 20) (n := 96) (by decide) ha (hb0 b).2 dX8_copies_23 (fun H locs hw => ?_)
  refine lv_aload_n hx hb dX8_copies_24 rfl (lv_at hl 0 rfl) ?_
  refine z_get Cx hw (T := TX8) (N := 26) (ci := 11) (fun _ h => List.mem_cons_of_mem _ (List.mem_append_right _ (h))) zM_x rfl 21 (by decide) (List.mem_of_getElem? (i := 3) rfl) rfl rfl dX8_copies_25 ?_
  refine lv_iload_n hx hb dX8_copies_28 rfl (lv_at hl 1 rfl) ?_
  refine lv_aload_n hx hb dX8_copies_29 rfl (lv_at hl 0 rfl) ?_
  refine z_get Cx hw (T := TX8) (N := 26) (ci := 11) (fun _ h => List.mem_cons_of_mem _ (List.mem_append_right _ (h))) zM_x rfl 21 (by decide) (List.mem_of_getElem? (i := 3) rfl) rfl rfl dX8_copies_30 ?_
  refine lv_iload_n hx hb dX8_copies_33 rfl (lv_at hl 2 rfl) ?_
  refine zm_iald Cx hw (k := 21) (n := 96) (by decide) hb1 dX8_copies_34 ?_
  refine zm_iast Cx hw (k := 21) (n := 96) (by decide) ha dX8_copies_35 (fun H locs hw => ?_)
  refine lv_aload_n hx hb dX8_copies_36 rfl (lv_at hl 0 rfl) ?_
  refine z_get Cx hw (T := TX8) (N := 26) (ci := 11) (fun _ h => List.mem_cons_of_mem _ (List.mem_append_right _ (h))) zM_x rfl 22 (by decide) (List.mem_of_getElem? (i := 4) rfl) rfl rfl dX8_copies_37 ?_
  refine lv_iload_n hx hb dX8_copies_40 rfl (lv_at hl 1 rfl) ?_
  refine lv_aload_n hx hb dX8_copies_41 rfl (lv_at hl 0 rfl) ?_
  refine z_get Cx hw (T := TX8) (N := 26) (ci := 11) (fun _ h => List.mem_cons_of_mem _ (List.mem_append_right _ (h))) zM_x rfl 22 (by decide) (List.mem_of_getElem? (i := 4) rfl) rfl rfl dX8_copies_42 ?_
  refine lv_iload_n hx hb dX8_copies_45 rfl (lv_at hl 2 rfl) ?_
  refine zm_iald Cx hw (k := 22) (n := 96) (by decide) hb1 dX8_copies_46 ?_
  refine zm_iast Cx hw (k := 22) (n := 96) (by decide) ha dX8_copies_47 (fun H locs hw => ?_)
  have hw : zHw E (zQ E (X ++ zMw E y ad sc (zsh4 g (fun f => upd f a (f b)))) C) s H locs := by rw [← zsh4_eq]; exact hw
  exact (z_ve Cx hr (Nat.le_of_ble_eq_true rfl) (Nat.le_of_ble_eq_true rfl) hw dX8_copies_48)

section
variable {sc : Nat → Int32} {g : Nat → Nat → Int32} {V : zCl}
theorem zMT_put (h : zMT sc g V) {k : Nat} {v : zSb} (hv : (vS V)[k]? = some v) {j : Nat} (hj : j ≤ v.2.2.1.length) (hl : v.2.2.1.length < 12) (i al : Bool) (w : zBk) (po : Int32) {G : Nat → Nat → Int32} (hG : G = zsh4 g (fun f => zshD f (12 * k + j) (12 * k + v.2.2.1.length))) :
    zMT sc (va_up (va_up (va_up (va_up (va_up G 19 (upd (G 19) (12 * k + j) (zb i))) 20 (upd (G 20) (12 * k + j) (zb al))) 21 (upd (G 21) (12 * k + j) (zbi w))) 22 (upd (G 22) (12 * k + j) po)) 18 (upd (G 18) k (nI (v.2.2.1.length + 1)))) (vN V, (vS V).set k (v.1, v.2.1, v.2.2.1.insertIdx j (zb i, zb al, w, po), v.2.2.2), V.2.2) := by
  have hN : zNb G := by rw [hG]; exact zNb_sh (fun q => (h.2.2.2.2 q).2) (zshD_in _ _)
  have ho : ∀ a, (a < 19 ∨ 22 < a) → G a = g a := fun a ha => by rw [hG]; exact zsh4_out ha
  have hin : ∀ a, 19 ≤ a → a ≤ 22 → G a = zshD (g a) (12 * k + j) (12 * k + v.2.2.1.length) := fun a h1 h2 => by rw [hG]; exact if_pos ⟨h1, h2⟩
  have hlen : (v.2.2.1.insertIdx j (zb i, zb al, w, po)).length = v.2.2.1.length + 1 := List.length_insertIdx_of_le_length hj _
  obtain ⟨-, -, ⟨-, -, hru⟩, -⟩ := h.1.2.1.2.2 k v hv
  refine zMT_rules h hv (fun a e1 e2 e3 e4 e5 => ?_) ?_ (by omega) (fun a a1 a2 q hq => ?_) (fun j2 r hr => ?_) (fun q => ⟨?_, ?_⟩)
  · rw [va_up_ne _ _ e1, va_up_ne _ _ e5, va_up_ne _ _ e4, va_up_ne _ _ e3, va_up_ne _ _ e2]
    exact ho a (by omega)
  · rw [va_up_self, hlen, ho 18 (by omega)]
  · have hq2 : q ≠ 12 * k + j := by omega
    have hsh : zshD (g a) (12 * k + j) (12 * k + v.2.2.1.length) q = g a q := by
      unfold zshD
      rw [if_neg (by omega)]
    rcases (show a = 19 ∨ a = 20 ∨ a = 21 ∨ a = 22 by omega) with rfl | rfl | rfl | rfl
    · show upd (G 19) _ _ q = _
      rw [pk_un hq2, hin 19 (by omega) (by omega), hsh]
    · show upd (G 20) _ _ q = _
      rw [pk_un hq2, hin 20 (by omega) (by omega), hsh]
    · show upd (G 21) _ _ q = _
      rw [pk_un hq2, hin 21 (by omega) (by omega), hsh]
    · show upd (G 22) _ _ q = _
      rw [pk_un hq2, hin 22 (by omega) (by omega), hsh]
  · rw [List.getElem?_insertIdx] at hr
    by_cases c1 : j2 < j
    · rw [if_pos c1] at hr
      obtain ⟨f1, f2, f3, f4⟩ := hru j2 r hr
      have hq2 : 12 * k + j2 ≠ 12 * k + j := by omega
      have hsh : ∀ a, zshD (g a) (12 * k + j) (12 * k + v.2.2.1.length) (12 * k + j2) = g a (12 * k + j2) := fun a => by
        unfold zshD
        rw [if_neg (by omega)]
      refine ⟨?_, ?_, ?_, ?_⟩
      · show upd (G 19) _ _ _ = _
        rw [pk_un hq2, hin 19 (by omega) (by omega), hsh, f1]
      · show upd (G 20) _ _ _ = _
        rw [pk_un hq2, hin 20 (by omega) (by omega), hsh, f2]
      · show upd (G 21) _ _ _ = _
        rw [pk_un hq2, hin 21 (by omega) (by omega), hsh, f3]
      · show upd (G 22) _ _ _ = _
        rw [pk_un hq2, hin 22 (by omega) (by omega), hsh, f4]
    · rw [if_neg c1] at hr
      by_cases c2 : j2 = j
      · rw [if_pos c2, if_pos (by omega)] at hr
        cases hr
        rw [c2]
        exact ⟨pk_us, pk_us, pk_us, pk_us⟩
      · rw [if_neg c2] at hr
        have hjl := (List.getElem?_eq_some_iff.mp hr).1
        obtain ⟨f1, f2, f3, f4⟩ := hru (j2 - 1) r hr
        have hq2 : 12 * k + j2 ≠ 12 * k + j := by omega
        have hsh : ∀ a, zshD (g a) (12 * k + j) (12 * k + v.2.2.1.length) (12 * k + j2) = g a (12 * k + (j2 - 1)) := fun a => by
          unfold zshD
          rw [if_pos (by omega), show 12 * k + j2 - 1 = 12 * k + (j2 - 1) by omega]
        refine ⟨?_, ?_, ?_, ?_⟩
        · show upd (G 19) _ _ _ = _
          rw [pk_un hq2, hin 19 (by omega) (by omega), hsh, f1]
        · show upd (G 20) _ _ _ = _
          rw [pk_un hq2, hin 20 (by omega) (by omega), hsh, f2]
        · show upd (G 21) _ _ _ = _
          rw [pk_un hq2, hin 21 (by omega) (by omega), hsh, f3]
        · show upd (G 22) _ _ _ = _
          rw [pk_un hq2, hin 22 (by omega) (by omega), hsh, f4]
  · exact zn_upd (fun q => (hN q).1) (zn_b i) _ q
  · exact zn_upd (fun q => (hN q).2) (zn_b al) _ q
theorem zMT_rem (h : zMT sc g V) {k : Nat} {v : zSb} (hv : (vS V)[k]? = some v) {j : Nat} (hj : j < v.2.2.1.length) {G : Nat → Nat → Int32} (hG : G = zsh4 (va_up g 18 (upd (g 18) k (nI (v.2.2.1.length - 1)))) (fun f => zshU f (12 * k + j) (12 * k + (v.2.2.1.length - 1)))) :
    zMT sc G (vN V, (vS V).set k (v.1, v.2.1, v.2.2.1.eraseIdx j, v.2.2.2), V.2.2) := by
  have ho : ∀ a, (a < 19 ∨ 22 < a) → G a = va_up g 18 (upd (g 18) k (nI (v.2.2.1.length - 1))) a := fun a ha => by rw [hG]; exact zsh4_out ha
  have hin : ∀ a, 19 ≤ a → a ≤ 22 → G a = zshU (g a) (12 * k + j) (12 * k + (v.2.2.1.length - 1)) := fun a h1 h2 => by
    rw [hG]
    unfold zsh4
    rw [if_pos ⟨h1, h2⟩, va_up_ne _ _ (by omega)]
  have hlen : (v.2.2.1.eraseIdx j).length = v.2.2.1.length - 1 := by rw [List.length_eraseIdx, if_pos hj]
  obtain ⟨-, -, ⟨-, hle, hru⟩, -⟩ := h.1.2.1.2.2 k v hv
  have hN := fun q => (h.2.2.2.2 q).2
  refine zMT_rules h hv (fun a e1 e2 e3 e4 e5 => ?_) ?_ (by omega) (fun a a1 a2 q hq => ?_) (fun j2 r hr => ?_) (fun q => ⟨?_, ?_⟩)
  · rw [ho a (by omega), va_up_ne _ _ e1]
  · rw [ho 18 (by omega), va_up_self, hlen]
  · rw [hin a a1 a2]
    unfold zshU
    rw [if_neg (by omega)]
  · rw [List.getElem?_eraseIdx] at hr
    by_cases c1 : j2 < j
    · rw [if_pos c1] at hr
      obtain ⟨f1, f2, f3, f4⟩ := hru j2 r hr
      have hsh : ∀ a, zshU (g a) (12 * k + j) (12 * k + (v.2.2.1.length - 1)) (12 * k + j2) = g a (12 * k + j2) := fun a => by
        unfold zshU
        rw [if_neg (by omega)]
      exact ⟨by rw [hin 19 (by omega) (by omega), hsh, f1], by rw [hin 20 (by omega) (by omega), hsh, f2], by rw [hin 21 (by omega) (by omega), hsh, f3], by rw [hin 22 (by omega) (by omega), hsh, f4]⟩
    · rw [if_neg c1] at hr
      have hjl := (List.getElem?_eq_some_iff.mp hr).1
      obtain ⟨f1, f2, f3, f4⟩ := hru (j2 + 1) r hr
      have hsh : ∀ a, zshU (g a) (12 * k + j) (12 * k + (v.2.2.1.length - 1)) (12 * k + j2) = g a (12 * k + (j2 + 1)) := fun a => by
        unfold zshU
        rw [if_pos (by omega), Nat.add_assoc]
      exact ⟨by rw [hin 19 (by omega) (by omega), hsh, f1], by rw [hin 20 (by omega) (by omega), hsh, f2], by rw [hin 21 (by omega) (by omega), hsh, f3], by rw [hin 22 (by omega) (by omega), hsh, f4]⟩
  · obtain ⟨q1, e1⟩ := zshU_in (12 * k + j) (12 * k + (v.2.2.1.length - 1)) (g 19) q
    rw [hin 19 (by omega) (by omega), e1]
    exact (hN q1).1
  · obtain ⟨q1, e1⟩ := zshU_in (12 * k + j) (12 * k + (v.2.2.1.length - 1)) (g 20) q
    rw [hin 20 (by omega) (by omega), e1]
    exact (hN q1).2
end
set_option maxRecDepth 100000 in
set_option maxHeartbeats 4000000 in
/-- putRule -/
theorem c_m_putRule (E : zG) (l : Launch) (X : va_W) (C : zLs) (y : Nat) (ad : Nat → Nat) (sc : Nat → Int32) (g : Nat → Nat → Int32) (V : zCl) (hT : zMT sc g V) (hI : zInv V) (f pl : Int32) (i al : Bool) (b z fp la : Int32) : Met l yX8_putRule wsX8_putRule (zR 3 0 0) (zPre E [.ref y, .int f, .int pl, .int (zb i), .int (zb al), .int b, .int z, .int fp, .int la] (zQ E (X ++ zMw E y ad sc g) C)) (zPm E X C y ad (zA_putRule V f pl i al b z fp la)) 0 0 (eA E) := by
  refine z_of (cc := cX8_putRule) (maxL := 13) (ret := (some .int)) (by decide) rfl rfl (Nat.le_of_ble_eq_true rfl) ?_
  intro p e s m below meth c ls Cx hr hnm hw hl
  have hx := Cx.1.1
  have hb := Cx.1.2.1
  have hR := hT.1
  have hn1 : sc 1 = nI (vN V).length := hR.1.1
  have hm1 := hR.1.2.1
  have hn3 : sc 3 = nI (vS V).length := hR.2.1.1
  have hm3 := hR.2.1.2.1
  have hn6 : sc 6 = nI (vH V).length := hR.2.2.1.1
  have hm6 := hR.2.2.1.2.1
  have hn10 : sc 10 = nI (vP V).length := hR.2.2.2.1.1
  have hm10 := hR.2.2.2.1.2.1
  have hn13 : sc 13 = nI (vG V).length := hR.2.2.2.2.1
  have hm13 := hR.2.2.2.2.2.1
  have hl : lv_has ls 13 [(0, .ref y), (1, .int f), (2, .int pl), (3, .int (zb i)), (4, .int (zb al)), (5, .int b), (6, .int z), (7, .int fp), (8, .int la)] := hl
  refine lv_iload_n hx hb dX8_putRule_0 rfl (lv_at hl 1 rfl) ?_
  refine lv_aload_n hx hb dX8_putRule_1 rfl (lv_at hl 0 rfl) ?_
  refine z_get Cx hw (T := TX8) (N := 26) (ci := 11) (fun _ h => List.mem_cons_of_mem _ (List.mem_append_right _ (h))) zM_x rfl 3 (by decide) (List.mem_of_getElem? (i := 1) rfl) rfl rfl dX8_putRule_2 ?_
  refine z_goe hw.2 (z_runS Cx hw (c_X8_isIn E l (zQ E (X ++ zMw E y ad sc g) C) f (sc 3)) (va_cwS 2 Cx.1.2.2.2.2 gX8_putRule_X8_isIn rfl rfl rfl (by decide +kernel) ⟨Nat.le_of_ble_eq_true rfl, Nat.le_of_ble_eq_true rfl⟩)  rfl hl.1 rfl (Nat.le_of_ble_eq_true rfl) dX8_putRule_5 ⟨Nat.le_of_ble_eq_true rfl, Nat.le_of_ble_eq_true rfl⟩) (fun H locs hw => ?_)
  refine lv_topi (fun x_5 ex_5 => ?_)
  obtain ⟨q0, hq0, e_5⟩ : ∃ q : Bool, (q = true ↔ zix f (vS V).length) ∧ x_5 = zb q := ⟨_, (by rw [hn3]; exact zmin_ix (by omega)), ex_5⟩
  clear ex_5
  subst e_5
  have cut_32 : ∀ (q1 : Bool) (H : Heap) (locs : List Loc) (ls : Array Slot), (q1 = true ↔ ∃ k j v, zPl V f pl k j v 1) → zHw E (zQ E (X ++ zMw E y ad sc g) C) s H locs → lv_has ls 13 [(0, .ref y), (1, .int f), (2, .int pl), (3, .int (zb i)), (4, .int (zb al)), (5, .int b), (6, .int z), (7, .int fp), (8, .int la), (9, .int (zb q1))] → W p l e (zR 3 0 0) s m ([.ref y, .int f, .int pl, .int (zb i), .int (zb al), .int b, .int z, .int fp, .int la] : List Value).toArray below meth c H locs 0 0 (MQ below (zPm E X C y ad (zA_putRule V f pl i al b z fp la)) ([.ref y, .int f, .int pl, .int (zb i), .int (zb al), .int b, .int z, .int fp, .int la] : List Value).toArray s 0 0 (eA E)) (F0 m 32 ls []) := by
    intro q1 H locs ls hq1 hw hl
    refine lv_iload hx hb dX8_putRule_32 (lv_at hl 5 rfl) ?_
    refine lv_iload hx hb dX8_putRule_34 (lv_at hl 6 rfl) ?_
    refine z_goe hw.2 (z_runS Cx hw (c_X8_isBlock E l (zQ E (X ++ zMw E y ad sc g) C) b z) (va_cwS 2 Cx.1.2.2.2.2 gX8_putRule_X8_isBlock rfl rfl rfl (by decide +kernel) ⟨Nat.le_of_ble_eq_true rfl, Nat.le_of_ble_eq_true rfl⟩)  rfl hl.1 rfl (Nat.le_of_ble_eq_true rfl) dX8_putRule_36 ⟨Nat.le_of_ble_eq_true rfl, Nat.le_of_ble_eq_true rfl⟩) (fun H locs hw => ?_)
    refine lv_topi (fun x_36 ex_36 => ?_)
    obtain ⟨q3, hq3, e_36⟩ : ∃ q : Bool, (q = true ↔ zbok b z) ∧ x_36 = zb q := ⟨_, (by rw [decide_eq_true_iff]; exact zmblk_iff b z), ex_36⟩
    clear ex_36
    subst e_36
    have cut_59 : ∀ (q2 : Bool) (H : Heap) (locs : List Loc) (ls : Array Slot), (q2 = true ↔ (zbok b z ∧ zpok fp la)) → zHw E (zQ E (X ++ zMw E y ad sc g) C) s H locs → lv_has ls 13 [(0, .ref y), (1, .int f), (2, .int pl), (3, .int (zb i)), (4, .int (zb al)), (5, .int b), (6, .int z), (7, .int fp), (8, .int la), (9, .int (zb q1)), (10, .int (zb q2))] → W p l e (zR 3 0 0) s m ([.ref y, .int f, .int pl, .int (zb i), .int (zb al), .int b, .int z, .int fp, .int la] : List Value).toArray below meth c H locs 0 0 (MQ below (zPm E X C y ad (zA_putRule V f pl i al b z fp la)) ([.ref y, .int f, .int pl, .int (zb i), .int (zb al), .int b, .int z, .int fp, .int la] : List Value).toArray s 0 0 (eA E)) (F0 m 59 ls []) := by
      intro q2 H locs ls hq2 hw hl
      refine lv_aload_n hx hb dX8_putRule_59 rfl (lv_at hl 0 rfl) ?_
      refine lv_iload hx hb dX8_putRule_60 (lv_at hl 9 rfl) ?_
      refine lv_if_ne (tgt := 69) hx hb dX8_putRule_62 (by decide) (fun c_62 => ?_) (fun c_62 => ?_)
      · skip
        have hzq1 := hq1.mp ((zb_1 _).mp c_62)
        have hpl := hzq1
        obtain ⟨k, j, v, rfl, hv, rfl, hj⟩ := hzq1
        obtain ⟨-, -, ⟨hsz, hle, hru⟩, -⟩ := hR.2.1.2.2 k v hv
        have hk := (List.getElem?_eq_some_iff.mp hv).1
        have hk8 : k < 8 := by omega
        refine lv_iload hx hb dX8_putRule_69 (lv_at hl 10 rfl) ?_
        refine lv_if_ne (tgt := 78) hx hb dX8_putRule_71 (by decide) (fun c_71 => ?_) (fun c_71 => ?_)
        · skip
          have hzq2 := hq2.mp ((zb_1 _).mp c_71)
          refine lv_aload_n hx hb dX8_putRule_78 rfl (lv_at hl 0 rfl) ?_
          refine z_get Cx hw (T := TX8) (N := 26) (ci := 11) (fun _ h => List.mem_cons_of_mem _ (List.mem_append_right _ (h))) zM_x rfl 18 (by decide) (List.mem_of_getElem? (i := 2) rfl) rfl rfl dX8_putRule_79 ?_
          refine lv_iload_n hx hb dX8_putRule_82 rfl (lv_at hl 1 rfl) ?_
          refine zm_iald Cx hw (k := 18) (n := 8) (by decide) hk8 dX8_putRule_83 ?_
          refine lv_topi (fun x_83 ex_83 => ?_)
          have e_83 := ex_83.trans (hsz)
          clear ex_83
          subst e_83
          refine lv_bipush (v := nI 12) hx hb dX8_putRule_84 rfl ?_
          refine lv_icmp_ne (tgt := 93) hx hb dX8_putRule_86 (by decide) (fun c_86 => ?_) (fun c_86 => ?_)
          · skip
            have hcd : v.2.2.1.length < 12 := by
              have h9 : ¬ v.2.2.1.length = 12 := fun h => c_86 (by rw [h])
              omega
            refine lv_iconst (v := nI 0) hx hb dX8_putRule_93 rfl ?_
            refine z_goe hw.2 (z_runV Cx hw (c_X8_holds E l X C y ad sc g _) (cwV 1 Cx.1.2.2.2.2 gX8_putRule_X8_holds rfl rfl rfl (by decide +kernel) ⟨Nat.le_of_ble_eq_true rfl, Nat.le_of_ble_eq_true rfl⟩) (z_recv Cx hw (r := (RX8, TX8, 26)) zM_x rfl) rfl hl.1 rfl (Nat.le_of_ble_eq_true rfl) dX8_putRule_94 ⟨Nat.le_of_ble_eq_true rfl, Nat.le_of_ble_eq_true rfl⟩) (fun H locs hw => ?_)
            refine lv_if_ne (tgt := 102) hx hb dX8_putRule_97 (by decide) (fun c_97 => ?_) (fun c_97 => ?_)
            · skip
              refine lv_bipush (v := nI 12) hx hb dX8_putRule_102 rfl ?_
              refine lv_iload_n hx hb dX8_putRule_104 rfl (lv_at hl 1 rfl) ?_
              refine lv_imul hx hb dX8_putRule_105 ?_
              refine lv_topi (fun x_105 ex_105 => ?_)
              rw [zi_mul] at ex_105
              subst ex_105
              refine lv_iload_n hx hb dX8_putRule_106 rfl (lv_at hl 2 rfl) ?_
              refine lv_iadd hx hb dX8_putRule_107 ?_
              refine lv_topi (fun x_107 ex_107 => ?_)
              rw [nI_add] at ex_107
              subst ex_107
              refine lv_istore hx hb dX8_putRule_108 hl (by decide) rfl (fun ls hl => ?_)
              have hl : lv_has ls 13 [(11, .int (nI (12 * k + j))), (0, .ref y), (1, .int (nI k)), (2, .int (nI j)), (3, .int (zb i)), (4, .int (zb al)), (5, .int b), (6, .int z), (7, .int fp), (8, .int la), (9, .int (zb q1)), (10, .int (zb q2))] := hl
              refine lv_bipush (v := nI 12) hx hb dX8_putRule_110 rfl ?_
              refine lv_iload_n hx hb dX8_putRule_112 rfl (lv_at hl 2 rfl) ?_
              refine lv_imul hx hb dX8_putRule_113 ?_
              refine lv_topi (fun x_113 ex_113 => ?_)
              rw [zi_mul] at ex_113
              subst ex_113
              refine lv_aload_n hx hb dX8_putRule_114 rfl (lv_at hl 1 rfl) ?_
              refine z_get Cx hw (T := TX8) (N := 26) (ci := 11) (fun _ h => List.mem_cons_of_mem _ (List.mem_append_right _ (h))) zM_x rfl 18 (by decide) (List.mem_of_getElem? (i := 2) rfl) rfl rfl dX8_putRule_115 ?_
              refine lv_iload_n hx hb dX8_putRule_118 rfl (lv_at hl 2 rfl) ?_
              refine zm_iald Cx hw (k := 18) (n := 8) (by decide) hk8 dX8_putRule_119 ?_
              refine lv_topi (fun x_119 ex_119 => ?_)
              have e_119 := ex_119.trans (hsz)
              clear ex_119
              subst e_119
              refine lv_iadd hx hb dX8_putRule_120 ?_
              refine lv_topi (fun x_120 ex_120 => ?_)
              rw [nI_add] at ex_120
              subst ex_120
              refine lv_istore hx hb dX8_putRule_121 hl (by decide) rfl (fun ls hl => ?_)
              have hl : lv_has ls 13 [(12, .int (nI (12 * k + v.2.2.1.length))), (11, .int (nI (12 * k + j))), (0, .ref y), (1, .int (nI k)), (2, .int (nI j)), (3, .int (zb i)), (4, .int (zb al)), (5, .int b), (6, .int z), (7, .int fp), (8, .int la), (9, .int (zb q1)), (10, .int (zb q2))] := hl
              have hw : zHw E (zQ E (X ++ zMw E y ad (va_up sc 0 (nI 0)) (zsh4 g (fun f => zshD f (12 * k + v.2.2.1.length) (12 * k + v.2.2.1.length)))) C) s H locs := by rw [zsh4_id (fun f => zshD_0 f _)]; exact hw
              have loop_123 : ∀ (nn : Nat) (q : Nat) (H : Heap) (locs : List Loc) (ls : Array Slot), (12 * k + j ≤ q ∧ q ≤ 12 * k + v.2.2.1.length) → q < nn → zHw E (zQ E (X ++ zMw E y ad (va_up sc 0 (nI 0)) (zsh4 g (fun f => zshD f q (12 * k + v.2.2.1.length)))) C) s H locs → lv_has ls 13 [(0, .ref y), (1, .int (nI k)), (2, .int (nI j)), (3, .int (zb i)), (4, .int (zb al)), (5, .int b), (6, .int z), (7, .int fp), (8, .int la), (11, .int (nI (12 * k + j))), (12, .int (nI q))] → W p l e (zR 3 0 0) s m ([.ref y, .int (nI k), .int (nI j), .int (zb i), .int (zb al), .int b, .int z, .int fp, .int la] : List Value).toArray below meth c H locs 0 0 (MQ below (zPm E X C y ad (zA_putRule V (nI k) (nI j) i al b z fp la)) ([.ref y, .int (nI k), .int (nI j), .int (zb i), .int (zb al), .int b, .int z, .int fp, .int la] : List Value).toArray s 0 0 (eA E)) (F0 m 123 ls []) := by
                intro nn
                induction nn with
                | zero => intro q H locs ls hq hm; exact absurd hm (Nat.not_lt_zero _)
                | succ nn ih_123 =>
                  intro q H locs ls hq hm hw hl
                  refine lv_iload hx hb dX8_putRule_123 (lv_at hl 10 rfl) ?_
                  refine lv_iload hx hb dX8_putRule_125 (lv_at hl 9 rfl) ?_
                  refine lv_icmp_le (tgt := 146) hx hb dX8_putRule_127 (by decide) (fun c_127 => ?_) (fun c_127 => ?_)
                  · skip
                    have hqe : q = 12 * k + j := by
                      have := (nI_leI (a := q) (b := 12 * k + j) (by omega) (by omega)).mp c_127
                      omega
                    subst hqe
                    refine lv_aload_n hx hb dX8_putRule_146 rfl (lv_at hl 0 rfl) ?_
                    refine z_get Cx hw (T := TX8) (N := 26) (ci := 11) (fun _ h => List.mem_cons_of_mem _ (List.mem_append_right _ (h))) zM_x rfl 19 (by decide) (List.mem_of_getElem? (i := 3) rfl) rfl rfl dX8_putRule_147 ?_
                    refine lv_iload hx hb dX8_putRule_150 (lv_at hl 9 rfl) ?_
                    refine lv_iload_n hx hb dX8_putRule_152 rfl (lv_at hl 3 rfl) ?_
                    refine zm_zast Cx hw (k := 19) (n := 96) (by decide) (by omega) (zn_b i) dX8_putRule_153 (fun H locs hw => ?_)
                    refine lv_aload_n hx hb dX8_putRule_154 rfl (lv_at hl 0 rfl) ?_
                    refine z_get Cx hw (T := TX8) (N := 26) (ci := 11) (fun _ h => List.mem_cons_of_mem _ (List.mem_append_right _ (h))) zM_x rfl 20 (by decide) (List.mem_of_getElem? (i := 4) rfl) rfl rfl dX8_putRule_155 ?_
                    refine lv_iload hx hb dX8_putRule_158 (lv_at hl 9 rfl) ?_
                    refine lv_iload hx hb dX8_putRule_160 (lv_at hl 4 rfl) ?_
                    refine zm_zast Cx hw (k := 20) (n := 96) (by decide) (by omega) (zn_b al) dX8_putRule_162 (fun H locs hw => ?_)
                    refine lv_aload_n hx hb dX8_putRule_163 rfl (lv_at hl 0 rfl) ?_
                    refine z_get Cx hw (T := TX8) (N := 26) (ci := 11) (fun _ h => List.mem_cons_of_mem _ (List.mem_append_right _ (h))) zM_x rfl 21 (by decide) (List.mem_of_getElem? (i := 5) rfl) rfl rfl dX8_putRule_164 ?_
                    refine lv_iload hx hb dX8_putRule_167 (lv_at hl 9 rfl) ?_
                    refine lv_iload hx hb dX8_putRule_169 (lv_at hl 5 rfl) ?_
                    refine lv_iload hx hb dX8_putRule_171 (lv_at hl 6 rfl) ?_
                    refine z_goe hw.2 (z_runS Cx hw (c_X8_block E l _ b z) (va_cwS 2 Cx.1.2.2.2.2 gX8_putRule_X8_block rfl rfl rfl (by decide +kernel) ⟨Nat.le_of_ble_eq_true rfl, Nat.le_of_ble_eq_true rfl⟩)  rfl hl.1 rfl (Nat.le_of_ble_eq_true rfl) dX8_putRule_173 ⟨Nat.le_of_ble_eq_true rfl, Nat.le_of_ble_eq_true rfl⟩) (fun H locs hw => ?_)
                    rw [show (16 : Int32) * b + z = zbi (b, z) from rfl]
                    refine zm_iast Cx hw (k := 21) (n := 96) (by decide) (by omega) dX8_putRule_176 (fun H locs hw => ?_)
                    refine lv_aload_n hx hb dX8_putRule_177 rfl (lv_at hl 0 rfl) ?_
                    refine z_get Cx hw (T := TX8) (N := 26) (ci := 11) (fun _ h => List.mem_cons_of_mem _ (List.mem_append_right _ (h))) zM_x rfl 22 (by decide) (List.mem_of_getElem? (i := 6) rfl) rfl rfl dX8_putRule_178 ?_
                    refine lv_iload hx hb dX8_putRule_181 (lv_at hl 9 rfl) ?_
                    refine lv_iload hx hb dX8_putRule_183 (lv_at hl 7 rfl) ?_
                    refine lv_iload hx hb dX8_putRule_185 (lv_at hl 8 rfl) ?_
                    refine z_goe hw.2 (z_runS Cx hw (c_X8_portSet E l _ fp la) (va_cwS 2 Cx.1.2.2.2.2 gX8_putRule_X8_portSet rfl rfl rfl (by decide +kernel) ⟨Nat.le_of_ble_eq_true rfl, Nat.le_of_ble_eq_true rfl⟩)  rfl hl.1 rfl (Nat.le_of_ble_eq_true rfl) dX8_putRule_187 ⟨Nat.le_of_ble_eq_true rfl, Nat.le_of_ble_eq_true rfl⟩) (fun H locs hw => ?_)
                    refine zm_iast Cx hw (k := 22) (n := 96) (by decide) (by omega) dX8_putRule_190 (fun H locs hw => ?_)
                    refine lv_aload_n hx hb dX8_putRule_191 rfl (lv_at hl 0 rfl) ?_
                    refine z_get Cx hw (T := TX8) (N := 26) (ci := 11) (fun _ h => List.mem_cons_of_mem _ (List.mem_append_right _ (h))) zM_x rfl 18 (by decide) (List.mem_of_getElem? (i := 2) rfl) rfl rfl dX8_putRule_192 ?_
                    refine lv_iload_n hx hb dX8_putRule_195 rfl (lv_at hl 1 rfl) ?_
                    refine lv_dup2_11 hx hb dX8_putRule_196 rfl rfl ?_
                    refine zm_iald Cx hw (k := 18) (n := 8) (by decide) hk8 dX8_putRule_197 ?_
                    refine lv_topi (fun x_197 ex_197 => ?_)
                    have e_197 := ex_197.trans (hsz)
                    clear ex_197
                    subst e_197
                    refine lv_iconst (v := 1) hx hb dX8_putRule_198 (by decide) ?_
                    refine lv_iadd hx hb dX8_putRule_199 ?_
                    rw [show nI v.2.2.1.length + 1 = nI (v.2.2.1.length + 1) from nI_1 _]
                    refine zm_iast Cx hw (k := 18) (n := 8) (by decide) hk8 dX8_putRule_200 (fun H locs hw => ?_)
                    refine lv_aload_n hx hb dX8_putRule_201 rfl (lv_at hl 0 rfl) ?_
                    refine z_get Cx hw (T := TX8) (N := 26) (ci := 11) (fun _ h => List.mem_cons_of_mem _ (List.mem_append_right _ (h))) zM_x rfl 18 (by decide) (List.mem_of_getElem? (i := 2) rfl) rfl rfl dX8_putRule_202 ?_
                    refine lv_iload_n hx hb dX8_putRule_205 rfl (lv_at hl 1 rfl) ?_
                    refine zm_iald Cx hw (k := 18) (n := 8) (by decide) hk8 dX8_putRule_206 ?_
                    exact z_iret (wf := (fun (u : zU) => zQ E (X ++ zMw E y ad u.2.1 u.2.2.1) C)) Cx hr rfl (Nat.le_of_ble_eq_true rfl) (Nat.le_of_ble_eq_true rfl) (0, _, _, _) hw ⟨Or.inr ⟨hpl, k, j, v, ⟨rfl, hv, rfl, hj⟩, Or.inr ⟨hzq2, Or.inr ⟨hcd, rfl, rfl, pk_us⟩⟩⟩, zMT_put (zMT_0 hT _) hv (by omega) hcd i al (b, z) (zps fp la) rfl, rfl⟩ dX8_putRule_207
                  · skip
                    have hql : 12 * k + j < q := by
                      rcases Nat.lt_or_ge (12 * k + j) q with h | h
                      · exact h
                      · exact absurd (nI_le h (by omega)) c_127
                    have hq1 : 1 ≤ q := by omega
                    refine lv_aload_n hx hb dX8_putRule_130 rfl (lv_at hl 0 rfl) ?_
                    refine lv_iload hx hb dX8_putRule_131 (lv_at hl 10 rfl) ?_
                    refine lv_iload hx hb dX8_putRule_133 (lv_at hl 10 rfl) ?_
                    refine lv_iconst (v := nI 1) hx hb dX8_putRule_135 rfl ?_
                    refine lv_isub hx hb dX8_putRule_136 ?_
                    rw [show nI q - nI 1 = nI (q - 1) from pk_sub hq1]
                    have hnb : zNb (zsh4 g (fun f => zshD f q (12 * k + v.2.2.1.length))) := zNb_sh (fun q => (hT.2.2.2.2 q).2) (zshD_in q (12 * k + v.2.2.1.length))
                    have hq96 : q < 96 := by omega
                    have hq97 : q - 1 < 96 := by omega
                    refine z_goev hw.2 (z_runV Cx hw (c_m_copies E l X C y ad (va_up sc 0 (nI 0)) (zsh4 g (fun f => zshD f q (12 * k + v.2.2.1.length))) hnb q (q - 1) hq96 hq97) (cwV 2 Cx.1.2.2.2.2 gX8_putRule_X8_copies rfl rfl rfl (by decide +kernel) ⟨Nat.le_of_ble_eq_true rfl, Nat.le_of_ble_eq_true rfl⟩) (z_recv Cx hw (r := (RX8, TX8, 26)) zM_x rfl) rfl hl.1 rfl (Nat.le_of_ble_eq_true rfl) dX8_putRule_137 ⟨Nat.le_of_ble_eq_true rfl, Nat.le_of_ble_eq_true rfl⟩) (fun H locs hw => ?_)
                    rw [zsh4_comp] at hw
                    rw [show (fun f => upd (zshD f q (12 * k + v.2.2.1.length)) q (zshD f q (12 * k + v.2.2.1.length) (q - 1))) = fun f => zshD f (q - 1) (12 * k + v.2.2.1.length) from funext (fun f => zshD_step f hq1 hq.2)] at hw
                    refine lv_iinc (v := nI (q - 1)) hx hb dX8_putRule_140 hl (k := 10) rfl (z_dec hq1) (by decide) rfl (fun ls hl => ?_)
                    have hl : lv_has ls 13 [(12, .int (nI (q - 1))), (0, .ref y), (1, .int (nI k)), (2, .int (nI j)), (3, .int (zb i)), (4, .int (zb al)), (5, .int b), (6, .int z), (7, .int fp), (8, .int la), (11, .int (nI (12 * k + j)))] := hl
                    refine lv_goto (tgt := 123) hx hb dX8_putRule_143 (by decide) ?_
                    exact ih_123 (q - 1) H _ ls (by omega) (by omega) hw (lv_sub hl [1, 2, 3, 4, 5, 6, 7, 8, 9, 10, 0] rfl)
              exact loop_123 ((12 * k + v.2.2.1.length) + 1) (12 * k + v.2.2.1.length) _ _ ls (by omega) (Nat.lt_succ_self _) hw (lv_sub hl [2, 3, 4, 5, 6, 7, 8, 9, 10, 1, 0] rfl)
            · skip
              exact absurd c_97 (by decide)
          · skip
            have hcd : ¬ v.2.2.1.length < 12 := by
              have h9 := (nI_eq (a := v.2.2.1.length) (b := 12) (by omega) (by omega)).mp c_86
              omega
            refine lv_iconst (v := nI 3) hx hb dX8_putRule_89 rfl ?_
            refine lv_goto (tgt := 94) hx hb dX8_putRule_90 (by decide) ?_
            refine z_goe hw.2 (z_runV Cx hw (c_X8_holds E l X C y ad sc g _) (cwV 1 Cx.1.2.2.2.2 gX8_putRule_X8_holds rfl rfl rfl (by decide +kernel) ⟨Nat.le_of_ble_eq_true rfl, Nat.le_of_ble_eq_true rfl⟩) (z_recv Cx hw (r := (RX8, TX8, 26)) zM_x rfl) rfl hl.1 rfl (Nat.le_of_ble_eq_true rfl) dX8_putRule_94 ⟨Nat.le_of_ble_eq_true rfl, Nat.le_of_ble_eq_true rfl⟩) (fun H locs hw => ?_)
            refine lv_if_ne (tgt := 102) hx hb dX8_putRule_97 (by decide) (fun c_97 => ?_) (fun c_97 => ?_)
            · skip
              exact absurd (by decide) c_97
            · skip
              refine lv_iconst (v := 0) hx hb dX8_putRule_100 (by decide) ?_
              exact z_iret (wf := (fun (u : zU) => zQ E (X ++ zMw E y ad u.2.1 u.2.2.1) C)) Cx hr rfl (Nat.le_of_ble_eq_true rfl) (Nat.le_of_ble_eq_true rfl) (3, _, _, V) hw ⟨Or.inr ⟨hpl, k, j, v, ⟨rfl, hv, rfl, hj⟩, Or.inr ⟨hzq2, Or.inl ⟨rfl, rfl, hcd⟩⟩⟩, zMT_0 hT _, rfl⟩ dX8_putRule_101
        · skip
          have hzq2 : ¬ (zbok b z ∧ zpok fp la) := fun h => by
            have h9 := (zb_0 _).mp c_71
            rw [hq2.mpr h] at h9; cases h9
          refine lv_iconst (v := nI 2) hx hb dX8_putRule_74 rfl ?_
          refine lv_goto (tgt := 94) hx hb dX8_putRule_75 (by decide) ?_
          refine z_goe hw.2 (z_runV Cx hw (c_X8_holds E l X C y ad sc g _) (cwV 1 Cx.1.2.2.2.2 gX8_putRule_X8_holds rfl rfl rfl (by decide +kernel) ⟨Nat.le_of_ble_eq_true rfl, Nat.le_of_ble_eq_true rfl⟩) (z_recv Cx hw (r := (RX8, TX8, 26)) zM_x rfl) rfl hl.1 rfl (Nat.le_of_ble_eq_true rfl) dX8_putRule_94 ⟨Nat.le_of_ble_eq_true rfl, Nat.le_of_ble_eq_true rfl⟩) (fun H locs hw => ?_)
          refine lv_if_ne (tgt := 102) hx hb dX8_putRule_97 (by decide) (fun c_97 => ?_) (fun c_97 => ?_)
          · skip
            exact absurd (by decide) c_97
          · skip
            refine lv_iconst (v := 0) hx hb dX8_putRule_100 (by decide) ?_
            exact z_iret (wf := (fun (u : zU) => zQ E (X ++ zMw E y ad u.2.1 u.2.2.1) C)) Cx hr rfl (Nat.le_of_ble_eq_true rfl) (Nat.le_of_ble_eq_true rfl) (2, _, _, V) hw ⟨Or.inr ⟨hpl, k, j, v, ⟨rfl, hv, rfl, hj⟩, Or.inl ⟨rfl, rfl, hzq2⟩⟩, zMT_0 hT _, rfl⟩ dX8_putRule_101
      · skip
        have hzq1 : ¬ (∃ k j v, zPl V f pl k j v 1) := fun h => by
          have h9 := (zb_0 _).mp c_62
          rw [hq1.mpr h] at h9; cases h9
        refine lv_iconst (v := nI 1) hx hb dX8_putRule_65 rfl ?_
        refine lv_goto (tgt := 94) hx hb dX8_putRule_66 (by decide) ?_
        refine z_goe hw.2 (z_runV Cx hw (c_X8_holds E l X C y ad sc g _) (cwV 1 Cx.1.2.2.2.2 gX8_putRule_X8_holds rfl rfl rfl (by decide +kernel) ⟨Nat.le_of_ble_eq_true rfl, Nat.le_of_ble_eq_true rfl⟩) (z_recv Cx hw (r := (RX8, TX8, 26)) zM_x rfl) rfl hl.1 rfl (Nat.le_of_ble_eq_true rfl) dX8_putRule_94 ⟨Nat.le_of_ble_eq_true rfl, Nat.le_of_ble_eq_true rfl⟩) (fun H locs hw => ?_)
        refine lv_if_ne (tgt := 102) hx hb dX8_putRule_97 (by decide) (fun c_97 => ?_) (fun c_97 => ?_)
        · skip
          exact absurd (by decide) c_97
        · skip
          refine lv_iconst (v := 0) hx hb dX8_putRule_100 (by decide) ?_
          exact z_iret (wf := (fun (u : zU) => zQ E (X ++ zMw E y ad u.2.1 u.2.2.1) C)) Cx hr rfl (Nat.le_of_ble_eq_true rfl) (Nat.le_of_ble_eq_true rfl) (1, _, _, V) hw ⟨Or.inl ⟨rfl, rfl, hzq1⟩, zMT_0 hT _, rfl⟩ dX8_putRule_101
    refine lv_if_eq (tgt := 56) hx hb dX8_putRule_39 (by decide) (fun c_39 => ?_) (fun c_39 => ?_)
    · skip
      have hzq3 : ¬ (zbok b z) := fun h => by
        have h9 := (zb_0 _).mp c_39
        rw [hq3.mpr h] at h9; cases h9
      refine lv_iconst (v := zb false) hx hb dX8_putRule_56 rfl ?_
      refine lv_istore hx hb dX8_putRule_57 hl (by decide) rfl (fun ls hl => ?_)
      have hl : lv_has ls 13 [(10, .int (zb false)), (0, .ref y), (1, .int f), (2, .int pl), (3, .int (zb i)), (4, .int (zb al)), (5, .int b), (6, .int z), (7, .int fp), (8, .int la), (9, .int (zb q1))] := hl
      exact cut_59 false H _ ls (iff_of_false Bool.false_ne_true (fun h => hzq3 h.1)) hw (lv_sub hl [1, 2, 3, 4, 5, 6, 7, 8, 9, 10, 0] rfl)
    · skip
      have hzq3 := hq3.mp ((zb_1 _).mp c_39)
      refine lv_iload hx hb dX8_putRule_42 (lv_at hl 7 rfl) ?_
      refine lv_iload hx hb dX8_putRule_44 (lv_at hl 8 rfl) ?_
      refine z_goe hw.2 (z_runS Cx hw (c_X8_arePorts E l (zQ E (X ++ zMw E y ad sc g) C) fp la) (va_cwS 2 Cx.1.2.2.2.2 gX8_putRule_X8_arePorts rfl rfl rfl (by decide +kernel) ⟨Nat.le_of_ble_eq_true rfl, Nat.le_of_ble_eq_true rfl⟩)  rfl hl.1 rfl (Nat.le_of_ble_eq_true rfl) dX8_putRule_46 ⟨Nat.le_of_ble_eq_true rfl, Nat.le_of_ble_eq_true rfl⟩) (fun H locs hw => ?_)
      refine lv_topi (fun x_46 ex_46 => ?_)
      obtain ⟨q4, hq4, e_46⟩ : ∃ q : Bool, (q = true ↔ zpok fp la) ∧ x_46 = zb q := ⟨_, (zmpp_eq fp la), ex_46⟩
      clear ex_46
      subst e_46
      refine lv_if_eq (tgt := 56) hx hb dX8_putRule_49 (by decide) (fun c_49 => ?_) (fun c_49 => ?_)
      · skip
        have hzq4 : ¬ (zpok fp la) := fun h => by
          have h9 := (zb_0 _).mp c_49
          rw [hq4.mpr h] at h9; cases h9
        refine lv_iconst (v := zb false) hx hb dX8_putRule_56 rfl ?_
        refine lv_istore hx hb dX8_putRule_57 hl (by decide) rfl (fun ls hl => ?_)
        have hl : lv_has ls 13 [(10, .int (zb false)), (0, .ref y), (1, .int f), (2, .int pl), (3, .int (zb i)), (4, .int (zb al)), (5, .int b), (6, .int z), (7, .int fp), (8, .int la), (9, .int (zb q1))] := hl
        exact cut_59 false H _ ls (iff_of_false Bool.false_ne_true (fun h => hzq4 h.2)) hw (lv_sub hl [1, 2, 3, 4, 5, 6, 7, 8, 9, 10, 0] rfl)
      · skip
        have hzq4 := hq4.mp ((zb_1 _).mp c_49)
        refine lv_iconst (v := zb true) hx hb dX8_putRule_52 rfl ?_
        refine lv_goto (tgt := 57) hx hb dX8_putRule_53 (by decide) ?_
        refine lv_istore hx hb dX8_putRule_57 hl (by decide) rfl (fun ls hl => ?_)
        have hl : lv_has ls 13 [(10, .int (zb true)), (0, .ref y), (1, .int f), (2, .int pl), (3, .int (zb i)), (4, .int (zb al)), (5, .int b), (6, .int z), (7, .int fp), (8, .int la), (9, .int (zb q1))] := hl
        exact cut_59 true H _ ls (iff_of_true rfl ⟨hzq3, hzq4⟩) hw (lv_sub hl [1, 2, 3, 4, 5, 6, 7, 8, 9, 10, 0] rfl)
  refine lv_if_eq (tgt := 29) hx hb dX8_putRule_8 (by decide) (fun c_8 => ?_) (fun c_8 => ?_)
  · skip
    have hzq0 : ¬ (zix f (vS V).length) := fun h => by
      have h9 := (zb_0 _).mp c_8
      rw [hq0.mpr h] at h9; cases h9
    have hno : ¬ (∃ k j v, zPl V f pl k j v 1) := fun ⟨k9, j9, v9, h9⟩ => hzq0 ⟨k9, (List.getElem?_eq_some_iff.mp h9.2.1).1, h9.1⟩
    refine lv_iconst (v := zb false) hx hb dX8_putRule_29 rfl ?_
    refine lv_istore hx hb dX8_putRule_30 hl (by decide) rfl (fun ls hl => ?_)
    have hl : lv_has ls 13 [(9, .int (zb false)), (0, .ref y), (1, .int f), (2, .int pl), (3, .int (zb i)), (4, .int (zb al)), (5, .int b), (6, .int z), (7, .int fp), (8, .int la)] := hl
    exact cut_32 false H _ ls (iff_of_false Bool.false_ne_true hno) hw (lv_sub hl [1, 2, 3, 4, 5, 6, 7, 8, 9, 0] rfl)
  · skip
    have hzq0 := hq0.mp ((zb_1 _).mp c_8)
    obtain ⟨k, hk, rfl⟩ := hzq0
    obtain ⟨v, hv⟩ : ∃ v, (vS V)[k]? = some v := ⟨_, List.getElem?_eq_getElem hk⟩
    obtain ⟨-, -, ⟨hsz, hle, hru⟩, -⟩ := hR.2.1.2.2 k v hv
    have hk8 : k < 8 := by omega
    have huv : ∀ k9 v9, nI k = nI k9 → (vS V)[k9]? = some v9 → v9 = v := fun k9 v9 e9 h9 => (z_ixeq (f := nI k) rfl h9 hv e9 rfl (by omega)).2
    refine lv_iload_n hx hb dX8_putRule_11 rfl (lv_at hl 2 rfl) ?_
    refine lv_if_lt (tgt := 29) hx hb dX8_putRule_12 (by decide) (fun c_12 => ?_) (fun c_12 => ?_)
    · skip
      have hno : ¬ (∃ k0 j v, zPl V (nI k) pl k0 j v 1) := fun ⟨k9, j9, v9, h9⟩ => by
        have h8 := nI_pos (n := j9) (by rw [huv k9 v9 h9.1 h9.2.1] at h9; have := h9.2.2.2; omega)
        rw [← h9.2.2.1] at h8
        exact h8 c_12
      refine lv_iconst (v := zb false) hx hb dX8_putRule_29 rfl ?_
      refine lv_istore hx hb dX8_putRule_30 hl (by decide) rfl (fun ls hl => ?_)
      have hl : lv_has ls 13 [(9, .int (zb false)), (0, .ref y), (1, .int (nI k)), (2, .int pl), (3, .int (zb i)), (4, .int (zb al)), (5, .int b), (6, .int z), (7, .int fp), (8, .int la)] := hl
      exact cut_32 false H _ ls (iff_of_false Bool.false_ne_true hno) hw (lv_sub hl [1, 2, 3, 4, 5, 6, 7, 8, 9, 0] rfl)
    · skip
      obtain ⟨j, hj31, rfl⟩ := nI_of c_12
      refine lv_iload_n hx hb dX8_putRule_15 rfl (lv_at hl 2 rfl) ?_
      refine lv_aload_n hx hb dX8_putRule_16 rfl (lv_at hl 0 rfl) ?_
      refine z_get Cx hw (T := TX8) (N := 26) (ci := 11) (fun _ h => List.mem_cons_of_mem _ (List.mem_append_right _ (h))) zM_x rfl 18 (by decide) (List.mem_of_getElem? (i := 2) rfl) rfl rfl dX8_putRule_17 ?_
      refine lv_iload_n hx hb dX8_putRule_20 rfl (lv_at hl 1 rfl) ?_
      refine zm_iald Cx hw (k := 18) (n := 8) (by decide) hk8 dX8_putRule_21 ?_
      refine lv_topi (fun x_21 ex_21 => ?_)
      have e_21 := ex_21.trans (hsz)
      clear ex_21
      subst e_21
      refine lv_icmp_gt (tgt := 29) hx hb dX8_putRule_22 (by decide) (fun c_22 => ?_) (fun c_22 => ?_)
      · skip
        have hno : ¬ (∃ k0 j0 v, zPl V (nI k) (nI j) k0 j0 v 1) := fun ⟨k9, j9, v9, h9⟩ => by
          rw [huv k9 v9 h9.1 h9.2.1] at h9
          have h8 := h9.2.2.2
          have e8 : j = j9 := (nI_eq (by omega) (by omega)).mp h9.2.2.1
          have h7 := (nI_ltI (by omega) (by omega)).mp c_22
          omega
        refine lv_iconst (v := zb false) hx hb dX8_putRule_29 rfl ?_
        refine lv_istore hx hb dX8_putRule_30 hl (by decide) rfl (fun ls hl => ?_)
        have hl : lv_has ls 13 [(9, .int (zb false)), (0, .ref y), (1, .int (nI k)), (2, .int (nI j)), (3, .int (zb i)), (4, .int (zb al)), (5, .int b), (6, .int z), (7, .int fp), (8, .int la)] := hl
        exact cut_32 false H _ ls (iff_of_false Bool.false_ne_true hno) hw (lv_sub hl [1, 2, 3, 4, 5, 6, 7, 8, 9, 0] rfl)
      · skip
        have hjl : j ≤ v.2.2.1.length := by
          rcases Nat.lt_or_ge v.2.2.1.length j with h | h
          · exact absurd (nI_lt h (by omega)) c_22
          · exact h
        have hyes : ∃ k0 j0 v, zPl V (nI k) (nI j) k0 j0 v 1 := ⟨k, j, v, rfl, hv, rfl, by omega⟩
        refine lv_iconst (v := zb true) hx hb dX8_putRule_25 rfl ?_
        refine lv_goto (tgt := 30) hx hb dX8_putRule_26 (by decide) ?_
        refine lv_istore hx hb dX8_putRule_30 hl (by decide) rfl (fun ls hl => ?_)
        have hl : lv_has ls 13 [(9, .int (zb true)), (0, .ref y), (1, .int (nI k)), (2, .int (nI j)), (3, .int (zb i)), (4, .int (zb al)), (5, .int b), (6, .int z), (7, .int fp), (8, .int la)] := hl
        exact cut_32 true H _ ls (iff_of_true rfl hyes) hw (lv_sub hl [1, 2, 3, 4, 5, 6, 7, 8, 9, 0] rfl)

set_option maxRecDepth 100000 in
set_option maxHeartbeats 4000000 in
/-- removeRule -/
theorem c_m_removeRule (E : zG) (l : Launch) (X : va_W) (C : zLs) (y : Nat) (ad : Nat → Nat) (sc : Nat → Int32) (g : Nat → Nat → Int32) (V : zCl) (hT : zMT sc g V) (hI : zInv V) (f pl : Int32) : Met l yX8_removeRule wsX8_removeRule (zR 3 0 0) (zPre E [.ref y, .int f, .int pl] (zQ E (X ++ zMw E y ad sc g) C)) (zPm E X C y ad (zA_removeRule V f pl)) 0 0 (eA E) := by
  refine z_of (cc := cX8_removeRule) (maxL := 4) (ret := (some .int)) (by decide) rfl rfl (Nat.le_of_ble_eq_true rfl) ?_
  intro p e s m below meth c ls Cx hr hnm hw hl
  have hx := Cx.1.1
  have hb := Cx.1.2.1
  have hR := hT.1
  have hn1 : sc 1 = nI (vN V).length := hR.1.1
  have hm1 := hR.1.2.1
  have hn3 : sc 3 = nI (vS V).length := hR.2.1.1
  have hm3 := hR.2.1.2.1
  have hn6 : sc 6 = nI (vH V).length := hR.2.2.1.1
  have hm6 := hR.2.2.1.2.1
  have hn10 : sc 10 = nI (vP V).length := hR.2.2.2.1.1
  have hm10 := hR.2.2.2.1.2.1
  have hn13 : sc 13 = nI (vG V).length := hR.2.2.2.2.1
  have hm13 := hR.2.2.2.2.2.1
  have hl : lv_has ls 4 [(0, .ref y), (1, .int f), (2, .int pl)] := hl
  refine lv_aload_n hx hb dX8_removeRule_0 rfl (lv_at hl 0 rfl) ?_
  refine lv_iload_n hx hb dX8_removeRule_1 rfl (lv_at hl 1 rfl) ?_
  refine lv_aload_n hx hb dX8_removeRule_2 rfl (lv_at hl 0 rfl) ?_
  refine z_get Cx hw (T := TX8) (N := 26) (ci := 11) (fun _ h => List.mem_cons_of_mem _ (List.mem_append_right _ (h))) zM_x rfl 3 (by decide) (List.mem_of_getElem? (i := 1) rfl) rfl rfl dX8_removeRule_3 ?_
  refine z_goe hw.2 (z_runS Cx hw (c_X8_isIn E l (zQ E (X ++ zMw E y ad sc g) C) f (sc 3)) (va_cwS 2 Cx.1.2.2.2.2 gX8_removeRule_X8_isIn rfl rfl rfl (by decide +kernel) ⟨Nat.le_of_ble_eq_true rfl, Nat.le_of_ble_eq_true rfl⟩)  rfl hl.1 rfl (Nat.le_of_ble_eq_true rfl) dX8_removeRule_6 ⟨Nat.le_of_ble_eq_true rfl, Nat.le_of_ble_eq_true rfl⟩) (fun H locs hw => ?_)
  refine lv_topi (fun x_6 ex_6 => ?_)
  obtain ⟨q0, hq0, e_6⟩ : ∃ q : Bool, (q = true ↔ zix f (vS V).length) ∧ x_6 = zb q := ⟨_, (by rw [hn3]; exact zmin_ix (by omega)), ex_6⟩
  clear ex_6
  subst e_6
  refine lv_if_eq (tgt := 29) hx hb dX8_removeRule_9 (by decide) (fun c_9 => ?_) (fun c_9 => ?_)
  · skip
    have hzq0 : ¬ (zix f (vS V).length) := fun h => by
      have h9 := (zb_0 _).mp c_9
      rw [hq0.mpr h] at h9; cases h9
    have hno : ¬ (∃ k j v, zPl V f pl k j v 0) := fun ⟨k9, j9, v9, h9⟩ => hzq0 ⟨k9, (List.getElem?_eq_some_iff.mp h9.2.1).1, h9.1⟩
    refine lv_iconst (v := nI 1) hx hb dX8_removeRule_29 rfl ?_
    refine z_goe hw.2 (z_runV Cx hw (c_X8_holds E l X C y ad sc g _) (cwV 1 Cx.1.2.2.2.2 gX8_removeRule_X8_holds rfl rfl rfl (by decide +kernel) ⟨Nat.le_of_ble_eq_true rfl, Nat.le_of_ble_eq_true rfl⟩) (z_recv Cx hw (r := (RX8, TX8, 26)) zM_x rfl) rfl hl.1 rfl (Nat.le_of_ble_eq_true rfl) dX8_removeRule_30 ⟨Nat.le_of_ble_eq_true rfl, Nat.le_of_ble_eq_true rfl⟩) (fun H locs hw => ?_)
    refine lv_if_ne (tgt := 38) hx hb dX8_removeRule_33 (by decide) (fun c_33 => ?_) (fun c_33 => ?_)
    · skip
      exact absurd (by decide) c_33
    · skip
      refine lv_iconst (v := 0) hx hb dX8_removeRule_36 (by decide) ?_
      exact z_iret (wf := (fun (u : zU) => zQ E (X ++ zMw E y ad u.2.1 u.2.2.1) C)) Cx hr rfl (Nat.le_of_ble_eq_true rfl) (Nat.le_of_ble_eq_true rfl) (1, _, _, V) hw ⟨Or.inl ⟨rfl, rfl, hno⟩, zMT_0 hT _, rfl⟩ dX8_removeRule_37
  · skip
    have hzq0 := hq0.mp ((zb_1 _).mp c_9)
    obtain ⟨k, hk, rfl⟩ := hzq0
    obtain ⟨v, hv⟩ : ∃ v, (vS V)[k]? = some v := ⟨_, List.getElem?_eq_getElem hk⟩
    obtain ⟨-, -, ⟨hsz, hle, hru⟩, -⟩ := hR.2.1.2.2 k v hv
    have hk8 : k < 8 := by omega
    have huv : ∀ k9 v9, nI k = nI k9 → (vS V)[k9]? = some v9 → v9 = v := fun k9 v9 e9 h9 => (z_ixeq (f := nI k) rfl h9 hv e9 rfl (by omega)).2
    refine lv_iload_n hx hb dX8_removeRule_12 rfl (lv_at hl 2 rfl) ?_
    refine lv_aload_n hx hb dX8_removeRule_13 rfl (lv_at hl 0 rfl) ?_
    refine z_get Cx hw (T := TX8) (N := 26) (ci := 11) (fun _ h => List.mem_cons_of_mem _ (List.mem_append_right _ (h))) zM_x rfl 18 (by decide) (List.mem_of_getElem? (i := 2) rfl) rfl rfl dX8_removeRule_14 ?_
    refine lv_iload_n hx hb dX8_removeRule_17 rfl (lv_at hl 1 rfl) ?_
    refine zm_iald Cx hw (k := 18) (n := 8) (by decide) hk8 dX8_removeRule_18 ?_
    refine lv_topi (fun x_18 ex_18 => ?_)
    have e_18 := ex_18.trans (hsz)
    clear ex_18
    subst e_18
    refine z_goe hw.2 (z_runS Cx hw (c_X8_isIn E l (zQ E (X ++ zMw E y ad sc g) C) pl (nI v.2.2.1.length)) (va_cwS 2 Cx.1.2.2.2.2 gX8_removeRule_X8_isIn rfl rfl rfl (by decide +kernel) ⟨Nat.le_of_ble_eq_true rfl, Nat.le_of_ble_eq_true rfl⟩)  rfl hl.1 rfl (Nat.le_of_ble_eq_true rfl) dX8_removeRule_19 ⟨Nat.le_of_ble_eq_true rfl, Nat.le_of_ble_eq_true rfl⟩) (fun H locs hw => ?_)
    refine lv_topi (fun x_19 ex_19 => ?_)
    obtain ⟨q1, hq1, e_19⟩ : ∃ q : Bool, (q = true ↔ zix pl v.2.2.1.length) ∧ x_19 = zb q := ⟨_, (zmin_ix (by omega)), ex_19⟩
    clear ex_19
    subst e_19
    refine lv_if_eq (tgt := 29) hx hb dX8_removeRule_22 (by decide) (fun c_22 => ?_) (fun c_22 => ?_)
    · skip
      have hzq1 : ¬ (zix pl v.2.2.1.length) := fun h => by
        have h9 := (zb_0 _).mp c_22
        rw [hq1.mpr h] at h9; cases h9
      have hno : ¬ (∃ k0 j v, zPl V (nI k) pl k0 j v 0) := fun ⟨k9, j9, v9, h9⟩ => by
        rw [huv k9 v9 h9.1 h9.2.1] at h9
        exact hzq1 ⟨j9, h9.2.2.2, h9.2.2.1⟩
      refine lv_iconst (v := nI 1) hx hb dX8_removeRule_29 rfl ?_
      refine z_goe hw.2 (z_runV Cx hw (c_X8_holds E l X C y ad sc g _) (cwV 1 Cx.1.2.2.2.2 gX8_removeRule_X8_holds rfl rfl rfl (by decide +kernel) ⟨Nat.le_of_ble_eq_true rfl, Nat.le_of_ble_eq_true rfl⟩) (z_recv Cx hw (r := (RX8, TX8, 26)) zM_x rfl) rfl hl.1 rfl (Nat.le_of_ble_eq_true rfl) dX8_removeRule_30 ⟨Nat.le_of_ble_eq_true rfl, Nat.le_of_ble_eq_true rfl⟩) (fun H locs hw => ?_)
      refine lv_if_ne (tgt := 38) hx hb dX8_removeRule_33 (by decide) (fun c_33 => ?_) (fun c_33 => ?_)
      · skip
        exact absurd (by decide) c_33
      · skip
        refine lv_iconst (v := 0) hx hb dX8_removeRule_36 (by decide) ?_
        exact z_iret (wf := (fun (u : zU) => zQ E (X ++ zMw E y ad u.2.1 u.2.2.1) C)) Cx hr rfl (Nat.le_of_ble_eq_true rfl) (Nat.le_of_ble_eq_true rfl) (1, _, _, V) hw ⟨Or.inl ⟨rfl, rfl, hno⟩, zMT_0 hT _, rfl⟩ dX8_removeRule_37
    · skip
      have hzq1 := hq1.mp ((zb_1 _).mp c_22)
      obtain ⟨j, hj, rfl⟩ := hzq1
      have hpl : ∃ k0 j0 v, zPl V (nI k) (nI j) k0 j0 v 0 := ⟨k, j, v, rfl, hv, rfl, hj⟩
      refine lv_iconst (v := nI 0) hx hb dX8_removeRule_25 rfl ?_
      refine lv_goto (tgt := 30) hx hb dX8_removeRule_26 (by decide) ?_
      refine z_goe hw.2 (z_runV Cx hw (c_X8_holds E l X C y ad sc g _) (cwV 1 Cx.1.2.2.2.2 gX8_removeRule_X8_holds rfl rfl rfl (by decide +kernel) ⟨Nat.le_of_ble_eq_true rfl, Nat.le_of_ble_eq_true rfl⟩) (z_recv Cx hw (r := (RX8, TX8, 26)) zM_x rfl) rfl hl.1 rfl (Nat.le_of_ble_eq_true rfl) dX8_removeRule_30 ⟨Nat.le_of_ble_eq_true rfl, Nat.le_of_ble_eq_true rfl⟩) (fun H locs hw => ?_)
      refine lv_if_ne (tgt := 38) hx hb dX8_removeRule_33 (by decide) (fun c_33 => ?_) (fun c_33 => ?_)
      · skip
        refine lv_aload_n hx hb dX8_removeRule_38 rfl (lv_at hl 0 rfl) ?_
        refine z_get Cx hw (T := TX8) (N := 26) (ci := 11) (fun _ h => List.mem_cons_of_mem _ (List.mem_append_right _ (h))) zM_x rfl 18 (by decide) (List.mem_of_getElem? (i := 2) rfl) rfl rfl dX8_removeRule_39 ?_
        refine lv_iload_n hx hb dX8_removeRule_42 rfl (lv_at hl 1 rfl) ?_
        refine lv_dup2_11 hx hb dX8_removeRule_43 rfl rfl ?_
        refine zm_iald Cx hw (k := 18) (n := 8) (by decide) hk8 dX8_removeRule_44 ?_
        refine lv_topi (fun x_44 ex_44 => ?_)
        have e_44 := ex_44.trans (hsz)
        clear ex_44
        subst e_44
        refine lv_iconst (v := nI 1) hx hb dX8_removeRule_45 rfl ?_
        refine lv_isub hx hb dX8_removeRule_46 ?_
        rw [show nI v.2.2.1.length - nI 1 = nI (v.2.2.1.length - 1) from pk_sub (by omega)]
        refine zm_iast Cx hw (k := 18) (n := 8) (by decide) hk8 dX8_removeRule_47 (fun H locs hw => ?_)
        refine lv_bipush (v := nI 12) hx hb dX8_removeRule_48 rfl ?_
        refine lv_iload_n hx hb dX8_removeRule_50 rfl (lv_at hl 1 rfl) ?_
        refine lv_imul hx hb dX8_removeRule_51 ?_
        refine lv_topi (fun x_51 ex_51 => ?_)
        rw [zi_mul] at ex_51
        subst ex_51
        refine lv_iload_n hx hb dX8_removeRule_52 rfl (lv_at hl 2 rfl) ?_
        refine lv_iadd hx hb dX8_removeRule_53 ?_
        refine lv_topi (fun x_53 ex_53 => ?_)
        rw [nI_add] at ex_53
        subst ex_53
        refine lv_istore_n hx hb dX8_removeRule_54 rfl hl (by decide) rfl (fun ls hl => ?_)
        have hl : lv_has ls 4 [(3, .int (nI (12 * k + j))), (0, .ref y), (1, .int (nI k)), (2, .int (nI j))] := hl
        have hw : zHw E (zQ E (X ++ zMw E y ad (va_up sc 0 (nI 0)) (zsh4 (va_up g 18 (upd (g 18) k (nI (v.2.2.1.length - 1)))) (fun f => zshU f (12 * k + j) (12 * k + j)))) C) s H locs := by rw [zsh4_id (fun f => zshU_0 f _)]; exact hw
        have loop_55 : ∀ (nn : Nat) (q : Nat) (H : Heap) (locs : List Loc) (ls : Array Slot), (12 * k + j ≤ q ∧ q ≤ 12 * k + (v.2.2.1.length - 1)) → 12 * k + (v.2.2.1.length - 1) - q < nn → zHw E (zQ E (X ++ zMw E y ad (va_up sc 0 (nI 0)) (zsh4 (va_up g 18 (upd (g 18) k (nI (v.2.2.1.length - 1)))) (fun f => zshU f (12 * k + j) q))) C) s H locs → lv_has ls 4 [(0, .ref y), (1, .int (nI k)), (2, .int (nI j)), (3, .int (nI q))] → W p l e (zR 3 0 0) s m ([.ref y, .int (nI k), .int (nI j)] : List Value).toArray below meth c H locs 0 0 (MQ below (zPm E X C y ad (zA_removeRule V (nI k) (nI j))) ([.ref y, .int (nI k), .int (nI j)] : List Value).toArray s 0 0 (eA E)) (F0 m 55 ls []) := by
          intro nn
          induction nn with
          | zero => intro q H locs ls hq hm; exact absurd hm (Nat.not_lt_zero _)
          | succ nn ih_55 =>
            intro q H locs ls hq hm hw hl
            refine lv_iload_n hx hb dX8_removeRule_55 rfl (lv_at hl 3 rfl) ?_
            refine lv_bipush (v := nI 12) hx hb dX8_removeRule_56 rfl ?_
            refine lv_iload_n hx hb dX8_removeRule_58 rfl (lv_at hl 1 rfl) ?_
            refine lv_imul hx hb dX8_removeRule_59 ?_
            refine lv_topi (fun x_59 ex_59 => ?_)
            rw [zi_mul] at ex_59
            subst ex_59
            refine lv_aload_n hx hb dX8_removeRule_60 rfl (lv_at hl 0 rfl) ?_
            refine z_get Cx hw (T := TX8) (N := 26) (ci := 11) (fun _ h => List.mem_cons_of_mem _ (List.mem_append_right _ (h))) zM_x rfl 18 (by decide) (List.mem_of_getElem? (i := 2) rfl) rfl rfl dX8_removeRule_61 ?_
            refine lv_iload_n hx hb dX8_removeRule_64 rfl (lv_at hl 1 rfl) ?_
            refine zm_iald Cx hw (k := 18) (n := 8) (by decide) hk8 dX8_removeRule_65 ?_
            refine lv_topi (fun x_65 ex_65 => ?_)
            have e_65 := ex_65.trans (show zsh4 (va_up g 18 (upd (g 18) k (nI (v.2.2.1.length - 1)))) _ 18 k = nI (v.2.2.1.length - 1) by rw [zsh4_out (by omega), va_up_self, pk_us])
            clear ex_65
            subst e_65
            refine lv_iadd hx hb dX8_removeRule_66 ?_
            refine lv_topi (fun x_66 ex_66 => ?_)
            rw [nI_add] at ex_66
            subst ex_66
            refine lv_icmp_ge (tgt := 84) hx hb dX8_removeRule_67 (by decide) (fun c_67 => ?_) (fun c_67 => ?_)
            · skip
              have hqe : q = 12 * k + (v.2.2.1.length - 1) := by
                have := (nI_leI (a := 12 * k + (v.2.2.1.length - 1)) (b := q) (by omega) (by omega)).mp c_67
                omega
              subst hqe
              refine lv_aload_n hx hb dX8_removeRule_84 rfl (lv_at hl 0 rfl) ?_
              refine z_get Cx hw (T := TX8) (N := 26) (ci := 11) (fun _ h => List.mem_cons_of_mem _ (List.mem_append_right _ (h))) zM_x rfl 18 (by decide) (List.mem_of_getElem? (i := 2) rfl) rfl rfl dX8_removeRule_85 ?_
              refine lv_iload_n hx hb dX8_removeRule_88 rfl (lv_at hl 1 rfl) ?_
              refine zm_iald Cx hw (k := 18) (n := 8) (by decide) hk8 dX8_removeRule_89 ?_
              refine lv_topi (fun x_89 ex_89 => ?_)
              have e_89 := ex_89.trans (show zsh4 (va_up g 18 (upd (g 18) k (nI (v.2.2.1.length - 1)))) _ 18 k = nI (v.2.2.1.length - 1) by rw [zsh4_out (by omega), va_up_self, pk_us])
              clear ex_89
              subst e_89
              exact z_iret (wf := (fun (u : zU) => zQ E (X ++ zMw E y ad u.2.1 u.2.2.1) C)) Cx hr rfl (Nat.le_of_ble_eq_true rfl) (Nat.le_of_ble_eq_true rfl) (0, _, _, _) hw ⟨Or.inr ⟨hpl, k, j, v, ⟨rfl, hv, rfl, hj⟩, rfl, rfl, rfl⟩, zMT_rem (zMT_0 hT _) hv hj rfl, rfl⟩ dX8_removeRule_90
            · skip
              have hql : q < 12 * k + (v.2.2.1.length - 1) := by
                rcases Nat.lt_or_ge q (12 * k + (v.2.2.1.length - 1)) with h | h
                · exact h
                · exact absurd (nI_le h (by omega)) c_67
              refine lv_aload_n hx hb dX8_removeRule_70 rfl (lv_at hl 0 rfl) ?_
              refine lv_iload_n hx hb dX8_removeRule_71 rfl (lv_at hl 3 rfl) ?_
              refine lv_iload_n hx hb dX8_removeRule_72 rfl (lv_at hl 3 rfl) ?_
              refine lv_iconst (v := 1) hx hb dX8_removeRule_73 (by decide) ?_
              refine lv_iadd hx hb dX8_removeRule_74 ?_
              rw [show nI q + 1 = nI (q + 1) from nI_1 q]
              have hnb : zNb (zsh4 (va_up g 18 (upd (g 18) k (nI (v.2.2.1.length - 1)))) (fun f => zshU f (12 * k + j) q)) := zNb_sh (fun q => (hT.2.2.2.2 q).2) (zshU_in (12 * k + j) q)
              have hq96 : q < 96 := by omega
              have hq97 : q + 1 < 96 := by omega
              refine z_goev hw.2 (z_runV Cx hw (c_m_copies E l X C y ad (va_up sc 0 (nI 0)) (zsh4 (va_up g 18 (upd (g 18) k (nI (v.2.2.1.length - 1)))) (fun f => zshU f (12 * k + j) q)) hnb q (q + 1) hq96 hq97) (cwV 2 Cx.1.2.2.2.2 gX8_removeRule_X8_copies rfl rfl rfl (by decide +kernel) ⟨Nat.le_of_ble_eq_true rfl, Nat.le_of_ble_eq_true rfl⟩) (z_recv Cx hw (r := (RX8, TX8, 26)) zM_x rfl) rfl hl.1 rfl (Nat.le_of_ble_eq_true rfl) dX8_removeRule_75 ⟨Nat.le_of_ble_eq_true rfl, Nat.le_of_ble_eq_true rfl⟩) (fun H locs hw => ?_)
              rw [zsh4_comp] at hw
              rw [show (fun f => upd (zshU f (12 * k + j) q) q (zshU f (12 * k + j) q (q + 1))) = fun f => zshU f (12 * k + j) (q + 1) from funext (fun f => zshU_step f hq.1)] at hw
              refine lv_iinc (v := nI (q + 1)) hx hb dX8_removeRule_78 hl (k := 3) rfl (nI_1 q) (by decide) rfl (fun ls hl => ?_)
              have hl : lv_has ls 4 [(3, .int (nI (q + 1))), (0, .ref y), (1, .int (nI k)), (2, .int (nI j))] := hl
              refine lv_goto (tgt := 55) hx hb dX8_removeRule_81 (by decide) ?_
              exact ih_55 (q + 1) H _ ls (by omega) (by omega) hw (lv_sub hl [1, 2, 3, 0] rfl)
        exact loop_55 ((12 * k + (v.2.2.1.length - 1) - (12 * k + j)) + 1) (12 * k + j) _ _ ls (by omega) (Nat.lt_succ_self _) hw (lv_sub hl [1, 2, 3, 0] rfl)
      · skip
        exact absurd c_33 (by decide)

