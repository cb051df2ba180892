/-! what the calls that ask answer: (code of the throw, answer) -/
def zA2 (V : zCl) (f t : Int32) (ok : Prop) (val : Nat → Nat → Int32) (c : Nat) (r : Int32) : Prop := (c = 0 ∧ ∃ i j : Nat, f = nI i ∧ t = nI j ∧ i < (vH V).length ∧ j < (vH V).length ∧ ¬ i = j ∧ ok ∧ r = val i j) ∨ (c = 1 ∧ ¬ (zix f (vH V).length ∧ zix t (vH V).length)) ∨ (c = 2 ∧ (zix f (vH V).length ∧ zix t (vH V).length) ∧ ¬ (¬ f = t ∧ ok))
def zA_ports (V : zCl) (f t : Int32) : Nat → Int32 → Prop := zA2 V f t True (zworkV V)
def zA_blockedBy (V : zCl) (f t p0 : Int32) : Nat → Int32 → Prop := zA2 V f t (zprt p0) (fun i j => zfirstP (fun p => zopenV V p i j) (zbit p0) 8 1)
def zA_blocks (V : zCl) (f t p0 : Int32) : Nat → Int32 → Prop := zA2 V f t (zprt p0) (fun i j => zsumP (fun p => zopenV V p i j) (zbit p0) 8 1 0)
def zA_routeFor (V : zCl) (f a : Int32) (c : Nat) (r : Int32) : Prop := (c = 0 ∧ ∃ k : Nat, f = nI k ∧ k < (vS V).length ∧ (¬ a < 0 ∧ a < 1024) ∧ r = zrouteV V k a) ∨ (c = 1 ∧ ¬ zix f (vS V).length) ∨ (c = 2 ∧ zix f (vS V).length ∧ ¬ (¬ a < 0 ∧ a < 1024))
def zA_pairs (V : zCl) (f : Int32) (c : Nat) (r : Int32) : Prop := (c = 0 ∧ zprt f ∧ r = nI (zpairsO V (zbit f) (vH V).length (vH V).length 0 0)) ∨ (c = 1 ∧ ¬ zprt f)
def zA_reachedFrom (V : zCl) (f : Int32) (c : Nat) (r : Int32) : Prop := (c = 0 ∧ ∃ k : Nat, f = nI k ∧ k < (vH V).length ∧ r = zreach V k (vH V).length 0 0) ∨ (c = 1 ∧ ¬ zix f (vH V).length)
def zA_idleRules (V : zCl) (f : Int32) (c : Nat) (r : Int32) : Prop := (c = 0 ∧ ∃ k : Nat, f = nI k ∧ k < (vS V).length ∧ r = nI (zidles [] (zsv V k).2.2.1)) ∨ (c = 1 ∧ ¬ zix f (vS V).length)
theorem zMR_0 {sc : Nat → Int32} {g : Nat → Nat → Int32} {V : zCl} (h : zMR sc g V) (c : Int32) : zMR (va_up sc 0 c) g V := h
theorem zmin_ix {a : Int32} {n : Nat} (hn : n ≤ 1000) : zmin a (nI n) = true ↔ zix a n := by
  rw [decide_eq_true_iff]
  constructor
  · rintro ⟨h1, h2⟩
    obtain ⟨k, hk, rfl⟩ := nI_of h1
    exact ⟨k, (nI_ltI hk (by omega)).mp h2, rfl⟩
  · rintro ⟨k, hk, rfl⟩
    exact ⟨nI_pos (by omega), nI_lt hk (by omega)⟩
theorem zb2_t {p q : Bool} (h : ¬ zb (p && q) = 0) : p = true ∧ q = true := by rw [← Bool.and_eq_true]; exact (zb_1 _).mp h
theorem zb2_f {p q : Bool} (h : zb (p && q) = 0) : ¬ (p = true ∧ q = true) := by rw [← Bool.and_eq_true, (zb_0 _).mp h]; decide
theorem zmcon_spec {n : Nat} (hn : n ≤ 1000) (f t p : Int32) : (zmcon (nI n) f t p = nI 0 ∧ (zix f n ∧ zix t n) ∧ ¬ f = t ∧ zprt p) ∨ (zmcon (nI n) f t p = nI 1 ∧ ¬ (zix f n ∧ zix t n)) ∨ (zmcon (nI n) f t p = nI 2 ∧ (zix f n ∧ zix t n) ∧ ¬ (¬ f = t ∧ zprt p)) := by
  have hp : zmin p 16 = true ↔ zprt p := decide_eq_true_iff
  have hx := zmin_ix (a := f) hn
  have hy := zmin_ix (a := t) hn
  unfold zmcon
  by_cases h1 : zix f n ∧ zix t n
  · have h1' : zmin f (nI n) = true ∧ zmin t (nI n) = true := ⟨hx.mpr h1.1, hy.mpr h1.2⟩
    rw [if_neg (fun h => h h1')]
    by_cases h2 : ¬ f = t ∧ zprt p
    · rw [if_neg (fun h => h.elim h2.1 (fun h => h (hp.mpr h2.2)))]
      exact Or.inl ⟨rfl, h1, h2⟩
    · have h3 : f = t ∨ ¬ zmin p 16 = true := by
        rcases Classical.em (f = t) with c | c
        · exact Or.inl c
        · exact Or.inr (fun h => h2 ⟨c, hp.mp h⟩)
      rw [if_pos h3]
      exact Or.inr (Or.inr ⟨rfl, h1, h2⟩)
  · rw [if_pos (fun h => h1 ⟨hx.mp h.1, hy.mp h.2⟩)]
    exact Or.inr (Or.inl ⟨rfl, h1⟩)
theorem z_dec {i : Nat} (h : 1 ≤ i) : nI i + (-1) = nI (i - 1) := by
  obtain ⟨j, rfl⟩ : ∃ j, i = j + 1 := ⟨i - 1, by omega⟩
  exact pk_m1 j
theorem zor_nat (a b : Nat) : nI a ||| nI b = nI (a ||| b) := by
  apply Int32.toBitVec_inj.1
  show BitVec.ofNat 32 a ||| BitVec.ofNat 32 b = BitVec.ofNat 32 (a ||| b)
  apply BitVec.eq_of_getLsbD_eq
  intro i hi
  simp [hi]
theorem zshl_nat : ∀ i, i < 13 → (1 : Int32) <<< (nI i &&& 31) = nI (2 ^ i) := by decide +kernel
theorem zor_bit {S i : Nat} (h : S < 2 ^ i) (hi : i < 13) : nI S ||| (1 : Int32) <<< (nI i &&& 31) = nI S + (1 : Int32) <<< (nI i &&& 31) ∧ ∃ S' : Nat, S' < 2 ^ (i + 1) ∧ nI S + (1 : Int32) <<< (nI i &&& 31) = nI S' := by
  have e : S ||| 2 ^ i = S + 2 ^ i := by
    have := Nat.two_pow_add_eq_or_of_lt h 1
    rw [Nat.mul_one] at this
    rw [Nat.or_comm, ← this, Nat.add_comm]
  rw [zshl_nat i hi, zor_nat, nI_add, e]
  exact ⟨rfl, S + 2 ^ i, by rw [Nat.pow_succ]; omega, rfl⟩
abbrev zworkP (V : zCl) (f t p : Nat) : Int32 := zwork (vG V) (vP V) (zhv V f).1 (zhv V t).1 (zsv V (zhv V f).1) (zsv V (zhv V t).1) (zhv V f).2.1 (zhv V f).2.2 (zhv V t).2.1 (zhv V t).2.2 p
set_option maxRecDepth 100000 in
set_option maxHeartbeats 4000000 in
/-- portsOf -/
theorem c_m_portsOf (E : zG) (l : Launch) (X : va_W) (C : zLs) (y : Nat) (ad : Nat → Nat) (sc : Nat → Int32) (g : Nat → Nat → Int32) (V : zCl) (hR : zMR sc g V) (hI : zInv V) (f t : Nat) (hf : f < (vH V).length) (ht : t < (vH V).length) : Met l yX8_portsOf wsX8_portsOf (zR 5 0 0) (zPre E [.ref y, .int (nI f), .int (nI t)] (zQ E (X ++ zMw E y ad sc g) C)) (zRi E (zQ E (X ++ zMw E y ad sc g) C) (zworkV V f t)) 0 0 (eA E) := by
  refine z_of (cc := cX8_portsOf) (maxL := 5) (ret := (some .int)) (by decide) rfl rfl (Nat.le_of_ble_eq_true rfl) ?_
  intro p e s m below meth c ls Cx hr hnm hw hl
  have hx := Cx.1.1
  have hb := Cx.1.2.1
  have hl : lv_has ls 5 [(0, .ref y), (1, .int (nI f)), (2, .int (nI t))] := hl
  refine lv_ldc hx hb Cx.1.2.2.2.1 (Cx.1.2.2.2.2 (Cond.constant RX8 131 (65535)) (List.mem_of_getElem? (i := 1) rfl)) dX8_portsOf_0 ?_
  refine lv_istore_n hx hb dX8_portsOf_2 rfl hl (by decide) rfl (fun ls hl => ?_)
  have hl : lv_has ls 5 [(3, .int 65535), (0, .ref y), (1, .int (nI f)), (2, .int (nI t))] := hl
  refine lv_iconst (v := nI 1) hx hb dX8_portsOf_3 rfl ?_
  refine lv_istore hx hb dX8_portsOf_4 hl (by decide) rfl (fun ls hl => ?_)
  have hl : lv_has ls 5 [(4, .int (nI 1)), (3, .int 65535), (0, .ref y), (1, .int (nI f)), (2, .int (nI t))] := hl
  have loop_6 : ∀ (nn : Nat) (i : Nat) (o : Int32) (H : Heap) (locs : List Loc) (ls : Array Slot), (1 ≤ i ∧ i ≤ 9) → (o = zworkP V f t (i - 1)) → 9 - i < nn → zHw E (zQ E (X ++ zMw E y ad sc g) C) s H locs → lv_has ls 5 [(0, .ref y), (1, .int (nI f)), (2, .int (nI t)), (3, .int o), (4, .int (nI i))] → W p l e (zR 5 0 0) s m ([.ref y, .int (nI f), .int (nI t)] : List Value).toArray below meth c H locs 0 0 (MQ below (zRi E (zQ E (X ++ zMw E y ad sc g) C) (zworkV V f t)) ([.ref y, .int (nI f), .int (nI t)] : List Value).toArray s 0 0 (eA E)) (F0 m 6 ls []) := by
    intro nn
    induction nn with
    | zero => intro i o H locs ls hi hacc hm; exact absurd hm (Nat.not_lt_zero _)
    | succ nn ih_6 =>
      intro i o H locs ls hi hacc hm hw hl
      refine lv_iload hx hb dX8_portsOf_6 (lv_at hl 4 rfl) ?_
      refine lv_bipush (v := nI 8) hx hb dX8_portsOf_8 rfl ?_
      refine lv_icmp_gt (tgt := 30) hx hb dX8_portsOf_10 (by decide) (fun c_10 => ?_) (fun c_10 => ?_)
      · skip
        have c_33 : i = 9 := by
          have h1 : 8 < i := by
            rcases Nat.lt_or_ge 8 i with h | h
            · exact h
            · exact absurd c_10 (nI_nlt h (by omega))
          omega
        subst c_33
        refine lv_iload_n hx hb dX8_portsOf_30 rfl (lv_at hl 3 rfl) ?_
        exact (z_ie Cx hr rfl (Nat.le_of_ble_eq_true rfl) (Nat.le_of_ble_eq_true rfl) hw dX8_portsOf_31 hacc)
      · skip
        have c_32 : i ≤ 8 := by
          rcases Nat.lt_or_ge 8 i with h | h
          · exact absurd (nI_lt h (by omega)) c_10
          · exact h
        have h9 : 9 - i = (8 - i) + 1 := by omega
        have h10 : 9 - (i + 1) = 8 - i := by omega
        refine lv_iload_n hx hb dX8_portsOf_13 rfl (lv_at hl 3 rfl) ?_
        refine lv_aload_n hx hb dX8_portsOf_14 rfl (lv_at hl 0 rfl) ?_
        refine lv_iload hx hb dX8_portsOf_15 (lv_at hl 4 rfl) ?_
        refine lv_iload_n hx hb dX8_portsOf_17 rfl (lv_at hl 1 rfl) ?_
        refine lv_iload_n hx hb dX8_portsOf_18 rfl (lv_at hl 2 rfl) ?_
        refine z_goe hw.2 (z_runV Cx hw (c_m_byPart E l X C y ad sc g V hR hI i f t hi.1 c_32 hf ht) (cwV 3 Cx.1.2.2.2.2 gX8_portsOf_X8_byPart rfl rfl rfl (by decide +kernel) ⟨Nat.le_of_ble_eq_true rfl, Nat.le_of_ble_eq_true rfl⟩) (z_recv Cx hw (r := (RX8, TX8, 26)) zM_x rfl) rfl hl.1 rfl (Nat.le_of_ble_eq_true rfl) dX8_portsOf_19 ⟨Nat.le_of_ble_eq_true rfl, Nat.le_of_ble_eq_true rfl⟩) (fun H locs hw => ?_)
        refine lv_iand hx hb dX8_portsOf_22 ?_
        refine lv_topi (fun x_22 ex_22 => ?_)
        have hacc2 : x_22 = zworkP V f t (i + 1 - 1) := by
          rw [ex_22, hacc]
          obtain ⟨j, rfl⟩ : ∃ j, i = j + 1 := ⟨i - 1, by omega⟩
          rfl
        refine lv_istore_n hx hb dX8_portsOf_23 rfl hl (by decide) rfl (fun ls hl => ?_)
        have hl : lv_has ls 5 [(3, _), (0, .ref y), (1, .int (nI f)), (2, .int (nI t)), (4, .int (nI i))] := hl
        refine lv_iinc (v := nI (i + 1)) hx hb dX8_portsOf_24 hl (k := 4) rfl (nI_1 i) (by decide) rfl (fun ls hl => ?_)
        have hl : lv_has ls 5 [(4, .int (nI (i + 1))), (3, _), (0, .ref y), (1, .int (nI f)), (2, .int (nI t))] := hl
        refine lv_goto (tgt := 6) hx hb dX8_portsOf_27 (by decide) ?_
        exact ih_6 (i + 1) _ H _ ls (by omega) hacc2 (by omega) hw (lv_sub hl [2, 3, 4, 1, 0] rfl)
  exact loop_6 ((9 - 1) + 1) 1 _ _ _ ls (by omega) rfl (Nat.lt_succ_self _) hw (lv_sub hl [2, 3, 4, 1, 0] rfl)

set_option maxRecDepth 100000 in
set_option maxHeartbeats 4000000 in
/-- ports -/
theorem c_m_ports (E : zG) (l : Launch) (X : va_W) (C : zLs) (y : Nat) (ad : Nat → Nat) (sc : Nat → Int32) (g : Nat → Nat → Int32) (V : zCl) (hR : zMR sc g V) (hI : zInv V) (f t : Int32) : Met l yX8_ports wsX8_ports (zR 6 0 0) (zPre E [.ref y, .int f, .int t] (zQ E (X ++ zMw E y ad sc g) C)) (va_Qi (fun r (c : Nat) => zA_ports V f t c r) (fun c tt => zQ E (X ++ zMw E y ad (va_up sc 0 (nI c)) g) C tt.heap) (eA E)) 0 0 (eA E) := by
  refine z_of (cc := cX8_ports) (maxL := 3) (ret := (some .int)) (by decide) rfl rfl (Nat.le_of_ble_eq_true rfl) ?_
  intro p e s m below meth c ls Cx hr hnm hw hl
  have hx := Cx.1.1
  have hb := Cx.1.2.1
  have hn6 : sc 6 = nI (vH V).length := hR.2.2.1.1
  have hnH : (vH V).length ≤ 1000 := Nat.le_trans hR.2.2.1.2.1 (by omega)
  have hn3 : sc 3 = nI (vS V).length := hR.2.1.1
  have hnS : (vS V).length ≤ 1000 := Nat.le_trans hR.2.1.2.1 (by omega)
  have hl : lv_has ls 3 [(0, .ref y), (1, _), (2, _)] := hl
  refine lv_aload_n hx hb dX8_ports_0 rfl (lv_at hl 0 rfl) ?_
  refine lv_aload_n hx hb dX8_ports_1 rfl (lv_at hl 0 rfl) ?_
  refine lv_iload_n hx hb dX8_ports_2 rfl (lv_at hl 1 rfl) ?_
  refine lv_iload_n hx hb dX8_ports_3 rfl (lv_at hl 2 rfl) ?_
  refine z_goe hw.2 (z_runV Cx hw (c_X8_areHosts E l X C y ad sc g f t) (cwV 2 Cx.1.2.2.2.2 gX8_ports_X8_areHosts rfl rfl rfl (by decide +kernel) ⟨Nat.le_of_ble_eq_true rfl, Nat.le_of_ble_eq_true rfl⟩) (z_recv Cx hw (r := (RX8, TX8, 26)) zM_x rfl) rfl hl.1 rfl (Nat.le_of_ble_eq_true rfl) dX8_ports_4 ⟨Nat.le_of_ble_eq_true rfl, Nat.le_of_ble_eq_true rfl⟩) (fun H locs hw => ?_)
  refine lv_if_ne (tgt := 14) hx hb dX8_ports_7 (by decide) (fun c_7 => ?_) (fun c_7 => ?_)
  · skip
    have h1 := zb2_t c_7
    rw [hn6, zmin_ix hnH, zmin_ix hnH] at h1
    refine lv_iload_n hx hb dX8_ports_14 rfl (lv_at hl 1 rfl) ?_
    refine lv_iload_n hx hb dX8_ports_15 rfl (lv_at hl 2 rfl) ?_
    refine lv_icmp_ne (tgt := 23) hx hb dX8_ports_16 (by decide) (fun c_16 => ?_) (fun c_16 => ?_)
    · skip
      refine lv_iconst (v := nI 0) hx hb dX8_ports_23 rfl ?_
      refine z_goe hw.2 (z_runV Cx hw (c_X8_holds E l X C y ad sc g _) (cwV 1 Cx.1.2.2.2.2 gX8_ports_X8_holds rfl rfl rfl (by decide +kernel) ⟨Nat.le_of_ble_eq_true rfl, Nat.le_of_ble_eq_true rfl⟩) (z_recv Cx hw (r := (RX8, TX8, 26)) zM_x rfl) rfl hl.1 rfl (Nat.le_of_ble_eq_true rfl) dX8_ports_24 ⟨Nat.le_of_ble_eq_true rfl, Nat.le_of_ble_eq_true rfl⟩) (fun H locs hw => ?_)
      refine lv_if_eq (tgt := 39) hx hb dX8_ports_27 (by decide) (fun c_27 => ?_) (fun c_27 => ?_)
      · skip
        exact absurd c_27 (by decide)
      · skip
        obtain ⟨⟨i, hi, rfl⟩, j, hj, rfl⟩ := h1
        have hij : ¬ i = j := fun h => c_16 (by rw [h])
        refine lv_aload_n hx hb dX8_ports_30 rfl (lv_at hl 0 rfl) ?_
        refine lv_iload_n hx hb dX8_ports_31 rfl (lv_at hl 1 rfl) ?_
        refine lv_iload_n hx hb dX8_ports_32 rfl (lv_at hl 2 rfl) ?_
        refine z_goe hw.2 (z_runV Cx hw (c_m_portsOf E l X C y ad (va_up sc 0 (nI 0)) g V (zMR_0 hR _) hI i j hi hj) (cwV 2 Cx.1.2.2.2.2 gX8_ports_X8_portsOf rfl rfl rfl (by decide +kernel) ⟨Nat.le_of_ble_eq_true rfl, Nat.le_of_ble_eq_true rfl⟩) (z_recv Cx hw (r := (RX8, TX8, 26)) zM_x rfl) rfl hl.1 rfl (Nat.le_of_ble_eq_true rfl) dX8_ports_33 ⟨Nat.le_of_ble_eq_true rfl, Nat.le_of_ble_eq_true rfl⟩) (fun H locs hw => ?_)
        refine lv_goto (tgt := 40) hx hb dX8_ports_36 (by decide) ?_
        exact z_iret (wf := (fun (c : Nat) => zQ E (X ++ zMw E y ad (va_up sc 0 (nI c)) g) C)) Cx hr rfl (Nat.le_of_ble_eq_true rfl) (Nat.le_of_ble_eq_true rfl) 0 hw (Or.inl ⟨rfl, i, j, rfl, rfl, hi, hj, hij, trivial, rfl⟩) dX8_ports_40
    · skip
      refine lv_iconst (v := nI 2) hx hb dX8_ports_19 rfl ?_
      refine lv_goto (tgt := 24) hx hb dX8_ports_20 (by decide) ?_
      refine z_goe hw.2 (z_runV Cx hw (c_X8_holds E l X C y ad sc g _) (cwV 1 Cx.1.2.2.2.2 gX8_ports_X8_holds rfl rfl rfl (by decide +kernel) ⟨Nat.le_of_ble_eq_true rfl, Nat.le_of_ble_eq_true rfl⟩) (z_recv Cx hw (r := (RX8, TX8, 26)) zM_x rfl) rfl hl.1 rfl (Nat.le_of_ble_eq_true rfl) dX8_ports_24 ⟨Nat.le_of_ble_eq_true rfl, Nat.le_of_ble_eq_true rfl⟩) (fun H locs hw => ?_)
      refine lv_if_eq (tgt := 39) hx hb dX8_ports_27 (by decide) (fun c_27 => ?_) (fun c_27 => ?_)
      · skip
        refine lv_iconst (v := 0) hx hb dX8_ports_39 (by decide) ?_
        exact z_iret (wf := (fun (c : Nat) => zQ E (X ++ zMw E y ad (va_up sc 0 (nI c)) g) C)) Cx hr rfl (Nat.le_of_ble_eq_true rfl) (Nat.le_of_ble_eq_true rfl) 2 hw (Or.inr (Or.inr ⟨rfl, h1, fun h => h.1 c_16⟩)) dX8_ports_40
      · skip
        exact absurd (by decide) c_27
  · skip
    have h1 := zb2_f c_7
    rw [hn6, zmin_ix hnH, zmin_ix hnH] at h1
    refine lv_iconst (v := nI 1) hx hb dX8_ports_10 rfl ?_
    refine lv_goto (tgt := 24) hx hb dX8_ports_11 (by decide) ?_
    refine z_goe hw.2 (z_runV Cx hw (c_X8_holds E l X C y ad sc g _) (cwV 1 Cx.1.2.2.2.2 gX8_ports_X8_holds rfl rfl rfl (by decide +kernel) ⟨Nat.le_of_ble_eq_true rfl, Nat.le_of_ble_eq_true rfl⟩) (z_recv Cx hw (r := (RX8, TX8, 26)) zM_x rfl) rfl hl.1 rfl (Nat.le_of_ble_eq_true rfl) dX8_ports_24 ⟨Nat.le_of_ble_eq_true rfl, Nat.le_of_ble_eq_true rfl⟩) (fun H locs hw => ?_)
    refine lv_if_eq (tgt := 39) hx hb dX8_ports_27 (by decide) (fun c_27 => ?_) (fun c_27 => ?_)
    · skip
      refine lv_iconst (v := 0) hx hb dX8_ports_39 (by decide) ?_
      exact z_iret (wf := (fun (c : Nat) => zQ E (X ++ zMw E y ad (va_up sc 0 (nI c)) g) C)) Cx hr rfl (Nat.le_of_ble_eq_true rfl) (Nat.le_of_ble_eq_true rfl) 1 hw (Or.inr (Or.inl ⟨rfl, h1⟩)) dX8_ports_40
    · skip
      exact absurd (by decide) c_27

set_option maxRecDepth 100000 in
set_option maxHeartbeats 4000000 in
/-- routeFor -/
theorem c_m_routeFor (E : zG) (l : Launch) (X : va_W) (C : zLs) (y : Nat) (ad : Nat → Nat) (sc : Nat → Int32) (g : Nat → Nat → Int32) (V : zCl) (hR : zMR sc g V) (hI : zInv V) (f a : Int32) : Met l yX8_routeFor wsX8_routeFor (zR 6 0 0) (zPre E [.ref y, .int f, .int a] (zQ E (X ++ zMw E y ad sc g) C)) (va_Qi (fun r (c : Nat) => zA_routeFor V f a c r) (fun c tt => zQ E (X ++ zMw E y ad (va_up sc 0 (nI c)) g) C tt.heap) (eA E)) 0 0 (eA E) := by
  refine z_of (cc := cX8_routeFor) (maxL := 3) (ret := (some .int)) (by decide) rfl rfl (Nat.le_of_ble_eq_true rfl) ?_
  intro p e s m below meth c ls Cx hr hnm hw hl
  have hx := Cx.1.1
  have hb := Cx.1.2.1
  have hn6 : sc 6 = nI (vH V).length := hR.2.2.1.1
  have hnH : (vH V).length ≤ 1000 := Nat.le_trans hR.2.2.1.2.1 (by omega)
  have hn3 : sc 3 = nI (vS V).length := hR.2.1.1
  have hnS : (vS V).length ≤ 1000 := Nat.le_trans hR.2.1.2.1 (by omega)
  have hl : lv_has ls 3 [(0, .ref y), (1, _), (2, .int a)] := hl
  refine lv_aload_n hx hb dX8_routeFor_0 rfl (lv_at hl 0 rfl) ?_
  refine lv_iload_n hx hb dX8_routeFor_1 rfl (lv_at hl 1 rfl) ?_
  refine lv_aload_n hx hb dX8_routeFor_2 rfl (lv_at hl 0 rfl) ?_
  refine z_get Cx hw (T := TX8) (N := 26) (ci := 11) (fun _ h => List.mem_cons_of_mem _ (List.mem_append_right _ (h))) zM_x rfl 3 (by decide) (List.mem_of_getElem? (i := 1) rfl) rfl rfl dX8_routeFor_3 ?_
  refine z_goe hw.2 (z_runS Cx hw (c_X8_isIn E l (zQ E (X ++ zMw E y ad sc g) C) f (sc 3)) (va_cwS 2 Cx.1.2.2.2.2 gX8_routeFor_X8_isIn rfl rfl rfl (by decide +kernel) ⟨Nat.le_of_ble_eq_true rfl, Nat.le_of_ble_eq_true rfl⟩)  rfl hl.1 rfl (Nat.le_of_ble_eq_true rfl) dX8_routeFor_6 ⟨Nat.le_of_ble_eq_true rfl, Nat.le_of_ble_eq_true rfl⟩) (fun H locs hw => ?_)
  refine lv_if_ne (tgt := 16) hx hb dX8_routeFor_9 (by decide) (fun c_9 => ?_) (fun c_9 => ?_)
  · skip
    have h1 := (zb_1 _).mp c_9
    rw [hn3] at h1
    have h1 := (zmin_ix hnS).mp h1
    refine lv_iload_n hx hb dX8_routeFor_16 rfl (lv_at hl 2 rfl) ?_
    refine lv_sipush (v := 1024) hx hb dX8_routeFor_17 (by decide) ?_
    refine z_goe hw.2 (z_runS Cx hw (c_X8_isIn E l (zQ E (X ++ zMw E y ad sc g) C) a 1024) (va_cwS 2 Cx.1.2.2.2.2 gX8_routeFor_X8_isIn rfl rfl rfl (by decide +kernel) ⟨Nat.le_of_ble_eq_true rfl, Nat.le_of_ble_eq_true rfl⟩)  rfl hl.1 rfl (Nat.le_of_ble_eq_true rfl) dX8_routeFor_20 ⟨Nat.le_of_ble_eq_true rfl, Nat.le_of_ble_eq_true rfl⟩) (fun H locs hw => ?_)
    refine lv_if_eq (tgt := 30) hx hb dX8_routeFor_23 (by decide) (fun c_23 => ?_) (fun c_23 => ?_)
    · skip
      have h2 : ¬ (¬ a < 0 ∧ a < 1024) := of_decide_eq_false ((zb_0 _).mp c_23)
      refine lv_iconst (v := nI 2) hx hb dX8_routeFor_30 rfl ?_
      refine z_goe hw.2 (z_runV Cx hw (c_X8_holds E l X C y ad sc g _) (cwV 1 Cx.1.2.2.2.2 gX8_routeFor_X8_holds rfl rfl rfl (by decide +kernel) ⟨Nat.le_of_ble_eq_true rfl, Nat.le_of_ble_eq_true rfl⟩) (z_recv Cx hw (r := (RX8, TX8, 26)) zM_x rfl) rfl hl.1 rfl (Nat.le_of_ble_eq_true rfl) dX8_routeFor_31 ⟨Nat.le_of_ble_eq_true rfl, Nat.le_of_ble_eq_true rfl⟩) (fun H locs hw => ?_)
      refine lv_if_eq (tgt := 46) hx hb dX8_routeFor_34 (by decide) (fun c_34 => ?_) (fun c_34 => ?_)
      · skip
        refine lv_iconst (v := 0) hx hb dX8_routeFor_46 (by decide) ?_
        exact z_iret (wf := (fun (c : Nat) => zQ E (X ++ zMw E y ad (va_up sc 0 (nI c)) g) C)) Cx hr rfl (Nat.le_of_ble_eq_true rfl) (Nat.le_of_ble_eq_true rfl) 2 hw (Or.inr (Or.inr ⟨rfl, h1, h2⟩)) dX8_routeFor_47
      · skip
        exact absurd (by decide) c_34
    · skip
      have h2 : ¬ a < 0 ∧ a < 1024 := of_decide_eq_true ((zb_1 _).mp c_23)
      refine lv_iconst (v := nI 0) hx hb dX8_routeFor_26 rfl ?_
      refine lv_goto (tgt := 31) hx hb dX8_routeFor_27 (by decide) ?_
      refine z_goe hw.2 (z_runV Cx hw (c_X8_holds E l X C y ad sc g _) (cwV 1 Cx.1.2.2.2.2 gX8_routeFor_X8_holds rfl rfl rfl (by decide +kernel) ⟨Nat.le_of_ble_eq_true rfl, Nat.le_of_ble_eq_true rfl⟩) (z_recv Cx hw (r := (RX8, TX8, 26)) zM_x rfl) rfl hl.1 rfl (Nat.le_of_ble_eq_true rfl) dX8_routeFor_31 ⟨Nat.le_of_ble_eq_true rfl, Nat.le_of_ble_eq_true rfl⟩) (fun H locs hw => ?_)
      refine lv_if_eq (tgt := 46) hx hb dX8_routeFor_34 (by decide) (fun c_34 => ?_) (fun c_34 => ?_)
      · skip
        exact absurd c_34 (by decide)
      · skip
        obtain ⟨i, hi, rfl⟩ := h1
        refine lv_aload_n hx hb dX8_routeFor_37 rfl (lv_at hl 0 rfl) ?_
        refine lv_iload_n hx hb dX8_routeFor_38 rfl (lv_at hl 1 rfl) ?_
        refine lv_iload_n hx hb dX8_routeFor_39 rfl (lv_at hl 2 rfl) ?_
        refine z_goe hw.2 (z_runV Cx hw (c_m_route E l X C y ad (va_up sc 0 (nI 0)) g V (zMR_0 hR _) hI i hi a) (cwV 2 Cx.1.2.2.2.2 gX8_routeFor_X8_routeOf rfl rfl rfl (by decide +kernel) ⟨Nat.le_of_ble_eq_true rfl, Nat.le_of_ble_eq_true rfl⟩) (z_recv Cx hw (r := (RX8, TX8, 26)) zM_x rfl) rfl hl.1 rfl (Nat.le_of_ble_eq_true rfl) dX8_routeFor_40 ⟨Nat.le_of_ble_eq_true rfl, Nat.le_of_ble_eq_true rfl⟩) (fun H locs hw => ?_)
        refine lv_goto (tgt := 47) hx hb dX8_routeFor_43 (by decide) ?_
        exact z_iret (wf := (fun (c : Nat) => zQ E (X ++ zMw E y ad (va_up sc 0 (nI c)) g) C)) Cx hr rfl (Nat.le_of_ble_eq_true rfl) (Nat.le_of_ble_eq_true rfl) 0 hw (Or.inl ⟨rfl, i, rfl, hi, h2, rfl⟩) dX8_routeFor_47
  · skip
    have h1 : ¬ zix f (vS V).length := fun h => by
      have h2 := (zb_0 _).mp c_9
      rw [hn3] at h2
      have h3 := (zmin_ix hnS).mpr h
      rw [show zmin f (nI (vS V).length) = false from h2] at h3
      cases h3
    refine lv_iconst (v := nI 1) hx hb dX8_routeFor_12 rfl ?_
    refine lv_goto (tgt := 31) hx hb dX8_routeFor_13 (by decide) ?_
    refine z_goe hw.2 (z_runV Cx hw (c_X8_holds E l X C y ad sc g _) (cwV 1 Cx.1.2.2.2.2 gX8_routeFor_X8_holds rfl rfl rfl (by decide +kernel) ⟨Nat.le_of_ble_eq_true rfl, Nat.le_of_ble_eq_true rfl⟩) (z_recv Cx hw (r := (RX8, TX8, 26)) zM_x rfl) rfl hl.1 rfl (Nat.le_of_ble_eq_true rfl) dX8_routeFor_31 ⟨Nat.le_of_ble_eq_true rfl, Nat.le_of_ble_eq_true rfl⟩) (fun H locs hw => ?_)
    refine lv_if_eq (tgt := 46) hx hb dX8_routeFor_34 (by decide) (fun c_34 => ?_) (fun c_34 => ?_)
    · skip
      refine lv_iconst (v := 0) hx hb dX8_routeFor_46 (by decide) ?_
      exact z_iret (wf := (fun (c : Nat) => zQ E (X ++ zMw E y ad (va_up sc 0 (nI c)) g) C)) Cx hr rfl (Nat.le_of_ble_eq_true rfl) (Nat.le_of_ble_eq_true rfl) 1 hw (Or.inr (Or.inl ⟨rfl, h1⟩)) dX8_routeFor_47
    · skip
      exact absurd (by decide) c_34

set_option maxRecDepth 100000 in
set_option maxHeartbeats 4000000 in
/-- blockedBy -/
theorem c_m_blockedBy (E : zG) (l : Launch) (X : va_W) (C : zLs) (y : Nat) (ad : Nat → Nat) (sc : Nat → Int32) (g : Nat → Nat → Int32) (V : zCl) (hR : zMR sc g V) (hI : zInv V) (f t p0 : Int32) : Met l yX8_blockedBy wsX8_blockedBy (zR 6 0 0) (zPre E [.ref y, .int f, .int t, .int p0] (zQ E (X ++ zMw E y ad sc g) C)) (va_Qi (fun r (c : Nat) => zA_blockedBy V f t p0 c r) (fun c tt => zQ E (X ++ zMw E y ad (va_up sc 0 (nI c)) g) C tt.heap) (eA E)) 0 0 (eA E) := by
  refine z_of (cc := cX8_blockedBy) (maxL := 6) (ret := (some .int)) (by decide) rfl rfl (Nat.le_of_ble_eq_true rfl) ?_
  intro p e s m below meth c ls Cx hr hnm hw hl
  have hx := Cx.1.1
  have hb := Cx.1.2.1
  have hn6 : sc 6 = nI (vH V).length := hR.2.2.1.1
  have hnH : (vH V).length ≤ 1000 := Nat.le_trans hR.2.2.1.2.1 (by omega)
  have hn3 : sc 3 = nI (vS V).length := hR.2.1.1
  have hnS : (vS V).length ≤ 1000 := Nat.le_trans hR.2.1.2.1 (by omega)
  have hl : lv_has ls 6 [(0, .ref y), (1, _), (2, _), (3, _)] := hl
  refine lv_aload_n hx hb dX8_blockedBy_0 rfl (lv_at hl 0 rfl) ?_
  refine lv_iload_n hx hb dX8_blockedBy_1 rfl (lv_at hl 1 rfl) ?_
  refine lv_iload_n hx hb dX8_blockedBy_2 rfl (lv_at hl 2 rfl) ?_
  refine lv_iload_n hx hb dX8_blockedBy_3 rfl (lv_at hl 3 rfl) ?_
  refine z_goe hw.2 (z_runV Cx hw (c_X8_isConnection E l X C y ad sc g f t p0) (cwV 3 Cx.1.2.2.2.2 gX8_blockedBy_X8_isConnection rfl rfl rfl (by decide +kernel) ⟨Nat.le_of_ble_eq_true rfl, Nat.le_of_ble_eq_true rfl⟩) (z_recv Cx hw (r := (RX8, TX8, 26)) zM_x rfl) rfl hl.1 rfl (Nat.le_of_ble_eq_true rfl) dX8_blockedBy_4 ⟨Nat.le_of_ble_eq_true rfl, Nat.le_of_ble_eq_true rfl⟩) (fun H locs hw => ?_)
  rw [hn6] at hw ⊢
  have hcon := zmcon_spec hnH f t p0
  refine lv_if_ne (tgt := 12) hx hb dX8_blockedBy_7 (by decide) (fun c_7 => ?_) (fun c_7 => ?_)
  · skip
    have he0 : zmcon (nI (vH V).length) f t p0 = 0 := of_decide_eq_true ((zb_1 _).mp c_7)
    obtain ⟨ecn, ⟨⟨i0, hi0, rfl⟩, j0, hj0, rfl⟩, hft, hp⟩ : zmcon (nI (vH V).length) f t p0 = nI 0 ∧ (zix f (vH V).length ∧ zix t (vH V).length) ∧ ¬ f = t ∧ zprt p0 := by
      rcases hcon with h | ⟨e, -⟩ | ⟨e, -⟩
      · exact h
      · rw [e] at he0; exact absurd he0 (by decide)
      · rw [e] at he0; exact absurd he0 (by decide)
    rw [ecn] at hw
    have hij : ¬ i0 = j0 := fun h => hft (by rw [h])
    obtain ⟨n, hn, rfl⟩ : ∃ n, n < 16 ∧ p0 = nI n := by
      obtain ⟨n, hn, e⟩ := nI_of hp.1
      exact ⟨n, (nI_ltI (b := 16) hn (by omega)).mp (by rw [← e]; exact hp.2), e⟩
    refine lv_iconst (v := 0) hx hb dX8_blockedBy_12 (by decide) ?_
    refine lv_istore hx hb dX8_blockedBy_13 hl (by decide) rfl (fun ls hl => ?_)
    have hl : lv_has ls 6 [(4, .int 0), (0, .ref y), (1, _), (2, _), (3, _)] := hl
    refine lv_bipush (v := nI 8) hx hb dX8_blockedBy_15 rfl ?_
    refine lv_istore hx hb dX8_blockedBy_17 hl (by decide) rfl (fun ls hl => ?_)
    have hl : lv_has ls 6 [(5, .int (nI 8)), (4, .int 0), (0, .ref y), (1, _), (2, _), (3, _)] := hl
    have loop_19 : ∀ (nn : Nat) (i : Nat) (o : Int32) (H : Heap) (locs : List Loc) (ls : Array Slot), (i ≤ 8) → (o = zfirstP (fun p => zopenV V p i0 j0) (zbit (nI n)) (8 - i) (i + 1)) → i < nn → zHw E (zQ E (X ++ zMw E y ad (va_up sc 0 (nI 0)) g) C) s H locs → lv_has ls 6 [(0, .ref y), (1, .int (nI i0)), (2, .int (nI j0)), (3, .int (nI n)), (4, .int o), (5, .int (nI i))] → W p l e (zR 6 0 0) s m ([.ref y, .int (nI i0), .int (nI j0), .int (nI n)] : List Value).toArray below meth c H locs 0 0 (MQ below (va_Qi (fun r (c : Nat) => zA_blockedBy V (nI i0) (nI j0) (nI n) c r) (fun c tt => zQ E (X ++ zMw E y ad (va_up sc 0 (nI c)) g) C tt.heap) (eA E)) ([.ref y, .int (nI i0), .int (nI j0), .int (nI n)] : List Value).toArray s 0 0 (eA E)) (F0 m 19 ls []) := by
      intro nn
      induction nn with
      | zero => intro i o H locs ls hi hacc hm; exact absurd hm (Nat.not_lt_zero _)
      | succ nn ih_19 =>
        intro i o H locs ls hi hacc hm hw hl
        refine lv_iload hx hb dX8_blockedBy_19 (lv_at hl 5 rfl) ?_
        refine lv_iconst (v := nI 1) hx hb dX8_blockedBy_21 rfl ?_
        refine lv_icmp_lt (tgt := 55) hx hb dX8_blockedBy_22 (by decide) (fun c_22 => ?_) (fun c_22 => ?_)
        · skip
          have hi0e : i = 0 := by
            have := (nI_ltI (a := i) (b := 1) (by omega) (by omega)).mp c_22
            omega
          subst hi0e
          refine lv_iload hx hb dX8_blockedBy_55 (lv_at hl 4 rfl) ?_
          exact z_iret (wf := (fun (c : Nat) => zQ E (X ++ zMw E y ad (va_up sc 0 (nI c)) g) C)) Cx hr rfl (Nat.le_of_ble_eq_true rfl) (Nat.le_of_ble_eq_true rfl) 0 hw (Or.inl ⟨rfl, i0, j0, rfl, rfl, hi0, hj0, hij, hp, hacc⟩) dX8_blockedBy_57
        · skip
          have hi1 : 1 ≤ i := by
            rcases Nat.lt_or_ge i 1 with h | h
            · exact absurd (nI_lt (b := 1) h (by omega)) c_22
            · exact h
          have e8 : 8 - (i - 1) = (8 - i) + 1 := by omega
          have e1 : i - 1 + 1 = i := by omega
          refine lv_aload_n hx hb dX8_blockedBy_25 rfl (lv_at hl 0 rfl) ?_
          refine lv_iload hx hb dX8_blockedBy_26 (lv_at hl 5 rfl) ?_
          refine lv_iload_n hx hb dX8_blockedBy_28 rfl (lv_at hl 1 rfl) ?_
          refine lv_iload_n hx hb dX8_blockedBy_29 rfl (lv_at hl 2 rfl) ?_
          refine z_goe hw.2 (z_runV Cx hw (c_m_byPart E l X C y ad (va_up sc 0 (nI 0)) g V (zMR_0 hR _) hI i i0 j0 hi1 hi hi0 hj0) (cwV 3 Cx.1.2.2.2.2 gX8_blockedBy_X8_byPart rfl rfl rfl (by decide +kernel) ⟨Nat.le_of_ble_eq_true rfl, Nat.le_of_ble_eq_true rfl⟩) (z_recv Cx hw (r := (RX8, TX8, 26)) zM_x rfl) rfl hl.1 rfl (Nat.le_of_ble_eq_true rfl) dX8_blockedBy_30 ⟨Nat.le_of_ble_eq_true rfl, Nat.le_of_ble_eq_true rfl⟩) (fun H locs hw => ?_)
          refine lv_iload_n hx hb dX8_blockedBy_33 rfl (lv_at hl 3 rfl) ?_
          refine lv_ishr hx hb dX8_blockedBy_34 ?_
          refine lv_iconst (v := 1) hx hb dX8_blockedBy_35 (by decide) ?_
          refine lv_iand hx hb dX8_blockedBy_36 ?_
          refine lv_if_ne (tgt := 45) hx hb dX8_blockedBy_37 (by decide) (fun c_37 => ?_) (fun c_37 => ?_)
          · skip
            have hz : ¬ zopenV V i i0 j0 &&& zbit (nI n) = 0 := fun h => c_37 ((zbit_0 _ n (by omega)).mpr h)
            have hacc2 : o = zfirstP (fun p => zopenV V p i0 j0) (zbit (nI n)) (8 - (i - 1)) (i - 1 + 1) := by rw [e8, e1, zfirstP, if_neg hz]; exact hacc
            refine lv_iload hx hb dX8_blockedBy_45 (lv_at hl 4 rfl) ?_
            refine lv_istore hx hb dX8_blockedBy_47 hl (by decide) rfl (fun ls hl => ?_)
            have hl : lv_has ls 6 [(4, _), (0, .ref y), (1, .int (nI i0)), (2, .int (nI j0)), (3, .int (nI n)), (5, .int (nI i))] := hl
            refine lv_iinc (v := nI (i - 1)) hx hb dX8_blockedBy_49 hl (k := 5) rfl (z_dec hi1) (by decide) rfl (fun ls hl => ?_)
            have hl : lv_has ls 6 [(5, .int (nI (i - 1))), (4, _), (0, .ref y), (1, .int (nI i0)), (2, .int (nI j0)), (3, .int (nI n))] := hl
            refine lv_goto (tgt := 19) hx hb dX8_blockedBy_52 (by decide) ?_
            exact ih_19 (i - 1) _ H _ ls (by omega) hacc2 (by omega) hw (lv_sub hl [2, 3, 4, 5, 1, 0] rfl)
          · skip
            have hz : zopenV V i i0 j0 &&& zbit (nI n) = 0 := (zbit_0 _ n (by omega)).mp c_37
            have hacc3 : nI i = zfirstP (fun p => zopenV V p i0 j0) (zbit (nI n)) (8 - (i - 1)) (i - 1 + 1) := by rw [e8, e1, zfirstP, if_pos hz]
            refine lv_iload hx hb dX8_blockedBy_40 (lv_at hl 5 rfl) ?_
            refine lv_goto (tgt := 47) hx hb dX8_blockedBy_42 (by decide) ?_
            refine lv_istore hx hb dX8_blockedBy_47 hl (by decide) rfl (fun ls hl => ?_)
            have hl : lv_has ls 6 [(4, _), (0, .ref y), (1, .int (nI i0)), (2, .int (nI j0)), (3, .int (nI n)), (5, .int (nI i))] := hl
            refine lv_iinc (v := nI (i - 1)) hx hb dX8_blockedBy_49 hl (k := 5) rfl (z_dec hi1) (by decide) rfl (fun ls hl => ?_)
            have hl : lv_has ls 6 [(5, .int (nI (i - 1))), (4, _), (0, .ref y), (1, .int (nI i0)), (2, .int (nI j0)), (3, .int (nI n))] := hl
            refine lv_goto (tgt := 19) hx hb dX8_blockedBy_52 (by decide) ?_
            exact ih_19 (i - 1) _ H _ ls (by omega) hacc3 (by omega) hw (lv_sub hl [2, 3, 4, 5, 1, 0] rfl)
    exact loop_19 (8 + 1) 8 _ _ _ ls (Nat.le_refl _) rfl (Nat.lt_succ_self _) hw (lv_sub hl [2, 3, 4, 5, 1, 0] rfl)
  · skip
    refine lv_iconst (v := 0) hx hb dX8_blockedBy_10 (by decide) ?_
    have hne : ¬ zmcon (nI (vH V).length) f t p0 = 0 := of_decide_eq_false ((zb_0 _).mp c_7)
    rcases hcon with ⟨e, -⟩ | ⟨e, h⟩ | ⟨e, h⟩
    · exact absurd e hne
    · rw [e] at hw
      exact z_iret (wf := (fun (c : Nat) => zQ E (X ++ zMw E y ad (va_up sc 0 (nI c)) g) C)) Cx hr rfl (Nat.le_of_ble_eq_true rfl) (Nat.le_of_ble_eq_true rfl) 1 hw (Or.inr (Or.inl ⟨rfl, h⟩)) dX8_blockedBy_11
    · rw [e] at hw
      exact z_iret (wf := (fun (c : Nat) => zQ E (X ++ zMw E y ad (va_up sc 0 (nI c)) g) C)) Cx hr rfl (Nat.le_of_ble_eq_true rfl) (Nat.le_of_ble_eq_true rfl) 2 hw (Or.inr (Or.inr ⟨rfl, h⟩)) dX8_blockedBy_11

set_option maxRecDepth 100000 in
set_option maxHeartbeats 4000000 in
/-- blocks -/
theorem c_m_blocks (E : zG) (l : Launch) (X : va_W) (C : zLs) (y : Nat) (ad : Nat → Nat) (sc : Nat → Int32) (g : Nat → Nat → Int32) (V : zCl) (hR : zMR sc g V) (hI : zInv V) (f t p0 : Int32) : Met l yX8_blocks wsX8_blocks (zR 6 0 0) (zPre E [.ref y, .int f, .int t, .int p0] (zQ E (X ++ zMw E y ad sc g) C)) (va_Qi (fun r (c : Nat) => zA_blocks V f t p0 c r) (fun c tt => zQ E (X ++ zMw E y ad (va_up sc 0 (nI c)) g) C tt.heap) (eA E)) 0 0 (eA E) := by
  refine z_of (cc := cX8_blocks) (maxL := 6) (ret := (some .int)) (by decide) rfl rfl (Nat.le_of_ble_eq_true rfl) ?_
  intro p e s m below meth c ls Cx hr hnm hw hl
  have hx := Cx.1.1
  have hb := Cx.1.2.1
  have hn6 : sc 6 = nI (vH V).length := hR.2.2.1.1
  have hnH : (vH V).length ≤ 1000 := Nat.le_trans hR.2.2.1.2.1 (by omega)
  have hn3 : sc 3 = nI (vS V).length := hR.2.1.1
  have hnS : (vS V).length ≤ 1000 := Nat.le_trans hR.2.1.2.1 (by omega)
  have hl : lv_has ls 6 [(0, .ref y), (1, _), (2, _), (3, _)] := hl
  refine lv_aload_n hx hb dX8_blocks_0 rfl (lv_at hl 0 rfl) ?_
  refine lv_iload_n hx hb dX8_blocks_1 rfl (lv_at hl 1 rfl) ?_
  refine lv_iload_n hx hb dX8_blocks_2 rfl (lv_at hl 2 rfl) ?_
  refine lv_iload_n hx hb dX8_blocks_3 rfl (lv_at hl 3 rfl) ?_
  refine z_goe hw.2 (z_runV Cx hw (c_X8_isConnection E l X C y ad sc g f t p0) (cwV 3 Cx.1.2.2.2.2 gX8_blocks_X8_isConnection rfl rfl rfl (by decide +kernel) ⟨Nat.le_of_ble_eq_true rfl, Nat.le_of_ble_eq_true rfl⟩) (z_recv Cx hw (r := (RX8, TX8, 26)) zM_x rfl) rfl hl.1 rfl (Nat.le_of_ble_eq_true rfl) dX8_blocks_4 ⟨Nat.le_of_ble_eq_true rfl, Nat.le_of_ble_eq_true rfl⟩) (fun H locs hw => ?_)
  rw [hn6] at hw ⊢
  have hcon := zmcon_spec hnH f t p0
  refine lv_if_ne (tgt := 12) hx hb dX8_blocks_7 (by decide) (fun c_7 => ?_) (fun c_7 => ?_)
  · skip
    have he0 : zmcon (nI (vH V).length) f t p0 = 0 := of_decide_eq_true ((zb_1 _).mp c_7)
    obtain ⟨ecn, ⟨⟨i0, hi0, rfl⟩, j0, hj0, rfl⟩, hft, hp⟩ : zmcon (nI (vH V).length) f t p0 = nI 0 ∧ (zix f (vH V).length ∧ zix t (vH V).length) ∧ ¬ f = t ∧ zprt p0 := by
      rcases hcon with h | ⟨e, -⟩ | ⟨e, -⟩
      · exact h
      · rw [e] at he0; exact absurd he0 (by decide)
      · rw [e] at he0; exact absurd he0 (by decide)
    rw [ecn] at hw
    have hij : ¬ i0 = j0 := fun h => hft (by rw [h])
    obtain ⟨n, hn, rfl⟩ : ∃ n, n < 16 ∧ p0 = nI n := by
      obtain ⟨n, hn, e⟩ := nI_of hp.1
      exact ⟨n, (nI_ltI (b := 16) hn (by omega)).mp (by rw [← e]; exact hp.2), e⟩
    refine lv_iconst (v := nI 0) hx hb dX8_blocks_12 rfl ?_
    refine lv_istore hx hb dX8_blocks_13 hl (by decide) rfl (fun ls hl => ?_)
    have hl : lv_has ls 6 [(4, .int (nI 0)), (0, .ref y), (1, _), (2, _), (3, _)] := hl
    refine lv_iconst (v := nI 1) hx hb dX8_blocks_15 rfl ?_
    refine lv_istore hx hb dX8_blocks_16 hl (by decide) rfl (fun ls hl => ?_)
    have hl : lv_has ls 6 [(5, .int (nI 1)), (4, .int (nI 0)), (0, .ref y), (1, _), (2, _), (3, _)] := hl
    have loop_18 : ∀ (nn : Nat) (i S : Nat) (H : Heap) (locs : List Loc) (ls : Array Slot), (1 ≤ i ∧ i ≤ 9) → (S < 2 ^ i) → (zsumP (fun p => zopenV V p i0 j0) (zbit (nI n)) (9 - i) (i) (nI S) = zsumP (fun p => zopenV V p i0 j0) (zbit (nI n)) 8 1 0) → 9 - i < nn → zHw E (zQ E (X ++ zMw E y ad (va_up sc 0 (nI 0)) g) C) s H locs → lv_has ls 6 [(0, .ref y), (1, .int (nI i0)), (2, .int (nI j0)), (3, .int (nI n)), (4, .int (nI S)), (5, .int (nI i))] → W p l e (zR 6 0 0) s m ([.ref y, .int (nI i0), .int (nI j0), .int (nI n)] : List Value).toArray below meth c H locs 0 0 (MQ below (va_Qi (fun r (c : Nat) => zA_blocks V (nI i0) (nI j0) (nI n) c r) (fun c tt => zQ E (X ++ zMw E y ad (va_up sc 0 (nI c)) g) C tt.heap) (eA E)) ([.ref y, .int (nI i0), .int (nI j0), .int (nI n)] : List Value).toArray s 0 0 (eA E)) (F0 m 18 ls []) := by
      intro nn
      induction nn with
      | zero => intro i S H locs ls hi hS hacc hm; exact absurd hm (Nat.not_lt_zero _)
      | succ nn ih_18 =>
        intro i S H locs ls hi hS hacc hm hw hl
        refine lv_iload hx hb dX8_blocks_18 (lv_at hl 5 rfl) ?_
        refine lv_bipush (v := nI 8) hx hb dX8_blocks_20 rfl ?_
        refine lv_icmp_gt (tgt := 59) hx hb dX8_blocks_22 (by decide) (fun c_22 => ?_) (fun c_22 => ?_)
        · skip
          have c_33 : i = 9 := by
            have h1 : 8 < i := by
              rcases Nat.lt_or_ge 8 i with h | h
              · exact h
              · exact absurd c_22 (nI_nlt h (by omega))
            omega
          subst c_33
          refine lv_iload hx hb dX8_blocks_59 (lv_at hl 4 rfl) ?_
          exact z_iret (wf := (fun (c : Nat) => zQ E (X ++ zMw E y ad (va_up sc 0 (nI c)) g) C)) Cx hr rfl (Nat.le_of_ble_eq_true rfl) (Nat.le_of_ble_eq_true rfl) 0 hw (Or.inl ⟨rfl, i0, j0, rfl, rfl, hi0, hj0, hij, hp, hacc⟩) dX8_blocks_61
        · skip
          have c_32 : i ≤ 8 := by
            rcases Nat.lt_or_ge 8 i with h | h
            · exact absurd (nI_lt h (by omega)) c_22
            · exact h
          have h9 : 9 - i = (8 - i) + 1 := by omega
          have h10 : 9 - (i + 1) = 8 - i := by omega
          refine lv_iload hx hb dX8_blocks_25 (lv_at hl 4 rfl) ?_
          refine lv_aload_n hx hb dX8_blocks_27 rfl (lv_at hl 0 rfl) ?_
          refine lv_iload hx hb dX8_blocks_28 (lv_at hl 5 rfl) ?_
          refine lv_iload_n hx hb dX8_blocks_30 rfl (lv_at hl 1 rfl) ?_
          refine lv_iload_n hx hb dX8_blocks_31 rfl (lv_at hl 2 rfl) ?_
          refine z_goe hw.2 (z_runV Cx hw (c_m_byPart E l X C y ad (va_up sc 0 (nI 0)) g V (zMR_0 hR _) hI i i0 j0 hi.1 c_32 hi0 hj0) (cwV 3 Cx.1.2.2.2.2 gX8_blocks_X8_byPart rfl rfl rfl (by decide +kernel) ⟨Nat.le_of_ble_eq_true rfl, Nat.le_of_ble_eq_true rfl⟩) (z_recv Cx hw (r := (RX8, TX8, 26)) zM_x rfl) rfl hl.1 rfl (Nat.le_of_ble_eq_true rfl) dX8_blocks_32 ⟨Nat.le_of_ble_eq_true rfl, Nat.le_of_ble_eq_true rfl⟩) (fun H locs hw => ?_)
          refine lv_iload_n hx hb dX8_blocks_35 rfl (lv_at hl 3 rfl) ?_
          refine lv_ishr hx hb dX8_blocks_36 ?_
          refine lv_iconst (v := 1) hx hb dX8_blocks_37 (by decide) ?_
          refine lv_iand hx hb dX8_blocks_38 ?_
          refine lv_if_ne (tgt := 49) hx hb dX8_blocks_39 (by decide) (fun c_39 => ?_) (fun c_39 => ?_)
          · skip
            have hz : ¬ zopenV V i i0 j0 &&& zbit (nI n) = 0 := fun h => c_39 ((zbit_0 _ n (by omega)).mpr h)
            have hacc2 : zsumP (fun p => zopenV V p i0 j0) (zbit (nI n)) (9 - (i + 1)) (i + 1) (nI S) = zsumP (fun p => zopenV V p i0 j0) (zbit (nI n)) 8 1 0 := by rw [← hacc, h9, h10, zsumP, if_neg hz]
            refine lv_iconst (v := 0) hx hb dX8_blocks_49 (by decide) ?_
            refine lv_ior hx hb dX8_blocks_50 ?_
            refine lv_topi (fun x_50 ex_50 => ?_)
            rw [zx_or0] at ex_50
            subst ex_50
            refine lv_istore hx hb dX8_blocks_51 hl (by decide) rfl (fun ls hl => ?_)
            have hl : lv_has ls 6 [(4, _), (0, .ref y), (1, .int (nI i0)), (2, .int (nI j0)), (3, .int (nI n)), (5, .int (nI i))] := hl
            refine lv_iinc (v := nI (i + 1)) hx hb dX8_blocks_53 hl (k := 5) rfl (nI_1 i) (by decide) rfl (fun ls hl => ?_)
            have hl : lv_has ls 6 [(5, .int (nI (i + 1))), (4, _), (0, .ref y), (1, .int (nI i0)), (2, .int (nI j0)), (3, .int (nI n))] := hl
            refine lv_goto (tgt := 18) hx hb dX8_blocks_56 (by decide) ?_
            exact ih_18 (i + 1) S H _ ls (by omega) (by rw [Nat.pow_succ]; omega) hacc2 (by omega) hw (lv_sub hl [2, 3, 4, 5, 1, 0] rfl)
          · skip
            have hz : zopenV V i i0 j0 &&& zbit (nI n) = 0 := (zbit_0 _ n (by omega)).mp c_39
            obtain ⟨ho, S2, hS2, eS⟩ := zor_bit hS (show i < 13 by omega)
            have hacc2 : zsumP (fun p => zopenV V p i0 j0) (zbit (nI n)) (9 - (i + 1)) (i + 1) (nI S2) = zsumP (fun p => zopenV V p i0 j0) (zbit (nI n)) 8 1 0 := by rw [← hacc, h9, h10, zsumP, if_pos hz, ← eS]
            refine lv_iconst (v := 1) hx hb dX8_blocks_42 (by decide) ?_
            refine lv_iload hx hb dX8_blocks_43 (lv_at hl 5 rfl) ?_
            refine lv_ishl hx hb dX8_blocks_45 ?_
            refine lv_goto (tgt := 50) hx hb dX8_blocks_46 (by decide) ?_
            refine lv_ior hx hb dX8_blocks_50 ?_
            refine lv_topi (fun x_50 ex_50 => ?_)
            rw [ho, eS] at ex_50
            subst ex_50
            refine lv_istore hx hb dX8_blocks_51 hl (by decide) rfl (fun ls hl => ?_)
            have hl : lv_has ls 6 [(4, _), (0, .ref y), (1, .int (nI i0)), (2, .int (nI j0)), (3, .int (nI n)), (5, .int (nI i))] := hl
            refine lv_iinc (v := nI (i + 1)) hx hb dX8_blocks_53 hl (k := 5) rfl (nI_1 i) (by decide) rfl (fun ls hl => ?_)
            have hl : lv_has ls 6 [(5, .int (nI (i + 1))), (4, _), (0, .ref y), (1, .int (nI i0)), (2, .int (nI j0)), (3, .int (nI n))] := hl
            refine lv_goto (tgt := 18) hx hb dX8_blocks_56 (by decide) ?_
            exact ih_18 (i + 1) S2 H _ ls (by omega) hS2 hacc2 (by omega) hw (lv_sub hl [2, 3, 4, 5, 1, 0] rfl)
    exact loop_18 ((9 - 1) + 1) 1 0 _ _ ls (by omega) (by decide) rfl (Nat.lt_succ_self _) hw (lv_sub hl [2, 3, 4, 5, 1, 0] rfl)
  · skip
    refine lv_iconst (v := 0) hx hb dX8_blocks_10 (by decide) ?_
    have hne : ¬ zmcon (nI (vH V).length) f t p0 = 0 := of_decide_eq_false ((zb_0 _).mp c_7)
    rcases hcon with ⟨e, -⟩ | ⟨e, h⟩ | ⟨e, h⟩
    · exact absurd e hne
    · rw [e] at hw
      exact z_iret (wf := (fun (c : Nat) => zQ E (X ++ zMw E y ad (va_up sc 0 (nI c)) g) C)) Cx hr rfl (Nat.le_of_ble_eq_true rfl) (Nat.le_of_ble_eq_true rfl) 1 hw (Or.inr (Or.inl ⟨rfl, h⟩)) dX8_blocks_11
    · rw [e] at hw
      exact z_iret (wf := (fun (c : Nat) => zQ E (X ++ zMw E y ad (va_up sc 0 (nI c)) g) C)) Cx hr rfl (Nat.le_of_ble_eq_true rfl) (Nat.le_of_ble_eq_true rfl) 2 hw (Or.inr (Or.inr ⟨rfl, h⟩)) dX8_blocks_11

