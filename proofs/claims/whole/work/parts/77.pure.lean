/-! pure rows: blocks, ports, rules, routes as class and reference see them (the rows bt .. b_sshr are pasted from kit/laws/BITS) -/
def bt (x : Int32) (i : Nat) : Bool := x.toBitVec.getLsbD i
theorem b_ext {x y : Int32} (h : ∀ i, i < 32 → bt x i = bt y i) : x = y := Int32.toBitVec_inj.mp (BitVec.eq_of_getLsbD_eq (fun i hi => h i hi))
theorem b_or (x y : Int32) (i : Nat) : bt (x ||| y) i = (bt x i || bt y i) := by unfold bt; rw [Int32.toBitVec_or, BitVec.getLsbD_or]
theorem b_and (x y : Int32) (i : Nat) : bt (x &&& y) i = (bt x i && bt y i) := by unfold bt; rw [Int32.toBitVec_and, BitVec.getLsbD_and]
theorem b_xor (x y : Int32) (i : Nat) : bt (x ^^^ y) i = (bt x i ^^ bt y i) := by unfold bt; rw [Int32.toBitVec_xor, BitVec.getLsbD_xor]
theorem b_big {x : Int32} {i : Nat} (h : 32 ≤ i) : bt x i = false := BitVec.getLsbD_of_ge _ _ h
theorem b_255 (i : Nat) : bt 255 i = decide (i < 8) := by
  rcases Nat.lt_or_ge i 32 with h | h
  · exact (by decide +kernel : ∀ i, i < 32 → bt 255 i = decide (i < 8)) i h
  · rw [b_big h, decide_eq_false (by omega)]
theorem b_65535 (i : Nat) : bt 65535 i = decide (i < 16) := by
  rcases Nat.lt_or_ge i 32 with h | h
  · exact (by decide +kernel : ∀ i, i < 32 → bt 65535 i = decide (i < 16)) i h
  · rw [b_big h, decide_eq_false (by omega)]
theorem b_m1 : ∀ i, i < 32 → bt (-1) i = true := by decide +kernel
theorem b_0 (i : Nat) : bt 0 i = false := BitVec.getLsbD_zero
theorem s_l : ∀ n, n < 32 → ((nI n &&& 31).toBitVec.smod 32).toNat = n := by decide +kernel
theorem s_u : ∀ n, n < 32 → (((nI n).toUInt32 &&& Int32.toUInt32 31).toBitVec % 32).toNat = n := by decide +kernel
theorem b_shl (n : Nat) (hn : n < 32) (x : Int32) {i : Nat} (hi : i < 32) : bt (x <<< (nI n &&& 31)) i = (decide (n ≤ i) && bt x (i - n)) := by
  unfold bt
  rw [Int32.toBitVec_shiftLeft]
  show (x.toBitVec <<< ((nI n &&& 31).toBitVec.smod 32).toNat).getLsbD i = _
  rw [s_l n hn, BitVec.getLsbD_shiftLeft]
  rcases Nat.lt_or_ge i n with h | h
  · simp [h, Nat.not_le.mpr h]
  · simp [hi, h, Nat.not_lt.mpr h]
theorem b_ushr (n : Nat) (hn : n < 32) (x : Int32) (i : Nat) : bt ((x.toUInt32 >>> ((nI n).toUInt32 &&& Int32.toUInt32 31)).toInt32) i = bt x (n + i) := by
  show (x.toUInt32 >>> ((nI n).toUInt32 &&& Int32.toUInt32 31)).toBitVec.getLsbD i = x.toUInt32.toBitVec.getLsbD (n + i)
  rw [UInt32.toBitVec_shiftRight]
  show (x.toUInt32.toBitVec >>> (((nI n).toUInt32 &&& Int32.toUInt32 31).toBitVec % 32).toNat).getLsbD i = _
  rw [s_u n hn, BitVec.getLsbD_ushiftRight]
theorem b_sshr (n : Nat) (hn : n < 32) (x : Int32) {i : Nat} (hi : i < 32) : bt (x >>> (nI n &&& 31)) i = if n + i < 32 then bt x (n + i) else bt x 31 := by
  unfold bt
  rw [Int32.toBitVec_shiftRight]
  show (x.toBitVec.sshiftRight ((nI n &&& 31).toBitVec.smod 32).toNat).getLsbD i = _
  rw [s_l n hn, BitVec.getLsbD_sshiftRight, BitVec.msb_eq_getLsbD_last]
  simp [hi]
theorem zi_lt (a b : Int32) : a < b ↔ a.toInt < b.toInt := Int32.lt_iff_toInt_lt
theorem zi_le (a b : Int32) : a ≤ b ↔ a.toInt ≤ b.toInt := Int32.le_iff_toInt_le
theorem zi_eq (a b : Int32) : a = b ↔ a.toInt = b.toInt := Int32.toInt_inj.symm
theorem zp_pow {K : Nat} (hK : K ≤ 10) : 0 < 2 ^ K ∧ 2 ^ K ≤ 1024 := ⟨Nat.two_pow_pos K, Nat.le_trans (Nat.pow_le_pow_right (by decide) hK) (Nat.le_of_ble_eq_true rfl)⟩
theorem zsh_nat : ∀ K, K < 11 → (1 : Int32) <<< (nI K &&& 31) = nI (2 ^ K) := by decide +kernel
theorem zsh_m1 : ∀ K, K < 11 → (1 : Int32) <<< (nI K &&& 31) - 1 = nI (2 ^ K - 1) := by decide +kernel
theorem zmask {B K : Nat} (hB : B < 2 ^ 31) (hK : K ≤ 10) : nI B &&& nI (2 ^ K - 1) = nI (B % 2 ^ K) := by
  have h := zp_pow hK
  exact pk_andN (by omega) K (pk_tn (by omega))
theorem zbok_iff {B K : Nat} (hB : B < 2 ^ 31) (hK : K ≤ 10) : zbok (nI B) (nI K) ↔ B < 1024 ∧ B % 2 ^ K = 0 := by
  have h := zp_pow hK
  have hm : B % 2 ^ K < 2 ^ K := Nat.mod_lt _ h.1
  unfold zbok
  rw [zsh_m1 K (by omega), zmask hB hK]
  constructor
  · rintro ⟨-, -, -, h4, h5⟩
    exact ⟨(nI_ltI (b := 1024) hB (by omega)).mp h4, (nI_eq (b := 0) (by omega) (by omega)).mp h5⟩
  · rintro ⟨h4, h5⟩
    exact ⟨nI_pos (by omega), (by rw [show (10 : Int32) = nI 10 from rfl]; exact nI_nlt hK (by omega)), nI_pos hB, nI_lt (b := 1024) h4 (by omega), by rw [h5]; rfl⟩
theorem zbok_nat {b k : Int32} (h : zbok b k) : ∃ B K : Nat, b = nI B ∧ k = nI K ∧ K ≤ 10 ∧ B + 2 ^ K ≤ 1024 ∧ B % 2 ^ K = 0 := by
  have h0 := h
  obtain ⟨h1, h2, h3, -, -⟩ := h0
  obtain ⟨K, hK, rfl⟩ := nI_of2 (M := 10) (n := 10) rfl h1 (Int32.not_lt.mp h2)
  obtain ⟨B, hB, rfl⟩ := nI_of h3
  obtain ⟨h4, h5⟩ := (zbok_iff hB hK).mp h
  refine ⟨B, K, rfl, rfl, hK, ?_, h5⟩
  rcases (show K = 0 ∨ K = 1 ∨ K = 2 ∨ K = 3 ∨ K = 4 ∨ K = 5 ∨ K = 6 ∨ K = 7 ∨ K = 8 ∨ K = 9 ∨ K = 10 by omega) with rfl | rfl | rfl | rfl | rfl | rfl | rfl | rfl | rfl | rfl | rfl <;> omega
theorem zmblk_iff (b k : Int32) : zmblk b k ↔ zbok b k := by
  by_cases h1 : k < 0
  · exact ⟨fun h => absurd h1 h.1, fun h => absurd h1 h.1⟩
  by_cases h2 : 10 < k
  · exact ⟨fun h => absurd h2 h.2.1, fun h => absurd h2 h.2.1⟩
  by_cases h3 : b < 0
  · exact ⟨fun h => absurd h3 h.2.2.1, fun h => absurd h3 h.2.2.1⟩
  obtain ⟨K, hK, rfl⟩ := nI_of2 (M := 10) (n := 10) rfl h1 (Int32.not_lt.mp h2)
  obtain ⟨B, hB, rfl⟩ := nI_of h3
  have hp := zp_pow hK
  have hm : B % 2 ^ K < 2 ^ K := Nat.mod_lt _ hp.1
  rw [zbok_iff hB hK]
  unfold zmblk
  rw [zsh_nat K (by omega), pk_rem hB hp.1 (by omega), show (1024 : Int32) = nI 1024 from rfl, pk_sub hp.2]
  constructor
  · rintro ⟨-, -, -, h4, h5⟩
    have h6 : B % 2 ^ K = 0 := (nI_eq (b := 0) (by omega) (by omega)).mp h5
    have h7 : B ≤ 1024 - 2 ^ K := by
      rcases Nat.lt_or_ge (1024 - 2 ^ K) B with c | c
      · exact absurd (nI_lt c hB) h4
      · exact c
    exact ⟨by omega, h6⟩
  · rintro ⟨h4, h5⟩
    refine ⟨h1, h2, h3, nI_nlt ?_ (by omega), by rw [h5]; rfl⟩
    rcases (show K = 0 ∨ K = 1 ∨ K = 2 ∨ K = 3 ∨ K = 4 ∨ K = 5 ∨ K = 6 ∨ K = 7 ∨ K = 8 ∨ K = 9 ∨ K = 10 by omega) with rfl | rfl | rfl | rfl | rfl | rfl | rfl | rfl | rfl | rfl | rfl <;> omega
/-- a block's addresses -/
theorem zhs_in {B K : Nat} (hK : K ≤ 10) (hB : B + 2 ^ K ≤ 1024) (hd : B % 2 ^ K = 0) (x : Int32) : zhs (nI B) (nI K) x = decide ((B : Int) ≤ x.toInt ∧ x.toInt < ((B + 2 ^ K : Nat) : Int)) := by
  have hs : ((nI K &&& 31).toBitVec.smod 32).toNat = K := s_l K (by omega)
  have e : x >>> (nI K &&& 31) = nI B >>> (nI K &&& 31) ↔ ((B : Int) ≤ x.toInt ∧ x.toInt < ((B + 2 ^ K : Nat) : Int)) := by
    rw [zi_eq, pk_shr x _ K hs, pk_shr (nI B) _ K hs, nI_toInt (by omega), Int.shiftRight_eq_div_pow, Int.shiftRight_eq_div_pow]
    rcases (show K = 0 ∨ K = 1 ∨ K = 2 ∨ K = 3 ∨ K = 4 ∨ K = 5 ∨ K = 6 ∨ K = 7 ∨ K = 8 ∨ K = 9 ∨ K = 10 by omega) with rfl | rfl | rfl | rfl | rfl | rfl | rfl | rfl | rfl | rfl | rfl <;> omega
  unfold zhs
  exact decide_eq_decide.mpr e
theorem zbi_nat (B K : Nat) : zbi (nI B, nI K) = nI (16 * B + K) := by
  show (16 : Int32) * nI B + nI K = _
  rw [show (16 : Int32) = nI 16 from rfl, pk_mul, nI_add]
theorem zfir_nat {B K : Nat} (hB : B ≤ 1024) (hK : K ≤ 10) : nI (16 * B + K) / 16 = nI B := by
  show nI (16 * B + K) / nI 16 = nI B
  rw [pk_div (by omega) (by omega) (by omega), show (16 * B + K) / 16 = B by omega]
theorem zrem_nat {B K : Nat} (hB : B ≤ 1024) (hK : K ≤ 10) : nI (16 * B + K) - nI (16 * B + K) / 16 * 16 = nI K := by
  show nI (16 * B + K) - nI (16 * B + K) / nI 16 * nI 16 = nI K
  rw [pk_rem (by omega) (by omega) (by omega), show (16 * B + K) % 16 = K by omega]
theorem zmhas_in {B K : Nat} (hK : K ≤ 10) (hB : B + 2 ^ K ≤ 1024) (x : Int32) : zmhas (nI (16 * B + K)) x = decide ((B : Int) ≤ x.toInt ∧ x.toInt < ((B + 2 ^ K : Nat) : Int)) := by
  have hp := zp_pow hK
  have e1 : zfir (nI (16 * B + K)) = nI B := zfir_nat (by omega) hK
  have e2 : zman (nI (16 * B + K)) = nI (2 ^ K) := by
    show (1 : Int32) <<< ((nI (16 * B + K) - nI (16 * B + K) / 16 * 16) &&& 31) = _
    rw [zrem_nat (by omega) hK, zsh_nat K (by omega)]
  unfold zmhas
  rw [e1, e2, nI_add]
  refine decide_eq_decide.mpr ?_
  rw [zi_lt, zi_lt, nI_toInt (by omega), nI_toInt (by omega)]
  omega
theorem zmhas_eq {w : zBk} (h : zbok w.1 w.2) (x : Int32) : zmhas (zbi w) x = zhs w.1 w.2 x := by
  obtain ⟨b, k⟩ := w
  obtain ⟨B, K, rfl, rfl, hK, hB, hd⟩ := zbok_nat h
  rw [zbi_nat, zmhas_in hK hB]
  exact (zhs_in hK hB hd x).symm
theorem zfir_eq {w : zBk} (h : zbok w.1 w.2) : zfir (zbi w) = w.1 := by
  obtain ⟨b, k⟩ := w
  obtain ⟨B, K, rfl, rfl, hK, hB, hd⟩ := zbok_nat h
  rw [zbi_nat]
  exact zfir_nat (by omega) hK
theorem zsiz_eq {w : zBk} (h : zbok w.1 w.2) : zbi w - zbi w / 16 * 16 = w.2 := by
  obtain ⟨b, k⟩ := w
  obtain ⟨B, K, rfl, rfl, hK, hB, hd⟩ := zbok_nat h
  rw [zbi_nat]
  exact zrem_nat (by omega) hK
theorem zman_eq {w : zBk} (h : zbok w.1 w.2) : zman (zbi w) = (1 : Int32) <<< (w.2 &&& 31) := by
  show (1 : Int32) <<< ((zbi w - zbi w / 16 * 16) &&& 31) = _
  rw [zsiz_eq h]
theorem zmcom_eq {v w : zBk} (h : zbok v.1 v.2) (h2 : zbok w.1 w.2) : zmcom (zbi v) (zbi w) = zovl v w := by
  unfold zmcom zovl
  rw [zmhas_eq h, zmhas_eq h2, zfir_eq h, zfir_eq h2]
theorem zbi_inj {v w : zBk} (h : zbok v.1 v.2) (h2 : zbok w.1 w.2) (e : zbi v = zbi w) : v = w := by
  have e1 : v.1 = w.1 := by rw [← zfir_eq h, ← zfir_eq h2, e]
  have e2 : v.2 = w.2 := by rw [← zsiz_eq h, ← zsiz_eq h2, e]
  exact Prod.ext e1 e2
/-- two blocks of one size with an address in common are one -/
theorem zhs_one {v w : zBk} (h : zbok v.1 v.2) (h2 : zbok w.1 w.2) {x : Int32} (hv : zhs v.1 v.2 x = true) (hw : zhs w.1 w.2 x = true) (e : v.2 = w.2) : v = w := by
  obtain ⟨b, k⟩ := v
  obtain ⟨b2, k2⟩ := w
  have e' : k = k2 := e
  subst e'
  obtain ⟨B, K, rfl, rfl, hK, hB, hd⟩ := zbok_nat h
  obtain ⟨B2, K2, rfl, ek, hK2, hB2, hd2⟩ := zbok_nat h2
  have : K = K2 := (nI_eq (by omega) (by omega)).mp ek
  subst this
  have c1 := of_decide_eq_true ((zhs_in hK hB hd x).symm.trans hv)
  have c2 := of_decide_eq_true ((zhs_in hK hB2 hd2 x).symm.trans hw)
  have : B = B2 := by
    rcases (show K = 0 ∨ K = 1 ∨ K = 2 ∨ K = 3 ∨ K = 4 ∨ K = 5 ∨ K = 6 ∨ K = 7 ∨ K = 8 ∨ K = 9 ∨ K = 10 by omega) with rfl | rfl | rfl | rfl | rfl | rfl | rfl | rfl | rfl | rfl | rfl <;> omega
  rw [this]
/-! ports -/
theorem zmpp_eq (f la : Int32) : zmpp f la = true ↔ zpok f la := by
  unfold zmpp zpok
  rw [decide_eq_true_iff, zi_lt 15 la, zi_lt la 16]
  have e1 : (15 : Int32).toInt = 15 := rfl
  have e2 : (16 : Int32).toInt = 16 := rfl
  rw [e1, e2]
  exact ⟨fun h => ⟨h.1, h.2.1, by omega⟩, fun h => ⟨h.1, h.2.1, by omega⟩⟩
theorem zps_all : ∀ F, F < 16 → ∀ L, L < 16 → F ≤ L → zps (nI F) (nI L) &&& 65535 = zps (nI F) (nI L) := by decide +kernel
theorem zps_ok {f la : Int32} (h : zpok f la) : zps f la &&& 65535 = zps f la := by
  obtain ⟨h1, h2, h3⟩ := h
  obtain ⟨F, hF, rfl⟩ := nI_of h1
  have h4 : ¬ la < 0 := fun h => by
    have e0 : (0 : Int32).toInt = 0 := rfl
    have e1 := nI_toInt hF
    rw [zi_lt] at h h2
    omega
  obtain ⟨L, hL, rfl⟩ := nI_of h4
  have h5 : L < 16 := (nI_ltI (b := 16) hL (by omega)).mp h3
  have h6 : F ≤ L := by
    rcases Nat.lt_or_ge L F with c | c
    · exact absurd (nI_lt c hF) h2
    · exact c
  exact zps_all F (by omega) L h5 h6
