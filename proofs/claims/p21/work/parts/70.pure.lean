/-! pure rows: blocks, ports, rules, routes as class and reference see them (the rows bt .. b_sshr are pasted from kit/laws/BITS) -/
def bt (x : Int32) (i : Nat) : Bool := x.toBitVec.getLsbD i
theorem b_ext {x y : Int32} (h : ∀ i, i < 32 → bt x i = bt y i) : x = y := Int32.toBitVec_inj.mp (BitVec.eq_of_getLsbD_eq (fun i hi => h i hi))
theorem b_or (x y : Int32) (i : Nat) : bt (x ||| y) i = (bt x i || bt y i) := by unfold bt; rw [Int32.toBitVec_or, BitVec.getLsbD_or]
theorem b_and (x y : Int32) (i : Nat) : bt (x &&& y) i = (bt x i && bt y i) := by unfold bt; rw [Int32.toBitVec_and, BitVec.getLsbD_and]
theorem b_xor (x y : Int32) (i : Nat) : bt (x ^^^ y) i = (bt x i ^^ bt y i) := by unfold bt; rw [Int32.toBitVec_xor, BitVec.getLsbD_xor]
theorem b_big {x : Int32} {i : Nat} (h : 32 ≤ i) : bt x i = false := BitVec.getLsbD_of_ge _ _ h
theorem b_255 (i : Nat) : bt 255 i = decide (i < 8) := by
  rcases Nat.lt_or_ge i 32 with h | h
  · exact (by decide +kernel : ∀ i, i < 32 → bt 255 i = decide (i < 8)) i h
  · rw [b_big h, decide_eq_false (by omega)]
theorem b_65535 (i : Nat) : bt 65535 i = decide (i < 16) := by
  rcases Nat.lt_or_ge i 32 with h | h
  · exact (by decide +kernel : ∀ i, i < 32 → bt 65535 i = decide (i < 16)) i h
  · rw [b_big h, decide_eq_false (by omega)]
theorem b_m1 : ∀ i, i < 32 → bt (-1) i = true := by decide +kernel
theorem b_0 (i : Nat) : bt 0 i = false := BitVec.getLsbD_zero
theorem s_l : ∀ n, n < 32 → ((nI n &&& 31).toBitVec.smod 32).toNat = n := by decide +kernel
theorem s_u : ∀ n, n < 32 → (((nI n).toUInt32 &&& Int32.toUInt32 31).toBitVec % 32).toNat = n := by decide +kernel
theorem b_shl (n : Nat) (hn : n < 32) (x : Int32) {i : Nat} (hi : i < 32) : bt (x <<< (nI n &&& 31)) i = (decide (n ≤ i) && bt x (i - n)) := by
  unfold bt
  rw [Int32.toBitVec_shiftLeft]
  show (x.toBitVec <<< ((nI n &&& 31).toBitVec.smod 32).toNat).getLsbD i = _
  rw [s_l n hn, BitVec.getLsbD_shiftLeft]
  rcases Nat.lt_or_ge i n with h | h
  · simp [h, Nat.not_le.mpr h]
  · simp [hi, h, Nat.not_lt.mpr h]
theorem b_ushr (n : Nat) (hn : n < 32) (x : Int32) (i : Nat) : bt ((x.toUInt32 >>> ((nI n).toUInt32 &&& Int32.toUInt32 31)).toInt32) i = bt x (n + i) := by
  show (x.toUInt32 >>> ((nI n).toUInt32 &&& Int32.toUInt32 31)).toBitVec.getLsbD i = x.toUInt32.toBitVec.getLsbD (n + i)
  rw [UInt32.toBitVec_shiftRight]
  show (x.toUInt32.toBitVec >>> (((nI n).toUInt32 &&& Int32.toUInt32 31).toBitVec % 32).toNat).getLsbD i = _
  rw [s_u n hn, BitVec.getLsbD_ushiftRight]
theorem b_sshr (n : Nat) (hn : n < 32) (x : Int32) {i : Nat} (hi : i < 32) : bt (x >>> (nI n &&& 31)) i = if n + i < 32 then bt x (n + i) else bt x 31 := by
  unfold bt
  rw [Int32.toBitVec_shiftRight]
  show (x.toBitVec.sshiftRight ((nI n &&& 31).toBitVec.smod 32).toNat).getLsbD i = _
  rw [s_l n hn, BitVec.getLsbD_sshiftRight, BitVec.msb_eq_getLsbD_last]
  simp [hi]
theorem zi_lt (a b : Int32) : a < b ↔ a.toInt < b.toInt := Int32.lt_iff_toInt_lt
theorem zi_le (a b : Int32) : a ≤ b ↔ a.toInt ≤ b.toInt := Int32.le_iff_toInt_le
theorem zi_eq (a b : Int32) : a = b ↔ a.toInt = b.toInt := Int32.toInt_inj.symm
theorem zp_pow {K : Nat} (hK : K ≤ 10) : 0 < 2 ^ K ∧ 2 ^ K ≤ 1024 := ⟨Nat.two_pow_pos K, Nat.le_trans (Nat.pow_le_pow_right (by decide) hK) (Nat.le_of_ble_eq_true rfl)⟩
theorem zsh_nat : ∀ K, K < 11 → (1 : Int32) <<< (nI K &&& 31) = nI (2 ^ K) := by decide +kernel
theorem zsh_m1 : ∀ K, K < 11 → (1 : Int32) <<< (nI K &&& 31) - 1 = nI (2 ^ K - 1) := by decide +kernel
theorem zmask {B K : Nat} (hB : B < 2 ^ 31) (hK : K ≤ 10) : nI B &&& nI (2 ^ K - 1) = nI (B % 2 ^ K) := by
  have h := zp_pow hK
  exact pk_andN (by omega) K (pk_tn (by omega))
theorem zbok_iff {B K : Nat} (hB : B < 2 ^ 31) (hK : K ≤ 10) : zbok (nI B) (nI K) ↔ B < 1024 ∧ B % 2 ^ K = 0 := by
  have h := zp_pow hK
  have hm : B % 2 ^ K < 2 ^ K := Nat.mod_lt _ h.1
  unfold zbok
  rw [zsh_m1 K (by omega), zmask hB hK]
  constructor
  · rintro ⟨-, -, -, h4, h5⟩
    exact ⟨(nI_ltI (b := 1024) hB (by omega)).mp h4, (nI_eq (b := 0) (by omega) (by omega)).mp h5⟩
  · rintro ⟨h4, h5⟩
    exact ⟨nI_pos (by omega), (by rw [show (10 : Int32) = nI 10 from rfl]; exact nI_nlt hK (by omega)), nI_pos hB, nI_lt (b := 1024) h4 (by omega), by rw [h5]; rfl⟩
theorem zbok_nat {b k : Int32} (h : zbok b k) : ∃ B K : Nat, b = nI B ∧ k = nI K ∧ K ≤ 10 ∧ B + 2 ^ K ≤ 1024 ∧ B % 2 ^ K = 0 := by
  have h0 := h
  obtain ⟨h1, h2, h3, -, -⟩ := h0
  obtain ⟨K, hK, rfl⟩ := nI_of2 (M := 10) (n := 10) rfl h1 (Int32.not_lt.mp h2)
  obtain ⟨B, hB, rfl⟩ := nI_of h3
  obtain ⟨h4, h5⟩ := (zbok_iff hB hK).mp h
  refine ⟨B, K, rfl, rfl, hK, ?_, h5⟩
  rcases (show K = 0 ∨ K = 1 ∨ K = 2 ∨ K = 3 ∨ K = 4 ∨ K = 5 ∨ K = 6 ∨ K = 7 ∨ K = 8 ∨ K = 9 ∨ K = 10 by omega) with rfl | rfl | rfl | rfl | rfl | rfl | rfl | rfl | rfl | rfl | rfl <;> omega
/-- a block's addresses -/
theorem zhs_in {B K : Nat} (hK : K ≤ 10) (hB : B + 2 ^ K ≤ 1024) (hd : B % 2 ^ K = 0) (x : Int32) : zhs (nI B) (nI K) x = decide ((B : Int) ≤ x.toInt ∧ x.toInt < ((B + 2 ^ K : Nat) : Int)) := by
  have hs : ((nI K &&& 31).toBitVec.smod 32).toNat = K := s_l K (by omega)
  have e : x >>> (nI K &&& 31) = nI B >>> (nI K &&& 31) ↔ ((B : Int) ≤ x.toInt ∧ x.toInt < ((B + 2 ^ K : Nat) : Int)) := by
    rw [zi_eq, pk_shr x _ K hs, pk_shr (nI B) _ K hs, nI_toInt (by omega), Int.shiftRight_eq_div_pow, Int.shiftRight_eq_div_pow]
    rcases (show K = 0 ∨ K = 1 ∨ K = 2 ∨ K = 3 ∨ K = 4 ∨ K = 5 ∨ K = 6 ∨ K = 7 ∨ K = 8 ∨ K = 9 ∨ K = 10 by omega) with rfl | rfl | rfl | rfl | rfl | rfl | rfl | rfl | rfl | rfl | rfl <;> omega
  unfold zhs
  exact decide_eq_decide.mpr e
/-- two blocks of one size with an address in common are one -/
theorem zhs_one {v w : zBk} (h : zbok v.1 v.2) (h2 : zbok w.1 w.2) {x : Int32} (hv : zhs v.1 v.2 x = true) (hw : zhs w.1 w.2 x = true) (e : v.2 = w.2) : v = w := by
  obtain ⟨b, k⟩ := v
  obtain ⟨b2, k2⟩ := w
  have e' : k = k2 := e
  subst e'
  obtain ⟨B, K, rfl, rfl, hK, hB, hd⟩ := zbok_nat h
  obtain ⟨B2, K2, rfl, ek, hK2, hB2, hd2⟩ := zbok_nat h2
  have : K = K2 := (nI_eq (by omega) (by omega)).mp ek
  subst this
  have c1 := of_decide_eq_true ((zhs_in hK hB hd x).symm.trans hv)
  have c2 := of_decide_eq_true ((zhs_in hK hB2 hd2 x).symm.trans hw)
  have : B = B2 := by
    rcases (show K = 0 ∨ K = 1 ∨ K = 2 ∨ K = 3 ∨ K = 4 ∨ K = 5 ∨ K = 6 ∨ K = 7 ∨ K = 8 ∨ K = 9 ∨ K = 10 by omega) with rfl | rfl | rfl | rfl | rfl | rfl | rfl | rfl | rfl | rfl | rfl <;> omega
  rw [this]
/-! ports -/
theorem zps_all : ∀ F, F < 16 → ∀ L, L < 16 → F ≤ L → zps (nI F) (nI L) &&& 65535 = zps (nI F) (nI L) := by decide +kernel
theorem zps_ok {f la : Int32} (h : zpok f la) : zps f la &&& 65535 = zps f la := by
  obtain ⟨h1, h2, h3⟩ := h
  obtain ⟨F, hF, rfl⟩ := nI_of h1
  have h4 : ¬ la < 0 := fun h => by
    have e0 : (0 : Int32).toInt = 0 := rfl
    have e1 := nI_toInt hF
    rw [zi_lt] at h h2
    omega
  obtain ⟨L, hL, rfl⟩ := nI_of h4
  have h5 : L < 16 := (nI_ltI (b := 16) hL (by omega)).mp h3
  have h6 : F ≤ L := by
    rcases Nat.lt_or_ge L F with c | c
    · exact absurd (nI_lt c hF) h2
    · exact c
  exact zps_all F (by omega) L h5 h6

/-! pure rows: what lists, groups and routes let through -/
def zrok (r : zRl) : Prop := zbok r.2.2.1.1 r.2.2.1.2 ∧ r.2.2.2 &&& 65535 = r.2.2.2
theorem zx_e1 {o p d : Int32} (hp : p &&& 65535 = p) (ho : o = 65535 &&& (d ^^^ -1)) : o &&& p = p &&& (d ^^^ -1) := by
  subst ho
  refine b_ext (fun i hi => ?_)
  have h := congrArg (fun z => bt z i) hp
  simp only [b_and, b_xor, b_65535, b_m1 i hi] at h ⊢
  revert h
  generalize bt d i = x1
  generalize bt p i = x2
  generalize decide (i < 16) = x3
  cases x1 <;> cases x2 <;> cases x3 <;> decide
theorem zx_e2 {o p d : Int32} (ho : o = 65535 &&& (d ^^^ -1)) : o &&& ((o &&& p) ^^^ -1) = 65535 &&& ((d ||| p) ^^^ -1) := by
  subst ho
  refine b_ext (fun i hi => ?_)
  simp only [b_and, b_xor, b_or, b_65535, b_m1 i hi]
  generalize bt d i = x1
  generalize bt p i = x2
  generalize decide (i < 16) = x3
  cases x1 <;> cases x2 <;> cases x3 <;> decide
theorem zx_e3 (o : Int32) : o &&& ((0 : Int32) ^^^ -1) = o := by
  refine b_ext (fun i hi => ?_)
  simp only [b_and, b_xor, b_m1 i hi, b_0]
  cases bt o i <;> decide
theorem zx_or0 (o : Int32) : o ||| 0 = o := by
  refine b_ext (fun i hi => ?_)
  simp only [b_or, b_0, Bool.or_false]
theorem zx_0or (o : Int32) : 0 ||| o = o := by
  refine b_ext (fun i hi => ?_)
  simp only [b_or, b_0, Bool.false_or]
theorem zx_ora (a b c : Int32) : a ||| b ||| c = a ||| (b ||| c) := by
  refine b_ext (fun i hi => ?_)
  simp only [b_or, Bool.or_assoc]
/-! one bit -/
theorem zb_one : ∀ i, i < 32 → bt 1 i = decide (i = 0) := by decide +kernel
theorem zb_pow (n : Nat) (hn : n < 32) {i : Nat} (hi : i < 32) : bt ((1 : Int32) <<< (nI n &&& 31)) i = decide (i = n) := by
  rw [b_shl n hn 1 hi]
  rcases Nat.lt_trichotomy i n with h | h | h
  · rw [decide_eq_false (Nat.not_le.mpr h), decide_eq_false (Nat.ne_of_lt h)]; rfl
  · subst h
    rw [Nat.sub_self, zb_one 0 (by omega), decide_eq_true (Nat.le_refl i), decide_eq_true rfl, decide_eq_true rfl]; rfl
  · rw [zb_one _ (by omega), decide_eq_false (p := i - n = 0) (by omega), decide_eq_false (p := i = n) (by omega), Bool.and_false]
theorem zbit_shr (g : Int32) (n : Nat) (hn : n < 32) : g >>> (nI n &&& 31) &&& 1 = zb (bt g n) := by
  refine b_ext (fun i hi => ?_)
  rw [b_and, zb_one i hi]
  by_cases c : i = 0
  · subst c
    rw [b_sshr n hn g hi, if_pos (show n + 0 < 32 from hn), decide_eq_true rfl, Bool.and_true, Nat.add_zero]
    cases bt g n <;> decide
  · rw [decide_eq_false c, Bool.and_false]
    cases bt g n
    · exact (b_0 i).symm
    · show false = bt 1 i
      rw [zb_one i hi, decide_eq_false c]
theorem zbit_and (g : Int32) (n : Nat) (hn : n < 32) : g &&& (1 : Int32) <<< (nI n &&& 31) = 0 ↔ bt g n = false := by
  constructor
  · intro h
    have h2 := congrArg (fun z => bt z n) h
    simp only [b_and, zb_pow n hn hn, b_0, decide_true, Bool.and_true] at h2
    exact h2
  · intro h
    refine b_ext (fun i hi => ?_)
    rw [b_and, zb_pow n hn hi, b_0]
    by_cases c : i = n
    · subst c
      rw [h]; rfl
    · rw [decide_eq_false c, Bool.and_false]
theorem zbit_0 (g : Int32) (n : Nat) (hn : n < 32) : g >>> (nI n &&& 31) &&& 1 = 0 ↔ g &&& (1 : Int32) <<< (nI n &&& 31) = 0 := by
  rw [zbit_shr g n hn, zbit_and g n hn]
  exact zb_0 _
theorem zbit_1 (g : Int32) (n : Nat) (hn : n < 32) : g >>> (nI n &&& 31) &&& 1 = 1 ↔ ¬ g &&& (1 : Int32) <<< (nI n &&& 31) = 0 := by
  rw [zbit_shr g n hn, zbit_and g n hn]
  cases bt g n <;> decide
theorem zrep_bit (p : Int32) : zrep p = decide (p >>> (nI 15 &&& 31) &&& 1 = 1) := by
  have h := zbit_1 p 15 (by omega)
  rw [show (1 : Int32) <<< (nI 15 &&& 31) = 32768 by decide] at h
  unfold zrep
  rw [decide_eq_decide.mpr h]
  by_cases c : p &&& 32768 = 0
  · rw [decide_eq_true c, decide_eq_false (fun h => h c)]; rfl
  · rw [decide_eq_false c, decide_eq_true c]; rfl
/-! groups -/
theorem zgp_or (inw x : Int32) : ∀ (vs : List zRl) (o : Int32), zgp inw x vs o = o ||| zgp inw x vs 0 := by
  intro vs
  induction vs with
  | nil => intro o; exact (zx_or0 o).symm
  | cons v vs ih =>
    intro o
    rw [zgp, zgp, ih, ih (if zrHas v inw x = true then 0 ||| v.2.2.2 else 0)]
    by_cases h : zrHas v inw x = true
    · rw [if_pos h, if_pos h, zx_0or, zx_ora]
    · rw [if_neg h, if_neg h, zx_0or]
/-! routes -/
def zrs (x : Int32) (q : Int32 × Int32) (v : zRt) : Int32 × Int32 := if v.1.2 < q.2 ∧ zhs v.1.1 v.1.2 x = true then (v.2, v.1.2) else q
theorem zrn_fold (x : Int32) : ∀ (vs : List zRt) (n sm : Int32), zrn x vs n sm = (vs.foldl (zrs x) (n, sm)).1 := by
  intro vs
  induction vs with
  | nil => intro n sm; rfl
  | cons v vs ih =>
    intro n sm
    rw [zrn, List.foldl_cons]
    by_cases c : v.1.2 < sm ∧ zhs v.1.1 v.1.2 x = true
    · rw [if_pos c, ih, show zrs x (n, sm) v = (v.2, v.1.2) from if_pos c]
    · rw [if_neg c, ih, show zrs x (n, sm) v = (n, sm) from if_neg c]
theorem z_inj {α β : Type} {f : α → β} : ∀ {l : List α}, (l.map f).Nodup → ∀ a ∈ l, ∀ b ∈ l, f a = f b → a = b := by
  intro l
  induction l with
  | nil => intro _ a ha; cases ha
  | cons c l ih =>
    intro h a ha b hb e
    rw [List.map_cons, List.nodup_cons] at h
    rcases List.mem_cons.mp ha with ea | ha1 <;> rcases List.mem_cons.mp hb with eb | hb1
    · rw [ea, eb]
    · rw [ea] at e
      exact absurd (List.mem_map.mpr ⟨b, hb1, e.symm⟩) h.1
    · rw [eb] at e
      exact absurd (List.mem_map.mpr ⟨a, ha1, e⟩) h.1
    · exact ih h.2 a ha1 b hb1 e
theorem zrs_comm (x : Int32) {a b : zRt} (h : zhs a.1.1 a.1.2 x = true → zhs b.1.1 b.1.2 x = true → a.1.2 = b.1.2 → a = b) (q : Int32 × Int32) : zrs x (zrs x q a) b = zrs x (zrs x q b) a := by
  by_cases hA : zhs a.1.1 a.1.2 x = true
  · by_cases hB : zhs b.1.1 b.1.2 x = true
    · have h := h hA hB
      obtain ⟨q1, q2⟩ := q
      by_cases e : a.1.2 = b.1.2
      · rw [h e]
      · have e2 : a.1.2.toInt ≠ b.1.2.toInt := fun f => e ((zi_eq _ _).mpr f)
        by_cases h1 : a.1.2 < q2 <;> by_cases h2 : b.1.2 < q2 <;> by_cases h3 : a.1.2 < b.1.2 <;> by_cases h4 : b.1.2 < a.1.2 <;> simp [zrs, hA, hB, h1, h2, h3, h4] <;> (simp only [zi_lt] at h1 h2 h3 h4; omega)
    · have e : ∀ q, zrs x q b = q := fun q => if_neg (fun h => hB h.2)
      rw [e, e]
  · have e : ∀ q, zrs x q a = q := fun q => if_neg (fun h => hA h.2)
    rw [e, e]
theorem zrn_perm (x : Int32) {vs ws : List zRt} (hp : vs.Perm ws) (hv : ∀ v ∈ vs, zbok v.1.1 v.1.2) (hn : (vs.map (fun t => t.1)).Nodup) (n sm : Int32) : zrn x vs n sm = zrn x ws n sm := by
  rw [zrn_fold, zrn_fold, hp.foldl_eq' (fun a ha b hb q => zrs_comm x (fun h1 h2 e => z_inj hn a ha b hb (zhs_one (hv a ha) (hv b hb) h1 h2 e)) q)]
theorem zrnum_perm {vs ws : List zRt} (hp : vs.Perm ws) (hv : ∀ v ∈ vs, zbok v.1.1 v.1.2) (hn : (vs.map (fun t => t.1)).Nodup) (nb nk x : Int32) : zrnum nb nk vs x = zrnum nb nk ws x := by
  unfold zrnum
  rw [zrn_perm x hp hv hn, zrn_perm x hp hv hn]
/-! rules that nothing meets -/
def zfull (us : List zRl) (v : zRl) : Prop := ∀ x : Int32, zhs v.2.2.1.1 v.2.2.1.2 x = true → zleft v.1 x us v.2.2.2 = 0
theorem zleft_bt (inw x : Int32) {i : Nat} (hi : i < 32) : ∀ (us : List zRl) (o : Int32), bt (zleft inw x us o) i = (bt o i && us.all (fun u => !(zrHas u inw x && bt u.2.2.2 i))) := by
  intro us
  induction us with
  | nil => intro o; rw [zleft, List.all_nil, Bool.and_true]
  | cons u us ih =>
    intro o
    rw [zleft, ih, List.all_cons]
    by_cases h : zrHas u inw x = true
    · rw [if_pos h, h, b_and, b_xor, b_m1 i hi, Bool.true_and, Bool.xor_true, Bool.and_assoc]
    · rw [if_neg h, Bool.eq_false_iff.mpr h, Bool.false_and, Bool.not_false, Bool.true_and]
theorem zleft_0 {inw x : Int32} {us : List zRl} {o : Int32} (h : ¬ zleft inw x us o = 0) : ∃ i, i < 32 ∧ bt o i = true ∧ ∀ u ∈ us, zrHas u inw x = true → bt u.2.2.2 i = false := by
  have h1 : ∃ i, i < 32 ∧ bt (zleft inw x us o) i = true := by
    rcases Classical.em (∃ i, i < 32 ∧ bt (zleft inw x us o) i = true) with c | c
    · exact c
    · refine absurd (b_ext (fun i hi => ?_)) h
      rw [b_0]
      cases hb : bt (zleft inw x us o) i with
      | false => rfl
      | true => exact absurd ⟨i, hi, hb⟩ c
  obtain ⟨i, hi, hb⟩ := h1
  rw [zleft_bt inw x hi, Bool.and_eq_true] at hb
  refine ⟨i, hi, hb.1, fun u hu hh => ?_⟩
  have h2 := List.all_eq_true.mp hb.2 u hu
  rw [hh, Bool.true_and] at h2
  cases hc : bt u.2.2.2 i with
  | false => rfl
  | true => rw [hc] at h2; cases h2
theorem zleft_z {inw x : Int32} {us : List zRl} {o : Int32} (h : zleft inw x us o = 0) {i : Nat} (hi : i < 32) (ho : bt o i = true) : ∃ u ∈ us, zrHas u inw x = true ∧ bt u.2.2.2 i = true := by
  have h1 := zleft_bt inw x hi us o
  rw [h, b_0, ho, Bool.true_and] at h1
  rcases Classical.em (∃ u ∈ us, zrHas u inw x = true ∧ bt u.2.2.2 i = true) with c | c
  · exact c
  · have h2 : us.all (fun u => !(zrHas u inw x && bt u.2.2.2 i)) = true := by
      refine List.all_eq_true.mpr (fun u hu => ?_)
      cases h3 : zrHas u inw x with
      | false => rfl
      | true =>
        cases h4 : bt u.2.2.2 i with
        | false => rfl
        | true => exact absurd ⟨u, hu, h3, h4⟩ c
    rw [h2] at h1
    cases h1
theorem zmet_f {us : List zRl} {v : zRl} {x : Int32} (h : (!zmet us v x) = true) (hx : zhs v.2.2.1.1 v.2.2.1.2 x = true) : zleft v.1 x us v.2.2.2 = 0 := by
  unfold zmet at h
  rw [hx, Bool.true_and] at h
  rcases Classical.em (zleft v.1 x us v.2.2.2 = 0) with c | c
  · exact c
  · rw [decide_eq_false c] at h
    cases h
theorem zidle_iff {us : List zRl} {v : zRl} (hu : ∀ u ∈ us, zrok u) (hv : zrok v) : zidle us v = true ↔ zfull us v := by
  constructor
  · intro h
    unfold zidle at h
    rw [Bool.and_eq_true] at h
    obtain ⟨hb, he⟩ := h
    obtain ⟨d, al, ⟨b, k⟩, po⟩ := v
    obtain ⟨B, K, eb, ek, hK, hB, hd⟩ := zbok_nat hv.1
    have eb : b = nI B := eb
    have ek : k = nI K := ek
    subst eb
    subst ek
    have hp := zp_pow hK
    have inb : ∀ X : Nat, X ≤ 1024 → (zhs (nI B) (nI K) (nI X) = true ↔ B ≤ X ∧ X < B + 2 ^ K) := fun X hX => by
      rw [zhs_in hK hB hd, decide_eq_true_iff, nI_toInt (by omega)]
      omega
    have key : ∀ n : Nat, n < 2 ^ K → zleft d (nI (B + n)) us po = 0 := by
      intro n
      induction n with
      | zero =>
        intro _
        exact zmet_f (v := (d, al, (nI B, nI K), po)) hb ((inb B (by omega)).mpr ⟨Nat.le_refl _, by omega⟩)
      | succ n ih =>
        intro hn
        have h0 := ih (by omega)
        rcases Classical.em (zleft d (nI (B + (n + 1))) us po = 0) with c | c
        · exact c
        · obtain ⟨i, hi, c1, c2⟩ := zleft_0 c
          obtain ⟨u, huu, c3, c4⟩ := zleft_z h0 hi c1
          have c5 : ¬ zrHas u d (nI (B + (n + 1))) = true := fun h => by rw [c2 u huu h] at c4; cases c4
          obtain ⟨ud, ua, ⟨ub, uk⟩, up⟩ := u
          obtain ⟨UB, UK, e1, e2, hUK, hUB, hUd⟩ := zbok_nat (hu _ huu).1
          have e1 : ub = nI UB := e1
          have e2 : uk = nI UK := e2
          subst e1
          subst e2
          have hs := List.all_eq_true.mp he _ huu
          unfold zrHas at c3 c5
          rw [Bool.and_eq_true] at c3
          have c6 : ¬ zhs (nI UB) (nI UK) (nI (B + (n + 1))) = true := fun h => c5 (by rw [c3.1]; exact h)
          have c7 : zhs (nI UB) (nI UK) (nI (B + n)) = true := c3.2
          have hq := zp_pow hUK
          rw [zhs_in hUK hUB hUd, decide_eq_true_iff, nI_toInt (by omega)] at c6 c7
          have e3 : nI UB + (1 : Int32) <<< (nI UK &&& 31) = nI (B + (n + 1)) := by
            rw [zsh_nat UK (by omega), nI_add, show UB + 2 ^ UK = B + (n + 1) by omega]
          have hs : (!zmet us (d, al, (nI B, nI K), po) (nI UB + (1 : Int32) <<< (nI UK &&& 31))) = true := hs
          rw [e3] at hs
          exact absurd (zmet_f hs ((inb _ (by omega)).mpr ⟨by omega, by omega⟩)) c
    intro x hx
    have hx : zhs (nI B) (nI K) x = true := hx
    rw [zhs_in hK hB hd, decide_eq_true_iff] at hx
    obtain ⟨X, hX, rfl⟩ := nI_of (x := x) (fun h => by
      rw [zi_lt] at h
      have e : (0 : Int32).toInt = 0 := rfl
      omega)
    rw [nI_toInt (by omega)] at hx
    have := key (X - B) (by omega)
    rw [show B + (X - B) = X by omega] at this
    exact this
  · intro h
    have h1 : ∀ x, (!zmet us v x) = true := fun x => by
      unfold zmet
      cases hx : zhs v.2.2.1.1 v.2.2.1.2 x with
      | false => rfl
      | true => rw [decide_eq_true (h x hx)]; rfl
    unfold zidle
    rw [h1, Bool.true_and]
    exact List.all_eq_true.mpr (fun u _ => h1 _)

theorem z_pera {α : Type} : ∀ {t : List α} {n : Nat} {w : α}, t[n]? = some w → t.Perm (w :: t.eraseIdx n) := by
  intro t
  induction t with
  | nil => intro n w h; simp at h
  | cons a t ih =>
    intro n w h
    cases n with
    | zero =>
      simp only [List.getElem?_cons_zero, Option.some.injEq] at h
      subst h
      exact List.Perm.refl _
    | succ n =>
      simp only [List.getElem?_cons_succ] at h
      rw [List.eraseIdx_cons_succ]
      exact ((ih h).cons a).trans (List.Perm.swap w a _)
theorem z_pers {α : Type} : ∀ {t : List α} {n : Nat} (u : α), n < t.length → (t.set n u).Perm (u :: t.eraseIdx n) := by
  intro t
  induction t with
  | nil => intro n u h; exact absurd h (Nat.not_lt_zero _)
  | cons a t ih =>
    intro n u h
    cases n with
    | zero => exact List.Perm.refl _
    | succ n =>
      rw [List.set_cons_succ, List.eraseIdx_cons_succ]
      exact ((ih u (Nat.lt_of_succ_lt_succ h)).cons a).trans (List.Perm.swap u a _)
