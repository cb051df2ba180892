/-! facts of the answers: counts, sums of bits, the parts of a connection -/
def zct (p : Nat → Bool) : Nat → Nat
  | 0 => 0
  | n + 1 => zct p n + (if p n = true then 1 else 0)
def zsm (g : Nat → Nat) : Nat → Nat
  | 0 => 0
  | n + 1 => zsm g n + g n
theorem zct_le (p : Nat → Bool) : ∀ n, zct p n ≤ n := by
  intro n
  induction n with
  | zero => exact Nat.le_refl 0
  | succ n ih =>
    rw [zct]
    split <;> omega
theorem zct_0 {p : Nat → Bool} (h : ∀ j, p j = false) : ∀ n, zct p n = 0 := by
  intro n
  induction n with
  | zero => rfl
  | succ n ih => rw [zct, ih, h n]; rfl
theorem zsm_le {g : Nat → Nat} {N : Nat} (h : ∀ i, g i ≤ N) : ∀ n, zsm g n ≤ n * N := by
  intro n
  induction n with
  | zero => exact Nat.zero_le _
  | succ n ih =>
    rw [zsm, Nat.succ_mul]
    exact Nat.add_le_add ih (h n)
theorem zsm_0 {g : Nat → Nat} (h : ∀ i, g i = 0) : ∀ n, zsm g n = 0 := by
  intro n
  induction n with
  | zero => rfl
  | succ n ih => rw [zsm, ih, h n]
theorem zsm_add (g : Nat → Nat) (p : Nat → Bool) : ∀ n, zsm (fun j => g j + (if p j = true then 1 else 0)) n = zsm g n + zct p n := by
  intro n
  induction n with
  | zero => rfl
  | succ n ih =>
    rw [zsm, zsm, zct, ih]
    omega
theorem zsm_swap (a : Nat → Nat → Bool) (N : Nat) : ∀ M, zsm (fun i => zct (fun j => a i j) N) M = zsm (fun j => zct (fun i => a i j) M) N := by
  intro M
  induction M with
  | zero => exact (zsm_0 (fun _ => rfl) N).symm
  | succ M ih =>
    show zsm (fun i => zct (fun j => a i j) N) M + zct (fun j => a M j) N = zsm (fun j => zct (fun i => a i j) M + (if a M j = true then 1 else 0)) N
    rw [ih]
    exact (zsm_add (fun j => zct (fun i => a i j) M) (fun j => a M j) N).symm
def zpw (V : zCl) (m : Int32) (i j : Nat) : Bool := decide (¬ i = j ∧ ¬ zworkV V i j &&& m = 0)
theorem zpI (V : zCl) (m : Int32) (i : Nat) : ∀ n j c, zpairsI V m i n j (c + zct (zpw V m i) j) = c + zct (zpw V m i) (j + n) := by
  intro n
  induction n with
  | zero => intro j c; rfl
  | succ n ih =>
    intro j c
    have e : (if ¬ i = j ∧ ¬ zworkV V i j &&& m = 0 then c + zct (zpw V m i) j + 1 else c + zct (zpw V m i) j) = c + zct (zpw V m i) (j + 1) := by
      rw [zct]
      by_cases h : (¬ i = j ∧ ¬ zworkV V i j &&& m = 0)
      · rw [if_pos h, if_pos (show zpw V m i j = true from decide_eq_true h)]
        rfl
      · rw [if_neg h, if_neg (show ¬ zpw V m i j = true from fun h2 => h (of_decide_eq_true h2))]
        rfl
    rw [zpairsI, e, ih, show j + 1 + n = j + (n + 1) by omega]
theorem zpO (V : zCl) (m : Int32) (N : Nat) : ∀ n i c, zpairsO V m N n i (c + zsm (fun i => zct (zpw V m i) N) i) = c + zsm (fun i => zct (zpw V m i) N) (i + n) := by
  intro n
  induction n with
  | zero => intro i c; rfl
  | succ n ih =>
    intro i c
    have e : zpairsI V m i N 0 (c + zsm (fun i => zct (zpw V m i) N) i) = c + zsm (fun i => zct (zpw V m i) N) (i + 1) := by
      have h := zpI V m i N 0 (c + zsm (fun i => zct (zpw V m i) N) i)
      rw [Nat.zero_add] at h
      exact h.trans (Nat.add_assoc _ _ _)
    rw [zpairsO, e, ih, show i + 1 + n = i + (n + 1) by omega]
theorem zpairs_eq (V : zCl) (m : Int32) (N : Nat) : zpairsO V m N N 0 0 = zsm (fun i => zct (zpw V m i) N) N := by
  have h := zpO V m N N 0 0
  simp only [zsm, Nat.zero_add] at h
  exact h
theorem zpairs_swap (V : zCl) (m : Int32) (N : Nat) : zpairsO V m N N 0 0 = zsm (fun j => zct (fun i => zpw V m i j) N) N := (zpairs_eq V m N).trans (zsm_swap (fun i j => zpw V m i j) N N)
theorem zpairs_lt (V : zCl) (m : Int32) {N : Nat} (h : N ≤ 12) : zpairsO V m N N 0 0 < 1000 := by
  rw [zpairs_eq]
  have h1 := zsm_le (fun i => zct_le (zpw V m i) N) N
  have h2 : N * N ≤ 12 * 12 := Nat.mul_le_mul h h
  omega
/-! the ports of a connection, by their bits -/
theorem zwork_bit (V : zCl) (f t q : Nat) : ∀ n, bt (zworkP V f t n) q = true ↔ bt 65535 q = true ∧ ∀ p, 1 ≤ p → p ≤ n → bt (zopenV V p f t) q = true := by
  intro n
  induction n with
  | zero => exact ⟨fun h => ⟨h, fun p h1 h2 => by omega⟩, fun h => h.1⟩
  | succ n ih =>
    show bt (zworkP V f t n &&& zopenV V (n + 1) f t) q = true ↔ _
    rw [b_and, Bool.and_eq_true, ih]
    constructor
    · rintro ⟨⟨h1, h2⟩, h3⟩
      refine ⟨h1, fun p a b => ?_⟩
      rcases Nat.lt_or_ge p (n + 1) with c | c
      · exact h2 p a (by omega)
      · rw [show p = n + 1 by omega]; exact h3
    · rintro ⟨h1, h2⟩
      exact ⟨⟨h1, fun p a b => h2 p a (by omega)⟩, h2 (n + 1) (by omega) (by omega)⟩
theorem zw_0 {V : zCl} {f t p : Nat} (hp1 : 1 ≤ p) (hp : p ≤ 8) (h : zopenV V p f t = 0) : zworkV V f t = 0 := by
  refine b_ext (fun i hi => ?_)
  rw [b_0]
  cases hb : bt (zworkV V f t) i with
  | false => rfl
  | true =>
    have h9 := ((zwork_bit V f t i 8).mp hb).2 p hp1 hp
    rw [h, b_0] at h9
    cases h9
theorem z0and (a : Int32) : 0 &&& a = 0 := b_ext (fun i _ => by rw [b_and, b_0]; rfl)
theorem zgps_0g (inw x : Int32) : ∀ (gs : List (List zRl)) (n : Nat) (o : Int32), zgps inw x 0 gs n o = o := by
  intro gs
  induction gs with
  | nil => intro n o; rfl
  | cons g gs ih =>
    intro n o
    rw [zgps, if_pos (z0and _), ih]
theorem zopen_5 {V : zCl} {i j : Nat} (hg : (zhv V j).2.2 = 0) : zopenV V 5 i j = 0 := by
  simp [zopenV, zopen, hg, zgps_0g]
theorem zopen_1 {V : zCl} {i j : Nat} (hg : (zhv V i).2.2 = 0) : zopenV V 1 i j = 0 := by
  simp [zopenV, zopen, hg, zgps_0g]
theorem zopen_n {V : zCl} {i j : Nat} (hg : vG V = []) : zopenV V 1 i j = 0 := by
  simp [zopenV, zopen, hg, zgps]
theorem zpairs_0 {V : zCl} (h : ∀ i j, zworkV V i j = 0) (m : Int32) (N : Nat) : zpairsO V m N N 0 0 = 0 := by
  rw [zpairs_eq]
  exact zsm_0 (fun i => zct_0 (fun j => decide_eq_false (fun h9 => h9.2 (by rw [h]; exact z0and m))) N) N
theorem zpairs_none {V : zCl} (h : (vH V).length = 0 ∨ (vG V).length = 0) (m : Int32) : zpairsO V m (vH V).length (vH V).length 0 0 = 0 := by
  rcases h with h | h
  · rw [h]; rfl
  · exact zpairs_0 (fun i j => zw_0 (p := 1) (by omega) (by omega) (zopen_n (List.eq_nil_of_length_eq_zero h))) m _
/-! who reaches a host -/
def zRp (V : zCl) (t : Nat) : Nat → Int32
  | 0 => 0
  | i + 1 => if ¬ i = t ∧ ¬ zworkV V i t = 0 then zRp V t i + zbit (nI i) else zRp V t i
theorem zreach_eq (V : zCl) (t : Nat) : ∀ n i, zreach V t n i (zRp V t i) = zRp V t (i + n) := by
  intro n
  induction n with
  | zero => intro i; rfl
  | succ n ih =>
    intro i
    have h := ih (i + 1)
    rw [show i + 1 + n = i + (n + 1) by omega] at h
    exact h
theorem zreach_0 (V : zCl) (t n : Nat) : zreach V t n 0 0 = zRp V t n := by
  have h := zreach_eq V t n 0
  rw [Nat.zero_add] at h
  exact h
theorem zRp_nat (V : zCl) (t : Nat) : ∀ i, i ≤ 12 → ∃ S, S < 2 ^ i ∧ zRp V t i = nI S := by
  intro i
  induction i with
  | zero => exact fun _ => ⟨0, by decide, rfl⟩
  | succ i ih =>
    intro hi
    obtain ⟨S, hS, e⟩ := ih (by omega)
    have hp : 2 ^ (i + 1) = 2 ^ i + 2 ^ i := by rw [Nat.pow_succ]; omega
    rw [zRp]
    by_cases c : ¬ i = t ∧ ¬ zworkV V i t = 0
    · rw [if_pos c, e]
      obtain ⟨-, S2, h2, e2⟩ := zor_bit hS (show i < 13 by omega)
      exact ⟨S2, h2, e2⟩
    · rw [if_neg c]
      exact ⟨S, by omega, e⟩
theorem zRp_or (V : zCl) (t i : Nat) (hi : i ≤ 12) : zRp V t i ||| zbit (nI i) = zRp V t i + zbit (nI i) := by
  obtain ⟨S, hS, e⟩ := zRp_nat V t i hi
  rw [e]
  exact (zor_bit hS (by omega)).1
theorem zreach_new {V : zCl} {t : Nat} (h : ∀ i, zworkV V i t = 0) (n : Nat) : zreach V t n 0 0 = 0 := by
  rw [zreach_0]
  induction n with
  | zero => rfl
  | succ n ih => rw [zRp, if_neg (fun h9 => h9.2 (h n)), ih]
theorem zwork_nat (V : zCl) (f t : Nat) : ∃ P, P < 65536 ∧ zworkV V f t = nI P := by
  have h1 : zworkV V f t &&& 65535 = zworkV V f t := b_ext (fun i hi => by
    rw [b_and]
    cases hb : bt (zworkV V f t) i with
    | false => rfl
    | true => rw [((zwork_bit V f t i 8).mp hb).1]; rfl)
  have h2 := pk_and (zworkV V f t) (m := 65535) 16 (by decide)
  exact ⟨_, Nat.mod_lt _ (Nat.two_pow_pos 16), h1.symm.trans h2⟩
/-! which parts block -/
def z8 (b : Bool) (k : Nat) (s : Int32) : Int32 := if b = true then s + zbit (nI k) else s
def zS8 (b1 b2 b3 b4 b5 b6 b7 b8 : Bool) : Int32 := z8 b8 8 (z8 b7 7 (z8 b6 6 (z8 b5 5 (z8 b4 4 (z8 b3 3 (z8 b2 2 (z8 b1 1 0)))))))
def zF8 (b1 b2 b3 b4 b5 b6 b7 b8 : Bool) : Int32 := if b1 = true then nI 1 else if b2 = true then nI 2 else if b3 = true then nI 3 else if b4 = true then nI 4 else if b5 = true then nI 5 else if b6 = true then nI 6 else if b7 = true then nI 7 else if b8 = true then nI 8 else 0
def zW8 (b1 b2 b3 b4 b5 b6 b7 b8 : Bool) : Bool := !(b1 || b2 || b3 || b4 || b5 || b6 || b7 || b8)
theorem zsumP_s (g : Nat → Int32) (m : Int32) (n i : Nat) (s : Int32) : zsumP g m (n + 1) i s = zsumP g m n (i + 1) (z8 (decide (g i &&& m = 0)) i s) := by
  rw [zsumP]
  unfold z8
  simp only [decide_eq_true_eq]
theorem zsumP_8 (g : Nat → Int32) (m : Int32) : zsumP g m 8 1 0 = zS8 (decide (g 1 &&& m = 0)) (decide (g 2 &&& m = 0)) (decide (g 3 &&& m = 0)) (decide (g 4 &&& m = 0)) (decide (g 5 &&& m = 0)) (decide (g 6 &&& m = 0)) (decide (g 7 &&& m = 0)) (decide (g 8 &&& m = 0)) := by
  rw [zsumP_s, zsumP_s, zsumP_s, zsumP_s, zsumP_s, zsumP_s, zsumP_s, zsumP_s, zsumP]
  rfl
theorem zfirstP_s (g : Nat → Int32) (m : Int32) (n i : Nat) : zfirstP g m (n + 1) i = if decide (g i &&& m = 0) = true then nI i else zfirstP g m n (i + 1) := by
  rw [zfirstP]
  simp only [decide_eq_true_eq]
theorem zfirstP_8 (g : Nat → Int32) (m : Int32) : zfirstP g m 8 1 = zF8 (decide (g 1 &&& m = 0)) (decide (g 2 &&& m = 0)) (decide (g 3 &&& m = 0)) (decide (g 4 &&& m = 0)) (decide (g 5 &&& m = 0)) (decide (g 6 &&& m = 0)) (decide (g 7 &&& m = 0)) (decide (g 8 &&& m = 0)) := by
  rw [zfirstP_s, zfirstP_s, zfirstP_s, zfirstP_s, zfirstP_s, zfirstP_s, zfirstP_s, zfirstP_s, zfirstP]
  rfl
set_option maxRecDepth 100000 in
theorem zK_1 : ∀ b1 b2 b3 b4 b5 b6 b7 b8 : Bool, zS8 b1 b2 b3 b4 b5 b6 b7 b8 - zS8 b1 b2 b3 b4 b5 b6 b7 b8 / nI 2 * nI 2 = 0 ∧ zS8 b1 b2 b3 b4 b5 b6 b7 b8 < 512 ∧ (zS8 b1 b2 b3 b4 b5 b6 b7 b8 = 0 ↔ zW8 b1 b2 b3 b4 b5 b6 b7 b8 = true) := by decide +kernel
set_option maxRecDepth 100000 in
theorem zK_2 : ∀ b1 b2 b3 b4 b5 b6 b7 b8 : Bool, (zW8 b1 b2 b3 b4 b5 b6 b7 b8 = true → zF8 b1 b2 b3 b4 b5 b6 b7 b8 = 0) ∧ (zW8 b1 b2 b3 b4 b5 b6 b7 b8 = false → ¬ zF8 b1 b2 b3 b4 b5 b6 b7 b8 < 1 ∧ zS8 b1 b2 b3 b4 b5 b6 b7 b8 >>> (zF8 b1 b2 b3 b4 b5 b6 b7 b8 &&& 31) &&& 1 = 1 ∧ zS8 b1 b2 b3 b4 b5 b6 b7 b8 &&& ((1 : Int32) <<< (zF8 b1 b2 b3 b4 b5 b6 b7 b8 &&& 31) - 1) = 0) := by decide +kernel
set_option maxRecDepth 100000 in
theorem zK_3 : ∀ b1 b2 b3 b4 b5 b6 b7 b8 : Bool, (b2 = false ∧ b3 = false ∧ b4 = false ∧ b6 = false ∧ b7 = false ∧ b8 = false → zS8 b1 b2 b3 b4 b5 b6 b7 b8 &&& -35 = 0) ∧ (b3 = false → zS8 b1 b2 b3 b4 b5 b6 b7 b8 &&& 8 = 0) ∧ (b1 = true → zS8 b1 b2 b3 b4 b5 b6 b7 b8 &&& 2 = 2) := by decide +kernel
section
variable {V : zCl} {i j q : Nat}
def zbl (V : zCl) (i j q p : Nat) : Bool := decide (zopenV V p i j &&& zbit (nI q) = 0)
def zSb8 (V : zCl) (i j q : Nat) : Int32 := zS8 (zbl V i j q 1) (zbl V i j q 2) (zbl V i j q 3) (zbl V i j q 4) (zbl V i j q 5) (zbl V i j q 6) (zbl V i j q 7) (zbl V i j q 8)
def zFb8 (V : zCl) (i j q : Nat) : Int32 := zF8 (zbl V i j q 1) (zbl V i j q 2) (zbl V i j q 3) (zbl V i j q 4) (zbl V i j q 5) (zbl V i j q 6) (zbl V i j q 7) (zbl V i j q 8)
def zWb8 (V : zCl) (i j q : Nat) : Bool := zW8 (zbl V i j q 1) (zbl V i j q 2) (zbl V i j q 3) (zbl V i j q 4) (zbl V i j q 5) (zbl V i j q 6) (zbl V i j q 7) (zbl V i j q 8)
theorem zbl_e (hq : q < 16) (p : Nat) : zbl V i j q p = !bt (zopenV V p i j) q := by
  have h := zbit_and (zopenV V p i j) q (by omega)
  unfold zbl
  cases hb : bt (zopenV V p i j) q with
  | false => exact decide_eq_true (h.mpr hb)
  | true => exact decide_eq_false (fun h9 => by rw [h.mp h9] at hb; cases hb)
theorem zW_e (hq : q < 16) : bt (zworkV V i j) q = zWb8 V i j q := by
  have h := zwork_bit V i j q 8
  have hb : bt 65535 q = true := by rw [b_65535]; exact decide_eq_true hq
  unfold zWb8 zW8
  rw [zbl_e hq, zbl_e hq, zbl_e hq, zbl_e hq, zbl_e hq, zbl_e hq, zbl_e hq, zbl_e hq, Bool.eq_iff_iff]
  refine Iff.trans h ?_
  simp only [Bool.not_or, Bool.not_not, Bool.and_eq_true]
  constructor
  · rintro ⟨-, h⟩
    exact ⟨⟨⟨⟨⟨⟨⟨h 1 (by omega) (by omega), h 2 (by omega) (by omega)⟩, h 3 (by omega) (by omega)⟩, h 4 (by omega) (by omega)⟩, h 5 (by omega) (by omega)⟩, h 6 (by omega) (by omega)⟩, h 7 (by omega) (by omega)⟩, h 8 (by omega) (by omega)⟩
  · rintro ⟨⟨⟨⟨⟨⟨⟨h1, h2⟩, h3⟩, h4⟩, h5⟩, h6⟩, h7⟩, h8⟩
    refine ⟨hb, fun p a b => ?_⟩
    rcases (show p = 1 ∨ p = 2 ∨ p = 3 ∨ p = 4 ∨ p = 5 ∨ p = 6 ∨ p = 7 ∨ p = 8 by omega) with rfl | rfl | rfl | rfl | rfl | rfl | rfl | rfl <;> assumption
theorem zblocks_e : zsumP (fun p => zopenV V p i j) (zbit (nI q)) 8 1 0 = zSb8 V i j q := zsumP_8 _ _
theorem zblocked_e : zfirstP (fun p => zopenV V p i j) (zbit (nI q)) 8 1 = zFb8 V i j q := zfirstP_8 _ _
theorem zbl_open (hq : q < 16) {p : Nat} (h : zopenV V p i j = 65535) : zbl V i j q p = false := by
  rw [zbl_e hq, h, b_65535, decide_eq_true hq]
  rfl
theorem zopen_same (h : (zhv V i).1 = (zhv V j).1) {p : Nat} (h1 : p ≠ 1) (h5 : p ≠ 5) : zopenV V p i j = 65535 := by
  unfold zopenV zopen
  rw [if_pos ⟨h, h1, h5⟩]
/-- within one subnet only groups block -/
theorem zblocks_same (hq : q < 16) (h : (zhv V i).1 = (zhv V j).1) : zSb8 V i j q &&& -35 = 0 :=
  (zK_3 _ _ _ _ _ _ _ _).1 ⟨zbl_open hq (zopen_same h (by decide) (by decide)), zbl_open hq (zopen_same h (by decide) (by decide)), zbl_open hq (zopen_same h (by decide) (by decide)), zbl_open hq (zopen_same h (by decide) (by decide)), zbl_open hq (zopen_same h (by decide) (by decide)), zbl_open hq (zopen_same h (by decide) (by decide))⟩
theorem zblocks_route (hq : q < 16) (h : zopenV V 3 i j = 65535) : zSb8 V i j q &&& 8 = 0 := (zK_3 _ _ _ _ _ _ _ _).2.1 (zbl_open hq h)
theorem zblocks_new (hq : q < 16) (h : zopenV V 1 i j = 0) : zSb8 V i j q &&& 2 = 2 := (zK_3 _ _ _ _ _ _ _ _).2.2 (by rw [zbl_e hq, h, b_0]; rfl)
theorem zopen_local (h1 : (zsv V (zhv V i).1).1 = (zsv V (zhv V j).1).1) (h2 : zrouteV V (zhv V i).1 (zhv V j).2.1 = -1) : zopenV V 3 i j = 65535 := by
  unfold zrouteV at h2
  unfold zopenV zopen
  by_cases c : (zhv V i).1 = (zhv V j).1 ∧ 3 ≠ 1 ∧ 3 ≠ 5
  · rw [if_pos c]
  · rw [if_neg c, if_neg (by decide), if_neg (by decide), if_pos rfl, h2]
    unfold zrtd
    rw [if_pos rfl, decide_eq_true h1]
    rfl
end
/-! more rules of a group never close a port -/
def zle (a b : Int32) : Prop := ∀ i, bt a i = true → bt b i = true
theorem zle.rfl {a : Int32} : zle a a := fun _ h => h
theorem zle_or {a b : Int32} (c : Int32) (h : zle a b) : zle (a ||| c) (b ||| c) := by
  intro i hi
  rw [b_or, Bool.or_eq_true] at hi ⊢
  exact hi.imp (h i) id
theorem zle_or2 {a b c d : Int32} (h : zle a b) (h2 : zle c d) : zle (a ||| c) (b ||| d) := by
  intro i hi
  rw [b_or, Bool.or_eq_true] at hi ⊢
  exact hi.imp (h i) (h2 i)
theorem zle_sub {a b : Int32} (h : zle a b) : a &&& (b ^^^ -1) = 0 := by
  refine b_ext (fun i hi => ?_)
  rw [b_and, b_xor, b_m1 i hi, b_0]
  cases ha : bt a i with
  | false => rfl
  | true => rw [h i ha]; rfl
theorem zgp_app (inw x : Int32) (r : zRl) : ∀ (v : List zRl) (o : Int32), zle (zgp inw x v o) (zgp inw x (v ++ [r]) o) := by
  intro v
  induction v with
  | nil =>
    intro o i hi
    show bt (if zrHas r inw x = true then o ||| r.2.2.2 else o) i = true
    have hi : bt o i = true := hi
    split
    · rw [b_or, hi]; rfl
    · exact hi
  | cons u v ih => intro o; exact ih _
theorem zgps_o (inw x g : Int32) : ∀ (gs : List (List zRl)) (n : Nat) (o o' : Int32), zle o o' → zle (zgps inw x g gs n o) (zgps inw x g gs n o') := by
  intro gs
  induction gs with
  | nil => intro n o o' h; exact h
  | cons u gs ih =>
    intro n o o' h
    rw [zgps, zgps]
    refine ih _ _ _ ?_
    split
    · exact h
    · exact zle_or _ h
theorem zgps_set (inw x g : Int32) (r : zRl) : ∀ (gs : List (List zRl)) (k n : Nat) (v : List zRl) (o : Int32), gs[k]? = some v → zle (zgps inw x g gs n o) (zgps inw x g (gs.set k (v ++ [r])) n o) := by
  intro gs
  induction gs with
  | nil => intro k n v o h; cases h
  | cons u gs ih =>
    intro k n v o h
    cases k with
    | zero =>
      have e : u = v := Option.some.inj h
      subst e
      show zle (zgps inw x g (u :: gs) n o) (zgps inw x g ((u ++ [r]) :: gs) n o)
      rw [zgps, zgps]
      refine zgps_o inw x g gs _ _ _ ?_
      split
      · exact zle.rfl
      · exact zle_or2 zle.rfl (zgp_app inw x r u 0)
    | succ k =>
      show zle (zgps inw x g (u :: gs) n o) (zgps inw x g (u :: gs.set k (v ++ [r])) n o)
      rw [zgps, zgps]
      exact ih k _ v _ h
theorem zopen_set {gvs : List (List zRl)} {pvs : List (Nat × Nat)} {p s1 s2 : Nat} {v1 v2 : zSv} {a1 g1 a2 g2 : Int32} {k : Nat} {v : List zRl} {r : zRl} (h : gvs[k]? = some v) : zle (zopen gvs pvs p s1 s2 v1 v2 a1 g1 a2 g2) (zopen (gvs.set k (v ++ [r])) pvs p s1 s2 v1 v2 a1 g1 a2 g2) := by
  unfold zopen
  split
  · exact zle.rfl
  · split
    · exact zgps_set _ _ _ _ _ _ _ _ _ h
    · split
      · exact zle.rfl
      · split
        · exact zle.rfl
        · split
          · exact zle.rfl
          · split
            · exact zgps_set _ _ _ _ _ _ _ _ _ h
            · split <;> (try split) <;> exact zle.rfl
theorem zwork_set {V : zCl} {k : Nat} {v : List zRl} {r : zRl} (h : (vG V)[k]? = some v) (f t : Nat) : zworkV V f t &&& (zworkV (vN V, vS V, vH V, vP V, (vG V).set k (v ++ [r])) f t ^^^ -1) = 0 := by
  refine zle_sub (fun q hq => ?_)
  obtain ⟨h1, h2⟩ := (zwork_bit V f t q 8).mp hq
  exact (zwork_bit _ f t q 8).mpr ⟨h1, fun p a b => zopen_set h q (h2 p a b)⟩
/-! rules that no packet meets -/
theorem zidles_app : ∀ (as us bs : List zRl), zidles us (as ++ bs) = zidles us as + zidles (us ++ as) bs := by
  intro as
  induction as with
  | nil => intro us bs; rw [List.append_nil]; show zidles us bs = 0 + zidles us bs; rw [Nat.zero_add]
  | cons a as ih =>
    intro us bs
    show (if zidle us a = true then 1 else 0) + zidles (us ++ [a]) (as ++ bs) = (if zidle us a = true then 1 else 0) + zidles (us ++ [a]) as + zidles (us ++ a :: as) bs
    rw [ih, List.append_assoc, List.singleton_append, Nat.add_assoc]
theorem zidle_first {v : zRl} (h1 : zbok v.2.2.1.1 v.2.2.1.2) (h2 : ¬ v.2.2.2 = 0) : zidle [] v = false := by
  have h : zmet [] v v.2.2.1.1 = true := by
    unfold zmet
    rw [zhs_base (w := v.2.2.1) h1]
    show (true && !decide (v.2.2.2 = 0)) = true
    rw [decide_eq_false h2]
    rfl
  unfold zidle
  rw [h]
  rfl
theorem zidles_more (vs : List zRl) (r : zRl) : zidles [] (vs ++ [r]) = zidles [] vs ∨ zidles [] (vs ++ [r]) = zidles [] vs + 1 := by
  rw [zidles_app]
  have e : zidles ([] ++ vs) [r] = if zidle ([] ++ vs) r = true then 1 else 0 := rfl
  by_cases c : zidle ([] ++ vs) r = true
  · rw [e, if_pos c]
    exact Or.inr rfl
  · rw [e, if_neg c]
    exact Or.inl rfl
theorem zidles_first (vs : List zRl) (r : zRl) (h : ∀ v ∈ vs ++ [r], zbok v.2.2.1.1 v.2.2.1.2 ∧ ¬ v.2.2.2 = 0) : zidles [] (vs ++ [r]) ≤ vs.length := by
  cases vs with
  | nil =>
    have h1 := h r (List.mem_singleton.mpr rfl)
    show (if zidle [] r = true then 1 else 0) + 0 ≤ 0
    rw [zidle_first h1.1 h1.2]
    exact Nat.le_refl 0
  | cons v vs =>
    have h1 := h v List.mem_cons_self
    show (if zidle [] v = true then 1 else 0) + zidles ([] ++ [v]) (vs ++ [r]) ≤ vs.length + 1
    rw [zidle_first h1.1 h1.2]
    have h2 := zidles_le ([] ++ [v]) (vs ++ [r])
    rw [List.length_append] at h2
    have h3 : [r].length = 1 := rfl
    have h4 : (if false = true then 1 else 0) = 0 := rfl
    omega
theorem zsv_rules {V : zCl} {k : Nat} {v : zSb} (hv : (vS V)[k]? = some v) : (zsv V k).2.2.1 = v.2.2.1 := by
  unfold zsv
  rw [List.getD_eq_getElem?_getD, hv]
  rfl
/-! routes -/
theorem zrn_at (x : Int32) : ∀ (vs : List zRt) (n sm : Int32), (∃ t ∈ vs, t.1.2 < sm ∧ zhs t.1.1 t.1.2 x = true) → ∃ t ∈ vs, zrn x vs n sm = t.2 := by
  intro vs
  induction vs with
  | nil => rintro n sm ⟨t, ht, -⟩; cases ht
  | cons v vs ih =>
    rintro n sm ⟨t, ht, h⟩
    rw [zrn]
    by_cases c : v.1.2 < sm ∧ zhs v.1.1 v.1.2 x = true
    · rw [if_pos c]
      rcases zrn_mem x vs v.2 v.1.2 with h | ⟨u, hu, h⟩
      · exact ⟨v, List.mem_cons_self, h⟩
      · exact ⟨u, List.mem_cons_of_mem _ hu, h⟩
    · rw [if_neg c]
      rcases List.mem_cons.mp ht with e | ht
      · rw [e] at h
        exact absurd h c
      · obtain ⟨u, hu, h⟩ := ih n sm ⟨t, ht, h⟩
        exact ⟨u, List.mem_cons_of_mem _ hu, h⟩
theorem zL_net {V : zCl} (hL : zLv V) {s : Nat} (hs : s < 6) : ∃ v, (vS V)[s]? = some v ∧ zsv V s = (s / 2, (nI (256 * (s / 2)), nI 8), v.2.2.1, v.2.2.2) ∧ zSo s v ∧ zIs V v := by
  obtain ⟨v, w, hv, hw, e, hI, -⟩ := zV_S hL.1 (i := s) (by rw [hL.2.2.1]; exact hs)
  have hS := hL.2.2.2.1 s v hv
  refine ⟨v, hv, ?_, hS, hI⟩
  rw [hL.2.1, hS.1] at hw
  rw [e, hS.1]
  rcases (show s = 0 ∨ s = 1 ∨ s = 2 ∨ s = 3 ∨ s = 4 ∨ s = 5 by omega) with rfl | rfl | rfl | rfl | rfl | rfl <;> (cases hw; rfl)
theorem znet_in {s a : Nat} (hs : s < 6) (ha : a < 1024) : zhs (nI (256 * (s / 2))) (nI 8) (nI a) = decide (a / 256 = s / 2) := by
  rw [zhs_in (B := 256 * (s / 2)) (K := 8) (by omega) (by omega) (by omega), nI_toInt (by omega)]
  refine decide_eq_decide.mpr ?_
  omega
theorem zix_ge {x : Int32} {n : Nat} (h : zix x n) (hn : n ≤ 1000) : ¬ x < -1 ∧ ¬ x < 0 := by
  have h0 := zix_nn h hn
  refine ⟨fun h9 => h0 ?_, h0⟩
  rw [zi_lt] at h9 ⊢
  have e1 : (-1 : Int32).toInt = -1 := rfl
  have e2 : (0 : Int32).toInt = 0 := rfl
  omega
section
variable {V : zCl} {s : Nat}
theorem zroute_ge (hL : zLv V) (hs : s < 6) {x : Int32} (hx : zhs (nI (256 * (s / 2))) (nI 8) x = true) : ¬ zrouteV V s x < -1 := by
  obtain ⟨v, hv, e, hS, hI⟩ := zL_net hL hs
  unfold zrouteV
  rw [e]
  show ¬ zrnum (nI (256 * (s / 2))) (nI 8) v.2.2.2 x < -1
  unfold zrnum
  rw [if_pos hx]
  rcases zrn_mem x v.2.2.2 (-1) (nI 8) with h | ⟨t, ht, h⟩
  · rw [h]; decide
  · rw [h]
    exact (zix_ge (hI.2.2.2.1 t ht).2 (by have := hL.1.2.2.2.2; omega)).1
theorem zroute_lt (hL : zLv V) (hs : s < 6) (x : Int32) : zrouteV V s x < nI (vP V).length := by
  have h6 := hL.1.2.2.2.2
  have e1 : (-1 : Int32).toInt = -1 := rfl
  have e2 : (-2 : Int32).toInt = -2 := rfl
  rcases zrouteV_in hL.1 (i := s) (by rw [hL.2.2.1]; exact hs) x with ⟨h, -⟩ | h | ⟨k, hk, h⟩
  · rw [h, zi_lt, nI_toInt (by omega)]; omega
  · rw [h, zi_lt, nI_toInt (by omega)]; omega
  · rw [h]; exact nI_lt hk (by omega)
theorem zroute_none (hL : zLv V) (hs : s < 6) (hp : (vP V).length = 0) {a : Nat} (ha : a < 1024) : zrouteV V s (nI a) = if a / 256 = s / 2 then -1 else -2 := by
  obtain ⟨v, hv, e, hS, hI⟩ := zL_net hL hs
  have h0 : v.2.2.2 = [] := List.eq_nil_iff_forall_not_mem.mpr (fun t ht => by
    obtain ⟨k, hk, -⟩ := (hI.2.2.2.1 t ht).2
    omega)
  unfold zrouteV
  rw [e]
  show zrnum (nI (256 * (s / 2))) (nI 8) v.2.2.2 (nI a) = _
  unfold zrnum
  rw [h0, znet_in hs ha]
  simp only [decide_eq_true_eq, zrn]
/-- the law's blocks of routes -/
def zRB (K B : Nat) : Prop := (K = 10 ∧ B = 0) ∨ (K = 8 ∧ ∃ j, j < 3 ∧ B = 256 * j) ∨ (K = 6 ∧ ∃ j, j < 4 ∧ B = 64 * j)
theorem zRB_in {K B : Nat} (h : zRB K B) : (nI B, nI K) ∈ zBs := by
  unfold zBs
  rcases h with ⟨rfl, rfl⟩ | ⟨rfl, j, hj, rfl⟩ | ⟨rfl, j, hj, rfl⟩
  · simp
  · rcases (show j = 0 ∨ j = 1 ∨ j = 2 by omega) with rfl | rfl | rfl <;> simp
  · rcases (show j = 0 ∨ j = 1 ∨ j = 2 ∨ j = 3 by omega) with rfl | rfl | rfl | rfl <;> simp
theorem zRB_ok {K B : Nat} (h : zRB K B) : zbok (nI B) (nI K) ∧ B ≤ 512 ∧ K ≤ 10 := by
  rcases h with ⟨rfl, rfl⟩ | ⟨rfl, j, hj, rfl⟩ | ⟨rfl, j, hj, rfl⟩
  · exact ⟨(zbok_iff (by omega) (by omega)).mpr ⟨by omega, by omega⟩, by omega, by omega⟩
  · exact ⟨(zbok_iff (by omega) (by omega)).mpr ⟨by omega, by omega⟩, by omega, by omega⟩
  · exact ⟨(zbok_iff (by omega) (by omega)).mpr ⟨by omega, by omega⟩, by omega, by omega⟩
theorem zroute_set (hL : zLv V) (hs : s < 6) {v : zSb} (hv : (vS V)[s]? = some v) {K B : Nat} {pe : Int32} (hB : zRB K B) (hK : ¬ K = 10) (hno : ¬ (B / 256 = s / 2 ∧ K = 8)) (ht : ((nI B, nI K), pe) ∈ v.2.2.2) : ¬ zrouteV V s (nI (B + 5)) < 0 := by
  obtain ⟨v2, hv2, e, hS, hI⟩ := zL_net hL hs
  rw [hv] at hv2
  cases hv2
  have hb5 := (zRB_ok hB).2.1
  have hh : zhs (nI B) (nI K) (nI (B + 5)) = true := by
    rcases hB with ⟨rfl, rfl⟩ | ⟨rfl, j, hj, rfl⟩ | ⟨rfl, j, hj, rfl⟩
    · exact absurd rfl hK
    · rw [zhs_in (by omega) (by omega) (by omega), nI_toInt (by omega)]; exact decide_eq_true (by omega)
    · rw [zhs_in (by omega) (by omega) (by omega), nI_toInt (by omega)]; exact decide_eq_true (by omega)
  have hge : ∀ n sm : Int32, nI K < sm → ¬ zrn (nI (B + 5)) v.2.2.2 n sm < 0 := fun n sm h => by
    obtain ⟨t, ht2, h2⟩ := zrn_at (nI (B + 5)) v.2.2.2 n sm ⟨_, ht, h, hh⟩
    rw [h2]
    exact (zix_ge (hI.2.2.2.1 t ht2).2 (by have := hL.1.2.2.2.2; omega)).2
  unfold zrouteV
  rw [e]
  show ¬ zrnum (nI (256 * (s / 2))) (nI 8) v.2.2.2 (nI (B + 5)) < 0
  unfold zrnum
  rw [znet_in hs (by omega)]
  by_cases c : (B + 5) / 256 = s / 2
  · rw [decide_eq_true c, if_pos rfl]
    refine hge _ _ ?_
    rcases hB with ⟨rfl, rfl⟩ | ⟨rfl, j, hj, rfl⟩ | ⟨rfl, j, hj, rfl⟩
    · exact absurd rfl hK
    · exact absurd ⟨by omega, rfl⟩ hno
    · exact nI_lt (by omega) (by omega)
  · rw [decide_eq_false c, if_neg (by decide)]
    refine hge _ _ ?_
    have hk9 : K ≤ 8 := by
      rcases hB with ⟨rfl, rfl⟩ | ⟨rfl, j, hj, rfl⟩ | ⟨rfl, j, hj, rfl⟩
      · exact absurd rfl hK
      · omega
      · omega
    exact nI_lt (b := 11) (by omega) (by omega)
theorem zhost_at (hL : zLv V) {i : Nat} (hi : i < (vH V).length) : (zhv V i).1 < 6 ∧ (¬ (zhv V i).2.1 < 0 ∧ (zhv V i).2.1 < 1024) := by
  obtain ⟨v, hv, hx⟩ := hL.1.2.2.1 _ (List.mem_of_getElem? (zhv_get hi))
  have h6 : (zhv V i).1 < 6 := by rw [← hL.2.2.1]; exact (List.getElem?_eq_some_iff.mp hv).1
  obtain ⟨-, e, -⟩ := hL.2.2.2.1 _ v hv
  rw [e] at hx
  have hb : zbase (zhv V i).1 ≤ 576 ∧ zbase (zhv V i).1 % 64 = 0 := by unfold zbase; omega
  have h := (zhs_in (B := zbase (zhv V i).1) (K := 6) (by omega) (by omega) (by omega) (zhv V i).2.1).symm.trans hx
  have h := of_decide_eq_true h
  refine ⟨h6, fun h9 => ?_, ?_⟩
  · rw [zi_lt] at h9
    have e2 : (0 : Int32).toInt = 0 := rfl
    omega
  · rw [zi_lt]
    have e2 : (1024 : Int32).toInt = 1024 := rfl
    omega
theorem zaddr_in {p : Nat} (hs : s < 6) (hp : p < 64) : zhs (nI (zbase s)) (nI 6) (nI (zbase s + p)) = true ∧ zhs (nI (256 * (s / 2))) (nI 8) (nI (zbase s + p)) = true ∧ zbase s + p < 1024 := by
  have hb : zbase s ≤ 576 ∧ zbase s % 64 = 0 ∧ (zbase s + p) / 256 = s / 2 := by unfold zbase; omega
  refine ⟨?_, ?_, by omega⟩
  · rw [zhs_in (B := zbase s) (K := 6) (by omega) (by omega) (by omega), nI_toInt (by omega)]
    exact decide_eq_true (by omega)
  · rw [znet_in hs (by omega)]
    exact decide_eq_true hb.2.2
theorem zsh_blk {m K : Nat} (hm : m < 1024) (hK : K ≤ 10) : nI m >>> (nI K &&& 31) <<< (nI K &&& 31) = nI (m / 2 ^ K * 2 ^ K) ∧ zbok (nI (m / 2 ^ K * 2 ^ K)) (nI K) := by
  have hp := zp_pow hK
  have h1 : m / 2 ^ K * 2 ^ K ≤ m := Nat.div_mul_le_self m (2 ^ K)
  refine ⟨?_, (zbok_iff (by omega) hK).mpr ⟨by omega, Nat.mul_mod_left _ _⟩⟩
  rw [pk_shrN (by omega) _ K (s_l K (by omega)), pk_shlN _ K (s_l K (by omega)) (by omega)]
theorem zpok_n {F L : Nat} (h : F ≤ L) (h2 : L < 16) : zpok (nI F) (nI L) := ⟨nI_pos (by omega), nI_nlt h (by omega), nI_lt (b := 16) h2 (by omega)⟩
theorem zps_ne : ∀ F, F < 16 → ∀ L, L < 16 → F ≤ L → ¬ zps (nI F) (nI L) = 0 := by decide +kernel
theorem zput_bit (g : Int32) {j : Nat} (hj : j < 32) (i : Bool) : (!decide (zput g (nI j) (zb i) &&& (1 : Int32) <<< (nI j &&& 31) = 0)) = i := by
  have h := zbit_and (zput g (nI j) (zb i)) j hj
  cases i with
  | true =>
    have hb : bt (zput g (nI j) (zb true)) j = true := by
      show bt (g ||| (1 : Int32) <<< (nI j &&& 31)) j = true
      rw [b_or, zb_pow j hj hj, decide_eq_true rfl, Bool.or_true]
    rw [decide_eq_false (fun h9 => by rw [h.mp h9] at hb; cases hb)]
    rfl
  | false =>
    have hb : bt (zput g (nI j) (zb false)) j = false := by
      show bt (g &&& ((1 : Int32) <<< (nI j &&& 31) ^^^ (-1))) j = false
      rw [b_and, b_xor, zb_pow j hj hj, decide_eq_true rfl, b_m1 j hj]
      cases bt g j <;> rfl
    rw [decide_eq_true (h.mpr hb)]
    rfl
end
