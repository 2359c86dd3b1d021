-- what both sides compute, over natural numbers: a set of worlds is a number below 2 ^ n
def inN (T : Nat → Nat) (s : Nat) : Nat → Nat
  | 0 => 0
  | k + 1 => if T k &&& s = 0 then inN T s k else inN T s k ||| 2 ^ k
theorem inN_f {T : Nat → Nat} {s k : Nat} (h : T k &&& s = 0) : inN T s (k + 1) = inN T s k := by rw [inN, if_pos h]
theorem inN_t {T : Nat → Nat} {s k : Nat} (h : ¬ T k &&& s = 0) : inN T s (k + 1) = inN T s k ||| 2 ^ k := by rw [inN, if_neg h]
def wlN (L : Nat → Nat) (c : Nat) : Nat → Nat
  | 0 => 0
  | k + 1 => wlN L c k ||| (L k >>> c &&& 1) * 2 ^ k
def fI (f : Nat) : Int32 := if f = 4 then -1 else nI f
theorem fI_4 : fI 4 = -1 := rfl
theorem fI_n {f : Nat} (h : f ≠ 4) : fI f = nI f := by rw [fI, if_neg h]
theorem fI_m {f : Nat} (h : f ≤ 4) (h2 : fI f = -1) : f = 4 := by
  rcases (show f = 0 ∨ f = 1 ∨ f = 2 ∨ f = 3 ∨ f = 4 by omega) with rfl | rfl | rfl | rfl | rfl <;> first | rfl | (exact absurd h2 (by decide))
def goN (n f : Nat) (L : Nat → Nat) (s : Nat) : Nat := if f = 4 then s else s &&& wlN L f n
/-- the state row of the reference, as numbers: n worlds, the fair letter f (4: none), letters L, steps T, lengths ln and signs sg of the wishes -/
def ZZ (z : Nat → Int32) (n f : Nat) (L T ln : Nat → Nat) (sg : Nat → Nat → Nat) : Prop :=
  z 0 = nI n ∧ z 1 = fI f ∧ (∀ i, i < n → z (2 + i) = nI (L i)) ∧ (∀ i, i < n → z (12 + i) = nI (T i)) ∧ (∀ w, w < 4 → z (22 + 41 * w) = nI (ln w)) ∧ ∀ w, w < 4 → ∀ k, k < ln w → z (22 + 41 * w + 1 + k) = nI (sg w k)
/-- what a state may be -/
def OK (n f : Nat) (L T ln : Nat → Nat) (sg : Nat → Nat → Nat) : Prop :=
  n ≤ 10 ∧ f ≤ 4 ∧ (∀ i, i < n → L i < 16) ∧ (∀ i, i < n → T i < 2 ^ n) ∧ (∀ w, w < 4 → ln w ≤ 40) ∧ ∀ w, w < 4 → ∀ k, k < ln w → sg w k < 128
theorem bI_dt {P : Prop} [Decidable P] (h : P) : nI 1 = bI (decide P) := by rw [decide_eq_true h]; rfl
theorem bI_df {P : Prop} [Decidable P] (h : ¬ P) : nI 0 = bI (decide P) := by rw [decide_eq_false h]; rfl
theorem p10 {k n : Nat} (h : k ≤ n) (hn : n ≤ 10) : 2 ^ k ≤ 1024 := Nat.le_trans (Nat.pow_le_pow_right (by decide) (Nat.le_trans h hn)) (by decide)
theorem or_lt {a b k : Nat} (ha : a < 2 ^ k) (hb : b < 2 ^ k) : a ||| b < 2 ^ k := Nat.or_lt_two_pow ha hb
theorem and_le (a b : Nat) : a &&& b ≤ a := Nat.and_le_left
theorem inN_lt (T : Nat → Nat) (s : Nat) : ∀ k, inN T s k < 2 ^ k := by
  intro k
  induction k with
  | zero => exact Nat.one_pos
  | succ k ih =>
    have h1 : inN T s k < 2 ^ (k + 1) := Nat.lt_trans ih (Nat.pow_lt_pow_succ (by decide))
    rw [inN]
    split
    · exact h1
    · exact or_lt h1 (Nat.pow_lt_pow_succ (by decide))
theorem wlN_lt (L : Nat → Nat) (c : Nat) : ∀ k, wlN L c k < 2 ^ k := by
  intro k
  induction k with
  | zero => exact Nat.one_pos
  | succ k ih =>
    have h1 : wlN L c k < 2 ^ (k + 1) := Nat.lt_trans ih (Nat.pow_lt_pow_succ (by decide))
    rw [wlN]
    refine or_lt h1 ?_
    have h2 : L k >>> c &&& 1 ≤ 1 := Nat.and_le_right
    have h3 : (L k >>> c &&& 1) * 2 ^ k ≤ 1 * 2 ^ k := Nat.mul_le_mul_right _ h2
    have h4 : 2 ^ k < 2 ^ (k + 1) := Nat.pow_lt_pow_succ (by decide)
    omega

