-- sets as bits
theorem inN_bit (T : Nat → Nat) (s : Nat) (i : Nat) : ∀ n, (inN T s n).testBit i = decide (i < n ∧ ¬ T i &&& s = 0) := by
  intro n
  induction n with
  | zero => simp [inN]
  | succ k ih =>
    rw [inN]
    by_cases hk : i = k
    · subst hk
      by_cases hc : T i &&& s = 0
      · rw [if_pos hc, ih]; simp [hc]
      · rw [if_neg hc, Nat.testBit_or, ih, Nat.testBit_two_pow_self]; simp [hc]
    · have h2 : (2 ^ k).testBit i = false := Nat.testBit_two_pow_of_ne (Ne.symm hk)
      split
      · rw [ih]; congr 1; apply propext; constructor <;> (rintro ⟨a, b⟩; exact ⟨by omega, b⟩)
      · rw [Nat.testBit_or, ih, h2, Bool.or_false]; congr 1; apply propext; constructor <;> (rintro ⟨a, b⟩; exact ⟨by omega, b⟩)
theorem and_or_0 (t a b : Nat) : t &&& (a ||| b) = 0 ↔ t &&& a = 0 ∧ t &&& b = 0 := by
  rw [Nat.and_or_distrib_left, Nat.or_eq_zero_iff]
theorem inN_or (T : Nat → Nat) (a b n : Nat) : inN T (a ||| b) n = inN T a n ||| inN T b n := by
  apply Nat.eq_of_testBit_eq
  intro i
  rw [Nat.testBit_or, inN_bit, inN_bit, inN_bit]
  by_cases h1 : T i &&& a = 0 <;> by_cases h2 : T i &&& b = 0 <;> by_cases h3 : i < n <;> simp [h1, h2, h3, and_or_0]
/-- a's bits are all b's -/
def sbN (a b : Nat) : Prop := a ||| b = b
theorem sb_rf (a : Nat) : sbN a a := Nat.or_self a
theorem sb_bit {a b : Nat} (h : sbN a b) {i : Nat} (hi : a.testBit i = true) : b.testBit i = true := by
  have := congrArg (fun x => x.testBit i) h
  simp only [Nat.testBit_or, hi, Bool.true_or] at this
  exact this.symm
theorem sb_of {a b : Nat} (h : ∀ i, a.testBit i = true → b.testBit i = true) : sbN a b := by
  apply Nat.eq_of_testBit_eq
  intro i
  rw [Nat.testBit_or]
  cases ha : a.testBit i with
  | false => simp
  | true => simp [h i ha]
theorem sb_tr {a b c : Nat} (h : sbN a b) (h2 : sbN b c) : sbN a c := sb_of (fun _ hi => sb_bit h2 (sb_bit h hi))
theorem sb_as {a b : Nat} (h : sbN a b) (h2 : sbN b a) : a = b := by
  rw [sbN] at h h2; rw [← h2, Nat.or_comm]; exact h
theorem sb_0 (a : Nat) : sbN 0 a := Nat.zero_or a
theorem sb_and_l (a b : Nat) : sbN (a &&& b) a := sb_of (fun i hi => by rw [Nat.testBit_and, Bool.and_eq_true] at hi; exact hi.1)
theorem sb_and_r (a b : Nat) : sbN (a &&& b) b := sb_of (fun i hi => by rw [Nat.testBit_and, Bool.and_eq_true] at hi; exact hi.2)
theorem sb_or_l (a b : Nat) : sbN a (a ||| b) := sb_of (fun i hi => by rw [Nat.testBit_or, hi]; rfl)
theorem sb_and {w a b : Nat} (h : sbN a b) : sbN (w &&& a) (w &&& b) := sb_of (fun i hi => by
  rw [Nat.testBit_and, Bool.and_eq_true] at hi ⊢; exact ⟨hi.1, sb_bit h hi.2⟩)
theorem sb_or {g a b : Nat} (h : sbN a b) : sbN (g ||| a) (g ||| b) := sb_of (fun i hi => by
  rw [Nat.testBit_or, Bool.or_eq_true] at hi ⊢; exact hi.imp id (sb_bit h))
theorem sb_in {T : Nat → Nat} {n a b : Nat} (h : sbN a b) : sbN (inN T a n) (inN T b n) := by
  rw [sbN, ← inN_or, h]
theorem sb_le {a b : Nat} (h : sbN a b) : a ≤ b := by rw [← h]; exact Nat.left_le_or
theorem sb_lt {a b k : Nat} (h : sbN a b) (hb : b < 2 ^ k) : a < 2 ^ k := Nat.lt_of_le_of_lt (sb_le h) hb
/-- how many bits below n -/
def ctN (a : Nat) : Nat → Nat
  | 0 => 0
  | k + 1 => ctN a k + if a.testBit k then 1 else 0
theorem ct_le (a : Nat) : ∀ n, ctN a n ≤ n := by
  intro n
  induction n with
  | zero => exact Nat.le_refl _
  | succ k ih => rw [ctN]; split <;> omega
theorem ct_mono {a b : Nat} (h : sbN a b) : ∀ n, ctN a n ≤ ctN b n := by
  intro n
  induction n with
  | zero => exact Nat.le_refl _
  | succ k ih =>
    rw [ctN, ctN]
    by_cases ha : a.testBit k = true
    · rw [if_pos ha, if_pos (sb_bit h ha)]; omega
    · rw [if_neg ha]; split <;> omega
theorem ct_lt {a b : Nat} (h : sbN a b) (hne : a ≠ b) {n : Nat} (hb : b < 2 ^ n) : ctN a n < ctN b n := by
  have hd : ∃ i, i < n ∧ a.testBit i = false ∧ b.testBit i = true := by
    apply Classical.byContradiction
    intro hno
    apply hne
    apply sb_as h
    apply sb_of
    intro i hi
    by_cases hin : i < n
    · cases ha : a.testBit i with
      | true => rfl
      | false => exact absurd ⟨i, hin, ha, hi⟩ hno
    · have : b < 2 ^ i := Nat.lt_of_lt_of_le hb (Nat.pow_le_pow_right (by decide) (by omega))
      rw [Nat.testBit_lt_two_pow this] at hi
      cases hi
  obtain ⟨i, hin, ha, hbi⟩ := hd
  clear hb hne
  induction n with
  | zero => omega
  | succ k ih =>
    rw [ctN, ctN]
    by_cases hik : i = k
    · subst hik
      rw [ha, hbi, if_pos rfl, if_neg (by decide)]
      have := ct_mono h i
      omega
    · have h1 := ih (by omega)
      by_cases ha2 : a.testBit k = true
      · rw [if_pos ha2, if_pos (sb_bit h ha2)]; omega
      · rw [if_neg ha2]; split <;> omega
-- the worlds from which a row of one step or more within w leads to one of g, in j steps at most
def bN (T : Nat → Nat) (n w g : Nat) : Nat → Nat
  | 0 => 0
  | j + 1 => w &&& inN T (g ||| bN T n w g j) n
theorem bN_sub (T : Nat → Nat) (n w g : Nat) : ∀ j, sbN (bN T n w g j) (bN T n w g (j + 1)) := by
  intro j
  induction j with
  | zero => exact sb_0 _
  | succ j ih => exact sb_and (sb_in (sb_or ih))
theorem bN_w (T : Nat → Nat) (n w g : Nat) : ∀ j, sbN (bN T n w g j) w := by
  intro j
  cases j with
  | zero => exact sb_0 _
  | succ j => exact sb_and_l _ _
theorem bN_lt (T : Nat → Nat) (n w g j : Nat) : bN T n w g j < 2 ^ n := by
  cases j with
  | zero => exact Nat.two_pow_pos n
  | succ j => exact sb_lt (sb_and_r _ _) (inN_lt T _ n)
theorem bN_1 (T : Nat → Nat) (n w g : Nat) : bN T n w g 1 = w &&& inN T g n := by
  show w &&& inN T (g ||| 0) n = _
  rw [Nat.or_zero]
theorem bN_or (T : Nat → Nat) (n w g j : Nat) : bN T n w g (j + 1) ||| (w &&& inN T (bN T n w g (j + 1)) n) = bN T n w g (j + 2) := by
  apply sb_as
  · apply sb_of
    intro i hi
    rw [Nat.testBit_or, Bool.or_eq_true] at hi
    rcases hi with hi | hi
    · exact sb_bit (bN_sub T n w g (j + 1)) hi
    · have h1 : sbN (w &&& inN T (bN T n w g (j + 1)) n) (bN T n w g (j + 2)) := sb_and (sb_in (sb_of (fun i hi => by rw [Nat.testBit_or, hi, Bool.or_true])))
      exact sb_bit h1 hi
  · show sbN (w &&& inN T (g ||| bN T n w g (j + 1)) n) _
    rw [inN_or, Nat.and_or_distrib_left]
    apply sb_of
    intro i hi
    rw [Nat.testBit_or, Bool.or_eq_true] at hi ⊢
    refine hi.imp (fun h => ?_) id
    have h1 : sbN (w &&& inN T g n) (bN T n w g (j + 1)) := sb_and (sb_in (sb_or_l _ _))
    exact sb_bit h1 h
theorem bN_stop {T : Nat → Nat} {n w g j : Nat} (h : bN T n w g (j + 1) = bN T n w g j) : ∀ m, j ≤ m → bN T n w g m = bN T n w g j := by
  intro m hm
  induction m with
  | zero => rw [show j = 0 by omega]
  | succ m ih =>
    by_cases he : j = m + 1
    · rw [he]
    · have h1 := ih (by omega)
      rw [bN, h1]
      exact h
theorem bN_ct {T : Nat → Nat} {n w g : Nat} : ∀ j, bN T n w g (j + 1) ≠ bN T n w g j → j + 1 ≤ ctN (bN T n w g (j + 1)) n := by
  intro j
  induction j with
  | zero =>
    intro h
    have := ct_lt (bN_sub T n w g 0) (Ne.symm h) (bN_lt T n w g 1)
    omega
  | succ j ih =>
    intro h
    have h1 : bN T n w g (j + 1) ≠ bN T n w g j := fun e => h (by rw [bN_stop e (j + 2) (by omega), bN_stop e (j + 1) (by omega)])
    have h2 := ih h1
    have := ct_lt (bN_sub T n w g (j + 1)) (Ne.symm h) (bN_lt T n w g (j + 2))
    omega
theorem bN_go {T : Nat → Nat} {n w g j : Nat} (hn : n ≤ 10) (h : bN T n w g (j + 1) ≠ bN T n w g j) : j ≤ 9 := by
  have h1 := bN_ct j h
  have h2 := ct_le (bN T n w g (j + 1)) n
  omega
theorem bN_10 {T : Nat → Nat} {n w g j : Nat} (hn : n ≤ 10) (h : bN T n w g (j + 1) = bN T n w g j) : bN T n w g j = bN T n w g 10 := by
  by_cases hj : j ≤ 10
  · exact (bN_stop h 10 hj).symm
  · have h10 : bN T n w g 11 = bN T n w g 10 := Classical.byContradiction (fun e => by have := bN_go hn e; omega)
    exact bN_stop h10 j (by omega)
theorem goN_sub (n f : Nat) (L : Nat → Nat) (w : Nat) : sbN (goN n f L w) w := by
  rw [goN]; split
  · exact sb_rf _
  · exact sb_and_l _ _
-- one round of "EG"
def rN (T : Nat → Nat) (n f : Nat) (L : Nat → Nat) (w : Nat) : Nat := bN T n w (goN n f L w) 10
theorem rN_sub (T : Nat → Nat) (n f : Nat) (L : Nat → Nat) (w : Nat) : sbN (rN T n f L w) w := bN_w _ _ _ _ _
theorem rN_lt (T : Nat → Nat) (n f : Nat) (L : Nat → Nat) (w : Nat) : rN T n f L w < 2 ^ n := bN_lt _ _ _ _ _
/-- a set changed until nothing changes (R: one round), k rounds at most, and the rounds -/
def fxN (R : Nat → Nat) : Nat → Nat → Nat
  | 0, w => w
  | k + 1, w => if R w = w then w else fxN R k (R w)
def frN (R : Nat → Nat) : Nat → Nat → Nat
  | 0, _ => 0
  | k + 1, w => if R w = w then 0 else 1 + frN R k (R w)
theorem fx_more {R : Nat → Nat} {μ : Nat → Nat} (hR : ∀ w, R w ≠ w → μ (R w) < μ w) : ∀ k w, μ w < k → fxN R k w = fxN R (k + 1) w ∧ frN R k w = frN R (k + 1) w := by
  intro k
  induction k with
  | zero => intro w h; omega
  | succ k ih =>
    intro w hw
    by_cases h : R w = w
    · rw [fxN, fxN, frN, frN, if_pos h, if_pos h, if_pos h, if_pos h]; exact ⟨rfl, rfl⟩
    · have h1 := ih (R w) (by have := hR w h; omega)
      constructor
      · rw [fxN, fxN, if_neg h, if_neg h]; exact h1.1
      · rw [frN, frN, if_neg h, if_neg h, ← h1.2]
theorem fx_at {R : Nat → Nat} {μ : Nat → Nat} (hR : ∀ w, R w ≠ w → μ (R w) < μ w) {w : Nat} (hw : μ w ≤ 10) : fxN R 11 w = (if R w = w then w else fxN R 11 (R w)) ∧ frN R 11 w = if R w = w then 0 else 1 + frN R 11 (R w) := by
  by_cases h : R w = w
  · rw [fxN, frN, if_pos h, if_pos h, if_pos h, if_pos h]; exact ⟨rfl, rfl⟩
  · have h1 := fx_more hR 10 (R w) (by have := hR w h; omega)
    rw [if_neg h, if_neg h, fxN, frN, if_neg h, if_neg h, h1.1, h1.2]
    exact ⟨rfl, rfl⟩
def stN (T : Nat → Nat) (n f : Nat) (L : Nat → Nat) (w : Nat) : Nat := fxN (rN T n f L) 11 w
def srN (T : Nat → Nat) (n f : Nat) (L : Nat → Nat) (w : Nat) : Nat := frN (rN T n f L) 11 w
theorem st_m (T : Nat → Nat) (n f : Nat) (L : Nat → Nat) {w : Nat} (hw : w < 2 ^ n) (h : rN T n f L w ≠ w) : ctN (rN T n f L w) n < ctN w n := ct_lt (rN_sub T n f L w) h hw
/-- the measure of "EG": bits below n, for sets below 2 ^ n -/
def mxN (n w : Nat) : Nat := if w < 2 ^ n then ctN w n else n + 1
theorem st_mx (T : Nat → Nat) (n f : Nat) (L : Nat → Nat) (w : Nat) (h : rN T n f L w ≠ w) : mxN n (rN T n f L w) < mxN n w := by
  rw [mxN, if_pos (rN_lt T n f L w), mxN]
  split
  · exact st_m T n f L (by assumption) h
  · have := ct_le (rN T n f L w) n; omega
theorem mx_le {n w : Nat} (hn : n ≤ 10) (hw : w < 2 ^ n) : mxN n w ≤ 10 := by
  rw [mxN, if_pos hw]; have := ct_le w n; omega
theorem st_at (T : Nat → Nat) {n f : Nat} (L : Nat → Nat) {w : Nat} (hn : n ≤ 10) (hw : w < 2 ^ n) : stN T n f L w = (if rN T n f L w = w then w else stN T n f L (rN T n f L w)) ∧ srN T n f L w = if rN T n f L w = w then 0 else 1 + srN T n f L (rN T n f L w) := fx_at (st_mx T n f L) (mx_le hn hw)
theorem fx_sub {R : Nat → Nat} (hR : ∀ w, sbN (R w) w) : ∀ k w, sbN (fxN R k w) w := by
  intro k
  induction k with
  | zero => intro w; exact sb_rf w
  | succ k ih =>
    intro w
    rw [fxN]
    split
    · exact sb_rf w
    · exact sb_tr (ih _) (hR w)
theorem st_sub (T : Nat → Nat) (n f : Nat) (L : Nat → Nat) (w : Nat) : sbN (stN T n f L w) w := fx_sub (rN_sub T n f L) 11 w
theorem st_lt (T : Nat → Nat) (n f : Nat) (L : Nat → Nat) {w : Nat} (hw : w < 2 ^ n) : stN T n f L w < 2 ^ n := sb_lt (st_sub T n f L w) hw
theorem fr_le (R : Nat → Nat) : ∀ k w, frN R k w ≤ k := by
  intro k
  induction k with
  | zero => intro w; exact Nat.le_refl _
  | succ k ih =>
    intro w
    rw [frN]
    split
    · omega
    · have := ih (R w); omega
/-- the live worlds -/
def lvN (T : Nat → Nat) (n f : Nat) (L : Nat → Nat) : Nat := stN T n f L (2 ^ n - 1)
theorem lvN_lt (T : Nat → Nat) (n f : Nat) (L : Nat → Nat) : lvN T n f L < 2 ^ n := st_lt T n f L (by have := Nat.two_pow_pos n; omega)
-- "EU"
def uN (T : Nat → Nat) (n y : Nat) (w : Nat) : Nat := w ||| (y &&& inN T w n)
def unN (T : Nat → Nat) (n y w : Nat) : Nat := fxN (uN T n y) 11 w
def urN (T : Nat → Nat) (n y w : Nat) : Nat := frN (uN T n y) 11 w
theorem uN_sub (T : Nat → Nat) (n y w : Nat) : sbN w (uN T n y w) := sb_or_l _ _
theorem uN_lt (T : Nat → Nat) (n y : Nat) {w : Nat} (hw : w < 2 ^ n) : uN T n y w < 2 ^ n := or_lt hw (sb_lt (sb_and_r _ _) (inN_lt T _ n))
def muN (n w : Nat) : Nat := if w < 2 ^ n then n - ctN w n else 0
theorem un_more (T : Nat → Nat) {n : Nat} (y : Nat) : ∀ k w, w < 2 ^ n → n - ctN w n < k → fxN (uN T n y) k w = fxN (uN T n y) (k + 1) w ∧ frN (uN T n y) k w = frN (uN T n y) (k + 1) w := by
  intro k
  induction k with
  | zero => intro w _ h; omega
  | succ k ih =>
    intro w hw hk
    by_cases h : uN T n y w = w
    · rw [fxN, fxN, frN, frN, if_pos h, if_pos h, if_pos h, if_pos h]; exact ⟨rfl, rfl⟩
    · have h2 := ct_lt (uN_sub T n y w) (Ne.symm h) (uN_lt T n y hw)
      have h3 := ct_le (uN T n y w) n
      have h1 := ih (uN T n y w) (uN_lt T n y hw) (by omega)
      constructor
      · rw [fxN, fxN, if_neg h, if_neg h]; exact h1.1
      · rw [frN, frN, if_neg h, if_neg h, ← h1.2]
theorem un_at (T : Nat → Nat) {n : Nat} (y : Nat) {w : Nat} (hn : n ≤ 10) (hw : w < 2 ^ n) : unN T n y w = (if uN T n y w = w then w else unN T n y (uN T n y w)) ∧ urN T n y w = if uN T n y w = w then 0 else 1 + urN T n y (uN T n y w) := by
  rw [unN, urN, unN, urN]
  by_cases h : uN T n y w = w
  · rw [fxN, frN, if_pos h, if_pos h, if_pos h, if_pos h]; exact ⟨rfl, rfl⟩
  · have h2 := ct_lt (uN_sub T n y w) (Ne.symm h) (uN_lt T n y hw)
    have h3 := ct_le (uN T n y w) n
    have h1 := un_more T y 10 (uN T n y w) (uN_lt T n y hw) (by omega)
    rw [if_neg h, if_neg h, fxN, frN, if_neg h, if_neg h, h1.1, h1.2]
    exact ⟨rfl, rfl⟩
theorem un_lt (T : Nat → Nat) (n y : Nat) : ∀ k w, w < 2 ^ n → fxN (uN T n y) k w < 2 ^ n := by
  intro k
  induction k with
  | zero => intro w h; exact h
  | succ k ih =>
    intro w h
    rw [fxN]
    split
    · exact h
    · exact ih _ (uN_lt T n y h)
theorem and_lt {a b k : Nat} (h : a < 2 ^ k) : a &&& b < 2 ^ k := Nat.lt_of_le_of_lt (and_le _ _) h
theorem lt31 {a n : Nat} (h : a < 2 ^ n) (hn : n ≤ 10) : a < 2 ^ 31 := Nat.lt_of_lt_of_le h (Nat.le_trans (p10 (Nat.le_refl n) hn) (by decide))
theorem al_lt (n : Nat) : 2 ^ n - 1 < 2 ^ n := by have := Nat.two_pow_pos n; omega

