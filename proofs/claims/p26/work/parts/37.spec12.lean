theorem fx_fix {R : Nat → Nat} {μ : Nat → Nat} (hR : ∀ w, R w ≠ w → μ (R w) < μ w) : ∀ k w, μ w < k → R (fxN R k w) = fxN R k w := by
  intro k
  induction k with
  | zero => intro w h; omega
  | succ k ih =>
    intro w hw
    rw [fxN]
    by_cases h : R w = w
    · rw [if_pos h]; exact h
    · rw [if_neg h]; exact ih (R w) (by have := hR w h; omega)
section
variable {T : Nat → Nat} {n f : Nat} {L : Nat → Nat}
theorem st_fix (hn : n ≤ 10) {w : Nat} (hw : w < 2 ^ n) : rN T n f L (stN T n f L w) = stN T n f L w := fx_fix (st_mx T n f L) 11 w (by have := mx_le hn hw; omega)
theorem bN_la {w g : Nat} : ∀ j, sbN (bN T n w g j) (laN T n w g j) := by
  intro j
  induction j with
  | zero => exact sb_0 _
  | succ j ih =>
    have h1 : sbN (g ||| bN T n w g j) (laN T n w g j) := sb_of (fun i hi => by
      rw [Nat.testBit_or, Bool.or_eq_true] at hi
      rcases hi with hi | hi
      · exact la_mono (Nat.zero_le j) hi
      · exact sb_bit ih hi)
    exact sb_tr (sb_and (sb_in h1)) (sb_of (fun i hi => by rw [laN, Nat.testBit_or, hi, Bool.or_true]))
theorem sty_st (hn : n ≤ 10) {s : Nat} (hs : s < 2 ^ n) : STY T n (stN T n f L s) (goN n f L (stN T n f L s)) := by
  have h1 := st_lt T n f L hs
  have h2 := goN_sub n f L (stN T n f L s)
  refine ⟨h1, sb_lt h2 h1, fun i hi => ?_, fun i hi => sb_bit h2 hi⟩
  rw [← st_fix hn hs] at hi
  change (stN T n f L s &&& inN T (goN n f L (stN T n f L s) ||| bN T n (stN T n f L s) (goN n f L (stN T n f L s)) 9) n).testBit i = true at hi
  rw [Nat.testBit_and, Bool.and_eq_true] at hi
  obtain ⟨hin, j, hj1, hj2⟩ := in_ex hi.2
  refine ⟨j, hj1, ?_⟩
  rw [Nat.testBit_or, Bool.or_eq_true] at hj2
  rcases hj2 with h | h
  · exact la_mono (Nat.zero_le 9) h
  · exact sb_bit (bN_la 9) h
theorem la_go {y g : Nat} (hg : g < 2 ^ n) : ∀ k, laN T n y g (k + 1) ≠ laN T n y g k → k + 1 ≤ ctN (laN T n y g (k + 1)) n := by
  intro k
  induction k with
  | zero =>
    intro h
    have := ct_lt (sb_or_l (laN T n y g 0) (y &&& inN T (laN T n y g 0) n)) (Ne.symm h) (la_lt hg 1)
    exact Nat.lt_of_le_of_lt (Nat.zero_le _) this
  | succ k ih =>
    intro h
    have h1 : laN T n y g (k + 1) ≠ laN T n y g k := fun e => h (by
      show laN T n y g (k + 1) ||| (y &&& inN T (laN T n y g (k + 1)) n) = laN T n y g (k + 1)
      rw [e]
      show laN T n y g (k + 1) = laN T n y g k
      exact e)
    have h2 := ct_lt (sb_or_l (laN T n y g (k + 1)) (y &&& inN T (laN T n y g (k + 1)) n)) (Ne.symm h) (la_lt hg (k + 2))
    exact Nat.lt_of_le_of_lt (ih h1) h2
theorem la_10 (hn : n ≤ 10) {y g : Nat} (hg : g < 2 ^ n) : laN T n y g 11 = laN T n y g 10 := by
  by_cases h : laN T n y g 11 = laN T n y g 10
  · exact h
  · have h1 : 11 ≤ ctN (laN T n y g 11) n := la_go hg 10 h
    have h2 := ct_le (laN T n y g 11) n
    omega
theorem fx_la {y g : Nat} : ∀ k j, sbN (fxN (uN T n y) k (laN T n y g j)) (laN T n y g (j + k)) := by
  intro k
  induction k with
  | zero => intro j; exact sb_rf _
  | succ k ih =>
    intro j
    rw [fxN]
    split
    · exact sb_of (fun i hi => la_mono (by omega) hi)
    · have h := ih (j + 1)
      rw [show j + 1 + k = j + (k + 1) by omega] at h
      exact h
/-- what "EU" holds in lies at most 10 steps off -/
theorem un_ds (hn : n ≤ 10) {y g w : Nat} (hg : g < 2 ^ n) (h : (unN T n y g).testBit w = true) : dsN T n y g 10 w ≤ 10 := by
  have h1 := sb_bit (fx_la (T := T) (n := n) (y := y) (g := g) 11 0) h
  rw [Nat.zero_add, la_10 hn hg] at h1
  exact (ds_iff (Nat.le_refl 10)).mpr h1
theorem nd_in {x w : Nat} (hw : w < n) (h : ¬ (ndN (2 ^ n - 1) x).testBit w = true) : x.testBit w = true := by
  cases hx : x.testBit w with
  | true => rfl
  | false => refine absurd ?_ h; rw [ndN_bit, Nat.testBit_two_pow_sub_one, decide_eq_true hw, hx]; rfl
end
/-- the worlds of a witness -/
def smW (T : Nat → Nat) (n f : Nat) (L : Nat → Nat) (c a b w : Nat) : List Nat :=
  if c = 88 then [w, loN (T w &&& lvN T n f L &&& a) 0 10] else if c = 70 then waysN T n (2 ^ n - 1) (lvN T n f L &&& a) w else if c = 71 then staysL T n (stN T n f L a) (goN n f L (stN T n f L a)) w else waysN T n a (lvN T n f L &&& b) w
def agW (T : Nat → Nat) (n f : Nat) (L : Nat → Nat) (c a b w : Nat) : List Nat :=
  if c = 88 then [w, loN (T w &&& lvN T n f L &&& a) 0 10] else if c = 70 then staysL T n (stN T n f L a) (goN n f L (stN T n f L a)) w else if c = 71 then waysN T n (2 ^ n - 1) (lvN T n f L &&& a) w
  else if (unN T n b (lvN T n f L &&& (a &&& b)) >>> w) &&& 1 = 1 then waysN T n b (lvN T n f L &&& a &&& b) w else staysL T n (stN T n f L b) (goN n f L (stN T n f L b)) w
section
variable {T : Nat → Nat} {n f : Nat} {L : Nat → Nat}
theorem sm_x {a b w : Nat} (hn : n ≤ 10) (h : (someS T n f L 88 a b).testBit w = true) : ∃ j, j < 10 ∧ (T w &&& lvN T n f L &&& a).testBit j = true := by
  rw [someS, if_pos rfl] at h
  obtain ⟨hw, j, h1, h2⟩ := in_ex h
  have h3 := h2
  rw [Nat.testBit_and, Bool.and_eq_true] at h3
  have h4 := (all_bit (lvN_lt T n f L) h3.1).1
  exact ⟨j, by omega, by rw [Nat.and_assoc, Nat.testBit_and, h1, h2]; rfl⟩
theorem ag_x {a b w : Nat} (hn : n ≤ 10) (hw : w < n) (h : ¬ (evryS T n f L 88 a b).testBit w = true) : ∃ j, j < 10 ∧ (T w &&& lvN T n f L &&& ndN (2 ^ n - 1) a).testBit j = true := by
  rw [evryS, if_pos rfl] at h
  obtain ⟨_, j, h1, h2⟩ := in_ex (nd_in hw h)
  have h3 := h2
  rw [ndN_bit, Bool.and_eq_true] at h3
  have h4 := (all_bit (lvN_lt T n f L) h3.1).1
  exact ⟨j, by omega, by rw [Nat.testBit_and, Nat.testBit_and, h1, h3.1, ndN_bit, Nat.testBit_two_pow_sub_one, decide_eq_true h4, h3.2]; rfl⟩
theorem nd_nd {n a b : Nat} : ndN (ndN (2 ^ n - 1) b) a = ndN (2 ^ n - 1) a &&& ndN (2 ^ n - 1) b := by
  apply Nat.eq_of_testBit_eq
  intro i
  rw [ndN_bit, ndN_bit, Nat.testBit_and, ndN_bit, ndN_bit]
  cases (2 ^ n - 1).testBit i <;> cases a.testBit i <;> cases b.testBit i <;> rfl
end

