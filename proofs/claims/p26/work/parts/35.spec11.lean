theorem all_bit {a n j : Nat} (h : a < 2 ^ n) (hj : a.testBit j = true) : j < n ∧ (2 ^ n - 1).testBit j = true := by
  have h1 : j < n := by
    rcases Nat.lt_or_ge j n with b | b
    · exact b
    · rw [Nat.testBit_lt_two_pow (Nat.lt_of_lt_of_le h (Nat.pow_le_pow_right (by decide) b))] at hj; cases hj
  exact ⟨h1, by rw [Nat.testBit_two_pow_sub_one, decide_eq_true h1]⟩
theorem ds_99 {T : Nat → Nat} {n y g : Nat} (i : Nat) : dsN T n y g 10 i ≤ 99 := by
  rcases ds_le (T := T) (n := n) (y := y) (g := g) i 10 with h | h <;> omega
def waysN (T : Nat → Nat) (n y g w : Nat) : List Nat := w :: wyN (nxN T n (2 ^ n - 1) (dsN T n y g 10)) (dsN T n y g 10 w) w
/-- worlds of a set from which a way stays in it and comes to its goals again and again -/
def STY (T : Nat → Nat) (n y g : Nat) : Prop := y < 2 ^ n ∧ g < 2 ^ n ∧ (∀ i, y.testBit i = true → ∃ j, (T i).testBit j = true ∧ (laN T n y g 9).testBit j = true) ∧ ∀ i, g.testBit i = true → y.testBit i = true
section
variable {T : Nat → Nat} {n y g : Nat}
theorem la_in (h : STY T n y g) (m i : Nat) (hi : (laN T n y g m).testBit i = true) : y.testBit i = true := by
  induction m with
  | zero => exact h.2.2.2 i hi
  | succ m ih =>
    rw [laN, Nat.testBit_or, Bool.or_eq_true, Nat.testBit_and, Bool.and_eq_true] at hi
    rcases hi with hi | hi
    · exact ih hi
    · exact hi.1
theorem sty_nx (h : STY T n y g) {w : Nat} (hw : y.testBit w = true) : ∃ b, bsN (T w) y (dsN T n y g 10) n = some b ∧ nxN T n y (dsN T n y g 10) w = b ∧ b < n ∧ y.testBit b = true ∧ dsN T n y g 10 b ≤ 9 := by
  obtain ⟨j, h1, h2⟩ := h.2.2.1 w hw
  have hj := la_in h 9 j h2
  obtain ⟨b, b1, b2, b3, b4, b5, b6⟩ := nx_ok (u := y) (show 9 ≤ 10 by decide) (all_bit h.1 hj).1 h1 hj h2
  exact ⟨b, b1, b2, b3, b5, b6⟩
theorem sty_dn (h : STY T n y g) {w k : Nat} (hk : k + 1 ≤ 10) (hd : dsN T n y g 10 w = k + 1) : dsN T n y g 10 (nxN T n y (dsN T n y g 10) w) = k := by
  obtain ⟨b, b1, b2, b3, b4, b5, b6⟩ := nx_dn (u := y) h.2.1 (fun j m _ hm => la_in h m j hm) hk hd
  rw [b2, b6]
theorem sty_it (h : STY T n y g) : ∀ k w, y.testBit w = true → y.testBit (itN (nxN T n y (dsN T n y g 10)) k w) = true := by
  intro k
  induction k with
  | zero => intro w hw; exact hw
  | succ k ih =>
    intro w hw
    obtain ⟨b, b1, b2, b3, b4, b5⟩ := sty_nx h hw
    rw [itN, b2]
    exact ih b b4
theorem sty_len (h : STY T n y g) : ∀ m w met, y.testBit w = true → (rdL (nxN T n y (dsN T n y g 10)) (dsN T n y g 10) m w met).length ≤ 10 * m := by
  intro m
  induction m with
  | zero => intro w met _; exact Nat.zero_le _
  | succ m ih =>
    intro w met hw
    obtain ⟨b, b1, b2, b3, b4, b5⟩ := sty_nx h hw
    rw [rdL, List.length_append, wy_len]
    split
    · rw [List.length_nil, b2]; omega
    · have h2 := ih (itN (nxN T n y (dsN T n y g 10)) (dsN T n y g 10 (nxN T n y (dsN T n y g 10) w) + 1) w) (met ||| 2 ^ itN (nxN T n y (dsN T n y g 10)) (dsN T n y g 10 (nxN T n y (dsN T n y g 10) w) + 1) w) (sty_it h _ w hw)
      rw [b2] at h2 ⊢
      omega
/-- a step that comes to a goal, and one that does not -/
theorem rd_goal {w b m met : Nat} {nx d : Nat → Nat} (h : nx w = b) (h0 : d b = 0) : rdL nx d (m + 1) w met = [b] ++ if (met >>> b) &&& 1 = 1 then [] else rdL nx d m b (met ||| 2 ^ b) := by
  rw [rdL, h, h0]
  show wyN nx 1 w ++ _ = _
  rw [show wyN nx 1 w = [nx w] from rfl, show itN nx (0 + 1) w = nx w from rfl, h]
theorem rd_more {w b m met k : Nat} {nx d : Nat → Nat} (h : nx w = b) (h0 : d b = k + 1) (h1 : d (nx b) = k) : rdL nx d (m + 1) w met = b :: rdL nx d (m + 1) b met := by
  rw [rdL, h, h0, rdL, h1]
  rw [show wyN nx (k + 1 + 1) w = nx w :: wyN nx (k + 1) (nx w) from rfl, show itN nx (k + 1 + 1) w = itN nx (k + 1) (nx w) from rfl, h, List.cons_append]
end
def staysL (T : Nat → Nat) (n y g w : Nat) : List Nat := w :: rdL (nxN T n y (dsN T n y g 10)) (dsN T n y g 10) 11 w 0
/-- the lowest world of a set, from i on -/
def loN (s : Nat) : Nat → Nat → Nat
  | i, 0 => i
  | i, f + 1 => if (s >>> i) &&& 1 = 1 then i else loN s (i + 1) f
theorem lo_t {s i f : Nat} (h : (s >>> i) &&& 1 = 1) : loN s i (f + 1) = i := by rw [loN, if_pos h]
theorem lo_f {s i f : Nat} (h : ¬ (s >>> i) &&& 1 = 1) : loN s i (f + 1) = loN s (i + 1) f := by rw [loN, if_neg h]
theorem b01 (s i : Nat) : (s >>> i) &&& 1 = 0 ∨ (s >>> i) &&& 1 = 1 := by
  rw [Nat.and_one_is_mod]; exact Nat.mod_two_eq_zero_or_one _
theorem rd_fin {T : Nat → Nat} {n y g w b m met : Nat} (hn : n ≤ 10) (hb : b < n) (hc : n ≤ m + ctN met n) (hbit : (met >>> b) &&& 1 = 0) (hm : met < 2 ^ n) : 1 ≤ m ∧ n ≤ (m - 1) + ctN (met ||| 2 ^ b) n ∧ met ||| 2 ^ b < 2 ^ n := by
  have h1 : met ||| 2 ^ b < 2 ^ n := or_lt hm (Nat.pow_lt_pow_right (by decide) hb)
  have hne : met ≠ met ||| 2 ^ b := by
    intro e
    have h2 : (met ||| 2 ^ b).testBit b = true := by rw [Nat.testBit_or, Nat.testBit_two_pow_self, Bool.or_true]
    rw [← e] at h2
    have h3 := (tb_1 met b).mpr h2
    omega
  have h4 := ct_lt (sb_or_l met (2 ^ b)) hne h1
  have h5 := ct_le (met ||| 2 ^ b) n
  exact ⟨by omega, by omega, h1⟩

