def dI : Nat → Int32
  | 0 => -1
  | k + 1 => nI k
theorem dI_of (k : Nat) : nI k - nI 1 = dI k := by
  cases k with
  | zero => decide
  | succ k => exact nI_pred k
theorem dI_dec (k : Nat) : nI k + Int32.ofInt (-1) = dI k := by
  rw [← dI_of, Int32.sub_eq_add_neg]
  rfl
theorem TB.ro {T : Nat → Nat} {n f : Nat} {L : Nat → Nat} {m : Nat} {s : Nat → Nat} {i : Nat} {se ro le de : Nat → Int32} (h : TB T n f L m s (i + 1) se ro le de) (x : Int32) : TB T n f L m s (i + 1) se (upd ro i x) le de := by
  intro j h1 h2
  have h3 := h j h1 h2
  rw [show upd ro i x j = ro j from if_neg (by omega)]
  exact h3
