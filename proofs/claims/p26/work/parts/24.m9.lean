theorem tgI_0 {T : Nat → Nat} {n f : Nat} {L : Nat → Nat} {ln : Nat → Nat} {sg : Nat → Nat → Nat} (w i : Nat) : tgI T n f L ln sg w i 0 = nI (sg w i) := if_pos rfl
def isS (ln : Nat → Nat) (w i : Int32) : Bool := inB w 0 3 && decide (0 ≤ i.toInt ∧ i.toInt < ln (nn w))
def cdG (ln : Nat → Nat) (w i what : Int32) : Nat := if isS ln w i = true then (if inB what 0 3 = true then 0 else 2) else 1
theorem pos_nat {i : Int32} (h : ¬ i < 0) : ∃ j : Nat, i = nI j ∧ j < 2 ^ 31 := by
  have h1 : 0 ≤ i.toInt := by simp only [Int32.lt_iff_toInt_lt, Int32.toInt_zero] at h; omega
  have h3 : (i.toNatClampNeg : Int) = i.toInt := by show ((i.toInt.toNat : Nat) : Int) = _; omega
  have h4 : i.toNatClampNeg < 2 ^ 31 := by have := Int32.toInt_lt i; omega
  exact ⟨i.toNatClampNeg, Int32.toInt_inj.mp (by rw [nI_toInt h4, h3]), h4⟩
theorem isS_t {ln : Nat → Nat} {w i : Nat} (hw : w < 4) (hi : i < ln w) (h31 : i < 2 ^ 31) : isS ln (nI w) (nI i) = true := by
  rw [isS, nn_nI (by omega), Bool.and_eq_true]
  refine ⟨decide_eq_true ?_, decide_eq_true ?_⟩
  · rw [nI_toInt (by omega)]; omega
  · rw [nI_toInt h31]; omega
theorem isS_f {ln : Nat → Nat} {w i : Nat} (hw : w < 4) (hi : ln w ≤ i) (h31 : i < 2 ^ 31) : isS ln (nI w) (nI i) = false := by
  rw [isS, nn_nI (by omega), Bool.and_eq_false_iff]
  exact Or.inr (decide_eq_false (by rw [nI_toInt h31]; omega))
theorem isS_n {ln : Nat → Nat} {w i : Int32} (hi : i < 0) : isS ln w i = false := by
  rw [isS, Bool.and_eq_false_iff]
  exact Or.inr (decide_eq_false (by simp only [Int32.lt_iff_toInt_lt, Int32.toInt_zero] at hi; omega))
theorem isS_w {ln : Nat → Nat} {w i : Int32} (h : inB w 0 3 = false) : isS ln w i = false := by rw [isS, h]; rfl
def cdC (what : Int32) : Nat := if inB what 0 8 = true then 0 else 1
def cd2 (w v : Int32) : Nat := if inB w 0 3 = true ∧ inB v 0 3 = true then 0 else 1
