def inL (i : Int32) : Bool := inB i (-1) 3
/-- a letter or none, as a number -/
def lf (i : Int32) : Nat := if i = -1 then 4 else nn i
theorem inL_nat {i : Int32} (h : inL i = true) : ∃ u : Nat, i = fI u ∧ u ≤ 4 ∧ lf i = u := by
  have h1 := of_decide_eq_true h
  by_cases e : i = -1
  · exact ⟨4, e, Nat.le_refl _, if_pos e⟩
  · have h2 : inB i 0 3 = true := by
      refine decide_eq_true ⟨?_, h1.2⟩
      have h3 : i.toInt ≠ -1 := fun a => e (Int32.toInt_inj.mp (by rw [a]; rfl))
      omega
    obtain ⟨j, rfl, hj, hj2⟩ := inB_nat h2
    exact ⟨j, (fI_n (by omega)).symm, by omega, by rw [lf, if_neg e, nn_nI hj2]⟩
def cdL (w i : Int32) : Nat := if inB w 0 3 = true then (if inL i = true then 0 else 2) else 1
def cdF (n : Nat) (w u what : Int32) : Nat := if inB w 0 3 = true ∧ inB u 0 (n - 1) = true then (if inB what 0 3 = true then 0 else 2) else 1
