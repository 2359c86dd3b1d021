def cdB (t : Nat) (c : Int32) : Nat := if inB c 33 126 = true then (if t = 60 then 2 else 0) else 1
theorem inB_c {c : Int32} (h : inB c 33 126 = true) : ∃ j : Nat, c = nI j ∧ nn c = j ∧ 33 ≤ j ∧ j ≤ 126 := by
  have h1 := of_decide_eq_true h
  obtain ⟨j, rfl, h2, h3⟩ := inB_nat (i := c) (m := 126) (decide_eq_true ⟨by omega, h1.2⟩)
  rw [nI_toInt h3] at h1
  exact ⟨j, rfl, nn_nI h3, by omega, by omega⟩
def cdD (b : Nat → Nat) (t : Nat) (w : Int32) : Nat := if inB w 0 3 = true then (if whoB b t = true then 0 else 2) else 1
def cdN (ln : Nat → Nat) (sg : Nat → Nat → Nat) (w : Int32) : Nat := if inB w 0 3 = true then (if ln (nn w) = 0 ∨ (ln (nn w) = 40 ∧ ¬ sg (nn w) 0 = 33) then 2 else 0) else 1
theorem cdN_2 (ln : Nat → Nat) (sg : Nat → Nat → Nat) (w : Int32) : cdN ln sg w ≤ 2 := by
  rw [cdN]
  split
  · split <;> omega
  · omega
def negM (ln : Nat → Nat) (sg : Nat → Nat → Nat) (w : Nat) : Nat := if sg w 0 = 33 then ln w - 1 else ln w + 1
def negS (sg : Nat → Nat → Nat) (w : Nat) : Nat → Nat := if sg w 0 = 33 then fun k => sg w (k + 1) else notS (sg w)
theorem cdN_0 {ln : Nat → Nat} {sg : Nat → Nat → Nat} {w : Int32} (h : cdN ln sg w = 0) : ∃ j : Nat, w = nI j ∧ nn w = j ∧ j < 4 ∧ 0 < ln j ∧ (ln j = 40 → sg j 0 = 33) := by
  rw [cdN] at h
  split at h
  · rename_i h1
    obtain ⟨j, rfl, h2, h3⟩ := inB_nat h1
    rw [nn_nI h3] at h ⊢
    split at h
    · cases h
    · exact ⟨j, rfl, rfl, by omega, by omega, by omega⟩
  · cases h
def cdV (w : Int32) : Nat := if inB w 0 3 = true then 0 else 1
def cdU (k : Nat) : Nat := if k = 0 then 1 else 0
