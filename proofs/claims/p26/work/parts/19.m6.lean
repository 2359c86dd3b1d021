theorem rd_le (b : Nat → Nat) (t : Nat) : ∀ u k q, k + u = t → (rdN b t u k q).1 ≤ t := by
  intro u
  induction u with
  | zero => intro k q _; exact Nat.le_refl _
  | succ u ih =>
    intro k q h
    rw [rdN]
    split
    · show k ≤ t; omega
    · rename_i p hp
      by_cases hc : 40 < k + 1 + p.1 + (if p.2 then 1 else 0)
      · rw [if_pos hc]; show k ≤ t; omega
      · rw [if_neg hc]; exact ih _ _ (by omega)
theorem rdR_le (b : Nat → Nat) (t : Nat) : (rdR b t).1 ≤ t := rd_le b t t 0 _ (Nat.zero_add t)
/-- what is open stays small -/
theorem stp_le {q p : Nat × Bool} {c : Nat} (h : stp q c = some p) : p.1 ≤ q.1 + 1 := by
  obtain ⟨o, y⟩ := q
  cases y with
  | true => rw [stp_tv h]; show (if c = 85 then o + 1 else o) ≤ o + 1; split <;> omega
  | false =>
    obtain ⟨_, h2, _⟩ := stp_fv h
    rw [h2]
    show _ ≤ o + 1
    split
    · omega
    · split <;> omega
def whoB (b : Nat → Nat) (t : Nat) : Bool := decide ((rdR b t).1 = t ∧ (rdR b t).2.1 = 0)
theorem rdR_b (b : Nat → Nat) (t : Nat) : (rdR b t).2.1 ≤ t + 1 := by
  have h : ∀ u k q, k + u = t → q.1 ≤ k + 1 → (rdN b t u k q).2.1 ≤ t + 1 := by
    intro u
    induction u with
    | zero => intro k q h1 h2; show q.1 ≤ _; omega
    | succ u ih =>
      intro k q h1 h2
      rw [rdN]
      split
      · show q.1 ≤ _; omega
      · rename_i p hp
        by_cases hc : 40 < k + 1 + p.1 + (if p.2 then 1 else 0)
        · rw [if_pos hc]; show q.1 ≤ _; omega
        · rw [if_neg hc]; exact ih _ _ (by omega) (by have := stp_le hp; omega)
  exact h t 0 _ (Nat.zero_add t) (Nat.le_refl _)
