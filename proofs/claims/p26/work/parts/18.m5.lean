/-- the buffer read from k on with fuel signs left, from the state q: the first wrong place (or t), and the state at the end -/
def rdN (b : Nat → Nat) (t : Nat) : Nat → Nat → Nat × Bool → Nat × (Nat × Bool)
  | 0, _, q => (t, q)
  | u + 1, k, q => match stp q (b k) with
    | none => (k, q)
    | some p => if 40 < k + 1 + p.1 + (if p.2 then 1 else 0) then (k, q) else rdN b t u (k + 1) p
def rdR (b : Nat → Nat) (t : Nat) : Nat × (Nat × Bool) := rdN b t t 0 (1, false)
/-- the buffer's row holds t characters b -/
def BB (bf : Nat → Int32) (t : Nat) (b : Nat → Nat) : Prop := t ≤ 60 ∧ ∀ k, k < t → bf k = nI (b k) ∧ b k < 128
theorem stp_t (o c : Nat) : (stp (o, true) c).isSome = wayB c := by
  rw [stp, if_pos rfl, wayB]
  by_cases h1 : c = 85
  · rw [if_pos h1]; simp [h1]
  · rw [if_neg h1]
    by_cases h2 : c = 88 ∨ c = 70 ∨ c = 71
    · rw [if_pos h2]; simp; omega
    · rw [if_neg h2]; simp; omega
theorem stp_tv {o c : Nat} {q : Nat × Bool} (h : stp (o, true) c = some q) : q = (if c = 85 then o + 1 else o, false) := by
  rw [stp, if_pos rfl] at h
  split at h
  · rename_i h1; rw [if_pos h1]; exact (Option.some.inj h).symm
  · rename_i h1
    rw [if_neg h1]
    split at h
    · exact (Option.some.inj h).symm
    · cases h
def oneB (c : Nat) : Bool := decide ((97 ≤ c ∧ c ≤ 100) ∨ c = 116)
def twoB (c : Nat) : Bool := decide (c = 38 ∨ c = 124)
def eaB (c : Nat) : Bool := decide (c = 69 ∨ c = 65)
def isB (o c : Nat) : Bool := decide (0 < o ∧ (oneB c = true ∨ twoB c = true ∨ eaB c = true ∨ c = 33))
theorem stp_f (o c : Nat) : stp (o, false) c = if isB o c = true then some (if oneB c = true then o - 1 else if twoB c = true then o + 1 else o, eaB c) else none := by
  rw [stp, if_neg (by intro e; cases e)]
  simp only [isB, oneB, twoB, eaB, decide_eq_true_eq]
  by_cases h0 : o = 0
  · rw [if_pos h0, if_neg (by omega)]
  · rw [if_neg h0]
    by_cases h1 : (97 ≤ c ∧ c ≤ 100) ∨ c = 116
    · rw [if_pos h1, if_pos (by omega), if_pos h1]; congr 2; symm; apply decide_eq_false; omega
    · rw [if_neg h1]
      by_cases h2 : c = 33
      · rw [if_pos h2, if_pos (by omega), if_neg h1, if_neg (by omega)]; congr 2; symm; apply decide_eq_false; omega
      · rw [if_neg h2]
        by_cases h3 : c = 38 ∨ c = 124
        · rw [if_pos h3, if_pos (by omega), if_neg h1, if_pos h3]; congr 2; symm; apply decide_eq_false; omega
        · rw [if_neg h3]
          by_cases h4 : c = 69 ∨ c = 65
          · rw [if_pos h4, if_pos (by omega), if_neg h1, if_neg h3]; congr 2; symm; exact decide_eq_true h4
          · rw [if_neg h4, if_neg (by omega)]
theorem stp_fv {o c : Nat} {q : Nat × Bool} (h : stp (o, false) c = some q) : isB o c = true ∧ q.1 = (if oneB c = true then o - 1 else if twoB c = true then o + 1 else o) ∧ q.2 = eaB c := by
  rw [stp_f] at h
  by_cases h1 : isB o c = true
  · rw [if_pos h1] at h
    have h2 := Option.some.inj h
    rw [← h2]
    exact ⟨h1, rfl, rfl⟩
  · rw [if_neg h1] at h
    cases h
theorem stp_fs (o c : Nat) : (stp (o, false) c).isSome = isB o c := by
  rw [stp_f]; cases isB o c <;> rfl
