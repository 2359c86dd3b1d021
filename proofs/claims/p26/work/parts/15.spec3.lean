-- wishes: signs s 0 .. s (m - 1); a part's length, depth, worlds and rounds
def leW (m : Nat) (s : Nat → Nat) (j : Nat) : Nat :=
  if j < m then
    if s j = 69 ∨ s j = 65 then 2 + leW m s (j + 2) + if s (j + 1) = 85 then leW m s (j + 2 + leW m s (j + 2)) else 0
    else if s j = 38 ∨ s j = 124 then 1 + leW m s (j + 1) + leW m s (j + 1 + leW m s (j + 1))
    else if s j = 33 then 1 + leW m s (j + 1)
    else 1
  else 0
termination_by m - j
decreasing_by all_goals omega
def deW (m : Nat) (s : Nat → Nat) (j : Nat) : Nat :=
  if j < m then
    if s j = 69 ∨ s j = 65 then 1 + if s (j + 1) = 85 ∧ deW m s (j + 2) < deW m s (j + 2 + leW m s (j + 2)) then deW m s (j + 2 + leW m s (j + 2)) else deW m s (j + 2)
    else if s j = 38 ∨ s j = 124 then 1 + if deW m s (j + 1) < deW m s (j + 1 + leW m s (j + 1)) then deW m s (j + 1 + leW m s (j + 1)) else deW m s (j + 1)
    else if s j = 33 then 1 + deW m s (j + 1)
    else 1
  else 0
termination_by m - j
decreasing_by all_goals omega
def someS (T : Nat → Nat) (n f : Nat) (L : Nat → Nat) (c a b : Nat) : Nat :=
  if c = 88 then inN T (lvN T n f L &&& a) n else if c = 70 then unN T n (2 ^ n - 1) (lvN T n f L &&& a) else if c = 71 then stN T n f L a else unN T n a (lvN T n f L &&& b)
def someR (T : Nat → Nat) (n f : Nat) (L : Nat → Nat) (c a b : Nat) : Nat :=
  if c = 88 then 0 else if c = 70 then urN T n (2 ^ n - 1) (lvN T n f L &&& a) else if c = 71 then srN T n f L a else urN T n a (lvN T n f L &&& b)
def evryS (T : Nat → Nat) (n f : Nat) (L : Nat → Nat) (c a b : Nat) : Nat :=
  ndN (2 ^ n - 1) (if c = 88 then inN T (ndN (lvN T n f L) a) n else if c = 70 then stN T n f L (ndN (2 ^ n - 1) a) else if c = 71 then unN T n (2 ^ n - 1) (lvN T n f L &&& ndN (2 ^ n - 1) a) else unN T n (ndN (2 ^ n - 1) b) (lvN T n f L &&& ndN (ndN (2 ^ n - 1) b) a) ||| stN T n f L (ndN (2 ^ n - 1) b))
def evryR (T : Nat → Nat) (n f : Nat) (L : Nat → Nat) (c a b : Nat) : Nat :=
  if c = 88 then 0 else if c = 70 then srN T n f L (ndN (2 ^ n - 1) a) else if c = 71 then urN T n (2 ^ n - 1) (lvN T n f L &&& ndN (2 ^ n - 1) a) else urN T n (ndN (2 ^ n - 1) b) (lvN T n f L &&& ndN (ndN (2 ^ n - 1) b) a) + srN T n f L (ndN (2 ^ n - 1) b)
def seW (T : Nat → Nat) (n f : Nat) (L : Nat → Nat) (m : Nat) (s : Nat → Nat) (j : Nat) : Nat :=
  if j < m then
    if s j = 69 then someS T n f L (s (j + 1)) (seW T n f L m s (j + 2)) (if s (j + 1) = 85 then seW T n f L m s (j + 2 + leW m s (j + 2)) else 0)
    else if s j = 65 then evryS T n f L (s (j + 1)) (seW T n f L m s (j + 2)) (if s (j + 1) = 85 then seW T n f L m s (j + 2 + leW m s (j + 2)) else 0)
    else if s j = 38 then seW T n f L m s (j + 1) &&& seW T n f L m s (j + 1 + leW m s (j + 1))
    else if s j = 124 then seW T n f L m s (j + 1) ||| seW T n f L m s (j + 1 + leW m s (j + 1))
    else if s j = 33 then ndN (2 ^ n - 1) (seW T n f L m s (j + 1))
    else if s j = 116 then 2 ^ n - 1
    else wlN L (s j - 97) n
  else 0
termination_by m - j
decreasing_by all_goals omega
def roW (T : Nat → Nat) (n f : Nat) (L : Nat → Nat) (m : Nat) (s : Nat → Nat) (j : Nat) : Nat :=
  if s j = 69 then someR T n f L (s (j + 1)) (seW T n f L m s (j + 2)) (if s (j + 1) = 85 then seW T n f L m s (j + 2 + leW m s (j + 2)) else 0)
  else if s j = 65 then evryR T n f L (s (j + 1)) (seW T n f L m s (j + 2)) (if s (j + 1) = 85 then seW T n f L m s (j + 2 + leW m s (j + 2)) else 0)
  else 0
theorem nd_sub (a b : Nat) : sbN (ndN a b) a := sb_of (fun i hi => by rw [ndN_bit, Bool.and_eq_true] at hi; exact hi.1)
theorem nd_lt {a b k : Nat} (h : a < 2 ^ k) : ndN a b < 2 ^ k := sb_lt (nd_sub a b) h
theorem someS_lt (T : Nat → Nat) (n f : Nat) (L : Nat → Nat) (c : Nat) {a b : Nat} (ha : a < 2 ^ n) : someS T n f L c a b < 2 ^ n := by
  rw [someS]
  split
  · exact inN_lt _ _ _
  · split
    · exact un_lt _ _ _ _ _ (and_lt (lvN_lt T n f L))
    · split
      · exact st_lt _ _ _ _ ha
      · exact un_lt _ _ _ _ _ (and_lt (lvN_lt T n f L))
theorem seW_lt (T : Nat → Nat) (n f : Nat) (L : Nat → Nat) (m : Nat) (s : Nat → Nat) : ∀ k j, m - j < k → seW T n f L m s j < 2 ^ n := by
  intro k
  induction k with
  | zero => intro j h; omega
  | succ k ih =>
    intro j hj
    rw [seW]
    split
    · have h1 := ih (j + 1) (by omega)
      have h2 := ih (j + 2) (by omega)
      split
      · exact someS_lt _ _ _ _ _ h2
      · split
        · exact nd_lt (al_lt n)
        · split
          · exact and_lt h1
          · split
            · exact or_lt h1 (ih _ (by omega))
            · split
              · exact nd_lt (al_lt n)
              · split
                · exact al_lt n
                · exact wlN_lt _ _ _
    · exact Nat.two_pow_pos n
theorem seW_l (T : Nat → Nat) (n f : Nat) (L : Nat → Nat) (m : Nat) (s : Nat → Nat) (j : Nat) : seW T n f L m s j < 2 ^ n := seW_lt T n f L m s _ j (Nat.lt_succ_self _)
theorem deW_le (m : Nat) (s : Nat → Nat) : ∀ k j, m - j < k → deW m s j ≤ m - j := by
  intro k
  induction k with
  | zero => intro j h; omega
  | succ k ih =>
    intro j hj
    rw [deW]
    split
    · have h1 := ih (j + 1) (by omega)
      have h2 := ih (j + 2) (by omega)
      have h3 := ih (j + 1 + leW m s (j + 1)) (by omega)
      have h4 := ih (j + 2 + leW m s (j + 2)) (by omega)
      split
      · split <;> omega
      · split
        · split <;> omega
        · split <;> omega
    · omega
theorem deW_l (m : Nat) (s : Nat → Nat) (j : Nat) : deW m s j ≤ m - j := deW_le m s _ j (Nat.lt_succ_self _)
theorem evryR_le (T : Nat → Nat) (n f : Nat) (L : Nat → Nat) (c a b : Nat) : evryR T n f L c a b ≤ 22 := by
  have h1 := fun w => fr_le (rN T n f L) 11 w
  have h2 := fun y w => fr_le (uN T n y) 11 w
  rw [evryR]
  split
  · omega
  · split
    · exact Nat.le_trans (h1 _) (by decide)
    · split
      · exact Nat.le_trans (h2 _ _) (by decide)
      · exact Nat.add_le_add (h2 _ _) (h1 _)
theorem someR_le (T : Nat → Nat) (n f : Nat) (L : Nat → Nat) (c a b : Nat) : someR T n f L c a b ≤ 22 := by
  have h1 := fun w => fr_le (rN T n f L) 11 w
  have h2 := fun y w => fr_le (uN T n y) 11 w
  rw [someR]
  split
  · omega
  · split
    · exact Nat.le_trans (h2 _ _) (by decide)
    · split
      · exact Nat.le_trans (h1 _) (by decide)
      · exact Nat.le_trans (h2 _ _) (by decide)
theorem roW_le (T : Nat → Nat) (n f : Nat) (L : Nat → Nat) (m : Nat) (s : Nat → Nat) (j : Nat) : roW T n f L m s j ≤ 22 := by
  rw [roW]
  split
  · exact someR_le _ _ _ _ _ _ _
  · split
    · exact evryR_le _ _ _ _ _ _ _
    · omega
/-- reading a sign: how many wishes are open, and whether a sign of ways is due -/
def stp (q : Nat × Bool) (c : Nat) : Option (Nat × Bool) :=
  if q.2 = true then (if c = 85 then some (q.1 + 1, false) else if c = 88 ∨ c = 70 ∨ c = 71 then some (q.1, false) else none)
  else if q.1 = 0 then none
  else if (97 ≤ c ∧ c ≤ 100) ∨ c = 116 then some (q.1 - 1, false)
  else if c = 33 then some (q.1, false)
  else if c = 38 ∨ c = 124 then some (q.1 + 1, false)
  else if c = 69 ∨ c = 65 then some (q.1, true)
  else none
/-- a whole wish: sc j is what has been read ahead of sign j -/
def WF (m : Nat) (s : Nat → Nat) (sc : Nat → Nat × Bool) : Prop := sc 0 = (1, false) ∧ sc m = (0, false) ∧ ∀ j, j < m → stp (sc j) (s j) = some (sc (j + 1))
section
variable {m : Nat} {s : Nat → Nat} {sc : Nat → Nat × Bool}
theorem wf_way (h : WF m s sc) {j : Nat} (hj : j < m) (hw : (sc j).2 = true) : (s j = 88 ∨ s j = 70 ∨ s j = 71 ∨ s j = 85) ∧ (sc (j + 1)).2 = false ∧ (sc (j + 1)).1 = if s j = 85 then (sc j).1 + 1 else (sc j).1 := by
  have h1 := h.2.2 j hj
  rw [stp, if_pos hw] at h1
  split at h1
  · rename_i h2
    have h4 := Option.some.inj h1
    rw [← h4]
    exact ⟨by omega, rfl, by rw [if_pos h2]⟩
  · split at h1
    · rename_i h2 h3
      have h4 := Option.some.inj h1
      rw [← h4]
      exact ⟨by omega, rfl, by rw [if_neg h2]⟩
    · cases h1
theorem wf_one (h : WF m s sc) {j : Nat} (hj : j < m) (hw : (sc j).2 = false) : 0 < (sc j).1 ∧ (((97 ≤ s j ∧ s j ≤ 100) ∨ s j = 116) ∧ sc (j + 1) = ((sc j).1 - 1, false) ∨ s j = 33 ∧ sc (j + 1) = ((sc j).1, false) ∨ (s j = 38 ∨ s j = 124) ∧ sc (j + 1) = ((sc j).1 + 1, false) ∨ (s j = 69 ∨ s j = 65) ∧ sc (j + 1) = ((sc j).1, true)) := by
  have h1 := h.2.2 j hj
  rw [stp, if_neg (by rw [hw]; decide)] at h1
  split at h1
  · cases h1
  · rename_i h0
    refine ⟨by omega, ?_⟩
    split at h1
    · exact Or.inl ⟨by assumption, (Option.some.inj h1).symm⟩
    · split at h1
      · exact Or.inr (Or.inl ⟨by assumption, (Option.some.inj h1).symm⟩)
      · split at h1
        · exact Or.inr (Or.inr (Or.inl ⟨by assumption, (Option.some.inj h1).symm⟩))
        · split at h1
          · exact Or.inr (Or.inr (Or.inr ⟨by assumption, (Option.some.inj h1).symm⟩))
          · cases h1
theorem wf_in (h : WF m s sc) {j : Nat} (hj : j ≤ m) (ho : 0 < (sc j).1 ∨ (sc j).2 = true) : j < m := by
  rcases Nat.lt_or_ge j m with h1 | h1
  · exact h1
  · rw [show j = m by omega, h.2.1] at ho
    rcases ho with ho | ho
    · exact absurd ho (by decide)
    · cases ho
theorem wf_part (h : WF m s sc) : ∀ k j, m - j < k → j ≤ m → (sc j).2 = false → 0 < (sc j).1 → j < m ∧ j + leW m s j ≤ m ∧ sc (j + leW m s j) = ((sc j).1 - 1, false) := by
  intro k
  induction k with
  | zero => intro j h1; omega
  | succ k ih =>
    intro j hk hjm hf ho
    have hj := wf_in h hjm (Or.inl ho)
    refine ⟨hj, ?_⟩
    rw [leW, if_pos hj]
    rcases (wf_one h hj hf).2 with ⟨hc, hn⟩ | ⟨hc, hn⟩ | ⟨hc, hn⟩ | ⟨hc, hn⟩
    · rw [if_neg (by omega), if_neg (by omega), if_neg (by omega)]
      exact ⟨by omega, hn⟩
    · rw [if_neg (by omega), if_neg (by omega), if_pos hc]
      obtain ⟨a1, a2, a3⟩ := ih (j + 1) (by omega) (by omega) (by rw [hn]) (by rw [hn]; exact ho)
      rw [hn] at a3
      rw [show j + (1 + leW m s (j + 1)) = j + 1 + leW m s (j + 1) by omega]
      exact ⟨a2, a3⟩
    · rw [if_neg (by omega), if_pos hc]
      obtain ⟨a1, a2, a3⟩ := ih (j + 1) (by omega) (by omega) (by rw [hn]) (by rw [hn]; exact Nat.succ_pos _)
      rw [hn] at a3
      obtain ⟨b1, b2, b3⟩ := ih (j + 1 + leW m s (j + 1)) (by omega) a2 (by rw [a3]) (by rw [a3]; exact ho)
      rw [a3] at b3
      rw [show j + (1 + leW m s (j + 1) + leW m s (j + 1 + leW m s (j + 1))) = j + 1 + leW m s (j + 1) + leW m s (j + 1 + leW m s (j + 1)) by omega]
      exact ⟨b2, b3⟩
    · rw [if_pos hc]
      have h1 := wf_in h (show j + 1 ≤ m by omega) (Or.inr (by rw [hn]))
      obtain ⟨c1, c2, c3⟩ := wf_way h h1 (by rw [hn])
      rw [hn] at c3
      have c4 : 0 < (sc (j + 2)).1 := by
        show 0 < (sc (j + 1 + 1)).1
        rw [c3]; split <;> (dsimp only; omega)
      obtain ⟨a1, a2, a3⟩ := ih (j + 2) (by omega) (by omega) c2 c4
      by_cases hu : s (j + 1) = 85
      · rw [if_pos hu] at c3 ⊢
        have a4 : sc (j + 2 + leW m s (j + 2)) = ((sc j).1, false) := by
          rw [a3]; show ((sc (j + 1 + 1)).1 - 1, false) = _; rw [c3]; rfl
        obtain ⟨b1, b2, b3⟩ := ih (j + 2 + leW m s (j + 2)) (by omega) a2 (by rw [a4]) (by rw [a4]; exact ho)
        rw [a4] at b3
        rw [show j + (2 + leW m s (j + 2) + leW m s (j + 2 + leW m s (j + 2))) = j + 2 + leW m s (j + 2) + leW m s (j + 2 + leW m s (j + 2)) by omega]
        exact ⟨b2, b3⟩
      · rw [if_neg hu] at c3 ⊢
        rw [show j + (2 + leW m s (j + 2) + 0) = j + 2 + leW m s (j + 2) by omega]
        refine ⟨a2, ?_⟩
        rw [a3]; show ((sc (j + 1 + 1)).1 - 1, false) = _; rw [c3]
theorem wf_pt (h : WF m s sc) {j : Nat} (hj : j < m) (hw : (sc j).2 = false) : j + leW m s j ≤ m ∧ sc (j + leW m s j) = ((sc j).1 - 1, false) := (wf_part h _ j (Nat.lt_succ_self _) (by omega) hw (wf_one h hj hw).1).2
/-- "!" -/
theorem wf_not (h : WF m s sc) {j : Nat} (hj : j < m) (hw : (sc j).2 = false) (hc : s j = 33) : j + 1 < m ∧ (sc (j + 1)).2 = false := by
  obtain ⟨h1, h2⟩ := wf_one h hj hw
  rcases h2 with ⟨a, b⟩ | ⟨a, b⟩ | ⟨a, b⟩ | ⟨a, b⟩
  · omega
  · exact ⟨wf_in h (by omega) (Or.inl (by rw [b]; exact h1)), by rw [b]⟩
  · omega
  · omega
/-- "&", "|" -/
theorem wf_two (h : WF m s sc) {j : Nat} (hj : j < m) (hw : (sc j).2 = false) (hc : s j = 38 ∨ s j = 124) : j + 1 < m ∧ (sc (j + 1)).2 = false ∧ j + 1 + leW m s (j + 1) < m ∧ (sc (j + 1 + leW m s (j + 1))).2 = false := by
  obtain ⟨h1, h2⟩ := wf_one h hj hw
  rcases h2 with ⟨a, b⟩ | ⟨a, b⟩ | ⟨a, b⟩ | ⟨a, b⟩
  · omega
  · omega
  · have c1 := wf_in h (show j + 1 ≤ m by omega) (Or.inl (by rw [b]; exact Nat.succ_pos _))
    obtain ⟨d1, d2⟩ := wf_pt h c1 (by rw [b])
    rw [b] at d2
    exact ⟨c1, by rw [b], wf_in h d1 (Or.inl (by rw [d2]; exact h1)), by rw [d2]⟩
  · omega
/-- "E", "A" -/
theorem wf_ea (h : WF m s sc) {j : Nat} (hj : j < m) (hw : (sc j).2 = false) (hc : s j = 69 ∨ s j = 65) : (s (j + 1) = 88 ∨ s (j + 1) = 70 ∨ s (j + 1) = 71 ∨ s (j + 1) = 85) ∧ j + 2 < m ∧ (sc (j + 2)).2 = false ∧ (s (j + 1) = 85 → j + 2 + leW m s (j + 2) < m ∧ (sc (j + 2 + leW m s (j + 2))).2 = false) := by
  obtain ⟨h1, h2⟩ := wf_one h hj hw
  rcases h2 with ⟨a, b⟩ | ⟨a, b⟩ | ⟨a, b⟩ | ⟨a, b⟩
  · omega
  · omega
  · omega
  · have c0 := wf_in h (show j + 1 ≤ m by omega) (Or.inr (by rw [b]))
    obtain ⟨c1, c2, c3⟩ := wf_way h c0 (by rw [b])
    rw [b] at c3
    have c4 : 0 < (sc (j + 2)).1 := by
      show 0 < (sc (j + 1 + 1)).1
      rw [c3]; split <;> (dsimp only; omega)
    have c5 := wf_in h (show j + 2 ≤ m by omega) (Or.inl c4)
    refine ⟨c1, c5, c2, fun hu => ?_⟩
    obtain ⟨d1, d2⟩ := wf_pt h c5 c2
    have d3 : 0 < (sc (j + 2 + leW m s (j + 2))).1 := by
      rw [d2]; show 0 < (sc (j + 1 + 1)).1 - 1; rw [c3, if_pos hu]; exact h1
    exact ⟨wf_in h d1 (Or.inl d3), by rw [d2]⟩
/-- the sign of ways and no other -/
theorem wf_w (h : WF m s sc) {j : Nat} (hj : j < m) : wayB (s j) = (sc j).2 := by
  cases hw : (sc j).2 with
  | true => exact decide_eq_true (wf_way h hj hw).1
  | false =>
    apply decide_eq_false
    rcases (wf_one h hj hw).2 with ⟨a, b⟩ | ⟨a, b⟩ | ⟨a, b⟩ | ⟨a, b⟩ <;> omega
theorem wf_0 (h : WF m s sc) : 0 < m ∧ (sc 0).2 = false ∧ leW m s 0 ≤ m := by
  have h1 := wf_in h (Nat.zero_le m) (Or.inl (by rw [h.1]; decide))
  have h2 := wf_pt h h1 (by rw [h.1])
  exact ⟨h1, by rw [h.1], by have := h2.1; omega⟩
theorem wf_c (h : WF m s sc) {j : Nat} (hj : j < m) : s j < 128 := by
  cases hw : (sc j).2 with
  | true => have := (wf_way h hj hw).1; omega
  | false => rcases (wf_one h hj hw).2 with ⟨a, b⟩ | ⟨a, b⟩ | ⟨a, b⟩ | ⟨a, b⟩ <;> omega
end
theorem seW_E {T : Nat → Nat} {n f : Nat} {L : Nat → Nat} {m : Nat} {s : Nat → Nat} {j : Nat} (hj : j < m) (hc : s j = 69) : seW T n f L m s (j) = someS T n f L (s (j + 1)) (seW T n f L m s (j + 2)) (if s (j + 1) = 85 then seW T n f L m s (j + 2 + leW m s (j + 2)) else 0) := by
  conv => lhs; rw [seW, if_pos hj, if_pos hc]
theorem seW_A {T : Nat → Nat} {n f : Nat} {L : Nat → Nat} {m : Nat} {s : Nat → Nat} {j : Nat} (hj : j < m) (hc : s j = 65) : seW T n f L m s (j) = evryS T n f L (s (j + 1)) (seW T n f L m s (j + 2)) (if s (j + 1) = 85 then seW T n f L m s (j + 2 + leW m s (j + 2)) else 0) := by
  conv => lhs; rw [seW, if_pos hj, if_neg (by omega), if_pos hc]
theorem seW_and {T : Nat → Nat} {n f : Nat} {L : Nat → Nat} {m : Nat} {s : Nat → Nat} {j : Nat} (hj : j < m) (hc : s j = 38) : seW T n f L m s (j) = seW T n f L m s (j + 1) &&& seW T n f L m s (j + 1 + leW m s (j + 1)) := by
  conv => lhs; rw [seW, if_pos hj, if_neg (by omega), if_neg (by omega), if_pos hc]
theorem seW_or {T : Nat → Nat} {n f : Nat} {L : Nat → Nat} {m : Nat} {s : Nat → Nat} {j : Nat} (hj : j < m) (hc : s j = 124) : seW T n f L m s (j) = seW T n f L m s (j + 1) ||| seW T n f L m s (j + 1 + leW m s (j + 1)) := by
  conv => lhs; rw [seW, if_pos hj, if_neg (by omega), if_neg (by omega), if_neg (by omega), if_pos hc]
theorem seW_not {T : Nat → Nat} {n f : Nat} {L : Nat → Nat} {m : Nat} {s : Nat → Nat} {j : Nat} (hj : j < m) (hc : s j = 33) : seW T n f L m s (j) = ndN (2 ^ n - 1) (seW T n f L m s (j + 1)) := by
  conv => lhs; rw [seW, if_pos hj, if_neg (by omega), if_neg (by omega), if_neg (by omega), if_neg (by omega), if_pos hc]
theorem seW_t {T : Nat → Nat} {n f : Nat} {L : Nat → Nat} {m : Nat} {s : Nat → Nat} {j : Nat} (hj : j < m) (hc : s j = 116) : seW T n f L m s (j) = 2 ^ n - 1 := by
  conv => lhs; rw [seW, if_pos hj, if_neg (by omega), if_neg (by omega), if_neg (by omega), if_neg (by omega), if_neg (by omega), if_pos hc]
theorem seW_let {T : Nat → Nat} {n f : Nat} {L : Nat → Nat} {m : Nat} {s : Nat → Nat} {j : Nat} (hj : j < m) (hc : 97 ≤ s j ∧ s j ≤ 100) : seW T n f L m s (j) = wlN L (s j - 97) n := by
  conv => lhs; rw [seW, if_pos hj, if_neg (by omega), if_neg (by omega), if_neg (by omega), if_neg (by omega), if_neg (by omega), if_neg (by omega)]
theorem roW_E {T : Nat → Nat} {n f : Nat} {L : Nat → Nat} {m : Nat} {s : Nat → Nat} {j : Nat} (hc : s j = 69) : roW T n f L m s j = someR T n f L (s (j + 1)) (seW T n f L m s (j + 2)) (if s (j + 1) = 85 then seW T n f L m s (j + 2 + leW m s (j + 2)) else 0) := by
  conv => lhs; rw [roW, if_pos hc]
theorem roW_A {T : Nat → Nat} {n f : Nat} {L : Nat → Nat} {m : Nat} {s : Nat → Nat} {j : Nat} (hc : s j = 65) : roW T n f L m s j = evryR T n f L (s (j + 1)) (seW T n f L m s (j + 2)) (if s (j + 1) = 85 then seW T n f L m s (j + 2 + leW m s (j + 2)) else 0) := by
  conv => lhs; rw [roW, if_neg (by omega), if_pos hc]
theorem roW_0 {T : Nat → Nat} {n f : Nat} {L : Nat → Nat} {m : Nat} {s : Nat → Nat} {j : Nat} (hc : s j ≠ 69 ∧ s j ≠ 65) : roW T n f L m s j = 0 := by
  conv => lhs; rw [roW, if_neg hc.1, if_neg hc.2]
theorem leW_ea {m : Nat} {s : Nat → Nat} {j : Nat} (hj : j < m) (hc : s j = 69 ∨ s j = 65) : leW m s j = 2 + leW m s (j + 2) + if s (j + 1) = 85 then leW m s (j + 2 + leW m s (j + 2)) else 0 := by
  conv => lhs; rw [leW, if_pos hj, if_pos hc]
theorem leW_two {m : Nat} {s : Nat → Nat} {j : Nat} (hj : j < m) (hc : s j = 38 ∨ s j = 124) : leW m s j = 1 + leW m s (j + 1) + leW m s (j + 1 + leW m s (j + 1)) := by
  conv => lhs; rw [leW, if_pos hj, if_neg (by omega), if_pos hc]
theorem leW_not {m : Nat} {s : Nat → Nat} {j : Nat} (hj : j < m) (hc : s j = 33) : leW m s j = 1 + leW m s (j + 1) := by
  conv => lhs; rw [leW, if_pos hj, if_neg (by omega), if_neg (by omega), if_pos hc]
theorem leW_1 {m : Nat} {s : Nat → Nat} {j : Nat} (hj : j < m) (hc : (97 ≤ s j ∧ s j ≤ 100) ∨ s j = 116) : leW m s j = 1 := by
  conv => lhs; rw [leW, if_pos hj, if_neg (by omega), if_neg (by omega), if_neg (by omega)]
theorem deW_ea {m : Nat} {s : Nat → Nat} {j : Nat} (hj : j < m) (hc : s j = 69 ∨ s j = 65) : deW m s j = 1 + if s (j + 1) = 85 ∧ deW m s (j + 2) < deW m s (j + 2 + leW m s (j + 2)) then deW m s (j + 2 + leW m s (j + 2)) else deW m s (j + 2) := by
  conv => lhs; rw [deW, if_pos hj, if_pos hc]
theorem deW_two {m : Nat} {s : Nat → Nat} {j : Nat} (hj : j < m) (hc : s j = 38 ∨ s j = 124) : deW m s j = 1 + if deW m s (j + 1) < deW m s (j + 1 + leW m s (j + 1)) then deW m s (j + 1 + leW m s (j + 1)) else deW m s (j + 1) := by
  conv => lhs; rw [deW, if_pos hj, if_neg (by omega), if_pos hc]
theorem deW_not {m : Nat} {s : Nat → Nat} {j : Nat} (hj : j < m) (hc : s j = 33) : deW m s j = 1 + deW m s (j + 1) := by
  conv => lhs; rw [deW, if_pos hj, if_neg (by omega), if_neg (by omega), if_pos hc]
theorem deW_1 {m : Nat} {s : Nat → Nat} {j : Nat} (hj : j < m) (hc : (97 ≤ s j ∧ s j ≤ 100) ∨ s j = 116) : deW m s j = 1 := by
  conv => lhs; rw [deW, if_pos hj, if_neg (by omega), if_neg (by omega), if_neg (by omega)]
/-- the rows of sets, rounds, lengths and depths hold what the signs from i on are worth -/
def TB (T : Nat → Nat) (n f : Nat) (L : Nat → Nat) (m : Nat) (s : Nat → Nat) (i : Nat) (se ro le de : Nat → Int32) : Prop :=
  ∀ j, i ≤ j → j < m → (wayB (s j) = true → se j = -1 ∧ ro j = -1 ∧ le j = -1) ∧ (wayB (s j) = false → se j = nI (seW T n f L m s j) ∧ ro j = nI (roW T n f L m s j) ∧ le j = nI (leW m s j) ∧ de j = nI (deW m s j))
theorem TB.up {T : Nat → Nat} {n f : Nat} {L : Nat → Nat} {m : Nat} {s : Nat → Nat} {i : Nat} {se ro le de : Nat → Int32} (h : TB T n f L m s (i + 1) se ro le de) (hw : wayB (s i) = false) : TB T n f L m s i (upd se i (nI (seW T n f L m s i))) (upd ro i (nI (roW T n f L m s i))) (upd le i (nI (leW m s i))) (upd de i (nI (deW m s i))) := by
  intro j h1 h2
  by_cases hj : j = i
  · subst hj
    refine ⟨fun e => (by rw [hw] at e; cases e), fun _ => ⟨?_, ?_, ?_, ?_⟩⟩ <;> simp [upd]
  · have h3 := h j (by omega) h2
    simp only [upd, if_neg hj]
    exact h3
theorem TB.upw {T : Nat → Nat} {n f : Nat} {L : Nat → Nat} {m : Nat} {s : Nat → Nat} {i : Nat} {se ro le de : Nat → Int32} (h : TB T n f L m s (i + 1) se ro le de) (hw : wayB (s i) = true) : TB T n f L m s i (upd se i (-1)) (upd ro i (-1)) (upd le i (-1)) de := by
  intro j h1 h2
  by_cases hj : j = i
  · subst hj
    refine ⟨fun _ => ⟨?_, ?_, ?_⟩, fun e => (by rw [hw] at e; cases e)⟩ <;> simp [upd]
  · have h3 := h j (by omega) h2
    simp only [upd, if_neg hj]
    exact h3
theorem upd_upd (a : Nat → Int32) (i : Nat) (x y : Int32) : upd (upd a i x) i y = upd a i y := by
  funext j
  simp only [upd]
  split <;> rfl
theorem TB.nil {T : Nat → Nat} {n f : Nat} {L : Nat → Nat} {m : Nat} {s : Nat → Nat} {se ro le de : Nat → Int32} : TB T n f L m s m se ro le de := fun j h1 h2 => by omega

