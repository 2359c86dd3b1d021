-- the way of a witness: layers around a goal, how far each world is, the next step
theorem tb_1 (s i : Nat) : (s >>> i) &&& 1 = 1 ↔ s.testBit i = true := by
  rw [Nat.testBit, Nat.and_comm 1, Nat.and_one_is_mod]
  have h := Nat.mod_two_eq_zero_or_one (s >>> i)
  rcases h with h | h <;> rw [h] <;> decide
theorem or_nd (a b : Nat) : a ||| ndN b a = a ||| b := by
  apply Nat.eq_of_testBit_eq
  intro i
  rw [Nat.testBit_or, Nat.testBit_or, ndN_bit]
  cases a.testBit i <;> cases b.testBit i <;> rfl
def laN (T : Nat → Nat) (n y g : Nat) : Nat → Nat
  | 0 => g
  | k + 1 => laN T n y g k ||| (y &&& inN T (laN T n y g k) n)
/-- how far, by at most k steps -/
def dsN (T : Nat → Nat) (n y g : Nat) : Nat → Nat → Nat
  | 0, i => if (g >>> i) &&& 1 = 1 then 0 else 99
  | k + 1, i => if (ndN (y &&& inN T (laN T n y g k) n) (laN T n y g k) >>> i) &&& 1 = 1 then k + 1 else dsN T n y g k i
section
variable {T : Nat → Nat} {n y g : Nat}
theorem la_s (k : Nat) : laN T n y g k ||| ndN (y &&& inN T (laN T n y g k) n) (laN T n y g k) = laN T n y g (k + 1) := or_nd _ _
theorem la_lt (hg : g < 2 ^ n) : ∀ k, laN T n y g k < 2 ^ n := by
  intro k
  induction k with
  | zero => exact hg
  | succ k ih => exact or_lt ih (sb_lt (sb_and_r _ _) (inN_lt T _ n))
theorem la_up {k i : Nat} (h : (laN T n y g k).testBit i = true) : (laN T n y g (k + 1)).testBit i = true := by
  rw [laN, Nat.testBit_or, h]; rfl
theorem la_mono {k j i : Nat} (hk : k ≤ j) (h : (laN T n y g k).testBit i = true) : (laN T n y g j).testBit i = true := by
  induction hk with
  | refl => exact h
  | step _ ih => exact la_up ih
theorem ds_out {i : Nat} : ∀ k, (laN T n y g k).testBit i = false → dsN T n y g k i = 99 := by
  intro k
  induction k with
  | zero => intro h; change g.testBit i = false at h; rw [dsN, if_neg (fun e => by rw [(tb_1 _ _).mp e] at h; cases h)]
  | succ k ih =>
    intro h
    rw [laN, Nat.testBit_or, Bool.or_eq_false_iff] at h
    rw [dsN, if_neg (fun e => by rw [tb_1, ndN_bit, h.2] at e; cases e)]
    exact ih h.1
theorem ds_in {i : Nat} : ∀ k, (laN T n y g k).testBit i = true → dsN T n y g k i ≤ k := by
  intro k
  induction k with
  | zero => intro h; change g.testBit i = true at h; rw [dsN, if_pos ((tb_1 _ _).mpr h)]; exact Nat.le_refl 0
  | succ k ih =>
    intro h
    rw [dsN]
    split
    · exact Nat.le_refl _
    · rename_i h2
      cases hk : (laN T n y g k).testBit i with
      | true => exact Nat.le_succ_of_le (ih hk)
      | false =>
        refine absurd ?_ h2
        rw [tb_1, ndN_bit, hk]
        rw [laN, Nat.testBit_or, hk, Bool.false_or] at h
        rw [h]; rfl
theorem ds_keep {i k : Nat} (h : (laN T n y g k).testBit i = true) : dsN T n y g (k + 1) i = dsN T n y g k i := by
  rw [dsN, if_neg]
  intro e
  rw [tb_1, ndN_bit, h] at e
  simp at e
theorem ds_at {i k j : Nat} (hk : k ≤ j) (h : (laN T n y g k).testBit i = true) : dsN T n y g j i = dsN T n y g k i := by
  induction hk with
  | refl => rfl
  | step hk ih => rw [ds_keep (la_mono hk h), ih]
theorem ds_le (i : Nat) (k : Nat) : dsN T n y g k i ≤ 99 ∨ 99 ≤ k := by
  cases h : (laN T n y g k).testBit i with
  | true => have := ds_in k h; omega
  | false => rw [ds_out k h]; omega
/-- a world is in the layer k just when it is at most k steps away -/
theorem ds_iff {i k : Nat} (hk : k ≤ 10) : dsN T n y g 10 i ≤ k ↔ (laN T n y g k).testBit i = true := by
  constructor
  · intro h
    cases hb : (laN T n y g k).testBit i with
    | true => rfl
    | false =>
      exfalso
      cases ht : (laN T n y g 10).testBit i with
      | false => rw [ds_out 10 ht] at h; omega
      | true =>
        -- the first layer that has i is behind k
        have key : ∀ m, k ≤ m → (laN T n y g m).testBit i = false ∨ k < dsN T n y g m i := by
          intro m hm
          induction hm with
          | refl => exact Or.inl hb
          | step hm ih =>
            rename_i m
            cases hs : (laN T n y g (m + 1)).testBit i with
            | false => exact Or.inl rfl
            | true =>
              refine Or.inr ?_
              rcases ih with h1 | h1
              · rw [dsN]
                split
                · have := Nat.lt_succ_of_le hm; omega
                · rw [ds_out m h1]; omega
              · cases hmm : (laN T n y g m).testBit i with
                | true => rw [ds_keep hmm]; exact h1
                | false =>
                  rw [dsN]
                  split
                  · have := Nat.lt_succ_of_le hm; omega
                  · exact h1
        rcases key 10 hk with h1 | h1
        · rw [ht] at h1; cases h1
        · omega
  · intro h
    rw [ds_at hk h]
    exact ds_in k h
end
/-- the best of the worlds ahead of i: next to s, within u, nearest by d, the lowest of several -/
def bsN (s u : Nat) (d : Nat → Nat) : Nat → Option Nat
  | 0 => none
  | i + 1 => if ((s >>> i) &&& 1 = 1 ∧ (u >>> i) &&& 1 = 1 ∧ d i < 99) ∧ (∀ b, bsN s u d i = some b → d i < d b) then some i else bsN s u d i
def bsI : Option Nat → Int32
  | none => -1
  | some i => nI i
section
variable {s u : Nat} {d : Nat → Nat}
theorem bs_lt : ∀ i b, bsN s u d i = some b → b < i := by
  intro i
  induction i with
  | zero => intro b h; cases h
  | succ i ih =>
    intro b h
    rw [bsN] at h
    split at h
    · cases h; exact Nat.lt_succ_self _
    · exact Nat.lt_succ_of_lt (ih b h)
theorem bs_can : ∀ i b, bsN s u d i = some b → (s >>> b) &&& 1 = 1 ∧ (u >>> b) &&& 1 = 1 ∧ d b < 99 := by
  intro i
  induction i with
  | zero => intro b h; cases h
  | succ i ih =>
    intro b h
    rw [bsN] at h
    split at h
    · rename_i h1; cases h; exact h1.1
    · exact ih b h
theorem bs_best : ∀ i j, j < i → (s >>> j) &&& 1 = 1 → (u >>> j) &&& 1 = 1 → d j < 99 → ∃ b, bsN s u d i = some b ∧ (d b < d j ∨ d b = d j ∧ b ≤ j) := by
  intro i
  induction i with
  | zero => intro j h; omega
  | succ i ih =>
    intro j hj h1 h2 h3
    rw [bsN]
    split
    · rename_i hc
      refine ⟨i, rfl, ?_⟩
      by_cases e : j = i
      · rw [e]; exact Or.inr ⟨rfl, Nat.le_refl _⟩
      · obtain ⟨b, hb, hb2⟩ := ih j (by omega) h1 h2 h3
        have := hc.2 b hb
        omega
    · rename_i hc
      by_cases e : j = i
      · subst e
        cases hb : bsN s u d j with
        | none => exact absurd ⟨⟨h1, h2, h3⟩, fun b h => by rw [hb] at h; cases h⟩ hc
        | some b =>
          refine ⟨b, rfl, ?_⟩
          have hl := bs_lt _ _ hb
          have : ¬ d j < d b := fun h => hc ⟨⟨h1, h2, h3⟩, fun c h4 => by rw [hb] at h4; cases h4; exact h⟩
          omega
      · exact ih j (by omega) h1 h2 h3
end
/-- a row holds a list -/
def RW (rw : Nat → Int32) (l : List Nat) : Prop := ∀ i x, l[i]? = some x → rw i = nI x
theorem RW.nil (rw : Nat → Int32) : RW rw [] := fun i x h => by simp at h
theorem RW.put {rw : Nat → Int32} {l : List Nat} (h : RW rw l) (x : Nat) : RW (upd rw l.length (nI x)) (l ++ [x]) := by
  intro i y hy
  by_cases e : i = l.length
  · rw [e, up_eq]
    rw [e, List.getElem?_append_right (Nat.le_refl _)] at hy
    simp at hy
    rw [hy]
  · rw [up_ne _ _ e]
    refine h i y ?_
    have hl : i < (l ++ [x]).length := by
      rcases Nat.lt_or_ge i (l ++ [x]).length with h1 | h1
      · exact h1
      · rw [List.getElem?_eq_none h1] at hy; cases hy
    rw [List.length_append, List.length_singleton] at hl
    rwa [List.getElem?_append_left (by omega)] at hy

