-- wishes that change
def sgN (sg : Nat → Nat → Nat) (w : Nat) (s : Nat → Nat) : Nat → Nat → Nat := fun v => if v = w then s else sg v
theorem ZZ.wish {z y : Nat → Int32} {n f : Nat} {L T ln : Nat → Nat} {sg : Nat → Nat → Nat} {w m : Nat} {s : Nat → Nat} (h : ZZ z n f L T ln sg) (ho : OK n f L T ln sg) (hw : w < 4) (hm : m ≤ 40) (h1 : y (22 + 41 * w) = nI m) (h2 : ∀ k, k < m → y (22 + 41 * w + 1 + k) = nI (s k)) (h3 : ∀ j, j < 22 + 41 * w ∨ 22 + 41 * w + 41 ≤ j → y j = z j) : ZZ y n f L T (upN ln w m) (sgN sg w s) := by
  obtain ⟨z1, z2, z3, z4, z5, z6⟩ := h
  have hn := ho.1
  refine ⟨(h3 0 (by omega)).trans z1, (h3 1 (by omega)).trans z2, fun j hj => (h3 _ (by omega)).trans (z3 j hj), fun j hj => (h3 _ (by omega)).trans (z4 j hj), fun v hv => ?_, fun v hv k hk => ?_⟩
  · by_cases e : v = w
    · rw [e, upN_eq]; exact h1
    · rw [upN_ne _ _ e]; exact (h3 _ (by omega)).trans (z5 v hv)
  · by_cases e : v = w
    · rw [e, upN_eq] at hk
      rw [e, sgN, if_pos rfl]; exact h2 k hk
    · rw [upN_ne _ _ e] at hk
      have := ho.2.2.2.2.1 v hv
      rw [sgN, if_neg e]; exact (h3 _ (by omega)).trans (z6 v hv k hk)
theorem OK.wish {n f : Nat} {L T ln : Nat → Nat} {sg : Nat → Nat → Nat} {w m : Nat} {s : Nat → Nat} (ho : OK n f L T ln sg) (hm : m ≤ 40) (hs : ∀ k, k < m → s k < 128) : OK n f L T (upN ln w m) (sgN sg w s) := ⟨ho.1, ho.2.1, ho.2.2.1, ho.2.2.2.1, fun v hv => by
  by_cases e : v = w
  · rw [e, upN_eq]; exact hm
  · rw [upN_ne _ _ e]; exact ho.2.2.2.2.1 v hv, fun v hv k hk => by
  by_cases e : v = w
  · rw [e, upN_eq] at hk
    rw [e, sgN, if_pos rfl]; exact hs k hk
  · rw [upN_ne _ _ e] at hk
    rw [sgN, if_neg e]; exact ho.2.2.2.2.2 v hv k hk⟩
theorem WFS.wish {ln : Nat → Nat} {sg : Nat → Nat → Nat} {w m : Nat} {s : Nat → Nat} (h : WFS ln sg) (hs : 0 < m → ∃ sc, WF m s sc) : WFS (upN ln w m) (sgN sg w s) := fun v hv hl => by
  by_cases e : v = w
  · rw [e, upN_eq] at hl
    rw [e, upN_eq, sgN, if_pos rfl]; exact hs hl
  · rw [upN_ne _ _ e] at hl
    rw [upN_ne _ _ e, sgN, if_neg e]; exact h v hv hl
/-- the sign ! before a wish, and taken off it -/
def notS (s : Nat → Nat) : Nat → Nat
  | 0 => 33
  | k + 1 => s k
theorem wf_put {m : Nat} {s : Nat → Nat} {sc : Nat → Nat × Bool} (h : WF m s sc) : WF (m + 1) (notS s) (fun k => match k with
    | 0 => (1, false)
    | k + 1 => sc k) := ⟨rfl, h.2.1, fun j hj => by
  cases j with
  | zero => show stp (1, false) 33 = some (sc 0); rw [h.1]; rfl
  | succ j => exact h.2.2 j (by omega)⟩
theorem wf_off {m : Nat} {s : Nat → Nat} {sc : Nat → Nat × Bool} (h : WF m s sc) (hm : 0 < m) (h0 : s 0 = 33) : WF (m - 1) (fun k => s (k + 1)) (fun k => sc (k + 1)) := ⟨by
  have h1 := h.2.2 0 hm
  rw [h.1, h0] at h1
  exact (Option.some.inj h1).symm, by
  show sc (m - 1 + 1) = _
  rw [Nat.sub_add_cancel hm]; exact h.2.1, fun j hj => h.2.2 (j + 1) (by omega)⟩
theorem wf_1 {m : Nat} {s : Nat → Nat} {sc : Nat → Nat × Bool} (h : WF m s sc) : 1 < m ∨ ¬ s 0 = 33 := by
  rcases Nat.lt_or_ge 1 m with h1 | h1
  · exact Or.inl h1
  · refine Or.inr (fun e => ?_)
    rcases Nat.eq_zero_or_pos m with h0 | h0
    · have h2 := h.1; have h3 := h.2.1; rw [h0, h2] at h3; cases h3
    · have h2 := h.2.2 0 h0
      have h3 := h.2.1
      rw [show m = 1 by omega] at h3
      rw [h.1, e, h3] at h2
      exact absurd h2 (by decide)
/-- what has been read after each sign -/
def scN (b : Nat → Nat) : Nat → Nat × Bool
  | 0 => (1, false)
  | k + 1 => match stp (scN b k) (b k) with
    | none => (0, false)
    | some p => p
theorem rd_sc (b : Nat → Nat) (t : Nat) : ∀ u k q, k + u = t → q = scN b k → (k = 0 ∨ k + q.1 ≤ 40) → (rdN b t u k q).1 = t → (rdN b t u k q).2 = scN b t ∧ (∀ j, k ≤ j → j < t → stp (scN b j) (b j) = some (scN b (j + 1))) ∧ (t = 0 ∨ t + (scN b t).1 ≤ 40) := by
  intro u
  induction u with
  | zero =>
    intro k q h1 h2 h3 _
    obtain rfl : k = t := by omega
    exact ⟨h2, fun j hj hk => absurd hk (by omega), by rw [← h2]; exact h3⟩
  | succ u ih =>
    intro k q h1 h2 h3 h4
    rw [rdN] at h4 ⊢
    cases hp : stp q (b k) with
    | none => rw [hp] at h4; dsimp only at h4; omega
    | some p =>
      rw [hp] at h4
      dsimp only at h4 ⊢
      have e : p = scN b (k + 1) := by rw [scN, ← h2, hp]
      by_cases hc : 40 < k + 1 + p.1 + (if p.2 then 1 else 0)
      · rw [if_pos hc] at h4; dsimp only at h4; omega
      · rw [if_neg hc] at h4 ⊢
        obtain ⟨i1, i2, i3⟩ := ih (k + 1) p (by omega) e (Or.inr (by omega)) h4
        refine ⟨i1, fun j hj hk => ?_, i3⟩
        by_cases ej : j = k
        · rw [ej, ← h2, hp, e]
        · exact i2 j (by omega) hk
theorem who_wf {b : Nat → Nat} {t : Nat} (h : whoB b t = true) (hy : (rdR b t).2.2 = false) : WF t b (scN b) ∧ 0 < t ∧ t ≤ 40 := by
  obtain ⟨h1, h2⟩ := of_decide_eq_true h
  obtain ⟨i1, i2, i3⟩ := rd_sc b t t 0 (1, false) (Nat.zero_add t) rfl (Or.inl rfl) h1
  have e : scN b t = (0, false) := by
    rw [← i1]
    exact Prod.ext h2 hy
  rw [e] at i3
  have ht : t ≠ 0 := fun a => by rw [a] at e; cases e
  exact ⟨⟨rfl, e, fun j hj => i2 j (Nat.zero_le j) hj⟩, by omega, by omega⟩
theorem stp_0 {q p : Nat × Bool} {c : Nat} (h : stp q c = some p) (h0 : p.1 = 0) : p.2 = false := by
  rw [stp] at h
  split at h
  · split at h
    · cases h; rfl
    · split at h
      · cases h; rfl
      · cases h
  · split at h
    · cases h
    · split at h
      · cases h; rfl
      · split at h
        · cases h; rfl
        · split at h
          · cases h; rfl
          · split at h
            · rename_i hq _ _ _ _; cases h; exact absurd h0 hq
            · cases h
theorem rd_2 (b : Nat → Nat) (t : Nat) : ∀ u k q, (q.1 = 0 → q.2 = false) → (rdN b t u k q).2.1 = 0 → (rdN b t u k q).2.2 = false := by
  intro u
  induction u with
  | zero => intro k q h1 h2; exact h1 h2
  | succ u ih =>
    intro k q h1 h2
    rw [rdN] at h2 ⊢
    cases hp : stp q (b k) with
    | none => rw [hp] at h2; exact h1 h2
    | some p =>
      rw [hp] at h2
      dsimp only at h2 ⊢
      by_cases hc : 40 < k + 1 + p.1 + (if p.2 then 1 else 0)
      · rw [if_pos hc] at h2 ⊢; exact h1 h2
      · rw [if_neg hc] at h2 ⊢; exact ih _ _ (fun e => stp_0 hp e) h2
theorem who_w {b : Nat → Nat} {t : Nat} (h : whoB b t = true) : WF t b (scN b) ∧ 0 < t ∧ t ≤ 40 := who_wf h (rd_2 b t t 0 _ (fun e => absurd e (by decide)) (of_decide_eq_true h).2)

