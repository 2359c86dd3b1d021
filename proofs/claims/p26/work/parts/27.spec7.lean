-- states that change
section
variable {z : Nat → Int32} {n f : Nat} {L T ln : Nat → Nat} {sg : Nat → Nat → Nat}
theorem ZZ.add (h : ZZ z n f L T ln sg) (hn : n < 10) (l : Nat) : ZZ (upd (upd (upd z (2 + n) (nI l)) (12 + n) (nI 0)) 0 (nI (n + 1))) (n + 1) f (upN L n l) (upN T n 0) ln sg := by
  obtain ⟨h1, h2, h3, h4, h5, h6⟩ := h
  refine ⟨up_eq _ _ _, ?_, fun j hj => ?_, fun j hj => ?_, fun w hw => ?_, fun w hw k hk => ?_⟩
  · rw [up_ne _ _ (by omega), up_ne _ _ (by omega), up_ne _ _ (by omega)]; exact h2
  · by_cases e : j = n
    · rw [e, up_ne _ _ (by omega), up_ne _ _ (by omega), up_eq, upN_eq]
    · rw [up_ne _ _ (by omega), up_ne _ _ (by omega), up_ne _ _ (by omega), upN_ne _ _ e]; exact h3 j (by omega)
  · by_cases e : j = n
    · rw [e, up_ne _ _ (by omega), up_eq, upN_eq]
    · rw [up_ne _ _ (by omega), up_ne _ _ (by omega), up_ne _ _ (by omega), upN_ne _ _ e]; exact h4 j (by omega)
  · rw [up_ne _ _ (by omega), up_ne _ _ (by omega), up_ne _ _ (by omega)]; exact h5 w hw
  · rw [up_ne _ _ (by omega), up_ne _ _ (by omega), up_ne _ _ (by omega)]; exact h6 w hw k hk
theorem OK.add (ho : OK n f L T ln sg) (hn : n < 10) {l : Nat} (hl : l < 16) : OK (n + 1) f (upN L n l) (upN T n 0) ln sg := ⟨hn, ho.2.1, fun j hj => by
  by_cases e : j = n
  · rw [e, upN_eq]; exact hl
  · rw [upN_ne _ _ e]; exact ho.2.2.1 j (by omega), fun j hj => by
  by_cases e : j = n
  · rw [e, upN_eq]; exact Nat.two_pow_pos _
  · rw [upN_ne _ _ e]; exact Nat.lt_trans (ho.2.2.2.1 j (by omega)) (Nat.pow_lt_pow_right (by decide) (Nat.lt_succ_self n)), ho.2.2.2.2⟩
end
/-- world w taken out of a row -/
def outN (L : Nat → Nat) (w : Nat) : Nat → Nat := fun j => if j < w then L j else L (j + 1)
def lesN (T : Nat → Nat) (w : Nat) : Nat → Nat := fun j => lessN (outN T w j) w
theorem out_lt {L : Nat → Nat} {w j : Nat} (h : j < w) : outN L w j = L j := if_pos h
theorem out_ge {L : Nat → Nat} {w j : Nat} (h : w ≤ j) : outN L w j = L (j + 1) := if_neg (by omega)
def RM (z y : Nat → Int32) (n w : Nat) (L T : Nat → Nat) (i : Nat) : Prop :=
  y 0 = nI (n - 1) ∧ (∀ j, j < i → y (2 + j) = nI (outN L w j)) ∧ (∀ j, i ≤ j → j < n → y (2 + j) = nI (L j)) ∧ (∀ j, j < i → y (12 + j) = nI (outN T w j)) ∧ (∀ j, i ≤ j → j < n → y (12 + j) = nI (T j)) ∧ ∀ j, (j = 1 ∨ 22 ≤ j) → y j = z j
theorem RM.step {z y : Nat → Int32} {n w : Nat} {L T : Nat → Nat} {i : Nat} (h : RM z y n w L T i) (hn : n ≤ 10) (hw : w ≤ i) (hi : i < n - 1) : RM z (upd (upd y (2 + i) (nI (L (i + 1)))) (12 + i) (nI (T (i + 1)))) n w L T (i + 1) := by
  obtain ⟨h1, h2, h3, h4, h5, h6⟩ := h
  refine ⟨?_, fun j hj => ?_, fun j hj hk => ?_, fun j hj => ?_, fun j hj hk => ?_, fun j hj => ?_⟩
  · rw [up_ne _ _ (by omega), up_ne _ _ (by omega)]; exact h1
  · by_cases e : j = i
    · rw [e, up_ne _ _ (by omega), up_eq, out_ge hw]
    · rw [up_ne _ _ (by omega), up_ne _ _ (by omega)]; exact h2 j (by omega)
  · rw [up_ne _ _ (by omega), up_ne _ _ (by omega)]; exact h3 j (by omega) hk
  · by_cases e : j = i
    · rw [e, up_eq, out_ge hw]
    · rw [up_ne _ _ (by omega), up_ne _ _ (by omega)]; exact h4 j (by omega)
  · rw [up_ne _ _ (by omega), up_ne _ _ (by omega)]; exact h5 j (by omega) hk
  · rw [up_ne _ _ (by omega), up_ne _ _ (by omega)]; exact h6 j hj
theorem RM.init {z : Nat → Int32} {n f : Nat} {L T ln : Nat → Nat} {sg : Nat → Nat → Nat} (h : ZZ z n f L T ln sg) (hn : n ≤ 10) {w : Nat} (hw : w < n) : RM z (upd z 0 (nI (n - 1))) n w L T w := by
  obtain ⟨h1, h2, h3, h4, h5, h6⟩ := h
  refine ⟨up_eq _ _ _, fun j hj => ?_, fun j hj hk => ?_, fun j hj => ?_, fun j hj hk => ?_, fun j hj => ?_⟩
  · rw [up_ne _ _ (by omega), out_lt hj]; exact h3 j (by omega)
  · rw [up_ne _ _ (by omega)]; exact h3 j hk
  · rw [up_ne _ _ (by omega), out_lt hj]; exact h4 j (by omega)
  · rw [up_ne _ _ (by omega)]; exact h4 j hk
  · rw [up_ne _ _ (by omega)]
def RV (z y : Nat → Int32) (n w : Nat) (L T : Nat → Nat) (i : Nat) : Prop :=
  y 0 = nI (n - 1) ∧ (∀ j, j < n - 1 → y (2 + j) = nI (outN L w j)) ∧ (∀ j, j < i → y (12 + j) = nI (lesN T w j)) ∧ (∀ j, i ≤ j → j < n - 1 → y (12 + j) = nI (outN T w j)) ∧ ∀ j, (j = 1 ∨ 22 ≤ j) → y j = z j
theorem RM.less {z y : Nat → Int32} {n w : Nat} {L T : Nat → Nat} (h : RM z y n w L T (n - 1)) (hn : n ≤ 10) (h0 : 0 < n) : RV z (upd (upd y (2 + (n - 1)) (nI 0)) (12 + (n - 1)) (nI 0)) n w L T 0 := by
  obtain ⟨h1, h2, h3, h4, h5, h6⟩ := h
  refine ⟨?_, fun j hj => ?_, fun j hj => absurd hj (by omega), fun j hj hk => ?_, fun j hj => ?_⟩
  · rw [up_ne _ _ (by omega), up_ne _ _ (by omega)]; exact h1
  · rw [up_ne _ _ (by omega), up_ne _ _ (by omega)]; exact h2 j hj
  · rw [up_ne _ _ (by omega), up_ne _ _ (by omega)]; exact h4 j hk
  · rw [up_ne _ _ (by omega), up_ne _ _ (by omega)]; exact h6 j hj
theorem RV.step {z y : Nat → Int32} {n w : Nat} {L T : Nat → Nat} {i : Nat} (h : RV z y n w L T i) (hn : n ≤ 10) (hi : i < n - 1) : RV z (upd y (12 + i) (nI (lessN (outN T w i) w))) n w L T (i + 1) := by
  obtain ⟨h1, h2, h3, h4, h5⟩ := h
  refine ⟨?_, fun j hj => ?_, fun j hj => ?_, fun j hj hk => ?_, fun j hj => ?_⟩
  · rw [up_ne _ _ (by omega)]; exact h1
  · rw [up_ne _ _ (by omega)]; exact h2 j hj
  · by_cases e : j = i
    · rw [e, up_eq]; rfl
    · rw [up_ne _ _ (by omega)]; exact h3 j (by omega)
  · rw [up_ne _ _ (by omega)]; exact h4 j (by omega) hk
  · rw [up_ne _ _ (by omega)]; exact h5 j hj
theorem RV.done {z y : Nat → Int32} {n f w : Nat} {L T ln : Nat → Nat} {sg : Nat → Nat → Nat} (h : RV z y n w L T (n - 1)) (hz : ZZ z n f L T ln sg) (hn : n ≤ 10) : ZZ y (n - 1) f (outN L w) (lesN T w) ln sg := by
  obtain ⟨h1, h2, h3, h4, h5⟩ := h
  obtain ⟨z1, z2, z3, z4, z5, z6⟩ := hz
  exact ⟨h1, (h5 1 (Or.inl rfl)).trans z2, h2, h3, fun v hv => (h5 _ (Or.inr (by omega))).trans (z5 v hv), fun v hv k hk => (h5 _ (Or.inr (by omega))).trans (z6 v hv k hk)⟩
theorem OK.rem {n f w : Nat} {L T ln : Nat → Nat} {sg : Nat → Nat → Nat} (ho : OK n f L T ln sg) (hw : w < n) : OK (n - 1) f (outN L w) (lesN T w) ln sg := ⟨Nat.le_trans (Nat.sub_le _ _) ho.1, ho.2.1, fun j hj => by
  rw [outN]; split
  · exact ho.2.2.1 j (by omega)
  · exact ho.2.2.1 _ (by omega), fun j hj => lessN_lt (by
  rw [outN]; split
  · exact ho.2.2.2.1 j (by omega)
  · exact ho.2.2.2.1 _ (by omega)) hw, ho.2.2.2.2⟩
/-- the ring, laid for the worlds ahead of i -/
def rgN (T : Nat → Nat) (n i : Nat) : Nat → Nat := fun j => if j < i then T j ||| 2 ^ ((j + 1) % n) else T j
theorem rg_0 (T : Nat → Nat) (n : Nat) : rgN T n 0 = T := rfl
theorem rg_at (T : Nat → Nat) (n i : Nat) : rgN T n i i = T i := if_neg (by omega)
theorem rg_s (T : Nat → Nat) (n i : Nat) : upN (rgN T n i) i (T i ||| 2 ^ ((i + 1) % n)) = rgN T n (i + 1) := by
  funext j
  by_cases e : j = i
  · rw [e, upN_eq, rgN, if_pos (by omega)]
  · rw [upN_ne _ _ e, rgN, rgN]
    by_cases h : j < i
    · rw [if_pos h, if_pos (by omega)]
    · rw [if_neg h, if_neg (by omega)]
theorem OK.ring {n f : Nat} {L T ln : Nat → Nat} {sg : Nat → Nat → Nat} (ho : OK n f L T ln sg) (i : Nat) : OK n f L (rgN T n i) ln sg := ⟨ho.1, ho.2.1, ho.2.2.1, fun j hj => by
  rw [rgN]; split
  · exact or_lt (ho.2.2.2.1 j hj) (Nat.pow_lt_pow_right (by decide) (Nat.mod_lt _ (by omega)))
  · exact ho.2.2.2.1 j hj, ho.2.2.2.2⟩

