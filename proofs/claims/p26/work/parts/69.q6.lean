-- a wish and the wish behind its first sign
theorem le_sh {m : Nat} {s s' : Nat → Nat} (hs : ∀ k, s' (k + 1) = s k) : ∀ q j, m - j < q → leW (m + 1) s' (j + 1) = leW m s j := by
  intro q
  induction q with
  | zero => intro j h; omega
  | succ q ih =>
    intro j hj
    by_cases hm : j < m
    · have h1 : leW (m + 1) s' (j + 1 + 1) = leW m s (j + 1) := ih (j + 1) (by omega)
      have h2 : leW (m + 1) s' (j + 1 + 2) = leW m s (j + 2) := ih (j + 2) (by omega)
      have h3 : leW (m + 1) s' (j + 1 + 1 + leW m s (j + 1)) = leW m s (j + 1 + leW m s (j + 1)) := by
        rw [show j + 1 + 1 + leW m s (j + 1) = j + 1 + leW m s (j + 1) + 1 by omega]; exact ih _ (by omega)
      have h4 : leW (m + 1) s' (j + 1 + 2 + leW m s (j + 2)) = leW m s (j + 2 + leW m s (j + 2)) := by
        rw [show j + 1 + 2 + leW m s (j + 2) = j + 2 + leW m s (j + 2) + 1 by omega]; exact ih _ (by omega)
      have e1 : s' (j + 1) = s j := hs j
      have e2 : s' (j + 1 + 1) = s (j + 1) := hs (j + 1)
      conv => lhs; rw [leW]
      conv => rhs; rw [leW]
      rw [if_pos hm, if_pos (by omega), e1, e2, h1, h2, h3, h4]
    · conv => lhs; rw [leW]
      conv => rhs; rw [leW]
      rw [if_neg hm, if_neg (by omega)]
theorem se_sh {T : Nat → Nat} {n f : Nat} {L : Nat → Nat} {m : Nat} {s s' : Nat → Nat} (hs : ∀ k, s' (k + 1) = s k) : ∀ q j, m - j < q → seW T n f L (m + 1) s' (j + 1) = seW T n f L m s j := by
  intro q
  induction q with
  | zero => intro j h; omega
  | succ q ih =>
    intro j hj
    by_cases hm : j < m
    · have hl := fun j => le_sh (m := m) hs _ j (Nat.lt_succ_self _)
      have l1 : leW (m + 1) s' (j + 1 + 1) = leW m s (j + 1) := hl (j + 1)
      have l2 : leW (m + 1) s' (j + 1 + 2) = leW m s (j + 2) := hl (j + 2)
      have h1 : seW T n f L (m + 1) s' (j + 1 + 1) = seW T n f L m s (j + 1) := ih (j + 1) (by omega)
      have h2 : seW T n f L (m + 1) s' (j + 1 + 2) = seW T n f L m s (j + 2) := ih (j + 2) (by omega)
      have h3 : seW T n f L (m + 1) s' (j + 1 + 1 + leW m s (j + 1)) = seW T n f L m s (j + 1 + leW m s (j + 1)) := by
        rw [show j + 1 + 1 + leW m s (j + 1) = j + 1 + leW m s (j + 1) + 1 by omega]; exact ih _ (by omega)
      have h4 : seW T n f L (m + 1) s' (j + 1 + 2 + leW m s (j + 2)) = seW T n f L m s (j + 2 + leW m s (j + 2)) := by
        rw [show j + 1 + 2 + leW m s (j + 2) = j + 2 + leW m s (j + 2) + 1 by omega]; exact ih _ (by omega)
      have e1 : s' (j + 1) = s j := hs j
      have e2 : s' (j + 1 + 1) = s (j + 1) := hs (j + 1)
      conv => lhs; rw [seW]
      conv => rhs; rw [seW]
      rw [if_pos hm, if_pos (by omega), e1, e2, l1, l2, h1, h2, h3, h4]
    · conv => lhs; rw [seW]
      conv => rhs; rw [seW]
      rw [if_neg hm, if_neg (by omega)]
theorem nd_inv {n x : Nat} (h : x < 2 ^ n) : ndN (2 ^ n - 1) (ndN (2 ^ n - 1) x) = x := by
  apply Nat.eq_of_testBit_eq
  intro i
  rw [ndN_bit, ndN_bit, Nat.testBit_two_pow_sub_one]
  cases hx : x.testBit i with
  | true => rw [decide_eq_true (bit_lt h hx)]; rfl
  | false => cases decide (i < n) <;> rfl
section
variable {T : Nat → Nat} {n f : Nat} {L : Nat → Nat} {ln : Nat → Nat} {sg : Nat → Nat → Nat} {w i : Nat}
theorem hW_new {m : Nat} {s : Nat → Nat} : hW T n f L (upN ln w m) (sgN sg w s) w = seW T n f L m s 0 := by
  rw [hW, upN_eq, sgN, if_pos rfl]
theorem neg_hW (hl : 0 < ln w) : hW T n f L (upN ln w (negM ln sg w)) (sgN sg w (negS sg w)) w = ndN (2 ^ n - 1) (hW T n f L ln sg w) := by
  rw [hW_new, negM, negS]
  by_cases h : sg w 0 = 33
  · rw [if_pos h, if_pos h]
    have h1 := se_sh (T := T) (n := n) (f := f) (L := L) (m := ln w - 1) (s := fun k => sg w (k + 1)) (s' := sg w) (fun k => rfl) _ 0 (Nat.lt_succ_self _)
    rw [show ln w - 1 + 1 = ln w by omega] at h1
    have h2 : hW T n f L ln sg w = ndN (2 ^ n - 1) (seW T n f L (ln w) (sg w) (0 + 1)) := seW_not hl h
    rw [h2, h1, nd_inv (seW_l _ _ _ _ _ _ _)]
  · rw [if_neg h, if_neg h]
    have h1 := se_sh (T := T) (n := n) (f := f) (L := L) (m := ln w) (s := sg w) (s' := notS (sg w)) (fun k => rfl) _ 0 (Nat.lt_succ_self _)
    have h2 : seW T n f L (ln w + 1) (notS (sg w)) 0 = ndN (2 ^ n - 1) (seW T n f L (ln w + 1) (notS (sg w)) (0 + 1)) := seW_not (Nat.succ_pos _) rfl
    rw [h2, h1]
    rfl
theorem neg_t {m : Nat} (h : sg w 0 = 33) (hl : ln w = m) : negM ln sg w = m - 1 := by rw [negM, if_pos h, hl]
theorem neg_f {m : Nat} (h : ¬ sg w 0 = 33) (hl : ln w = m) : negM ln sg w = m + 1 := by rw [negM, if_neg h, hl]
theorem neg_K (hs : WFS ln sg) (hw : w < 4) (hl0 : 0 < ln w) (hl : ln w < 40) : negM ln sg w ≤ 40 ∧ 0 < negM ln sg w ∧ ∃ sc, WF (negM ln sg w) (negS sg w) sc := by
  obtain ⟨sc, hwf⟩ := hs w hw hl0
  rw [negM, negS]
  by_cases h0 : sg w 0 = 33
  · rw [if_pos h0, if_pos h0]
    have h1 := (wf_1 hwf).resolve_right (fun a => a h0)
    exact ⟨by omega, by omega, _, wf_off hwf hl0 h0⟩
  · rw [if_neg h0, if_neg h0]
    exact ⟨by omega, Nat.succ_pos _, _, wf_put hwf⟩
theorem up_pos {t : Nat} (h : ∀ v, v < w → 0 < ln v) (ht : 0 < t) : ∀ v, v < w + 1 → 0 < upN ln w t v := fun v hv => by
  by_cases e : v = w
  · rw [e, upN_eq]; exact ht
  · rw [upN_ne _ _ e]; exact h v (by omega)
theorem up_zero {t : Nat} (h : ∀ v, w ≤ v → ln v = 0) : ∀ v, w + 1 ≤ v → upN ln w t v = 0 := fun v hv => by
  rw [upN_ne _ _ (by omega)]; exact h v (by omega)
theorem ct_s (a k : Nat) : ctN a (k + 1) = ctN a k + (a >>> k &&& 1) := by
  rw [ctN]
  congr 1
  rcases b01 a k with h | h
  · rw [h, if_neg (fun e => by rw [(tb_1 _ _).mpr e] at h; cases h)]
  · rw [h, if_pos ((tb_1 _ _).mp h)]
theorem lt_fI {x : Nat} (h : x < 5) : nI x - nI 1 = fI (if x = 0 then 4 else x - 1) := by
  rcases (by omega : x = 0 ∨ x = 1 ∨ x = 2 ∨ x = 3 ∨ x = 4) with rfl | rfl | rfl | rfl | rfl <;> decide
theorem bf_w {u : Nat} (h : 0 < ln w) : bfI T n L ln sg w u = nI (hW T n u L ln sg w) := by rw [bfI, if_neg (by omega)]
theorem wa_hW (h : 0 < ln w) (hw : w < 4) : waN T n f L ln sg i 4 >>> w &&& 1 = hW T n f L ln sg w >>> i &&& 1 := by
  have h1 : waN T n f L ln sg i 4 >>> w &&& 1 = 1 ↔ hW T n f L ln sg w >>> i &&& 1 = 1 := by
    rw [tb_1, wa_bit, decide_eq_true hw, Bool.true_and, haN, decide_eq_true_eq]
    exact ⟨fun a => a.2, fun a => ⟨h, a⟩⟩
  rcases b01 (waN T n f L ln sg i 4) w with a | a <;> rcases b01 (hW T n f L ln sg w) i with c | c
  · rw [a, c]
  · rw [h1.mpr c]; exact c.symm
  · rw [h1.mp a]; exact a
  · rw [a, c]
end
theorem nd_sb {a b : Nat} : ndN a b = 0 ↔ a ||| b = b := by
  constructor
  · intro h
    exact sb_of (fun i hi => by
      have h1 : (ndN a b).testBit i = false := by rw [h, Nat.zero_testBit]
      rw [ndN_bit, hi, Bool.true_and] at h1
      simpa using h1)
  · intro h
    apply Nat.eq_of_testBit_eq
    intro i
    rw [ndN_bit, Nat.zero_testBit]
    cases ha : a.testBit i with
    | false => rfl
    | true => rw [sb_bit h ha]; rfl
theorem cm_A {a b : Nat} (h : a = b) : cmN a b = 0 := if_pos h
theorem cm_B {a b : Nat} (h : ¬ a = b) (h2 : a ||| b = b) : cmN a b = 1 := by rw [cmN, if_neg h, if_pos (nd_sb.mpr h2)]
theorem cm_C {a b : Nat} (h : ¬ a = b) (h2 : ¬ a ||| b = b) (h3 : a ||| b = a) : cmN a b = 2 := by rw [cmN, if_neg h, if_neg (fun e => h2 (nd_sb.mp e)), if_pos (nd_sb.mpr (by rw [Nat.or_comm]; exact h3))]
theorem cm_D {a b : Nat} (h : ¬ a = b) (h2 : ¬ a ||| b = b) (h3 : ¬ a ||| b = a) : cmN a b = 3 := by rw [cmN, if_neg h, if_neg (fun e => h2 (nd_sb.mp e)), if_neg (fun e => h3 (by rw [Nat.or_comm]; exact nd_sb.mp e))]
theorem wm_3 {ln : Nat → Nat} (h : ∀ v, v < 3 → 0 < ln v) (h3 : ln 3 = 0) : wmN ln 4 = 3 := by
  simp only [wmN, if_pos (h 0 (by decide)), if_pos (h 1 (by decide)), if_pos (h 2 (by decide)), h3, Nat.lt_irrefl, if_false]
theorem dc_0 : ∀ h, h < 41 → ∀ p, p < 41 → p ≠ 0 → Op.cmpValue (FP.dcmp (FP.ddiv (FP.i2d (nI h)) (FP.i2d (nI p))) (FP.ddiv (FP.i2d (nI h)) (FP.i2d (nI p)))) .l = 0 := by decide +kernel
theorem sh_eq {h p : Nat} (hp : p ≠ 0) : shV h p = FP.ddiv (FP.i2d (nI h)) (FP.i2d (nI p)) := if_neg hp
theorem svk_le {k : Nat} (h : k ≤ 6) : svk k ≤ 6 := by unfold svk; split <;> omega
theorem ok_start : OK 0 4 N0 N0 N0 (fun _ _ => 0) := ⟨by decide, by decide, fun i hi => absurd hi (Nat.not_lt_zero i), fun i hi => absurd hi (Nat.not_lt_zero i), fun w hw => Nat.zero_le _, fun w hw k hk => absurd hk (Nat.not_lt_zero k)⟩
def scH : ez_H := fun _ => none
/-- the law itself, its name and its table whatever they be -/
abbrev mLw (nm : String) (hh : List (Nat × Nat × Nat × Nat)) : ez_M := (⟨RL, nm, yL_law.desc⟩, cL_law, 16, some .boolean, hh)
