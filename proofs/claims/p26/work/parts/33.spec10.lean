theorem bs_t {s u : Nat} {d : Nat → Nat} {i : Nat} (h : ((s >>> i) &&& 1 = 1 ∧ (u >>> i) &&& 1 = 1 ∧ d i < 99) ∧ (∀ b, bsN s u d i = some b → d i < d b)) : bsI (bsN s u d (i + 1)) = nI i := by rw [bsN, if_pos h]; rfl
theorem bs_f {s u : Nat} {d : Nat → Nat} {i : Nat} (h : ¬ (((s >>> i) &&& 1 = 1 ∧ (u >>> i) &&& 1 = 1 ∧ d i < 99) ∧ (∀ b, bsN s u d i = some b → d i < d b))) : bsN s u d (i + 1) = bsN s u d i := by rw [bsN, if_neg h]
theorem bs_no {s u : Nat} {d : Nat → Nat} {i : Nat} (hi : i ≤ 10) (h : bsI (bsN s u d i) = -1) : bsN s u d i = none := by
  cases hb : bsN s u d i with
  | none => rfl
  | some b =>
    have hl := bs_lt _ _ hb
    rw [hb] at h
    have h2 : (nI b).toInt = -1 := by rw [show nI b = -1 from h]; rfl
    rw [nI_toInt (by omega)] at h2
    omega
theorem bs_so {s u : Nat} {d : Nat → Nat} {i : Nat} (h : ¬ bsI (bsN s u d i) = -1) : ∃ b, bsN s u d i = some b := by
  cases hb : bsN s u d i with
  | none => exact absurd (by rw [hb]; rfl) h
  | some b => exact ⟨b, rfl⟩
/-- k steps from w, and where they end -/
def wyN (nx : Nat → Nat) : Nat → Nat → List Nat
  | 0, _ => []
  | k + 1, w => nx w :: wyN nx k (nx w)
def itN (nx : Nat → Nat) : Nat → Nat → Nat
  | 0, w => w
  | k + 1, w => itN nx k (nx w)
/-- legs from goal to goal until one comes around -/
def rdL (nx d : Nat → Nat) : Nat → Nat → Nat → List Nat
  | 0, _, _ => []
  | m + 1, w, met => wyN nx (d (nx w) + 1) w ++ if (met >>> itN nx (d (nx w) + 1) w) &&& 1 = 1 then [] else rdL nx d m (itN nx (d (nx w) + 1) w) (met ||| 2 ^ itN nx (d (nx w) + 1) w)
def nxN (T : Nat → Nat) (n u : Nat) (d : Nat → Nat) (w : Nat) : Nat := (bsN (T w) u d n).getD 0
theorem wy_len (nx : Nat → Nat) : ∀ k w, (wyN nx k w).length = k := by
  intro k
  induction k with
  | zero => intro w; rfl
  | succ k ih => intro w; rw [wyN, List.length_cons, ih]
section
variable {T : Nat → Nat} {n y g u : Nat}
/-- the next step's world, where one of the worlds ahead is in the layer k -/
theorem nx_ok {w j k : Nat} (hk : k ≤ 10) (hj : j < n) (h1 : (T w).testBit j = true) (h2 : u.testBit j = true) (h3 : (laN T n y g k).testBit j = true) :
    ∃ b, bsN (T w) u (dsN T n y g 10) n = some b ∧ nxN T n u (dsN T n y g 10) w = b ∧ b < n ∧ (T w).testBit b = true ∧ u.testBit b = true ∧ dsN T n y g 10 b ≤ k := by
  have h4 : dsN T n y g 10 j ≤ k := (ds_iff hk).mpr h3
  obtain ⟨b, hb, hb2⟩ := bs_best (s := T w) (u := u) (d := dsN T n y g 10) n j hj ((tb_1 _ _).mpr h1) ((tb_1 _ _).mpr h2) (by omega)
  have hc := bs_can _ _ hb
  exact ⟨b, hb, by rw [nxN, hb]; rfl, bs_lt _ _ hb, (tb_1 _ _).mp hc.1, (tb_1 _ _).mp hc.2.1, by omega⟩
theorem in_ex {s : Nat} {w : Nat} (h : (inN T s n).testBit w = true) : w < n ∧ ∃ j, (T w).testBit j = true ∧ s.testBit j = true := by
  rw [inN_bit, decide_eq_true_eq] at h
  refine ⟨h.1, ?_⟩
  obtain ⟨j, hj⟩ : ∃ j, (T w &&& s).testBit j = true := Classical.byContradiction (fun hno => h.2 (Nat.eq_of_testBit_eq (fun i => by
    rw [Nat.zero_testBit]
    cases hb : (T w &&& s).testBit i with
    | false => rfl
    | true => exact absurd ⟨i, hb⟩ hno)))
  rw [Nat.testBit_and, Bool.and_eq_true] at hj
  exact ⟨j, hj.1, hj.2⟩
theorem in_of {s : Nat} {w j : Nat} (hw : w < n) (h1 : (T w).testBit j = true) (h2 : s.testBit j = true) : (inN T s n).testBit w = true := by
  rw [inN_bit, decide_eq_true_eq]
  refine ⟨hw, fun h => ?_⟩
  have h3 : (T w &&& s).testBit j = true := by rw [Nat.testBit_and, h1, h2]; rfl
  rw [h, Nat.zero_testBit] at h3
  cases h3
/-- a world k + 1 steps away has its next step's world k steps away -/
theorem nx_dn {w k : Nat} (hg : g < 2 ^ n) (hu : ∀ j m, (T w).testBit j = true → (laN T n y g m).testBit j = true → u.testBit j = true) (hk : k + 1 ≤ 10) (h : dsN T n y g 10 w = k + 1) :
    ∃ b, bsN (T w) u (dsN T n y g 10) n = some b ∧ nxN T n u (dsN T n y g 10) w = b ∧ b < n ∧ (T w).testBit b = true ∧ u.testBit b = true ∧ dsN T n y g 10 b = k := by
  have h1 := (ds_iff hk).mp (Nat.le_of_eq h)
  have h2 : (laN T n y g k).testBit w = false := by
    cases hb : (laN T n y g k).testBit w with
    | false => rfl
    | true => have := (ds_iff (T := T) (n := n) (y := y) (g := g) (show k ≤ 10 by omega)).mpr hb; omega
  rw [laN, Nat.testBit_or, h2, Bool.false_or, Nat.testBit_and, Bool.and_eq_true] at h1
  obtain ⟨hw, j, hj1, hj2⟩ := in_ex h1.2
  have hj3 : j < n := by
    rcases Nat.lt_or_ge j n with a | a
    · exact a
    · rw [Nat.testBit_lt_two_pow (Nat.lt_of_lt_of_le (la_lt hg k) (Nat.pow_le_pow_right (by decide) a))] at hj2; cases hj2
  obtain ⟨b, b1, b2, b3, b4, b5, b6⟩ := nx_ok (u := u) (show k ≤ 10 by omega) hj3 hj1 (hu j k hj1 hj2) hj2
  refine ⟨b, b1, b2, b3, b4, b5, ?_⟩
  rcases Nat.lt_or_ge (dsN T n y g 10 b) k with hlt | hge
  · exfalso
    obtain ⟨m, rfl⟩ : ∃ m, k = m + 1 := ⟨k - 1, by omega⟩
    have h5 := (ds_iff (T := T) (n := n) (y := y) (g := g) (show m ≤ 10 by omega)).mp (show dsN T n y g 10 b ≤ m by omega)
    have h6 : (laN T n y g (m + 1)).testBit w = true := by
      rw [laN, Nat.testBit_or, Bool.or_eq_true]
      refine Or.inr ?_
      rw [Nat.testBit_and, h1.1, in_of hw b4 h5]
      rfl
    rw [h6] at h2
    cases h2
  · omega
end

