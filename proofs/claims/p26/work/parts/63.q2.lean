-- growing sets
theorem gr_fix {R : Nat → Nat} {n : Nat} (hs : ∀ w, sbN w (R w)) (hl : ∀ w, w < 2 ^ n → R w < 2 ^ n) : ∀ k w, w < 2 ^ n → n - ctN w n < k → R (fxN R k w) = fxN R k w := by
  intro k
  induction k with
  | zero => intro w _ h; omega
  | succ k ih =>
    intro w hw hk
    rw [fxN]
    by_cases h : R w = w
    · rw [if_pos h]; exact h
    · rw [if_neg h]
      have h2 := ct_lt (hs w) (Ne.symm h) (hl w hw)
      have h3 := ct_le (R w) n
      exact ih _ (hl w hw) (by omega)
theorem gr_more {R : Nat → Nat} {n : Nat} (hs : ∀ w, sbN w (R w)) (hl : ∀ w, w < 2 ^ n → R w < 2 ^ n) : ∀ k w, w < 2 ^ n → n - ctN w n < k → fxN R k w = fxN R (k + 1) w := by
  intro k
  induction k with
  | zero => intro w _ h; omega
  | succ k ih =>
    intro w hw hk
    by_cases h : R w = w
    · rw [fxN, fxN, if_pos h, if_pos h]
    · have h2 := ct_lt (hs w) (Ne.symm h) (hl w hw)
      have h3 := ct_le (R w) n
      have h1 := ih (R w) (hl w hw) (by omega)
      rw [fxN, fxN, if_neg h, if_neg h]
      exact h1
theorem gr_at {R : Nat → Nat} {n : Nat} (hn : n ≤ 10) (hs : ∀ w, sbN w (R w)) (hl : ∀ w, w < 2 ^ n → R w < 2 ^ n) {w : Nat} (hw : w < 2 ^ n) : fxN R 11 w = if R w = w then w else fxN R 11 (R w) := by
  by_cases h : R w = w
  · rw [fxN, if_pos h, if_pos h]
  · have h2 := ct_lt (hs w) (Ne.symm h) (hl w hw)
    have h3 := ct_le (R w) n
    rw [if_neg h, ← gr_more hs hl 10 (R w) (hl w hw) (by omega), fxN, if_neg h]
theorem fx_inv {R : Nat → Nat} {p : Nat → Prop} (hp : ∀ w, p w → p (R w)) : ∀ k w, p w → p (fxN R k w) := by
  intro k
  induction k with
  | zero => intro w h; exact h
  | succ k ih =>
    intro w h
    rw [fxN]
    split
    · exact h
    · exact ih _ (hp w h)
-- "EU" by fronts
theorem un_fix {T : Nat → Nat} {n y g : Nat} (hn : n ≤ 10) (hg : g < 2 ^ n) : uN T n y (unN T n y g) = unN T n y g := gr_fix (uN_sub T n y) (fun w hw => uN_lt T n y hw) 11 g hg (by omega)
theorem un_sup {T : Nat → Nat} {n y : Nat} : ∀ k g, sbN g (fxN (uN T n y) k g) := by
  intro k
  induction k with
  | zero => intro g; exact sb_rf g
  | succ k ih =>
    intro g
    rw [fxN]
    split
    · exact sb_rf g
    · exact sb_tr (uN_sub T n y g) (ih _)
theorem la_stop {T : Nat → Nat} {n y g k : Nat} (h : laN T n y g (k + 1) = laN T n y g k) : ∀ m, k ≤ m → laN T n y g m = laN T n y g k := by
  intro m hm
  induction hm with
  | refl => rfl
  | step _ ih => rw [laN, ih]; exact h
theorem la_un {T : Nat → Nat} {n y g : Nat} (hn : n ≤ 10) (hg : g < 2 ^ n) : laN T n y g n = unN T n y g := by
  have hst : laN T n y g (n + 1) = laN T n y g n := by
    by_cases h : laN T n y g (n + 1) = laN T n y g n
    · exact h
    · have h1 := la_go hg n h
      have h2 := ct_le (laN T n y g (n + 1)) n
      omega
  apply sb_as
  · have hu := un_fix (T := T) (y := y) hn hg
    have h0 : sbN g (unN T n y g) := un_sup 11 g
    have hk : ∀ k, sbN (laN T n y g k) (unN T n y g) := by
      intro k
      induction k with
      | zero => exact h0
      | succ k ih =>
        have h1 : sbN (uN T n y (laN T n y g k)) (uN T n y (unN T n y g)) := sb_of (fun i hi => by
          rw [uN, Nat.testBit_or, Bool.or_eq_true] at hi ⊢
          exact hi.imp (sb_bit ih) (sb_bit (sb_and (sb_in ih))))
        rw [hu] at h1
        exact h1
    exact hk n
  · have h1 := fx_la (T := T) (n := n) (y := y) (g := g) 11 0
    rw [Nat.zero_add, la_stop hst 11 (by omega)] at h1
    exact h1
/-- one round of the law's fronts -/
theorem cm_step {T : Nat → Nat} {n y g i F : Nat} (h : sbN (y &&& inN T (laN T n y g i) n) (laN T n y g i ||| (y &&& inN T F n))) : laN T n y g i ||| ndN (y &&& inN T F n) (laN T n y g i) = laN T n y g i ||| (y &&& inN T F n) := or_nd _ _
theorem cm_inv {T : Nat → Nat} {n y g i F : Nat} (hF : sbN F (laN T n y g i)) (h : sbN (y &&& inN T (laN T n y g i) n) (laN T n y g i ||| (y &&& inN T F n))) :
    laN T n y g i ||| ndN (y &&& inN T F n) (laN T n y g i) = laN T n y g (i + 1) ∧ sbN (ndN (y &&& inN T F n) (laN T n y g i)) (laN T n y g (i + 1)) ∧ sbN (y &&& inN T (laN T n y g (i + 1)) n) (laN T n y g (i + 1) ||| (y &&& inN T (ndN (y &&& inN T F n) (laN T n y g i)) n)) := by
  have e1 : laN T n y g i ||| ndN (y &&& inN T F n) (laN T n y g i) = laN T n y g (i + 1) := by
    rw [or_nd]
    apply sb_as
    · apply sb_of
      intro j hj
      rw [Nat.testBit_or, Bool.or_eq_true] at hj
      rw [laN, Nat.testBit_or, Bool.or_eq_true]
      exact hj.imp id (sb_bit (sb_and (sb_in hF)))
    · apply sb_of
      intro j hj
      rw [laN, Nat.testBit_or, Bool.or_eq_true] at hj
      rcases hj with hj | hj
      · rw [Nat.testBit_or, hj]; rfl
      · exact sb_bit h hj
  refine ⟨e1, ?_, ?_⟩
  · rw [← e1]
    exact sb_of (fun j hj => by rw [Nat.testBit_or, hj, Bool.or_true])
  · have e2 : inN T (laN T n y g (i + 1)) n = inN T (laN T n y g i) n ||| inN T (ndN (y &&& inN T F n) (laN T n y g i)) n := by rw [← e1, inN_or]
    apply sb_of
    intro j hj
    rw [e2, Nat.and_or_distrib_left, Nat.testBit_or, Bool.or_eq_true] at hj
    rw [Nat.testBit_or, Bool.or_eq_true]
    rcases hj with hj | hj
    · refine Or.inl ?_
      rw [laN, Nat.testBit_or, Bool.or_eq_true]
      exact Or.inr hj
    · exact Or.inr hj
-- worlds reached within a set
def rxN (T : Nat → Nat) (s x : Nat) : Nat → Nat
  | 0 => x
  | i + 1 => rxN T s x i ||| if x >>> i &&& 1 = 1 then T i &&& s else 0
def reN (T : Nat → Nat) (n s i : Nat) : Nat := fxN (fun x => rxN T s x n) 11 (T i &&& s)
theorem rx_sb (T : Nat → Nat) (s x : Nat) : ∀ i, sbN x (rxN T s x i) := by
  intro i
  induction i with
  | zero => exact sb_rf x
  | succ i ih => exact sb_tr ih (sb_or_l _ _)
theorem rx_lt {T : Nat → Nat} {n s x : Nat} (hT : ∀ i, i < n → T i < 2 ^ n) (hx : x < 2 ^ n) : ∀ i, i ≤ n → rxN T s x i < 2 ^ n := by
  intro i
  induction i with
  | zero => intro _; exact hx
  | succ i ih =>
    intro hi
    rw [rxN]
    refine or_lt (ih (by omega)) ?_
    split
    · exact and_lt (hT i (by omega))
    · exact Nat.two_pow_pos n
theorem rx_bit {T : Nat → Nat} {s x j : Nat} : ∀ i, (rxN T s x i).testBit j = true ↔ x.testBit j = true ∨ ∃ m, m < i ∧ x.testBit m = true ∧ (T m).testBit j = true ∧ s.testBit j = true := by
  intro i
  induction i with
  | zero => exact ⟨Or.inl, fun h => h.elim id (fun ⟨m, h, _⟩ => absurd h (Nat.not_lt_zero m))⟩
  | succ i ih =>
    rw [rxN, Nat.testBit_or, Bool.or_eq_true, ih]
    constructor
    · rintro ((h | ⟨m, h1, h2⟩) | h)
      · exact Or.inl h
      · exact Or.inr ⟨m, by omega, h2⟩
      · split at h
        · rename_i h1
          rw [Nat.testBit_and, Bool.and_eq_true] at h
          exact Or.inr ⟨i, Nat.lt_succ_self i, (tb_1 _ _).mp h1, h⟩
        · rw [Nat.zero_testBit] at h; cases h
    · rintro (h | ⟨m, h1, h2, h3⟩)
      · exact Or.inl (Or.inl h)
      · by_cases e : m = i
        · subst e
          refine Or.inr ?_
          rw [if_pos ((tb_1 _ _).mpr h2), Nat.testBit_and, Bool.and_eq_true]
          exact h3
        · exact Or.inl (Or.inr ⟨m, by omega, h2, h3⟩)
/-- a row of k + 1 steps within s -/
def pN (T : Nat → Nat) (s : Nat) : Nat → Nat → Nat → Prop
  | 0, i, j => (T i).testBit j = true ∧ s.testBit j = true
  | k + 1, i, j => ∃ m, ((T i).testBit m = true ∧ s.testBit m = true) ∧ pN T s k m j
def Re (T : Nat → Nat) (s i j : Nat) : Prop := ∃ k, pN T s k i j
theorem re_1 {T : Nat → Nat} {s i j : Nat} (h : (T i).testBit j = true) (h2 : s.testBit j = true) : Re T s i j := ⟨0, h, h2⟩
theorem re_s {T : Nat → Nat} {s i m j : Nat} (h : (T i).testBit m = true) (h2 : s.testBit m = true) (h3 : Re T s m j) : Re T s i j := by
  obtain ⟨k, h3⟩ := h3
  exact ⟨k + 1, m, ⟨h, h2⟩, h3⟩
theorem re_p {T : Nat → Nat} {s l : Nat} : ∀ k i j, pN T s k i j → Re T s j l → Re T s i l := by
  intro k
  induction k with
  | zero => intro i j h h2; exact re_s h.1 h.2 h2
  | succ k ih =>
    intro i j h h2
    obtain ⟨m, h3, h4⟩ := h
    exact re_s h3.1 h3.2 (ih m j h4 h2)
theorem re_tr {T : Nat → Nat} {s i j l : Nat} (h : Re T s i j) (h2 : Re T s j l) : Re T s i l := by
  obtain ⟨k, h⟩ := h
  exact re_p k i j h h2
theorem p_in {T : Nat → Nat} {s : Nat} : ∀ k i j, pN T s k i j → s.testBit j = true := by
  intro k
  induction k with
  | zero => intro i j h; exact h.2
  | succ k ih =>
    intro i j h
    obtain ⟨m, _, h4⟩ := h
    exact ih m j h4
theorem re_in {T : Nat → Nat} {s i j : Nat} (h : Re T s i j) : s.testBit j = true := by
  obtain ⟨k, h⟩ := h
  exact p_in k i j h
theorem p_mono {T : Nat → Nat} {s s' : Nat} (hs : sbN s s') : ∀ k i j, pN T s k i j → pN T s' k i j := by
  intro k
  induction k with
  | zero => intro i j h; exact ⟨h.1, sb_bit hs h.2⟩
  | succ k ih =>
    intro i j h
    obtain ⟨m, h3, h4⟩ := h
    exact ⟨m, ⟨h3.1, sb_bit hs h3.2⟩, ih m j h4⟩
theorem re_mono {T : Nat → Nat} {s s' i j : Nat} (hs : sbN s s') (h : Re T s i j) : Re T s' i j := by
  obtain ⟨k, h⟩ := h
  exact ⟨k, p_mono hs k i j h⟩
section
variable {T : Nat → Nat} {n : Nat}
theorem bit_lt {a i : Nat} (h : a < 2 ^ n) (hi : a.testBit i = true) : i < n := (all_bit h hi).1
theorem re_lt (hT : ∀ i, i < n → T i < 2 ^ n) {s i : Nat} (hi : i < n) : reN T n s i < 2 ^ n := fx_inv (p := fun w => w < 2 ^ n) (fun w hw => rx_lt hT hw n (Nat.le_refl n)) 11 _ (and_lt (hT i hi))
theorem re_at (hn : n ≤ 10) (hT : ∀ i, i < n → T i < 2 ^ n) {s x : Nat} (hx : x < 2 ^ n) : fxN (fun x => rxN T s x n) 11 x = if rxN T s x n = x then x else fxN (fun x => rxN T s x n) 11 (rxN T s x n) := gr_at (R := fun x => rxN T s x n) hn (fun w => rx_sb T s w n) (fun w hw => rx_lt hT hw n (Nat.le_refl n)) hx
theorem re_bit (hn : n ≤ 10) (hT : ∀ i, i < n → T i < 2 ^ n) {s i j : Nat} (hi : i < n) : (reN T n s i).testBit j = true ↔ Re T s i j := by
  constructor
  · have h1 : ∀ j, (reN T n s i).testBit j = true → Re T s i j := by
      refine fx_inv (R := fun x => rxN T s x n) (p := fun w => ∀ j, w.testBit j = true → Re T s i j) (fun w hw j hj => ?_) 11 _ (fun j hj => ?_)
      · rcases (rx_bit n).mp hj with h | ⟨m, _, h2, h3, h4⟩
        · exact hw j h
        · exact re_tr (hw m h2) (re_1 h3 h4)
      · rw [Nat.testBit_and, Bool.and_eq_true] at hj
        exact re_1 hj.1 hj.2
    exact h1 j
  · have hlt := re_lt hT (s := s) hi
    have hfix : rxN T s (reN T n s i) n = reN T n s i := gr_fix (R := fun x => rxN T s x n) (fun w => rx_sb T s w n) (fun w hw => rx_lt hT hw n (Nat.le_refl n)) 11 _ (and_lt (hT i hi)) (by omega)
    have hsup : ∀ k w, sbN w (fxN (fun x => rxN T s x n) k w) := by
      intro k
      induction k with
      | zero => intro w; exact sb_rf w
      | succ k ih =>
        intro w
        rw [fxN]
        split
        · exact sb_rf w
        · exact sb_tr (rx_sb T s w n) (ih _)
    have hbase : sbN (T i &&& s) (reN T n s i) := hsup 11 _
    have hst : ∀ m j, (reN T n s i).testBit m = true → (T m).testBit j = true → s.testBit j = true → (reN T n s i).testBit j = true := by
      intro m j h1 h2 h3
      rw [← hfix]
      exact (rx_bit n).mpr (Or.inr ⟨m, bit_lt hlt h1, h1, h2, h3⟩)
    have hp : ∀ k m j, (reN T n s i).testBit m = true → pN T s k m j → (reN T n s i).testBit j = true := by
      intro k
      induction k with
      | zero => intro m j h1 h2; exact hst m j h1 h2.1 h2.2
      | succ k ih =>
        intro m j h1 h2
        obtain ⟨l, h3, h4⟩ := h2
        exact ih l j (hst m l h1 h3.1 h3.2) h4
    rintro ⟨k, hk⟩
    cases k with
    | zero => exact sb_bit hbase (by rw [Nat.testBit_and, hk.1, hk.2]; rfl)
    | succ k =>
      obtain ⟨m, h3, h4⟩ := hk
      exact hp k m j (sb_bit hbase (by rw [Nat.testBit_and, h3.1, h3.2]; rfl)) h4
-- "EG" by what stays
theorem wl_bit (L : Nat → Nat) (c i : Nat) : ∀ k, (wlN L c k).testBit i = (decide (i < k) && (L i).testBit c) := by
  intro k
  induction k with
  | zero => simp [wlN]
  | succ k ih =>
    rw [wlN, Nat.testBit_or, ih]
    have hb : (((L k >>> c) &&& 1) * 2 ^ k).testBit i = (decide (i = k) && (L k).testBit c) := by
      rcases b01 (L k) c with h | h
      · rw [h, Nat.zero_mul, Nat.zero_testBit]
        have : (L k).testBit c = false := by
          cases hx : (L k).testBit c with
          | false => rfl
          | true => rw [(tb_1 _ _).mpr hx] at h; cases h
        rw [this, Bool.and_false]
      · rw [h, Nat.one_mul, (tb_1 _ _).mp h, Bool.and_true, Nat.testBit_two_pow]
        by_cases e : k = i
        · simp [e]
        · simp [e, Ne.symm e]
    rw [hb]
    by_cases e : i = k
    · subst e; simp
    · have h1 : decide (i = k) = false := decide_eq_false e
      have h2 : decide (i < k + 1) = decide (i < k) := by apply decide_eq_decide.mpr; omega
      rw [h1, h2, Bool.false_and, Bool.or_false]
def faN (f : Nat) (L : Nat → Nat) (i : Nat) : Prop := f = 4 ∨ (L i).testBit f = true
theorem go_bit {f s i : Nat} {L : Nat → Nat} (hs : s < 2 ^ n) : (goN n f L s).testBit i = true ↔ s.testBit i = true ∧ faN f L i := by
  rw [goN, faN]
  split
  · rename_i h; exact ⟨fun a => ⟨a, Or.inl h⟩, fun a => a.1⟩
  · rename_i h
    rw [Nat.testBit_and, Bool.and_eq_true, wl_bit, Bool.and_eq_true]
    exact ⟨fun a => ⟨a.1, Or.inr a.2.2⟩, fun a => ⟨a.1, decide_eq_true (bit_lt hs a.1), a.2.resolve_left h⟩⟩
theorem bN_bit {w g : Nat} (hw : w < 2 ^ n) (hg : sbN g w) {i : Nat} : ∀ j, (bN T n w g j).testBit i = true → w.testBit i = true ∧ ∃ l, g.testBit l = true ∧ Re T w i l := by
  intro j
  induction j generalizing i with
  | zero => intro h; rw [bN, Nat.zero_testBit] at h; cases h
  | succ j ih =>
    intro h
    rw [bN, Nat.testBit_and, Bool.and_eq_true] at h
    obtain ⟨h1, h2⟩ := h
    obtain ⟨hin, m, h3, h4⟩ := in_ex h2
    refine ⟨h1, ?_⟩
    rw [Nat.testBit_or, Bool.or_eq_true] at h4
    rcases h4 with h4 | h4
    · exact ⟨m, h4, re_1 h3 (sb_bit hg h4)⟩
    · obtain ⟨h5, l, h6, h7⟩ := ih h4
      exact ⟨l, h6, re_s h3 h5 h7⟩
theorem bN_up {w g : Nat} : ∀ {j m : Nat}, j ≤ m → sbN (bN T n w g j) (bN T n w g m) := by
  intro j m h
  induction h with
  | refl => exact sb_rf _
  | step _ ih => exact sb_tr ih (bN_sub T n w g _)
theorem bN_all (hn : n ≤ 10) {w g : Nat} (j : Nat) : sbN (bN T n w g j) (bN T n w g 10) := by
  by_cases h : j ≤ 10
  · exact bN_up h
  · have h11 : bN T n w g 11 = bN T n w g 10 := Classical.byContradiction (fun e => by have := bN_go hn e; omega)
    rw [bN_stop h11 j (by omega)]
    exact sb_rf _
theorem bN_of {w g l : Nat} (hg : g.testBit l = true) : ∀ k i, i < n → w.testBit i = true → w < 2 ^ n → pN T w k i l → (bN T n w g (k + 1)).testBit i = true := by
  intro k
  induction k with
  | zero =>
    intro i hi hw _ h
    rw [bN, Nat.testBit_and, hw, Bool.true_and]
    exact in_of hi h.1 (by rw [Nat.testBit_or, hg]; rfl)
  | succ k ih =>
    intro i hi hw hwl h
    obtain ⟨m, h3, h4⟩ := h
    rw [bN, Nat.testBit_and, hw, Bool.true_and]
    exact in_of hi h3.1 (by rw [Nat.testBit_or, ih m (bit_lt hwl h3.2) h3.2 hwl h4, Bool.or_true])
theorem rN_bit (hn : n ≤ 10) {f : Nat} {L : Nat → Nat} {w i : Nat} (hw : w < 2 ^ n) : (rN T n f L w).testBit i = true ↔ w.testBit i = true ∧ ∃ l, (goN n f L w).testBit l = true ∧ Re T w i l := by
  constructor
  · exact bN_bit hw (goN_sub n f L w) 10
  · rintro ⟨h1, l, h2, k, h3⟩
    exact sb_bit (bN_all hn (k + 1)) (bN_of h2 k i (bit_lt hw h1) h1 hw h3)
/-- a goal that comes again and again within s -/
def Go (T : Nat → Nat) (f : Nat) (L : Nat → Nat) (s g : Nat) : Prop := s.testBit g = true ∧ faN f L g ∧ Re T s g g
def Sy (T : Nat → Nat) (f : Nat) (L : Nat → Nat) (s i : Nat) : Prop := s.testBit i = true ∧ ∃ g, Go T f L s g ∧ (g = i ∨ Re T s i g)
theorem sy_path {f : Nat} {L : Nat → Nat} {s w g : Nat} (hS : ∀ i, Sy T f L s i → w.testBit i = true) (hg : Go T f L s g) : ∀ k i, pN T s k i g → pN T w k i g := by
  intro k
  induction k with
  | zero => intro i h; exact ⟨h.1, hS g ⟨h.2, g, hg, Or.inl rfl⟩⟩
  | succ k ih =>
    intro i h
    obtain ⟨m, h3, h4⟩ := h
    exact ⟨m, ⟨h3.1, hS m ⟨h3.2, g, hg, Or.inr ⟨k, h4⟩⟩⟩, ih m h4⟩
theorem sy_st (hn : n ≤ 10) {f : Nat} {L : Nat → Nat} {s : Nat} (hs : s < 2 ^ n) : ∀ i, Sy T f L s i → (stN T n f L s).testBit i = true := by
  have h1 : stN T n f L s < 2 ^ n ∧ ∀ i, Sy T f L s i → (stN T n f L s).testBit i = true := by
    refine fx_inv (R := rN T n f L) (p := fun w => w < 2 ^ n ∧ ∀ i, Sy T f L s i → w.testBit i = true) (fun w hw => ⟨rN_lt T n f L w, fun i hi => ?_⟩) 11 s ⟨hs, fun i hi => hi.1⟩
    obtain ⟨hwl, hS⟩ := hw
    refine (rN_bit hn hwl).mpr ⟨hS i hi, ?_⟩
    obtain ⟨h2, g, h3, h4⟩ := hi
    refine ⟨g, (go_bit hwl).mpr ⟨hS g ⟨h3.1, g, h3, Or.inl rfl⟩, h3.2.1⟩, ?_⟩
    rcases h4 with rfl | ⟨k, h4⟩
    · obtain ⟨k, h5⟩ := h3.2.2
      exact ⟨k, sy_path hS h3 k _ h5⟩
    · exact ⟨k, sy_path hS h3 k _ h4⟩
  exact h1.2
theorem st_cyc (hn : n ≤ 10) (hT : ∀ i, i < n → T i < 2 ^ n) {f : Nat} {L : Nat → Nat} {F : Nat} (hF : F < 2 ^ n) (hfix : rN T n f L F = F) : ∀ k i, F.testBit i = true → ctN (reN T n F i) n < k → ∃ g, (goN n f L F).testBit g = true ∧ Re T F i g ∧ Re T F g g := by
  intro k
  induction k with
  | zero => intro i _ h; omega
  | succ k ih =>
    intro i hi hk
    have h1 := hi
    rw [← hfix] at h1
    obtain ⟨-, g, h2, h3⟩ := (rN_bit hn hF).mp h1
    have hgF := ((go_bit hF).mp h2).1
    by_cases hgg : Re T F g g
    · exact ⟨g, h2, h3, hgg⟩
    · have hin := bit_lt hF hi
      have hgn := bit_lt hF hgF
      have hsub : sbN (reN T n F g) (reN T n F i) := sb_of (fun j hj => (re_bit hn hT hin).mpr (re_tr h3 ((re_bit hn hT hgn).mp hj)))
      have hne : reN T n F g ≠ reN T n F i := fun e => hgg ((re_bit hn hT hgn).mp (by rw [e]; exact (re_bit hn hT hin).mpr h3))
      have hlt := ct_lt hsub hne (re_lt hT hin)
      obtain ⟨l, h4, h5, h6⟩ := ih g hgF (by omega)
      exact ⟨l, h4, re_tr h3 h5, h6⟩
theorem st_sy (hn : n ≤ 10) (hT : ∀ i, i < n → T i < 2 ^ n) {f : Nat} {L : Nat → Nat} {s i : Nat} (hs : s < 2 ^ n) (h : (stN T n f L s).testBit i = true) : Sy T f L s i := by
  have hF := st_lt T n f L hs
  obtain ⟨g, h1, h2, h3⟩ := st_cyc hn hT hF (st_fix hn hs) (ctN (reN T n (stN T n f L s) i) n + 1) i h (Nat.lt_succ_self _)
  have hsub := st_sub T n f L s
  have h4 := (go_bit hF).mp h1
  exact ⟨sb_bit hsub h, g, ⟨sb_bit hsub h4.1, h4.2, re_mono hsub h3⟩, Or.inr (re_mono hsub h2)⟩
def gsN (T : Nat → Nat) (n f : Nat) (L : Nat → Nat) (s : Nat) : Nat → Nat
  | 0 => 0
  | i + 1 => gsN T n f L s i ||| if (s >>> i &&& 1 = 1 ∧ (f = 4 ∨ L i >>> f &&& 1 = 1)) ∧ reN T n s i >>> i &&& 1 = 1 then 2 ^ i else 0
def asN (T : Nat → Nat) (n f : Nat) (L : Nat → Nat) (s : Nat) : Nat → Nat
  | 0 => 0
  | i + 1 => asN T n f L s i ||| if s >>> i &&& 1 = 1 ∧ (gsN T n f L s n >>> i &&& 1 = 1 ∨ ¬ reN T n s i &&& gsN T n f L s n = 0) then 2 ^ i else 0
theorem if_bit {p : Prop} [Decidable p] {i k : Nat} : (if p then 2 ^ k else 0).testBit i = true ↔ p ∧ i = k := by
  split
  · rename_i h
    rw [Nat.testBit_two_pow, decide_eq_true_eq]
    exact ⟨fun e => ⟨h, e.symm⟩, fun e => e.2.symm⟩
  · rename_i h
    rw [Nat.zero_testBit]
    exact ⟨fun e => absurd e (by decide), fun e => absurd e.1 h⟩
theorem gs_bit (hn : n ≤ 10) (hT : ∀ i, i < n → T i < 2 ^ n) {f : Nat} {L : Nat → Nat} {s j : Nat} : ∀ i, i ≤ n → ((gsN T n f L s i).testBit j = true ↔ j < i ∧ Go T f L s j) := by
  intro i
  induction i with
  | zero => intro _; rw [gsN, Nat.zero_testBit]; exact ⟨fun h => absurd h (by decide), fun h => absurd h.1 (Nat.not_lt_zero j)⟩
  | succ i ih =>
    intro hi
    rw [gsN, Nat.testBit_or, Bool.or_eq_true, ih (by omega), if_bit, tb_1, tb_1, tb_1, re_bit hn hT (by omega)]
    constructor
    · rintro (⟨h1, h2⟩ | ⟨⟨⟨h1, h2⟩, h3⟩, rfl⟩)
      · exact ⟨by omega, h2⟩
      · exact ⟨Nat.lt_succ_self _, h1, h2, h3⟩
    · rintro ⟨h1, h2, h3, h4⟩
      by_cases e : j = i
      · subst e
        exact Or.inr ⟨⟨⟨h2, h3⟩, h4⟩, rfl⟩
      · exact Or.inl ⟨by omega, h2, h3, h4⟩
theorem and_ex {a b : Nat} (h : ¬ a &&& b = 0) : ∃ j, a.testBit j = true ∧ b.testBit j = true := by
  apply Classical.byContradiction
  intro hno
  apply h
  apply Nat.eq_of_testBit_eq
  intro j
  rw [Nat.testBit_and, Nat.zero_testBit]
  cases ha : a.testBit j with
  | false => rfl
  | true =>
    cases hb : b.testBit j with
    | false => rfl
    | true => exact absurd ⟨j, ha, hb⟩ hno
theorem and_no {a b j : Nat} (h1 : a.testBit j = true) (h2 : b.testBit j = true) : ¬ a &&& b = 0 := fun e => by
  have h3 : (a &&& b).testBit j = true := by rw [Nat.testBit_and, h1, h2]; rfl
  rw [e, Nat.zero_testBit] at h3
  cases h3
theorem as_bit (hn : n ≤ 10) (hT : ∀ i, i < n → T i < 2 ^ n) {f : Nat} {L : Nat → Nat} {s j : Nat} (hs : s < 2 ^ n) : ∀ i, i ≤ n → ((asN T n f L s i).testBit j = true ↔ j < i ∧ Sy T f L s j) := by
  intro i
  induction i with
  | zero => intro _; rw [asN, Nat.zero_testBit]; exact ⟨fun h => absurd h (by decide), fun h => absurd h.1 (Nat.not_lt_zero j)⟩
  | succ i ih =>
    intro hi
    rw [asN, Nat.testBit_or, Bool.or_eq_true, ih (by omega), if_bit, tb_1, tb_1, gs_bit hn hT n (Nat.le_refl n)]
    constructor
    · rintro (⟨h1, h2⟩ | ⟨⟨h1, h2⟩, rfl⟩)
      · exact ⟨by omega, h2⟩
      · refine ⟨Nat.lt_succ_self _, h1, ?_⟩
        rcases h2 with ⟨-, h2⟩ | h2
        · exact ⟨j, h2, Or.inl rfl⟩
        · obtain ⟨g, h3, h4⟩ := and_ex h2
          exact ⟨g, ((gs_bit hn hT n (Nat.le_refl n)).mp h4).2, Or.inr ((re_bit hn hT (by omega)).mp h3)⟩
    · rintro ⟨h1, h2, g, h3, h4⟩
      by_cases e : j = i
      · subst e
        refine Or.inr ⟨⟨h2, ?_⟩, rfl⟩
        have hgn := bit_lt hs h3.1
        rcases h4 with rfl | h4
        · exact Or.inl ⟨hgn, h3⟩
        · exact Or.inr (and_no ((re_bit hn hT (by omega)).mpr h4) ((gs_bit hn hT n (Nat.le_refl n)).mpr ⟨hgn, h3⟩))
      · exact Or.inl ⟨by omega, h2, g, h3, h4⟩
theorem as_st (hn : n ≤ 10) (hT : ∀ i, i < n → T i < 2 ^ n) {f : Nat} {L : Nat → Nat} {s : Nat} (hs : s < 2 ^ n) : asN T n f L s n = stN T n f L s := by
  apply sb_as
  · exact sb_of (fun i hi => sy_st hn hs i ((as_bit hn hT hs n (Nat.le_refl n)).mp hi).2)
  · exact sb_of (fun i hi => (as_bit hn hT hs n (Nat.le_refl n)).mpr ⟨bit_lt (st_lt T n f L hs) hi, st_sy hn hT hs hi⟩)
theorem gs_lt {f : Nat} {L : Nat → Nat} {s : Nat} : ∀ i, i ≤ n → gsN T n f L s i < 2 ^ n := by
  intro i
  induction i with
  | zero => intro _; exact Nat.two_pow_pos n
  | succ i ih =>
    intro hi
    rw [gsN]
    refine or_lt (ih (by omega)) ?_
    split
    · exact Nat.pow_lt_pow_right (by decide) (by omega)
    · exact Nat.two_pow_pos n
end
