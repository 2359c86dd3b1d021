-- states that are tried: one letter's or step's turn, another fair letter
theorem up_self (z : Nat → Int32) (k : Nat) : upd z k (z k) = z := by
  funext j
  by_cases h : j = k
  · subst h; exact up_eq _ _ _
  · exact up_ne _ _ h
theorem up_back (z : Nat → Int32) (k : Nat) (x y : Int32) (h : y = z k) : upd (upd z k x) k y = z := by rw [upd_upd, h, up_self]
section
variable {z : Nat → Int32} {n f : Nat} {L T ln : Nat → Nat} {sg : Nat → Nat → Nat}
theorem ZZ.fair (h : ZZ z n f L T ln sg) (ho : OK n f L T ln sg) (g : Nat) : ZZ (upd z 1 (fI g)) n g L T ln sg := by
  obtain ⟨h1, h2, h3, h4, h5, h6⟩ := h
  refine ⟨?_, up_eq _ _ _, fun i hi => ?_, fun i hi => ?_, fun w hw => ?_, fun w hw k hk => ?_⟩
  · rw [up_ne _ _ (by decide)]; exact h1
  · rw [up_ne _ _ (by omega)]; exact h3 i hi
  · rw [up_ne _ _ (by omega)]; exact h4 i hi
  · rw [up_ne _ _ (by omega)]; exact h5 w hw
  · rw [up_ne _ _ (by omega)]; exact h6 w hw k hk
theorem OK.fair (ho : OK n f L T ln sg) {g : Nat} (hg : g ≤ 4) : OK n g L T ln sg := ⟨ho.1, hg, ho.2.2⟩
theorem ZZ.flip (h : ZZ z n f L T ln sg) (ho : OK n f L T ln sg) {i : Nat} (hi : i < n) (x : Nat) : ZZ (upd z (2 + i) (nI x)) n f (upN L i x) T ln sg := by
  obtain ⟨h1, h2, h3, h4, h5, h6⟩ := h
  have hn := ho.1
  refine ⟨?_, ?_, fun j hj => ?_, fun j hj => ?_, fun w hw => ?_, fun w hw k hk => ?_⟩
  · rw [up_ne _ _ (by omega)]; exact h1
  · rw [up_ne _ _ (by omega)]; exact h2
  · by_cases e : j = i
    · subst e; rw [up_eq, upN_eq]
    · rw [up_ne _ _ (by omega), upN_ne _ _ e]; exact h3 j hj
  · rw [up_ne _ _ (by omega)]; exact h4 j hj
  · rw [up_ne _ _ (by omega)]; exact h5 w hw
  · rw [up_ne _ _ (by omega)]; exact h6 w hw k hk
theorem ZZ.turn (h : ZZ z n f L T ln sg) (ho : OK n f L T ln sg) {i : Nat} (hi : i < n) (x : Nat) : ZZ (upd z (12 + i) (nI x)) n f L (upN T i x) ln sg := by
  obtain ⟨h1, h2, h3, h4, h5, h6⟩ := h
  have hn := ho.1
  refine ⟨?_, ?_, fun j hj => ?_, fun j hj => ?_, fun w hw => ?_, fun w hw k hk => ?_⟩
  · rw [up_ne _ _ (by omega)]; exact h1
  · rw [up_ne _ _ (by omega)]; exact h2
  · rw [up_ne _ _ (by omega)]; exact h3 j hj
  · by_cases e : j = i
    · subst e; rw [up_eq, upN_eq]
    · rw [up_ne _ _ (by omega), upN_ne _ _ e]; exact h4 j hj
  · rw [up_ne _ _ (by omega)]; exact h5 w hw
  · rw [up_ne _ _ (by omega)]; exact h6 w hw k hk
theorem OK.flip (ho : OK n f L T ln sg) (i : Nat) {x : Nat} (hx : x < 16) : OK n f (upN L i x) T ln sg := ⟨ho.1, ho.2.1, fun j hj => by
  by_cases e : j = i
  · subst e; rw [upN_eq]; exact hx
  · rw [upN_ne _ _ e]; exact ho.2.2.1 j hj, ho.2.2.2⟩
theorem OK.turn (ho : OK n f L T ln sg) (i : Nat) {x : Nat} (hx : x < 2 ^ n) : OK n f L (upN T i x) ln sg := ⟨ho.1, ho.2.1, ho.2.2.1, fun j hj => by
  by_cases e : j = i
  · subst e; rw [upN_eq]; exact hx
  · rw [upN_ne _ _ e]; exact ho.2.2.2.1 j hj, ho.2.2.2.2⟩
end
theorem xo_lt {a b k : Nat} (ha : a < 2 ^ k) (hb : b < k) : a ^^^ 2 ^ b < 2 ^ k := Nat.xor_lt_two_pow ha (Nat.pow_lt_pow_right (by decide) hb)
theorem xo_back (a b : Nat) : (a ^^^ b) ^^^ b = a := by rw [Nat.xor_assoc, Nat.xor_self, Nat.xor_zero]
section
variable (T : Nat → Nat) (n f : Nat) (L : Nat → Nat) (ln : Nat → Nat) (sg : Nat → Nat → Nat)
def tryB (w u : Nat) : Bool := decide ((hW T n f L ln sg w >>> u) &&& 1 = 1)
def fxo (b : Bool) (nm : Nat) (p : Nat × Int32) : Nat × Int32 := (p.1 + (if b = true then 1 else 0), if b = true ∧ p.1 = 0 then nI nm else p.2)
def fxs (is : Nat → Nat → Bool) (c i : Nat) (p : Nat × Int32) : Nat → Nat × Int32
  | 0 => p
  | k + 1 => fxo (is i k) (c * i + k) (fxs is c i p k)
def fxt (is : Nat → Nat → Bool) (c m : Nat) : Nat → Nat × Int32
  | 0 => (0, -1)
  | i + 1 => fxs is c i (fxt is c m i) m
def isF (fl : Bool) (w u i k : Nat) : Bool := match fl with
  | true => tryB T n f (upN L i (L i ^^^ 2 ^ k)) ln sg w u
  | false => tryB (upN T i (T i ^^^ 2 ^ k)) n f L ln sg w u
def cF (fl : Bool) : Nat := match fl with
  | true => 4
  | false => 10
def mF (fl : Bool) : Nat := match fl with
  | true => 4
  | false => n
def fxP (fl : Bool) (w u : Nat) : Nat × Int32 := fxt (isF T n f L ln sg fl w u) (cF fl) (mF n fl) n
def fxI (w u what : Nat) : Int32 := if ln w = 0 then -1 else if what % 2 = 0 then nI (fxP T n f L ln sg (decide (what < 2)) w u).1 else (fxP T n f L ln sg (decide (what < 2)) w u).2
end
theorem fxs_le (is : Nat → Nat → Bool) (c i : Nat) (p : Nat × Int32) : ∀ k, (fxs is c i p k).1 ≤ p.1 + k := by
  intro k
  induction k with
  | zero => exact Nat.le_refl _
  | succ k ih => show (fxs is c i p k).1 + _ ≤ _; split <;> omega
theorem fxt_le (is : Nat → Nat → Bool) (c m : Nat) : ∀ i, (fxt is c m i).1 ≤ i * m := by
  intro i
  induction i with
  | zero => exact Nat.zero_le _
  | succ i ih =>
    have h := fxs_le is c i (fxt is c m i) m
    rw [Nat.succ_mul]
    exact Nat.le_trans h (Nat.add_le_add_right ih m)
theorem fx_100 {is : Nat → Nat → Bool} {c m n i k : Nat} (hn : n ≤ 10) (hm : m = 4 ∨ m = n) (hi : i < n) (hk : k ≤ m) : (fxs is c i (fxt is c m i) k).1 ≤ 100 := by
  have h1 := fxs_le is c i (fxt is c m i) k
  have h2 := fxt_le is c m i
  have h3 : i * m ≤ 9 * m := Nat.mul_le_mul_right m (by omega)
  omega
def hpN (T : Nat → Nat) (n f : Nat) (L : Nat → Nat) (ln : Nat → Nat) (sg : Nat → Nat → Nat) : Nat → Nat
  | 0 => 0
  | i + 1 => hpN T n f L ln sg i + ctN (waN T n f L ln sg i 4) 10
/-- h of p -/
def shV (h p : Nat) : UInt64 := if p = 0 then 0x3ff0000000000000 else FP.ddiv (FP.i2d (nI h)) (FP.i2d (nI p))
theorem sh_nan : ∀ h, h < 41 → ∀ p, p < 41 → p ≠ 0 → vf_n64 (FP.ddiv (FP.i2d (nI h)) (FP.i2d (nI p))) := by
  unfold vf_n64
  decide +kernel
theorem hp_le (T : Nat → Nat) (n f : Nat) (L : Nat → Nat) (ln : Nat → Nat) (sg : Nat → Nat → Nat) : ∀ i, hpN T n f L ln sg i ≤ i * 4 := by
  intro i
  induction i with
  | zero => exact Nat.le_refl _
  | succ i ih =>
    have h : ctN (waN T n f L ln sg i 4) 10 ≤ 4 := by
      have h1 := wa_lt (T := T) (n := n) (f := f) (L := L) (ln := ln) (sg := sg) i 4
      have h2 : ∀ a, a < 2 ^ 4 → ctN a 10 ≤ 4 := by decide +kernel
      exact h2 _ h1
    rw [hpN]
    omega
theorem wm_le (ln : Nat → Nat) : ∀ w, wmN ln w ≤ w := by
  intro w
  induction w with
  | zero => exact Nat.le_refl _
  | succ w ih => rw [wmN]; split <;> omega

