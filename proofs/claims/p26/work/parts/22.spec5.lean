-- looks: what they answer
section
variable (T : Nat → Nat) (n f : Nat) (L : Nat → Nat) (ln : Nat → Nat) (sg : Nat → Nat → Nat)
/-- the worlds in which wish w holds -/
def hW (w : Nat) : Nat := seW T n f L (ln w) (sg w) 0
def haN (i w : Nat) : Bool := decide (0 < ln w ∧ (hW T n f L ln sg w >>> i) &&& 1 = 1)
def waN (i : Nat) : Nat → Nat
  | 0 => 0
  | w + 1 => waN i w ||| if haN T n f L ln sg i w = true then 2 ^ w else 0
def twN (i : Nat) : Nat → Nat
  | 0 => L i
  | 1 => T i
  | 2 => inN T (2 ^ i) n
  | 3 => lvN T n f L >>> i &&& 1
  | _ => waN T n f L ln sg i 4
def roN (m : Nat) (s : Nat → Nat) : Nat → Nat
  | 0 => 0
  | i + 1 => roN m s i + if wayB (s i) = true then 0 else roW T n f L m s i
def rwI (m : Nat) (s : Nat → Nat) (i : Nat) : Int32 := if wayB (s i) = true then -1 else nI (roW T n f L m s i)
def tsN (w : Nat) : Nat → Nat
  | 0 => ln w
  | 1 => hW T n f L ln sg w
  | 2 => roN T n f L (ln w) (sg w) (ln w)
  | _ => deW (ln w) (sg w) 0
def tsI (w what : Nat) : Int32 := if ln w = 0 then -1 else nI (tsN T n f L ln sg w what)
def tgN (w i : Nat) : Nat → Nat
  | 1 => seW T n f L (ln w) (sg w) i
  | 2 => roW T n f L (ln w) (sg w) i
  | _ => leW (ln w) (sg w) i
def tgI (w i what : Nat) : Int32 := if what = 0 then nI (sg w i) else if wayB (sg w i) = true then -1 else nI (tgN T n f L ln sg w i what)
def wmN : Nat → Nat
  | 0 => 0
  | w + 1 => wmN w + if 0 < ln w then 1 else 0
def smN : Nat → Nat
  | 0 => 0
  | w + 1 => smN w + ln w
def slN : Nat → Nat
  | 0 => 0
  | i + 1 => slN i + if T i = 0 then 1 else 0
def ahN : Nat → Nat
  | 0 => 2 ^ n - 1
  | w + 1 => ahN w &&& if 0 < ln w then hW T n f L ln sg w else ahN w
def couI (k : Nat) : Nat → Int32
  | 0 => nI n
  | 1 => nI (csN T n)
  | 2 => nI (ctN (lvN T n f L) 10)
  | 3 => nI (slN T n)
  | 4 => fI f
  | 5 => nI (wmN ln 4)
  | 6 => nI (smN ln 4)
  | 7 => nI (ctN (ahN T n f L ln sg 4) 10)
  | _ => nI k
def cmN (a b : Nat) : Nat := if a = b then 0 else if ndN a b = 0 then 1 else if ndN b a = 0 then 2 else 3
def cmI (w v : Nat) : Int32 := if ln w = 0 ∨ ln v = 0 then -1 else nI (cmN (hW T n f L ln sg w) (hW T n f L ln sg v))
def bfI (w g : Nat) : Int32 := if ln w = 0 then -1 else nI (hW T n g L ln sg w)
end
def nn (i : Int32) : Nat := i.toNatClampNeg
theorem nn_nI {j : Nat} (h : j < 2 ^ 31) : nn (nI j) = j := by
  show ((nI j).toInt.toNat : Nat) = j
  rw [nI_toInt h]
  rfl
/-- the answer of a call whose code is c -/
def aW (c : Nat) (x : Int32) : Int32 := if c = 0 then x else 0
def WFS (ln : Nat → Nat) (sg : Nat → Nat → Nat) : Prop := ∀ w, w < 4 → 0 < ln w → ∃ sc, WF (ln w) (sg w) sc
section
variable {T : Nat → Nat} {n f : Nat} {L : Nat → Nat} {ln : Nat → Nat} {sg : Nat → Nat → Nat} {m : Nat} {s : Nat → Nat}
theorem wa_t {i w : Nat} (h : 0 < ln w) (h2 : (hW T n f L ln sg w >>> i) &&& 1 = 1) : waN T n f L ln sg i (w + 1) = waN T n f L ln sg i w ||| 2 ^ w := by rw [waN, if_pos (show haN T n f L ln sg i w = true from decide_eq_true ⟨h, h2⟩)]
theorem wa_f {i w : Nat} (h : ¬ (0 < ln w ∧ (hW T n f L ln sg w >>> i) &&& 1 = 1)) : waN T n f L ln sg i (w + 1) = waN T n f L ln sg i w := by rw [waN, if_neg (show ¬ haN T n f L ln sg i w = true from fun e => h (of_decide_eq_true e)), Nat.or_zero]
theorem hW_lt (w : Nat) : hW T n f L ln sg w < 2 ^ n := seW_l _ _ _ _ _ _ _
theorem ah_t {w : Nat} (h : 0 < ln w) : ahN T n f L ln sg (w + 1) = ahN T n f L ln sg w &&& hW T n f L ln sg w := by rw [ahN, if_pos h]
theorem ah_f {w : Nat} (h : ln w = 0) : ahN T n f L ln sg (w + 1) = ahN T n f L ln sg w &&& ahN T n f L ln sg w := by rw [ahN, if_neg (by omega)]
theorem ah_lt : ∀ w, ahN T n f L ln sg w < 2 ^ n := by
  intro w
  induction w with
  | zero => exact al_lt n
  | succ w ih => rw [ahN]; exact and_lt ih
theorem wa_lt (i : Nat) : ∀ w, waN T n f L ln sg i w < 2 ^ w := by
  intro w
  induction w with
  | zero => exact Nat.one_pos
  | succ w ih =>
    rw [waN]
    refine or_lt (Nat.lt_of_lt_of_le ih (Nat.pow_le_pow_right (by decide) (Nat.le_succ w))) ?_
    split
    · exact Nat.pow_lt_pow_right (by decide) (Nat.lt_succ_self w)
    · exact Nat.two_pow_pos _
theorem rw_t {i : Nat} (h : ¬ rwI T n f L m s i ≤ 0) : nI (roN T n f L m s i) + rwI T n f L m s i = nI (roN T n f L m s (i + 1)) := by
  cases hw : wayB (s i) with
  | true => rw [rwI, if_pos hw] at h; exact absurd (by decide) h
  | false =>
    rw [rwI, roN, if_neg (by rw [hw]; decide), if_neg (by rw [hw]; decide)]
    exact nI_add _ _
theorem rw_f {i : Nat} (h : rwI T n f L m s i ≤ 0) : roN T n f L m s i + 0 = roN T n f L m s (i + 1) := by
  cases hw : wayB (s i) with
  | true => rw [roN, if_pos hw]
  | false =>
    have hw2 : ¬ wayB (s i) = true := by rw [hw]; decide
    rw [rwI, if_neg hw2] at h
    rw [roN, if_neg hw2]
    have h1 := roW_le T n f L m s i
    have h2 := (nI_leI (b := 0) (show roW T n f L m s i < 2 ^ 31 by omega) (by decide)).mp h
    omega
theorem TB.rwE {se ro le de : Nat → Int32} (h : TB T n f L m s 0 se ro le de) {i : Nat} (hi : i < m) : ro i = rwI T n f L m s i := by
  cases hw : wayB (s i) with
  | true => rw [rwI, if_pos hw]; exact ((h i (Nat.zero_le i) hi).1 hw).2.1
  | false => rw [rwI, if_neg (by rw [hw]; decide)]; exact ((h i (Nat.zero_le i) hi).2 hw).2.1
theorem TB.tg {n' : Nat} {se ro le de : Nat → Int32} {w : Nat} (h : TB T n f L (ln w) (sg w) 0 se ro le de) {i : Nat} (hi : i < ln w) : se i = tgI T n f L ln sg w i 1 ∧ ro i = tgI T n f L ln sg w i 2 ∧ le i = tgI T n f L ln sg w i 3 := by
  have h1 := h i (Nat.zero_le i) hi
  cases hw : wayB (sg w i) with
  | true => exact ⟨((h1.1 hw).1).trans (by rw [tgI, if_neg (by decide), if_pos hw]), ((h1.1 hw).2.1).trans (by rw [tgI, if_neg (by decide), if_pos hw]), ((h1.1 hw).2.2).trans (by rw [tgI, if_neg (by decide), if_pos hw])⟩
  | false =>
    have hw2 : ¬ wayB (sg w i) = true := by rw [hw]; decide
    exact ⟨((h1.2 hw).1).trans (by rw [tgI, if_neg (by decide), if_neg hw2]; rfl), ((h1.2 hw).2.1).trans (by rw [tgI, if_neg (by decide), if_neg hw2]; rfl), ((h1.2 hw).2.2.1).trans (by rw [tgI, if_neg (by decide), if_neg hw2]; rfl)⟩
end

