def upN (f : Nat → Nat) (k x : Nat) : Nat → Nat := fun j => if j = k then x else f j
theorem up_eq (f : Nat → Int32) (k : Nat) (x : Int32) : upd f k x k = x := if_pos rfl
theorem up_ne (f : Nat → Int32) {k j : Nat} (x : Int32) (h : j ≠ k) : upd f k x j = f j := if_neg h
theorem upN_eq (f : Nat → Nat) (k x : Nat) : upN f k x k = x := if_pos rfl
theorem upN_ne (f : Nat → Nat) {k j : Nat} (x : Nat) (h : j ≠ k) : upN f k x j = f j := if_neg h
/-- a state of both sides: worlds, fair letter, letters, steps, lengths and signs of the wishes -/
abbrev AS : Type := Nat × Nat × (Nat → Nat) × (Nat → Nat) × (Nat → Nat) × (Nat → Nat → Nat)
def ZA (z : Nat → Int32) (A : AS) : Prop := ZZ z A.1 A.2.1 A.2.2.1 A.2.2.2.1 A.2.2.2.2.1 A.2.2.2.2.2
def OKA (A : AS) : Prop := OK A.1 A.2.1 A.2.2.1 A.2.2.2.1 A.2.2.2.2.1 A.2.2.2.2.2 ∧ ∀ w, w < 4 → 0 < A.2.2.2.2.1 w → ∃ sc, WF (A.2.2.2.2.1 w) (A.2.2.2.2.2 w) sc
def SVD (sv : Nat → Int32) (k : Nat) (zs : Nat → Nat → Int32) : Prop := ∀ i, i < k → ∀ j, j < 186 → sv (i * 186 + j) = zs i j
def putZ {α : Type} (zs : Nat → α) (m : Nat) (z : α) : Nat → α := fun i => if i = m then z else zs i
def svk (k : Nat) : Nat := if k = 6 then 6 else k + 1
/-- the saved states with one more: at most 6, the oldest dropped -/
def pushZ {α : Type} (zs : Nat → α) (k : Nat) (z : α) : Nat → α := if k = 6 then putZ (fun i => zs (i + 1)) 5 z else putZ zs k z
theorem ZA.congr {z z' : Nat → Int32} {A : AS} (h : ZA z A) (ho : OKA A) (he : ∀ j, j < 186 → z' j = z j) : ZA z' A := by
  obtain ⟨h1, h2, h3, h4, h5, h6⟩ := h
  have hn := ho.1.1
  have hl := ho.1.2.2.2.2.1
  exact ⟨by rw [he 0 (by decide)]; exact h1, by rw [he 1 (by decide)]; exact h2, fun i hi => by rw [he _ (by omega)]; exact h3 i hi, fun i hi => by rw [he _ (by omega)]; exact h4 i hi, fun w hw => by rw [he _ (by omega)]; exact h5 w hw, fun w hw k hk => by rw [he _ (by have := hl w hw; omega)]; exact h6 w hw k hk⟩
def lessN (s w : Nat) : Nat := (s &&& (2 ^ w - 1)) ||| (s >>> (w + 1)) * 2 ^ w
theorem lessN_lt {s w n : Nat} (hs : s < 2 ^ n) (hw : w < n) : lessN s w < 2 ^ (n - 1) := by
  refine or_lt ?_ ?_
  · refine Nat.lt_of_le_of_lt Nat.and_le_right ?_
    have h1 : 2 ^ w ≤ 2 ^ (n - 1) := Nat.pow_le_pow_right (by decide) (by omega)
    have := Nat.two_pow_pos w
    omega
  · rw [Nat.shiftRight_eq_div_pow]
    have h1 : s / 2 ^ (w + 1) < 2 ^ (n - 1 - w) := by
      rw [Nat.div_lt_iff_lt_mul (Nat.two_pow_pos _), ← Nat.pow_add]
      rw [show n - 1 - w + (w + 1) = n by omega]
      exact hs
    have h2 : 2 ^ (n - 1) = 2 ^ (n - 1 - w) * 2 ^ w := by rw [← Nat.pow_add]; congr 1; omega
    rw [h2]
    exact Nat.mul_lt_mul_of_pos_right h1 (Nat.two_pow_pos w)
theorem ct_k : ∀ a, a < 1024 → a ≠ 0 → ctN (a &&& (a - 1)) 10 + 1 = ctN a 10 := by decide +kernel
/-- how many steps -/
def csN (T : Nat → Nat) : Nat → Nat
  | 0 => 0
  | k + 1 => csN T k + ctN (T k) 10
theorem cs_le (T : Nat → Nat) : ∀ k, csN T k ≤ k * 10 := by
  intro k
  induction k with
  | zero => exact Nat.le_refl _
  | succ k ih => rw [csN]; have := ct_le (T k) 10; omega
theorem inB_nat {i : Int32} {m : Int} (h : inB i 0 m = true) : ∃ j : Nat, i = nI j ∧ (j : Int) ≤ m ∧ j < 2 ^ 31 := by
  have h1 := of_decide_eq_true h
  refine ⟨i.toNatClampNeg, ?_, ?_, ?_⟩
  · apply Int32.toInt_inj.mp
    have h3 : (i.toNatClampNeg : Int) = i.toInt := by show ((i.toInt.toNat : Nat) : Int) = _; omega
    have h4 : i.toNatClampNeg < 2 ^ 31 := by have := Int32.toInt_lt i; omega
    rw [nI_toInt h4, h3]
  · show ((i.toInt.toNat : Nat) : Int) ≤ m; omega
  · have := Int32.toInt_lt i
    show i.toInt.toNat < _; omega
theorem inB_f {j : Nat} {m : Int} (h : inB (nI j) 0 m = false) (hj : j < 2 ^ 31) : m < j := by
  have h1 := of_decide_eq_false h
  rw [nI_toInt hj] at h1
  omega

