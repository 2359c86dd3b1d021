/-- doubled k times -/
def dbN (x : UInt64) : Nat → UInt64
  | 0 => x
  | k + 1 => FP.dmul (dbN x k) 4611686018427387904
def lt1 (x : UInt64) : Int32 := Op.cmpValue (FP.dcmp x 0x3ff0000000000000) .g
def bkN (x : UInt64) : Nat → Nat → Nat
  | 0, k => k
  | u + 1, k => if lt1 (dbN x k) < 0 then bkN x u (k + 1) else k
def pwN : Nat → Int64
  | 0 => 1023
  | k + 1 => pwN k - 1
def biK (x : UInt64) : Nat := bkN x 7 0
def biR (x : UInt64) : Int64 := (pwN (biK x) <<< ((nI 52).toInt64 &&& 63)) + FP.d2l (FP.dmul (dbN x (biK x)) 4841369599423283200) - 4503599627370496
def biC (x : UInt64) : Int64 := (pwN (biK x) <<< ((nI 52).toInt64 &&& 63)) + FP.d2l (FP.dmul (FP.dsub (dbN x (biK x)) 0x3ff0000000000000) 4841369599423283200)
/-- the bits of h of p -/
def biV (h p : Nat) : Int64 := if h = 0 ∧ ¬ p = 0 then 0 else biR (shV h p)
def nn64 (x : UInt64) : Bool := decide (x &&& 0x7fffffffffffffff ≤ 0x7ff0000000000000)
theorem nn64_n {x : UInt64} (h : nn64 x = true) : vf_n64 x := by
  unfold vf_n64
  exact of_decide_eq_true h
def biA (x : UInt64) : Nat → Bool
  | 0 => true
  | k + 1 => biA x k && (decide (lt1 (dbN x k) < 0) && nn64 (FP.dmul (dbN x k) 4611686018427387904))
theorem biA_at {x : UInt64} : ∀ k, biA x k = true → ∀ j, j < k → lt1 (dbN x j) < 0 ∧ vf_n64 (FP.dmul (dbN x j) 4611686018427387904) := by
  intro k
  induction k with
  | zero => intro _ j hj; omega
  | succ k ih =>
    intro h j hj
    rw [biA, Bool.and_eq_true, Bool.and_eq_true] at h
    by_cases e : j = k
    · rw [e]; exact ⟨of_decide_eq_true h.2.1, nn64_n h.2.2⟩
    · exact ih h.1 j (by omega)
def biO (x : UInt64) : Bool := decide (0 < Op.cmpValue (FP.dcmp x 0) .g) && (decide (¬ Op.cmpValue (FP.dcmp x 0) .l = 0) && (decide (Op.cmpValue (FP.dcmp x 4611686018427387904) .l < 0) && (decide (biK x ≤ 6) && (biA x (biK x) && (decide (0 ≤ lt1 (dbN x (biK x))) && (nn64 (FP.dsub (dbN x (biK x)) 0x3ff0000000000000) && (nn64 (FP.dmul (FP.dsub (dbN x (biK x)) 0x3ff0000000000000) 4841369599423283200) && (nn64 (FP.dmul (dbN x (biK x)) 4841369599423283200) && decide (biC x = biR x)))))))))
theorem biO_s {x : UInt64} (h : biO x = true) : 0 < Op.cmpValue (FP.dcmp x 0) .g ∧ ¬ Op.cmpValue (FP.dcmp x 0) .l = 0 ∧ Op.cmpValue (FP.dcmp x 4611686018427387904) .l < 0 ∧ biK x ≤ 6 ∧ (∀ j, j < biK x → lt1 (dbN x j) < 0 ∧ vf_n64 (FP.dmul (dbN x j) 4611686018427387904)) ∧ 0 ≤ lt1 (dbN x (biK x)) ∧ vf_n64 (FP.dsub (dbN x (biK x)) 0x3ff0000000000000) ∧ vf_n64 (FP.dmul (FP.dsub (dbN x (biK x)) 0x3ff0000000000000) 4841369599423283200) ∧ vf_n64 (FP.dmul (dbN x (biK x)) 4841369599423283200) ∧ biC x = biR x := by
  rw [biO] at h
  simp only [Bool.and_eq_true, decide_eq_true_eq] at h
  exact ⟨h.1, h.2.1, h.2.2.1, h.2.2.2.1, biA_at _ h.2.2.2.2.1, h.2.2.2.2.2.1, nn64_n h.2.2.2.2.2.2.1, nn64_n h.2.2.2.2.2.2.2.1, nn64_n h.2.2.2.2.2.2.2.2.1, h.2.2.2.2.2.2.2.2.2⟩
theorem bi_tab : ∀ p, p < 41 → ∀ h, h ≤ p → (0 < h ∨ p = 0) → biO (shV h p) = true := by decide +kernel
theorem bi_0 : ∀ p, p < 41 → ¬ p = 0 → Op.cmpValue (FP.dcmp (shV 0 p) 0) .g = 0 ∧ Op.cmpValue (FP.dcmp (shV 0 p) 0) .l = 0 := by decide +kernel
