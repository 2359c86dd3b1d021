/-- v is one of lo .. hi -/
def inB (v : Int32) (lo hi : Int) : Bool := decide (lo ≤ v.toInt ∧ v.toInt ≤ hi)
def wayB (c : Nat) : Bool := decide (c = 88 ∨ c = 70 ∨ c = 71 ∨ c = 85)
