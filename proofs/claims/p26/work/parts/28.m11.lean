def cdA (n : Nat) (l : Int32) : Nat := if inB l 0 15 = true then (if n = 10 then 2 else 0) else 1
def cdR (n : Nat) (w : Int32) : Nat := if inB w 0 (n - 1) = true then 0 else 1

def cdP (n : Nat) (u v : Int32) : Nat := if inB u 0 (n - 1) = true ∧ inB v 0 (n - 1) = true then 0 else 1
def cdI (n : Nat) (u v : Int32) : Nat := if inB u 0 (n - 1) = true then (if inB v 0 3 = true then 0 else 2) else 1
def cdW1 (g : Int32) : Nat := if inL g = true then 0 else 1
