def cdW (n : Nat) (m : Int) (i what : Int32) : Nat := if inB i 0 (n - 1) = true then (if inB what 0 m = true then 0 else 2) else 1
def cdS (m : Int) (w what : Int32) : Nat := if inB w 0 3 = true then (if inB what 0 m = true then 0 else 2) else 1
