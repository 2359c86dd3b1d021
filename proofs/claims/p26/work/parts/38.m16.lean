def wtL (T : Nat → Nat) (n f : Nat) (L : Nat → Nat) (ln : Nat → Nat) (sg : Nat → Nat → Nat) (w u : Nat) : List Nat :=
  if ln w = 0 then [] else if sg w 0 = 69 ∨ sg w 0 = 65 then
    (if (hW T n f L ln sg w >>> u) &&& 1 = 1 then (if sg w 0 = 69 then smW T n f L (sg w 1) (seW T n f L (ln w) (sg w) 2) (if sg w 1 = 85 then seW T n f L (ln w) (sg w) (2 + leW (ln w) (sg w) 2) else 0) u else [])
     else if sg w 0 = 69 then [] else agW T n f L (sg w 1) (ndN (2 ^ n - 1) (seW T n f L (ln w) (sg w) 2)) (ndN (2 ^ n - 1) (if sg w 1 = 85 then seW T n f L (ln w) (sg w) (2 + leW (ln w) (sg w) 2) else 0)) u)
  else []
def wtI (T : Nat → Nat) (n f : Nat) (L : Nat → Nat) (ln : Nat → Nat) (sg : Nat → Nat → Nat) (w u p : Nat) : Int32 := bsI (wtL T n f L ln sg w u)[p]?
theorem ways_len (T : Nat → Nat) (n y g w : Nat) (h : dsN T n y g 10 w ≤ 10) : (waysN T n y g w).length ≤ 11 := by rw [waysN, List.length_cons, wy_len]; omega
def cdY (n : Nat) (w u p : Int32) : Nat := if inB w 0 3 = true ∧ inB u 0 (n - 1) = true then (if p < 0 then 2 else 0) else 1

