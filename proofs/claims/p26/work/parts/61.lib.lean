/-- the script, read where it was at the start -/
theorem ez_slen {G : ez_G} {M : ez_M} {d : Nat} {Q : ez_Q} {h : ez_H} {n mc ms pc q : Nat} {ls : List (Option Value)} {st : List Value} {N : Nat} (hd : decode M.2.1 pc = .ok (.arraylength, 1)) (hG : ez_N G = N) (hq : pc + 1 = q) (K : E G M d Q h n mc ms q ls (.int (nI N) :: st)) : E G M d Q h n mc ms pc ls (.ref 0 :: st) := by
  subst hq; subst hG
  intro p e R s m args below meth c H locs cells slots mt mS la X hR hS hL hc hs
  have hX := X.2.2.2.2.2.2.2.2.1.2.2.2.2.2.2.2
  exact va_slen X.1 X.2.1 hX.1 hX.1.lt (Nat.not_le.mpr hX.2) hS hd (K p e R s m args below meth c H locs cells slots mt mS la X hR hS hL hc hs)
theorem ez_sald {G : ez_G} {M : ez_M} {d : Nat} {Q : ez_Q} {h : ez_H} {n mc ms pc q : Nat} {ls : List (Option Value)} {st : List Value} {N j : Nat} {sc : Nat → Int32} {i : Int32} (hd : decode M.2.1 pc = .ok (.iaload, 1)) (hG : ez_N G = N ∧ ez_sc G = sc) (hi : i = nI j) (hj : j < N) (hlen : N < 2 ^ 31) (hq : pc + 1 = q) (K : E G M d Q h n mc ms q ls (.int (sc j) :: st)) : E G M d Q h n mc ms pc ls (.int i :: .ref 0 :: st) := by
  obtain ⟨rfl, rfl⟩ := hG
  subst hq; subst hi
  intro p e R s m args below meth c H locs cells slots mt mS la X hR hS hL hc hs
  have hX := X.2.2.2.2.2.2.2.2.1.2.2.2.2.2.2.2
  refine va_sld X.1 X.2.1 hX.1 hX.1.lt (Nat.not_le.mpr hX.2) hS (vp_in_nI hj hlen) hd ?_
  rw [nI_clamp (by omega)]
  exact K p e R s m args below meth c H locs cells slots mt mS la X hR hS hL hc hs
/-- an end that tells an answer and the heap by something a -/
def PE {α : Type} (n : Nat) (v : α → Int32) (W : α → ez_H → Prop) : ez_Q := fun r g m => ∃ a, r = .inl (some (.int (v a))) ∧ W a g ∧ m = n
theorem cSE {G : ez_G} {M M' : ez_M} {d na : Nat} {Q : ez_Q} {h : ez_H} {n mc ms pc q idx : Nat} {ls : List (Option Value)} {st st0 as : List Value} {α : Type} {v : α → Int32} {W : α → ez_H → Prop} (hd : decode M.2.1 pc = .ok (.invokestatic idx, 3)) (hck : ez_kS M.1.cls idx M' na) (hC : Con G M' d as h n 0 0 (PE n v W)) (htab : M'.2.2.2.2 = []) (hst : st0 = as.reverse ++ st) (hna : as.length = na) (hrm : (st.map fun v => v.category).sum ≤ 8) (hq : pc + 3 = q) (K : ∀ a g, W a g → E G M (d + 1) Q g n mc ms q ls (.int (v a) :: st)) : E G M (d + 1) Q h n mc ms pc ls st0 := by
  have h1 := ez_callS (mc := mc) (ms := ms) (q := q) (Q := Q) (ls := ls) hd hck htab hC hst hna hrm hq (fun x g m hx => by
    obtain ⟨a, h1, -⟩ := hx
    cases h1) (fun r g m hx => by
    obtain ⟨a, h1, h2, rfl⟩ := hx
    cases h1
    exact K a g h2)
  rwa [Nat.zero_add, Nat.zero_add] at h1
theorem cSw {G : ez_G} {M M' : ez_M} {d na : Nat} {Q : ez_Q} {h : ez_H} {n mc ms pc q idx : Nat} {ls : List (Option Value)} {st st0 as : List Value} {v : Value} {W : ez_H → Prop} (hd : decode M.2.1 pc = .ok (.invokestatic idx, 3)) (hck : ez_kS M.1.cls idx M' na) (hC : Con G M' d as h n 0 0 (PW n (some v) W)) (htab : M'.2.2.2.2 = []) (hst : st0 = as.reverse ++ st) (hna : as.length = na) (hrm : (st.map fun v => v.category).sum ≤ 8) (hq : pc + 3 = q) (K : ∀ g, W g → E G M (d + 1) Q g n mc ms q ls (v :: st)) : E G M (d + 1) Q h n mc ms pc ls st0 := by
  have h1 := ez_callS (mc := mc) (ms := ms) (q := q) (Q := Q) (ls := ls) hd hck htab hC hst hna hrm hq (fun x g m hx => by cases hx.1) (fun r g m hx => by
    obtain ⟨h1, h2, rfl⟩ := hx
    cases h1
    exact K g h2)
  rwa [Nat.zero_add, Nat.zero_add] at h1
/-- the script's cell k, as the law reads it -/
def clV (N : Nat) (sc : Nat → Int32) (k : Nat) : Int32 := if k < N then sc k else 32452867 * nI k + 49979687
def lwB (v : Int32) : Nat := v.toBitVec.toNat % 2 ^ 31
def lwN (v : Int32) (m : Nat) : Nat := lwB v % m
theorem lwB_lt (v : Int32) : lwB v < 2 ^ 31 := Nat.mod_lt _ (by decide)
theorem lwN_lt (v : Int32) {m : Nat} (hm : 0 < m) : lwN v m < m := Nat.mod_lt _ hm
theorem lw_31 (x : Int32) : x &&& 2147483647 = nI (lwB x) := by
  rw [show (2147483647 : Int32) = nI 2147483647 from rfl]
  refine nI_ext ?_
  rw [Int32.toBitVec_and, nI_bv, nI_bv]
  apply BitVec.eq_of_toNat_eq
  have h : (2147483647 : Nat) = 2 ^ 31 - 1 := by decide
  rw [BitVec.toNat_and, BitVec.toNat_ofNat, BitVec.toNat_ofNat, Nat.mod_eq_of_lt (show 2147483647 < 2 ^ 32 by decide), h, Nat.and_two_pow_sub_one_eq_mod]
  exact (Nat.mod_eq_of_lt (Nat.lt_trans (lwB_lt x) (by decide))).symm
theorem nI_dec {a : Nat} (h : 1 ≤ a) : nI a + (-1) = nI (a - 1) := by
  have h1 := nI_sub h
  rw [← h1, show (-1 : Int32) = 0 - nI 1 by decide]
  refine nI_ext ?_
  simp [Int32.toBitVec_sub, Int32.toBitVec_add, BitVec.sub_eq_add_neg]

