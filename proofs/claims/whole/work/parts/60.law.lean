theorem CI.to {h g : ez_H} {n f k t : Nat} {L T ln : Nat → Nat} {sg : Nat → Nat → Nat} {zs : Nat → AS} {b : Nat → Nat} (hI : CI h n f L T ln sg k zs t b) (hg : ∀ j, 1 ≤ j → j < 64 → g j = h j) : CI g n f L T ln sg k zs t b := by
  obtain ⟨h1, h2, ⟨o, h3⟩, ⟨op, hw, ch, h4, h5⟩, h6, h7, h8⟩ := hI
  exact ⟨(hg _ (by decide) (by decide)).trans h1, h2.to (fun j a c => hg j (by omega) (by omega)), ⟨o, h3.to (fun j a c => hg j (by omega) (by omega))⟩, ⟨op, hw, ch, ⟨(hg _ (by decide) (by decide)).trans h4.1, (hg _ (by decide) (by decide)).trans h4.2.1, fun _ _ => rfl⟩, h5⟩, h6.to (fun j a c => hg j (by omega) (by omega)), h7.to (fun j a c => hg j (by omega) (by omega)), h8.to (fun j a c => hg j (by omega) (by omega))⟩
def OU (o : Nat → Int64) : va_E := .inl (2, 1, .inr (.inl o))
/-- a helper's end: code 0 and the answer put down, or the code and all as it was -/
def PK (n cd : Nat) (v : Int32) (W WX : ez_H → Prop) : ez_Q := fun r g m => n ≤ m ∧ r = .inl (some (.int (nI cd))) ∧ ((cd = 0 ∧ ∃ g0 o, W g0 ∧ g = ez_up g0 74 (OU o) ∧ o 0 = v.toInt64) ∨ (¬ cd = 0 ∧ WX g))
theorem cPX {G : ez_G} {M M' : ez_M} {d na cd : Nat} {Q : ez_Q} {h : ez_H} {n mc ms pc q idx : Nat} {ls : List (Option Value)} {st st0 As as : List Value} {a ci : Nat} {fs : List Value} {v : Value} {W WX : ez_H → Prop} {X1 X2 : String} (hd : decode M.2.1 pc = .ok (.invokevirtual idx, 3)) (hck : ez_kV M.1.cls idx M' na) (hc0 : h a = some (.inr (ci, fs))) (hC : Con G M' d as h n 3 18 (PX n cd (some v) W WX X1 X2)) (htab : M'.2.2.2.2 = []) (hci : ci < 9 ∧ (ez_cl ci).1 = M'.1.cls) (has : as = .ref a :: As) (hst : st0 = As.reverse ++ .ref a :: st) (hna : As.length = na) (hrm : (st.map fun v => v.category).sum ≤ 8) (hq : pc + 3 = q) (K1 : cd = 1 → ∀ g m, WX g → n ≤ m → EX G M (d + 1) Q g m mc ms pc ls X1) (K2 : cd = 2 → ∀ g m, WX g → n ≤ m → EX G M (d + 1) Q g m mc ms pc ls X2) (K : cd = 0 → ∀ g, W g → E G M (d + 1) Q g n mc ms q ls (v :: st)) : E G M (d + 1) Q h n (3 + mc) (18 + ms) pc ls st0 :=
  ez_callV (mc := mc) (ms := ms) (q := q) (Q := Q) (ls := ls) hd hck htab hC hc0 hci has hst hna hrm hq (fun x g m hx => by
    rcases hx with ⟨h1, h2, h3, h4⟩ | ⟨h1, h2, h3, h4⟩ | ⟨h1, h2, h3, h4⟩
    · cases h2
    · cases h2
      exact K1 h1 g m h3 h4
    · cases h2
      exact K2 h1 g m h3 h4) (fun r g m hx => by
    rcases hx with ⟨h1, h2, h3, h4⟩ | ⟨h1, h2, h3, h4⟩ | ⟨h1, h2, h3, h4⟩
    · cases h2
      rw [h4]
      exact K h1 g h3
    · cases h2
    · cases h2)
theorem cPK0 {G : ez_G} {M M' : ez_M} {d na : Nat} {Q : ez_Q} {h : ez_H} {n mc ms pc q idx : Nat} {ls : List (Option Value)} {st st0 as : List Value} {cd : Nat} {hh0 : Nat × Nat × Nat × Nat} {hh1 : List (Nat × Nat × Nat × Nat)} {v : Int32} {W WX : ez_H → Prop} (h0 : cd = 0) (hd : decode M.2.1 pc = .ok (.invokestatic idx, 3)) (hck : ez_kS M.1.cls idx M' na) (hC : Con G M' d as h n 3 18 (PK n cd v W WX)) (htab : M'.2.2.2.2 = hh0 :: hh1) (hst : st0 = as.reverse ++ st) (hna : as.length = na) (hrm : (st.map fun v => v.category).sum ≤ 8) (hq : pc + 3 = q) (K : ∀ g g0 o m, W g0 → (∀ j, j ≠ 74 → g j = g0 j) → g 74 = some (OU o) → o 0 = v.toInt64 → n ≤ m → E G M (d + 1) Q g m mc ms q ls (.int (nI 0) :: st)) : E G M (d + 1) Q h n (3 + mc) (18 + ms) pc ls st0 :=
  ez_callSH (mc := mc) (ms := ms) (q := q) (Q := Q) (ls := ls) hd hck htab hC hst hna hrm hq (fun x g m hx => by cases hx.2.1) (fun r g m hx => by
    obtain ⟨h1, h2, ⟨h3, g0, o, h4, rfl, h5⟩ | ⟨h3, h4⟩⟩ := hx
    · cases h2
      have q9 := K _ g0 o m h4 (fun j hj => zu_fr hj rfl) zu_same h5 h1
      have e9 : (Value.int (nI 0)) = .int (nI cd) := by rw [h0]
      rw [e9] at q9
      exact q9
    · exact absurd h0 h3)
theorem cPK1 {G : ez_G} {M M' : ez_M} {d na : Nat} {Q : ez_Q} {h : ez_H} {n mc ms pc q idx : Nat} {ls : List (Option Value)} {st st0 as : List Value} {cd : Nat} {hh0 : Nat × Nat × Nat × Nat} {hh1 : List (Nat × Nat × Nat × Nat)} {v : Int32} {W WX : ez_H → Prop} (h0 : ¬ cd = 0) (hd : decode M.2.1 pc = .ok (.invokestatic idx, 3)) (hck : ez_kS M.1.cls idx M' na) (hC : Con G M' d as h n 3 18 (PK n cd v W WX)) (htab : M'.2.2.2.2 = hh0 :: hh1) (hst : st0 = as.reverse ++ st) (hna : as.length = na) (hrm : (st.map fun v => v.category).sum ≤ 8) (hq : pc + 3 = q) (K : ∀ g m, WX g → n ≤ m → E G M (d + 1) Q g m mc ms q ls (.int (nI cd) :: st)) : E G M (d + 1) Q h n (3 + mc) (18 + ms) pc ls st0 :=
  ez_callSH (mc := mc) (ms := ms) (q := q) (Q := Q) (ls := ls) hd hck htab hC hst hna hrm hq (fun x g m hx => by cases hx.2.1) (fun r g m hx => by
    obtain ⟨h1, h2, ⟨h3, h4⟩ | ⟨h3, h4⟩⟩ := hx
    · exact absurd h3 h0
    · cases h2
      exact K g m h4 h1)
/-- the script, read where it was at the start -/
theorem ez_slen {G : ez_G} {M : ez_M} {d : Nat} {Q : ez_Q} {h : ez_H} {n mc ms pc q : Nat} {ls : List (Option Value)} {st : List Value} {N : Nat} (hd : decode M.2.1 pc = .ok (.arraylength, 1)) (hG : ez_N G = N) (hq : pc + 1 = q) (K : E G M d Q h n mc ms q ls (.int (nI N) :: st)) : E G M d Q h n mc ms pc ls (.ref 0 :: st) := by
  subst hq; subst hG
  intro p e R s m args below meth c H locs cells slots mt mS la X hR hS hL hc hs
  have hX := X.2.2.2.2.2.2.2.2.1.2.2.2.2.2.2.2
  exact va_slen X.1 X.2.1 hX.1 hX.1.lt (Nat.not_le.mpr hX.2) hS hd (K p e R s m args below meth c H locs cells slots mt mS la X hR hS hL hc hs)
theorem ez_sald {G : ez_G} {M : ez_M} {d : Nat} {Q : ez_Q} {h : ez_H} {n mc ms pc q : Nat} {ls : List (Option Value)} {st : List Value} {N j : Nat} {sc : Nat → Int32} {i : Int32} (hd : decode M.2.1 pc = .ok (.iaload, 1)) (hG : ez_N G = N ∧ ez_sc G = sc) (hi : i = nI j) (hj : j < N) (hlen : N < 2 ^ 31) (hq : pc + 1 = q) (K : E G M d Q h n mc ms q ls (.int (sc j) :: st)) : E G M d Q h n mc ms pc ls (.int i :: .ref 0 :: st) := by
  obtain ⟨rfl, rfl⟩ := hG
  subst hq; subst hi
  intro p e R s m args below meth c H locs cells slots mt mS la X hR hS hL hc hs
  have hX := X.2.2.2.2.2.2.2.2.1.2.2.2.2.2.2.2
  refine va_sld X.1 X.2.1 hX.1 hX.1.lt (Nat.not_le.mpr hX.2) hS (vp_in_nI hj hlen) hd ?_
  rw [nI_clamp (by omega)]
  exact K p e R s m args below meth c H locs cells slots mt mS la X hR hS hL hc hs
