def PU (h : ez_H) (n : Nat) (v : Option Value) : ez_Q := fun r g m => r = .inl v ∧ g = h ∧ m = n
theorem cUv {G : ez_G} {M M' : ez_M} {d na : Nat} {Q : ez_Q} {h : ez_H} {n mc ms pc q idx : Nat} {ls : List (Option Value)} {st st0 as : List Value} {v : Value} (hd : decode M.2.1 pc = .ok (.invokestatic idx, 3)) (hck : ez_kS M.1.cls idx M' na) (hC : Con G M' d as h n 0 0 (PU h n (some v))) (htab : M'.2.2.2.2 = []) (hst : st0 = as.reverse ++ st) (hna : as.length = na) (hrm : (st.map fun v => v.category).sum ≤ 8) (hq : pc + 3 = q) (K : E G M (d + 1) Q h n mc ms q ls (v :: st)) : E G M (d + 1) Q h n mc ms pc ls st0 := by
  have h1 := ez_callS (mc := mc) (ms := ms) (q := q) (Q := Q) (ls := ls) hd hck htab hC hst hna hrm hq (fun x g m hx => by cases hx.1) (fun r g m hx => by
    obtain ⟨h1, rfl, rfl⟩ := hx
    cases h1
    exact K)
  rwa [Nat.zero_add, Nat.zero_add] at h1
def PW (n : Nat) (v : Option Value) (W : ez_H → Prop) : ez_Q := fun r g m => r = .inl v ∧ W g ∧ m = n
theorem cXv {G : ez_G} {M M' : ez_M} {d na : Nat} {Q : ez_Q} {h : ez_H} {n mc ms pc q idx : Nat} {ls : List (Option Value)} {st st0 as As : List Value} {a ci : Nat} {fs : List Value} {W : ez_H → Prop} {v : Value} (hd : decode M.2.1 pc = .ok (.invokevirtual idx, 3)) (hck : ez_kV M.1.cls idx M' na) (hc0 : h a = some (.inr (ci, fs))) (hC : Con G M' d as h n 0 0 (PW n (some v) W)) (htab : M'.2.2.2.2 = []) (hci : ci < 8 ∧ (ez_cl ci).1 = M'.1.cls) (has : as = .ref a :: As) (hst : st0 = As.reverse ++ .ref a :: st) (hna : As.length = na) (hrm : (st.map fun v => v.category).sum ≤ 8) (hq : pc + 3 = q) (K : ∀ g, W g → E G M (d + 1) Q g n mc ms q ls (v :: st)) : E G M (d + 1) Q h n mc ms pc ls st0 := by
  have h1 := ez_callV (mc := mc) (ms := ms) (q := q) (Q := Q) (ls := ls) hd hck htab hC hc0 hci has hst hna hrm hq (fun x g m hx => by cases hx.1) (fun r g m hx => by
    obtain ⟨h1, h2, rfl⟩ := hx
    cases h1
    exact K g h2)
  rwa [Nat.zero_add, Nat.zero_add] at h1
theorem cX0 {G : ez_G} {M M' : ez_M} {d na : Nat} {Q : ez_Q} {h : ez_H} {n mc ms pc q idx : Nat} {ls : List (Option Value)} {st st0 as As : List Value} {a ci : Nat} {fs : List Value} {W : ez_H → Prop} (hd : decode M.2.1 pc = .ok (.invokevirtual idx, 3)) (hck : ez_kV M.1.cls idx M' na) (hc0 : h a = some (.inr (ci, fs))) (hC : Con G M' d as h n 0 0 (PW n none W)) (htab : M'.2.2.2.2 = []) (hci : ci < 8 ∧ (ez_cl ci).1 = M'.1.cls) (has : as = .ref a :: As) (hst : st0 = As.reverse ++ .ref a :: st) (hna : As.length = na) (hrm : (st.map fun v => v.category).sum ≤ 8) (hq : pc + 3 = q) (K : ∀ g, W g → E G M (d + 1) Q g n mc ms q ls (st)) : E G M (d + 1) Q h n mc ms pc ls st0 := by
  have h1 := ez_callV (mc := mc) (ms := ms) (q := q) (Q := Q) (ls := ls) hd hck htab hC hc0 hci has hst hna hrm hq (fun x g m hx => by cases hx.1) (fun r g m hx => by
    obtain ⟨h1, h2, rfl⟩ := hx
    cases h1
    exact K g h2)
  rwa [Nat.zero_add, Nat.zero_add] at h1
theorem pl_X0 : plainName RX0 = true := by decide +kernel
theorem pl_X1 : plainName RX1 = true := by decide +kernel
theorem pl_X2 : plainName RX2 = true := by decide +kernel
theorem pl_X3 : plainName RX3 = true := by decide +kernel
theorem pl_X4 : plainName RX4 = true := by decide +kernel
theorem pl_X5 : plainName RX5 = true := by decide +kernel
theorem pl_X6 : plainName RX6 = true := by decide +kernel
theorem pl_X7 : plainName RX7 = true := by decide +kernel
theorem pl_L : plainName RL = true := by decide +kernel
theorem pl_J6 : plainName RJ6 = true := by decide +kernel
def ez_le : List (Option Value) → List (Option Value) → Prop
  | [], [] => True
  | x :: a, y :: b => (x = none ∨ x = y) ∧ ez_le a b
  | _, _ => False
theorem ez_le_at : ∀ {a b : List (Option Value)}, ez_le a b → ∀ (j : Nat) (x : Value), a[j]? = some (some x) → b[j]? = some (some x) := by
  intro a
  induction a with
  | nil => intro b h j x hx; simp at hx
  | cons y a ih =>
    intro b h j x hx
    cases b with
    | nil => exact absurd h (by simp [ez_le])
    | cons z b =>
      obtain ⟨h1, h2⟩ := h
      cases j with
      | zero =>
        have hy : y = some x := by simpa using hx
        subst hy
        rcases h1 with h1 | h1
        · cases h1
        · simpa using h1.symm
      | succ j => simpa using ih h2 j x (by simpa using hx)
theorem E.fg {G : ez_G} {M : ez_M} {d : Nat} {Q : ez_Q} {h : ez_H} {n mc ms pc : Nat} {ls ls' : List (Option Value)} {st : List Value} (k : E G M d Q h n mc ms pc ls' st) (hl : ez_le ls' ls) : E G M d Q h n mc ms pc ls st := E.lsub (ez_le_at hl) k
theorem ez_ls {G : ez_G} {M : ez_M} {d : Nat} {Q : ez_Q} {h : ez_H} {n mc ms pc : Nat} {ls ls' : List (Option Value)} {st : List Value} (e : ls = ls') (k : E G M d Q h n mc ms pc ls' st) : E G M d Q h n mc ms pc ls st := by subst e; exact k

