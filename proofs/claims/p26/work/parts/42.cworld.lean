theorem zu_same {h : ez_H} {a : Nat} {e : va_E} : ez_up h a e a = some e := if_pos rfl
theorem zu_keep {h : ez_H} {a j : Nat} {e e' : va_E} (hne : j ≠ a) (hj : h j = some e') : ez_up h a e j = some e' := (if_neg hne).trans hj
theorem zu_fr {h h0 : ez_H} {a j : Nat} {e : va_E} (hne : j ≠ a) (hj : h j = h0 j) : ez_up h a e j = h0 j := (if_neg hne).trans hj
theorem cPv {G : ez_G} {M M' : ez_M} {d na : Nat} {Q : ez_Q} {h : ez_H} {n mc ms pc q idx : Nat} {ls : List (Option Value)} {st st0 As as : List Value} {a ci : Nat} {fs : List Value} {v : Value} (hd : decode M.2.1 pc = .ok (.invokevirtual idx, 3)) (hck : ez_kV M.1.cls idx M' na) (hc0 : h a = some (.inr (ci, fs))) (hC : Con G M' d as h n 0 0 (PU h n (some v))) (htab : M'.2.2.2.2 = []) (hci : ci < 8 ∧ (ez_cl ci).1 = M'.1.cls) (has : as = .ref a :: As) (hst : st0 = As.reverse ++ .ref a :: st) (hna : As.length = na) (hrm : (st.map fun v => v.category).sum ≤ 8) (hq : pc + 3 = q) (K : E G M (d + 1) Q h n mc ms q ls (v :: st)) : E G M (d + 1) Q h n mc ms pc ls st0 := by
  have h1 := ez_callV (mc := mc) (ms := ms) (q := q) (Q := Q) (ls := ls) hd hck htab hC hc0 hci has hst hna hrm hq (fun x g m hx => by cases hx.1) (fun r g m hx => by
    obtain ⟨h1, rfl, rfl⟩ := hx
    cases h1
    exact K)
  rwa [Nat.zero_add, Nat.zero_add] at h1
theorem cP0 {G : ez_G} {M M' : ez_M} {d na : Nat} {Q : ez_Q} {h : ez_H} {n mc ms pc q idx : Nat} {ls : List (Option Value)} {st st0 As as : List Value} {a ci : Nat} {fs : List Value} (hd : decode M.2.1 pc = .ok (.invokevirtual idx, 3)) (hck : ez_kV M.1.cls idx M' na) (hc0 : h a = some (.inr (ci, fs))) (hC : Con G M' d as h n 0 0 (PU h n none)) (htab : M'.2.2.2.2 = []) (hci : ci < 8 ∧ (ez_cl ci).1 = M'.1.cls) (has : as = .ref a :: As) (hst : st0 = As.reverse ++ .ref a :: st) (hna : As.length = na) (hrm : (st.map fun v => v.category).sum ≤ 8) (hq : pc + 3 = q) (K : E G M (d + 1) Q h n mc ms q ls (st)) : E G M (d + 1) Q h n mc ms pc ls st0 := by
  have h1 := ez_callV (mc := mc) (ms := ms) (q := q) (Q := Q) (ls := ls) hd hck htab hC hc0 hci has hst hna hrm hq (fun x g m hx => by cases hx.1) (fun r g m hx => by
    obtain ⟨h1, rfl, rfl⟩ := hx
    cases h1
    exact K)
  rwa [Nat.zero_add, Nat.zero_add] at h1
def PN (h : ez_H) (n : Nat) (c : Prop) (X : String) : ez_Q := fun r g m => (c ∧ r = .inl none ∧ g = h ∧ m = n) ∨ (¬ c ∧ r = .inr X ∧ g = h ∧ n ≤ m)
theorem cNv {G : ez_G} {M M' : ez_M} {d na : Nat} {Q : ez_Q} {h : ez_H} {n mc ms pc q idx : Nat} {ls : List (Option Value)} {st st0 As as : List Value} {a ci : Nat} {fs : List Value} {c : Prop} {X : String} (hd : decode M.2.1 pc = .ok (.invokevirtual idx, 3)) (hck : ez_kV M.1.cls idx M' na) (hc0 : h a = some (.inr (ci, fs))) (hC : Con G M' d as h n 1 6 (PN h n c X)) (htab : M'.2.2.2.2 = []) (hci : ci < 8 ∧ (ez_cl ci).1 = M'.1.cls) (has : as = .ref a :: As) (hst : st0 = As.reverse ++ .ref a :: st) (hna : As.length = na) (hrm : (st.map fun v => v.category).sum ≤ 8) (hq : pc + 3 = q) (KX : ¬ c → ∀ m, n ≤ m → EX G M (d + 1) Q h m mc ms pc ls X) (K : c → E G M (d + 1) Q h n mc ms q ls st) : E G M (d + 1) Q h n (mc + 1) (ms + 6) pc ls st0 := by
  rw [Nat.add_comm mc, Nat.add_comm ms]
  exact ez_callV (mc := mc) (ms := ms) (q := q) (Q := Q) (ls := ls) hd hck htab hC hc0 hci has hst hna hrm hq (fun x g m hx => by
    rcases hx with hx | ⟨h1, h2, rfl, h3⟩
    · cases hx.2.1
    · cases h2
      exact KX h1 m h3) (fun r g m hx => by
    rcases hx with ⟨h1, h2, rfl, rfl⟩ | hx
    · cases h2
      exact K h1
    · cases hx.2.1)
theorem cNs {G : ez_G} {M M' : ez_M} {d na : Nat} {Q : ez_Q} {h : ez_H} {n mc ms pc q idx : Nat} {ls : List (Option Value)} {st st0 as : List Value} {c : Prop} {X : String} (hd : decode M.2.1 pc = .ok (.invokestatic idx, 3)) (hck : ez_kS M.1.cls idx M' na) (hC : Con G M' d as h n 1 6 (PN h n c X)) (htab : M'.2.2.2.2 = []) (hst : st0 = as.reverse ++ st) (hna : as.length = na) (hrm : (st.map fun v => v.category).sum ≤ 8) (hq : pc + 3 = q) (KX : ¬ c → ∀ m, n ≤ m → EX G M (d + 1) Q h m mc ms pc ls X) (K : c → E G M (d + 1) Q h n mc ms q ls st) : E G M (d + 1) Q h n (mc + 1) (ms + 6) pc ls st0 := by
  rw [Nat.add_comm mc, Nat.add_comm ms]
  exact ez_callS (mc := mc) (ms := ms) (q := q) (Q := Q) (ls := ls) hd hck htab hC hst hna hrm hq (fun x g m hx => by
    rcases hx with hx | ⟨h1, h2, rfl, h3⟩
    · cases hx.2.1
    · cases h2
      exact KX h1 m h3) (fun r g m hx => by
    rcases hx with ⟨h1, h2, rfl, rfl⟩ | hx
    · cases h2
      exact K h1
    · cases hx.2.1)

def SW (ia : Nat) (h0 h : ez_H) (wo : Int32) (ff : Int32) (lt : Nat → Int32) (st : Nat → Int32) (le : Nat → Int32) (sc : Nat → Int32) : Prop := 0 < ia ∧ h ia = some (.inr (3, [.int wo, .int ff, .ref (ia + 1), .ref (ia + 2), .ref (ia + 3), .ref (ia + 4)])) ∧ h (ia + 1) = some (.inl (0, 10, .inl lt)) ∧ h (ia + 2) = some (.inl (0, 10, .inl st)) ∧ h (ia + 3) = some (.inl (0, 4, .inl le)) ∧ h (ia + 4) = some (.inl (1, 160, .inl sc)) ∧ ∀ j : Nat, (j < ia ∨ ia + 5 ≤ j) → h j = h0 j
theorem SW.rb {ia : Nat} {h0 h : ez_H} {wo ff : Int32} {lt st le sc : Nat → Int32} (hM : SW ia h0 h wo ff lt st le sc) : SW ia h h wo ff lt st le sc := ⟨hM.1, hM.2.1, hM.2.2.1, hM.2.2.2.1, hM.2.2.2.2.1, hM.2.2.2.2.2.1, fun _ _ => rfl⟩
theorem SW.tr {ia : Nat} {h0 h g : ez_H} {wo ff : Int32} {lt st le sc : Nat → Int32} {wo' : Int32} {ff' : Int32} {lt' : Nat → Int32} {st' : Nat → Int32} {le' : Nat → Int32} {sc' : Nat → Int32} (hM : SW ia h0 h wo ff lt st le sc) (hN : SW ia h g wo' ff' lt' st' le' sc') : SW ia h0 g wo' ff' lt' st' le' sc' := ⟨hN.1, hN.2.1, hN.2.2.1, hN.2.2.2.1, hN.2.2.2.2.1, hN.2.2.2.2.2.1, fun j hj => (hN.2.2.2.2.2.2 j hj).trans (hM.2.2.2.2.2.2 j hj)⟩
theorem SW.fr {ia : Nat} {h0 h : ez_H} {wo ff : Int32} {lt st le sc : Nat → Int32} (hM : SW ia h0 h wo ff lt st le sc) : ∀ j : Nat, (j < ia ∨ ia + 5 ≤ j) → h j = h0 j := hM.2.2.2.2.2.2
theorem pSW_wo {G : ez_G} {M : ez_M} {d : Nat} {Q : ez_Q} {h0 h : ez_H} {n mc ms pc q idx : Nat} {ls : List (Option Value)} {st9 : List Value} {ia : Nat} {wo ff : Int32} {lt st le sc : Nat → Int32} {x : Int32} (hd : decode M.2.1 pc = .ok (.putfield idx, 3)) (hf : ez_fl M.1.cls idx 3 0) (hM : SW ia h0 h wo ff lt st le sc) (hq : pc + 3 = q) (K : ∀ g, SW ia h0 g x ff lt st le sc → E G M d Q g n mc ms q ls st9) : E G M d Q h n mc ms pc ls (.int x :: .ref ia :: st9) := ez_put0 hd hf rfl (fun _ => rfl) (fun _ => rfl) hM.1 hM.2.1 (by show 0 < 6; decide) hq (K _ ⟨hM.1, zu_same, zu_keep (by omega) hM.2.2.1, zu_keep (by omega) hM.2.2.2.1, zu_keep (by omega) hM.2.2.2.2.1, zu_keep (by omega) hM.2.2.2.2.2.1, fun j hj => zu_fr (by omega) (hM.2.2.2.2.2.2 j hj)⟩)
theorem pSW_ff {G : ez_G} {M : ez_M} {d : Nat} {Q : ez_Q} {h0 h : ez_H} {n mc ms pc q idx : Nat} {ls : List (Option Value)} {st9 : List Value} {ia : Nat} {wo ff : Int32} {lt st le sc : Nat → Int32} {x : Int32} (hd : decode M.2.1 pc = .ok (.putfield idx, 3)) (hf : ez_fl M.1.cls idx 3 1) (hM : SW ia h0 h wo ff lt st le sc) (hq : pc + 3 = q) (K : ∀ g, SW ia h0 g wo x lt st le sc → E G M d Q g n mc ms q ls st9) : E G M d Q h n mc ms pc ls (.int x :: .ref ia :: st9) := ez_put0 hd hf rfl (fun _ => rfl) (fun _ => rfl) hM.1 hM.2.1 (by show 1 < 6; decide) hq (K _ ⟨hM.1, zu_same, zu_keep (by omega) hM.2.2.1, zu_keep (by omega) hM.2.2.2.1, zu_keep (by omega) hM.2.2.2.2.1, zu_keep (by omega) hM.2.2.2.2.2.1, fun j hj => zu_fr (by omega) (hM.2.2.2.2.2.2 j hj)⟩)
theorem sSW_lt {G : ez_G} {M : ez_M} {d : Nat} {Q : ez_Q} {h0 h : ez_H} {n mc ms pc q : Nat} {ls : List (Option Value)} {st9 : List Value} {ia : Nat} {wo ff : Int32} {lt st le sc : Nat → Int32} {j : Nat} {i x : Int32} (hd : decode M.2.1 pc = .ok (.iastore, 1)) (hM : SW ia h0 h wo ff lt st le sc) (hi : i = nI j) (hj : j < 10) (hq : pc + 1 = q) (K : ∀ g, SW ia h0 g wo ff (upd lt j x) st le sc → E G M d Q g n mc ms q ls st9) : E G M d Q h n mc ms pc ls (.int x :: .int i :: .ref (ia + 1) :: st9) := ez_iast hd (by have := hM.1; omega) hM.2.2.1 hi hj (by decide) hq (K _ ⟨hM.1, zu_keep (by omega) hM.2.1, zu_same, zu_keep (by omega) hM.2.2.2.1, zu_keep (by omega) hM.2.2.2.2.1, zu_keep (by omega) hM.2.2.2.2.2.1, fun j hj => zu_fr (by omega) (hM.2.2.2.2.2.2 j hj)⟩)
theorem sSW_st {G : ez_G} {M : ez_M} {d : Nat} {Q : ez_Q} {h0 h : ez_H} {n mc ms pc q : Nat} {ls : List (Option Value)} {st9 : List Value} {ia : Nat} {wo ff : Int32} {lt st le sc : Nat → Int32} {j : Nat} {i x : Int32} (hd : decode M.2.1 pc = .ok (.iastore, 1)) (hM : SW ia h0 h wo ff lt st le sc) (hi : i = nI j) (hj : j < 10) (hq : pc + 1 = q) (K : ∀ g, SW ia h0 g wo ff lt (upd st j x) le sc → E G M d Q g n mc ms q ls st9) : E G M d Q h n mc ms pc ls (.int x :: .int i :: .ref (ia + 2) :: st9) := ez_iast hd (by have := hM.1; omega) hM.2.2.2.1 hi hj (by decide) hq (K _ ⟨hM.1, zu_keep (by omega) hM.2.1, zu_keep (by omega) hM.2.2.1, zu_same, zu_keep (by omega) hM.2.2.2.2.1, zu_keep (by omega) hM.2.2.2.2.2.1, fun j hj => zu_fr (by omega) (hM.2.2.2.2.2.2 j hj)⟩)
theorem sSW_le {G : ez_G} {M : ez_M} {d : Nat} {Q : ez_Q} {h0 h : ez_H} {n mc ms pc q : Nat} {ls : List (Option Value)} {st9 : List Value} {ia : Nat} {wo ff : Int32} {lt st le sc : Nat → Int32} {j : Nat} {i x : Int32} (hd : decode M.2.1 pc = .ok (.iastore, 1)) (hM : SW ia h0 h wo ff lt st le sc) (hi : i = nI j) (hj : j < 4) (hq : pc + 1 = q) (K : ∀ g, SW ia h0 g wo ff lt st (upd le j x) sc → E G M d Q g n mc ms q ls st9) : E G M d Q h n mc ms pc ls (.int x :: .int i :: .ref (ia + 3) :: st9) := ez_iast hd (by have := hM.1; omega) hM.2.2.2.2.1 hi hj (by decide) hq (K _ ⟨hM.1, zu_keep (by omega) hM.2.1, zu_keep (by omega) hM.2.2.1, zu_keep (by omega) hM.2.2.2.1, zu_same, zu_keep (by omega) hM.2.2.2.2.2.1, fun j hj => zu_fr (by omega) (hM.2.2.2.2.2.2 j hj)⟩)
theorem sSW_sc {G : ez_G} {M : ez_M} {d : Nat} {Q : ez_Q} {h0 h : ez_H} {n mc ms pc q : Nat} {ls : List (Option Value)} {st9 : List Value} {ia : Nat} {wo ff : Int32} {lt st le sc : Nat → Int32} {j c9 : Nat} {i x : Int32} (hd : decode M.2.1 pc = .ok (.castore, 1)) (hM : SW ia h0 h wo ff lt st le sc) (hi : i = nI j) (hj : j < 160) (hx : x = nI c9) (hx2 : c9 < 65536) (hq : pc + 1 = q) (K : ∀ g, SW ia h0 g wo ff lt st le (upd sc j x) → E G M d Q g n mc ms q ls st9) : E G M d Q h n mc ms pc ls (.int x :: .int i :: .ref (ia + 4) :: st9) := ez_cast hd (by have := hM.1; omega) hM.2.2.2.2.2.1 hi hj (by decide) hx hx2 hq (K _ ⟨hM.1, zu_keep (by omega) hM.2.1, zu_keep (by omega) hM.2.2.1, zu_keep (by omega) hM.2.2.2.1, zu_keep (by omega) hM.2.2.2.2.1, zu_same, fun j hj => zu_fr (by omega) (hM.2.2.2.2.2.2 j hj)⟩)

/-- characters alone -/
def CH (sc : Nat → Int32) : Prop := ∀ i, ∃ c, c < 65536 ∧ sc i = nI c
/-- the rows of a State, as numbers -/
def ZC (n : Nat) (L T ln : Nat → Nat) (sg : Nat → Nat → Nat) (lt st le sc : Nat → Int32) : Prop := (∀ i, i < n → lt i = nI (L i)) ∧ (∀ i, i < n → st i = nI (T i)) ∧ (∀ w, w < 4 → le w = nI (ln w)) ∧ (∀ w, w < 4 → ∀ k, k < ln w → sc (w * 40 + k) = nI (sg w k)) ∧ CH sc
/-- the State at ia holds .. -/
def SS (ia : Nat) (h : ez_H) (n f : Nat) (L T ln : Nat → Nat) (sg : Nat → Nat → Nat) : Prop := ∃ lt st le sc : Nat → Int32, SW ia h h (nI n) (fI f) lt st le sc ∧ ZC n L T ln sg lt st le sc
theorem SS.to {ia n f : Nat} {L T ln : Nat → Nat} {sg : Nat → Nat → Nat} {h g : ez_H} (hS : SS ia h n f L T ln sg) (hg : ∀ j, ia ≤ j → j < ia + 5 → g j = h j) : SS ia g n f L T ln sg := by
  obtain ⟨lt, st, le, sc, h1, h2⟩ := hS
  refine ⟨lt, st, le, sc, ⟨h1.1, ?_, ?_, ?_, ?_, ?_, fun _ _ => rfl⟩, h2⟩
  · rw [hg _ (by omega) (by omega)]; exact h1.2.1
  · rw [hg _ (by omega) (by omega)]; exact h1.2.2.1
  · rw [hg _ (by omega) (by omega)]; exact h1.2.2.2.1
  · rw [hg _ (by omega) (by omega)]; exact h1.2.2.2.2.1
  · rw [hg _ (by omega) (by omega)]; exact h1.2.2.2.2.2.1
def bc1 (i : Int32) : Int32 := i - ((i.toUInt32 >>> ((nI 1).toUInt32 &&& Int32.toUInt32 31)).toInt32 &&& (1431655765 : Int32))
def bc2 (i : Int32) : Int32 := (i &&& (858993459 : Int32)) + ((i.toUInt32 >>> ((nI 2).toUInt32 &&& Int32.toUInt32 31)).toInt32 &&& (858993459 : Int32))
def bc3 (i : Int32) : Int32 := (i + (i.toUInt32 >>> ((nI 4).toUInt32 &&& Int32.toUInt32 31)).toInt32) &&& (252645135 : Int32)
def bc4 (i : Int32) : Int32 := i + (i.toUInt32 >>> ((nI 8).toUInt32 &&& Int32.toUInt32 31)).toInt32
def bc5 (i : Int32) : Int32 := i + (i.toUInt32 >>> ((nI 16).toUInt32 &&& Int32.toUInt32 31)).toInt32
theorem bc_ok : ∀ a, a < 1024 → bc5 (bc4 (bc3 (bc2 (bc1 (nI a))))) &&& nI 63 = nI (ctN a 10) := by decide +kernel

