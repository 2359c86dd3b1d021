theorem and3 (a b c : Nat) : a &&& b &&& c = a &&& c &&& b := by rw [Nat.and_assoc, Nat.and_comm b c, ← Nat.and_assoc]
section
variable {T : Nat → Nat} {n f : Nat} {L : Nat → Nat} {a b w : Nat}
theorem sm_88 : smW T n f L 88 a b w = [w] ++ [loN (T w &&& a &&& lvN T n f L) 0 10] := by rw [smW, if_pos rfl, and3]; rfl
theorem sm_70 : smW T n f L 70 a b w = [w] ++ wyN (nxN T n (2 ^ n - 1) (dsN T n (2 ^ n - 1) (a &&& lvN T n f L) 10)) (dsN T n (2 ^ n - 1) (a &&& lvN T n f L) 10 w) w := by rw [smW, if_neg (by decide), if_pos rfl, Nat.and_comm]; rfl
theorem sm_71 : smW T n f L 71 a b w = [w] ++ rdL (nxN T n (stN T n f L a) (dsN T n (stN T n f L a) (goN n f L (stN T n f L a)) 10)) (dsN T n (stN T n f L a) (goN n f L (stN T n f L a)) 10) 11 w 0 := by rw [smW, if_neg (by decide), if_neg (by decide), if_pos rfl]; rfl
theorem sm_85 : smW T n f L 85 a b w = [w] ++ wyN (nxN T n (2 ^ n - 1) (dsN T n a (b &&& lvN T n f L) 10)) (dsN T n a (b &&& lvN T n f L) 10 w) w := by rw [smW, if_neg (by decide), if_neg (by decide), if_neg (by decide), Nat.and_comm]; rfl
theorem ag_88 : agW T n f L 88 a b w = [w] ++ [loN (T w &&& a &&& lvN T n f L) 0 10] := by rw [agW, if_pos rfl, and3]; rfl
theorem ag_70 : agW T n f L 70 a b w = [w] ++ rdL (nxN T n (stN T n f L a) (dsN T n (stN T n f L a) (goN n f L (stN T n f L a)) 10)) (dsN T n (stN T n f L a) (goN n f L (stN T n f L a)) 10) 11 w 0 := by rw [agW, if_neg (by decide), if_pos rfl]; rfl
theorem ag_71 : agW T n f L 71 a b w = [w] ++ wyN (nxN T n (2 ^ n - 1) (dsN T n (2 ^ n - 1) (a &&& lvN T n f L) 10)) (dsN T n (2 ^ n - 1) (a &&& lvN T n f L) 10 w) w := by rw [agW, if_neg (by decide), if_neg (by decide), if_pos rfl, Nat.and_comm]; rfl
theorem and4 : lvN T n f L &&& (a &&& b) = (b &&& a) &&& lvN T n f L := by rw [Nat.and_comm, Nat.and_comm a b]
theorem ag_85t (h : (unN T n b ((b &&& a) &&& lvN T n f L) >>> w) &&& 1 = 1) : agW T n f L 85 a b w = [w] ++ wyN (nxN T n (2 ^ n - 1) (dsN T n b ((b &&& a) &&& lvN T n f L) 10)) (dsN T n b ((b &&& a) &&& lvN T n f L) 10 w) w := by
  rw [agW, if_neg (by decide), if_neg (by decide), if_neg (by decide), and4, if_pos h, Nat.and_assoc, and4]; rfl
theorem ag_85f (h : ¬ (unN T n b ((b &&& a) &&& lvN T n f L) >>> w) &&& 1 = 1) : agW T n f L 85 a b w = [w] ++ rdL (nxN T n (stN T n f L b) (dsN T n (stN T n f L b) (goN n f L (stN T n f L b)) 10)) (dsN T n (stN T n f L b) (goN n f L (stN T n f L b)) 10) 11 w 0 := by
  rw [agW, if_neg (by decide), if_neg (by decide), if_neg (by decide), and4, if_neg h]; rfl
end
theorem sg_if (ln : Nat → Nat) (sg : Nat → Nat → Nat) (w i : Nat) : (if i < ln w then sgA ln sg w i else 0) = sgA ln sg w i := by
  rw [sgA]; split <;> rfl
theorem sgA_lt {ln : Nat → Nat} {sg : Nat → Nat → Nat} {w i : Nat} (h : ∀ k, k < ln w → sg w k < 128) : sgA ln sg w i < 128 := by
  rw [sgA]; split
  · exact h i (by assumption)
  · decide
/-- the place behind the third sign is a number -/
theorem bh_ex {ln : Nat → Nat} {sg : Nat → Nat → Nat} {w : Nat} {me md : Nat → Int32} (hl : ln w ≤ 40) (hle : TLD (ln w) (sg w) 0 me md) (hs : 0 < ln w → ∃ sc, WF (ln w) (sg w) sc) : ∃ j, j < 2 ^ 31 ∧ (if 2 < ln w then nI 2 + me 2 else nI (ln w)) = nI j := by
  by_cases h : 2 < ln w
  · rw [if_pos h]
    obtain ⟨sc, hwf⟩ := hs (by omega)
    have h1 := hle 2 (Nat.zero_le 2) h
    cases hw : wayB (sg w 2) with
    | true => exact ⟨1, by decide, by rw [h1.1 hw]; decide⟩
    | false =>
      have h2 := wf_pt hwf h ((wf_w hwf h).symm.trans hw)
      exact ⟨2 + leW (ln w) (sg w) 2, by omega, by rw [(h1.2 hw).1, nI_add]⟩
  · rw [if_neg h]; exact ⟨ln w, by omega, rfl⟩
/-- the Witness' own cells -/
def WO (h : ez_H) : Prop := ∃ (wl : Int32) (rw la : Nat → Int32), h 48 = some (.inr (6, [.ref 41, .ref 47, .ref 49, .int wl, .ref 50])) ∧ h 49 = some (.inl (0, 111, .inl rw)) ∧ h 50 = some (.inl (0, 11, .inl la))
theorem WO.to {h g : ez_H} (hX : WO h) (hg : ∀ j, 48 ≤ j → j < 51 → g j = h j) : WO g := by
  obtain ⟨wl, rw, la, h1, h2, h3⟩ := hX
  exact ⟨wl, rw, la, (hg _ (by decide) (by decide)).trans h1, (hg _ (by decide) (by decide)).trans h2, (hg _ (by decide) (by decide)).trans h3⟩
theorem smW_i {T : Nat → Nat} {n f : Nat} {L : Nat → Nat} {c a b w : Nat} (hk : c = 88 ∨ c = 70 ∨ c = 71 ∨ c = 85) : smW T n f L c a (if c = 85 then b else 0) w = smW T n f L c a b w := by
  rcases hk with rfl | rfl | rfl | rfl
  · rw [sm_88, sm_88]
  · rw [sm_70, sm_70]
  · rw [sm_71, sm_71]
  · rw [if_pos rfl]
theorem agW_i {T : Nat → Nat} {n f : Nat} {L : Nat → Nat} {c a b w : Nat} (hk : c = 88 ∨ c = 70 ∨ c = 71 ∨ c = 85) : agW T n f L c a (ndN (2 ^ n - 1) (if c = 85 then b else 0)) w = agW T n f L c a (ndN (2 ^ n - 1) b) w := by
  rcases hk with rfl | rfl | rfl | rfl
  · rw [ag_88, ag_88]
  · rw [ag_70, ag_70]
  · rw [ag_71, ag_71]
  · rw [if_pos rfl]
theorem wt_ea {T : Nat → Nat} {n' f : Nat} {L ln : Nat → Nat} {sg : Nat → Nat → Nat} {w u jb : Nat} (hk : sg w 1 = 88 ∨ sg w 1 = 70 ∨ sg w 1 = 71 ∨ sg w 1 = 85) (hl0 : 0 < ln w) (hc : sg w 0 = 69 ∨ sg w 0 = 65) (hje : jb = 2 + leW (ln w) (sg w) (2)) : (wtL T n' f L ln sg w u) = if ((hW T n' f L ln sg w) >>> u) &&& 1 = 1 then (if sg w 0 = 69 then smW T n' f L (sg w 1) (seW T n' f L (ln w) (sg w) (2)) (seW T n' f L (ln w) (sg w) (jb)) u else []) else if sg w 0 = 69 then [] else agW T n' f L (sg w 1) (ndN (2 ^ n' - 1) (seW T n' f L (ln w) (sg w) (2))) (ndN (2 ^ n' - 1) (seW T n' f L (ln w) (sg w) (jb))) u := by
  rw [wtL, if_neg (by omega), if_pos hc, ← hje, smW_i hk, agW_i hk]
