section
variable {T : Nat → Nat} {n f : Nat} {L : Nat → Nat}
theorem stays_len (hn : n ≤ 10) {s w : Nat} (hs : s < 2 ^ n) (h : (stN T n f L s).testBit w = true) : (staysL T n (stN T n f L s) (goN n f L (stN T n f L s)) w).length ≤ 111 := by
  rw [staysL, List.length_cons]
  have := sty_len (sty_st hn hs) 11 w 0 h
  omega
theorem sm_len (hn : n ≤ 10) {c a b w : Nat} (hk : c = 88 ∨ c = 70 ∨ c = 71 ∨ c = 85) (ha : a < 2 ^ n) (h : (someS T n f L c a b).testBit w = true) : (smW T n f L c a b w).length ≤ 111 := by
  rcases hk with rfl | rfl | rfl | rfl
  · rw [smW, if_pos rfl]; show 2 ≤ 111; decide
  · rw [smW, if_neg (by decide), if_pos rfl]
    exact Nat.le_trans (ways_len _ _ _ _ _ (un_ds hn (and_lt (lvN_lt T n f L)) h)) (by decide)
  · rw [smW, if_neg (by decide), if_neg (by decide), if_pos rfl]
    exact stays_len hn ha h
  · rw [smW, if_neg (by decide), if_neg (by decide), if_neg (by decide)]
    exact Nat.le_trans (ways_len _ _ _ _ _ (un_ds hn (and_lt (lvN_lt T n f L)) h)) (by decide)
theorem ag_len (hn : n ≤ 10) {c a b w : Nat} (hk : c = 88 ∨ c = 70 ∨ c = 71 ∨ c = 85) (hw : w < n) (h : ¬ (evryS T n f L c a b).testBit w = true) : (agW T n f L c (ndN (2 ^ n - 1) a) (ndN (2 ^ n - 1) b) w).length ≤ 111 := by
  have hna : ndN (2 ^ n - 1) a < 2 ^ n := nd_lt (al_lt n)
  have hnb : ndN (2 ^ n - 1) b < 2 ^ n := nd_lt (al_lt n)
  rcases hk with rfl | rfl | rfl | rfl
  · rw [agW, if_pos rfl]; show 2 ≤ 111; decide
  · rw [agW, if_neg (by decide), if_pos rfl]
    exact stays_len hn hna (nd_in hw h)
  · rw [agW, if_neg (by decide), if_neg (by decide), if_pos rfl]
    have hin : (unN T n (2 ^ n - 1) (lvN T n f L &&& ndN (2 ^ n - 1) a)).testBit w = true := nd_in hw h
    exact Nat.le_trans (ways_len _ _ _ _ _ (un_ds hn (and_lt (lvN_lt T n f L)) hin)) (by decide)
  · rw [agW, if_neg (by decide), if_neg (by decide), if_neg (by decide)]
    have hin : (unN T n (ndN (2 ^ n - 1) b) (lvN T n f L &&& ndN (ndN (2 ^ n - 1) b) a) ||| stN T n f L (ndN (2 ^ n - 1) b)).testBit w = true := nd_in hw h
    rw [nd_nd, Nat.testBit_or, Bool.or_eq_true] at hin
    split
    · rename_i hc
      have hds := un_ds hn (and_lt (lvN_lt T n f L)) ((tb_1 _ _).mp hc)
      rw [← Nat.and_assoc] at hds
      exact Nat.le_trans (ways_len _ _ _ _ _ hds) (by decide)
    · rename_i hc
      exact stays_len hn hnb (hin.resolve_left (fun e => hc ((tb_1 _ _).mpr e)))
theorem wt_len {ln : Nat → Nat} {sg : Nat → Nat → Nat} (hn : n ≤ 10) (hs : WFS ln sg) {w u : Nat} (hw : w < 4) (hu : u < n) : (wtL T n f L ln sg w u).length ≤ 111 := by
  rw [wtL]
  by_cases h0 : ln w = 0
  · rw [if_pos h0]; exact Nat.zero_le _
  rw [if_neg h0]
  by_cases hc : sg w 0 = 69 ∨ sg w 0 = 65
  · rw [if_pos hc]
    obtain ⟨sc, hwf⟩ := hs w hw (by omega)
    have hs0 : (sc 0).2 = false := by rw [(wf_0 hwf).2.1]
    obtain ⟨hk, h2, h2s, h2u⟩ := wf_ea hwf (show 0 < ln w by omega) hs0 hc
    by_cases hb : (hW T n f L ln sg w >>> u) &&& 1 = 1
    · rw [if_pos hb]
      by_cases h1 : sg w 0 = 69
      · rw [if_pos h1]
        refine sm_len hn hk (seW_l _ _ _ _ _ _ _) ?_
        have h9 := (tb_1 _ _).mp hb
        rw [hW, seW_E (show 0 < ln w by omega) h1] at h9
        exact h9
      · rw [if_neg h1]; exact Nat.zero_le _
    · rw [if_neg hb]
      by_cases h1 : sg w 0 = 69
      · rw [if_pos h1]; exact Nat.zero_le _
      · rw [if_neg h1]
        refine ag_len hn hk hu ?_
        have h9 := fun e => hb ((tb_1 _ _).mpr e)
        rw [hW, seW_A (show 0 < ln w by omega) (by omega)] at h9
        exact h9
  · rw [if_neg hc]; exact Nat.zero_le _
end
