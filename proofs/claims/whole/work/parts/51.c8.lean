theorem and3 (a b c : Nat) : a &&& b &&& c = a &&& c &&& b := by rw [Nat.and_assoc, Nat.and_comm b c, ← Nat.and_assoc]
section
variable {T : Nat → Nat} {n f : Nat} {L : Nat → Nat} {a b w : Nat}
theorem sm_88 : smW T n f L 88 a b w = [w] ++ [loN (T w &&& a &&& lvN T n f L) 0 10] := by rw [smW, if_pos rfl, and3]; rfl
theorem sm_70 : smW T n f L 70 a b w = [w] ++ wyN (nxN T n (2 ^ n - 1) (dsN T n (2 ^ n - 1) (a &&& lvN T n f L) 10)) (dsN T n (2 ^ n - 1) (a &&& lvN T n f L) 10 w) w := by rw [smW, if_neg (by decide), if_pos rfl, Nat.and_comm]; rfl
theorem sm_71 : smW T n f L 71 a b w = [w] ++ rdL (nxN T n (stN T n f L a) (dsN T n (stN T n f L a) (goN n f L (stN T n f L a)) 10)) (dsN T n (stN T n f L a) (goN n f L (stN T n f L a)) 10) 11 w 0 := by rw [smW, if_neg (by decide), if_neg (by decide), if_pos rfl]; rfl
theorem sm_85 : smW T n f L 85 a b w = [w] ++ wyN (nxN T n (2 ^ n - 1) (dsN T n a (b &&& lvN T n f L) 10)) (dsN T n a (b &&& lvN T n f L) 10 w) w := by rw [smW, if_neg (by decide), if_neg (by decide), if_neg (by decide), Nat.and_comm]; rfl
theorem ag_88 : agW T n f L 88 a b w = [w] ++ [loN (T w &&& a &&& lvN T n f L) 0 10] := by rw [agW, if_pos rfl, and3]; rfl
theorem ag_70 : agW T n f L 70 a b w = [w] ++ rdL (nxN T n (stN T n f L a) (dsN T n (stN T n f L a) (goN n f L (stN T n f L a)) 10)) (dsN T n (stN T n f L a) (goN n f L (stN T n f L a)) 10) 11 w 0 := by rw [agW, if_neg (by decide), if_pos rfl]; rfl
theorem ag_71 : agW T n f L 71 a b w = [w] ++ wyN (nxN T n (2 ^ n - 1) (dsN T n (2 ^ n - 1) (a &&& lvN T n f L) 10)) (dsN T n (2 ^ n - 1) (a &&& lvN T n f L) 10 w) w := by rw [agW, if_neg (by decide), if_neg (by decide), if_pos rfl, Nat.and_comm]; rfl
theorem and4 : lvN T n f L &&& (a &&& b) = (b &&& a) &&& lvN T n f L := by rw [Nat.and_comm, Nat.and_comm a b]
theorem ag_85t (h : (unN T n b ((b &&& a) &&& lvN T n f L) >>> w) &&& 1 = 1) : agW T n f L 85 a b w = [w] ++ wyN (nxN T n (2 ^ n - 1) (dsN T n b ((b &&& a) &&& lvN T n f L) 10)) (dsN T n b ((b &&& a) &&& lvN T n f L) 10 w) w := by
  rw [agW, if_neg (by decide), if_neg (by decide), if_neg (by decide), and4, if_pos h, Nat.and_assoc, and4]; rfl
theorem ag_85f (h : ¬ (unN T n b ((b &&& a) &&& lvN T n f L) >>> w) &&& 1 = 1) : agW T n f L 85 a b w = [w] ++ rdL (nxN T n (stN T n f L b) (dsN T n (stN T n f L b) (goN n f L (stN T n f L b)) 10)) (dsN T n (stN T n f L b) (goN n f L (stN T n f L b)) 10) 11 w 0 := by
  rw [agW, if_neg (by decide), if_neg (by decide), if_neg (by decide), and4, if_neg h]; rfl
end
theorem sg_if (ln : Nat → Nat) (sg : Nat → Nat → Nat) (w i : Nat) : (if i < ln w then sgA ln sg w i else 0) = sgA ln sg w i := by
  rw [sgA]; split <;> rfl
theorem sgA_lt {ln : Nat → Nat} {sg : Nat → Nat → Nat} {w i : Nat} (h : ∀ k, k < ln w → sg w k < 128) : sgA ln sg w i < 128 := by
  rw [sgA]; split
  · exact h i (by assumption)
  · decide
/-- the place behind the third sign is a number -/
theorem bh_ex {ln : Nat → Nat} {sg : Nat → Nat → Nat} {w : Nat} {me md : Nat → Int32} (hl : ln w ≤ 40) (hle : TLD (ln w) (sg w) 0 me md) (hs : 0 < ln w → ∃ sc, WF (ln w) (sg w) sc) : ∃ j, j < 2 ^ 31 ∧ (if 2 < ln w then nI 2 + me 2 else nI (ln w)) = nI j := by
  by_cases h : 2 < ln w
  · rw [if_pos h]
    obtain ⟨sc, hwf⟩ := hs (by omega)
    have h1 := hle 2 (Nat.zero_le 2) h
    cases hw : wayB (sg w 2) with
    | true => exact ⟨1, by decide, by rw [h1.1 hw]; decide⟩
    | false =>
      have h2 := wf_pt hwf h ((wf_w hwf h).symm.trans hw)
      exact ⟨2 + leW (ln w) (sg w) 2, by omega, by rw [(h1.2 hw).1, nI_add]⟩
  · rw [if_neg h]; exact ⟨ln w, by omega, rfl⟩
/-- the Witness' own cells -/
def WO (h : ez_H) : Prop := ∃ (wl : Int32) (rw la : Nat → Int32), h 48 = some (.inr (6, [.ref 41, .ref 47, .ref 49, .int wl, .ref 50])) ∧ h 49 = some (.inl (0, 111, .inl rw)) ∧ h 50 = some (.inl (0, 11, .inl la))
theorem WO.to {h g : ez_H} (hX : WO h) (hg : ∀ j, 48 ≤ j → j < 51 → g j = h j) : WO g := by
  obtain ⟨wl, rw, la, h1, h2, h3⟩ := hX
  exact ⟨wl, rw, la, (hg _ (by decide) (by decide)).trans h1, (hg _ (by decide) (by decide)).trans h2, (hg _ (by decide) (by decide)).trans h3⟩
theorem smW_i {T : Nat → Nat} {n f : Nat} {L : Nat → Nat} {c a b w : Nat} (hk : c = 88 ∨ c = 70 ∨ c = 71 ∨ c = 85) : smW T n f L c a (if c = 85 then b else 0) w = smW T n f L c a b w := by
  rcases hk with rfl | rfl | rfl | rfl
  · rw [sm_88, sm_88]
  · rw [sm_70, sm_70]
  · rw [sm_71, sm_71]
  · rw [if_pos rfl]
theorem agW_i {T : Nat → Nat} {n f : Nat} {L : Nat → Nat} {c a b w : Nat} (hk : c = 88 ∨ c = 70 ∨ c = 71 ∨ c = 85) : agW T n f L c a (ndN (2 ^ n - 1) (if c = 85 then b else 0)) w = agW T n f L c a (ndN (2 ^ n - 1) b) w := by
  rcases hk with rfl | rfl | rfl | rfl
  · rw [ag_88, ag_88]
  · rw [ag_70, ag_70]
  · rw [ag_71, ag_71]
  · rw [if_pos rfl]
theorem wt_ea {T : Nat → Nat} {n' f : Nat} {L ln : Nat → Nat} {sg : Nat → Nat → Nat} {w u jb : Nat} (hk : sg w 1 = 88 ∨ sg w 1 = 70 ∨ sg w 1 = 71 ∨ sg w 1 = 85) (hl0 : 0 < ln w) (hc : sg w 0 = 69 ∨ sg w 0 = 65) (hje : jb = 2 + leW (ln w) (sg w) (2)) : (wtL T n' f L ln sg w u) = if ((hW T n' f L ln sg w) >>> u) &&& 1 = 1 then (if sg w 0 = 69 then smW T n' f L (sg w 1) (seW T n' f L (ln w) (sg w) (2)) (seW T n' f L (ln w) (sg w) (jb)) u else []) else if sg w 0 = 69 then [] else agW T n' f L (sg w 1) (ndN (2 ^ n' - 1) (seW T n' f L (ln w) (sg w) (2))) (ndN (2 ^ n' - 1) (seW T n' f L (ln w) (sg w) (jb))) u := by
  rw [wtL, if_neg (by omega), if_pos hc, ← hje, smW_i hk, agW_i hk]
set_option maxHeartbeats 800000 in
set_option maxRecDepth 100000 in
theorem t_X6_go {G : ez_G} {d n : Nat} {h : ez_H} {n' f : Nat} {L T ln : Nat → Nat} {sg : Nat → Nat → Nat} {r : Nat} {rw la : Nat → Int32} {c a b w : Nat} (hM : WW  h h (nI (2 ^ n' - 1)) (nI (lvN T n' f L)) (nI r) (nI (goW n' f L)) (nI [w].length) rw la) (hrw : RW rw [w]) (hS : SS 2 h n' f L T ln sg) (ho : OK n' f L T ln sg) (hk : c = 88 ∨ c = 70 ∨ c = 71 ∨ c = 85) (haa : a < 2 ^ n') (hw : w < n') (hb : (someS T n' f L c a b).testBit w = true) : Con G mX6_go (d + 4) [.ref 48, .int (nI w), .int (nI c), .int (nI a), .int (nI b)] h n 0 0 (PW n none (fun g => ∃ (rw2 la2 : Nat → Int32) (r2 : Nat), WW  h g (nI (2 ^ n' - 1)) (nI (lvN T n' f L)) (nI r2) (nI (goW n' f L)) (nI (smW T n' f L c a b w).length) rw2 la2 ∧ RW rw2 (smW T n' f L c a b w))) := by
  have hn := ho.1
  refine Con.of [some (.ref 48), some (.int (nI w)), some (.int (nI c)), some (.int (nI a)), some (.int (nI b))] pl_X6 rfl (Nat.le_of_ble_eq_true rfl) rfl ?_
  have hQ : ∀ g (rw2 la2 : Nat → Int32) (r2 : Nat), WW  h g (nI (2 ^ n' - 1)) (nI (lvN T n' f L)) (nI r2) (nI (goW n' f L)) (nI (smW T n' f L c a b w).length) rw2 la2 → RW rw2 (smW T n' f L c a b w) → (PW n none (fun g => ∃ (rw2 la2 : Nat → Int32) (r2 : Nat), WW  h g (nI (2 ^ n' - 1)) (nI (lvN T n' f L)) (nI r2) (nI (goW n' f L)) (nI (smW T n' f L c a b w).length) rw2 la2 ∧ RW rw2 (smW T n' f L c a b w))) (.inl none) g n := fun g rw2 la2 r2 h1 h2 => ⟨rfl, ⟨rw2, la2, r2, h1, h2⟩, rfl⟩
  generalize PW n none (fun g => ∃ (rw2 la2 : Nat → Int32) (r2 : Nat), WW  h g (nI (2 ^ n' - 1)) (nI (lvN T n' f L)) (nI r2) (nI (goW n' f L)) (nI (smW T n' f L c a b w).length) rw2 la2 ∧ RW rw2 (smW T n' f L c a b w)) = Q at hQ ⊢
  refine ez_iload_n (q := 1) 2 dX6_go_0 rfl rfl rfl ?_
  rcases hk with rfl | rfl | rfl | rfl
  · refine ez_lookup (q := 36) (off := 35) dX6_go_1 (by decide) (by decide) (by decide) ?_
    refine ez_aload_n (q := 37) 0 dX6_go_36 rfl rfl rfl ?_
    refine ez_iload_n (q := 38) 1 dX6_go_37 rfl rfl rfl ?_
    refine ez_iload_n (q := 39) 3 dX6_go_38 rfl rfl rfl ?_
    refine cX0 (q := 42) dX6_go_39 ck_X6_64 hM.2.1 (t_X6_goNext hM.rb hrw (hS.to (fun j a b => hM.fr j (by omega))) ho hw (by show 1 < _; decide) (by obtain ⟨j, q1, q2⟩ := sm_x hn hb; exact ⟨j, q1, by rw [and3]; exact q2⟩)) rfl ⟨by decide, rfl⟩ rfl rfl rfl (Nat.le_of_ble_eq_true rfl) rfl (fun g hW => ?_)
    obtain ⟨rw, la, r, hM2, hrw⟩ := hW
    have hM := hM.tr hM2
    refine ez_goto (q := 78) dX6_go_42 (by decide) ?_
    exact ez_vret dX6_go_78 rfl (by first | (rw [sm_88] at hQ; exact hQ _ _ _ _ hM hrw) | (rw [sm_70] at hQ; exact hQ _ _ _ _ hM hrw) | (rw [sm_71] at hQ; exact hQ _ _ _ _ hM hrw) | (rw [sm_85] at hQ; exact hQ _ _ _ _ hM hrw))
  · refine ez_lookup (q := 45) (off := 44) dX6_go_1 (by decide) (by decide) (by decide) ?_
    refine ez_aload_n (q := 46) 0 dX6_go_45 rfl rfl rfl ?_
    refine ez_iload_n (q := 47) 1 dX6_go_46 rfl rfl rfl ?_
    refine ez_aload_n (q := 48) 0 dX6_go_47 rfl rfl rfl ?_
    refine ez_getf (q := 51) dX6_go_48 fl_X6_32 hM.2.1 rfl rfl ?_
    refine ez_getf (q := 54) dX6_go_51 fl_X6_56 hM.1 rfl rfl ?_
    refine ez_iload_n (q := 55) 3 dX6_go_54 rfl rfl rfl ?_
    refine cX0 (q := 58) dX6_go_55 ck_X6_68 hM.2.1 (t_X6_goUntil hM.rb hrw (hS.to (fun j a b => hM.fr j (by omega))) ho hw (by show 1 ≤ _; decide) (by rw [someS_70] at hb; exact un_ds hn (Nat.lt_of_le_of_lt Nat.and_le_right (lvN_lt T n' f L)) hb)) rfl ⟨by decide, rfl⟩ rfl rfl rfl (Nat.le_of_ble_eq_true rfl) rfl (fun g hW => ?_)
    obtain ⟨rw, la, r, hM2, hrw⟩ := hW
    have hM := hM.tr hM2
    refine ez_goto (q := 78) dX6_go_58 (by decide) ?_
    exact ez_vret dX6_go_78 rfl (by first | (rw [sm_88] at hQ; exact hQ _ _ _ _ hM hrw) | (rw [sm_70] at hQ; exact hQ _ _ _ _ hM hrw) | (rw [sm_71] at hQ; exact hQ _ _ _ _ hM hrw) | (rw [sm_85] at hQ; exact hQ _ _ _ _ hM hrw))
  · refine ez_lookup (q := 61) (off := 60) dX6_go_1 (by decide) (by decide) (by decide) ?_
    refine ez_aload_n (q := 62) 0 dX6_go_61 rfl rfl rfl ?_
    refine ez_iload_n (q := 63) 1 dX6_go_62 rfl rfl rfl ?_
    refine ez_iload_n (q := 64) 3 dX6_go_63 rfl rfl rfl ?_
    refine cX0 (q := 67) dX6_go_64 ck_X6_72 hM.2.1 (t_X6_goAround hM.rb hrw (hS.to (fun j a b => hM.fr j (by omega))) ho (by show 1 ≤ _; decide) haa (by rw [someS_71] at hb; exact hb)) rfl ⟨by decide, rfl⟩ rfl rfl rfl (Nat.le_of_ble_eq_true rfl) rfl (fun g hW => ?_)
    obtain ⟨rw, la, r, hM2, hrw⟩ := hW
    have hM := hM.tr hM2
    refine ez_goto (q := 78) dX6_go_67 (by decide) ?_
    exact ez_vret dX6_go_78 rfl (by first | (rw [sm_88] at hQ; exact hQ _ _ _ _ hM hrw) | (rw [sm_70] at hQ; exact hQ _ _ _ _ hM hrw) | (rw [sm_71] at hQ; exact hQ _ _ _ _ hM hrw) | (rw [sm_85] at hQ; exact hQ _ _ _ _ hM hrw))
  · refine ez_lookup (q := 70) (off := 69) dX6_go_1 (by decide) (by decide) (by decide) ?_
    refine ez_aload_n (q := 71) 0 dX6_go_70 rfl rfl rfl ?_
    refine ez_iload_n (q := 72) 1 dX6_go_71 rfl rfl rfl ?_
    refine ez_iload_n (q := 73) 3 dX6_go_72 rfl rfl rfl ?_
    refine ez_iload (q := 75) dX6_go_73 rfl rfl ?_
    refine cX0 (q := 78) dX6_go_75 ck_X6_68 hM.2.1 (t_X6_goUntil hM.rb hrw (hS.to (fun j a b => hM.fr j (by omega))) ho hw (by show 1 ≤ _; decide) (by rw [someS_85] at hb; exact un_ds hn (Nat.lt_of_le_of_lt Nat.and_le_right (lvN_lt T n' f L)) hb)) rfl ⟨by decide, rfl⟩ rfl rfl rfl (Nat.le_of_ble_eq_true rfl) rfl (fun g hW => ?_)
    obtain ⟨rw, la, r, hM2, hrw⟩ := hW
    have hM := hM.tr hM2
    exact ez_vret dX6_go_78 rfl (by first | (rw [sm_88] at hQ; exact hQ _ _ _ _ hM hrw) | (rw [sm_70] at hQ; exact hQ _ _ _ _ hM hrw) | (rw [sm_71] at hQ; exact hQ _ _ _ _ hM hrw) | (rw [sm_85] at hQ; exact hQ _ _ _ _ hM hrw))

set_option maxHeartbeats 800000 in
set_option maxRecDepth 100000 in
theorem t_X6_goAgainst {G : ez_G} {d n : Nat} {h : ez_H} {n' f : Nat} {L T ln : Nat → Nat} {sg : Nat → Nat → Nat} {r : Nat} {rw la : Nat → Int32} {c a b w : Nat} (hM : WW  h h (nI (2 ^ n' - 1)) (nI (lvN T n' f L)) (nI r) (nI (goW n' f L)) (nI [w].length) rw la) (hrw : RW rw [w]) (hS : SS 2 h n' f L T ln sg) (ho : OK n' f L T ln sg) (hk : c = 88 ∨ c = 70 ∨ c = 71 ∨ c = 85) (hw : w < n') (hb : (evX T n' f L c a b).testBit w = true) : Con G mX6_goAgainst (d + 4) [.ref 48, .int (nI w), .int (nI c), .int (nI (ndN (2 ^ n' - 1) a)), .int (nI (ndN (2 ^ n' - 1) b))] h n 0 0 (PW n none (fun g => ∃ (rw2 la2 : Nat → Int32) (r2 : Nat), WW  h g (nI (2 ^ n' - 1)) (nI (lvN T n' f L)) (nI r2) (nI (goW n' f L)) (nI (agW T n' f L c (ndN (2 ^ n' - 1) a) (ndN (2 ^ n' - 1) b) w).length) rw2 la2 ∧ RW rw2 (agW T n' f L c (ndN (2 ^ n' - 1) a) (ndN (2 ^ n' - 1) b) w))) := by
  have hn := ho.1
  refine Con.of [some (.ref 48), some (.int (nI w)), some (.int (nI c)), some (.int (nI (ndN (2 ^ n' - 1) a))), some (.int (nI (ndN (2 ^ n' - 1) b)))] pl_X6 rfl (Nat.le_of_ble_eq_true rfl) rfl ?_
  have hQ : ∀ g (rw2 la2 : Nat → Int32) (r2 : Nat), WW  h g (nI (2 ^ n' - 1)) (nI (lvN T n' f L)) (nI r2) (nI (goW n' f L)) (nI (agW T n' f L c (ndN (2 ^ n' - 1) a) (ndN (2 ^ n' - 1) b) w).length) rw2 la2 → RW rw2 (agW T n' f L c (ndN (2 ^ n' - 1) a) (ndN (2 ^ n' - 1) b) w) → (PW n none (fun g => ∃ (rw2 la2 : Nat → Int32) (r2 : Nat), WW  h g (nI (2 ^ n' - 1)) (nI (lvN T n' f L)) (nI r2) (nI (goW n' f L)) (nI (agW T n' f L c (ndN (2 ^ n' - 1) a) (ndN (2 ^ n' - 1) b) w).length) rw2 la2 ∧ RW rw2 (agW T n' f L c (ndN (2 ^ n' - 1) a) (ndN (2 ^ n' - 1) b) w))) (.inl none) g n := fun g rw2 la2 r2 h1 h2 => ⟨rfl, ⟨rw2, la2, r2, h1, h2⟩, rfl⟩
  generalize PW n none (fun g => ∃ (rw2 la2 : Nat → Int32) (r2 : Nat), WW  h g (nI (2 ^ n' - 1)) (nI (lvN T n' f L)) (nI r2) (nI (goW n' f L)) (nI (agW T n' f L c (ndN (2 ^ n' - 1) a) (ndN (2 ^ n' - 1) b) w).length) rw2 la2 ∧ RW rw2 (agW T n' f L c (ndN (2 ^ n' - 1) a) (ndN (2 ^ n' - 1) b) w)) = Q at hQ ⊢
  refine ez_iload_n (q := 1) 2 dX6_goAgainst_0 rfl rfl rfl ?_
  rcases hk with rfl | rfl | rfl | rfl
  · refine ez_lookup (q := 36) (off := 35) dX6_goAgainst_1 (by decide) (by decide) (by decide) ?_
    refine ez_aload_n (q := 37) 0 dX6_goAgainst_36 rfl rfl rfl ?_
    refine ez_iload_n (q := 38) 1 dX6_goAgainst_37 rfl rfl rfl ?_
    refine ez_iload_n (q := 39) 3 dX6_goAgainst_38 rfl rfl rfl ?_
    refine cX0 (q := 42) dX6_goAgainst_39 ck_X6_64 hM.2.1 (t_X6_goNext hM.rb hrw (hS.to (fun j a b => hM.fr j (by omega))) ho hw (by show 1 < _; decide) (by rw [evX_88] at hb; obtain ⟨j, q1, q2⟩ := sm_x (T := T) (f := f) (L := L) (a := (ndN (2 ^ n' - 1) a)) (b := 0) hn (by rw [someS_88]; exact hb); exact ⟨j, q1, by rw [and3]; exact q2⟩)) rfl ⟨by decide, rfl⟩ rfl rfl rfl (Nat.le_of_ble_eq_true rfl) rfl (fun g hW => ?_)
    obtain ⟨rw, la, r, hM2, hrw⟩ := hW
    have hM := hM.tr hM2
    refine ez_goto (q := 111) dX6_goAgainst_42 (by decide) ?_
    exact ez_vret dX6_goAgainst_111 rfl (by first | (rw [ag_88] at hQ; exact hQ _ _ _ _ hM hrw) | (rw [ag_70] at hQ; exact hQ _ _ _ _ hM hrw) | (rw [ag_71] at hQ; exact hQ _ _ _ _ hM hrw) | (rw [ag_85t hbt] at hQ; exact hQ _ _ _ _ hM hrw) | (rw [ag_85f hbf] at hQ; exact hQ _ _ _ _ hM hrw))
  · refine ez_lookup (q := 45) (off := 44) dX6_goAgainst_1 (by decide) (by decide) (by decide) ?_
    refine ez_aload_n (q := 46) 0 dX6_goAgainst_45 rfl rfl rfl ?_
    refine ez_iload_n (q := 47) 1 dX6_goAgainst_46 rfl rfl rfl ?_
    refine ez_iload_n (q := 48) 3 dX6_goAgainst_47 rfl rfl rfl ?_
    refine cX0 (q := 51) dX6_goAgainst_48 ck_X6_72 hM.2.1 (t_X6_goAround hM.rb hrw (hS.to (fun j a b => hM.fr j (by omega))) ho (by show 1 ≤ _; decide) (nd_lt (al_lt n')) (by rw [evX_70] at hb; exact hb)) rfl ⟨by decide, rfl⟩ rfl rfl rfl (Nat.le_of_ble_eq_true rfl) rfl (fun g hW => ?_)
    obtain ⟨rw, la, r, hM2, hrw⟩ := hW
    have hM := hM.tr hM2
    refine ez_goto (q := 111) dX6_goAgainst_51 (by decide) ?_
    exact ez_vret dX6_goAgainst_111 rfl (by first | (rw [ag_88] at hQ; exact hQ _ _ _ _ hM hrw) | (rw [ag_70] at hQ; exact hQ _ _ _ _ hM hrw) | (rw [ag_71] at hQ; exact hQ _ _ _ _ hM hrw) | (rw [ag_85t hbt] at hQ; exact hQ _ _ _ _ hM hrw) | (rw [ag_85f hbf] at hQ; exact hQ _ _ _ _ hM hrw))
  · refine ez_lookup (q := 54) (off := 53) dX6_goAgainst_1 (by decide) (by decide) (by decide) ?_
    refine ez_aload_n (q := 55) 0 dX6_goAgainst_54 rfl rfl rfl ?_
    refine ez_iload_n (q := 56) 1 dX6_goAgainst_55 rfl rfl rfl ?_
    refine ez_aload_n (q := 57) 0 dX6_goAgainst_56 rfl rfl rfl ?_
    refine ez_getf (q := 60) dX6_goAgainst_57 fl_X6_32 hM.2.1 rfl rfl ?_
    refine ez_getf (q := 63) dX6_goAgainst_60 fl_X6_56 hM.1 rfl rfl ?_
    refine ez_iload_n (q := 64) 3 dX6_goAgainst_63 rfl rfl rfl ?_
    refine cX0 (q := 67) dX6_goAgainst_64 ck_X6_68 hM.2.1 (t_X6_goUntil hM.rb hrw (hS.to (fun j a b => hM.fr j (by omega))) ho hw (by show 1 ≤ _; decide) (by rw [evX_71] at hb; exact un_ds hn (Nat.lt_of_le_of_lt Nat.and_le_right (lvN_lt T n' f L)) hb)) rfl ⟨by decide, rfl⟩ rfl rfl rfl (Nat.le_of_ble_eq_true rfl) rfl (fun g hW => ?_)
    obtain ⟨rw, la, r, hM2, hrw⟩ := hW
    have hM := hM.tr hM2
    refine ez_goto (q := 111) dX6_goAgainst_67 (by decide) ?_
    exact ez_vret dX6_goAgainst_111 rfl (by first | (rw [ag_88] at hQ; exact hQ _ _ _ _ hM hrw) | (rw [ag_70] at hQ; exact hQ _ _ _ _ hM hrw) | (rw [ag_71] at hQ; exact hQ _ _ _ _ hM hrw) | (rw [ag_85t hbt] at hQ; exact hQ _ _ _ _ hM hrw) | (rw [ag_85f hbf] at hQ; exact hQ _ _ _ _ hM hrw))
  · refine ez_lookup (q := 70) (off := 69) dX6_goAgainst_1 (by decide) (by decide) (by decide) ?_
    refine ez_aload_n (q := 71) 0 dX6_goAgainst_70 rfl rfl rfl ?_
    refine ez_getf (q := 74) dX6_goAgainst_71 fl_X6_32 hM.2.1 rfl rfl ?_
    refine ez_iload (q := 76) dX6_goAgainst_74 rfl rfl ?_
    refine ez_iload (q := 78) dX6_goAgainst_76 rfl rfl ?_
    refine ez_iload_n (q := 79) 3 dX6_goAgainst_78 rfl rfl rfl ?_
    refine ez_iandN (q := 80) dX6_goAgainst_79 rfl ?_
    refine cXv (q := 83) dX6_goAgainst_80 ck_X6_75 hM.1 (t_X0_until hM.fw (hS.to (fun j a b => hM.fr j (by omega))) ho (by omega) (lvN_lt T n' f L)) rfl ⟨by decide, rfl⟩ rfl rfl rfl (Nat.le_of_ble_eq_true rfl) rfl (fun g hW => ?_)
    have hM := hM.set_fw hW
    refine ez_iload_n (q := 84) 1 dX6_goAgainst_83 rfl rfl rfl ?_
    refine cUv (q := 87) dX6_goAgainst_84 ck_X6_37 (t_X6_has (lt31 (un_lt _ _ _ _ _ (Nat.lt_of_le_of_lt Nat.and_le_right (lvN_lt T n' f L))) hn) (by omega)) rfl rfl rfl (Nat.le_of_ble_eq_true rfl) rfl ?_
    refine ez_ifeqB (q := 90) (tgt := 104) dX6_goAgainst_87 (by decide) rfl (fun hc87 => ?_) (fun hc87 => ?_)
    · have hbf := of_decide_eq_false hc87
      rw [evX_85, Nat.testBit_or, Bool.or_eq_true] at hb
      have hb2 := hb.resolve_left (fun e => hbf ((tb_1 _ _).mpr e))
      refine ez_aload_n (q := 105) 0 dX6_goAgainst_104 rfl rfl rfl ?_
      refine ez_iload_n (q := 106) 1 dX6_goAgainst_105 rfl rfl rfl ?_
      refine ez_iload (q := 108) dX6_goAgainst_106 rfl rfl ?_
      refine cX0 (q := 111) dX6_goAgainst_108 ck_X6_72 hM.2.1 (t_X6_goAround hM.rb hrw (hS.to (fun j a b => hM.fr j (by omega))) ho (by show 1 ≤ _; decide) (nd_lt (al_lt n')) hb2) rfl ⟨by decide, rfl⟩ rfl rfl rfl (Nat.le_of_ble_eq_true rfl) rfl (fun g hW => ?_)
      obtain ⟨rw, la, r, hM2, hrw⟩ := hW
      have hM := hM.tr hM2
      exact ez_vret dX6_goAgainst_111 rfl (by first | (rw [ag_88] at hQ; exact hQ _ _ _ _ hM hrw) | (rw [ag_70] at hQ; exact hQ _ _ _ _ hM hrw) | (rw [ag_71] at hQ; exact hQ _ _ _ _ hM hrw) | (rw [ag_85t hbt] at hQ; exact hQ _ _ _ _ hM hrw) | (rw [ag_85f hbf] at hQ; exact hQ _ _ _ _ hM hrw))
    · have hbt := of_decide_eq_true hc87
      refine ez_aload_n (q := 91) 0 dX6_goAgainst_90 rfl rfl rfl ?_
      refine ez_iload_n (q := 92) 1 dX6_goAgainst_91 rfl rfl rfl ?_
      refine ez_iload (q := 94) dX6_goAgainst_92 rfl rfl ?_
      refine ez_iload (q := 96) dX6_goAgainst_94 rfl rfl ?_
      refine ez_iload_n (q := 97) 3 dX6_goAgainst_96 rfl rfl rfl ?_
      refine ez_iandN (q := 98) dX6_goAgainst_97 rfl ?_
      refine cX0 (q := 101) dX6_goAgainst_98 ck_X6_68 hM.2.1 (t_X6_goUntil hM.rb hrw (hS.to (fun j a b => hM.fr j (by omega))) ho hw (by show 1 ≤ _; decide) (un_ds hn (Nat.lt_of_le_of_lt Nat.and_le_right (lvN_lt T n' f L)) ((tb_1 _ _).mp hbt))) rfl ⟨by decide, rfl⟩ rfl rfl rfl (Nat.le_of_ble_eq_true rfl) rfl (fun g hW => ?_)
      obtain ⟨rw, la, r, hM2, hrw⟩ := hW
      have hM := hM.tr hM2
      refine ez_goto (q := 111) dX6_goAgainst_101 (by decide) ?_
      exact ez_vret dX6_goAgainst_111 rfl (by first | (rw [ag_88] at hQ; exact hQ _ _ _ _ hM hrw) | (rw [ag_70] at hQ; exact hQ _ _ _ _ hM hrw) | (rw [ag_71] at hQ; exact hQ _ _ _ _ hM hrw) | (rw [ag_85t hbt] at hQ; exact hQ _ _ _ _ hM hrw) | (rw [ag_85f hbf] at hQ; exact hQ _ _ _ _ hM hrw))

set_option maxHeartbeats 800000 in
set_option maxRecDepth 100000 in
theorem t_X6_find {G : ez_G} {d n : Nat} {h : ez_H} {n' f w u : Nat} {L T ln : Nat → Nat} {sg : Nat → Nat → Nat} (hG : MG 41 2 h h T n' f L ln sg w) (hX : WO h) (hS : SS 2 h n' f L T ln sg) (ho : OK n' f L T ln sg) (hs : WFS ln sg) (hw : w < 4) (hu : u < n') : Con G mX6_find (d + 5) [.ref 48, .int (nI u)] h n 0 0 (PW n none (fun g => ∃ (rw2 la2 : Nat → Int32) (r2 : Nat), WW  h g (nI (2 ^ n' - 1)) (nI (lvN T n' f L)) (nI r2) (nI (goW n' f L)) (nI (wtL T n' f L ln sg w u).length) rw2 la2 ∧ RW rw2 (wtL T n' f L ln sg w u))) := by
  obtain ⟨mg, me, md, mt, mr, r, hF, hgg, hle, hse⟩ := hG
  obtain ⟨wl, rw, la, h48, h49, h50⟩ := hX
  have hE := hF.me
  have hM : WW h h (nI (2 ^ n' - 1)) (nI (lvN T n' f L)) (nI r) (nI (goW n' f L)) wl rw la := ⟨hF.2.2.2.2.2.2.2.1, h48, h49, h50, fun _ _ => rfl⟩
  have hn := ho.1
  have hl := ho.2.2.2.2.1 w hw
  have hl2 := ho.2.2.2.2.2 w hw
  have hlt1 := sgA_lt (i := 1) hl2
  have hlt0 := sgA_lt (i := 0) hl2
  refine Con.of [some (.ref 48), some (.int (nI u)), none, none, none, none] pl_X6 rfl (Nat.le_of_ble_eq_true rfl) rfl ?_
  have hQ : ∀ g (rw2 la2 : Nat → Int32) (r2 : Nat), WW  h g (nI (2 ^ n' - 1)) (nI (lvN T n' f L)) (nI r2) (nI (goW n' f L)) (nI (wtL T n' f L ln sg w u).length) rw2 la2 → RW rw2 (wtL T n' f L ln sg w u) → (PW n none (fun g => ∃ (rw2 la2 : Nat → Int32) (r2 : Nat), WW  h g (nI (2 ^ n' - 1)) (nI (lvN T n' f L)) (nI r2) (nI (goW n' f L)) (nI (wtL T n' f L ln sg w u).length) rw2 la2 ∧ RW rw2 (wtL T n' f L ln sg w u))) (.inl none) g n := fun g rw2 la2 r2 h1 h2 => ⟨rfl, ⟨rw2, la2, r2, h1, h2⟩, rfl⟩
  generalize PW n none (fun g => ∃ (rw2 la2 : Nat → Int32) (r2 : Nat), WW  h g (nI (2 ^ n' - 1)) (nI (lvN T n' f L)) (nI r2) (nI (goW n' f L)) (nI (wtL T n' f L ln sg w u).length) rw2 la2 ∧ RW rw2 (wtL T n' f L ln sg w u)) = Q at hQ ⊢
  refine ez_aload_n (q := 1) 0 dX6_find_0 rfl rfl rfl ?_
  refine ez_iconst (v := nI 0) (q := 2) dX6_find_1 (by decide) rfl ?_
  refine pWW_wl (q := 5) dX6_find_2 fl_X6_15 hM rfl (fun g hM => ?_)
  have hM : WW  h g (nI (2 ^ n' - 1)) (nI (lvN T n' f L)) (nI r) (nI (goW n' f L)) (nI ([] : List Nat).length) rw la := hM
  have hrw := RW.nil rw
  by_cases hc : 0 < ln w ∧ (sg w 0 = 69 ∨ sg w 0 = 65)
  · obtain ⟨hl0, hc⟩ := hc
    obtain ⟨sc, hwf⟩ := hs w hw hl0
    have hs0 : (sc 0).2 = false := by rw [(wf_0 hwf).2.1]
    obtain ⟨hk4, h2, h2s, h2u⟩ := wf_ea hwf hl0 hs0 hc
    simp only [Nat.zero_add] at hk4 h2 h2s h2u
    obtain ⟨b1, b2⟩ := wf_pt hwf h2 h2s
    have q0 := ((hse 2 (by omega) h2).2 ((wf_w hwf h2).trans h2s)).1
    have t0 := ((hle 2 (by omega) h2).2 ((wf_w hwf h2).trans h2s)).1
    obtain ⟨jb, hje, hjb⟩ : ∃ jb, jb = 2 + leW (ln w) (sg w) (2) ∧ jb < 2 ^ 31 := ⟨_, rfl, by omega⟩
    have hbe : (if 2 < ln w then nI 2 + me 2 else nI (ln w)) = nI jb := by rw [if_pos h2, t0, nI_add, hje]
    rw [← hje] at b1 b2
    have hv : (if jb < ln w then mt jb else nI 0) = nI (seW T n' f L (ln w) (sg w) (jb)) := by by_cases h9 : jb < ln w; { rw [if_pos h9]; exact ((hse jb (by omega) h9).2 ((wf_w hwf h9).trans (by rw [b2]))).1 }; { rw [if_neg h9, seW, if_neg h9] }
    have hw2 : (if 2 < ln w then mt 2 else nI 0) = nI (seW T n' f L (ln w) (sg w) (2)) := by rw [if_pos h2, q0]
    have hs00 : sgA ln sg w 0 = sg w 0 := if_pos hl0
    have hs11 : sgA ln sg w 1 = sg w 1 := if_pos (by omega)
    have hwt4 : (wtL T n' f L ln sg w u) = if ((hW T n' f L ln sg w) >>> u) &&& 1 = 1 then (if sg w 0 = 69 then smW T n' f L (sg w 1) (seW T n' f L (ln w) (sg w) (2)) (seW T n' f L (ln w) (sg w) (jb)) u else []) else if sg w 0 = 69 then [] else agW T n' f L (sg w 1) (ndN (2 ^ n' - 1) (seW T n' f L (ln w) (sg w) (2))) (ndN (2 ^ n' - 1) (seW T n' f L (ln w) (sg w) (jb))) u := wt_ea hk4 hl0 hc hje
    refine ez_aload_n (q := 6) 0 dX6_find_5 rfl rfl rfl ?_
    refine ez_getf (q := 9) dX6_find_6 fl_X6_22 hM.2.1 rfl rfl ?_
    refine ez_iconst (v := nI 0) (q := 10) dX6_find_9 (by decide) rfl ?_
    refine cPv (q := 13) dX6_find_10 ck_X6_33 (hE.to (fun j a b => hM.fr j (by omega))).2.1 (t_X2_setAt (hE.to (fun j a b => hM.fr j (by omega))) hl (by decide)) rfl ⟨by decide, rfl⟩ rfl rfl rfl (Nat.le_of_ble_eq_true rfl) rfl ?_
    refine ez_top (show _ = nI (hW T n' f L ln sg w) from by by_cases h9 : 0 < ln w; { rw [if_pos h9]; obtain ⟨sc, hwf⟩ := hs w hw h9; exact ((hse 0 (Nat.le_refl 0) h9).2 ((wf_w hwf h9).trans (by rw [(wf_0 hwf).2.1]))).1 }; { rw [if_neg h9, hW, seW, if_neg h9] }) ?_
    refine ez_iload_n (q := 14) 1 dX6_find_13 rfl rfl rfl ?_
    refine cUv (q := 17) dX6_find_14 ck_X6_37 (t_X6_has (lt31 (hW_lt w) hn) (by omega)) rfl rfl rfl (Nat.le_of_ble_eq_true rfl) rfl ?_
    refine ez_istore_2 (q := 18) dX6_find_17 rfl (by decide) rfl rfl ?_
    refine ez_aload_n (q := 19) 0 dX6_find_18 rfl rfl rfl ?_
    refine ez_getf (q := 22) dX6_find_19 fl_X6_22 hM.2.1 rfl rfl ?_
    refine ez_iconst (v := nI 1) (q := 23) dX6_find_22 (by decide) rfl ?_
    refine cPv (q := 26) dX6_find_23 ck_X6_41 (hE.to (fun j a b => hM.fr j (by omega))).2.1 (t_X2_signAt (c := sgA ln sg w 1) (hE.to (fun j a b => hM.fr j (by omega))) hl (fun h9 => (hgg 1 (Nat.zero_le _) h9).trans (by rw [sgA, if_pos h9])) hlt1 (by decide)) rfl ⟨by decide, rfl⟩ rfl rfl rfl (Nat.le_of_ble_eq_true rfl) rfl ?_
    rw [sg_if]
    first | rw [hs11] | skip
    refine ez_istore_3 (q := 27) dX6_find_26 rfl (by decide) rfl rfl ?_
    refine ez_aload_n (q := 28) 0 dX6_find_27 rfl rfl rfl ?_
    refine ez_getf (q := 31) dX6_find_28 fl_X6_22 hM.2.1 rfl rfl ?_
    refine ez_iconst (v := nI 2) (q := 32) dX6_find_31 (by decide) rfl ?_
    refine cPv (q := 35) dX6_find_32 ck_X6_33 (hE.to (fun j a b => hM.fr j (by omega))).2.1 (t_X2_setAt (hE.to (fun j a b => hM.fr j (by omega))) hl (by decide)) rfl ⟨by decide, rfl⟩ rfl rfl rfl (Nat.le_of_ble_eq_true rfl) rfl ?_
    first | refine ez_top hw2 ?_ | skip
    refine ez_istore_4 (q := 37) dX6_find_35 (by decide) rfl rfl ?_
    refine ez_aload_n (q := 38) 0 dX6_find_37 rfl rfl rfl ?_
    refine ez_getf (q := 41) dX6_find_38 fl_X6_22 hM.2.1 rfl rfl ?_
    refine ez_aload_n (q := 42) 0 dX6_find_41 rfl rfl rfl ?_
    refine ez_getf (q := 45) dX6_find_42 fl_X6_22 hM.2.1 rfl rfl ?_
    refine ez_iconst (v := nI 2) (q := 46) dX6_find_45 (by decide) rfl ?_
    refine cPv (q := 49) dX6_find_46 ck_X6_45 (hE.to (fun j a b => hM.fr j (by omega))).2.1 (t_X2_behind (hE.to (fun j a b => hM.fr j (by omega))) hl (by decide)) rfl ⟨by decide, rfl⟩ rfl rfl rfl (Nat.le_of_ble_eq_true rfl) rfl ?_
    refine ez_top hbe ?_
    refine cPv (q := 52) dX6_find_49 ck_X6_33 (hE.to (fun j a b => hM.fr j (by omega))).2.1 (t_X2_setAt (hE.to (fun j a b => hM.fr j (by omega))) hl hjb) rfl ⟨by decide, rfl⟩ rfl rfl rfl (Nat.le_of_ble_eq_true rfl) rfl ?_
    first | refine ez_top hv ?_ | skip
    refine ez_istore_5 (q := 54) dX6_find_52 (by decide) rfl rfl ?_
    refine ez_aload_n (q := 55) 0 dX6_find_54 rfl rfl rfl ?_
    refine ez_getf (q := 58) dX6_find_55 fl_X6_22 hM.2.1 rfl rfl ?_
    refine ez_iconst (v := nI 0) (q := 59) dX6_find_58 (by decide) rfl ?_
    refine cPv (q := 62) dX6_find_59 ck_X6_41 (hE.to (fun j a b => hM.fr j (by omega))).2.1 (t_X2_signAt (c := sgA ln sg w 0) (hE.to (fun j a b => hM.fr j (by omega))) hl (fun h9 => (hgg 0 (Nat.zero_le _) h9).trans (by rw [sgA, if_pos h9])) hlt0 (by decide)) rfl ⟨by decide, rfl⟩ rfl rfl rfl (Nat.le_of_ble_eq_true rfl) rfl ?_
    rw [sg_if]
    first | rw [hs00] | skip
    refine ez_bipush (v := nI 69) (q := 64) dX6_find_62 (by decide) rfl ?_
    refine ez_icmpneN (q := 67) (tgt := 89) dX6_find_64 (by decide) (by first | exact (by omega) | (rw [← hs00]; omega)) (by decide) rfl (fun hc64 => ?_) (fun hc64 => ?_)
    · refine ez_aload_n (q := 90) 0 dX6_find_89 rfl rfl rfl ?_
      refine ez_getf (q := 93) dX6_find_90 fl_X6_22 hM.2.1 rfl rfl ?_
      refine ez_iconst (v := nI 0) (q := 94) dX6_find_93 (by decide) rfl ?_
      refine cPv (q := 97) dX6_find_94 ck_X6_41 (hE.to (fun j a b => hM.fr j (by omega))).2.1 (t_X2_signAt (c := sgA ln sg w 0) (hE.to (fun j a b => hM.fr j (by omega))) hl (fun h9 => (hgg 0 (Nat.zero_le _) h9).trans (by rw [sgA, if_pos h9])) hlt0 (by decide)) rfl ⟨by decide, rfl⟩ rfl rfl rfl (Nat.le_of_ble_eq_true rfl) rfl ?_
      rw [sg_if]
      first | rw [hs00] | skip
      refine ez_bipush (v := nI 65) (q := 99) dX6_find_97 (by decide) rfl ?_
      refine ez_icmpneN (q := 102) (tgt := 141) dX6_find_99 (by decide) (by first | exact (by omega) | (rw [← hs00]; omega)) (by decide) rfl (fun hc99 => ?_) (fun hc99 => ?_)
      · first
        | exact absurd (hc.resolve_left hc64) hc99
        | skip
          exact ez_vret dX6_find_141 rfl (by first | exact hQ _ _ _ _ hM hrw | (rw [hwt] at hQ; exact hQ _ _ _ _ hM hrw))
      · first
        | first | exact absurd hc99 hno.2 | exact absurd (hc64.symm.trans hc99) (by decide)
        | skip
          refine ez_iload_n (q := 103) 2 dX6_find_102 rfl rfl rfl ?_
          refine ez_ifneB (q := 106) (tgt := 141) dX6_find_103 (by decide) rfl (fun hc103 => ?_) (fun hc103 => ?_)
          · first | rw [hwt4, if_pos (of_decide_eq_true hc103), if_neg hc64] at hQ | skip
            exact ez_vret dX6_find_141 rfl (by first | exact hQ _ _ _ _ hM hrw | (rw [hwt] at hQ; exact hQ _ _ _ _ hM hrw))
          · first | rw [hwt4, if_neg (of_decide_eq_false hc103), if_neg hc64] at hQ | skip
            refine ez_aload_n (q := 107) 0 dX6_find_106 rfl rfl rfl ?_
            refine ez_iload_n (q := 108) 1 dX6_find_107 rfl rfl rfl ?_
            refine cX0 (q := 111) dX6_find_108 ck_X6_48 hM.2.1 (t_X6_put hM.rb hrw (by decide) (by omega)) rfl ⟨by decide, rfl⟩ rfl rfl rfl (Nat.le_of_ble_eq_true rfl) rfl (fun g hW => ?_)
            obtain ⟨rw, hM2, hrw⟩ := hW
            have hM := hM.tr hM2
            refine ez_aload_n (q := 112) 0 dX6_find_111 rfl rfl rfl ?_
            refine ez_iload_n (q := 113) 1 dX6_find_112 rfl rfl rfl ?_
            refine ez_iload_n (q := 114) 3 dX6_find_113 rfl rfl rfl ?_
            refine ez_aload_n (q := 115) 0 dX6_find_114 rfl rfl rfl ?_
            refine ez_getf (q := 118) dX6_find_115 fl_X6_32 hM.2.1 rfl rfl ?_
            refine ez_getf (q := 121) dX6_find_118 fl_X6_56 hM.1 rfl rfl ?_
            refine ez_iload (q := 123) dX6_find_121 rfl rfl ?_
            refine ez_iconst (v := -1) (q := 124) dX6_find_123 (by decide) rfl ?_
            refine ez_ixor (q := 125) dX6_find_124 rfl ?_
            refine ez_iand (q := 126) dX6_find_125 rfl ?_
            refine ez_top (nI_nd _ _) ?_
            refine ez_aload_n (q := 127) 0 dX6_find_126 rfl rfl rfl ?_
            refine ez_getf (q := 130) dX6_find_127 fl_X6_32 hM.2.1 rfl rfl ?_
            refine ez_getf (q := 133) dX6_find_130 fl_X6_56 hM.1 rfl rfl ?_
            refine ez_iload (q := 135) dX6_find_133 rfl rfl ?_
            refine ez_iconst (v := -1) (q := 136) dX6_find_135 (by decide) rfl ?_
            refine ez_ixor (q := 137) dX6_find_136 rfl ?_
            refine ez_iand (q := 138) dX6_find_137 rfl ?_
            refine ez_top (nI_nd _ _) ?_
            refine cX0 (q := 141) dX6_find_138 ck_X6_61 hM.2.1 (t_X6_goAgainst hM.rb hrw (hS.to (fun j a b => hM.fr j (by omega))) ho hk4 hu (nd_in hu (fun e => of_decide_eq_false hc103 ((tb_1 _ _).mpr (by rw [hW, seW_A hl0 hc99, Nat.zero_add, Nat.zero_add, ← hje, evS_i hk4]; exact e))))) rfl ⟨by decide, rfl⟩ rfl rfl rfl (Nat.le_of_ble_eq_true rfl) rfl (fun g hW => ?_)
            obtain ⟨rw, la, r, hM2, hrw⟩ := hW
            have hM := hM.tr hM2
            exact ez_vret dX6_find_141 rfl (by first | exact hQ _ _ _ _ hM hrw | (rw [hwt] at hQ; exact hQ _ _ _ _ hM hrw))
    · first
      | exact absurd hc64 hno.1
      | skip
        refine ez_iload_n (q := 68) 2 dX6_find_67 rfl rfl rfl ?_
        refine ez_ifeqB (q := 71) (tgt := 89) dX6_find_68 (by decide) rfl (fun hc68 => ?_) (fun hc68 => ?_)
        · first | rw [hwt4, if_neg (of_decide_eq_false hc68), if_pos hc64] at hQ | skip
          refine ez_aload_n (q := 90) 0 dX6_find_89 rfl rfl rfl ?_
          refine ez_getf (q := 93) dX6_find_90 fl_X6_22 hM.2.1 rfl rfl ?_
          refine ez_iconst (v := nI 0) (q := 94) dX6_find_93 (by decide) rfl ?_
          refine cPv (q := 97) dX6_find_94 ck_X6_41 (hE.to (fun j a b => hM.fr j (by omega))).2.1 (t_X2_signAt (c := sgA ln sg w 0) (hE.to (fun j a b => hM.fr j (by omega))) hl (fun h9 => (hgg 0 (Nat.zero_le _) h9).trans (by rw [sgA, if_pos h9])) hlt0 (by decide)) rfl ⟨by decide, rfl⟩ rfl rfl rfl (Nat.le_of_ble_eq_true rfl) rfl ?_
          rw [sg_if]
          first | rw [hs00] | skip
          refine ez_bipush (v := nI 65) (q := 99) dX6_find_97 (by decide) rfl ?_
          refine ez_icmpneN (q := 102) (tgt := 141) dX6_find_99 (by decide) (by first | exact (by omega) | (rw [← hs00]; omega)) (by decide) rfl (fun hc99 => ?_) (fun hc99 => ?_)
          · first
            | exact absurd (hc.resolve_left hc64) hc99
            | skip
              exact ez_vret dX6_find_141 rfl (by first | exact hQ _ _ _ _ hM hrw | (rw [hwt] at hQ; exact hQ _ _ _ _ hM hrw))
          · first
            | first | exact absurd hc99 hno.2 | exact absurd (hc64.symm.trans hc99) (by decide)
            | skip
              refine ez_iload_n (q := 103) 2 dX6_find_102 rfl rfl rfl ?_
              refine ez_ifneB (q := 106) (tgt := 141) dX6_find_103 (by decide) rfl (fun hc103 => ?_) (fun hc103 => ?_)
              · first | rw [hwt4, if_pos (of_decide_eq_true hc103), if_neg hc64] at hQ | skip
                exact ez_vret dX6_find_141 rfl (by first | exact hQ _ _ _ _ hM hrw | (rw [hwt] at hQ; exact hQ _ _ _ _ hM hrw))
              · first | rw [hwt4, if_neg (of_decide_eq_false hc103), if_neg hc64] at hQ | skip
                refine ez_aload_n (q := 107) 0 dX6_find_106 rfl rfl rfl ?_
                refine ez_iload_n (q := 108) 1 dX6_find_107 rfl rfl rfl ?_
                refine cX0 (q := 111) dX6_find_108 ck_X6_48 hM.2.1 (t_X6_put hM.rb hrw (by decide) (by omega)) rfl ⟨by decide, rfl⟩ rfl rfl rfl (Nat.le_of_ble_eq_true rfl) rfl (fun g hW => ?_)
                obtain ⟨rw, hM2, hrw⟩ := hW
                have hM := hM.tr hM2
                refine ez_aload_n (q := 112) 0 dX6_find_111 rfl rfl rfl ?_
                refine ez_iload_n (q := 113) 1 dX6_find_112 rfl rfl rfl ?_
                refine ez_iload_n (q := 114) 3 dX6_find_113 rfl rfl rfl ?_
                refine ez_aload_n (q := 115) 0 dX6_find_114 rfl rfl rfl ?_
                refine ez_getf (q := 118) dX6_find_115 fl_X6_32 hM.2.1 rfl rfl ?_
                refine ez_getf (q := 121) dX6_find_118 fl_X6_56 hM.1 rfl rfl ?_
                refine ez_iload (q := 123) dX6_find_121 rfl rfl ?_
                refine ez_iconst (v := -1) (q := 124) dX6_find_123 (by decide) rfl ?_
                refine ez_ixor (q := 125) dX6_find_124 rfl ?_
                refine ez_iand (q := 126) dX6_find_125 rfl ?_
                refine ez_top (nI_nd _ _) ?_
                refine ez_aload_n (q := 127) 0 dX6_find_126 rfl rfl rfl ?_
                refine ez_getf (q := 130) dX6_find_127 fl_X6_32 hM.2.1 rfl rfl ?_
                refine ez_getf (q := 133) dX6_find_130 fl_X6_56 hM.1 rfl rfl ?_
                refine ez_iload (q := 135) dX6_find_133 rfl rfl ?_
                refine ez_iconst (v := -1) (q := 136) dX6_find_135 (by decide) rfl ?_
                refine ez_ixor (q := 137) dX6_find_136 rfl ?_
                refine ez_iand (q := 138) dX6_find_137 rfl ?_
                refine ez_top (nI_nd _ _) ?_
                refine cX0 (q := 141) dX6_find_138 ck_X6_61 hM.2.1 (t_X6_goAgainst hM.rb hrw (hS.to (fun j a b => hM.fr j (by omega))) ho hk4 hu (nd_in hu (fun e => of_decide_eq_false hc103 ((tb_1 _ _).mpr (by rw [hW, seW_A hl0 hc99, Nat.zero_add, Nat.zero_add, ← hje, evS_i hk4]; exact e))))) rfl ⟨by decide, rfl⟩ rfl rfl rfl (Nat.le_of_ble_eq_true rfl) rfl (fun g hW => ?_)
                obtain ⟨rw, la, r, hM2, hrw⟩ := hW
                have hM := hM.tr hM2
                exact ez_vret dX6_find_141 rfl (by first | exact hQ _ _ _ _ hM hrw | (rw [hwt] at hQ; exact hQ _ _ _ _ hM hrw))
        · first | rw [hwt4, if_pos (of_decide_eq_true hc68), if_pos hc64] at hQ | skip
          refine ez_aload_n (q := 72) 0 dX6_find_71 rfl rfl rfl ?_
          refine ez_iload_n (q := 73) 1 dX6_find_72 rfl rfl rfl ?_
          refine cX0 (q := 76) dX6_find_73 ck_X6_48 hM.2.1 (t_X6_put hM.rb hrw (by decide) (by omega)) rfl ⟨by decide, rfl⟩ rfl rfl rfl (Nat.le_of_ble_eq_true rfl) rfl (fun g hW => ?_)
          obtain ⟨rw, hM2, hrw⟩ := hW
          have hM := hM.tr hM2
          refine ez_aload_n (q := 77) 0 dX6_find_76 rfl rfl rfl ?_
          refine ez_iload_n (q := 78) 1 dX6_find_77 rfl rfl rfl ?_
          refine ez_iload_n (q := 79) 3 dX6_find_78 rfl rfl rfl ?_
          refine ez_iload (q := 81) dX6_find_79 rfl rfl ?_
          refine ez_iload (q := 83) dX6_find_81 rfl rfl ?_
          refine cX0 (q := 86) dX6_find_83 ck_X6_52 hM.2.1 (t_X6_go hM.rb hrw (hS.to (fun j a b => hM.fr j (by omega))) ho hk4 (seW_l _ _ _ _ _ _ _) hu (by have h9 := (tb_1 _ _).mp (of_decide_eq_true hc68); rw [hW, seW_E hl0 hc64, Nat.zero_add, Nat.zero_add, ← hje, someS_i hk4] at h9; exact h9)) rfl ⟨by decide, rfl⟩ rfl rfl rfl (Nat.le_of_ble_eq_true rfl) rfl (fun g hW => ?_)
          obtain ⟨rw, la, r, hM2, hrw⟩ := hW
          have hM := hM.tr hM2
          refine ez_goto (q := 141) dX6_find_86 (by decide) ?_
          exact ez_vret dX6_find_141 rfl (by first | exact hQ _ _ _ _ hM hrw | (rw [hwt] at hQ; exact hQ _ _ _ _ hM hrw))
  · obtain ⟨jb, hjb, hbe⟩ := bh_ex hl hle (hs w hw)
    have hno : ¬ sgA ln sg w 0 = 69 ∧ ¬ sgA ln sg w 0 = 65 := by rw [sgA]; split <;> omega
    have hwt : (wtL T n' f L ln sg w u) = [] := by rw [wtL]; split; { rfl }; { rw [if_neg (by omega)] }
    refine ez_aload_n (q := 6) 0 dX6_find_5 rfl rfl rfl ?_
    refine ez_getf (q := 9) dX6_find_6 fl_X6_22 hM.2.1 rfl rfl ?_
    refine ez_iconst (v := nI 0) (q := 10) dX6_find_9 (by decide) rfl ?_
    refine cPv (q := 13) dX6_find_10 ck_X6_33 (hE.to (fun j a b => hM.fr j (by omega))).2.1 (t_X2_setAt (hE.to (fun j a b => hM.fr j (by omega))) hl (by decide)) rfl ⟨by decide, rfl⟩ rfl rfl rfl (Nat.le_of_ble_eq_true rfl) rfl ?_
    refine ez_top (show _ = nI (hW T n' f L ln sg w) from by by_cases h9 : 0 < ln w; { rw [if_pos h9]; obtain ⟨sc, hwf⟩ := hs w hw h9; exact ((hse 0 (Nat.le_refl 0) h9).2 ((wf_w hwf h9).trans (by rw [(wf_0 hwf).2.1]))).1 }; { rw [if_neg h9, hW, seW, if_neg h9] }) ?_
    refine ez_iload_n (q := 14) 1 dX6_find_13 rfl rfl rfl ?_
    refine cUv (q := 17) dX6_find_14 ck_X6_37 (t_X6_has (lt31 (hW_lt w) hn) (by omega)) rfl rfl rfl (Nat.le_of_ble_eq_true rfl) rfl ?_
    refine ez_istore_2 (q := 18) dX6_find_17 rfl (by decide) rfl rfl ?_
    refine ez_aload_n (q := 19) 0 dX6_find_18 rfl rfl rfl ?_
    refine ez_getf (q := 22) dX6_find_19 fl_X6_22 hM.2.1 rfl rfl ?_
    refine ez_iconst (v := nI 1) (q := 23) dX6_find_22 (by decide) rfl ?_
    refine cPv (q := 26) dX6_find_23 ck_X6_41 (hE.to (fun j a b => hM.fr j (by omega))).2.1 (t_X2_signAt (c := sgA ln sg w 1) (hE.to (fun j a b => hM.fr j (by omega))) hl (fun h9 => (hgg 1 (Nat.zero_le _) h9).trans (by rw [sgA, if_pos h9])) hlt1 (by decide)) rfl ⟨by decide, rfl⟩ rfl rfl rfl (Nat.le_of_ble_eq_true rfl) rfl ?_
    rw [sg_if]
    first | rw [hs11] | skip
    refine ez_istore_3 (q := 27) dX6_find_26 rfl (by decide) rfl rfl ?_
    refine ez_aload_n (q := 28) 0 dX6_find_27 rfl rfl rfl ?_
    refine ez_getf (q := 31) dX6_find_28 fl_X6_22 hM.2.1 rfl rfl ?_
    refine ez_iconst (v := nI 2) (q := 32) dX6_find_31 (by decide) rfl ?_
    refine cPv (q := 35) dX6_find_32 ck_X6_33 (hE.to (fun j a b => hM.fr j (by omega))).2.1 (t_X2_setAt (hE.to (fun j a b => hM.fr j (by omega))) hl (by decide)) rfl ⟨by decide, rfl⟩ rfl rfl rfl (Nat.le_of_ble_eq_true rfl) rfl ?_
    first | refine ez_top hw2 ?_ | skip
    refine ez_istore_4 (q := 37) dX6_find_35 (by decide) rfl rfl ?_
    refine ez_aload_n (q := 38) 0 dX6_find_37 rfl rfl rfl ?_
    refine ez_getf (q := 41) dX6_find_38 fl_X6_22 hM.2.1 rfl rfl ?_
    refine ez_aload_n (q := 42) 0 dX6_find_41 rfl rfl rfl ?_
    refine ez_getf (q := 45) dX6_find_42 fl_X6_22 hM.2.1 rfl rfl ?_
    refine ez_iconst (v := nI 2) (q := 46) dX6_find_45 (by decide) rfl ?_
    refine cPv (q := 49) dX6_find_46 ck_X6_45 (hE.to (fun j a b => hM.fr j (by omega))).2.1 (t_X2_behind (hE.to (fun j a b => hM.fr j (by omega))) hl (by decide)) rfl ⟨by decide, rfl⟩ rfl rfl rfl (Nat.le_of_ble_eq_true rfl) rfl ?_
    refine ez_top hbe ?_
    refine cPv (q := 52) dX6_find_49 ck_X6_33 (hE.to (fun j a b => hM.fr j (by omega))).2.1 (t_X2_setAt (hE.to (fun j a b => hM.fr j (by omega))) hl hjb) rfl ⟨by decide, rfl⟩ rfl rfl rfl (Nat.le_of_ble_eq_true rfl) rfl ?_
    first | refine ez_top hv ?_ | skip
    refine ez_istore_5 (q := 54) dX6_find_52 (by decide) rfl rfl ?_
    refine ez_aload_n (q := 55) 0 dX6_find_54 rfl rfl rfl ?_
    refine ez_getf (q := 58) dX6_find_55 fl_X6_22 hM.2.1 rfl rfl ?_
    refine ez_iconst (v := nI 0) (q := 59) dX6_find_58 (by decide) rfl ?_
    refine cPv (q := 62) dX6_find_59 ck_X6_41 (hE.to (fun j a b => hM.fr j (by omega))).2.1 (t_X2_signAt (c := sgA ln sg w 0) (hE.to (fun j a b => hM.fr j (by omega))) hl (fun h9 => (hgg 0 (Nat.zero_le _) h9).trans (by rw [sgA, if_pos h9])) hlt0 (by decide)) rfl ⟨by decide, rfl⟩ rfl rfl rfl (Nat.le_of_ble_eq_true rfl) rfl ?_
    rw [sg_if]
    first | rw [hs00] | skip
    refine ez_bipush (v := nI 69) (q := 64) dX6_find_62 (by decide) rfl ?_
    refine ez_icmpneN (q := 67) (tgt := 89) dX6_find_64 (by decide) (by first | exact (by omega) | (rw [← hs00]; omega)) (by decide) rfl (fun hc64 => ?_) (fun hc64 => ?_)
    · refine ez_aload_n (q := 90) 0 dX6_find_89 rfl rfl rfl ?_
      refine ez_getf (q := 93) dX6_find_90 fl_X6_22 hM.2.1 rfl rfl ?_
      refine ez_iconst (v := nI 0) (q := 94) dX6_find_93 (by decide) rfl ?_
      refine cPv (q := 97) dX6_find_94 ck_X6_41 (hE.to (fun j a b => hM.fr j (by omega))).2.1 (t_X2_signAt (c := sgA ln sg w 0) (hE.to (fun j a b => hM.fr j (by omega))) hl (fun h9 => (hgg 0 (Nat.zero_le _) h9).trans (by rw [sgA, if_pos h9])) hlt0 (by decide)) rfl ⟨by decide, rfl⟩ rfl rfl rfl (Nat.le_of_ble_eq_true rfl) rfl ?_
      rw [sg_if]
      first | rw [hs00] | skip
      refine ez_bipush (v := nI 65) (q := 99) dX6_find_97 (by decide) rfl ?_
      refine ez_icmpneN (q := 102) (tgt := 141) dX6_find_99 (by decide) (by first | exact (by omega) | (rw [← hs00]; omega)) (by decide) rfl (fun hc99 => ?_) (fun hc99 => ?_)
      · first
        | exact absurd (hc.resolve_left hc64) hc99
        | skip
          exact ez_vret dX6_find_141 rfl (by first | exact hQ _ _ _ _ hM hrw | (rw [hwt] at hQ; exact hQ _ _ _ _ hM hrw))
      · first
        | first | exact absurd hc99 hno.2 | exact absurd (hc64.symm.trans hc99) (by decide)
        | skip
          refine ez_iload_n (q := 103) 2 dX6_find_102 rfl rfl rfl ?_
          refine ez_ifneB (q := 106) (tgt := 141) dX6_find_103 (by decide) rfl (fun hc103 => ?_) (fun hc103 => ?_)
          · first | rw [hwt4, if_pos (of_decide_eq_true hc103), if_neg hc64] at hQ | skip
            exact ez_vret dX6_find_141 rfl (by first | exact hQ _ _ _ _ hM hrw | (rw [hwt] at hQ; exact hQ _ _ _ _ hM hrw))
          · first | rw [hwt4, if_neg (of_decide_eq_false hc103), if_neg hc64] at hQ | skip
            refine ez_aload_n (q := 107) 0 dX6_find_106 rfl rfl rfl ?_
            refine ez_iload_n (q := 108) 1 dX6_find_107 rfl rfl rfl ?_
            refine cX0 (q := 111) dX6_find_108 ck_X6_48 hM.2.1 (t_X6_put hM.rb hrw (by decide) (by omega)) rfl ⟨by decide, rfl⟩ rfl rfl rfl (Nat.le_of_ble_eq_true rfl) rfl (fun g hW => ?_)
            obtain ⟨rw, hM2, hrw⟩ := hW
            have hM := hM.tr hM2
            refine ez_aload_n (q := 112) 0 dX6_find_111 rfl rfl rfl ?_
            refine ez_iload_n (q := 113) 1 dX6_find_112 rfl rfl rfl ?_
            refine ez_iload_n (q := 114) 3 dX6_find_113 rfl rfl rfl ?_
            refine ez_aload_n (q := 115) 0 dX6_find_114 rfl rfl rfl ?_
            refine ez_getf (q := 118) dX6_find_115 fl_X6_32 hM.2.1 rfl rfl ?_
            refine ez_getf (q := 121) dX6_find_118 fl_X6_56 hM.1 rfl rfl ?_
            refine ez_iload (q := 123) dX6_find_121 rfl rfl ?_
            refine ez_iconst (v := -1) (q := 124) dX6_find_123 (by decide) rfl ?_
            refine ez_ixor (q := 125) dX6_find_124 rfl ?_
            refine ez_iand (q := 126) dX6_find_125 rfl ?_
            refine ez_top (nI_nd _ _) ?_
            refine ez_aload_n (q := 127) 0 dX6_find_126 rfl rfl rfl ?_
            refine ez_getf (q := 130) dX6_find_127 fl_X6_32 hM.2.1 rfl rfl ?_
            refine ez_getf (q := 133) dX6_find_130 fl_X6_56 hM.1 rfl rfl ?_
            refine ez_iload (q := 135) dX6_find_133 rfl rfl ?_
            refine ez_iconst (v := -1) (q := 136) dX6_find_135 (by decide) rfl ?_
            refine ez_ixor (q := 137) dX6_find_136 rfl ?_
            refine ez_iand (q := 138) dX6_find_137 rfl ?_
            refine ez_top (nI_nd _ _) ?_
            refine cX0 (q := 141) dX6_find_138 ck_X6_61 hM.2.1 (t_X6_goAgainst hM.rb hrw (hS.to (fun j a b => hM.fr j (by omega))) ho hk4 hu (nd_in hu (fun e => of_decide_eq_false hc103 ((tb_1 _ _).mpr (by rw [hW, seW_A hl0 hc99, Nat.zero_add, Nat.zero_add, ← hje, evS_i hk4]; exact e))))) rfl ⟨by decide, rfl⟩ rfl rfl rfl (Nat.le_of_ble_eq_true rfl) rfl (fun g hW => ?_)
            obtain ⟨rw, la, r, hM2, hrw⟩ := hW
            have hM := hM.tr hM2
            exact ez_vret dX6_find_141 rfl (by first | exact hQ _ _ _ _ hM hrw | (rw [hwt] at hQ; exact hQ _ _ _ _ hM hrw))
    · first
      | exact absurd hc64 hno.1
      | skip
        refine ez_iload_n (q := 68) 2 dX6_find_67 rfl rfl rfl ?_
        refine ez_ifeqB (q := 71) (tgt := 89) dX6_find_68 (by decide) rfl (fun hc68 => ?_) (fun hc68 => ?_)
        · first | rw [hwt4, if_neg (of_decide_eq_false hc68), if_pos hc64] at hQ | skip
          refine ez_aload_n (q := 90) 0 dX6_find_89 rfl rfl rfl ?_
          refine ez_getf (q := 93) dX6_find_90 fl_X6_22 hM.2.1 rfl rfl ?_
          refine ez_iconst (v := nI 0) (q := 94) dX6_find_93 (by decide) rfl ?_
          refine cPv (q := 97) dX6_find_94 ck_X6_41 (hE.to (fun j a b => hM.fr j (by omega))).2.1 (t_X2_signAt (c := sgA ln sg w 0) (hE.to (fun j a b => hM.fr j (by omega))) hl (fun h9 => (hgg 0 (Nat.zero_le _) h9).trans (by rw [sgA, if_pos h9])) hlt0 (by decide)) rfl ⟨by decide, rfl⟩ rfl rfl rfl (Nat.le_of_ble_eq_true rfl) rfl ?_
          rw [sg_if]
          first | rw [hs00] | skip
          refine ez_bipush (v := nI 65) (q := 99) dX6_find_97 (by decide) rfl ?_
          refine ez_icmpneN (q := 102) (tgt := 141) dX6_find_99 (by decide) (by first | exact (by omega) | (rw [← hs00]; omega)) (by decide) rfl (fun hc99 => ?_) (fun hc99 => ?_)
          · first
            | exact absurd (hc.resolve_left hc64) hc99
            | skip
              exact ez_vret dX6_find_141 rfl (by first | exact hQ _ _ _ _ hM hrw | (rw [hwt] at hQ; exact hQ _ _ _ _ hM hrw))
          · first
            | first | exact absurd hc99 hno.2 | exact absurd (hc64.symm.trans hc99) (by decide)
            | skip
              refine ez_iload_n (q := 103) 2 dX6_find_102 rfl rfl rfl ?_
              refine ez_ifneB (q := 106) (tgt := 141) dX6_find_103 (by decide) rfl (fun hc103 => ?_) (fun hc103 => ?_)
              · first | rw [hwt4, if_pos (of_decide_eq_true hc103), if_neg hc64] at hQ | skip
                exact ez_vret dX6_find_141 rfl (by first | exact hQ _ _ _ _ hM hrw | (rw [hwt] at hQ; exact hQ _ _ _ _ hM hrw))
              · first | rw [hwt4, if_neg (of_decide_eq_false hc103), if_neg hc64] at hQ | skip
                refine ez_aload_n (q := 107) 0 dX6_find_106 rfl rfl rfl ?_
                refine ez_iload_n (q := 108) 1 dX6_find_107 rfl rfl rfl ?_
                refine cX0 (q := 111) dX6_find_108 ck_X6_48 hM.2.1 (t_X6_put hM.rb hrw (by decide) (by omega)) rfl ⟨by decide, rfl⟩ rfl rfl rfl (Nat.le_of_ble_eq_true rfl) rfl (fun g hW => ?_)
                obtain ⟨rw, hM2, hrw⟩ := hW
                have hM := hM.tr hM2
                refine ez_aload_n (q := 112) 0 dX6_find_111 rfl rfl rfl ?_
                refine ez_iload_n (q := 113) 1 dX6_find_112 rfl rfl rfl ?_
                refine ez_iload_n (q := 114) 3 dX6_find_113 rfl rfl rfl ?_
                refine ez_aload_n (q := 115) 0 dX6_find_114 rfl rfl rfl ?_
                refine ez_getf (q := 118) dX6_find_115 fl_X6_32 hM.2.1 rfl rfl ?_
                refine ez_getf (q := 121) dX6_find_118 fl_X6_56 hM.1 rfl rfl ?_
                refine ez_iload (q := 123) dX6_find_121 rfl rfl ?_
                refine ez_iconst (v := -1) (q := 124) dX6_find_123 (by decide) rfl ?_
                refine ez_ixor (q := 125) dX6_find_124 rfl ?_
                refine ez_iand (q := 126) dX6_find_125 rfl ?_
                refine ez_top (nI_nd _ _) ?_
                refine ez_aload_n (q := 127) 0 dX6_find_126 rfl rfl rfl ?_
                refine ez_getf (q := 130) dX6_find_127 fl_X6_32 hM.2.1 rfl rfl ?_
                refine ez_getf (q := 133) dX6_find_130 fl_X6_56 hM.1 rfl rfl ?_
                refine ez_iload (q := 135) dX6_find_133 rfl rfl ?_
                refine ez_iconst (v := -1) (q := 136) dX6_find_135 (by decide) rfl ?_
                refine ez_ixor (q := 137) dX6_find_136 rfl ?_
                refine ez_iand (q := 138) dX6_find_137 rfl ?_
                refine ez_top (nI_nd _ _) ?_
                refine cX0 (q := 141) dX6_find_138 ck_X6_61 hM.2.1 (t_X6_goAgainst hM.rb hrw (hS.to (fun j a b => hM.fr j (by omega))) ho hk4 hu (nd_in hu (fun e => of_decide_eq_false hc103 ((tb_1 _ _).mpr (by rw [hW, seW_A hl0 hc99, Nat.zero_add, Nat.zero_add, ← hje, evS_i hk4]; exact e))))) rfl ⟨by decide, rfl⟩ rfl rfl rfl (Nat.le_of_ble_eq_true rfl) rfl (fun g hW => ?_)
                obtain ⟨rw, la, r, hM2, hrw⟩ := hW
                have hM := hM.tr hM2
                exact ez_vret dX6_find_141 rfl (by first | exact hQ _ _ _ _ hM hrw | (rw [hwt] at hQ; exact hQ _ _ _ _ hM hrw))
        · first | rw [hwt4, if_pos (of_decide_eq_true hc68), if_pos hc64] at hQ | skip
          refine ez_aload_n (q := 72) 0 dX6_find_71 rfl rfl rfl ?_
          refine ez_iload_n (q := 73) 1 dX6_find_72 rfl rfl rfl ?_
          refine cX0 (q := 76) dX6_find_73 ck_X6_48 hM.2.1 (t_X6_put hM.rb hrw (by decide) (by omega)) rfl ⟨by decide, rfl⟩ rfl rfl rfl (Nat.le_of_ble_eq_true rfl) rfl (fun g hW => ?_)
          obtain ⟨rw, hM2, hrw⟩ := hW
          have hM := hM.tr hM2
          refine ez_aload_n (q := 77) 0 dX6_find_76 rfl rfl rfl ?_
          refine ez_iload_n (q := 78) 1 dX6_find_77 rfl rfl rfl ?_
          refine ez_iload_n (q := 79) 3 dX6_find_78 rfl rfl rfl ?_
          refine ez_iload (q := 81) dX6_find_79 rfl rfl ?_
          refine ez_iload (q := 83) dX6_find_81 rfl rfl ?_
          refine cX0 (q := 86) dX6_find_83 ck_X6_52 hM.2.1 (t_X6_go hM.rb hrw (hS.to (fun j a b => hM.fr j (by omega))) ho hk4 (seW_l _ _ _ _ _ _ _) hu (by have h9 := (tb_1 _ _).mp (of_decide_eq_true hc68); rw [hW, seW_E hl0 hc64, Nat.zero_add, Nat.zero_add, ← hje, someS_i hk4] at h9; exact h9)) rfl ⟨by decide, rfl⟩ rfl rfl rfl (Nat.le_of_ble_eq_true rfl) rfl (fun g hW => ?_)
          obtain ⟨rw, la, r, hM2, hrw⟩ := hW
          have hM := hM.tr hM2
          refine ez_goto (q := 141) dX6_find_86 (by decide) ?_
          exact ez_vret dX6_find_141 rfl (by first | exact hQ _ _ _ _ hM hrw | (rw [hwt] at hQ; exact hQ _ _ _ _ hM hrw))

