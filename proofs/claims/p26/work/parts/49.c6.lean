set_option maxHeartbeats 800000 in
set_option maxRecDepth 100000 in
theorem t_X2_setAt {G : ez_G} {d n : Nat} {h : ez_H} {im ia m : Nat} {mg me md mt mr : Nat → Int32} {i : Nat} (hM : ME im ia h h (nI m) mg me md mt mr) (hm : m ≤ 40) (hi : i < 2 ^ 31) : Con G mX2_setAt (d) [.ref im, .int (nI i)] h n 0 0 (PU h n (some (.int (if i < m then mt i else nI 0)))) := by
  refine Con.of [some (.ref im), some (.int (nI i))] pl_X2 rfl (Nat.le_of_ble_eq_true rfl) rfl ?_
  have hQ : (PU h n (some (.int (if i < m then mt i else nI 0)))) (.inl (some (.int (if i < m then mt i else nI 0)))) h n := ⟨rfl, rfl, rfl⟩
  generalize PU h n (some (.int (if i < m then mt i else nI 0))) = Q at hQ ⊢
  refine ez_iload_n (q := 1) 1 dX2_setAt_0 rfl rfl rfl ?_
  refine ez_ifltN (q := 4) (tgt := 21) dX2_setAt_1 (by decide) (by omega) rfl ?_
  refine ez_iload_n (q := 5) 1 dX2_setAt_4 rfl rfl rfl ?_
  refine ez_aload_n (q := 6) 0 dX2_setAt_5 rfl rfl rfl ?_
  refine ez_getf (q := 9) dX2_setAt_6 fl_X2_9 hM.2.1 rfl rfl ?_
  refine ez_icmpgeN (q := 12) (tgt := 21) dX2_setAt_9 (by decide) (by omega) (by omega) rfl (fun hc9 => ?_) (fun hc9 => ?_)
  · rw [if_neg (by omega)] at hQ
    refine ez_iconst (v := nI 0) (q := 22) dX2_setAt_21 (by decide) rfl ?_
    exact ez_iret dX2_setAt_22 rfl (hQ)
  · rw [if_pos (by omega)] at hQ
    refine ez_aload_n (q := 13) 0 dX2_setAt_12 rfl rfl rfl ?_
    refine ez_getf (q := 16) dX2_setAt_13 fl_X2_26 hM.2.1 rfl rfl ?_
    refine ez_iload_n (q := 17) 1 dX2_setAt_16 rfl rfl rfl ?_
    refine ez_iald (q := 18) dX2_setAt_17 hM.2.2.2.2.2.1 rfl (by omega) (by decide) rfl ?_
    refine ez_goto (q := 22) dX2_setAt_18 (by decide) ?_
    exact ez_iret dX2_setAt_22 rfl (hQ)

set_option maxHeartbeats 800000 in
set_option maxRecDepth 100000 in
theorem t_X2_depthAt {G : ez_G} {d n : Nat} {h : ez_H} {im ia m : Nat} {mg me md mt mr : Nat → Int32} {i : Nat} (hM : ME im ia h h (nI m) mg me md mt mr) (hm : m ≤ 40) (hi : i < 2 ^ 31) : Con G mX2_depthAt (d) [.ref im, .int (nI i)] h n 0 0 (PU h n (some (.int (if i < m then md i else nI 0)))) := by
  refine Con.of [some (.ref im), some (.int (nI i))] pl_X2 rfl (Nat.le_of_ble_eq_true rfl) rfl ?_
  have hQ : (PU h n (some (.int (if i < m then md i else nI 0)))) (.inl (some (.int (if i < m then md i else nI 0)))) h n := ⟨rfl, rfl, rfl⟩
  generalize PU h n (some (.int (if i < m then md i else nI 0))) = Q at hQ ⊢
  refine ez_iload_n (q := 1) 1 dX2_depthAt_0 rfl rfl rfl ?_
  refine ez_ifltN (q := 4) (tgt := 21) dX2_depthAt_1 (by decide) (by omega) rfl ?_
  refine ez_iload_n (q := 5) 1 dX2_depthAt_4 rfl rfl rfl ?_
  refine ez_aload_n (q := 6) 0 dX2_depthAt_5 rfl rfl rfl ?_
  refine ez_getf (q := 9) dX2_depthAt_6 fl_X2_9 hM.2.1 rfl rfl ?_
  refine ez_icmpgeN (q := 12) (tgt := 21) dX2_depthAt_9 (by decide) (by omega) (by omega) rfl (fun hc9 => ?_) (fun hc9 => ?_)
  · rw [if_neg (by omega)] at hQ
    refine ez_iconst (v := nI 0) (q := 22) dX2_depthAt_21 (by decide) rfl ?_
    exact ez_iret dX2_depthAt_22 rfl (hQ)
  · rw [if_pos (by omega)] at hQ
    refine ez_aload_n (q := 13) 0 dX2_depthAt_12 rfl rfl rfl ?_
    refine ez_getf (q := 16) dX2_depthAt_13 fl_X2_23 hM.2.1 rfl rfl ?_
    refine ez_iload_n (q := 17) 1 dX2_depthAt_16 rfl rfl rfl ?_
    refine ez_iald (q := 18) dX2_depthAt_17 hM.2.2.2.2.1 rfl (by omega) (by decide) rfl ?_
    refine ez_goto (q := 22) dX2_depthAt_18 (by decide) ?_
    exact ez_iret dX2_depthAt_22 rfl (hQ)

set_option maxHeartbeats 800000 in
set_option maxRecDepth 100000 in
theorem t_X2_behind {G : ez_G} {d n : Nat} {h : ez_H} {im ia m : Nat} {mg me md mt mr : Nat → Int32} {i : Nat} (hM : ME im ia h h (nI m) mg me md mt mr) (hm : m ≤ 40) (hi : i < 2 ^ 31) : Con G mX2_behind (d) [.ref im, .int (nI i)] h n 0 0 (PU h n (some (.int (if i < m then nI i + me i else nI m)))) := by
  refine Con.of [some (.ref im), some (.int (nI i))] pl_X2 rfl (Nat.le_of_ble_eq_true rfl) rfl ?_
  have hQ : (PU h n (some (.int (if i < m then nI i + me i else nI m)))) (.inl (some (.int (if i < m then nI i + me i else nI m)))) h n := ⟨rfl, rfl, rfl⟩
  generalize PU h n (some (.int (if i < m then nI i + me i else nI m))) = Q at hQ ⊢
  refine ez_iload_n (q := 1) 1 dX2_behind_0 rfl rfl rfl ?_
  refine ez_ifltN (q := 4) (tgt := 23) dX2_behind_1 (by decide) (by omega) rfl ?_
  refine ez_iload_n (q := 5) 1 dX2_behind_4 rfl rfl rfl ?_
  refine ez_aload_n (q := 6) 0 dX2_behind_5 rfl rfl rfl ?_
  refine ez_getf (q := 9) dX2_behind_6 fl_X2_9 hM.2.1 rfl rfl ?_
  refine ez_icmpgeN (q := 12) (tgt := 23) dX2_behind_9 (by decide) (by omega) (by omega) rfl (fun hc9 => ?_) (fun hc9 => ?_)
  · rw [if_neg (by omega)] at hQ
    refine ez_aload_n (q := 24) 0 dX2_behind_23 rfl rfl rfl ?_
    refine ez_getf (q := 27) dX2_behind_24 fl_X2_9 hM.2.1 rfl rfl ?_
    exact ez_iret dX2_behind_27 rfl (hQ)
  · rw [if_pos (by omega)] at hQ
    refine ez_iload_n (q := 13) 1 dX2_behind_12 rfl rfl rfl ?_
    refine ez_aload_n (q := 14) 0 dX2_behind_13 rfl rfl rfl ?_
    refine ez_getf (q := 17) dX2_behind_14 fl_X2_19 hM.2.1 rfl rfl ?_
    refine ez_iload_n (q := 18) 1 dX2_behind_17 rfl rfl rfl ?_
    refine ez_iald (q := 19) dX2_behind_18 hM.2.2.2.1 rfl (by omega) (by decide) rfl ?_
    refine ez_iadd (q := 20) dX2_behind_19 rfl ?_
    refine ez_goto (q := 27) dX2_behind_20 (by decide) ?_
    exact ez_iret dX2_behind_27 rfl (hQ)

set_option maxHeartbeats 800000 in
set_option maxRecDepth 100000 in
theorem t_X2_signAt {G : ez_G} {d n : Nat} {h : ez_H} {im ia m : Nat} {mg me md mt mr : Nat → Int32} {c : Nat} {i : Nat} (hM : ME im ia h h (nI m) mg me md mt mr) (hm : m ≤ 40) (hg : i < m → mg i = nI c) (hc : c < 128) (hi : i < 2 ^ 31) : Con G mX2_signAt (d) [.ref im, .int (nI i)] h n 0 0 (PU h n (some (.int (nI (if i < m then c else 0))))) := by
  refine Con.of [some (.ref im), some (.int (nI i))] pl_X2 rfl (Nat.le_of_ble_eq_true rfl) rfl ?_
  have hQ : (PU h n (some (.int (nI (if i < m then c else 0))))) (.inl (some (.int (nI (if i < m then c else 0))))) h n := ⟨rfl, rfl, rfl⟩
  generalize PU h n (some (.int (nI (if i < m then c else 0)))) = Q at hQ ⊢
  refine ez_iload_n (q := 1) 1 dX2_signAt_0 rfl rfl rfl ?_
  refine ez_ifltN (q := 4) (tgt := 21) dX2_signAt_1 (by decide) (by omega) rfl ?_
  refine ez_iload_n (q := 5) 1 dX2_signAt_4 rfl rfl rfl ?_
  refine ez_aload_n (q := 6) 0 dX2_signAt_5 rfl rfl rfl ?_
  refine ez_getf (q := 9) dX2_signAt_6 fl_X2_9 hM.2.1 rfl rfl ?_
  refine ez_icmpgeN (q := 12) (tgt := 21) dX2_signAt_9 (by decide) (by omega) (by omega) rfl (fun hc9 => ?_) (fun hc9 => ?_)
  · rw [if_neg (by omega)] at hQ
    refine ez_iconst (v := nI 0) (q := 22) dX2_signAt_21 (by decide) rfl ?_
    exact ez_zret dX2_signAt_22 rfl (by first | exact ez_nar c (by omega) | exact ez_nar 0 (by decide)) (hQ)
  · rw [if_pos (by omega)] at hQ
    refine ez_aload_n (q := 13) 0 dX2_signAt_12 rfl rfl rfl ?_
    refine ez_getf (q := 16) dX2_signAt_13 fl_X2_15 hM.2.1 rfl rfl ?_
    refine ez_iload_n (q := 17) 1 dX2_signAt_16 rfl rfl rfl ?_
    refine ez_cald (q := 18) dX2_signAt_17 hM.2.2.1 rfl (by omega) (by decide) rfl ?_
    refine ez_top (hg (by omega)) ?_
    refine ez_goto (q := 22) dX2_signAt_18 (by decide) ?_
    exact ez_zret dX2_signAt_22 rfl (by first | exact ez_nar c (by omega) | exact ez_nar 0 (by decide)) (hQ)

set_option maxHeartbeats 800000 in
set_option maxRecDepth 100000 in
theorem t_X2_allRounds {G : ez_G} {d n : Nat} {h : ez_H} {im ia m : Nat} {mg me md mt mr : Nat → Int32} {T : Nat → Nat} {n' f : Nat} {L : Nat → Nat} {s : Nat → Nat} (hM : ME im ia h h (nI m) mg me md mt mr) (hm : m ≤ 40) (hr : TSR T n' f L m s 0 mt mr) : Con G mX2_allRounds (d + 1) [.ref im] h n 0 0 (PU h n (some (.int (nI (roN T n' f L m s m))))) := by
  refine Con.of [some (.ref im), none, none] pl_X2 rfl (Nat.le_of_ble_eq_true rfl) rfl ?_
  have hQ : (PU h n (some (.int (nI (roN T n' f L m s m))))) (.inl (some (.int (nI (roN T n' f L m s m))))) h n := ⟨rfl, rfl, rfl⟩
  generalize PU h n (some (.int (nI (roN T n' f L m s m)))) = Q at hQ ⊢
  refine ez_iconst (v := nI 0) (q := 1) dX2_allRounds_0 (by decide) rfl ?_
  refine ez_istore_1 (q := 2) dX2_allRounds_1 rfl (by decide) rfl rfl ?_
  refine ez_iconst (v := nI 0) (q := 3) dX2_allRounds_2 (by decide) rfl ?_
  refine ez_istore_2 (q := 4) dX2_allRounds_3 rfl (by decide) rfl rfl ?_
  refine ez_loop (α := Nat) (fun i => m - i) (P := fun i => (i ≤ m) → E G mX2_allRounds (d + 1) Q h n 0 0 4 [some (.ref im), some (.int (nI (roN T n' f L m s i))), some (.int (nI i))] []) ?_ 0 (Nat.zero_le _)
  intro i ih4 hi
  refine ez_iload_n (q := 5) 2 dX2_allRounds_4 rfl rfl rfl ?_
  refine ez_aload_n (q := 6) 0 dX2_allRounds_5 rfl rfl rfl ?_
  refine ez_getf (q := 9) dX2_allRounds_6 fl_X2_9 hM.2.1 rfl rfl ?_
  refine ez_icmpgeN (q := 12) (tgt := 31) dX2_allRounds_9 (by decide) (by omega) (by omega) rfl (fun hc9 => ?_) (fun hc9 => ?_)
  · refine ez_iload_n (q := 32) 1 dX2_allRounds_31 rfl rfl rfl ?_
    exact ez_iret dX2_allRounds_32 rfl (by obtain rfl : i = m := (by omega); exact hQ)
  · refine ez_iload_n (q := 13) 1 dX2_allRounds_12 rfl rfl rfl ?_
    refine ez_iconst (v := nI 0) (q := 14) dX2_allRounds_13 (by decide) rfl ?_
    refine ez_aload_n (q := 15) 0 dX2_allRounds_14 rfl rfl rfl ?_
    refine ez_getf (q := 18) dX2_allRounds_15 fl_X2_29 hM.2.1 rfl rfl ?_
    refine ez_iload_n (q := 19) 2 dX2_allRounds_18 rfl rfl rfl ?_
    refine ez_iald (q := 20) dX2_allRounds_19 hM.2.2.2.2.2.2.1 rfl (by omega) (by decide) rfl ?_
    refine ez_top (hr.rwE (by omega)) ?_
    refine ez_max (q := 23) dX2_allRounds_20 mx_X2_81 mx_s mx_i mx_c (Nat.le_of_ble_eq_true rfl) rfl ?_
    refine ez_iadd (q := 24) dX2_allRounds_23 rfl ?_
    refine ez_top (rw_max) ?_
    refine ez_istore_1 (q := 25) dX2_allRounds_24 rfl (by decide) rfl rfl ?_
    refine ez_iincN_2 (q := 28) dX2_allRounds_25 (by decide) rfl rfl ?_
    refine ez_goto (q := 4) dX2_allRounds_28 (by decide) ?_
    exact E.fg (ih4 (i + 1) (by omega) (by omega)) ⟨Or.inr (rfl), Or.inr (rfl), Or.inr (rfl), trivial⟩

set_option maxHeartbeats 800000 in
set_option maxRecDepth 100000 in
theorem t_X2_ofWish {G : ez_G} {d n : Nat} {h : ez_H} {im ia : Nat} {mg me md mt mr : Nat → Int32} {T : Nat → Nat} {n' f : Nat} {L ln : Nat → Nat} {sg : Nat → Nat → Nat} {w : Nat} {what : Nat} (hM : ME im ia h h (nI (ln w)) mg me md mt mr) (hm : ln w ≤ 40) (hgg : SGm (ln w) (sg w) 0 mg) (hle : TLD (ln w) (sg w) 0 me md) (hse : TSR T n' f L (ln w) (sg w) 0 mt mr) (h0 : 0 < ln w → wayB (sg w 0) = false) (hwh : what ≤ 3) : Con G mX2_ofWish (d + 2) [.ref im, .int (nI what)] h n 0 0 (PU h n (some (.int (tsI T n' f L ln sg w what)))) := by
  refine Con.of [some (.ref im), some (.int (nI what))] pl_X2 rfl (Nat.le_of_ble_eq_true rfl) rfl ?_
  have hQ : (PU h n (some (.int (tsI T n' f L ln sg w what)))) (.inl (some (.int (tsI T n' f L ln sg w what)))) h n := ⟨rfl, rfl, rfl⟩
  generalize PU h n (some (.int (tsI T n' f L ln sg w what))) = Q at hQ ⊢
  refine ez_aload_n (q := 1) 0 dX2_ofWish_0 rfl rfl rfl ?_
  refine ez_getf (q := 4) dX2_ofWish_1 fl_X2_9 hM.2.1 rfl rfl ?_
  refine ez_ifneN (q := 7) (tgt := 9) dX2_ofWish_4 (by decide) (by omega) rfl (fun hc4 => ?_) (fun hc4 => ?_)
  · rw [tsI, if_neg hc4] at hQ
    have hl0 : 0 < ln w := by omega
    have t1 := (hse 0 (Nat.le_refl 0) hl0).2 (h0 hl0)
    have t2 := (hle 0 (Nat.le_refl 0) hl0).2 (h0 hl0)
    refine ez_iload_n (q := 10) 1 dX2_ofWish_9 rfl rfl rfl ?_
    obtain rfl | rfl | rfl | rfl : what = 0 ∨ what = 1 ∨ what = 2 ∨ what = 3 := by omega
    · refine ez_tableIn (q := 36) (off := 26) dX2_ofWish_10 (by decide) (by decide) (by decide) (by decide) ?_
      refine ez_aload_n (q := 37) 0 dX2_ofWish_36 rfl rfl rfl ?_
      refine ez_getf (q := 40) dX2_ofWish_37 fl_X2_9 hM.2.1 rfl rfl ?_
      exact ez_iret dX2_ofWish_40 rfl (hQ)
    · refine ez_tableIn (q := 41) (off := 31) dX2_ofWish_10 (by decide) (by decide) (by decide) (by decide) ?_
      refine ez_aload_n (q := 42) 0 dX2_ofWish_41 rfl rfl rfl ?_
      refine ez_iconst (v := nI 0) (q := 43) dX2_ofWish_42 (by decide) rfl ?_
      refine cPv (q := 46) dX2_ofWish_43 ck_X2_58 hM.2.1 (t_X2_setAt hM hm (by decide)) rfl ⟨by decide, rfl⟩ rfl rfl rfl (Nat.le_of_ble_eq_true rfl) rfl ?_
      refine ez_top ((if_pos hl0).trans t1.1) ?_
      exact ez_iret dX2_ofWish_46 rfl (hQ)
    · refine ez_tableIn (q := 47) (off := 37) dX2_ofWish_10 (by decide) (by decide) (by decide) (by decide) ?_
      refine ez_aload_n (q := 48) 0 dX2_ofWish_47 rfl rfl rfl ?_
      refine cPv (q := 51) dX2_ofWish_48 ck_X2_105 hM.2.1 (t_X2_allRounds hM hm hse) rfl ⟨by decide, rfl⟩ rfl rfl rfl (Nat.le_of_ble_eq_true rfl) rfl ?_
      exact ez_iret dX2_ofWish_51 rfl (hQ)
    · refine ez_tableOut (q := 52) dX2_ofWish_10 (by decide) (by decide) ?_
      refine ez_aload_n (q := 53) 0 dX2_ofWish_52 rfl rfl rfl ?_
      refine ez_iconst (v := nI 0) (q := 54) dX2_ofWish_53 (by decide) rfl ?_
      refine cPv (q := 57) dX2_ofWish_54 ck_X2_78 hM.2.1 (t_X2_depthAt hM hm (by decide)) rfl ⟨by decide, rfl⟩ rfl rfl rfl (Nat.le_of_ble_eq_true rfl) rfl ?_
      refine ez_top ((if_pos hl0).trans t2.2) ?_
      exact ez_iret dX2_ofWish_57 rfl (hQ)
  · rw [tsI, if_pos hc4] at hQ
    refine ez_iconst (v := -1) (q := 8) dX2_ofWish_7 (by decide) rfl ?_
    exact ez_iret dX2_ofWish_8 rfl (hQ)

theorem tg_of {T : Nat → Nat} {n f : Nat} {L ln : Nat → Nat} {sg : Nat → Nat → Nat} {w i : Nat} {me md mt mr : Nat → Int32} (hle : TLD (ln w) (sg w) 0 me md) (hse : TSR T n f L (ln w) (sg w) 0 mt mr) (hi : i < ln w) : mt i = tgI T n f L ln sg w i 1 ∧ mr i = tgI T n f L ln sg w i 2 ∧ me i = tgI T n f L ln sg w i 3 := by
  have h1 := hle i (Nat.zero_le i) hi
  have h2 := hse i (Nat.zero_le i) hi
  cases hw : wayB (sg w i) with
  | true => exact ⟨((h2.1 hw).1).trans (by rw [tgI, if_neg (by decide), if_pos hw]), ((h2.1 hw).2).trans (by rw [tgI, if_neg (by decide), if_pos hw]), (h1.1 hw).trans (by rw [tgI, if_neg (by decide), if_pos hw])⟩
  | false =>
    have hw2 : ¬ wayB (sg w i) = true := by rw [hw]; decide
    exact ⟨((h2.2 hw).1).trans (by rw [tgI, if_neg (by decide), if_neg hw2]; rfl), ((h2.2 hw).2).trans (by rw [tgI, if_neg (by decide), if_neg hw2]; rfl), ((h1.2 hw).1).trans (by rw [tgI, if_neg (by decide), if_neg hw2]; rfl)⟩
set_option maxHeartbeats 800000 in
set_option maxRecDepth 100000 in
theorem t_X2_ofSign {G : ez_G} {d n : Nat} {h : ez_H} {im ia : Nat} {mg me md mt mr : Nat → Int32} {T : Nat → Nat} {n' f : Nat} {L ln : Nat → Nat} {sg : Nat → Nat → Nat} {w : Nat} {i what : Nat} (hM : ME im ia h h (nI (ln w)) mg me md mt mr) (hm : ln w ≤ 40) (hgg : SGm (ln w) (sg w) 0 mg) (hle : TLD (ln w) (sg w) 0 me md) (hse : TSR T n' f L (ln w) (sg w) 0 mt mr) (hi : i < ln w) (hwh : what ≤ 3) : Con G mX2_ofSign (d) [.ref im, .int (nI i), .int (nI what)] h n 0 0 (PU h n (some (.int (tgI T n' f L ln sg w i what)))) := by
  obtain ⟨t1, t2, t3⟩ := tg_of hle hse hi
  have t0 := tgI_0 (T := T) (n := n') (f := f) (L := L) (ln := ln) (sg := sg) w i
  refine Con.of [some (.ref im), some (.int (nI i)), some (.int (nI what))] pl_X2 rfl (Nat.le_of_ble_eq_true rfl) rfl ?_
  have hQ : (PU h n (some (.int (tgI T n' f L ln sg w i what)))) (.inl (some (.int (tgI T n' f L ln sg w i what)))) h n := ⟨rfl, rfl, rfl⟩
  generalize PU h n (some (.int (tgI T n' f L ln sg w i what))) = Q at hQ ⊢
  refine ez_iload_n (q := 1) 1 dX2_ofSign_0 rfl rfl rfl ?_
  refine ez_ifltN (q := 4) (tgt := 12) dX2_ofSign_1 (by decide) (by omega) rfl ?_
  refine ez_iload_n (q := 5) 1 dX2_ofSign_4 rfl rfl rfl ?_
  refine ez_aload_n (q := 6) 0 dX2_ofSign_5 rfl rfl rfl ?_
  refine ez_getf (q := 9) dX2_ofSign_6 fl_X2_9 hM.2.1 rfl rfl ?_
  refine ez_icmpltN (q := 12) (tgt := 14) dX2_ofSign_9 (by decide) (by omega) (by omega) rfl (fun hc9 => ?_) (fun hc9 => absurd hi (by omega))
  refine ez_iload_n (q := 15) 2 dX2_ofSign_14 rfl rfl rfl ?_
  obtain rfl | rfl | rfl | rfl : what = 0 ∨ what = 1 ∨ what = 2 ∨ what = 3 := by omega
  · refine ez_tableIn (q := 40) (off := 25) dX2_ofSign_15 (by decide) (by decide) (by decide) (by decide) ?_
    refine ez_aload_n (q := 41) 0 dX2_ofSign_40 rfl rfl rfl ?_
    refine ez_getf (q := 44) dX2_ofSign_41 fl_X2_15 hM.2.1 rfl rfl ?_
    refine ez_iload_n (q := 45) 1 dX2_ofSign_44 rfl rfl rfl ?_
    refine ez_cald (q := 46) dX2_ofSign_45 hM.2.2.1 rfl (by omega) (by decide) rfl ?_
    refine ez_top ((hgg i (Nat.zero_le i) hi).trans t0.symm) ?_
    exact ez_iret dX2_ofSign_46 rfl (hQ)
  · refine ez_tableIn (q := 47) (off := 32) dX2_ofSign_15 (by decide) (by decide) (by decide) (by decide) ?_
    refine ez_aload_n (q := 48) 0 dX2_ofSign_47 rfl rfl rfl ?_
    refine ez_getf (q := 51) dX2_ofSign_48 fl_X2_26 hM.2.1 rfl rfl ?_
    refine ez_iload_n (q := 52) 1 dX2_ofSign_51 rfl rfl rfl ?_
    refine ez_iald (q := 53) dX2_ofSign_52 hM.2.2.2.2.2.1 rfl (by omega) (by decide) rfl ?_
    refine ez_top (t1) ?_
    exact ez_iret dX2_ofSign_53 rfl (hQ)
  · refine ez_tableIn (q := 54) (off := 39) dX2_ofSign_15 (by decide) (by decide) (by decide) (by decide) ?_
    refine ez_aload_n (q := 55) 0 dX2_ofSign_54 rfl rfl rfl ?_
    refine ez_getf (q := 58) dX2_ofSign_55 fl_X2_29 hM.2.1 rfl rfl ?_
    refine ez_iload_n (q := 59) 1 dX2_ofSign_58 rfl rfl rfl ?_
    refine ez_iald (q := 60) dX2_ofSign_59 hM.2.2.2.2.2.2.1 rfl (by omega) (by decide) rfl ?_
    refine ez_top (t2) ?_
    exact ez_iret dX2_ofSign_60 rfl (hQ)
  · refine ez_tableOut (q := 61) dX2_ofSign_15 (by decide) (by decide) ?_
    refine ez_aload_n (q := 62) 0 dX2_ofSign_61 rfl rfl rfl ?_
    refine ez_getf (q := 65) dX2_ofSign_62 fl_X2_19 hM.2.1 rfl rfl ?_
    refine ez_iload_n (q := 66) 1 dX2_ofSign_65 rfl rfl rfl ?_
    refine ez_iald (q := 67) dX2_ofSign_66 hM.2.2.2.1 rfl (by omega) (by decide) rfl ?_
    refine ez_top (t3) ?_
    exact ez_iret dX2_ofSign_67 rfl (hQ)

set_option maxHeartbeats 800000 in
set_option maxRecDepth 100000 in
theorem t_X2_putShape {G : ez_G} {d n : Nat} {h : ez_H} {im ia m : Nat} {mg me md mt mr : Nat → Int32} {pl p : Nat} {E9 F9 : Nat → Nat} (hM : ME im ia h h (nI m) mg me md mt mr) (hm : m ≤ 40) (hp : p ≤ 2) (hpl : pl < 40) (hE : ∀ k, k ≤ p → pl ≤ E9 k ∧ E9 k ≤ 200) (hk : ∀ k, k < p → E9 k < m ∧ me (E9 k) = nI (E9 (k + 1) - E9 k) ∧ E9 k ≤ E9 (k + 1) ∧ md (E9 k) = nI (F9 k) ∧ F9 k ≤ 40) : Con G mX2_putShape (d + 1) [.ref im, .int (nI pl), .int (nI (E9 0)), .int (nI p)] h n 0 0 (PW n none (fun g => ME im ia h g (nI m) mg (upd me pl (nI (E9 p - pl))) (upd md pl (nI (1 + dmx F9 p))) mt mr)) := by
  have hdm := dmx_le (F := F9) (p := p) (fun k a => (hk k a).2.2.2.2)
  refine Con.of [some (.ref im), some (.int (nI pl)), some (.int (nI (E9 0))), some (.int (nI p)), none, none, none] pl_X2 rfl (Nat.le_of_ble_eq_true rfl) rfl ?_
  have hQ : ∀ g, ME im ia h g (nI m) mg (upd me pl (nI (E9 p - pl))) (upd md pl (nI (1 + dmx F9 p))) mt mr → (PW n none (fun g => ME im ia h g (nI m) mg (upd me pl (nI (E9 p - pl))) (upd md pl (nI (1 + dmx F9 p))) mt mr)) (.inl none) g n := fun g hW => ⟨rfl, hW, rfl⟩
  generalize PW n none (fun g => ME im ia h g (nI m) mg (upd me pl (nI (E9 p - pl))) (upd md pl (nI (1 + dmx F9 p))) mt mr) = Q at hQ ⊢
  refine ez_iload_n (q := 1) 2 dX2_putShape_0 rfl rfl rfl ?_
  refine ez_istore_4 (q := 3) dX2_putShape_1 (by decide) rfl rfl ?_
  refine ez_iconst (v := nI 0) (q := 4) dX2_putShape_3 (by decide) rfl ?_
  refine ez_istore_5 (q := 6) dX2_putShape_4 (by decide) rfl rfl ?_
  refine ez_iconst (v := nI 0) (q := 7) dX2_putShape_6 (by decide) rfl ?_
  refine ez_istore_6 (q := 9) dX2_putShape_7 (by decide) rfl rfl ?_
  refine ez_loop (α := Nat) (fun k => p - k) (P := fun k => (k ≤ p) → E G mX2_putShape (d + 1) Q h n 0 0 9 [some (.ref im), some (.int (nI pl)), some (.int (nI (E9 0))), some (.int (nI p)), some (.int (nI (E9 k))), some (.int (nI (dmx F9 k))), some (.int (nI k))] []) ?_ 0 (Nat.zero_le _)
  intro k ih9 hkp
  refine ez_iload (q := 11) dX2_putShape_9 rfl rfl ?_
  refine ez_iload_n (q := 12) 3 dX2_putShape_11 rfl rfl rfl ?_
  refine ez_icmpgeN (q := 15) (tgt := 42) dX2_putShape_12 (by decide) (by omega) (by omega) rfl (fun hc12 => ?_) (fun hc12 => ?_)
  · obtain rfl : k = p := by omega
    have hek := hE k (Nat.le_refl _)
    refine ez_aload_n (q := 43) 0 dX2_putShape_42 rfl rfl rfl ?_
    refine ez_getf (q := 46) dX2_putShape_43 fl_X2_19 hM.2.1 rfl rfl ?_
    refine ez_iload_n (q := 47) 1 dX2_putShape_46 rfl rfl rfl ?_
    refine ez_iload (q := 49) dX2_putShape_47 rfl rfl ?_
    refine ez_iload_n (q := 50) 1 dX2_putShape_49 rfl rfl rfl ?_
    refine ez_isubN (q := 51) dX2_putShape_50 (by omega) rfl ?_
    refine sME_me (q := 52) dX2_putShape_51 hM rfl (by omega) rfl (fun g hM => ?_)
    refine ez_aload_n (q := 53) 0 dX2_putShape_52 rfl rfl rfl ?_
    refine ez_getf (q := 56) dX2_putShape_53 fl_X2_23 hM.2.1 rfl rfl ?_
    refine ez_iload_n (q := 57) 1 dX2_putShape_56 rfl rfl rfl ?_
    refine ez_iconst (v := nI 1) (q := 58) dX2_putShape_57 (by decide) rfl ?_
    refine ez_iload (q := 60) dX2_putShape_58 rfl rfl ?_
    refine ez_iaddN (q := 61) dX2_putShape_60 rfl ?_
    refine sME_md (q := 62) dX2_putShape_61 hM rfl (by omega) rfl (fun g hM => ?_)
    exact ez_vret dX2_putShape_62 rfl (hQ _ hM)
  · obtain ⟨k1, k2, k3, k4, k5⟩ := hk k (by omega)
    have hek := (hE k (by omega)).2
    refine ez_iload (q := 17) dX2_putShape_15 rfl rfl ?_
    refine ez_aload_n (q := 18) 0 dX2_putShape_17 rfl rfl rfl ?_
    refine ez_iload (q := 20) dX2_putShape_18 rfl rfl ?_
    refine cPv (q := 23) dX2_putShape_20 ck_X2_78 hM.2.1 (t_X2_depthAt hM hm (by omega)) rfl ⟨by decide, rfl⟩ rfl rfl rfl (Nat.le_of_ble_eq_true rfl) rfl ?_
    refine ez_top ((if_pos k1).trans k4) ?_
    refine ez_max (q := 26) dX2_putShape_23 mx_X2_81 mx_s mx_i mx_c (Nat.le_of_ble_eq_true rfl) rfl ?_
    refine ez_top (dmx_s (hdm k (by omega)) k5) ?_
    refine ez_istore_5 (q := 28) dX2_putShape_26 (by decide) rfl rfl ?_
    refine ez_aload_n (q := 29) 0 dX2_putShape_28 rfl rfl rfl ?_
    refine ez_iload (q := 31) dX2_putShape_29 rfl rfl ?_
    refine cPv (q := 34) dX2_putShape_31 ck_X2_87 hM.2.1 (t_X2_behind hM hm (by omega)) rfl ⟨by decide, rfl⟩ rfl rfl rfl (Nat.le_of_ble_eq_true rfl) rfl ?_
    refine ez_top (((if_pos k1).trans (by rw [k2, nI_add])).trans (congrArg nI (show _ = E9 (k + 1) by omega))) ?_
    refine ez_istore_4 (q := 36) dX2_putShape_34 (by decide) rfl rfl ?_
    refine ez_iincN_6 (q := 39) dX2_putShape_36 (by decide) rfl rfl ?_
    refine ez_goto (q := 9) dX2_putShape_39 (by decide) ?_
    exact E.fg (ih9 (k + 1) (by omega) (by omega)) ⟨Or.inr (rfl), Or.inr (rfl), Or.inr (rfl), Or.inr (rfl), Or.inr (rfl), Or.inr (rfl), Or.inr (rfl), trivial⟩

set_option maxHeartbeats 800000 in
set_option maxRecDepth 100000 in
theorem t_X2_readSigns {G : ez_G} {d n : Nat} {h : ez_H} {im ia n' f w : Nat} {L T ln : Nat → Nat} {sg : Nat → Nat → Nat} {ml : Int32} {mg me md mt mr : Nat → Int32} (hM : ME im ia h h ml mg me md mt mr) (hS : SS ia h n' f L T ln sg) (ho : OK n' f L T ln sg) (hs : WFS ln sg) (hd : ia + 5 ≤ im) (hw : w < 4) : Con G mX2_readSigns (d + 3) [.ref im, .int (nI w)] h n 0 0 (PW n none (fun g => ∃ mg me md : Nat → Int32, ME im ia h g (nI (ln w)) mg me md mt mr ∧ SGm (ln w) (sg w) 0 mg ∧ TLD (ln w) (sg w) 0 me md)) := by
  have hl := ho.2.2.2.2.1 w hw
  have hl2 := ho.2.2.2.2.2 w hw
  refine Con.of [some (.ref im), some (.int (nI w)), none] pl_X2 rfl (Nat.le_of_ble_eq_true rfl) rfl ?_
  have hQ : ∀ g (mg me md : Nat → Int32), ME im ia h g (nI (ln w)) mg me md mt mr → SGm (ln w) (sg w) 0 mg → TLD (ln w) (sg w) 0 me md → (PW n none (fun g => ∃ mg me md : Nat → Int32, ME im ia h g (nI (ln w)) mg me md mt mr ∧ SGm (ln w) (sg w) 0 mg ∧ TLD (ln w) (sg w) 0 me md)) (.inl none) g n := fun g mg me md h1 h2 h3 => ⟨rfl, ⟨mg, me, md, h1, h2, h3⟩, rfl⟩
  generalize PW n none (fun g => ∃ mg me md : Nat → Int32, ME im ia h g (nI (ln w)) mg me md mt mr ∧ SGm (ln w) (sg w) 0 mg ∧ TLD (ln w) (sg w) 0 me md) = Q at hQ ⊢
  refine ez_aload_n (q := 1) 0 dX2_readSigns_0 rfl rfl rfl ?_
  refine ez_aload_n (q := 2) 0 dX2_readSigns_1 rfl rfl rfl ?_
  refine ez_getf (q := 5) dX2_readSigns_2 fl_X2_32 hM.2.1 rfl rfl ?_
  refine ez_iload_n (q := 6) 1 dX2_readSigns_5 rfl rfl rfl ?_
  refine cPv (q := 9) dX2_readSigns_6 ck_X2_62 (hS.to (fun j a b => hM.fr j (by omega))).ob (r_X3_lengthOf (hS.to (fun j a b => hM.fr j (by omega))) ho hw) rfl ⟨by decide, rfl⟩ rfl rfl rfl (Nat.le_of_ble_eq_true rfl) rfl ?_
  refine pME_ml (q := 12) dX2_readSigns_9 fl_X2_9 hM rfl (fun g hM => ?_)
  refine ez_aload_n (q := 13) 0 dX2_readSigns_12 rfl rfl rfl ?_
  refine ez_getf (q := 16) dX2_readSigns_13 fl_X2_9 hM.2.1 rfl rfl ?_
  refine ez_iconst (v := nI 1) (q := 17) dX2_readSigns_16 (by decide) rfl ?_
  refine ez_isub (q := 18) dX2_readSigns_17 rfl ?_
  refine ez_top (dI_of _) ?_
  refine ez_istore_2 (q := 19) dX2_readSigns_18 rfl (by decide) rfl rfl ?_
  refine ez_loop (α := Nat) (fun k => k) (P := fun k => ∀ (g : ez_H) (mg me md : Nat → Int32), ME im ia h g (nI (ln w)) mg me md mt mr → (k ≤ ln w) → (SGm (ln w) (sg w) k mg) → (TLD (ln w) (sg w) k me md) → E G mX2_readSigns (d + 3) Q g n 0 0 19 [some (.ref im), some (.int (nI w)), some (.int (dI k))] []) ?_ (ln w) g _ _ _ hM (Nat.le_refl _) (fun j a b => by omega) (fun j a b => by omega)
  intro k ih19 g mg me md hM hk hgg ht
  rcases k with _ | k
  · change E G mX2_readSigns _ _ _ _ _ _ 19 [some (.ref im), some (.int (nI w)), some (.int (-1))] []
    refine ez_iload_n (q := 20) 2 dX2_readSigns_19 rfl rfl rfl ?_
    refine ez_iflt (q := 23) (tgt := 212) dX2_readSigns_20 (by decide) rfl (fun hc20 => ?_) (fun hc20 => ?_)
    · exact ez_vret dX2_readSigns_212 rfl (hQ _ _ _ _ hM hgg ht)
    · first
      | exact absurd (by decide) hc20
      | skip
        refine ez_aload_n (q := 24) 0 dX2_readSigns_23 rfl rfl rfl ?_
        refine ez_getf (q := 27) dX2_readSigns_24 fl_X2_15 hM.2.1 rfl rfl ?_
        refine ez_iload_n (q := 28) 2 dX2_readSigns_27 rfl rfl rfl ?_
        refine ez_aload_n (q := 29) 0 dX2_readSigns_28 rfl rfl rfl ?_
        refine ez_getf (q := 32) dX2_readSigns_29 fl_X2_32 hM.2.1 rfl rfl ?_
        refine ez_iload_n (q := 33) 1 dX2_readSigns_32 rfl rfl rfl ?_
        refine ez_iload_n (q := 34) 2 dX2_readSigns_33 rfl rfl rfl ?_
        refine cPv (q := 37) dX2_readSigns_34 ck_X2_67 (hS.to (fun j a b => hM.fr j (by omega))).ob (r_X3_signAt (hS.to (fun j a b => hM.fr j (by omega))) ho hw (by omega)) rfl ⟨by decide, rfl⟩ rfl rfl rfl (Nat.le_of_ble_eq_true rfl) rfl ?_
        rw [show sgA ln sg w k = sg w k from if_pos hi]
        refine sME_mg (q := 38) dX2_readSigns_37 hM rfl (by omega) rfl (by have := hl2 k hi; omega) rfl (fun g hM => ?_)
        refine ez_aload_n (q := 39) 0 dX2_readSigns_38 rfl rfl rfl ?_
        refine ez_getf (q := 42) dX2_readSigns_39 fl_X2_15 hM.2.1 rfl rfl ?_
        refine ez_iload_n (q := 43) 2 dX2_readSigns_42 rfl rfl rfl ?_
        refine ez_cald (q := 44) dX2_readSigns_43 hM.2.2.1 rfl (by omega) (by decide) rfl ?_
        refine ez_top (up_eq _ _ _) ?_
        obtain ⟨c, hcs⟩ : ∃ c, sg w k = c := ⟨_, rfl⟩
        rw [hcs]
        have hc128 : c < 128 := by rw [← hcs]; exact wf_c hwf hi
        rcases (show c = 33 ∨ c = 38 ∨ c = 65 ∨ c = 69 ∨ c = 70 ∨ c = 71 ∨ c = 85 ∨ c = 88 ∨ c = 124 ∨ (¬ c = 33 ∧ ¬ c = 38 ∧ ¬ c = 65 ∧ ¬ c = 69 ∧ ¬ c = 70 ∧ ¬ c = 71 ∧ ¬ c = 85 ∧ ¬ c = 88 ∧ ¬ c = 124) by omega) with rfl | rfl | rfl | rfl | rfl | rfl | rfl | rfl | rfl | hno
        · refine ez_lookup (q := 145) (off := 101) dX2_readSigns_44 (by decide) (by decide) (by decide) ?_
          have hway : wayB (sg w k) = false := decide_eq_false (by omega)
          have hs := (wf_w hwf hi).symm.trans hway
          obtain ⟨h1, h1s⟩ := wf_not hwf hi hs hcs
          obtain ⟨b1, b2⟩ := wf_pt hwf h1 h1s
          have q0 := (ht (k + 1) (by omega) h1).2 ((wf_w hwf h1).trans h1s)
          have dq0 := deW_l (ln w) (sg w) (k + 1)
          refine ez_aload_n (q := 146) 0 dX2_readSigns_145 rfl rfl rfl ?_
          refine ez_iload_n (q := 147) 2 dX2_readSigns_146 rfl rfl rfl ?_
          refine ez_iload_n (q := 148) 2 dX2_readSigns_147 rfl rfl rfl ?_
          refine ez_iconst (v := nI 1) (q := 149) dX2_readSigns_148 (by decide) rfl ?_
          refine ez_iadd (q := 150) dX2_readSigns_149 rfl ?_
          refine ez_iconst (v := nI 1) (q := 151) dX2_readSigns_150 (by decide) rfl ?_
          have shp : ∀ j, j < 1 → (e3 (k + 1) (k + 1 + leW (ln w) (sg w) (k + 1)) (0)) j < ln w ∧ me ((e3 (k + 1) (k + 1 + leW (ln w) (sg w) (k + 1)) (0)) j) = nI ((e3 (k + 1) (k + 1 + leW (ln w) (sg w) (k + 1)) (0)) (j + 1) - (e3 (k + 1) (k + 1 + leW (ln w) (sg w) (k + 1)) (0)) j) ∧ (e3 (k + 1) (k + 1 + leW (ln w) (sg w) (k + 1)) (0)) j ≤ (e3 (k + 1) (k + 1 + leW (ln w) (sg w) (k + 1)) (0)) (j + 1) ∧ md ((e3 (k + 1) (k + 1 + leW (ln w) (sg w) (k + 1)) (0)) j) = nI ((e3 (deW (ln w) (sg w) (k + 1)) (0) (0)) j) ∧ (e3 (deW (ln w) (sg w) (k + 1)) (0) (0)) j ≤ 40 := fun j hj => match j, hj with | 0, _ => ⟨by simp only [e3, Nat.zero_add, Nat.reduceAdd]; omega, q0.1.trans (congrArg nI (by simp only [e3, Nat.zero_add, Nat.reduceAdd]; omega)), by simp only [e3, Nat.zero_add, Nat.reduceAdd]; omega, q0.2, by simp only [e3, Nat.zero_add, Nat.reduceAdd]; omega⟩ | j + 1, h9 => absurd h9 (by omega)
          refine cX0 (q := 154) dX2_readSigns_151 ck_X2_71 hM.2.1 (t_X2_putShape (p := 1) (E9 := (e3 (k + 1) (k + 1 + leW (ln w) (sg w) (k + 1)) (0))) (F9 := (e3 (deW (ln w) (sg w) (k + 1)) (0) (0))) hM.rb hl (by decide) (by omega) (by intro j hj; rcases (show j = 0 ∨ j = 1 by omega) with rfl | rfl <;> (simp only [e3]; omega)) shp) rfl ⟨by decide, rfl⟩ rfl rfl rfl (Nat.le_of_ble_eq_true rfl) rfl (fun g hW => ?_)
          have hM := hM.tr hW
          have e1 : (e3 (k + 1) (k + 1 + leW (ln w) (sg w) (k + 1)) (0)) 1 - k = leW (ln w) (sg w) (k) := by simp only [e3]; rw [leW_not hi hcs]; omega
          have e2 : 1 + dmx (e3 (deW (ln w) (sg w) (k + 1)) (0) (0)) 1 = deW (ln w) (sg w) (k) := by rw [dmx_1, deW_not hi hcs]; rfl
          rw [e1, e2] at hM
          refine ez_goto (q := 206) dX2_readSigns_154 (by decide) ?_
          refine ez_iinc_2 (v := dI k) (q := 209) dX2_readSigns_206 (dI_dec k) (by decide) rfl rfl ?_
          refine ez_goto (q := 19) dX2_readSigns_209 (by decide) ?_
          first
          | exact E.fg (ih19 k (by omega) g _ _ _ hM (by omega) hgg.up (ht.upw hway _)) ⟨Or.inr (rfl), Or.inr (rfl), Or.inr (rfl), trivial⟩
          | exact E.fg (ih19 k (by omega) g _ _ _ hM (by omega) hgg.up (ht.upn hway)) ⟨Or.inr (rfl), Or.inr (rfl), Or.inr (rfl), trivial⟩
        · refine ez_lookup (q := 157) (off := 113) dX2_readSigns_44 (by decide) (by decide) (by decide) ?_
          have hway : wayB (sg w k) = false := decide_eq_false (by omega)
          have hs := (wf_w hwf hi).symm.trans hway
          have hc2 : sg w k = 38 ∨ sg w k = 124 := by omega
          obtain ⟨h1, h1s, h2, h2s⟩ := wf_two hwf hi hs hc2
          obtain ⟨b1, b2⟩ := wf_pt hwf h1 h1s
          obtain ⟨b3, b4⟩ := wf_pt hwf h2 h2s
          have q0 := (ht (k + 1) (by omega) h1).2 ((wf_w hwf h1).trans h1s)
          have dq0 := deW_l (ln w) (sg w) (k + 1)
          have q1 := (ht (k + 1 + leW (ln w) (sg w) (k + 1)) (by omega) h2).2 ((wf_w hwf h2).trans h2s)
          have dq1 := deW_l (ln w) (sg w) (k + 1 + leW (ln w) (sg w) (k + 1))
          refine ez_aload_n (q := 158) 0 dX2_readSigns_157 rfl rfl rfl ?_
          refine ez_iload_n (q := 159) 2 dX2_readSigns_158 rfl rfl rfl ?_
          refine ez_iload_n (q := 160) 2 dX2_readSigns_159 rfl rfl rfl ?_
          refine ez_iconst (v := nI 1) (q := 161) dX2_readSigns_160 (by decide) rfl ?_
          refine ez_iadd (q := 162) dX2_readSigns_161 rfl ?_
          refine ez_iconst (v := nI 2) (q := 163) dX2_readSigns_162 (by decide) rfl ?_
          have shp : ∀ j, j < 2 → (e3 (k + 1) (k + 1 + leW (ln w) (sg w) (k + 1)) (k + 1 + leW (ln w) (sg w) (k + 1) + leW (ln w) (sg w) (k + 1 + leW (ln w) (sg w) (k + 1)))) j < ln w ∧ me ((e3 (k + 1) (k + 1 + leW (ln w) (sg w) (k + 1)) (k + 1 + leW (ln w) (sg w) (k + 1) + leW (ln w) (sg w) (k + 1 + leW (ln w) (sg w) (k + 1)))) j) = nI ((e3 (k + 1) (k + 1 + leW (ln w) (sg w) (k + 1)) (k + 1 + leW (ln w) (sg w) (k + 1) + leW (ln w) (sg w) (k + 1 + leW (ln w) (sg w) (k + 1)))) (j + 1) - (e3 (k + 1) (k + 1 + leW (ln w) (sg w) (k + 1)) (k + 1 + leW (ln w) (sg w) (k + 1) + leW (ln w) (sg w) (k + 1 + leW (ln w) (sg w) (k + 1)))) j) ∧ (e3 (k + 1) (k + 1 + leW (ln w) (sg w) (k + 1)) (k + 1 + leW (ln w) (sg w) (k + 1) + leW (ln w) (sg w) (k + 1 + leW (ln w) (sg w) (k + 1)))) j ≤ (e3 (k + 1) (k + 1 + leW (ln w) (sg w) (k + 1)) (k + 1 + leW (ln w) (sg w) (k + 1) + leW (ln w) (sg w) (k + 1 + leW (ln w) (sg w) (k + 1)))) (j + 1) ∧ md ((e3 (k + 1) (k + 1 + leW (ln w) (sg w) (k + 1)) (k + 1 + leW (ln w) (sg w) (k + 1) + leW (ln w) (sg w) (k + 1 + leW (ln w) (sg w) (k + 1)))) j) = nI ((e3 (deW (ln w) (sg w) (k + 1)) (deW (ln w) (sg w) (k + 1 + leW (ln w) (sg w) (k + 1))) (0)) j) ∧ (e3 (deW (ln w) (sg w) (k + 1)) (deW (ln w) (sg w) (k + 1 + leW (ln w) (sg w) (k + 1))) (0)) j ≤ 40 := fun j hj => match j, hj with | 0, _ => ⟨by simp only [e3, Nat.zero_add, Nat.reduceAdd]; omega, q0.1.trans (congrArg nI (by simp only [e3, Nat.zero_add, Nat.reduceAdd]; omega)), by simp only [e3, Nat.zero_add, Nat.reduceAdd]; omega, q0.2, by simp only [e3, Nat.zero_add, Nat.reduceAdd]; omega⟩ | 1, _ => ⟨by simp only [e3, Nat.zero_add, Nat.reduceAdd]; omega, q1.1.trans (congrArg nI (by simp only [e3, Nat.zero_add, Nat.reduceAdd]; omega)), by simp only [e3, Nat.zero_add, Nat.reduceAdd]; omega, q1.2, by simp only [e3, Nat.zero_add, Nat.reduceAdd]; omega⟩ | j + 2, h9 => absurd h9 (by omega)
          refine cX0 (q := 166) dX2_readSigns_163 ck_X2_71 hM.2.1 (t_X2_putShape (p := 2) (E9 := (e3 (k + 1) (k + 1 + leW (ln w) (sg w) (k + 1)) (k + 1 + leW (ln w) (sg w) (k + 1) + leW (ln w) (sg w) (k + 1 + leW (ln w) (sg w) (k + 1))))) (F9 := (e3 (deW (ln w) (sg w) (k + 1)) (deW (ln w) (sg w) (k + 1 + leW (ln w) (sg w) (k + 1))) (0))) hM.rb hl (by decide) (by omega) (by intro j hj; rcases (show j = 0 ∨ j = 1 ∨ j = 2 by omega) with rfl | rfl | rfl <;> (simp only [e3]; omega)) shp) rfl ⟨by decide, rfl⟩ rfl rfl rfl (Nat.le_of_ble_eq_true rfl) rfl (fun g hW => ?_)
          have hM := hM.tr hW
          have e1 : (e3 (k + 1) (k + 1 + leW (ln w) (sg w) (k + 1)) (k + 1 + leW (ln w) (sg w) (k + 1) + leW (ln w) (sg w) (k + 1 + leW (ln w) (sg w) (k + 1)))) 2 - k = leW (ln w) (sg w) (k) := by simp only [e3]; rw [leW_two hi hc2]; omega
          have e2 : 1 + dmx (e3 (deW (ln w) (sg w) (k + 1)) (deW (ln w) (sg w) (k + 1 + leW (ln w) (sg w) (k + 1))) (0)) 2 = deW (ln w) (sg w) (k) := by rw [dmx_2, deW_two hi hc2]; rfl
          rw [e1, e2] at hM
          refine ez_goto (q := 206) dX2_readSigns_166 (by decide) ?_
          refine ez_iinc_2 (v := dI k) (q := 209) dX2_readSigns_206 (dI_dec k) (by decide) rfl rfl ?_
          refine ez_goto (q := 19) dX2_readSigns_209 (by decide) ?_
          first
          | exact E.fg (ih19 k (by omega) g _ _ _ hM (by omega) hgg.up (ht.upw hway _)) ⟨Or.inr (rfl), Or.inr (rfl), Or.inr (rfl), trivial⟩
          | exact E.fg (ih19 k (by omega) g _ _ _ hM (by omega) hgg.up (ht.upn hway)) ⟨Or.inr (rfl), Or.inr (rfl), Or.inr (rfl), trivial⟩
        · refine ez_lookup (q := 169) (off := 125) dX2_readSigns_44 (by decide) (by decide) (by decide) ?_
          have hway : wayB (sg w k) = false := decide_eq_false (by omega)
          have hs := (wf_w hwf hi).symm.trans hway
          have hc2 : sg w k = 69 ∨ sg w k = 65 := by omega
          obtain ⟨hk4, h2, h2s, h2u⟩ := wf_ea hwf hi hs hc2
          obtain ⟨b1, b2⟩ := wf_pt hwf h2 h2s
          have q0 := (ht (k + 2) (by omega) h2).2 ((wf_w hwf h2).trans h2s)
          have dq0 := deW_l (ln w) (sg w) (k + 2)
          refine ez_aload_n (q := 170) 0 dX2_readSigns_169 rfl rfl rfl ?_
          refine ez_iload_n (q := 171) 2 dX2_readSigns_170 rfl rfl rfl ?_
          refine ez_iload_n (q := 172) 2 dX2_readSigns_171 rfl rfl rfl ?_
          refine ez_iconst (v := nI 2) (q := 173) dX2_readSigns_172 (by decide) rfl ?_
          refine ez_iadd (q := 174) dX2_readSigns_173 rfl ?_
          refine ez_aload_n (q := 175) 0 dX2_readSigns_174 rfl rfl rfl ?_
          refine ez_iload_n (q := 176) 2 dX2_readSigns_175 rfl rfl rfl ?_
          refine ez_iconst (v := nI 1) (q := 177) dX2_readSigns_176 (by decide) rfl ?_
          refine ez_iadd (q := 178) dX2_readSigns_177 rfl ?_
          refine cPv (q := 181) dX2_readSigns_178 ck_X2_75 hM.2.1 (t_X2_signAt (c := sg w (k + 1)) hM.rb hl (fun h9 => (up_ne _ _ (by omega)).trans (hgg (k + 1) (by omega) h9)) (wf_c hwf (by omega)) (by omega)) rfl ⟨by decide, rfl⟩ rfl rfl rfl (Nat.le_of_ble_eq_true rfl) rfl ?_
          rw [if_pos (show k + 1 < ln w by omega)]
          refine ez_bipush (v := nI 85) (q := 183) dX2_readSigns_181 (by decide) rfl ?_
          refine ez_icmpneN (q := 186) (tgt := 190) dX2_readSigns_183 (by decide) (by omega) (by decide) rfl (fun hc183 => ?_) (fun hc183 => ?_)
          · have shp : ∀ j, j < 1 → (e3 (k + 2) (k + 2 + leW (ln w) (sg w) (k + 2)) (0)) j < ln w ∧ me ((e3 (k + 2) (k + 2 + leW (ln w) (sg w) (k + 2)) (0)) j) = nI ((e3 (k + 2) (k + 2 + leW (ln w) (sg w) (k + 2)) (0)) (j + 1) - (e3 (k + 2) (k + 2 + leW (ln w) (sg w) (k + 2)) (0)) j) ∧ (e3 (k + 2) (k + 2 + leW (ln w) (sg w) (k + 2)) (0)) j ≤ (e3 (k + 2) (k + 2 + leW (ln w) (sg w) (k + 2)) (0)) (j + 1) ∧ md ((e3 (k + 2) (k + 2 + leW (ln w) (sg w) (k + 2)) (0)) j) = nI ((e3 (deW (ln w) (sg w) (k + 2)) (0) (0)) j) ∧ (e3 (deW (ln w) (sg w) (k + 2)) (0) (0)) j ≤ 40 := fun j hj => match j, hj with | 0, _ => ⟨by simp only [e3, Nat.zero_add, Nat.reduceAdd]; omega, q0.1.trans (congrArg nI (by simp only [e3, Nat.zero_add, Nat.reduceAdd]; omega)), by simp only [e3, Nat.zero_add, Nat.reduceAdd]; omega, q0.2, by simp only [e3, Nat.zero_add, Nat.reduceAdd]; omega⟩ | j + 1, h9 => absurd h9 (by omega)
            have hcon := t_X2_putShape (G := G) (d := d + 1) (n := n) (pl := k) (p := 1) (E9 := (e3 (k + 2) (k + 2 + leW (ln w) (sg w) (k + 2)) (0))) (F9 := (e3 (deW (ln w) (sg w) (k + 2)) (0) (0))) hM.rb hl (by decide) (by omega) (by intro j hj; rcases (show j = 0 ∨ j = 1 by omega) with rfl | rfl <;> (simp only [e3]; omega)) shp
            have e1 : (e3 (k + 2) (k + 2 + leW (ln w) (sg w) (k + 2)) (0)) 1 - k = leW (ln w) (sg w) (k) := by simp only [e3]; rw [leW_ea hi hc2, if_neg hc183]; omega
            have e2 : 1 + dmx (e3 (deW (ln w) (sg w) (k + 2)) (0) (0)) 1 = deW (ln w) (sg w) (k) := by rw [dmx_1, deW_ea hi hc2, if_neg (fun a => hc183 a.1)]; rfl
            refine ez_iconst (v := nI 1) (q := 191) dX2_readSigns_190 (by decide) rfl ?_
            refine cX0 (q := 194) dX2_readSigns_191 ck_X2_71 hM.2.1 (hcon) rfl ⟨by decide, rfl⟩ rfl rfl rfl (Nat.le_of_ble_eq_true rfl) rfl (fun g hW => ?_)
            have hM := hM.tr hW
            rw [e1, e2] at hM
            refine ez_goto (q := 206) dX2_readSigns_194 (by decide) ?_
            refine ez_iinc_2 (v := dI k) (q := 209) dX2_readSigns_206 (dI_dec k) (by decide) rfl rfl ?_
            refine ez_goto (q := 19) dX2_readSigns_209 (by decide) ?_
            first
            | exact E.fg (ih19 k (by omega) g _ _ _ hM (by omega) hgg.up (ht.upw hway _)) ⟨Or.inr (rfl), Or.inr (rfl), Or.inr (rfl), trivial⟩
            | exact E.fg (ih19 k (by omega) g _ _ _ hM (by omega) hgg.up (ht.upn hway)) ⟨Or.inr (rfl), Or.inr (rfl), Or.inr (rfl), trivial⟩
          · obtain ⟨h3, h3s⟩ := h2u hc183
            obtain ⟨b3, b4⟩ := wf_pt hwf h3 h3s
            have q1 := (ht (k + 2 + leW (ln w) (sg w) (k + 2)) (by omega) h3).2 ((wf_w hwf h3).trans h3s)
            have dq1 := deW_l (ln w) (sg w) (k + 2 + leW (ln w) (sg w) (k + 2))
            have shp : ∀ j, j < 2 → (e3 (k + 2) (k + 2 + leW (ln w) (sg w) (k + 2)) (k + 2 + leW (ln w) (sg w) (k + 2) + leW (ln w) (sg w) (k + 2 + leW (ln w) (sg w) (k + 2)))) j < ln w ∧ me ((e3 (k + 2) (k + 2 + leW (ln w) (sg w) (k + 2)) (k + 2 + leW (ln w) (sg w) (k + 2) + leW (ln w) (sg w) (k + 2 + leW (ln w) (sg w) (k + 2)))) j) = nI ((e3 (k + 2) (k + 2 + leW (ln w) (sg w) (k + 2)) (k + 2 + leW (ln w) (sg w) (k + 2) + leW (ln w) (sg w) (k + 2 + leW (ln w) (sg w) (k + 2)))) (j + 1) - (e3 (k + 2) (k + 2 + leW (ln w) (sg w) (k + 2)) (k + 2 + leW (ln w) (sg w) (k + 2) + leW (ln w) (sg w) (k + 2 + leW (ln w) (sg w) (k + 2)))) j) ∧ (e3 (k + 2) (k + 2 + leW (ln w) (sg w) (k + 2)) (k + 2 + leW (ln w) (sg w) (k + 2) + leW (ln w) (sg w) (k + 2 + leW (ln w) (sg w) (k + 2)))) j ≤ (e3 (k + 2) (k + 2 + leW (ln w) (sg w) (k + 2)) (k + 2 + leW (ln w) (sg w) (k + 2) + leW (ln w) (sg w) (k + 2 + leW (ln w) (sg w) (k + 2)))) (j + 1) ∧ md ((e3 (k + 2) (k + 2 + leW (ln w) (sg w) (k + 2)) (k + 2 + leW (ln w) (sg w) (k + 2) + leW (ln w) (sg w) (k + 2 + leW (ln w) (sg w) (k + 2)))) j) = nI ((e3 (deW (ln w) (sg w) (k + 2)) (deW (ln w) (sg w) (k + 2 + leW (ln w) (sg w) (k + 2))) (0)) j) ∧ (e3 (deW (ln w) (sg w) (k + 2)) (deW (ln w) (sg w) (k + 2 + leW (ln w) (sg w) (k + 2))) (0)) j ≤ 40 := fun j hj => match j, hj with | 0, _ => ⟨by simp only [e3, Nat.zero_add, Nat.reduceAdd]; omega, q0.1.trans (congrArg nI (by simp only [e3, Nat.zero_add, Nat.reduceAdd]; omega)), by simp only [e3, Nat.zero_add, Nat.reduceAdd]; omega, q0.2, by simp only [e3, Nat.zero_add, Nat.reduceAdd]; omega⟩ | 1, _ => ⟨by simp only [e3, Nat.zero_add, Nat.reduceAdd]; omega, q1.1.trans (congrArg nI (by simp only [e3, Nat.zero_add, Nat.reduceAdd]; omega)), by simp only [e3, Nat.zero_add, Nat.reduceAdd]; omega, q1.2, by simp only [e3, Nat.zero_add, Nat.reduceAdd]; omega⟩ | j + 2, h9 => absurd h9 (by omega)
            have hcon := t_X2_putShape (G := G) (d := d + 1) (n := n) (pl := k) (p := 2) (E9 := (e3 (k + 2) (k + 2 + leW (ln w) (sg w) (k + 2)) (k + 2 + leW (ln w) (sg w) (k + 2) + leW (ln w) (sg w) (k + 2 + leW (ln w) (sg w) (k + 2))))) (F9 := (e3 (deW (ln w) (sg w) (k + 2)) (deW (ln w) (sg w) (k + 2 + leW (ln w) (sg w) (k + 2))) (0))) hM.rb hl (by decide) (by omega) (by intro j hj; rcases (show j = 0 ∨ j = 1 ∨ j = 2 by omega) with rfl | rfl | rfl <;> (simp only [e3]; omega)) shp
            have e1 : (e3 (k + 2) (k + 2 + leW (ln w) (sg w) (k + 2)) (k + 2 + leW (ln w) (sg w) (k + 2) + leW (ln w) (sg w) (k + 2 + leW (ln w) (sg w) (k + 2)))) 2 - k = leW (ln w) (sg w) (k) := by simp only [e3]; rw [leW_ea hi hc2, if_pos hc183]; omega
            have e2 : 1 + dmx (e3 (deW (ln w) (sg w) (k + 2)) (deW (ln w) (sg w) (k + 2 + leW (ln w) (sg w) (k + 2))) (0)) 2 = deW (ln w) (sg w) (k) := by rw [deW_ea hi hc2]; by_cases hx : deW (ln w) (sg w) (k + 2) < deW (ln w) (sg w) (k + 2 + leW (ln w) (sg w) (k + 2)); { rw [if_pos ⟨hc183, hx⟩, dmx_2]; exact congrArg (1 + ·) (if_pos hx) }; { rw [if_neg (fun a => hx a.2), dmx_2]; exact congrArg (1 + ·) (if_neg hx) }
            refine ez_iconst (v := nI 2) (q := 187) dX2_readSigns_186 (by decide) rfl ?_
            refine ez_goto (q := 191) dX2_readSigns_187 (by decide) ?_
            refine cX0 (q := 194) dX2_readSigns_191 ck_X2_71 hM.2.1 (hcon) rfl ⟨by decide, rfl⟩ rfl rfl rfl (Nat.le_of_ble_eq_true rfl) rfl (fun g hW => ?_)
            have hM := hM.tr hW
            rw [e1, e2] at hM
            refine ez_goto (q := 206) dX2_readSigns_194 (by decide) ?_
            refine ez_iinc_2 (v := dI k) (q := 209) dX2_readSigns_206 (dI_dec k) (by decide) rfl rfl ?_
            refine ez_goto (q := 19) dX2_readSigns_209 (by decide) ?_
            first
            | exact E.fg (ih19 k (by omega) g _ _ _ hM (by omega) hgg.up (ht.upw hway _)) ⟨Or.inr (rfl), Or.inr (rfl), Or.inr (rfl), trivial⟩
            | exact E.fg (ih19 k (by omega) g _ _ _ hM (by omega) hgg.up (ht.upn hway)) ⟨Or.inr (rfl), Or.inr (rfl), Or.inr (rfl), trivial⟩
        · refine ez_lookup (q := 169) (off := 125) dX2_readSigns_44 (by decide) (by decide) (by decide) ?_
          have hway : wayB (sg w k) = false := decide_eq_false (by omega)
          have hs := (wf_w hwf hi).symm.trans hway
          have hc2 : sg w k = 69 ∨ sg w k = 65 := by omega
          obtain ⟨hk4, h2, h2s, h2u⟩ := wf_ea hwf hi hs hc2
          obtain ⟨b1, b2⟩ := wf_pt hwf h2 h2s
          have q0 := (ht (k + 2) (by omega) h2).2 ((wf_w hwf h2).trans h2s)
          have dq0 := deW_l (ln w) (sg w) (k + 2)
          refine ez_aload_n (q := 170) 0 dX2_readSigns_169 rfl rfl rfl ?_
          refine ez_iload_n (q := 171) 2 dX2_readSigns_170 rfl rfl rfl ?_
          refine ez_iload_n (q := 172) 2 dX2_readSigns_171 rfl rfl rfl ?_
          refine ez_iconst (v := nI 2) (q := 173) dX2_readSigns_172 (by decide) rfl ?_
          refine ez_iadd (q := 174) dX2_readSigns_173 rfl ?_
          refine ez_aload_n (q := 175) 0 dX2_readSigns_174 rfl rfl rfl ?_
          refine ez_iload_n (q := 176) 2 dX2_readSigns_175 rfl rfl rfl ?_
          refine ez_iconst (v := nI 1) (q := 177) dX2_readSigns_176 (by decide) rfl ?_
          refine ez_iadd (q := 178) dX2_readSigns_177 rfl ?_
          refine cPv (q := 181) dX2_readSigns_178 ck_X2_75 hM.2.1 (t_X2_signAt (c := sg w (k + 1)) hM.rb hl (fun h9 => (up_ne _ _ (by omega)).trans (hgg (k + 1) (by omega) h9)) (wf_c hwf (by omega)) (by omega)) rfl ⟨by decide, rfl⟩ rfl rfl rfl (Nat.le_of_ble_eq_true rfl) rfl ?_
          rw [if_pos (show k + 1 < ln w by omega)]
          refine ez_bipush (v := nI 85) (q := 183) dX2_readSigns_181 (by decide) rfl ?_
          refine ez_icmpneN (q := 186) (tgt := 190) dX2_readSigns_183 (by decide) (by omega) (by decide) rfl (fun hc183 => ?_) (fun hc183 => ?_)
          · have shp : ∀ j, j < 1 → (e3 (k + 2) (k + 2 + leW (ln w) (sg w) (k + 2)) (0)) j < ln w ∧ me ((e3 (k + 2) (k + 2 + leW (ln w) (sg w) (k + 2)) (0)) j) = nI ((e3 (k + 2) (k + 2 + leW (ln w) (sg w) (k + 2)) (0)) (j + 1) - (e3 (k + 2) (k + 2 + leW (ln w) (sg w) (k + 2)) (0)) j) ∧ (e3 (k + 2) (k + 2 + leW (ln w) (sg w) (k + 2)) (0)) j ≤ (e3 (k + 2) (k + 2 + leW (ln w) (sg w) (k + 2)) (0)) (j + 1) ∧ md ((e3 (k + 2) (k + 2 + leW (ln w) (sg w) (k + 2)) (0)) j) = nI ((e3 (deW (ln w) (sg w) (k + 2)) (0) (0)) j) ∧ (e3 (deW (ln w) (sg w) (k + 2)) (0) (0)) j ≤ 40 := fun j hj => match j, hj with | 0, _ => ⟨by simp only [e3, Nat.zero_add, Nat.reduceAdd]; omega, q0.1.trans (congrArg nI (by simp only [e3, Nat.zero_add, Nat.reduceAdd]; omega)), by simp only [e3, Nat.zero_add, Nat.reduceAdd]; omega, q0.2, by simp only [e3, Nat.zero_add, Nat.reduceAdd]; omega⟩ | j + 1, h9 => absurd h9 (by omega)
            have hcon := t_X2_putShape (G := G) (d := d + 1) (n := n) (pl := k) (p := 1) (E9 := (e3 (k + 2) (k + 2 + leW (ln w) (sg w) (k + 2)) (0))) (F9 := (e3 (deW (ln w) (sg w) (k + 2)) (0) (0))) hM.rb hl (by decide) (by omega) (by intro j hj; rcases (show j = 0 ∨ j = 1 by omega) with rfl | rfl <;> (simp only [e3]; omega)) shp
            have e1 : (e3 (k + 2) (k + 2 + leW (ln w) (sg w) (k + 2)) (0)) 1 - k = leW (ln w) (sg w) (k) := by simp only [e3]; rw [leW_ea hi hc2, if_neg hc183]; omega
            have e2 : 1 + dmx (e3 (deW (ln w) (sg w) (k + 2)) (0) (0)) 1 = deW (ln w) (sg w) (k) := by rw [dmx_1, deW_ea hi hc2, if_neg (fun a => hc183 a.1)]; rfl
            refine ez_iconst (v := nI 1) (q := 191) dX2_readSigns_190 (by decide) rfl ?_
            refine cX0 (q := 194) dX2_readSigns_191 ck_X2_71 hM.2.1 (hcon) rfl ⟨by decide, rfl⟩ rfl rfl rfl (Nat.le_of_ble_eq_true rfl) rfl (fun g hW => ?_)
            have hM := hM.tr hW
            rw [e1, e2] at hM
            refine ez_goto (q := 206) dX2_readSigns_194 (by decide) ?_
            refine ez_iinc_2 (v := dI k) (q := 209) dX2_readSigns_206 (dI_dec k) (by decide) rfl rfl ?_
            refine ez_goto (q := 19) dX2_readSigns_209 (by decide) ?_
            first
            | exact E.fg (ih19 k (by omega) g _ _ _ hM (by omega) hgg.up (ht.upw hway _)) ⟨Or.inr (rfl), Or.inr (rfl), Or.inr (rfl), trivial⟩
            | exact E.fg (ih19 k (by omega) g _ _ _ hM (by omega) hgg.up (ht.upn hway)) ⟨Or.inr (rfl), Or.inr (rfl), Or.inr (rfl), trivial⟩
          · obtain ⟨h3, h3s⟩ := h2u hc183
            obtain ⟨b3, b4⟩ := wf_pt hwf h3 h3s
            have q1 := (ht (k + 2 + leW (ln w) (sg w) (k + 2)) (by omega) h3).2 ((wf_w hwf h3).trans h3s)
            have dq1 := deW_l (ln w) (sg w) (k + 2 + leW (ln w) (sg w) (k + 2))
            have shp : ∀ j, j < 2 → (e3 (k + 2) (k + 2 + leW (ln w) (sg w) (k + 2)) (k + 2 + leW (ln w) (sg w) (k + 2) + leW (ln w) (sg w) (k + 2 + leW (ln w) (sg w) (k + 2)))) j < ln w ∧ me ((e3 (k + 2) (k + 2 + leW (ln w) (sg w) (k + 2)) (k + 2 + leW (ln w) (sg w) (k + 2) + leW (ln w) (sg w) (k + 2 + leW (ln w) (sg w) (k + 2)))) j) = nI ((e3 (k + 2) (k + 2 + leW (ln w) (sg w) (k + 2)) (k + 2 + leW (ln w) (sg w) (k + 2) + leW (ln w) (sg w) (k + 2 + leW (ln w) (sg w) (k + 2)))) (j + 1) - (e3 (k + 2) (k + 2 + leW (ln w) (sg w) (k + 2)) (k + 2 + leW (ln w) (sg w) (k + 2) + leW (ln w) (sg w) (k + 2 + leW (ln w) (sg w) (k + 2)))) j) ∧ (e3 (k + 2) (k + 2 + leW (ln w) (sg w) (k + 2)) (k + 2 + leW (ln w) (sg w) (k + 2) + leW (ln w) (sg w) (k + 2 + leW (ln w) (sg w) (k + 2)))) j ≤ (e3 (k + 2) (k + 2 + leW (ln w) (sg w) (k + 2)) (k + 2 + leW (ln w) (sg w) (k + 2) + leW (ln w) (sg w) (k + 2 + leW (ln w) (sg w) (k + 2)))) (j + 1) ∧ md ((e3 (k + 2) (k + 2 + leW (ln w) (sg w) (k + 2)) (k + 2 + leW (ln w) (sg w) (k + 2) + leW (ln w) (sg w) (k + 2 + leW (ln w) (sg w) (k + 2)))) j) = nI ((e3 (deW (ln w) (sg w) (k + 2)) (deW (ln w) (sg w) (k + 2 + leW (ln w) (sg w) (k + 2))) (0)) j) ∧ (e3 (deW (ln w) (sg w) (k + 2)) (deW (ln w) (sg w) (k + 2 + leW (ln w) (sg w) (k + 2))) (0)) j ≤ 40 := fun j hj => match j, hj with | 0, _ => ⟨by simp only [e3, Nat.zero_add, Nat.reduceAdd]; omega, q0.1.trans (congrArg nI (by simp only [e3, Nat.zero_add, Nat.reduceAdd]; omega)), by simp only [e3, Nat.zero_add, Nat.reduceAdd]; omega, q0.2, by simp only [e3, Nat.zero_add, Nat.reduceAdd]; omega⟩ | 1, _ => ⟨by simp only [e3, Nat.zero_add, Nat.reduceAdd]; omega, q1.1.trans (congrArg nI (by simp only [e3, Nat.zero_add, Nat.reduceAdd]; omega)), by simp only [e3, Nat.zero_add, Nat.reduceAdd]; omega, q1.2, by simp only [e3, Nat.zero_add, Nat.reduceAdd]; omega⟩ | j + 2, h9 => absurd h9 (by omega)
            have hcon := t_X2_putShape (G := G) (d := d + 1) (n := n) (pl := k) (p := 2) (E9 := (e3 (k + 2) (k + 2 + leW (ln w) (sg w) (k + 2)) (k + 2 + leW (ln w) (sg w) (k + 2) + leW (ln w) (sg w) (k + 2 + leW (ln w) (sg w) (k + 2))))) (F9 := (e3 (deW (ln w) (sg w) (k + 2)) (deW (ln w) (sg w) (k + 2 + leW (ln w) (sg w) (k + 2))) (0))) hM.rb hl (by decide) (by omega) (by intro j hj; rcases (show j = 0 ∨ j = 1 ∨ j = 2 by omega) with rfl | rfl | rfl <;> (simp only [e3]; omega)) shp
            have e1 : (e3 (k + 2) (k + 2 + leW (ln w) (sg w) (k + 2)) (k + 2 + leW (ln w) (sg w) (k + 2) + leW (ln w) (sg w) (k + 2 + leW (ln w) (sg w) (k + 2)))) 2 - k = leW (ln w) (sg w) (k) := by simp only [e3]; rw [leW_ea hi hc2, if_pos hc183]; omega
            have e2 : 1 + dmx (e3 (deW (ln w) (sg w) (k + 2)) (deW (ln w) (sg w) (k + 2 + leW (ln w) (sg w) (k + 2))) (0)) 2 = deW (ln w) (sg w) (k) := by rw [deW_ea hi hc2]; by_cases hx : deW (ln w) (sg w) (k + 2) < deW (ln w) (sg w) (k + 2 + leW (ln w) (sg w) (k + 2)); { rw [if_pos ⟨hc183, hx⟩, dmx_2]; exact congrArg (1 + ·) (if_pos hx) }; { rw [if_neg (fun a => hx a.2), dmx_2]; exact congrArg (1 + ·) (if_neg hx) }
            refine ez_iconst (v := nI 2) (q := 187) dX2_readSigns_186 (by decide) rfl ?_
            refine ez_goto (q := 191) dX2_readSigns_187 (by decide) ?_
            refine cX0 (q := 194) dX2_readSigns_191 ck_X2_71 hM.2.1 (hcon) rfl ⟨by decide, rfl⟩ rfl rfl rfl (Nat.le_of_ble_eq_true rfl) rfl (fun g hW => ?_)
            have hM := hM.tr hW
            rw [e1, e2] at hM
            refine ez_goto (q := 206) dX2_readSigns_194 (by decide) ?_
            refine ez_iinc_2 (v := dI k) (q := 209) dX2_readSigns_206 (dI_dec k) (by decide) rfl rfl ?_
            refine ez_goto (q := 19) dX2_readSigns_209 (by decide) ?_
            first
            | exact E.fg (ih19 k (by omega) g _ _ _ hM (by omega) hgg.up (ht.upw hway _)) ⟨Or.inr (rfl), Or.inr (rfl), Or.inr (rfl), trivial⟩
            | exact E.fg (ih19 k (by omega) g _ _ _ hM (by omega) hgg.up (ht.upn hway)) ⟨Or.inr (rfl), Or.inr (rfl), Or.inr (rfl), trivial⟩
        · refine ez_lookup (q := 128) (off := 84) dX2_readSigns_44 (by decide) (by decide) (by decide) ?_
          have hway : wayB (sg w k) = true := decide_eq_true (by omega)
          refine ez_aload_n (q := 129) 0 dX2_readSigns_128 rfl rfl rfl ?_
          refine ez_getf (q := 132) dX2_readSigns_129 fl_X2_19 hM.2.1 rfl rfl ?_
          refine ez_iload_n (q := 133) 2 dX2_readSigns_132 rfl rfl rfl ?_
          refine ez_iconst (v := -1) (q := 134) dX2_readSigns_133 (by decide) rfl ?_
          refine sME_me (q := 135) dX2_readSigns_134 hM rfl (by omega) rfl (fun g hM => ?_)
          refine ez_aload_n (q := 136) 0 dX2_readSigns_135 rfl rfl rfl ?_
          refine ez_getf (q := 139) dX2_readSigns_136 fl_X2_23 hM.2.1 rfl rfl ?_
          refine ez_iload_n (q := 140) 2 dX2_readSigns_139 rfl rfl rfl ?_
          refine ez_iconst (v := nI 0) (q := 141) dX2_readSigns_140 (by decide) rfl ?_
          refine sME_md (q := 142) dX2_readSigns_141 hM rfl (by omega) rfl (fun g hM => ?_)
          refine ez_goto (q := 206) dX2_readSigns_142 (by decide) ?_
          refine ez_iinc_2 (v := dI k) (q := 209) dX2_readSigns_206 (dI_dec k) (by decide) rfl rfl ?_
          refine ez_goto (q := 19) dX2_readSigns_209 (by decide) ?_
          first
          | exact E.fg (ih19 k (by omega) g _ _ _ hM (by omega) hgg.up (ht.upw hway _)) ⟨Or.inr (rfl), Or.inr (rfl), Or.inr (rfl), trivial⟩
          | exact E.fg (ih19 k (by omega) g _ _ _ hM (by omega) hgg.up (ht.upn hway)) ⟨Or.inr (rfl), Or.inr (rfl), Or.inr (rfl), trivial⟩
        · refine ez_lookup (q := 128) (off := 84) dX2_readSigns_44 (by decide) (by decide) (by decide) ?_
          have hway : wayB (sg w k) = true := decide_eq_true (by omega)
          refine ez_aload_n (q := 129) 0 dX2_readSigns_128 rfl rfl rfl ?_
          refine ez_getf (q := 132) dX2_readSigns_129 fl_X2_19 hM.2.1 rfl rfl ?_
          refine ez_iload_n (q := 133) 2 dX2_readSigns_132 rfl rfl rfl ?_
          refine ez_iconst (v := -1) (q := 134) dX2_readSigns_133 (by decide) rfl ?_
          refine sME_me (q := 135) dX2_readSigns_134 hM rfl (by omega) rfl (fun g hM => ?_)
          refine ez_aload_n (q := 136) 0 dX2_readSigns_135 rfl rfl rfl ?_
          refine ez_getf (q := 139) dX2_readSigns_136 fl_X2_23 hM.2.1 rfl rfl ?_
          refine ez_iload_n (q := 140) 2 dX2_readSigns_139 rfl rfl rfl ?_
          refine ez_iconst (v := nI 0) (q := 141) dX2_readSigns_140 (by decide) rfl ?_
          refine sME_md (q := 142) dX2_readSigns_141 hM rfl (by omega) rfl (fun g hM => ?_)
          refine ez_goto (q := 206) dX2_readSigns_142 (by decide) ?_
          refine ez_iinc_2 (v := dI k) (q := 209) dX2_readSigns_206 (dI_dec k) (by decide) rfl rfl ?_
          refine ez_goto (q := 19) dX2_readSigns_209 (by decide) ?_
          first
          | exact E.fg (ih19 k (by omega) g _ _ _ hM (by omega) hgg.up (ht.upw hway _)) ⟨Or.inr (rfl), Or.inr (rfl), Or.inr (rfl), trivial⟩
          | exact E.fg (ih19 k (by omega) g _ _ _ hM (by omega) hgg.up (ht.upn hway)) ⟨Or.inr (rfl), Or.inr (rfl), Or.inr (rfl), trivial⟩
        · refine ez_lookup (q := 128) (off := 84) dX2_readSigns_44 (by decide) (by decide) (by decide) ?_
          have hway : wayB (sg w k) = true := decide_eq_true (by omega)
          refine ez_aload_n (q := 129) 0 dX2_readSigns_128 rfl rfl rfl ?_
          refine ez_getf (q := 132) dX2_readSigns_129 fl_X2_19 hM.2.1 rfl rfl ?_
          refine ez_iload_n (q := 133) 2 dX2_readSigns_132 rfl rfl rfl ?_
          refine ez_iconst (v := -1) (q := 134) dX2_readSigns_133 (by decide) rfl ?_
          refine sME_me (q := 135) dX2_readSigns_134 hM rfl (by omega) rfl (fun g hM => ?_)
          refine ez_aload_n (q := 136) 0 dX2_readSigns_135 rfl rfl rfl ?_
          refine ez_getf (q := 139) dX2_readSigns_136 fl_X2_23 hM.2.1 rfl rfl ?_
          refine ez_iload_n (q := 140) 2 dX2_readSigns_139 rfl rfl rfl ?_
          refine ez_iconst (v := nI 0) (q := 141) dX2_readSigns_140 (by decide) rfl ?_
          refine sME_md (q := 142) dX2_readSigns_141 hM rfl (by omega) rfl (fun g hM => ?_)
          refine ez_goto (q := 206) dX2_readSigns_142 (by decide) ?_
          refine ez_iinc_2 (v := dI k) (q := 209) dX2_readSigns_206 (dI_dec k) (by decide) rfl rfl ?_
          refine ez_goto (q := 19) dX2_readSigns_209 (by decide) ?_
          first
          | exact E.fg (ih19 k (by omega) g _ _ _ hM (by omega) hgg.up (ht.upw hway _)) ⟨Or.inr (rfl), Or.inr (rfl), Or.inr (rfl), trivial⟩
          | exact E.fg (ih19 k (by omega) g _ _ _ hM (by omega) hgg.up (ht.upn hway)) ⟨Or.inr (rfl), Or.inr (rfl), Or.inr (rfl), trivial⟩
        · refine ez_lookup (q := 128) (off := 84) dX2_readSigns_44 (by decide) (by decide) (by decide) ?_
          have hway : wayB (sg w k) = true := decide_eq_true (by omega)
          refine ez_aload_n (q := 129) 0 dX2_readSigns_128 rfl rfl rfl ?_
          refine ez_getf (q := 132) dX2_readSigns_129 fl_X2_19 hM.2.1 rfl rfl ?_
          refine ez_iload_n (q := 133) 2 dX2_readSigns_132 rfl rfl rfl ?_
          refine ez_iconst (v := -1) (q := 134) dX2_readSigns_133 (by decide) rfl ?_
          refine sME_me (q := 135) dX2_readSigns_134 hM rfl (by omega) rfl (fun g hM => ?_)
          refine ez_aload_n (q := 136) 0 dX2_readSigns_135 rfl rfl rfl ?_
          refine ez_getf (q := 139) dX2_readSigns_136 fl_X2_23 hM.2.1 rfl rfl ?_
          refine ez_iload_n (q := 140) 2 dX2_readSigns_139 rfl rfl rfl ?_
          refine ez_iconst (v := nI 0) (q := 141) dX2_readSigns_140 (by decide) rfl ?_
          refine sME_md (q := 142) dX2_readSigns_141 hM rfl (by omega) rfl (fun g hM => ?_)
          refine ez_goto (q := 206) dX2_readSigns_142 (by decide) ?_
          refine ez_iinc_2 (v := dI k) (q := 209) dX2_readSigns_206 (dI_dec k) (by decide) rfl rfl ?_
          refine ez_goto (q := 19) dX2_readSigns_209 (by decide) ?_
          first
          | exact E.fg (ih19 k (by omega) g _ _ _ hM (by omega) hgg.up (ht.upw hway _)) ⟨Or.inr (rfl), Or.inr (rfl), Or.inr (rfl), trivial⟩
          | exact E.fg (ih19 k (by omega) g _ _ _ hM (by omega) hgg.up (ht.upn hway)) ⟨Or.inr (rfl), Or.inr (rfl), Or.inr (rfl), trivial⟩
        · refine ez_lookup (q := 157) (off := 113) dX2_readSigns_44 (by decide) (by decide) (by decide) ?_
          have hway : wayB (sg w k) = false := decide_eq_false (by omega)
          have hs := (wf_w hwf hi).symm.trans hway
          have hc2 : sg w k = 38 ∨ sg w k = 124 := by omega
          obtain ⟨h1, h1s, h2, h2s⟩ := wf_two hwf hi hs hc2
          obtain ⟨b1, b2⟩ := wf_pt hwf h1 h1s
          obtain ⟨b3, b4⟩ := wf_pt hwf h2 h2s
          have q0 := (ht (k + 1) (by omega) h1).2 ((wf_w hwf h1).trans h1s)
          have dq0 := deW_l (ln w) (sg w) (k + 1)
          have q1 := (ht (k + 1 + leW (ln w) (sg w) (k + 1)) (by omega) h2).2 ((wf_w hwf h2).trans h2s)
          have dq1 := deW_l (ln w) (sg w) (k + 1 + leW (ln w) (sg w) (k + 1))
          refine ez_aload_n (q := 158) 0 dX2_readSigns_157 rfl rfl rfl ?_
          refine ez_iload_n (q := 159) 2 dX2_readSigns_158 rfl rfl rfl ?_
          refine ez_iload_n (q := 160) 2 dX2_readSigns_159 rfl rfl rfl ?_
          refine ez_iconst (v := nI 1) (q := 161) dX2_readSigns_160 (by decide) rfl ?_
          refine ez_iadd (q := 162) dX2_readSigns_161 rfl ?_
          refine ez_iconst (v := nI 2) (q := 163) dX2_readSigns_162 (by decide) rfl ?_
          have shp : ∀ j, j < 2 → (e3 (k + 1) (k + 1 + leW (ln w) (sg w) (k + 1)) (k + 1 + leW (ln w) (sg w) (k + 1) + leW (ln w) (sg w) (k + 1 + leW (ln w) (sg w) (k + 1)))) j < ln w ∧ me ((e3 (k + 1) (k + 1 + leW (ln w) (sg w) (k + 1)) (k + 1 + leW (ln w) (sg w) (k + 1) + leW (ln w) (sg w) (k + 1 + leW (ln w) (sg w) (k + 1)))) j) = nI ((e3 (k + 1) (k + 1 + leW (ln w) (sg w) (k + 1)) (k + 1 + leW (ln w) (sg w) (k + 1) + leW (ln w) (sg w) (k + 1 + leW (ln w) (sg w) (k + 1)))) (j + 1) - (e3 (k + 1) (k + 1 + leW (ln w) (sg w) (k + 1)) (k + 1 + leW (ln w) (sg w) (k + 1) + leW (ln w) (sg w) (k + 1 + leW (ln w) (sg w) (k + 1)))) j) ∧ (e3 (k + 1) (k + 1 + leW (ln w) (sg w) (k + 1)) (k + 1 + leW (ln w) (sg w) (k + 1) + leW (ln w) (sg w) (k + 1 + leW (ln w) (sg w) (k + 1)))) j ≤ (e3 (k + 1) (k + 1 + leW (ln w) (sg w) (k + 1)) (k + 1 + leW (ln w) (sg w) (k + 1) + leW (ln w) (sg w) (k + 1 + leW (ln w) (sg w) (k + 1)))) (j + 1) ∧ md ((e3 (k + 1) (k + 1 + leW (ln w) (sg w) (k + 1)) (k + 1 + leW (ln w) (sg w) (k + 1) + leW (ln w) (sg w) (k + 1 + leW (ln w) (sg w) (k + 1)))) j) = nI ((e3 (deW (ln w) (sg w) (k + 1)) (deW (ln w) (sg w) (k + 1 + leW (ln w) (sg w) (k + 1))) (0)) j) ∧ (e3 (deW (ln w) (sg w) (k + 1)) (deW (ln w) (sg w) (k + 1 + leW (ln w) (sg w) (k + 1))) (0)) j ≤ 40 := fun j hj => match j, hj with | 0, _ => ⟨by simp only [e3, Nat.zero_add, Nat.reduceAdd]; omega, q0.1.trans (congrArg nI (by simp only [e3, Nat.zero_add, Nat.reduceAdd]; omega)), by simp only [e3, Nat.zero_add, Nat.reduceAdd]; omega, q0.2, by simp only [e3, Nat.zero_add, Nat.reduceAdd]; omega⟩ | 1, _ => ⟨by simp only [e3, Nat.zero_add, Nat.reduceAdd]; omega, q1.1.trans (congrArg nI (by simp only [e3, Nat.zero_add, Nat.reduceAdd]; omega)), by simp only [e3, Nat.zero_add, Nat.reduceAdd]; omega, q1.2, by simp only [e3, Nat.zero_add, Nat.reduceAdd]; omega⟩ | j + 2, h9 => absurd h9 (by omega)
          refine cX0 (q := 166) dX2_readSigns_163 ck_X2_71 hM.2.1 (t_X2_putShape (p := 2) (E9 := (e3 (k + 1) (k + 1 + leW (ln w) (sg w) (k + 1)) (k + 1 + leW (ln w) (sg w) (k + 1) + leW (ln w) (sg w) (k + 1 + leW (ln w) (sg w) (k + 1))))) (F9 := (e3 (deW (ln w) (sg w) (k + 1)) (deW (ln w) (sg w) (k + 1 + leW (ln w) (sg w) (k + 1))) (0))) hM.rb hl (by decide) (by omega) (by intro j hj; rcases (show j = 0 ∨ j = 1 ∨ j = 2 by omega) with rfl | rfl | rfl <;> (simp only [e3]; omega)) shp) rfl ⟨by decide, rfl⟩ rfl rfl rfl (Nat.le_of_ble_eq_true rfl) rfl (fun g hW => ?_)
          have hM := hM.tr hW
          have e1 : (e3 (k + 1) (k + 1 + leW (ln w) (sg w) (k + 1)) (k + 1 + leW (ln w) (sg w) (k + 1) + leW (ln w) (sg w) (k + 1 + leW (ln w) (sg w) (k + 1)))) 2 - k = leW (ln w) (sg w) (k) := by simp only [e3]; rw [leW_two hi hc2]; omega
          have e2 : 1 + dmx (e3 (deW (ln w) (sg w) (k + 1)) (deW (ln w) (sg w) (k + 1 + leW (ln w) (sg w) (k + 1))) (0)) 2 = deW (ln w) (sg w) (k) := by rw [dmx_2, deW_two hi hc2]; rfl
          rw [e1, e2] at hM
          refine ez_goto (q := 206) dX2_readSigns_166 (by decide) ?_
          refine ez_iinc_2 (v := dI k) (q := 209) dX2_readSigns_206 (dI_dec k) (by decide) rfl rfl ?_
          refine ez_goto (q := 19) dX2_readSigns_209 (by decide) ?_
          first
          | exact E.fg (ih19 k (by omega) g _ _ _ hM (by omega) hgg.up (ht.upw hway _)) ⟨Or.inr (rfl), Or.inr (rfl), Or.inr (rfl), trivial⟩
          | exact E.fg (ih19 k (by omega) g _ _ _ hM (by omega) hgg.up (ht.upn hway)) ⟨Or.inr (rfl), Or.inr (rfl), Or.inr (rfl), trivial⟩
        · refine ez_lookup (q := 197) (off := 153) dX2_readSigns_44 (by decide) (show _ = ((153) : Int) from (show ∀ c, c < 128 → (¬ c = 33 ∧ ¬ c = 38 ∧ ¬ c = 65 ∧ ¬ c = 69 ∧ ¬ c = 70 ∧ ¬ c = 71 ∧ ¬ c = 85 ∧ ¬ c = 88 ∧ ¬ c = 124) → Op.lookupswitch.offset (#[(33, 101), (38, 113), (65, 125), (69, 125), (70, 84), (71, 84), (85, 84), (88, 84), (124, 113)] : Array (Int × Int)).toList 153 (nI c).toInt = 153 from by decide +kernel) c hc128 hno) (by decide) ?_
          have hway : wayB (sg w k) = false := decide_eq_false (by omega)
          have hs := (wf_w hwf hi).symm.trans hway
          have hc1 : (97 ≤ sg w k ∧ sg w k ≤ 100) ∨ sg w k = 116 := by rcases (wf_one hwf hi hs).2 with ⟨a, _⟩ | ⟨a, _⟩ | ⟨a, _⟩ | ⟨a, _⟩ <;> omega
          refine ez_aload_n (q := 198) 0 dX2_readSigns_197 rfl rfl rfl ?_
          refine ez_iload_n (q := 199) 2 dX2_readSigns_198 rfl rfl rfl ?_
          refine ez_iload_n (q := 200) 2 dX2_readSigns_199 rfl rfl rfl ?_
          refine ez_iconst (v := nI 1) (q := 201) dX2_readSigns_200 (by decide) rfl ?_
          refine ez_iadd (q := 202) dX2_readSigns_201 rfl ?_
          refine ez_iconst (v := nI 0) (q := 203) dX2_readSigns_202 (by decide) rfl ?_
          have shp : ∀ j, j < 0 → (e3 (k + 1) (0) (0)) j < ln w ∧ me ((e3 (k + 1) (0) (0)) j) = nI ((e3 (k + 1) (0) (0)) (j + 1) - (e3 (k + 1) (0) (0)) j) ∧ (e3 (k + 1) (0) (0)) j ≤ (e3 (k + 1) (0) (0)) (j + 1) ∧ md ((e3 (k + 1) (0) (0)) j) = nI ((e3 (0) (0) (0)) j) ∧ (e3 (0) (0) (0)) j ≤ 40 := fun j hj => absurd hj (by omega)
          refine cX0 (q := 206) dX2_readSigns_203 ck_X2_71 hM.2.1 (t_X2_putShape (p := 0) (E9 := (e3 (k + 1) (0) (0))) (F9 := (e3 (0) (0) (0))) hM.rb hl (by decide) (by omega) (by intro j hj; rcases (show j = 0 by omega) with rfl <;> (simp only [e3]; omega)) shp) rfl ⟨by decide, rfl⟩ rfl rfl rfl (Nat.le_of_ble_eq_true rfl) rfl (fun g hW => ?_)
          have hM := hM.tr hW
          have e1 : (e3 (k + 1) (0) (0)) 0 - k = leW (ln w) (sg w) (k) := by simp only [e3]; rw [leW_1 hi hc1]; omega
          have e2 : 1 + dmx (e3 (0) (0) (0)) 0 = deW (ln w) (sg w) (k) := by rw [deW_1 hi hc1]; rfl
          rw [e1, e2] at hM
          refine ez_iinc_2 (v := dI k) (q := 209) dX2_readSigns_206 (dI_dec k) (by decide) rfl rfl ?_
          refine ez_goto (q := 19) dX2_readSigns_209 (by decide) ?_
          first
          | exact E.fg (ih19 k (by omega) g _ _ _ hM (by omega) hgg.up (ht.upw hway _)) ⟨Or.inr (rfl), Or.inr (rfl), Or.inr (rfl), trivial⟩
          | exact E.fg (ih19 k (by omega) g _ _ _ hM (by omega) hgg.up (ht.upn hway)) ⟨Or.inr (rfl), Or.inr (rfl), Or.inr (rfl), trivial⟩
  · change E G mX2_readSigns _ _ _ _ _ _ 19 [some (.ref im), some (.int (nI w)), some (.int (nI k))] []
    have hi : k < ln w := hk
    obtain ⟨sc, hwf⟩ := hs w hw (by omega)
    refine ez_iload_n (q := 20) 2 dX2_readSigns_19 rfl rfl rfl ?_
    refine ez_ifltN (q := 23) (tgt := 212) dX2_readSigns_20 (by decide) (by omega) rfl ?_
    refine ez_aload_n (q := 24) 0 dX2_readSigns_23 rfl rfl rfl ?_
    refine ez_getf (q := 27) dX2_readSigns_24 fl_X2_15 hM.2.1 rfl rfl ?_
    refine ez_iload_n (q := 28) 2 dX2_readSigns_27 rfl rfl rfl ?_
    refine ez_aload_n (q := 29) 0 dX2_readSigns_28 rfl rfl rfl ?_
    refine ez_getf (q := 32) dX2_readSigns_29 fl_X2_32 hM.2.1 rfl rfl ?_
    refine ez_iload_n (q := 33) 1 dX2_readSigns_32 rfl rfl rfl ?_
    refine ez_iload_n (q := 34) 2 dX2_readSigns_33 rfl rfl rfl ?_
    refine cPv (q := 37) dX2_readSigns_34 ck_X2_67 (hS.to (fun j a b => hM.fr j (by omega))).ob (r_X3_signAt (hS.to (fun j a b => hM.fr j (by omega))) ho hw (by omega)) rfl ⟨by decide, rfl⟩ rfl rfl rfl (Nat.le_of_ble_eq_true rfl) rfl ?_
    rw [show sgA ln sg w k = sg w k from if_pos hi]
    refine sME_mg (q := 38) dX2_readSigns_37 hM rfl (by omega) rfl (by have := hl2 k hi; omega) rfl (fun g hM => ?_)
    refine ez_aload_n (q := 39) 0 dX2_readSigns_38 rfl rfl rfl ?_
    refine ez_getf (q := 42) dX2_readSigns_39 fl_X2_15 hM.2.1 rfl rfl ?_
    refine ez_iload_n (q := 43) 2 dX2_readSigns_42 rfl rfl rfl ?_
    refine ez_cald (q := 44) dX2_readSigns_43 hM.2.2.1 rfl (by omega) (by decide) rfl ?_
    refine ez_top (up_eq _ _ _) ?_
    obtain ⟨c, hcs⟩ : ∃ c, sg w k = c := ⟨_, rfl⟩
    rw [hcs]
    have hc128 : c < 128 := by rw [← hcs]; exact wf_c hwf hi
    rcases (show c = 33 ∨ c = 38 ∨ c = 65 ∨ c = 69 ∨ c = 70 ∨ c = 71 ∨ c = 85 ∨ c = 88 ∨ c = 124 ∨ (¬ c = 33 ∧ ¬ c = 38 ∧ ¬ c = 65 ∧ ¬ c = 69 ∧ ¬ c = 70 ∧ ¬ c = 71 ∧ ¬ c = 85 ∧ ¬ c = 88 ∧ ¬ c = 124) by omega) with rfl | rfl | rfl | rfl | rfl | rfl | rfl | rfl | rfl | hno
    · refine ez_lookup (q := 145) (off := 101) dX2_readSigns_44 (by decide) (by decide) (by decide) ?_
      have hway : wayB (sg w k) = false := decide_eq_false (by omega)
      have hs := (wf_w hwf hi).symm.trans hway
      obtain ⟨h1, h1s⟩ := wf_not hwf hi hs hcs
      obtain ⟨b1, b2⟩ := wf_pt hwf h1 h1s
      have q0 := (ht (k + 1) (by omega) h1).2 ((wf_w hwf h1).trans h1s)
      have dq0 := deW_l (ln w) (sg w) (k + 1)
      refine ez_aload_n (q := 146) 0 dX2_readSigns_145 rfl rfl rfl ?_
      refine ez_iload_n (q := 147) 2 dX2_readSigns_146 rfl rfl rfl ?_
      refine ez_iload_n (q := 148) 2 dX2_readSigns_147 rfl rfl rfl ?_
      refine ez_iconst (v := nI 1) (q := 149) dX2_readSigns_148 (by decide) rfl ?_
      refine ez_iaddN (q := 150) dX2_readSigns_149 rfl ?_
      refine ez_iconst (v := nI 1) (q := 151) dX2_readSigns_150 (by decide) rfl ?_
      have shp : ∀ j, j < 1 → (e3 (k + 1) (k + 1 + leW (ln w) (sg w) (k + 1)) (0)) j < ln w ∧ me ((e3 (k + 1) (k + 1 + leW (ln w) (sg w) (k + 1)) (0)) j) = nI ((e3 (k + 1) (k + 1 + leW (ln w) (sg w) (k + 1)) (0)) (j + 1) - (e3 (k + 1) (k + 1 + leW (ln w) (sg w) (k + 1)) (0)) j) ∧ (e3 (k + 1) (k + 1 + leW (ln w) (sg w) (k + 1)) (0)) j ≤ (e3 (k + 1) (k + 1 + leW (ln w) (sg w) (k + 1)) (0)) (j + 1) ∧ md ((e3 (k + 1) (k + 1 + leW (ln w) (sg w) (k + 1)) (0)) j) = nI ((e3 (deW (ln w) (sg w) (k + 1)) (0) (0)) j) ∧ (e3 (deW (ln w) (sg w) (k + 1)) (0) (0)) j ≤ 40 := fun j hj => match j, hj with | 0, _ => ⟨by simp only [e3, Nat.zero_add, Nat.reduceAdd]; omega, q0.1.trans (congrArg nI (by simp only [e3, Nat.zero_add, Nat.reduceAdd]; omega)), by simp only [e3, Nat.zero_add, Nat.reduceAdd]; omega, q0.2, by simp only [e3, Nat.zero_add, Nat.reduceAdd]; omega⟩ | j + 1, h9 => absurd h9 (by omega)
      refine cX0 (q := 154) dX2_readSigns_151 ck_X2_71 hM.2.1 (t_X2_putShape (p := 1) (E9 := (e3 (k + 1) (k + 1 + leW (ln w) (sg w) (k + 1)) (0))) (F9 := (e3 (deW (ln w) (sg w) (k + 1)) (0) (0))) hM.rb hl (by decide) (by omega) (by intro j hj; rcases (show j = 0 ∨ j = 1 by omega) with rfl | rfl <;> (simp only [e3]; omega)) shp) rfl ⟨by decide, rfl⟩ rfl rfl rfl (Nat.le_of_ble_eq_true rfl) rfl (fun g hW => ?_)
      have hM := hM.tr hW
      have e1 : (e3 (k + 1) (k + 1 + leW (ln w) (sg w) (k + 1)) (0)) 1 - k = leW (ln w) (sg w) (k) := by simp only [e3]; rw [leW_not hi hcs]; omega
      have e2 : 1 + dmx (e3 (deW (ln w) (sg w) (k + 1)) (0) (0)) 1 = deW (ln w) (sg w) (k) := by rw [dmx_1, deW_not hi hcs]; rfl
      rw [e1, e2] at hM
      refine ez_goto (q := 206) dX2_readSigns_154 (by decide) ?_
      refine ez_iinc_2 (v := dI k) (q := 209) dX2_readSigns_206 (dI_dec k) (by decide) rfl rfl ?_
      refine ez_goto (q := 19) dX2_readSigns_209 (by decide) ?_
      first
      | exact E.fg (ih19 k (by omega) g _ _ _ hM (by omega) hgg.up (ht.upw hway _)) ⟨Or.inr (rfl), Or.inr (rfl), Or.inr (rfl), trivial⟩
      | exact E.fg (ih19 k (by omega) g _ _ _ hM (by omega) hgg.up (ht.upn hway)) ⟨Or.inr (rfl), Or.inr (rfl), Or.inr (rfl), trivial⟩
    · refine ez_lookup (q := 157) (off := 113) dX2_readSigns_44 (by decide) (by decide) (by decide) ?_
      have hway : wayB (sg w k) = false := decide_eq_false (by omega)
      have hs := (wf_w hwf hi).symm.trans hway
      have hc2 : sg w k = 38 ∨ sg w k = 124 := by omega
      obtain ⟨h1, h1s, h2, h2s⟩ := wf_two hwf hi hs hc2
      obtain ⟨b1, b2⟩ := wf_pt hwf h1 h1s
      obtain ⟨b3, b4⟩ := wf_pt hwf h2 h2s
      have q0 := (ht (k + 1) (by omega) h1).2 ((wf_w hwf h1).trans h1s)
      have dq0 := deW_l (ln w) (sg w) (k + 1)
      have q1 := (ht (k + 1 + leW (ln w) (sg w) (k + 1)) (by omega) h2).2 ((wf_w hwf h2).trans h2s)
      have dq1 := deW_l (ln w) (sg w) (k + 1 + leW (ln w) (sg w) (k + 1))
      refine ez_aload_n (q := 158) 0 dX2_readSigns_157 rfl rfl rfl ?_
      refine ez_iload_n (q := 159) 2 dX2_readSigns_158 rfl rfl rfl ?_
      refine ez_iload_n (q := 160) 2 dX2_readSigns_159 rfl rfl rfl ?_
      refine ez_iconst (v := nI 1) (q := 161) dX2_readSigns_160 (by decide) rfl ?_
      refine ez_iaddN (q := 162) dX2_readSigns_161 rfl ?_
      refine ez_iconst (v := nI 2) (q := 163) dX2_readSigns_162 (by decide) rfl ?_
      have shp : ∀ j, j < 2 → (e3 (k + 1) (k + 1 + leW (ln w) (sg w) (k + 1)) (k + 1 + leW (ln w) (sg w) (k + 1) + leW (ln w) (sg w) (k + 1 + leW (ln w) (sg w) (k + 1)))) j < ln w ∧ me ((e3 (k + 1) (k + 1 + leW (ln w) (sg w) (k + 1)) (k + 1 + leW (ln w) (sg w) (k + 1) + leW (ln w) (sg w) (k + 1 + leW (ln w) (sg w) (k + 1)))) j) = nI ((e3 (k + 1) (k + 1 + leW (ln w) (sg w) (k + 1)) (k + 1 + leW (ln w) (sg w) (k + 1) + leW (ln w) (sg w) (k + 1 + leW (ln w) (sg w) (k + 1)))) (j + 1) - (e3 (k + 1) (k + 1 + leW (ln w) (sg w) (k + 1)) (k + 1 + leW (ln w) (sg w) (k + 1) + leW (ln w) (sg w) (k + 1 + leW (ln w) (sg w) (k + 1)))) j) ∧ (e3 (k + 1) (k + 1 + leW (ln w) (sg w) (k + 1)) (k + 1 + leW (ln w) (sg w) (k + 1) + leW (ln w) (sg w) (k + 1 + leW (ln w) (sg w) (k + 1)))) j ≤ (e3 (k + 1) (k + 1 + leW (ln w) (sg w) (k + 1)) (k + 1 + leW (ln w) (sg w) (k + 1) + leW (ln w) (sg w) (k + 1 + leW (ln w) (sg w) (k + 1)))) (j + 1) ∧ md ((e3 (k + 1) (k + 1 + leW (ln w) (sg w) (k + 1)) (k + 1 + leW (ln w) (sg w) (k + 1) + leW (ln w) (sg w) (k + 1 + leW (ln w) (sg w) (k + 1)))) j) = nI ((e3 (deW (ln w) (sg w) (k + 1)) (deW (ln w) (sg w) (k + 1 + leW (ln w) (sg w) (k + 1))) (0)) j) ∧ (e3 (deW (ln w) (sg w) (k + 1)) (deW (ln w) (sg w) (k + 1 + leW (ln w) (sg w) (k + 1))) (0)) j ≤ 40 := fun j hj => match j, hj with | 0, _ => ⟨by simp only [e3, Nat.zero_add, Nat.reduceAdd]; omega, q0.1.trans (congrArg nI (by simp only [e3, Nat.zero_add, Nat.reduceAdd]; omega)), by simp only [e3, Nat.zero_add, Nat.reduceAdd]; omega, q0.2, by simp only [e3, Nat.zero_add, Nat.reduceAdd]; omega⟩ | 1, _ => ⟨by simp only [e3, Nat.zero_add, Nat.reduceAdd]; omega, q1.1.trans (congrArg nI (by simp only [e3, Nat.zero_add, Nat.reduceAdd]; omega)), by simp only [e3, Nat.zero_add, Nat.reduceAdd]; omega, q1.2, by simp only [e3, Nat.zero_add, Nat.reduceAdd]; omega⟩ | j + 2, h9 => absurd h9 (by omega)
      refine cX0 (q := 166) dX2_readSigns_163 ck_X2_71 hM.2.1 (t_X2_putShape (p := 2) (E9 := (e3 (k + 1) (k + 1 + leW (ln w) (sg w) (k + 1)) (k + 1 + leW (ln w) (sg w) (k + 1) + leW (ln w) (sg w) (k + 1 + leW (ln w) (sg w) (k + 1))))) (F9 := (e3 (deW (ln w) (sg w) (k + 1)) (deW (ln w) (sg w) (k + 1 + leW (ln w) (sg w) (k + 1))) (0))) hM.rb hl (by decide) (by omega) (by intro j hj; rcases (show j = 0 ∨ j = 1 ∨ j = 2 by omega) with rfl | rfl | rfl <;> (simp only [e3]; omega)) shp) rfl ⟨by decide, rfl⟩ rfl rfl rfl (Nat.le_of_ble_eq_true rfl) rfl (fun g hW => ?_)
      have hM := hM.tr hW
      have e1 : (e3 (k + 1) (k + 1 + leW (ln w) (sg w) (k + 1)) (k + 1 + leW (ln w) (sg w) (k + 1) + leW (ln w) (sg w) (k + 1 + leW (ln w) (sg w) (k + 1)))) 2 - k = leW (ln w) (sg w) (k) := by simp only [e3]; rw [leW_two hi hc2]; omega
      have e2 : 1 + dmx (e3 (deW (ln w) (sg w) (k + 1)) (deW (ln w) (sg w) (k + 1 + leW (ln w) (sg w) (k + 1))) (0)) 2 = deW (ln w) (sg w) (k) := by rw [dmx_2, deW_two hi hc2]; rfl
      rw [e1, e2] at hM
      refine ez_goto (q := 206) dX2_readSigns_166 (by decide) ?_
      refine ez_iinc_2 (v := dI k) (q := 209) dX2_readSigns_206 (dI_dec k) (by decide) rfl rfl ?_
      refine ez_goto (q := 19) dX2_readSigns_209 (by decide) ?_
      first
      | exact E.fg (ih19 k (by omega) g _ _ _ hM (by omega) hgg.up (ht.upw hway _)) ⟨Or.inr (rfl), Or.inr (rfl), Or.inr (rfl), trivial⟩
      | exact E.fg (ih19 k (by omega) g _ _ _ hM (by omega) hgg.up (ht.upn hway)) ⟨Or.inr (rfl), Or.inr (rfl), Or.inr (rfl), trivial⟩
    · refine ez_lookup (q := 169) (off := 125) dX2_readSigns_44 (by decide) (by decide) (by decide) ?_
      have hway : wayB (sg w k) = false := decide_eq_false (by omega)
      have hs := (wf_w hwf hi).symm.trans hway
      have hc2 : sg w k = 69 ∨ sg w k = 65 := by omega
      obtain ⟨hk4, h2, h2s, h2u⟩ := wf_ea hwf hi hs hc2
      obtain ⟨b1, b2⟩ := wf_pt hwf h2 h2s
      have q0 := (ht (k + 2) (by omega) h2).2 ((wf_w hwf h2).trans h2s)
      have dq0 := deW_l (ln w) (sg w) (k + 2)
      refine ez_aload_n (q := 170) 0 dX2_readSigns_169 rfl rfl rfl ?_
      refine ez_iload_n (q := 171) 2 dX2_readSigns_170 rfl rfl rfl ?_
      refine ez_iload_n (q := 172) 2 dX2_readSigns_171 rfl rfl rfl ?_
      refine ez_iconst (v := nI 2) (q := 173) dX2_readSigns_172 (by decide) rfl ?_
      refine ez_iaddN (q := 174) dX2_readSigns_173 rfl ?_
      refine ez_aload_n (q := 175) 0 dX2_readSigns_174 rfl rfl rfl ?_
      refine ez_iload_n (q := 176) 2 dX2_readSigns_175 rfl rfl rfl ?_
      refine ez_iconst (v := nI 1) (q := 177) dX2_readSigns_176 (by decide) rfl ?_
      refine ez_iaddN (q := 178) dX2_readSigns_177 rfl ?_
      refine cPv (q := 181) dX2_readSigns_178 ck_X2_75 hM.2.1 (t_X2_signAt (c := sg w (k + 1)) hM.rb hl (fun h9 => (up_ne _ _ (by omega)).trans (hgg (k + 1) (by omega) h9)) (wf_c hwf (by omega)) (by omega)) rfl ⟨by decide, rfl⟩ rfl rfl rfl (Nat.le_of_ble_eq_true rfl) rfl ?_
      rw [if_pos (show k + 1 < ln w by omega)]
      refine ez_bipush (v := nI 85) (q := 183) dX2_readSigns_181 (by decide) rfl ?_
      refine ez_icmpneN (q := 186) (tgt := 190) dX2_readSigns_183 (by decide) (by omega) (by decide) rfl (fun hc183 => ?_) (fun hc183 => ?_)
      · have shp : ∀ j, j < 1 → (e3 (k + 2) (k + 2 + leW (ln w) (sg w) (k + 2)) (0)) j < ln w ∧ me ((e3 (k + 2) (k + 2 + leW (ln w) (sg w) (k + 2)) (0)) j) = nI ((e3 (k + 2) (k + 2 + leW (ln w) (sg w) (k + 2)) (0)) (j + 1) - (e3 (k + 2) (k + 2 + leW (ln w) (sg w) (k + 2)) (0)) j) ∧ (e3 (k + 2) (k + 2 + leW (ln w) (sg w) (k + 2)) (0)) j ≤ (e3 (k + 2) (k + 2 + leW (ln w) (sg w) (k + 2)) (0)) (j + 1) ∧ md ((e3 (k + 2) (k + 2 + leW (ln w) (sg w) (k + 2)) (0)) j) = nI ((e3 (deW (ln w) (sg w) (k + 2)) (0) (0)) j) ∧ (e3 (deW (ln w) (sg w) (k + 2)) (0) (0)) j ≤ 40 := fun j hj => match j, hj with | 0, _ => ⟨by simp only [e3, Nat.zero_add, Nat.reduceAdd]; omega, q0.1.trans (congrArg nI (by simp only [e3, Nat.zero_add, Nat.reduceAdd]; omega)), by simp only [e3, Nat.zero_add, Nat.reduceAdd]; omega, q0.2, by simp only [e3, Nat.zero_add, Nat.reduceAdd]; omega⟩ | j + 1, h9 => absurd h9 (by omega)
        have hcon := t_X2_putShape (G := G) (d := d + 1) (n := n) (pl := k) (p := 1) (E9 := (e3 (k + 2) (k + 2 + leW (ln w) (sg w) (k + 2)) (0))) (F9 := (e3 (deW (ln w) (sg w) (k + 2)) (0) (0))) hM.rb hl (by decide) (by omega) (by intro j hj; rcases (show j = 0 ∨ j = 1 by omega) with rfl | rfl <;> (simp only [e3]; omega)) shp
        have e1 : (e3 (k + 2) (k + 2 + leW (ln w) (sg w) (k + 2)) (0)) 1 - k = leW (ln w) (sg w) (k) := by simp only [e3]; rw [leW_ea hi hc2, if_neg hc183]; omega
        have e2 : 1 + dmx (e3 (deW (ln w) (sg w) (k + 2)) (0) (0)) 1 = deW (ln w) (sg w) (k) := by rw [dmx_1, deW_ea hi hc2, if_neg (fun a => hc183 a.1)]; rfl
        refine ez_iconst (v := nI 1) (q := 191) dX2_readSigns_190 (by decide) rfl ?_
        refine cX0 (q := 194) dX2_readSigns_191 ck_X2_71 hM.2.1 (hcon) rfl ⟨by decide, rfl⟩ rfl rfl rfl (Nat.le_of_ble_eq_true rfl) rfl (fun g hW => ?_)
        have hM := hM.tr hW
        rw [e1, e2] at hM
        refine ez_goto (q := 206) dX2_readSigns_194 (by decide) ?_
        refine ez_iinc_2 (v := dI k) (q := 209) dX2_readSigns_206 (dI_dec k) (by decide) rfl rfl ?_
        refine ez_goto (q := 19) dX2_readSigns_209 (by decide) ?_
        first
        | exact E.fg (ih19 k (by omega) g _ _ _ hM (by omega) hgg.up (ht.upw hway _)) ⟨Or.inr (rfl), Or.inr (rfl), Or.inr (rfl), trivial⟩
        | exact E.fg (ih19 k (by omega) g _ _ _ hM (by omega) hgg.up (ht.upn hway)) ⟨Or.inr (rfl), Or.inr (rfl), Or.inr (rfl), trivial⟩
      · obtain ⟨h3, h3s⟩ := h2u hc183
        obtain ⟨b3, b4⟩ := wf_pt hwf h3 h3s
        have q1 := (ht (k + 2 + leW (ln w) (sg w) (k + 2)) (by omega) h3).2 ((wf_w hwf h3).trans h3s)
        have dq1 := deW_l (ln w) (sg w) (k + 2 + leW (ln w) (sg w) (k + 2))
        have shp : ∀ j, j < 2 → (e3 (k + 2) (k + 2 + leW (ln w) (sg w) (k + 2)) (k + 2 + leW (ln w) (sg w) (k + 2) + leW (ln w) (sg w) (k + 2 + leW (ln w) (sg w) (k + 2)))) j < ln w ∧ me ((e3 (k + 2) (k + 2 + leW (ln w) (sg w) (k + 2)) (k + 2 + leW (ln w) (sg w) (k + 2) + leW (ln w) (sg w) (k + 2 + leW (ln w) (sg w) (k + 2)))) j) = nI ((e3 (k + 2) (k + 2 + leW (ln w) (sg w) (k + 2)) (k + 2 + leW (ln w) (sg w) (k + 2) + leW (ln w) (sg w) (k + 2 + leW (ln w) (sg w) (k + 2)))) (j + 1) - (e3 (k + 2) (k + 2 + leW (ln w) (sg w) (k + 2)) (k + 2 + leW (ln w) (sg w) (k + 2) + leW (ln w) (sg w) (k + 2 + leW (ln w) (sg w) (k + 2)))) j) ∧ (e3 (k + 2) (k + 2 + leW (ln w) (sg w) (k + 2)) (k + 2 + leW (ln w) (sg w) (k + 2) + leW (ln w) (sg w) (k + 2 + leW (ln w) (sg w) (k + 2)))) j ≤ (e3 (k + 2) (k + 2 + leW (ln w) (sg w) (k + 2)) (k + 2 + leW (ln w) (sg w) (k + 2) + leW (ln w) (sg w) (k + 2 + leW (ln w) (sg w) (k + 2)))) (j + 1) ∧ md ((e3 (k + 2) (k + 2 + leW (ln w) (sg w) (k + 2)) (k + 2 + leW (ln w) (sg w) (k + 2) + leW (ln w) (sg w) (k + 2 + leW (ln w) (sg w) (k + 2)))) j) = nI ((e3 (deW (ln w) (sg w) (k + 2)) (deW (ln w) (sg w) (k + 2 + leW (ln w) (sg w) (k + 2))) (0)) j) ∧ (e3 (deW (ln w) (sg w) (k + 2)) (deW (ln w) (sg w) (k + 2 + leW (ln w) (sg w) (k + 2))) (0)) j ≤ 40 := fun j hj => match j, hj with | 0, _ => ⟨by simp only [e3, Nat.zero_add, Nat.reduceAdd]; omega, q0.1.trans (congrArg nI (by simp only [e3, Nat.zero_add, Nat.reduceAdd]; omega)), by simp only [e3, Nat.zero_add, Nat.reduceAdd]; omega, q0.2, by simp only [e3, Nat.zero_add, Nat.reduceAdd]; omega⟩ | 1, _ => ⟨by simp only [e3, Nat.zero_add, Nat.reduceAdd]; omega, q1.1.trans (congrArg nI (by simp only [e3, Nat.zero_add, Nat.reduceAdd]; omega)), by simp only [e3, Nat.zero_add, Nat.reduceAdd]; omega, q1.2, by simp only [e3, Nat.zero_add, Nat.reduceAdd]; omega⟩ | j + 2, h9 => absurd h9 (by omega)
        have hcon := t_X2_putShape (G := G) (d := d + 1) (n := n) (pl := k) (p := 2) (E9 := (e3 (k + 2) (k + 2 + leW (ln w) (sg w) (k + 2)) (k + 2 + leW (ln w) (sg w) (k + 2) + leW (ln w) (sg w) (k + 2 + leW (ln w) (sg w) (k + 2))))) (F9 := (e3 (deW (ln w) (sg w) (k + 2)) (deW (ln w) (sg w) (k + 2 + leW (ln w) (sg w) (k + 2))) (0))) hM.rb hl (by decide) (by omega) (by intro j hj; rcases (show j = 0 ∨ j = 1 ∨ j = 2 by omega) with rfl | rfl | rfl <;> (simp only [e3]; omega)) shp
        have e1 : (e3 (k + 2) (k + 2 + leW (ln w) (sg w) (k + 2)) (k + 2 + leW (ln w) (sg w) (k + 2) + leW (ln w) (sg w) (k + 2 + leW (ln w) (sg w) (k + 2)))) 2 - k = leW (ln w) (sg w) (k) := by simp only [e3]; rw [leW_ea hi hc2, if_pos hc183]; omega
        have e2 : 1 + dmx (e3 (deW (ln w) (sg w) (k + 2)) (deW (ln w) (sg w) (k + 2 + leW (ln w) (sg w) (k + 2))) (0)) 2 = deW (ln w) (sg w) (k) := by rw [deW_ea hi hc2]; by_cases hx : deW (ln w) (sg w) (k + 2) < deW (ln w) (sg w) (k + 2 + leW (ln w) (sg w) (k + 2)); { rw [if_pos ⟨hc183, hx⟩, dmx_2]; exact congrArg (1 + ·) (if_pos hx) }; { rw [if_neg (fun a => hx a.2), dmx_2]; exact congrArg (1 + ·) (if_neg hx) }
        refine ez_iconst (v := nI 2) (q := 187) dX2_readSigns_186 (by decide) rfl ?_
        refine ez_goto (q := 191) dX2_readSigns_187 (by decide) ?_
        refine cX0 (q := 194) dX2_readSigns_191 ck_X2_71 hM.2.1 (hcon) rfl ⟨by decide, rfl⟩ rfl rfl rfl (Nat.le_of_ble_eq_true rfl) rfl (fun g hW => ?_)
        have hM := hM.tr hW
        rw [e1, e2] at hM
        refine ez_goto (q := 206) dX2_readSigns_194 (by decide) ?_
        refine ez_iinc_2 (v := dI k) (q := 209) dX2_readSigns_206 (dI_dec k) (by decide) rfl rfl ?_
        refine ez_goto (q := 19) dX2_readSigns_209 (by decide) ?_
        first
        | exact E.fg (ih19 k (by omega) g _ _ _ hM (by omega) hgg.up (ht.upw hway _)) ⟨Or.inr (rfl), Or.inr (rfl), Or.inr (rfl), trivial⟩
        | exact E.fg (ih19 k (by omega) g _ _ _ hM (by omega) hgg.up (ht.upn hway)) ⟨Or.inr (rfl), Or.inr (rfl), Or.inr (rfl), trivial⟩
    · refine ez_lookup (q := 169) (off := 125) dX2_readSigns_44 (by decide) (by decide) (by decide) ?_
      have hway : wayB (sg w k) = false := decide_eq_false (by omega)
      have hs := (wf_w hwf hi).symm.trans hway
      have hc2 : sg w k = 69 ∨ sg w k = 65 := by omega
      obtain ⟨hk4, h2, h2s, h2u⟩ := wf_ea hwf hi hs hc2
      obtain ⟨b1, b2⟩ := wf_pt hwf h2 h2s
      have q0 := (ht (k + 2) (by omega) h2).2 ((wf_w hwf h2).trans h2s)
      have dq0 := deW_l (ln w) (sg w) (k + 2)
      refine ez_aload_n (q := 170) 0 dX2_readSigns_169 rfl rfl rfl ?_
      refine ez_iload_n (q := 171) 2 dX2_readSigns_170 rfl rfl rfl ?_
      refine ez_iload_n (q := 172) 2 dX2_readSigns_171 rfl rfl rfl ?_
      refine ez_iconst (v := nI 2) (q := 173) dX2_readSigns_172 (by decide) rfl ?_
      refine ez_iaddN (q := 174) dX2_readSigns_173 rfl ?_
      refine ez_aload_n (q := 175) 0 dX2_readSigns_174 rfl rfl rfl ?_
      refine ez_iload_n (q := 176) 2 dX2_readSigns_175 rfl rfl rfl ?_
      refine ez_iconst (v := nI 1) (q := 177) dX2_readSigns_176 (by decide) rfl ?_
      refine ez_iaddN (q := 178) dX2_readSigns_177 rfl ?_
      refine cPv (q := 181) dX2_readSigns_178 ck_X2_75 hM.2.1 (t_X2_signAt (c := sg w (k + 1)) hM.rb hl (fun h9 => (up_ne _ _ (by omega)).trans (hgg (k + 1) (by omega) h9)) (wf_c hwf (by omega)) (by omega)) rfl ⟨by decide, rfl⟩ rfl rfl rfl (Nat.le_of_ble_eq_true rfl) rfl ?_
      rw [if_pos (show k + 1 < ln w by omega)]
      refine ez_bipush (v := nI 85) (q := 183) dX2_readSigns_181 (by decide) rfl ?_
      refine ez_icmpneN (q := 186) (tgt := 190) dX2_readSigns_183 (by decide) (by omega) (by decide) rfl (fun hc183 => ?_) (fun hc183 => ?_)
      · have shp : ∀ j, j < 1 → (e3 (k + 2) (k + 2 + leW (ln w) (sg w) (k + 2)) (0)) j < ln w ∧ me ((e3 (k + 2) (k + 2 + leW (ln w) (sg w) (k + 2)) (0)) j) = nI ((e3 (k + 2) (k + 2 + leW (ln w) (sg w) (k + 2)) (0)) (j + 1) - (e3 (k + 2) (k + 2 + leW (ln w) (sg w) (k + 2)) (0)) j) ∧ (e3 (k + 2) (k + 2 + leW (ln w) (sg w) (k + 2)) (0)) j ≤ (e3 (k + 2) (k + 2 + leW (ln w) (sg w) (k + 2)) (0)) (j + 1) ∧ md ((e3 (k + 2) (k + 2 + leW (ln w) (sg w) (k + 2)) (0)) j) = nI ((e3 (deW (ln w) (sg w) (k + 2)) (0) (0)) j) ∧ (e3 (deW (ln w) (sg w) (k + 2)) (0) (0)) j ≤ 40 := fun j hj => match j, hj with | 0, _ => ⟨by simp only [e3, Nat.zero_add, Nat.reduceAdd]; omega, q0.1.trans (congrArg nI (by simp only [e3, Nat.zero_add, Nat.reduceAdd]; omega)), by simp only [e3, Nat.zero_add, Nat.reduceAdd]; omega, q0.2, by simp only [e3, Nat.zero_add, Nat.reduceAdd]; omega⟩ | j + 1, h9 => absurd h9 (by omega)
        have hcon := t_X2_putShape (G := G) (d := d + 1) (n := n) (pl := k) (p := 1) (E9 := (e3 (k + 2) (k + 2 + leW (ln w) (sg w) (k + 2)) (0))) (F9 := (e3 (deW (ln w) (sg w) (k + 2)) (0) (0))) hM.rb hl (by decide) (by omega) (by intro j hj; rcases (show j = 0 ∨ j = 1 by omega) with rfl | rfl <;> (simp only [e3]; omega)) shp
        have e1 : (e3 (k + 2) (k + 2 + leW (ln w) (sg w) (k + 2)) (0)) 1 - k = leW (ln w) (sg w) (k) := by simp only [e3]; rw [leW_ea hi hc2, if_neg hc183]; omega
        have e2 : 1 + dmx (e3 (deW (ln w) (sg w) (k + 2)) (0) (0)) 1 = deW (ln w) (sg w) (k) := by rw [dmx_1, deW_ea hi hc2, if_neg (fun a => hc183 a.1)]; rfl
        refine ez_iconst (v := nI 1) (q := 191) dX2_readSigns_190 (by decide) rfl ?_
        refine cX0 (q := 194) dX2_readSigns_191 ck_X2_71 hM.2.1 (hcon) rfl ⟨by decide, rfl⟩ rfl rfl rfl (Nat.le_of_ble_eq_true rfl) rfl (fun g hW => ?_)
        have hM := hM.tr hW
        rw [e1, e2] at hM
        refine ez_goto (q := 206) dX2_readSigns_194 (by decide) ?_
        refine ez_iinc_2 (v := dI k) (q := 209) dX2_readSigns_206 (dI_dec k) (by decide) rfl rfl ?_
        refine ez_goto (q := 19) dX2_readSigns_209 (by decide) ?_
        first
        | exact E.fg (ih19 k (by omega) g _ _ _ hM (by omega) hgg.up (ht.upw hway _)) ⟨Or.inr (rfl), Or.inr (rfl), Or.inr (rfl), trivial⟩
        | exact E.fg (ih19 k (by omega) g _ _ _ hM (by omega) hgg.up (ht.upn hway)) ⟨Or.inr (rfl), Or.inr (rfl), Or.inr (rfl), trivial⟩
      · obtain ⟨h3, h3s⟩ := h2u hc183
        obtain ⟨b3, b4⟩ := wf_pt hwf h3 h3s
        have q1 := (ht (k + 2 + leW (ln w) (sg w) (k + 2)) (by omega) h3).2 ((wf_w hwf h3).trans h3s)
        have dq1 := deW_l (ln w) (sg w) (k + 2 + leW (ln w) (sg w) (k + 2))
        have shp : ∀ j, j < 2 → (e3 (k + 2) (k + 2 + leW (ln w) (sg w) (k + 2)) (k + 2 + leW (ln w) (sg w) (k + 2) + leW (ln w) (sg w) (k + 2 + leW (ln w) (sg w) (k + 2)))) j < ln w ∧ me ((e3 (k + 2) (k + 2 + leW (ln w) (sg w) (k + 2)) (k + 2 + leW (ln w) (sg w) (k + 2) + leW (ln w) (sg w) (k + 2 + leW (ln w) (sg w) (k + 2)))) j) = nI ((e3 (k + 2) (k + 2 + leW (ln w) (sg w) (k + 2)) (k + 2 + leW (ln w) (sg w) (k + 2) + leW (ln w) (sg w) (k + 2 + leW (ln w) (sg w) (k + 2)))) (j + 1) - (e3 (k + 2) (k + 2 + leW (ln w) (sg w) (k + 2)) (k + 2 + leW (ln w) (sg w) (k + 2) + leW (ln w) (sg w) (k + 2 + leW (ln w) (sg w) (k + 2)))) j) ∧ (e3 (k + 2) (k + 2 + leW (ln w) (sg w) (k + 2)) (k + 2 + leW (ln w) (sg w) (k + 2) + leW (ln w) (sg w) (k + 2 + leW (ln w) (sg w) (k + 2)))) j ≤ (e3 (k + 2) (k + 2 + leW (ln w) (sg w) (k + 2)) (k + 2 + leW (ln w) (sg w) (k + 2) + leW (ln w) (sg w) (k + 2 + leW (ln w) (sg w) (k + 2)))) (j + 1) ∧ md ((e3 (k + 2) (k + 2 + leW (ln w) (sg w) (k + 2)) (k + 2 + leW (ln w) (sg w) (k + 2) + leW (ln w) (sg w) (k + 2 + leW (ln w) (sg w) (k + 2)))) j) = nI ((e3 (deW (ln w) (sg w) (k + 2)) (deW (ln w) (sg w) (k + 2 + leW (ln w) (sg w) (k + 2))) (0)) j) ∧ (e3 (deW (ln w) (sg w) (k + 2)) (deW (ln w) (sg w) (k + 2 + leW (ln w) (sg w) (k + 2))) (0)) j ≤ 40 := fun j hj => match j, hj with | 0, _ => ⟨by simp only [e3, Nat.zero_add, Nat.reduceAdd]; omega, q0.1.trans (congrArg nI (by simp only [e3, Nat.zero_add, Nat.reduceAdd]; omega)), by simp only [e3, Nat.zero_add, Nat.reduceAdd]; omega, q0.2, by simp only [e3, Nat.zero_add, Nat.reduceAdd]; omega⟩ | 1, _ => ⟨by simp only [e3, Nat.zero_add, Nat.reduceAdd]; omega, q1.1.trans (congrArg nI (by simp only [e3, Nat.zero_add, Nat.reduceAdd]; omega)), by simp only [e3, Nat.zero_add, Nat.reduceAdd]; omega, q1.2, by simp only [e3, Nat.zero_add, Nat.reduceAdd]; omega⟩ | j + 2, h9 => absurd h9 (by omega)
        have hcon := t_X2_putShape (G := G) (d := d + 1) (n := n) (pl := k) (p := 2) (E9 := (e3 (k + 2) (k + 2 + leW (ln w) (sg w) (k + 2)) (k + 2 + leW (ln w) (sg w) (k + 2) + leW (ln w) (sg w) (k + 2 + leW (ln w) (sg w) (k + 2))))) (F9 := (e3 (deW (ln w) (sg w) (k + 2)) (deW (ln w) (sg w) (k + 2 + leW (ln w) (sg w) (k + 2))) (0))) hM.rb hl (by decide) (by omega) (by intro j hj; rcases (show j = 0 ∨ j = 1 ∨ j = 2 by omega) with rfl | rfl | rfl <;> (simp only [e3]; omega)) shp
        have e1 : (e3 (k + 2) (k + 2 + leW (ln w) (sg w) (k + 2)) (k + 2 + leW (ln w) (sg w) (k + 2) + leW (ln w) (sg w) (k + 2 + leW (ln w) (sg w) (k + 2)))) 2 - k = leW (ln w) (sg w) (k) := by simp only [e3]; rw [leW_ea hi hc2, if_pos hc183]; omega
        have e2 : 1 + dmx (e3 (deW (ln w) (sg w) (k + 2)) (deW (ln w) (sg w) (k + 2 + leW (ln w) (sg w) (k + 2))) (0)) 2 = deW (ln w) (sg w) (k) := by rw [deW_ea hi hc2]; by_cases hx : deW (ln w) (sg w) (k + 2) < deW (ln w) (sg w) (k + 2 + leW (ln w) (sg w) (k + 2)); { rw [if_pos ⟨hc183, hx⟩, dmx_2]; exact congrArg (1 + ·) (if_pos hx) }; { rw [if_neg (fun a => hx a.2), dmx_2]; exact congrArg (1 + ·) (if_neg hx) }
        refine ez_iconst (v := nI 2) (q := 187) dX2_readSigns_186 (by decide) rfl ?_
        refine ez_goto (q := 191) dX2_readSigns_187 (by decide) ?_
        refine cX0 (q := 194) dX2_readSigns_191 ck_X2_71 hM.2.1 (hcon) rfl ⟨by decide, rfl⟩ rfl rfl rfl (Nat.le_of_ble_eq_true rfl) rfl (fun g hW => ?_)
        have hM := hM.tr hW
        rw [e1, e2] at hM
        refine ez_goto (q := 206) dX2_readSigns_194 (by decide) ?_
        refine ez_iinc_2 (v := dI k) (q := 209) dX2_readSigns_206 (dI_dec k) (by decide) rfl rfl ?_
        refine ez_goto (q := 19) dX2_readSigns_209 (by decide) ?_
        first
        | exact E.fg (ih19 k (by omega) g _ _ _ hM (by omega) hgg.up (ht.upw hway _)) ⟨Or.inr (rfl), Or.inr (rfl), Or.inr (rfl), trivial⟩
        | exact E.fg (ih19 k (by omega) g _ _ _ hM (by omega) hgg.up (ht.upn hway)) ⟨Or.inr (rfl), Or.inr (rfl), Or.inr (rfl), trivial⟩
    · refine ez_lookup (q := 128) (off := 84) dX2_readSigns_44 (by decide) (by decide) (by decide) ?_
      have hway : wayB (sg w k) = true := decide_eq_true (by omega)
      refine ez_aload_n (q := 129) 0 dX2_readSigns_128 rfl rfl rfl ?_
      refine ez_getf (q := 132) dX2_readSigns_129 fl_X2_19 hM.2.1 rfl rfl ?_
      refine ez_iload_n (q := 133) 2 dX2_readSigns_132 rfl rfl rfl ?_
      refine ez_iconst (v := -1) (q := 134) dX2_readSigns_133 (by decide) rfl ?_
      refine sME_me (q := 135) dX2_readSigns_134 hM rfl (by omega) rfl (fun g hM => ?_)
      refine ez_aload_n (q := 136) 0 dX2_readSigns_135 rfl rfl rfl ?_
      refine ez_getf (q := 139) dX2_readSigns_136 fl_X2_23 hM.2.1 rfl rfl ?_
      refine ez_iload_n (q := 140) 2 dX2_readSigns_139 rfl rfl rfl ?_
      refine ez_iconst (v := nI 0) (q := 141) dX2_readSigns_140 (by decide) rfl ?_
      refine sME_md (q := 142) dX2_readSigns_141 hM rfl (by omega) rfl (fun g hM => ?_)
      refine ez_goto (q := 206) dX2_readSigns_142 (by decide) ?_
      refine ez_iinc_2 (v := dI k) (q := 209) dX2_readSigns_206 (dI_dec k) (by decide) rfl rfl ?_
      refine ez_goto (q := 19) dX2_readSigns_209 (by decide) ?_
      first
      | exact E.fg (ih19 k (by omega) g _ _ _ hM (by omega) hgg.up (ht.upw hway _)) ⟨Or.inr (rfl), Or.inr (rfl), Or.inr (rfl), trivial⟩
      | exact E.fg (ih19 k (by omega) g _ _ _ hM (by omega) hgg.up (ht.upn hway)) ⟨Or.inr (rfl), Or.inr (rfl), Or.inr (rfl), trivial⟩
    · refine ez_lookup (q := 128) (off := 84) dX2_readSigns_44 (by decide) (by decide) (by decide) ?_
      have hway : wayB (sg w k) = true := decide_eq_true (by omega)
      refine ez_aload_n (q := 129) 0 dX2_readSigns_128 rfl rfl rfl ?_
      refine ez_getf (q := 132) dX2_readSigns_129 fl_X2_19 hM.2.1 rfl rfl ?_
      refine ez_iload_n (q := 133) 2 dX2_readSigns_132 rfl rfl rfl ?_
      refine ez_iconst (v := -1) (q := 134) dX2_readSigns_133 (by decide) rfl ?_
      refine sME_me (q := 135) dX2_readSigns_134 hM rfl (by omega) rfl (fun g hM => ?_)
      refine ez_aload_n (q := 136) 0 dX2_readSigns_135 rfl rfl rfl ?_
      refine ez_getf (q := 139) dX2_readSigns_136 fl_X2_23 hM.2.1 rfl rfl ?_
      refine ez_iload_n (q := 140) 2 dX2_readSigns_139 rfl rfl rfl ?_
      refine ez_iconst (v := nI 0) (q := 141) dX2_readSigns_140 (by decide) rfl ?_
      refine sME_md (q := 142) dX2_readSigns_141 hM rfl (by omega) rfl (fun g hM => ?_)
      refine ez_goto (q := 206) dX2_readSigns_142 (by decide) ?_
      refine ez_iinc_2 (v := dI k) (q := 209) dX2_readSigns_206 (dI_dec k) (by decide) rfl rfl ?_
      refine ez_goto (q := 19) dX2_readSigns_209 (by decide) ?_
      first
      | exact E.fg (ih19 k (by omega) g _ _ _ hM (by omega) hgg.up (ht.upw hway _)) ⟨Or.inr (rfl), Or.inr (rfl), Or.inr (rfl), trivial⟩
      | exact E.fg (ih19 k (by omega) g _ _ _ hM (by omega) hgg.up (ht.upn hway)) ⟨Or.inr (rfl), Or.inr (rfl), Or.inr (rfl), trivial⟩
    · refine ez_lookup (q := 128) (off := 84) dX2_readSigns_44 (by decide) (by decide) (by decide) ?_
      have hway : wayB (sg w k) = true := decide_eq_true (by omega)
      refine ez_aload_n (q := 129) 0 dX2_readSigns_128 rfl rfl rfl ?_
      refine ez_getf (q := 132) dX2_readSigns_129 fl_X2_19 hM.2.1 rfl rfl ?_
      refine ez_iload_n (q := 133) 2 dX2_readSigns_132 rfl rfl rfl ?_
      refine ez_iconst (v := -1) (q := 134) dX2_readSigns_133 (by decide) rfl ?_
      refine sME_me (q := 135) dX2_readSigns_134 hM rfl (by omega) rfl (fun g hM => ?_)
      refine ez_aload_n (q := 136) 0 dX2_readSigns_135 rfl rfl rfl ?_
      refine ez_getf (q := 139) dX2_readSigns_136 fl_X2_23 hM.2.1 rfl rfl ?_
      refine ez_iload_n (q := 140) 2 dX2_readSigns_139 rfl rfl rfl ?_
      refine ez_iconst (v := nI 0) (q := 141) dX2_readSigns_140 (by decide) rfl ?_
      refine sME_md (q := 142) dX2_readSigns_141 hM rfl (by omega) rfl (fun g hM => ?_)
      refine ez_goto (q := 206) dX2_readSigns_142 (by decide) ?_
      refine ez_iinc_2 (v := dI k) (q := 209) dX2_readSigns_206 (dI_dec k) (by decide) rfl rfl ?_
      refine ez_goto (q := 19) dX2_readSigns_209 (by decide) ?_
      first
      | exact E.fg (ih19 k (by omega) g _ _ _ hM (by omega) hgg.up (ht.upw hway _)) ⟨Or.inr (rfl), Or.inr (rfl), Or.inr (rfl), trivial⟩
      | exact E.fg (ih19 k (by omega) g _ _ _ hM (by omega) hgg.up (ht.upn hway)) ⟨Or.inr (rfl), Or.inr (rfl), Or.inr (rfl), trivial⟩
    · refine ez_lookup (q := 128) (off := 84) dX2_readSigns_44 (by decide) (by decide) (by decide) ?_
      have hway : wayB (sg w k) = true := decide_eq_true (by omega)
      refine ez_aload_n (q := 129) 0 dX2_readSigns_128 rfl rfl rfl ?_
      refine ez_getf (q := 132) dX2_readSigns_129 fl_X2_19 hM.2.1 rfl rfl ?_
      refine ez_iload_n (q := 133) 2 dX2_readSigns_132 rfl rfl rfl ?_
      refine ez_iconst (v := -1) (q := 134) dX2_readSigns_133 (by decide) rfl ?_
      refine sME_me (q := 135) dX2_readSigns_134 hM rfl (by omega) rfl (fun g hM => ?_)
      refine ez_aload_n (q := 136) 0 dX2_readSigns_135 rfl rfl rfl ?_
      refine ez_getf (q := 139) dX2_readSigns_136 fl_X2_23 hM.2.1 rfl rfl ?_
      refine ez_iload_n (q := 140) 2 dX2_readSigns_139 rfl rfl rfl ?_
      refine ez_iconst (v := nI 0) (q := 141) dX2_readSigns_140 (by decide) rfl ?_
      refine sME_md (q := 142) dX2_readSigns_141 hM rfl (by omega) rfl (fun g hM => ?_)
      refine ez_goto (q := 206) dX2_readSigns_142 (by decide) ?_
      refine ez_iinc_2 (v := dI k) (q := 209) dX2_readSigns_206 (dI_dec k) (by decide) rfl rfl ?_
      refine ez_goto (q := 19) dX2_readSigns_209 (by decide) ?_
      first
      | exact E.fg (ih19 k (by omega) g _ _ _ hM (by omega) hgg.up (ht.upw hway _)) ⟨Or.inr (rfl), Or.inr (rfl), Or.inr (rfl), trivial⟩
      | exact E.fg (ih19 k (by omega) g _ _ _ hM (by omega) hgg.up (ht.upn hway)) ⟨Or.inr (rfl), Or.inr (rfl), Or.inr (rfl), trivial⟩
    · refine ez_lookup (q := 157) (off := 113) dX2_readSigns_44 (by decide) (by decide) (by decide) ?_
      have hway : wayB (sg w k) = false := decide_eq_false (by omega)
      have hs := (wf_w hwf hi).symm.trans hway
      have hc2 : sg w k = 38 ∨ sg w k = 124 := by omega
      obtain ⟨h1, h1s, h2, h2s⟩ := wf_two hwf hi hs hc2
      obtain ⟨b1, b2⟩ := wf_pt hwf h1 h1s
      obtain ⟨b3, b4⟩ := wf_pt hwf h2 h2s
      have q0 := (ht (k + 1) (by omega) h1).2 ((wf_w hwf h1).trans h1s)
      have dq0 := deW_l (ln w) (sg w) (k + 1)
      have q1 := (ht (k + 1 + leW (ln w) (sg w) (k + 1)) (by omega) h2).2 ((wf_w hwf h2).trans h2s)
      have dq1 := deW_l (ln w) (sg w) (k + 1 + leW (ln w) (sg w) (k + 1))
      refine ez_aload_n (q := 158) 0 dX2_readSigns_157 rfl rfl rfl ?_
      refine ez_iload_n (q := 159) 2 dX2_readSigns_158 rfl rfl rfl ?_
      refine ez_iload_n (q := 160) 2 dX2_readSigns_159 rfl rfl rfl ?_
      refine ez_iconst (v := nI 1) (q := 161) dX2_readSigns_160 (by decide) rfl ?_
      refine ez_iaddN (q := 162) dX2_readSigns_161 rfl ?_
      refine ez_iconst (v := nI 2) (q := 163) dX2_readSigns_162 (by decide) rfl ?_
      have shp : ∀ j, j < 2 → (e3 (k + 1) (k + 1 + leW (ln w) (sg w) (k + 1)) (k + 1 + leW (ln w) (sg w) (k + 1) + leW (ln w) (sg w) (k + 1 + leW (ln w) (sg w) (k + 1)))) j < ln w ∧ me ((e3 (k + 1) (k + 1 + leW (ln w) (sg w) (k + 1)) (k + 1 + leW (ln w) (sg w) (k + 1) + leW (ln w) (sg w) (k + 1 + leW (ln w) (sg w) (k + 1)))) j) = nI ((e3 (k + 1) (k + 1 + leW (ln w) (sg w) (k + 1)) (k + 1 + leW (ln w) (sg w) (k + 1) + leW (ln w) (sg w) (k + 1 + leW (ln w) (sg w) (k + 1)))) (j + 1) - (e3 (k + 1) (k + 1 + leW (ln w) (sg w) (k + 1)) (k + 1 + leW (ln w) (sg w) (k + 1) + leW (ln w) (sg w) (k + 1 + leW (ln w) (sg w) (k + 1)))) j) ∧ (e3 (k + 1) (k + 1 + leW (ln w) (sg w) (k + 1)) (k + 1 + leW (ln w) (sg w) (k + 1) + leW (ln w) (sg w) (k + 1 + leW (ln w) (sg w) (k + 1)))) j ≤ (e3 (k + 1) (k + 1 + leW (ln w) (sg w) (k + 1)) (k + 1 + leW (ln w) (sg w) (k + 1) + leW (ln w) (sg w) (k + 1 + leW (ln w) (sg w) (k + 1)))) (j + 1) ∧ md ((e3 (k + 1) (k + 1 + leW (ln w) (sg w) (k + 1)) (k + 1 + leW (ln w) (sg w) (k + 1) + leW (ln w) (sg w) (k + 1 + leW (ln w) (sg w) (k + 1)))) j) = nI ((e3 (deW (ln w) (sg w) (k + 1)) (deW (ln w) (sg w) (k + 1 + leW (ln w) (sg w) (k + 1))) (0)) j) ∧ (e3 (deW (ln w) (sg w) (k + 1)) (deW (ln w) (sg w) (k + 1 + leW (ln w) (sg w) (k + 1))) (0)) j ≤ 40 := fun j hj => match j, hj with | 0, _ => ⟨by simp only [e3, Nat.zero_add, Nat.reduceAdd]; omega, q0.1.trans (congrArg nI (by simp only [e3, Nat.zero_add, Nat.reduceAdd]; omega)), by simp only [e3, Nat.zero_add, Nat.reduceAdd]; omega, q0.2, by simp only [e3, Nat.zero_add, Nat.reduceAdd]; omega⟩ | 1, _ => ⟨by simp only [e3, Nat.zero_add, Nat.reduceAdd]; omega, q1.1.trans (congrArg nI (by simp only [e3, Nat.zero_add, Nat.reduceAdd]; omega)), by simp only [e3, Nat.zero_add, Nat.reduceAdd]; omega, q1.2, by simp only [e3, Nat.zero_add, Nat.reduceAdd]; omega⟩ | j + 2, h9 => absurd h9 (by omega)
      refine cX0 (q := 166) dX2_readSigns_163 ck_X2_71 hM.2.1 (t_X2_putShape (p := 2) (E9 := (e3 (k + 1) (k + 1 + leW (ln w) (sg w) (k + 1)) (k + 1 + leW (ln w) (sg w) (k + 1) + leW (ln w) (sg w) (k + 1 + leW (ln w) (sg w) (k + 1))))) (F9 := (e3 (deW (ln w) (sg w) (k + 1)) (deW (ln w) (sg w) (k + 1 + leW (ln w) (sg w) (k + 1))) (0))) hM.rb hl (by decide) (by omega) (by intro j hj; rcases (show j = 0 ∨ j = 1 ∨ j = 2 by omega) with rfl | rfl | rfl <;> (simp only [e3]; omega)) shp) rfl ⟨by decide, rfl⟩ rfl rfl rfl (Nat.le_of_ble_eq_true rfl) rfl (fun g hW => ?_)
      have hM := hM.tr hW
      have e1 : (e3 (k + 1) (k + 1 + leW (ln w) (sg w) (k + 1)) (k + 1 + leW (ln w) (sg w) (k + 1) + leW (ln w) (sg w) (k + 1 + leW (ln w) (sg w) (k + 1)))) 2 - k = leW (ln w) (sg w) (k) := by simp only [e3]; rw [leW_two hi hc2]; omega
      have e2 : 1 + dmx (e3 (deW (ln w) (sg w) (k + 1)) (deW (ln w) (sg w) (k + 1 + leW (ln w) (sg w) (k + 1))) (0)) 2 = deW (ln w) (sg w) (k) := by rw [dmx_2, deW_two hi hc2]; rfl
      rw [e1, e2] at hM
      refine ez_goto (q := 206) dX2_readSigns_166 (by decide) ?_
      refine ez_iinc_2 (v := dI k) (q := 209) dX2_readSigns_206 (dI_dec k) (by decide) rfl rfl ?_
      refine ez_goto (q := 19) dX2_readSigns_209 (by decide) ?_
      first
      | exact E.fg (ih19 k (by omega) g _ _ _ hM (by omega) hgg.up (ht.upw hway _)) ⟨Or.inr (rfl), Or.inr (rfl), Or.inr (rfl), trivial⟩
      | exact E.fg (ih19 k (by omega) g _ _ _ hM (by omega) hgg.up (ht.upn hway)) ⟨Or.inr (rfl), Or.inr (rfl), Or.inr (rfl), trivial⟩
    · refine ez_lookup (q := 197) (off := 153) dX2_readSigns_44 (by decide) (show _ = ((153) : Int) from (show ∀ c, c < 128 → (¬ c = 33 ∧ ¬ c = 38 ∧ ¬ c = 65 ∧ ¬ c = 69 ∧ ¬ c = 70 ∧ ¬ c = 71 ∧ ¬ c = 85 ∧ ¬ c = 88 ∧ ¬ c = 124) → Op.lookupswitch.offset (#[(33, 101), (38, 113), (65, 125), (69, 125), (70, 84), (71, 84), (85, 84), (88, 84), (124, 113)] : Array (Int × Int)).toList 153 (nI c).toInt = 153 from by decide +kernel) c hc128 hno) (by decide) ?_
      have hway : wayB (sg w k) = false := decide_eq_false (by omega)
      have hs := (wf_w hwf hi).symm.trans hway
      have hc1 : (97 ≤ sg w k ∧ sg w k ≤ 100) ∨ sg w k = 116 := by rcases (wf_one hwf hi hs).2 with ⟨a, _⟩ | ⟨a, _⟩ | ⟨a, _⟩ | ⟨a, _⟩ <;> omega
      refine ez_aload_n (q := 198) 0 dX2_readSigns_197 rfl rfl rfl ?_
      refine ez_iload_n (q := 199) 2 dX2_readSigns_198 rfl rfl rfl ?_
      refine ez_iload_n (q := 200) 2 dX2_readSigns_199 rfl rfl rfl ?_
      refine ez_iconst (v := nI 1) (q := 201) dX2_readSigns_200 (by decide) rfl ?_
      refine ez_iaddN (q := 202) dX2_readSigns_201 rfl ?_
      refine ez_iconst (v := nI 0) (q := 203) dX2_readSigns_202 (by decide) rfl ?_
      have shp : ∀ j, j < 0 → (e3 (k + 1) (0) (0)) j < ln w ∧ me ((e3 (k + 1) (0) (0)) j) = nI ((e3 (k + 1) (0) (0)) (j + 1) - (e3 (k + 1) (0) (0)) j) ∧ (e3 (k + 1) (0) (0)) j ≤ (e3 (k + 1) (0) (0)) (j + 1) ∧ md ((e3 (k + 1) (0) (0)) j) = nI ((e3 (0) (0) (0)) j) ∧ (e3 (0) (0) (0)) j ≤ 40 := fun j hj => absurd hj (by omega)
      refine cX0 (q := 206) dX2_readSigns_203 ck_X2_71 hM.2.1 (t_X2_putShape (p := 0) (E9 := (e3 (k + 1) (0) (0))) (F9 := (e3 (0) (0) (0))) hM.rb hl (by decide) (by omega) (by intro j hj; rcases (show j = 0 by omega) with rfl <;> (simp only [e3]; omega)) shp) rfl ⟨by decide, rfl⟩ rfl rfl rfl (Nat.le_of_ble_eq_true rfl) rfl (fun g hW => ?_)
      have hM := hM.tr hW
      have e1 : (e3 (k + 1) (0) (0)) 0 - k = leW (ln w) (sg w) (k) := by simp only [e3]; rw [leW_1 hi hc1]; omega
      have e2 : 1 + dmx (e3 (0) (0) (0)) 0 = deW (ln w) (sg w) (k) := by rw [deW_1 hi hc1]; rfl
      rw [e1, e2] at hM
      refine ez_iinc_2 (v := dI k) (q := 209) dX2_readSigns_206 (dI_dec k) (by decide) rfl rfl ?_
      refine ez_goto (q := 19) dX2_readSigns_209 (by decide) ?_
      first
      | exact E.fg (ih19 k (by omega) g _ _ _ hM (by omega) hgg.up (ht.upw hway _)) ⟨Or.inr (rfl), Or.inr (rfl), Or.inr (rfl), trivial⟩
      | exact E.fg (ih19 k (by omega) g _ _ _ hM (by omega) hgg.up (ht.upn hway)) ⟨Or.inr (rfl), Or.inr (rfl), Or.inr (rfl), trivial⟩

set_option maxHeartbeats 800000 in
set_option maxRecDepth 100000 in
theorem t_X2_findSets {G : ez_G} {d n : Nat} {h : ez_H} {im ia n' f m : Nat} {L T ln : Nat → Nat} {sg : Nat → Nat → Nat} {s : Nat → Nat} {mg me md mt mr : Nat → Int32} {al li ro go : Nat} (hM : MF im ia h h (nI m) mg me md mt mr (nI al) (nI li) (nI ro) (nI go)) (hm : m ≤ 40) (hgg : SGm m s 0 mg) (hle : TLD m s 0 me md) (hwf0 : 0 < m → ∃ sc, WF m s sc) (hS : SS ia h n' f L T ln sg) (ho : OK n' f L T ln sg) (hd : ia + 5 ≤ im) : Con G mX2_findSets (d + 4) [.ref im] h n 0 0 (PW n none (fun g => ∃ (mt mr : Nat → Int32) (r : Nat), MF im ia h g (nI m) mg me md mt mr (nI (2 ^ n' - 1)) (nI (lvN T n' f L)) (nI r) (nI (goW n' f L)) ∧ TSR T n' f L m s 0 mt mr)) := by
  have hn := ho.1
  refine Con.of [some (.ref im), none, none] pl_X2 rfl (Nat.le_of_ble_eq_true rfl) rfl ?_
  have hQ : ∀ g (mt mr : Nat → Int32) (r : Nat), MF im ia h g (nI m) mg me md mt mr (nI (2 ^ n' - 1)) (nI (lvN T n' f L)) (nI r) (nI (goW n' f L)) → TSR T n' f L m s 0 mt mr → (PW n none (fun g => ∃ (mt mr : Nat → Int32) (r : Nat), MF im ia h g (nI m) mg me md mt mr (nI (2 ^ n' - 1)) (nI (lvN T n' f L)) (nI r) (nI (goW n' f L)) ∧ TSR T n' f L m s 0 mt mr)) (.inl none) g n := fun g mt mr r h1 h2 => ⟨rfl, ⟨mt, mr, r, h1, h2⟩, rfl⟩
  generalize PW n none (fun g => ∃ (mt mr : Nat → Int32) (r : Nat), MF im ia h g (nI m) mg me md mt mr (nI (2 ^ n' - 1)) (nI (lvN T n' f L)) (nI r) (nI (goW n' f L)) ∧ TSR T n' f L m s 0 mt mr) = Q at hQ ⊢
  refine ez_aload_n (q := 1) 0 dX2_findSets_0 rfl rfl rfl ?_
  refine ez_getf (q := 4) dX2_findSets_1 fl_X2_41 hM.2.1 rfl rfl ?_
  refine cX0 (q := 7) dX2_findSets_4 ck_X2_45 hM.2.2.2.2.2.2.2.1 (t_X0_look hM.fw (hS.to (fun j a b => hM.fr j (by omega))) ho (by omega)) rfl ⟨by decide, rfl⟩ rfl rfl rfl (Nat.le_of_ble_eq_true rfl) rfl (fun g hW => ?_)
  obtain ⟨r, hM2⟩ := hW
  have hM := hM.set_fw hM2
  refine ez_aload_n (q := 8) 0 dX2_findSets_7 rfl rfl rfl ?_
  refine ez_getf (q := 11) dX2_findSets_8 fl_X2_9 hM.2.1 rfl rfl ?_
  refine ez_iconst (v := nI 1) (q := 12) dX2_findSets_11 (by decide) rfl ?_
  refine ez_isub (q := 13) dX2_findSets_12 rfl ?_
  refine ez_top (dI_of _) ?_
  refine ez_istore_1 (q := 14) dX2_findSets_13 rfl (by decide) rfl rfl ?_
  refine ez_loop (α := Nat) (fun k => k) (P := fun k => ∀ (g : ez_H) (mt mr : Nat → Int32) (r : Nat), MF im ia h g (nI m) mg me md mt mr (nI (2 ^ n' - 1)) (nI (lvN T n' f L)) (nI r) (nI (goW n' f L)) → (k ≤ m) → (TSR T n' f L m s k mt mr) → E G mX2_findSets (d + 4) Q g n 0 0 14 [some (.ref im), some (.int (dI k)), none] []) ?_ m g _ _ _ hM (Nat.le_refl _) (fun j a b => by omega)
  intro k ih14 g mt mr r hM hk ht
  rcases k with _ | k
  · change E G mX2_findSets _ _ _ _ _ _ 14 [some (.ref im), some (.int (-1)), none] []
    refine ez_iload_n (q := 15) 1 dX2_findSets_14 rfl rfl rfl ?_
    refine ez_iflt (q := 18) (tgt := 369) dX2_findSets_15 (by decide) rfl (fun hc15 => ?_) (fun hc15 => ?_)
    · exact ez_vret dX2_findSets_369 rfl (hQ _ _ _ _ hM ht)
    · first
      | exact absurd (by decide) hc15
      | skip
        refine ez_iload_n (q := 19) 1 dX2_findSets_18 rfl rfl rfl ?_
        refine ez_iconst (v := nI 1) (q := 20) dX2_findSets_19 (by decide) rfl ?_
        refine ez_iadd (q := 21) dX2_findSets_20 rfl ?_
        refine ez_istore_2 (q := 22) dX2_findSets_21 rfl (by decide) rfl rfl ?_
        refine ez_aload_n (q := 23) 0 dX2_findSets_22 rfl rfl rfl ?_
        refine ez_getf (q := 26) dX2_findSets_23 fl_X2_41 hM.2.1 rfl rfl ?_
        refine ez_iconst (v := nI 0) (q := 27) dX2_findSets_26 (by decide) rfl ?_
        refine pMF_ro (q := 30) dX2_findSets_27 fl_X2_90 hM rfl (fun g hM => ?_)
        refine ez_aload_n (q := 31) 0 dX2_findSets_30 rfl rfl rfl ?_
        refine ez_getf (q := 34) dX2_findSets_31 fl_X2_15 hM.2.1 rfl rfl ?_
        refine ez_iload_n (q := 35) 1 dX2_findSets_34 rfl rfl rfl ?_
        refine ez_cald (q := 36) dX2_findSets_35 hM.2.2.1 rfl (by omega) (by decide) rfl ?_
        refine ez_top (hgg k (Nat.zero_le k) hi) ?_
        obtain ⟨c, hcs⟩ : ∃ c, s k = c := ⟨_, rfl⟩
        rw [hcs]
        have hc128 : c < 128 := by rw [← hcs]; exact wf_c hwf hi
        rcases (show c = 33 ∨ c = 38 ∨ c = 65 ∨ c = 69 ∨ c = 70 ∨ c = 71 ∨ c = 85 ∨ c = 88 ∨ c = 116 ∨ c = 124 ∨ (¬ c = 33 ∧ ¬ c = 38 ∧ ¬ c = 65 ∧ ¬ c = 69 ∧ ¬ c = 70 ∧ ¬ c = 71 ∧ ¬ c = 85 ∧ ¬ c = 88 ∧ ¬ c = 116 ∧ ¬ c = 124) by omega) with rfl | rfl | rfl | rfl | rfl | rfl | rfl | rfl | rfl | rfl | hno
        · refine ez_lookup (q := 226) (off := 190) dX2_findSets_36 (by decide) (by decide) (by decide) ?_
          have hway : wayB (s k) = false := decide_eq_false (by omega)
          have hs := (wf_w hwf hi).symm.trans hway
          obtain ⟨h1, h1s⟩ := wf_not hwf hi hs hcs
          have q0 := (ht (k + 1) (by omega) h1).2 ((wf_w hwf h1).trans h1s)
          have er : roW T n' f L m s k = 0 := roW_0 (by omega)
          refine ez_aload_n (q := 227) 0 dX2_findSets_226 rfl rfl rfl ?_
          refine ez_getf (q := 230) dX2_findSets_227 fl_X2_26 hM.2.1 rfl rfl ?_
          refine ez_iload_n (q := 231) 1 dX2_findSets_230 rfl rfl rfl ?_
          refine ez_aload_n (q := 232) 0 dX2_findSets_231 rfl rfl rfl ?_
          refine ez_getf (q := 235) dX2_findSets_232 fl_X2_41 hM.2.1 rfl rfl ?_
          refine ez_getf (q := 238) dX2_findSets_235 fl_X2_96 hM.2.2.2.2.2.2.2.1 rfl rfl ?_
          refine ez_aload_n (q := 239) 0 dX2_findSets_238 rfl rfl rfl ?_
          refine ez_iload_n (q := 240) 2 dX2_findSets_239 rfl rfl rfl ?_
          refine cPv (q := 243) dX2_findSets_240 ck_X2_58 hM.2.1 (t_X2_setAt hM.me hm (by omega)) rfl ⟨by decide, rfl⟩ rfl rfl rfl (Nat.le_of_ble_eq_true rfl) rfl ?_
          refine ez_top ((if_pos h1).trans q0.1) ?_
          refine ez_iconst (v := -1) (q := 244) dX2_findSets_243 (by decide) rfl ?_
          refine ez_ixor (q := 245) dX2_findSets_244 rfl ?_
          refine ez_iandX (q := 246) dX2_findSets_245 rfl ?_
          refine ez_top (y := nI (seW T n' f L m s (k))) (congrArg nI (by rw [seW_not hi hcs])) ?_
          refine sMF_mt (q := 247) dX2_findSets_246 hM rfl (by omega) rfl (fun g hM => ?_)
          refine ez_goto (q := 336) dX2_findSets_247 (by decide) ?_
          refine ez_aload_n (q := 337) 0 dX2_findSets_336 rfl rfl rfl ?_
          refine ez_getf (q := 340) dX2_findSets_337 fl_X2_29 hM.2.1 rfl rfl ?_
          refine ez_iload_n (q := 341) 1 dX2_findSets_340 rfl rfl rfl ?_
          refine ez_aload_n (q := 342) 0 dX2_findSets_341 rfl rfl rfl ?_
          refine ez_getf (q := 345) dX2_findSets_342 fl_X2_26 hM.2.1 rfl rfl ?_
          refine ez_iload_n (q := 346) 1 dX2_findSets_345 rfl rfl rfl ?_
          refine ez_iald (q := 347) dX2_findSets_346 hM.2.2.2.2.2.1 rfl (by omega) (by decide) rfl ?_
          refine ez_top (up_eq _ _ _) ?_
          refine ez_iconst (v := -1) (q := 348) dX2_findSets_347 (by decide) rfl ?_
          refine ez_icmpne (q := 351) (tgt := 355) dX2_findSets_348 (by decide) rfl (fun hc348 => ?_) (fun hc348 => ?_)
          · first
            | exact absurd rfl hc348
            | skip
              refine ez_aload_n (q := 356) 0 dX2_findSets_355 rfl rfl rfl ?_
              refine ez_getf (q := 359) dX2_findSets_356 fl_X2_41 hM.2.1 rfl rfl ?_
              refine ez_getf (q := 362) dX2_findSets_359 fl_X2_90 hM.2.2.2.2.2.2.2.1 rfl rfl ?_
              skip
              refine sMF_mr (q := 363) dX2_findSets_362 hM rfl (by omega) rfl (fun g hM => ?_)
              refine ez_iinc_1 (v := dI k) (q := 366) dX2_findSets_363 (dI_dec k) (by decide) rfl rfl ?_
              refine ez_goto (q := 14) dX2_findSets_366 (by decide) ?_
              first
              | exact E.fg (ih14 k (by omega) g _ _ _ hM (by omega) (ht.upw hway)) ⟨Or.inr (rfl), Or.inr (rfl), Or.inl rfl, trivial⟩
              | exact E.fg (ih14 k (by omega) g _ _ _ hM (by omega) (ht.up hway)) ⟨Or.inr (rfl), Or.inr (rfl), Or.inl rfl, trivial⟩
              | exact E.fg (ih14 k (by omega) g _ _ _ hM (by omega) (by have e9 := ht.up hway; rw [er] at e9; exact e9)) ⟨Or.inr (rfl), Or.inr (rfl), Or.inl rfl, trivial⟩
          · first
            | exact absurd hc348 (nI_m1 (lt31 (seW_l _ _ _ _ _ _ _) hn))
            | skip
              refine ez_iconst (v := -1) (q := 352) dX2_findSets_351 (by decide) rfl ?_
              refine ez_goto (q := 362) dX2_findSets_352 (by decide) ?_
              skip
              refine sMF_mr (q := 363) dX2_findSets_362 hM rfl (by omega) rfl (fun g hM => ?_)
              refine ez_iinc_1 (v := dI k) (q := 366) dX2_findSets_363 (dI_dec k) (by decide) rfl rfl ?_
              refine ez_goto (q := 14) dX2_findSets_366 (by decide) ?_
              first
              | exact E.fg (ih14 k (by omega) g _ _ _ hM (by omega) (ht.upw hway)) ⟨Or.inr (rfl), Or.inr (rfl), Or.inl rfl, trivial⟩
              | exact E.fg (ih14 k (by omega) g _ _ _ hM (by omega) (ht.up hway)) ⟨Or.inr (rfl), Or.inr (rfl), Or.inl rfl, trivial⟩
              | exact E.fg (ih14 k (by omega) g _ _ _ hM (by omega) (by have e9 := ht.up hway; rw [er] at e9; exact e9)) ⟨Or.inr (rfl), Or.inr (rfl), Or.inl rfl, trivial⟩
        · refine ez_lookup (q := 250) (off := 214) dX2_findSets_36 (by decide) (by decide) (by decide) ?_
          have hway : wayB (s k) = false := decide_eq_false (by omega)
          have hs := (wf_w hwf hi).symm.trans hway
          have hc2 : s k = 38 ∨ s k = 124 := by omega
          obtain ⟨h1, h1s, h2, h2s⟩ := wf_two hwf hi hs hc2
          obtain ⟨b1, b2⟩ := wf_pt hwf h1 h1s
          have q0 := (ht (k + 1) (by omega) h1).2 ((wf_w hwf h1).trans h1s)
          have t0 := (hle (k + 1) (by omega) h1).2 ((wf_w hwf h1).trans h1s)
          have q1 := (ht (k + 1 + leW m s (k + 1)) (by omega) h2).2 ((wf_w hwf h2).trans h2s)
          have er : roW T n' f L m s k = 0 := roW_0 (by omega)
          refine ez_aload_n (q := 251) 0 dX2_findSets_250 rfl rfl rfl ?_
          refine ez_getf (q := 254) dX2_findSets_251 fl_X2_26 hM.2.1 rfl rfl ?_
          refine ez_iload_n (q := 255) 1 dX2_findSets_254 rfl rfl rfl ?_
          refine ez_aload_n (q := 256) 0 dX2_findSets_255 rfl rfl rfl ?_
          refine ez_iload_n (q := 257) 2 dX2_findSets_256 rfl rfl rfl ?_
          refine cPv (q := 260) dX2_findSets_257 ck_X2_58 hM.2.1 (t_X2_setAt hM.me hm (by omega)) rfl ⟨by decide, rfl⟩ rfl rfl rfl (Nat.le_of_ble_eq_true rfl) rfl ?_
          refine ez_top ((if_pos h1).trans q0.1) ?_
          refine ez_aload_n (q := 261) 0 dX2_findSets_260 rfl rfl rfl ?_
          refine ez_aload_n (q := 262) 0 dX2_findSets_261 rfl rfl rfl ?_
          refine ez_iload_n (q := 263) 2 dX2_findSets_262 rfl rfl rfl ?_
          refine cPv (q := 266) dX2_findSets_263 ck_X2_87 hM.2.1 (t_X2_behind hM.me hm (by omega)) rfl ⟨by decide, rfl⟩ rfl rfl rfl (Nat.le_of_ble_eq_true rfl) rfl ?_
          refine ez_top (((if_pos h1).trans (by rw [t0.1, nI_add] : _ = nI (k + 1 + leW m s (k + 1))))) ?_
          refine cPv (q := 269) dX2_findSets_266 ck_X2_58 hM.2.1 (t_X2_setAt hM.me hm (by omega)) rfl ⟨by decide, rfl⟩ rfl rfl rfl (Nat.le_of_ble_eq_true rfl) rfl ?_
          refine ez_top ((if_pos h2).trans q1.1) ?_
          refine ez_iandN (q := 270) dX2_findSets_269 rfl ?_
          refine ez_top (y := nI (seW T n' f L m s (k))) (congrArg nI (by rw [seW_and hi hcs])) ?_
          refine sMF_mt (q := 271) dX2_findSets_270 hM rfl (by omega) rfl (fun g hM => ?_)
          refine ez_goto (q := 336) dX2_findSets_271 (by decide) ?_
          refine ez_aload_n (q := 337) 0 dX2_findSets_336 rfl rfl rfl ?_
          refine ez_getf (q := 340) dX2_findSets_337 fl_X2_29 hM.2.1 rfl rfl ?_
          refine ez_iload_n (q := 341) 1 dX2_findSets_340 rfl rfl rfl ?_
          refine ez_aload_n (q := 342) 0 dX2_findSets_341 rfl rfl rfl ?_
          refine ez_getf (q := 345) dX2_findSets_342 fl_X2_26 hM.2.1 rfl rfl ?_
          refine ez_iload_n (q := 346) 1 dX2_findSets_345 rfl rfl rfl ?_
          refine ez_iald (q := 347) dX2_findSets_346 hM.2.2.2.2.2.1 rfl (by omega) (by decide) rfl ?_
          refine ez_top (up_eq _ _ _) ?_
          refine ez_iconst (v := -1) (q := 348) dX2_findSets_347 (by decide) rfl ?_
          refine ez_icmpne (q := 351) (tgt := 355) dX2_findSets_348 (by decide) rfl (fun hc348 => ?_) (fun hc348 => ?_)
          · first
            | exact absurd rfl hc348
            | skip
              refine ez_aload_n (q := 356) 0 dX2_findSets_355 rfl rfl rfl ?_
              refine ez_getf (q := 359) dX2_findSets_356 fl_X2_41 hM.2.1 rfl rfl ?_
              refine ez_getf (q := 362) dX2_findSets_359 fl_X2_90 hM.2.2.2.2.2.2.2.1 rfl rfl ?_
              skip
              refine sMF_mr (q := 363) dX2_findSets_362 hM rfl (by omega) rfl (fun g hM => ?_)
              refine ez_iinc_1 (v := dI k) (q := 366) dX2_findSets_363 (dI_dec k) (by decide) rfl rfl ?_
              refine ez_goto (q := 14) dX2_findSets_366 (by decide) ?_
              first
              | exact E.fg (ih14 k (by omega) g _ _ _ hM (by omega) (ht.upw hway)) ⟨Or.inr (rfl), Or.inr (rfl), Or.inl rfl, trivial⟩
              | exact E.fg (ih14 k (by omega) g _ _ _ hM (by omega) (ht.up hway)) ⟨Or.inr (rfl), Or.inr (rfl), Or.inl rfl, trivial⟩
              | exact E.fg (ih14 k (by omega) g _ _ _ hM (by omega) (by have e9 := ht.up hway; rw [er] at e9; exact e9)) ⟨Or.inr (rfl), Or.inr (rfl), Or.inl rfl, trivial⟩
          · first
            | exact absurd hc348 (nI_m1 (lt31 (seW_l _ _ _ _ _ _ _) hn))
            | skip
              refine ez_iconst (v := -1) (q := 352) dX2_findSets_351 (by decide) rfl ?_
              refine ez_goto (q := 362) dX2_findSets_352 (by decide) ?_
              skip
              refine sMF_mr (q := 363) dX2_findSets_362 hM rfl (by omega) rfl (fun g hM => ?_)
              refine ez_iinc_1 (v := dI k) (q := 366) dX2_findSets_363 (dI_dec k) (by decide) rfl rfl ?_
              refine ez_goto (q := 14) dX2_findSets_366 (by decide) ?_
              first
              | exact E.fg (ih14 k (by omega) g _ _ _ hM (by omega) (ht.upw hway)) ⟨Or.inr (rfl), Or.inr (rfl), Or.inl rfl, trivial⟩
              | exact E.fg (ih14 k (by omega) g _ _ _ hM (by omega) (ht.up hway)) ⟨Or.inr (rfl), Or.inr (rfl), Or.inl rfl, trivial⟩
              | exact E.fg (ih14 k (by omega) g _ _ _ hM (by omega) (by have e9 := ht.up hway; rw [er] at e9; exact e9)) ⟨Or.inr (rfl), Or.inr (rfl), Or.inl rfl, trivial⟩
        · refine ez_lookup (q := 177) (off := 141) dX2_findSets_36 (by decide) (by decide) (by decide) ?_
          have hway : wayB (s k) = false := decide_eq_false (by omega)
          have hs := (wf_w hwf hi).symm.trans hway
          have hc2 : s k = 69 ∨ s k = 65 := by omega
          obtain ⟨hk4, h2, h2s, h2u⟩ := wf_ea hwf hi hs hc2
          obtain ⟨b1, b2⟩ := wf_pt hwf h2 h2s
          have q0 := (ht (k + 2) (by omega) h2).2 ((wf_w hwf h2).trans h2s)
          have t0 := (hle (k + 2) (by omega) h2).2 ((wf_w hwf h2).trans h2s)
          have hv : (if k + 2 + leW m s (k + 2) < m then mt (k + 2 + leW m s (k + 2)) else nI 0) = nI (seW T n' f L m s (k + 2 + leW m s (k + 2))) := by by_cases h9 : k + 2 + leW m s (k + 2) < m; { rw [if_pos h9]; exact ((ht (k + 2 + leW m s (k + 2)) (by omega) h9).2 ((wf_w hwf h9).trans (by rw [b2]))).1 }; { rw [if_neg h9, seW, if_neg h9] }
          refine ez_aload_n (q := 178) 0 dX2_findSets_177 rfl rfl rfl ?_
          refine ez_getf (q := 181) dX2_findSets_178 fl_X2_26 hM.2.1 rfl rfl ?_
          refine ez_iload_n (q := 182) 1 dX2_findSets_181 rfl rfl rfl ?_
          refine ez_aload_n (q := 183) 0 dX2_findSets_182 rfl rfl rfl ?_
          refine ez_getf (q := 186) dX2_findSets_183 fl_X2_41 hM.2.1 rfl rfl ?_
          refine ez_getf (q := 189) dX2_findSets_186 fl_X2_96 hM.2.2.2.2.2.2.2.1 rfl rfl ?_
          refine ez_aload_n (q := 190) 0 dX2_findSets_189 rfl rfl rfl ?_
          refine ez_getf (q := 193) dX2_findSets_190 fl_X2_41 hM.2.1 rfl rfl ?_
          refine ez_aload_n (q := 194) 0 dX2_findSets_193 rfl rfl rfl ?_
          refine ez_iload_n (q := 195) 2 dX2_findSets_194 rfl rfl rfl ?_
          refine cPv (q := 198) dX2_findSets_195 ck_X2_75 hM.2.1 (t_X2_signAt (c := s (k + 1)) hM.me hm (fun h9 => hgg (k + 1) (Nat.zero_le _) h9) (wf_c hwf (by omega)) (by omega)) rfl ⟨by decide, rfl⟩ rfl rfl rfl (Nat.le_of_ble_eq_true rfl) rfl ?_
          rw [if_pos (show k + 1 < m by omega)]
          refine ez_aload_n (q := 199) 0 dX2_findSets_198 rfl rfl rfl ?_
          refine ez_iload_n (q := 200) 2 dX2_findSets_199 rfl rfl rfl ?_
          refine ez_iconst (v := nI 1) (q := 201) dX2_findSets_200 (by decide) rfl ?_
          refine ez_iadd (q := 202) dX2_findSets_201 rfl ?_
          refine cPv (q := 205) dX2_findSets_202 ck_X2_58 hM.2.1 (t_X2_setAt hM.me hm (by omega)) rfl ⟨by decide, rfl⟩ rfl rfl rfl (Nat.le_of_ble_eq_true rfl) rfl ?_
          refine ez_top ((if_pos h2).trans q0.1) ?_
          refine ez_aload_n (q := 206) 0 dX2_findSets_205 rfl rfl rfl ?_
          refine ez_aload_n (q := 207) 0 dX2_findSets_206 rfl rfl rfl ?_
          refine ez_iload_n (q := 208) 2 dX2_findSets_207 rfl rfl rfl ?_
          refine ez_iconst (v := nI 1) (q := 209) dX2_findSets_208 (by decide) rfl ?_
          refine ez_iadd (q := 210) dX2_findSets_209 rfl ?_
          refine cPv (q := 213) dX2_findSets_210 ck_X2_87 hM.2.1 (t_X2_behind hM.me hm (by omega)) rfl ⟨by decide, rfl⟩ rfl rfl rfl (Nat.le_of_ble_eq_true rfl) rfl ?_
          refine ez_top (((if_pos h2).trans (by rw [t0.1, nI_add] : _ = nI (k + 2 + leW m s (k + 2))))) ?_
          refine cPv (q := 216) dX2_findSets_213 ck_X2_58 hM.2.1 (t_X2_setAt hM.me hm (by omega)) rfl ⟨by decide, rfl⟩ rfl rfl rfl (Nat.le_of_ble_eq_true rfl) rfl ?_
          refine ez_top (hv) ?_
          refine cXv (q := 219) dX2_findSets_216 ck_X2_99 hM.2.2.2.2.2.2.2.1 (t_X0_onSomeWayNot hM.fw (hS.to (fun j a b => hM.fr j (by omega))) ho (by omega) hk4) rfl ⟨by decide, rfl⟩ rfl rfl rfl (Nat.le_of_ble_eq_true rfl) rfl (fun g hW => ?_)
          have hM := hM.set_fw hW
          have er := roW_A (T := T) (n := n') (f := f) (L := L) (m := m) hcs
          rw [evR_i hk4] at er
          rw [Nat.zero_add, ← er] at hM
          refine ez_iconst (v := -1) (q := 220) dX2_findSets_219 (by decide) rfl ?_
          refine ez_ixor (q := 221) dX2_findSets_220 rfl ?_
          refine ez_iandX (q := 222) dX2_findSets_221 rfl ?_
          refine ez_top (y := nI (seW T n' f L m s (k))) (congrArg nI (by rw [seW_A hi hcs, evS_i hk4])) ?_
          refine sMF_mt (q := 223) dX2_findSets_222 hM rfl (by omega) rfl (fun g hM => ?_)
          refine ez_goto (q := 336) dX2_findSets_223 (by decide) ?_
          refine ez_aload_n (q := 337) 0 dX2_findSets_336 rfl rfl rfl ?_
          refine ez_getf (q := 340) dX2_findSets_337 fl_X2_29 hM.2.1 rfl rfl ?_
          refine ez_iload_n (q := 341) 1 dX2_findSets_340 rfl rfl rfl ?_
          refine ez_aload_n (q := 342) 0 dX2_findSets_341 rfl rfl rfl ?_
          refine ez_getf (q := 345) dX2_findSets_342 fl_X2_26 hM.2.1 rfl rfl ?_
          refine ez_iload_n (q := 346) 1 dX2_findSets_345 rfl rfl rfl ?_
          refine ez_iald (q := 347) dX2_findSets_346 hM.2.2.2.2.2.1 rfl (by omega) (by decide) rfl ?_
          refine ez_top (up_eq _ _ _) ?_
          refine ez_iconst (v := -1) (q := 348) dX2_findSets_347 (by decide) rfl ?_
          refine ez_icmpne (q := 351) (tgt := 355) dX2_findSets_348 (by decide) rfl (fun hc348 => ?_) (fun hc348 => ?_)
          · first
            | exact absurd rfl hc348
            | skip
              refine ez_aload_n (q := 356) 0 dX2_findSets_355 rfl rfl rfl ?_
              refine ez_getf (q := 359) dX2_findSets_356 fl_X2_41 hM.2.1 rfl rfl ?_
              refine ez_getf (q := 362) dX2_findSets_359 fl_X2_90 hM.2.2.2.2.2.2.2.1 rfl rfl ?_
              skip
              refine sMF_mr (q := 363) dX2_findSets_362 hM rfl (by omega) rfl (fun g hM => ?_)
              refine ez_iinc_1 (v := dI k) (q := 366) dX2_findSets_363 (dI_dec k) (by decide) rfl rfl ?_
              refine ez_goto (q := 14) dX2_findSets_366 (by decide) ?_
              first
              | exact E.fg (ih14 k (by omega) g _ _ _ hM (by omega) (ht.upw hway)) ⟨Or.inr (rfl), Or.inr (rfl), Or.inl rfl, trivial⟩
              | exact E.fg (ih14 k (by omega) g _ _ _ hM (by omega) (ht.up hway)) ⟨Or.inr (rfl), Or.inr (rfl), Or.inl rfl, trivial⟩
              | exact E.fg (ih14 k (by omega) g _ _ _ hM (by omega) (by have e9 := ht.up hway; rw [er] at e9; exact e9)) ⟨Or.inr (rfl), Or.inr (rfl), Or.inl rfl, trivial⟩
          · first
            | exact absurd hc348 (nI_m1 (lt31 (seW_l _ _ _ _ _ _ _) hn))
            | skip
              refine ez_iconst (v := -1) (q := 352) dX2_findSets_351 (by decide) rfl ?_
              refine ez_goto (q := 362) dX2_findSets_352 (by decide) ?_
              skip
              refine sMF_mr (q := 363) dX2_findSets_362 hM rfl (by omega) rfl (fun g hM => ?_)
              refine ez_iinc_1 (v := dI k) (q := 366) dX2_findSets_363 (dI_dec k) (by decide) rfl rfl ?_
              refine ez_goto (q := 14) dX2_findSets_366 (by decide) ?_
              first
              | exact E.fg (ih14 k (by omega) g _ _ _ hM (by omega) (ht.upw hway)) ⟨Or.inr (rfl), Or.inr (rfl), Or.inl rfl, trivial⟩
              | exact E.fg (ih14 k (by omega) g _ _ _ hM (by omega) (ht.up hway)) ⟨Or.inr (rfl), Or.inr (rfl), Or.inl rfl, trivial⟩
              | exact E.fg (ih14 k (by omega) g _ _ _ hM (by omega) (by have e9 := ht.up hway; rw [er] at e9; exact e9)) ⟨Or.inr (rfl), Or.inr (rfl), Or.inl rfl, trivial⟩
        · refine ez_lookup (q := 138) (off := 102) dX2_findSets_36 (by decide) (by decide) (by decide) ?_
          have hway : wayB (s k) = false := decide_eq_false (by omega)
          have hs := (wf_w hwf hi).symm.trans hway
          have hc2 : s k = 69 ∨ s k = 65 := by omega
          obtain ⟨hk4, h2, h2s, h2u⟩ := wf_ea hwf hi hs hc2
          obtain ⟨b1, b2⟩ := wf_pt hwf h2 h2s
          have q0 := (ht (k + 2) (by omega) h2).2 ((wf_w hwf h2).trans h2s)
          have t0 := (hle (k + 2) (by omega) h2).2 ((wf_w hwf h2).trans h2s)
          have hv : (if k + 2 + leW m s (k + 2) < m then mt (k + 2 + leW m s (k + 2)) else nI 0) = nI (seW T n' f L m s (k + 2 + leW m s (k + 2))) := by by_cases h9 : k + 2 + leW m s (k + 2) < m; { rw [if_pos h9]; exact ((ht (k + 2 + leW m s (k + 2)) (by omega) h9).2 ((wf_w hwf h9).trans (by rw [b2]))).1 }; { rw [if_neg h9, seW, if_neg h9] }
          refine ez_aload_n (q := 139) 0 dX2_findSets_138 rfl rfl rfl ?_
          refine ez_getf (q := 142) dX2_findSets_139 fl_X2_26 hM.2.1 rfl rfl ?_
          refine ez_iload_n (q := 143) 1 dX2_findSets_142 rfl rfl rfl ?_
          refine ez_aload_n (q := 144) 0 dX2_findSets_143 rfl rfl rfl ?_
          refine ez_getf (q := 147) dX2_findSets_144 fl_X2_41 hM.2.1 rfl rfl ?_
          refine ez_aload_n (q := 148) 0 dX2_findSets_147 rfl rfl rfl ?_
          refine ez_iload_n (q := 149) 2 dX2_findSets_148 rfl rfl rfl ?_
          refine cPv (q := 152) dX2_findSets_149 ck_X2_75 hM.2.1 (t_X2_signAt (c := s (k + 1)) hM.me hm (fun h9 => hgg (k + 1) (Nat.zero_le _) h9) (wf_c hwf (by omega)) (by omega)) rfl ⟨by decide, rfl⟩ rfl rfl rfl (Nat.le_of_ble_eq_true rfl) rfl ?_
          rw [if_pos (show k + 1 < m by omega)]
          refine ez_aload_n (q := 153) 0 dX2_findSets_152 rfl rfl rfl ?_
          refine ez_iload_n (q := 154) 2 dX2_findSets_153 rfl rfl rfl ?_
          refine ez_iconst (v := nI 1) (q := 155) dX2_findSets_154 (by decide) rfl ?_
          refine ez_iadd (q := 156) dX2_findSets_155 rfl ?_
          refine cPv (q := 159) dX2_findSets_156 ck_X2_58 hM.2.1 (t_X2_setAt hM.me hm (by omega)) rfl ⟨by decide, rfl⟩ rfl rfl rfl (Nat.le_of_ble_eq_true rfl) rfl ?_
          refine ez_top ((if_pos h2).trans q0.1) ?_
          refine ez_aload_n (q := 160) 0 dX2_findSets_159 rfl rfl rfl ?_
          refine ez_aload_n (q := 161) 0 dX2_findSets_160 rfl rfl rfl ?_
          refine ez_iload_n (q := 162) 2 dX2_findSets_161 rfl rfl rfl ?_
          refine ez_iconst (v := nI 1) (q := 163) dX2_findSets_162 (by decide) rfl ?_
          refine ez_iadd (q := 164) dX2_findSets_163 rfl ?_
          refine cPv (q := 167) dX2_findSets_164 ck_X2_87 hM.2.1 (t_X2_behind hM.me hm (by omega)) rfl ⟨by decide, rfl⟩ rfl rfl rfl (Nat.le_of_ble_eq_true rfl) rfl ?_
          refine ez_top (((if_pos h2).trans (by rw [t0.1, nI_add] : _ = nI (k + 2 + leW m s (k + 2))))) ?_
          refine cPv (q := 170) dX2_findSets_167 ck_X2_58 hM.2.1 (t_X2_setAt hM.me hm (by omega)) rfl ⟨by decide, rfl⟩ rfl rfl rfl (Nat.le_of_ble_eq_true rfl) rfl ?_
          refine ez_top (hv) ?_
          refine cXv (q := 173) dX2_findSets_170 ck_X2_92 hM.2.2.2.2.2.2.2.1 (t_X0_onSomeWay hM.fw (hS.to (fun j a b => hM.fr j (by omega))) ho (by omega) hk4 (seW_l _ _ _ _ _ _ _)) rfl ⟨by decide, rfl⟩ rfl rfl rfl (Nat.le_of_ble_eq_true rfl) rfl (fun g hW => ?_)
          have hM := hM.set_fw hW
          have er := roW_E (T := T) (n := n') (f := f) (L := L) (m := m) hcs
          rw [someR_i hk4] at er
          rw [Nat.zero_add, ← er] at hM
          refine ez_top (y := nI (seW T n' f L m s (k))) (congrArg nI (by rw [seW_E hi hcs, someS_i hk4])) ?_
          refine sMF_mt (q := 174) dX2_findSets_173 hM rfl (by omega) rfl (fun g hM => ?_)
          refine ez_goto (q := 336) dX2_findSets_174 (by decide) ?_
          refine ez_aload_n (q := 337) 0 dX2_findSets_336 rfl rfl rfl ?_
          refine ez_getf (q := 340) dX2_findSets_337 fl_X2_29 hM.2.1 rfl rfl ?_
          refine ez_iload_n (q := 341) 1 dX2_findSets_340 rfl rfl rfl ?_
          refine ez_aload_n (q := 342) 0 dX2_findSets_341 rfl rfl rfl ?_
          refine ez_getf (q := 345) dX2_findSets_342 fl_X2_26 hM.2.1 rfl rfl ?_
          refine ez_iload_n (q := 346) 1 dX2_findSets_345 rfl rfl rfl ?_
          refine ez_iald (q := 347) dX2_findSets_346 hM.2.2.2.2.2.1 rfl (by omega) (by decide) rfl ?_
          refine ez_top (up_eq _ _ _) ?_
          refine ez_iconst (v := -1) (q := 348) dX2_findSets_347 (by decide) rfl ?_
          refine ez_icmpne (q := 351) (tgt := 355) dX2_findSets_348 (by decide) rfl (fun hc348 => ?_) (fun hc348 => ?_)
          · first
            | exact absurd rfl hc348
            | skip
              refine ez_aload_n (q := 356) 0 dX2_findSets_355 rfl rfl rfl ?_
              refine ez_getf (q := 359) dX2_findSets_356 fl_X2_41 hM.2.1 rfl rfl ?_
              refine ez_getf (q := 362) dX2_findSets_359 fl_X2_90 hM.2.2.2.2.2.2.2.1 rfl rfl ?_
              skip
              refine sMF_mr (q := 363) dX2_findSets_362 hM rfl (by omega) rfl (fun g hM => ?_)
              refine ez_iinc_1 (v := dI k) (q := 366) dX2_findSets_363 (dI_dec k) (by decide) rfl rfl ?_
              refine ez_goto (q := 14) dX2_findSets_366 (by decide) ?_
              first
              | exact E.fg (ih14 k (by omega) g _ _ _ hM (by omega) (ht.upw hway)) ⟨Or.inr (rfl), Or.inr (rfl), Or.inl rfl, trivial⟩
              | exact E.fg (ih14 k (by omega) g _ _ _ hM (by omega) (ht.up hway)) ⟨Or.inr (rfl), Or.inr (rfl), Or.inl rfl, trivial⟩
              | exact E.fg (ih14 k (by omega) g _ _ _ hM (by omega) (by have e9 := ht.up hway; rw [er] at e9; exact e9)) ⟨Or.inr (rfl), Or.inr (rfl), Or.inl rfl, trivial⟩
          · first
            | exact absurd hc348 (nI_m1 (lt31 (seW_l _ _ _ _ _ _ _) hn))
            | skip
              refine ez_iconst (v := -1) (q := 352) dX2_findSets_351 (by decide) rfl ?_
              refine ez_goto (q := 362) dX2_findSets_352 (by decide) ?_
              skip
              refine sMF_mr (q := 363) dX2_findSets_362 hM rfl (by omega) rfl (fun g hM => ?_)
              refine ez_iinc_1 (v := dI k) (q := 366) dX2_findSets_363 (dI_dec k) (by decide) rfl rfl ?_
              refine ez_goto (q := 14) dX2_findSets_366 (by decide) ?_
              first
              | exact E.fg (ih14 k (by omega) g _ _ _ hM (by omega) (ht.upw hway)) ⟨Or.inr (rfl), Or.inr (rfl), Or.inl rfl, trivial⟩
              | exact E.fg (ih14 k (by omega) g _ _ _ hM (by omega) (ht.up hway)) ⟨Or.inr (rfl), Or.inr (rfl), Or.inl rfl, trivial⟩
              | exact E.fg (ih14 k (by omega) g _ _ _ hM (by omega) (by have e9 := ht.up hway; rw [er] at e9; exact e9)) ⟨Or.inr (rfl), Or.inr (rfl), Or.inl rfl, trivial⟩
        · refine ez_lookup (q := 128) (off := 92) dX2_findSets_36 (by decide) (by decide) (by decide) ?_
          have hway : wayB (s k) = true := decide_eq_true (by omega)
          refine ez_aload_n (q := 129) 0 dX2_findSets_128 rfl rfl rfl ?_
          refine ez_getf (q := 132) dX2_findSets_129 fl_X2_26 hM.2.1 rfl rfl ?_
          refine ez_iload_n (q := 133) 1 dX2_findSets_132 rfl rfl rfl ?_
          refine ez_iconst (v := -1) (q := 134) dX2_findSets_133 (by decide) rfl ?_
          refine sMF_mt (q := 135) dX2_findSets_134 hM rfl (by omega) rfl (fun g hM => ?_)
          refine ez_goto (q := 336) dX2_findSets_135 (by decide) ?_
          refine ez_aload_n (q := 337) 0 dX2_findSets_336 rfl rfl rfl ?_
          refine ez_getf (q := 340) dX2_findSets_337 fl_X2_29 hM.2.1 rfl rfl ?_
          refine ez_iload_n (q := 341) 1 dX2_findSets_340 rfl rfl rfl ?_
          refine ez_aload_n (q := 342) 0 dX2_findSets_341 rfl rfl rfl ?_
          refine ez_getf (q := 345) dX2_findSets_342 fl_X2_26 hM.2.1 rfl rfl ?_
          refine ez_iload_n (q := 346) 1 dX2_findSets_345 rfl rfl rfl ?_
          refine ez_iald (q := 347) dX2_findSets_346 hM.2.2.2.2.2.1 rfl (by omega) (by decide) rfl ?_
          refine ez_top (up_eq _ _ _) ?_
          refine ez_iconst (v := -1) (q := 348) dX2_findSets_347 (by decide) rfl ?_
          refine ez_icmpne (q := 351) (tgt := 355) dX2_findSets_348 (by decide) rfl (fun hc348 => ?_) (fun hc348 => ?_)
          · first
            | exact absurd rfl hc348
            | skip
              refine ez_aload_n (q := 356) 0 dX2_findSets_355 rfl rfl rfl ?_
              refine ez_getf (q := 359) dX2_findSets_356 fl_X2_41 hM.2.1 rfl rfl ?_
              refine ez_getf (q := 362) dX2_findSets_359 fl_X2_90 hM.2.2.2.2.2.2.2.1 rfl rfl ?_
              skip
              refine sMF_mr (q := 363) dX2_findSets_362 hM rfl (by omega) rfl (fun g hM => ?_)
              refine ez_iinc_1 (v := dI k) (q := 366) dX2_findSets_363 (dI_dec k) (by decide) rfl rfl ?_
              refine ez_goto (q := 14) dX2_findSets_366 (by decide) ?_
              first
              | exact E.fg (ih14 k (by omega) g _ _ _ hM (by omega) (ht.upw hway)) ⟨Or.inr (rfl), Or.inr (rfl), Or.inl rfl, trivial⟩
              | exact E.fg (ih14 k (by omega) g _ _ _ hM (by omega) (ht.up hway)) ⟨Or.inr (rfl), Or.inr (rfl), Or.inl rfl, trivial⟩
              | exact E.fg (ih14 k (by omega) g _ _ _ hM (by omega) (by have e9 := ht.up hway; rw [er] at e9; exact e9)) ⟨Or.inr (rfl), Or.inr (rfl), Or.inl rfl, trivial⟩
          · first
            | exact absurd hc348 (nI_m1 (lt31 (seW_l _ _ _ _ _ _ _) hn))
            | skip
              refine ez_iconst (v := -1) (q := 352) dX2_findSets_351 (by decide) rfl ?_
              refine ez_goto (q := 362) dX2_findSets_352 (by decide) ?_
              skip
              refine sMF_mr (q := 363) dX2_findSets_362 hM rfl (by omega) rfl (fun g hM => ?_)
              refine ez_iinc_1 (v := dI k) (q := 366) dX2_findSets_363 (dI_dec k) (by decide) rfl rfl ?_
              refine ez_goto (q := 14) dX2_findSets_366 (by decide) ?_
              first
              | exact E.fg (ih14 k (by omega) g _ _ _ hM (by omega) (ht.upw hway)) ⟨Or.inr (rfl), Or.inr (rfl), Or.inl rfl, trivial⟩
              | exact E.fg (ih14 k (by omega) g _ _ _ hM (by omega) (ht.up hway)) ⟨Or.inr (rfl), Or.inr (rfl), Or.inl rfl, trivial⟩
              | exact E.fg (ih14 k (by omega) g _ _ _ hM (by omega) (by have e9 := ht.up hway; rw [er] at e9; exact e9)) ⟨Or.inr (rfl), Or.inr (rfl), Or.inl rfl, trivial⟩
        · refine ez_lookup (q := 128) (off := 92) dX2_findSets_36 (by decide) (by decide) (by decide) ?_
          have hway : wayB (s k) = true := decide_eq_true (by omega)
          refine ez_aload_n (q := 129) 0 dX2_findSets_128 rfl rfl rfl ?_
          refine ez_getf (q := 132) dX2_findSets_129 fl_X2_26 hM.2.1 rfl rfl ?_
          refine ez_iload_n (q := 133) 1 dX2_findSets_132 rfl rfl rfl ?_
          refine ez_iconst (v := -1) (q := 134) dX2_findSets_133 (by decide) rfl ?_
          refine sMF_mt (q := 135) dX2_findSets_134 hM rfl (by omega) rfl (fun g hM => ?_)
          refine ez_goto (q := 336) dX2_findSets_135 (by decide) ?_
          refine ez_aload_n (q := 337) 0 dX2_findSets_336 rfl rfl rfl ?_
          refine ez_getf (q := 340) dX2_findSets_337 fl_X2_29 hM.2.1 rfl rfl ?_
          refine ez_iload_n (q := 341) 1 dX2_findSets_340 rfl rfl rfl ?_
          refine ez_aload_n (q := 342) 0 dX2_findSets_341 rfl rfl rfl ?_
          refine ez_getf (q := 345) dX2_findSets_342 fl_X2_26 hM.2.1 rfl rfl ?_
          refine ez_iload_n (q := 346) 1 dX2_findSets_345 rfl rfl rfl ?_
          refine ez_iald (q := 347) dX2_findSets_346 hM.2.2.2.2.2.1 rfl (by omega) (by decide) rfl ?_
          refine ez_top (up_eq _ _ _) ?_
          refine ez_iconst (v := -1) (q := 348) dX2_findSets_347 (by decide) rfl ?_
          refine ez_icmpne (q := 351) (tgt := 355) dX2_findSets_348 (by decide) rfl (fun hc348 => ?_) (fun hc348 => ?_)
          · first
            | exact absurd rfl hc348
            | skip
              refine ez_aload_n (q := 356) 0 dX2_findSets_355 rfl rfl rfl ?_
              refine ez_getf (q := 359) dX2_findSets_356 fl_X2_41 hM.2.1 rfl rfl ?_
              refine ez_getf (q := 362) dX2_findSets_359 fl_X2_90 hM.2.2.2.2.2.2.2.1 rfl rfl ?_
              skip
              refine sMF_mr (q := 363) dX2_findSets_362 hM rfl (by omega) rfl (fun g hM => ?_)
              refine ez_iinc_1 (v := dI k) (q := 366) dX2_findSets_363 (dI_dec k) (by decide) rfl rfl ?_
              refine ez_goto (q := 14) dX2_findSets_366 (by decide) ?_
              first
              | exact E.fg (ih14 k (by omega) g _ _ _ hM (by omega) (ht.upw hway)) ⟨Or.inr (rfl), Or.inr (rfl), Or.inl rfl, trivial⟩
              | exact E.fg (ih14 k (by omega) g _ _ _ hM (by omega) (ht.up hway)) ⟨Or.inr (rfl), Or.inr (rfl), Or.inl rfl, trivial⟩
              | exact E.fg (ih14 k (by omega) g _ _ _ hM (by omega) (by have e9 := ht.up hway; rw [er] at e9; exact e9)) ⟨Or.inr (rfl), Or.inr (rfl), Or.inl rfl, trivial⟩
          · first
            | exact absurd hc348 (nI_m1 (lt31 (seW_l _ _ _ _ _ _ _) hn))
            | skip
              refine ez_iconst (v := -1) (q := 352) dX2_findSets_351 (by decide) rfl ?_
              refine ez_goto (q := 362) dX2_findSets_352 (by decide) ?_
              skip
              refine sMF_mr (q := 363) dX2_findSets_362 hM rfl (by omega) rfl (fun g hM => ?_)
              refine ez_iinc_1 (v := dI k) (q := 366) dX2_findSets_363 (dI_dec k) (by decide) rfl rfl ?_
              refine ez_goto (q := 14) dX2_findSets_366 (by decide) ?_
              first
              | exact E.fg (ih14 k (by omega) g _ _ _ hM (by omega) (ht.upw hway)) ⟨Or.inr (rfl), Or.inr (rfl), Or.inl rfl, trivial⟩
              | exact E.fg (ih14 k (by omega) g _ _ _ hM (by omega) (ht.up hway)) ⟨Or.inr (rfl), Or.inr (rfl), Or.inl rfl, trivial⟩
              | exact E.fg (ih14 k (by omega) g _ _ _ hM (by omega) (by have e9 := ht.up hway; rw [er] at e9; exact e9)) ⟨Or.inr (rfl), Or.inr (rfl), Or.inl rfl, trivial⟩
        · refine ez_lookup (q := 128) (off := 92) dX2_findSets_36 (by decide) (by decide) (by decide) ?_
          have hway : wayB (s k) = true := decide_eq_true (by omega)
          refine ez_aload_n (q := 129) 0 dX2_findSets_128 rfl rfl rfl ?_
          refine ez_getf (q := 132) dX2_findSets_129 fl_X2_26 hM.2.1 rfl rfl ?_
          refine ez_iload_n (q := 133) 1 dX2_findSets_132 rfl rfl rfl ?_
          refine ez_iconst (v := -1) (q := 134) dX2_findSets_133 (by decide) rfl ?_
          refine sMF_mt (q := 135) dX2_findSets_134 hM rfl (by omega) rfl (fun g hM => ?_)
          refine ez_goto (q := 336) dX2_findSets_135 (by decide) ?_
          refine ez_aload_n (q := 337) 0 dX2_findSets_336 rfl rfl rfl ?_
          refine ez_getf (q := 340) dX2_findSets_337 fl_X2_29 hM.2.1 rfl rfl ?_
          refine ez_iload_n (q := 341) 1 dX2_findSets_340 rfl rfl rfl ?_
          refine ez_aload_n (q := 342) 0 dX2_findSets_341 rfl rfl rfl ?_
          refine ez_getf (q := 345) dX2_findSets_342 fl_X2_26 hM.2.1 rfl rfl ?_
          refine ez_iload_n (q := 346) 1 dX2_findSets_345 rfl rfl rfl ?_
          refine ez_iald (q := 347) dX2_findSets_346 hM.2.2.2.2.2.1 rfl (by omega) (by decide) rfl ?_
          refine ez_top (up_eq _ _ _) ?_
          refine ez_iconst (v := -1) (q := 348) dX2_findSets_347 (by decide) rfl ?_
          refine ez_icmpne (q := 351) (tgt := 355) dX2_findSets_348 (by decide) rfl (fun hc348 => ?_) (fun hc348 => ?_)
          · first
            | exact absurd rfl hc348
            | skip
              refine ez_aload_n (q := 356) 0 dX2_findSets_355 rfl rfl rfl ?_
              refine ez_getf (q := 359) dX2_findSets_356 fl_X2_41 hM.2.1 rfl rfl ?_
              refine ez_getf (q := 362) dX2_findSets_359 fl_X2_90 hM.2.2.2.2.2.2.2.1 rfl rfl ?_
              skip
              refine sMF_mr (q := 363) dX2_findSets_362 hM rfl (by omega) rfl (fun g hM => ?_)
              refine ez_iinc_1 (v := dI k) (q := 366) dX2_findSets_363 (dI_dec k) (by decide) rfl rfl ?_
              refine ez_goto (q := 14) dX2_findSets_366 (by decide) ?_
              first
              | exact E.fg (ih14 k (by omega) g _ _ _ hM (by omega) (ht.upw hway)) ⟨Or.inr (rfl), Or.inr (rfl), Or.inl rfl, trivial⟩
              | exact E.fg (ih14 k (by omega) g _ _ _ hM (by omega) (ht.up hway)) ⟨Or.inr (rfl), Or.inr (rfl), Or.inl rfl, trivial⟩
              | exact E.fg (ih14 k (by omega) g _ _ _ hM (by omega) (by have e9 := ht.up hway; rw [er] at e9; exact e9)) ⟨Or.inr (rfl), Or.inr (rfl), Or.inl rfl, trivial⟩
          · first
            | exact absurd hc348 (nI_m1 (lt31 (seW_l _ _ _ _ _ _ _) hn))
            | skip
              refine ez_iconst (v := -1) (q := 352) dX2_findSets_351 (by decide) rfl ?_
              refine ez_goto (q := 362) dX2_findSets_352 (by decide) ?_
              skip
              refine sMF_mr (q := 363) dX2_findSets_362 hM rfl (by omega) rfl (fun g hM => ?_)
              refine ez_iinc_1 (v := dI k) (q := 366) dX2_findSets_363 (dI_dec k) (by decide) rfl rfl ?_
              refine ez_goto (q := 14) dX2_findSets_366 (by decide) ?_
              first
              | exact E.fg (ih14 k (by omega) g _ _ _ hM (by omega) (ht.upw hway)) ⟨Or.inr (rfl), Or.inr (rfl), Or.inl rfl, trivial⟩
              | exact E.fg (ih14 k (by omega) g _ _ _ hM (by omega) (ht.up hway)) ⟨Or.inr (rfl), Or.inr (rfl), Or.inl rfl, trivial⟩
              | exact E.fg (ih14 k (by omega) g _ _ _ hM (by omega) (by have e9 := ht.up hway; rw [er] at e9; exact e9)) ⟨Or.inr (rfl), Or.inr (rfl), Or.inl rfl, trivial⟩
        · refine ez_lookup (q := 128) (off := 92) dX2_findSets_36 (by decide) (by decide) (by decide) ?_
          have hway : wayB (s k) = true := decide_eq_true (by omega)
          refine ez_aload_n (q := 129) 0 dX2_findSets_128 rfl rfl rfl ?_
          refine ez_getf (q := 132) dX2_findSets_129 fl_X2_26 hM.2.1 rfl rfl ?_
          refine ez_iload_n (q := 133) 1 dX2_findSets_132 rfl rfl rfl ?_
          refine ez_iconst (v := -1) (q := 134) dX2_findSets_133 (by decide) rfl ?_
          refine sMF_mt (q := 135) dX2_findSets_134 hM rfl (by omega) rfl (fun g hM => ?_)
          refine ez_goto (q := 336) dX2_findSets_135 (by decide) ?_
          refine ez_aload_n (q := 337) 0 dX2_findSets_336 rfl rfl rfl ?_
          refine ez_getf (q := 340) dX2_findSets_337 fl_X2_29 hM.2.1 rfl rfl ?_
          refine ez_iload_n (q := 341) 1 dX2_findSets_340 rfl rfl rfl ?_
          refine ez_aload_n (q := 342) 0 dX2_findSets_341 rfl rfl rfl ?_
          refine ez_getf (q := 345) dX2_findSets_342 fl_X2_26 hM.2.1 rfl rfl ?_
          refine ez_iload_n (q := 346) 1 dX2_findSets_345 rfl rfl rfl ?_
          refine ez_iald (q := 347) dX2_findSets_346 hM.2.2.2.2.2.1 rfl (by omega) (by decide) rfl ?_
          refine ez_top (up_eq _ _ _) ?_
          refine ez_iconst (v := -1) (q := 348) dX2_findSets_347 (by decide) rfl ?_
          refine ez_icmpne (q := 351) (tgt := 355) dX2_findSets_348 (by decide) rfl (fun hc348 => ?_) (fun hc348 => ?_)
          · first
            | exact absurd rfl hc348
            | skip
              refine ez_aload_n (q := 356) 0 dX2_findSets_355 rfl rfl rfl ?_
              refine ez_getf (q := 359) dX2_findSets_356 fl_X2_41 hM.2.1 rfl rfl ?_
              refine ez_getf (q := 362) dX2_findSets_359 fl_X2_90 hM.2.2.2.2.2.2.2.1 rfl rfl ?_
              skip
              refine sMF_mr (q := 363) dX2_findSets_362 hM rfl (by omega) rfl (fun g hM => ?_)
              refine ez_iinc_1 (v := dI k) (q := 366) dX2_findSets_363 (dI_dec k) (by decide) rfl rfl ?_
              refine ez_goto (q := 14) dX2_findSets_366 (by decide) ?_
              first
              | exact E.fg (ih14 k (by omega) g _ _ _ hM (by omega) (ht.upw hway)) ⟨Or.inr (rfl), Or.inr (rfl), Or.inl rfl, trivial⟩
              | exact E.fg (ih14 k (by omega) g _ _ _ hM (by omega) (ht.up hway)) ⟨Or.inr (rfl), Or.inr (rfl), Or.inl rfl, trivial⟩
              | exact E.fg (ih14 k (by omega) g _ _ _ hM (by omega) (by have e9 := ht.up hway; rw [er] at e9; exact e9)) ⟨Or.inr (rfl), Or.inr (rfl), Or.inl rfl, trivial⟩
          · first
            | exact absurd hc348 (nI_m1 (lt31 (seW_l _ _ _ _ _ _ _) hn))
            | skip
              refine ez_iconst (v := -1) (q := 352) dX2_findSets_351 (by decide) rfl ?_
              refine ez_goto (q := 362) dX2_findSets_352 (by decide) ?_
              skip
              refine sMF_mr (q := 363) dX2_findSets_362 hM rfl (by omega) rfl (fun g hM => ?_)
              refine ez_iinc_1 (v := dI k) (q := 366) dX2_findSets_363 (dI_dec k) (by decide) rfl rfl ?_
              refine ez_goto (q := 14) dX2_findSets_366 (by decide) ?_
              first
              | exact E.fg (ih14 k (by omega) g _ _ _ hM (by omega) (ht.upw hway)) ⟨Or.inr (rfl), Or.inr (rfl), Or.inl rfl, trivial⟩
              | exact E.fg (ih14 k (by omega) g _ _ _ hM (by omega) (ht.up hway)) ⟨Or.inr (rfl), Or.inr (rfl), Or.inl rfl, trivial⟩
              | exact E.fg (ih14 k (by omega) g _ _ _ hM (by omega) (by have e9 := ht.up hway; rw [er] at e9; exact e9)) ⟨Or.inr (rfl), Or.inr (rfl), Or.inl rfl, trivial⟩
        · refine ez_lookup (q := 298) (off := 262) dX2_findSets_36 (by decide) (by decide) (by decide) ?_
          have hway : wayB (s k) = false := decide_eq_false (by omega)
          have hs := (wf_w hwf hi).symm.trans hway
          have hc1 : (97 ≤ s k ∧ s k ≤ 100) ∨ s k = 116 := by rcases (wf_one hwf hi hs).2 with ⟨a, _⟩ | ⟨a, _⟩ | ⟨a, _⟩ | ⟨a, _⟩ <;> omega
          have er : roW T n' f L m s k = 0 := roW_0 (by omega)
          refine ez_aload_n (q := 299) 0 dX2_findSets_298 rfl rfl rfl ?_
          refine ez_getf (q := 302) dX2_findSets_299 fl_X2_26 hM.2.1 rfl rfl ?_
          refine ez_iload_n (q := 303) 1 dX2_findSets_302 rfl rfl rfl ?_
          refine ez_aload_n (q := 304) 0 dX2_findSets_303 rfl rfl rfl ?_
          refine ez_getf (q := 307) dX2_findSets_304 fl_X2_41 hM.2.1 rfl rfl ?_
          refine ez_getf (q := 310) dX2_findSets_307 fl_X2_96 hM.2.2.2.2.2.2.2.1 rfl rfl ?_
          refine ez_top (y := nI (seW T n' f L m s (k))) (congrArg nI (by rw [seW_t hi hcs])) ?_
          refine sMF_mt (q := 311) dX2_findSets_310 hM rfl (by omega) rfl (fun g hM => ?_)
          refine ez_goto (q := 336) dX2_findSets_311 (by decide) ?_
          refine ez_aload_n (q := 337) 0 dX2_findSets_336 rfl rfl rfl ?_
          refine ez_getf (q := 340) dX2_findSets_337 fl_X2_29 hM.2.1 rfl rfl ?_
          refine ez_iload_n (q := 341) 1 dX2_findSets_340 rfl rfl rfl ?_
          refine ez_aload_n (q := 342) 0 dX2_findSets_341 rfl rfl rfl ?_
          refine ez_getf (q := 345) dX2_findSets_342 fl_X2_26 hM.2.1 rfl rfl ?_
          refine ez_iload_n (q := 346) 1 dX2_findSets_345 rfl rfl rfl ?_
          refine ez_iald (q := 347) dX2_findSets_346 hM.2.2.2.2.2.1 rfl (by omega) (by decide) rfl ?_
          refine ez_top (up_eq _ _ _) ?_
          refine ez_iconst (v := -1) (q := 348) dX2_findSets_347 (by decide) rfl ?_
          refine ez_icmpne (q := 351) (tgt := 355) dX2_findSets_348 (by decide) rfl (fun hc348 => ?_) (fun hc348 => ?_)
          · first
            | exact absurd rfl hc348
            | skip
              refine ez_aload_n (q := 356) 0 dX2_findSets_355 rfl rfl rfl ?_
              refine ez_getf (q := 359) dX2_findSets_356 fl_X2_41 hM.2.1 rfl rfl ?_
              refine ez_getf (q := 362) dX2_findSets_359 fl_X2_90 hM.2.2.2.2.2.2.2.1 rfl rfl ?_
              skip
              refine sMF_mr (q := 363) dX2_findSets_362 hM rfl (by omega) rfl (fun g hM => ?_)
              refine ez_iinc_1 (v := dI k) (q := 366) dX2_findSets_363 (dI_dec k) (by decide) rfl rfl ?_
              refine ez_goto (q := 14) dX2_findSets_366 (by decide) ?_
              first
              | exact E.fg (ih14 k (by omega) g _ _ _ hM (by omega) (ht.upw hway)) ⟨Or.inr (rfl), Or.inr (rfl), Or.inl rfl, trivial⟩
              | exact E.fg (ih14 k (by omega) g _ _ _ hM (by omega) (ht.up hway)) ⟨Or.inr (rfl), Or.inr (rfl), Or.inl rfl, trivial⟩
              | exact E.fg (ih14 k (by omega) g _ _ _ hM (by omega) (by have e9 := ht.up hway; rw [er] at e9; exact e9)) ⟨Or.inr (rfl), Or.inr (rfl), Or.inl rfl, trivial⟩
          · first
            | exact absurd hc348 (nI_m1 (lt31 (seW_l _ _ _ _ _ _ _) hn))
            | skip
              refine ez_iconst (v := -1) (q := 352) dX2_findSets_351 (by decide) rfl ?_
              refine ez_goto (q := 362) dX2_findSets_352 (by decide) ?_
              skip
              refine sMF_mr (q := 363) dX2_findSets_362 hM rfl (by omega) rfl (fun g hM => ?_)
              refine ez_iinc_1 (v := dI k) (q := 366) dX2_findSets_363 (dI_dec k) (by decide) rfl rfl ?_
              refine ez_goto (q := 14) dX2_findSets_366 (by decide) ?_
              first
              | exact E.fg (ih14 k (by omega) g _ _ _ hM (by omega) (ht.upw hway)) ⟨Or.inr (rfl), Or.inr (rfl), Or.inl rfl, trivial⟩
              | exact E.fg (ih14 k (by omega) g _ _ _ hM (by omega) (ht.up hway)) ⟨Or.inr (rfl), Or.inr (rfl), Or.inl rfl, trivial⟩
              | exact E.fg (ih14 k (by omega) g _ _ _ hM (by omega) (by have e9 := ht.up hway; rw [er] at e9; exact e9)) ⟨Or.inr (rfl), Or.inr (rfl), Or.inl rfl, trivial⟩
        · refine ez_lookup (q := 274) (off := 238) dX2_findSets_36 (by decide) (by decide) (by decide) ?_
          have hway : wayB (s k) = false := decide_eq_false (by omega)
          have hs := (wf_w hwf hi).symm.trans hway
          have hc2 : s k = 38 ∨ s k = 124 := by omega
          obtain ⟨h1, h1s, h2, h2s⟩ := wf_two hwf hi hs hc2
          obtain ⟨b1, b2⟩ := wf_pt hwf h1 h1s
          have q0 := (ht (k + 1) (by omega) h1).2 ((wf_w hwf h1).trans h1s)
          have t0 := (hle (k + 1) (by omega) h1).2 ((wf_w hwf h1).trans h1s)
          have q1 := (ht (k + 1 + leW m s (k + 1)) (by omega) h2).2 ((wf_w hwf h2).trans h2s)
          have er : roW T n' f L m s k = 0 := roW_0 (by omega)
          refine ez_aload_n (q := 275) 0 dX2_findSets_274 rfl rfl rfl ?_
          refine ez_getf (q := 278) dX2_findSets_275 fl_X2_26 hM.2.1 rfl rfl ?_
          refine ez_iload_n (q := 279) 1 dX2_findSets_278 rfl rfl rfl ?_
          refine ez_aload_n (q := 280) 0 dX2_findSets_279 rfl rfl rfl ?_
          refine ez_iload_n (q := 281) 2 dX2_findSets_280 rfl rfl rfl ?_
          refine cPv (q := 284) dX2_findSets_281 ck_X2_58 hM.2.1 (t_X2_setAt hM.me hm (by omega)) rfl ⟨by decide, rfl⟩ rfl rfl rfl (Nat.le_of_ble_eq_true rfl) rfl ?_
          refine ez_top ((if_pos h1).trans q0.1) ?_
          refine ez_aload_n (q := 285) 0 dX2_findSets_284 rfl rfl rfl ?_
          refine ez_aload_n (q := 286) 0 dX2_findSets_285 rfl rfl rfl ?_
          refine ez_iload_n (q := 287) 2 dX2_findSets_286 rfl rfl rfl ?_
          refine cPv (q := 290) dX2_findSets_287 ck_X2_87 hM.2.1 (t_X2_behind hM.me hm (by omega)) rfl ⟨by decide, rfl⟩ rfl rfl rfl (Nat.le_of_ble_eq_true rfl) rfl ?_
          refine ez_top (((if_pos h1).trans (by rw [t0.1, nI_add] : _ = nI (k + 1 + leW m s (k + 1))))) ?_
          refine cPv (q := 293) dX2_findSets_290 ck_X2_58 hM.2.1 (t_X2_setAt hM.me hm (by omega)) rfl ⟨by decide, rfl⟩ rfl rfl rfl (Nat.le_of_ble_eq_true rfl) rfl ?_
          refine ez_top ((if_pos h2).trans q1.1) ?_
          refine ez_iorN (q := 294) dX2_findSets_293 rfl ?_
          refine ez_top (y := nI (seW T n' f L m s (k))) (congrArg nI (by rw [seW_or hi hcs])) ?_
          refine sMF_mt (q := 295) dX2_findSets_294 hM rfl (by omega) rfl (fun g hM => ?_)
          refine ez_goto (q := 336) dX2_findSets_295 (by decide) ?_
          refine ez_aload_n (q := 337) 0 dX2_findSets_336 rfl rfl rfl ?_
          refine ez_getf (q := 340) dX2_findSets_337 fl_X2_29 hM.2.1 rfl rfl ?_
          refine ez_iload_n (q := 341) 1 dX2_findSets_340 rfl rfl rfl ?_
          refine ez_aload_n (q := 342) 0 dX2_findSets_341 rfl rfl rfl ?_
          refine ez_getf (q := 345) dX2_findSets_342 fl_X2_26 hM.2.1 rfl rfl ?_
          refine ez_iload_n (q := 346) 1 dX2_findSets_345 rfl rfl rfl ?_
          refine ez_iald (q := 347) dX2_findSets_346 hM.2.2.2.2.2.1 rfl (by omega) (by decide) rfl ?_
          refine ez_top (up_eq _ _ _) ?_
          refine ez_iconst (v := -1) (q := 348) dX2_findSets_347 (by decide) rfl ?_
          refine ez_icmpne (q := 351) (tgt := 355) dX2_findSets_348 (by decide) rfl (fun hc348 => ?_) (fun hc348 => ?_)
          · first
            | exact absurd rfl hc348
            | skip
              refine ez_aload_n (q := 356) 0 dX2_findSets_355 rfl rfl rfl ?_
              refine ez_getf (q := 359) dX2_findSets_356 fl_X2_41 hM.2.1 rfl rfl ?_
              refine ez_getf (q := 362) dX2_findSets_359 fl_X2_90 hM.2.2.2.2.2.2.2.1 rfl rfl ?_
              skip
              refine sMF_mr (q := 363) dX2_findSets_362 hM rfl (by omega) rfl (fun g hM => ?_)
              refine ez_iinc_1 (v := dI k) (q := 366) dX2_findSets_363 (dI_dec k) (by decide) rfl rfl ?_
              refine ez_goto (q := 14) dX2_findSets_366 (by decide) ?_
              first
              | exact E.fg (ih14 k (by omega) g _ _ _ hM (by omega) (ht.upw hway)) ⟨Or.inr (rfl), Or.inr (rfl), Or.inl rfl, trivial⟩
              | exact E.fg (ih14 k (by omega) g _ _ _ hM (by omega) (ht.up hway)) ⟨Or.inr (rfl), Or.inr (rfl), Or.inl rfl, trivial⟩
              | exact E.fg (ih14 k (by omega) g _ _ _ hM (by omega) (by have e9 := ht.up hway; rw [er] at e9; exact e9)) ⟨Or.inr (rfl), Or.inr (rfl), Or.inl rfl, trivial⟩
          · first
            | exact absurd hc348 (nI_m1 (lt31 (seW_l _ _ _ _ _ _ _) hn))
            | skip
              refine ez_iconst (v := -1) (q := 352) dX2_findSets_351 (by decide) rfl ?_
              refine ez_goto (q := 362) dX2_findSets_352 (by decide) ?_
              skip
              refine sMF_mr (q := 363) dX2_findSets_362 hM rfl (by omega) rfl (fun g hM => ?_)
              refine ez_iinc_1 (v := dI k) (q := 366) dX2_findSets_363 (dI_dec k) (by decide) rfl rfl ?_
              refine ez_goto (q := 14) dX2_findSets_366 (by decide) ?_
              first
              | exact E.fg (ih14 k (by omega) g _ _ _ hM (by omega) (ht.upw hway)) ⟨Or.inr (rfl), Or.inr (rfl), Or.inl rfl, trivial⟩
              | exact E.fg (ih14 k (by omega) g _ _ _ hM (by omega) (ht.up hway)) ⟨Or.inr (rfl), Or.inr (rfl), Or.inl rfl, trivial⟩
              | exact E.fg (ih14 k (by omega) g _ _ _ hM (by omega) (by have e9 := ht.up hway; rw [er] at e9; exact e9)) ⟨Or.inr (rfl), Or.inr (rfl), Or.inl rfl, trivial⟩
        · refine ez_lookup (q := 314) (off := 278) dX2_findSets_36 (by decide) (show _ = ((278) : Int) from (show ∀ c, c < 128 → (¬ c = 33 ∧ ¬ c = 38 ∧ ¬ c = 65 ∧ ¬ c = 69 ∧ ¬ c = 70 ∧ ¬ c = 71 ∧ ¬ c = 85 ∧ ¬ c = 88 ∧ ¬ c = 116 ∧ ¬ c = 124) → Op.lookupswitch.offset (#[(33, 190), (38, 214), (65, 141), (69, 102), (70, 92), (71, 92), (85, 92), (88, 92), (116, 262), (124, 238)] : Array (Int × Int)).toList 278 (nI c).toInt = 278 from by decide +kernel) c hc128 hno) (by decide) ?_
          have hway : wayB (s k) = false := decide_eq_false (by omega)
          have hs := (wf_w hwf hi).symm.trans hway
          have hc1 : (97 ≤ s k ∧ s k ≤ 100) ∨ s k = 116 := by rcases (wf_one hwf hi hs).2 with ⟨a, _⟩ | ⟨a, _⟩ | ⟨a, _⟩ | ⟨a, _⟩ <;> omega
          have er : roW T n' f L m s k = 0 := roW_0 (by omega)
          refine ez_aload_n (q := 315) 0 dX2_findSets_314 rfl rfl rfl ?_
          refine ez_getf (q := 318) dX2_findSets_315 fl_X2_26 hM.2.1 rfl rfl ?_
          refine ez_iload_n (q := 319) 1 dX2_findSets_318 rfl rfl rfl ?_
          refine ez_aload_n (q := 320) 0 dX2_findSets_319 rfl rfl rfl ?_
          refine ez_getf (q := 323) dX2_findSets_320 fl_X2_32 hM.2.1 rfl rfl ?_
          refine ez_aload_n (q := 324) 0 dX2_findSets_323 rfl rfl rfl ?_
          refine ez_getf (q := 327) dX2_findSets_324 fl_X2_15 hM.2.1 rfl rfl ?_
          refine ez_iload_n (q := 328) 1 dX2_findSets_327 rfl rfl rfl ?_
          refine ez_cald (q := 329) dX2_findSets_328 hM.2.2.1 rfl (by omega) (by decide) rfl ?_
          refine ez_top (hgg k (Nat.zero_le k) hi) ?_
          refine ez_bipush (v := nI 97) (q := 331) dX2_findSets_329 (by decide) rfl ?_
          refine ez_isubN (q := 332) dX2_findSets_331 (by omega) rfl ?_
          refine cPv (q := 335) dX2_findSets_332 ck_X2_102 (hS.to (fun j a b => hM.fr j (by omega))).ob (t_X3_withLetter (hS.to (fun j a b => hM.fr j (by omega))) ho (show s k - 97 < 4 by omega)) rfl ⟨by decide, rfl⟩ rfl rfl rfl (Nat.le_of_ble_eq_true rfl) rfl ?_
          refine ez_top (y := nI (seW T n' f L m s (k))) (congrArg nI (by rw [seW_let hi (by omega)])) ?_
          refine sMF_mt (q := 336) dX2_findSets_335 hM rfl (by omega) rfl (fun g hM => ?_)
          refine ez_aload_n (q := 337) 0 dX2_findSets_336 rfl rfl rfl ?_
          refine ez_getf (q := 340) dX2_findSets_337 fl_X2_29 hM.2.1 rfl rfl ?_
          refine ez_iload_n (q := 341) 1 dX2_findSets_340 rfl rfl rfl ?_
          refine ez_aload_n (q := 342) 0 dX2_findSets_341 rfl rfl rfl ?_
          refine ez_getf (q := 345) dX2_findSets_342 fl_X2_26 hM.2.1 rfl rfl ?_
          refine ez_iload_n (q := 346) 1 dX2_findSets_345 rfl rfl rfl ?_
          refine ez_iald (q := 347) dX2_findSets_346 hM.2.2.2.2.2.1 rfl (by omega) (by decide) rfl ?_
          refine ez_top (up_eq _ _ _) ?_
          refine ez_iconst (v := -1) (q := 348) dX2_findSets_347 (by decide) rfl ?_
          refine ez_icmpne (q := 351) (tgt := 355) dX2_findSets_348 (by decide) rfl (fun hc348 => ?_) (fun hc348 => ?_)
          · first
            | exact absurd rfl hc348
            | skip
              refine ez_aload_n (q := 356) 0 dX2_findSets_355 rfl rfl rfl ?_
              refine ez_getf (q := 359) dX2_findSets_356 fl_X2_41 hM.2.1 rfl rfl ?_
              refine ez_getf (q := 362) dX2_findSets_359 fl_X2_90 hM.2.2.2.2.2.2.2.1 rfl rfl ?_
              skip
              refine sMF_mr (q := 363) dX2_findSets_362 hM rfl (by omega) rfl (fun g hM => ?_)
              refine ez_iinc_1 (v := dI k) (q := 366) dX2_findSets_363 (dI_dec k) (by decide) rfl rfl ?_
              refine ez_goto (q := 14) dX2_findSets_366 (by decide) ?_
              first
              | exact E.fg (ih14 k (by omega) g _ _ _ hM (by omega) (ht.upw hway)) ⟨Or.inr (rfl), Or.inr (rfl), Or.inl rfl, trivial⟩
              | exact E.fg (ih14 k (by omega) g _ _ _ hM (by omega) (ht.up hway)) ⟨Or.inr (rfl), Or.inr (rfl), Or.inl rfl, trivial⟩
              | exact E.fg (ih14 k (by omega) g _ _ _ hM (by omega) (by have e9 := ht.up hway; rw [er] at e9; exact e9)) ⟨Or.inr (rfl), Or.inr (rfl), Or.inl rfl, trivial⟩
          · first
            | exact absurd hc348 (nI_m1 (lt31 (seW_l _ _ _ _ _ _ _) hn))
            | skip
              refine ez_iconst (v := -1) (q := 352) dX2_findSets_351 (by decide) rfl ?_
              refine ez_goto (q := 362) dX2_findSets_352 (by decide) ?_
              skip
              refine sMF_mr (q := 363) dX2_findSets_362 hM rfl (by omega) rfl (fun g hM => ?_)
              refine ez_iinc_1 (v := dI k) (q := 366) dX2_findSets_363 (dI_dec k) (by decide) rfl rfl ?_
              refine ez_goto (q := 14) dX2_findSets_366 (by decide) ?_
              first
              | exact E.fg (ih14 k (by omega) g _ _ _ hM (by omega) (ht.upw hway)) ⟨Or.inr (rfl), Or.inr (rfl), Or.inl rfl, trivial⟩
              | exact E.fg (ih14 k (by omega) g _ _ _ hM (by omega) (ht.up hway)) ⟨Or.inr (rfl), Or.inr (rfl), Or.inl rfl, trivial⟩
              | exact E.fg (ih14 k (by omega) g _ _ _ hM (by omega) (by have e9 := ht.up hway; rw [er] at e9; exact e9)) ⟨Or.inr (rfl), Or.inr (rfl), Or.inl rfl, trivial⟩
  · change E G mX2_findSets _ _ _ _ _ _ 14 [some (.ref im), some (.int (nI k)), none] []
    have hi : k < m := hk
    obtain ⟨sc, hwf⟩ := hwf0 (by omega)
    refine ez_iload_n (q := 15) 1 dX2_findSets_14 rfl rfl rfl ?_
    refine ez_ifltN (q := 18) (tgt := 369) dX2_findSets_15 (by decide) (by omega) rfl ?_
    refine ez_iload_n (q := 19) 1 dX2_findSets_18 rfl rfl rfl ?_
    refine ez_iconst (v := nI 1) (q := 20) dX2_findSets_19 (by decide) rfl ?_
    refine ez_iaddN (q := 21) dX2_findSets_20 rfl ?_
    refine ez_istore_2 (q := 22) dX2_findSets_21 rfl (by decide) rfl rfl ?_
    refine ez_aload_n (q := 23) 0 dX2_findSets_22 rfl rfl rfl ?_
    refine ez_getf (q := 26) dX2_findSets_23 fl_X2_41 hM.2.1 rfl rfl ?_
    refine ez_iconst (v := nI 0) (q := 27) dX2_findSets_26 (by decide) rfl ?_
    refine pMF_ro (q := 30) dX2_findSets_27 fl_X2_90 hM rfl (fun g hM => ?_)
    refine ez_aload_n (q := 31) 0 dX2_findSets_30 rfl rfl rfl ?_
    refine ez_getf (q := 34) dX2_findSets_31 fl_X2_15 hM.2.1 rfl rfl ?_
    refine ez_iload_n (q := 35) 1 dX2_findSets_34 rfl rfl rfl ?_
    refine ez_cald (q := 36) dX2_findSets_35 hM.2.2.1 rfl (by omega) (by decide) rfl ?_
    refine ez_top (hgg k (Nat.zero_le k) hi) ?_
    obtain ⟨c, hcs⟩ : ∃ c, s k = c := ⟨_, rfl⟩
    rw [hcs]
    have hc128 : c < 128 := by rw [← hcs]; exact wf_c hwf hi
    rcases (show c = 33 ∨ c = 38 ∨ c = 65 ∨ c = 69 ∨ c = 70 ∨ c = 71 ∨ c = 85 ∨ c = 88 ∨ c = 116 ∨ c = 124 ∨ (¬ c = 33 ∧ ¬ c = 38 ∧ ¬ c = 65 ∧ ¬ c = 69 ∧ ¬ c = 70 ∧ ¬ c = 71 ∧ ¬ c = 85 ∧ ¬ c = 88 ∧ ¬ c = 116 ∧ ¬ c = 124) by omega) with rfl | rfl | rfl | rfl | rfl | rfl | rfl | rfl | rfl | rfl | hno
    · refine ez_lookup (q := 226) (off := 190) dX2_findSets_36 (by decide) (by decide) (by decide) ?_
      have hway : wayB (s k) = false := decide_eq_false (by omega)
      have hs := (wf_w hwf hi).symm.trans hway
      obtain ⟨h1, h1s⟩ := wf_not hwf hi hs hcs
      have q0 := (ht (k + 1) (by omega) h1).2 ((wf_w hwf h1).trans h1s)
      have er : roW T n' f L m s k = 0 := roW_0 (by omega)
      refine ez_aload_n (q := 227) 0 dX2_findSets_226 rfl rfl rfl ?_
      refine ez_getf (q := 230) dX2_findSets_227 fl_X2_26 hM.2.1 rfl rfl ?_
      refine ez_iload_n (q := 231) 1 dX2_findSets_230 rfl rfl rfl ?_
      refine ez_aload_n (q := 232) 0 dX2_findSets_231 rfl rfl rfl ?_
      refine ez_getf (q := 235) dX2_findSets_232 fl_X2_41 hM.2.1 rfl rfl ?_
      refine ez_getf (q := 238) dX2_findSets_235 fl_X2_96 hM.2.2.2.2.2.2.2.1 rfl rfl ?_
      refine ez_aload_n (q := 239) 0 dX2_findSets_238 rfl rfl rfl ?_
      refine ez_iload_n (q := 240) 2 dX2_findSets_239 rfl rfl rfl ?_
      refine cPv (q := 243) dX2_findSets_240 ck_X2_58 hM.2.1 (t_X2_setAt hM.me hm (by omega)) rfl ⟨by decide, rfl⟩ rfl rfl rfl (Nat.le_of_ble_eq_true rfl) rfl ?_
      refine ez_top ((if_pos h1).trans q0.1) ?_
      refine ez_iconst (v := -1) (q := 244) dX2_findSets_243 (by decide) rfl ?_
      refine ez_ixor (q := 245) dX2_findSets_244 rfl ?_
      refine ez_iandX (q := 246) dX2_findSets_245 rfl ?_
      refine ez_top (y := nI (seW T n' f L m s (k))) (congrArg nI (by rw [seW_not hi hcs])) ?_
      refine sMF_mt (q := 247) dX2_findSets_246 hM rfl (by omega) rfl (fun g hM => ?_)
      refine ez_goto (q := 336) dX2_findSets_247 (by decide) ?_
      refine ez_aload_n (q := 337) 0 dX2_findSets_336 rfl rfl rfl ?_
      refine ez_getf (q := 340) dX2_findSets_337 fl_X2_29 hM.2.1 rfl rfl ?_
      refine ez_iload_n (q := 341) 1 dX2_findSets_340 rfl rfl rfl ?_
      refine ez_aload_n (q := 342) 0 dX2_findSets_341 rfl rfl rfl ?_
      refine ez_getf (q := 345) dX2_findSets_342 fl_X2_26 hM.2.1 rfl rfl ?_
      refine ez_iload_n (q := 346) 1 dX2_findSets_345 rfl rfl rfl ?_
      refine ez_iald (q := 347) dX2_findSets_346 hM.2.2.2.2.2.1 rfl (by omega) (by decide) rfl ?_
      refine ez_top (up_eq _ _ _) ?_
      refine ez_iconst (v := -1) (q := 348) dX2_findSets_347 (by decide) rfl ?_
      refine ez_icmpne (q := 351) (tgt := 355) dX2_findSets_348 (by decide) rfl (fun hc348 => ?_) (fun hc348 => ?_)
      · first
        | exact absurd rfl hc348
        | skip
          refine ez_aload_n (q := 356) 0 dX2_findSets_355 rfl rfl rfl ?_
          refine ez_getf (q := 359) dX2_findSets_356 fl_X2_41 hM.2.1 rfl rfl ?_
          refine ez_getf (q := 362) dX2_findSets_359 fl_X2_90 hM.2.2.2.2.2.2.2.1 rfl rfl ?_
          skip
          refine sMF_mr (q := 363) dX2_findSets_362 hM rfl (by omega) rfl (fun g hM => ?_)
          refine ez_iinc_1 (v := dI k) (q := 366) dX2_findSets_363 (dI_dec k) (by decide) rfl rfl ?_
          refine ez_goto (q := 14) dX2_findSets_366 (by decide) ?_
          first
          | exact E.fg (ih14 k (by omega) g _ _ _ hM (by omega) (ht.upw hway)) ⟨Or.inr (rfl), Or.inr (rfl), Or.inl rfl, trivial⟩
          | exact E.fg (ih14 k (by omega) g _ _ _ hM (by omega) (ht.up hway)) ⟨Or.inr (rfl), Or.inr (rfl), Or.inl rfl, trivial⟩
          | exact E.fg (ih14 k (by omega) g _ _ _ hM (by omega) (by have e9 := ht.up hway; rw [er] at e9; exact e9)) ⟨Or.inr (rfl), Or.inr (rfl), Or.inl rfl, trivial⟩
      · first
        | exact absurd hc348 (nI_m1 (lt31 (seW_l _ _ _ _ _ _ _) hn))
        | skip
          refine ez_iconst (v := -1) (q := 352) dX2_findSets_351 (by decide) rfl ?_
          refine ez_goto (q := 362) dX2_findSets_352 (by decide) ?_
          skip
          refine sMF_mr (q := 363) dX2_findSets_362 hM rfl (by omega) rfl (fun g hM => ?_)
          refine ez_iinc_1 (v := dI k) (q := 366) dX2_findSets_363 (dI_dec k) (by decide) rfl rfl ?_
          refine ez_goto (q := 14) dX2_findSets_366 (by decide) ?_
          first
          | exact E.fg (ih14 k (by omega) g _ _ _ hM (by omega) (ht.upw hway)) ⟨Or.inr (rfl), Or.inr (rfl), Or.inl rfl, trivial⟩
          | exact E.fg (ih14 k (by omega) g _ _ _ hM (by omega) (ht.up hway)) ⟨Or.inr (rfl), Or.inr (rfl), Or.inl rfl, trivial⟩
          | exact E.fg (ih14 k (by omega) g _ _ _ hM (by omega) (by have e9 := ht.up hway; rw [er] at e9; exact e9)) ⟨Or.inr (rfl), Or.inr (rfl), Or.inl rfl, trivial⟩
    · refine ez_lookup (q := 250) (off := 214) dX2_findSets_36 (by decide) (by decide) (by decide) ?_
      have hway : wayB (s k) = false := decide_eq_false (by omega)
      have hs := (wf_w hwf hi).symm.trans hway
      have hc2 : s k = 38 ∨ s k = 124 := by omega
      obtain ⟨h1, h1s, h2, h2s⟩ := wf_two hwf hi hs hc2
      obtain ⟨b1, b2⟩ := wf_pt hwf h1 h1s
      have q0 := (ht (k + 1) (by omega) h1).2 ((wf_w hwf h1).trans h1s)
      have t0 := (hle (k + 1) (by omega) h1).2 ((wf_w hwf h1).trans h1s)
      have q1 := (ht (k + 1 + leW m s (k + 1)) (by omega) h2).2 ((wf_w hwf h2).trans h2s)
      have er : roW T n' f L m s k = 0 := roW_0 (by omega)
      refine ez_aload_n (q := 251) 0 dX2_findSets_250 rfl rfl rfl ?_
      refine ez_getf (q := 254) dX2_findSets_251 fl_X2_26 hM.2.1 rfl rfl ?_
      refine ez_iload_n (q := 255) 1 dX2_findSets_254 rfl rfl rfl ?_
      refine ez_aload_n (q := 256) 0 dX2_findSets_255 rfl rfl rfl ?_
      refine ez_iload_n (q := 257) 2 dX2_findSets_256 rfl rfl rfl ?_
      refine cPv (q := 260) dX2_findSets_257 ck_X2_58 hM.2.1 (t_X2_setAt hM.me hm (by omega)) rfl ⟨by decide, rfl⟩ rfl rfl rfl (Nat.le_of_ble_eq_true rfl) rfl ?_
      refine ez_top ((if_pos h1).trans q0.1) ?_
      refine ez_aload_n (q := 261) 0 dX2_findSets_260 rfl rfl rfl ?_
      refine ez_aload_n (q := 262) 0 dX2_findSets_261 rfl rfl rfl ?_
      refine ez_iload_n (q := 263) 2 dX2_findSets_262 rfl rfl rfl ?_
      refine cPv (q := 266) dX2_findSets_263 ck_X2_87 hM.2.1 (t_X2_behind hM.me hm (by omega)) rfl ⟨by decide, rfl⟩ rfl rfl rfl (Nat.le_of_ble_eq_true rfl) rfl ?_
      refine ez_top (((if_pos h1).trans (by rw [t0.1, nI_add] : _ = nI (k + 1 + leW m s (k + 1))))) ?_
      refine cPv (q := 269) dX2_findSets_266 ck_X2_58 hM.2.1 (t_X2_setAt hM.me hm (by omega)) rfl ⟨by decide, rfl⟩ rfl rfl rfl (Nat.le_of_ble_eq_true rfl) rfl ?_
      refine ez_top ((if_pos h2).trans q1.1) ?_
      refine ez_iandN (q := 270) dX2_findSets_269 rfl ?_
      refine ez_top (y := nI (seW T n' f L m s (k))) (congrArg nI (by rw [seW_and hi hcs])) ?_
      refine sMF_mt (q := 271) dX2_findSets_270 hM rfl (by omega) rfl (fun g hM => ?_)
      refine ez_goto (q := 336) dX2_findSets_271 (by decide) ?_
      refine ez_aload_n (q := 337) 0 dX2_findSets_336 rfl rfl rfl ?_
      refine ez_getf (q := 340) dX2_findSets_337 fl_X2_29 hM.2.1 rfl rfl ?_
      refine ez_iload_n (q := 341) 1 dX2_findSets_340 rfl rfl rfl ?_
      refine ez_aload_n (q := 342) 0 dX2_findSets_341 rfl rfl rfl ?_
      refine ez_getf (q := 345) dX2_findSets_342 fl_X2_26 hM.2.1 rfl rfl ?_
      refine ez_iload_n (q := 346) 1 dX2_findSets_345 rfl rfl rfl ?_
      refine ez_iald (q := 347) dX2_findSets_346 hM.2.2.2.2.2.1 rfl (by omega) (by decide) rfl ?_
      refine ez_top (up_eq _ _ _) ?_
      refine ez_iconst (v := -1) (q := 348) dX2_findSets_347 (by decide) rfl ?_
      refine ez_icmpne (q := 351) (tgt := 355) dX2_findSets_348 (by decide) rfl (fun hc348 => ?_) (fun hc348 => ?_)
      · first
        | exact absurd rfl hc348
        | skip
          refine ez_aload_n (q := 356) 0 dX2_findSets_355 rfl rfl rfl ?_
          refine ez_getf (q := 359) dX2_findSets_356 fl_X2_41 hM.2.1 rfl rfl ?_
          refine ez_getf (q := 362) dX2_findSets_359 fl_X2_90 hM.2.2.2.2.2.2.2.1 rfl rfl ?_
          skip
          refine sMF_mr (q := 363) dX2_findSets_362 hM rfl (by omega) rfl (fun g hM => ?_)
          refine ez_iinc_1 (v := dI k) (q := 366) dX2_findSets_363 (dI_dec k) (by decide) rfl rfl ?_
          refine ez_goto (q := 14) dX2_findSets_366 (by decide) ?_
          first
          | exact E.fg (ih14 k (by omega) g _ _ _ hM (by omega) (ht.upw hway)) ⟨Or.inr (rfl), Or.inr (rfl), Or.inl rfl, trivial⟩
          | exact E.fg (ih14 k (by omega) g _ _ _ hM (by omega) (ht.up hway)) ⟨Or.inr (rfl), Or.inr (rfl), Or.inl rfl, trivial⟩
          | exact E.fg (ih14 k (by omega) g _ _ _ hM (by omega) (by have e9 := ht.up hway; rw [er] at e9; exact e9)) ⟨Or.inr (rfl), Or.inr (rfl), Or.inl rfl, trivial⟩
      · first
        | exact absurd hc348 (nI_m1 (lt31 (seW_l _ _ _ _ _ _ _) hn))
        | skip
          refine ez_iconst (v := -1) (q := 352) dX2_findSets_351 (by decide) rfl ?_
          refine ez_goto (q := 362) dX2_findSets_352 (by decide) ?_
          skip
          refine sMF_mr (q := 363) dX2_findSets_362 hM rfl (by omega) rfl (fun g hM => ?_)
          refine ez_iinc_1 (v := dI k) (q := 366) dX2_findSets_363 (dI_dec k) (by decide) rfl rfl ?_
          refine ez_goto (q := 14) dX2_findSets_366 (by decide) ?_
          first
          | exact E.fg (ih14 k (by omega) g _ _ _ hM (by omega) (ht.upw hway)) ⟨Or.inr (rfl), Or.inr (rfl), Or.inl rfl, trivial⟩
          | exact E.fg (ih14 k (by omega) g _ _ _ hM (by omega) (ht.up hway)) ⟨Or.inr (rfl), Or.inr (rfl), Or.inl rfl, trivial⟩
          | exact E.fg (ih14 k (by omega) g _ _ _ hM (by omega) (by have e9 := ht.up hway; rw [er] at e9; exact e9)) ⟨Or.inr (rfl), Or.inr (rfl), Or.inl rfl, trivial⟩
    · refine ez_lookup (q := 177) (off := 141) dX2_findSets_36 (by decide) (by decide) (by decide) ?_
      have hway : wayB (s k) = false := decide_eq_false (by omega)
      have hs := (wf_w hwf hi).symm.trans hway
      have hc2 : s k = 69 ∨ s k = 65 := by omega
      obtain ⟨hk4, h2, h2s, h2u⟩ := wf_ea hwf hi hs hc2
      obtain ⟨b1, b2⟩ := wf_pt hwf h2 h2s
      have q0 := (ht (k + 2) (by omega) h2).2 ((wf_w hwf h2).trans h2s)
      have t0 := (hle (k + 2) (by omega) h2).2 ((wf_w hwf h2).trans h2s)
      have hv : (if k + 2 + leW m s (k + 2) < m then mt (k + 2 + leW m s (k + 2)) else nI 0) = nI (seW T n' f L m s (k + 2 + leW m s (k + 2))) := by by_cases h9 : k + 2 + leW m s (k + 2) < m; { rw [if_pos h9]; exact ((ht (k + 2 + leW m s (k + 2)) (by omega) h9).2 ((wf_w hwf h9).trans (by rw [b2]))).1 }; { rw [if_neg h9, seW, if_neg h9] }
      refine ez_aload_n (q := 178) 0 dX2_findSets_177 rfl rfl rfl ?_
      refine ez_getf (q := 181) dX2_findSets_178 fl_X2_26 hM.2.1 rfl rfl ?_
      refine ez_iload_n (q := 182) 1 dX2_findSets_181 rfl rfl rfl ?_
      refine ez_aload_n (q := 183) 0 dX2_findSets_182 rfl rfl rfl ?_
      refine ez_getf (q := 186) dX2_findSets_183 fl_X2_41 hM.2.1 rfl rfl ?_
      refine ez_getf (q := 189) dX2_findSets_186 fl_X2_96 hM.2.2.2.2.2.2.2.1 rfl rfl ?_
      refine ez_aload_n (q := 190) 0 dX2_findSets_189 rfl rfl rfl ?_
      refine ez_getf (q := 193) dX2_findSets_190 fl_X2_41 hM.2.1 rfl rfl ?_
      refine ez_aload_n (q := 194) 0 dX2_findSets_193 rfl rfl rfl ?_
      refine ez_iload_n (q := 195) 2 dX2_findSets_194 rfl rfl rfl ?_
      refine cPv (q := 198) dX2_findSets_195 ck_X2_75 hM.2.1 (t_X2_signAt (c := s (k + 1)) hM.me hm (fun h9 => hgg (k + 1) (Nat.zero_le _) h9) (wf_c hwf (by omega)) (by omega)) rfl ⟨by decide, rfl⟩ rfl rfl rfl (Nat.le_of_ble_eq_true rfl) rfl ?_
      rw [if_pos (show k + 1 < m by omega)]
      refine ez_aload_n (q := 199) 0 dX2_findSets_198 rfl rfl rfl ?_
      refine ez_iload_n (q := 200) 2 dX2_findSets_199 rfl rfl rfl ?_
      refine ez_iconst (v := nI 1) (q := 201) dX2_findSets_200 (by decide) rfl ?_
      refine ez_iaddN (q := 202) dX2_findSets_201 rfl ?_
      refine cPv (q := 205) dX2_findSets_202 ck_X2_58 hM.2.1 (t_X2_setAt hM.me hm (by omega)) rfl ⟨by decide, rfl⟩ rfl rfl rfl (Nat.le_of_ble_eq_true rfl) rfl ?_
      refine ez_top ((if_pos h2).trans q0.1) ?_
      refine ez_aload_n (q := 206) 0 dX2_findSets_205 rfl rfl rfl ?_
      refine ez_aload_n (q := 207) 0 dX2_findSets_206 rfl rfl rfl ?_
      refine ez_iload_n (q := 208) 2 dX2_findSets_207 rfl rfl rfl ?_
      refine ez_iconst (v := nI 1) (q := 209) dX2_findSets_208 (by decide) rfl ?_
      refine ez_iaddN (q := 210) dX2_findSets_209 rfl ?_
      refine cPv (q := 213) dX2_findSets_210 ck_X2_87 hM.2.1 (t_X2_behind hM.me hm (by omega)) rfl ⟨by decide, rfl⟩ rfl rfl rfl (Nat.le_of_ble_eq_true rfl) rfl ?_
      refine ez_top (((if_pos h2).trans (by rw [t0.1, nI_add] : _ = nI (k + 2 + leW m s (k + 2))))) ?_
      refine cPv (q := 216) dX2_findSets_213 ck_X2_58 hM.2.1 (t_X2_setAt hM.me hm (by omega)) rfl ⟨by decide, rfl⟩ rfl rfl rfl (Nat.le_of_ble_eq_true rfl) rfl ?_
      refine ez_top (hv) ?_
      refine cXv (q := 219) dX2_findSets_216 ck_X2_99 hM.2.2.2.2.2.2.2.1 (t_X0_onSomeWayNot hM.fw (hS.to (fun j a b => hM.fr j (by omega))) ho (by omega) hk4) rfl ⟨by decide, rfl⟩ rfl rfl rfl (Nat.le_of_ble_eq_true rfl) rfl (fun g hW => ?_)
      have hM := hM.set_fw hW
      have er := roW_A (T := T) (n := n') (f := f) (L := L) (m := m) hcs
      rw [evR_i hk4] at er
      rw [Nat.zero_add, ← er] at hM
      refine ez_iconst (v := -1) (q := 220) dX2_findSets_219 (by decide) rfl ?_
      refine ez_ixor (q := 221) dX2_findSets_220 rfl ?_
      refine ez_iandX (q := 222) dX2_findSets_221 rfl ?_
      refine ez_top (y := nI (seW T n' f L m s (k))) (congrArg nI (by rw [seW_A hi hcs, evS_i hk4])) ?_
      refine sMF_mt (q := 223) dX2_findSets_222 hM rfl (by omega) rfl (fun g hM => ?_)
      refine ez_goto (q := 336) dX2_findSets_223 (by decide) ?_
      refine ez_aload_n (q := 337) 0 dX2_findSets_336 rfl rfl rfl ?_
      refine ez_getf (q := 340) dX2_findSets_337 fl_X2_29 hM.2.1 rfl rfl ?_
      refine ez_iload_n (q := 341) 1 dX2_findSets_340 rfl rfl rfl ?_
      refine ez_aload_n (q := 342) 0 dX2_findSets_341 rfl rfl rfl ?_
      refine ez_getf (q := 345) dX2_findSets_342 fl_X2_26 hM.2.1 rfl rfl ?_
      refine ez_iload_n (q := 346) 1 dX2_findSets_345 rfl rfl rfl ?_
      refine ez_iald (q := 347) dX2_findSets_346 hM.2.2.2.2.2.1 rfl (by omega) (by decide) rfl ?_
      refine ez_top (up_eq _ _ _) ?_
      refine ez_iconst (v := -1) (q := 348) dX2_findSets_347 (by decide) rfl ?_
      refine ez_icmpne (q := 351) (tgt := 355) dX2_findSets_348 (by decide) rfl (fun hc348 => ?_) (fun hc348 => ?_)
      · first
        | exact absurd rfl hc348
        | skip
          refine ez_aload_n (q := 356) 0 dX2_findSets_355 rfl rfl rfl ?_
          refine ez_getf (q := 359) dX2_findSets_356 fl_X2_41 hM.2.1 rfl rfl ?_
          refine ez_getf (q := 362) dX2_findSets_359 fl_X2_90 hM.2.2.2.2.2.2.2.1 rfl rfl ?_
          skip
          refine sMF_mr (q := 363) dX2_findSets_362 hM rfl (by omega) rfl (fun g hM => ?_)
          refine ez_iinc_1 (v := dI k) (q := 366) dX2_findSets_363 (dI_dec k) (by decide) rfl rfl ?_
          refine ez_goto (q := 14) dX2_findSets_366 (by decide) ?_
          first
          | exact E.fg (ih14 k (by omega) g _ _ _ hM (by omega) (ht.upw hway)) ⟨Or.inr (rfl), Or.inr (rfl), Or.inl rfl, trivial⟩
          | exact E.fg (ih14 k (by omega) g _ _ _ hM (by omega) (ht.up hway)) ⟨Or.inr (rfl), Or.inr (rfl), Or.inl rfl, trivial⟩
          | exact E.fg (ih14 k (by omega) g _ _ _ hM (by omega) (by have e9 := ht.up hway; rw [er] at e9; exact e9)) ⟨Or.inr (rfl), Or.inr (rfl), Or.inl rfl, trivial⟩
      · first
        | exact absurd hc348 (nI_m1 (lt31 (seW_l _ _ _ _ _ _ _) hn))
        | skip
          refine ez_iconst (v := -1) (q := 352) dX2_findSets_351 (by decide) rfl ?_
          refine ez_goto (q := 362) dX2_findSets_352 (by decide) ?_
          skip
          refine sMF_mr (q := 363) dX2_findSets_362 hM rfl (by omega) rfl (fun g hM => ?_)
          refine ez_iinc_1 (v := dI k) (q := 366) dX2_findSets_363 (dI_dec k) (by decide) rfl rfl ?_
          refine ez_goto (q := 14) dX2_findSets_366 (by decide) ?_
          first
          | exact E.fg (ih14 k (by omega) g _ _ _ hM (by omega) (ht.upw hway)) ⟨Or.inr (rfl), Or.inr (rfl), Or.inl rfl, trivial⟩
          | exact E.fg (ih14 k (by omega) g _ _ _ hM (by omega) (ht.up hway)) ⟨Or.inr (rfl), Or.inr (rfl), Or.inl rfl, trivial⟩
          | exact E.fg (ih14 k (by omega) g _ _ _ hM (by omega) (by have e9 := ht.up hway; rw [er] at e9; exact e9)) ⟨Or.inr (rfl), Or.inr (rfl), Or.inl rfl, trivial⟩
    · refine ez_lookup (q := 138) (off := 102) dX2_findSets_36 (by decide) (by decide) (by decide) ?_
      have hway : wayB (s k) = false := decide_eq_false (by omega)
      have hs := (wf_w hwf hi).symm.trans hway
      have hc2 : s k = 69 ∨ s k = 65 := by omega
      obtain ⟨hk4, h2, h2s, h2u⟩ := wf_ea hwf hi hs hc2
      obtain ⟨b1, b2⟩ := wf_pt hwf h2 h2s
      have q0 := (ht (k + 2) (by omega) h2).2 ((wf_w hwf h2).trans h2s)
      have t0 := (hle (k + 2) (by omega) h2).2 ((wf_w hwf h2).trans h2s)
      have hv : (if k + 2 + leW m s (k + 2) < m then mt (k + 2 + leW m s (k + 2)) else nI 0) = nI (seW T n' f L m s (k + 2 + leW m s (k + 2))) := by by_cases h9 : k + 2 + leW m s (k + 2) < m; { rw [if_pos h9]; exact ((ht (k + 2 + leW m s (k + 2)) (by omega) h9).2 ((wf_w hwf h9).trans (by rw [b2]))).1 }; { rw [if_neg h9, seW, if_neg h9] }
      refine ez_aload_n (q := 139) 0 dX2_findSets_138 rfl rfl rfl ?_
      refine ez_getf (q := 142) dX2_findSets_139 fl_X2_26 hM.2.1 rfl rfl ?_
      refine ez_iload_n (q := 143) 1 dX2_findSets_142 rfl rfl rfl ?_
      refine ez_aload_n (q := 144) 0 dX2_findSets_143 rfl rfl rfl ?_
      refine ez_getf (q := 147) dX2_findSets_144 fl_X2_41 hM.2.1 rfl rfl ?_
      refine ez_aload_n (q := 148) 0 dX2_findSets_147 rfl rfl rfl ?_
      refine ez_iload_n (q := 149) 2 dX2_findSets_148 rfl rfl rfl ?_
      refine cPv (q := 152) dX2_findSets_149 ck_X2_75 hM.2.1 (t_X2_signAt (c := s (k + 1)) hM.me hm (fun h9 => hgg (k + 1) (Nat.zero_le _) h9) (wf_c hwf (by omega)) (by omega)) rfl ⟨by decide, rfl⟩ rfl rfl rfl (Nat.le_of_ble_eq_true rfl) rfl ?_
      rw [if_pos (show k + 1 < m by omega)]
      refine ez_aload_n (q := 153) 0 dX2_findSets_152 rfl rfl rfl ?_
      refine ez_iload_n (q := 154) 2 dX2_findSets_153 rfl rfl rfl ?_
      refine ez_iconst (v := nI 1) (q := 155) dX2_findSets_154 (by decide) rfl ?_
      refine ez_iaddN (q := 156) dX2_findSets_155 rfl ?_
      refine cPv (q := 159) dX2_findSets_156 ck_X2_58 hM.2.1 (t_X2_setAt hM.me hm (by omega)) rfl ⟨by decide, rfl⟩ rfl rfl rfl (Nat.le_of_ble_eq_true rfl) rfl ?_
      refine ez_top ((if_pos h2).trans q0.1) ?_
      refine ez_aload_n (q := 160) 0 dX2_findSets_159 rfl rfl rfl ?_
      refine ez_aload_n (q := 161) 0 dX2_findSets_160 rfl rfl rfl ?_
      refine ez_iload_n (q := 162) 2 dX2_findSets_161 rfl rfl rfl ?_
      refine ez_iconst (v := nI 1) (q := 163) dX2_findSets_162 (by decide) rfl ?_
      refine ez_iaddN (q := 164) dX2_findSets_163 rfl ?_
      refine cPv (q := 167) dX2_findSets_164 ck_X2_87 hM.2.1 (t_X2_behind hM.me hm (by omega)) rfl ⟨by decide, rfl⟩ rfl rfl rfl (Nat.le_of_ble_eq_true rfl) rfl ?_
      refine ez_top (((if_pos h2).trans (by rw [t0.1, nI_add] : _ = nI (k + 2 + leW m s (k + 2))))) ?_
      refine cPv (q := 170) dX2_findSets_167 ck_X2_58 hM.2.1 (t_X2_setAt hM.me hm (by omega)) rfl ⟨by decide, rfl⟩ rfl rfl rfl (Nat.le_of_ble_eq_true rfl) rfl ?_
      refine ez_top (hv) ?_
      refine cXv (q := 173) dX2_findSets_170 ck_X2_92 hM.2.2.2.2.2.2.2.1 (t_X0_onSomeWay hM.fw (hS.to (fun j a b => hM.fr j (by omega))) ho (by omega) hk4 (seW_l _ _ _ _ _ _ _)) rfl ⟨by decide, rfl⟩ rfl rfl rfl (Nat.le_of_ble_eq_true rfl) rfl (fun g hW => ?_)
      have hM := hM.set_fw hW
      have er := roW_E (T := T) (n := n') (f := f) (L := L) (m := m) hcs
      rw [someR_i hk4] at er
      rw [Nat.zero_add, ← er] at hM
      refine ez_top (y := nI (seW T n' f L m s (k))) (congrArg nI (by rw [seW_E hi hcs, someS_i hk4])) ?_
      refine sMF_mt (q := 174) dX2_findSets_173 hM rfl (by omega) rfl (fun g hM => ?_)
      refine ez_goto (q := 336) dX2_findSets_174 (by decide) ?_
      refine ez_aload_n (q := 337) 0 dX2_findSets_336 rfl rfl rfl ?_
      refine ez_getf (q := 340) dX2_findSets_337 fl_X2_29 hM.2.1 rfl rfl ?_
      refine ez_iload_n (q := 341) 1 dX2_findSets_340 rfl rfl rfl ?_
      refine ez_aload_n (q := 342) 0 dX2_findSets_341 rfl rfl rfl ?_
      refine ez_getf (q := 345) dX2_findSets_342 fl_X2_26 hM.2.1 rfl rfl ?_
      refine ez_iload_n (q := 346) 1 dX2_findSets_345 rfl rfl rfl ?_
      refine ez_iald (q := 347) dX2_findSets_346 hM.2.2.2.2.2.1 rfl (by omega) (by decide) rfl ?_
      refine ez_top (up_eq _ _ _) ?_
      refine ez_iconst (v := -1) (q := 348) dX2_findSets_347 (by decide) rfl ?_
      refine ez_icmpne (q := 351) (tgt := 355) dX2_findSets_348 (by decide) rfl (fun hc348 => ?_) (fun hc348 => ?_)
      · first
        | exact absurd rfl hc348
        | skip
          refine ez_aload_n (q := 356) 0 dX2_findSets_355 rfl rfl rfl ?_
          refine ez_getf (q := 359) dX2_findSets_356 fl_X2_41 hM.2.1 rfl rfl ?_
          refine ez_getf (q := 362) dX2_findSets_359 fl_X2_90 hM.2.2.2.2.2.2.2.1 rfl rfl ?_
          skip
          refine sMF_mr (q := 363) dX2_findSets_362 hM rfl (by omega) rfl (fun g hM => ?_)
          refine ez_iinc_1 (v := dI k) (q := 366) dX2_findSets_363 (dI_dec k) (by decide) rfl rfl ?_
          refine ez_goto (q := 14) dX2_findSets_366 (by decide) ?_
          first
          | exact E.fg (ih14 k (by omega) g _ _ _ hM (by omega) (ht.upw hway)) ⟨Or.inr (rfl), Or.inr (rfl), Or.inl rfl, trivial⟩
          | exact E.fg (ih14 k (by omega) g _ _ _ hM (by omega) (ht.up hway)) ⟨Or.inr (rfl), Or.inr (rfl), Or.inl rfl, trivial⟩
          | exact E.fg (ih14 k (by omega) g _ _ _ hM (by omega) (by have e9 := ht.up hway; rw [er] at e9; exact e9)) ⟨Or.inr (rfl), Or.inr (rfl), Or.inl rfl, trivial⟩
      · first
        | exact absurd hc348 (nI_m1 (lt31 (seW_l _ _ _ _ _ _ _) hn))
        | skip
          refine ez_iconst (v := -1) (q := 352) dX2_findSets_351 (by decide) rfl ?_
          refine ez_goto (q := 362) dX2_findSets_352 (by decide) ?_
          skip
          refine sMF_mr (q := 363) dX2_findSets_362 hM rfl (by omega) rfl (fun g hM => ?_)
          refine ez_iinc_1 (v := dI k) (q := 366) dX2_findSets_363 (dI_dec k) (by decide) rfl rfl ?_
          refine ez_goto (q := 14) dX2_findSets_366 (by decide) ?_
          first
          | exact E.fg (ih14 k (by omega) g _ _ _ hM (by omega) (ht.upw hway)) ⟨Or.inr (rfl), Or.inr (rfl), Or.inl rfl, trivial⟩
          | exact E.fg (ih14 k (by omega) g _ _ _ hM (by omega) (ht.up hway)) ⟨Or.inr (rfl), Or.inr (rfl), Or.inl rfl, trivial⟩
          | exact E.fg (ih14 k (by omega) g _ _ _ hM (by omega) (by have e9 := ht.up hway; rw [er] at e9; exact e9)) ⟨Or.inr (rfl), Or.inr (rfl), Or.inl rfl, trivial⟩
    · refine ez_lookup (q := 128) (off := 92) dX2_findSets_36 (by decide) (by decide) (by decide) ?_
      have hway : wayB (s k) = true := decide_eq_true (by omega)
      refine ez_aload_n (q := 129) 0 dX2_findSets_128 rfl rfl rfl ?_
      refine ez_getf (q := 132) dX2_findSets_129 fl_X2_26 hM.2.1 rfl rfl ?_
      refine ez_iload_n (q := 133) 1 dX2_findSets_132 rfl rfl rfl ?_
      refine ez_iconst (v := -1) (q := 134) dX2_findSets_133 (by decide) rfl ?_
      refine sMF_mt (q := 135) dX2_findSets_134 hM rfl (by omega) rfl (fun g hM => ?_)
      refine ez_goto (q := 336) dX2_findSets_135 (by decide) ?_
      refine ez_aload_n (q := 337) 0 dX2_findSets_336 rfl rfl rfl ?_
      refine ez_getf (q := 340) dX2_findSets_337 fl_X2_29 hM.2.1 rfl rfl ?_
      refine ez_iload_n (q := 341) 1 dX2_findSets_340 rfl rfl rfl ?_
      refine ez_aload_n (q := 342) 0 dX2_findSets_341 rfl rfl rfl ?_
      refine ez_getf (q := 345) dX2_findSets_342 fl_X2_26 hM.2.1 rfl rfl ?_
      refine ez_iload_n (q := 346) 1 dX2_findSets_345 rfl rfl rfl ?_
      refine ez_iald (q := 347) dX2_findSets_346 hM.2.2.2.2.2.1 rfl (by omega) (by decide) rfl ?_
      refine ez_top (up_eq _ _ _) ?_
      refine ez_iconst (v := -1) (q := 348) dX2_findSets_347 (by decide) rfl ?_
      refine ez_icmpne (q := 351) (tgt := 355) dX2_findSets_348 (by decide) rfl (fun hc348 => ?_) (fun hc348 => ?_)
      · first
        | exact absurd rfl hc348
        | skip
          refine ez_aload_n (q := 356) 0 dX2_findSets_355 rfl rfl rfl ?_
          refine ez_getf (q := 359) dX2_findSets_356 fl_X2_41 hM.2.1 rfl rfl ?_
          refine ez_getf (q := 362) dX2_findSets_359 fl_X2_90 hM.2.2.2.2.2.2.2.1 rfl rfl ?_
          skip
          refine sMF_mr (q := 363) dX2_findSets_362 hM rfl (by omega) rfl (fun g hM => ?_)
          refine ez_iinc_1 (v := dI k) (q := 366) dX2_findSets_363 (dI_dec k) (by decide) rfl rfl ?_
          refine ez_goto (q := 14) dX2_findSets_366 (by decide) ?_
          first
          | exact E.fg (ih14 k (by omega) g _ _ _ hM (by omega) (ht.upw hway)) ⟨Or.inr (rfl), Or.inr (rfl), Or.inl rfl, trivial⟩
          | exact E.fg (ih14 k (by omega) g _ _ _ hM (by omega) (ht.up hway)) ⟨Or.inr (rfl), Or.inr (rfl), Or.inl rfl, trivial⟩
          | exact E.fg (ih14 k (by omega) g _ _ _ hM (by omega) (by have e9 := ht.up hway; rw [er] at e9; exact e9)) ⟨Or.inr (rfl), Or.inr (rfl), Or.inl rfl, trivial⟩
      · first
        | exact absurd hc348 (nI_m1 (lt31 (seW_l _ _ _ _ _ _ _) hn))
        | skip
          refine ez_iconst (v := -1) (q := 352) dX2_findSets_351 (by decide) rfl ?_
          refine ez_goto (q := 362) dX2_findSets_352 (by decide) ?_
          skip
          refine sMF_mr (q := 363) dX2_findSets_362 hM rfl (by omega) rfl (fun g hM => ?_)
          refine ez_iinc_1 (v := dI k) (q := 366) dX2_findSets_363 (dI_dec k) (by decide) rfl rfl ?_
          refine ez_goto (q := 14) dX2_findSets_366 (by decide) ?_
          first
          | exact E.fg (ih14 k (by omega) g _ _ _ hM (by omega) (ht.upw hway)) ⟨Or.inr (rfl), Or.inr (rfl), Or.inl rfl, trivial⟩
          | exact E.fg (ih14 k (by omega) g _ _ _ hM (by omega) (ht.up hway)) ⟨Or.inr (rfl), Or.inr (rfl), Or.inl rfl, trivial⟩
          | exact E.fg (ih14 k (by omega) g _ _ _ hM (by omega) (by have e9 := ht.up hway; rw [er] at e9; exact e9)) ⟨Or.inr (rfl), Or.inr (rfl), Or.inl rfl, trivial⟩
    · refine ez_lookup (q := 128) (off := 92) dX2_findSets_36 (by decide) (by decide) (by decide) ?_
      have hway : wayB (s k) = true := decide_eq_true (by omega)
      refine ez_aload_n (q := 129) 0 dX2_findSets_128 rfl rfl rfl ?_
      refine ez_getf (q := 132) dX2_findSets_129 fl_X2_26 hM.2.1 rfl rfl ?_
      refine ez_iload_n (q := 133) 1 dX2_findSets_132 rfl rfl rfl ?_
      refine ez_iconst (v := -1) (q := 134) dX2_findSets_133 (by decide) rfl ?_
      refine sMF_mt (q := 135) dX2_findSets_134 hM rfl (by omega) rfl (fun g hM => ?_)
      refine ez_goto (q := 336) dX2_findSets_135 (by decide) ?_
      refine ez_aload_n (q := 337) 0 dX2_findSets_336 rfl rfl rfl ?_
      refine ez_getf (q := 340) dX2_findSets_337 fl_X2_29 hM.2.1 rfl rfl ?_
      refine ez_iload_n (q := 341) 1 dX2_findSets_340 rfl rfl rfl ?_
      refine ez_aload_n (q := 342) 0 dX2_findSets_341 rfl rfl rfl ?_
      refine ez_getf (q := 345) dX2_findSets_342 fl_X2_26 hM.2.1 rfl rfl ?_
      refine ez_iload_n (q := 346) 1 dX2_findSets_345 rfl rfl rfl ?_
      refine ez_iald (q := 347) dX2_findSets_346 hM.2.2.2.2.2.1 rfl (by omega) (by decide) rfl ?_
      refine ez_top (up_eq _ _ _) ?_
      refine ez_iconst (v := -1) (q := 348) dX2_findSets_347 (by decide) rfl ?_
      refine ez_icmpne (q := 351) (tgt := 355) dX2_findSets_348 (by decide) rfl (fun hc348 => ?_) (fun hc348 => ?_)
      · first
        | exact absurd rfl hc348
        | skip
          refine ez_aload_n (q := 356) 0 dX2_findSets_355 rfl rfl rfl ?_
          refine ez_getf (q := 359) dX2_findSets_356 fl_X2_41 hM.2.1 rfl rfl ?_
          refine ez_getf (q := 362) dX2_findSets_359 fl_X2_90 hM.2.2.2.2.2.2.2.1 rfl rfl ?_
          skip
          refine sMF_mr (q := 363) dX2_findSets_362 hM rfl (by omega) rfl (fun g hM => ?_)
          refine ez_iinc_1 (v := dI k) (q := 366) dX2_findSets_363 (dI_dec k) (by decide) rfl rfl ?_
          refine ez_goto (q := 14) dX2_findSets_366 (by decide) ?_
          first
          | exact E.fg (ih14 k (by omega) g _ _ _ hM (by omega) (ht.upw hway)) ⟨Or.inr (rfl), Or.inr (rfl), Or.inl rfl, trivial⟩
          | exact E.fg (ih14 k (by omega) g _ _ _ hM (by omega) (ht.up hway)) ⟨Or.inr (rfl), Or.inr (rfl), Or.inl rfl, trivial⟩
          | exact E.fg (ih14 k (by omega) g _ _ _ hM (by omega) (by have e9 := ht.up hway; rw [er] at e9; exact e9)) ⟨Or.inr (rfl), Or.inr (rfl), Or.inl rfl, trivial⟩
      · first
        | exact absurd hc348 (nI_m1 (lt31 (seW_l _ _ _ _ _ _ _) hn))
        | skip
          refine ez_iconst (v := -1) (q := 352) dX2_findSets_351 (by decide) rfl ?_
          refine ez_goto (q := 362) dX2_findSets_352 (by decide) ?_
          skip
          refine sMF_mr (q := 363) dX2_findSets_362 hM rfl (by omega) rfl (fun g hM => ?_)
          refine ez_iinc_1 (v := dI k) (q := 366) dX2_findSets_363 (dI_dec k) (by decide) rfl rfl ?_
          refine ez_goto (q := 14) dX2_findSets_366 (by decide) ?_
          first
          | exact E.fg (ih14 k (by omega) g _ _ _ hM (by omega) (ht.upw hway)) ⟨Or.inr (rfl), Or.inr (rfl), Or.inl rfl, trivial⟩
          | exact E.fg (ih14 k (by omega) g _ _ _ hM (by omega) (ht.up hway)) ⟨Or.inr (rfl), Or.inr (rfl), Or.inl rfl, trivial⟩
          | exact E.fg (ih14 k (by omega) g _ _ _ hM (by omega) (by have e9 := ht.up hway; rw [er] at e9; exact e9)) ⟨Or.inr (rfl), Or.inr (rfl), Or.inl rfl, trivial⟩
    · refine ez_lookup (q := 128) (off := 92) dX2_findSets_36 (by decide) (by decide) (by decide) ?_
      have hway : wayB (s k) = true := decide_eq_true (by omega)
      refine ez_aload_n (q := 129) 0 dX2_findSets_128 rfl rfl rfl ?_
      refine ez_getf (q := 132) dX2_findSets_129 fl_X2_26 hM.2.1 rfl rfl ?_
      refine ez_iload_n (q := 133) 1 dX2_findSets_132 rfl rfl rfl ?_
      refine ez_iconst (v := -1) (q := 134) dX2_findSets_133 (by decide) rfl ?_
      refine sMF_mt (q := 135) dX2_findSets_134 hM rfl (by omega) rfl (fun g hM => ?_)
      refine ez_goto (q := 336) dX2_findSets_135 (by decide) ?_
      refine ez_aload_n (q := 337) 0 dX2_findSets_336 rfl rfl rfl ?_
      refine ez_getf (q := 340) dX2_findSets_337 fl_X2_29 hM.2.1 rfl rfl ?_
      refine ez_iload_n (q := 341) 1 dX2_findSets_340 rfl rfl rfl ?_
      refine ez_aload_n (q := 342) 0 dX2_findSets_341 rfl rfl rfl ?_
      refine ez_getf (q := 345) dX2_findSets_342 fl_X2_26 hM.2.1 rfl rfl ?_
      refine ez_iload_n (q := 346) 1 dX2_findSets_345 rfl rfl rfl ?_
      refine ez_iald (q := 347) dX2_findSets_346 hM.2.2.2.2.2.1 rfl (by omega) (by decide) rfl ?_
      refine ez_top (up_eq _ _ _) ?_
      refine ez_iconst (v := -1) (q := 348) dX2_findSets_347 (by decide) rfl ?_
      refine ez_icmpne (q := 351) (tgt := 355) dX2_findSets_348 (by decide) rfl (fun hc348 => ?_) (fun hc348 => ?_)
      · first
        | exact absurd rfl hc348
        | skip
          refine ez_aload_n (q := 356) 0 dX2_findSets_355 rfl rfl rfl ?_
          refine ez_getf (q := 359) dX2_findSets_356 fl_X2_41 hM.2.1 rfl rfl ?_
          refine ez_getf (q := 362) dX2_findSets_359 fl_X2_90 hM.2.2.2.2.2.2.2.1 rfl rfl ?_
          skip
          refine sMF_mr (q := 363) dX2_findSets_362 hM rfl (by omega) rfl (fun g hM => ?_)
          refine ez_iinc_1 (v := dI k) (q := 366) dX2_findSets_363 (dI_dec k) (by decide) rfl rfl ?_
          refine ez_goto (q := 14) dX2_findSets_366 (by decide) ?_
          first
          | exact E.fg (ih14 k (by omega) g _ _ _ hM (by omega) (ht.upw hway)) ⟨Or.inr (rfl), Or.inr (rfl), Or.inl rfl, trivial⟩
          | exact E.fg (ih14 k (by omega) g _ _ _ hM (by omega) (ht.up hway)) ⟨Or.inr (rfl), Or.inr (rfl), Or.inl rfl, trivial⟩
          | exact E.fg (ih14 k (by omega) g _ _ _ hM (by omega) (by have e9 := ht.up hway; rw [er] at e9; exact e9)) ⟨Or.inr (rfl), Or.inr (rfl), Or.inl rfl, trivial⟩
      · first
        | exact absurd hc348 (nI_m1 (lt31 (seW_l _ _ _ _ _ _ _) hn))
        | skip
          refine ez_iconst (v := -1) (q := 352) dX2_findSets_351 (by decide) rfl ?_
          refine ez_goto (q := 362) dX2_findSets_352 (by decide) ?_
          skip
          refine sMF_mr (q := 363) dX2_findSets_362 hM rfl (by omega) rfl (fun g hM => ?_)
          refine ez_iinc_1 (v := dI k) (q := 366) dX2_findSets_363 (dI_dec k) (by decide) rfl rfl ?_
          refine ez_goto (q := 14) dX2_findSets_366 (by decide) ?_
          first
          | exact E.fg (ih14 k (by omega) g _ _ _ hM (by omega) (ht.upw hway)) ⟨Or.inr (rfl), Or.inr (rfl), Or.inl rfl, trivial⟩
          | exact E.fg (ih14 k (by omega) g _ _ _ hM (by omega) (ht.up hway)) ⟨Or.inr (rfl), Or.inr (rfl), Or.inl rfl, trivial⟩
          | exact E.fg (ih14 k (by omega) g _ _ _ hM (by omega) (by have e9 := ht.up hway; rw [er] at e9; exact e9)) ⟨Or.inr (rfl), Or.inr (rfl), Or.inl rfl, trivial⟩
    · refine ez_lookup (q := 128) (off := 92) dX2_findSets_36 (by decide) (by decide) (by decide) ?_
      have hway : wayB (s k) = true := decide_eq_true (by omega)
      refine ez_aload_n (q := 129) 0 dX2_findSets_128 rfl rfl rfl ?_
      refine ez_getf (q := 132) dX2_findSets_129 fl_X2_26 hM.2.1 rfl rfl ?_
      refine ez_iload_n (q := 133) 1 dX2_findSets_132 rfl rfl rfl ?_
      refine ez_iconst (v := -1) (q := 134) dX2_findSets_133 (by decide) rfl ?_
      refine sMF_mt (q := 135) dX2_findSets_134 hM rfl (by omega) rfl (fun g hM => ?_)
      refine ez_goto (q := 336) dX2_findSets_135 (by decide) ?_
      refine ez_aload_n (q := 337) 0 dX2_findSets_336 rfl rfl rfl ?_
      refine ez_getf (q := 340) dX2_findSets_337 fl_X2_29 hM.2.1 rfl rfl ?_
      refine ez_iload_n (q := 341) 1 dX2_findSets_340 rfl rfl rfl ?_
      refine ez_aload_n (q := 342) 0 dX2_findSets_341 rfl rfl rfl ?_
      refine ez_getf (q := 345) dX2_findSets_342 fl_X2_26 hM.2.1 rfl rfl ?_
      refine ez_iload_n (q := 346) 1 dX2_findSets_345 rfl rfl rfl ?_
      refine ez_iald (q := 347) dX2_findSets_346 hM.2.2.2.2.2.1 rfl (by omega) (by decide) rfl ?_
      refine ez_top (up_eq _ _ _) ?_
      refine ez_iconst (v := -1) (q := 348) dX2_findSets_347 (by decide) rfl ?_
      refine ez_icmpne (q := 351) (tgt := 355) dX2_findSets_348 (by decide) rfl (fun hc348 => ?_) (fun hc348 => ?_)
      · first
        | exact absurd rfl hc348
        | skip
          refine ez_aload_n (q := 356) 0 dX2_findSets_355 rfl rfl rfl ?_
          refine ez_getf (q := 359) dX2_findSets_356 fl_X2_41 hM.2.1 rfl rfl ?_
          refine ez_getf (q := 362) dX2_findSets_359 fl_X2_90 hM.2.2.2.2.2.2.2.1 rfl rfl ?_
          skip
          refine sMF_mr (q := 363) dX2_findSets_362 hM rfl (by omega) rfl (fun g hM => ?_)
          refine ez_iinc_1 (v := dI k) (q := 366) dX2_findSets_363 (dI_dec k) (by decide) rfl rfl ?_
          refine ez_goto (q := 14) dX2_findSets_366 (by decide) ?_
          first
          | exact E.fg (ih14 k (by omega) g _ _ _ hM (by omega) (ht.upw hway)) ⟨Or.inr (rfl), Or.inr (rfl), Or.inl rfl, trivial⟩
          | exact E.fg (ih14 k (by omega) g _ _ _ hM (by omega) (ht.up hway)) ⟨Or.inr (rfl), Or.inr (rfl), Or.inl rfl, trivial⟩
          | exact E.fg (ih14 k (by omega) g _ _ _ hM (by omega) (by have e9 := ht.up hway; rw [er] at e9; exact e9)) ⟨Or.inr (rfl), Or.inr (rfl), Or.inl rfl, trivial⟩
      · first
        | exact absurd hc348 (nI_m1 (lt31 (seW_l _ _ _ _ _ _ _) hn))
        | skip
          refine ez_iconst (v := -1) (q := 352) dX2_findSets_351 (by decide) rfl ?_
          refine ez_goto (q := 362) dX2_findSets_352 (by decide) ?_
          skip
          refine sMF_mr (q := 363) dX2_findSets_362 hM rfl (by omega) rfl (fun g hM => ?_)
          refine ez_iinc_1 (v := dI k) (q := 366) dX2_findSets_363 (dI_dec k) (by decide) rfl rfl ?_
          refine ez_goto (q := 14) dX2_findSets_366 (by decide) ?_
          first
          | exact E.fg (ih14 k (by omega) g _ _ _ hM (by omega) (ht.upw hway)) ⟨Or.inr (rfl), Or.inr (rfl), Or.inl rfl, trivial⟩
          | exact E.fg (ih14 k (by omega) g _ _ _ hM (by omega) (ht.up hway)) ⟨Or.inr (rfl), Or.inr (rfl), Or.inl rfl, trivial⟩
          | exact E.fg (ih14 k (by omega) g _ _ _ hM (by omega) (by have e9 := ht.up hway; rw [er] at e9; exact e9)) ⟨Or.inr (rfl), Or.inr (rfl), Or.inl rfl, trivial⟩
    · refine ez_lookup (q := 298) (off := 262) dX2_findSets_36 (by decide) (by decide) (by decide) ?_
      have hway : wayB (s k) = false := decide_eq_false (by omega)
      have hs := (wf_w hwf hi).symm.trans hway
      have hc1 : (97 ≤ s k ∧ s k ≤ 100) ∨ s k = 116 := by rcases (wf_one hwf hi hs).2 with ⟨a, _⟩ | ⟨a, _⟩ | ⟨a, _⟩ | ⟨a, _⟩ <;> omega
      have er : roW T n' f L m s k = 0 := roW_0 (by omega)
      refine ez_aload_n (q := 299) 0 dX2_findSets_298 rfl rfl rfl ?_
      refine ez_getf (q := 302) dX2_findSets_299 fl_X2_26 hM.2.1 rfl rfl ?_
      refine ez_iload_n (q := 303) 1 dX2_findSets_302 rfl rfl rfl ?_
      refine ez_aload_n (q := 304) 0 dX2_findSets_303 rfl rfl rfl ?_
      refine ez_getf (q := 307) dX2_findSets_304 fl_X2_41 hM.2.1 rfl rfl ?_
      refine ez_getf (q := 310) dX2_findSets_307 fl_X2_96 hM.2.2.2.2.2.2.2.1 rfl rfl ?_
      refine ez_top (y := nI (seW T n' f L m s (k))) (congrArg nI (by rw [seW_t hi hcs])) ?_
      refine sMF_mt (q := 311) dX2_findSets_310 hM rfl (by omega) rfl (fun g hM => ?_)
      refine ez_goto (q := 336) dX2_findSets_311 (by decide) ?_
      refine ez_aload_n (q := 337) 0 dX2_findSets_336 rfl rfl rfl ?_
      refine ez_getf (q := 340) dX2_findSets_337 fl_X2_29 hM.2.1 rfl rfl ?_
      refine ez_iload_n (q := 341) 1 dX2_findSets_340 rfl rfl rfl ?_
      refine ez_aload_n (q := 342) 0 dX2_findSets_341 rfl rfl rfl ?_
      refine ez_getf (q := 345) dX2_findSets_342 fl_X2_26 hM.2.1 rfl rfl ?_
      refine ez_iload_n (q := 346) 1 dX2_findSets_345 rfl rfl rfl ?_
      refine ez_iald (q := 347) dX2_findSets_346 hM.2.2.2.2.2.1 rfl (by omega) (by decide) rfl ?_
      refine ez_top (up_eq _ _ _) ?_
      refine ez_iconst (v := -1) (q := 348) dX2_findSets_347 (by decide) rfl ?_
      refine ez_icmpne (q := 351) (tgt := 355) dX2_findSets_348 (by decide) rfl (fun hc348 => ?_) (fun hc348 => ?_)
      · first
        | exact absurd rfl hc348
        | skip
          refine ez_aload_n (q := 356) 0 dX2_findSets_355 rfl rfl rfl ?_
          refine ez_getf (q := 359) dX2_findSets_356 fl_X2_41 hM.2.1 rfl rfl ?_
          refine ez_getf (q := 362) dX2_findSets_359 fl_X2_90 hM.2.2.2.2.2.2.2.1 rfl rfl ?_
          skip
          refine sMF_mr (q := 363) dX2_findSets_362 hM rfl (by omega) rfl (fun g hM => ?_)
          refine ez_iinc_1 (v := dI k) (q := 366) dX2_findSets_363 (dI_dec k) (by decide) rfl rfl ?_
          refine ez_goto (q := 14) dX2_findSets_366 (by decide) ?_
          first
          | exact E.fg (ih14 k (by omega) g _ _ _ hM (by omega) (ht.upw hway)) ⟨Or.inr (rfl), Or.inr (rfl), Or.inl rfl, trivial⟩
          | exact E.fg (ih14 k (by omega) g _ _ _ hM (by omega) (ht.up hway)) ⟨Or.inr (rfl), Or.inr (rfl), Or.inl rfl, trivial⟩
          | exact E.fg (ih14 k (by omega) g _ _ _ hM (by omega) (by have e9 := ht.up hway; rw [er] at e9; exact e9)) ⟨Or.inr (rfl), Or.inr (rfl), Or.inl rfl, trivial⟩
      · first
        | exact absurd hc348 (nI_m1 (lt31 (seW_l _ _ _ _ _ _ _) hn))
        | skip
          refine ez_iconst (v := -1) (q := 352) dX2_findSets_351 (by decide) rfl ?_
          refine ez_goto (q := 362) dX2_findSets_352 (by decide) ?_
          skip
          refine sMF_mr (q := 363) dX2_findSets_362 hM rfl (by omega) rfl (fun g hM => ?_)
          refine ez_iinc_1 (v := dI k) (q := 366) dX2_findSets_363 (dI_dec k) (by decide) rfl rfl ?_
          refine ez_goto (q := 14) dX2_findSets_366 (by decide) ?_
          first
          | exact E.fg (ih14 k (by omega) g _ _ _ hM (by omega) (ht.upw hway)) ⟨Or.inr (rfl), Or.inr (rfl), Or.inl rfl, trivial⟩
          | exact E.fg (ih14 k (by omega) g _ _ _ hM (by omega) (ht.up hway)) ⟨Or.inr (rfl), Or.inr (rfl), Or.inl rfl, trivial⟩
          | exact E.fg (ih14 k (by omega) g _ _ _ hM (by omega) (by have e9 := ht.up hway; rw [er] at e9; exact e9)) ⟨Or.inr (rfl), Or.inr (rfl), Or.inl rfl, trivial⟩
    · refine ez_lookup (q := 274) (off := 238) dX2_findSets_36 (by decide) (by decide) (by decide) ?_
      have hway : wayB (s k) = false := decide_eq_false (by omega)
      have hs := (wf_w hwf hi).symm.trans hway
      have hc2 : s k = 38 ∨ s k = 124 := by omega
      obtain ⟨h1, h1s, h2, h2s⟩ := wf_two hwf hi hs hc2
      obtain ⟨b1, b2⟩ := wf_pt hwf h1 h1s
      have q0 := (ht (k + 1) (by omega) h1).2 ((wf_w hwf h1).trans h1s)
      have t0 := (hle (k + 1) (by omega) h1).2 ((wf_w hwf h1).trans h1s)
      have q1 := (ht (k + 1 + leW m s (k + 1)) (by omega) h2).2 ((wf_w hwf h2).trans h2s)
      have er : roW T n' f L m s k = 0 := roW_0 (by omega)
      refine ez_aload_n (q := 275) 0 dX2_findSets_274 rfl rfl rfl ?_
      refine ez_getf (q := 278) dX2_findSets_275 fl_X2_26 hM.2.1 rfl rfl ?_
      refine ez_iload_n (q := 279) 1 dX2_findSets_278 rfl rfl rfl ?_
      refine ez_aload_n (q := 280) 0 dX2_findSets_279 rfl rfl rfl ?_
      refine ez_iload_n (q := 281) 2 dX2_findSets_280 rfl rfl rfl ?_
      refine cPv (q := 284) dX2_findSets_281 ck_X2_58 hM.2.1 (t_X2_setAt hM.me hm (by omega)) rfl ⟨by decide, rfl⟩ rfl rfl rfl (Nat.le_of_ble_eq_true rfl) rfl ?_
      refine ez_top ((if_pos h1).trans q0.1) ?_
      refine ez_aload_n (q := 285) 0 dX2_findSets_284 rfl rfl rfl ?_
      refine ez_aload_n (q := 286) 0 dX2_findSets_285 rfl rfl rfl ?_
      refine ez_iload_n (q := 287) 2 dX2_findSets_286 rfl rfl rfl ?_
      refine cPv (q := 290) dX2_findSets_287 ck_X2_87 hM.2.1 (t_X2_behind hM.me hm (by omega)) rfl ⟨by decide, rfl⟩ rfl rfl rfl (Nat.le_of_ble_eq_true rfl) rfl ?_
      refine ez_top (((if_pos h1).trans (by rw [t0.1, nI_add] : _ = nI (k + 1 + leW m s (k + 1))))) ?_
      refine cPv (q := 293) dX2_findSets_290 ck_X2_58 hM.2.1 (t_X2_setAt hM.me hm (by omega)) rfl ⟨by decide, rfl⟩ rfl rfl rfl (Nat.le_of_ble_eq_true rfl) rfl ?_
      refine ez_top ((if_pos h2).trans q1.1) ?_
      refine ez_iorN (q := 294) dX2_findSets_293 rfl ?_
      refine ez_top (y := nI (seW T n' f L m s (k))) (congrArg nI (by rw [seW_or hi hcs])) ?_
      refine sMF_mt (q := 295) dX2_findSets_294 hM rfl (by omega) rfl (fun g hM => ?_)
      refine ez_goto (q := 336) dX2_findSets_295 (by decide) ?_
      refine ez_aload_n (q := 337) 0 dX2_findSets_336 rfl rfl rfl ?_
      refine ez_getf (q := 340) dX2_findSets_337 fl_X2_29 hM.2.1 rfl rfl ?_
      refine ez_iload_n (q := 341) 1 dX2_findSets_340 rfl rfl rfl ?_
      refine ez_aload_n (q := 342) 0 dX2_findSets_341 rfl rfl rfl ?_
      refine ez_getf (q := 345) dX2_findSets_342 fl_X2_26 hM.2.1 rfl rfl ?_
      refine ez_iload_n (q := 346) 1 dX2_findSets_345 rfl rfl rfl ?_
      refine ez_iald (q := 347) dX2_findSets_346 hM.2.2.2.2.2.1 rfl (by omega) (by decide) rfl ?_
      refine ez_top (up_eq _ _ _) ?_
      refine ez_iconst (v := -1) (q := 348) dX2_findSets_347 (by decide) rfl ?_
      refine ez_icmpne (q := 351) (tgt := 355) dX2_findSets_348 (by decide) rfl (fun hc348 => ?_) (fun hc348 => ?_)
      · first
        | exact absurd rfl hc348
        | skip
          refine ez_aload_n (q := 356) 0 dX2_findSets_355 rfl rfl rfl ?_
          refine ez_getf (q := 359) dX2_findSets_356 fl_X2_41 hM.2.1 rfl rfl ?_
          refine ez_getf (q := 362) dX2_findSets_359 fl_X2_90 hM.2.2.2.2.2.2.2.1 rfl rfl ?_
          skip
          refine sMF_mr (q := 363) dX2_findSets_362 hM rfl (by omega) rfl (fun g hM => ?_)
          refine ez_iinc_1 (v := dI k) (q := 366) dX2_findSets_363 (dI_dec k) (by decide) rfl rfl ?_
          refine ez_goto (q := 14) dX2_findSets_366 (by decide) ?_
          first
          | exact E.fg (ih14 k (by omega) g _ _ _ hM (by omega) (ht.upw hway)) ⟨Or.inr (rfl), Or.inr (rfl), Or.inl rfl, trivial⟩
          | exact E.fg (ih14 k (by omega) g _ _ _ hM (by omega) (ht.up hway)) ⟨Or.inr (rfl), Or.inr (rfl), Or.inl rfl, trivial⟩
          | exact E.fg (ih14 k (by omega) g _ _ _ hM (by omega) (by have e9 := ht.up hway; rw [er] at e9; exact e9)) ⟨Or.inr (rfl), Or.inr (rfl), Or.inl rfl, trivial⟩
      · first
        | exact absurd hc348 (nI_m1 (lt31 (seW_l _ _ _ _ _ _ _) hn))
        | skip
          refine ez_iconst (v := -1) (q := 352) dX2_findSets_351 (by decide) rfl ?_
          refine ez_goto (q := 362) dX2_findSets_352 (by decide) ?_
          skip
          refine sMF_mr (q := 363) dX2_findSets_362 hM rfl (by omega) rfl (fun g hM => ?_)
          refine ez_iinc_1 (v := dI k) (q := 366) dX2_findSets_363 (dI_dec k) (by decide) rfl rfl ?_
          refine ez_goto (q := 14) dX2_findSets_366 (by decide) ?_
          first
          | exact E.fg (ih14 k (by omega) g _ _ _ hM (by omega) (ht.upw hway)) ⟨Or.inr (rfl), Or.inr (rfl), Or.inl rfl, trivial⟩
          | exact E.fg (ih14 k (by omega) g _ _ _ hM (by omega) (ht.up hway)) ⟨Or.inr (rfl), Or.inr (rfl), Or.inl rfl, trivial⟩
          | exact E.fg (ih14 k (by omega) g _ _ _ hM (by omega) (by have e9 := ht.up hway; rw [er] at e9; exact e9)) ⟨Or.inr (rfl), Or.inr (rfl), Or.inl rfl, trivial⟩
    · refine ez_lookup (q := 314) (off := 278) dX2_findSets_36 (by decide) (show _ = ((278) : Int) from (show ∀ c, c < 128 → (¬ c = 33 ∧ ¬ c = 38 ∧ ¬ c = 65 ∧ ¬ c = 69 ∧ ¬ c = 70 ∧ ¬ c = 71 ∧ ¬ c = 85 ∧ ¬ c = 88 ∧ ¬ c = 116 ∧ ¬ c = 124) → Op.lookupswitch.offset (#[(33, 190), (38, 214), (65, 141), (69, 102), (70, 92), (71, 92), (85, 92), (88, 92), (116, 262), (124, 238)] : Array (Int × Int)).toList 278 (nI c).toInt = 278 from by decide +kernel) c hc128 hno) (by decide) ?_
      have hway : wayB (s k) = false := decide_eq_false (by omega)
      have hs := (wf_w hwf hi).symm.trans hway
      have hc1 : (97 ≤ s k ∧ s k ≤ 100) ∨ s k = 116 := by rcases (wf_one hwf hi hs).2 with ⟨a, _⟩ | ⟨a, _⟩ | ⟨a, _⟩ | ⟨a, _⟩ <;> omega
      have er : roW T n' f L m s k = 0 := roW_0 (by omega)
      refine ez_aload_n (q := 315) 0 dX2_findSets_314 rfl rfl rfl ?_
      refine ez_getf (q := 318) dX2_findSets_315 fl_X2_26 hM.2.1 rfl rfl ?_
      refine ez_iload_n (q := 319) 1 dX2_findSets_318 rfl rfl rfl ?_
      refine ez_aload_n (q := 320) 0 dX2_findSets_319 rfl rfl rfl ?_
      refine ez_getf (q := 323) dX2_findSets_320 fl_X2_32 hM.2.1 rfl rfl ?_
      refine ez_aload_n (q := 324) 0 dX2_findSets_323 rfl rfl rfl ?_
      refine ez_getf (q := 327) dX2_findSets_324 fl_X2_15 hM.2.1 rfl rfl ?_
      refine ez_iload_n (q := 328) 1 dX2_findSets_327 rfl rfl rfl ?_
      refine ez_cald (q := 329) dX2_findSets_328 hM.2.2.1 rfl (by omega) (by decide) rfl ?_
      refine ez_top (hgg k (Nat.zero_le k) hi) ?_
      refine ez_bipush (v := nI 97) (q := 331) dX2_findSets_329 (by decide) rfl ?_
      refine ez_isubN (q := 332) dX2_findSets_331 (by omega) rfl ?_
      refine cPv (q := 335) dX2_findSets_332 ck_X2_102 (hS.to (fun j a b => hM.fr j (by omega))).ob (t_X3_withLetter (hS.to (fun j a b => hM.fr j (by omega))) ho (show s k - 97 < 4 by omega)) rfl ⟨by decide, rfl⟩ rfl rfl rfl (Nat.le_of_ble_eq_true rfl) rfl ?_
      refine ez_top (y := nI (seW T n' f L m s (k))) (congrArg nI (by rw [seW_let hi (by omega)])) ?_
      refine sMF_mt (q := 336) dX2_findSets_335 hM rfl (by omega) rfl (fun g hM => ?_)
      refine ez_aload_n (q := 337) 0 dX2_findSets_336 rfl rfl rfl ?_
      refine ez_getf (q := 340) dX2_findSets_337 fl_X2_29 hM.2.1 rfl rfl ?_
      refine ez_iload_n (q := 341) 1 dX2_findSets_340 rfl rfl rfl ?_
      refine ez_aload_n (q := 342) 0 dX2_findSets_341 rfl rfl rfl ?_
      refine ez_getf (q := 345) dX2_findSets_342 fl_X2_26 hM.2.1 rfl rfl ?_
      refine ez_iload_n (q := 346) 1 dX2_findSets_345 rfl rfl rfl ?_
      refine ez_iald (q := 347) dX2_findSets_346 hM.2.2.2.2.2.1 rfl (by omega) (by decide) rfl ?_
      refine ez_top (up_eq _ _ _) ?_
      refine ez_iconst (v := -1) (q := 348) dX2_findSets_347 (by decide) rfl ?_
      refine ez_icmpne (q := 351) (tgt := 355) dX2_findSets_348 (by decide) rfl (fun hc348 => ?_) (fun hc348 => ?_)
      · first
        | exact absurd rfl hc348
        | skip
          refine ez_aload_n (q := 356) 0 dX2_findSets_355 rfl rfl rfl ?_
          refine ez_getf (q := 359) dX2_findSets_356 fl_X2_41 hM.2.1 rfl rfl ?_
          refine ez_getf (q := 362) dX2_findSets_359 fl_X2_90 hM.2.2.2.2.2.2.2.1 rfl rfl ?_
          skip
          refine sMF_mr (q := 363) dX2_findSets_362 hM rfl (by omega) rfl (fun g hM => ?_)
          refine ez_iinc_1 (v := dI k) (q := 366) dX2_findSets_363 (dI_dec k) (by decide) rfl rfl ?_
          refine ez_goto (q := 14) dX2_findSets_366 (by decide) ?_
          first
          | exact E.fg (ih14 k (by omega) g _ _ _ hM (by omega) (ht.upw hway)) ⟨Or.inr (rfl), Or.inr (rfl), Or.inl rfl, trivial⟩
          | exact E.fg (ih14 k (by omega) g _ _ _ hM (by omega) (ht.up hway)) ⟨Or.inr (rfl), Or.inr (rfl), Or.inl rfl, trivial⟩
          | exact E.fg (ih14 k (by omega) g _ _ _ hM (by omega) (by have e9 := ht.up hway; rw [er] at e9; exact e9)) ⟨Or.inr (rfl), Or.inr (rfl), Or.inl rfl, trivial⟩
      · first
        | exact absurd hc348 (nI_m1 (lt31 (seW_l _ _ _ _ _ _ _) hn))
        | skip
          refine ez_iconst (v := -1) (q := 352) dX2_findSets_351 (by decide) rfl ?_
          refine ez_goto (q := 362) dX2_findSets_352 (by decide) ?_
          skip
          refine sMF_mr (q := 363) dX2_findSets_362 hM rfl (by omega) rfl (fun g hM => ?_)
          refine ez_iinc_1 (v := dI k) (q := 366) dX2_findSets_363 (dI_dec k) (by decide) rfl rfl ?_
          refine ez_goto (q := 14) dX2_findSets_366 (by decide) ?_
          first
          | exact E.fg (ih14 k (by omega) g _ _ _ hM (by omega) (ht.upw hway)) ⟨Or.inr (rfl), Or.inr (rfl), Or.inl rfl, trivial⟩
          | exact E.fg (ih14 k (by omega) g _ _ _ hM (by omega) (ht.up hway)) ⟨Or.inr (rfl), Or.inr (rfl), Or.inl rfl, trivial⟩
          | exact E.fg (ih14 k (by omega) g _ _ _ hM (by omega) (by have e9 := ht.up hway; rw [er] at e9; exact e9)) ⟨Or.inr (rfl), Or.inr (rfl), Or.inl rfl, trivial⟩

set_option maxHeartbeats 800000 in
set_option maxRecDepth 100000 in
theorem t_X2_find {G : ez_G} {d n : Nat} {h : ez_H} {im ia n' f w : Nat} {L T ln : Nat → Nat} {sg : Nat → Nat → Nat} (hX : MX im ia h) (hS : SS ia h n' f L T ln sg) (ho : OK n' f L T ln sg) (hs : WFS ln sg) (hd : ia + 5 ≤ im) (hw : w < 4) : Con G mX2_find (d + 5) [.ref im, .int (nI w)] h n 0 0 (PW n (some (.int (nI (hW T n' f L ln sg w)))) (fun g => MG im ia h g T n' f L ln sg w)) := by
  obtain ⟨ml, mg, me, md, mt, mr, al, li, ro, go, hM⟩ := hX
  have hn := ho.1
  have hl := ho.2.2.2.2.1 w hw
  refine Con.of [some (.ref im), some (.int (nI w))] pl_X2 rfl (Nat.le_of_ble_eq_true rfl) rfl ?_
  have hQ : ∀ g, MG im ia h g T n' f L ln sg w → (PW n (some (.int (nI (hW T n' f L ln sg w)))) (fun g => MG im ia h g T n' f L ln sg w)) (.inl (some (.int (nI (hW T n' f L ln sg w))))) g n := fun g h1 => ⟨rfl, h1, rfl⟩
  generalize PW n (some (.int (nI (hW T n' f L ln sg w)))) (fun g => MG im ia h g T n' f L ln sg w) = Q at hQ ⊢
  refine ez_aload_n (q := 1) 0 dX2_find_0 rfl rfl rfl ?_
  refine ez_iload_n (q := 2) 1 dX2_find_1 rfl rfl rfl ?_
  refine cX0 (q := 5) dX2_find_2 ck_X2_51 hM.2.1 (t_X2_readSigns hM.me (hS.to (fun j a b => hM.fr j (by omega))) ho hs hd hw) rfl ⟨by decide, rfl⟩ rfl rfl rfl (Nat.le_of_ble_eq_true rfl) rfl (fun g hW => ?_)
  obtain ⟨mg, me, md, hM2, hgg, hle⟩ := hW
  have hM := hM.set_me hM2
  refine ez_aload_n (q := 6) 0 dX2_find_5 rfl rfl rfl ?_
  refine cX0 (q := 9) dX2_find_6 ck_X2_55 hM.2.1 (t_X2_findSets hM.rb hl hgg hle (hs w hw) (hS.to (fun j a b => hM.fr j (by omega))) ho hd) rfl ⟨by decide, rfl⟩ rfl rfl rfl (Nat.le_of_ble_eq_true rfl) rfl (fun g hW => ?_)
  obtain ⟨mt, mr, r, hM2, hse⟩ := hW
  have hM := hM.tr hM2
  refine ez_aload_n (q := 10) 0 dX2_find_9 rfl rfl rfl ?_
  refine ez_iconst (v := nI 0) (q := 11) dX2_find_10 (by decide) rfl ?_
  refine cPv (q := 14) dX2_find_11 ck_X2_58 hM.2.1 (t_X2_setAt hM.me hl (by decide)) rfl ⟨by decide, rfl⟩ rfl rfl rfl (Nat.le_of_ble_eq_true rfl) rfl ?_
  refine ez_top (show _ = nI (hW T n' f L ln sg w) from by by_cases h9 : 0 < ln w; { rw [if_pos h9]; obtain ⟨sc, hwf⟩ := hs w hw h9; exact ((hse 0 (Nat.le_refl 0) h9).2 ((wf_w hwf h9).trans (by rw [(wf_0 hwf).2.1]))).1 }; { rw [if_neg h9, hW, seW, if_neg h9] }) ?_
  exact ez_iret dX2_find_14 rfl (hQ _ ⟨_, _, _, _, _, _, hM, hgg, hle, hse⟩)

set_option maxHeartbeats 800000 in
set_option maxRecDepth 100000 in
theorem t_X2_live {G : ez_G} {d n : Nat} {h : ez_H} {im ia n' f : Nat} {L T ln : Nat → Nat} {sg : Nat → Nat → Nat} (hX : MX im ia h) (hS : SS ia h n' f L T ln sg) (ho : OK n' f L T ln sg) (hd : ia + 5 ≤ im) : Con G mX2_live (d + 3) [.ref im] h n 0 0 (PW n (some (.int (nI (lvN T n' f L)))) (fun g => MX im ia g ∧ ∀ j : Nat, (j < im ∨ im + 7 ≤ j) → g j = h j)) := by
  obtain ⟨ml, mg, me, md, mt, mr, al, li, ro, go, hM⟩ := hX
  have hn := ho.1
  refine Con.of [some (.ref im)] pl_X2 rfl (Nat.le_of_ble_eq_true rfl) rfl ?_
  have hQ : ∀ g, (MX im ia g ∧ ∀ j : Nat, (j < im ∨ im + 7 ≤ j) → g j = h j) → (PW n (some (.int (nI (lvN T n' f L)))) (fun g => MX im ia g ∧ ∀ j : Nat, (j < im ∨ im + 7 ≤ j) → g j = h j)) (.inl (some (.int (nI (lvN T n' f L))))) g n := fun g h1 => ⟨rfl, h1, rfl⟩
  generalize PW n (some (.int (nI (lvN T n' f L)))) (fun g => MX im ia g ∧ ∀ j : Nat, (j < im ∨ im + 7 ≤ j) → g j = h j) = Q at hQ ⊢
  refine ez_aload_n (q := 1) 0 dX2_live_0 rfl rfl rfl ?_
  refine ez_getf (q := 4) dX2_live_1 fl_X2_41 hM.2.1 rfl rfl ?_
  refine cX0 (q := 7) dX2_live_4 ck_X2_45 hM.2.2.2.2.2.2.2.1 (t_X0_look hM.fw (hS.to (fun j a b => hM.fr j (by omega))) ho (by omega)) rfl ⟨by decide, rfl⟩ rfl rfl rfl (Nat.le_of_ble_eq_true rfl) rfl (fun g hW => ?_)
  obtain ⟨r, hM2⟩ := hW
  have hM := hM.set_fw hM2
  refine ez_aload_n (q := 8) 0 dX2_live_7 rfl rfl rfl ?_
  refine ez_getf (q := 11) dX2_live_8 fl_X2_41 hM.2.1 rfl rfl ?_
  refine ez_getf (q := 14) dX2_live_11 fl_X2_48 hM.2.2.2.2.2.2.2.1 rfl rfl ?_
  exact ez_iret dX2_live_14 rfl (hQ _ ⟨⟨_, _, _, _, _, _, _, _, _, _, hM.rb⟩, hM.fr⟩)


