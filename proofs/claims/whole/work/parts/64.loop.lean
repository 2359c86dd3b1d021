theorem law_head {G : ez_G} {nm : String} {hh : List (Nat × Nat × Nat × Nat)} {N i n mc ms : Nat} {sc : Nat → Int32} {h : ez_H} {Q : ez_Q} (hN : N ≤ 2048) (hi : i ≤ N) (hG : ez_N G = N ∧ ez_sc G = sc) (ke : E G (mLw nm hh) 14 Q h n mc ms 1384 [some (.ref 0), some (.ref 1), some (.ref 64), some (.ref 74), some (.int (nI i)), none, none, none, none] []) (kb : i + 4 ≤ N → E G (mLw nm hh) 14 Q h n mc ms 32 [some (.ref 0), some (.ref 1), some (.ref 64), some (.ref 74), some (.int (nI i)), none, none, none, none] []) : E G (mLw nm hh) 14 Q h n mc ms 23 [some (.ref 0), some (.ref 1), some (.ref 64), some (.ref 74), some (.int (nI i)), none, none, none, none] [] := by
  refine ez_iload (q := 25) dL_law_23 rfl rfl ?_
  refine ez_aload_n (q := 26) 0 dL_law_25 rfl rfl rfl ?_
  refine ez_slen (q := 27) dL_law_26 hG.1 rfl ?_
  refine ez_iconst (v := nI 4) (q := 28) dL_law_27 (by decide) rfl ?_
  refine ez_isub (q := 29) dL_law_28 rfl ?_
  refine ez_icmpgt (q := 32) (tgt := 1384) dL_law_29 (by decide) rfl (fun hc => ke) (fun hc => kb ?_)
  by_cases h4 : 4 ≤ N
  · rw [nI_sub h4] at hc
    have := Nat.not_lt.mp (fun y => hc ((nI_ltI (a := N - 4) (b := i) (by omega) (by omega)).mpr y))
    omega
  · exfalso
    apply hc
    rw [Int32.lt_iff_toInt_lt, nI_toInt (show i < 2 ^ 31 by omega)]
    rcases (by omega : N = 0 ∨ N = 1 ∨ N = 2 ∨ N = 3) with rfl | rfl | rfl | rfl
    · rw [show (nI 0 - nI 4).toInt = -4 by decide]; omega
    · rw [show (nI 1 - nI 4).toInt = -3 by decide]; omega
    · rw [show (nI 2 - nI 4).toInt = -2 by decide]; omega
    · rw [show (nI 3 - nI 4).toInt = -1 by decide]; omega
theorem law_exit {G : ez_G} {nm : String} {hh : List (Nat × Nat × Nat × Nat)} {i n mc ms : Nat} {h : ez_H} {Q : ez_Q} (hQ : ∀ g m, Q (.inl (some (.int 1))) g m) : E G (mLw nm hh) 14 Q h n mc ms 1384 [some (.ref 0), some (.ref 1), some (.ref 64), some (.ref 74), some (.int (nI i)), none, none, none, none] [] := by
  refine ez_iconst (v := 1) (q := 1385) dL_law_1384 (by decide) rfl ?_
  exact ez_zret dL_law_1385 rfl rfl (hQ _ _)
set_option maxHeartbeats 800000 in
set_option maxRecDepth 100000 in
theorem law_body {G : ez_G} {nm : String} {hh : List (Nat × Nat × Nat × Nat)} {N i n mc ms : Nat} {sc : Nat → Int32} {h : ez_H} {Q : ez_Q} (hN : N ≤ 2048) (hi : i + 4 ≤ N) (hG : ez_N G = N ∧ ez_sc G = sc) (hL : LI h) (K : ∀ g m, n ≤ m → LI g → E G (mLw nm hh) 14 Q g m mc ms 1378 [some (.ref 0), some (.ref 1), some (.ref 64), some (.ref 74), some (.int (nI i)), none, none, none, none] []) : E G (mLw nm hh) 14 Q h n (3 + mc) (18 + ms) 32 [some (.ref 0), some (.ref 1), some (.ref 64), some (.ref 74), some (.int (nI i)), none, none, none, none] [] := by
  refine ez_aload_n (q := 33) 0 dL_law_32 rfl rfl rfl ?_
  refine ez_iload (q := 35) dL_law_33 rfl rfl ?_
  refine ez_sald (q := 36) dL_law_35 hG (j := i) rfl (by omega) (by omega) rfl ?_
  refine ez_bipush (v := nI 31) (q := 38) dL_law_36 (by decide) rfl ?_
  refine ez_iand (q := 39) dL_law_38 rfl ?_
  obtain ⟨c, hcc, hlt⟩ := and31 (sc i)
  refine ez_top hcc ?_
  rcases (by omega : c = 0 ∨ c = 1 ∨ c = 2 ∨ c = 3 ∨ c = 4 ∨ c = 5 ∨ c = 6 ∨ c = 7 ∨ c = 8 ∨ c = 9 ∨ c = 10 ∨ c = 11 ∨ c = 12 ∨ c = 13 ∨ c = 14 ∨ c = 15 ∨ c = 16 ∨ c = 17 ∨ c = 18 ∨ c = 19 ∨ c = 20 ∨ c = 21 ∨ c = 22 ∨ 23 ≤ c) with rfl | rfl | rfl | rfl | rfl | rfl | rfl | rfl | rfl | rfl | rfl | rfl | rfl | rfl | rfl | rfl | rfl | rfl | rfl | rfl | rfl | rfl | rfl | hge
  · refine ez_tableIn (off := 105) (q := 144) dL_law_39 (by decide) (by decide) (by decide) (by decide) ?_
    exact op_addWorld hN hi hG hL K
  · refine ez_tableIn (off := 161) (q := 200) dL_law_39 (by decide) (by decide) (by decide) (by decide) ?_
    exact op_removeWorld hN hi hG hL K
  · refine ez_tableIn (off := 217) (q := 256) dL_law_39 (by decide) (by decide) (by decide) (by decide) ?_
    exact op_step hN hi hG hL K
  · refine ez_tableIn (off := 285) (q := 324) dL_law_39 (by decide) (by decide) (by decide) (by decide) ?_
    exact op_flip hN hi hG hL K
  · refine ez_tableIn (off := 353) (q := 392) dL_law_39 (by decide) (by decide) (by decide) (by decide) ?_
    exact op_fair hN hi hG hL K
  · refine ez_tableIn (off := 409) (q := 448) dL_law_39 (by decide) (by decide) (by decide) (by decide) ?_
    exact op_ring hN hi hG hL K
  · refine ez_tableIn (off := 422) (q := 461) dL_law_39 (by decide) (by decide) (by decide) (by decide) ?_
    exact op_append hN hi hG hL K
  · refine ez_tableIn (off := 478) (q := 517) dL_law_39 (by decide) (by decide) (by decide) (by decide) ?_
    exact op_clearBuffer hN hi hG hL K
  · refine ez_tableIn (off := 491) (q := 530) dL_law_39 (by decide) (by decide) (by decide) (by decide) ?_
    exact op_firstError hN hi hG hL K
  · refine ez_tableIn (off := 504) (q := 543) dL_law_39 (by decide) (by decide) (by decide) (by decide) ?_
    exact op_read hN hi hG hL K
  · refine ez_tableIn (off := 560) (q := 599) dL_law_39 (by decide) (by decide) (by decide) (by decide) ?_
    exact op_negate hN hi hG hL K
  · refine ez_tableIn (off := 616) (q := 655) dL_law_39 (by decide) (by decide) (by decide) (by decide) ?_
    exact op_giveUp hN hi hG hL K
  · refine ez_tableIn (off := 672) (q := 711) dL_law_39 (by decide) (by decide) (by decide) (by decide) ?_
    exact op_undo hN hi hG hL K
  · refine ez_tableIn (off := 716) (q := 755) dL_law_39 (by decide) (by decide) (by decide) (by decide) ?_
    exact op_world hN hi hG hL K
  · refine ez_tableIn (off := 784) (q := 823) dL_law_39 (by decide) (by decide) (by decide) (by decide) ?_
    exact op_wish hN hi hG hL K
  · refine ez_tableIn (off := 852) (q := 891) dL_law_39 (by decide) (by decide) (by decide) (by decide) ?_
    exact op_sign hN hi hG hL K
  · refine ez_tableIn (off := 932) (q := 971) dL_law_39 (by decide) (by decide) (by decide) (by decide) ?_
    exact op_witness hN hi hG hL K
  · refine ez_tableIn (off := 1012) (q := 1051) dL_law_39 (by decide) (by decide) (by decide) (by decide) ?_
    exact op_compare hN hi hG hL K
  · refine ez_tableIn (off := 1080) (q := 1119) dL_law_39 (by decide) (by decide) (by decide) (by decide) ?_
    exact op_count hN hi hG hL K
  · refine ez_tableIn (off := 1136) (q := 1175) dL_law_39 (by decide) (by decide) (by decide) (by decide) ?_
    exact op_fixes hN hi hG hL K
  · refine ez_tableIn (off := 1216) (q := 1255) dL_law_39 (by decide) (by decide) (by decide) (by decide) ?_
    exact op_ifFair hN hi hG hL K
  · refine ez_tableIn (off := 1284) (q := 1323) dL_law_39 (by decide) (by decide) (by decide) (by decide) ?_
    refine E.less (mc' := mc) (ms' := ms) (by omega) (by omega) ?_
    exact op_fulfilled hN hi hG hL K
  · refine ez_tableIn (off := 1325) (q := 1364) dL_law_39 (by decide) (by decide) (by decide) (by decide) ?_
    refine E.less (mc' := mc) (ms' := ms) (by omega) (by omega) ?_
    exact op_digest hN hi hG hL K
  · refine ez_tableOut (q := 1378) dL_law_39 (Or.inr (by rw [nI_toInt (show c < 2 ^ 31 by omega)]; omega)) (by decide) ?_
    refine E.less (mc' := mc) (ms' := ms) (by omega) (by omega) ?_
    exact K h n (Nat.le_refl _) hL
theorem law_loop {G : ez_G} {nm : String} {hh : List (Nat × Nat × Nat × Nat)} {N : Nat} {sc : Nat → Int32} {Q : ez_Q} (hN : N ≤ 2048) (hG : ez_N G = N ∧ ez_sc G = sc) (hQ : ∀ g m, Q (.inl (some (.int 1))) g m) : ∀ (k i n : Nat) (h : ez_H), LI h → i ≤ N → N < i + 4 * (k + 1) → E G (mLw nm hh) 14 Q h n (3 * k) (18 * k) 23 [some (.ref 0), some (.ref 1), some (.ref 64), some (.ref 74), some (.int (nI i)), none, none, none, none] [] := by
  intro k
  induction k with
  | zero =>
    intro i n h hL hi hk
    exact law_head hN hi hG (law_exit hQ) (fun h4 => absurd h4 (by omega))
  | succ k ih =>
    intro i n h hL hi hk
    refine law_head hN hi hG (law_exit hQ) (fun h4 => ?_)
    have e1 : 3 * (k + 1) = 3 + 3 * k := by omega
    have e2 : 18 * (k + 1) = 18 + 18 * k := by omega
    rw [e1, e2]
    refine law_body hN h4 hG hL (fun g m hm hg => ?_)
    refine ez_iinc_4 (v := nI (i + 4)) (q := 1381) dL_law_1378 (nI_add i 4) (Nat.le_of_ble_eq_true rfl) rfl rfl ?_
    refine ez_goto (q := 23) dL_law_1381 (by decide) ?_
    exact ih (i + 4) m g hg h4 (by omega)
theorem zz_start : ZZ (upd Z0 1 (-1)) 0 4 N0 N0 N0 (fun _ _ => 0) := by
  refine ⟨rfl, rfl, fun i hi => absurd hi (Nat.not_lt_zero i), fun i hi => absurd hi (Nat.not_lt_zero i), fun w hw => ?_, fun w hw k hk => absurd hk (Nat.not_lt_zero k)⟩
  rcases (by omega : w = 0 ∨ w = 1 ∨ w = 2 ∨ w = 3) with rfl | rfl | rfl | rfl <;> rfl
theorem ok_start : OK 0 4 N0 N0 N0 (fun _ _ => 0) := ⟨by decide, by decide, fun i hi => absurd hi (Nat.not_lt_zero i), fun i hi => absurd hi (Nat.not_lt_zero i), fun w hw => Nat.zero_le _, fun w hw k hk => absurd hk (Nat.not_lt_zero k)⟩
def scH : ez_H := fun _ => none
theorem law_run {G : ez_G} {nm : String} {hh : List (Nat × Nat × Nat × Nat)} {N : Nat} {sc : Nat → Int32} {Q : ez_Q} (hN : N ≤ 2048) (hG : ez_N G = N ∧ ez_sc G = sc) (hQ : ∀ g m, Q (.inl (some (.int 1))) g m) : E G (mLw nm hh) 14 Q scH 1 1610 13124 0 [some (.ref 0), none, none, none, none, none, none, none, none] [] := by
  refine i_new7 (mc := 1609) (ms := 13118) (q := 3) dL_law_0 cl_L_8 rfl (fun g f1 hw => ?_)
  refine ez_dup (q := 4) dL_law_3 rfl rfl ?_
  refine i_callI (mc := 1547) (ms := 10968) (n2 := 64) (q := 7) dL_law_4 ck_L_73 (i_X7 (d := 9) (zs := fun _ => (0, 4, N0, N0, N0, fun _ _ => 0)) (b := N0) (by decide) f1) rfl rfl rfl rfl rfl (Nat.le_of_ble_eq_true rfl) rfl (fun g hW => ?_)
  obtain ⟨hI, hw⟩ := hW
  refine ez_astore_1 (q := 8) dL_law_7 rfl (Nat.le_of_ble_eq_true rfl) rfl rfl ?_
  refine i_new8 (mc := 1546) (ms := 10949) (q := 11) dL_law_8 cl_L_74 rfl (fun g f64 hw => ?_)
  have hI := hI.to (fun j a c => hw j (by omega))
  refine ez_dup (q := 12) dL_law_11 rfl rfl ?_
  refine i_callI (mc := 1537) (ms := 9217) (n2 := 74) (q := 15) dL_law_12 ck_L_76 (i_X8 (d := 12) (by decide) f64) rfl rfl rfl rfl rfl (Nat.le_of_ble_eq_true rfl) rfl (fun g hW => ?_)
  obtain ⟨hM, hw⟩ := hW
  have hI := hI.to (fun j a c => hw j (by omega))
  refine ez_astore_2 (q := 16) dL_law_15 rfl (Nat.le_of_ble_eq_true rfl) rfl rfl ?_
  refine ez_iconst (v := nI 1) (q := 17) dL_law_16 (by decide) rfl ?_
  refine i_newl 1 (mc := 1536) (ms := 9216) (q := 19) dL_law_17 rfl (by decide) rfl (fun g f74 hw => ?_)
  have hI := hI.to (fun j a c => hw j (by omega))
  have hM := hM.to (fun j a c => hw j (by omega))
  refine ez_astore_3 (q := 20) dL_law_19 rfl (Nat.le_of_ble_eq_true rfl) rfl rfl ?_
  refine ez_iconst (v := nI 0) (q := 21) dL_law_20 (by decide) rfl ?_
  refine ez_istore_4 (q := 23) dL_law_21 (Nat.le_of_ble_eq_true rfl) rfl rfl ?_
  exact law_loop hN hG hQ 512 0 75 g ⟨0, 4, N0, N0, N0, fun _ _ => 0, 0, _, 0, N0, hI, ok_start, fun w hw hl => absurd hl (Nat.lt_irrefl 0), fun i hi => absurd hi (Nat.not_lt_zero i), ⟨_, f74⟩, 0, _, _, _, _, fun _ => Z0, ⟨_, _, _, _, _, _, _, _, _, _, _, _, hM⟩, zz_start, fun i hi => absurd hi (Nat.not_lt_zero i), fun i hi => absurd hi (Nat.not_lt_zero i), Nat.zero_le _, fun k hk => absurd hk (Nat.not_lt_zero k)⟩ (Nat.zero_le _) (by omega)
