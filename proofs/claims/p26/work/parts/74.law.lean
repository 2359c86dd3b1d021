set_option maxHeartbeats 800000 in
set_option maxRecDepth 100000 in
theorem law_B {G : ez_G} {nm : String} {hh : List (Nat × Nat × Nat × Nat)} {n N : Nat} {sc : Nat → Int32} {Q : ez_Q} {h : ez_H} {n' f k t : Nat} {L T ln : Nat → Nat} {sg : Nat → Nat → Nat} {zs : Nat → AS} {b : Nat → Nat} (hI : CJ h h n' f L T ln sg k zs t b) (ho : OK n' f L T ln sg) (hs : WFS ln sg) (hG : ez_N G = N ∧ ez_sc G = sc) (hN : N ≤ 260) (hQ : ∀ g m, Q (.inl (some (.int (nI 1)))) g m) (hn8 : n' ≤ 8) (h1n : 1 ≤ n') (hz : ∀ i, i < k → OKA (zs i)) (ht0 : t = 0) (hlz0 : ∀ v, ln v = 0) : E G (mLw nm hh) 14 Q h n 0 0 21 [some (.ref 0), some (.ref 1), some (.int (nI n')), none, none, none, none, none, none, none, none, none, none, none, none, none] [] := by
  have hn := ho.1
  refine ez_iconst (v := nI 1) (q := 22) dL_law_21 (by decide) rfl ?_
  refine ez_iload_n (q := 23) 2 dL_law_22 rfl rfl rfl ?_
  refine ez_shl1 (q := 24) dL_law_23 (by omega) rfl ?_
  refine ez_iconst (v := nI 1) (q := 25) dL_law_24 (by decide) rfl ?_
  refine ez_isubN (q := 26) dL_law_25 (Nat.two_pow_pos _) rfl ?_
  refine ez_istore_3 (q := 27) dL_law_26 rfl (Nat.le_of_ble_eq_true rfl) rfl rfl ?_
  refine ez_aload_n (q := 28) 1 dL_law_27 rfl rfl rfl ?_
  refine ez_iload_n (q := 29) 3 dL_law_28 rfl rfl rfl ?_
  refine cSw (q := 32) dL_law_29 ck_L_60 (c_L_stays hI.rb ho hs (al_lt n')) rfl rfl rfl (Nat.le_of_ble_eq_true rfl) rfl (fun g hW => ?_)
  have hI := hI.tr hW
  clear hW
  refine ez_top (show nI (stN T n' f L (2 ^ n' - 1)) = nI (lvN T n' f L) from rfl) ?_
  refine ez_istore_4 (q := 34) dL_law_32 (Nat.le_of_ble_eq_true rfl) rfl rfl ?_
  refine ez_iconst (v := nI 0) (q := 35) dL_law_34 (by decide) rfl ?_
  refine ez_istore_5 (q := 37) dL_law_35 (Nat.le_of_ble_eq_true rfl) rfl rfl ?_
  refine ez_iconst (v := nI 0) (q := 38) dL_law_37 (by decide) rfl ?_
  refine ez_istore_6 (q := 40) dL_law_38 (Nat.le_of_ble_eq_true rfl) rfl rfl ?_
  refine ez_loop (α := Nat) (fun i => n' - i) (P := fun i => ∀ (g : ez_H) , CJ h g n' f L T ln sg k zs t b → (i ≤ n') → E G (mLw nm hh) 14 Q g n 0 0 40 [some (.ref 0), some (.ref 1), some (.int (nI n')), some (.int (nI (2 ^ n' - 1))), some (.int (nI (lvN T n' f L))), some (.int (nI (ctN (lvN T n' f L) i))), some (.int (nI i)), none, none, none, none, none, none, none, none, none] []) ?_ 0 g hI (by omega)
  intro i ih40 g  hM hi
  have hI := hM
  refine ez_iload (q := 42) dL_law_40 rfl rfl ?_
  refine ez_iload_n (q := 43) 2 dL_law_42 rfl rfl rfl ?_
  refine ez_icmpgeN (q := 46) (tgt := 101) dL_law_43 (by decide) (by omega) (by omega) rfl (fun hc43 => ?_) (fun hc43 => ?_)
  · have e9 : i = n' := by omega
    rw [e9]
    refine ez_aload_n (q := 102) 1 dL_law_101 rfl rfl rfl ?_
    refine ez_iconst (v := nI 2) (q := 103) dL_law_102 (by decide) rfl ?_
    refine cXv (q := 106) dL_law_103 ck_L_45 hI.1.1 (v_X7_count (what := 2) hI.rb ho hs (by decide)) rfl ⟨by decide, rfl⟩ rfl rfl rfl (Nat.le_of_ble_eq_true rfl) rfl (fun g hW => ?_)
    have hI := hI.tr hW
    clear hW
    refine ez_top (show couI T n' f L ln sg k 2 = nI (ctN (lvN T n' f L) n') from congrArg nI (ct_top (lvN_lt T n' f L) 10 hn)) ?_
    refine ez_iload (q := 108) dL_law_106 rfl rfl ?_
    refine ez_icmpeq (q := 111) (tgt := 113) dL_law_108 (by decide) rfl (fun hc108 => ?_) (fun hc108 => absurd (rfl) hc108)
    exact E.fg (law_C (hI.rb) ho hs hG hN hQ hn8 h1n hz ht0 hlz0) ⟨Or.inr (rfl), Or.inr (rfl), Or.inr (rfl), Or.inr (rfl), Or.inr (rfl), Or.inl rfl, Or.inl rfl, Or.inl rfl, Or.inl rfl, Or.inl rfl, Or.inl rfl, Or.inl rfl, Or.inl rfl, Or.inl rfl, Or.inl rfl, Or.inl rfl, trivial⟩
  · refine ez_iload (q := 48) dL_law_46 rfl rfl ?_
    refine ez_iload (q := 50) dL_law_48 rfl rfl ?_
    refine ez_iload (q := 52) dL_law_50 rfl rfl ?_
    refine ez_ishrN (q := 53) dL_law_52 (lt31 (lvN_lt _ _ _ _) hn) (by omega) rfl ?_
    refine ez_iconst (v := nI 1) (q := 54) dL_law_53 (by decide) rfl ?_
    refine ez_iandN (q := 55) dL_law_54 rfl ?_
    refine ez_iaddN (q := 56) dL_law_55 rfl ?_
    refine ez_istore_5 (q := 58) dL_law_56 (Nat.le_of_ble_eq_true rfl) rfl rfl ?_
    refine ez_aload_n (q := 59) 1 dL_law_58 rfl rfl rfl ?_
    refine ez_iload (q := 61) dL_law_59 rfl rfl ?_
    refine ez_iconst (v := nI 3) (q := 62) dL_law_61 (by decide) rfl ?_
    refine cXv (q := 65) dL_law_62 ck_L_36 hI.1.1 (v_X7_world (what := 3) hI.rb ho hs (by omega) (by decide)) rfl ⟨by decide, rfl⟩ rfl rfl rfl (Nat.le_of_ble_eq_true rfl) rfl (fun g hW => ?_)
    have hI := hI.tr hW
    clear hW
    refine ez_top (show nI (twN T n' f L ln sg i 3) = nI (lvN T n' f L >>> i &&& 1) from rfl) ?_
    refine ez_iload (q := 67) dL_law_65 rfl rfl ?_
    refine ez_iload (q := 69) dL_law_67 rfl rfl ?_
    refine ez_ishrN (q := 70) dL_law_69 (lt31 (lvN_lt _ _ _ _) hn) (by omega) rfl ?_
    refine ez_iconst (v := nI 1) (q := 71) dL_law_70 (by decide) rfl ?_
    refine ez_iandN (q := 72) dL_law_71 rfl ?_
    refine ez_icmpne (q := 75) (tgt := 93) dL_law_72 (by decide) rfl (fun hc72 => absurd (rfl) hc72) (fun hc72 => ?_)
    refine ez_aload_n (q := 76) 1 dL_law_75 rfl rfl rfl ?_
    refine ez_iload (q := 78) dL_law_76 rfl rfl ?_
    refine ez_iconst (v := nI 2) (q := 79) dL_law_78 (by decide) rfl ?_
    refine cXv (q := 82) dL_law_79 ck_L_36 hI.1.1 (v_X7_world (what := 2) hI.rb ho hs (by omega) (by decide)) rfl ⟨by decide, rfl⟩ rfl rfl rfl (Nat.le_of_ble_eq_true rfl) rfl (fun g hW => ?_)
    have hI := hI.tr hW
    clear hW
    refine ez_top (show nI (twN T n' f L ln sg i 2) = nI (inN T (2 ^ i) n') from rfl) ?_
    refine ez_aload_n (q := 83) 1 dL_law_82 rfl rfl rfl ?_
    refine ez_iconst (v := nI 1) (q := 84) dL_law_83 (by decide) rfl ?_
    refine ez_iload (q := 86) dL_law_84 rfl rfl ?_
    refine ez_shl1 (q := 87) dL_law_86 (by omega) rfl ?_
    refine cSw (q := 90) dL_law_87 ck_L_52 (c_L_into hI.rb ho hs) rfl rfl rfl (Nat.le_of_ble_eq_true rfl) rfl (fun g hW => ?_)
    have hI := hI.tr hW
    clear hW
    refine ez_icmpeq (q := 93) (tgt := 95) dL_law_90 (by decide) rfl (fun hc90 => ?_) (fun hc90 => absurd (rfl) hc90)
    refine ez_iincN_6 (q := 98) dL_law_95 (Nat.le_of_ble_eq_true rfl) rfl rfl ?_
    refine ez_goto (q := 40) dL_law_98 (by decide) ?_
    exact E.fg (ih40 (i + 1) (by omega) g hI (by omega)) ⟨Or.inr (rfl), Or.inr (rfl), Or.inr (rfl), Or.inr (rfl), Or.inr (rfl), Or.inr (by rw [ct_s]), Or.inr (rfl), Or.inl rfl, Or.inl rfl, Or.inl rfl, Or.inl rfl, Or.inl rfl, Or.inl rfl, Or.inl rfl, Or.inl rfl, Or.inl rfl, trivial⟩
set_option maxHeartbeats 800000 in
set_option maxRecDepth 100000 in
theorem law_A {G : ez_G} {nm : String} {hh : List (Nat × Nat × Nat × Nat)} {n N : Nat} {sc : Nat → Int32} {Q : ez_Q} {h : ez_H} {n' f k t : Nat} {L T ln : Nat → Nat} {sg : Nat → Nat → Nat} {zs : Nat → AS} {b : Nat → Nat} (hI : CJ h h n' f L T ln sg k zs t b) (ho : OK n' f L T ln sg) (hs : WFS ln sg) (hG : ez_N G = N ∧ ez_sc G = sc) (hN : N ≤ 260) (hQ : ∀ g m, Q (.inl (some (.int (nI 1)))) g m) (hz : ∀ i, i < k → OKA (zs i)) (ht0 : t = 0) (hlz0 : ∀ v, ln v = 0) (hn0 : n' = 0) (hf0 : f = 4) : E G (mLw nm hh) 14 Q h n 0 0 8 [some (.ref 0), some (.ref 1), none, none, none, none, none, none, none, none, none, none, none, none, none, none] [] := by
  have hn := ho.1
  refine ez_aload_n (q := 9) 1 dL_law_8 rfl rfl rfl ?_
  refine ez_aload_n (q := 10) 0 dL_law_9 rfl rfl rfl ?_
  refine ez_iconst (v := nI 0) (q := 11) dL_law_10 (by decide) rfl ?_
  refine cSE (q := 14) dL_law_11 ck_L_76 (c_L_build hI.rb ho hs hG hN hn0 hf0 hz (by decide)) rfl rfl rfl (Nat.le_of_ble_eq_true rfl) rfl (fun n2 g hW => ?_)
  obtain ⟨f2, L2, T2, k2, zs2, hI2, ho2, hz2, h1n, hn8⟩ := hW
  have hI := hI.tr hI2
  clear hI2
  refine ez_istore_2 (q := 15) dL_law_14 rfl (Nat.le_of_ble_eq_true rfl) rfl rfl ?_
  refine ez_iload_n (q := 16) 2 dL_law_15 rfl rfl rfl ?_
  refine ez_ifgeN (q := 19) (tgt := 21) dL_law_16 (by decide) (by omega) rfl ?_
  exact E.fg (law_B (hI.rb) ho2 hs hG hN hQ hn8 h1n hz2 ht0 hlz0) ⟨Or.inr (rfl), Or.inr (rfl), Or.inr (rfl), Or.inl rfl, Or.inl rfl, Or.inl rfl, Or.inl rfl, Or.inl rfl, Or.inl rfl, Or.inl rfl, Or.inl rfl, Or.inl rfl, Or.inl rfl, Or.inl rfl, Or.inl rfl, Or.inl rfl, trivial⟩
theorem law_run {G : ez_G} {nm : String} {hh : List (Nat × Nat × Nat × Nat)} {N : Nat} {sc : Nat → Int32} {Q : ez_Q} (hN : N ≤ 260) (hG : ez_N G = N ∧ ez_sc G = sc) (hQ : ∀ g m, Q (.inl (some (.int (nI 1)))) g m) : E G (mLw nm hh) 14 Q scH 1 63 2156 0 [some (.ref 0), none, none, none, none, none, none, none, none, none, none, none, none, none, none, none] [] := by
  refine i_new7 (mc := 62) (ms := 2150) (q := 3) dL_law_0 cl_L_28 rfl (fun g f1 hw => ?_)
  refine ez_dup (q := 4) dL_law_3 rfl rfl ?_
  refine i_callI (mc := 0) (ms := 0) (n2 := 64) (q := 7) dL_law_4 ck_L_75 (i_X7 (d := 9) (zs := fun _ => (0, 4, N0, N0, N0, fun _ _ => 0)) (b := N0) (by decide) f1) rfl rfl rfl rfl rfl (Nat.le_of_ble_eq_true rfl) rfl (fun g hW => ?_)
  obtain ⟨hI, hw⟩ := hW
  refine ez_astore_1 (q := 8) dL_law_7 rfl (Nat.le_of_ble_eq_true rfl) rfl rfl ?_
  exact law_A (h := g) ⟨hI, fun _ _ => rfl⟩ ok_start (fun w hw hl => absurd hl (Nat.lt_irrefl 0)) hG hN hQ (fun i hi => absurd hi (Nat.not_lt_zero i)) rfl (fun _ => rfl) rfl rfl
