theorem c_L_isPart {G : ez_G} {d n : Nat} {h : ez_H} {n' f k t : Nat} {L T ln : Nat → Nat} {sg : Nat → Nat → Nat} {zs : Nat → AS} {b : Nat → Nat} {w i : Nat} (hI : CJ h h n' f L T ln sg k zs t b) (ho : OK n' f L T ln sg) (hs : WFS ln sg) (hn8 : n' ≤ 8) (hw : w < 4) (hi : i < ln w) : Con G mL_isPart (d + 12) [.ref 1, .int (nI w), .int (nI i), .int (nI (lvN T n' f L))] h n 0 0 (PW n (some (.int (nI 1))) (fun g => CJ h g n' f L T ln sg k zs t b)) := by
  cases hb : wayB (sg w i) with
  | true => exact c_L_isPartW hI ho hs hn8 hw hi hb
  | false => exact c_L_isPartP hI ho hs hn8 hw hi hb
set_option maxHeartbeats 800000 in
set_option maxRecDepth 100000 in
theorem c_L_isWish {G : ez_G} {d n : Nat} {h : ez_H} {n' f k t : Nat} {L T ln : Nat → Nat} {sg : Nat → Nat → Nat} {zs : Nat → AS} {b : Nat → Nat} {w : Nat} (hI : CJ h h n' f L T ln sg k zs t b) (ho : OK n' f L T ln sg) (hs : WFS ln sg)  (hn8 : n' ≤ 8) (hw : w < 4) (hl0 : 0 < ln w) : Con G mL_isWish (d + 13) [.ref 1, .int (nI w), .int (nI (lvN T n' f L))] h n 0 0 (PW n (some (.int (nI 1))) (fun g => CJ h g n' f L T ln sg k zs t b)) := by
  have hn := ho.1
  have hl4 := ho.2.2.2.2.1 w hw
  obtain ⟨sc, hwf⟩ := hs w hw hl0
  have hnw := (wf_w hwf hl0).trans (wf_0 hwf).2.1
  have hlen := wf_len hwf
  have hd1 := deW_pos (m := ln w) (s := sg w) hl0
  have hd2 := deW_l (ln w) (sg w) 0
  refine Con.of [some (.ref 1), some (.int (nI w)), some (.int (nI (lvN T n' f L))), none, none, none] pl_L rfl (Nat.le_of_ble_eq_true rfl) rfl ?_
  have hQ : ∀ g, CJ h g n' f L T ln sg k zs t b → (PW n (some (.int (nI 1))) (fun g => CJ h g n' f L T ln sg k zs t b)) (.inl (some (.int (nI 1)))) g n := fun g h1 => ⟨rfl, h1, rfl⟩
  generalize PW n (some (.int (nI 1))) (fun g => CJ h g n' f L T ln sg k zs t b) = Q at hQ ⊢
  refine ez_iconst (v := nI 0) (q := 1) dL_isWish_0 (by decide) rfl ?_
  refine ez_istore_3 (q := 2) dL_isWish_1 rfl (by decide) rfl rfl ?_
  refine ez_aload_n (q := 3) 0 dL_isWish_2 rfl rfl rfl ?_
  refine ez_iload_n (q := 4) 1 dL_isWish_3 rfl rfl rfl ?_
  refine ez_iconst (v := nI 0) (q := 5) dL_isWish_4 (by decide) rfl ?_
  refine cXv (q := 8) dL_isWish_5 ck_L_68 hI.1.1 (v_X7_wish (what := 0) hI.rb ho hs (by omega) (by decide)) rfl ⟨by decide, rfl⟩ rfl rfl rfl (Nat.le_of_ble_eq_true rfl) rfl (fun g hW => ?_)
  have hI := hI.tr hW
  clear hW
  refine ez_top ((ts_w hl0).trans (show nI (tsN T n' f L ln sg w 0) = nI (ln w) from rfl)) ?_
  refine ez_istore_4 (q := 10) dL_isWish_8 (by decide) rfl rfl ?_
  refine ez_iconst (v := nI 0) (q := 11) dL_isWish_10 (by decide) rfl ?_
  refine ez_istore_5 (q := 13) dL_isWish_11 (by decide) rfl rfl ?_
  refine ez_loop (α := Nat) (fun j => ln w - j) (P := fun j => ∀ (g : ez_H) , CJ h g n' f L T ln sg k zs t b → (j ≤ ln w) → E G mL_isWish (d + 13) Q g n 0 0 13 [some (.ref 1), some (.int (nI w)), some (.int (nI (lvN T n' f L))), some (.int (nI (roN T n' f L (ln w) (sg w) j))), some (.int (nI (ln w))), some (.int (nI j))] []) ?_ 0 g hI (by omega)
  intro j ih13 g  hM hj
  have hI := hM
  refine ez_iload (q := 15) dL_isWish_13 rfl rfl ?_
  refine ez_iload (q := 17) dL_isWish_15 rfl rfl ?_
  refine ez_icmpgeN (q := 20) (tgt := 65) dL_isWish_17 (by decide) (by omega) (by omega) rfl (fun hc17 => ?_) (fun hc17 => ?_)
  · have e9 : j = ln w := by omega
    rw [e9]
    refine ez_aload_n (q := 66) 0 dL_isWish_65 rfl rfl rfl ?_
    refine ez_iload_n (q := 67) 1 dL_isWish_66 rfl rfl rfl ?_
    refine ez_iconst (v := nI 3) (q := 68) dL_isWish_67 (by decide) rfl ?_
    refine cXv (q := 71) dL_isWish_68 ck_L_68 hI.1.1 (v_X7_wish (what := 3) hI.rb ho hs (by omega) (by decide)) rfl ⟨by decide, rfl⟩ rfl rfl rfl (Nat.le_of_ble_eq_true rfl) rfl (fun g hW => ?_)
    have hI := hI.tr hW
    clear hW
    refine ez_top ((ts_w hl0).trans (show nI (tsN T n' f L ln sg w 3) = nI (deW (ln w) (sg w) 0) from rfl)) ?_
    refine ez_istore_5 (q := 73) dL_isWish_71 (by decide) rfl rfl ?_
    refine ez_iload (q := 75) dL_isWish_73 rfl rfl ?_
    refine ez_iconst (v := nI 1) (q := 76) dL_isWish_75 (by decide) rfl ?_
    refine ez_icmpltN (q := 79) (tgt := 134) dL_isWish_76 (by decide) (by omega) (by omega) rfl (fun hc76 => absurd hl0 (by omega)) (fun hc76 => ?_)
    refine ez_aload_n (q := 80) 0 dL_isWish_79 rfl rfl rfl ?_
    refine ez_iload_n (q := 81) 1 dL_isWish_80 rfl rfl rfl ?_
    refine ez_iconst (v := nI 0) (q := 82) dL_isWish_81 (by decide) rfl ?_
    refine ez_iconst (v := nI 3) (q := 83) dL_isWish_82 (by decide) rfl ?_
    refine cXv (q := 86) dL_isWish_83 ck_L_63 hI.1.1 (v_X7_sign (what := 3) hI.rb ho hs (by omega) hl0 (by decide)) rfl ⟨by decide, rfl⟩ rfl rfl rfl (Nat.le_of_ble_eq_true rfl) rfl (fun g hW => ?_)
    have hI := hI.tr hW
    clear hW
    refine ez_top (tg_3 hnw) ?_
    refine ez_iload (q := 88) dL_isWish_86 rfl rfl ?_
    refine ez_icmpneN (q := 91) (tgt := 134) dL_isWish_88 (by decide) (by omega) (by omega) rfl (fun hc88 => absurd hlen (by omega)) (fun hc88 => ?_)
    refine ez_aload_n (q := 92) 0 dL_isWish_91 rfl rfl rfl ?_
    refine ez_iload_n (q := 93) 1 dL_isWish_92 rfl rfl rfl ?_
    refine ez_iconst (v := nI 1) (q := 94) dL_isWish_93 (by decide) rfl ?_
    refine cXv (q := 97) dL_isWish_94 ck_L_68 hI.1.1 (v_X7_wish (what := 1) hI.rb ho hs (by omega) (by decide)) rfl ⟨by decide, rfl⟩ rfl rfl rfl (Nat.le_of_ble_eq_true rfl) rfl (fun g hW => ?_)
    have hI := hI.tr hW
    clear hW
    refine ez_top ((ts_w hl0).trans (show nI (tsN T n' f L ln sg w 1) = nI (hW T n' f L ln sg w) from rfl)) ?_
    refine ez_aload_n (q := 98) 0 dL_isWish_97 rfl rfl rfl ?_
    refine ez_iload_n (q := 99) 1 dL_isWish_98 rfl rfl rfl ?_
    refine ez_iconst (v := nI 0) (q := 100) dL_isWish_99 (by decide) rfl ?_
    refine ez_iconst (v := nI 1) (q := 101) dL_isWish_100 (by decide) rfl ?_
    refine cXv (q := 104) dL_isWish_101 ck_L_63 hI.1.1 (v_X7_sign (what := 1) hI.rb ho hs (by omega) hl0 (by decide)) rfl ⟨by decide, rfl⟩ rfl rfl rfl (Nat.le_of_ble_eq_true rfl) rfl (fun g hW => ?_)
    have hI := hI.tr hW
    clear hW
    refine ez_top (tg_1 hnw) ?_
    refine ez_icmpne (q := 107) (tgt := 134) dL_isWish_104 (by decide) rfl (fun hc104 => absurd rfl hc104) (fun hc104 => ?_)
    refine ez_aload_n (q := 108) 0 dL_isWish_107 rfl rfl rfl ?_
    refine ez_iload_n (q := 109) 1 dL_isWish_108 rfl rfl rfl ?_
    refine ez_iconst (v := nI 2) (q := 110) dL_isWish_109 (by decide) rfl ?_
    refine cXv (q := 113) dL_isWish_110 ck_L_68 hI.1.1 (v_X7_wish (what := 2) hI.rb ho hs (by omega) (by decide)) rfl ⟨by decide, rfl⟩ rfl rfl rfl (Nat.le_of_ble_eq_true rfl) rfl (fun g hW => ?_)
    have hI := hI.tr hW
    clear hW
    refine ez_top ((ts_w hl0).trans (show nI (tsN T n' f L ln sg w 2) = nI (roN T n' f L (ln w) (sg w) (ln w)) from rfl)) ?_
    refine ez_iload_n (q := 114) 3 dL_isWish_113 rfl rfl rfl ?_
    refine ez_icmpne (q := 117) (tgt := 134) dL_isWish_114 (by decide) rfl (fun hc114 => absurd rfl hc114) (fun hc114 => ?_)
    refine ez_iload (q := 119) dL_isWish_117 rfl rfl ?_
    refine ez_iconst (v := nI 1) (q := 120) dL_isWish_119 (by decide) rfl ?_
    refine ez_icmpltN (q := 123) (tgt := 134) dL_isWish_120 (by decide) (by omega) (by omega) rfl (fun hc120 => absurd hd1 (by omega)) (fun hc120 => ?_)
    refine ez_iload (q := 125) dL_isWish_123 rfl rfl ?_
    refine ez_iload (q := 127) dL_isWish_125 rfl rfl ?_
    refine ez_icmpgtN (q := 130) (tgt := 134) dL_isWish_127 (by decide) (by omega) (by omega) rfl (fun hc127 => absurd hd2 (by omega)) (fun hc127 => ?_)
    refine ez_iconst (v := nI 1) (q := 131) dL_isWish_130 (by decide) rfl ?_
    refine ez_goto (q := 135) dL_isWish_131 (by decide) ?_
    exact ez_zret dL_isWish_135 rfl rfl (hQ _ hI)
  · refine ez_aload_n (q := 21) 0 dL_isWish_20 rfl rfl rfl ?_
    refine ez_iload_n (q := 22) 1 dL_isWish_21 rfl rfl rfl ?_
    refine ez_iload (q := 24) dL_isWish_22 rfl rfl ?_
    refine ez_iload_n (q := 25) 2 dL_isWish_24 rfl rfl rfl ?_
    refine cSw (q := 28) dL_isWish_25 ck_L_71 (c_L_isPart hI.rb ho hs hn8 (by omega) (by omega)) rfl rfl rfl (Nat.le_of_ble_eq_true rfl) rfl (fun g hW => ?_)
    have hI := hI.tr hW
    clear hW
    refine ez_ifneN (q := 31) (tgt := 33) dL_isWish_28 (by decide) (by decide) rfl (fun hc28 => ?_) (fun hc28 => ?_)
    · first
      | exact absurd hc28 (by decide)
      | skip
        refine ez_iload_n (q := 34) 3 dL_isWish_33 rfl rfl rfl ?_
        refine ez_aload_n (q := 35) 0 dL_isWish_34 rfl rfl rfl ?_
        refine ez_iload_n (q := 36) 1 dL_isWish_35 rfl rfl rfl ?_
        refine ez_iload (q := 38) dL_isWish_36 rfl rfl ?_
        refine ez_iconst (v := nI 2) (q := 39) dL_isWish_38 (by decide) rfl ?_
        refine cXv (q := 42) dL_isWish_39 ck_L_63 hI.1.1 (v_X7_sign (what := 2) hI.rb ho hs (by omega) (by omega) (by decide)) rfl ⟨by decide, rfl⟩ rfl rfl rfl (Nat.le_of_ble_eq_true rfl) rfl (fun g hW => ?_)
        have hI := hI.tr hW
        clear hW
        refine ez_top (tg_rw) ?_
        refine ez_ifle (q := 45) (tgt := 56) dL_isWish_42 (by decide) rfl (fun hc42 => ?_) (fun hc42 => ?_)
        · refine ez_iconst (v := nI 0) (q := 57) dL_isWish_56 (by decide) rfl ?_
          refine ez_iaddN (q := 58) dL_isWish_57 rfl ?_
          first | refine ez_top (rw_t hc42) ?_ | refine ez_top (congrArg nI (rw_f hc42)) ?_
          refine ez_istore_3 (q := 59) dL_isWish_58 rfl (by decide) rfl rfl ?_
          refine ez_iincN_5 (q := 62) dL_isWish_59 (by decide) rfl rfl ?_
          refine ez_goto (q := 13) dL_isWish_62 (by decide) ?_
          exact E.fg (ih13 (j + 1) (by omega) g hI (by omega)) ⟨Or.inr (rfl), Or.inr (rfl), Or.inr (rfl), Or.inr (rfl), Or.inr (rfl), Or.inr (rfl), trivial⟩
        · refine ez_aload_n (q := 46) 0 dL_isWish_45 rfl rfl rfl ?_
          refine ez_iload_n (q := 47) 1 dL_isWish_46 rfl rfl rfl ?_
          refine ez_iload (q := 49) dL_isWish_47 rfl rfl ?_
          refine ez_iconst (v := nI 2) (q := 50) dL_isWish_49 (by decide) rfl ?_
          refine cXv (q := 53) dL_isWish_50 ck_L_63 hI.1.1 (v_X7_sign (what := 2) hI.rb ho hs (by omega) (by omega) (by decide)) rfl ⟨by decide, rfl⟩ rfl rfl rfl (Nat.le_of_ble_eq_true rfl) rfl (fun g hW => ?_)
          have hI := hI.tr hW
          clear hW
          refine ez_top (tg_rw) ?_
          refine ez_goto (q := 57) dL_isWish_53 (by decide) ?_
          refine ez_iadd (q := 58) dL_isWish_57 rfl ?_
          first | refine ez_top (rw_t hc42) ?_ | refine ez_top (congrArg nI (rw_f hc42)) ?_
          refine ez_istore_3 (q := 59) dL_isWish_58 rfl (by decide) rfl rfl ?_
          refine ez_iincN_5 (q := 62) dL_isWish_59 (by decide) rfl rfl ?_
          refine ez_goto (q := 13) dL_isWish_62 (by decide) ?_
          exact E.fg (ih13 (j + 1) (by omega) g hI (by omega)) ⟨Or.inr (rfl), Or.inr (rfl), Or.inr (rfl), Or.inr (rfl), Or.inr (rfl), Or.inr (rfl), trivial⟩
    · first
      | exact absurd hc28 (by decide)
      | skip
        refine ez_iconst (v := nI 0) (q := 32) dL_isWish_31 (by decide) rfl ?_
        exact ez_zret dL_isWish_32 rfl rfl (hQ _ hI)

