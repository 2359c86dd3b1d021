set_option maxHeartbeats 800000 in
set_option maxRecDepth 100000 in
theorem law_F {G : ez_G} {nm : String} {hh : List (Nat × Nat × Nat × Nat)} {n N : Nat} {sc : Nat → Int32} {Q : ez_Q} {h : ez_H} {n' f k t : Nat} {L T ln : Nat → Nat} {sg : Nat → Nat → Nat} {zs : Nat → AS} {b : Nat → Nat} (hI : CJ h h n' f L T ln sg k zs t b) (ho : OK n' f L T ln sg) (hs : WFS ln sg) (hG : ez_N G = N ∧ ez_sc G = sc) (hN : N ≤ 260) (hQ : ∀ g m, Q (.inl (some (.int (nI 1)))) g m) (hn8 : n' ≤ 8) (h1n : 1 ≤ n') (hl : ∀ v, v < 3 → 0 < ln v) (hl3 : ln 3 = 0) : E G (mLw nm hh) 14 Q h n 0 0 553 [none, some (.ref 1), some (.int (nI n')), none, none, none, none, none, none, some (.int (nI (hqN T n' f L ln sg 3))), some (.int (nI (ahN T n' f L ln sg 3))), none, none, some (.int (nI (cmN (hW T n' f L ln sg 0) (hW T n' f L ln sg 1)))), none, none] [] := by
  have hn := ho.1
  refine ez_iconst (v := nI 0) (q := 554) dL_law_553 (by decide) rfl ?_
  refine ez_istore_14 (q := 556) dL_law_554 (Nat.le_of_ble_eq_true rfl) rfl rfl ?_
  refine ez_iconst (v := nI 0) (q := 557) dL_law_556 (by decide) rfl ?_
  refine ez_istore_15 (q := 559) dL_law_557 (Nat.le_of_ble_eq_true rfl) rfl rfl ?_
  refine E.fg (ez_loop (α := Nat) (fun j => n' - j) (P := fun j => ∀ (g : ez_H) , CJ h g n' f L T ln sg k zs t b → (j ≤ n') → E G (mLw nm hh) 14 Q g n 0 0 559 [none, some (.ref 1), some (.int (nI n')), none, none, none, none, none, none, some (.int (nI (hqN T n' f L ln sg 3))), some (.int (nI (ahN T n' f L ln sg 3))), none, none, some (.int (nI (cmN (hW T n' f L ln sg 0) (hW T n' f L ln sg 1)))), some (.int (nI (ctN (ahN T n' f L ln sg 3) j))), some (.int (nI j))] []) ?_ 0 h hI (by omega)) ⟨Or.inl rfl, Or.inr (rfl), Or.inr (rfl), Or.inl rfl, Or.inl rfl, Or.inl rfl, Or.inl rfl, Or.inl rfl, Or.inl rfl, Or.inr (rfl), Or.inr (rfl), Or.inl rfl, Or.inl rfl, Or.inr (rfl), Or.inr (rfl), Or.inr (rfl), trivial⟩
  intro j ih559 g  hM hj
  have hI := hM
  refine ez_iload (q := 561) dL_law_559 rfl rfl ?_
  refine ez_iload_n (q := 562) 2 dL_law_561 rfl rfl rfl ?_
  refine ez_icmpgeN (q := 565) (tgt := 583) dL_law_562 (by decide) (by omega) (by omega) rfl (fun hc562 => ?_) (fun hc562 => ?_)
  · have e9 : j = n' := by omega
    rw [e9]
    refine ez_aload_n (q := 584) 1 dL_law_583 rfl rfl rfl ?_
    refine ez_iconst (v := nI 0) (q := 585) dL_law_584 (by decide) rfl ?_
    refine ez_iconst (v := nI 1) (q := 586) dL_law_585 (by decide) rfl ?_
    refine cXv (q := 589) dL_law_586 ck_L_104 hI.1.1 (v_X7_compare (w := 0) (v := 1) hI.rb ho hs (by decide) (by decide)) rfl ⟨by decide, rfl⟩ rfl rfl rfl (Nat.le_of_ble_eq_true rfl) rfl (fun g hW => ?_)
    have hI := hI.tr hW
    clear hW
    refine ez_top (if_neg (fun a => a.elim (fun e => absurd (hl 0 (by decide)) (by omega)) (fun e => absurd (hl 1 (by decide)) (by omega)))) ?_
    refine ez_iload (q := 591) dL_law_589 rfl rfl ?_
    refine ez_icmpne (q := 594) (tgt := 644) dL_law_591 (by decide) rfl (fun hc591 => absurd (rfl) hc591) (fun hc591 => ?_)
    refine ez_aload_n (q := 595) 1 dL_law_594 rfl rfl rfl ?_
    refine ez_iconst (v := nI 0) (q := 596) dL_law_595 (by decide) rfl ?_
    refine ez_iconst (v := nI 3) (q := 597) dL_law_596 (by decide) rfl ?_
    refine cXv (q := 600) dL_law_597 ck_L_104 hI.1.1 (v_X7_compare (w := 0) (v := 3) hI.rb ho hs (by decide) (by decide)) rfl ⟨by decide, rfl⟩ rfl rfl rfl (Nat.le_of_ble_eq_true rfl) rfl (fun g hW => ?_)
    have hI := hI.tr hW
    clear hW
    refine ez_top (if_pos (Or.inr hl3)) ?_
    refine ez_iconst (v := -1) (q := 601) dL_law_600 (by decide) rfl ?_
    refine ez_icmpne (q := 604) (tgt := 644) dL_law_601 (by decide) rfl (fun hc601 => absurd (rfl) hc601) (fun hc601 => ?_)
    refine ez_aload_n (q := 605) 1 dL_law_604 rfl rfl rfl ?_
    refine ez_iconst (v := nI 5) (q := 606) dL_law_605 (by decide) rfl ?_
    refine cXv (q := 609) dL_law_606 ck_L_45 hI.1.1 (v_X7_count (what := 5) hI.rb ho hs (by decide)) rfl ⟨by decide, rfl⟩ rfl rfl rfl (Nat.le_of_ble_eq_true rfl) rfl (fun g hW => ?_)
    have hI := hI.tr hW
    clear hW
    refine ez_top (show couI T n' f L ln sg k 5 = nI 3 from congrArg nI (wm_3 hl hl3)) ?_
    refine ez_iconst (v := nI 3) (q := 610) dL_law_609 (by decide) rfl ?_
    refine ez_icmpne (q := 613) (tgt := 644) dL_law_610 (by decide) rfl (fun hc610 => absurd (rfl) hc610) (fun hc610 => ?_)
    refine ez_aload_n (q := 614) 1 dL_law_613 rfl rfl rfl ?_
    refine ez_bipush (v := nI 7) (q := 616) dL_law_614 (by decide) rfl ?_
    refine cXv (q := 619) dL_law_616 ck_L_45 hI.1.1 (v_X7_count (what := 7) hI.rb ho hs (by decide)) rfl ⟨by decide, rfl⟩ rfl rfl rfl (Nat.le_of_ble_eq_true rfl) rfl (fun g hW => ?_)
    have hI := hI.tr hW
    clear hW
    refine ez_top (show couI T n' f L ln sg k 7 = nI (ctN (ahN T n' f L ln sg 3) n') from congrArg nI ((congrArg (fun x => ctN x 10) (ah_z hl3).symm).trans (ct_top (ah_lt 3) 10 hn))) ?_
    refine ez_iload (q := 621) dL_law_619 rfl rfl ?_
    refine ez_icmpne (q := 624) (tgt := 644) dL_law_621 (by decide) rfl (fun hc621 => absurd (rfl) hc621) (fun hc621 => ?_)
    refine ez_aload_n (q := 625) 1 dL_law_624 rfl rfl rfl ?_
    refine cXv (q := 628) dL_law_625 ck_L_107 hI.1.1 (v_X7_fulfilled hI.rb ho hs) rfl ⟨by decide, rfl⟩ rfl rfl rfl (Nat.le_of_ble_eq_true rfl) rfl (fun g hW => ?_)
    have hI := hI.tr hW
    clear hW
    have hq4 : hpN T n' f L ln sg n' = hqN T n' f L ln sg 3 := (hq_hp hn).symm.trans (by rw [hqN, if_neg (by omega)]; rfl)
    have hq9 := hq_le (T := T) (n := n') (f := f) (L := L) (ln := ln) (sg := sg) hn 3
    have hp9 : n' * wmN ln 4 = 3 * n' := by rw [wm_3 hl hl3]; omega
    rw [hq4, hp9, sh_eq (show 3 * n' ≠ 0 by omega)]
    refine ez_iload (q := 630) dL_law_628 rfl rfl ?_
    refine ez_i2d (q := 631) dL_law_630 rfl ?_
    refine ez_iconst (v := nI 3) (q := 632) dL_law_631 (by decide) rfl ?_
    refine ez_iload_n (q := 633) 2 dL_law_632 rfl rfl rfl ?_
    refine ez_imulN (q := 634) dL_law_633 rfl ?_
    refine ez_i2d (q := 635) dL_law_634 rfl ?_
    refine ez_ddiv (q := 636) dL_law_635 (sh_nan _ (by omega) _ (by omega) (by omega)) rfl ?_
    refine ez_dcmp (q := 637) dL_law_636 rfl ?_
    refine ez_top (dc_0 _ (by omega) _ (by omega) (by omega)) ?_
    refine ez_ifne (q := 640) (tgt := 644) dL_law_637 (by decide) rfl (fun hc637 => absurd rfl hc637) (fun hc637 => ?_)
    refine ez_iconst (v := nI 1) (q := 641) dL_law_640 (by decide) rfl ?_
    refine ez_goto (q := 645) dL_law_641 (by decide) ?_
    exact ez_zret dL_law_645 rfl rfl (hQ _ _)
  · refine ez_iload (q := 567) dL_law_565 rfl rfl ?_
    refine ez_iload (q := 569) dL_law_567 rfl rfl ?_
    refine ez_iload (q := 571) dL_law_569 rfl rfl ?_
    refine ez_ishrN (q := 572) dL_law_571 (lt31 (ah_lt 3) hn) (by omega) rfl ?_
    refine ez_iconst (v := nI 1) (q := 573) dL_law_572 (by decide) rfl ?_
    refine ez_iandN (q := 574) dL_law_573 rfl ?_
    refine ez_iaddN (q := 575) dL_law_574 rfl ?_
    refine ez_istore_14 (q := 577) dL_law_575 (Nat.le_of_ble_eq_true rfl) rfl rfl ?_
    refine ez_iincN_15 (q := 580) dL_law_577 (Nat.le_of_ble_eq_true rfl) rfl rfl ?_
    refine ez_goto (q := 559) dL_law_580 (by decide) ?_
    exact E.fg (ih559 (j + 1) (by omega) g hI (by omega)) ⟨Or.inl rfl, Or.inr (rfl), Or.inr (rfl), Or.inl rfl, Or.inl rfl, Or.inl rfl, Or.inl rfl, Or.inl rfl, Or.inl rfl, Or.inr (rfl), Or.inr (rfl), Or.inl rfl, Or.inl rfl, Or.inr (rfl), Or.inr (by rw [ct_s]), Or.inr (rfl), trivial⟩
