set_option maxHeartbeats 800000 in
set_option maxRecDepth 100000 in
theorem law_E {G : ez_G} {nm : String} {hh : List (Nat × Nat × Nat × Nat)} {n N : Nat} {sc : Nat → Int32} {Q : ez_Q} {h : ez_H} {n' f k t : Nat} {L T ln : Nat → Nat} {sg : Nat → Nat → Nat} {zs : Nat → AS} {b : Nat → Nat} (hI : CJ h h n' f L T ln sg k zs t b) (ho : OK n' f L T ln sg) (hs : WFS ln sg) (hG : ez_N G = N ∧ ez_sc G = sc) (hN : N ≤ 260) (hQ : ∀ g m, Q (.inl (some (.int (nI 1)))) g m) (hn8 : n' ≤ 8) (h1n : 1 ≤ n') (hl : ∀ v, v < 3 → 0 < ln v) (hl3 : ln 3 = 0) : E G (mLw nm hh) 14 Q h n 0 0 401 [none, some (.ref 1), some (.int (nI n')), some (.int (nI (2 ^ n' - 1))), none, none, none, none, none, none, none, none, none, none, none, none] [] := by
  have hn := ho.1
  refine ez_iconst (v := nI 0) (q := 402) dL_law_401 (by decide) rfl ?_
  refine ez_istore_9 (q := 404) dL_law_402 (Nat.le_of_ble_eq_true rfl) rfl rfl ?_
  refine ez_iload_n (q := 405) 3 dL_law_404 rfl rfl rfl ?_
  refine ez_istore_10 (q := 407) dL_law_405 (Nat.le_of_ble_eq_true rfl) rfl rfl ?_
  refine ez_iconst (v := nI 0) (q := 408) dL_law_407 (by decide) rfl ?_
  refine ez_istore_11 (q := 410) dL_law_408 (Nat.le_of_ble_eq_true rfl) rfl rfl ?_
  refine E.fg (ez_loop (α := Nat) (fun w => 3 - w) (P := fun w => ∀ (g : ez_H) , CJ h g n' f L T ln sg k zs t b → (w ≤ 3) → E G (mLw nm hh) 14 Q g n 0 0 410 [none, some (.ref 1), some (.int (nI n')), none, none, none, none, none, none, some (.int (nI (hqN T n' f L ln sg w))), some (.int (nI (ahN T n' f L ln sg w))), some (.int (nI w)), none, none, none, none] []) ?_ 0 h hI (by omega)) ⟨Or.inl rfl, Or.inr (rfl), Or.inr (rfl), Or.inl rfl, Or.inl rfl, Or.inl rfl, Or.inl rfl, Or.inl rfl, Or.inl rfl, Or.inr (rfl), Or.inr (rfl), Or.inr (rfl), Or.inl rfl, Or.inl rfl, Or.inl rfl, Or.inl rfl, trivial⟩
  intro w ih410 g  hM hw
  have hI := hM
  refine ez_iload (q := 412) dL_law_410 rfl rfl ?_
  refine ez_iconst (v := nI 3) (q := 413) dL_law_412 (by decide) rfl ?_
  refine ez_icmpgeN (q := 416) (tgt := 495) dL_law_413 (by decide) (by omega) (by omega) rfl (fun hc413 => ?_) (fun hc413 => ?_)
  · obtain rfl : w = 3 := by omega
    refine ez_aload_n (q := 496) 1 dL_law_495 rfl rfl rfl ?_
    refine ez_iconst (v := nI 0) (q := 497) dL_law_496 (by decide) rfl ?_
    refine ez_iconst (v := nI 1) (q := 498) dL_law_497 (by decide) rfl ?_
    refine cXv (q := 501) dL_law_498 ck_L_68 hI.1.1 (v_X7_wish (what := 1) hI.rb ho hs (by omega) (by decide)) rfl ⟨by decide, rfl⟩ rfl rfl rfl (Nat.le_of_ble_eq_true rfl) rfl (fun g hW => ?_)
    have hI := hI.tr hW
    clear hW
    refine ez_top ((ts_w (hl 0 (by omega))).trans (show nI (tsN T n' f L ln sg 0 1) = nI (hW T n' f L ln sg 0) from rfl)) ?_
    refine ez_istore_11 (q := 503) dL_law_501 (Nat.le_of_ble_eq_true rfl) rfl rfl ?_
    refine ez_aload_n (q := 504) 1 dL_law_503 rfl rfl rfl ?_
    refine ez_iconst (v := nI 1) (q := 505) dL_law_504 (by decide) rfl ?_
    refine ez_iconst (v := nI 1) (q := 506) dL_law_505 (by decide) rfl ?_
    refine cXv (q := 509) dL_law_506 ck_L_68 hI.1.1 (v_X7_wish (what := 1) hI.rb ho hs (by omega) (by decide)) rfl ⟨by decide, rfl⟩ rfl rfl rfl (Nat.le_of_ble_eq_true rfl) rfl (fun g hW => ?_)
    have hI := hI.tr hW
    clear hW
    refine ez_top ((ts_w (hl 1 (by omega))).trans (show nI (tsN T n' f L ln sg 1 1) = nI (hW T n' f L ln sg 1) from rfl)) ?_
    refine ez_istore_12 (q := 511) dL_law_509 (Nat.le_of_ble_eq_true rfl) rfl rfl ?_
    refine ez_iload (q := 513) dL_law_511 rfl rfl ?_
    refine ez_iload (q := 515) dL_law_513 rfl rfl ?_
    refine ez_icmpneN (q := 518) (tgt := 522) dL_law_515 (by decide) (lt31 (hW_lt 0) hn) (lt31 (hW_lt 1) hn) rfl (fun hc515 => ?_) (fun hc515 => ?_)
    · refine ez_iload (q := 524) dL_law_522 rfl rfl ?_
      refine ez_iload (q := 526) dL_law_524 rfl rfl ?_
      refine ez_iorN (q := 527) dL_law_526 rfl ?_
      refine ez_iload (q := 529) dL_law_527 rfl rfl ?_
      refine ez_icmpneN (q := 532) (tgt := 536) dL_law_529 (by decide) (lt31 (or_lt (hW_lt 0) (hW_lt 1)) hn) (lt31 (hW_lt 1) hn) rfl (fun hc529 => ?_) (fun hc529 => ?_)
      · refine ez_iload (q := 538) dL_law_536 rfl rfl ?_
        refine ez_iload (q := 540) dL_law_538 rfl rfl ?_
        refine ez_iorN (q := 541) dL_law_540 rfl ?_
        refine ez_iload (q := 543) dL_law_541 rfl rfl ?_
        refine ez_icmpneN (q := 546) (tgt := 550) dL_law_543 (by decide) (lt31 (or_lt (hW_lt 0) (hW_lt 1)) hn) (lt31 (hW_lt 0) hn) rfl (fun hc543 => ?_) (fun hc543 => ?_)
        · refine ez_iconst (v := nI 3) (q := 551) dL_law_550 (by decide) rfl ?_
          refine ez_istore_13 (q := 553) dL_law_551 (Nat.le_of_ble_eq_true rfl) rfl rfl ?_
          exact E.fg (law_F (hI.rb) ho hs hG hN hQ hn8 h1n hl hl3) ⟨Or.inl rfl, Or.inr (rfl), Or.inr (rfl), Or.inl rfl, Or.inl rfl, Or.inl rfl, Or.inl rfl, Or.inl rfl, Or.inl rfl, Or.inr (rfl), Or.inr (rfl), Or.inl rfl, Or.inl rfl, Or.inr (by first | rw [cm_A hc515] | rw [cm_B hc515 hc529] | rw [cm_C hc515 hc529 hc543] | rw [cm_D hc515 hc529 hc543]), Or.inl rfl, Or.inl rfl, trivial⟩
        · refine ez_iconst (v := nI 2) (q := 547) dL_law_546 (by decide) rfl ?_
          refine ez_goto (q := 551) dL_law_547 (by decide) ?_
          refine ez_istore_13 (q := 553) dL_law_551 (Nat.le_of_ble_eq_true rfl) rfl rfl ?_
          exact E.fg (law_F (hI.rb) ho hs hG hN hQ hn8 h1n hl hl3) ⟨Or.inl rfl, Or.inr (rfl), Or.inr (rfl), Or.inl rfl, Or.inl rfl, Or.inl rfl, Or.inl rfl, Or.inl rfl, Or.inl rfl, Or.inr (rfl), Or.inr (rfl), Or.inl rfl, Or.inl rfl, Or.inr (by first | rw [cm_A hc515] | rw [cm_B hc515 hc529] | rw [cm_C hc515 hc529 hc543] | rw [cm_D hc515 hc529 hc543]), Or.inl rfl, Or.inl rfl, trivial⟩
      · refine ez_iconst (v := nI 1) (q := 533) dL_law_532 (by decide) rfl ?_
        refine ez_goto (q := 551) dL_law_533 (by decide) ?_
        refine ez_istore_13 (q := 553) dL_law_551 (Nat.le_of_ble_eq_true rfl) rfl rfl ?_
        exact E.fg (law_F (hI.rb) ho hs hG hN hQ hn8 h1n hl hl3) ⟨Or.inl rfl, Or.inr (rfl), Or.inr (rfl), Or.inl rfl, Or.inl rfl, Or.inl rfl, Or.inl rfl, Or.inl rfl, Or.inl rfl, Or.inr (rfl), Or.inr (rfl), Or.inl rfl, Or.inl rfl, Or.inr (by first | rw [cm_A hc515] | rw [cm_B hc515 hc529] | rw [cm_C hc515 hc529 hc543] | rw [cm_D hc515 hc529 hc543]), Or.inl rfl, Or.inl rfl, trivial⟩
    · refine ez_iconst (v := nI 0) (q := 519) dL_law_518 (by decide) rfl ?_
      refine ez_goto (q := 551) dL_law_519 (by decide) ?_
      refine ez_istore_13 (q := 553) dL_law_551 (Nat.le_of_ble_eq_true rfl) rfl rfl ?_
      exact E.fg (law_F (hI.rb) ho hs hG hN hQ hn8 h1n hl hl3) ⟨Or.inl rfl, Or.inr (rfl), Or.inr (rfl), Or.inl rfl, Or.inl rfl, Or.inl rfl, Or.inl rfl, Or.inl rfl, Or.inl rfl, Or.inr (rfl), Or.inr (rfl), Or.inl rfl, Or.inl rfl, Or.inr (by first | rw [cm_A hc515] | rw [cm_B hc515 hc529] | rw [cm_C hc515 hc529 hc543] | rw [cm_D hc515 hc529 hc543]), Or.inl rfl, Or.inl rfl, trivial⟩
  · refine ez_iload (q := 418) dL_law_416 rfl rfl ?_
    refine ez_aload_n (q := 419) 1 dL_law_418 rfl rfl rfl ?_
    refine ez_iload (q := 421) dL_law_419 rfl rfl ?_
    refine ez_iconst (v := nI 1) (q := 422) dL_law_421 (by decide) rfl ?_
    refine cXv (q := 425) dL_law_422 ck_L_68 hI.1.1 (v_X7_wish (what := 1) hI.rb ho hs (by omega) (by decide)) rfl ⟨by decide, rfl⟩ rfl rfl rfl (Nat.le_of_ble_eq_true rfl) rfl (fun g hW => ?_)
    have hI := hI.tr hW
    clear hW
    refine ez_top ((ts_w (hl w (by omega))).trans (show nI (tsN T n' f L ln sg w 1) = nI (hW T n' f L ln sg w) from rfl)) ?_
    refine ez_iandN (q := 426) dL_law_425 rfl ?_
    refine ez_istore_10 (q := 428) dL_law_426 (Nat.le_of_ble_eq_true rfl) rfl rfl ?_
    refine ez_iconst (v := nI 0) (q := 429) dL_law_428 (by decide) rfl ?_
    refine ez_istore_12 (q := 431) dL_law_429 (Nat.le_of_ble_eq_true rfl) rfl rfl ?_
    refine E.fg (ez_loop (α := Nat) (fun i => n' - i) (P := fun i => ∀ (g : ez_H) , CJ h g n' f L T ln sg k zs t b → (i ≤ n') → E G (mLw nm hh) 14 Q g n 0 0 431 [none, some (.ref 1), some (.int (nI n')), none, none, none, none, none, none, some (.int (nI (hqN T n' f L ln sg w + ctN (hW T n' f L ln sg w) i))), some (.int (nI (ahN T n' f L ln sg (w + 1)))), some (.int (nI w)), some (.int (nI i)), none, none, none] []) ?_ 0 g hI (by omega)) ⟨Or.inl rfl, Or.inr (rfl), Or.inr (rfl), Or.inl rfl, Or.inl rfl, Or.inl rfl, Or.inl rfl, Or.inl rfl, Or.inl rfl, Or.inr (rfl), Or.inr (by rw [ah_t (hl w (by omega))]), Or.inr (rfl), Or.inr (rfl), Or.inl rfl, Or.inl rfl, Or.inl rfl, trivial⟩
    intro i ih431 g  hM hi
    have hI := hM
    refine ez_iload (q := 433) dL_law_431 rfl rfl ?_
    refine ez_iload_n (q := 434) 2 dL_law_433 rfl rfl rfl ?_
    refine ez_icmpgeN (q := 437) (tgt := 489) dL_law_434 (by decide) (by omega) (by omega) rfl (fun hc434 => ?_) (fun hc434 => ?_)
    · have e9 : i = n' := by omega
      rw [e9]
      refine ez_iincN_11 (q := 492) dL_law_489 (Nat.le_of_ble_eq_true rfl) rfl rfl ?_
      refine ez_goto (q := 410) dL_law_492 (by decide) ?_
      exact E.fg (ih410 (w + 1) (by omega) g hI (by omega)) ⟨Or.inl rfl, Or.inr (rfl), Or.inr (rfl), Or.inl rfl, Or.inl rfl, Or.inl rfl, Or.inl rfl, Or.inl rfl, Or.inl rfl, Or.inr (by rw [hqN, if_pos (hl w (by omega)), ct_top (hW_lt w) 10 hn]), Or.inr (rfl), Or.inr (rfl), Or.inl rfl, Or.inl rfl, Or.inl rfl, Or.inl rfl, trivial⟩
    · refine ez_iload (q := 439) dL_law_437 rfl rfl ?_
      refine ez_aload_n (q := 440) 1 dL_law_439 rfl rfl rfl ?_
      refine ez_iload (q := 442) dL_law_440 rfl rfl ?_
      refine ez_iconst (v := nI 4) (q := 443) dL_law_442 (by decide) rfl ?_
      refine cXv (q := 446) dL_law_443 ck_L_36 hI.1.1 (v_X7_world (what := 4) hI.rb ho hs (by omega) (by decide)) rfl ⟨by decide, rfl⟩ rfl rfl rfl (Nat.le_of_ble_eq_true rfl) rfl (fun g hW => ?_)
      have hI := hI.tr hW
      clear hW
      refine ez_top (show nI (twN T n' f L ln sg i 4) = nI (waN T n' f L ln sg i 4) from rfl) ?_
      refine ez_iload (q := 448) dL_law_446 rfl rfl ?_
      refine ez_ishrN (q := 449) dL_law_448 (Nat.lt_of_lt_of_le (wa_lt i 4) (by decide)) (by omega) rfl ?_
      refine ez_iconst (v := nI 1) (q := 450) dL_law_449 (by decide) rfl ?_
      refine ez_iandN (q := 451) dL_law_450 rfl ?_
      refine ez_iaddN (q := 452) dL_law_451 rfl ?_
      refine ez_istore_9 (q := 454) dL_law_452 (Nat.le_of_ble_eq_true rfl) rfl rfl ?_
      refine ez_aload_n (q := 455) 1 dL_law_454 rfl rfl rfl ?_
      refine ez_iload (q := 457) dL_law_455 rfl rfl ?_
      refine ez_iconst (v := nI 4) (q := 458) dL_law_457 (by decide) rfl ?_
      refine cXv (q := 461) dL_law_458 ck_L_36 hI.1.1 (v_X7_world (what := 4) hI.rb ho hs (by omega) (by decide)) rfl ⟨by decide, rfl⟩ rfl rfl rfl (Nat.le_of_ble_eq_true rfl) rfl (fun g hW => ?_)
      have hI := hI.tr hW
      clear hW
      refine ez_top (show nI (twN T n' f L ln sg i 4) = nI (waN T n' f L ln sg i 4) from rfl) ?_
      refine ez_iload (q := 463) dL_law_461 rfl rfl ?_
      refine ez_ishrN (q := 464) dL_law_463 (Nat.lt_of_lt_of_le (wa_lt i 4) (by decide)) (by omega) rfl ?_
      refine ez_iconst (v := nI 1) (q := 465) dL_law_464 (by decide) rfl ?_
      refine ez_iandN (q := 466) dL_law_465 rfl ?_
      refine ez_aload_n (q := 467) 1 dL_law_466 rfl rfl rfl ?_
      refine ez_iload (q := 469) dL_law_467 rfl rfl ?_
      refine ez_iconst (v := nI 1) (q := 470) dL_law_469 (by decide) rfl ?_
      refine cXv (q := 473) dL_law_470 ck_L_68 hI.1.1 (v_X7_wish (what := 1) hI.rb ho hs (by omega) (by decide)) rfl ⟨by decide, rfl⟩ rfl rfl rfl (Nat.le_of_ble_eq_true rfl) rfl (fun g hW => ?_)
      have hI := hI.tr hW
      clear hW
      refine ez_top ((ts_w (hl w (by omega))).trans (show nI (tsN T n' f L ln sg w 1) = nI (hW T n' f L ln sg w) from rfl)) ?_
      refine ez_iload (q := 475) dL_law_473 rfl rfl ?_
      refine ez_ishrN (q := 476) dL_law_475 (lt31 (hW_lt w) hn) (by omega) rfl ?_
      refine ez_iconst (v := nI 1) (q := 477) dL_law_476 (by decide) rfl ?_
      refine ez_iandN (q := 478) dL_law_477 rfl ?_
      refine ez_icmpeq (q := 481) (tgt := 483) dL_law_478 (by decide) rfl (fun hc478 => ?_) (fun hc478 => absurd (congrArg nI (wa_hW (hl w (by omega)) (by omega))) hc478)
      refine ez_iincN_12 (q := 486) dL_law_483 (Nat.le_of_ble_eq_true rfl) rfl rfl ?_
      refine ez_goto (q := 431) dL_law_486 (by decide) ?_
      exact E.fg (ih431 (i + 1) (by omega) g hI (by omega)) ⟨Or.inl rfl, Or.inr (rfl), Or.inr (rfl), Or.inl rfl, Or.inl rfl, Or.inl rfl, Or.inl rfl, Or.inl rfl, Or.inl rfl, Or.inr (by rw [wa_hW (hl w (by omega)) (by omega), ct_s, Nat.add_assoc]), Or.inr (rfl), Or.inr (rfl), Or.inr (rfl), Or.inl rfl, Or.inl rfl, Or.inl rfl, trivial⟩
