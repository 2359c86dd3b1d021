set_option maxHeartbeats 800000 in
set_option maxRecDepth 100000 in
theorem law_D {G : ez_G} {nm : String} {hh : List (Nat × Nat × Nat × Nat)} {n N : Nat} {sc : Nat → Int32} {Q : ez_Q} {h : ez_H} {n' f k t : Nat} {L T ln : Nat → Nat} {sg : Nat → Nat → Nat} {zs : Nat → AS} {b : Nat → Nat} (hI : CJ h h n' f L T ln sg k zs t b) (ho : OK n' f L T ln sg) (hs : WFS ln sg) (hG : ez_N G = N ∧ ez_sc G = sc) (hN : N ≤ 260) (hQ : ∀ g m, Q (.inl (some (.int (nI 1)))) g m) (hn8 : n' ≤ 8) (h1n : 1 ≤ n') (hl : ∀ v, v < 3 → 0 < ln v) (hl3 : ln 3 = 0) (hz : ∀ i, i < k → OKA (zs i)) : E G (mLw nm hh) 14 Q h n 0 0 317 [some (.ref 0), some (.ref 1), some (.int (nI n')), some (.int (nI (2 ^ n' - 1))), none, none, none, none, none, none, none, none, none, none, none, none] [] := by
  have hn := ho.1
  refine ez_aload_n (q := 318) 0 dL_law_317 rfl rfl rfl ?_
  refine ez_bipush (v := nI 48) (q := 320) dL_law_318 (by decide) rfl ?_
  refine cUv (q := 323) dL_law_320 ck_L_16 (c_L_cell hG hN (by decide)) rfl rfl rfl (Nat.le_of_ble_eq_true rfl) rfl ?_
  refine ez_iconst (v := nI 5) (q := 324) dL_law_323 (by decide) rfl ?_
  refine cUv (q := 327) dL_law_324 ck_L_10 (c_L_low (by decide) (by decide)) rfl rfl rfl (Nat.le_of_ble_eq_true rfl) rfl ?_
  have hx := lwN_lt (clV N sc 48) (m := 5) (by decide)
  generalize lwN (clV N sc 48) 5 = x at hx ⊢
  refine ez_iconst (v := nI 1) (q := 328) dL_law_327 (by decide) rfl ?_
  refine ez_isub (q := 329) dL_law_328 rfl ?_
  refine ez_top (lt_fI hx) ?_
  obtain ⟨u, hu, eu⟩ : ∃ u, u ≤ 4 ∧ (if x = 0 then 4 else x - 1) = u := ⟨_, by split <;> omega, rfl⟩
  rw [eu]
  refine ez_istore_6 (q := 331) dL_law_329 (Nat.le_of_ble_eq_true rfl) rfl rfl ?_
  refine ez_aload_n (q := 332) 1 dL_law_331 rfl rfl rfl ?_
  refine ez_iconst (v := nI 4) (q := 333) dL_law_332 (by decide) rfl ?_
  refine cXv (q := 336) dL_law_333 ck_L_45 hI.1.1 (v_X7_count (what := 4) hI.rb ho hs (by decide)) rfl ⟨by decide, rfl⟩ rfl rfl rfl (Nat.le_of_ble_eq_true rfl) rfl (fun g hW => ?_)
  have hI := hI.tr hW
  clear hW
  refine ez_top (show couI T n' f L ln sg k 4 = fI f from rfl) ?_
  refine ez_istore_7 (q := 338) dL_law_336 (Nat.le_of_ble_eq_true rfl) rfl rfl ?_
  refine ez_aload_n (q := 339) 1 dL_law_338 rfl rfl rfl ?_
  refine ez_iconst (v := nI 1) (q := 340) dL_law_339 (by decide) rfl ?_
  refine ez_iload (q := 342) dL_law_340 rfl rfl ?_
  refine cXv (q := 345) dL_law_342 ck_L_101 hI.1.1 (v_X7_ifFair hI.rb ho hs (by decide) hu) rfl ⟨by decide, rfl⟩ rfl rfl rfl (Nat.le_of_ble_eq_true rfl) rfl (fun g hW => ?_)
  have hI := hI.tr hW
  clear hW
  refine ez_top (bf_w (hl 1 (by decide))) ?_
  refine ez_istore_8 (q := 347) dL_law_345 (Nat.le_of_ble_eq_true rfl) rfl rfl ?_
  refine ez_aload_n (q := 348) 1 dL_law_347 rfl rfl rfl ?_
  refine ez_iload (q := 350) dL_law_348 rfl rfl ?_
  refine cXv (q := 353) dL_law_350 ck_L_42 hI.1.1 (v_X7_fair hI.rb ho hs hu) rfl ⟨by decide, rfl⟩ rfl rfl rfl (Nat.le_of_ble_eq_true rfl) rfl (fun g hW => ?_)
  have hk6 := hI.hh.choose_spec.2.2.1
  have hz2 := push_all (p := OKA) (z := ((n', f, L, T, ln, sg) : AS)) hI.hh.choose_spec.2.2.1 ⟨ho, hs⟩ hz
  have hI := hI.tr hW
  clear hW
  have ho2 := ho.fair hu
  refine ez_iload (q := 355) dL_law_353 rfl rfl ?_
  refine ez_icmpne (q := 358) (tgt := 399) dL_law_355 (by decide) rfl (fun hc355 => absurd (rfl) hc355) (fun hc355 => ?_)
  refine ez_aload_n (q := 359) 1 dL_law_358 rfl rfl rfl ?_
  refine ez_iconst (v := nI 1) (q := 360) dL_law_359 (by decide) rfl ?_
  refine ez_iconst (v := nI 1) (q := 361) dL_law_360 (by decide) rfl ?_
  refine cXv (q := 364) dL_law_361 ck_L_68 hI.1.1 (v_X7_wish (what := 1) hI.rb ho2 hs (by decide) (by decide)) rfl ⟨by decide, rfl⟩ rfl rfl rfl (Nat.le_of_ble_eq_true rfl) rfl (fun g hW => ?_)
  have hI := hI.tr hW
  clear hW
  refine ez_top ((ts_w (hl 1 (by omega))).trans (show nI (tsN T n' u L ln sg 1 1) = nI (hW T n' u L ln sg 1) from rfl)) ?_
  refine ez_iload (q := 366) dL_law_364 rfl rfl ?_
  refine ez_icmpne (q := 369) (tgt := 399) dL_law_366 (by decide) rfl (fun hc366 => absurd (rfl) hc366) (fun hc366 => ?_)
  refine ez_aload_n (q := 370) 1 dL_law_369 rfl rfl rfl ?_
  refine ez_iconst (v := nI 1) (q := 371) dL_law_370 (by decide) rfl ?_
  refine ez_aload_n (q := 372) 1 dL_law_371 rfl rfl rfl ?_
  refine ez_iload_n (q := 373) 3 dL_law_372 rfl rfl rfl ?_
  refine cSw (q := 376) dL_law_373 ck_L_60 (c_L_stays hI.rb ho2 hs (al_lt n')) rfl rfl rfl (Nat.le_of_ble_eq_true rfl) rfl (fun g hW => ?_)
  have hI := hI.tr hW
  clear hW
  refine ez_top (show nI (stN T n' u L (2 ^ n' - 1)) = nI (lvN T n' u L) from rfl) ?_
  refine cSw (q := 379) dL_law_376 ck_L_91 (c_L_isWish (w := 1) hI.rb ho2 hs hn8 (by decide) (hl 1 (by decide))) rfl rfl rfl (Nat.le_of_ble_eq_true rfl) rfl (fun g hW => ?_)
  have hI := hI.tr hW
  clear hW
  refine ez_ifeqN (q := 382) (tgt := 399) dL_law_379 (by decide) (by decide) rfl (fun hc379 => ?_) (fun hc379 => ?_)
  · first
    | exact absurd hc379 (by decide)
    | skip
      refine ez_iconst (v := nI 0) (q := 400) dL_law_399 (by decide) rfl ?_
      exact ez_zret dL_law_400 rfl rfl (hQ _ _)
  · first
    | exact absurd hc379 (by decide)
    | skip
      refine ez_aload_n (q := 383) 1 dL_law_382 rfl rfl rfl ?_
      refine cXv (q := 386) dL_law_383 ck_L_98 hI.1.1 (v_X7_undo hI.rb ho2 hs hz2 (svk_pos k)) rfl ⟨by decide, rfl⟩ rfl rfl rfl (Nat.le_of_ble_eq_true rfl) rfl (fun g hW => ?_)
      rw [push_top] at hW
      have hI : CJ h g n' f L T ln sg (svk k - 1) (pushZ zs k ((n', f, L, T, ln, sg) : AS)) t b := hI.tr hW
      clear hW
      refine ez_ifltN (q := 389) (tgt := 399) dL_law_386 (by decide) (by have := svk_le hk6; omega) rfl ?_
      refine ez_aload_n (q := 390) 1 dL_law_389 rfl rfl rfl ?_
      refine ez_iconst (v := nI 4) (q := 391) dL_law_390 (by decide) rfl ?_
      refine cXv (q := 394) dL_law_391 ck_L_45 hI.1.1 (v_X7_count (what := 4) hI.rb ho hs (by decide)) rfl ⟨by decide, rfl⟩ rfl rfl rfl (Nat.le_of_ble_eq_true rfl) rfl (fun g hW => ?_)
      have hI := hI.tr hW
      clear hW
      refine ez_top (show couI T n' f L ln sg (svk k - 1) 4 = fI f from rfl) ?_
      refine ez_iload (q := 396) dL_law_394 rfl rfl ?_
      refine ez_icmpeq (q := 399) (tgt := 401) dL_law_396 (by decide) rfl (fun hc396 => ?_) (fun hc396 => absurd (rfl) hc396)
      exact E.fg (law_E (hI.rb) ho hs hG hN hQ hn8 h1n hl hl3) ⟨Or.inl rfl, Or.inr (rfl), Or.inr (rfl), Or.inr (rfl), Or.inl rfl, Or.inl rfl, Or.inl rfl, Or.inl rfl, Or.inl rfl, Or.inl rfl, Or.inl rfl, Or.inl rfl, Or.inl rfl, Or.inl rfl, Or.inl rfl, Or.inl rfl, trivial⟩
