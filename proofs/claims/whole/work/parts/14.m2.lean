set_option maxHeartbeats 4000000 in
set_option maxRecDepth 100000 in
theorem t_X8_stays {G : ez_G} {d n : Nat} {h : ez_H} {n' f : Nat} {L T ln : Nat → Nat} {sg : Nat → Nat → Nat} {s r : Nat} {th sm ty wa rm fm ff : Int32} {z sv bf se ro le de rw sp : Nat → Int32} {ww : Bool} {ha : Int64} (hM : IM h h th z sv sm bf ty (nI r) se ro le de wa ww rw rm sp fm ff ha) (hz : ZZ z n' f L T ln sg) (ho : OK n' f L T ln sg) (hs : s < 2 ^ n') : Con G mX8_stays (d + 3) [.ref 64, .int (nI s)] h n 0 0 (PM h n (some (.int (nI (stN T n' f L s)))) th z sv sm bf ty (nI (r + srN T n' f L s)) se ro le de wa ww rw rm sp fm ff ha) := by
  have hn := ho.1
  have hn0 := hz.1
  refine Con.of [some (.ref 64), some (.int (nI s)), none, none, none, none] pl_X8 rfl (Nat.le_of_ble_eq_true rfl) rfl ?_
  have hQ : ∀ g, IM h g th z sv sm bf ty (nI (r + srN T n' f L s)) se ro le de wa ww rw rm sp fm ff ha → (PM h n (some (.int (nI (stN T n' f L s)))) th z sv sm bf ty (nI (r + srN T n' f L s)) se ro le de wa ww rw rm sp fm ff ha) (.inl (some (.int (nI (stN T n' f L s))))) g n := fun g hM => ⟨rfl, hM, rfl⟩
  generalize PM h n (some (.int (nI (stN T n' f L s)))) th z sv sm bf ty (nI (r + srN T n' f L s)) se ro le de wa ww rw rm sp fm ff ha = Q at hQ ⊢
  refine ez_iload_n (q := 1) 1 dX8_stays_0 rfl rfl rfl ?_
  refine ez_istore_2 (q := 2) dX8_stays_1 rfl (by decide) rfl rfl ?_
  refine ez_iconst (v := nI 1) (q := 3) dX8_stays_2 (by decide) rfl ?_
  refine ez_istore_3 (q := 4) dX8_stays_3 rfl (by decide) rfl rfl ?_
  refine ez_loop (α := Nat × Nat × Nat) (fun a => match a with | (w, m, k) => ctN w n' + m) (P := fun a => match a with | (w, m, k) => ∀ g : ez_H, IM h g th z sv sm bf ty (nI k) se ro le de wa ww rw rm sp fm ff ha → (w < 2 ^ n') → (m ≤ 1) → (stN T n' f L w = stN T n' f L s) → (k + srN T n' f L w = r + srN T n' f L s) → (m = 0 → rN T n' f L w = w) → E G mX8_stays (d + 3) Q g n 0 0 4 [some (.ref 64), some (.int (nI s)), some (.int (nI w)), some (.int (nI m)), none, none] []) ?_ (s, 1, r) h hM hs (Nat.le_refl 1) rfl rfl (fun e => absurd e (by decide))
  rintro ⟨w, m, k⟩ ih4
  dsimp only at ih4 ⊢
  obtain ⟨μ4, hμ4⟩ : ∃ y, y = ctN w n' + m := ⟨_, rfl⟩
  rw [← hμ4] at ih4
  have ih4 : ∀ (w : Nat) (m : Nat) (k : Nat), ctN w n' + m < μ4 → ∀ g : ez_H, IM h g th z sv sm bf ty (nI k) se ro le de wa ww rw rm sp fm ff ha → (w < 2 ^ n') → (m ≤ 1) → (stN T n' f L w = stN T n' f L s) → (k + srN T n' f L w = r + srN T n' f L s) → (m = 0 → rN T n' f L w = w) → E G mX8_stays (d + 3) Q g n 0 0 4 [some (.ref 64), some (.int (nI s)), some (.int (nI w)), some (.int (nI m)), none, none] [] := fun w m k => ih4 (w, m, k)
  intro g hM hw hm hst hk hm0
  refine ez_iload_n (q := 5) 3 dX8_stays_4 rfl rfl rfl ?_
  refine ez_ifeqN (q := 8) (tgt := 87) dX8_stays_5 (by decide) (by omega) rfl (fun hc5 => ?_) (fun hc5 => ?_)
  · have e1 := st_at T (f := f) L hn hw
    rw [if_pos (hm0 hc5), if_pos (hm0 hc5)] at e1
    rw [show w = stN T n' f L s from by rw [← hst, e1.1]]
    rw [show k = r + srN T n' f L s from by omega] at hM
    refine ez_iload_n (q := 88) 2 dX8_stays_87 rfl rfl rfl ?_
    exact ez_iret dX8_stays_88 rfl (hQ _ hM)
  · refine ez_iconst (v := nI 0) (q := 9) dX8_stays_8 (by decide) rfl ?_
    refine ez_istore_4 (q := 11) dX8_stays_9 (by decide) rfl rfl ?_
    refine ez_iload_n (q := 12) 2 dX8_stays_11 rfl rfl rfl ?_
    refine ez_aload_n (q := 13) 0 dX8_stays_12 rfl rfl rfl ?_
    refine ez_aload_n (q := 14) 0 dX8_stays_13 rfl rfl rfl ?_
    refine ez_iload_n (q := 15) 2 dX8_stays_14 rfl rfl rfl ?_
    refine cMv (q := 18) dX8_stays_15 ck_X8_70 hM (t_X8_goals hM.rb hz ho) rfl rfl rfl rfl rfl (Nat.le_of_ble_eq_true rfl) rfl (fun g hM => ?_)
    refine cMv (q := 21) dX8_stays_18 ck_X8_73 hM (t_X8_into hM.rb hz ho) rfl rfl rfl rfl rfl (Nat.le_of_ble_eq_true rfl) rfl (fun g hM => ?_)
    refine ez_iandN (q := 22) dX8_stays_21 rfl ?_
    refine ez_istore_5 (q := 24) dX8_stays_22 (by decide) rfl rfl ?_
    rw [← bN_1]
    refine ez_loop (α := Nat) (fun j => 11 - j) (P := fun j => ∀ g : ez_H, IM h g th z sv sm bf ty (nI k) se ro le de wa ww rw rm sp fm ff ha → (j ≤ 10) → E G mX8_stays (d + 3) Q g n 0 0 24 [some (.ref 64), some (.int (nI s)), some (.int (nI w)), some (.int (nI m)), some (.int (nI (bN T n' w (goN n' f L w) j))), some (.int (nI (bN T n' w (goN n' f L w) (j + 1))))] []) ?_ 0 g hM (by omega)
    intro j ih24 g hM hj
    refine ez_iload (q := 26) dX8_stays_24 rfl rfl ?_
    refine ez_iload (q := 28) dX8_stays_26 rfl rfl ?_
    refine ez_icmpeqN (q := 31) (tgt := 51) dX8_stays_28 (by decide) (lt31 (bN_lt _ _ _ _ _) hn) (lt31 (bN_lt _ _ _ _ _) hn) rfl (fun hc28 => ?_) (fun hc28 => ?_)
    · have e2 : bN T n' w (goN n' f L w) j = rN T n' f L w := bN_10 hn hc28
      rw [e2]
      refine ez_iload (q := 53) dX8_stays_51 rfl rfl ?_
      refine ez_iload_n (q := 54) 2 dX8_stays_53 rfl rfl rfl ?_
      refine ez_icmpeqN (q := 57) (tgt := 61) dX8_stays_54 (by decide) (lt31 (rN_lt _ _ _ _ _) hn) (lt31 hw hn) rfl (fun hc54 => ?_) (fun hc54 => ?_)
      · refine ez_iconst (v := nI 0) (q := 62) dX8_stays_61 (by decide) rfl ?_
        refine ez_istore_3 (q := 63) dX8_stays_62 rfl (by decide) rfl rfl ?_
        refine ez_aload_n (q := 64) 0 dX8_stays_63 rfl rfl rfl ?_
        refine ez_dup (q := 65) dX8_stays_64 rfl rfl ?_
        refine ez_getf (q := 68) dX8_stays_65 fl_X8_76 hM.1 rfl rfl ?_
        refine ez_iload_n (q := 69) 3 dX8_stays_68 rfl rfl rfl ?_
        refine ez_ifeqN (q := 72) (tgt := 76) dX8_stays_69 (by decide) (by decide) rfl (fun hc69 => ?_) (fun hc69 => ?_)
        · first
          | exact absurd hc69 (by decide)
          | skip
            refine ez_iconst (v := nI 0) (q := 77) dX8_stays_76 (by decide) rfl ?_
            refine ez_iaddN (q := 78) dX8_stays_77 rfl ?_
            refine pM_rd (q := 81) dX8_stays_78 fl_X8_76 hM rfl (fun g hM => ?_)
            refine ez_iload (q := 83) dX8_stays_81 rfl rfl ?_
            refine ez_istore_2 (q := 84) dX8_stays_83 rfl (by decide) rfl rfl ?_
            refine ez_goto (q := 4) dX8_stays_84 (by decide) ?_
            first
            | exact E.fg (ih4 (rN T n' f L w) 1 (k + 1) (by have := st_m T n' f L hw hc54; omega) g hM (rN_lt T n' f L w) (Nat.le_refl 1) ((st_at T (f := f) L hn hw).1.trans (if_neg hc54) |>.symm.trans hst) (by have := (st_at T (f := f) L hn hw).2.trans (if_neg hc54); omega) (fun e => absurd e (by decide))) ⟨Or.inr (rfl), Or.inr (rfl), Or.inr (rfl), Or.inr (rfl), Or.inl rfl, Or.inl rfl, trivial⟩
            | exact E.fg (ih4 (rN T n' f L w) 0 (k + 0) (by rw [hc54]; omega) g hM (rN_lt T n' f L w) (Nat.zero_le 1) (by rw [hc54]; exact hst) (by rw [hc54]; exact hk) (fun _ => by rw [hc54]; exact hc54)) ⟨Or.inr (rfl), Or.inr (rfl), Or.inr (rfl), Or.inr (rfl), Or.inl rfl, Or.inl rfl, trivial⟩
        · first
          | exact absurd rfl hc69
          | skip
            refine ez_iconst (v := nI 1) (q := 73) dX8_stays_72 (by decide) rfl ?_
            refine ez_goto (q := 77) dX8_stays_73 (by decide) ?_
            refine ez_iaddN (q := 78) dX8_stays_77 rfl ?_
            refine pM_rd (q := 81) dX8_stays_78 fl_X8_76 hM rfl (fun g hM => ?_)
            refine ez_iload (q := 83) dX8_stays_81 rfl rfl ?_
            refine ez_istore_2 (q := 84) dX8_stays_83 rfl (by decide) rfl rfl ?_
            refine ez_goto (q := 4) dX8_stays_84 (by decide) ?_
            first
            | exact E.fg (ih4 (rN T n' f L w) 1 (k + 1) (by have := st_m T n' f L hw hc54; omega) g hM (rN_lt T n' f L w) (Nat.le_refl 1) ((st_at T (f := f) L hn hw).1.trans (if_neg hc54) |>.symm.trans hst) (by have := (st_at T (f := f) L hn hw).2.trans (if_neg hc54); omega) (fun e => absurd e (by decide))) ⟨Or.inr (rfl), Or.inr (rfl), Or.inr (rfl), Or.inr (rfl), Or.inl rfl, Or.inl rfl, trivial⟩
            | exact E.fg (ih4 (rN T n' f L w) 0 (k + 0) (by rw [hc54]; omega) g hM (rN_lt T n' f L w) (Nat.zero_le 1) (by rw [hc54]; exact hst) (by rw [hc54]; exact hk) (fun _ => by rw [hc54]; exact hc54)) ⟨Or.inr (rfl), Or.inr (rfl), Or.inr (rfl), Or.inr (rfl), Or.inl rfl, Or.inl rfl, trivial⟩
      · refine ez_iconst (v := nI 1) (q := 58) dX8_stays_57 (by decide) rfl ?_
        refine ez_goto (q := 62) dX8_stays_58 (by decide) ?_
        refine ez_istore_3 (q := 63) dX8_stays_62 rfl (by decide) rfl rfl ?_
        refine ez_aload_n (q := 64) 0 dX8_stays_63 rfl rfl rfl ?_
        refine ez_dup (q := 65) dX8_stays_64 rfl rfl ?_
        refine ez_getf (q := 68) dX8_stays_65 fl_X8_76 hM.1 rfl rfl ?_
        refine ez_iload_n (q := 69) 3 dX8_stays_68 rfl rfl rfl ?_
        refine ez_ifeqN (q := 72) (tgt := 76) dX8_stays_69 (by decide) (by decide) rfl (fun hc69 => ?_) (fun hc69 => ?_)
        · first
          | exact absurd hc69 (by decide)
          | skip
            refine ez_iconst (v := nI 0) (q := 77) dX8_stays_76 (by decide) rfl ?_
            refine ez_iaddN (q := 78) dX8_stays_77 rfl ?_
            refine pM_rd (q := 81) dX8_stays_78 fl_X8_76 hM rfl (fun g hM => ?_)
            refine ez_iload (q := 83) dX8_stays_81 rfl rfl ?_
            refine ez_istore_2 (q := 84) dX8_stays_83 rfl (by decide) rfl rfl ?_
            refine ez_goto (q := 4) dX8_stays_84 (by decide) ?_
            first
            | exact E.fg (ih4 (rN T n' f L w) 1 (k + 1) (by have := st_m T n' f L hw hc54; omega) g hM (rN_lt T n' f L w) (Nat.le_refl 1) ((st_at T (f := f) L hn hw).1.trans (if_neg hc54) |>.symm.trans hst) (by have := (st_at T (f := f) L hn hw).2.trans (if_neg hc54); omega) (fun e => absurd e (by decide))) ⟨Or.inr (rfl), Or.inr (rfl), Or.inr (rfl), Or.inr (rfl), Or.inl rfl, Or.inl rfl, trivial⟩
            | exact E.fg (ih4 (rN T n' f L w) 0 (k + 0) (by rw [hc54]; omega) g hM (rN_lt T n' f L w) (Nat.zero_le 1) (by rw [hc54]; exact hst) (by rw [hc54]; exact hk) (fun _ => by rw [hc54]; exact hc54)) ⟨Or.inr (rfl), Or.inr (rfl), Or.inr (rfl), Or.inr (rfl), Or.inl rfl, Or.inl rfl, trivial⟩
        · first
          | exact absurd rfl hc69
          | skip
            refine ez_iconst (v := nI 1) (q := 73) dX8_stays_72 (by decide) rfl ?_
            refine ez_goto (q := 77) dX8_stays_73 (by decide) ?_
            refine ez_iaddN (q := 78) dX8_stays_77 rfl ?_
            refine pM_rd (q := 81) dX8_stays_78 fl_X8_76 hM rfl (fun g hM => ?_)
            refine ez_iload (q := 83) dX8_stays_81 rfl rfl ?_
            refine ez_istore_2 (q := 84) dX8_stays_83 rfl (by decide) rfl rfl ?_
            refine ez_goto (q := 4) dX8_stays_84 (by decide) ?_
            first
            | exact E.fg (ih4 (rN T n' f L w) 1 (k + 1) (by have := st_m T n' f L hw hc54; omega) g hM (rN_lt T n' f L w) (Nat.le_refl 1) ((st_at T (f := f) L hn hw).1.trans (if_neg hc54) |>.symm.trans hst) (by have := (st_at T (f := f) L hn hw).2.trans (if_neg hc54); omega) (fun e => absurd e (by decide))) ⟨Or.inr (rfl), Or.inr (rfl), Or.inr (rfl), Or.inr (rfl), Or.inl rfl, Or.inl rfl, trivial⟩
            | exact E.fg (ih4 (rN T n' f L w) 0 (k + 0) (by rw [hc54]; omega) g hM (rN_lt T n' f L w) (Nat.zero_le 1) (by rw [hc54]; exact hst) (by rw [hc54]; exact hk) (fun _ => by rw [hc54]; exact hc54)) ⟨Or.inr (rfl), Or.inr (rfl), Or.inr (rfl), Or.inr (rfl), Or.inl rfl, Or.inl rfl, trivial⟩
    · refine ez_iload (q := 33) dX8_stays_31 rfl rfl ?_
      refine ez_istore_4 (q := 35) dX8_stays_33 (by decide) rfl rfl ?_
      refine ez_iload (q := 37) dX8_stays_35 rfl rfl ?_
      refine ez_iload_n (q := 38) 2 dX8_stays_37 rfl rfl rfl ?_
      refine ez_aload_n (q := 39) 0 dX8_stays_38 rfl rfl rfl ?_
      refine ez_iload (q := 41) dX8_stays_39 rfl rfl ?_
      refine cMv (q := 44) dX8_stays_41 ck_X8_73 hM (t_X8_into hM.rb hz ho) rfl rfl rfl rfl rfl (Nat.le_of_ble_eq_true rfl) rfl (fun g hM => ?_)
      refine ez_iandN (q := 45) dX8_stays_44 rfl ?_
      refine ez_iorN (q := 46) dX8_stays_45 rfl ?_
      refine ez_istore_5 (q := 48) dX8_stays_46 (by decide) rfl rfl ?_
      refine ez_goto (q := 24) dX8_stays_48 (by decide) ?_
      exact E.fg (ih24 (j + 1) (by have := bN_go hn hc28; omega) g hM (by have := bN_go hn hc28; omega)) ⟨Or.inr (rfl), Or.inr (rfl), Or.inr (rfl), Or.inr (rfl), Or.inr (rfl), Or.inr (by rw [bN_or]), trivial⟩

set_option maxHeartbeats 4000000 in
set_option maxRecDepth 100000 in
theorem t_X8_live {G : ez_G} {d n : Nat} {h : ez_H} {n' f : Nat} {L T ln : Nat → Nat} {sg : Nat → Nat → Nat} {r : Nat} {th sm ty wa rm fm ff : Int32} {z sv bf se ro le de rw sp : Nat → Int32} {ww : Bool} {ha : Int64} (hM : IM h h th z sv sm bf ty (nI r) se ro le de wa ww rw rm sp fm ff ha) (hz : ZZ z n' f L T ln sg) (ho : OK n' f L T ln sg) : Con G mX8_live (d + 4) [.ref 64] h n 0 0 (PM h n (some (.int (nI (lvN T n' f L)))) th z sv sm bf ty (nI r) se ro le de wa ww rw rm sp fm ff ha) := by
  have hn := ho.1
  have hn0 := hz.1
  refine Con.of [some (.ref 64), none, none] pl_X8 rfl (Nat.le_of_ble_eq_true rfl) rfl ?_
  have hQ : ∀ g, IM h g th z sv sm bf ty (nI r) se ro le de wa ww rw rm sp fm ff ha → (PM h n (some (.int (nI (lvN T n' f L)))) th z sv sm bf ty (nI r) se ro le de wa ww rw rm sp fm ff ha) (.inl (some (.int (nI (lvN T n' f L))))) g n := fun g hM => ⟨rfl, hM, rfl⟩
  generalize PM h n (some (.int (nI (lvN T n' f L)))) th z sv sm bf ty (nI r) se ro le de wa ww rw rm sp fm ff ha = Q at hQ ⊢
  refine ez_aload_n (q := 1) 0 dX8_live_0 rfl rfl rfl ?_
  refine ez_getf (q := 4) dX8_live_1 fl_X8_76 hM.1 rfl rfl ?_
  refine ez_istore_1 (q := 5) dX8_live_4 rfl (by decide) rfl rfl ?_
  refine ez_aload_n (q := 6) 0 dX8_live_5 rfl rfl rfl ?_
  refine ez_aload_n (q := 7) 0 dX8_live_6 rfl rfl rfl ?_
  refine cMv (q := 10) dX8_live_7 ck_X8_79 hM (t_X8_all hM.rb hz ho) rfl rfl rfl rfl rfl (Nat.le_of_ble_eq_true rfl) rfl (fun g hM => ?_)
  refine cMv (q := 13) dX8_live_10 ck_X8_82 hM (t_X8_stays hM.rb hz ho (al_lt n')) rfl rfl rfl rfl rfl (Nat.le_of_ble_eq_true rfl) rfl (fun g hM => ?_)
  refine ez_istore_2 (q := 14) dX8_live_13 rfl (by decide) rfl rfl ?_
  refine ez_aload_n (q := 15) 0 dX8_live_14 rfl rfl rfl ?_
  refine ez_iload_n (q := 16) 1 dX8_live_15 rfl rfl rfl ?_
  refine pM_rd (q := 19) dX8_live_16 fl_X8_76 hM rfl (fun g hM => ?_)
  refine ez_iload_n (q := 20) 2 dX8_live_19 rfl rfl rfl ?_
  exact ez_iret dX8_live_20 rfl (hQ _ hM)

set_option maxHeartbeats 4000000 in
set_option maxRecDepth 100000 in
theorem t_X8_comes {G : ez_G} {d n : Nat} {h : ez_H} {n' f : Nat} {L T ln : Nat → Nat} {sg : Nat → Nat → Nat} {y s r : Nat} {th sm ty wa rm fm ff : Int32} {z sv bf se ro le de rw sp : Nat → Int32} {ww : Bool} {ha : Int64} (hM : IM h h th z sv sm bf ty (nI r) se ro le de wa ww rw rm sp fm ff ha) (hz : ZZ z n' f L T ln sg) (ho : OK n' f L T ln sg) (hs : s < 2 ^ n') : Con G mX8_comes (d + 5) [.ref 64, .int (nI y), .int (nI s)] h n 0 0 (PM h n (some (.int (nI (unN T n' y (lvN T n' f L &&& s))))) th z sv sm bf ty (nI (r + urN T n' y (lvN T n' f L &&& s))) se ro le de wa ww rw rm sp fm ff ha) := by
  have hn := ho.1
  have hn0 := hz.1
  have hq : lvN T n' f L &&& s < 2 ^ n' := and_lt (lvN_lt T n' f L)
  refine Con.of [some (.ref 64), some (.int (nI y)), some (.int (nI s)), none, none, none] pl_X8 rfl (Nat.le_of_ble_eq_true rfl) rfl ?_
  have hQ : ∀ g, IM h g th z sv sm bf ty (nI (r + urN T n' y (lvN T n' f L &&& s))) se ro le de wa ww rw rm sp fm ff ha → (PM h n (some (.int (nI (unN T n' y (lvN T n' f L &&& s))))) th z sv sm bf ty (nI (r + urN T n' y (lvN T n' f L &&& s))) se ro le de wa ww rw rm sp fm ff ha) (.inl (some (.int (nI (unN T n' y (lvN T n' f L &&& s)))))) g n := fun g hM => ⟨rfl, hM, rfl⟩
  generalize PM h n (some (.int (nI (unN T n' y (lvN T n' f L &&& s))))) th z sv sm bf ty (nI (r + urN T n' y (lvN T n' f L &&& s))) se ro le de wa ww rw rm sp fm ff ha = Q at hQ ⊢
  refine ez_aload_n (q := 1) 0 dX8_comes_0 rfl rfl rfl ?_
  refine cMv (q := 4) dX8_comes_1 ck_X8_85 hM (t_X8_live hM.rb hz ho) rfl rfl rfl rfl rfl (Nat.le_of_ble_eq_true rfl) rfl (fun g hM => ?_)
  refine ez_iload_n (q := 5) 2 dX8_comes_4 rfl rfl rfl ?_
  refine ez_iandN (q := 6) dX8_comes_5 rfl ?_
  refine ez_istore_3 (q := 7) dX8_comes_6 rfl (by decide) rfl rfl ?_
  refine ez_iconst (v := nI 1) (q := 8) dX8_comes_7 (by decide) rfl ?_
  refine ez_istore_4 (q := 10) dX8_comes_8 (by decide) rfl rfl ?_
  refine ez_loop (α := Nat × Nat × Nat) (fun a => match a with | (w, m, k) => n' - ctN w n' + m) (P := fun a => match a with | (w, m, k) => ∀ g : ez_H, IM h g th z sv sm bf ty (nI k) se ro le de wa ww rw rm sp fm ff ha → (w < 2 ^ n') → (m ≤ 1) → (unN T n' y w = unN T n' y (lvN T n' f L &&& s)) → (k + urN T n' y w = r + urN T n' y (lvN T n' f L &&& s)) → (m = 0 → uN T n' y w = w) → E G mX8_comes (d + 5) Q g n 0 0 10 [some (.ref 64), some (.int (nI y)), some (.int (nI s)), some (.int (nI w)), some (.int (nI m)), none] []) ?_ (lvN T n' f L &&& s, 1, r) g hM hq (Nat.le_refl 1) rfl rfl (fun e => absurd e (by decide))
  rintro ⟨w, m, k⟩ ih10
  dsimp only at ih10 ⊢
  obtain ⟨μ10, hμ10⟩ : ∃ y, y = n' - ctN w n' + m := ⟨_, rfl⟩
  rw [← hμ10] at ih10
  have ih10 : ∀ (w : Nat) (m : Nat) (k : Nat), n' - ctN w n' + m < μ10 → ∀ g : ez_H, IM h g th z sv sm bf ty (nI k) se ro le de wa ww rw rm sp fm ff ha → (w < 2 ^ n') → (m ≤ 1) → (unN T n' y w = unN T n' y (lvN T n' f L &&& s)) → (k + urN T n' y w = r + urN T n' y (lvN T n' f L &&& s)) → (m = 0 → uN T n' y w = w) → E G mX8_comes (d + 5) Q g n 0 0 10 [some (.ref 64), some (.int (nI y)), some (.int (nI s)), some (.int (nI w)), some (.int (nI m)), none] [] := fun w m k => ih10 (w, m, k)
  intro g hM hw hm hst hk hm0
  refine ez_iload (q := 12) dX8_comes_10 rfl rfl ?_
  refine ez_ifeqN (q := 15) (tgt := 64) dX8_comes_12 (by decide) (by omega) rfl (fun hc12 => ?_) (fun hc12 => ?_)
  · have e1 := un_at T y hn hw
    rw [if_pos (hm0 hc12), if_pos (hm0 hc12)] at e1
    rw [show w = unN T n' y (lvN T n' f L &&& s) from by rw [← hst, e1.1]]
    rw [show k = r + urN T n' y (lvN T n' f L &&& s) from by omega] at hM
    refine ez_iload_n (q := 65) 3 dX8_comes_64 rfl rfl rfl ?_
    exact ez_iret dX8_comes_65 rfl (hQ _ hM)
  · refine ez_iload_n (q := 16) 3 dX8_comes_15 rfl rfl rfl ?_
    refine ez_iload_n (q := 17) 1 dX8_comes_16 rfl rfl rfl ?_
    refine ez_aload_n (q := 18) 0 dX8_comes_17 rfl rfl rfl ?_
    refine ez_iload_n (q := 19) 3 dX8_comes_18 rfl rfl rfl ?_
    refine cMv (q := 22) dX8_comes_19 ck_X8_73 hM (t_X8_into hM.rb hz ho) rfl rfl rfl rfl rfl (Nat.le_of_ble_eq_true rfl) rfl (fun g hM => ?_)
    refine ez_iandN (q := 23) dX8_comes_22 rfl ?_
    refine ez_iorN (q := 24) dX8_comes_23 rfl ?_
    show E G mX8_comes (d + 5) Q g n 0 0 24 _ [.int (nI (uN T n' y w))]
    refine ez_istore_5 (q := 26) dX8_comes_24 (by decide) rfl rfl ?_
    refine ez_iload (q := 28) dX8_comes_26 rfl rfl ?_
    refine ez_iload_n (q := 29) 3 dX8_comes_28 rfl rfl rfl ?_
    refine ez_icmpeqN (q := 32) (tgt := 36) dX8_comes_29 (by decide) (lt31 (uN_lt T n' y hw) hn) (lt31 hw hn) rfl (fun hc29 => ?_) (fun hc29 => ?_)
    · refine ez_iconst (v := nI 0) (q := 37) dX8_comes_36 (by decide) rfl ?_
      refine ez_istore_4 (q := 39) dX8_comes_37 (by decide) rfl rfl ?_
      refine ez_aload_n (q := 40) 0 dX8_comes_39 rfl rfl rfl ?_
      refine ez_dup (q := 41) dX8_comes_40 rfl rfl ?_
      refine ez_getf (q := 44) dX8_comes_41 fl_X8_76 hM.1 rfl rfl ?_
      refine ez_iload (q := 46) dX8_comes_44 rfl rfl ?_
      refine ez_ifeqN (q := 49) (tgt := 53) dX8_comes_46 (by decide) (by decide) rfl (fun hc46 => ?_) (fun hc46 => ?_)
      · first
        | exact absurd hc46 (by decide)
        | skip
          refine ez_iconst (v := nI 0) (q := 54) dX8_comes_53 (by decide) rfl ?_
          refine ez_iaddN (q := 55) dX8_comes_54 rfl ?_
          refine pM_rd (q := 58) dX8_comes_55 fl_X8_76 hM rfl (fun g hM => ?_)
          refine ez_iload (q := 60) dX8_comes_58 rfl rfl ?_
          refine ez_istore_3 (q := 61) dX8_comes_60 rfl (by decide) rfl rfl ?_
          refine ez_goto (q := 10) dX8_comes_61 (by decide) ?_
          first
          | exact E.fg (ih10 (uN T n' y w) 1 (k + 1) (by have := ct_lt (uN_sub T n' y w) (Ne.symm hc29) (uN_lt T n' y hw); have := ct_le (uN T n' y w) n'; omega) g hM (uN_lt T n' y hw) (Nat.le_refl 1) ((un_at T y hn hw).1.trans (if_neg hc29) |>.symm.trans hst) (by have := (un_at T y hn hw).2.trans (if_neg hc29); omega) (fun e => absurd e (by decide))) ⟨Or.inr (rfl), Or.inr (rfl), Or.inr (rfl), Or.inr (rfl), Or.inr (rfl), Or.inl rfl, trivial⟩
          | exact E.fg (ih10 (uN T n' y w) 0 (k + 0) (by rw [hc29]; omega) g hM (uN_lt T n' y hw) (Nat.zero_le 1) (by rw [hc29]; exact hst) (by rw [hc29]; exact hk) (fun _ => by rw [hc29]; exact hc29)) ⟨Or.inr (rfl), Or.inr (rfl), Or.inr (rfl), Or.inr (rfl), Or.inr (rfl), Or.inl rfl, trivial⟩
      · first
        | exact absurd rfl hc46
        | skip
          refine ez_iconst (v := nI 1) (q := 50) dX8_comes_49 (by decide) rfl ?_
          refine ez_goto (q := 54) dX8_comes_50 (by decide) ?_
          refine ez_iaddN (q := 55) dX8_comes_54 rfl ?_
          refine pM_rd (q := 58) dX8_comes_55 fl_X8_76 hM rfl (fun g hM => ?_)
          refine ez_iload (q := 60) dX8_comes_58 rfl rfl ?_
          refine ez_istore_3 (q := 61) dX8_comes_60 rfl (by decide) rfl rfl ?_
          refine ez_goto (q := 10) dX8_comes_61 (by decide) ?_
          first
          | exact E.fg (ih10 (uN T n' y w) 1 (k + 1) (by have := ct_lt (uN_sub T n' y w) (Ne.symm hc29) (uN_lt T n' y hw); have := ct_le (uN T n' y w) n'; omega) g hM (uN_lt T n' y hw) (Nat.le_refl 1) ((un_at T y hn hw).1.trans (if_neg hc29) |>.symm.trans hst) (by have := (un_at T y hn hw).2.trans (if_neg hc29); omega) (fun e => absurd e (by decide))) ⟨Or.inr (rfl), Or.inr (rfl), Or.inr (rfl), Or.inr (rfl), Or.inr (rfl), Or.inl rfl, trivial⟩
          | exact E.fg (ih10 (uN T n' y w) 0 (k + 0) (by rw [hc29]; omega) g hM (uN_lt T n' y hw) (Nat.zero_le 1) (by rw [hc29]; exact hst) (by rw [hc29]; exact hk) (fun _ => by rw [hc29]; exact hc29)) ⟨Or.inr (rfl), Or.inr (rfl), Or.inr (rfl), Or.inr (rfl), Or.inr (rfl), Or.inl rfl, trivial⟩
    · refine ez_iconst (v := nI 1) (q := 33) dX8_comes_32 (by decide) rfl ?_
      refine ez_goto (q := 37) dX8_comes_33 (by decide) ?_
      refine ez_istore_4 (q := 39) dX8_comes_37 (by decide) rfl rfl ?_
      refine ez_aload_n (q := 40) 0 dX8_comes_39 rfl rfl rfl ?_
      refine ez_dup (q := 41) dX8_comes_40 rfl rfl ?_
      refine ez_getf (q := 44) dX8_comes_41 fl_X8_76 hM.1 rfl rfl ?_
      refine ez_iload (q := 46) dX8_comes_44 rfl rfl ?_
      refine ez_ifeqN (q := 49) (tgt := 53) dX8_comes_46 (by decide) (by decide) rfl (fun hc46 => ?_) (fun hc46 => ?_)
      · first
        | exact absurd hc46 (by decide)
        | skip
          refine ez_iconst (v := nI 0) (q := 54) dX8_comes_53 (by decide) rfl ?_
          refine ez_iaddN (q := 55) dX8_comes_54 rfl ?_
          refine pM_rd (q := 58) dX8_comes_55 fl_X8_76 hM rfl (fun g hM => ?_)
          refine ez_iload (q := 60) dX8_comes_58 rfl rfl ?_
          refine ez_istore_3 (q := 61) dX8_comes_60 rfl (by decide) rfl rfl ?_
          refine ez_goto (q := 10) dX8_comes_61 (by decide) ?_
          first
          | exact E.fg (ih10 (uN T n' y w) 1 (k + 1) (by have := ct_lt (uN_sub T n' y w) (Ne.symm hc29) (uN_lt T n' y hw); have := ct_le (uN T n' y w) n'; omega) g hM (uN_lt T n' y hw) (Nat.le_refl 1) ((un_at T y hn hw).1.trans (if_neg hc29) |>.symm.trans hst) (by have := (un_at T y hn hw).2.trans (if_neg hc29); omega) (fun e => absurd e (by decide))) ⟨Or.inr (rfl), Or.inr (rfl), Or.inr (rfl), Or.inr (rfl), Or.inr (rfl), Or.inl rfl, trivial⟩
          | exact E.fg (ih10 (uN T n' y w) 0 (k + 0) (by rw [hc29]; omega) g hM (uN_lt T n' y hw) (Nat.zero_le 1) (by rw [hc29]; exact hst) (by rw [hc29]; exact hk) (fun _ => by rw [hc29]; exact hc29)) ⟨Or.inr (rfl), Or.inr (rfl), Or.inr (rfl), Or.inr (rfl), Or.inr (rfl), Or.inl rfl, trivial⟩
      · first
        | exact absurd rfl hc46
        | skip
          refine ez_iconst (v := nI 1) (q := 50) dX8_comes_49 (by decide) rfl ?_
          refine ez_goto (q := 54) dX8_comes_50 (by decide) ?_
          refine ez_iaddN (q := 55) dX8_comes_54 rfl ?_
          refine pM_rd (q := 58) dX8_comes_55 fl_X8_76 hM rfl (fun g hM => ?_)
          refine ez_iload (q := 60) dX8_comes_58 rfl rfl ?_
          refine ez_istore_3 (q := 61) dX8_comes_60 rfl (by decide) rfl rfl ?_
          refine ez_goto (q := 10) dX8_comes_61 (by decide) ?_
          first
          | exact E.fg (ih10 (uN T n' y w) 1 (k + 1) (by have := ct_lt (uN_sub T n' y w) (Ne.symm hc29) (uN_lt T n' y hw); have := ct_le (uN T n' y w) n'; omega) g hM (uN_lt T n' y hw) (Nat.le_refl 1) ((un_at T y hn hw).1.trans (if_neg hc29) |>.symm.trans hst) (by have := (un_at T y hn hw).2.trans (if_neg hc29); omega) (fun e => absurd e (by decide))) ⟨Or.inr (rfl), Or.inr (rfl), Or.inr (rfl), Or.inr (rfl), Or.inr (rfl), Or.inl rfl, trivial⟩
          | exact E.fg (ih10 (uN T n' y w) 0 (k + 0) (by rw [hc29]; omega) g hM (uN_lt T n' y hw) (Nat.zero_le 1) (by rw [hc29]; exact hst) (by rw [hc29]; exact hk) (fun _ => by rw [hc29]; exact hc29)) ⟨Or.inr (rfl), Or.inr (rfl), Or.inr (rfl), Or.inr (rfl), Or.inr (rfl), Or.inl rfl, trivial⟩

