set_option maxHeartbeats 800000 in
set_option maxRecDepth 100000 in
theorem t_X8_laySome {G : ez_G} {d n : Nat} {h : ez_H} {n' f : Nat} {L T ln : Nat → Nat} {sg : Nat → Nat → Nat} {c a b w : Nat} {l : List Nat} {r : Nat} {th sm ty wa fm ff : Int32} {z sv bf se ro le de rw sp : Nat → Int32} {ww : Bool} {ha : Int64} (hM : IM h h th z sv sm bf ty (nI r) se ro le de wa ww rw (nI l.length) sp fm ff ha) (hz : ZZ z n' f L T ln sg) (ho : OK n' f L T ln sg) (hk : c = 88 ∨ c = 70 ∨ c = 71 ∨ c = 85) (haa : a < 2 ^ n') (hb : b < 2 ^ n') (hw : w < n') (hin : (someS T n' f L c a b).testBit w = true) (hrw : RW rw l) (hl : l.length ≤ 1) : Con G mX8_laySome (d + 6) [.ref 64, .int (nI w), .int (nI c), .int (nI a), .int (nI b)] h n 0 0 (PW n none (fun g => ∃ (rw1 sp1 : Nat → Int32) (r1 : Nat), IM h g th z sv sm bf ty (nI r1) se ro le de wa ww rw1 (nI (l ++ smW T n' f L c a b w).length) sp1 fm ff ha ∧ RW rw1 (l ++ smW T n' f L c a b w))) := by
  have hn := ho.1
  have hn0 := hz.1
  refine Con.of [some (.ref 64), some (.int (nI w)), some (.int (nI c)), some (.int (nI a)), some (.int (nI b))] pl_X8 rfl (Nat.le_of_ble_eq_true rfl) rfl ?_
  have hQ : ∀ g (rw1 sp1 : Nat → Int32) (r1 : Nat), IM h g th z sv sm bf ty (nI r1) se ro le de wa ww rw1 (nI (l ++ smW T n' f L c a b w).length) sp1 fm ff ha → RW rw1 (l ++ smW T n' f L c a b w) → (PW n none (fun g => ∃ (rw1 sp1 : Nat → Int32) (r1 : Nat), IM h g th z sv sm bf ty (nI r1) se ro le de wa ww rw1 (nI (l ++ smW T n' f L c a b w).length) sp1 fm ff ha ∧ RW rw1 (l ++ smW T n' f L c a b w))) (.inl none) g n := fun g rw1 sp1 r1 h1 h2 => ⟨rfl, ⟨rw1, sp1, r1, h1, h2⟩, rfl⟩
  generalize PW n none (fun g => ∃ (rw1 sp1 : Nat → Int32) (r1 : Nat), IM h g th z sv sm bf ty (nI r1) se ro le de wa ww rw1 (nI (l ++ smW T n' f L c a b w).length) sp1 fm ff ha ∧ RW rw1 (l ++ smW T n' f L c a b w)) = Q at hQ ⊢
  refine ez_iload_n (q := 1) 2 dX8_laySome_0 rfl rfl rfl ?_
  refine ez_bipush (v := nI 88) (q := 3) dX8_laySome_1 (by decide) rfl ?_
  refine ez_icmpneN (q := 6) (tgt := 15) dX8_laySome_3 (by decide) (by omega) (by decide) rfl (fun hc3 => ?_) (fun hc3 => ?_)
  · refine ez_iload_n (q := 16) 2 dX8_laySome_15 rfl rfl rfl ?_
    refine ez_bipush (v := nI 70) (q := 18) dX8_laySome_16 (by decide) rfl ?_
    refine ez_icmpneN (q := 21) (tgt := 39) dX8_laySome_18 (by decide) (by omega) (by decide) rfl (fun hc18 => ?_) (fun hc18 => ?_)
    · refine ez_iload_n (q := 40) 2 dX8_laySome_39 rfl rfl rfl ?_
      refine ez_bipush (v := nI 71) (q := 42) dX8_laySome_40 (by decide) rfl ?_
      refine ez_icmpneN (q := 45) (tgt := 58) dX8_laySome_42 (by decide) (by omega) (by decide) rfl (fun hc42 => ?_) (fun hc42 => ?_)
      · obtain rfl : c = 85 := by omega
        rw [smW, if_neg (by decide), if_neg (by decide), if_neg (by decide)] at hQ
        have hlg := and_lt (b := b) (lvN_lt T n' f L)
        have hds := un_ds hn hlg hin
        refine ez_aload_n (q := 59) 0 dX8_laySome_58 rfl rfl rfl ?_
        refine ez_iload_n (q := 60) 1 dX8_laySome_59 rfl rfl rfl ?_
        refine ez_iload_n (q := 61) 3 dX8_laySome_60 rfl rfl rfl ?_
        refine ez_aload_n (q := 62) 0 dX8_laySome_61 rfl rfl rfl ?_
        refine cMv (q := 65) dX8_laySome_62 ck_X8_85 hM (t_X8_live hM.rb hz ho) rfl rfl rfl rfl rfl (Nat.le_of_ble_eq_true rfl) rfl (fun g hM => ?_)
        refine ez_iload (q := 67) dX8_laySome_65 rfl rfl ?_
        refine ez_iandN (q := 68) dX8_laySome_67 rfl ?_
        refine cX0 (q := 71) dX8_laySome_68 ck_X8_177 hM.1 (t_X8_layComing hM.rb hz ho hw hlg hds hrw hl) rfl ⟨by decide, rfl⟩ rfl rfl rfl (Nat.le_of_ble_eq_true rfl) rfl (fun g hW => ?_)
        obtain ⟨rw1, sp1, hM2, hrw⟩ := hW
        have hM := hM.tr hM2
        exact ez_vret dX8_laySome_71 rfl (hQ _ _ _ _ hM hrw)
      · subst hc42
        rw [smW, if_neg (by decide), if_neg (by decide), if_pos rfl] at hQ
        refine ez_aload_n (q := 46) 0 dX8_laySome_45 rfl rfl rfl ?_
        refine ez_iload_n (q := 47) 1 dX8_laySome_46 rfl rfl rfl ?_
        refine ez_aload_n (q := 48) 0 dX8_laySome_47 rfl rfl rfl ?_
        refine ez_iload_n (q := 49) 3 dX8_laySome_48 rfl rfl rfl ?_
        refine cMv (q := 52) dX8_laySome_49 ck_X8_82 hM (t_X8_stays hM.rb hz ho haa) rfl rfl rfl rfl rfl (Nat.le_of_ble_eq_true rfl) rfl (fun g hM => ?_)
        refine cX0 (q := 55) dX8_laySome_52 ck_X8_181 hM.1 (t_X8_layStaying hM.rb hz ho hw (sty_st hn haa) hin hrw hl) rfl ⟨by decide, rfl⟩ rfl rfl rfl (Nat.le_of_ble_eq_true rfl) rfl (fun g hW => ?_)
        obtain ⟨rw1, sp1, hM2, hrw⟩ := hW
        have hM := hM.tr hM2
        refine ez_goto (q := 71) dX8_laySome_55 (by decide) ?_
        exact ez_vret dX8_laySome_71 rfl (hQ _ _ _ _ hM hrw)
    · subst hc18
      rw [smW, if_neg (by decide), if_pos rfl] at hQ
      have hlg := and_lt (b := a) (lvN_lt T n' f L)
      have hds := un_ds hn hlg hin
      refine ez_aload_n (q := 22) 0 dX8_laySome_21 rfl rfl rfl ?_
      refine ez_iload_n (q := 23) 1 dX8_laySome_22 rfl rfl rfl ?_
      refine ez_aload_n (q := 24) 0 dX8_laySome_23 rfl rfl rfl ?_
      refine cMv (q := 27) dX8_laySome_24 ck_X8_79 hM (t_X8_all hM.rb hz ho) rfl rfl rfl rfl rfl (Nat.le_of_ble_eq_true rfl) rfl (fun g hM => ?_)
      refine ez_aload_n (q := 28) 0 dX8_laySome_27 rfl rfl rfl ?_
      refine cMv (q := 31) dX8_laySome_28 ck_X8_85 hM (t_X8_live hM.rb hz ho) rfl rfl rfl rfl rfl (Nat.le_of_ble_eq_true rfl) rfl (fun g hM => ?_)
      refine ez_iload_n (q := 32) 3 dX8_laySome_31 rfl rfl rfl ?_
      refine ez_iandN (q := 33) dX8_laySome_32 rfl ?_
      refine cX0 (q := 36) dX8_laySome_33 ck_X8_177 hM.1 (t_X8_layComing hM.rb hz ho hw hlg hds hrw hl) rfl ⟨by decide, rfl⟩ rfl rfl rfl (Nat.le_of_ble_eq_true rfl) rfl (fun g hW => ?_)
      obtain ⟨rw1, sp1, hM2, hrw⟩ := hW
      have hM := hM.tr hM2
      refine ez_goto (q := 71) dX8_laySome_36 (by decide) ?_
      exact ez_vret dX8_laySome_71 rfl (hQ _ _ _ _ hM hrw)
  · subst hc3
    have hex := sm_x hn hin
    rw [smW, if_pos rfl] at hQ
    refine ez_aload_n (q := 7) 0 dX8_laySome_6 rfl rfl rfl ?_
    refine ez_iload_n (q := 8) 1 dX8_laySome_7 rfl rfl rfl ?_
    refine ez_iload_n (q := 9) 3 dX8_laySome_8 rfl rfl rfl ?_
    refine cX0 (q := 12) dX8_laySome_9 ck_X8_174 hM.1 (t_X8_layNext hM.rb hz ho hw hex hrw hl) rfl ⟨by decide, rfl⟩ rfl rfl rfl (Nat.le_of_ble_eq_true rfl) rfl (fun g hW => ?_)
    obtain ⟨rw1, sp1, r1, hM2, hrw⟩ := hW
    have hM := hM.tr hM2
    refine ez_goto (q := 71) dX8_laySome_12 (by decide) ?_
    exact ez_vret dX8_laySome_71 rfl (hQ _ _ _ _ hM hrw)

set_option maxHeartbeats 800000 in
set_option maxRecDepth 100000 in
theorem t_X8_layAgainst {G : ez_G} {d n : Nat} {h : ez_H} {n' f : Nat} {L T ln : Nat → Nat} {sg : Nat → Nat → Nat} {c a b w : Nat} {l : List Nat} {r : Nat} {th sm ty wa fm ff : Int32} {z sv bf se ro le de rw sp : Nat → Int32} {ww : Bool} {ha : Int64} (hM : IM h h th z sv sm bf ty (nI r) se ro le de wa ww rw (nI l.length) sp fm ff ha) (hz : ZZ z n' f L T ln sg) (ho : OK n' f L T ln sg) (hk : c = 88 ∨ c = 70 ∨ c = 71 ∨ c = 85) (hw : w < n') (hni : ¬ (evryS T n' f L c a b).testBit w = true) (hrw : RW rw l) (hl : l.length ≤ 1) : Con G mX8_layAgainst (d + 7) [.ref 64, .int (nI w), .int (nI c), .int (nI a), .int (nI b)] h n 0 0 (PW n none (fun g => ∃ (rw1 sp1 : Nat → Int32) (r1 : Nat), IM h g th z sv sm bf ty (nI r1) se ro le de wa ww rw1 (nI (l ++ agW T n' f L c (ndN (2 ^ n' - 1) a) (ndN (2 ^ n' - 1) b) w).length) sp1 fm ff ha ∧ RW rw1 (l ++ agW T n' f L c (ndN (2 ^ n' - 1) a) (ndN (2 ^ n' - 1) b) w))) := by
  have hn := ho.1
  have hn0 := hz.1
  have hna : (ndN (2 ^ n' - 1) a) < 2 ^ n' := nd_lt (al_lt n')
  have hnb : (ndN (2 ^ n' - 1) b) < 2 ^ n' := nd_lt (al_lt n')
  refine Con.of [some (.ref 64), some (.int (nI w)), some (.int (nI c)), some (.int (nI a)), some (.int (nI b)), none, none] pl_X8 rfl (Nat.le_of_ble_eq_true rfl) rfl ?_
  have hQ : ∀ g (rw1 sp1 : Nat → Int32) (r1 : Nat), IM h g th z sv sm bf ty (nI r1) se ro le de wa ww rw1 (nI (l ++ agW T n' f L c (ndN (2 ^ n' - 1) a) (ndN (2 ^ n' - 1) b) w).length) sp1 fm ff ha → RW rw1 (l ++ agW T n' f L c (ndN (2 ^ n' - 1) a) (ndN (2 ^ n' - 1) b) w) → (PW n none (fun g => ∃ (rw1 sp1 : Nat → Int32) (r1 : Nat), IM h g th z sv sm bf ty (nI r1) se ro le de wa ww rw1 (nI (l ++ agW T n' f L c (ndN (2 ^ n' - 1) a) (ndN (2 ^ n' - 1) b) w).length) sp1 fm ff ha ∧ RW rw1 (l ++ agW T n' f L c (ndN (2 ^ n' - 1) a) (ndN (2 ^ n' - 1) b) w))) (.inl none) g n := fun g rw1 sp1 r1 h1 h2 => ⟨rfl, ⟨rw1, sp1, r1, h1, h2⟩, rfl⟩
  generalize PW n none (fun g => ∃ (rw1 sp1 : Nat → Int32) (r1 : Nat), IM h g th z sv sm bf ty (nI r1) se ro le de wa ww rw1 (nI (l ++ agW T n' f L c (ndN (2 ^ n' - 1) a) (ndN (2 ^ n' - 1) b) w).length) sp1 fm ff ha ∧ RW rw1 (l ++ agW T n' f L c (ndN (2 ^ n' - 1) a) (ndN (2 ^ n' - 1) b) w)) = Q at hQ ⊢
  refine ez_aload_n (q := 1) 0 dX8_layAgainst_0 rfl rfl rfl ?_
  refine cMv (q := 4) dX8_layAgainst_1 ck_X8_79 hM (t_X8_all hM.rb hz ho) rfl rfl rfl rfl rfl (Nat.le_of_ble_eq_true rfl) rfl (fun g hM => ?_)
  refine ez_iload_n (q := 5) 3 dX8_layAgainst_4 rfl rfl rfl ?_
  refine ez_iconst (v := -1) (q := 6) dX8_layAgainst_5 (by decide) rfl ?_
  refine ez_ixor (q := 7) dX8_layAgainst_6 rfl ?_
  refine ez_iandX (q := 8) dX8_layAgainst_7 rfl ?_
  refine ez_istore_5 (q := 10) dX8_layAgainst_8 (by decide) rfl rfl ?_
  refine ez_aload_n (q := 11) 0 dX8_layAgainst_10 rfl rfl rfl ?_
  refine cMv (q := 14) dX8_layAgainst_11 ck_X8_79 hM (t_X8_all hM.rb hz ho) rfl rfl rfl rfl rfl (Nat.le_of_ble_eq_true rfl) rfl (fun g hM => ?_)
  refine ez_iload (q := 16) dX8_layAgainst_14 rfl rfl ?_
  refine ez_iconst (v := -1) (q := 17) dX8_layAgainst_16 (by decide) rfl ?_
  refine ez_ixor (q := 18) dX8_layAgainst_17 rfl ?_
  refine ez_iandX (q := 19) dX8_layAgainst_18 rfl ?_
  refine ez_istore_6 (q := 21) dX8_layAgainst_19 (by decide) rfl rfl ?_
  refine ez_iload_n (q := 22) 2 dX8_layAgainst_21 rfl rfl rfl ?_
  refine ez_bipush (v := nI 88) (q := 24) dX8_layAgainst_22 (by decide) rfl ?_
  refine ez_icmpneN (q := 27) (tgt := 37) dX8_layAgainst_24 (by decide) (by omega) (by decide) rfl (fun hc24 => ?_) (fun hc24 => ?_)
  · refine ez_iload_n (q := 38) 2 dX8_layAgainst_37 rfl rfl rfl ?_
    refine ez_bipush (v := nI 70) (q := 40) dX8_layAgainst_38 (by decide) rfl ?_
    refine ez_icmpneN (q := 43) (tgt := 57) dX8_layAgainst_40 (by decide) (by omega) (by decide) rfl (fun hc40 => ?_) (fun hc40 => ?_)
    · refine ez_iload_n (q := 58) 2 dX8_layAgainst_57 rfl rfl rfl ?_
      refine ez_bipush (v := nI 71) (q := 60) dX8_layAgainst_58 (by decide) rfl ?_
      refine ez_icmpneN (q := 63) (tgt := 82) dX8_layAgainst_60 (by decide) (by omega) (by decide) rfl (fun hc60 => ?_) (fun hc60 => ?_)
      · obtain rfl : c = 85 := by omega
        rw [agW, if_neg (by decide), if_neg (by decide), if_neg (by decide)] at hQ
        have hin : (unN T n' (ndN (2 ^ n' - 1) b) (lvN T n' f L &&& ndN (ndN (2 ^ n' - 1) b) a) ||| (stN T n' f L (ndN (2 ^ n' - 1) b))).testBit w = true := nd_in hw hni
        rw [nd_nd, Nat.testBit_or, Bool.or_eq_true] at hin
        have hlg := and_lt (b := (ndN (2 ^ n' - 1) a) &&& (ndN (2 ^ n' - 1) b)) (lvN_lt T n' f L)
        refine ez_aload_n (q := 83) 0 dX8_layAgainst_82 rfl rfl rfl ?_
        refine ez_iload (q := 85) dX8_layAgainst_83 rfl rfl ?_
        refine ez_iload (q := 87) dX8_layAgainst_85 rfl rfl ?_
        refine ez_iload (q := 89) dX8_layAgainst_87 rfl rfl ?_
        refine ez_iandN (q := 90) dX8_layAgainst_89 rfl ?_
        refine cMv (q := 93) dX8_layAgainst_90 ck_X8_88 hM (t_X8_comes hM.rb hz ho (and_lt hna)) rfl rfl rfl rfl rfl (Nat.le_of_ble_eq_true rfl) rfl (fun g hM => ?_)
        refine ez_iload_n (q := 94) 1 dX8_layAgainst_93 rfl rfl rfl ?_
        refine ez_ishrN (q := 95) dX8_layAgainst_94 (lt31 (un_lt T n' _ 11 _ hlg) hn) (by omega) rfl ?_
        refine ez_iconst (v := nI 1) (q := 96) dX8_layAgainst_95 (by decide) rfl ?_
        refine ez_iandN (q := 97) dX8_layAgainst_96 rfl ?_
        refine ez_iconst (v := nI 1) (q := 98) dX8_layAgainst_97 (by decide) rfl ?_
        refine ez_icmpneN (q := 101) (tgt := 121) dX8_layAgainst_98 (by decide) (Nat.lt_of_le_of_lt Nat.and_le_right (by decide)) (by decide) rfl (fun hc98 => ?_) (fun hc98 => ?_)
        · rw [if_neg hc98] at hQ
          have hin2 : (stN T n' f L (ndN (2 ^ n' - 1) b)).testBit w = true := hin.resolve_left (fun e => hc98 ((tb_1 _ _).mpr e))
          refine ez_aload_n (q := 122) 0 dX8_layAgainst_121 rfl rfl rfl ?_
          refine ez_iload_n (q := 123) 1 dX8_layAgainst_122 rfl rfl rfl ?_
          refine ez_aload_n (q := 124) 0 dX8_layAgainst_123 rfl rfl rfl ?_
          refine ez_iload (q := 126) dX8_layAgainst_124 rfl rfl ?_
          refine cMv (q := 129) dX8_layAgainst_126 ck_X8_82 hM (t_X8_stays hM.rb hz ho hnb) rfl rfl rfl rfl rfl (Nat.le_of_ble_eq_true rfl) rfl (fun g hM => ?_)
          refine cX0 (q := 132) dX8_layAgainst_129 ck_X8_181 hM.1 (t_X8_layStaying hM.rb hz ho hw (sty_st hn hnb) hin2 hrw hl) rfl ⟨by decide, rfl⟩ rfl rfl rfl (Nat.le_of_ble_eq_true rfl) rfl (fun g hW => ?_)
          obtain ⟨rw1, sp1, hM2, hrw⟩ := hW
          have hM := hM.tr hM2
          exact ez_vret dX8_layAgainst_132 rfl (hQ _ _ _ _ hM hrw)
        · rw [if_pos hc98] at hQ
          have hds := un_ds hn hlg ((tb_1 _ _).mp hc98)
          rw [← Nat.and_assoc] at hlg hds
          refine ez_aload_n (q := 102) 0 dX8_layAgainst_101 rfl rfl rfl ?_
          refine ez_iload_n (q := 103) 1 dX8_layAgainst_102 rfl rfl rfl ?_
          refine ez_iload (q := 105) dX8_layAgainst_103 rfl rfl ?_
          refine ez_aload_n (q := 106) 0 dX8_layAgainst_105 rfl rfl rfl ?_
          refine cMv (q := 109) dX8_layAgainst_106 ck_X8_85 hM (t_X8_live hM.rb hz ho) rfl rfl rfl rfl rfl (Nat.le_of_ble_eq_true rfl) rfl (fun g hM => ?_)
          refine ez_iload (q := 111) dX8_layAgainst_109 rfl rfl ?_
          refine ez_iandN (q := 112) dX8_layAgainst_111 rfl ?_
          refine ez_iload (q := 114) dX8_layAgainst_112 rfl rfl ?_
          refine ez_iandN (q := 115) dX8_layAgainst_114 rfl ?_
          refine cX0 (q := 118) dX8_layAgainst_115 ck_X8_177 hM.1 (t_X8_layComing hM.rb hz ho hw hlg hds hrw hl) rfl ⟨by decide, rfl⟩ rfl rfl rfl (Nat.le_of_ble_eq_true rfl) rfl (fun g hW => ?_)
          obtain ⟨rw1, sp1, hM2, hrw⟩ := hW
          have hM := hM.tr hM2
          refine ez_goto (q := 132) dX8_layAgainst_118 (by decide) ?_
          exact ez_vret dX8_layAgainst_132 rfl (hQ _ _ _ _ hM hrw)
      · subst hc60
        rw [agW, if_neg (by decide), if_neg (by decide), if_pos rfl] at hQ
        have hlg := and_lt (b := (ndN (2 ^ n' - 1) a)) (lvN_lt T n' f L)
        have hin : (unN T n' (2 ^ n' - 1) (lvN T n' f L &&& (ndN (2 ^ n' - 1) a))).testBit w = true := nd_in hw hni
        have hds := un_ds hn hlg hin
        refine ez_aload_n (q := 64) 0 dX8_layAgainst_63 rfl rfl rfl ?_
        refine ez_iload_n (q := 65) 1 dX8_layAgainst_64 rfl rfl rfl ?_
        refine ez_aload_n (q := 66) 0 dX8_layAgainst_65 rfl rfl rfl ?_
        refine cMv (q := 69) dX8_layAgainst_66 ck_X8_79 hM (t_X8_all hM.rb hz ho) rfl rfl rfl rfl rfl (Nat.le_of_ble_eq_true rfl) rfl (fun g hM => ?_)
        refine ez_aload_n (q := 70) 0 dX8_layAgainst_69 rfl rfl rfl ?_
        refine cMv (q := 73) dX8_layAgainst_70 ck_X8_85 hM (t_X8_live hM.rb hz ho) rfl rfl rfl rfl rfl (Nat.le_of_ble_eq_true rfl) rfl (fun g hM => ?_)
        refine ez_iload (q := 75) dX8_layAgainst_73 rfl rfl ?_
        refine ez_iandN (q := 76) dX8_layAgainst_75 rfl ?_
        refine cX0 (q := 79) dX8_layAgainst_76 ck_X8_177 hM.1 (t_X8_layComing hM.rb hz ho hw hlg hds hrw hl) rfl ⟨by decide, rfl⟩ rfl rfl rfl (Nat.le_of_ble_eq_true rfl) rfl (fun g hW => ?_)
        obtain ⟨rw1, sp1, hM2, hrw⟩ := hW
        have hM := hM.tr hM2
        refine ez_goto (q := 132) dX8_layAgainst_79 (by decide) ?_
        exact ez_vret dX8_layAgainst_132 rfl (hQ _ _ _ _ hM hrw)
    · subst hc40
      rw [agW, if_neg (by decide), if_pos rfl] at hQ
      have hin : (stN T n' f L (ndN (2 ^ n' - 1) a)).testBit w = true := nd_in hw hni
      refine ez_aload_n (q := 44) 0 dX8_layAgainst_43 rfl rfl rfl ?_
      refine ez_iload_n (q := 45) 1 dX8_layAgainst_44 rfl rfl rfl ?_
      refine ez_aload_n (q := 46) 0 dX8_layAgainst_45 rfl rfl rfl ?_
      refine ez_iload (q := 48) dX8_layAgainst_46 rfl rfl ?_
      refine cMv (q := 51) dX8_layAgainst_48 ck_X8_82 hM (t_X8_stays hM.rb hz ho hna) rfl rfl rfl rfl rfl (Nat.le_of_ble_eq_true rfl) rfl (fun g hM => ?_)
      refine cX0 (q := 54) dX8_layAgainst_51 ck_X8_181 hM.1 (t_X8_layStaying hM.rb hz ho hw (sty_st hn hna) hin hrw hl) rfl ⟨by decide, rfl⟩ rfl rfl rfl (Nat.le_of_ble_eq_true rfl) rfl (fun g hW => ?_)
      obtain ⟨rw1, sp1, hM2, hrw⟩ := hW
      have hM := hM.tr hM2
      refine ez_goto (q := 132) dX8_layAgainst_54 (by decide) ?_
      exact ez_vret dX8_layAgainst_132 rfl (hQ _ _ _ _ hM hrw)
  · subst hc24
    have hex := ag_x hn hw hni
    rw [agW, if_pos rfl] at hQ
    refine ez_aload_n (q := 28) 0 dX8_layAgainst_27 rfl rfl rfl ?_
    refine ez_iload_n (q := 29) 1 dX8_layAgainst_28 rfl rfl rfl ?_
    refine ez_iload (q := 31) dX8_layAgainst_29 rfl rfl ?_
    refine cX0 (q := 34) dX8_layAgainst_31 ck_X8_174 hM.1 (t_X8_layNext hM.rb hz ho hw hex hrw hl) rfl ⟨by decide, rfl⟩ rfl rfl rfl (Nat.le_of_ble_eq_true rfl) rfl (fun g hW => ?_)
    obtain ⟨rw1, sp1, r1, hM2, hrw⟩ := hW
    have hM := hM.tr hM2
    refine ez_goto (q := 132) dX8_layAgainst_34 (by decide) ?_
    exact ez_vret dX8_layAgainst_132 rfl (hQ _ _ _ _ hM hrw)

def MW (h0 h : ez_H) (th : Int32) (z sv : Nat → Int32) (sm : Int32) (bf : Nat → Int32) (ty : Int32) (ha : Int64) (l : List Nat) : Prop := ∃ (r : Nat) (se ro le de : Nat → Int32) (wa : Int32) (ww : Bool) (rw sp : Nat → Int32) (fm ff : Int32), IM h0 h th z sv sm bf ty (nI r) se ro le de wa ww rw (nI l.length) sp fm ff ha ∧ RW rw l
def wtL (T : Nat → Nat) (n f : Nat) (L : Nat → Nat) (ln : Nat → Nat) (sg : Nat → Nat → Nat) (w u : Nat) : List Nat :=
  if ln w = 0 then [] else if sg w 0 = 69 ∨ sg w 0 = 65 then
    (if (hW T n f L ln sg w >>> u) &&& 1 = 1 then (if sg w 0 = 69 then smW T n f L (sg w 1) (seW T n f L (ln w) (sg w) 2) (if sg w 1 = 85 then seW T n f L (ln w) (sg w) (2 + leW (ln w) (sg w) 2) else 0) u else [])
     else if sg w 0 = 69 then [] else agW T n f L (sg w 1) (ndN (2 ^ n - 1) (seW T n f L (ln w) (sg w) 2)) (ndN (2 ^ n - 1) (if sg w 1 = 85 then seW T n f L (ln w) (sg w) (2 + leW (ln w) (sg w) 2) else 0)) u)
  else []
set_option maxHeartbeats 800000 in
set_option maxRecDepth 100000 in
theorem t_X8_layWitness {G : ez_G} {d n : Nat} {h : ez_H} {n' f : Nat} {L T ln : Nat → Nat} {sg : Nat → Nat → Nat} {w u r : Nat} {th sm ty wa rm fm ff : Int32} {z sv bf se ro le de rw sp : Nat → Int32} {ww : Bool} {ha : Int64} (hM : IM h h th z sv sm bf ty (nI r) se ro le de wa ww rw rm sp fm ff ha) (hz : ZZ z n' f L T ln sg) (ho : OK n' f L T ln sg) (hs : WFS ln sg) (hw : w < 4) (hu : u < n') : Con G mX8_layWitness (d + 10) [.ref 64, .int (nI w), .int (nI u)] h n 0 0 (PW n none (fun g => MW h g th z sv sm bf ty ha (wtL T n' f L ln sg w u))) := by
  have hn := ho.1
  have hn0 := hz.1
  have hl := ho.2.2.2.2.1 w hw
  refine Con.of [some (.ref 64), some (.int (nI w)), some (.int (nI u)), none, none, none, none, none] pl_X8 rfl (Nat.le_of_ble_eq_true rfl) rfl ?_
  have hQ : ∀ g, MW h g th z sv sm bf ty ha (wtL T n' f L ln sg w u) → (PW n none (fun g => MW h g th z sv sm bf ty ha (wtL T n' f L ln sg w u))) (.inl none) g n := fun g h1 => ⟨rfl, h1, rfl⟩
  generalize PW n none (fun g => MW h g th z sv sm bf ty ha (wtL T n' f L ln sg w u)) = Q at hQ ⊢
  refine ez_aload_n (q := 1) 0 dX8_layWitness_0 rfl rfl rfl ?_
  refine ez_iconst (v := nI 0) (q := 2) dX8_layWitness_1 (by decide) rfl ?_
  refine pM_rm (q := 5) dX8_layWitness_2 fl_X8_162 hM rfl (fun g hM => ?_)
  refine ez_aload_n (q := 6) 0 dX8_layWitness_5 rfl rfl rfl ?_
  refine ez_iload_n (q := 7) 1 dX8_layWitness_6 rfl rfl rfl ?_
  refine cMv (q := 10) dX8_layWitness_7 ck_X8_101 hM (t_X8_lengthOf hM.rb hz ho hw) rfl rfl rfl rfl rfl (Nat.le_of_ble_eq_true rfl) rfl (fun g hM => ?_)
  refine ez_ifneN (q := 13) (tgt := 14) dX8_layWitness_10 (by decide) (by omega) rfl (fun hc10 => ?_) (fun hc10 => ?_)
  · rw [wtL, if_neg hc10] at hQ
    obtain ⟨sc, hwf⟩ := hs w hw (by omega)
    have hs0 : (sc 0).2 = false := by rw [(wf_0 hwf).2.1]
    refine ez_aload_n (q := 15) 0 dX8_layWitness_14 rfl rfl rfl ?_
    refine ez_iload_n (q := 16) 1 dX8_layWitness_15 rfl rfl rfl ?_
    refine cXv (q := 19) dX8_layWitness_16 ck_X8_144 hM.1 (t_X8_holds hM.rb hz ho hw hwf) rfl ⟨by decide, rfl⟩ rfl rfl rfl (Nat.le_of_ble_eq_true rfl) rfl (fun g hW => ?_)
    obtain ⟨se, ro, le, de, r, hM2, ht⟩ := hW
    have hM := hM.tr hM2
    change E G mX8_layWitness (d + 10) Q g n 0 0 19 _ (.int (nI (hW T n' f L ln sg w)) :: _)
    refine ez_iload_n (q := 20) 2 dX8_layWitness_19 rfl rfl rfl ?_
    refine ez_ishrN (q := 21) dX8_layWitness_20 (lt31 (hW_lt w) hn) (by omega) rfl ?_
    refine ez_iconst (v := nI 1) (q := 22) dX8_layWitness_21 (by decide) rfl ?_
    refine ez_iandN (q := 23) dX8_layWitness_22 rfl ?_
    refine ez_iconst (v := nI 1) (q := 24) dX8_layWitness_23 (by decide) rfl ?_
    refine ez_icmpneN (q := 27) (tgt := 31) dX8_layWitness_24 (by decide) (Nat.lt_of_le_of_lt Nat.and_le_right (by decide)) (by decide) rfl (fun hc24 => ?_) (fun hc24 => ?_)
    · rw [if_neg hc24] at hQ
      refine ez_iconst (v := nI 0) (q := 32) dX8_layWitness_31 (by decide) rfl ?_
      refine ez_istore_3 (q := 33) dX8_layWitness_32 rfl (by decide) rfl rfl ?_
      refine ez_aload_n (q := 34) 0 dX8_layWitness_33 rfl rfl rfl ?_
      refine ez_iload_n (q := 35) 1 dX8_layWitness_34 rfl rfl rfl ?_
      refine ez_iconst (v := nI 0) (q := 36) dX8_layWitness_35 (by decide) rfl ?_
      refine cMv (q := 39) dX8_layWitness_36 ck_X8_91 hM (t_X8_signAt hM.rb hz ho hw (show 0 < ln w by omega)) rfl rfl rfl rfl rfl (Nat.le_of_ble_eq_true rfl) rfl (fun g hM => ?_)
      refine ez_istore_4 (q := 41) dX8_layWitness_39 (by decide) rfl rfl ?_
      refine ez_iload (q := 43) dX8_layWitness_41 rfl rfl ?_
      refine ez_bipush (v := nI 69) (q := 45) dX8_layWitness_43 (by decide) rfl ?_
      refine ez_icmpeqN (q := 48) (tgt := 55) dX8_layWitness_45 (by decide) (by have := wf_c hwf (show 0 < ln w by omega); omega) (by decide) rfl (fun hc45 => ?_) (fun hc45 => ?_)
      · have hc := Or.inl (b := sg w 0 = 65) hc45
        rw [if_pos hc] at hQ
        refine ez_iload_n (q := 56) 3 dX8_layWitness_55 rfl rfl rfl ?_
        refine ez_iload (q := 58) dX8_layWitness_56 rfl rfl ?_
        refine ez_bipush (v := nI 69) (q := 60) dX8_layWitness_58 (by decide) rfl ?_
        refine ez_icmpneN (q := 63) (tgt := 67) dX8_layWitness_60 (by decide) (by have := wf_c hwf (show 0 < ln w by omega); omega) (by decide) rfl (fun hc60 => ?_) (fun hc60 => ?_)
        · rw [if_neg hc60] at hQ
          refine ez_iconst (v := nI 0) (q := 68) dX8_layWitness_67 (by decide) rfl ?_
          refine ez_icmpeqN (q := 71) (tgt := 72) dX8_layWitness_68 (by decide) (by decide) (by decide) rfl (fun hc68 => ?_) (fun hc68 => ?_)
          · first
            | exact absurd hc68 (by decide)
            | skip
              obtain ⟨hk, h2, h2s, h2u⟩ := wf_ea hwf (show 0 < ln w by omega) hs0 hc
              have t2 := (ht (0 + 2) (by omega) h2).2 ((wf_w hwf h2).trans h2s)
              have t3 := fun e => (ht (0 + 2 + leW (ln w) (sg w) (0 + 2)) (by omega) (h2u e).1).2 ((wf_w hwf (h2u e).1).trans (h2u e).2)
              refine ez_aload_n (q := 73) 0 dX8_layWitness_72 rfl rfl rfl ?_
              refine ez_iload_n (q := 74) 1 dX8_layWitness_73 rfl rfl rfl ?_
              refine ez_iconst (v := nI 1) (q := 75) dX8_layWitness_74 (by decide) rfl ?_
              refine cMv (q := 78) dX8_layWitness_75 ck_X8_91 hM (t_X8_signAt hM.rb hz ho hw (show 1 < ln w by omega)) rfl rfl rfl rfl rfl (Nat.le_of_ble_eq_true rfl) rfl (fun g hM => ?_)
              refine ez_istore_5 (q := 80) dX8_layWitness_78 (by decide) rfl rfl ?_
              refine ez_aload_n (q := 81) 0 dX8_layWitness_80 rfl rfl rfl ?_
              refine ez_getf (q := 84) dX8_layWitness_81 fl_X8_19 hM.1 rfl rfl ?_
              refine ez_iconst (v := nI 2) (q := 85) dX8_layWitness_84 (by decide) rfl ?_
              refine ez_iald (q := 86) dX8_layWitness_85 hM.2.2.2.2.1 rfl (by omega) (by decide) rfl ?_
              refine ez_top (t2.1) ?_
              refine ez_istore_6 (q := 88) dX8_layWitness_86 (by decide) rfl rfl ?_
              refine ez_iload (q := 90) dX8_layWitness_88 rfl rfl ?_
              refine ez_bipush (v := nI 85) (q := 92) dX8_layWitness_90 (by decide) rfl ?_
              refine ez_icmpneN (q := 95) (tgt := 111) dX8_layWitness_92 (by decide) (by have := wf_c hwf (show 1 < ln w by omega); omega) (by decide) rfl (fun hc92 => ?_) (fun hc92 => ?_)
              · rw [if_neg hc92] at hQ
                refine ez_iconst (v := nI 0) (q := 112) dX8_layWitness_111 (by decide) rfl ?_
                refine ez_istore_7 (q := 114) dX8_layWitness_112 (by decide) rfl rfl ?_
                refine ez_iload (q := 116) dX8_layWitness_114 rfl rfl ?_
                refine ez_bipush (v := nI 69) (q := 118) dX8_layWitness_116 (by decide) rfl ?_
                refine ez_icmpneN (q := 121) (tgt := 135) dX8_layWitness_118 (by decide) (by have := wf_c hwf (show 0 < ln w by omega); omega) (by decide) rfl (fun hc118 => ?_) (fun hc118 => ?_)
                · first
                  | exact absurd hc60 hc118
                  | skip
                    refine ez_aload_n (q := 136) 0 dX8_layWitness_135 rfl rfl rfl ?_
                    refine ez_iload_n (q := 137) 2 dX8_layWitness_136 rfl rfl rfl ?_
                    refine ez_iload (q := 139) dX8_layWitness_137 rfl rfl ?_
                    refine ez_iload (q := 141) dX8_layWitness_139 rfl rfl ?_
                    refine ez_iload (q := 143) dX8_layWitness_141 rfl rfl ?_
                    refine cX0 (q := 146) dX8_layWitness_143 ck_X8_188 hM.1 (t_X8_layAgainst hM.rb hz ho hk hu (by have h9 := fun e => hc24 ((tb_1 _ _).mpr e); rw [hW, seW_A (show 0 < ln w by omega) (by omega)] at h9; first | (rw [if_pos hc92] at h9; exact h9) | (rw [if_neg hc92] at h9; exact h9)) (l := []) (RW.nil _) (Nat.zero_le 1)) rfl ⟨by decide, rfl⟩ rfl rfl rfl (Nat.le_of_ble_eq_true rfl) rfl (fun g hW => ?_)
                    obtain ⟨rw1, sp1, r1, hM2, hrw⟩ := hW
                    have hM := hM.tr hM2
                    exact ez_vret dX8_layWitness_146 rfl (hQ _ ⟨_, _, _, _, _, _, _, _, _, _, _, hM, hrw⟩)
                · first
                  | exact absurd hc118 hc60
                  | skip
                    refine ez_aload_n (q := 122) 0 dX8_layWitness_121 rfl rfl rfl ?_
                    refine ez_iload_n (q := 123) 2 dX8_layWitness_122 rfl rfl rfl ?_
                    refine ez_iload (q := 125) dX8_layWitness_123 rfl rfl ?_
                    refine ez_iload (q := 127) dX8_layWitness_125 rfl rfl ?_
                    refine ez_iload (q := 129) dX8_layWitness_127 rfl rfl ?_
                    refine cX0 (q := 132) dX8_layWitness_129 ck_X8_184 hM.1 (t_X8_laySome hM.rb hz ho hk (seW_l _ _ _ _ _ _ _) (by first | exact seW_l _ _ _ _ _ _ _ | exact Nat.two_pow_pos n') hu (by have h9 := (tb_1 _ _).mp hc24; rw [hW, seW_E (show 0 < ln w by omega) hc60] at h9; first | (rw [if_pos hc92] at h9; exact h9) | (rw [if_neg hc92] at h9; exact h9)) (l := []) (RW.nil _) (Nat.zero_le 1)) rfl ⟨by decide, rfl⟩ rfl rfl rfl (Nat.le_of_ble_eq_true rfl) rfl (fun g hW => ?_)
                    obtain ⟨rw1, sp1, r1, hM2, hrw⟩ := hW
                    have hM := hM.tr hM2
                    refine ez_goto (q := 146) dX8_layWitness_132 (by decide) ?_
                    exact ez_vret dX8_layWitness_146 rfl (hQ _ ⟨_, _, _, _, _, _, _, _, _, _, _, hM, hrw⟩)
              · rw [if_pos hc92] at hQ
                refine ez_aload_n (q := 96) 0 dX8_layWitness_95 rfl rfl rfl ?_
                refine ez_getf (q := 99) dX8_layWitness_96 fl_X8_19 hM.1 rfl rfl ?_
                refine ez_iconst (v := nI 2) (q := 100) dX8_layWitness_99 (by decide) rfl ?_
                refine ez_aload_n (q := 101) 0 dX8_layWitness_100 rfl rfl rfl ?_
                refine ez_getf (q := 104) dX8_layWitness_101 fl_X8_25 hM.1 rfl rfl ?_
                refine ez_iconst (v := nI 2) (q := 105) dX8_layWitness_104 (by decide) rfl ?_
                refine ez_iald (q := 106) dX8_layWitness_105 hM.2.2.2.2.2.2.1 rfl (by omega) (by decide) rfl ?_
                refine ez_top (t2.2.2.1) ?_
                refine ez_iaddN (q := 107) dX8_layWitness_106 rfl ?_
                refine ez_iald (q := 108) dX8_layWitness_107 hM.2.2.2.2.1 rfl (by have := (h2u hc92).1; omega) (by decide) rfl ?_
                refine ez_top ((t3 hc92).1) ?_
                refine ez_goto (q := 112) dX8_layWitness_108 (by decide) ?_
                refine ez_istore_7 (q := 114) dX8_layWitness_112 (by decide) rfl rfl ?_
                refine ez_iload (q := 116) dX8_layWitness_114 rfl rfl ?_
                refine ez_bipush (v := nI 69) (q := 118) dX8_layWitness_116 (by decide) rfl ?_
                refine ez_icmpneN (q := 121) (tgt := 135) dX8_layWitness_118 (by decide) (by have := wf_c hwf (show 0 < ln w by omega); omega) (by decide) rfl (fun hc118 => ?_) (fun hc118 => ?_)
                · first
                  | exact absurd hc60 hc118
                  | skip
                    refine ez_aload_n (q := 136) 0 dX8_layWitness_135 rfl rfl rfl ?_
                    refine ez_iload_n (q := 137) 2 dX8_layWitness_136 rfl rfl rfl ?_
                    refine ez_iload (q := 139) dX8_layWitness_137 rfl rfl ?_
                    refine ez_iload (q := 141) dX8_layWitness_139 rfl rfl ?_
                    refine ez_iload (q := 143) dX8_layWitness_141 rfl rfl ?_
                    refine cX0 (q := 146) dX8_layWitness_143 ck_X8_188 hM.1 (t_X8_layAgainst hM.rb hz ho hk hu (by have h9 := fun e => hc24 ((tb_1 _ _).mpr e); rw [hW, seW_A (show 0 < ln w by omega) (by omega)] at h9; first | (rw [if_pos hc92] at h9; exact h9) | (rw [if_neg hc92] at h9; exact h9)) (l := []) (RW.nil _) (Nat.zero_le 1)) rfl ⟨by decide, rfl⟩ rfl rfl rfl (Nat.le_of_ble_eq_true rfl) rfl (fun g hW => ?_)
                    obtain ⟨rw1, sp1, r1, hM2, hrw⟩ := hW
                    have hM := hM.tr hM2
                    exact ez_vret dX8_layWitness_146 rfl (hQ _ ⟨_, _, _, _, _, _, _, _, _, _, _, hM, hrw⟩)
                · first
                  | exact absurd hc118 hc60
                  | skip
                    refine ez_aload_n (q := 122) 0 dX8_layWitness_121 rfl rfl rfl ?_
                    refine ez_iload_n (q := 123) 2 dX8_layWitness_122 rfl rfl rfl ?_
                    refine ez_iload (q := 125) dX8_layWitness_123 rfl rfl ?_
                    refine ez_iload (q := 127) dX8_layWitness_125 rfl rfl ?_
                    refine ez_iload (q := 129) dX8_layWitness_127 rfl rfl ?_
                    refine cX0 (q := 132) dX8_layWitness_129 ck_X8_184 hM.1 (t_X8_laySome hM.rb hz ho hk (seW_l _ _ _ _ _ _ _) (by first | exact seW_l _ _ _ _ _ _ _ | exact Nat.two_pow_pos n') hu (by have h9 := (tb_1 _ _).mp hc24; rw [hW, seW_E (show 0 < ln w by omega) hc60] at h9; first | (rw [if_pos hc92] at h9; exact h9) | (rw [if_neg hc92] at h9; exact h9)) (l := []) (RW.nil _) (Nat.zero_le 1)) rfl ⟨by decide, rfl⟩ rfl rfl rfl (Nat.le_of_ble_eq_true rfl) rfl (fun g hW => ?_)
                    obtain ⟨rw1, sp1, r1, hM2, hrw⟩ := hW
                    have hM := hM.tr hM2
                    refine ez_goto (q := 146) dX8_layWitness_132 (by decide) ?_
                    exact ez_vret dX8_layWitness_146 rfl (hQ _ ⟨_, _, _, _, _, _, _, _, _, _, _, hM, hrw⟩)
          · first
            | exact absurd rfl hc68
            | skip
              exact ez_vret dX8_layWitness_71 rfl (hQ _ ⟨_, _, _, _, _, _, _, _, _, _, _, hM, RW.nil _⟩)
        · rw [if_pos hc60] at hQ
          refine ez_iconst (v := nI 1) (q := 64) dX8_layWitness_63 (by decide) rfl ?_
          refine ez_goto (q := 68) dX8_layWitness_64 (by decide) ?_
          refine ez_icmpeqN (q := 71) (tgt := 72) dX8_layWitness_68 (by decide) (by decide) (by decide) rfl (fun hc68 => ?_) (fun hc68 => ?_)
          · first
            | exact absurd hc68 (by decide)
            | skip
              obtain ⟨hk, h2, h2s, h2u⟩ := wf_ea hwf (show 0 < ln w by omega) hs0 hc
              have t2 := (ht (0 + 2) (by omega) h2).2 ((wf_w hwf h2).trans h2s)
              have t3 := fun e => (ht (0 + 2 + leW (ln w) (sg w) (0 + 2)) (by omega) (h2u e).1).2 ((wf_w hwf (h2u e).1).trans (h2u e).2)
              refine ez_aload_n (q := 73) 0 dX8_layWitness_72 rfl rfl rfl ?_
              refine ez_iload_n (q := 74) 1 dX8_layWitness_73 rfl rfl rfl ?_
              refine ez_iconst (v := nI 1) (q := 75) dX8_layWitness_74 (by decide) rfl ?_
              refine cMv (q := 78) dX8_layWitness_75 ck_X8_91 hM (t_X8_signAt hM.rb hz ho hw (show 1 < ln w by omega)) rfl rfl rfl rfl rfl (Nat.le_of_ble_eq_true rfl) rfl (fun g hM => ?_)
              refine ez_istore_5 (q := 80) dX8_layWitness_78 (by decide) rfl rfl ?_
              refine ez_aload_n (q := 81) 0 dX8_layWitness_80 rfl rfl rfl ?_
              refine ez_getf (q := 84) dX8_layWitness_81 fl_X8_19 hM.1 rfl rfl ?_
              refine ez_iconst (v := nI 2) (q := 85) dX8_layWitness_84 (by decide) rfl ?_
              refine ez_iald (q := 86) dX8_layWitness_85 hM.2.2.2.2.1 rfl (by omega) (by decide) rfl ?_
              refine ez_top (t2.1) ?_
              refine ez_istore_6 (q := 88) dX8_layWitness_86 (by decide) rfl rfl ?_
              refine ez_iload (q := 90) dX8_layWitness_88 rfl rfl ?_
              refine ez_bipush (v := nI 85) (q := 92) dX8_layWitness_90 (by decide) rfl ?_
              refine ez_icmpneN (q := 95) (tgt := 111) dX8_layWitness_92 (by decide) (by have := wf_c hwf (show 1 < ln w by omega); omega) (by decide) rfl (fun hc92 => ?_) (fun hc92 => ?_)
              · rw [if_neg hc92] at hQ
                refine ez_iconst (v := nI 0) (q := 112) dX8_layWitness_111 (by decide) rfl ?_
                refine ez_istore_7 (q := 114) dX8_layWitness_112 (by decide) rfl rfl ?_
                refine ez_iload (q := 116) dX8_layWitness_114 rfl rfl ?_
                refine ez_bipush (v := nI 69) (q := 118) dX8_layWitness_116 (by decide) rfl ?_
                refine ez_icmpneN (q := 121) (tgt := 135) dX8_layWitness_118 (by decide) (by have := wf_c hwf (show 0 < ln w by omega); omega) (by decide) rfl (fun hc118 => ?_) (fun hc118 => ?_)
                · first
                  | exact absurd hc60 hc118
                  | skip
                    refine ez_aload_n (q := 136) 0 dX8_layWitness_135 rfl rfl rfl ?_
                    refine ez_iload_n (q := 137) 2 dX8_layWitness_136 rfl rfl rfl ?_
                    refine ez_iload (q := 139) dX8_layWitness_137 rfl rfl ?_
                    refine ez_iload (q := 141) dX8_layWitness_139 rfl rfl ?_
                    refine ez_iload (q := 143) dX8_layWitness_141 rfl rfl ?_
                    refine cX0 (q := 146) dX8_layWitness_143 ck_X8_188 hM.1 (t_X8_layAgainst hM.rb hz ho hk hu (by have h9 := fun e => hc24 ((tb_1 _ _).mpr e); rw [hW, seW_A (show 0 < ln w by omega) (by omega)] at h9; first | (rw [if_pos hc92] at h9; exact h9) | (rw [if_neg hc92] at h9; exact h9)) (l := []) (RW.nil _) (Nat.zero_le 1)) rfl ⟨by decide, rfl⟩ rfl rfl rfl (Nat.le_of_ble_eq_true rfl) rfl (fun g hW => ?_)
                    obtain ⟨rw1, sp1, r1, hM2, hrw⟩ := hW
                    have hM := hM.tr hM2
                    exact ez_vret dX8_layWitness_146 rfl (hQ _ ⟨_, _, _, _, _, _, _, _, _, _, _, hM, hrw⟩)
                · first
                  | exact absurd hc118 hc60
                  | skip
                    refine ez_aload_n (q := 122) 0 dX8_layWitness_121 rfl rfl rfl ?_
                    refine ez_iload_n (q := 123) 2 dX8_layWitness_122 rfl rfl rfl ?_
                    refine ez_iload (q := 125) dX8_layWitness_123 rfl rfl ?_
                    refine ez_iload (q := 127) dX8_layWitness_125 rfl rfl ?_
                    refine ez_iload (q := 129) dX8_layWitness_127 rfl rfl ?_
                    refine cX0 (q := 132) dX8_layWitness_129 ck_X8_184 hM.1 (t_X8_laySome hM.rb hz ho hk (seW_l _ _ _ _ _ _ _) (by first | exact seW_l _ _ _ _ _ _ _ | exact Nat.two_pow_pos n') hu (by have h9 := (tb_1 _ _).mp hc24; rw [hW, seW_E (show 0 < ln w by omega) hc60] at h9; first | (rw [if_pos hc92] at h9; exact h9) | (rw [if_neg hc92] at h9; exact h9)) (l := []) (RW.nil _) (Nat.zero_le 1)) rfl ⟨by decide, rfl⟩ rfl rfl rfl (Nat.le_of_ble_eq_true rfl) rfl (fun g hW => ?_)
                    obtain ⟨rw1, sp1, r1, hM2, hrw⟩ := hW
                    have hM := hM.tr hM2
                    refine ez_goto (q := 146) dX8_layWitness_132 (by decide) ?_
                    exact ez_vret dX8_layWitness_146 rfl (hQ _ ⟨_, _, _, _, _, _, _, _, _, _, _, hM, hrw⟩)
              · rw [if_pos hc92] at hQ
                refine ez_aload_n (q := 96) 0 dX8_layWitness_95 rfl rfl rfl ?_
                refine ez_getf (q := 99) dX8_layWitness_96 fl_X8_19 hM.1 rfl rfl ?_
                refine ez_iconst (v := nI 2) (q := 100) dX8_layWitness_99 (by decide) rfl ?_
                refine ez_aload_n (q := 101) 0 dX8_layWitness_100 rfl rfl rfl ?_
                refine ez_getf (q := 104) dX8_layWitness_101 fl_X8_25 hM.1 rfl rfl ?_
                refine ez_iconst (v := nI 2) (q := 105) dX8_layWitness_104 (by decide) rfl ?_
                refine ez_iald (q := 106) dX8_layWitness_105 hM.2.2.2.2.2.2.1 rfl (by omega) (by decide) rfl ?_
                refine ez_top (t2.2.2.1) ?_
                refine ez_iaddN (q := 107) dX8_layWitness_106 rfl ?_
                refine ez_iald (q := 108) dX8_layWitness_107 hM.2.2.2.2.1 rfl (by have := (h2u hc92).1; omega) (by decide) rfl ?_
                refine ez_top ((t3 hc92).1) ?_
                refine ez_goto (q := 112) dX8_layWitness_108 (by decide) ?_
                refine ez_istore_7 (q := 114) dX8_layWitness_112 (by decide) rfl rfl ?_
                refine ez_iload (q := 116) dX8_layWitness_114 rfl rfl ?_
                refine ez_bipush (v := nI 69) (q := 118) dX8_layWitness_116 (by decide) rfl ?_
                refine ez_icmpneN (q := 121) (tgt := 135) dX8_layWitness_118 (by decide) (by have := wf_c hwf (show 0 < ln w by omega); omega) (by decide) rfl (fun hc118 => ?_) (fun hc118 => ?_)
                · first
                  | exact absurd hc60 hc118
                  | skip
                    refine ez_aload_n (q := 136) 0 dX8_layWitness_135 rfl rfl rfl ?_
                    refine ez_iload_n (q := 137) 2 dX8_layWitness_136 rfl rfl rfl ?_
                    refine ez_iload (q := 139) dX8_layWitness_137 rfl rfl ?_
                    refine ez_iload (q := 141) dX8_layWitness_139 rfl rfl ?_
                    refine ez_iload (q := 143) dX8_layWitness_141 rfl rfl ?_
                    refine cX0 (q := 146) dX8_layWitness_143 ck_X8_188 hM.1 (t_X8_layAgainst hM.rb hz ho hk hu (by have h9 := fun e => hc24 ((tb_1 _ _).mpr e); rw [hW, seW_A (show 0 < ln w by omega) (by omega)] at h9; first | (rw [if_pos hc92] at h9; exact h9) | (rw [if_neg hc92] at h9; exact h9)) (l := []) (RW.nil _) (Nat.zero_le 1)) rfl ⟨by decide, rfl⟩ rfl rfl rfl (Nat.le_of_ble_eq_true rfl) rfl (fun g hW => ?_)
                    obtain ⟨rw1, sp1, r1, hM2, hrw⟩ := hW
                    have hM := hM.tr hM2
                    exact ez_vret dX8_layWitness_146 rfl (hQ _ ⟨_, _, _, _, _, _, _, _, _, _, _, hM, hrw⟩)
                · first
                  | exact absurd hc118 hc60
                  | skip
                    refine ez_aload_n (q := 122) 0 dX8_layWitness_121 rfl rfl rfl ?_
                    refine ez_iload_n (q := 123) 2 dX8_layWitness_122 rfl rfl rfl ?_
                    refine ez_iload (q := 125) dX8_layWitness_123 rfl rfl ?_
                    refine ez_iload (q := 127) dX8_layWitness_125 rfl rfl ?_
                    refine ez_iload (q := 129) dX8_layWitness_127 rfl rfl ?_
                    refine cX0 (q := 132) dX8_layWitness_129 ck_X8_184 hM.1 (t_X8_laySome hM.rb hz ho hk (seW_l _ _ _ _ _ _ _) (by first | exact seW_l _ _ _ _ _ _ _ | exact Nat.two_pow_pos n') hu (by have h9 := (tb_1 _ _).mp hc24; rw [hW, seW_E (show 0 < ln w by omega) hc60] at h9; first | (rw [if_pos hc92] at h9; exact h9) | (rw [if_neg hc92] at h9; exact h9)) (l := []) (RW.nil _) (Nat.zero_le 1)) rfl ⟨by decide, rfl⟩ rfl rfl rfl (Nat.le_of_ble_eq_true rfl) rfl (fun g hW => ?_)
                    obtain ⟨rw1, sp1, r1, hM2, hrw⟩ := hW
                    have hM := hM.tr hM2
                    refine ez_goto (q := 146) dX8_layWitness_132 (by decide) ?_
                    exact ez_vret dX8_layWitness_146 rfl (hQ _ ⟨_, _, _, _, _, _, _, _, _, _, _, hM, hrw⟩)
          · first
            | exact absurd rfl hc68
            | skip
              exact ez_vret dX8_layWitness_71 rfl (hQ _ ⟨_, _, _, _, _, _, _, _, _, _, _, hM, RW.nil _⟩)
      · refine ez_iload (q := 50) dX8_layWitness_48 rfl rfl ?_
        refine ez_bipush (v := nI 65) (q := 52) dX8_layWitness_50 (by decide) rfl ?_
        refine ez_icmpneN (q := 55) (tgt := 71) dX8_layWitness_52 (by decide) (by have := wf_c hwf (show 0 < ln w by omega); omega) (by decide) rfl (fun hc52 => ?_) (fun hc52 => ?_)
        · rw [if_neg (by omega)] at hQ
          exact ez_vret dX8_layWitness_71 rfl (hQ _ ⟨_, _, _, _, _, _, _, _, _, _, _, hM, RW.nil _⟩)
        · have hc := Or.inr (a := sg w 0 = 69) hc52
          rw [if_pos hc] at hQ
          refine ez_iload_n (q := 56) 3 dX8_layWitness_55 rfl rfl rfl ?_
          refine ez_iload (q := 58) dX8_layWitness_56 rfl rfl ?_
          refine ez_bipush (v := nI 69) (q := 60) dX8_layWitness_58 (by decide) rfl ?_
          refine ez_icmpneN (q := 63) (tgt := 67) dX8_layWitness_60 (by decide) (by have := wf_c hwf (show 0 < ln w by omega); omega) (by decide) rfl (fun hc60 => ?_) (fun hc60 => ?_)
          · rw [if_neg hc60] at hQ
            refine ez_iconst (v := nI 0) (q := 68) dX8_layWitness_67 (by decide) rfl ?_
            refine ez_icmpeqN (q := 71) (tgt := 72) dX8_layWitness_68 (by decide) (by decide) (by decide) rfl (fun hc68 => ?_) (fun hc68 => ?_)
            · first
              | exact absurd hc68 (by decide)
              | skip
                obtain ⟨hk, h2, h2s, h2u⟩ := wf_ea hwf (show 0 < ln w by omega) hs0 hc
                have t2 := (ht (0 + 2) (by omega) h2).2 ((wf_w hwf h2).trans h2s)
                have t3 := fun e => (ht (0 + 2 + leW (ln w) (sg w) (0 + 2)) (by omega) (h2u e).1).2 ((wf_w hwf (h2u e).1).trans (h2u e).2)
                refine ez_aload_n (q := 73) 0 dX8_layWitness_72 rfl rfl rfl ?_
                refine ez_iload_n (q := 74) 1 dX8_layWitness_73 rfl rfl rfl ?_
                refine ez_iconst (v := nI 1) (q := 75) dX8_layWitness_74 (by decide) rfl ?_
                refine cMv (q := 78) dX8_layWitness_75 ck_X8_91 hM (t_X8_signAt hM.rb hz ho hw (show 1 < ln w by omega)) rfl rfl rfl rfl rfl (Nat.le_of_ble_eq_true rfl) rfl (fun g hM => ?_)
                refine ez_istore_5 (q := 80) dX8_layWitness_78 (by decide) rfl rfl ?_
                refine ez_aload_n (q := 81) 0 dX8_layWitness_80 rfl rfl rfl ?_
                refine ez_getf (q := 84) dX8_layWitness_81 fl_X8_19 hM.1 rfl rfl ?_
                refine ez_iconst (v := nI 2) (q := 85) dX8_layWitness_84 (by decide) rfl ?_
                refine ez_iald (q := 86) dX8_layWitness_85 hM.2.2.2.2.1 rfl (by omega) (by decide) rfl ?_
                refine ez_top (t2.1) ?_
                refine ez_istore_6 (q := 88) dX8_layWitness_86 (by decide) rfl rfl ?_
                refine ez_iload (q := 90) dX8_layWitness_88 rfl rfl ?_
                refine ez_bipush (v := nI 85) (q := 92) dX8_layWitness_90 (by decide) rfl ?_
                refine ez_icmpneN (q := 95) (tgt := 111) dX8_layWitness_92 (by decide) (by have := wf_c hwf (show 1 < ln w by omega); omega) (by decide) rfl (fun hc92 => ?_) (fun hc92 => ?_)
                · rw [if_neg hc92] at hQ
                  refine ez_iconst (v := nI 0) (q := 112) dX8_layWitness_111 (by decide) rfl ?_
                  refine ez_istore_7 (q := 114) dX8_layWitness_112 (by decide) rfl rfl ?_
                  refine ez_iload (q := 116) dX8_layWitness_114 rfl rfl ?_
                  refine ez_bipush (v := nI 69) (q := 118) dX8_layWitness_116 (by decide) rfl ?_
                  refine ez_icmpneN (q := 121) (tgt := 135) dX8_layWitness_118 (by decide) (by have := wf_c hwf (show 0 < ln w by omega); omega) (by decide) rfl (fun hc118 => ?_) (fun hc118 => ?_)
                  · first
                    | exact absurd hc60 hc118
                    | skip
                      refine ez_aload_n (q := 136) 0 dX8_layWitness_135 rfl rfl rfl ?_
                      refine ez_iload_n (q := 137) 2 dX8_layWitness_136 rfl rfl rfl ?_
                      refine ez_iload (q := 139) dX8_layWitness_137 rfl rfl ?_
                      refine ez_iload (q := 141) dX8_layWitness_139 rfl rfl ?_
                      refine ez_iload (q := 143) dX8_layWitness_141 rfl rfl ?_
                      refine cX0 (q := 146) dX8_layWitness_143 ck_X8_188 hM.1 (t_X8_layAgainst hM.rb hz ho hk hu (by have h9 := fun e => hc24 ((tb_1 _ _).mpr e); rw [hW, seW_A (show 0 < ln w by omega) (by omega)] at h9; first | (rw [if_pos hc92] at h9; exact h9) | (rw [if_neg hc92] at h9; exact h9)) (l := []) (RW.nil _) (Nat.zero_le 1)) rfl ⟨by decide, rfl⟩ rfl rfl rfl (Nat.le_of_ble_eq_true rfl) rfl (fun g hW => ?_)
                      obtain ⟨rw1, sp1, r1, hM2, hrw⟩ := hW
                      have hM := hM.tr hM2
                      exact ez_vret dX8_layWitness_146 rfl (hQ _ ⟨_, _, _, _, _, _, _, _, _, _, _, hM, hrw⟩)
                  · first
                    | exact absurd hc118 hc60
                    | skip
                      refine ez_aload_n (q := 122) 0 dX8_layWitness_121 rfl rfl rfl ?_
                      refine ez_iload_n (q := 123) 2 dX8_layWitness_122 rfl rfl rfl ?_
                      refine ez_iload (q := 125) dX8_layWitness_123 rfl rfl ?_
                      refine ez_iload (q := 127) dX8_layWitness_125 rfl rfl ?_
                      refine ez_iload (q := 129) dX8_layWitness_127 rfl rfl ?_
                      refine cX0 (q := 132) dX8_layWitness_129 ck_X8_184 hM.1 (t_X8_laySome hM.rb hz ho hk (seW_l _ _ _ _ _ _ _) (by first | exact seW_l _ _ _ _ _ _ _ | exact Nat.two_pow_pos n') hu (by have h9 := (tb_1 _ _).mp hc24; rw [hW, seW_E (show 0 < ln w by omega) hc60] at h9; first | (rw [if_pos hc92] at h9; exact h9) | (rw [if_neg hc92] at h9; exact h9)) (l := []) (RW.nil _) (Nat.zero_le 1)) rfl ⟨by decide, rfl⟩ rfl rfl rfl (Nat.le_of_ble_eq_true rfl) rfl (fun g hW => ?_)
                      obtain ⟨rw1, sp1, r1, hM2, hrw⟩ := hW
                      have hM := hM.tr hM2
                      refine ez_goto (q := 146) dX8_layWitness_132 (by decide) ?_
                      exact ez_vret dX8_layWitness_146 rfl (hQ _ ⟨_, _, _, _, _, _, _, _, _, _, _, hM, hrw⟩)
                · rw [if_pos hc92] at hQ
                  refine ez_aload_n (q := 96) 0 dX8_layWitness_95 rfl rfl rfl ?_
                  refine ez_getf (q := 99) dX8_layWitness_96 fl_X8_19 hM.1 rfl rfl ?_
                  refine ez_iconst (v := nI 2) (q := 100) dX8_layWitness_99 (by decide) rfl ?_
                  refine ez_aload_n (q := 101) 0 dX8_layWitness_100 rfl rfl rfl ?_
                  refine ez_getf (q := 104) dX8_layWitness_101 fl_X8_25 hM.1 rfl rfl ?_
                  refine ez_iconst (v := nI 2) (q := 105) dX8_layWitness_104 (by decide) rfl ?_
                  refine ez_iald (q := 106) dX8_layWitness_105 hM.2.2.2.2.2.2.1 rfl (by omega) (by decide) rfl ?_
                  refine ez_top (t2.2.2.1) ?_
                  refine ez_iaddN (q := 107) dX8_layWitness_106 rfl ?_
                  refine ez_iald (q := 108) dX8_layWitness_107 hM.2.2.2.2.1 rfl (by have := (h2u hc92).1; omega) (by decide) rfl ?_
                  refine ez_top ((t3 hc92).1) ?_
                  refine ez_goto (q := 112) dX8_layWitness_108 (by decide) ?_
                  refine ez_istore_7 (q := 114) dX8_layWitness_112 (by decide) rfl rfl ?_
                  refine ez_iload (q := 116) dX8_layWitness_114 rfl rfl ?_
                  refine ez_bipush (v := nI 69) (q := 118) dX8_layWitness_116 (by decide) rfl ?_
                  refine ez_icmpneN (q := 121) (tgt := 135) dX8_layWitness_118 (by decide) (by have := wf_c hwf (show 0 < ln w by omega); omega) (by decide) rfl (fun hc118 => ?_) (fun hc118 => ?_)
                  · first
                    | exact absurd hc60 hc118
                    | skip
                      refine ez_aload_n (q := 136) 0 dX8_layWitness_135 rfl rfl rfl ?_
                      refine ez_iload_n (q := 137) 2 dX8_layWitness_136 rfl rfl rfl ?_
                      refine ez_iload (q := 139) dX8_layWitness_137 rfl rfl ?_
                      refine ez_iload (q := 141) dX8_layWitness_139 rfl rfl ?_
                      refine ez_iload (q := 143) dX8_layWitness_141 rfl rfl ?_
                      refine cX0 (q := 146) dX8_layWitness_143 ck_X8_188 hM.1 (t_X8_layAgainst hM.rb hz ho hk hu (by have h9 := fun e => hc24 ((tb_1 _ _).mpr e); rw [hW, seW_A (show 0 < ln w by omega) (by omega)] at h9; first | (rw [if_pos hc92] at h9; exact h9) | (rw [if_neg hc92] at h9; exact h9)) (l := []) (RW.nil _) (Nat.zero_le 1)) rfl ⟨by decide, rfl⟩ rfl rfl rfl (Nat.le_of_ble_eq_true rfl) rfl (fun g hW => ?_)
                      obtain ⟨rw1, sp1, r1, hM2, hrw⟩ := hW
                      have hM := hM.tr hM2
                      exact ez_vret dX8_layWitness_146 rfl (hQ _ ⟨_, _, _, _, _, _, _, _, _, _, _, hM, hrw⟩)
                  · first
                    | exact absurd hc118 hc60
                    | skip
                      refine ez_aload_n (q := 122) 0 dX8_layWitness_121 rfl rfl rfl ?_
                      refine ez_iload_n (q := 123) 2 dX8_layWitness_122 rfl rfl rfl ?_
                      refine ez_iload (q := 125) dX8_layWitness_123 rfl rfl ?_
                      refine ez_iload (q := 127) dX8_layWitness_125 rfl rfl ?_
                      refine ez_iload (q := 129) dX8_layWitness_127 rfl rfl ?_
                      refine cX0 (q := 132) dX8_layWitness_129 ck_X8_184 hM.1 (t_X8_laySome hM.rb hz ho hk (seW_l _ _ _ _ _ _ _) (by first | exact seW_l _ _ _ _ _ _ _ | exact Nat.two_pow_pos n') hu (by have h9 := (tb_1 _ _).mp hc24; rw [hW, seW_E (show 0 < ln w by omega) hc60] at h9; first | (rw [if_pos hc92] at h9; exact h9) | (rw [if_neg hc92] at h9; exact h9)) (l := []) (RW.nil _) (Nat.zero_le 1)) rfl ⟨by decide, rfl⟩ rfl rfl rfl (Nat.le_of_ble_eq_true rfl) rfl (fun g hW => ?_)
                      obtain ⟨rw1, sp1, r1, hM2, hrw⟩ := hW
                      have hM := hM.tr hM2
                      refine ez_goto (q := 146) dX8_layWitness_132 (by decide) ?_
                      exact ez_vret dX8_layWitness_146 rfl (hQ _ ⟨_, _, _, _, _, _, _, _, _, _, _, hM, hrw⟩)
            · first
              | exact absurd rfl hc68
              | skip
                exact ez_vret dX8_layWitness_71 rfl (hQ _ ⟨_, _, _, _, _, _, _, _, _, _, _, hM, RW.nil _⟩)
          · rw [if_pos hc60] at hQ
            refine ez_iconst (v := nI 1) (q := 64) dX8_layWitness_63 (by decide) rfl ?_
            refine ez_goto (q := 68) dX8_layWitness_64 (by decide) ?_
            refine ez_icmpeqN (q := 71) (tgt := 72) dX8_layWitness_68 (by decide) (by decide) (by decide) rfl (fun hc68 => ?_) (fun hc68 => ?_)
            · first
              | exact absurd hc68 (by decide)
              | skip
                obtain ⟨hk, h2, h2s, h2u⟩ := wf_ea hwf (show 0 < ln w by omega) hs0 hc
                have t2 := (ht (0 + 2) (by omega) h2).2 ((wf_w hwf h2).trans h2s)
                have t3 := fun e => (ht (0 + 2 + leW (ln w) (sg w) (0 + 2)) (by omega) (h2u e).1).2 ((wf_w hwf (h2u e).1).trans (h2u e).2)
                refine ez_aload_n (q := 73) 0 dX8_layWitness_72 rfl rfl rfl ?_
                refine ez_iload_n (q := 74) 1 dX8_layWitness_73 rfl rfl rfl ?_
                refine ez_iconst (v := nI 1) (q := 75) dX8_layWitness_74 (by decide) rfl ?_
                refine cMv (q := 78) dX8_layWitness_75 ck_X8_91 hM (t_X8_signAt hM.rb hz ho hw (show 1 < ln w by omega)) rfl rfl rfl rfl rfl (Nat.le_of_ble_eq_true rfl) rfl (fun g hM => ?_)
                refine ez_istore_5 (q := 80) dX8_layWitness_78 (by decide) rfl rfl ?_
                refine ez_aload_n (q := 81) 0 dX8_layWitness_80 rfl rfl rfl ?_
                refine ez_getf (q := 84) dX8_layWitness_81 fl_X8_19 hM.1 rfl rfl ?_
                refine ez_iconst (v := nI 2) (q := 85) dX8_layWitness_84 (by decide) rfl ?_
                refine ez_iald (q := 86) dX8_layWitness_85 hM.2.2.2.2.1 rfl (by omega) (by decide) rfl ?_
                refine ez_top (t2.1) ?_
                refine ez_istore_6 (q := 88) dX8_layWitness_86 (by decide) rfl rfl ?_
                refine ez_iload (q := 90) dX8_layWitness_88 rfl rfl ?_
                refine ez_bipush (v := nI 85) (q := 92) dX8_layWitness_90 (by decide) rfl ?_
                refine ez_icmpneN (q := 95) (tgt := 111) dX8_layWitness_92 (by decide) (by have := wf_c hwf (show 1 < ln w by omega); omega) (by decide) rfl (fun hc92 => ?_) (fun hc92 => ?_)
                · rw [if_neg hc92] at hQ
                  refine ez_iconst (v := nI 0) (q := 112) dX8_layWitness_111 (by decide) rfl ?_
                  refine ez_istore_7 (q := 114) dX8_layWitness_112 (by decide) rfl rfl ?_
                  refine ez_iload (q := 116) dX8_layWitness_114 rfl rfl ?_
                  refine ez_bipush (v := nI 69) (q := 118) dX8_layWitness_116 (by decide) rfl ?_
                  refine ez_icmpneN (q := 121) (tgt := 135) dX8_layWitness_118 (by decide) (by have := wf_c hwf (show 0 < ln w by omega); omega) (by decide) rfl (fun hc118 => ?_) (fun hc118 => ?_)
                  · first
                    | exact absurd hc60 hc118
                    | skip
                      refine ez_aload_n (q := 136) 0 dX8_layWitness_135 rfl rfl rfl ?_
                      refine ez_iload_n (q := 137) 2 dX8_layWitness_136 rfl rfl rfl ?_
                      refine ez_iload (q := 139) dX8_layWitness_137 rfl rfl ?_
                      refine ez_iload (q := 141) dX8_layWitness_139 rfl rfl ?_
                      refine ez_iload (q := 143) dX8_layWitness_141 rfl rfl ?_
                      refine cX0 (q := 146) dX8_layWitness_143 ck_X8_188 hM.1 (t_X8_layAgainst hM.rb hz ho hk hu (by have h9 := fun e => hc24 ((tb_1 _ _).mpr e); rw [hW, seW_A (show 0 < ln w by omega) (by omega)] at h9; first | (rw [if_pos hc92] at h9; exact h9) | (rw [if_neg hc92] at h9; exact h9)) (l := []) (RW.nil _) (Nat.zero_le 1)) rfl ⟨by decide, rfl⟩ rfl rfl rfl (Nat.le_of_ble_eq_true rfl) rfl (fun g hW => ?_)
                      obtain ⟨rw1, sp1, r1, hM2, hrw⟩ := hW
                      have hM := hM.tr hM2
                      exact ez_vret dX8_layWitness_146 rfl (hQ _ ⟨_, _, _, _, _, _, _, _, _, _, _, hM, hrw⟩)
                  · first
                    | exact absurd hc118 hc60
                    | skip
                      refine ez_aload_n (q := 122) 0 dX8_layWitness_121 rfl rfl rfl ?_
                      refine ez_iload_n (q := 123) 2 dX8_layWitness_122 rfl rfl rfl ?_
                      refine ez_iload (q := 125) dX8_layWitness_123 rfl rfl ?_
                      refine ez_iload (q := 127) dX8_layWitness_125 rfl rfl ?_
                      refine ez_iload (q := 129) dX8_layWitness_127 rfl rfl ?_
                      refine cX0 (q := 132) dX8_layWitness_129 ck_X8_184 hM.1 (t_X8_laySome hM.rb hz ho hk (seW_l _ _ _ _ _ _ _) (by first | exact seW_l _ _ _ _ _ _ _ | exact Nat.two_pow_pos n') hu (by have h9 := (tb_1 _ _).mp hc24; rw [hW, seW_E (show 0 < ln w by omega) hc60] at h9; first | (rw [if_pos hc92] at h9; exact h9) | (rw [if_neg hc92] at h9; exact h9)) (l := []) (RW.nil _) (Nat.zero_le 1)) rfl ⟨by decide, rfl⟩ rfl rfl rfl (Nat.le_of_ble_eq_true rfl) rfl (fun g hW => ?_)
                      obtain ⟨rw1, sp1, r1, hM2, hrw⟩ := hW
                      have hM := hM.tr hM2
                      refine ez_goto (q := 146) dX8_layWitness_132 (by decide) ?_
                      exact ez_vret dX8_layWitness_146 rfl (hQ _ ⟨_, _, _, _, _, _, _, _, _, _, _, hM, hrw⟩)
                · rw [if_pos hc92] at hQ
                  refine ez_aload_n (q := 96) 0 dX8_layWitness_95 rfl rfl rfl ?_
                  refine ez_getf (q := 99) dX8_layWitness_96 fl_X8_19 hM.1 rfl rfl ?_
                  refine ez_iconst (v := nI 2) (q := 100) dX8_layWitness_99 (by decide) rfl ?_
                  refine ez_aload_n (q := 101) 0 dX8_layWitness_100 rfl rfl rfl ?_
                  refine ez_getf (q := 104) dX8_layWitness_101 fl_X8_25 hM.1 rfl rfl ?_
                  refine ez_iconst (v := nI 2) (q := 105) dX8_layWitness_104 (by decide) rfl ?_
                  refine ez_iald (q := 106) dX8_layWitness_105 hM.2.2.2.2.2.2.1 rfl (by omega) (by decide) rfl ?_
                  refine ez_top (t2.2.2.1) ?_
                  refine ez_iaddN (q := 107) dX8_layWitness_106 rfl ?_
                  refine ez_iald (q := 108) dX8_layWitness_107 hM.2.2.2.2.1 rfl (by have := (h2u hc92).1; omega) (by decide) rfl ?_
                  refine ez_top ((t3 hc92).1) ?_
                  refine ez_goto (q := 112) dX8_layWitness_108 (by decide) ?_
                  refine ez_istore_7 (q := 114) dX8_layWitness_112 (by decide) rfl rfl ?_
                  refine ez_iload (q := 116) dX8_layWitness_114 rfl rfl ?_
                  refine ez_bipush (v := nI 69) (q := 118) dX8_layWitness_116 (by decide) rfl ?_
                  refine ez_icmpneN (q := 121) (tgt := 135) dX8_layWitness_118 (by decide) (by have := wf_c hwf (show 0 < ln w by omega); omega) (by decide) rfl (fun hc118 => ?_) (fun hc118 => ?_)
                  · first
                    | exact absurd hc60 hc118
                    | skip
                      refine ez_aload_n (q := 136) 0 dX8_layWitness_135 rfl rfl rfl ?_
                      refine ez_iload_n (q := 137) 2 dX8_layWitness_136 rfl rfl rfl ?_
                      refine ez_iload (q := 139) dX8_layWitness_137 rfl rfl ?_
                      refine ez_iload (q := 141) dX8_layWitness_139 rfl rfl ?_
                      refine ez_iload (q := 143) dX8_layWitness_141 rfl rfl ?_
                      refine cX0 (q := 146) dX8_layWitness_143 ck_X8_188 hM.1 (t_X8_layAgainst hM.rb hz ho hk hu (by have h9 := fun e => hc24 ((tb_1 _ _).mpr e); rw [hW, seW_A (show 0 < ln w by omega) (by omega)] at h9; first | (rw [if_pos hc92] at h9; exact h9) | (rw [if_neg hc92] at h9; exact h9)) (l := []) (RW.nil _) (Nat.zero_le 1)) rfl ⟨by decide, rfl⟩ rfl rfl rfl (Nat.le_of_ble_eq_true rfl) rfl (fun g hW => ?_)
                      obtain ⟨rw1, sp1, r1, hM2, hrw⟩ := hW
                      have hM := hM.tr hM2
                      exact ez_vret dX8_layWitness_146 rfl (hQ _ ⟨_, _, _, _, _, _, _, _, _, _, _, hM, hrw⟩)
                  · first
                    | exact absurd hc118 hc60
                    | skip
                      refine ez_aload_n (q := 122) 0 dX8_layWitness_121 rfl rfl rfl ?_
                      refine ez_iload_n (q := 123) 2 dX8_layWitness_122 rfl rfl rfl ?_
                      refine ez_iload (q := 125) dX8_layWitness_123 rfl rfl ?_
                      refine ez_iload (q := 127) dX8_layWitness_125 rfl rfl ?_
                      refine ez_iload (q := 129) dX8_layWitness_127 rfl rfl ?_
                      refine cX0 (q := 132) dX8_layWitness_129 ck_X8_184 hM.1 (t_X8_laySome hM.rb hz ho hk (seW_l _ _ _ _ _ _ _) (by first | exact seW_l _ _ _ _ _ _ _ | exact Nat.two_pow_pos n') hu (by have h9 := (tb_1 _ _).mp hc24; rw [hW, seW_E (show 0 < ln w by omega) hc60] at h9; first | (rw [if_pos hc92] at h9; exact h9) | (rw [if_neg hc92] at h9; exact h9)) (l := []) (RW.nil _) (Nat.zero_le 1)) rfl ⟨by decide, rfl⟩ rfl rfl rfl (Nat.le_of_ble_eq_true rfl) rfl (fun g hW => ?_)
                      obtain ⟨rw1, sp1, r1, hM2, hrw⟩ := hW
                      have hM := hM.tr hM2
                      refine ez_goto (q := 146) dX8_layWitness_132 (by decide) ?_
                      exact ez_vret dX8_layWitness_146 rfl (hQ _ ⟨_, _, _, _, _, _, _, _, _, _, _, hM, hrw⟩)
            · first
              | exact absurd rfl hc68
              | skip
                exact ez_vret dX8_layWitness_71 rfl (hQ _ ⟨_, _, _, _, _, _, _, _, _, _, _, hM, RW.nil _⟩)
    · rw [if_pos hc24] at hQ
      refine ez_iconst (v := nI 1) (q := 28) dX8_layWitness_27 (by decide) rfl ?_
      refine ez_goto (q := 32) dX8_layWitness_28 (by decide) ?_
      refine ez_istore_3 (q := 33) dX8_layWitness_32 rfl (by decide) rfl rfl ?_
      refine ez_aload_n (q := 34) 0 dX8_layWitness_33 rfl rfl rfl ?_
      refine ez_iload_n (q := 35) 1 dX8_layWitness_34 rfl rfl rfl ?_
      refine ez_iconst (v := nI 0) (q := 36) dX8_layWitness_35 (by decide) rfl ?_
      refine cMv (q := 39) dX8_layWitness_36 ck_X8_91 hM (t_X8_signAt hM.rb hz ho hw (show 0 < ln w by omega)) rfl rfl rfl rfl rfl (Nat.le_of_ble_eq_true rfl) rfl (fun g hM => ?_)
      refine ez_istore_4 (q := 41) dX8_layWitness_39 (by decide) rfl rfl ?_
      refine ez_iload (q := 43) dX8_layWitness_41 rfl rfl ?_
      refine ez_bipush (v := nI 69) (q := 45) dX8_layWitness_43 (by decide) rfl ?_
      refine ez_icmpeqN (q := 48) (tgt := 55) dX8_layWitness_45 (by decide) (by have := wf_c hwf (show 0 < ln w by omega); omega) (by decide) rfl (fun hc45 => ?_) (fun hc45 => ?_)
      · have hc := Or.inl (b := sg w 0 = 65) hc45
        rw [if_pos hc] at hQ
        refine ez_iload_n (q := 56) 3 dX8_layWitness_55 rfl rfl rfl ?_
        refine ez_iload (q := 58) dX8_layWitness_56 rfl rfl ?_
        refine ez_bipush (v := nI 69) (q := 60) dX8_layWitness_58 (by decide) rfl ?_
        refine ez_icmpneN (q := 63) (tgt := 67) dX8_layWitness_60 (by decide) (by have := wf_c hwf (show 0 < ln w by omega); omega) (by decide) rfl (fun hc60 => ?_) (fun hc60 => ?_)
        · rw [if_neg hc60] at hQ
          refine ez_iconst (v := nI 0) (q := 68) dX8_layWitness_67 (by decide) rfl ?_
          refine ez_icmpeqN (q := 71) (tgt := 72) dX8_layWitness_68 (by decide) (by decide) (by decide) rfl (fun hc68 => ?_) (fun hc68 => ?_)
          · first
            | exact absurd hc68 (by decide)
            | skip
              obtain ⟨hk, h2, h2s, h2u⟩ := wf_ea hwf (show 0 < ln w by omega) hs0 hc
              have t2 := (ht (0 + 2) (by omega) h2).2 ((wf_w hwf h2).trans h2s)
              have t3 := fun e => (ht (0 + 2 + leW (ln w) (sg w) (0 + 2)) (by omega) (h2u e).1).2 ((wf_w hwf (h2u e).1).trans (h2u e).2)
              refine ez_aload_n (q := 73) 0 dX8_layWitness_72 rfl rfl rfl ?_
              refine ez_iload_n (q := 74) 1 dX8_layWitness_73 rfl rfl rfl ?_
              refine ez_iconst (v := nI 1) (q := 75) dX8_layWitness_74 (by decide) rfl ?_
              refine cMv (q := 78) dX8_layWitness_75 ck_X8_91 hM (t_X8_signAt hM.rb hz ho hw (show 1 < ln w by omega)) rfl rfl rfl rfl rfl (Nat.le_of_ble_eq_true rfl) rfl (fun g hM => ?_)
              refine ez_istore_5 (q := 80) dX8_layWitness_78 (by decide) rfl rfl ?_
              refine ez_aload_n (q := 81) 0 dX8_layWitness_80 rfl rfl rfl ?_
              refine ez_getf (q := 84) dX8_layWitness_81 fl_X8_19 hM.1 rfl rfl ?_
              refine ez_iconst (v := nI 2) (q := 85) dX8_layWitness_84 (by decide) rfl ?_
              refine ez_iald (q := 86) dX8_layWitness_85 hM.2.2.2.2.1 rfl (by omega) (by decide) rfl ?_
              refine ez_top (t2.1) ?_
              refine ez_istore_6 (q := 88) dX8_layWitness_86 (by decide) rfl rfl ?_
              refine ez_iload (q := 90) dX8_layWitness_88 rfl rfl ?_
              refine ez_bipush (v := nI 85) (q := 92) dX8_layWitness_90 (by decide) rfl ?_
              refine ez_icmpneN (q := 95) (tgt := 111) dX8_layWitness_92 (by decide) (by have := wf_c hwf (show 1 < ln w by omega); omega) (by decide) rfl (fun hc92 => ?_) (fun hc92 => ?_)
              · rw [if_neg hc92] at hQ
                refine ez_iconst (v := nI 0) (q := 112) dX8_layWitness_111 (by decide) rfl ?_
                refine ez_istore_7 (q := 114) dX8_layWitness_112 (by decide) rfl rfl ?_
                refine ez_iload (q := 116) dX8_layWitness_114 rfl rfl ?_
                refine ez_bipush (v := nI 69) (q := 118) dX8_layWitness_116 (by decide) rfl ?_
                refine ez_icmpneN (q := 121) (tgt := 135) dX8_layWitness_118 (by decide) (by have := wf_c hwf (show 0 < ln w by omega); omega) (by decide) rfl (fun hc118 => ?_) (fun hc118 => ?_)
                · first
                  | exact absurd hc60 hc118
                  | skip
                    refine ez_aload_n (q := 136) 0 dX8_layWitness_135 rfl rfl rfl ?_
                    refine ez_iload_n (q := 137) 2 dX8_layWitness_136 rfl rfl rfl ?_
                    refine ez_iload (q := 139) dX8_layWitness_137 rfl rfl ?_
                    refine ez_iload (q := 141) dX8_layWitness_139 rfl rfl ?_
                    refine ez_iload (q := 143) dX8_layWitness_141 rfl rfl ?_
                    refine cX0 (q := 146) dX8_layWitness_143 ck_X8_188 hM.1 (t_X8_layAgainst hM.rb hz ho hk hu (by have h9 := fun e => hc24 ((tb_1 _ _).mpr e); rw [hW, seW_A (show 0 < ln w by omega) (by omega)] at h9; first | (rw [if_pos hc92] at h9; exact h9) | (rw [if_neg hc92] at h9; exact h9)) (l := []) (RW.nil _) (Nat.zero_le 1)) rfl ⟨by decide, rfl⟩ rfl rfl rfl (Nat.le_of_ble_eq_true rfl) rfl (fun g hW => ?_)
                    obtain ⟨rw1, sp1, r1, hM2, hrw⟩ := hW
                    have hM := hM.tr hM2
                    exact ez_vret dX8_layWitness_146 rfl (hQ _ ⟨_, _, _, _, _, _, _, _, _, _, _, hM, hrw⟩)
                · first
                  | exact absurd hc118 hc60
                  | skip
                    refine ez_aload_n (q := 122) 0 dX8_layWitness_121 rfl rfl rfl ?_
                    refine ez_iload_n (q := 123) 2 dX8_layWitness_122 rfl rfl rfl ?_
                    refine ez_iload (q := 125) dX8_layWitness_123 rfl rfl ?_
                    refine ez_iload (q := 127) dX8_layWitness_125 rfl rfl ?_
                    refine ez_iload (q := 129) dX8_layWitness_127 rfl rfl ?_
                    refine cX0 (q := 132) dX8_layWitness_129 ck_X8_184 hM.1 (t_X8_laySome hM.rb hz ho hk (seW_l _ _ _ _ _ _ _) (by first | exact seW_l _ _ _ _ _ _ _ | exact Nat.two_pow_pos n') hu (by have h9 := (tb_1 _ _).mp hc24; rw [hW, seW_E (show 0 < ln w by omega) hc60] at h9; first | (rw [if_pos hc92] at h9; exact h9) | (rw [if_neg hc92] at h9; exact h9)) (l := []) (RW.nil _) (Nat.zero_le 1)) rfl ⟨by decide, rfl⟩ rfl rfl rfl (Nat.le_of_ble_eq_true rfl) rfl (fun g hW => ?_)
                    obtain ⟨rw1, sp1, r1, hM2, hrw⟩ := hW
                    have hM := hM.tr hM2
                    refine ez_goto (q := 146) dX8_layWitness_132 (by decide) ?_
                    exact ez_vret dX8_layWitness_146 rfl (hQ _ ⟨_, _, _, _, _, _, _, _, _, _, _, hM, hrw⟩)
              · rw [if_pos hc92] at hQ
                refine ez_aload_n (q := 96) 0 dX8_layWitness_95 rfl rfl rfl ?_
                refine ez_getf (q := 99) dX8_layWitness_96 fl_X8_19 hM.1 rfl rfl ?_
                refine ez_iconst (v := nI 2) (q := 100) dX8_layWitness_99 (by decide) rfl ?_
                refine ez_aload_n (q := 101) 0 dX8_layWitness_100 rfl rfl rfl ?_
                refine ez_getf (q := 104) dX8_layWitness_101 fl_X8_25 hM.1 rfl rfl ?_
                refine ez_iconst (v := nI 2) (q := 105) dX8_layWitness_104 (by decide) rfl ?_
                refine ez_iald (q := 106) dX8_layWitness_105 hM.2.2.2.2.2.2.1 rfl (by omega) (by decide) rfl ?_
                refine ez_top (t2.2.2.1) ?_
                refine ez_iaddN (q := 107) dX8_layWitness_106 rfl ?_
                refine ez_iald (q := 108) dX8_layWitness_107 hM.2.2.2.2.1 rfl (by have := (h2u hc92).1; omega) (by decide) rfl ?_
                refine ez_top ((t3 hc92).1) ?_
                refine ez_goto (q := 112) dX8_layWitness_108 (by decide) ?_
                refine ez_istore_7 (q := 114) dX8_layWitness_112 (by decide) rfl rfl ?_
                refine ez_iload (q := 116) dX8_layWitness_114 rfl rfl ?_
                refine ez_bipush (v := nI 69) (q := 118) dX8_layWitness_116 (by decide) rfl ?_
                refine ez_icmpneN (q := 121) (tgt := 135) dX8_layWitness_118 (by decide) (by have := wf_c hwf (show 0 < ln w by omega); omega) (by decide) rfl (fun hc118 => ?_) (fun hc118 => ?_)
                · first
                  | exact absurd hc60 hc118
                  | skip
                    refine ez_aload_n (q := 136) 0 dX8_layWitness_135 rfl rfl rfl ?_
                    refine ez_iload_n (q := 137) 2 dX8_layWitness_136 rfl rfl rfl ?_
                    refine ez_iload (q := 139) dX8_layWitness_137 rfl rfl ?_
                    refine ez_iload (q := 141) dX8_layWitness_139 rfl rfl ?_
                    refine ez_iload (q := 143) dX8_layWitness_141 rfl rfl ?_
                    refine cX0 (q := 146) dX8_layWitness_143 ck_X8_188 hM.1 (t_X8_layAgainst hM.rb hz ho hk hu (by have h9 := fun e => hc24 ((tb_1 _ _).mpr e); rw [hW, seW_A (show 0 < ln w by omega) (by omega)] at h9; first | (rw [if_pos hc92] at h9; exact h9) | (rw [if_neg hc92] at h9; exact h9)) (l := []) (RW.nil _) (Nat.zero_le 1)) rfl ⟨by decide, rfl⟩ rfl rfl rfl (Nat.le_of_ble_eq_true rfl) rfl (fun g hW => ?_)
                    obtain ⟨rw1, sp1, r1, hM2, hrw⟩ := hW
                    have hM := hM.tr hM2
                    exact ez_vret dX8_layWitness_146 rfl (hQ _ ⟨_, _, _, _, _, _, _, _, _, _, _, hM, hrw⟩)
                · first
                  | exact absurd hc118 hc60
                  | skip
                    refine ez_aload_n (q := 122) 0 dX8_layWitness_121 rfl rfl rfl ?_
                    refine ez_iload_n (q := 123) 2 dX8_layWitness_122 rfl rfl rfl ?_
                    refine ez_iload (q := 125) dX8_layWitness_123 rfl rfl ?_
                    refine ez_iload (q := 127) dX8_layWitness_125 rfl rfl ?_
                    refine ez_iload (q := 129) dX8_layWitness_127 rfl rfl ?_
                    refine cX0 (q := 132) dX8_layWitness_129 ck_X8_184 hM.1 (t_X8_laySome hM.rb hz ho hk (seW_l _ _ _ _ _ _ _) (by first | exact seW_l _ _ _ _ _ _ _ | exact Nat.two_pow_pos n') hu (by have h9 := (tb_1 _ _).mp hc24; rw [hW, seW_E (show 0 < ln w by omega) hc60] at h9; first | (rw [if_pos hc92] at h9; exact h9) | (rw [if_neg hc92] at h9; exact h9)) (l := []) (RW.nil _) (Nat.zero_le 1)) rfl ⟨by decide, rfl⟩ rfl rfl rfl (Nat.le_of_ble_eq_true rfl) rfl (fun g hW => ?_)
                    obtain ⟨rw1, sp1, r1, hM2, hrw⟩ := hW
                    have hM := hM.tr hM2
                    refine ez_goto (q := 146) dX8_layWitness_132 (by decide) ?_
                    exact ez_vret dX8_layWitness_146 rfl (hQ _ ⟨_, _, _, _, _, _, _, _, _, _, _, hM, hrw⟩)
          · first
            | exact absurd rfl hc68
            | skip
              exact ez_vret dX8_layWitness_71 rfl (hQ _ ⟨_, _, _, _, _, _, _, _, _, _, _, hM, RW.nil _⟩)
        · rw [if_pos hc60] at hQ
          refine ez_iconst (v := nI 1) (q := 64) dX8_layWitness_63 (by decide) rfl ?_
          refine ez_goto (q := 68) dX8_layWitness_64 (by decide) ?_
          refine ez_icmpeqN (q := 71) (tgt := 72) dX8_layWitness_68 (by decide) (by decide) (by decide) rfl (fun hc68 => ?_) (fun hc68 => ?_)
          · first
            | exact absurd hc68 (by decide)
            | skip
              obtain ⟨hk, h2, h2s, h2u⟩ := wf_ea hwf (show 0 < ln w by omega) hs0 hc
              have t2 := (ht (0 + 2) (by omega) h2).2 ((wf_w hwf h2).trans h2s)
              have t3 := fun e => (ht (0 + 2 + leW (ln w) (sg w) (0 + 2)) (by omega) (h2u e).1).2 ((wf_w hwf (h2u e).1).trans (h2u e).2)
              refine ez_aload_n (q := 73) 0 dX8_layWitness_72 rfl rfl rfl ?_
              refine ez_iload_n (q := 74) 1 dX8_layWitness_73 rfl rfl rfl ?_
              refine ez_iconst (v := nI 1) (q := 75) dX8_layWitness_74 (by decide) rfl ?_
              refine cMv (q := 78) dX8_layWitness_75 ck_X8_91 hM (t_X8_signAt hM.rb hz ho hw (show 1 < ln w by omega)) rfl rfl rfl rfl rfl (Nat.le_of_ble_eq_true rfl) rfl (fun g hM => ?_)
              refine ez_istore_5 (q := 80) dX8_layWitness_78 (by decide) rfl rfl ?_
              refine ez_aload_n (q := 81) 0 dX8_layWitness_80 rfl rfl rfl ?_
              refine ez_getf (q := 84) dX8_layWitness_81 fl_X8_19 hM.1 rfl rfl ?_
              refine ez_iconst (v := nI 2) (q := 85) dX8_layWitness_84 (by decide) rfl ?_
              refine ez_iald (q := 86) dX8_layWitness_85 hM.2.2.2.2.1 rfl (by omega) (by decide) rfl ?_
              refine ez_top (t2.1) ?_
              refine ez_istore_6 (q := 88) dX8_layWitness_86 (by decide) rfl rfl ?_
              refine ez_iload (q := 90) dX8_layWitness_88 rfl rfl ?_
              refine ez_bipush (v := nI 85) (q := 92) dX8_layWitness_90 (by decide) rfl ?_
              refine ez_icmpneN (q := 95) (tgt := 111) dX8_layWitness_92 (by decide) (by have := wf_c hwf (show 1 < ln w by omega); omega) (by decide) rfl (fun hc92 => ?_) (fun hc92 => ?_)
              · rw [if_neg hc92] at hQ
                refine ez_iconst (v := nI 0) (q := 112) dX8_layWitness_111 (by decide) rfl ?_
                refine ez_istore_7 (q := 114) dX8_layWitness_112 (by decide) rfl rfl ?_
                refine ez_iload (q := 116) dX8_layWitness_114 rfl rfl ?_
                refine ez_bipush (v := nI 69) (q := 118) dX8_layWitness_116 (by decide) rfl ?_
                refine ez_icmpneN (q := 121) (tgt := 135) dX8_layWitness_118 (by decide) (by have := wf_c hwf (show 0 < ln w by omega); omega) (by decide) rfl (fun hc118 => ?_) (fun hc118 => ?_)
                · first
                  | exact absurd hc60 hc118
                  | skip
                    refine ez_aload_n (q := 136) 0 dX8_layWitness_135 rfl rfl rfl ?_
                    refine ez_iload_n (q := 137) 2 dX8_layWitness_136 rfl rfl rfl ?_
                    refine ez_iload (q := 139) dX8_layWitness_137 rfl rfl ?_
                    refine ez_iload (q := 141) dX8_layWitness_139 rfl rfl ?_
                    refine ez_iload (q := 143) dX8_layWitness_141 rfl rfl ?_
                    refine cX0 (q := 146) dX8_layWitness_143 ck_X8_188 hM.1 (t_X8_layAgainst hM.rb hz ho hk hu (by have h9 := fun e => hc24 ((tb_1 _ _).mpr e); rw [hW, seW_A (show 0 < ln w by omega) (by omega)] at h9; first | (rw [if_pos hc92] at h9; exact h9) | (rw [if_neg hc92] at h9; exact h9)) (l := []) (RW.nil _) (Nat.zero_le 1)) rfl ⟨by decide, rfl⟩ rfl rfl rfl (Nat.le_of_ble_eq_true rfl) rfl (fun g hW => ?_)
                    obtain ⟨rw1, sp1, r1, hM2, hrw⟩ := hW
                    have hM := hM.tr hM2
                    exact ez_vret dX8_layWitness_146 rfl (hQ _ ⟨_, _, _, _, _, _, _, _, _, _, _, hM, hrw⟩)
                · first
                  | exact absurd hc118 hc60
                  | skip
                    refine ez_aload_n (q := 122) 0 dX8_layWitness_121 rfl rfl rfl ?_
                    refine ez_iload_n (q := 123) 2 dX8_layWitness_122 rfl rfl rfl ?_
                    refine ez_iload (q := 125) dX8_layWitness_123 rfl rfl ?_
                    refine ez_iload (q := 127) dX8_layWitness_125 rfl rfl ?_
                    refine ez_iload (q := 129) dX8_layWitness_127 rfl rfl ?_
                    refine cX0 (q := 132) dX8_layWitness_129 ck_X8_184 hM.1 (t_X8_laySome hM.rb hz ho hk (seW_l _ _ _ _ _ _ _) (by first | exact seW_l _ _ _ _ _ _ _ | exact Nat.two_pow_pos n') hu (by have h9 := (tb_1 _ _).mp hc24; rw [hW, seW_E (show 0 < ln w by omega) hc60] at h9; first | (rw [if_pos hc92] at h9; exact h9) | (rw [if_neg hc92] at h9; exact h9)) (l := []) (RW.nil _) (Nat.zero_le 1)) rfl ⟨by decide, rfl⟩ rfl rfl rfl (Nat.le_of_ble_eq_true rfl) rfl (fun g hW => ?_)
                    obtain ⟨rw1, sp1, r1, hM2, hrw⟩ := hW
                    have hM := hM.tr hM2
                    refine ez_goto (q := 146) dX8_layWitness_132 (by decide) ?_
                    exact ez_vret dX8_layWitness_146 rfl (hQ _ ⟨_, _, _, _, _, _, _, _, _, _, _, hM, hrw⟩)
              · rw [if_pos hc92] at hQ
                refine ez_aload_n (q := 96) 0 dX8_layWitness_95 rfl rfl rfl ?_
                refine ez_getf (q := 99) dX8_layWitness_96 fl_X8_19 hM.1 rfl rfl ?_
                refine ez_iconst (v := nI 2) (q := 100) dX8_layWitness_99 (by decide) rfl ?_
                refine ez_aload_n (q := 101) 0 dX8_layWitness_100 rfl rfl rfl ?_
                refine ez_getf (q := 104) dX8_layWitness_101 fl_X8_25 hM.1 rfl rfl ?_
                refine ez_iconst (v := nI 2) (q := 105) dX8_layWitness_104 (by decide) rfl ?_
                refine ez_iald (q := 106) dX8_layWitness_105 hM.2.2.2.2.2.2.1 rfl (by omega) (by decide) rfl ?_
                refine ez_top (t2.2.2.1) ?_
                refine ez_iaddN (q := 107) dX8_layWitness_106 rfl ?_
                refine ez_iald (q := 108) dX8_layWitness_107 hM.2.2.2.2.1 rfl (by have := (h2u hc92).1; omega) (by decide) rfl ?_
                refine ez_top ((t3 hc92).1) ?_
                refine ez_goto (q := 112) dX8_layWitness_108 (by decide) ?_
                refine ez_istore_7 (q := 114) dX8_layWitness_112 (by decide) rfl rfl ?_
                refine ez_iload (q := 116) dX8_layWitness_114 rfl rfl ?_
                refine ez_bipush (v := nI 69) (q := 118) dX8_layWitness_116 (by decide) rfl ?_
                refine ez_icmpneN (q := 121) (tgt := 135) dX8_layWitness_118 (by decide) (by have := wf_c hwf (show 0 < ln w by omega); omega) (by decide) rfl (fun hc118 => ?_) (fun hc118 => ?_)
                · first
                  | exact absurd hc60 hc118
                  | skip
                    refine ez_aload_n (q := 136) 0 dX8_layWitness_135 rfl rfl rfl ?_
                    refine ez_iload_n (q := 137) 2 dX8_layWitness_136 rfl rfl rfl ?_
                    refine ez_iload (q := 139) dX8_layWitness_137 rfl rfl ?_
                    refine ez_iload (q := 141) dX8_layWitness_139 rfl rfl ?_
                    refine ez_iload (q := 143) dX8_layWitness_141 rfl rfl ?_
                    refine cX0 (q := 146) dX8_layWitness_143 ck_X8_188 hM.1 (t_X8_layAgainst hM.rb hz ho hk hu (by have h9 := fun e => hc24 ((tb_1 _ _).mpr e); rw [hW, seW_A (show 0 < ln w by omega) (by omega)] at h9; first | (rw [if_pos hc92] at h9; exact h9) | (rw [if_neg hc92] at h9; exact h9)) (l := []) (RW.nil _) (Nat.zero_le 1)) rfl ⟨by decide, rfl⟩ rfl rfl rfl (Nat.le_of_ble_eq_true rfl) rfl (fun g hW => ?_)
                    obtain ⟨rw1, sp1, r1, hM2, hrw⟩ := hW
                    have hM := hM.tr hM2
                    exact ez_vret dX8_layWitness_146 rfl (hQ _ ⟨_, _, _, _, _, _, _, _, _, _, _, hM, hrw⟩)
                · first
                  | exact absurd hc118 hc60
                  | skip
                    refine ez_aload_n (q := 122) 0 dX8_layWitness_121 rfl rfl rfl ?_
                    refine ez_iload_n (q := 123) 2 dX8_layWitness_122 rfl rfl rfl ?_
                    refine ez_iload (q := 125) dX8_layWitness_123 rfl rfl ?_
                    refine ez_iload (q := 127) dX8_layWitness_125 rfl rfl ?_
                    refine ez_iload (q := 129) dX8_layWitness_127 rfl rfl ?_
                    refine cX0 (q := 132) dX8_layWitness_129 ck_X8_184 hM.1 (t_X8_laySome hM.rb hz ho hk (seW_l _ _ _ _ _ _ _) (by first | exact seW_l _ _ _ _ _ _ _ | exact Nat.two_pow_pos n') hu (by have h9 := (tb_1 _ _).mp hc24; rw [hW, seW_E (show 0 < ln w by omega) hc60] at h9; first | (rw [if_pos hc92] at h9; exact h9) | (rw [if_neg hc92] at h9; exact h9)) (l := []) (RW.nil _) (Nat.zero_le 1)) rfl ⟨by decide, rfl⟩ rfl rfl rfl (Nat.le_of_ble_eq_true rfl) rfl (fun g hW => ?_)
                    obtain ⟨rw1, sp1, r1, hM2, hrw⟩ := hW
                    have hM := hM.tr hM2
                    refine ez_goto (q := 146) dX8_layWitness_132 (by decide) ?_
                    exact ez_vret dX8_layWitness_146 rfl (hQ _ ⟨_, _, _, _, _, _, _, _, _, _, _, hM, hrw⟩)
          · first
            | exact absurd rfl hc68
            | skip
              exact ez_vret dX8_layWitness_71 rfl (hQ _ ⟨_, _, _, _, _, _, _, _, _, _, _, hM, RW.nil _⟩)
      · refine ez_iload (q := 50) dX8_layWitness_48 rfl rfl ?_
        refine ez_bipush (v := nI 65) (q := 52) dX8_layWitness_50 (by decide) rfl ?_
        refine ez_icmpneN (q := 55) (tgt := 71) dX8_layWitness_52 (by decide) (by have := wf_c hwf (show 0 < ln w by omega); omega) (by decide) rfl (fun hc52 => ?_) (fun hc52 => ?_)
        · rw [if_neg (by omega)] at hQ
          exact ez_vret dX8_layWitness_71 rfl (hQ _ ⟨_, _, _, _, _, _, _, _, _, _, _, hM, RW.nil _⟩)
        · have hc := Or.inr (a := sg w 0 = 69) hc52
          rw [if_pos hc] at hQ
          refine ez_iload_n (q := 56) 3 dX8_layWitness_55 rfl rfl rfl ?_
          refine ez_iload (q := 58) dX8_layWitness_56 rfl rfl ?_
          refine ez_bipush (v := nI 69) (q := 60) dX8_layWitness_58 (by decide) rfl ?_
          refine ez_icmpneN (q := 63) (tgt := 67) dX8_layWitness_60 (by decide) (by have := wf_c hwf (show 0 < ln w by omega); omega) (by decide) rfl (fun hc60 => ?_) (fun hc60 => ?_)
          · rw [if_neg hc60] at hQ
            refine ez_iconst (v := nI 0) (q := 68) dX8_layWitness_67 (by decide) rfl ?_
            refine ez_icmpeqN (q := 71) (tgt := 72) dX8_layWitness_68 (by decide) (by decide) (by decide) rfl (fun hc68 => ?_) (fun hc68 => ?_)
            · first
              | exact absurd hc68 (by decide)
              | skip
                obtain ⟨hk, h2, h2s, h2u⟩ := wf_ea hwf (show 0 < ln w by omega) hs0 hc
                have t2 := (ht (0 + 2) (by omega) h2).2 ((wf_w hwf h2).trans h2s)
                have t3 := fun e => (ht (0 + 2 + leW (ln w) (sg w) (0 + 2)) (by omega) (h2u e).1).2 ((wf_w hwf (h2u e).1).trans (h2u e).2)
                refine ez_aload_n (q := 73) 0 dX8_layWitness_72 rfl rfl rfl ?_
                refine ez_iload_n (q := 74) 1 dX8_layWitness_73 rfl rfl rfl ?_
                refine ez_iconst (v := nI 1) (q := 75) dX8_layWitness_74 (by decide) rfl ?_
                refine cMv (q := 78) dX8_layWitness_75 ck_X8_91 hM (t_X8_signAt hM.rb hz ho hw (show 1 < ln w by omega)) rfl rfl rfl rfl rfl (Nat.le_of_ble_eq_true rfl) rfl (fun g hM => ?_)
                refine ez_istore_5 (q := 80) dX8_layWitness_78 (by decide) rfl rfl ?_
                refine ez_aload_n (q := 81) 0 dX8_layWitness_80 rfl rfl rfl ?_
                refine ez_getf (q := 84) dX8_layWitness_81 fl_X8_19 hM.1 rfl rfl ?_
                refine ez_iconst (v := nI 2) (q := 85) dX8_layWitness_84 (by decide) rfl ?_
                refine ez_iald (q := 86) dX8_layWitness_85 hM.2.2.2.2.1 rfl (by omega) (by decide) rfl ?_
                refine ez_top (t2.1) ?_
                refine ez_istore_6 (q := 88) dX8_layWitness_86 (by decide) rfl rfl ?_
                refine ez_iload (q := 90) dX8_layWitness_88 rfl rfl ?_
                refine ez_bipush (v := nI 85) (q := 92) dX8_layWitness_90 (by decide) rfl ?_
                refine ez_icmpneN (q := 95) (tgt := 111) dX8_layWitness_92 (by decide) (by have := wf_c hwf (show 1 < ln w by omega); omega) (by decide) rfl (fun hc92 => ?_) (fun hc92 => ?_)
                · rw [if_neg hc92] at hQ
                  refine ez_iconst (v := nI 0) (q := 112) dX8_layWitness_111 (by decide) rfl ?_
                  refine ez_istore_7 (q := 114) dX8_layWitness_112 (by decide) rfl rfl ?_
                  refine ez_iload (q := 116) dX8_layWitness_114 rfl rfl ?_
                  refine ez_bipush (v := nI 69) (q := 118) dX8_layWitness_116 (by decide) rfl ?_
                  refine ez_icmpneN (q := 121) (tgt := 135) dX8_layWitness_118 (by decide) (by have := wf_c hwf (show 0 < ln w by omega); omega) (by decide) rfl (fun hc118 => ?_) (fun hc118 => ?_)
                  · first
                    | exact absurd hc60 hc118
                    | skip
                      refine ez_aload_n (q := 136) 0 dX8_layWitness_135 rfl rfl rfl ?_
                      refine ez_iload_n (q := 137) 2 dX8_layWitness_136 rfl rfl rfl ?_
                      refine ez_iload (q := 139) dX8_layWitness_137 rfl rfl ?_
                      refine ez_iload (q := 141) dX8_layWitness_139 rfl rfl ?_
                      refine ez_iload (q := 143) dX8_layWitness_141 rfl rfl ?_
                      refine cX0 (q := 146) dX8_layWitness_143 ck_X8_188 hM.1 (t_X8_layAgainst hM.rb hz ho hk hu (by have h9 := fun e => hc24 ((tb_1 _ _).mpr e); rw [hW, seW_A (show 0 < ln w by omega) (by omega)] at h9; first | (rw [if_pos hc92] at h9; exact h9) | (rw [if_neg hc92] at h9; exact h9)) (l := []) (RW.nil _) (Nat.zero_le 1)) rfl ⟨by decide, rfl⟩ rfl rfl rfl (Nat.le_of_ble_eq_true rfl) rfl (fun g hW => ?_)
                      obtain ⟨rw1, sp1, r1, hM2, hrw⟩ := hW
                      have hM := hM.tr hM2
                      exact ez_vret dX8_layWitness_146 rfl (hQ _ ⟨_, _, _, _, _, _, _, _, _, _, _, hM, hrw⟩)
                  · first
                    | exact absurd hc118 hc60
                    | skip
                      refine ez_aload_n (q := 122) 0 dX8_layWitness_121 rfl rfl rfl ?_
                      refine ez_iload_n (q := 123) 2 dX8_layWitness_122 rfl rfl rfl ?_
                      refine ez_iload (q := 125) dX8_layWitness_123 rfl rfl ?_
                      refine ez_iload (q := 127) dX8_layWitness_125 rfl rfl ?_
                      refine ez_iload (q := 129) dX8_layWitness_127 rfl rfl ?_
                      refine cX0 (q := 132) dX8_layWitness_129 ck_X8_184 hM.1 (t_X8_laySome hM.rb hz ho hk (seW_l _ _ _ _ _ _ _) (by first | exact seW_l _ _ _ _ _ _ _ | exact Nat.two_pow_pos n') hu (by have h9 := (tb_1 _ _).mp hc24; rw [hW, seW_E (show 0 < ln w by omega) hc60] at h9; first | (rw [if_pos hc92] at h9; exact h9) | (rw [if_neg hc92] at h9; exact h9)) (l := []) (RW.nil _) (Nat.zero_le 1)) rfl ⟨by decide, rfl⟩ rfl rfl rfl (Nat.le_of_ble_eq_true rfl) rfl (fun g hW => ?_)
                      obtain ⟨rw1, sp1, r1, hM2, hrw⟩ := hW
                      have hM := hM.tr hM2
                      refine ez_goto (q := 146) dX8_layWitness_132 (by decide) ?_
                      exact ez_vret dX8_layWitness_146 rfl (hQ _ ⟨_, _, _, _, _, _, _, _, _, _, _, hM, hrw⟩)
                · rw [if_pos hc92] at hQ
                  refine ez_aload_n (q := 96) 0 dX8_layWitness_95 rfl rfl rfl ?_
                  refine ez_getf (q := 99) dX8_layWitness_96 fl_X8_19 hM.1 rfl rfl ?_
                  refine ez_iconst (v := nI 2) (q := 100) dX8_layWitness_99 (by decide) rfl ?_
                  refine ez_aload_n (q := 101) 0 dX8_layWitness_100 rfl rfl rfl ?_
                  refine ez_getf (q := 104) dX8_layWitness_101 fl_X8_25 hM.1 rfl rfl ?_
                  refine ez_iconst (v := nI 2) (q := 105) dX8_layWitness_104 (by decide) rfl ?_
                  refine ez_iald (q := 106) dX8_layWitness_105 hM.2.2.2.2.2.2.1 rfl (by omega) (by decide) rfl ?_
                  refine ez_top (t2.2.2.1) ?_
                  refine ez_iaddN (q := 107) dX8_layWitness_106 rfl ?_
                  refine ez_iald (q := 108) dX8_layWitness_107 hM.2.2.2.2.1 rfl (by have := (h2u hc92).1; omega) (by decide) rfl ?_
                  refine ez_top ((t3 hc92).1) ?_
                  refine ez_goto (q := 112) dX8_layWitness_108 (by decide) ?_
                  refine ez_istore_7 (q := 114) dX8_layWitness_112 (by decide) rfl rfl ?_
                  refine ez_iload (q := 116) dX8_layWitness_114 rfl rfl ?_
                  refine ez_bipush (v := nI 69) (q := 118) dX8_layWitness_116 (by decide) rfl ?_
                  refine ez_icmpneN (q := 121) (tgt := 135) dX8_layWitness_118 (by decide) (by have := wf_c hwf (show 0 < ln w by omega); omega) (by decide) rfl (fun hc118 => ?_) (fun hc118 => ?_)
                  · first
                    | exact absurd hc60 hc118
                    | skip
                      refine ez_aload_n (q := 136) 0 dX8_layWitness_135 rfl rfl rfl ?_
                      refine ez_iload_n (q := 137) 2 dX8_layWitness_136 rfl rfl rfl ?_
                      refine ez_iload (q := 139) dX8_layWitness_137 rfl rfl ?_
                      refine ez_iload (q := 141) dX8_layWitness_139 rfl rfl ?_
                      refine ez_iload (q := 143) dX8_layWitness_141 rfl rfl ?_
                      refine cX0 (q := 146) dX8_layWitness_143 ck_X8_188 hM.1 (t_X8_layAgainst hM.rb hz ho hk hu (by have h9 := fun e => hc24 ((tb_1 _ _).mpr e); rw [hW, seW_A (show 0 < ln w by omega) (by omega)] at h9; first | (rw [if_pos hc92] at h9; exact h9) | (rw [if_neg hc92] at h9; exact h9)) (l := []) (RW.nil _) (Nat.zero_le 1)) rfl ⟨by decide, rfl⟩ rfl rfl rfl (Nat.le_of_ble_eq_true rfl) rfl (fun g hW => ?_)
                      obtain ⟨rw1, sp1, r1, hM2, hrw⟩ := hW
                      have hM := hM.tr hM2
                      exact ez_vret dX8_layWitness_146 rfl (hQ _ ⟨_, _, _, _, _, _, _, _, _, _, _, hM, hrw⟩)
                  · first
                    | exact absurd hc118 hc60
                    | skip
                      refine ez_aload_n (q := 122) 0 dX8_layWitness_121 rfl rfl rfl ?_
                      refine ez_iload_n (q := 123) 2 dX8_layWitness_122 rfl rfl rfl ?_
                      refine ez_iload (q := 125) dX8_layWitness_123 rfl rfl ?_
                      refine ez_iload (q := 127) dX8_layWitness_125 rfl rfl ?_
                      refine ez_iload (q := 129) dX8_layWitness_127 rfl rfl ?_
                      refine cX0 (q := 132) dX8_layWitness_129 ck_X8_184 hM.1 (t_X8_laySome hM.rb hz ho hk (seW_l _ _ _ _ _ _ _) (by first | exact seW_l _ _ _ _ _ _ _ | exact Nat.two_pow_pos n') hu (by have h9 := (tb_1 _ _).mp hc24; rw [hW, seW_E (show 0 < ln w by omega) hc60] at h9; first | (rw [if_pos hc92] at h9; exact h9) | (rw [if_neg hc92] at h9; exact h9)) (l := []) (RW.nil _) (Nat.zero_le 1)) rfl ⟨by decide, rfl⟩ rfl rfl rfl (Nat.le_of_ble_eq_true rfl) rfl (fun g hW => ?_)
                      obtain ⟨rw1, sp1, r1, hM2, hrw⟩ := hW
                      have hM := hM.tr hM2
                      refine ez_goto (q := 146) dX8_layWitness_132 (by decide) ?_
                      exact ez_vret dX8_layWitness_146 rfl (hQ _ ⟨_, _, _, _, _, _, _, _, _, _, _, hM, hrw⟩)
            · first
              | exact absurd rfl hc68
              | skip
                exact ez_vret dX8_layWitness_71 rfl (hQ _ ⟨_, _, _, _, _, _, _, _, _, _, _, hM, RW.nil _⟩)
          · rw [if_pos hc60] at hQ
            refine ez_iconst (v := nI 1) (q := 64) dX8_layWitness_63 (by decide) rfl ?_
            refine ez_goto (q := 68) dX8_layWitness_64 (by decide) ?_
            refine ez_icmpeqN (q := 71) (tgt := 72) dX8_layWitness_68 (by decide) (by decide) (by decide) rfl (fun hc68 => ?_) (fun hc68 => ?_)
            · first
              | exact absurd hc68 (by decide)
              | skip
                obtain ⟨hk, h2, h2s, h2u⟩ := wf_ea hwf (show 0 < ln w by omega) hs0 hc
                have t2 := (ht (0 + 2) (by omega) h2).2 ((wf_w hwf h2).trans h2s)
                have t3 := fun e => (ht (0 + 2 + leW (ln w) (sg w) (0 + 2)) (by omega) (h2u e).1).2 ((wf_w hwf (h2u e).1).trans (h2u e).2)
                refine ez_aload_n (q := 73) 0 dX8_layWitness_72 rfl rfl rfl ?_
                refine ez_iload_n (q := 74) 1 dX8_layWitness_73 rfl rfl rfl ?_
                refine ez_iconst (v := nI 1) (q := 75) dX8_layWitness_74 (by decide) rfl ?_
                refine cMv (q := 78) dX8_layWitness_75 ck_X8_91 hM (t_X8_signAt hM.rb hz ho hw (show 1 < ln w by omega)) rfl rfl rfl rfl rfl (Nat.le_of_ble_eq_true rfl) rfl (fun g hM => ?_)
                refine ez_istore_5 (q := 80) dX8_layWitness_78 (by decide) rfl rfl ?_
                refine ez_aload_n (q := 81) 0 dX8_layWitness_80 rfl rfl rfl ?_
                refine ez_getf (q := 84) dX8_layWitness_81 fl_X8_19 hM.1 rfl rfl ?_
                refine ez_iconst (v := nI 2) (q := 85) dX8_layWitness_84 (by decide) rfl ?_
                refine ez_iald (q := 86) dX8_layWitness_85 hM.2.2.2.2.1 rfl (by omega) (by decide) rfl ?_
                refine ez_top (t2.1) ?_
                refine ez_istore_6 (q := 88) dX8_layWitness_86 (by decide) rfl rfl ?_
                refine ez_iload (q := 90) dX8_layWitness_88 rfl rfl ?_
                refine ez_bipush (v := nI 85) (q := 92) dX8_layWitness_90 (by decide) rfl ?_
                refine ez_icmpneN (q := 95) (tgt := 111) dX8_layWitness_92 (by decide) (by have := wf_c hwf (show 1 < ln w by omega); omega) (by decide) rfl (fun hc92 => ?_) (fun hc92 => ?_)
                · rw [if_neg hc92] at hQ
                  refine ez_iconst (v := nI 0) (q := 112) dX8_layWitness_111 (by decide) rfl ?_
                  refine ez_istore_7 (q := 114) dX8_layWitness_112 (by decide) rfl rfl ?_
                  refine ez_iload (q := 116) dX8_layWitness_114 rfl rfl ?_
                  refine ez_bipush (v := nI 69) (q := 118) dX8_layWitness_116 (by decide) rfl ?_
                  refine ez_icmpneN (q := 121) (tgt := 135) dX8_layWitness_118 (by decide) (by have := wf_c hwf (show 0 < ln w by omega); omega) (by decide) rfl (fun hc118 => ?_) (fun hc118 => ?_)
                  · first
                    | exact absurd hc60 hc118
                    | skip
                      refine ez_aload_n (q := 136) 0 dX8_layWitness_135 rfl rfl rfl ?_
                      refine ez_iload_n (q := 137) 2 dX8_layWitness_136 rfl rfl rfl ?_
                      refine ez_iload (q := 139) dX8_layWitness_137 rfl rfl ?_
                      refine ez_iload (q := 141) dX8_layWitness_139 rfl rfl ?_
                      refine ez_iload (q := 143) dX8_layWitness_141 rfl rfl ?_
                      refine cX0 (q := 146) dX8_layWitness_143 ck_X8_188 hM.1 (t_X8_layAgainst hM.rb hz ho hk hu (by have h9 := fun e => hc24 ((tb_1 _ _).mpr e); rw [hW, seW_A (show 0 < ln w by omega) (by omega)] at h9; first | (rw [if_pos hc92] at h9; exact h9) | (rw [if_neg hc92] at h9; exact h9)) (l := []) (RW.nil _) (Nat.zero_le 1)) rfl ⟨by decide, rfl⟩ rfl rfl rfl (Nat.le_of_ble_eq_true rfl) rfl (fun g hW => ?_)
                      obtain ⟨rw1, sp1, r1, hM2, hrw⟩ := hW
                      have hM := hM.tr hM2
                      exact ez_vret dX8_layWitness_146 rfl (hQ _ ⟨_, _, _, _, _, _, _, _, _, _, _, hM, hrw⟩)
                  · first
                    | exact absurd hc118 hc60
                    | skip
                      refine ez_aload_n (q := 122) 0 dX8_layWitness_121 rfl rfl rfl ?_
                      refine ez_iload_n (q := 123) 2 dX8_layWitness_122 rfl rfl rfl ?_
                      refine ez_iload (q := 125) dX8_layWitness_123 rfl rfl ?_
                      refine ez_iload (q := 127) dX8_layWitness_125 rfl rfl ?_
                      refine ez_iload (q := 129) dX8_layWitness_127 rfl rfl ?_
                      refine cX0 (q := 132) dX8_layWitness_129 ck_X8_184 hM.1 (t_X8_laySome hM.rb hz ho hk (seW_l _ _ _ _ _ _ _) (by first | exact seW_l _ _ _ _ _ _ _ | exact Nat.two_pow_pos n') hu (by have h9 := (tb_1 _ _).mp hc24; rw [hW, seW_E (show 0 < ln w by omega) hc60] at h9; first | (rw [if_pos hc92] at h9; exact h9) | (rw [if_neg hc92] at h9; exact h9)) (l := []) (RW.nil _) (Nat.zero_le 1)) rfl ⟨by decide, rfl⟩ rfl rfl rfl (Nat.le_of_ble_eq_true rfl) rfl (fun g hW => ?_)
                      obtain ⟨rw1, sp1, r1, hM2, hrw⟩ := hW
                      have hM := hM.tr hM2
                      refine ez_goto (q := 146) dX8_layWitness_132 (by decide) ?_
                      exact ez_vret dX8_layWitness_146 rfl (hQ _ ⟨_, _, _, _, _, _, _, _, _, _, _, hM, hrw⟩)
                · rw [if_pos hc92] at hQ
                  refine ez_aload_n (q := 96) 0 dX8_layWitness_95 rfl rfl rfl ?_
                  refine ez_getf (q := 99) dX8_layWitness_96 fl_X8_19 hM.1 rfl rfl ?_
                  refine ez_iconst (v := nI 2) (q := 100) dX8_layWitness_99 (by decide) rfl ?_
                  refine ez_aload_n (q := 101) 0 dX8_layWitness_100 rfl rfl rfl ?_
                  refine ez_getf (q := 104) dX8_layWitness_101 fl_X8_25 hM.1 rfl rfl ?_
                  refine ez_iconst (v := nI 2) (q := 105) dX8_layWitness_104 (by decide) rfl ?_
                  refine ez_iald (q := 106) dX8_layWitness_105 hM.2.2.2.2.2.2.1 rfl (by omega) (by decide) rfl ?_
                  refine ez_top (t2.2.2.1) ?_
                  refine ez_iaddN (q := 107) dX8_layWitness_106 rfl ?_
                  refine ez_iald (q := 108) dX8_layWitness_107 hM.2.2.2.2.1 rfl (by have := (h2u hc92).1; omega) (by decide) rfl ?_
                  refine ez_top ((t3 hc92).1) ?_
                  refine ez_goto (q := 112) dX8_layWitness_108 (by decide) ?_
                  refine ez_istore_7 (q := 114) dX8_layWitness_112 (by decide) rfl rfl ?_
                  refine ez_iload (q := 116) dX8_layWitness_114 rfl rfl ?_
                  refine ez_bipush (v := nI 69) (q := 118) dX8_layWitness_116 (by decide) rfl ?_
                  refine ez_icmpneN (q := 121) (tgt := 135) dX8_layWitness_118 (by decide) (by have := wf_c hwf (show 0 < ln w by omega); omega) (by decide) rfl (fun hc118 => ?_) (fun hc118 => ?_)
                  · first
                    | exact absurd hc60 hc118
                    | skip
                      refine ez_aload_n (q := 136) 0 dX8_layWitness_135 rfl rfl rfl ?_
                      refine ez_iload_n (q := 137) 2 dX8_layWitness_136 rfl rfl rfl ?_
                      refine ez_iload (q := 139) dX8_layWitness_137 rfl rfl ?_
                      refine ez_iload (q := 141) dX8_layWitness_139 rfl rfl ?_
                      refine ez_iload (q := 143) dX8_layWitness_141 rfl rfl ?_
                      refine cX0 (q := 146) dX8_layWitness_143 ck_X8_188 hM.1 (t_X8_layAgainst hM.rb hz ho hk hu (by have h9 := fun e => hc24 ((tb_1 _ _).mpr e); rw [hW, seW_A (show 0 < ln w by omega) (by omega)] at h9; first | (rw [if_pos hc92] at h9; exact h9) | (rw [if_neg hc92] at h9; exact h9)) (l := []) (RW.nil _) (Nat.zero_le 1)) rfl ⟨by decide, rfl⟩ rfl rfl rfl (Nat.le_of_ble_eq_true rfl) rfl (fun g hW => ?_)
                      obtain ⟨rw1, sp1, r1, hM2, hrw⟩ := hW
                      have hM := hM.tr hM2
                      exact ez_vret dX8_layWitness_146 rfl (hQ _ ⟨_, _, _, _, _, _, _, _, _, _, _, hM, hrw⟩)
                  · first
                    | exact absurd hc118 hc60
                    | skip
                      refine ez_aload_n (q := 122) 0 dX8_layWitness_121 rfl rfl rfl ?_
                      refine ez_iload_n (q := 123) 2 dX8_layWitness_122 rfl rfl rfl ?_
                      refine ez_iload (q := 125) dX8_layWitness_123 rfl rfl ?_
                      refine ez_iload (q := 127) dX8_layWitness_125 rfl rfl ?_
                      refine ez_iload (q := 129) dX8_layWitness_127 rfl rfl ?_
                      refine cX0 (q := 132) dX8_layWitness_129 ck_X8_184 hM.1 (t_X8_laySome hM.rb hz ho hk (seW_l _ _ _ _ _ _ _) (by first | exact seW_l _ _ _ _ _ _ _ | exact Nat.two_pow_pos n') hu (by have h9 := (tb_1 _ _).mp hc24; rw [hW, seW_E (show 0 < ln w by omega) hc60] at h9; first | (rw [if_pos hc92] at h9; exact h9) | (rw [if_neg hc92] at h9; exact h9)) (l := []) (RW.nil _) (Nat.zero_le 1)) rfl ⟨by decide, rfl⟩ rfl rfl rfl (Nat.le_of_ble_eq_true rfl) rfl (fun g hW => ?_)
                      obtain ⟨rw1, sp1, r1, hM2, hrw⟩ := hW
                      have hM := hM.tr hM2
                      refine ez_goto (q := 146) dX8_layWitness_132 (by decide) ?_
                      exact ez_vret dX8_layWitness_146 rfl (hQ _ ⟨_, _, _, _, _, _, _, _, _, _, _, hM, hrw⟩)
            · first
              | exact absurd rfl hc68
              | skip
                exact ez_vret dX8_layWitness_71 rfl (hQ _ ⟨_, _, _, _, _, _, _, _, _, _, _, hM, RW.nil _⟩)
  · rw [wtL, if_pos hc10] at hQ
    exact ez_vret dX8_layWitness_13 rfl (hQ _ ⟨_, _, _, _, _, _, _, _, _, _, _, hM, RW.nil _⟩)

def wtI (T : Nat → Nat) (n f : Nat) (L : Nat → Nat) (ln : Nat → Nat) (sg : Nat → Nat → Nat) (w u p : Nat) : Int32 := bsI (wtL T n f L ln sg w u)[p]?
theorem ways_len (T : Nat → Nat) (n y g w : Nat) (h : dsN T n y g 10 w ≤ 10) : (waysN T n y g w).length ≤ 11 := by rw [waysN, List.length_cons, wy_len]; omega
def cdY (n : Nat) (w u p : Int32) : Nat := if inB w 0 3 = true ∧ inB u 0 (n - 1) = true then (if p < 0 then 2 else 0) else 1
