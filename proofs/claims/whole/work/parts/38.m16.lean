set_option maxHeartbeats 800000 in
set_option maxRecDepth 100000 in
theorem t_X8_laySome {G : ez_G} {d n : Nat} {h : ez_H} {n' f : Nat} {L T ln : Nat → Nat} {sg : Nat → Nat → Nat} {c a b w : Nat} {l : List Nat} {r : Nat} {th sm ty wa fm ff : Int32} {z sv bf se ro le de rw sp : Nat → Int32} {ww : Bool} {ha : Int64} (hM : IM h h th z sv sm bf ty (nI r) se ro le de wa ww rw (nI l.length) sp fm ff ha) (hz : ZZ z n' f L T ln sg) (ho : OK n' f L T ln sg) (hk : c = 88 ∨ c = 70 ∨ c = 71 ∨ c = 85) (haa : a < 2 ^ n') (hb : b < 2 ^ n') (hw : w < n') (hin : (someS T n' f L c a b).testBit w = true) (hrw : RW rw l) (hl : l.length ≤ 1) : Con G mX8_laySome (d + 6) [.ref 64, .int (nI w), .int (nI c), .int (nI a), .int (nI b)] h n 0 0 (PW n none (fun g => ∃ (rw1 sp1 : Nat → Int32) (r1 : Nat), IM h g th z sv sm bf ty (nI r1) se ro le de wa ww rw1 (nI (l ++ smW T n' f L c a b w).length) sp1 fm ff ha ∧ RW rw1 (l ++ smW T n' f L c a b w))) := by
  have hn := ho.1
  have hn0 := hz.1
  refine Con.of [some (.ref 64), some (.int (nI w)), some (.int (nI c)), some (.int (nI a)), some (.int (nI b))] pl_X8 rfl (Nat.le_of_ble_eq_true rfl) rfl ?_
  have hQ : ∀ g (rw1 sp1 : Nat → Int32) (r1 : Nat), IM h g th z sv sm bf ty (nI r1) se ro le de wa ww rw1 (nI (l ++ smW T n' f L c a b w).length) sp1 fm ff ha → RW rw1 (l ++ smW T n' f L c a b w) → (PW n none (fun g => ∃ (rw1 sp1 : Nat → Int32) (r1 : Nat), IM h g th z sv sm bf ty (nI r1) se ro le de wa ww rw1 (nI (l ++ smW T n' f L c a b w).length) sp1 fm ff ha ∧ RW rw1 (l ++ smW T n' f L c a b w))) (.inl none) g n := fun g rw1 sp1 r1 h1 h2 => ⟨rfl, ⟨rw1, sp1, r1, h1, h2⟩, rfl⟩
  generalize PW n none (fun g => ∃ (rw1 sp1 : Nat → Int32) (r1 : Nat), IM h g th z sv sm bf ty (nI r1) se ro le de wa ww rw1 (nI (l ++ smW T n' f L c a b w).length) sp1 fm ff ha ∧ RW rw1 (l ++ smW T n' f L c a b w)) = Q at hQ ⊢
  refine ez_iload_n (q := 1) 2 dX8_laySome_0 rfl rfl rfl ?_
  refine ez_bipush (v := nI 88) (q := 3) dX8_laySome_1 (by decide) rfl ?_
  refine ez_icmpneN (q := 6) (tgt := 15) dX8_laySome_3 (by decide) (by omega) (by decide) rfl (fun hc3 => ?_) (fun hc3 => ?_)
  · refine ez_iload_n (q := 16) 2 dX8_laySome_15 rfl rfl rfl ?_
    refine ez_bipush (v := nI 70) (q := 18) dX8_laySome_16 (by decide) rfl ?_
    refine ez_icmpneN (q := 21) (tgt := 39) dX8_laySome_18 (by decide) (by omega) (by decide) rfl (fun hc18 => ?_) (fun hc18 => ?_)
    · refine ez_iload_n (q := 40) 2 dX8_laySome_39 rfl rfl rfl ?_
      refine ez_bipush (v := nI 71) (q := 42) dX8_laySome_40 (by decide) rfl ?_
      refine ez_icmpneN (q := 45) (tgt := 58) dX8_laySome_42 (by decide) (by omega) (by decide) rfl (fun hc42 => ?_) (fun hc42 => ?_)
      · obtain rfl : c = 85 := by omega
        rw [smW, if_neg (by decide), if_neg (by decide), if_neg (by decide)] at hQ
        have hlg := and_lt (b := b) (lvN_lt T n' f L)
        have hds := un_ds hn hlg hin
        refine ez_aload_n (q := 59) 0 dX8_laySome_58 rfl rfl rfl ?_
        refine ez_iload_n (q := 60) 1 dX8_laySome_59 rfl rfl rfl ?_
        refine ez_iload_n (q := 61) 3 dX8_laySome_60 rfl rfl rfl ?_
        refine ez_aload_n (q := 62) 0 dX8_laySome_61 rfl rfl rfl ?_
        refine cMv (q := 65) dX8_laySome_62 ck_X8_85 hM (t_X8_live hM.rb hz ho) rfl rfl rfl rfl rfl (Nat.le_of_ble_eq_true rfl) rfl (fun g hM => ?_)
        refine ez_iload (q := 67) dX8_laySome_65 rfl rfl ?_
        refine ez_iandN (q := 68) dX8_laySome_67 rfl ?_
        refine cX0 (q := 71) dX8_laySome_68 ck_X8_177 hM.1 (t_X8_layComing hM.rb hz ho hw hlg hds hrw hl) rfl ⟨by decide, rfl⟩ rfl rfl rfl (Nat.le_of_ble_eq_true rfl) rfl (fun g hW => ?_)
        obtain ⟨rw1, sp1, hM2, hrw⟩ := hW
        have hM := hM.tr hM2
        exact ez_vret dX8_laySome_71 rfl (hQ _ _ _ _ hM hrw)
      · subst hc42
        rw [smW, if_neg (by decide), if_neg (by decide), if_pos rfl] at hQ
        refine ez_aload_n (q := 46) 0 dX8_laySome_45 rfl rfl rfl ?_
        refine ez_iload_n (q := 47) 1 dX8_laySome_46 rfl rfl rfl ?_
        refine ez_aload_n (q := 48) 0 dX8_laySome_47 rfl rfl rfl ?_
        refine ez_iload_n (q := 49) 3 dX8_laySome_48 rfl rfl rfl ?_
        refine cMv (q := 52) dX8_laySome_49 ck_X8_82 hM (t_X8_stays hM.rb hz ho haa) rfl rfl rfl rfl rfl (Nat.le_of_ble_eq_true rfl) rfl (fun g hM => ?_)
        refine cX0 (q := 55) dX8_laySome_52 ck_X8_181 hM.1 (t_X8_layStaying hM.rb hz ho hw (sty_st hn haa) hin hrw hl) rfl ⟨by decide, rfl⟩ rfl rfl rfl (Nat.le_of_ble_eq_true rfl) rfl (fun g hW => ?_)
        obtain ⟨rw1, sp1, hM2, hrw⟩ := hW
        have hM := hM.tr hM2
        refine ez_goto (q := 71) dX8_laySome_55 (by decide) ?_
        exact ez_vret dX8_laySome_71 rfl (hQ _ _ _ _ hM hrw)
    · subst hc18
      rw [smW, if_neg (by decide), if_pos rfl] at hQ
      have hlg := and_lt (b := a) (lvN_lt T n' f L)
      have hds := un_ds hn hlg hin
      refine ez_aload_n (q := 22) 0 dX8_laySome_21 rfl rfl rfl ?_
      refine ez_iload_n (q := 23) 1 dX8_laySome_22 rfl rfl rfl ?_
      refine ez_aload_n (q := 24) 0 dX8_laySome_23 rfl rfl rfl ?_
      refine cMv (q := 27) dX8_laySome_24 ck_X8_79 hM (t_X8_all hM.rb hz ho) rfl rfl rfl rfl rfl (Nat.le_of_ble_eq_true rfl) rfl (fun g hM => ?_)
      refine ez_aload_n (q := 28) 0 dX8_laySome_27 rfl rfl rfl ?_
      refine cMv (q := 31) dX8_laySome_28 ck_X8_85 hM (t_X8_live hM.rb hz ho) rfl rfl rfl rfl rfl (Nat.le_of_ble_eq_true rfl) rfl (fun g hM => ?_)
      refine ez_iload_n (q := 32) 3 dX8_laySome_31 rfl rfl rfl ?_
      refine ez_iandN (q := 33) dX8_laySome_32 rfl ?_
      refine cX0 (q := 36) dX8_laySome_33 ck_X8_177 hM.1 (t_X8_layComing hM.rb hz ho hw hlg hds hrw hl) rfl ⟨by decide, rfl⟩ rfl rfl rfl (Nat.le_of_ble_eq_true rfl) rfl (fun g hW => ?_)
      obtain ⟨rw1, sp1, hM2, hrw⟩ := hW
      have hM := hM.tr hM2
      refine ez_goto (q := 71) dX8_laySome_36 (by decide) ?_
      exact ez_vret dX8_laySome_71 rfl (hQ _ _ _ _ hM hrw)
  · subst hc3
    have hex := sm_x hn hin
    rw [smW, if_pos rfl] at hQ
    refine ez_aload_n (q := 7) 0 dX8_laySome_6 rfl rfl rfl ?_
    refine ez_iload_n (q := 8) 1 dX8_laySome_7 rfl rfl rfl ?_
    refine ez_iload_n (q := 9) 3 dX8_laySome_8 rfl rfl rfl ?_
    refine cX0 (q := 12) dX8_laySome_9 ck_X8_174 hM.1 (t_X8_layNext hM.rb hz ho hw hex hrw hl) rfl ⟨by decide, rfl⟩ rfl rfl rfl (Nat.le_of_ble_eq_true rfl) rfl (fun g hW => ?_)
    obtain ⟨rw1, sp1, r1, hM2, hrw⟩ := hW
    have hM := hM.tr hM2
    refine ez_goto (q := 71) dX8_laySome_12 (by decide) ?_
    exact ez_vret dX8_laySome_71 rfl (hQ _ _ _ _ hM hrw)

