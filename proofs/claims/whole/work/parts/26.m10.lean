set_option maxHeartbeats 800000 in
set_option maxRecDepth 100000 in
theorem t_X8_byFair {G : ez_G} {d n : Nat} {h : ez_H} {n' f : Nat} {L T ln : Nat → Nat} {sg : Nat → Nat → Nat} {w u r : Nat} {th sm ty wa rm fm ff : Int32} {z sv bf se ro le de rw sp : Nat → Int32} {ww : Bool} {ha : Int64} (hM : IM h h th z sv sm bf ty (nI r) se ro le de wa ww rw rm sp fm ff ha) (hz : ZZ z n' f L T ln sg) (ho : OK n' f L T ln sg) (hs : WFS ln sg) (hw : w < 4) (hu : u ≤ 4) : Con G mX8_byFair (d + 10) [.ref 64, .int (nI w), .int (fI u)] h n 0 0 (PW n (some (.int (bfI T n' L ln sg w u))) (fun g => MB h g th z sv sm bf ty ha)) := by
  have hn := ho.1
  have hn0 := hz.1
  have hl := ho.2.2.2.2.1 w hw
  refine Con.of [some (.ref 64), some (.int (nI w)), some (.int (fI u)), none, none] pl_X8 rfl (Nat.le_of_ble_eq_true rfl) rfl ?_
  have hQ : ∀ g, MB h g th z sv sm bf ty ha → (PW n (some (.int (bfI T n' L ln sg w u))) (fun g => MB h g th z sv sm bf ty ha)) (.inl (some (.int (bfI T n' L ln sg w u)))) g n := fun g hW => ⟨rfl, hW, rfl⟩
  generalize PW n (some (.int (bfI T n' L ln sg w u))) (fun g => MB h g th z sv sm bf ty ha) = Q at hQ ⊢
  refine ez_aload_n (q := 1) 0 dX8_byFair_0 rfl rfl rfl ?_
  refine ez_iload_n (q := 2) 1 dX8_byFair_1 rfl rfl rfl ?_
  refine cMv (q := 5) dX8_byFair_2 ck_X8_101 hM (t_X8_lengthOf hM.rb hz ho hw) rfl rfl rfl rfl rfl (Nat.le_of_ble_eq_true rfl) rfl (fun g hM => ?_)
  refine ez_ifneN (q := 8) (tgt := 10) dX8_byFair_5 (by decide) (by omega) rfl (fun hc5 => ?_) (fun hc5 => ?_)
  · rw [bfI, if_neg hc5] at hQ
    obtain ⟨sc, hwf⟩ := hs w hw (by omega)
    refine ez_aload_n (q := 11) 0 dX8_byFair_10 rfl rfl rfl ?_
    refine ez_getf (q := 14) dX8_byFair_11 fl_X8_7 hM.1 rfl rfl ?_
    refine ez_iconst (v := nI 1) (q := 15) dX8_byFair_14 (by decide) rfl ?_
    refine ez_iald (q := 16) dX8_byFair_15 hM.2.1 rfl (by omega) (by decide) rfl ?_
    refine ez_istore_3 (q := 17) dX8_byFair_16 rfl (by decide) rfl rfl ?_
    refine ez_aload_n (q := 18) 0 dX8_byFair_17 rfl rfl rfl ?_
    refine ez_getf (q := 21) dX8_byFair_18 fl_X8_7 hM.1 rfl rfl ?_
    refine ez_iconst (v := nI 1) (q := 22) dX8_byFair_21 (by decide) rfl ?_
    refine ez_iload_n (q := 23) 2 dX8_byFair_22 rfl rfl rfl ?_
    refine sM_z (q := 24) dX8_byFair_23 hM rfl (by omega) rfl (fun g hM => ?_)
    refine ez_aload_n (q := 25) 0 dX8_byFair_24 rfl rfl rfl ?_
    refine ez_iload_n (q := 26) 1 dX8_byFair_25 rfl rfl rfl ?_
    refine cXv (q := 29) dX8_byFair_26 ck_X8_144 hM.1 (t_X8_holds hM.rb (hz.fair ho u) (ho.fair hu) hw hwf) rfl ⟨by decide, rfl⟩ rfl rfl rfl (Nat.le_of_ble_eq_true rfl) rfl (fun g hW => ?_)
    obtain ⟨se, ro, le, de, r, hM2, ht⟩ := hW
    have hM := hM.tr hM2
    refine ez_istore_4 (q := 31) dX8_byFair_29 (by decide) rfl rfl ?_
    refine ez_aload_n (q := 32) 0 dX8_byFair_31 rfl rfl rfl ?_
    refine ez_getf (q := 35) dX8_byFair_32 fl_X8_7 hM.1 rfl rfl ?_
    refine ez_iconst (v := nI 1) (q := 36) dX8_byFair_35 (by decide) rfl ?_
    refine ez_iload_n (q := 37) 3 dX8_byFair_36 rfl rfl rfl ?_
    refine sM_z (q := 38) dX8_byFair_37 hM rfl (by omega) rfl (fun g hM => ?_)
    rw [up_back _ _ _ _ rfl] at hM
    refine ez_iload (q := 40) dX8_byFair_38 rfl rfl ?_
    exact ez_iret dX8_byFair_40 rfl (hQ _ ⟨_, _, _, _, _, _, _, _, _, _, _, _, hM⟩)
  · rw [bfI, if_pos hc5] at hQ
    refine ez_iconst (v := -1) (q := 9) dX8_byFair_8 (by decide) rfl ?_
    exact ez_iret dX8_byFair_9 rfl (hQ _ ⟨_, _, _, _, _, _, _, _, _, _, _, _, hM⟩)

def inL (i : Int32) : Bool := inB i (-1) 3
/-- a letter or none, as a number -/
def lf (i : Int32) : Nat := if i = -1 then 4 else nn i
theorem inL_nat {i : Int32} (h : inL i = true) : ∃ u : Nat, i = fI u ∧ u ≤ 4 ∧ lf i = u := by
  have h1 := of_decide_eq_true h
  by_cases e : i = -1
  · exact ⟨4, e, Nat.le_refl _, if_pos e⟩
  · have h2 : inB i 0 3 = true := by
      refine decide_eq_true ⟨?_, h1.2⟩
      have h3 : i.toInt ≠ -1 := fun a => e (Int32.toInt_inj.mp (by rw [a]; rfl))
      omega
    obtain ⟨j, rfl, hj, hj2⟩ := inB_nat h2
    exact ⟨j, (fI_n (by omega)).symm, by omega, by rw [lf, if_neg e, nn_nI hj2]⟩
def cdL (w i : Int32) : Nat := if inB w 0 3 = true then (if inL i = true then 0 else 2) else 1
set_option maxHeartbeats 800000 in
set_option maxRecDepth 100000 in
theorem t_X8_ifFair {G : ez_G} {d n : Nat} {h : ez_H} {n' f : Nat} {L T ln : Nat → Nat} {sg : Nat → Nat → Nat} {w i : Int32} {r : Nat} {th sm ty wa rm fm ff : Int32} {z sv bf se ro le de rw sp : Nat → Int32} {ww : Bool} {ha : Int64} (hM : IM h h th z sv sm bf ty (nI r) se ro le de wa ww rw rm sp fm ff ha) (hz : ZZ z n' f L T ln sg) (ho : OK n' f L T ln sg) (hs : WFS ln sg) : Con G mX8_ifFair (d + 11) [.ref 64, .int w, .int i] h n 0 0 (PW n (some (.int (aW (cdL w i) (bfI T n' L ln sg (nn w) (lf i))))) (fun g => MB h g (nI (cdL w i)) z sv sm bf ty ha)) := by
  have hn := ho.1
  have hn0 := hz.1
  refine Con.of [some (.ref 64), some (.int w), some (.int i)] pl_X8 rfl (Nat.le_of_ble_eq_true rfl) rfl ?_
  have hQ : ∀ g, MB h g (nI (cdL w i)) z sv sm bf ty ha → (PW n (some (.int (aW (cdL w i) (bfI T n' L ln sg (nn w) (lf i))))) (fun g => MB h g (nI (cdL w i)) z sv sm bf ty ha)) (.inl (some (.int (aW (cdL w i) (bfI T n' L ln sg (nn w) (lf i)))))) g n := fun g hW => ⟨rfl, hW, rfl⟩
  generalize PW n (some (.int (aW (cdL w i) (bfI T n' L ln sg (nn w) (lf i))))) (fun g => MB h g (nI (cdL w i)) z sv sm bf ty ha) = Q at hQ ⊢
  refine ez_aload_n (q := 1) 0 dX8_ifFair_0 rfl rfl rfl ?_
  refine ez_iload_n (q := 2) 1 dX8_ifFair_1 rfl rfl rfl ?_
  refine cUv (q := 5) dX8_ifFair_2 ck_X8_134 (t_X8_isWish) rfl rfl rfl (Nat.le_of_ble_eq_true rfl) rfl ?_
  refine ez_ifneB (q := 8) (tgt := 12) dX8_ifFair_5 (by decide) rfl (fun hc5 => ?_) (fun hc5 => ?_)
  · refine ez_iload_n (q := 13) 2 dX8_ifFair_12 rfl rfl rfl ?_
    refine ez_iconst (v := -1) (q := 14) dX8_ifFair_13 (by decide) rfl ?_
    refine ez_iconst (v := nI 3) (q := 15) dX8_ifFair_14 (by decide) rfl ?_
    refine cUv (q := 18) dX8_ifFair_15 ck_X8_41 (t_X8_in (a := -1) (b := 3) (by decide) (by decide)) rfl rfl rfl (Nat.le_of_ble_eq_true rfl) rfl ?_
    refine ez_ifeqB (q := 21) (tgt := 25) dX8_ifFair_18 (by decide) rfl (fun hc18 => ?_) (fun hc18 => ?_)
    · rw [show cdL w i = 2 from by simp [cdL, inL, hc5, hc18]] at hQ
      refine ez_iconst (v := nI 2) (q := 26) dX8_ifFair_25 (by decide) rfl ?_
      refine pM_th (q := 29) dX8_ifFair_26 fl_X8_37 hM rfl (fun g hM => ?_)
      refine ez_aload_n (q := 30) 0 dX8_ifFair_29 rfl rfl rfl ?_
      refine ez_getf (q := 33) dX8_ifFair_30 fl_X8_37 hM.1 rfl rfl ?_
      refine ez_ifleN (q := 36) (tgt := 40) dX8_ifFair_33 (by decide) (by decide) rfl (fun hc33 => ?_) (fun hc33 => ?_)
      · first
        | exact absurd hc33 (by decide)
        | skip
          refine ez_aload_n (q := 41) 0 dX8_ifFair_40 rfl rfl rfl ?_
          refine ez_iload_n (q := 42) 1 dX8_ifFair_41 rfl rfl rfl ?_
          refine ez_iload_n (q := 43) 2 dX8_ifFair_42 rfl rfl rfl ?_
          refine cXv (q := 46) dX8_ifFair_43 ck_X8_228 hM.1 (t_X8_byFair hM.rb hz ho hs (by omega) hu) rfl ⟨by decide, rfl⟩ rfl rfl rfl (Nat.le_of_ble_eq_true rfl) rfl (fun g hW => ?_)
          obtain ⟨r, se, ro, le, de, wa, ww, rw, rm, sp, fm, ff, hM2⟩ := hW
          have hM := hM.tr hM2
          exact ez_iret dX8_ifFair_46 rfl (hQ _ ⟨_, _, _, _, _, _, _, _, _, _, _, _, hM⟩)
      · first
        | exact absurd hc33 (by decide)
        | skip
          refine ez_iconst (v := nI 0) (q := 37) dX8_ifFair_36 (by decide) rfl ?_
          refine ez_goto (q := 46) dX8_ifFair_37 (by decide) ?_
          exact ez_iret dX8_ifFair_46 rfl (hQ _ ⟨_, _, _, _, _, _, _, _, _, _, _, _, hM⟩)
    · rw [show cdL w i = 0 from by simp [cdL, inL, hc5, hc18]] at hQ
      obtain ⟨j, rfl, hj, hj2⟩ := inB_nat hc5
      obtain ⟨u, rfl, hu, hu2⟩ := inL_nat hc18
      rw [nn_nI hj2, hu2] at hQ
      refine ez_iconst (v := nI 0) (q := 22) dX8_ifFair_21 (by decide) rfl ?_
      refine ez_goto (q := 26) dX8_ifFair_22 (by decide) ?_
      refine pM_th (q := 29) dX8_ifFair_26 fl_X8_37 hM rfl (fun g hM => ?_)
      refine ez_aload_n (q := 30) 0 dX8_ifFair_29 rfl rfl rfl ?_
      refine ez_getf (q := 33) dX8_ifFair_30 fl_X8_37 hM.1 rfl rfl ?_
      refine ez_ifleN (q := 36) (tgt := 40) dX8_ifFair_33 (by decide) (by decide) rfl (fun hc33 => ?_) (fun hc33 => ?_)
      · first
        | exact absurd hc33 (by decide)
        | skip
          refine ez_aload_n (q := 41) 0 dX8_ifFair_40 rfl rfl rfl ?_
          refine ez_iload_n (q := 42) 1 dX8_ifFair_41 rfl rfl rfl ?_
          refine ez_iload_n (q := 43) 2 dX8_ifFair_42 rfl rfl rfl ?_
          refine cXv (q := 46) dX8_ifFair_43 ck_X8_228 hM.1 (t_X8_byFair hM.rb hz ho hs (by omega) hu) rfl ⟨by decide, rfl⟩ rfl rfl rfl (Nat.le_of_ble_eq_true rfl) rfl (fun g hW => ?_)
          obtain ⟨r, se, ro, le, de, wa, ww, rw, rm, sp, fm, ff, hM2⟩ := hW
          have hM := hM.tr hM2
          exact ez_iret dX8_ifFair_46 rfl (hQ _ ⟨_, _, _, _, _, _, _, _, _, _, _, _, hM⟩)
      · first
        | exact absurd hc33 (by decide)
        | skip
          refine ez_iconst (v := nI 0) (q := 37) dX8_ifFair_36 (by decide) rfl ?_
          refine ez_goto (q := 46) dX8_ifFair_37 (by decide) ?_
          exact ez_iret dX8_ifFair_46 rfl (hQ _ ⟨_, _, _, _, _, _, _, _, _, _, _, _, hM⟩)
  · rw [show cdL w i = 1 from by simp [cdL, hc5]] at hQ
    refine ez_iconst (v := nI 1) (q := 9) dX8_ifFair_8 (by decide) rfl ?_
    refine ez_goto (q := 26) dX8_ifFair_9 (by decide) ?_
    refine pM_th (q := 29) dX8_ifFair_26 fl_X8_37 hM rfl (fun g hM => ?_)
    refine ez_aload_n (q := 30) 0 dX8_ifFair_29 rfl rfl rfl ?_
    refine ez_getf (q := 33) dX8_ifFair_30 fl_X8_37 hM.1 rfl rfl ?_
    refine ez_ifleN (q := 36) (tgt := 40) dX8_ifFair_33 (by decide) (by decide) rfl (fun hc33 => ?_) (fun hc33 => ?_)
    · first
      | exact absurd hc33 (by decide)
      | skip
        refine ez_aload_n (q := 41) 0 dX8_ifFair_40 rfl rfl rfl ?_
        refine ez_iload_n (q := 42) 1 dX8_ifFair_41 rfl rfl rfl ?_
        refine ez_iload_n (q := 43) 2 dX8_ifFair_42 rfl rfl rfl ?_
        refine cXv (q := 46) dX8_ifFair_43 ck_X8_228 hM.1 (t_X8_byFair hM.rb hz ho hs (by omega) hu) rfl ⟨by decide, rfl⟩ rfl rfl rfl (Nat.le_of_ble_eq_true rfl) rfl (fun g hW => ?_)
        obtain ⟨r, se, ro, le, de, wa, ww, rw, rm, sp, fm, ff, hM2⟩ := hW
        have hM := hM.tr hM2
        exact ez_iret dX8_ifFair_46 rfl (hQ _ ⟨_, _, _, _, _, _, _, _, _, _, _, _, hM⟩)
    · first
      | exact absurd hc33 (by decide)
      | skip
        refine ez_iconst (v := nI 0) (q := 37) dX8_ifFair_36 (by decide) rfl ?_
        refine ez_goto (q := 46) dX8_ifFair_37 (by decide) ?_
        exact ez_iret dX8_ifFair_46 rfl (hQ _ ⟨_, _, _, _, _, _, _, _, _, _, _, _, hM⟩)

set_option maxHeartbeats 800000 in
set_option maxRecDepth 100000 in
theorem t_X8_tryFix {G : ez_G} {d n : Nat} {h : ez_H} {n' f : Nat} {L' T' ln : Nat → Nat} {sg : Nat → Nat → Nat} {p b w u nm q y r : Nat} {x : Int32} {th sm ty wa rm : Int32} {z sv bf se ro le de rw sp : Nat → Int32} {ww : Bool} {ha : Int64} (hM : IM h h th z sv sm bf ty (nI r) se ro le de wa ww rw rm sp (nI q) x ha) (hp : p < 186) (hy : z p = nI y) (hz : ZZ (upd z p (nI (y ^^^ 2 ^ b))) n' f L' T' ln sg) (ho : OK n' f L' T' ln sg) (hs : WFS ln sg) (hw : w < 4) (hl : 0 < ln w) (hb : b < 10) (hu : u < 10) (hq : q ≤ 100) : Con G mX8_tryFix (d + 10) [.ref 64, .int (nI p), .int (nI b), .int (nI w), .int (nI u), .int (nI nm)] h n 0 0 (PW n none (fun g => ∃ (r : Nat) (se ro le de : Nat → Int32) (wa : Int32) (ww : Bool) (rw : Nat → Int32) (rm : Int32) (sp : Nat → Int32), IM h g th z sv sm bf ty (nI r) se ro le de wa ww rw rm sp (nI (fxo (tryB T' n' f L' ln sg w u) nm (q, x)).1) (fxo (tryB T' n' f L' ln sg w u) nm (q, x)).2 ha)) := by
  obtain ⟨sc, hwf⟩ := hs w hw hl
  have hn := ho.1
  refine Con.of [some (.ref 64), some (.int (nI p)), some (.int (nI b)), some (.int (nI w)), some (.int (nI u)), some (.int (nI nm)), none] pl_X8 rfl (Nat.le_of_ble_eq_true rfl) rfl ?_
  have hQ : ∀ g, (∃ (r : Nat) (se ro le de : Nat → Int32) (wa : Int32) (ww : Bool) (rw : Nat → Int32) (rm : Int32) (sp : Nat → Int32), IM h g th z sv sm bf ty (nI r) se ro le de wa ww rw rm sp (nI (fxo (tryB T' n' f L' ln sg w u) nm (q, x)).1) (fxo (tryB T' n' f L' ln sg w u) nm (q, x)).2 ha) → (PW n none (fun g => ∃ (r : Nat) (se ro le de : Nat → Int32) (wa : Int32) (ww : Bool) (rw : Nat → Int32) (rm : Int32) (sp : Nat → Int32), IM h g th z sv sm bf ty (nI r) se ro le de wa ww rw rm sp (nI (fxo (tryB T' n' f L' ln sg w u) nm (q, x)).1) (fxo (tryB T' n' f L' ln sg w u) nm (q, x)).2 ha)) (.inl none) g n := fun g hW => ⟨rfl, hW, rfl⟩
  generalize PW n none (fun g => ∃ (r : Nat) (se ro le de : Nat → Int32) (wa : Int32) (ww : Bool) (rw : Nat → Int32) (rm : Int32) (sp : Nat → Int32), IM h g th z sv sm bf ty (nI r) se ro le de wa ww rw rm sp (nI (fxo (tryB T' n' f L' ln sg w u) nm (q, x)).1) (fxo (tryB T' n' f L' ln sg w u) nm (q, x)).2 ha) = Q at hQ ⊢
  refine ez_aload_n (q := 1) 0 dX8_tryFix_0 rfl rfl rfl ?_
  refine ez_getf (q := 4) dX8_tryFix_1 fl_X8_7 hM.1 rfl rfl ?_
  refine ez_iload_n (q := 5) 1 dX8_tryFix_4 rfl rfl rfl ?_
  refine ez_dup2 (q := 6) dX8_tryFix_5 rfl rfl rfl ?_
  refine ez_iald (q := 7) dX8_tryFix_6 hM.2.1 rfl (by omega) (by decide) rfl ?_
  refine ez_top (hy) ?_
  refine ez_iconst (v := nI 1) (q := 8) dX8_tryFix_7 (by decide) rfl ?_
  refine ez_iload_n (q := 9) 2 dX8_tryFix_8 rfl rfl rfl ?_
  refine ez_shl1 (q := 10) dX8_tryFix_9 (by omega) rfl ?_
  refine ez_ixorN (q := 11) dX8_tryFix_10 rfl ?_
  refine sM_z (q := 12) dX8_tryFix_11 hM rfl (by omega) rfl (fun g hM => ?_)
  refine ez_aload_n (q := 13) 0 dX8_tryFix_12 rfl rfl rfl ?_
  refine ez_iload_n (q := 14) 3 dX8_tryFix_13 rfl rfl rfl ?_
  refine cXv (q := 17) dX8_tryFix_14 ck_X8_144 hM.1 (t_X8_holds hM.rb hz ho hw hwf) rfl ⟨by decide, rfl⟩ rfl rfl rfl (Nat.le_of_ble_eq_true rfl) rfl (fun g hW => ?_)
  obtain ⟨se, ro, le, de, r, hM2, ht⟩ := hW
  have hM := hM.tr hM2
  change E G mX8_tryFix (d + 10) Q g n 0 0 17 _ (.int (nI (hW T' n' f L' ln sg w)) :: _)
  refine ez_iload (q := 19) dX8_tryFix_17 rfl rfl ?_
  refine ez_ishrN (q := 20) dX8_tryFix_19 (lt31 (hW_lt w) hn) (by omega) rfl ?_
  refine ez_iconst (v := nI 1) (q := 21) dX8_tryFix_20 (by decide) rfl ?_
  refine ez_iandN (q := 22) dX8_tryFix_21 rfl ?_
  refine ez_iconst (v := nI 1) (q := 23) dX8_tryFix_22 (by decide) rfl ?_
  refine ez_icmpneN (q := 26) (tgt := 30) dX8_tryFix_23 (by decide) (Nat.lt_of_le_of_lt Nat.and_le_right (by decide)) (by decide) rfl (fun hc23 => ?_) (fun hc23 => ?_)
  · rw [show (tryB T' n' f L' ln sg w u) = false from decide_eq_false hc23] at hQ
    refine ez_iconst (v := nI 0) (q := 31) dX8_tryFix_30 (by decide) rfl ?_
    refine ez_top (show nI 0 = bI false from rfl) ?_
    refine ez_istore_6 (q := 33) dX8_tryFix_31 (by decide) rfl rfl ?_
    refine ez_aload_n (q := 34) 0 dX8_tryFix_33 rfl rfl rfl ?_
    refine ez_getf (q := 37) dX8_tryFix_34 fl_X8_7 hM.1 rfl rfl ?_
    refine ez_iload_n (q := 38) 1 dX8_tryFix_37 rfl rfl rfl ?_
    refine ez_dup2 (q := 39) dX8_tryFix_38 rfl rfl rfl ?_
    refine ez_iald (q := 40) dX8_tryFix_39 hM.2.1 rfl (by omega) (by decide) rfl ?_
    refine ez_top (up_eq _ _ _) ?_
    refine ez_iconst (v := nI 1) (q := 41) dX8_tryFix_40 (by decide) rfl ?_
    refine ez_iload_n (q := 42) 2 dX8_tryFix_41 rfl rfl rfl ?_
    refine ez_shl1 (q := 43) dX8_tryFix_42 (by omega) rfl ?_
    refine ez_ixorN (q := 44) dX8_tryFix_43 rfl ?_
    refine sM_z (q := 45) dX8_tryFix_44 hM rfl (by omega) rfl (fun g hM => ?_)
    rw [up_back _ _ _ _ (by rw [xo_back]; exact hy.symm)] at hM
    refine ez_aload_n (q := 46) 0 dX8_tryFix_45 rfl rfl rfl ?_
    refine ez_iload (q := 48) dX8_tryFix_46 rfl rfl ?_
    refine ez_ifeqB (q := 51) (tgt := 63) dX8_tryFix_48 (by decide) rfl (fun hc48 => ?_) (fun hc48 => ?_)
    · first
      | exact absurd hc48 (by decide)
      | skip
        refine ez_aload_n (q := 64) 0 dX8_tryFix_63 rfl rfl rfl ?_
        refine ez_getf (q := 67) dX8_tryFix_64 fl_X8_218 hM.1 rfl rfl ?_
        refine pM_ff (q := 70) dX8_tryFix_67 fl_X8_218 hM rfl (fun g hM => ?_)
        refine ez_aload_n (q := 71) 0 dX8_tryFix_70 rfl rfl rfl ?_
        refine ez_dup (q := 72) dX8_tryFix_71 rfl rfl ?_
        refine ez_getf (q := 75) dX8_tryFix_72 fl_X8_215 hM.1 rfl rfl ?_
        refine ez_iload (q := 77) dX8_tryFix_75 rfl rfl ?_
        refine ez_ifeqB (q := 80) (tgt := 84) dX8_tryFix_77 (by decide) rfl (fun hc77 => ?_) (fun hc77 => ?_)
        · first
          | exact absurd hc77 (by decide)
          | skip
            refine ez_iconst (v := nI 0) (q := 85) dX8_tryFix_84 (by decide) rfl ?_
            refine ez_iaddN (q := 86) dX8_tryFix_85 rfl ?_
            refine pM_fm (q := 89) dX8_tryFix_86 fl_X8_215 hM rfl (fun g hM => ?_)
            skip
            exact ez_vret dX8_tryFix_89 rfl (by first | exact hQ _ ⟨_, _, _, _, _, _, _, _, _, _, hM⟩ | (have e : (fxo true nm (q, x)).2 = x := if_neg (fun a => hc55 a.2); rw [e] at hQ; exact hQ _ ⟨_, _, _, _, _, _, _, _, _, _, hM⟩))
        · first
          | exact absurd hc77 (by decide)
          | skip
            refine ez_iconst (v := nI 1) (q := 81) dX8_tryFix_80 (by decide) rfl ?_
            refine ez_goto (q := 85) dX8_tryFix_81 (by decide) ?_
            refine ez_iaddN (q := 86) dX8_tryFix_85 rfl ?_
            refine pM_fm (q := 89) dX8_tryFix_86 fl_X8_215 hM rfl (fun g hM => ?_)
            skip
            exact ez_vret dX8_tryFix_89 rfl (by first | exact hQ _ ⟨_, _, _, _, _, _, _, _, _, _, hM⟩ | (have e : (fxo true nm (q, x)).2 = x := if_neg (fun a => hc55 a.2); rw [e] at hQ; exact hQ _ ⟨_, _, _, _, _, _, _, _, _, _, hM⟩))
    · first
      | exact absurd hc48 (by decide)
      | skip
        refine ez_aload_n (q := 52) 0 dX8_tryFix_51 rfl rfl rfl ?_
        refine ez_getf (q := 55) dX8_tryFix_52 fl_X8_215 hM.1 rfl rfl ?_
        refine ez_ifneN (q := 58) (tgt := 63) dX8_tryFix_55 (by decide) (by omega) rfl (fun hc55 => ?_) (fun hc55 => ?_)
        · refine ez_aload_n (q := 64) 0 dX8_tryFix_63 rfl rfl rfl ?_
          refine ez_getf (q := 67) dX8_tryFix_64 fl_X8_218 hM.1 rfl rfl ?_
          refine pM_ff (q := 70) dX8_tryFix_67 fl_X8_218 hM rfl (fun g hM => ?_)
          refine ez_aload_n (q := 71) 0 dX8_tryFix_70 rfl rfl rfl ?_
          refine ez_dup (q := 72) dX8_tryFix_71 rfl rfl ?_
          refine ez_getf (q := 75) dX8_tryFix_72 fl_X8_215 hM.1 rfl rfl ?_
          refine ez_iload (q := 77) dX8_tryFix_75 rfl rfl ?_
          refine ez_ifeqB (q := 80) (tgt := 84) dX8_tryFix_77 (by decide) rfl (fun hc77 => ?_) (fun hc77 => ?_)
          · first
            | exact absurd hc77 (by decide)
            | skip
              refine ez_iconst (v := nI 0) (q := 85) dX8_tryFix_84 (by decide) rfl ?_
              refine ez_iaddN (q := 86) dX8_tryFix_85 rfl ?_
              refine pM_fm (q := 89) dX8_tryFix_86 fl_X8_215 hM rfl (fun g hM => ?_)
              skip
              exact ez_vret dX8_tryFix_89 rfl (by first | exact hQ _ ⟨_, _, _, _, _, _, _, _, _, _, hM⟩ | (have e : (fxo true nm (q, x)).2 = x := if_neg (fun a => hc55 a.2); rw [e] at hQ; exact hQ _ ⟨_, _, _, _, _, _, _, _, _, _, hM⟩))
          · first
            | exact absurd hc77 (by decide)
            | skip
              refine ez_iconst (v := nI 1) (q := 81) dX8_tryFix_80 (by decide) rfl ?_
              refine ez_goto (q := 85) dX8_tryFix_81 (by decide) ?_
              refine ez_iaddN (q := 86) dX8_tryFix_85 rfl ?_
              refine pM_fm (q := 89) dX8_tryFix_86 fl_X8_215 hM rfl (fun g hM => ?_)
              skip
              exact ez_vret dX8_tryFix_89 rfl (by first | exact hQ _ ⟨_, _, _, _, _, _, _, _, _, _, hM⟩ | (have e : (fxo true nm (q, x)).2 = x := if_neg (fun a => hc55 a.2); rw [e] at hQ; exact hQ _ ⟨_, _, _, _, _, _, _, _, _, _, hM⟩))
        · subst hc55
          refine ez_iload (q := 60) dX8_tryFix_58 rfl rfl ?_
          refine ez_goto (q := 67) dX8_tryFix_60 (by decide) ?_
          refine pM_ff (q := 70) dX8_tryFix_67 fl_X8_218 hM rfl (fun g hM => ?_)
          refine ez_aload_n (q := 71) 0 dX8_tryFix_70 rfl rfl rfl ?_
          refine ez_dup (q := 72) dX8_tryFix_71 rfl rfl ?_
          refine ez_getf (q := 75) dX8_tryFix_72 fl_X8_215 hM.1 rfl rfl ?_
          refine ez_iload (q := 77) dX8_tryFix_75 rfl rfl ?_
          refine ez_ifeqB (q := 80) (tgt := 84) dX8_tryFix_77 (by decide) rfl (fun hc77 => ?_) (fun hc77 => ?_)
          · first
            | exact absurd hc77 (by decide)
            | skip
              refine ez_iconst (v := nI 0) (q := 85) dX8_tryFix_84 (by decide) rfl ?_
              refine ez_iaddN (q := 86) dX8_tryFix_85 rfl ?_
              refine pM_fm (q := 89) dX8_tryFix_86 fl_X8_215 hM rfl (fun g hM => ?_)
              skip
              exact ez_vret dX8_tryFix_89 rfl (by first | exact hQ _ ⟨_, _, _, _, _, _, _, _, _, _, hM⟩ | (have e : (fxo true nm (q, x)).2 = x := if_neg (fun a => hc55 a.2); rw [e] at hQ; exact hQ _ ⟨_, _, _, _, _, _, _, _, _, _, hM⟩))
          · first
            | exact absurd hc77 (by decide)
            | skip
              refine ez_iconst (v := nI 1) (q := 81) dX8_tryFix_80 (by decide) rfl ?_
              refine ez_goto (q := 85) dX8_tryFix_81 (by decide) ?_
              refine ez_iaddN (q := 86) dX8_tryFix_85 rfl ?_
              refine pM_fm (q := 89) dX8_tryFix_86 fl_X8_215 hM rfl (fun g hM => ?_)
              skip
              exact ez_vret dX8_tryFix_89 rfl (by first | exact hQ _ ⟨_, _, _, _, _, _, _, _, _, _, hM⟩ | (have e : (fxo true nm (q, x)).2 = x := if_neg (fun a => hc55 a.2); rw [e] at hQ; exact hQ _ ⟨_, _, _, _, _, _, _, _, _, _, hM⟩))
  · rw [show (tryB T' n' f L' ln sg w u) = true from decide_eq_true hc23] at hQ
    refine ez_iconst (v := nI 1) (q := 27) dX8_tryFix_26 (by decide) rfl ?_
    refine ez_top (show nI 1 = bI true from rfl) ?_
    refine ez_goto (q := 31) dX8_tryFix_27 (by decide) ?_
    refine ez_istore_6 (q := 33) dX8_tryFix_31 (by decide) rfl rfl ?_
    refine ez_aload_n (q := 34) 0 dX8_tryFix_33 rfl rfl rfl ?_
    refine ez_getf (q := 37) dX8_tryFix_34 fl_X8_7 hM.1 rfl rfl ?_
    refine ez_iload_n (q := 38) 1 dX8_tryFix_37 rfl rfl rfl ?_
    refine ez_dup2 (q := 39) dX8_tryFix_38 rfl rfl rfl ?_
    refine ez_iald (q := 40) dX8_tryFix_39 hM.2.1 rfl (by omega) (by decide) rfl ?_
    refine ez_top (up_eq _ _ _) ?_
    refine ez_iconst (v := nI 1) (q := 41) dX8_tryFix_40 (by decide) rfl ?_
    refine ez_iload_n (q := 42) 2 dX8_tryFix_41 rfl rfl rfl ?_
    refine ez_shl1 (q := 43) dX8_tryFix_42 (by omega) rfl ?_
    refine ez_ixorN (q := 44) dX8_tryFix_43 rfl ?_
    refine sM_z (q := 45) dX8_tryFix_44 hM rfl (by omega) rfl (fun g hM => ?_)
    rw [up_back _ _ _ _ (by rw [xo_back]; exact hy.symm)] at hM
    refine ez_aload_n (q := 46) 0 dX8_tryFix_45 rfl rfl rfl ?_
    refine ez_iload (q := 48) dX8_tryFix_46 rfl rfl ?_
    refine ez_ifeqB (q := 51) (tgt := 63) dX8_tryFix_48 (by decide) rfl (fun hc48 => ?_) (fun hc48 => ?_)
    · first
      | exact absurd hc48 (by decide)
      | skip
        refine ez_aload_n (q := 64) 0 dX8_tryFix_63 rfl rfl rfl ?_
        refine ez_getf (q := 67) dX8_tryFix_64 fl_X8_218 hM.1 rfl rfl ?_
        refine pM_ff (q := 70) dX8_tryFix_67 fl_X8_218 hM rfl (fun g hM => ?_)
        refine ez_aload_n (q := 71) 0 dX8_tryFix_70 rfl rfl rfl ?_
        refine ez_dup (q := 72) dX8_tryFix_71 rfl rfl ?_
        refine ez_getf (q := 75) dX8_tryFix_72 fl_X8_215 hM.1 rfl rfl ?_
        refine ez_iload (q := 77) dX8_tryFix_75 rfl rfl ?_
        refine ez_ifeqB (q := 80) (tgt := 84) dX8_tryFix_77 (by decide) rfl (fun hc77 => ?_) (fun hc77 => ?_)
        · first
          | exact absurd hc77 (by decide)
          | skip
            refine ez_iconst (v := nI 0) (q := 85) dX8_tryFix_84 (by decide) rfl ?_
            refine ez_iaddN (q := 86) dX8_tryFix_85 rfl ?_
            refine pM_fm (q := 89) dX8_tryFix_86 fl_X8_215 hM rfl (fun g hM => ?_)
            skip
            exact ez_vret dX8_tryFix_89 rfl (by first | exact hQ _ ⟨_, _, _, _, _, _, _, _, _, _, hM⟩ | (have e : (fxo true nm (q, x)).2 = x := if_neg (fun a => hc55 a.2); rw [e] at hQ; exact hQ _ ⟨_, _, _, _, _, _, _, _, _, _, hM⟩))
        · first
          | exact absurd hc77 (by decide)
          | skip
            refine ez_iconst (v := nI 1) (q := 81) dX8_tryFix_80 (by decide) rfl ?_
            refine ez_goto (q := 85) dX8_tryFix_81 (by decide) ?_
            refine ez_iaddN (q := 86) dX8_tryFix_85 rfl ?_
            refine pM_fm (q := 89) dX8_tryFix_86 fl_X8_215 hM rfl (fun g hM => ?_)
            skip
            exact ez_vret dX8_tryFix_89 rfl (by first | exact hQ _ ⟨_, _, _, _, _, _, _, _, _, _, hM⟩ | (have e : (fxo true nm (q, x)).2 = x := if_neg (fun a => hc55 a.2); rw [e] at hQ; exact hQ _ ⟨_, _, _, _, _, _, _, _, _, _, hM⟩))
    · first
      | exact absurd hc48 (by decide)
      | skip
        refine ez_aload_n (q := 52) 0 dX8_tryFix_51 rfl rfl rfl ?_
        refine ez_getf (q := 55) dX8_tryFix_52 fl_X8_215 hM.1 rfl rfl ?_
        refine ez_ifneN (q := 58) (tgt := 63) dX8_tryFix_55 (by decide) (by omega) rfl (fun hc55 => ?_) (fun hc55 => ?_)
        · refine ez_aload_n (q := 64) 0 dX8_tryFix_63 rfl rfl rfl ?_
          refine ez_getf (q := 67) dX8_tryFix_64 fl_X8_218 hM.1 rfl rfl ?_
          refine pM_ff (q := 70) dX8_tryFix_67 fl_X8_218 hM rfl (fun g hM => ?_)
          refine ez_aload_n (q := 71) 0 dX8_tryFix_70 rfl rfl rfl ?_
          refine ez_dup (q := 72) dX8_tryFix_71 rfl rfl ?_
          refine ez_getf (q := 75) dX8_tryFix_72 fl_X8_215 hM.1 rfl rfl ?_
          refine ez_iload (q := 77) dX8_tryFix_75 rfl rfl ?_
          refine ez_ifeqB (q := 80) (tgt := 84) dX8_tryFix_77 (by decide) rfl (fun hc77 => ?_) (fun hc77 => ?_)
          · first
            | exact absurd hc77 (by decide)
            | skip
              refine ez_iconst (v := nI 0) (q := 85) dX8_tryFix_84 (by decide) rfl ?_
              refine ez_iaddN (q := 86) dX8_tryFix_85 rfl ?_
              refine pM_fm (q := 89) dX8_tryFix_86 fl_X8_215 hM rfl (fun g hM => ?_)
              skip
              exact ez_vret dX8_tryFix_89 rfl (by first | exact hQ _ ⟨_, _, _, _, _, _, _, _, _, _, hM⟩ | (have e : (fxo true nm (q, x)).2 = x := if_neg (fun a => hc55 a.2); rw [e] at hQ; exact hQ _ ⟨_, _, _, _, _, _, _, _, _, _, hM⟩))
          · first
            | exact absurd hc77 (by decide)
            | skip
              refine ez_iconst (v := nI 1) (q := 81) dX8_tryFix_80 (by decide) rfl ?_
              refine ez_goto (q := 85) dX8_tryFix_81 (by decide) ?_
              refine ez_iaddN (q := 86) dX8_tryFix_85 rfl ?_
              refine pM_fm (q := 89) dX8_tryFix_86 fl_X8_215 hM rfl (fun g hM => ?_)
              skip
              exact ez_vret dX8_tryFix_89 rfl (by first | exact hQ _ ⟨_, _, _, _, _, _, _, _, _, _, hM⟩ | (have e : (fxo true nm (q, x)).2 = x := if_neg (fun a => hc55 a.2); rw [e] at hQ; exact hQ _ ⟨_, _, _, _, _, _, _, _, _, _, hM⟩))
        · subst hc55
          refine ez_iload (q := 60) dX8_tryFix_58 rfl rfl ?_
          refine ez_goto (q := 67) dX8_tryFix_60 (by decide) ?_
          refine pM_ff (q := 70) dX8_tryFix_67 fl_X8_218 hM rfl (fun g hM => ?_)
          refine ez_aload_n (q := 71) 0 dX8_tryFix_70 rfl rfl rfl ?_
          refine ez_dup (q := 72) dX8_tryFix_71 rfl rfl ?_
          refine ez_getf (q := 75) dX8_tryFix_72 fl_X8_215 hM.1 rfl rfl ?_
          refine ez_iload (q := 77) dX8_tryFix_75 rfl rfl ?_
          refine ez_ifeqB (q := 80) (tgt := 84) dX8_tryFix_77 (by decide) rfl (fun hc77 => ?_) (fun hc77 => ?_)
          · first
            | exact absurd hc77 (by decide)
            | skip
              refine ez_iconst (v := nI 0) (q := 85) dX8_tryFix_84 (by decide) rfl ?_
              refine ez_iaddN (q := 86) dX8_tryFix_85 rfl ?_
              refine pM_fm (q := 89) dX8_tryFix_86 fl_X8_215 hM rfl (fun g hM => ?_)
              skip
              exact ez_vret dX8_tryFix_89 rfl (by first | exact hQ _ ⟨_, _, _, _, _, _, _, _, _, _, hM⟩ | (have e : (fxo true nm (q, x)).2 = x := if_neg (fun a => hc55 a.2); rw [e] at hQ; exact hQ _ ⟨_, _, _, _, _, _, _, _, _, _, hM⟩))
          · first
            | exact absurd hc77 (by decide)
            | skip
              refine ez_iconst (v := nI 1) (q := 81) dX8_tryFix_80 (by decide) rfl ?_
              refine ez_goto (q := 85) dX8_tryFix_81 (by decide) ?_
              refine ez_iaddN (q := 86) dX8_tryFix_85 rfl ?_
              refine pM_fm (q := 89) dX8_tryFix_86 fl_X8_215 hM rfl (fun g hM => ?_)
              skip
              exact ez_vret dX8_tryFix_89 rfl (by first | exact hQ _ ⟨_, _, _, _, _, _, _, _, _, _, hM⟩ | (have e : (fxo true nm (q, x)).2 = x := if_neg (fun a => hc55 a.2); rw [e] at hQ; exact hQ _ ⟨_, _, _, _, _, _, _, _, _, _, hM⟩))

set_option maxHeartbeats 800000 in
set_option maxRecDepth 100000 in
theorem t_X8_fixed {G : ez_G} {d n : Nat} {h : ez_H} {n' f : Nat} {L T ln : Nat → Nat} {sg : Nat → Nat → Nat} {w u what r : Nat} {th sm ty wa rm fm ff : Int32} {z sv bf se ro le de rw sp : Nat → Int32} {ww : Bool} {ha : Int64} (hM : IM h h th z sv sm bf ty (nI r) se ro le de wa ww rw rm sp fm ff ha) (hz : ZZ z n' f L T ln sg) (ho : OK n' f L T ln sg) (hs : WFS ln sg) (hw : w < 4) (hu : u < n') (hwh : what ≤ 3) : Con G mX8_fixed (d + 11) [.ref 64, .int (nI w), .int (nI u), .int (nI what)] h n 0 0 (PW n (some (.int (fxI T n' f L ln sg w u what))) (fun g => MB h g th z sv sm bf ty ha)) := by
  have hn := ho.1
  have hn0 := hz.1
  have hl := ho.2.2.2.2.1 w hw
  refine Con.of [some (.ref 64), some (.int (nI w)), some (.int (nI u)), some (.int (nI what)), none, none, none] pl_X8 rfl (Nat.le_of_ble_eq_true rfl) rfl ?_
  have hQ : ∀ g, MB h g th z sv sm bf ty ha → (PW n (some (.int (fxI T n' f L ln sg w u what))) (fun g => MB h g th z sv sm bf ty ha)) (.inl (some (.int (fxI T n' f L ln sg w u what)))) g n := fun g hW => ⟨rfl, hW, rfl⟩
  generalize PW n (some (.int (fxI T n' f L ln sg w u what))) (fun g => MB h g th z sv sm bf ty ha) = Q at hQ ⊢
  refine ez_aload_n (q := 1) 0 dX8_fixed_0 rfl rfl rfl ?_
  refine ez_iload_n (q := 2) 1 dX8_fixed_1 rfl rfl rfl ?_
  refine cMv (q := 5) dX8_fixed_2 ck_X8_101 hM (t_X8_lengthOf hM.rb hz ho hw) rfl rfl rfl rfl rfl (Nat.le_of_ble_eq_true rfl) rfl (fun g hM => ?_)
  refine ez_ifneN (q := 8) (tgt := 10) dX8_fixed_5 (by decide) (by omega) rfl (fun hc5 => ?_) (fun hc5 => ?_)
  · rw [fxI, if_neg hc5] at hQ
    refine ez_aload_n (q := 11) 0 dX8_fixed_10 rfl rfl rfl ?_
    refine ez_iconst (v := nI 0) (q := 12) dX8_fixed_11 (by decide) rfl ?_
    refine pM_fm (q := 15) dX8_fixed_12 fl_X8_215 hM rfl (fun g hM => ?_)
    refine ez_aload_n (q := 16) 0 dX8_fixed_15 rfl rfl rfl ?_
    refine ez_iconst (v := -1) (q := 17) dX8_fixed_16 (by decide) rfl ?_
    refine pM_ff (q := 20) dX8_fixed_17 fl_X8_218 hM rfl (fun g hM => ?_)
    have k32 : ∀ (g : ez_H) (fl : Bool), IM h g th z sv sm bf ty (nI r) se ro le de wa ww rw rm sp (nI 0) (-1) ha → (∀ g, MB h g th z sv sm bf ty ha → Q (.inl (some (.int (if what % 2 = 0 then nI (fxP T n' f L ln sg fl w u).1 else (fxP T n' f L ln sg fl w u).2)))) g n) → E G mX8_fixed (d + 11) Q g n 0 0 32 [some (.ref 64), some (.int (nI w)), some (.int (nI u)), some (.int (nI what)), some (.int (bI fl)), none, none] [] := by
      clear hQ
      intro g fl hM hQ
      refine ez_iconst (v := nI 0) (q := 33) dX8_fixed_32 (by decide) rfl ?_
      refine ez_istore_5 (q := 35) dX8_fixed_33 (by decide) rfl rfl ?_
      refine ez_loop (α := Nat) (fun i => n' - i) (P := fun i => ∀ (g : ez_H) (r : Nat) (se ro le de : Nat → Int32) (wa : Int32) (ww : Bool) (rw : Nat → Int32) (rm : Int32) (sp : Nat → Int32), IM h g th z sv sm bf ty (nI r) se ro le de wa ww rw rm sp (nI (fxt (isF T n' f L ln sg fl w u) (cF fl) (mF n' fl) i).1) (fxt (isF T n' f L ln sg fl w u) (cF fl) (mF n' fl) i).2 ha → (i ≤ n') → E G mX8_fixed (d + 11) Q g n 0 0 35 [some (.ref 64), some (.int (nI w)), some (.int (nI u)), some (.int (nI what)), some (.int (bI fl)), some (.int (nI i)), none] []) ?_ 0 g _ _ _ _ _ _ _ _ _ _ hM (by omega)
      intro i ih35 g r se ro le de wa ww rw rm sp hM hi
      refine ez_iload (q := 37) dX8_fixed_35 rfl rfl ?_
      refine ez_aload_n (q := 38) 0 dX8_fixed_37 rfl rfl rfl ?_
      refine ez_getf (q := 41) dX8_fixed_38 fl_X8_7 hM.1 rfl rfl ?_
      refine ez_iconst (v := nI 0) (q := 42) dX8_fixed_41 (by decide) rfl ?_
      refine ez_iald (q := 43) dX8_fixed_42 hM.2.1 rfl (by omega) (by decide) rfl ?_
      refine ez_top (hn0) ?_
      refine ez_icmpgeN (q := 46) (tgt := 126) dX8_fixed_43 (by decide) (by omega) (by omega) rfl (fun hc43 => ?_) (fun hc43 => ?_)
      · obtain rfl : i = n' := by omega
        refine ez_iload_n (q := 127) 3 dX8_fixed_126 rfl rfl rfl ?_
        refine ez_iconst (v := nI 2) (q := 128) dX8_fixed_127 (by decide) rfl ?_
        refine ez_iremN (q := 129) dX8_fixed_128 (by omega) (by omega) (by omega) rfl ?_
        refine ez_ifneN (q := 132) (tgt := 139) dX8_fixed_129 (by decide) (by omega) rfl (fun hc129 => ?_) (fun hc129 => ?_)
        · rw [if_neg hc129] at hQ
          refine ez_aload_n (q := 140) 0 dX8_fixed_139 rfl rfl rfl ?_
          refine ez_getf (q := 143) dX8_fixed_140 fl_X8_218 hM.1 rfl rfl ?_
          exact ez_iret dX8_fixed_143 rfl (hQ _ ⟨_, _, _, _, _, _, _, _, _, _, _, _, hM⟩)
        · rw [if_pos hc129] at hQ
          refine ez_aload_n (q := 133) 0 dX8_fixed_132 rfl rfl rfl ?_
          refine ez_getf (q := 136) dX8_fixed_133 fl_X8_215 hM.1 rfl rfl ?_
          refine ez_goto (q := 143) dX8_fixed_136 (by decide) ?_
          exact ez_iret dX8_fixed_143 rfl (hQ _ ⟨_, _, _, _, _, _, _, _, _, _, _, _, hM⟩)
      · refine ez_iconst (v := nI 0) (q := 47) dX8_fixed_46 (by decide) rfl ?_
        refine ez_istore_6 (q := 49) dX8_fixed_47 (by decide) rfl rfl ?_
        refine ez_loop (α := Nat) (fun k => mF n' fl - k) (P := fun k => ∀ (g : ez_H) (r : Nat) (se ro le de : Nat → Int32) (wa : Int32) (ww : Bool) (rw : Nat → Int32) (rm : Int32) (sp : Nat → Int32), IM h g th z sv sm bf ty (nI r) se ro le de wa ww rw rm sp (nI (fxs (isF T n' f L ln sg fl w u) (cF fl) i (fxt (isF T n' f L ln sg fl w u) (cF fl) (mF n' fl) i) k).1) (fxs (isF T n' f L ln sg fl w u) (cF fl) i (fxt (isF T n' f L ln sg fl w u) (cF fl) (mF n' fl) i) k).2 ha → (k ≤ mF n' fl) → E G mX8_fixed (d + 11) Q g n 0 0 49 [some (.ref 64), some (.int (nI w)), some (.int (nI u)), some (.int (nI what)), some (.int (bI fl)), some (.int (nI i)), some (.int (nI k))] []) ?_ 0 g _ _ _ _ _ _ _ _ _ _ hM (Nat.zero_le _)
        intro k ih49 g r se ro le de wa ww rw rm sp hM hk
        refine ez_iload (q := 51) dX8_fixed_49 rfl rfl ?_
        cases fl
        · have hq1 := fx_100 (is := isF T n' f L ln sg false w u) (c := cF false) (m := mF n' false) hn (Or.inr rfl) (i := i) hc43 hk
          have hmf : mF n' false = n' := rfl
          have hkm : k ≤ n' := hk
          have hke : n' ≤ k → k = n' := fun a => Nat.le_antisymm hk a
          have hzf := fun x => hz.turn ho (i := i) (by assumption) x
          have hzp := hz.2.2.2.1 i (by assumption)
          have hof : k < n' → OK n' f L (upN T i (T i ^^^ 2 ^ k)) ln sg := fun hk => ho.turn i (xo_lt (ho.2.2.2.1 i (by assumption)) hk)
          refine ez_iload (q := 53) dX8_fixed_51 rfl rfl ?_
          refine ez_ifeqB (q := 56) (tgt := 60) dX8_fixed_53 (by decide) rfl (fun hc53 => ?_) (fun hc53 => ?_)
          · first
            | exact absurd hc53 (by decide)
            | skip
              refine ez_aload_n (q := 61) 0 dX8_fixed_60 rfl rfl rfl ?_
              refine ez_getf (q := 64) dX8_fixed_61 fl_X8_7 hM.1 rfl rfl ?_
              refine ez_iconst (v := nI 0) (q := 65) dX8_fixed_64 (by decide) rfl ?_
              refine ez_iald (q := 66) dX8_fixed_65 hM.2.1 rfl (by omega) (by decide) rfl ?_
              refine ez_top (hn0) ?_
              refine ez_icmpgeN (q := 69) (tgt := 120) dX8_fixed_66 (by decide) (by omega) (by omega) rfl (fun hc66 => ?_) (fun hc66 => ?_)
              · have ek := hke hc66
                subst ek
                refine ez_iincN_5 (q := 123) dX8_fixed_120 (by decide) rfl rfl ?_
                refine ez_goto (q := 35) dX8_fixed_123 (by decide) ?_
                exact E.fg (ih35 (i + 1) (by omega) g _ _ _ _ _ _ _ _ _ _ hM (by omega)) ⟨Or.inr (rfl), Or.inr (rfl), Or.inr (rfl), Or.inr (rfl), Or.inr (rfl), Or.inr (rfl), Or.inl rfl, trivial⟩
              · refine ez_aload_n (q := 70) 0 dX8_fixed_69 rfl rfl rfl ?_
                refine ez_iload (q := 72) dX8_fixed_70 rfl rfl ?_
                refine ez_ifeqB (q := 75) (tgt := 79) dX8_fixed_72 (by decide) rfl (fun hc72 => ?_) (fun hc72 => ?_)
                · first
                  | exact absurd hc72 (by decide)
                  | skip
                    refine ez_bipush (v := nI 12) (q := 81) dX8_fixed_79 (by decide) rfl ?_
                    refine ez_iload (q := 83) dX8_fixed_81 rfl rfl ?_
                    refine ez_iaddN (q := 84) dX8_fixed_83 rfl ?_
                    refine ez_iload (q := 86) dX8_fixed_84 rfl rfl ?_
                    refine ez_iload_n (q := 87) 1 dX8_fixed_86 rfl rfl rfl ?_
                    refine ez_iload_n (q := 88) 2 dX8_fixed_87 rfl rfl rfl ?_
                    refine ez_iload (q := 90) dX8_fixed_88 rfl rfl ?_
                    refine ez_ifeqB (q := 93) (tgt := 103) dX8_fixed_90 (by decide) rfl (fun hc90 => ?_) (fun hc90 => ?_)
                    · first
                      | exact absurd hc90 (by decide)
                      | skip
                        refine ez_bipush (v := nI 10) (q := 105) dX8_fixed_103 (by decide) rfl ?_
                        refine ez_iload (q := 107) dX8_fixed_105 rfl rfl ?_
                        refine ez_imulN (q := 108) dX8_fixed_107 rfl ?_
                        refine ez_iload (q := 110) dX8_fixed_108 rfl rfl ?_
                        refine ez_iaddN (q := 111) dX8_fixed_110 rfl ?_
                        refine cX0 (q := 114) dX8_fixed_111 ck_X8_221 hM.1 (t_X8_tryFix hM.rb (by omega) hzp (hzf _) (hof hc66) hs hw (by omega) (by omega) (by omega) hq1) rfl ⟨by decide, rfl⟩ rfl rfl rfl (Nat.le_of_ble_eq_true rfl) rfl (fun g hW => ?_)
                        obtain ⟨r, se, ro, le, de, wa, ww, rw, rm, sp, hM2⟩ := hW
                        have hM := hM.tr hM2
                        refine ez_iincN_6 (q := 117) dX8_fixed_114 (by decide) rfl rfl ?_
                        refine ez_goto (q := 49) dX8_fixed_117 (by decide) ?_
                        exact E.fg (ih49 (k + 1) (by omega) g _ _ _ _ _ _ _ _ _ _ hM (by omega)) ⟨Or.inr (rfl), Or.inr (rfl), Or.inr (rfl), Or.inr (rfl), Or.inr (rfl), Or.inr (rfl), Or.inr (rfl), trivial⟩
                    · first
                      | exact absurd hc90 (by decide)
                      | skip
                        refine ez_iconst (v := nI 4) (q := 94) dX8_fixed_93 (by decide) rfl ?_
                        refine ez_iload (q := 96) dX8_fixed_94 rfl rfl ?_
                        refine ez_imulN (q := 97) dX8_fixed_96 rfl ?_
                        refine ez_iload (q := 99) dX8_fixed_97 rfl rfl ?_
                        refine ez_iaddN (q := 100) dX8_fixed_99 rfl ?_
                        refine ez_goto (q := 111) dX8_fixed_100 (by decide) ?_
                        refine cX0 (q := 114) dX8_fixed_111 ck_X8_221 hM.1 (t_X8_tryFix hM.rb (by omega) hzp (hzf _) (hof hc66) hs hw (by omega) (by omega) (by omega) hq1) rfl ⟨by decide, rfl⟩ rfl rfl rfl (Nat.le_of_ble_eq_true rfl) rfl (fun g hW => ?_)
                        obtain ⟨r, se, ro, le, de, wa, ww, rw, rm, sp, hM2⟩ := hW
                        have hM := hM.tr hM2
                        refine ez_iincN_6 (q := 117) dX8_fixed_114 (by decide) rfl rfl ?_
                        refine ez_goto (q := 49) dX8_fixed_117 (by decide) ?_
                        exact E.fg (ih49 (k + 1) (by omega) g _ _ _ _ _ _ _ _ _ _ hM (by omega)) ⟨Or.inr (rfl), Or.inr (rfl), Or.inr (rfl), Or.inr (rfl), Or.inr (rfl), Or.inr (rfl), Or.inr (rfl), trivial⟩
                · first
                  | exact absurd hc72 (by decide)
                  | skip
                    refine ez_iconst (v := nI 2) (q := 76) dX8_fixed_75 (by decide) rfl ?_
                    refine ez_goto (q := 81) dX8_fixed_76 (by decide) ?_
                    refine ez_iload (q := 83) dX8_fixed_81 rfl rfl ?_
                    refine ez_iaddN (q := 84) dX8_fixed_83 rfl ?_
                    refine ez_iload (q := 86) dX8_fixed_84 rfl rfl ?_
                    refine ez_iload_n (q := 87) 1 dX8_fixed_86 rfl rfl rfl ?_
                    refine ez_iload_n (q := 88) 2 dX8_fixed_87 rfl rfl rfl ?_
                    refine ez_iload (q := 90) dX8_fixed_88 rfl rfl ?_
                    refine ez_ifeqB (q := 93) (tgt := 103) dX8_fixed_90 (by decide) rfl (fun hc90 => ?_) (fun hc90 => ?_)
                    · first
                      | exact absurd hc90 (by decide)
                      | skip
                        refine ez_bipush (v := nI 10) (q := 105) dX8_fixed_103 (by decide) rfl ?_
                        refine ez_iload (q := 107) dX8_fixed_105 rfl rfl ?_
                        refine ez_imulN (q := 108) dX8_fixed_107 rfl ?_
                        refine ez_iload (q := 110) dX8_fixed_108 rfl rfl ?_
                        refine ez_iaddN (q := 111) dX8_fixed_110 rfl ?_
                        refine cX0 (q := 114) dX8_fixed_111 ck_X8_221 hM.1 (t_X8_tryFix hM.rb (by omega) hzp (hzf _) (hof hc66) hs hw (by omega) (by omega) (by omega) hq1) rfl ⟨by decide, rfl⟩ rfl rfl rfl (Nat.le_of_ble_eq_true rfl) rfl (fun g hW => ?_)
                        obtain ⟨r, se, ro, le, de, wa, ww, rw, rm, sp, hM2⟩ := hW
                        have hM := hM.tr hM2
                        refine ez_iincN_6 (q := 117) dX8_fixed_114 (by decide) rfl rfl ?_
                        refine ez_goto (q := 49) dX8_fixed_117 (by decide) ?_
                        exact E.fg (ih49 (k + 1) (by omega) g _ _ _ _ _ _ _ _ _ _ hM (by omega)) ⟨Or.inr (rfl), Or.inr (rfl), Or.inr (rfl), Or.inr (rfl), Or.inr (rfl), Or.inr (rfl), Or.inr (rfl), trivial⟩
                    · first
                      | exact absurd hc90 (by decide)
                      | skip
                        refine ez_iconst (v := nI 4) (q := 94) dX8_fixed_93 (by decide) rfl ?_
                        refine ez_iload (q := 96) dX8_fixed_94 rfl rfl ?_
                        refine ez_imulN (q := 97) dX8_fixed_96 rfl ?_
                        refine ez_iload (q := 99) dX8_fixed_97 rfl rfl ?_
                        refine ez_iaddN (q := 100) dX8_fixed_99 rfl ?_
                        refine ez_goto (q := 111) dX8_fixed_100 (by decide) ?_
                        refine cX0 (q := 114) dX8_fixed_111 ck_X8_221 hM.1 (t_X8_tryFix hM.rb (by omega) hzp (hzf _) (hof hc66) hs hw (by omega) (by omega) (by omega) hq1) rfl ⟨by decide, rfl⟩ rfl rfl rfl (Nat.le_of_ble_eq_true rfl) rfl (fun g hW => ?_)
                        obtain ⟨r, se, ro, le, de, wa, ww, rw, rm, sp, hM2⟩ := hW
                        have hM := hM.tr hM2
                        refine ez_iincN_6 (q := 117) dX8_fixed_114 (by decide) rfl rfl ?_
                        refine ez_goto (q := 49) dX8_fixed_117 (by decide) ?_
                        exact E.fg (ih49 (k + 1) (by omega) g _ _ _ _ _ _ _ _ _ _ hM (by omega)) ⟨Or.inr (rfl), Or.inr (rfl), Or.inr (rfl), Or.inr (rfl), Or.inr (rfl), Or.inr (rfl), Or.inr (rfl), trivial⟩
          · first
            | exact absurd hc53 (by decide)
            | skip
              refine ez_iconst (v := nI 4) (q := 57) dX8_fixed_56 (by decide) rfl ?_
              refine ez_goto (q := 66) dX8_fixed_57 (by decide) ?_
              refine ez_icmpgeN (q := 69) (tgt := 120) dX8_fixed_66 (by decide) (by omega) (by omega) rfl (fun hc66 => ?_) (fun hc66 => ?_)
              · have ek := hke hc66
                subst ek
                refine ez_iincN_5 (q := 123) dX8_fixed_120 (by decide) rfl rfl ?_
                refine ez_goto (q := 35) dX8_fixed_123 (by decide) ?_
                exact E.fg (ih35 (i + 1) (by omega) g _ _ _ _ _ _ _ _ _ _ hM (by omega)) ⟨Or.inr (rfl), Or.inr (rfl), Or.inr (rfl), Or.inr (rfl), Or.inr (rfl), Or.inr (rfl), Or.inl rfl, trivial⟩
              · refine ez_aload_n (q := 70) 0 dX8_fixed_69 rfl rfl rfl ?_
                refine ez_iload (q := 72) dX8_fixed_70 rfl rfl ?_
                refine ez_ifeqB (q := 75) (tgt := 79) dX8_fixed_72 (by decide) rfl (fun hc72 => ?_) (fun hc72 => ?_)
                · first
                  | exact absurd hc72 (by decide)
                  | skip
                    refine ez_bipush (v := nI 12) (q := 81) dX8_fixed_79 (by decide) rfl ?_
                    refine ez_iload (q := 83) dX8_fixed_81 rfl rfl ?_
                    refine ez_iaddN (q := 84) dX8_fixed_83 rfl ?_
                    refine ez_iload (q := 86) dX8_fixed_84 rfl rfl ?_
                    refine ez_iload_n (q := 87) 1 dX8_fixed_86 rfl rfl rfl ?_
                    refine ez_iload_n (q := 88) 2 dX8_fixed_87 rfl rfl rfl ?_
                    refine ez_iload (q := 90) dX8_fixed_88 rfl rfl ?_
                    refine ez_ifeqB (q := 93) (tgt := 103) dX8_fixed_90 (by decide) rfl (fun hc90 => ?_) (fun hc90 => ?_)
                    · first
                      | exact absurd hc90 (by decide)
                      | skip
                        refine ez_bipush (v := nI 10) (q := 105) dX8_fixed_103 (by decide) rfl ?_
                        refine ez_iload (q := 107) dX8_fixed_105 rfl rfl ?_
                        refine ez_imulN (q := 108) dX8_fixed_107 rfl ?_
                        refine ez_iload (q := 110) dX8_fixed_108 rfl rfl ?_
                        refine ez_iaddN (q := 111) dX8_fixed_110 rfl ?_
                        refine cX0 (q := 114) dX8_fixed_111 ck_X8_221 hM.1 (t_X8_tryFix hM.rb (by omega) hzp (hzf _) (hof hc66) hs hw (by omega) (by omega) (by omega) hq1) rfl ⟨by decide, rfl⟩ rfl rfl rfl (Nat.le_of_ble_eq_true rfl) rfl (fun g hW => ?_)
                        obtain ⟨r, se, ro, le, de, wa, ww, rw, rm, sp, hM2⟩ := hW
                        have hM := hM.tr hM2
                        refine ez_iincN_6 (q := 117) dX8_fixed_114 (by decide) rfl rfl ?_
                        refine ez_goto (q := 49) dX8_fixed_117 (by decide) ?_
                        exact E.fg (ih49 (k + 1) (by omega) g _ _ _ _ _ _ _ _ _ _ hM (by omega)) ⟨Or.inr (rfl), Or.inr (rfl), Or.inr (rfl), Or.inr (rfl), Or.inr (rfl), Or.inr (rfl), Or.inr (rfl), trivial⟩
                    · first
                      | exact absurd hc90 (by decide)
                      | skip
                        refine ez_iconst (v := nI 4) (q := 94) dX8_fixed_93 (by decide) rfl ?_
                        refine ez_iload (q := 96) dX8_fixed_94 rfl rfl ?_
                        refine ez_imulN (q := 97) dX8_fixed_96 rfl ?_
                        refine ez_iload (q := 99) dX8_fixed_97 rfl rfl ?_
                        refine ez_iaddN (q := 100) dX8_fixed_99 rfl ?_
                        refine ez_goto (q := 111) dX8_fixed_100 (by decide) ?_
                        refine cX0 (q := 114) dX8_fixed_111 ck_X8_221 hM.1 (t_X8_tryFix hM.rb (by omega) hzp (hzf _) (hof hc66) hs hw (by omega) (by omega) (by omega) hq1) rfl ⟨by decide, rfl⟩ rfl rfl rfl (Nat.le_of_ble_eq_true rfl) rfl (fun g hW => ?_)
                        obtain ⟨r, se, ro, le, de, wa, ww, rw, rm, sp, hM2⟩ := hW
                        have hM := hM.tr hM2
                        refine ez_iincN_6 (q := 117) dX8_fixed_114 (by decide) rfl rfl ?_
                        refine ez_goto (q := 49) dX8_fixed_117 (by decide) ?_
                        exact E.fg (ih49 (k + 1) (by omega) g _ _ _ _ _ _ _ _ _ _ hM (by omega)) ⟨Or.inr (rfl), Or.inr (rfl), Or.inr (rfl), Or.inr (rfl), Or.inr (rfl), Or.inr (rfl), Or.inr (rfl), trivial⟩
                · first
                  | exact absurd hc72 (by decide)
                  | skip
                    refine ez_iconst (v := nI 2) (q := 76) dX8_fixed_75 (by decide) rfl ?_
                    refine ez_goto (q := 81) dX8_fixed_76 (by decide) ?_
                    refine ez_iload (q := 83) dX8_fixed_81 rfl rfl ?_
                    refine ez_iaddN (q := 84) dX8_fixed_83 rfl ?_
                    refine ez_iload (q := 86) dX8_fixed_84 rfl rfl ?_
                    refine ez_iload_n (q := 87) 1 dX8_fixed_86 rfl rfl rfl ?_
                    refine ez_iload_n (q := 88) 2 dX8_fixed_87 rfl rfl rfl ?_
                    refine ez_iload (q := 90) dX8_fixed_88 rfl rfl ?_
                    refine ez_ifeqB (q := 93) (tgt := 103) dX8_fixed_90 (by decide) rfl (fun hc90 => ?_) (fun hc90 => ?_)
                    · first
                      | exact absurd hc90 (by decide)
                      | skip
                        refine ez_bipush (v := nI 10) (q := 105) dX8_fixed_103 (by decide) rfl ?_
                        refine ez_iload (q := 107) dX8_fixed_105 rfl rfl ?_
                        refine ez_imulN (q := 108) dX8_fixed_107 rfl ?_
                        refine ez_iload (q := 110) dX8_fixed_108 rfl rfl ?_
                        refine ez_iaddN (q := 111) dX8_fixed_110 rfl ?_
                        refine cX0 (q := 114) dX8_fixed_111 ck_X8_221 hM.1 (t_X8_tryFix hM.rb (by omega) hzp (hzf _) (hof hc66) hs hw (by omega) (by omega) (by omega) hq1) rfl ⟨by decide, rfl⟩ rfl rfl rfl (Nat.le_of_ble_eq_true rfl) rfl (fun g hW => ?_)
                        obtain ⟨r, se, ro, le, de, wa, ww, rw, rm, sp, hM2⟩ := hW
                        have hM := hM.tr hM2
                        refine ez_iincN_6 (q := 117) dX8_fixed_114 (by decide) rfl rfl ?_
                        refine ez_goto (q := 49) dX8_fixed_117 (by decide) ?_
                        exact E.fg (ih49 (k + 1) (by omega) g _ _ _ _ _ _ _ _ _ _ hM (by omega)) ⟨Or.inr (rfl), Or.inr (rfl), Or.inr (rfl), Or.inr (rfl), Or.inr (rfl), Or.inr (rfl), Or.inr (rfl), trivial⟩
                    · first
                      | exact absurd hc90 (by decide)
                      | skip
                        refine ez_iconst (v := nI 4) (q := 94) dX8_fixed_93 (by decide) rfl ?_
                        refine ez_iload (q := 96) dX8_fixed_94 rfl rfl ?_
                        refine ez_imulN (q := 97) dX8_fixed_96 rfl ?_
                        refine ez_iload (q := 99) dX8_fixed_97 rfl rfl ?_
                        refine ez_iaddN (q := 100) dX8_fixed_99 rfl ?_
                        refine ez_goto (q := 111) dX8_fixed_100 (by decide) ?_
                        refine cX0 (q := 114) dX8_fixed_111 ck_X8_221 hM.1 (t_X8_tryFix hM.rb (by omega) hzp (hzf _) (hof hc66) hs hw (by omega) (by omega) (by omega) hq1) rfl ⟨by decide, rfl⟩ rfl rfl rfl (Nat.le_of_ble_eq_true rfl) rfl (fun g hW => ?_)
                        obtain ⟨r, se, ro, le, de, wa, ww, rw, rm, sp, hM2⟩ := hW
                        have hM := hM.tr hM2
                        refine ez_iincN_6 (q := 117) dX8_fixed_114 (by decide) rfl rfl ?_
                        refine ez_goto (q := 49) dX8_fixed_117 (by decide) ?_
                        exact E.fg (ih49 (k + 1) (by omega) g _ _ _ _ _ _ _ _ _ _ hM (by omega)) ⟨Or.inr (rfl), Or.inr (rfl), Or.inr (rfl), Or.inr (rfl), Or.inr (rfl), Or.inr (rfl), Or.inr (rfl), trivial⟩
        · have hq1 := fx_100 (is := isF T n' f L ln sg true w u) (c := cF true) (m := mF n' true) hn (Or.inl rfl) (i := i) hc43 hk
          have hmf : mF n' true = 4 := rfl
          have hkm : k ≤ 4 := hk
          have hke : 4 ≤ k → k = 4 := fun a => Nat.le_antisymm hk a
          have hzf := fun x => hz.flip ho (i := i) (by assumption) x
          have hzp := hz.2.2.1 i (by assumption)
          have hof : k < 4 → OK n' f (upN L i (L i ^^^ 2 ^ k)) T ln sg := fun hk => ho.flip i (xo_lt (k := 4) (ho.2.2.1 i (by assumption)) hk)
          refine ez_iload (q := 53) dX8_fixed_51 rfl rfl ?_
          refine ez_ifeqB (q := 56) (tgt := 60) dX8_fixed_53 (by decide) rfl (fun hc53 => ?_) (fun hc53 => ?_)
          · first
            | exact absurd hc53 (by decide)
            | skip
              refine ez_aload_n (q := 61) 0 dX8_fixed_60 rfl rfl rfl ?_
              refine ez_getf (q := 64) dX8_fixed_61 fl_X8_7 hM.1 rfl rfl ?_
              refine ez_iconst (v := nI 0) (q := 65) dX8_fixed_64 (by decide) rfl ?_
              refine ez_iald (q := 66) dX8_fixed_65 hM.2.1 rfl (by omega) (by decide) rfl ?_
              refine ez_top (hn0) ?_
              refine ez_icmpgeN (q := 69) (tgt := 120) dX8_fixed_66 (by decide) (by omega) (by omega) rfl (fun hc66 => ?_) (fun hc66 => ?_)
              · have ek := hke hc66
                subst ek
                refine ez_iincN_5 (q := 123) dX8_fixed_120 (by decide) rfl rfl ?_
                refine ez_goto (q := 35) dX8_fixed_123 (by decide) ?_
                exact E.fg (ih35 (i + 1) (by omega) g _ _ _ _ _ _ _ _ _ _ hM (by omega)) ⟨Or.inr (rfl), Or.inr (rfl), Or.inr (rfl), Or.inr (rfl), Or.inr (rfl), Or.inr (rfl), Or.inl rfl, trivial⟩
              · refine ez_aload_n (q := 70) 0 dX8_fixed_69 rfl rfl rfl ?_
                refine ez_iload (q := 72) dX8_fixed_70 rfl rfl ?_
                refine ez_ifeqB (q := 75) (tgt := 79) dX8_fixed_72 (by decide) rfl (fun hc72 => ?_) (fun hc72 => ?_)
                · first
                  | exact absurd hc72 (by decide)
                  | skip
                    refine ez_bipush (v := nI 12) (q := 81) dX8_fixed_79 (by decide) rfl ?_
                    refine ez_iload (q := 83) dX8_fixed_81 rfl rfl ?_
                    refine ez_iaddN (q := 84) dX8_fixed_83 rfl ?_
                    refine ez_iload (q := 86) dX8_fixed_84 rfl rfl ?_
                    refine ez_iload_n (q := 87) 1 dX8_fixed_86 rfl rfl rfl ?_
                    refine ez_iload_n (q := 88) 2 dX8_fixed_87 rfl rfl rfl ?_
                    refine ez_iload (q := 90) dX8_fixed_88 rfl rfl ?_
                    refine ez_ifeqB (q := 93) (tgt := 103) dX8_fixed_90 (by decide) rfl (fun hc90 => ?_) (fun hc90 => ?_)
                    · first
                      | exact absurd hc90 (by decide)
                      | skip
                        refine ez_bipush (v := nI 10) (q := 105) dX8_fixed_103 (by decide) rfl ?_
                        refine ez_iload (q := 107) dX8_fixed_105 rfl rfl ?_
                        refine ez_imulN (q := 108) dX8_fixed_107 rfl ?_
                        refine ez_iload (q := 110) dX8_fixed_108 rfl rfl ?_
                        refine ez_iaddN (q := 111) dX8_fixed_110 rfl ?_
                        refine cX0 (q := 114) dX8_fixed_111 ck_X8_221 hM.1 (t_X8_tryFix hM.rb (by omega) hzp (hzf _) (hof hc66) hs hw (by omega) (by omega) (by omega) hq1) rfl ⟨by decide, rfl⟩ rfl rfl rfl (Nat.le_of_ble_eq_true rfl) rfl (fun g hW => ?_)
                        obtain ⟨r, se, ro, le, de, wa, ww, rw, rm, sp, hM2⟩ := hW
                        have hM := hM.tr hM2
                        refine ez_iincN_6 (q := 117) dX8_fixed_114 (by decide) rfl rfl ?_
                        refine ez_goto (q := 49) dX8_fixed_117 (by decide) ?_
                        exact E.fg (ih49 (k + 1) (by omega) g _ _ _ _ _ _ _ _ _ _ hM (by omega)) ⟨Or.inr (rfl), Or.inr (rfl), Or.inr (rfl), Or.inr (rfl), Or.inr (rfl), Or.inr (rfl), Or.inr (rfl), trivial⟩
                    · first
                      | exact absurd hc90 (by decide)
                      | skip
                        refine ez_iconst (v := nI 4) (q := 94) dX8_fixed_93 (by decide) rfl ?_
                        refine ez_iload (q := 96) dX8_fixed_94 rfl rfl ?_
                        refine ez_imulN (q := 97) dX8_fixed_96 rfl ?_
                        refine ez_iload (q := 99) dX8_fixed_97 rfl rfl ?_
                        refine ez_iaddN (q := 100) dX8_fixed_99 rfl ?_
                        refine ez_goto (q := 111) dX8_fixed_100 (by decide) ?_
                        refine cX0 (q := 114) dX8_fixed_111 ck_X8_221 hM.1 (t_X8_tryFix hM.rb (by omega) hzp (hzf _) (hof hc66) hs hw (by omega) (by omega) (by omega) hq1) rfl ⟨by decide, rfl⟩ rfl rfl rfl (Nat.le_of_ble_eq_true rfl) rfl (fun g hW => ?_)
                        obtain ⟨r, se, ro, le, de, wa, ww, rw, rm, sp, hM2⟩ := hW
                        have hM := hM.tr hM2
                        refine ez_iincN_6 (q := 117) dX8_fixed_114 (by decide) rfl rfl ?_
                        refine ez_goto (q := 49) dX8_fixed_117 (by decide) ?_
                        exact E.fg (ih49 (k + 1) (by omega) g _ _ _ _ _ _ _ _ _ _ hM (by omega)) ⟨Or.inr (rfl), Or.inr (rfl), Or.inr (rfl), Or.inr (rfl), Or.inr (rfl), Or.inr (rfl), Or.inr (rfl), trivial⟩
                · first
                  | exact absurd hc72 (by decide)
                  | skip
                    refine ez_iconst (v := nI 2) (q := 76) dX8_fixed_75 (by decide) rfl ?_
                    refine ez_goto (q := 81) dX8_fixed_76 (by decide) ?_
                    refine ez_iload (q := 83) dX8_fixed_81 rfl rfl ?_
                    refine ez_iaddN (q := 84) dX8_fixed_83 rfl ?_
                    refine ez_iload (q := 86) dX8_fixed_84 rfl rfl ?_
                    refine ez_iload_n (q := 87) 1 dX8_fixed_86 rfl rfl rfl ?_
                    refine ez_iload_n (q := 88) 2 dX8_fixed_87 rfl rfl rfl ?_
                    refine ez_iload (q := 90) dX8_fixed_88 rfl rfl ?_
                    refine ez_ifeqB (q := 93) (tgt := 103) dX8_fixed_90 (by decide) rfl (fun hc90 => ?_) (fun hc90 => ?_)
                    · first
                      | exact absurd hc90 (by decide)
                      | skip
                        refine ez_bipush (v := nI 10) (q := 105) dX8_fixed_103 (by decide) rfl ?_
                        refine ez_iload (q := 107) dX8_fixed_105 rfl rfl ?_
                        refine ez_imulN (q := 108) dX8_fixed_107 rfl ?_
                        refine ez_iload (q := 110) dX8_fixed_108 rfl rfl ?_
                        refine ez_iaddN (q := 111) dX8_fixed_110 rfl ?_
                        refine cX0 (q := 114) dX8_fixed_111 ck_X8_221 hM.1 (t_X8_tryFix hM.rb (by omega) hzp (hzf _) (hof hc66) hs hw (by omega) (by omega) (by omega) hq1) rfl ⟨by decide, rfl⟩ rfl rfl rfl (Nat.le_of_ble_eq_true rfl) rfl (fun g hW => ?_)
                        obtain ⟨r, se, ro, le, de, wa, ww, rw, rm, sp, hM2⟩ := hW
                        have hM := hM.tr hM2
                        refine ez_iincN_6 (q := 117) dX8_fixed_114 (by decide) rfl rfl ?_
                        refine ez_goto (q := 49) dX8_fixed_117 (by decide) ?_
                        exact E.fg (ih49 (k + 1) (by omega) g _ _ _ _ _ _ _ _ _ _ hM (by omega)) ⟨Or.inr (rfl), Or.inr (rfl), Or.inr (rfl), Or.inr (rfl), Or.inr (rfl), Or.inr (rfl), Or.inr (rfl), trivial⟩
                    · first
                      | exact absurd hc90 (by decide)
                      | skip
                        refine ez_iconst (v := nI 4) (q := 94) dX8_fixed_93 (by decide) rfl ?_
                        refine ez_iload (q := 96) dX8_fixed_94 rfl rfl ?_
                        refine ez_imulN (q := 97) dX8_fixed_96 rfl ?_
                        refine ez_iload (q := 99) dX8_fixed_97 rfl rfl ?_
                        refine ez_iaddN (q := 100) dX8_fixed_99 rfl ?_
                        refine ez_goto (q := 111) dX8_fixed_100 (by decide) ?_
                        refine cX0 (q := 114) dX8_fixed_111 ck_X8_221 hM.1 (t_X8_tryFix hM.rb (by omega) hzp (hzf _) (hof hc66) hs hw (by omega) (by omega) (by omega) hq1) rfl ⟨by decide, rfl⟩ rfl rfl rfl (Nat.le_of_ble_eq_true rfl) rfl (fun g hW => ?_)
                        obtain ⟨r, se, ro, le, de, wa, ww, rw, rm, sp, hM2⟩ := hW
                        have hM := hM.tr hM2
                        refine ez_iincN_6 (q := 117) dX8_fixed_114 (by decide) rfl rfl ?_
                        refine ez_goto (q := 49) dX8_fixed_117 (by decide) ?_
                        exact E.fg (ih49 (k + 1) (by omega) g _ _ _ _ _ _ _ _ _ _ hM (by omega)) ⟨Or.inr (rfl), Or.inr (rfl), Or.inr (rfl), Or.inr (rfl), Or.inr (rfl), Or.inr (rfl), Or.inr (rfl), trivial⟩
          · first
            | exact absurd hc53 (by decide)
            | skip
              refine ez_iconst (v := nI 4) (q := 57) dX8_fixed_56 (by decide) rfl ?_
              refine ez_goto (q := 66) dX8_fixed_57 (by decide) ?_
              refine ez_icmpgeN (q := 69) (tgt := 120) dX8_fixed_66 (by decide) (by omega) (by omega) rfl (fun hc66 => ?_) (fun hc66 => ?_)
              · have ek := hke hc66
                subst ek
                refine ez_iincN_5 (q := 123) dX8_fixed_120 (by decide) rfl rfl ?_
                refine ez_goto (q := 35) dX8_fixed_123 (by decide) ?_
                exact E.fg (ih35 (i + 1) (by omega) g _ _ _ _ _ _ _ _ _ _ hM (by omega)) ⟨Or.inr (rfl), Or.inr (rfl), Or.inr (rfl), Or.inr (rfl), Or.inr (rfl), Or.inr (rfl), Or.inl rfl, trivial⟩
              · refine ez_aload_n (q := 70) 0 dX8_fixed_69 rfl rfl rfl ?_
                refine ez_iload (q := 72) dX8_fixed_70 rfl rfl ?_
                refine ez_ifeqB (q := 75) (tgt := 79) dX8_fixed_72 (by decide) rfl (fun hc72 => ?_) (fun hc72 => ?_)
                · first
                  | exact absurd hc72 (by decide)
                  | skip
                    refine ez_bipush (v := nI 12) (q := 81) dX8_fixed_79 (by decide) rfl ?_
                    refine ez_iload (q := 83) dX8_fixed_81 rfl rfl ?_
                    refine ez_iaddN (q := 84) dX8_fixed_83 rfl ?_
                    refine ez_iload (q := 86) dX8_fixed_84 rfl rfl ?_
                    refine ez_iload_n (q := 87) 1 dX8_fixed_86 rfl rfl rfl ?_
                    refine ez_iload_n (q := 88) 2 dX8_fixed_87 rfl rfl rfl ?_
                    refine ez_iload (q := 90) dX8_fixed_88 rfl rfl ?_
                    refine ez_ifeqB (q := 93) (tgt := 103) dX8_fixed_90 (by decide) rfl (fun hc90 => ?_) (fun hc90 => ?_)
                    · first
                      | exact absurd hc90 (by decide)
                      | skip
                        refine ez_bipush (v := nI 10) (q := 105) dX8_fixed_103 (by decide) rfl ?_
                        refine ez_iload (q := 107) dX8_fixed_105 rfl rfl ?_
                        refine ez_imulN (q := 108) dX8_fixed_107 rfl ?_
                        refine ez_iload (q := 110) dX8_fixed_108 rfl rfl ?_
                        refine ez_iaddN (q := 111) dX8_fixed_110 rfl ?_
                        refine cX0 (q := 114) dX8_fixed_111 ck_X8_221 hM.1 (t_X8_tryFix hM.rb (by omega) hzp (hzf _) (hof hc66) hs hw (by omega) (by omega) (by omega) hq1) rfl ⟨by decide, rfl⟩ rfl rfl rfl (Nat.le_of_ble_eq_true rfl) rfl (fun g hW => ?_)
                        obtain ⟨r, se, ro, le, de, wa, ww, rw, rm, sp, hM2⟩ := hW
                        have hM := hM.tr hM2
                        refine ez_iincN_6 (q := 117) dX8_fixed_114 (by decide) rfl rfl ?_
                        refine ez_goto (q := 49) dX8_fixed_117 (by decide) ?_
                        exact E.fg (ih49 (k + 1) (by omega) g _ _ _ _ _ _ _ _ _ _ hM (by omega)) ⟨Or.inr (rfl), Or.inr (rfl), Or.inr (rfl), Or.inr (rfl), Or.inr (rfl), Or.inr (rfl), Or.inr (rfl), trivial⟩
                    · first
                      | exact absurd hc90 (by decide)
                      | skip
                        refine ez_iconst (v := nI 4) (q := 94) dX8_fixed_93 (by decide) rfl ?_
                        refine ez_iload (q := 96) dX8_fixed_94 rfl rfl ?_
                        refine ez_imulN (q := 97) dX8_fixed_96 rfl ?_
                        refine ez_iload (q := 99) dX8_fixed_97 rfl rfl ?_
                        refine ez_iaddN (q := 100) dX8_fixed_99 rfl ?_
                        refine ez_goto (q := 111) dX8_fixed_100 (by decide) ?_
                        refine cX0 (q := 114) dX8_fixed_111 ck_X8_221 hM.1 (t_X8_tryFix hM.rb (by omega) hzp (hzf _) (hof hc66) hs hw (by omega) (by omega) (by omega) hq1) rfl ⟨by decide, rfl⟩ rfl rfl rfl (Nat.le_of_ble_eq_true rfl) rfl (fun g hW => ?_)
                        obtain ⟨r, se, ro, le, de, wa, ww, rw, rm, sp, hM2⟩ := hW
                        have hM := hM.tr hM2
                        refine ez_iincN_6 (q := 117) dX8_fixed_114 (by decide) rfl rfl ?_
                        refine ez_goto (q := 49) dX8_fixed_117 (by decide) ?_
                        exact E.fg (ih49 (k + 1) (by omega) g _ _ _ _ _ _ _ _ _ _ hM (by omega)) ⟨Or.inr (rfl), Or.inr (rfl), Or.inr (rfl), Or.inr (rfl), Or.inr (rfl), Or.inr (rfl), Or.inr (rfl), trivial⟩
                · first
                  | exact absurd hc72 (by decide)
                  | skip
                    refine ez_iconst (v := nI 2) (q := 76) dX8_fixed_75 (by decide) rfl ?_
                    refine ez_goto (q := 81) dX8_fixed_76 (by decide) ?_
                    refine ez_iload (q := 83) dX8_fixed_81 rfl rfl ?_
                    refine ez_iaddN (q := 84) dX8_fixed_83 rfl ?_
                    refine ez_iload (q := 86) dX8_fixed_84 rfl rfl ?_
                    refine ez_iload_n (q := 87) 1 dX8_fixed_86 rfl rfl rfl ?_
                    refine ez_iload_n (q := 88) 2 dX8_fixed_87 rfl rfl rfl ?_
                    refine ez_iload (q := 90) dX8_fixed_88 rfl rfl ?_
                    refine ez_ifeqB (q := 93) (tgt := 103) dX8_fixed_90 (by decide) rfl (fun hc90 => ?_) (fun hc90 => ?_)
                    · first
                      | exact absurd hc90 (by decide)
                      | skip
                        refine ez_bipush (v := nI 10) (q := 105) dX8_fixed_103 (by decide) rfl ?_
                        refine ez_iload (q := 107) dX8_fixed_105 rfl rfl ?_
                        refine ez_imulN (q := 108) dX8_fixed_107 rfl ?_
                        refine ez_iload (q := 110) dX8_fixed_108 rfl rfl ?_
                        refine ez_iaddN (q := 111) dX8_fixed_110 rfl ?_
                        refine cX0 (q := 114) dX8_fixed_111 ck_X8_221 hM.1 (t_X8_tryFix hM.rb (by omega) hzp (hzf _) (hof hc66) hs hw (by omega) (by omega) (by omega) hq1) rfl ⟨by decide, rfl⟩ rfl rfl rfl (Nat.le_of_ble_eq_true rfl) rfl (fun g hW => ?_)
                        obtain ⟨r, se, ro, le, de, wa, ww, rw, rm, sp, hM2⟩ := hW
                        have hM := hM.tr hM2
                        refine ez_iincN_6 (q := 117) dX8_fixed_114 (by decide) rfl rfl ?_
                        refine ez_goto (q := 49) dX8_fixed_117 (by decide) ?_
                        exact E.fg (ih49 (k + 1) (by omega) g _ _ _ _ _ _ _ _ _ _ hM (by omega)) ⟨Or.inr (rfl), Or.inr (rfl), Or.inr (rfl), Or.inr (rfl), Or.inr (rfl), Or.inr (rfl), Or.inr (rfl), trivial⟩
                    · first
                      | exact absurd hc90 (by decide)
                      | skip
                        refine ez_iconst (v := nI 4) (q := 94) dX8_fixed_93 (by decide) rfl ?_
                        refine ez_iload (q := 96) dX8_fixed_94 rfl rfl ?_
                        refine ez_imulN (q := 97) dX8_fixed_96 rfl ?_
                        refine ez_iload (q := 99) dX8_fixed_97 rfl rfl ?_
                        refine ez_iaddN (q := 100) dX8_fixed_99 rfl ?_
                        refine ez_goto (q := 111) dX8_fixed_100 (by decide) ?_
                        refine cX0 (q := 114) dX8_fixed_111 ck_X8_221 hM.1 (t_X8_tryFix hM.rb (by omega) hzp (hzf _) (hof hc66) hs hw (by omega) (by omega) (by omega) hq1) rfl ⟨by decide, rfl⟩ rfl rfl rfl (Nat.le_of_ble_eq_true rfl) rfl (fun g hW => ?_)
                        obtain ⟨r, se, ro, le, de, wa, ww, rw, rm, sp, hM2⟩ := hW
                        have hM := hM.tr hM2
                        refine ez_iincN_6 (q := 117) dX8_fixed_114 (by decide) rfl rfl ?_
                        refine ez_goto (q := 49) dX8_fixed_117 (by decide) ?_
                        exact E.fg (ih49 (k + 1) (by omega) g _ _ _ _ _ _ _ _ _ _ hM (by omega)) ⟨Or.inr (rfl), Or.inr (rfl), Or.inr (rfl), Or.inr (rfl), Or.inr (rfl), Or.inr (rfl), Or.inr (rfl), trivial⟩
    refine ez_iload_n (q := 21) 3 dX8_fixed_20 rfl rfl rfl ?_
    refine ez_iconst (v := nI 2) (q := 22) dX8_fixed_21 (by decide) rfl ?_
    refine ez_icmpgeN (q := 25) (tgt := 29) dX8_fixed_22 (by decide) (by omega) (by omega) rfl (fun hc22 => ?_) (fun hc22 => ?_)
    · rw [decide_eq_false (by omega)] at hQ
      refine ez_iconst (v := nI 0) (q := 30) dX8_fixed_29 (by decide) rfl ?_
      refine ez_istore_4 (q := 32) dX8_fixed_30 (by decide) rfl rfl ?_
      first | exact E.fg (k32 _ true hM hQ) ⟨Or.inr (rfl), Or.inr (rfl), Or.inr (rfl), Or.inr (rfl), Or.inr (rfl), Or.inl rfl, Or.inl rfl, trivial⟩ | exact E.fg (k32 _ false hM hQ) ⟨Or.inr (rfl), Or.inr (rfl), Or.inr (rfl), Or.inr (rfl), Or.inr (rfl), Or.inl rfl, Or.inl rfl, trivial⟩
    · rw [decide_eq_true hc22] at hQ
      refine ez_iconst (v := nI 1) (q := 26) dX8_fixed_25 (by decide) rfl ?_
      refine ez_goto (q := 30) dX8_fixed_26 (by decide) ?_
      refine ez_istore_4 (q := 32) dX8_fixed_30 (by decide) rfl rfl ?_
      first | exact E.fg (k32 _ true hM hQ) ⟨Or.inr (rfl), Or.inr (rfl), Or.inr (rfl), Or.inr (rfl), Or.inr (rfl), Or.inl rfl, Or.inl rfl, trivial⟩ | exact E.fg (k32 _ false hM hQ) ⟨Or.inr (rfl), Or.inr (rfl), Or.inr (rfl), Or.inr (rfl), Or.inr (rfl), Or.inl rfl, Or.inl rfl, trivial⟩
  · rw [fxI, if_pos hc5] at hQ
    refine ez_iconst (v := -1) (q := 9) dX8_fixed_8 (by decide) rfl ?_
    exact ez_iret dX8_fixed_9 rfl (hQ _ ⟨_, _, _, _, _, _, _, _, _, _, _, _, hM⟩)

def cdF (n : Nat) (w u what : Int32) : Nat := if inB w 0 3 = true ∧ inB u 0 (n - 1) = true then (if inB what 0 3 = true then 0 else 2) else 1
set_option maxHeartbeats 800000 in
set_option maxRecDepth 100000 in
theorem t_X8_fixes {G : ez_G} {d n : Nat} {h : ez_H} {n' f : Nat} {L T ln : Nat → Nat} {sg : Nat → Nat → Nat} {w u what : Int32} {r : Nat} {th sm ty wa rm fm ff : Int32} {z sv bf se ro le de rw sp : Nat → Int32} {ww : Bool} {ha : Int64} (hM : IM h h th z sv sm bf ty (nI r) se ro le de wa ww rw rm sp fm ff ha) (hz : ZZ z n' f L T ln sg) (ho : OK n' f L T ln sg) (hs : WFS ln sg) : Con G mX8_fixes (d + 12) [.ref 64, .int w, .int u, .int what] h n 0 0 (PW n (some (.int (aW (cdF n' w u what) (fxI T n' f L ln sg (nn w) (nn u) (nn what))))) (fun g => MB h g (nI (cdF n' w u what)) z sv sm bf ty ha)) := by
  have hn := ho.1
  have hn0 := hz.1
  refine Con.of [some (.ref 64), some (.int w), some (.int u), some (.int what)] pl_X8 rfl (Nat.le_of_ble_eq_true rfl) rfl ?_
  have hQ : ∀ g, MB h g (nI (cdF n' w u what)) z sv sm bf ty ha → (PW n (some (.int (aW (cdF n' w u what) (fxI T n' f L ln sg (nn w) (nn u) (nn what))))) (fun g => MB h g (nI (cdF n' w u what)) z sv sm bf ty ha)) (.inl (some (.int (aW (cdF n' w u what) (fxI T n' f L ln sg (nn w) (nn u) (nn what)))))) g n := fun g hW => ⟨rfl, hW, rfl⟩
  generalize PW n (some (.int (aW (cdF n' w u what) (fxI T n' f L ln sg (nn w) (nn u) (nn what))))) (fun g => MB h g (nI (cdF n' w u what)) z sv sm bf ty ha) = Q at hQ ⊢
  refine ez_aload_n (q := 1) 0 dX8_fixes_0 rfl rfl rfl ?_
  refine ez_iload_n (q := 2) 1 dX8_fixes_1 rfl rfl rfl ?_
  refine cUv (q := 5) dX8_fixes_2 ck_X8_134 (t_X8_isWish) rfl rfl rfl (Nat.le_of_ble_eq_true rfl) rfl ?_
  refine ez_ifeqB (q := 8) (tgt := 16) dX8_fixes_5 (by decide) rfl (fun hc5 => ?_) (fun hc5 => ?_)
  · rw [show cdF n' w u what = 1 from by simp [cdF, hc5]] at hQ
    refine ez_iconst (v := nI 1) (q := 17) dX8_fixes_16 (by decide) rfl ?_
    refine ez_goto (q := 34) dX8_fixes_17 (by decide) ?_
    refine pM_th (q := 37) dX8_fixes_34 fl_X8_37 hM rfl (fun g hM => ?_)
    refine ez_aload_n (q := 38) 0 dX8_fixes_37 rfl rfl rfl ?_
    refine ez_getf (q := 41) dX8_fixes_38 fl_X8_37 hM.1 rfl rfl ?_
    refine ez_ifleN (q := 44) (tgt := 48) dX8_fixes_41 (by decide) (by decide) rfl (fun hc41 => ?_) (fun hc41 => ?_)
    · first
      | exact absurd hc41 (by decide)
      | skip
        refine ez_aload_n (q := 49) 0 dX8_fixes_48 rfl rfl rfl ?_
        refine ez_iload_n (q := 50) 1 dX8_fixes_49 rfl rfl rfl ?_
        refine ez_iload_n (q := 51) 2 dX8_fixes_50 rfl rfl rfl ?_
        refine ez_iload_n (q := 52) 3 dX8_fixes_51 rfl rfl rfl ?_
        refine cXv (q := 55) dX8_fixes_52 ck_X8_225 hM.1 (t_X8_fixed hM.rb hz ho hs (by omega) (by omega) (by omega)) rfl ⟨by decide, rfl⟩ rfl rfl rfl (Nat.le_of_ble_eq_true rfl) rfl (fun g hW => ?_)
        obtain ⟨r, se, ro, le, de, wa, ww, rw, rm, sp, fm, ff, hM2⟩ := hW
        have hM := hM.tr hM2
        exact ez_iret dX8_fixes_55 rfl (hQ _ ⟨_, _, _, _, _, _, _, _, _, _, _, _, hM⟩)
    · first
      | exact absurd hc41 (by decide)
      | skip
        refine ez_iconst (v := nI 0) (q := 45) dX8_fixes_44 (by decide) rfl ?_
        refine ez_goto (q := 55) dX8_fixes_45 (by decide) ?_
        exact ez_iret dX8_fixes_55 rfl (hQ _ ⟨_, _, _, _, _, _, _, _, _, _, _, _, hM⟩)
  · refine ez_aload_n (q := 9) 0 dX8_fixes_8 rfl rfl rfl ?_
    refine ez_iload_n (q := 10) 2 dX8_fixes_9 rfl rfl rfl ?_
    refine cMv (q := 13) dX8_fixes_10 ck_X8_51 hM (t_X8_isWorld hM.rb hz ho) rfl rfl rfl rfl rfl (Nat.le_of_ble_eq_true rfl) rfl (fun g hM => ?_)
    refine ez_ifneB (q := 16) (tgt := 20) dX8_fixes_13 (by decide) rfl (fun hc13 => ?_) (fun hc13 => ?_)
    · refine ez_iload_n (q := 21) 3 dX8_fixes_20 rfl rfl rfl ?_
      refine ez_iconst (v := nI 0) (q := 22) dX8_fixes_21 (by decide) rfl ?_
      refine ez_iconst (v := nI 3) (q := 23) dX8_fixes_22 (by decide) rfl ?_
      refine cUv (q := 26) dX8_fixes_23 ck_X8_41 (t_X8_in (a := 0) (b := 3) (by decide) (by decide)) rfl rfl rfl (Nat.le_of_ble_eq_true rfl) rfl ?_
      refine ez_ifeqB (q := 29) (tgt := 33) dX8_fixes_26 (by decide) rfl (fun hc26 => ?_) (fun hc26 => ?_)
      · rw [show cdF n' w u what = 2 from by simp [cdF, hc5, hc13, hc26]] at hQ
        refine ez_iconst (v := nI 2) (q := 34) dX8_fixes_33 (by decide) rfl ?_
        refine pM_th (q := 37) dX8_fixes_34 fl_X8_37 hM rfl (fun g hM => ?_)
        refine ez_aload_n (q := 38) 0 dX8_fixes_37 rfl rfl rfl ?_
        refine ez_getf (q := 41) dX8_fixes_38 fl_X8_37 hM.1 rfl rfl ?_
        refine ez_ifleN (q := 44) (tgt := 48) dX8_fixes_41 (by decide) (by decide) rfl (fun hc41 => ?_) (fun hc41 => ?_)
        · first
          | exact absurd hc41 (by decide)
          | skip
            refine ez_aload_n (q := 49) 0 dX8_fixes_48 rfl rfl rfl ?_
            refine ez_iload_n (q := 50) 1 dX8_fixes_49 rfl rfl rfl ?_
            refine ez_iload_n (q := 51) 2 dX8_fixes_50 rfl rfl rfl ?_
            refine ez_iload_n (q := 52) 3 dX8_fixes_51 rfl rfl rfl ?_
            refine cXv (q := 55) dX8_fixes_52 ck_X8_225 hM.1 (t_X8_fixed hM.rb hz ho hs (by omega) (by omega) (by omega)) rfl ⟨by decide, rfl⟩ rfl rfl rfl (Nat.le_of_ble_eq_true rfl) rfl (fun g hW => ?_)
            obtain ⟨r, se, ro, le, de, wa, ww, rw, rm, sp, fm, ff, hM2⟩ := hW
            have hM := hM.tr hM2
            exact ez_iret dX8_fixes_55 rfl (hQ _ ⟨_, _, _, _, _, _, _, _, _, _, _, _, hM⟩)
        · first
          | exact absurd hc41 (by decide)
          | skip
            refine ez_iconst (v := nI 0) (q := 45) dX8_fixes_44 (by decide) rfl ?_
            refine ez_goto (q := 55) dX8_fixes_45 (by decide) ?_
            exact ez_iret dX8_fixes_55 rfl (hQ _ ⟨_, _, _, _, _, _, _, _, _, _, _, _, hM⟩)
      · rw [show cdF n' w u what = 0 from by simp [cdF, hc5, hc13, hc26]] at hQ
        obtain ⟨j, rfl, hj, hj2⟩ := inB_nat hc5
        obtain ⟨u, rfl, hu, hu2⟩ := inB_nat hc13
        obtain ⟨k, rfl, hk, hk2⟩ := inB_nat hc26
        rw [nn_nI hj2, nn_nI hu2, nn_nI hk2] at hQ
        refine ez_iconst (v := nI 0) (q := 30) dX8_fixes_29 (by decide) rfl ?_
        refine ez_goto (q := 34) dX8_fixes_30 (by decide) ?_
        refine pM_th (q := 37) dX8_fixes_34 fl_X8_37 hM rfl (fun g hM => ?_)
        refine ez_aload_n (q := 38) 0 dX8_fixes_37 rfl rfl rfl ?_
        refine ez_getf (q := 41) dX8_fixes_38 fl_X8_37 hM.1 rfl rfl ?_
        refine ez_ifleN (q := 44) (tgt := 48) dX8_fixes_41 (by decide) (by decide) rfl (fun hc41 => ?_) (fun hc41 => ?_)
        · first
          | exact absurd hc41 (by decide)
          | skip
            refine ez_aload_n (q := 49) 0 dX8_fixes_48 rfl rfl rfl ?_
            refine ez_iload_n (q := 50) 1 dX8_fixes_49 rfl rfl rfl ?_
            refine ez_iload_n (q := 51) 2 dX8_fixes_50 rfl rfl rfl ?_
            refine ez_iload_n (q := 52) 3 dX8_fixes_51 rfl rfl rfl ?_
            refine cXv (q := 55) dX8_fixes_52 ck_X8_225 hM.1 (t_X8_fixed hM.rb hz ho hs (by omega) (by omega) (by omega)) rfl ⟨by decide, rfl⟩ rfl rfl rfl (Nat.le_of_ble_eq_true rfl) rfl (fun g hW => ?_)
            obtain ⟨r, se, ro, le, de, wa, ww, rw, rm, sp, fm, ff, hM2⟩ := hW
            have hM := hM.tr hM2
            exact ez_iret dX8_fixes_55 rfl (hQ _ ⟨_, _, _, _, _, _, _, _, _, _, _, _, hM⟩)
        · first
          | exact absurd hc41 (by decide)
          | skip
            refine ez_iconst (v := nI 0) (q := 45) dX8_fixes_44 (by decide) rfl ?_
            refine ez_goto (q := 55) dX8_fixes_45 (by decide) ?_
            exact ez_iret dX8_fixes_55 rfl (hQ _ ⟨_, _, _, _, _, _, _, _, _, _, _, _, hM⟩)
    · rw [show cdF n' w u what = 1 from by simp [cdF, hc13]] at hQ
      refine ez_iconst (v := nI 1) (q := 17) dX8_fixes_16 (by decide) rfl ?_
      refine ez_goto (q := 34) dX8_fixes_17 (by decide) ?_
      refine pM_th (q := 37) dX8_fixes_34 fl_X8_37 hM rfl (fun g hM => ?_)
      refine ez_aload_n (q := 38) 0 dX8_fixes_37 rfl rfl rfl ?_
      refine ez_getf (q := 41) dX8_fixes_38 fl_X8_37 hM.1 rfl rfl ?_
      refine ez_ifleN (q := 44) (tgt := 48) dX8_fixes_41 (by decide) (by decide) rfl (fun hc41 => ?_) (fun hc41 => ?_)
      · first
        | exact absurd hc41 (by decide)
        | skip
          refine ez_aload_n (q := 49) 0 dX8_fixes_48 rfl rfl rfl ?_
          refine ez_iload_n (q := 50) 1 dX8_fixes_49 rfl rfl rfl ?_
          refine ez_iload_n (q := 51) 2 dX8_fixes_50 rfl rfl rfl ?_
          refine ez_iload_n (q := 52) 3 dX8_fixes_51 rfl rfl rfl ?_
          refine cXv (q := 55) dX8_fixes_52 ck_X8_225 hM.1 (t_X8_fixed hM.rb hz ho hs (by omega) (by omega) (by omega)) rfl ⟨by decide, rfl⟩ rfl rfl rfl (Nat.le_of_ble_eq_true rfl) rfl (fun g hW => ?_)
          obtain ⟨r, se, ro, le, de, wa, ww, rw, rm, sp, fm, ff, hM2⟩ := hW
          have hM := hM.tr hM2
          exact ez_iret dX8_fixes_55 rfl (hQ _ ⟨_, _, _, _, _, _, _, _, _, _, _, _, hM⟩)
      · first
        | exact absurd hc41 (by decide)
        | skip
          refine ez_iconst (v := nI 0) (q := 45) dX8_fixes_44 (by decide) rfl ?_
          refine ez_goto (q := 55) dX8_fixes_45 (by decide) ?_
          exact ez_iret dX8_fixes_55 rfl (hQ _ ⟨_, _, _, _, _, _, _, _, _, _, _, _, hM⟩)

set_option maxHeartbeats 800000 in
set_option maxRecDepth 100000 in
theorem t_X8_share {G : ez_G} {d n : Nat} {h : ez_H} {n' f : Nat} {L T ln : Nat → Nat} {sg : Nat → Nat → Nat} {r : Nat} {th sm ty wa rm fm ff : Int32} {z sv bf se ro le de rw sp : Nat → Int32} {ww : Bool} {ha : Int64} (hM : IM h h th z sv sm bf ty (nI r) se ro le de wa ww rw rm sp fm ff ha) (hz : ZZ z n' f L T ln sg) (ho : OK n' f L T ln sg) (hs : WFS ln sg) : Con G mX8_share (d + 11) [.ref 64] h n 0 0 (PW n (some (.double (shV (hpN T n' f L ln sg n') (n' * wmN ln 4)))) (fun g => MB h g th z sv sm bf ty ha)) := by
  have hn := ho.1
  have hn0 := hz.1
  have hw4 := wm_le ln 4
  have hh4 := hp_le T n' f L ln sg n'
  have hp4 : n' * wmN ln 4 ≤ 10 * 4 := Nat.mul_le_mul hn hw4
  refine Con.of [some (.ref 64), none, none, none] pl_X8 rfl (Nat.le_of_ble_eq_true rfl) rfl ?_
  have hQ : ∀ g, MB h g th z sv sm bf ty ha → (PW n (some (.double (shV (hpN T n' f L ln sg n') (n' * wmN ln 4)))) (fun g => MB h g th z sv sm bf ty ha)) (.inl (some (.double (shV (hpN T n' f L ln sg n') (n' * wmN ln 4))))) g n := fun g hW => ⟨rfl, hW, rfl⟩
  generalize PW n (some (.double (shV (hpN T n' f L ln sg n') (n' * wmN ln 4)))) (fun g => MB h g th z sv sm bf ty ha) = Q at hQ ⊢
  refine ez_aload_n (q := 1) 0 dX8_share_0 rfl rfl rfl ?_
  refine ez_getf (q := 4) dX8_share_1 fl_X8_7 hM.1 rfl rfl ?_
  refine ez_iconst (v := nI 0) (q := 5) dX8_share_4 (by decide) rfl ?_
  refine ez_iald (q := 6) dX8_share_5 hM.2.1 rfl (by omega) (by decide) rfl ?_
  refine ez_top (hn0) ?_
  refine ez_aload_n (q := 7) 0 dX8_share_6 rfl rfl rfl ?_
  refine cMv (q := 10) dX8_share_7 ck_X8_203 hM (t_X8_wishMany hM.rb hz ho) rfl rfl rfl rfl rfl (Nat.le_of_ble_eq_true rfl) rfl (fun g hM => ?_)
  refine ez_imulN (q := 11) dX8_share_10 rfl ?_
  refine ez_istore_1 (q := 12) dX8_share_11 rfl (by decide) rfl rfl ?_
  refine ez_iconst (v := nI 0) (q := 13) dX8_share_12 (by decide) rfl ?_
  refine ez_istore_2 (q := 14) dX8_share_13 rfl (by decide) rfl rfl ?_
  refine ez_iconst (v := nI 0) (q := 15) dX8_share_14 (by decide) rfl ?_
  refine ez_istore_3 (q := 16) dX8_share_15 rfl (by decide) rfl rfl ?_
  refine ez_loop (α := Nat) (fun i => n' - i) (P := fun i => ∀ (g : ez_H) (r : Nat) (se ro le de : Nat → Int32) (wa : Int32) (ww : Bool) (rw : Nat → Int32) (rm : Int32) (sp : Nat → Int32) (fm ff : Int32), IM h g th z sv sm bf ty (nI r) se ro le de wa ww rw rm sp fm ff ha → (i ≤ n') → E G mX8_share (d + 11) Q g n 0 0 16 [some (.ref 64), some (.int (nI (n' * wmN ln 4))), some (.int (nI (hpN T n' f L ln sg i))), some (.int (nI i))] []) ?_ 0 g _ _ _ _ _ _ _ _ _ _ _ _ hM (Nat.zero_le _)
  intro i ih16 g r se ro le de wa ww rw rm sp fm ff hM hi
  refine ez_iload_n (q := 17) 3 dX8_share_16 rfl rfl rfl ?_
  refine ez_aload_n (q := 18) 0 dX8_share_17 rfl rfl rfl ?_
  refine ez_getf (q := 21) dX8_share_18 fl_X8_7 hM.1 rfl rfl ?_
  refine ez_iconst (v := nI 0) (q := 22) dX8_share_21 (by decide) rfl ?_
  refine ez_iald (q := 23) dX8_share_22 hM.2.1 rfl (by omega) (by decide) rfl ?_
  refine ez_top (hn0) ?_
  refine ez_icmpgeN (q := 26) (tgt := 43) dX8_share_23 (by decide) (by omega) (by omega) rfl (fun hc23 => ?_) (fun hc23 => ?_)
  · obtain rfl : i = n' := by omega
    refine ez_iload_n (q := 44) 1 dX8_share_43 rfl rfl rfl ?_
    refine ez_ifneN (q := 47) (tgt := 51) dX8_share_44 (by decide) (by omega) rfl (fun hc44 => ?_) (fun hc44 => ?_)
    · rw [show ∀ h, shV h (i * wmN ln 4) = FP.ddiv (FP.i2d (nI h)) (FP.i2d (nI (i * wmN ln 4))) from fun h => if_neg hc44] at hQ
      refine ez_iload_n (q := 52) 2 dX8_share_51 rfl rfl rfl ?_
      refine ez_i2d (q := 53) dX8_share_52 rfl ?_
      refine ez_iload_n (q := 54) 1 dX8_share_53 rfl rfl rfl ?_
      refine ez_i2d (q := 55) dX8_share_54 rfl ?_
      refine ez_ddiv (q := 56) dX8_share_55 (sh_nan _ (by omega) _ (by omega) hc44) rfl ?_
      exact ez_dret dX8_share_56 rfl (hQ _ ⟨_, _, _, _, _, _, _, _, _, _, _, _, hM⟩)
    · rw [show ∀ h, shV h (i * wmN ln 4) = 0x3ff0000000000000 from fun h => if_pos hc44] at hQ
      refine ez_dconst1 (q := 48) dX8_share_47 rfl ?_
      refine ez_goto (q := 56) dX8_share_48 (by decide) ?_
      exact ez_dret dX8_share_56 rfl (hQ _ ⟨_, _, _, _, _, _, _, _, _, _, _, _, hM⟩)
  · refine ez_iload_n (q := 27) 2 dX8_share_26 rfl rfl rfl ?_
    refine ez_aload_n (q := 28) 0 dX8_share_27 rfl rfl rfl ?_
    refine ez_iload_n (q := 29) 3 dX8_share_28 rfl rfl rfl ?_
    refine cXv (q := 32) dX8_share_29 ck_X8_147 hM.1 (t_X8_wishesAt hM.rb hz ho hs hc23) rfl ⟨by decide, rfl⟩ rfl rfl rfl (Nat.le_of_ble_eq_true rfl) rfl (fun g hW => ?_)
    obtain ⟨r, se, ro, le, de, wa, ww, rw, rm, sp, fm, ff, hM2⟩ := hW
    have hM := hM.tr hM2
    refine cUv (q := 35) dX8_share_32 ck_X8_59 (t_X8_bits (Nat.lt_of_lt_of_le (wa_lt _ 4) (by decide))) rfl rfl rfl (Nat.le_of_ble_eq_true rfl) rfl ?_
    refine ez_iaddN (q := 36) dX8_share_35 rfl ?_
    refine ez_istore_2 (q := 37) dX8_share_36 rfl (by decide) rfl rfl ?_
    refine ez_iincN_3 (q := 40) dX8_share_37 (by decide) rfl rfl ?_
    refine ez_goto (q := 16) dX8_share_40 (by decide) ?_
    exact E.fg (ih16 (i + 1) (by omega) g _ _ _ _ _ _ _ _ _ _ _ _ hM (by omega)) ⟨Or.inr (rfl), Or.inr (rfl), Or.inr (rfl), Or.inr (rfl), trivial⟩

set_option maxHeartbeats 800000 in
set_option maxRecDepth 100000 in
theorem t_X8_fulfilled {G : ez_G} {d n : Nat} {h : ez_H} {n' f : Nat} {L T ln : Nat → Nat} {sg : Nat → Nat → Nat} {r : Nat} {th sm ty wa rm fm ff : Int32} {z sv bf se ro le de rw sp : Nat → Int32} {ww : Bool} {ha : Int64} (hM : IM h h th z sv sm bf ty (nI r) se ro le de wa ww rw rm sp fm ff ha) (hz : ZZ z n' f L T ln sg) (ho : OK n' f L T ln sg) (hs : WFS ln sg) : Con G mX8_fulfilled (d + 12) [.ref 64] h n 0 0 (PW n (some (.double (shV (hpN T n' f L ln sg n') (n' * wmN ln 4)))) (fun g => MB h g (nI 0) z sv sm bf ty ha)) := by
  have hn := ho.1
  have hn0 := hz.1
  refine Con.of [some (.ref 64)] pl_X8 rfl (Nat.le_of_ble_eq_true rfl) rfl ?_
  have hQ : ∀ g, MB h g (nI 0) z sv sm bf ty ha → (PW n (some (.double (shV (hpN T n' f L ln sg n') (n' * wmN ln 4)))) (fun g => MB h g (nI 0) z sv sm bf ty ha)) (.inl (some (.double (shV (hpN T n' f L ln sg n') (n' * wmN ln 4))))) g n := fun g hW => ⟨rfl, hW, rfl⟩
  generalize PW n (some (.double (shV (hpN T n' f L ln sg n') (n' * wmN ln 4)))) (fun g => MB h g (nI 0) z sv sm bf ty ha) = Q at hQ ⊢
  refine ez_aload_n (q := 1) 0 dX8_fulfilled_0 rfl rfl rfl ?_
  refine ez_iconst (v := nI 0) (q := 2) dX8_fulfilled_1 (by decide) rfl ?_
  refine pM_th (q := 5) dX8_fulfilled_2 fl_X8_37 hM rfl (fun g hM => ?_)
  refine ez_aload_n (q := 6) 0 dX8_fulfilled_5 rfl rfl rfl ?_
  refine cXv (q := 9) dX8_fulfilled_6 ck_X8_231 hM.1 (t_X8_share hM.rb hz ho hs) rfl ⟨by decide, rfl⟩ rfl rfl rfl (Nat.le_of_ble_eq_true rfl) rfl (fun g hW => ?_)
  obtain ⟨r, se, ro, le, de, wa, ww, rw, rm, sp, fm, ff, hM2⟩ := hW
  have hM := hM.tr hM2
  exact ez_dret dX8_fulfilled_9 rfl (hQ _ ⟨_, _, _, _, _, _, _, _, _, _, _, _, hM⟩)

set_option maxHeartbeats 800000 in
set_option maxRecDepth 100000 in
theorem t_X8_thrown {G : ez_G} {d n : Nat} {h : ez_H}  {th sm ty rd wa rm fm ff : Int32} {z sv bf se ro le de rw sp : Nat → Int32} {ww : Bool} {ha : Int64} (hM : IM h h th z sv sm bf ty rd se ro le de wa ww rw rm sp fm ff ha)  : Con G mX8_thrown (d) [.ref 64] h n 0 0 (PM h n (some (.int th)) th z sv sm bf ty rd se ro le de wa ww rw rm sp fm ff ha) := by
  refine Con.of [some (.ref 64)] pl_X8 rfl (Nat.le_of_ble_eq_true rfl) rfl ?_
  have hQ : ∀ g, IM h g th z sv sm bf ty rd se ro le de wa ww rw rm sp fm ff ha → (PM h n (some (.int th)) th z sv sm bf ty rd se ro le de wa ww rw rm sp fm ff ha) (.inl (some (.int th))) g n := fun g hM => ⟨rfl, hM, rfl⟩
  generalize PM h n (some (.int th)) th z sv sm bf ty rd se ro le de wa ww rw rm sp fm ff ha = Q at hQ ⊢
  refine ez_aload_n (q := 1) 0 dX8_thrown_0 rfl rfl rfl ?_
  refine ez_getf (q := 4) dX8_thrown_1 fl_X8_37 hM.1 rfl rfl ?_
  exact ez_iret dX8_thrown_4 rfl (hQ _ hM)

