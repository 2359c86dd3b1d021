set_option maxHeartbeats 800000 in
set_option maxRecDepth 100000 in
theorem t_X8_witnessAt {G : ez_G} {d n : Nat} {h : ez_H} {n' f : Nat} {L T ln : Nat → Nat} {sg : Nat → Nat → Nat} {w u p r : Nat} {th sm ty wa rm fm ff : Int32} {z sv bf se ro le de rw sp : Nat → Int32} {ww : Bool} {ha : Int64} (hM : IM h h th z sv sm bf ty (nI r) se ro le de wa ww rw rm sp fm ff ha) (hz : ZZ z n' f L T ln sg) (ho : OK n' f L T ln sg) (hs : WFS ln sg) (hw : w < 4) (hu : u < n') (hp : p < 2 ^ 31) : Con G mX8_witnessAt (d + 11) [.ref 64, .int (nI w), .int (nI u), .int (nI p)] h n 0 0 (PW n (some (.int (wtI T n' f L ln sg w u p))) (fun g => MB h g th z sv sm bf ty ha)) := by
  have hn := ho.1
  have hn0 := hz.1
  have hlen : (wtL T n' f L ln sg w u).length ≤ 111 := wt_len hn hs hw hu
  refine Con.of [some (.ref 64), some (.int (nI w)), some (.int (nI u)), some (.int (nI p))] pl_X8 rfl (Nat.le_of_ble_eq_true rfl) rfl ?_
  have hQ : ∀ g, MB h g th z sv sm bf ty ha → (PW n (some (.int (wtI T n' f L ln sg w u p))) (fun g => MB h g th z sv sm bf ty ha)) (.inl (some (.int (wtI T n' f L ln sg w u p)))) g n := fun g hW => ⟨rfl, hW, rfl⟩
  generalize PW n (some (.int (wtI T n' f L ln sg w u p))) (fun g => MB h g th z sv sm bf ty ha) = Q at hQ ⊢
  refine ez_aload_n (q := 1) 0 dX8_witnessAt_0 rfl rfl rfl ?_
  refine ez_iload_n (q := 2) 1 dX8_witnessAt_1 rfl rfl rfl ?_
  refine ez_iload_n (q := 3) 2 dX8_witnessAt_2 rfl rfl rfl ?_
  refine cX0 (q := 6) dX8_witnessAt_3 ck_X8_191 hM.1 (t_X8_layWitness hM.rb hz ho hs hw hu) rfl ⟨by decide, rfl⟩ rfl rfl rfl (Nat.le_of_ble_eq_true rfl) rfl (fun g hW => ?_)
  obtain ⟨r, se, ro, le, de, wa, ww, rw, sp, fm, ff, hM2, hrw⟩ := hW
  have hM := hM.tr hM2
  refine ez_iload_n (q := 7) 3 dX8_witnessAt_6 rfl rfl rfl ?_
  refine ez_aload_n (q := 8) 0 dX8_witnessAt_7 rfl rfl rfl ?_
  refine ez_getf (q := 11) dX8_witnessAt_8 fl_X8_162 hM.1 rfl rfl ?_
  refine ez_icmpgeN (q := 14) (tgt := 23) dX8_witnessAt_11 (by decide) (by omega) (by omega) rfl (fun hc11 => ?_) (fun hc11 => ?_)
  · rw [wtI, List.getElem?_eq_none hc11] at hQ
    refine ez_iconst (v := -1) (q := 24) dX8_witnessAt_23 (by decide) rfl ?_
    exact ez_iret dX8_witnessAt_24 rfl (hQ _ ⟨_, _, _, _, _, _, _, _, _, _, _, _, hM⟩)
  · obtain ⟨x, hx⟩ : ∃ x, (wtL T n' f L ln sg w u)[p]? = some x := ⟨(wtL T n' f L ln sg w u)[p], List.getElem?_eq_getElem hc11⟩
    rw [wtI, hx] at hQ
    refine ez_aload_n (q := 15) 0 dX8_witnessAt_14 rfl rfl rfl ?_
    refine ez_getf (q := 18) dX8_witnessAt_15 fl_X8_31 hM.1 rfl rfl ?_
    refine ez_iload_n (q := 19) 3 dX8_witnessAt_18 rfl rfl rfl ?_
    refine ez_iald (q := 20) dX8_witnessAt_19 hM.2.2.2.2.2.2.2.2.1 rfl (by omega) (by decide) rfl ?_
    refine ez_top (hrw p x hx) ?_
    refine ez_goto (q := 24) dX8_witnessAt_20 (by decide) ?_
    exact ez_iret dX8_witnessAt_24 rfl (hQ _ ⟨_, _, _, _, _, _, _, _, _, _, _, _, hM⟩)

set_option maxHeartbeats 800000 in
set_option maxRecDepth 100000 in
theorem t_X8_witness {G : ez_G} {d n : Nat} {h : ez_H} {n' f : Nat} {L T ln : Nat → Nat} {sg : Nat → Nat → Nat} {w u p : Int32} {r : Nat} {th sm ty wa rm fm ff : Int32} {z sv bf se ro le de rw sp : Nat → Int32} {ww : Bool} {ha : Int64} (hM : IM h h th z sv sm bf ty (nI r) se ro le de wa ww rw rm sp fm ff ha) (hz : ZZ z n' f L T ln sg) (ho : OK n' f L T ln sg) (hs : WFS ln sg) : Con G mX8_witness (d + 12) [.ref 64, .int w, .int u, .int p] h n 0 0 (PW n (some (.int (aW (cdY n' w u p) (wtI T n' f L ln sg (nn w) (nn u) (nn p))))) (fun g => MB h g (nI (cdY n' w u p)) z sv sm bf ty ha)) := by
  have hn := ho.1
  have hn0 := hz.1
  refine Con.of [some (.ref 64), some (.int w), some (.int u), some (.int p)] pl_X8 rfl (Nat.le_of_ble_eq_true rfl) rfl ?_
  have hQ : ∀ g, MB h g (nI (cdY n' w u p)) z sv sm bf ty ha → (PW n (some (.int (aW (cdY n' w u p) (wtI T n' f L ln sg (nn w) (nn u) (nn p))))) (fun g => MB h g (nI (cdY n' w u p)) z sv sm bf ty ha)) (.inl (some (.int (aW (cdY n' w u p) (wtI T n' f L ln sg (nn w) (nn u) (nn p)))))) g n := fun g hW => ⟨rfl, hW, rfl⟩
  generalize PW n (some (.int (aW (cdY n' w u p) (wtI T n' f L ln sg (nn w) (nn u) (nn p))))) (fun g => MB h g (nI (cdY n' w u p)) z sv sm bf ty ha) = Q at hQ ⊢
  refine ez_aload_n (q := 1) 0 dX8_witness_0 rfl rfl rfl ?_
  refine ez_iload_n (q := 2) 1 dX8_witness_1 rfl rfl rfl ?_
  refine cUv (q := 5) dX8_witness_2 ck_X8_134 (t_X8_isWish) rfl rfl rfl (Nat.le_of_ble_eq_true rfl) rfl ?_
  refine ez_ifeqB (q := 8) (tgt := 16) dX8_witness_5 (by decide) rfl (fun hc5 => ?_) (fun hc5 => ?_)
  · rw [show cdY n' w u p = 1 from by simp [cdY, hc5]] at hQ
    refine ez_iconst (v := nI 1) (q := 17) dX8_witness_16 (by decide) rfl ?_
    refine ez_goto (q := 29) dX8_witness_17 (by decide) ?_
    refine pM_th (q := 32) dX8_witness_29 fl_X8_37 hM rfl (fun g hM => ?_)
    refine ez_aload_n (q := 33) 0 dX8_witness_32 rfl rfl rfl ?_
    refine ez_getf (q := 36) dX8_witness_33 fl_X8_37 hM.1 rfl rfl ?_
    refine ez_ifleN (q := 39) (tgt := 43) dX8_witness_36 (by decide) (by decide) rfl (fun hc36 => ?_) (fun hc36 => ?_)
    · first
      | exact absurd hc36 (by decide)
      | skip
        refine ez_aload_n (q := 44) 0 dX8_witness_43 rfl rfl rfl ?_
        refine ez_iload_n (q := 45) 1 dX8_witness_44 rfl rfl rfl ?_
        refine ez_iload_n (q := 46) 2 dX8_witness_45 rfl rfl rfl ?_
        refine ez_iload_n (q := 47) 3 dX8_witness_46 rfl rfl rfl ?_
        refine cXv (q := 50) dX8_witness_47 ck_X8_194 hM.1 (t_X8_witnessAt hM.rb hz ho hs (by omega) (by omega) (by omega)) rfl ⟨by decide, rfl⟩ rfl rfl rfl (Nat.le_of_ble_eq_true rfl) rfl (fun g hW => ?_)
        obtain ⟨r, se, ro, le, de, wa, ww, rw, rm, sp, fm, ff, hM2⟩ := hW
        have hM := hM.tr hM2
        exact ez_iret dX8_witness_50 rfl (hQ _ ⟨_, _, _, _, _, _, _, _, _, _, _, _, hM⟩)
    · first
      | exact absurd hc36 (by decide)
      | skip
        refine ez_iconst (v := nI 0) (q := 40) dX8_witness_39 (by decide) rfl ?_
        refine ez_goto (q := 50) dX8_witness_40 (by decide) ?_
        exact ez_iret dX8_witness_50 rfl (hQ _ ⟨_, _, _, _, _, _, _, _, _, _, _, _, hM⟩)
  · refine ez_aload_n (q := 9) 0 dX8_witness_8 rfl rfl rfl ?_
    refine ez_iload_n (q := 10) 2 dX8_witness_9 rfl rfl rfl ?_
    refine cMv (q := 13) dX8_witness_10 ck_X8_51 hM (t_X8_isWorld hM.rb hz ho) rfl rfl rfl rfl rfl (Nat.le_of_ble_eq_true rfl) rfl (fun g hM => ?_)
    refine ez_ifneB (q := 16) (tgt := 20) dX8_witness_13 (by decide) rfl (fun hc13 => ?_) (fun hc13 => ?_)
    · refine ez_iload_n (q := 21) 3 dX8_witness_20 rfl rfl rfl ?_
      refine ez_ifge (q := 24) (tgt := 28) dX8_witness_21 (by decide) rfl (fun hc21 => ?_) (fun hc21 => ?_)
      · have hp0 : ¬ p < 0 := by simp only [Int32.le_iff_toInt_le, Int32.lt_iff_toInt_lt, Int32.toInt_zero] at *; omega
        rw [show cdY n' w u p = 0 from by rw [cdY, if_pos ⟨hc5, hc13⟩, if_neg hp0]] at hQ
        obtain ⟨j, rfl, hj, hj2⟩ := inB_nat hc5
        obtain ⟨u, rfl, hu, hu2⟩ := inB_nat hc13
        obtain ⟨k, rfl, hk2⟩ := pos_nat hp0
        rw [nn_nI hj2, nn_nI hu2, nn_nI hk2] at hQ
        refine ez_iconst (v := nI 0) (q := 29) dX8_witness_28 (by decide) rfl ?_
        refine pM_th (q := 32) dX8_witness_29 fl_X8_37 hM rfl (fun g hM => ?_)
        refine ez_aload_n (q := 33) 0 dX8_witness_32 rfl rfl rfl ?_
        refine ez_getf (q := 36) dX8_witness_33 fl_X8_37 hM.1 rfl rfl ?_
        refine ez_ifleN (q := 39) (tgt := 43) dX8_witness_36 (by decide) (by decide) rfl (fun hc36 => ?_) (fun hc36 => ?_)
        · first
          | exact absurd hc36 (by decide)
          | skip
            refine ez_aload_n (q := 44) 0 dX8_witness_43 rfl rfl rfl ?_
            refine ez_iload_n (q := 45) 1 dX8_witness_44 rfl rfl rfl ?_
            refine ez_iload_n (q := 46) 2 dX8_witness_45 rfl rfl rfl ?_
            refine ez_iload_n (q := 47) 3 dX8_witness_46 rfl rfl rfl ?_
            refine cXv (q := 50) dX8_witness_47 ck_X8_194 hM.1 (t_X8_witnessAt hM.rb hz ho hs (by omega) (by omega) (by omega)) rfl ⟨by decide, rfl⟩ rfl rfl rfl (Nat.le_of_ble_eq_true rfl) rfl (fun g hW => ?_)
            obtain ⟨r, se, ro, le, de, wa, ww, rw, rm, sp, fm, ff, hM2⟩ := hW
            have hM := hM.tr hM2
            exact ez_iret dX8_witness_50 rfl (hQ _ ⟨_, _, _, _, _, _, _, _, _, _, _, _, hM⟩)
        · first
          | exact absurd hc36 (by decide)
          | skip
            refine ez_iconst (v := nI 0) (q := 40) dX8_witness_39 (by decide) rfl ?_
            refine ez_goto (q := 50) dX8_witness_40 (by decide) ?_
            exact ez_iret dX8_witness_50 rfl (hQ _ ⟨_, _, _, _, _, _, _, _, _, _, _, _, hM⟩)
      · have hp0 : p < 0 := by simp only [Int32.le_iff_toInt_le, Int32.lt_iff_toInt_lt, Int32.toInt_zero] at *; omega
        rw [show cdY n' w u p = 2 from by rw [cdY, if_pos ⟨hc5, hc13⟩, if_pos hp0]] at hQ
        refine ez_iconst (v := nI 2) (q := 25) dX8_witness_24 (by decide) rfl ?_
        refine ez_goto (q := 29) dX8_witness_25 (by decide) ?_
        refine pM_th (q := 32) dX8_witness_29 fl_X8_37 hM rfl (fun g hM => ?_)
        refine ez_aload_n (q := 33) 0 dX8_witness_32 rfl rfl rfl ?_
        refine ez_getf (q := 36) dX8_witness_33 fl_X8_37 hM.1 rfl rfl ?_
        refine ez_ifleN (q := 39) (tgt := 43) dX8_witness_36 (by decide) (by decide) rfl (fun hc36 => ?_) (fun hc36 => ?_)
        · first
          | exact absurd hc36 (by decide)
          | skip
            refine ez_aload_n (q := 44) 0 dX8_witness_43 rfl rfl rfl ?_
            refine ez_iload_n (q := 45) 1 dX8_witness_44 rfl rfl rfl ?_
            refine ez_iload_n (q := 46) 2 dX8_witness_45 rfl rfl rfl ?_
            refine ez_iload_n (q := 47) 3 dX8_witness_46 rfl rfl rfl ?_
            refine cXv (q := 50) dX8_witness_47 ck_X8_194 hM.1 (t_X8_witnessAt hM.rb hz ho hs (by omega) (by omega) (by omega)) rfl ⟨by decide, rfl⟩ rfl rfl rfl (Nat.le_of_ble_eq_true rfl) rfl (fun g hW => ?_)
            obtain ⟨r, se, ro, le, de, wa, ww, rw, rm, sp, fm, ff, hM2⟩ := hW
            have hM := hM.tr hM2
            exact ez_iret dX8_witness_50 rfl (hQ _ ⟨_, _, _, _, _, _, _, _, _, _, _, _, hM⟩)
        · first
          | exact absurd hc36 (by decide)
          | skip
            refine ez_iconst (v := nI 0) (q := 40) dX8_witness_39 (by decide) rfl ?_
            refine ez_goto (q := 50) dX8_witness_40 (by decide) ?_
            exact ez_iret dX8_witness_50 rfl (hQ _ ⟨_, _, _, _, _, _, _, _, _, _, _, _, hM⟩)
    · rw [show cdY n' w u p = 1 from by simp [cdY, hc13]] at hQ
      refine ez_iconst (v := nI 1) (q := 17) dX8_witness_16 (by decide) rfl ?_
      refine ez_goto (q := 29) dX8_witness_17 (by decide) ?_
      refine pM_th (q := 32) dX8_witness_29 fl_X8_37 hM rfl (fun g hM => ?_)
      refine ez_aload_n (q := 33) 0 dX8_witness_32 rfl rfl rfl ?_
      refine ez_getf (q := 36) dX8_witness_33 fl_X8_37 hM.1 rfl rfl ?_
      refine ez_ifleN (q := 39) (tgt := 43) dX8_witness_36 (by decide) (by decide) rfl (fun hc36 => ?_) (fun hc36 => ?_)
      · first
        | exact absurd hc36 (by decide)
        | skip
          refine ez_aload_n (q := 44) 0 dX8_witness_43 rfl rfl rfl ?_
          refine ez_iload_n (q := 45) 1 dX8_witness_44 rfl rfl rfl ?_
          refine ez_iload_n (q := 46) 2 dX8_witness_45 rfl rfl rfl ?_
          refine ez_iload_n (q := 47) 3 dX8_witness_46 rfl rfl rfl ?_
          refine cXv (q := 50) dX8_witness_47 ck_X8_194 hM.1 (t_X8_witnessAt hM.rb hz ho hs (by omega) (by omega) (by omega)) rfl ⟨by decide, rfl⟩ rfl rfl rfl (Nat.le_of_ble_eq_true rfl) rfl (fun g hW => ?_)
          obtain ⟨r, se, ro, le, de, wa, ww, rw, rm, sp, fm, ff, hM2⟩ := hW
          have hM := hM.tr hM2
          exact ez_iret dX8_witness_50 rfl (hQ _ ⟨_, _, _, _, _, _, _, _, _, _, _, _, hM⟩)
      · first
        | exact absurd hc36 (by decide)
        | skip
          refine ez_iconst (v := nI 0) (q := 40) dX8_witness_39 (by decide) rfl ?_
          refine ez_goto (q := 50) dX8_witness_40 (by decide) ?_
          exact ez_iret dX8_witness_50 rfl (hQ _ ⟨_, _, _, _, _, _, _, _, _, _, _, _, hM⟩)

