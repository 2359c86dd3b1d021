theorem tgI_0 {T : Nat → Nat} {n f : Nat} {L : Nat → Nat} {ln : Nat → Nat} {sg : Nat → Nat → Nat} (w i : Nat) : tgI T n f L ln sg w i 0 = nI (sg w i) := if_pos rfl
set_option maxHeartbeats 800000 in
set_option maxRecDepth 100000 in
theorem t_X8_toldSign {G : ez_G} {d n : Nat} {h : ez_H} {n' f : Nat} {L T ln : Nat → Nat} {sg : Nat → Nat → Nat} {w i what r : Nat} {th sm ty wa rm fm ff : Int32} {z sv bf se ro le de rw sp : Nat → Int32} {ww : Bool} {ha : Int64} (hM : IM h h th z sv sm bf ty (nI r) se ro le de wa ww rw rm sp fm ff ha) (hz : ZZ z n' f L T ln sg) (ho : OK n' f L T ln sg) (hs : WFS ln sg) (hw : w < 4) (hi : i < ln w) (hwh : what ≤ 3) : Con G mX8_toldSign (d + 9) [.ref 64, .int (nI w), .int (nI i), .int (nI what)] h n 0 0 (PW n (some (.int (tgI T n' f L ln sg w i what))) (fun g => MB h g th z sv sm bf ty ha)) := by
  have hn := ho.1
  have hn0 := hz.1
  have hl := ho.2.2.2.2.1 w hw
  obtain ⟨sc, hwf⟩ := hs w hw (by omega)
  refine Con.of [some (.ref 64), some (.int (nI w)), some (.int (nI i)), some (.int (nI what))] pl_X8 rfl (Nat.le_of_ble_eq_true rfl) rfl ?_
  have hQ : ∀ g, MB h g th z sv sm bf ty ha → (PW n (some (.int (tgI T n' f L ln sg w i what))) (fun g => MB h g th z sv sm bf ty ha)) (.inl (some (.int (tgI T n' f L ln sg w i what)))) g n := fun g hW => ⟨rfl, hW, rfl⟩
  generalize PW n (some (.int (tgI T n' f L ln sg w i what))) (fun g => MB h g th z sv sm bf ty ha) = Q at hQ ⊢
  refine ez_aload_n (q := 1) 0 dX8_toldSign_0 rfl rfl rfl ?_
  refine ez_iload_n (q := 2) 1 dX8_toldSign_1 rfl rfl rfl ?_
  refine cX0 (q := 5) dX8_toldSign_2 ck_X8_114 hM.1 (t_X8_lay hM.rb hz ho hw hwf) rfl ⟨by decide, rfl⟩ rfl rfl rfl (Nat.le_of_ble_eq_true rfl) rfl (fun g hW => ?_)
  obtain ⟨se, ro, le, de, r, hM2, ht⟩ := hW
  have hM := hM.tr hM2
  obtain ⟨t1, t2, t3⟩ := ht.tg (n' := n') hi
  refine ez_iload_n (q := 6) 3 dX8_toldSign_5 rfl rfl rfl ?_
  refine ez_ifneN (q := 9) (tgt := 18) dX8_toldSign_6 (by decide) (by omega) rfl (fun hc6 => ?_) (fun hc6 => ?_)
  · refine ez_iload_n (q := 19) 3 dX8_toldSign_18 rfl rfl rfl ?_
    refine ez_iconst (v := nI 1) (q := 20) dX8_toldSign_19 (by decide) rfl ?_
    refine ez_icmpneN (q := 23) (tgt := 32) dX8_toldSign_20 (by decide) (by omega) (by omega) rfl (fun hc20 => ?_) (fun hc20 => ?_)
    · refine ez_iload_n (q := 33) 3 dX8_toldSign_32 rfl rfl rfl ?_
      refine ez_iconst (v := nI 2) (q := 34) dX8_toldSign_33 (by decide) rfl ?_
      refine ez_icmpneN (q := 37) (tgt := 46) dX8_toldSign_34 (by decide) (by omega) (by omega) rfl (fun hc34 => ?_) (fun hc34 => ?_)
      · obtain rfl : what = 3 := by omega
        refine ez_aload_n (q := 47) 0 dX8_toldSign_46 rfl rfl rfl ?_
        refine ez_getf (q := 50) dX8_toldSign_47 fl_X8_25 hM.1 rfl rfl ?_
        refine ez_iload_n (q := 51) 2 dX8_toldSign_50 rfl rfl rfl ?_
        refine ez_iald (q := 52) dX8_toldSign_51 hM.2.2.2.2.2.2.1 rfl (by omega) (by decide) rfl ?_
        refine ez_top (t3) ?_
        exact ez_iret dX8_toldSign_52 rfl (hQ _ ⟨_, _, _, _, _, _, _, _, _, _, _, _, hM⟩)
      · subst hc34
        refine ez_aload_n (q := 38) 0 dX8_toldSign_37 rfl rfl rfl ?_
        refine ez_getf (q := 41) dX8_toldSign_38 fl_X8_22 hM.1 rfl rfl ?_
        refine ez_iload_n (q := 42) 2 dX8_toldSign_41 rfl rfl rfl ?_
        refine ez_iald (q := 43) dX8_toldSign_42 hM.2.2.2.2.2.1 rfl (by omega) (by decide) rfl ?_
        refine ez_top (t2) ?_
        refine ez_goto (q := 52) dX8_toldSign_43 (by decide) ?_
        exact ez_iret dX8_toldSign_52 rfl (hQ _ ⟨_, _, _, _, _, _, _, _, _, _, _, _, hM⟩)
    · subst hc20
      refine ez_aload_n (q := 24) 0 dX8_toldSign_23 rfl rfl rfl ?_
      refine ez_getf (q := 27) dX8_toldSign_24 fl_X8_19 hM.1 rfl rfl ?_
      refine ez_iload_n (q := 28) 2 dX8_toldSign_27 rfl rfl rfl ?_
      refine ez_iald (q := 29) dX8_toldSign_28 hM.2.2.2.2.1 rfl (by omega) (by decide) rfl ?_
      refine ez_top (t1) ?_
      refine ez_goto (q := 52) dX8_toldSign_29 (by decide) ?_
      exact ez_iret dX8_toldSign_52 rfl (hQ _ ⟨_, _, _, _, _, _, _, _, _, _, _, _, hM⟩)
  · subst hc6
    rw [tgI_0] at hQ
    refine ez_aload_n (q := 10) 0 dX8_toldSign_9 rfl rfl rfl ?_
    refine ez_iload_n (q := 11) 1 dX8_toldSign_10 rfl rfl rfl ?_
    refine ez_iload_n (q := 12) 2 dX8_toldSign_11 rfl rfl rfl ?_
    refine cMv (q := 15) dX8_toldSign_12 ck_X8_91 hM (t_X8_signAt hM.rb hz ho hw hi) rfl rfl rfl rfl rfl (Nat.le_of_ble_eq_true rfl) rfl (fun g hM => ?_)
    refine ez_goto (q := 52) dX8_toldSign_15 (by decide) ?_
    exact ez_iret dX8_toldSign_52 rfl (hQ _ ⟨_, _, _, _, _, _, _, _, _, _, _, _, hM⟩)

def isS (ln : Nat → Nat) (w i : Int32) : Bool := inB w 0 3 && decide (0 ≤ i.toInt ∧ i.toInt < ln (nn w))
def cdG (ln : Nat → Nat) (w i what : Int32) : Nat := if isS ln w i = true then (if inB what 0 3 = true then 0 else 2) else 1
theorem pos_nat {i : Int32} (h : ¬ i < 0) : ∃ j : Nat, i = nI j ∧ j < 2 ^ 31 := by
  have h1 : 0 ≤ i.toInt := by simp only [Int32.lt_iff_toInt_lt, Int32.toInt_zero] at h; omega
  have h3 : (i.toNatClampNeg : Int) = i.toInt := by show ((i.toInt.toNat : Nat) : Int) = _; omega
  have h4 : i.toNatClampNeg < 2 ^ 31 := by have := Int32.toInt_lt i; omega
  exact ⟨i.toNatClampNeg, Int32.toInt_inj.mp (by rw [nI_toInt h4, h3]), h4⟩
theorem isS_t {ln : Nat → Nat} {w i : Nat} (hw : w < 4) (hi : i < ln w) (h31 : i < 2 ^ 31) : isS ln (nI w) (nI i) = true := by
  rw [isS, nn_nI (by omega), Bool.and_eq_true]
  refine ⟨decide_eq_true ?_, decide_eq_true ?_⟩
  · rw [nI_toInt (by omega)]; omega
  · rw [nI_toInt h31]; omega
theorem isS_f {ln : Nat → Nat} {w i : Nat} (hw : w < 4) (hi : ln w ≤ i) (h31 : i < 2 ^ 31) : isS ln (nI w) (nI i) = false := by
  rw [isS, nn_nI (by omega), Bool.and_eq_false_iff]
  exact Or.inr (decide_eq_false (by rw [nI_toInt h31]; omega))
theorem isS_n {ln : Nat → Nat} {w i : Int32} (hi : i < 0) : isS ln w i = false := by
  rw [isS, Bool.and_eq_false_iff]
  exact Or.inr (decide_eq_false (by simp only [Int32.lt_iff_toInt_lt, Int32.toInt_zero] at hi; omega))
theorem isS_w {ln : Nat → Nat} {w i : Int32} (h : inB w 0 3 = false) : isS ln w i = false := by rw [isS, h]; rfl
set_option maxHeartbeats 800000 in
set_option maxRecDepth 100000 in
theorem t_X8_sign {G : ez_G} {d n : Nat} {h : ez_H} {n' f : Nat} {L T ln : Nat → Nat} {sg : Nat → Nat → Nat} {w i what : Int32} {r : Nat} {th sm ty wa rm fm ff : Int32} {z sv bf se ro le de rw sp : Nat → Int32} {ww : Bool} {ha : Int64} (hM : IM h h th z sv sm bf ty (nI r) se ro le de wa ww rw rm sp fm ff ha) (hz : ZZ z n' f L T ln sg) (ho : OK n' f L T ln sg) (hs : WFS ln sg) : Con G mX8_sign (d + 10) [.ref 64, .int w, .int i, .int what] h n 0 0 (PW n (some (.int (aW (cdG ln w i what) (tgI T n' f L ln sg (nn w) (nn i) (nn what))))) (fun g => MB h g (nI (cdG ln w i what)) z sv sm bf ty ha)) := by
  have hn := ho.1
  have hn0 := hz.1
  refine Con.of [some (.ref 64), some (.int w), some (.int i), some (.int what)] pl_X8 rfl (Nat.le_of_ble_eq_true rfl) rfl ?_
  have hQ : ∀ g, MB h g (nI (cdG ln w i what)) z sv sm bf ty ha → (PW n (some (.int (aW (cdG ln w i what) (tgI T n' f L ln sg (nn w) (nn i) (nn what))))) (fun g => MB h g (nI (cdG ln w i what)) z sv sm bf ty ha)) (.inl (some (.int (aW (cdG ln w i what) (tgI T n' f L ln sg (nn w) (nn i) (nn what)))))) g n := fun g hW => ⟨rfl, hW, rfl⟩
  generalize PW n (some (.int (aW (cdG ln w i what) (tgI T n' f L ln sg (nn w) (nn i) (nn what))))) (fun g => MB h g (nI (cdG ln w i what)) z sv sm bf ty ha) = Q at hQ ⊢
  refine ez_aload_n (q := 1) 0 dX8_sign_0 rfl rfl rfl ?_
  refine ez_iload_n (q := 2) 1 dX8_sign_1 rfl rfl rfl ?_
  refine cUv (q := 5) dX8_sign_2 ck_X8_134 (t_X8_isWish) rfl rfl rfl (Nat.le_of_ble_eq_true rfl) rfl ?_
  refine ez_ifeqB (q := 8) (tgt := 21) dX8_sign_5 (by decide) rfl (fun hc5 => ?_) (fun hc5 => ?_)
  · rw [show cdG ln w i what = 1 from by rw [cdG, isS_w hc5]; rfl] at hQ
    refine ez_iconst (v := nI 1) (q := 22) dX8_sign_21 (by decide) rfl ?_
    refine ez_goto (q := 39) dX8_sign_22 (by decide) ?_
    refine pM_th (q := 42) dX8_sign_39 fl_X8_37 hM rfl (fun g hM => ?_)
    refine ez_aload_n (q := 43) 0 dX8_sign_42 rfl rfl rfl ?_
    refine ez_getf (q := 46) dX8_sign_43 fl_X8_37 hM.1 rfl rfl ?_
    refine ez_ifleN (q := 49) (tgt := 53) dX8_sign_46 (by decide) (by decide) rfl (fun hc46 => ?_) (fun hc46 => ?_)
    · first
      | exact absurd hc46 (by decide)
      | skip
        refine ez_aload_n (q := 54) 0 dX8_sign_53 rfl rfl rfl ?_
        refine ez_iload_n (q := 55) 1 dX8_sign_54 rfl rfl rfl ?_
        refine ez_iload_n (q := 56) 2 dX8_sign_55 rfl rfl rfl ?_
        refine ez_iload_n (q := 57) 3 dX8_sign_56 rfl rfl rfl ?_
        refine cXv (q := 60) dX8_sign_57 ck_X8_159 hM.1 (t_X8_toldSign hM.rb hz ho hs (by omega) (by omega) (by omega)) rfl ⟨by decide, rfl⟩ rfl rfl rfl (Nat.le_of_ble_eq_true rfl) rfl (fun g hW => ?_)
        obtain ⟨r, se, ro, le, de, wa, ww, rw, rm, sp, fm, ff, hM2⟩ := hW
        have hM := hM.tr hM2
        exact ez_iret dX8_sign_60 rfl (hQ _ ⟨_, _, _, _, _, _, _, _, _, _, _, _, hM⟩)
    · first
      | exact absurd hc46 (by decide)
      | skip
        refine ez_iconst (v := nI 0) (q := 50) dX8_sign_49 (by decide) rfl ?_
        refine ez_goto (q := 60) dX8_sign_50 (by decide) ?_
        exact ez_iret dX8_sign_60 rfl (hQ _ ⟨_, _, _, _, _, _, _, _, _, _, _, _, hM⟩)
  · obtain ⟨w, rfl, hw, hw2⟩ := inB_nat hc5
    have hl := ho.2.2.2.2.1 w (by omega)
    refine ez_iload_n (q := 9) 2 dX8_sign_8 rfl rfl rfl ?_
    refine ez_iflt (q := 12) (tgt := 21) dX8_sign_9 (by decide) rfl (fun hc9 => ?_) (fun hc9 => ?_)
    · rw [show cdG ln (nI w) i what = 1 from by rw [cdG, isS_n hc9]; rfl] at hQ
      refine ez_iconst (v := nI 1) (q := 22) dX8_sign_21 (by decide) rfl ?_
      refine ez_goto (q := 39) dX8_sign_22 (by decide) ?_
      refine pM_th (q := 42) dX8_sign_39 fl_X8_37 hM rfl (fun g hM => ?_)
      refine ez_aload_n (q := 43) 0 dX8_sign_42 rfl rfl rfl ?_
      refine ez_getf (q := 46) dX8_sign_43 fl_X8_37 hM.1 rfl rfl ?_
      refine ez_ifleN (q := 49) (tgt := 53) dX8_sign_46 (by decide) (by decide) rfl (fun hc46 => ?_) (fun hc46 => ?_)
      · first
        | exact absurd hc46 (by decide)
        | skip
          refine ez_aload_n (q := 54) 0 dX8_sign_53 rfl rfl rfl ?_
          refine ez_iload_n (q := 55) 1 dX8_sign_54 rfl rfl rfl ?_
          refine ez_iload_n (q := 56) 2 dX8_sign_55 rfl rfl rfl ?_
          refine ez_iload_n (q := 57) 3 dX8_sign_56 rfl rfl rfl ?_
          refine cXv (q := 60) dX8_sign_57 ck_X8_159 hM.1 (t_X8_toldSign hM.rb hz ho hs (by omega) (by omega) (by omega)) rfl ⟨by decide, rfl⟩ rfl rfl rfl (Nat.le_of_ble_eq_true rfl) rfl (fun g hW => ?_)
          obtain ⟨r, se, ro, le, de, wa, ww, rw, rm, sp, fm, ff, hM2⟩ := hW
          have hM := hM.tr hM2
          exact ez_iret dX8_sign_60 rfl (hQ _ ⟨_, _, _, _, _, _, _, _, _, _, _, _, hM⟩)
      · first
        | exact absurd hc46 (by decide)
        | skip
          refine ez_iconst (v := nI 0) (q := 50) dX8_sign_49 (by decide) rfl ?_
          refine ez_goto (q := 60) dX8_sign_50 (by decide) ?_
          exact ez_iret dX8_sign_60 rfl (hQ _ ⟨_, _, _, _, _, _, _, _, _, _, _, _, hM⟩)
    · obtain ⟨i, rfl, hi2⟩ := pos_nat hc9
      refine ez_iload_n (q := 13) 2 dX8_sign_12 rfl rfl rfl ?_
      refine ez_aload_n (q := 14) 0 dX8_sign_13 rfl rfl rfl ?_
      refine ez_iload_n (q := 15) 1 dX8_sign_14 rfl rfl rfl ?_
      refine cMv (q := 18) dX8_sign_15 ck_X8_101 hM (t_X8_lengthOf hM.rb hz ho (by omega)) rfl rfl rfl rfl rfl (Nat.le_of_ble_eq_true rfl) rfl (fun g hM => ?_)
      refine ez_icmplt (q := 21) (tgt := 25) dX8_sign_18 (by decide) rfl (fun hc18 => ?_) (fun hc18 => ?_)
      · have hi := (nI_ltI hi2 (by omega)).mp hc18
        have hiS := isS_t (show w < 4 by omega) hi hi2
        refine ez_iload_n (q := 26) 3 dX8_sign_25 rfl rfl rfl ?_
        refine ez_iconst (v := nI 0) (q := 27) dX8_sign_26 (by decide) rfl ?_
        refine ez_iconst (v := nI 3) (q := 28) dX8_sign_27 (by decide) rfl ?_
        refine cUv (q := 31) dX8_sign_28 ck_X8_41 (t_X8_in (a := 0) (b := 3) (by decide) (by decide)) rfl rfl rfl (Nat.le_of_ble_eq_true rfl) rfl ?_
        refine ez_ifeqB (q := 34) (tgt := 38) dX8_sign_31 (by decide) rfl (fun hc31 => ?_) (fun hc31 => ?_)
        · rw [show cdG ln (nI w) (nI i) what = 2 from by simp [cdG, hiS, hc31]] at hQ
          refine ez_iconst (v := nI 2) (q := 39) dX8_sign_38 (by decide) rfl ?_
          refine pM_th (q := 42) dX8_sign_39 fl_X8_37 hM rfl (fun g hM => ?_)
          refine ez_aload_n (q := 43) 0 dX8_sign_42 rfl rfl rfl ?_
          refine ez_getf (q := 46) dX8_sign_43 fl_X8_37 hM.1 rfl rfl ?_
          refine ez_ifleN (q := 49) (tgt := 53) dX8_sign_46 (by decide) (by decide) rfl (fun hc46 => ?_) (fun hc46 => ?_)
          · first
            | exact absurd hc46 (by decide)
            | skip
              refine ez_aload_n (q := 54) 0 dX8_sign_53 rfl rfl rfl ?_
              refine ez_iload_n (q := 55) 1 dX8_sign_54 rfl rfl rfl ?_
              refine ez_iload_n (q := 56) 2 dX8_sign_55 rfl rfl rfl ?_
              refine ez_iload_n (q := 57) 3 dX8_sign_56 rfl rfl rfl ?_
              refine cXv (q := 60) dX8_sign_57 ck_X8_159 hM.1 (t_X8_toldSign hM.rb hz ho hs (by omega) (by omega) (by omega)) rfl ⟨by decide, rfl⟩ rfl rfl rfl (Nat.le_of_ble_eq_true rfl) rfl (fun g hW => ?_)
              obtain ⟨r, se, ro, le, de, wa, ww, rw, rm, sp, fm, ff, hM2⟩ := hW
              have hM := hM.tr hM2
              exact ez_iret dX8_sign_60 rfl (hQ _ ⟨_, _, _, _, _, _, _, _, _, _, _, _, hM⟩)
          · first
            | exact absurd hc46 (by decide)
            | skip
              refine ez_iconst (v := nI 0) (q := 50) dX8_sign_49 (by decide) rfl ?_
              refine ez_goto (q := 60) dX8_sign_50 (by decide) ?_
              exact ez_iret dX8_sign_60 rfl (hQ _ ⟨_, _, _, _, _, _, _, _, _, _, _, _, hM⟩)
        · rw [show cdG ln (nI w) (nI i) what = 0 from by simp [cdG, hiS, hc31]] at hQ
          obtain ⟨k, rfl, hk, hk2⟩ := inB_nat hc31
          rw [nn_nI hi2, nn_nI hw2, nn_nI hk2] at hQ
          refine ez_iconst (v := nI 0) (q := 35) dX8_sign_34 (by decide) rfl ?_
          refine ez_goto (q := 39) dX8_sign_35 (by decide) ?_
          refine pM_th (q := 42) dX8_sign_39 fl_X8_37 hM rfl (fun g hM => ?_)
          refine ez_aload_n (q := 43) 0 dX8_sign_42 rfl rfl rfl ?_
          refine ez_getf (q := 46) dX8_sign_43 fl_X8_37 hM.1 rfl rfl ?_
          refine ez_ifleN (q := 49) (tgt := 53) dX8_sign_46 (by decide) (by decide) rfl (fun hc46 => ?_) (fun hc46 => ?_)
          · first
            | exact absurd hc46 (by decide)
            | skip
              refine ez_aload_n (q := 54) 0 dX8_sign_53 rfl rfl rfl ?_
              refine ez_iload_n (q := 55) 1 dX8_sign_54 rfl rfl rfl ?_
              refine ez_iload_n (q := 56) 2 dX8_sign_55 rfl rfl rfl ?_
              refine ez_iload_n (q := 57) 3 dX8_sign_56 rfl rfl rfl ?_
              refine cXv (q := 60) dX8_sign_57 ck_X8_159 hM.1 (t_X8_toldSign hM.rb hz ho hs (by omega) (by omega) (by omega)) rfl ⟨by decide, rfl⟩ rfl rfl rfl (Nat.le_of_ble_eq_true rfl) rfl (fun g hW => ?_)
              obtain ⟨r, se, ro, le, de, wa, ww, rw, rm, sp, fm, ff, hM2⟩ := hW
              have hM := hM.tr hM2
              exact ez_iret dX8_sign_60 rfl (hQ _ ⟨_, _, _, _, _, _, _, _, _, _, _, _, hM⟩)
          · first
            | exact absurd hc46 (by decide)
            | skip
              refine ez_iconst (v := nI 0) (q := 50) dX8_sign_49 (by decide) rfl ?_
              refine ez_goto (q := 60) dX8_sign_50 (by decide) ?_
              exact ez_iret dX8_sign_60 rfl (hQ _ ⟨_, _, _, _, _, _, _, _, _, _, _, _, hM⟩)
      · have hi : ln w ≤ i := Nat.le_of_not_lt (fun a => hc18 ((nI_ltI hi2 (by omega)).mpr a))
        rw [show cdG ln (nI w) (nI i) what = 1 from by rw [cdG, isS_f (by omega) hi hi2]; rfl] at hQ
        refine ez_iconst (v := nI 1) (q := 22) dX8_sign_21 (by decide) rfl ?_
        refine ez_goto (q := 39) dX8_sign_22 (by decide) ?_
        refine pM_th (q := 42) dX8_sign_39 fl_X8_37 hM rfl (fun g hM => ?_)
        refine ez_aload_n (q := 43) 0 dX8_sign_42 rfl rfl rfl ?_
        refine ez_getf (q := 46) dX8_sign_43 fl_X8_37 hM.1 rfl rfl ?_
        refine ez_ifleN (q := 49) (tgt := 53) dX8_sign_46 (by decide) (by decide) rfl (fun hc46 => ?_) (fun hc46 => ?_)
        · first
          | exact absurd hc46 (by decide)
          | skip
            refine ez_aload_n (q := 54) 0 dX8_sign_53 rfl rfl rfl ?_
            refine ez_iload_n (q := 55) 1 dX8_sign_54 rfl rfl rfl ?_
            refine ez_iload_n (q := 56) 2 dX8_sign_55 rfl rfl rfl ?_
            refine ez_iload_n (q := 57) 3 dX8_sign_56 rfl rfl rfl ?_
            refine cXv (q := 60) dX8_sign_57 ck_X8_159 hM.1 (t_X8_toldSign hM.rb hz ho hs (by omega) (by omega) (by omega)) rfl ⟨by decide, rfl⟩ rfl rfl rfl (Nat.le_of_ble_eq_true rfl) rfl (fun g hW => ?_)
            obtain ⟨r, se, ro, le, de, wa, ww, rw, rm, sp, fm, ff, hM2⟩ := hW
            have hM := hM.tr hM2
            exact ez_iret dX8_sign_60 rfl (hQ _ ⟨_, _, _, _, _, _, _, _, _, _, _, _, hM⟩)
        · first
          | exact absurd hc46 (by decide)
          | skip
            refine ez_iconst (v := nI 0) (q := 50) dX8_sign_49 (by decide) rfl ?_
            refine ez_goto (q := 60) dX8_sign_50 (by decide) ?_
            exact ez_iret dX8_sign_60 rfl (hQ _ ⟨_, _, _, _, _, _, _, _, _, _, _, _, hM⟩)

set_option maxHeartbeats 800000 in
set_option maxRecDepth 100000 in
theorem t_X8_wishMany {G : ez_G} {d n : Nat} {h : ez_H} {n' f : Nat} {L T ln : Nat → Nat} {sg : Nat → Nat → Nat} {th sm ty rd wa rm fm ff : Int32} {z sv bf se ro le de rw sp : Nat → Int32} {ww : Bool} {ha : Int64} (hM : IM h h th z sv sm bf ty rd se ro le de wa ww rw rm sp fm ff ha) (hz : ZZ z n' f L T ln sg) (ho : OK n' f L T ln sg) : Con G mX8_wishMany (d + 1) [.ref 64] h n 0 0 (PM h n (some (.int (nI (wmN ln 4)))) th z sv sm bf ty rd se ro le de wa ww rw rm sp fm ff ha) := by
  have hn := ho.1
  have hn0 := hz.1
  refine Con.of [some (.ref 64), none, none] pl_X8 rfl (Nat.le_of_ble_eq_true rfl) rfl ?_
  have hQ : ∀ g, IM h g th z sv sm bf ty rd se ro le de wa ww rw rm sp fm ff ha → (PM h n (some (.int (nI (wmN ln 4)))) th z sv sm bf ty rd se ro le de wa ww rw rm sp fm ff ha) (.inl (some (.int (nI (wmN ln 4))))) g n := fun g hM => ⟨rfl, hM, rfl⟩
  generalize PM h n (some (.int (nI (wmN ln 4)))) th z sv sm bf ty rd se ro le de wa ww rw rm sp fm ff ha = Q at hQ ⊢
  refine ez_iconst (v := nI 0) (q := 1) dX8_wishMany_0 (by decide) rfl ?_
  refine ez_istore_1 (q := 2) dX8_wishMany_1 rfl (by decide) rfl rfl ?_
  refine ez_iconst (v := nI 0) (q := 3) dX8_wishMany_2 (by decide) rfl ?_
  refine ez_istore_2 (q := 4) dX8_wishMany_3 rfl (by decide) rfl rfl ?_
  refine ez_loop (α := Nat) (fun w => 4 - w) (P := fun w => ∀ (g : ez_H) , IM h g th z sv sm bf ty rd se ro le de wa ww rw rm sp fm ff ha → (w ≤ 4) → E G mX8_wishMany (d + 1) Q g n 0 0 4 [some (.ref 64), some (.int (nI (wmN ln w))), some (.int (nI w))] []) ?_ 0 h hM (by omega)
  intro w ih4 g  hM hw
  refine ez_iload_n (q := 5) 2 dX8_wishMany_4 rfl rfl rfl ?_
  refine ez_iconst (v := nI 4) (q := 6) dX8_wishMany_5 (by decide) rfl ?_
  refine ez_icmpgeN (q := 9) (tgt := 31) dX8_wishMany_6 (by decide) (by omega) (by omega) rfl (fun hc6 => ?_) (fun hc6 => ?_)
  · refine ez_iload_n (q := 32) 1 dX8_wishMany_31 rfl rfl rfl ?_
    exact ez_iret dX8_wishMany_32 rfl (by rw [show w = 4 from by omega]; exact hQ _ hM)
  · refine ez_iload_n (q := 10) 1 dX8_wishMany_9 rfl rfl rfl ?_
    refine ez_aload_n (q := 11) 0 dX8_wishMany_10 rfl rfl rfl ?_
    refine ez_iload_n (q := 12) 2 dX8_wishMany_11 rfl rfl rfl ?_
    refine cMv (q := 15) dX8_wishMany_12 ck_X8_101 hM (t_X8_lengthOf hM.rb hz ho (by omega)) rfl rfl rfl rfl rfl (Nat.le_of_ble_eq_true rfl) rfl (fun g hM => ?_)
    refine ez_ifleN (q := 18) (tgt := 22) dX8_wishMany_15 (by decide) (by have := ho.2.2.2.2.1 w (by omega); omega) rfl (fun hc15 => ?_) (fun hc15 => ?_)
    · refine ez_iconst (v := nI 0) (q := 23) dX8_wishMany_22 (by decide) rfl ?_
      refine ez_iaddN (q := 24) dX8_wishMany_23 rfl ?_
      refine ez_istore_1 (q := 25) dX8_wishMany_24 rfl (by decide) rfl rfl ?_
      refine ez_iincN_2 (q := 28) dX8_wishMany_25 (by decide) rfl rfl ?_
      refine ez_goto (q := 4) dX8_wishMany_28 (by decide) ?_
      exact E.fg (ih4 (w + 1) (by omega) g hM (by omega)) ⟨Or.inr (rfl), Or.inr (by first | rw [wmN, if_pos (by omega)] | rw [wmN, if_neg (by omega)]), Or.inr (rfl), trivial⟩
    · refine ez_iconst (v := nI 1) (q := 19) dX8_wishMany_18 (by decide) rfl ?_
      refine ez_goto (q := 23) dX8_wishMany_19 (by decide) ?_
      refine ez_iaddN (q := 24) dX8_wishMany_23 rfl ?_
      refine ez_istore_1 (q := 25) dX8_wishMany_24 rfl (by decide) rfl rfl ?_
      refine ez_iincN_2 (q := 28) dX8_wishMany_25 (by decide) rfl rfl ?_
      refine ez_goto (q := 4) dX8_wishMany_28 (by decide) ?_
      exact E.fg (ih4 (w + 1) (by omega) g hM (by omega)) ⟨Or.inr (rfl), Or.inr (by first | rw [wmN, if_pos (by omega)] | rw [wmN, if_neg (by omega)]), Or.inr (rfl), trivial⟩

set_option maxHeartbeats 800000 in
set_option maxRecDepth 100000 in
theorem t_X8_signMany {G : ez_G} {d n : Nat} {h : ez_H} {n' f : Nat} {L T ln : Nat → Nat} {sg : Nat → Nat → Nat} {th sm ty rd wa rm fm ff : Int32} {z sv bf se ro le de rw sp : Nat → Int32} {ww : Bool} {ha : Int64} (hM : IM h h th z sv sm bf ty rd se ro le de wa ww rw rm sp fm ff ha) (hz : ZZ z n' f L T ln sg) (ho : OK n' f L T ln sg) : Con G mX8_signMany (d + 1) [.ref 64] h n 0 0 (PM h n (some (.int (nI (smN ln 4)))) th z sv sm bf ty rd se ro le de wa ww rw rm sp fm ff ha) := by
  have hn := ho.1
  have hn0 := hz.1
  refine Con.of [some (.ref 64), none, none] pl_X8 rfl (Nat.le_of_ble_eq_true rfl) rfl ?_
  have hQ : ∀ g, IM h g th z sv sm bf ty rd se ro le de wa ww rw rm sp fm ff ha → (PM h n (some (.int (nI (smN ln 4)))) th z sv sm bf ty rd se ro le de wa ww rw rm sp fm ff ha) (.inl (some (.int (nI (smN ln 4))))) g n := fun g hM => ⟨rfl, hM, rfl⟩
  generalize PM h n (some (.int (nI (smN ln 4)))) th z sv sm bf ty rd se ro le de wa ww rw rm sp fm ff ha = Q at hQ ⊢
  refine ez_iconst (v := nI 0) (q := 1) dX8_signMany_0 (by decide) rfl ?_
  refine ez_istore_1 (q := 2) dX8_signMany_1 rfl (by decide) rfl rfl ?_
  refine ez_iconst (v := nI 0) (q := 3) dX8_signMany_2 (by decide) rfl ?_
  refine ez_istore_2 (q := 4) dX8_signMany_3 rfl (by decide) rfl rfl ?_
  refine ez_loop (α := Nat) (fun w => 4 - w) (P := fun w => ∀ (g : ez_H) , IM h g th z sv sm bf ty rd se ro le de wa ww rw rm sp fm ff ha → (w ≤ 4) → E G mX8_signMany (d + 1) Q g n 0 0 4 [some (.ref 64), some (.int (nI (smN ln w))), some (.int (nI w))] []) ?_ 0 h hM (by omega)
  intro w ih4 g  hM hw
  refine ez_iload_n (q := 5) 2 dX8_signMany_4 rfl rfl rfl ?_
  refine ez_iconst (v := nI 4) (q := 6) dX8_signMany_5 (by decide) rfl ?_
  refine ez_icmpgeN (q := 9) (tgt := 23) dX8_signMany_6 (by decide) (by omega) (by omega) rfl (fun hc6 => ?_) (fun hc6 => ?_)
  · refine ez_iload_n (q := 24) 1 dX8_signMany_23 rfl rfl rfl ?_
    exact ez_iret dX8_signMany_24 rfl (by rw [show w = 4 from by omega]; exact hQ _ hM)
  · refine ez_iload_n (q := 10) 1 dX8_signMany_9 rfl rfl rfl ?_
    refine ez_aload_n (q := 11) 0 dX8_signMany_10 rfl rfl rfl ?_
    refine ez_iload_n (q := 12) 2 dX8_signMany_11 rfl rfl rfl ?_
    refine cMv (q := 15) dX8_signMany_12 ck_X8_101 hM (t_X8_lengthOf hM.rb hz ho (by omega)) rfl rfl rfl rfl rfl (Nat.le_of_ble_eq_true rfl) rfl (fun g hM => ?_)
    refine ez_iaddN (q := 16) dX8_signMany_15 rfl ?_
    refine ez_istore_1 (q := 17) dX8_signMany_16 rfl (by decide) rfl rfl ?_
    refine ez_iincN_2 (q := 20) dX8_signMany_17 (by decide) rfl rfl ?_
    refine ez_goto (q := 4) dX8_signMany_20 (by decide) ?_
    exact E.fg (ih4 (w + 1) (by omega) g hM (by omega)) ⟨Or.inr (rfl), Or.inr (rfl), Or.inr (rfl), trivial⟩

set_option maxHeartbeats 800000 in
set_option maxRecDepth 100000 in
theorem t_X8_stepless {G : ez_G} {d n : Nat} {h : ez_H} {n' f : Nat} {L T ln : Nat → Nat} {sg : Nat → Nat → Nat} {th sm ty rd wa rm fm ff : Int32} {z sv bf se ro le de rw sp : Nat → Int32} {ww : Bool} {ha : Int64} (hM : IM h h th z sv sm bf ty rd se ro le de wa ww rw rm sp fm ff ha) (hz : ZZ z n' f L T ln sg) (ho : OK n' f L T ln sg) : Con G mX8_stepless (d + 1) [.ref 64] h n 0 0 (PM h n (some (.int (nI (slN T n')))) th z sv sm bf ty rd se ro le de wa ww rw rm sp fm ff ha) := by
  have hn := ho.1
  have hn0 := hz.1
  refine Con.of [some (.ref 64), none, none] pl_X8 rfl (Nat.le_of_ble_eq_true rfl) rfl ?_
  have hQ : ∀ g, IM h g th z sv sm bf ty rd se ro le de wa ww rw rm sp fm ff ha → (PM h n (some (.int (nI (slN T n')))) th z sv sm bf ty rd se ro le de wa ww rw rm sp fm ff ha) (.inl (some (.int (nI (slN T n'))))) g n := fun g hM => ⟨rfl, hM, rfl⟩
  generalize PM h n (some (.int (nI (slN T n')))) th z sv sm bf ty rd se ro le de wa ww rw rm sp fm ff ha = Q at hQ ⊢
  refine ez_iconst (v := nI 0) (q := 1) dX8_stepless_0 (by decide) rfl ?_
  refine ez_istore_1 (q := 2) dX8_stepless_1 rfl (by decide) rfl rfl ?_
  refine ez_iconst (v := nI 0) (q := 3) dX8_stepless_2 (by decide) rfl ?_
  refine ez_istore_2 (q := 4) dX8_stepless_3 rfl (by decide) rfl rfl ?_
  refine ez_loop (α := Nat) (fun w => n' - w) (P := fun w => ∀ (g : ez_H) , IM h g th z sv sm bf ty rd se ro le de wa ww rw rm sp fm ff ha → (w ≤ n') → E G mX8_stepless (d + 1) Q g n 0 0 4 [some (.ref 64), some (.int (nI (slN T w))), some (.int (nI w))] []) ?_ 0 h hM (by omega)
  intro w ih4 g  hM hw
  refine ez_iload_n (q := 5) 2 dX8_stepless_4 rfl rfl rfl ?_
  refine ez_aload_n (q := 6) 0 dX8_stepless_5 rfl rfl rfl ?_
  refine ez_getf (q := 9) dX8_stepless_6 fl_X8_7 hM.1 rfl rfl ?_
  refine ez_iconst (v := nI 0) (q := 10) dX8_stepless_9 (by decide) rfl ?_
  refine ez_iald (q := 11) dX8_stepless_10 hM.2.1 rfl (by omega) (by decide) rfl ?_
  first | refine ez_top (hn0) ?_ | refine ez_top (hz.2.2.2.1 _ (by omega)) ?_
  refine ez_icmpgeN (q := 14) (tgt := 40) dX8_stepless_11 (by decide) (by omega) (by omega) rfl (fun hc11 => ?_) (fun hc11 => ?_)
  · refine ez_iload_n (q := 41) 1 dX8_stepless_40 rfl rfl rfl ?_
    exact ez_iret dX8_stepless_41 rfl (by rw [show n' = w from by omega] at hQ; exact hQ _ hM)
  · refine ez_iload_n (q := 15) 1 dX8_stepless_14 rfl rfl rfl ?_
    refine ez_aload_n (q := 16) 0 dX8_stepless_15 rfl rfl rfl ?_
    refine ez_getf (q := 19) dX8_stepless_16 fl_X8_7 hM.1 rfl rfl ?_
    refine ez_bipush (v := nI 12) (q := 21) dX8_stepless_19 (by decide) rfl ?_
    refine ez_iload_n (q := 22) 2 dX8_stepless_21 rfl rfl rfl ?_
    refine ez_iaddN (q := 23) dX8_stepless_22 rfl ?_
    refine ez_iald (q := 24) dX8_stepless_23 hM.2.1 rfl (by omega) (by decide) rfl ?_
    first | refine ez_top (hn0) ?_ | refine ez_top (hz.2.2.2.1 _ (by omega)) ?_
    refine ez_ifneN (q := 27) (tgt := 31) dX8_stepless_24 (by decide) (Nat.lt_of_lt_of_le (ho.2.2.2.1 w (by omega)) (Nat.le_trans (p10 (Nat.le_refl _) hn) (by decide))) rfl (fun hc24 => ?_) (fun hc24 => ?_)
    · refine ez_iconst (v := nI 0) (q := 32) dX8_stepless_31 (by decide) rfl ?_
      refine ez_iaddN (q := 33) dX8_stepless_32 rfl ?_
      refine ez_istore_1 (q := 34) dX8_stepless_33 rfl (by decide) rfl rfl ?_
      refine ez_iincN_2 (q := 37) dX8_stepless_34 (by decide) rfl rfl ?_
      refine ez_goto (q := 4) dX8_stepless_37 (by decide) ?_
      exact E.fg (ih4 (w + 1) (by omega) g hM (by omega)) ⟨Or.inr (rfl), Or.inr (by first | rw [slN, if_pos (by assumption)] | rw [slN, if_neg (by assumption)]), Or.inr (rfl), trivial⟩
    · refine ez_iconst (v := nI 1) (q := 28) dX8_stepless_27 (by decide) rfl ?_
      refine ez_goto (q := 32) dX8_stepless_28 (by decide) ?_
      refine ez_iaddN (q := 33) dX8_stepless_32 rfl ?_
      refine ez_istore_1 (q := 34) dX8_stepless_33 rfl (by decide) rfl rfl ?_
      refine ez_iincN_2 (q := 37) dX8_stepless_34 (by decide) rfl rfl ?_
      refine ez_goto (q := 4) dX8_stepless_37 (by decide) ?_
      exact E.fg (ih4 (w + 1) (by omega) g hM (by omega)) ⟨Or.inr (rfl), Or.inr (by first | rw [slN, if_pos (by assumption)] | rw [slN, if_neg (by assumption)]), Or.inr (rfl), trivial⟩

set_option maxHeartbeats 800000 in
set_option maxRecDepth 100000 in
theorem t_X8_allHold {G : ez_G} {d n : Nat} {h : ez_H} {n' f : Nat} {L T ln : Nat → Nat} {sg : Nat → Nat → Nat} {r : Nat} {th sm ty wa rm fm ff : Int32} {z sv bf se ro le de rw sp : Nat → Int32} {ww : Bool} {ha : Int64} (hM : IM h h th z sv sm bf ty (nI r) se ro le de wa ww rw rm sp fm ff ha) (hz : ZZ z n' f L T ln sg) (ho : OK n' f L T ln sg) (hs : WFS ln sg) : Con G mX8_allHold (d + 10) [.ref 64] h n 0 0 (PW n (some (.int (nI (ctN (ahN T n' f L ln sg 4) 10)))) (fun g => MB h g th z sv sm bf ty ha)) := by
  have hn := ho.1
  have hn0 := hz.1
  refine Con.of [some (.ref 64), none, none] pl_X8 rfl (Nat.le_of_ble_eq_true rfl) rfl ?_
  have hQ : ∀ g, MB h g th z sv sm bf ty ha → (PW n (some (.int (nI (ctN (ahN T n' f L ln sg 4) 10)))) (fun g => MB h g th z sv sm bf ty ha)) (.inl (some (.int (nI (ctN (ahN T n' f L ln sg 4) 10))))) g n := fun g hW => ⟨rfl, hW, rfl⟩
  generalize PW n (some (.int (nI (ctN (ahN T n' f L ln sg 4) 10)))) (fun g => MB h g th z sv sm bf ty ha) = Q at hQ ⊢
  refine ez_aload_n (q := 1) 0 dX8_allHold_0 rfl rfl rfl ?_
  refine cMv (q := 4) dX8_allHold_1 ck_X8_79 hM (t_X8_all hM.rb hz ho) rfl rfl rfl rfl rfl (Nat.le_of_ble_eq_true rfl) rfl (fun g hM => ?_)
  refine ez_istore_1 (q := 5) dX8_allHold_4 rfl (by decide) rfl rfl ?_
  refine ez_iconst (v := nI 0) (q := 6) dX8_allHold_5 (by decide) rfl ?_
  refine ez_istore_2 (q := 7) dX8_allHold_6 rfl (by decide) rfl rfl ?_
  refine ez_loop (α := Nat) (fun w => 4 - w) (P := fun w => ∀ (g : ez_H) (r : Nat) (se ro le de : Nat → Int32) (wa : Int32) (ww : Bool) (rw : Nat → Int32) (rm : Int32) (sp : Nat → Int32) (fm ff : Int32), IM h g th z sv sm bf ty (nI r) se ro le de wa ww rw rm sp fm ff ha → (w ≤ 4) → E G mX8_allHold (d + 10) Q g n 0 0 7 [some (.ref 64), some (.int (nI (ahN T n' f L ln sg w))), some (.int (nI w))] []) ?_ 0 g _ _ _ _ _ _ _ _ _ _ _ _ hM (by omega)
  intro w ih7 g r se ro le de wa ww rw rm sp fm ff hM hw
  refine ez_iload_n (q := 8) 2 dX8_allHold_7 rfl rfl rfl ?_
  refine ez_iconst (v := nI 4) (q := 9) dX8_allHold_8 (by decide) rfl ?_
  refine ez_icmpgeN (q := 12) (tgt := 38) dX8_allHold_9 (by decide) (by omega) (by omega) rfl (fun hc9 => ?_) (fun hc9 => ?_)
  · obtain rfl : w = 4 := by omega
    refine ez_iload_n (q := 39) 1 dX8_allHold_38 rfl rfl rfl ?_
    refine cUv (q := 42) dX8_allHold_39 ck_X8_59 (t_X8_bits (Nat.lt_of_lt_of_le (ah_lt 4) (p10 (Nat.le_refl _) hn))) rfl rfl rfl (Nat.le_of_ble_eq_true rfl) rfl ?_
    exact ez_iret dX8_allHold_42 rfl (hQ _ ⟨_, _, _, _, _, _, _, _, _, _, _, _, hM⟩)
  · refine ez_iload_n (q := 13) 1 dX8_allHold_12 rfl rfl rfl ?_
    refine ez_aload_n (q := 14) 0 dX8_allHold_13 rfl rfl rfl ?_
    refine ez_iload_n (q := 15) 2 dX8_allHold_14 rfl rfl rfl ?_
    refine cMv (q := 18) dX8_allHold_15 ck_X8_101 hM (t_X8_lengthOf hM.rb hz ho (by omega)) rfl rfl rfl rfl rfl (Nat.le_of_ble_eq_true rfl) rfl (fun g hM => ?_)
    refine ez_ifleN (q := 21) (tgt := 29) dX8_allHold_18 (by decide) (by have := ho.2.2.2.2.1 w (by omega); omega) rfl (fun hc18 => ?_) (fun hc18 => ?_)
    · refine ez_iload_n (q := 30) 1 dX8_allHold_29 rfl rfl rfl ?_
      refine ez_iandN (q := 31) dX8_allHold_30 rfl ?_
      refine ez_istore_1 (q := 32) dX8_allHold_31 rfl (by decide) rfl rfl ?_
      refine ez_iincN_2 (q := 35) dX8_allHold_32 (by decide) rfl rfl ?_
      refine ez_goto (q := 7) dX8_allHold_35 (by decide) ?_
      exact E.fg (ih7 (w + 1) (by omega) g _ _ _ _ _ _ _ _ _ _ _ _ hM (by omega)) ⟨Or.inr (rfl), Or.inr (by first | rw [ah_t hc18]; rfl | rw [ah_f hc18]), Or.inr (rfl), trivial⟩
    · obtain ⟨sc, hwf⟩ := hs w (by omega) (by omega)
      refine ez_aload_n (q := 22) 0 dX8_allHold_21 rfl rfl rfl ?_
      refine ez_iload_n (q := 23) 2 dX8_allHold_22 rfl rfl rfl ?_
      refine cXv (q := 26) dX8_allHold_23 ck_X8_144 hM.1 (t_X8_holds hM.rb hz ho (by omega) hwf) rfl ⟨by decide, rfl⟩ rfl rfl rfl (Nat.le_of_ble_eq_true rfl) rfl (fun g hW => ?_)
      obtain ⟨se, ro, le, de, r, hM2, ht⟩ := hW
      have hM := hM.tr hM2
      refine ez_goto (q := 30) dX8_allHold_26 (by decide) ?_
      refine ez_iandN (q := 31) dX8_allHold_30 rfl ?_
      refine ez_istore_1 (q := 32) dX8_allHold_31 rfl (by decide) rfl rfl ?_
      refine ez_iincN_2 (q := 35) dX8_allHold_32 (by decide) rfl rfl ?_
      refine ez_goto (q := 7) dX8_allHold_35 (by decide) ?_
      exact E.fg (ih7 (w + 1) (by omega) g _ _ _ _ _ _ _ _ _ _ _ _ hM (by omega)) ⟨Or.inr (rfl), Or.inr (by first | rw [ah_t hc18]; rfl | rw [ah_f hc18]), Or.inr (rfl), trivial⟩

set_option maxHeartbeats 800000 in
set_option maxRecDepth 100000 in
theorem t_X8_counted {G : ez_G} {d n : Nat} {h : ez_H} {n' f : Nat} {L T ln : Nat → Nat} {sg : Nat → Nat → Nat} {what k r : Nat} {th ty wa rm fm ff : Int32} {z sv bf se ro le de rw sp : Nat → Int32} {ww : Bool} {ha : Int64} (hM : IM h h th z sv (nI k) bf ty (nI r) se ro le de wa ww rw rm sp fm ff ha) (hz : ZZ z n' f L T ln sg) (ho : OK n' f L T ln sg) (hs : WFS ln sg) (hwh : what ≤ 8) : Con G mX8_counted (d + 11) [.ref 64, .int (nI what)] h n 0 0 (PW n (some (.int (couI T n' f L ln sg k what))) (fun g => MB h g th z sv (nI k) bf ty ha)) := by
  have hn := ho.1
  have hn0 := hz.1
  refine Con.of [some (.ref 64), some (.int (nI what))] pl_X8 rfl (Nat.le_of_ble_eq_true rfl) rfl ?_
  have hQ : ∀ g, MB h g th z sv (nI k) bf ty ha → (PW n (some (.int (couI T n' f L ln sg k what))) (fun g => MB h g th z sv (nI k) bf ty ha)) (.inl (some (.int (couI T n' f L ln sg k what)))) g n := fun g hW => ⟨rfl, hW, rfl⟩
  generalize PW n (some (.int (couI T n' f L ln sg k what))) (fun g => MB h g th z sv (nI k) bf ty ha) = Q at hQ ⊢
  refine ez_iload_n (q := 1) 1 dX8_counted_0 rfl rfl rfl ?_
  obtain rfl | rfl | rfl | rfl | rfl | rfl | rfl | rfl | rfl : what = 0 ∨ what = 1 ∨ what = 2 ∨ what = 3 ∨ what = 4 ∨ what = 5 ∨ what = 6 ∨ what = 7 ∨ what = 8 := by omega
  · refine ez_tableIn (q := 48) (off := 47) dX8_counted_1 (by decide) (by decide) (by decide) (by decide) ?_
    refine ez_aload_n (q := 49) 0 dX8_counted_48 rfl rfl rfl ?_
    refine ez_getf (q := 52) dX8_counted_49 fl_X8_7 hM.1 rfl rfl ?_
    refine ez_iconst (v := nI 0) (q := 53) dX8_counted_52 (by decide) rfl ?_
    refine ez_iald (q := 54) dX8_counted_53 hM.2.1 rfl (by omega) (by decide) rfl ?_
    refine ez_top (hn0) ?_
    exact ez_iret dX8_counted_54 rfl (hQ _ ⟨_, _, _, _, _, _, _, _, _, _, _, _, hM⟩)
  · refine ez_tableIn (q := 55) (off := 54) dX8_counted_1 (by decide) (by decide) (by decide) (by decide) ?_
    refine ez_aload_n (q := 56) 0 dX8_counted_55 rfl rfl rfl ?_
    refine cMv (q := 59) dX8_counted_56 ck_X8_63 hM (t_X8_stepMany hM.rb hz ho) rfl rfl rfl rfl rfl (Nat.le_of_ble_eq_true rfl) rfl (fun g hM => ?_)
    exact ez_iret dX8_counted_59 rfl (hQ _ ⟨_, _, _, _, _, _, _, _, _, _, _, _, hM⟩)
  · refine ez_tableIn (q := 60) (off := 59) dX8_counted_1 (by decide) (by decide) (by decide) (by decide) ?_
    refine ez_aload_n (q := 61) 0 dX8_counted_60 rfl rfl rfl ?_
    refine cMv (q := 64) dX8_counted_61 ck_X8_85 hM (t_X8_live hM.rb hz ho) rfl rfl rfl rfl rfl (Nat.le_of_ble_eq_true rfl) rfl (fun g hM => ?_)
    refine cUv (q := 67) dX8_counted_64 ck_X8_59 (t_X8_bits (Nat.lt_of_lt_of_le (lvN_lt _ _ _ _) (p10 (Nat.le_refl _) hn))) rfl rfl rfl (Nat.le_of_ble_eq_true rfl) rfl ?_
    exact ez_iret dX8_counted_67 rfl (hQ _ ⟨_, _, _, _, _, _, _, _, _, _, _, _, hM⟩)
  · refine ez_tableIn (q := 68) (off := 67) dX8_counted_1 (by decide) (by decide) (by decide) (by decide) ?_
    refine ez_aload_n (q := 69) 0 dX8_counted_68 rfl rfl rfl ?_
    refine cMv (q := 72) dX8_counted_69 ck_X8_200 hM (t_X8_stepless hM.rb hz ho) rfl rfl rfl rfl rfl (Nat.le_of_ble_eq_true rfl) rfl (fun g hM => ?_)
    exact ez_iret dX8_counted_72 rfl (hQ _ ⟨_, _, _, _, _, _, _, _, _, _, _, _, hM⟩)
  · refine ez_tableIn (q := 73) (off := 72) dX8_counted_1 (by decide) (by decide) (by decide) (by decide) ?_
    refine ez_aload_n (q := 74) 0 dX8_counted_73 rfl rfl rfl ?_
    refine ez_getf (q := 77) dX8_counted_74 fl_X8_7 hM.1 rfl rfl ?_
    refine ez_iconst (v := nI 1) (q := 78) dX8_counted_77 (by decide) rfl ?_
    refine ez_iald (q := 79) dX8_counted_78 hM.2.1 rfl (by omega) (by decide) rfl ?_
    refine ez_top (hz.2.1) ?_
    exact ez_iret dX8_counted_79 rfl (hQ _ ⟨_, _, _, _, _, _, _, _, _, _, _, _, hM⟩)
  · refine ez_tableIn (q := 80) (off := 79) dX8_counted_1 (by decide) (by decide) (by decide) (by decide) ?_
    refine ez_aload_n (q := 81) 0 dX8_counted_80 rfl rfl rfl ?_
    refine cMv (q := 84) dX8_counted_81 ck_X8_203 hM (t_X8_wishMany hM.rb hz ho) rfl rfl rfl rfl rfl (Nat.le_of_ble_eq_true rfl) rfl (fun g hM => ?_)
    exact ez_iret dX8_counted_84 rfl (hQ _ ⟨_, _, _, _, _, _, _, _, _, _, _, _, hM⟩)
  · refine ez_tableIn (q := 85) (off := 84) dX8_counted_1 (by decide) (by decide) (by decide) (by decide) ?_
    refine ez_aload_n (q := 86) 0 dX8_counted_85 rfl rfl rfl ?_
    refine cMv (q := 89) dX8_counted_86 ck_X8_206 hM (t_X8_signMany hM.rb hz ho) rfl rfl rfl rfl rfl (Nat.le_of_ble_eq_true rfl) rfl (fun g hM => ?_)
    exact ez_iret dX8_counted_89 rfl (hQ _ ⟨_, _, _, _, _, _, _, _, _, _, _, _, hM⟩)
  · refine ez_tableIn (q := 90) (off := 89) dX8_counted_1 (by decide) (by decide) (by decide) (by decide) ?_
    refine ez_aload_n (q := 91) 0 dX8_counted_90 rfl rfl rfl ?_
    refine cXv (q := 94) dX8_counted_91 ck_X8_209 hM.1 (t_X8_allHold hM.rb hz ho hs) rfl ⟨by decide, rfl⟩ rfl rfl rfl (Nat.le_of_ble_eq_true rfl) rfl (fun g hW => ?_)
    obtain ⟨r, se, ro, le, de, wa, ww, rw, rm, sp, fm, ff, hM2⟩ := hW
    have hM := hM.tr hM2
    exact ez_iret dX8_counted_94 rfl (hQ _ ⟨_, _, _, _, _, _, _, _, _, _, _, _, hM⟩)
  · refine ez_tableOut (q := 95) dX8_counted_1 (by decide) (by decide) ?_
    refine ez_aload_n (q := 96) 0 dX8_counted_95 rfl rfl rfl ?_
    refine ez_getf (q := 99) dX8_counted_96 fl_X8_45 hM.1 rfl rfl ?_
    exact ez_iret dX8_counted_99 rfl (hQ _ ⟨_, _, _, _, _, _, _, _, _, _, _, _, hM⟩)

def cdC (what : Int32) : Nat := if inB what 0 8 = true then 0 else 1
set_option maxHeartbeats 800000 in
set_option maxRecDepth 100000 in
theorem t_X8_count {G : ez_G} {d n : Nat} {h : ez_H} {n' f : Nat} {L T ln : Nat → Nat} {sg : Nat → Nat → Nat} {what : Int32} {k r : Nat} {th ty wa rm fm ff : Int32} {z sv bf se ro le de rw sp : Nat → Int32} {ww : Bool} {ha : Int64} (hM : IM h h th z sv (nI k) bf ty (nI r) se ro le de wa ww rw rm sp fm ff ha) (hz : ZZ z n' f L T ln sg) (ho : OK n' f L T ln sg) (hs : WFS ln sg) : Con G mX8_count (d + 12) [.ref 64, .int what] h n 0 0 (PW n (some (.int (aW (cdC what) (couI T n' f L ln sg k (nn what))))) (fun g => MB h g (nI (cdC what)) z sv (nI k) bf ty ha)) := by
  have hn := ho.1
  have hn0 := hz.1
  refine Con.of [some (.ref 64), some (.int what)] pl_X8 rfl (Nat.le_of_ble_eq_true rfl) rfl ?_
  have hQ : ∀ g, MB h g (nI (cdC what)) z sv (nI k) bf ty ha → (PW n (some (.int (aW (cdC what) (couI T n' f L ln sg k (nn what))))) (fun g => MB h g (nI (cdC what)) z sv (nI k) bf ty ha)) (.inl (some (.int (aW (cdC what) (couI T n' f L ln sg k (nn what)))))) g n := fun g hW => ⟨rfl, hW, rfl⟩
  generalize PW n (some (.int (aW (cdC what) (couI T n' f L ln sg k (nn what))))) (fun g => MB h g (nI (cdC what)) z sv (nI k) bf ty ha) = Q at hQ ⊢
  refine ez_aload_n (q := 1) 0 dX8_count_0 rfl rfl rfl ?_
  refine ez_iload_n (q := 2) 1 dX8_count_1 rfl rfl rfl ?_
  refine ez_iconst (v := nI 0) (q := 3) dX8_count_2 (by decide) rfl ?_
  refine ez_bipush (v := nI 8) (q := 5) dX8_count_3 (by decide) rfl ?_
  refine cUv (q := 8) dX8_count_5 ck_X8_41 (t_X8_in (a := 0) (b := 8) (by decide) (by decide)) rfl rfl rfl (Nat.le_of_ble_eq_true rfl) rfl ?_
  refine ez_ifeqB (q := 11) (tgt := 15) dX8_count_8 (by decide) rfl (fun hc8 => ?_) (fun hc8 => ?_)
  · rw [show cdC what = 1 from by simp [cdC, hc8]] at hQ
    refine ez_iconst (v := nI 1) (q := 16) dX8_count_15 (by decide) rfl ?_
    refine pM_th (q := 19) dX8_count_16 fl_X8_37 hM rfl (fun g hM => ?_)
    refine ez_aload_n (q := 20) 0 dX8_count_19 rfl rfl rfl ?_
    refine ez_getf (q := 23) dX8_count_20 fl_X8_37 hM.1 rfl rfl ?_
    refine ez_ifleN (q := 26) (tgt := 30) dX8_count_23 (by decide) (by decide) rfl (fun hc23 => ?_) (fun hc23 => ?_)
    · first
      | exact absurd hc23 (by decide)
      | skip
        refine ez_aload_n (q := 31) 0 dX8_count_30 rfl rfl rfl ?_
        refine ez_iload_n (q := 32) 1 dX8_count_31 rfl rfl rfl ?_
        refine cXv (q := 35) dX8_count_32 ck_X8_212 hM.1 (t_X8_counted hM.rb hz ho hs (by omega)) rfl ⟨by decide, rfl⟩ rfl rfl rfl (Nat.le_of_ble_eq_true rfl) rfl (fun g hW => ?_)
        obtain ⟨r, se, ro, le, de, wa, ww, rw, rm, sp, fm, ff, hM2⟩ := hW
        have hM := hM.tr hM2
        exact ez_iret dX8_count_35 rfl (hQ _ ⟨_, _, _, _, _, _, _, _, _, _, _, _, hM⟩)
    · first
      | exact absurd hc23 (by decide)
      | skip
        refine ez_iconst (v := nI 0) (q := 27) dX8_count_26 (by decide) rfl ?_
        refine ez_goto (q := 35) dX8_count_27 (by decide) ?_
        exact ez_iret dX8_count_35 rfl (hQ _ ⟨_, _, _, _, _, _, _, _, _, _, _, _, hM⟩)
  · rw [show cdC what = 0 from by simp [cdC, hc8]] at hQ
    obtain ⟨k2, rfl, hk, hk2⟩ := inB_nat hc8
    rw [nn_nI hk2] at hQ
    refine ez_iconst (v := nI 0) (q := 12) dX8_count_11 (by decide) rfl ?_
    refine ez_goto (q := 16) dX8_count_12 (by decide) ?_
    refine pM_th (q := 19) dX8_count_16 fl_X8_37 hM rfl (fun g hM => ?_)
    refine ez_aload_n (q := 20) 0 dX8_count_19 rfl rfl rfl ?_
    refine ez_getf (q := 23) dX8_count_20 fl_X8_37 hM.1 rfl rfl ?_
    refine ez_ifleN (q := 26) (tgt := 30) dX8_count_23 (by decide) (by decide) rfl (fun hc23 => ?_) (fun hc23 => ?_)
    · first
      | exact absurd hc23 (by decide)
      | skip
        refine ez_aload_n (q := 31) 0 dX8_count_30 rfl rfl rfl ?_
        refine ez_iload_n (q := 32) 1 dX8_count_31 rfl rfl rfl ?_
        refine cXv (q := 35) dX8_count_32 ck_X8_212 hM.1 (t_X8_counted hM.rb hz ho hs (by omega)) rfl ⟨by decide, rfl⟩ rfl rfl rfl (Nat.le_of_ble_eq_true rfl) rfl (fun g hW => ?_)
        obtain ⟨r, se, ro, le, de, wa, ww, rw, rm, sp, fm, ff, hM2⟩ := hW
        have hM := hM.tr hM2
        exact ez_iret dX8_count_35 rfl (hQ _ ⟨_, _, _, _, _, _, _, _, _, _, _, _, hM⟩)
    · first
      | exact absurd hc23 (by decide)
      | skip
        refine ez_iconst (v := nI 0) (q := 27) dX8_count_26 (by decide) rfl ?_
        refine ez_goto (q := 35) dX8_count_27 (by decide) ?_
        exact ez_iret dX8_count_35 rfl (hQ _ ⟨_, _, _, _, _, _, _, _, _, _, _, _, hM⟩)

set_option maxHeartbeats 800000 in
set_option maxRecDepth 100000 in
theorem t_X8_compared {G : ez_G} {d n : Nat} {h : ez_H} {n' f : Nat} {L T ln : Nat → Nat} {sg : Nat → Nat → Nat} {w v r : Nat} {th sm ty wa rm fm ff : Int32} {z sv bf se ro le de rw sp : Nat → Int32} {ww : Bool} {ha : Int64} (hM : IM h h th z sv sm bf ty (nI r) se ro le de wa ww rw rm sp fm ff ha) (hz : ZZ z n' f L T ln sg) (ho : OK n' f L T ln sg) (hs : WFS ln sg) (hw : w < 4) (hv : v < 4) : Con G mX8_compared (d + 10) [.ref 64, .int (nI w), .int (nI v)] h n 0 0 (PW n (some (.int (cmI T n' f L ln sg w v))) (fun g => MB h g th z sv sm bf ty ha)) := by
  have hn := ho.1
  have hn0 := hz.1
  have hl := ho.2.2.2.2.1 w hw
  have hl2 := ho.2.2.2.2.1 v hv
  refine Con.of [some (.ref 64), some (.int (nI w)), some (.int (nI v)), none, none] pl_X8 rfl (Nat.le_of_ble_eq_true rfl) rfl ?_
  have hQ : ∀ g, MB h g th z sv sm bf ty ha → (PW n (some (.int (cmI T n' f L ln sg w v))) (fun g => MB h g th z sv sm bf ty ha)) (.inl (some (.int (cmI T n' f L ln sg w v)))) g n := fun g hW => ⟨rfl, hW, rfl⟩
  generalize PW n (some (.int (cmI T n' f L ln sg w v))) (fun g => MB h g th z sv sm bf ty ha) = Q at hQ ⊢
  refine ez_aload_n (q := 1) 0 dX8_compared_0 rfl rfl rfl ?_
  refine ez_iload_n (q := 2) 1 dX8_compared_1 rfl rfl rfl ?_
  refine cMv (q := 5) dX8_compared_2 ck_X8_101 hM (t_X8_lengthOf hM.rb hz ho hw) rfl rfl rfl rfl rfl (Nat.le_of_ble_eq_true rfl) rfl (fun g hM => ?_)
  refine ez_ifeqN (q := 8) (tgt := 16) dX8_compared_5 (by decide) (by omega) rfl (fun hc5 => ?_) (fun hc5 => ?_)
  · rw [cmI, if_pos (Or.inl hc5)] at hQ
    refine ez_iconst (v := -1) (q := 17) dX8_compared_16 (by decide) rfl ?_
    exact ez_iret dX8_compared_17 rfl (hQ _ ⟨_, _, _, _, _, _, _, _, _, _, _, _, hM⟩)
  · refine ez_aload_n (q := 9) 0 dX8_compared_8 rfl rfl rfl ?_
    refine ez_iload_n (q := 10) 2 dX8_compared_9 rfl rfl rfl ?_
    refine cMv (q := 13) dX8_compared_10 ck_X8_101 hM (t_X8_lengthOf hM.rb hz ho hv) rfl rfl rfl rfl rfl (Nat.le_of_ble_eq_true rfl) rfl (fun g hM => ?_)
    refine ez_ifneN (q := 16) (tgt := 18) dX8_compared_13 (by decide) (by omega) rfl (fun hc13 => ?_) (fun hc13 => ?_)
    · rw [cmI, if_neg (by omega)] at hQ
      obtain ⟨sc, hwf⟩ := hs w hw (by omega)
      obtain ⟨sc2, hwf2⟩ := hs v hv (by omega)
      refine ez_aload_n (q := 19) 0 dX8_compared_18 rfl rfl rfl ?_
      refine ez_iload_n (q := 20) 1 dX8_compared_19 rfl rfl rfl ?_
      refine cXv (q := 23) dX8_compared_20 ck_X8_144 hM.1 (t_X8_holds hM.rb hz ho hw hwf) rfl ⟨by decide, rfl⟩ rfl rfl rfl (Nat.le_of_ble_eq_true rfl) rfl (fun g hW => ?_)
      obtain ⟨se, ro, le, de, r, hM2, ht⟩ := hW
      have hM := hM.tr hM2
      refine ez_istore_3 (q := 24) dX8_compared_23 rfl (by decide) rfl rfl ?_
      refine ez_aload_n (q := 25) 0 dX8_compared_24 rfl rfl rfl ?_
      refine ez_iload_n (q := 26) 2 dX8_compared_25 rfl rfl rfl ?_
      refine cXv (q := 29) dX8_compared_26 ck_X8_144 hM.1 (t_X8_holds hM.rb hz ho hv hwf2) rfl ⟨by decide, rfl⟩ rfl rfl rfl (Nat.le_of_ble_eq_true rfl) rfl (fun g hW => ?_)
      obtain ⟨se, ro, le, de, r, hM2, ht⟩ := hW
      have hM := hM.tr hM2
      refine ez_istore_4 (q := 31) dX8_compared_29 (by decide) rfl rfl ?_
      refine ez_iload_n (q := 32) 3 dX8_compared_31 rfl rfl rfl ?_
      refine ez_iload (q := 34) dX8_compared_32 rfl rfl ?_
      refine ez_icmpneN (q := 37) (tgt := 41) dX8_compared_34 (by decide) (lt31 (hW_lt w) hn) (lt31 (hW_lt v) hn) rfl (fun hc34 => ?_) (fun hc34 => ?_)
      · refine ez_iload_n (q := 42) 3 dX8_compared_41 rfl rfl rfl ?_
        refine ez_iload (q := 44) dX8_compared_42 rfl rfl ?_
        refine ez_iconst (v := -1) (q := 45) dX8_compared_44 (by decide) rfl ?_
        refine ez_ixor (q := 46) dX8_compared_45 rfl ?_
        refine ez_iandX (q := 47) dX8_compared_46 rfl ?_
        refine ez_ifneN (q := 50) (tgt := 54) dX8_compared_47 (by decide) (lt31 (nd_lt (hW_lt w)) hn) rfl (fun hc47 => ?_) (fun hc47 => ?_)
        · refine ez_iload (q := 56) dX8_compared_54 rfl rfl ?_
          refine ez_iload_n (q := 57) 3 dX8_compared_56 rfl rfl rfl ?_
          refine ez_iconst (v := -1) (q := 58) dX8_compared_57 (by decide) rfl ?_
          refine ez_ixor (q := 59) dX8_compared_58 rfl ?_
          refine ez_iandX (q := 60) dX8_compared_59 rfl ?_
          refine ez_ifneN (q := 63) (tgt := 67) dX8_compared_60 (by decide) (lt31 (nd_lt (hW_lt v)) hn) rfl (fun hc60 => ?_) (fun hc60 => ?_)
          · rw [show cmN (hW T n' f L ln sg w) (hW T n' f L ln sg v) = 3 from (if_neg hc34).trans ((if_neg hc47).trans (if_neg hc60))] at hQ
            refine ez_iconst (v := nI 3) (q := 68) dX8_compared_67 (by decide) rfl ?_
            exact ez_iret dX8_compared_68 rfl (hQ _ ⟨_, _, _, _, _, _, _, _, _, _, _, _, hM⟩)
          · rw [show cmN (hW T n' f L ln sg w) (hW T n' f L ln sg v) = 2 from (if_neg hc34).trans ((if_neg hc47).trans (if_pos hc60))] at hQ
            refine ez_iconst (v := nI 2) (q := 64) dX8_compared_63 (by decide) rfl ?_
            refine ez_goto (q := 68) dX8_compared_64 (by decide) ?_
            exact ez_iret dX8_compared_68 rfl (hQ _ ⟨_, _, _, _, _, _, _, _, _, _, _, _, hM⟩)
        · rw [show cmN (hW T n' f L ln sg w) (hW T n' f L ln sg v) = 1 from (if_neg hc34).trans (if_pos hc47)] at hQ
          refine ez_iconst (v := nI 1) (q := 51) dX8_compared_50 (by decide) rfl ?_
          refine ez_goto (q := 68) dX8_compared_51 (by decide) ?_
          exact ez_iret dX8_compared_68 rfl (hQ _ ⟨_, _, _, _, _, _, _, _, _, _, _, _, hM⟩)
      · rw [show cmN (hW T n' f L ln sg w) (hW T n' f L ln sg v) = 0 from if_pos hc34] at hQ
        refine ez_iconst (v := nI 0) (q := 38) dX8_compared_37 (by decide) rfl ?_
        refine ez_goto (q := 68) dX8_compared_38 (by decide) ?_
        exact ez_iret dX8_compared_68 rfl (hQ _ ⟨_, _, _, _, _, _, _, _, _, _, _, _, hM⟩)
    · rw [cmI, if_pos (Or.inr hc13)] at hQ
      refine ez_iconst (v := -1) (q := 17) dX8_compared_16 (by decide) rfl ?_
      exact ez_iret dX8_compared_17 rfl (hQ _ ⟨_, _, _, _, _, _, _, _, _, _, _, _, hM⟩)

def cd2 (w v : Int32) : Nat := if inB w 0 3 = true ∧ inB v 0 3 = true then 0 else 1
set_option maxHeartbeats 800000 in
set_option maxRecDepth 100000 in
theorem t_X8_compare {G : ez_G} {d n : Nat} {h : ez_H} {n' f : Nat} {L T ln : Nat → Nat} {sg : Nat → Nat → Nat} {w v : Int32} {r : Nat} {th sm ty wa rm fm ff : Int32} {z sv bf se ro le de rw sp : Nat → Int32} {ww : Bool} {ha : Int64} (hM : IM h h th z sv sm bf ty (nI r) se ro le de wa ww rw rm sp fm ff ha) (hz : ZZ z n' f L T ln sg) (ho : OK n' f L T ln sg) (hs : WFS ln sg) : Con G mX8_compare (d + 11) [.ref 64, .int w, .int v] h n 0 0 (PW n (some (.int (aW (cd2 w v) (cmI T n' f L ln sg (nn w) (nn v))))) (fun g => MB h g (nI (cd2 w v)) z sv sm bf ty ha)) := by
  have hn := ho.1
  have hn0 := hz.1
  refine Con.of [some (.ref 64), some (.int w), some (.int v)] pl_X8 rfl (Nat.le_of_ble_eq_true rfl) rfl ?_
  have hQ : ∀ g, MB h g (nI (cd2 w v)) z sv sm bf ty ha → (PW n (some (.int (aW (cd2 w v) (cmI T n' f L ln sg (nn w) (nn v))))) (fun g => MB h g (nI (cd2 w v)) z sv sm bf ty ha)) (.inl (some (.int (aW (cd2 w v) (cmI T n' f L ln sg (nn w) (nn v)))))) g n := fun g hW => ⟨rfl, hW, rfl⟩
  generalize PW n (some (.int (aW (cd2 w v) (cmI T n' f L ln sg (nn w) (nn v))))) (fun g => MB h g (nI (cd2 w v)) z sv sm bf ty ha) = Q at hQ ⊢
  refine ez_aload_n (q := 1) 0 dX8_compare_0 rfl rfl rfl ?_
  refine ez_iload_n (q := 2) 1 dX8_compare_1 rfl rfl rfl ?_
  refine cUv (q := 5) dX8_compare_2 ck_X8_134 (t_X8_isWish) rfl rfl rfl (Nat.le_of_ble_eq_true rfl) rfl ?_
  refine ez_ifeqB (q := 8) (tgt := 19) dX8_compare_5 (by decide) rfl (fun hc5 => ?_) (fun hc5 => ?_)
  · rw [show cd2 w v = 1 from by simp [cd2, hc5]] at hQ
    refine ez_iconst (v := nI 1) (q := 20) dX8_compare_19 (by decide) rfl ?_
    refine pM_th (q := 23) dX8_compare_20 fl_X8_37 hM rfl (fun g hM => ?_)
    refine ez_aload_n (q := 24) 0 dX8_compare_23 rfl rfl rfl ?_
    refine ez_getf (q := 27) dX8_compare_24 fl_X8_37 hM.1 rfl rfl ?_
    refine ez_ifleN (q := 30) (tgt := 34) dX8_compare_27 (by decide) (by decide) rfl (fun hc27 => ?_) (fun hc27 => ?_)
    · first
      | exact absurd hc27 (by decide)
      | skip
        refine ez_aload_n (q := 35) 0 dX8_compare_34 rfl rfl rfl ?_
        refine ez_iload_n (q := 36) 1 dX8_compare_35 rfl rfl rfl ?_
        refine ez_iload_n (q := 37) 2 dX8_compare_36 rfl rfl rfl ?_
        refine cXv (q := 40) dX8_compare_37 ck_X8_197 hM.1 (t_X8_compared hM.rb hz ho hs (by omega) (by omega)) rfl ⟨by decide, rfl⟩ rfl rfl rfl (Nat.le_of_ble_eq_true rfl) rfl (fun g hW => ?_)
        obtain ⟨r, se, ro, le, de, wa, ww, rw, rm, sp, fm, ff, hM2⟩ := hW
        have hM := hM.tr hM2
        exact ez_iret dX8_compare_40 rfl (hQ _ ⟨_, _, _, _, _, _, _, _, _, _, _, _, hM⟩)
    · first
      | exact absurd hc27 (by decide)
      | skip
        refine ez_iconst (v := nI 0) (q := 31) dX8_compare_30 (by decide) rfl ?_
        refine ez_goto (q := 40) dX8_compare_31 (by decide) ?_
        exact ez_iret dX8_compare_40 rfl (hQ _ ⟨_, _, _, _, _, _, _, _, _, _, _, _, hM⟩)
  · refine ez_iload_n (q := 9) 2 dX8_compare_8 rfl rfl rfl ?_
    refine cUv (q := 12) dX8_compare_9 ck_X8_134 (t_X8_isWish) rfl rfl rfl (Nat.le_of_ble_eq_true rfl) rfl ?_
    refine ez_ifeqB (q := 15) (tgt := 19) dX8_compare_12 (by decide) rfl (fun hc12 => ?_) (fun hc12 => ?_)
    · rw [show cd2 w v = 1 from by simp [cd2, hc12]] at hQ
      refine ez_iconst (v := nI 1) (q := 20) dX8_compare_19 (by decide) rfl ?_
      refine pM_th (q := 23) dX8_compare_20 fl_X8_37 hM rfl (fun g hM => ?_)
      refine ez_aload_n (q := 24) 0 dX8_compare_23 rfl rfl rfl ?_
      refine ez_getf (q := 27) dX8_compare_24 fl_X8_37 hM.1 rfl rfl ?_
      refine ez_ifleN (q := 30) (tgt := 34) dX8_compare_27 (by decide) (by decide) rfl (fun hc27 => ?_) (fun hc27 => ?_)
      · first
        | exact absurd hc27 (by decide)
        | skip
          refine ez_aload_n (q := 35) 0 dX8_compare_34 rfl rfl rfl ?_
          refine ez_iload_n (q := 36) 1 dX8_compare_35 rfl rfl rfl ?_
          refine ez_iload_n (q := 37) 2 dX8_compare_36 rfl rfl rfl ?_
          refine cXv (q := 40) dX8_compare_37 ck_X8_197 hM.1 (t_X8_compared hM.rb hz ho hs (by omega) (by omega)) rfl ⟨by decide, rfl⟩ rfl rfl rfl (Nat.le_of_ble_eq_true rfl) rfl (fun g hW => ?_)
          obtain ⟨r, se, ro, le, de, wa, ww, rw, rm, sp, fm, ff, hM2⟩ := hW
          have hM := hM.tr hM2
          exact ez_iret dX8_compare_40 rfl (hQ _ ⟨_, _, _, _, _, _, _, _, _, _, _, _, hM⟩)
      · first
        | exact absurd hc27 (by decide)
        | skip
          refine ez_iconst (v := nI 0) (q := 31) dX8_compare_30 (by decide) rfl ?_
          refine ez_goto (q := 40) dX8_compare_31 (by decide) ?_
          exact ez_iret dX8_compare_40 rfl (hQ _ ⟨_, _, _, _, _, _, _, _, _, _, _, _, hM⟩)
    · rw [show cd2 w v = 0 from by simp [cd2, hc5, hc12]] at hQ
      obtain ⟨j, rfl, hj, hj2⟩ := inB_nat hc5
      obtain ⟨k, rfl, hk, hk2⟩ := inB_nat hc12
      rw [nn_nI hj2, nn_nI hk2] at hQ
      refine ez_iconst (v := nI 0) (q := 16) dX8_compare_15 (by decide) rfl ?_
      refine ez_goto (q := 20) dX8_compare_16 (by decide) ?_
      refine pM_th (q := 23) dX8_compare_20 fl_X8_37 hM rfl (fun g hM => ?_)
      refine ez_aload_n (q := 24) 0 dX8_compare_23 rfl rfl rfl ?_
      refine ez_getf (q := 27) dX8_compare_24 fl_X8_37 hM.1 rfl rfl ?_
      refine ez_ifleN (q := 30) (tgt := 34) dX8_compare_27 (by decide) (by decide) rfl (fun hc27 => ?_) (fun hc27 => ?_)
      · first
        | exact absurd hc27 (by decide)
        | skip
          refine ez_aload_n (q := 35) 0 dX8_compare_34 rfl rfl rfl ?_
          refine ez_iload_n (q := 36) 1 dX8_compare_35 rfl rfl rfl ?_
          refine ez_iload_n (q := 37) 2 dX8_compare_36 rfl rfl rfl ?_
          refine cXv (q := 40) dX8_compare_37 ck_X8_197 hM.1 (t_X8_compared hM.rb hz ho hs (by omega) (by omega)) rfl ⟨by decide, rfl⟩ rfl rfl rfl (Nat.le_of_ble_eq_true rfl) rfl (fun g hW => ?_)
          obtain ⟨r, se, ro, le, de, wa, ww, rw, rm, sp, fm, ff, hM2⟩ := hW
          have hM := hM.tr hM2
          exact ez_iret dX8_compare_40 rfl (hQ _ ⟨_, _, _, _, _, _, _, _, _, _, _, _, hM⟩)
      · first
        | exact absurd hc27 (by decide)
        | skip
          refine ez_iconst (v := nI 0) (q := 31) dX8_compare_30 (by decide) rfl ?_
          refine ez_goto (q := 40) dX8_compare_31 (by decide) ?_
          exact ez_iret dX8_compare_40 rfl (hQ _ ⟨_, _, _, _, _, _, _, _, _, _, _, _, hM⟩)

