def dI : Nat → Int32
  | 0 => -1
  | k + 1 => nI k
theorem dI_of (k : Nat) : nI k - nI 1 = dI k := by
  cases k with
  | zero => decide
  | succ k => exact nI_pred k
theorem dI_dec (k : Nat) : nI k + Int32.ofInt (-1) = dI k := by
  rw [← dI_of, Int32.sub_eq_add_neg]
  rfl
theorem TB.ro {T : Nat → Nat} {n f : Nat} {L : Nat → Nat} {m : Nat} {s : Nat → Nat} {i : Nat} {se ro le de : Nat → Int32} (h : TB T n f L m s (i + 1) se ro le de) (x : Int32) : TB T n f L m s (i + 1) se (upd ro i x) le de := by
  intro j h1 h2
  have h3 := h j h1 h2
  rw [show upd ro i x j = ro j from if_neg (by omega)]
  exact h3
set_option maxHeartbeats 800000 in
set_option maxRecDepth 100000 in
theorem t_X8_layBoth {G : ez_G} {d n : Nat} {h : ez_H} {n' f : Nat} {L T ln : Nat → Nat} {sg : Nat → Nat → Nat} {w i r : Nat} {sc : Nat → Nat × Bool} {th sm ty wa rm fm ff : Int32} {z sv bf se ro le de rw sp : Nat → Int32} {ww : Bool} {ha : Int64} (hM : IM h h th z sv sm bf ty (nI r) se ro le de wa ww rw rm sp fm ff ha) (hz : ZZ z n' f L T ln sg) (ho : OK n' f L T ln sg) (hw : w < 4) (hi : i < ln w) (hwf : WF (ln w) (sg w) sc) (hs : (sc i).2 = false) (ht : TB T n' f L (ln w) (sg w) (i + 1) se ro le de) (hc : sg w i = 38 ∨ sg w i = 124) : Con G mX8_layBoth (d + 1) [.ref 64, .int (nI w), .int (nI i)] h n 0 0 (PM h n none th z sv sm bf ty (nI r) (upd se i (nI (seW T n' f L (ln w) (sg w) (i)))) ro (upd le i (nI (leW (ln w) (sg w) (i)))) (upd de i (nI (deW (ln w) (sg w) (i)))) wa ww rw rm sp fm ff ha) := by
  have hn := ho.1
  have hn0 := hz.1
  have hl := ho.2.2.2.2.1 w hw
  obtain ⟨h1, h1s, h2, h2s⟩ := wf_two hwf hi hs hc
  have t2 := (ht (i + 1) (by omega) h1).2 ((wf_w hwf h1).trans h1s)
  have t3 := (ht (i + 1 + leW (ln w) (sg w) (i + 1)) (by omega) h2).2 ((wf_w hwf h2).trans h2s)
  have d2 := deW_l (ln w) (sg w) (i + 1)
  have d3 := deW_l (ln w) (sg w) (i + 1 + leW (ln w) (sg w) (i + 1))
  refine Con.of [some (.ref 64), some (.int (nI w)), some (.int (nI i)), none, none] pl_X8 rfl (Nat.le_of_ble_eq_true rfl) rfl ?_
  have hQ : ∀ g, IM h g th z sv sm bf ty (nI r) (upd se i (nI (seW T n' f L (ln w) (sg w) (i)))) ro (upd le i (nI (leW (ln w) (sg w) (i)))) (upd de i (nI (deW (ln w) (sg w) (i)))) wa ww rw rm sp fm ff ha → (PM h n none th z sv sm bf ty (nI r) (upd se i (nI (seW T n' f L (ln w) (sg w) (i)))) ro (upd le i (nI (leW (ln w) (sg w) (i)))) (upd de i (nI (deW (ln w) (sg w) (i)))) wa ww rw rm sp fm ff ha) (.inl none) g n := fun g hM => ⟨rfl, hM, rfl⟩
  generalize PM h n none th z sv sm bf ty (nI r) (upd se i (nI (seW T n' f L (ln w) (sg w) (i)))) ro (upd le i (nI (leW (ln w) (sg w) (i)))) (upd de i (nI (deW (ln w) (sg w) (i)))) wa ww rw rm sp fm ff ha = Q at hQ ⊢
  refine ez_iload_n (q := 1) 2 dX8_layBoth_0 rfl rfl rfl ?_
  refine ez_iconst (v := nI 1) (q := 2) dX8_layBoth_1 (by decide) rfl ?_
  refine ez_iaddN (q := 3) dX8_layBoth_2 rfl ?_
  refine ez_istore_3 (q := 4) dX8_layBoth_3 rfl (by decide) rfl rfl ?_
  refine ez_iload_n (q := 5) 3 dX8_layBoth_4 rfl rfl rfl ?_
  refine ez_aload_n (q := 6) 0 dX8_layBoth_5 rfl rfl rfl ?_
  refine ez_getf (q := 9) dX8_layBoth_6 fl_X8_25 hM.1 rfl rfl ?_
  refine ez_iload_n (q := 10) 3 dX8_layBoth_9 rfl rfl rfl ?_
  refine ez_iald (q := 11) dX8_layBoth_10 hM.2.2.2.2.2.2.1 rfl (by omega) (by decide) rfl ?_
  refine ez_top (t2.2.2.1) ?_
  refine ez_iaddN (q := 12) dX8_layBoth_11 rfl ?_
  refine ez_istore_4 (q := 14) dX8_layBoth_12 (by decide) rfl rfl ?_
  refine ez_aload_n (q := 15) 0 dX8_layBoth_14 rfl rfl rfl ?_
  refine ez_getf (q := 18) dX8_layBoth_15 fl_X8_19 hM.1 rfl rfl ?_
  refine ez_iload_n (q := 19) 2 dX8_layBoth_18 rfl rfl rfl ?_
  refine ez_aload_n (q := 20) 0 dX8_layBoth_19 rfl rfl rfl ?_
  refine ez_iload_n (q := 21) 1 dX8_layBoth_20 rfl rfl rfl ?_
  refine ez_iload_n (q := 22) 2 dX8_layBoth_21 rfl rfl rfl ?_
  refine cMv (q := 25) dX8_layBoth_22 ck_X8_91 hM (t_X8_signAt hM.rb hz ho hw hi) rfl rfl rfl rfl rfl (Nat.le_of_ble_eq_true rfl) rfl (fun g hM => ?_)
  refine ez_bipush (v := nI 38) (q := 27) dX8_layBoth_25 (by decide) rfl ?_
  refine ez_icmpneN (q := 30) (tgt := 47) dX8_layBoth_27 (by decide) (by have := wf_c hwf hi; omega) (by decide) rfl (fun hc27 => ?_) (fun hc27 => ?_)
  · refine ez_aload_n (q := 48) 0 dX8_layBoth_47 rfl rfl rfl ?_
    refine ez_getf (q := 51) dX8_layBoth_48 fl_X8_19 hM.1 rfl rfl ?_
    refine ez_iload_n (q := 52) 3 dX8_layBoth_51 rfl rfl rfl ?_
    refine ez_iald (q := 53) dX8_layBoth_52 hM.2.2.2.2.1 rfl (by omega) (by decide) rfl ?_
    refine ez_top (t2.1) ?_
    refine ez_aload_n (q := 54) 0 dX8_layBoth_53 rfl rfl rfl ?_
    refine ez_getf (q := 57) dX8_layBoth_54 fl_X8_19 hM.1 rfl rfl ?_
    refine ez_iload (q := 59) dX8_layBoth_57 rfl rfl ?_
    refine ez_iald (q := 60) dX8_layBoth_59 hM.2.2.2.2.1 rfl (by omega) (by decide) rfl ?_
    refine ez_top (t3.1) ?_
    refine ez_iorN (q := 61) dX8_layBoth_60 rfl ?_
    refine ez_top (y := nI (seW T n' f L (ln w) (sg w) (i))) (congrArg nI (by first | rw [seW_and hi hc27] | rw [seW_or hi (by omega)])) ?_
    refine sM_se (q := 62) dX8_layBoth_61 hM rfl (by omega) rfl (fun g hM => ?_)
    refine ez_aload_n (q := 63) 0 dX8_layBoth_62 rfl rfl rfl ?_
    refine ez_getf (q := 66) dX8_layBoth_63 fl_X8_25 hM.1 rfl rfl ?_
    refine ez_iload_n (q := 67) 2 dX8_layBoth_66 rfl rfl rfl ?_
    refine ez_iconst (v := nI 1) (q := 68) dX8_layBoth_67 (by decide) rfl ?_
    refine ez_aload_n (q := 69) 0 dX8_layBoth_68 rfl rfl rfl ?_
    refine ez_getf (q := 72) dX8_layBoth_69 fl_X8_25 hM.1 rfl rfl ?_
    refine ez_iload_n (q := 73) 3 dX8_layBoth_72 rfl rfl rfl ?_
    refine ez_iald (q := 74) dX8_layBoth_73 hM.2.2.2.2.2.2.1 rfl (by omega) (by decide) rfl ?_
    refine ez_top (t2.2.2.1) ?_
    refine ez_iaddN (q := 75) dX8_layBoth_74 rfl ?_
    refine ez_aload_n (q := 76) 0 dX8_layBoth_75 rfl rfl rfl ?_
    refine ez_getf (q := 79) dX8_layBoth_76 fl_X8_25 hM.1 rfl rfl ?_
    refine ez_iload (q := 81) dX8_layBoth_79 rfl rfl ?_
    refine ez_iald (q := 82) dX8_layBoth_81 hM.2.2.2.2.2.2.1 rfl (by omega) (by decide) rfl ?_
    refine ez_top (t3.2.2.1) ?_
    refine ez_iaddN (q := 83) dX8_layBoth_82 rfl ?_
    refine ez_top (y := nI (leW (ln w) (sg w) (i))) (congrArg nI (by rw [leW_two hi hc])) ?_
    refine sM_le (q := 84) dX8_layBoth_83 hM rfl (by omega) rfl (fun g hM => ?_)
    refine ez_aload_n (q := 85) 0 dX8_layBoth_84 rfl rfl rfl ?_
    refine ez_getf (q := 88) dX8_layBoth_85 fl_X8_28 hM.1 rfl rfl ?_
    refine ez_iload_n (q := 89) 2 dX8_layBoth_88 rfl rfl rfl ?_
    refine ez_iconst (v := nI 1) (q := 90) dX8_layBoth_89 (by decide) rfl ?_
    refine ez_aload_n (q := 91) 0 dX8_layBoth_90 rfl rfl rfl ?_
    refine ez_getf (q := 94) dX8_layBoth_91 fl_X8_28 hM.1 rfl rfl ?_
    refine ez_iload (q := 96) dX8_layBoth_94 rfl rfl ?_
    refine ez_iald (q := 97) dX8_layBoth_96 hM.2.2.2.2.2.2.2.1 rfl (by omega) (by decide) rfl ?_
    refine ez_top (t3.2.2.2) ?_
    refine ez_aload_n (q := 98) 0 dX8_layBoth_97 rfl rfl rfl ?_
    refine ez_getf (q := 101) dX8_layBoth_98 fl_X8_28 hM.1 rfl rfl ?_
    refine ez_iload_n (q := 102) 3 dX8_layBoth_101 rfl rfl rfl ?_
    refine ez_iald (q := 103) dX8_layBoth_102 hM.2.2.2.2.2.2.2.1 rfl (by omega) (by decide) rfl ?_
    refine ez_top (t2.2.2.2) ?_
    refine ez_icmpleN (q := 106) (tgt := 116) dX8_layBoth_103 (by decide) (by omega) (by omega) rfl (fun hc103 => ?_) (fun hc103 => ?_)
    · refine ez_aload_n (q := 117) 0 dX8_layBoth_116 rfl rfl rfl ?_
      refine ez_getf (q := 120) dX8_layBoth_117 fl_X8_28 hM.1 rfl rfl ?_
      refine ez_iload_n (q := 121) 3 dX8_layBoth_120 rfl rfl rfl ?_
      refine ez_iald (q := 122) dX8_layBoth_121 hM.2.2.2.2.2.2.2.1 rfl (by omega) (by decide) rfl ?_
      refine ez_top (t2.2.2.2) ?_
      refine ez_iaddN (q := 123) dX8_layBoth_122 rfl ?_
      refine ez_top (y := nI (deW (ln w) (sg w) (i))) (congrArg nI (by rw [deW_two hi hc]; split <;> first | rfl | omega)) ?_
      refine sM_de (q := 124) dX8_layBoth_123 hM rfl (by omega) rfl (fun g hM => ?_)
      exact ez_vret dX8_layBoth_124 rfl (hQ _ hM)
    · refine ez_aload_n (q := 107) 0 dX8_layBoth_106 rfl rfl rfl ?_
      refine ez_getf (q := 110) dX8_layBoth_107 fl_X8_28 hM.1 rfl rfl ?_
      refine ez_iload (q := 112) dX8_layBoth_110 rfl rfl ?_
      refine ez_iald (q := 113) dX8_layBoth_112 hM.2.2.2.2.2.2.2.1 rfl (by omega) (by decide) rfl ?_
      refine ez_top (t3.2.2.2) ?_
      refine ez_goto (q := 122) dX8_layBoth_113 (by decide) ?_
      refine ez_iaddN (q := 123) dX8_layBoth_122 rfl ?_
      refine ez_top (y := nI (deW (ln w) (sg w) (i))) (congrArg nI (by rw [deW_two hi hc]; split <;> first | rfl | omega)) ?_
      refine sM_de (q := 124) dX8_layBoth_123 hM rfl (by omega) rfl (fun g hM => ?_)
      exact ez_vret dX8_layBoth_124 rfl (hQ _ hM)
  · refine ez_aload_n (q := 31) 0 dX8_layBoth_30 rfl rfl rfl ?_
    refine ez_getf (q := 34) dX8_layBoth_31 fl_X8_19 hM.1 rfl rfl ?_
    refine ez_iload_n (q := 35) 3 dX8_layBoth_34 rfl rfl rfl ?_
    refine ez_iald (q := 36) dX8_layBoth_35 hM.2.2.2.2.1 rfl (by omega) (by decide) rfl ?_
    refine ez_top (t2.1) ?_
    refine ez_aload_n (q := 37) 0 dX8_layBoth_36 rfl rfl rfl ?_
    refine ez_getf (q := 40) dX8_layBoth_37 fl_X8_19 hM.1 rfl rfl ?_
    refine ez_iload (q := 42) dX8_layBoth_40 rfl rfl ?_
    refine ez_iald (q := 43) dX8_layBoth_42 hM.2.2.2.2.1 rfl (by omega) (by decide) rfl ?_
    refine ez_top (t3.1) ?_
    refine ez_iandN (q := 44) dX8_layBoth_43 rfl ?_
    refine ez_goto (q := 61) dX8_layBoth_44 (by decide) ?_
    refine ez_top (y := nI (seW T n' f L (ln w) (sg w) (i))) (congrArg nI (by first | rw [seW_and hi hc27] | rw [seW_or hi (by omega)])) ?_
    refine sM_se (q := 62) dX8_layBoth_61 hM rfl (by omega) rfl (fun g hM => ?_)
    refine ez_aload_n (q := 63) 0 dX8_layBoth_62 rfl rfl rfl ?_
    refine ez_getf (q := 66) dX8_layBoth_63 fl_X8_25 hM.1 rfl rfl ?_
    refine ez_iload_n (q := 67) 2 dX8_layBoth_66 rfl rfl rfl ?_
    refine ez_iconst (v := nI 1) (q := 68) dX8_layBoth_67 (by decide) rfl ?_
    refine ez_aload_n (q := 69) 0 dX8_layBoth_68 rfl rfl rfl ?_
    refine ez_getf (q := 72) dX8_layBoth_69 fl_X8_25 hM.1 rfl rfl ?_
    refine ez_iload_n (q := 73) 3 dX8_layBoth_72 rfl rfl rfl ?_
    refine ez_iald (q := 74) dX8_layBoth_73 hM.2.2.2.2.2.2.1 rfl (by omega) (by decide) rfl ?_
    refine ez_top (t2.2.2.1) ?_
    refine ez_iaddN (q := 75) dX8_layBoth_74 rfl ?_
    refine ez_aload_n (q := 76) 0 dX8_layBoth_75 rfl rfl rfl ?_
    refine ez_getf (q := 79) dX8_layBoth_76 fl_X8_25 hM.1 rfl rfl ?_
    refine ez_iload (q := 81) dX8_layBoth_79 rfl rfl ?_
    refine ez_iald (q := 82) dX8_layBoth_81 hM.2.2.2.2.2.2.1 rfl (by omega) (by decide) rfl ?_
    refine ez_top (t3.2.2.1) ?_
    refine ez_iaddN (q := 83) dX8_layBoth_82 rfl ?_
    refine ez_top (y := nI (leW (ln w) (sg w) (i))) (congrArg nI (by rw [leW_two hi hc])) ?_
    refine sM_le (q := 84) dX8_layBoth_83 hM rfl (by omega) rfl (fun g hM => ?_)
    refine ez_aload_n (q := 85) 0 dX8_layBoth_84 rfl rfl rfl ?_
    refine ez_getf (q := 88) dX8_layBoth_85 fl_X8_28 hM.1 rfl rfl ?_
    refine ez_iload_n (q := 89) 2 dX8_layBoth_88 rfl rfl rfl ?_
    refine ez_iconst (v := nI 1) (q := 90) dX8_layBoth_89 (by decide) rfl ?_
    refine ez_aload_n (q := 91) 0 dX8_layBoth_90 rfl rfl rfl ?_
    refine ez_getf (q := 94) dX8_layBoth_91 fl_X8_28 hM.1 rfl rfl ?_
    refine ez_iload (q := 96) dX8_layBoth_94 rfl rfl ?_
    refine ez_iald (q := 97) dX8_layBoth_96 hM.2.2.2.2.2.2.2.1 rfl (by omega) (by decide) rfl ?_
    refine ez_top (t3.2.2.2) ?_
    refine ez_aload_n (q := 98) 0 dX8_layBoth_97 rfl rfl rfl ?_
    refine ez_getf (q := 101) dX8_layBoth_98 fl_X8_28 hM.1 rfl rfl ?_
    refine ez_iload_n (q := 102) 3 dX8_layBoth_101 rfl rfl rfl ?_
    refine ez_iald (q := 103) dX8_layBoth_102 hM.2.2.2.2.2.2.2.1 rfl (by omega) (by decide) rfl ?_
    refine ez_top (t2.2.2.2) ?_
    refine ez_icmpleN (q := 106) (tgt := 116) dX8_layBoth_103 (by decide) (by omega) (by omega) rfl (fun hc103 => ?_) (fun hc103 => ?_)
    · refine ez_aload_n (q := 117) 0 dX8_layBoth_116 rfl rfl rfl ?_
      refine ez_getf (q := 120) dX8_layBoth_117 fl_X8_28 hM.1 rfl rfl ?_
      refine ez_iload_n (q := 121) 3 dX8_layBoth_120 rfl rfl rfl ?_
      refine ez_iald (q := 122) dX8_layBoth_121 hM.2.2.2.2.2.2.2.1 rfl (by omega) (by decide) rfl ?_
      refine ez_top (t2.2.2.2) ?_
      refine ez_iaddN (q := 123) dX8_layBoth_122 rfl ?_
      refine ez_top (y := nI (deW (ln w) (sg w) (i))) (congrArg nI (by rw [deW_two hi hc]; split <;> first | rfl | omega)) ?_
      refine sM_de (q := 124) dX8_layBoth_123 hM rfl (by omega) rfl (fun g hM => ?_)
      exact ez_vret dX8_layBoth_124 rfl (hQ _ hM)
    · refine ez_aload_n (q := 107) 0 dX8_layBoth_106 rfl rfl rfl ?_
      refine ez_getf (q := 110) dX8_layBoth_107 fl_X8_28 hM.1 rfl rfl ?_
      refine ez_iload (q := 112) dX8_layBoth_110 rfl rfl ?_
      refine ez_iald (q := 113) dX8_layBoth_112 hM.2.2.2.2.2.2.2.1 rfl (by omega) (by decide) rfl ?_
      refine ez_top (t3.2.2.2) ?_
      refine ez_goto (q := 122) dX8_layBoth_113 (by decide) ?_
      refine ez_iaddN (q := 123) dX8_layBoth_122 rfl ?_
      refine ez_top (y := nI (deW (ln w) (sg w) (i))) (congrArg nI (by rw [deW_two hi hc]; split <;> first | rfl | omega)) ?_
      refine sM_de (q := 124) dX8_layBoth_123 hM rfl (by omega) rfl (fun g hM => ?_)
      exact ez_vret dX8_layBoth_124 rfl (hQ _ hM)

set_option maxHeartbeats 800000 in
set_option maxRecDepth 100000 in
theorem t_X8_lay {G : ez_G} {d n : Nat} {h : ez_H} {n' f : Nat} {L T ln : Nat → Nat} {sg : Nat → Nat → Nat} {w r : Nat} {sc : Nat → Nat × Bool} {th sm ty wa rm fm ff : Int32} {z sv bf se ro le de rw sp : Nat → Int32} {ww : Bool} {ha : Int64} (hM : IM h h th z sv sm bf ty (nI r) se ro le de wa ww rw rm sp fm ff ha) (hz : ZZ z n' f L T ln sg) (ho : OK n' f L T ln sg) (hw : w < 4) (hwf : WF (ln w) (sg w) sc) : Con G mX8_lay (d + 8) [.ref 64, .int (nI w)] h n 0 0 (PW n none (fun g => ∃ (se' ro' le' de' : Nat → Int32) (k' : Nat), IM h g th z sv sm bf ty (nI k') se' ro' le' de' wa ww rw rm sp fm ff ha ∧ TB T n' f L (ln w) (sg w) 0 se' ro' le' de')) := by
  have hn := ho.1
  have hn0 := hz.1
  have hl := ho.2.2.2.2.1 w hw
  refine Con.of [some (.ref 64), some (.int (nI w)), none, none] pl_X8 rfl (Nat.le_of_ble_eq_true rfl) rfl ?_
  have hQ : ∀ g (se ro le de : Nat → Int32) (k : Nat), IM h g th z sv sm bf ty (nI k) se ro le de wa ww rw rm sp fm ff ha → TB T n' f L (ln w) (sg w) (0) se ro le de → (PW n none (fun g => ∃ (se' ro' le' de' : Nat → Int32) (k' : Nat), IM h g th z sv sm bf ty (nI k') se' ro' le' de' wa ww rw rm sp fm ff ha ∧ TB T n' f L (ln w) (sg w) 0 se' ro' le' de')) (.inl none) g n := fun g se ro le de k hM ht => ⟨rfl, ⟨se, ro, le, de, k, hM, ht⟩, rfl⟩
  generalize PW n none (fun g => ∃ (se' ro' le' de' : Nat → Int32) (k' : Nat), IM h g th z sv sm bf ty (nI k') se' ro' le' de' wa ww rw rm sp fm ff ha ∧ TB T n' f L (ln w) (sg w) 0 se' ro' le' de') = Q at hQ ⊢
  refine ez_aload_n (q := 1) 0 dX8_lay_0 rfl rfl rfl ?_
  refine ez_iload_n (q := 2) 1 dX8_lay_1 rfl rfl rfl ?_
  refine cMv (q := 5) dX8_lay_2 ck_X8_101 hM (t_X8_lengthOf hM.rb hz ho hw) rfl rfl rfl rfl rfl (Nat.le_of_ble_eq_true rfl) rfl (fun g hM => ?_)
  refine ez_iconst (v := nI 1) (q := 6) dX8_lay_5 (by decide) rfl ?_
  refine ez_isub (q := 7) dX8_lay_6 rfl ?_
  refine ez_top (dI_of _) ?_
  refine ez_istore_2 (q := 8) dX8_lay_7 rfl (by decide) rfl rfl ?_
  refine ez_loop (α := Nat) (fun k => k) (P := fun k => ∀ (g : ez_H) (se ro le de : Nat → Int32) (r : Nat), IM h g th z sv sm bf ty (nI r) se ro le de wa ww rw rm sp fm ff ha → (k ≤ ln w) → (TB T n' f L (ln w) (sg w) (k) se ro le de) → E G mX8_lay (d + 8) Q g n 0 0 8 [some (.ref 64), some (.int (nI w)), some (.int (dI k)), none] []) ?_ (ln w) g _ _ _ _ _ hM (Nat.le_refl _) TB.nil
  intro k ih8 g se ro le de r hM hk ht
  rcases k with _ | k
  · change E G mX8_lay (d + 8) Q g n 0 0 8 [some (.ref 64), some (.int (nI w)), some (.int (-1)), none] []
    refine ez_iload_n (q := 9) 2 dX8_lay_8 rfl rfl rfl ?_
    refine ez_iflt (q := 12) (tgt := 208) dX8_lay_9 (by decide) rfl (fun hc9 => ?_) (fun hc9 => ?_)
    · exact ez_vret dX8_lay_208 rfl (hQ _ _ _ _ _ _ hM ht)
    · first
      | exact absurd (by decide) hc9
      | skip
        refine ez_aload_n (q := 13) 0 dX8_lay_12 rfl rfl rfl ?_
        refine ez_iload_n (q := 14) 1 dX8_lay_13 rfl rfl rfl ?_
        refine ez_iload_n (q := 15) 2 dX8_lay_14 rfl rfl rfl ?_
        refine cMv (q := 18) dX8_lay_15 ck_X8_91 hM (t_X8_signAt hM.rb hz ho hw hi) rfl rfl rfl rfl rfl (Nat.le_of_ble_eq_true rfl) rfl (fun g hM => ?_)
        refine ez_istore_3 (q := 19) dX8_lay_18 rfl (by decide) rfl rfl ?_
        refine ez_aload_n (q := 20) 0 dX8_lay_19 rfl rfl rfl ?_
        refine ez_getf (q := 23) dX8_lay_20 fl_X8_22 hM.1 rfl rfl ?_
        refine ez_iload_n (q := 24) 2 dX8_lay_23 rfl rfl rfl ?_
        refine ez_iconst (v := nI 0) (q := 25) dX8_lay_24 (by decide) rfl ?_
        refine sM_ro (q := 26) dX8_lay_25 hM rfl (by omega) rfl (fun g hM => ?_)
        refine ez_iload_n (q := 27) 3 dX8_lay_26 rfl rfl rfl ?_
        refine cUv (q := 30) dX8_lay_27 ck_X8_104 (t_X8_isOfWays (wf_c hwf hi)) rfl rfl rfl (Nat.le_of_ble_eq_true rfl) rfl ?_
        refine ez_ifeqB (q := 33) (tgt := 57) dX8_lay_30 (by decide) rfl (fun hc30 => ?_) (fun hc30 => ?_)
        · have hs := (wf_w hwf hi).symm.trans hc30
          have hu := ht.ro (nI 0)
          have hcs : (97 ≤ sg w k ∧ sg w k ≤ 100) ∨ sg w k = 116 ∨ sg w k = 33 ∨ sg w k = 38 ∨ sg w k = 124 ∨ sg w k = 69 ∨ sg w k = 65 := by rcases (wf_one hwf hi hs).2 with ⟨a, _⟩ | ⟨a, _⟩ | ⟨a, _⟩ | ⟨a, _⟩ <;> omega
          refine ez_iload_n (q := 58) 3 dX8_lay_57 rfl rfl rfl ?_
          refine ez_bipush (v := nI 69) (q := 60) dX8_lay_58 (by decide) rfl ?_
          refine ez_icmpeqN (q := 63) (tgt := 69) dX8_lay_60 (by decide) (by have := wf_c hwf hi; omega) (by decide) rfl (fun hc60 => ?_) (fun hc60 => ?_)
          · refine ez_aload_n (q := 70) 0 dX8_lay_69 rfl rfl rfl ?_
            refine ez_iload_n (q := 71) 1 dX8_lay_70 rfl rfl rfl ?_
            refine ez_iload_n (q := 72) 2 dX8_lay_71 rfl rfl rfl ?_
            refine cM0 (q := 75) dX8_lay_72 ck_X8_107 hM (t_X8_layWays hM.rb hz ho hw hi hwf hs hu (by omega)) rfl rfl rfl rfl rfl (Nat.le_of_ble_eq_true rfl) rfl (fun g hM => ?_)
            refine ez_goto (q := 202) dX8_lay_75 (by decide) ?_
            refine ez_iinc_2 (v := dI k) (q := 205) dX8_lay_202 (dI_dec k) (by decide) rfl rfl ?_
            refine ez_goto (q := 8) dX8_lay_205 (by decide) ?_
            exact E.fg (ih8 k (by omega) g _ _ _ _ _ hM (by omega) (by first | (rw [upd_upd]; exact ht.upw hc30) | (rw [upd_upd]; exact ht.up hc30) | (have e := roW_0 (T := T) (n := n') (f := f) (L := L) (m := ln w) (s := sg w) (j := k) (by omega); have e2 := ht.up hc30; rw [e] at e2; exact e2))) ⟨Or.inr (rfl), Or.inr (rfl), Or.inr (rfl), Or.inl rfl, trivial⟩
          · refine ez_iload_n (q := 64) 3 dX8_lay_63 rfl rfl rfl ?_
            refine ez_bipush (v := nI 65) (q := 66) dX8_lay_64 (by decide) rfl ?_
            refine ez_icmpneN (q := 69) (tgt := 78) dX8_lay_66 (by decide) (by have := wf_c hwf hi; omega) (by decide) rfl (fun hc66 => ?_) (fun hc66 => ?_)
            · refine ez_iload_n (q := 79) 3 dX8_lay_78 rfl rfl rfl ?_
              refine ez_bipush (v := nI 38) (q := 81) dX8_lay_79 (by decide) rfl ?_
              refine ez_icmpeqN (q := 84) (tgt := 90) dX8_lay_81 (by decide) (by have := wf_c hwf hi; omega) (by decide) rfl (fun hc81 => ?_) (fun hc81 => ?_)
              · refine ez_aload_n (q := 91) 0 dX8_lay_90 rfl rfl rfl ?_
                refine ez_iload_n (q := 92) 1 dX8_lay_91 rfl rfl rfl ?_
                refine ez_iload_n (q := 93) 2 dX8_lay_92 rfl rfl rfl ?_
                refine cM0 (q := 96) dX8_lay_93 ck_X8_111 hM (t_X8_layBoth hM.rb hz ho hw hi hwf hs hu (by omega)) rfl rfl rfl rfl rfl (Nat.le_of_ble_eq_true rfl) rfl (fun g hM => ?_)
                refine ez_goto (q := 202) dX8_lay_96 (by decide) ?_
                refine ez_iinc_2 (v := dI k) (q := 205) dX8_lay_202 (dI_dec k) (by decide) rfl rfl ?_
                refine ez_goto (q := 8) dX8_lay_205 (by decide) ?_
                exact E.fg (ih8 k (by omega) g _ _ _ _ _ hM (by omega) (by first | (rw [upd_upd]; exact ht.upw hc30) | (rw [upd_upd]; exact ht.up hc30) | (have e := roW_0 (T := T) (n := n') (f := f) (L := L) (m := ln w) (s := sg w) (j := k) (by omega); have e2 := ht.up hc30; rw [e] at e2; exact e2))) ⟨Or.inr (rfl), Or.inr (rfl), Or.inr (rfl), Or.inl rfl, trivial⟩
              · refine ez_iload_n (q := 85) 3 dX8_lay_84 rfl rfl rfl ?_
                refine ez_bipush (v := nI 124) (q := 87) dX8_lay_85 (by decide) rfl ?_
                refine ez_icmpneN (q := 90) (tgt := 99) dX8_lay_87 (by decide) (by have := wf_c hwf hi; omega) (by decide) rfl (fun hc87 => ?_) (fun hc87 => ?_)
                · refine ez_iload_n (q := 100) 3 dX8_lay_99 rfl rfl rfl ?_
                  refine ez_bipush (v := nI 33) (q := 102) dX8_lay_100 (by decide) rfl ?_
                  refine ez_icmpneN (q := 105) (tgt := 161) dX8_lay_102 (by decide) (by have := wf_c hwf hi; omega) (by decide) rfl (fun hc102 => ?_) (fun hc102 => ?_)
                  · refine ez_aload_n (q := 162) 0 dX8_lay_161 rfl rfl rfl ?_
                    refine ez_getf (q := 165) dX8_lay_162 fl_X8_19 hM.1 rfl rfl ?_
                    refine ez_iload_n (q := 166) 2 dX8_lay_165 rfl rfl rfl ?_
                    refine ez_iload_n (q := 167) 3 dX8_lay_166 rfl rfl rfl ?_
                    refine ez_bipush (v := nI 116) (q := 169) dX8_lay_167 (by decide) rfl ?_
                    refine ez_icmpneN (q := 172) (tgt := 179) dX8_lay_169 (by decide) (by have := wf_c hwf hi; omega) (by decide) rfl (fun hc169 => ?_) (fun hc169 => ?_)
                    · refine ez_aload_n (q := 180) 0 dX8_lay_179 rfl rfl rfl ?_
                      refine ez_iload_n (q := 181) 3 dX8_lay_180 rfl rfl rfl ?_
                      refine ez_bipush (v := nI 97) (q := 183) dX8_lay_181 (by decide) rfl ?_
                      refine ez_isubN (q := 184) dX8_lay_183 (by omega) rfl ?_
                      refine cMv (q := 187) dX8_lay_184 ck_X8_67 hM (t_X8_withLetter hM.rb hz ho (show sg w k - 97 < 4 by omega)) rfl rfl rfl rfl rfl (Nat.le_of_ble_eq_true rfl) rfl (fun g hM => ?_)
                      refine ez_top (y := nI (seW T n' f L (ln w) (sg w) (k))) (congrArg nI (by first | rw [seW_t hi hc169] | rw [seW_let hi (by omega)])) ?_
                      refine sM_se (q := 188) dX8_lay_187 hM rfl (by omega) rfl (fun g hM => ?_)
                      refine ez_aload_n (q := 189) 0 dX8_lay_188 rfl rfl rfl ?_
                      refine ez_getf (q := 192) dX8_lay_189 fl_X8_25 hM.1 rfl rfl ?_
                      refine ez_iload_n (q := 193) 2 dX8_lay_192 rfl rfl rfl ?_
                      refine ez_iconst (v := nI 1) (q := 194) dX8_lay_193 (by decide) rfl ?_
                      refine ez_top (y := nI (leW (ln w) (sg w) (k))) (congrArg nI (by rw [leW_1 hi (by omega)])) ?_
                      refine sM_le (q := 195) dX8_lay_194 hM rfl (by omega) rfl (fun g hM => ?_)
                      refine ez_aload_n (q := 196) 0 dX8_lay_195 rfl rfl rfl ?_
                      refine ez_getf (q := 199) dX8_lay_196 fl_X8_28 hM.1 rfl rfl ?_
                      refine ez_iload_n (q := 200) 2 dX8_lay_199 rfl rfl rfl ?_
                      refine ez_iconst (v := nI 1) (q := 201) dX8_lay_200 (by decide) rfl ?_
                      refine ez_top (y := nI (deW (ln w) (sg w) (k))) (congrArg nI (by rw [deW_1 hi (by omega)])) ?_
                      refine sM_de (q := 202) dX8_lay_201 hM rfl (by omega) rfl (fun g hM => ?_)
                      refine ez_iinc_2 (v := dI k) (q := 205) dX8_lay_202 (dI_dec k) (by decide) rfl rfl ?_
                      refine ez_goto (q := 8) dX8_lay_205 (by decide) ?_
                      exact E.fg (ih8 k (by omega) g _ _ _ _ _ hM (by omega) (by first | (rw [upd_upd]; exact ht.upw hc30) | (rw [upd_upd]; exact ht.up hc30) | (have e := roW_0 (T := T) (n := n') (f := f) (L := L) (m := ln w) (s := sg w) (j := k) (by omega); have e2 := ht.up hc30; rw [e] at e2; exact e2))) ⟨Or.inr (rfl), Or.inr (rfl), Or.inr (rfl), Or.inl rfl, trivial⟩
                    · refine ez_aload_n (q := 173) 0 dX8_lay_172 rfl rfl rfl ?_
                      refine cMv (q := 176) dX8_lay_173 ck_X8_79 hM (t_X8_all hM.rb hz ho) rfl rfl rfl rfl rfl (Nat.le_of_ble_eq_true rfl) rfl (fun g hM => ?_)
                      refine ez_goto (q := 187) dX8_lay_176 (by decide) ?_
                      refine ez_top (y := nI (seW T n' f L (ln w) (sg w) (k))) (congrArg nI (by first | rw [seW_t hi hc169] | rw [seW_let hi (by omega)])) ?_
                      refine sM_se (q := 188) dX8_lay_187 hM rfl (by omega) rfl (fun g hM => ?_)
                      refine ez_aload_n (q := 189) 0 dX8_lay_188 rfl rfl rfl ?_
                      refine ez_getf (q := 192) dX8_lay_189 fl_X8_25 hM.1 rfl rfl ?_
                      refine ez_iload_n (q := 193) 2 dX8_lay_192 rfl rfl rfl ?_
                      refine ez_iconst (v := nI 1) (q := 194) dX8_lay_193 (by decide) rfl ?_
                      refine ez_top (y := nI (leW (ln w) (sg w) (k))) (congrArg nI (by rw [leW_1 hi (by omega)])) ?_
                      refine sM_le (q := 195) dX8_lay_194 hM rfl (by omega) rfl (fun g hM => ?_)
                      refine ez_aload_n (q := 196) 0 dX8_lay_195 rfl rfl rfl ?_
                      refine ez_getf (q := 199) dX8_lay_196 fl_X8_28 hM.1 rfl rfl ?_
                      refine ez_iload_n (q := 200) 2 dX8_lay_199 rfl rfl rfl ?_
                      refine ez_iconst (v := nI 1) (q := 201) dX8_lay_200 (by decide) rfl ?_
                      refine ez_top (y := nI (deW (ln w) (sg w) (k))) (congrArg nI (by rw [deW_1 hi (by omega)])) ?_
                      refine sM_de (q := 202) dX8_lay_201 hM rfl (by omega) rfl (fun g hM => ?_)
                      refine ez_iinc_2 (v := dI k) (q := 205) dX8_lay_202 (dI_dec k) (by decide) rfl rfl ?_
                      refine ez_goto (q := 8) dX8_lay_205 (by decide) ?_
                      exact E.fg (ih8 k (by omega) g _ _ _ _ _ hM (by omega) (by first | (rw [upd_upd]; exact ht.upw hc30) | (rw [upd_upd]; exact ht.up hc30) | (have e := roW_0 (T := T) (n := n') (f := f) (L := L) (m := ln w) (s := sg w) (j := k) (by omega); have e2 := ht.up hc30; rw [e] at e2; exact e2))) ⟨Or.inr (rfl), Or.inr (rfl), Or.inr (rfl), Or.inl rfl, trivial⟩
                  · obtain ⟨h1, h1s⟩ := wf_not hwf hi hs hc102
                    have t2 := (hu (k + 1) (by omega) h1).2 ((wf_w hwf h1).trans h1s)
                    refine ez_aload_n (q := 106) 0 dX8_lay_105 rfl rfl rfl ?_
                    refine ez_getf (q := 109) dX8_lay_106 fl_X8_19 hM.1 rfl rfl ?_
                    refine ez_iload_n (q := 110) 2 dX8_lay_109 rfl rfl rfl ?_
                    refine ez_aload_n (q := 111) 0 dX8_lay_110 rfl rfl rfl ?_
                    refine cMv (q := 114) dX8_lay_111 ck_X8_79 hM (t_X8_all hM.rb hz ho) rfl rfl rfl rfl rfl (Nat.le_of_ble_eq_true rfl) rfl (fun g hM => ?_)
                    refine ez_aload_n (q := 115) 0 dX8_lay_114 rfl rfl rfl ?_
                    refine ez_getf (q := 118) dX8_lay_115 fl_X8_19 hM.1 rfl rfl ?_
                    refine ez_iload_n (q := 119) 2 dX8_lay_118 rfl rfl rfl ?_
                    refine ez_iconst (v := nI 1) (q := 120) dX8_lay_119 (by decide) rfl ?_
                    refine ez_iadd (q := 121) dX8_lay_120 rfl ?_
                    refine ez_iald (q := 122) dX8_lay_121 hM.2.2.2.2.1 rfl (by omega) (by decide) rfl ?_
                    refine ez_top (t2.1) ?_
                    refine ez_iconst (v := -1) (q := 123) dX8_lay_122 (by decide) rfl ?_
                    refine ez_ixor (q := 124) dX8_lay_123 rfl ?_
                    refine ez_iandX (q := 125) dX8_lay_124 rfl ?_
                    refine ez_top (y := nI (seW T n' f L (ln w) (sg w) (k))) (congrArg nI (by rw [seW_not hi hc102])) ?_
                    refine sM_se (q := 126) dX8_lay_125 hM rfl (by omega) rfl (fun g hM => ?_)
                    refine ez_aload_n (q := 127) 0 dX8_lay_126 rfl rfl rfl ?_
                    refine ez_getf (q := 130) dX8_lay_127 fl_X8_25 hM.1 rfl rfl ?_
                    refine ez_iload_n (q := 131) 2 dX8_lay_130 rfl rfl rfl ?_
                    refine ez_iconst (v := nI 1) (q := 132) dX8_lay_131 (by decide) rfl ?_
                    refine ez_aload_n (q := 133) 0 dX8_lay_132 rfl rfl rfl ?_
                    refine ez_getf (q := 136) dX8_lay_133 fl_X8_25 hM.1 rfl rfl ?_
                    refine ez_iload_n (q := 137) 2 dX8_lay_136 rfl rfl rfl ?_
                    refine ez_iconst (v := nI 1) (q := 138) dX8_lay_137 (by decide) rfl ?_
                    refine ez_iadd (q := 139) dX8_lay_138 rfl ?_
                    refine ez_iald (q := 140) dX8_lay_139 hM.2.2.2.2.2.2.1 rfl (by omega) (by decide) rfl ?_
                    refine ez_top (t2.2.2.1) ?_
                    refine ez_iaddN (q := 141) dX8_lay_140 rfl ?_
                    refine ez_top (y := nI (leW (ln w) (sg w) (k))) (congrArg nI (by rw [leW_not hi hc102])) ?_
                    refine sM_le (q := 142) dX8_lay_141 hM rfl (by omega) rfl (fun g hM => ?_)
                    refine ez_aload_n (q := 143) 0 dX8_lay_142 rfl rfl rfl ?_
                    refine ez_getf (q := 146) dX8_lay_143 fl_X8_28 hM.1 rfl rfl ?_
                    refine ez_iload_n (q := 147) 2 dX8_lay_146 rfl rfl rfl ?_
                    refine ez_iconst (v := nI 1) (q := 148) dX8_lay_147 (by decide) rfl ?_
                    refine ez_aload_n (q := 149) 0 dX8_lay_148 rfl rfl rfl ?_
                    refine ez_getf (q := 152) dX8_lay_149 fl_X8_28 hM.1 rfl rfl ?_
                    refine ez_iload_n (q := 153) 2 dX8_lay_152 rfl rfl rfl ?_
                    refine ez_iconst (v := nI 1) (q := 154) dX8_lay_153 (by decide) rfl ?_
                    refine ez_iadd (q := 155) dX8_lay_154 rfl ?_
                    refine ez_iald (q := 156) dX8_lay_155 hM.2.2.2.2.2.2.2.1 rfl (by omega) (by decide) rfl ?_
                    refine ez_top (t2.2.2.2) ?_
                    refine ez_iaddN (q := 157) dX8_lay_156 rfl ?_
                    refine ez_top (y := nI (deW (ln w) (sg w) (k))) (congrArg nI (by rw [deW_not hi hc102])) ?_
                    refine sM_de (q := 158) dX8_lay_157 hM rfl (by omega) rfl (fun g hM => ?_)
                    refine ez_goto (q := 202) dX8_lay_158 (by decide) ?_
                    refine ez_iinc_2 (v := dI k) (q := 205) dX8_lay_202 (dI_dec k) (by decide) rfl rfl ?_
                    refine ez_goto (q := 8) dX8_lay_205 (by decide) ?_
                    exact E.fg (ih8 k (by omega) g _ _ _ _ _ hM (by omega) (by first | (rw [upd_upd]; exact ht.upw hc30) | (rw [upd_upd]; exact ht.up hc30) | (have e := roW_0 (T := T) (n := n') (f := f) (L := L) (m := ln w) (s := sg w) (j := k) (by omega); have e2 := ht.up hc30; rw [e] at e2; exact e2))) ⟨Or.inr (rfl), Or.inr (rfl), Or.inr (rfl), Or.inl rfl, trivial⟩
                · refine ez_aload_n (q := 91) 0 dX8_lay_90 rfl rfl rfl ?_
                  refine ez_iload_n (q := 92) 1 dX8_lay_91 rfl rfl rfl ?_
                  refine ez_iload_n (q := 93) 2 dX8_lay_92 rfl rfl rfl ?_
                  refine cM0 (q := 96) dX8_lay_93 ck_X8_111 hM (t_X8_layBoth hM.rb hz ho hw hi hwf hs hu (by omega)) rfl rfl rfl rfl rfl (Nat.le_of_ble_eq_true rfl) rfl (fun g hM => ?_)
                  refine ez_goto (q := 202) dX8_lay_96 (by decide) ?_
                  refine ez_iinc_2 (v := dI k) (q := 205) dX8_lay_202 (dI_dec k) (by decide) rfl rfl ?_
                  refine ez_goto (q := 8) dX8_lay_205 (by decide) ?_
                  exact E.fg (ih8 k (by omega) g _ _ _ _ _ hM (by omega) (by first | (rw [upd_upd]; exact ht.upw hc30) | (rw [upd_upd]; exact ht.up hc30) | (have e := roW_0 (T := T) (n := n') (f := f) (L := L) (m := ln w) (s := sg w) (j := k) (by omega); have e2 := ht.up hc30; rw [e] at e2; exact e2))) ⟨Or.inr (rfl), Or.inr (rfl), Or.inr (rfl), Or.inl rfl, trivial⟩
            · refine ez_aload_n (q := 70) 0 dX8_lay_69 rfl rfl rfl ?_
              refine ez_iload_n (q := 71) 1 dX8_lay_70 rfl rfl rfl ?_
              refine ez_iload_n (q := 72) 2 dX8_lay_71 rfl rfl rfl ?_
              refine cM0 (q := 75) dX8_lay_72 ck_X8_107 hM (t_X8_layWays hM.rb hz ho hw hi hwf hs hu (by omega)) rfl rfl rfl rfl rfl (Nat.le_of_ble_eq_true rfl) rfl (fun g hM => ?_)
              refine ez_goto (q := 202) dX8_lay_75 (by decide) ?_
              refine ez_iinc_2 (v := dI k) (q := 205) dX8_lay_202 (dI_dec k) (by decide) rfl rfl ?_
              refine ez_goto (q := 8) dX8_lay_205 (by decide) ?_
              exact E.fg (ih8 k (by omega) g _ _ _ _ _ hM (by omega) (by first | (rw [upd_upd]; exact ht.upw hc30) | (rw [upd_upd]; exact ht.up hc30) | (have e := roW_0 (T := T) (n := n') (f := f) (L := L) (m := ln w) (s := sg w) (j := k) (by omega); have e2 := ht.up hc30; rw [e] at e2; exact e2))) ⟨Or.inr (rfl), Or.inr (rfl), Or.inr (rfl), Or.inl rfl, trivial⟩
        · refine ez_aload_n (q := 34) 0 dX8_lay_33 rfl rfl rfl ?_
          refine ez_getf (q := 37) dX8_lay_34 fl_X8_19 hM.1 rfl rfl ?_
          refine ez_iload_n (q := 38) 2 dX8_lay_37 rfl rfl rfl ?_
          refine ez_iconst (v := -1) (q := 39) dX8_lay_38 (by decide) rfl ?_
          refine sM_se (q := 40) dX8_lay_39 hM rfl (by omega) rfl (fun g hM => ?_)
          refine ez_aload_n (q := 41) 0 dX8_lay_40 rfl rfl rfl ?_
          refine ez_getf (q := 44) dX8_lay_41 fl_X8_22 hM.1 rfl rfl ?_
          refine ez_iload_n (q := 45) 2 dX8_lay_44 rfl rfl rfl ?_
          refine ez_iconst (v := -1) (q := 46) dX8_lay_45 (by decide) rfl ?_
          refine sM_ro (q := 47) dX8_lay_46 hM rfl (by omega) rfl (fun g hM => ?_)
          refine ez_aload_n (q := 48) 0 dX8_lay_47 rfl rfl rfl ?_
          refine ez_getf (q := 51) dX8_lay_48 fl_X8_25 hM.1 rfl rfl ?_
          refine ez_iload_n (q := 52) 2 dX8_lay_51 rfl rfl rfl ?_
          refine ez_iconst (v := -1) (q := 53) dX8_lay_52 (by decide) rfl ?_
          refine sM_le (q := 54) dX8_lay_53 hM rfl (by omega) rfl (fun g hM => ?_)
          refine ez_goto (q := 202) dX8_lay_54 (by decide) ?_
          refine ez_iinc_2 (v := dI k) (q := 205) dX8_lay_202 (dI_dec k) (by decide) rfl rfl ?_
          refine ez_goto (q := 8) dX8_lay_205 (by decide) ?_
          exact E.fg (ih8 k (by omega) g _ _ _ _ _ hM (by omega) (by first | (rw [upd_upd]; exact ht.upw hc30) | (rw [upd_upd]; exact ht.up hc30) | (have e := roW_0 (T := T) (n := n') (f := f) (L := L) (m := ln w) (s := sg w) (j := k) (by omega); have e2 := ht.up hc30; rw [e] at e2; exact e2))) ⟨Or.inr (rfl), Or.inr (rfl), Or.inr (rfl), Or.inl rfl, trivial⟩
  · change E G mX8_lay (d + 8) Q g n 0 0 8 [some (.ref 64), some (.int (nI w)), some (.int (nI k)), none] []
    have hi : k < ln w := hk
    refine ez_iload_n (q := 9) 2 dX8_lay_8 rfl rfl rfl ?_
    refine ez_ifltN (q := 12) (tgt := 208) dX8_lay_9 (by decide) (by omega) rfl ?_
    refine ez_aload_n (q := 13) 0 dX8_lay_12 rfl rfl rfl ?_
    refine ez_iload_n (q := 14) 1 dX8_lay_13 rfl rfl rfl ?_
    refine ez_iload_n (q := 15) 2 dX8_lay_14 rfl rfl rfl ?_
    refine cMv (q := 18) dX8_lay_15 ck_X8_91 hM (t_X8_signAt hM.rb hz ho hw hi) rfl rfl rfl rfl rfl (Nat.le_of_ble_eq_true rfl) rfl (fun g hM => ?_)
    refine ez_istore_3 (q := 19) dX8_lay_18 rfl (by decide) rfl rfl ?_
    refine ez_aload_n (q := 20) 0 dX8_lay_19 rfl rfl rfl ?_
    refine ez_getf (q := 23) dX8_lay_20 fl_X8_22 hM.1 rfl rfl ?_
    refine ez_iload_n (q := 24) 2 dX8_lay_23 rfl rfl rfl ?_
    refine ez_iconst (v := nI 0) (q := 25) dX8_lay_24 (by decide) rfl ?_
    refine sM_ro (q := 26) dX8_lay_25 hM rfl (by omega) rfl (fun g hM => ?_)
    refine ez_iload_n (q := 27) 3 dX8_lay_26 rfl rfl rfl ?_
    refine cUv (q := 30) dX8_lay_27 ck_X8_104 (t_X8_isOfWays (wf_c hwf hi)) rfl rfl rfl (Nat.le_of_ble_eq_true rfl) rfl ?_
    refine ez_ifeqB (q := 33) (tgt := 57) dX8_lay_30 (by decide) rfl (fun hc30 => ?_) (fun hc30 => ?_)
    · have hs := (wf_w hwf hi).symm.trans hc30
      have hu := ht.ro (nI 0)
      have hcs : (97 ≤ sg w k ∧ sg w k ≤ 100) ∨ sg w k = 116 ∨ sg w k = 33 ∨ sg w k = 38 ∨ sg w k = 124 ∨ sg w k = 69 ∨ sg w k = 65 := by rcases (wf_one hwf hi hs).2 with ⟨a, _⟩ | ⟨a, _⟩ | ⟨a, _⟩ | ⟨a, _⟩ <;> omega
      refine ez_iload_n (q := 58) 3 dX8_lay_57 rfl rfl rfl ?_
      refine ez_bipush (v := nI 69) (q := 60) dX8_lay_58 (by decide) rfl ?_
      refine ez_icmpeqN (q := 63) (tgt := 69) dX8_lay_60 (by decide) (by have := wf_c hwf hi; omega) (by decide) rfl (fun hc60 => ?_) (fun hc60 => ?_)
      · refine ez_aload_n (q := 70) 0 dX8_lay_69 rfl rfl rfl ?_
        refine ez_iload_n (q := 71) 1 dX8_lay_70 rfl rfl rfl ?_
        refine ez_iload_n (q := 72) 2 dX8_lay_71 rfl rfl rfl ?_
        refine cM0 (q := 75) dX8_lay_72 ck_X8_107 hM (t_X8_layWays hM.rb hz ho hw hi hwf hs hu (by omega)) rfl rfl rfl rfl rfl (Nat.le_of_ble_eq_true rfl) rfl (fun g hM => ?_)
        refine ez_goto (q := 202) dX8_lay_75 (by decide) ?_
        refine ez_iinc_2 (v := dI k) (q := 205) dX8_lay_202 (dI_dec k) (by decide) rfl rfl ?_
        refine ez_goto (q := 8) dX8_lay_205 (by decide) ?_
        exact E.fg (ih8 k (by omega) g _ _ _ _ _ hM (by omega) (by first | (rw [upd_upd]; exact ht.upw hc30) | (rw [upd_upd]; exact ht.up hc30) | (have e := roW_0 (T := T) (n := n') (f := f) (L := L) (m := ln w) (s := sg w) (j := k) (by omega); have e2 := ht.up hc30; rw [e] at e2; exact e2))) ⟨Or.inr (rfl), Or.inr (rfl), Or.inr (rfl), Or.inl rfl, trivial⟩
      · refine ez_iload_n (q := 64) 3 dX8_lay_63 rfl rfl rfl ?_
        refine ez_bipush (v := nI 65) (q := 66) dX8_lay_64 (by decide) rfl ?_
        refine ez_icmpneN (q := 69) (tgt := 78) dX8_lay_66 (by decide) (by have := wf_c hwf hi; omega) (by decide) rfl (fun hc66 => ?_) (fun hc66 => ?_)
        · refine ez_iload_n (q := 79) 3 dX8_lay_78 rfl rfl rfl ?_
          refine ez_bipush (v := nI 38) (q := 81) dX8_lay_79 (by decide) rfl ?_
          refine ez_icmpeqN (q := 84) (tgt := 90) dX8_lay_81 (by decide) (by have := wf_c hwf hi; omega) (by decide) rfl (fun hc81 => ?_) (fun hc81 => ?_)
          · refine ez_aload_n (q := 91) 0 dX8_lay_90 rfl rfl rfl ?_
            refine ez_iload_n (q := 92) 1 dX8_lay_91 rfl rfl rfl ?_
            refine ez_iload_n (q := 93) 2 dX8_lay_92 rfl rfl rfl ?_
            refine cM0 (q := 96) dX8_lay_93 ck_X8_111 hM (t_X8_layBoth hM.rb hz ho hw hi hwf hs hu (by omega)) rfl rfl rfl rfl rfl (Nat.le_of_ble_eq_true rfl) rfl (fun g hM => ?_)
            refine ez_goto (q := 202) dX8_lay_96 (by decide) ?_
            refine ez_iinc_2 (v := dI k) (q := 205) dX8_lay_202 (dI_dec k) (by decide) rfl rfl ?_
            refine ez_goto (q := 8) dX8_lay_205 (by decide) ?_
            exact E.fg (ih8 k (by omega) g _ _ _ _ _ hM (by omega) (by first | (rw [upd_upd]; exact ht.upw hc30) | (rw [upd_upd]; exact ht.up hc30) | (have e := roW_0 (T := T) (n := n') (f := f) (L := L) (m := ln w) (s := sg w) (j := k) (by omega); have e2 := ht.up hc30; rw [e] at e2; exact e2))) ⟨Or.inr (rfl), Or.inr (rfl), Or.inr (rfl), Or.inl rfl, trivial⟩
          · refine ez_iload_n (q := 85) 3 dX8_lay_84 rfl rfl rfl ?_
            refine ez_bipush (v := nI 124) (q := 87) dX8_lay_85 (by decide) rfl ?_
            refine ez_icmpneN (q := 90) (tgt := 99) dX8_lay_87 (by decide) (by have := wf_c hwf hi; omega) (by decide) rfl (fun hc87 => ?_) (fun hc87 => ?_)
            · refine ez_iload_n (q := 100) 3 dX8_lay_99 rfl rfl rfl ?_
              refine ez_bipush (v := nI 33) (q := 102) dX8_lay_100 (by decide) rfl ?_
              refine ez_icmpneN (q := 105) (tgt := 161) dX8_lay_102 (by decide) (by have := wf_c hwf hi; omega) (by decide) rfl (fun hc102 => ?_) (fun hc102 => ?_)
              · refine ez_aload_n (q := 162) 0 dX8_lay_161 rfl rfl rfl ?_
                refine ez_getf (q := 165) dX8_lay_162 fl_X8_19 hM.1 rfl rfl ?_
                refine ez_iload_n (q := 166) 2 dX8_lay_165 rfl rfl rfl ?_
                refine ez_iload_n (q := 167) 3 dX8_lay_166 rfl rfl rfl ?_
                refine ez_bipush (v := nI 116) (q := 169) dX8_lay_167 (by decide) rfl ?_
                refine ez_icmpneN (q := 172) (tgt := 179) dX8_lay_169 (by decide) (by have := wf_c hwf hi; omega) (by decide) rfl (fun hc169 => ?_) (fun hc169 => ?_)
                · refine ez_aload_n (q := 180) 0 dX8_lay_179 rfl rfl rfl ?_
                  refine ez_iload_n (q := 181) 3 dX8_lay_180 rfl rfl rfl ?_
                  refine ez_bipush (v := nI 97) (q := 183) dX8_lay_181 (by decide) rfl ?_
                  refine ez_isubN (q := 184) dX8_lay_183 (by omega) rfl ?_
                  refine cMv (q := 187) dX8_lay_184 ck_X8_67 hM (t_X8_withLetter hM.rb hz ho (show sg w k - 97 < 4 by omega)) rfl rfl rfl rfl rfl (Nat.le_of_ble_eq_true rfl) rfl (fun g hM => ?_)
                  refine ez_top (y := nI (seW T n' f L (ln w) (sg w) (k))) (congrArg nI (by first | rw [seW_t hi hc169] | rw [seW_let hi (by omega)])) ?_
                  refine sM_se (q := 188) dX8_lay_187 hM rfl (by omega) rfl (fun g hM => ?_)
                  refine ez_aload_n (q := 189) 0 dX8_lay_188 rfl rfl rfl ?_
                  refine ez_getf (q := 192) dX8_lay_189 fl_X8_25 hM.1 rfl rfl ?_
                  refine ez_iload_n (q := 193) 2 dX8_lay_192 rfl rfl rfl ?_
                  refine ez_iconst (v := nI 1) (q := 194) dX8_lay_193 (by decide) rfl ?_
                  refine ez_top (y := nI (leW (ln w) (sg w) (k))) (congrArg nI (by rw [leW_1 hi (by omega)])) ?_
                  refine sM_le (q := 195) dX8_lay_194 hM rfl (by omega) rfl (fun g hM => ?_)
                  refine ez_aload_n (q := 196) 0 dX8_lay_195 rfl rfl rfl ?_
                  refine ez_getf (q := 199) dX8_lay_196 fl_X8_28 hM.1 rfl rfl ?_
                  refine ez_iload_n (q := 200) 2 dX8_lay_199 rfl rfl rfl ?_
                  refine ez_iconst (v := nI 1) (q := 201) dX8_lay_200 (by decide) rfl ?_
                  refine ez_top (y := nI (deW (ln w) (sg w) (k))) (congrArg nI (by rw [deW_1 hi (by omega)])) ?_
                  refine sM_de (q := 202) dX8_lay_201 hM rfl (by omega) rfl (fun g hM => ?_)
                  refine ez_iinc_2 (v := dI k) (q := 205) dX8_lay_202 (dI_dec k) (by decide) rfl rfl ?_
                  refine ez_goto (q := 8) dX8_lay_205 (by decide) ?_
                  exact E.fg (ih8 k (by omega) g _ _ _ _ _ hM (by omega) (by first | (rw [upd_upd]; exact ht.upw hc30) | (rw [upd_upd]; exact ht.up hc30) | (have e := roW_0 (T := T) (n := n') (f := f) (L := L) (m := ln w) (s := sg w) (j := k) (by omega); have e2 := ht.up hc30; rw [e] at e2; exact e2))) ⟨Or.inr (rfl), Or.inr (rfl), Or.inr (rfl), Or.inl rfl, trivial⟩
                · refine ez_aload_n (q := 173) 0 dX8_lay_172 rfl rfl rfl ?_
                  refine cMv (q := 176) dX8_lay_173 ck_X8_79 hM (t_X8_all hM.rb hz ho) rfl rfl rfl rfl rfl (Nat.le_of_ble_eq_true rfl) rfl (fun g hM => ?_)
                  refine ez_goto (q := 187) dX8_lay_176 (by decide) ?_
                  refine ez_top (y := nI (seW T n' f L (ln w) (sg w) (k))) (congrArg nI (by first | rw [seW_t hi hc169] | rw [seW_let hi (by omega)])) ?_
                  refine sM_se (q := 188) dX8_lay_187 hM rfl (by omega) rfl (fun g hM => ?_)
                  refine ez_aload_n (q := 189) 0 dX8_lay_188 rfl rfl rfl ?_
                  refine ez_getf (q := 192) dX8_lay_189 fl_X8_25 hM.1 rfl rfl ?_
                  refine ez_iload_n (q := 193) 2 dX8_lay_192 rfl rfl rfl ?_
                  refine ez_iconst (v := nI 1) (q := 194) dX8_lay_193 (by decide) rfl ?_
                  refine ez_top (y := nI (leW (ln w) (sg w) (k))) (congrArg nI (by rw [leW_1 hi (by omega)])) ?_
                  refine sM_le (q := 195) dX8_lay_194 hM rfl (by omega) rfl (fun g hM => ?_)
                  refine ez_aload_n (q := 196) 0 dX8_lay_195 rfl rfl rfl ?_
                  refine ez_getf (q := 199) dX8_lay_196 fl_X8_28 hM.1 rfl rfl ?_
                  refine ez_iload_n (q := 200) 2 dX8_lay_199 rfl rfl rfl ?_
                  refine ez_iconst (v := nI 1) (q := 201) dX8_lay_200 (by decide) rfl ?_
                  refine ez_top (y := nI (deW (ln w) (sg w) (k))) (congrArg nI (by rw [deW_1 hi (by omega)])) ?_
                  refine sM_de (q := 202) dX8_lay_201 hM rfl (by omega) rfl (fun g hM => ?_)
                  refine ez_iinc_2 (v := dI k) (q := 205) dX8_lay_202 (dI_dec k) (by decide) rfl rfl ?_
                  refine ez_goto (q := 8) dX8_lay_205 (by decide) ?_
                  exact E.fg (ih8 k (by omega) g _ _ _ _ _ hM (by omega) (by first | (rw [upd_upd]; exact ht.upw hc30) | (rw [upd_upd]; exact ht.up hc30) | (have e := roW_0 (T := T) (n := n') (f := f) (L := L) (m := ln w) (s := sg w) (j := k) (by omega); have e2 := ht.up hc30; rw [e] at e2; exact e2))) ⟨Or.inr (rfl), Or.inr (rfl), Or.inr (rfl), Or.inl rfl, trivial⟩
              · obtain ⟨h1, h1s⟩ := wf_not hwf hi hs hc102
                have t2 := (hu (k + 1) (by omega) h1).2 ((wf_w hwf h1).trans h1s)
                refine ez_aload_n (q := 106) 0 dX8_lay_105 rfl rfl rfl ?_
                refine ez_getf (q := 109) dX8_lay_106 fl_X8_19 hM.1 rfl rfl ?_
                refine ez_iload_n (q := 110) 2 dX8_lay_109 rfl rfl rfl ?_
                refine ez_aload_n (q := 111) 0 dX8_lay_110 rfl rfl rfl ?_
                refine cMv (q := 114) dX8_lay_111 ck_X8_79 hM (t_X8_all hM.rb hz ho) rfl rfl rfl rfl rfl (Nat.le_of_ble_eq_true rfl) rfl (fun g hM => ?_)
                refine ez_aload_n (q := 115) 0 dX8_lay_114 rfl rfl rfl ?_
                refine ez_getf (q := 118) dX8_lay_115 fl_X8_19 hM.1 rfl rfl ?_
                refine ez_iload_n (q := 119) 2 dX8_lay_118 rfl rfl rfl ?_
                refine ez_iconst (v := nI 1) (q := 120) dX8_lay_119 (by decide) rfl ?_
                refine ez_iaddN (q := 121) dX8_lay_120 rfl ?_
                refine ez_iald (q := 122) dX8_lay_121 hM.2.2.2.2.1 rfl (by omega) (by decide) rfl ?_
                refine ez_top (t2.1) ?_
                refine ez_iconst (v := -1) (q := 123) dX8_lay_122 (by decide) rfl ?_
                refine ez_ixor (q := 124) dX8_lay_123 rfl ?_
                refine ez_iandX (q := 125) dX8_lay_124 rfl ?_
                refine ez_top (y := nI (seW T n' f L (ln w) (sg w) (k))) (congrArg nI (by rw [seW_not hi hc102])) ?_
                refine sM_se (q := 126) dX8_lay_125 hM rfl (by omega) rfl (fun g hM => ?_)
                refine ez_aload_n (q := 127) 0 dX8_lay_126 rfl rfl rfl ?_
                refine ez_getf (q := 130) dX8_lay_127 fl_X8_25 hM.1 rfl rfl ?_
                refine ez_iload_n (q := 131) 2 dX8_lay_130 rfl rfl rfl ?_
                refine ez_iconst (v := nI 1) (q := 132) dX8_lay_131 (by decide) rfl ?_
                refine ez_aload_n (q := 133) 0 dX8_lay_132 rfl rfl rfl ?_
                refine ez_getf (q := 136) dX8_lay_133 fl_X8_25 hM.1 rfl rfl ?_
                refine ez_iload_n (q := 137) 2 dX8_lay_136 rfl rfl rfl ?_
                refine ez_iconst (v := nI 1) (q := 138) dX8_lay_137 (by decide) rfl ?_
                refine ez_iaddN (q := 139) dX8_lay_138 rfl ?_
                refine ez_iald (q := 140) dX8_lay_139 hM.2.2.2.2.2.2.1 rfl (by omega) (by decide) rfl ?_
                refine ez_top (t2.2.2.1) ?_
                refine ez_iaddN (q := 141) dX8_lay_140 rfl ?_
                refine ez_top (y := nI (leW (ln w) (sg w) (k))) (congrArg nI (by rw [leW_not hi hc102])) ?_
                refine sM_le (q := 142) dX8_lay_141 hM rfl (by omega) rfl (fun g hM => ?_)
                refine ez_aload_n (q := 143) 0 dX8_lay_142 rfl rfl rfl ?_
                refine ez_getf (q := 146) dX8_lay_143 fl_X8_28 hM.1 rfl rfl ?_
                refine ez_iload_n (q := 147) 2 dX8_lay_146 rfl rfl rfl ?_
                refine ez_iconst (v := nI 1) (q := 148) dX8_lay_147 (by decide) rfl ?_
                refine ez_aload_n (q := 149) 0 dX8_lay_148 rfl rfl rfl ?_
                refine ez_getf (q := 152) dX8_lay_149 fl_X8_28 hM.1 rfl rfl ?_
                refine ez_iload_n (q := 153) 2 dX8_lay_152 rfl rfl rfl ?_
                refine ez_iconst (v := nI 1) (q := 154) dX8_lay_153 (by decide) rfl ?_
                refine ez_iaddN (q := 155) dX8_lay_154 rfl ?_
                refine ez_iald (q := 156) dX8_lay_155 hM.2.2.2.2.2.2.2.1 rfl (by omega) (by decide) rfl ?_
                refine ez_top (t2.2.2.2) ?_
                refine ez_iaddN (q := 157) dX8_lay_156 rfl ?_
                refine ez_top (y := nI (deW (ln w) (sg w) (k))) (congrArg nI (by rw [deW_not hi hc102])) ?_
                refine sM_de (q := 158) dX8_lay_157 hM rfl (by omega) rfl (fun g hM => ?_)
                refine ez_goto (q := 202) dX8_lay_158 (by decide) ?_
                refine ez_iinc_2 (v := dI k) (q := 205) dX8_lay_202 (dI_dec k) (by decide) rfl rfl ?_
                refine ez_goto (q := 8) dX8_lay_205 (by decide) ?_
                exact E.fg (ih8 k (by omega) g _ _ _ _ _ hM (by omega) (by first | (rw [upd_upd]; exact ht.upw hc30) | (rw [upd_upd]; exact ht.up hc30) | (have e := roW_0 (T := T) (n := n') (f := f) (L := L) (m := ln w) (s := sg w) (j := k) (by omega); have e2 := ht.up hc30; rw [e] at e2; exact e2))) ⟨Or.inr (rfl), Or.inr (rfl), Or.inr (rfl), Or.inl rfl, trivial⟩
            · refine ez_aload_n (q := 91) 0 dX8_lay_90 rfl rfl rfl ?_
              refine ez_iload_n (q := 92) 1 dX8_lay_91 rfl rfl rfl ?_
              refine ez_iload_n (q := 93) 2 dX8_lay_92 rfl rfl rfl ?_
              refine cM0 (q := 96) dX8_lay_93 ck_X8_111 hM (t_X8_layBoth hM.rb hz ho hw hi hwf hs hu (by omega)) rfl rfl rfl rfl rfl (Nat.le_of_ble_eq_true rfl) rfl (fun g hM => ?_)
              refine ez_goto (q := 202) dX8_lay_96 (by decide) ?_
              refine ez_iinc_2 (v := dI k) (q := 205) dX8_lay_202 (dI_dec k) (by decide) rfl rfl ?_
              refine ez_goto (q := 8) dX8_lay_205 (by decide) ?_
              exact E.fg (ih8 k (by omega) g _ _ _ _ _ hM (by omega) (by first | (rw [upd_upd]; exact ht.upw hc30) | (rw [upd_upd]; exact ht.up hc30) | (have e := roW_0 (T := T) (n := n') (f := f) (L := L) (m := ln w) (s := sg w) (j := k) (by omega); have e2 := ht.up hc30; rw [e] at e2; exact e2))) ⟨Or.inr (rfl), Or.inr (rfl), Or.inr (rfl), Or.inl rfl, trivial⟩
        · refine ez_aload_n (q := 70) 0 dX8_lay_69 rfl rfl rfl ?_
          refine ez_iload_n (q := 71) 1 dX8_lay_70 rfl rfl rfl ?_
          refine ez_iload_n (q := 72) 2 dX8_lay_71 rfl rfl rfl ?_
          refine cM0 (q := 75) dX8_lay_72 ck_X8_107 hM (t_X8_layWays hM.rb hz ho hw hi hwf hs hu (by omega)) rfl rfl rfl rfl rfl (Nat.le_of_ble_eq_true rfl) rfl (fun g hM => ?_)
          refine ez_goto (q := 202) dX8_lay_75 (by decide) ?_
          refine ez_iinc_2 (v := dI k) (q := 205) dX8_lay_202 (dI_dec k) (by decide) rfl rfl ?_
          refine ez_goto (q := 8) dX8_lay_205 (by decide) ?_
          exact E.fg (ih8 k (by omega) g _ _ _ _ _ hM (by omega) (by first | (rw [upd_upd]; exact ht.upw hc30) | (rw [upd_upd]; exact ht.up hc30) | (have e := roW_0 (T := T) (n := n') (f := f) (L := L) (m := ln w) (s := sg w) (j := k) (by omega); have e2 := ht.up hc30; rw [e] at e2; exact e2))) ⟨Or.inr (rfl), Or.inr (rfl), Or.inr (rfl), Or.inl rfl, trivial⟩
    · refine ez_aload_n (q := 34) 0 dX8_lay_33 rfl rfl rfl ?_
      refine ez_getf (q := 37) dX8_lay_34 fl_X8_19 hM.1 rfl rfl ?_
      refine ez_iload_n (q := 38) 2 dX8_lay_37 rfl rfl rfl ?_
      refine ez_iconst (v := -1) (q := 39) dX8_lay_38 (by decide) rfl ?_
      refine sM_se (q := 40) dX8_lay_39 hM rfl (by omega) rfl (fun g hM => ?_)
      refine ez_aload_n (q := 41) 0 dX8_lay_40 rfl rfl rfl ?_
      refine ez_getf (q := 44) dX8_lay_41 fl_X8_22 hM.1 rfl rfl ?_
      refine ez_iload_n (q := 45) 2 dX8_lay_44 rfl rfl rfl ?_
      refine ez_iconst (v := -1) (q := 46) dX8_lay_45 (by decide) rfl ?_
      refine sM_ro (q := 47) dX8_lay_46 hM rfl (by omega) rfl (fun g hM => ?_)
      refine ez_aload_n (q := 48) 0 dX8_lay_47 rfl rfl rfl ?_
      refine ez_getf (q := 51) dX8_lay_48 fl_X8_25 hM.1 rfl rfl ?_
      refine ez_iload_n (q := 52) 2 dX8_lay_51 rfl rfl rfl ?_
      refine ez_iconst (v := -1) (q := 53) dX8_lay_52 (by decide) rfl ?_
      refine sM_le (q := 54) dX8_lay_53 hM rfl (by omega) rfl (fun g hM => ?_)
      refine ez_goto (q := 202) dX8_lay_54 (by decide) ?_
      refine ez_iinc_2 (v := dI k) (q := 205) dX8_lay_202 (dI_dec k) (by decide) rfl rfl ?_
      refine ez_goto (q := 8) dX8_lay_205 (by decide) ?_
      exact E.fg (ih8 k (by omega) g _ _ _ _ _ hM (by omega) (by first | (rw [upd_upd]; exact ht.upw hc30) | (rw [upd_upd]; exact ht.up hc30) | (have e := roW_0 (T := T) (n := n') (f := f) (L := L) (m := ln w) (s := sg w) (j := k) (by omega); have e2 := ht.up hc30; rw [e] at e2; exact e2))) ⟨Or.inr (rfl), Or.inr (rfl), Or.inr (rfl), Or.inl rfl, trivial⟩

set_option maxHeartbeats 800000 in
set_option maxRecDepth 100000 in
theorem t_X8_holds {G : ez_G} {d n : Nat} {h : ez_H} {n' f : Nat} {L T ln : Nat → Nat} {sg : Nat → Nat → Nat} {w r : Nat} {sc : Nat → Nat × Bool} {th sm ty wa rm fm ff : Int32} {z sv bf se ro le de rw sp : Nat → Int32} {ww : Bool} {ha : Int64} (hM : IM h h th z sv sm bf ty (nI r) se ro le de wa ww rw rm sp fm ff ha) (hz : ZZ z n' f L T ln sg) (ho : OK n' f L T ln sg) (hw : w < 4) (hwf : WF (ln w) (sg w) sc) : Con G mX8_holds (d + 9) [.ref 64, .int (nI w)] h n 0 0 (PW n (some (.int (nI (seW T n' f L (ln w) (sg w) 0)))) (fun g => ∃ (se' ro' le' de' : Nat → Int32) (k' : Nat), IM h g th z sv sm bf ty (nI k') se' ro' le' de' wa ww rw rm sp fm ff ha ∧ TB T n' f L (ln w) (sg w) 0 se' ro' le' de')) := by
  have hn := ho.1
  have hn0 := hz.1
  have hl := ho.2.2.2.2.1 w hw
  obtain ⟨hm, hs0, -⟩ := wf_0 hwf
  refine Con.of [some (.ref 64), some (.int (nI w))] pl_X8 rfl (Nat.le_of_ble_eq_true rfl) rfl ?_
  have hQ : ∀ g (se ro le de : Nat → Int32) (k : Nat), IM h g th z sv sm bf ty (nI k) se ro le de wa ww rw rm sp fm ff ha → TB T n' f L (ln w) (sg w) (0) se ro le de → (PW n (some (.int (nI (seW T n' f L (ln w) (sg w) 0)))) (fun g => ∃ (se' ro' le' de' : Nat → Int32) (k' : Nat), IM h g th z sv sm bf ty (nI k') se' ro' le' de' wa ww rw rm sp fm ff ha ∧ TB T n' f L (ln w) (sg w) 0 se' ro' le' de')) (.inl (some (.int (nI (seW T n' f L (ln w) (sg w) 0))))) g n := fun g se ro le de k hM ht => ⟨rfl, ⟨se, ro, le, de, k, hM, ht⟩, rfl⟩
  generalize PW n (some (.int (nI (seW T n' f L (ln w) (sg w) 0)))) (fun g => ∃ (se' ro' le' de' : Nat → Int32) (k' : Nat), IM h g th z sv sm bf ty (nI k') se' ro' le' de' wa ww rw rm sp fm ff ha ∧ TB T n' f L (ln w) (sg w) 0 se' ro' le' de') = Q at hQ ⊢
  refine ez_aload_n (q := 1) 0 dX8_holds_0 rfl rfl rfl ?_
  refine ez_iload_n (q := 2) 1 dX8_holds_1 rfl rfl rfl ?_
  refine cX0 (q := 5) dX8_holds_2 ck_X8_114 hM.1 (t_X8_lay hM.rb hz ho hw hwf) rfl ⟨by decide, rfl⟩ rfl rfl rfl (Nat.le_of_ble_eq_true rfl) rfl (fun g hW => ?_)
  obtain ⟨se, ro, le, de, r, hM2, ht⟩ := hW
  have hM := hM.tr hM2
  refine ez_aload_n (q := 6) 0 dX8_holds_5 rfl rfl rfl ?_
  refine ez_getf (q := 9) dX8_holds_6 fl_X8_19 hM.1 rfl rfl ?_
  refine ez_iconst (v := nI 0) (q := 10) dX8_holds_9 (by decide) rfl ?_
  refine ez_iald (q := 11) dX8_holds_10 hM.2.2.2.2.1 rfl (by omega) (by decide) rfl ?_
  refine ez_top (((ht 0 (Nat.le_refl 0) hm).2 ((wf_w hwf hm).trans hs0)).1) ?_
  exact ez_iret dX8_holds_11 rfl (hQ _ _ _ _ _ _ hM ht)

