set_option maxHeartbeats 4000000 in
set_option maxRecDepth 100000 in
theorem t_X8_some {G : ez_G} {d n : Nat} {h : ez_H} {n' f : Nat} {L T ln : Nat → Nat} {sg : Nat → Nat → Nat} {c a b r : Nat} {th sm ty wa rm fm ff : Int32} {z sv bf se ro le de rw sp : Nat → Int32} {ww : Bool} {ha : Int64} (hM : IM h h th z sv sm bf ty (nI r) se ro le de wa ww rw rm sp fm ff ha) (hz : ZZ z n' f L T ln sg) (ho : OK n' f L T ln sg) (hk : c = 88 ∨ c = 70 ∨ c = 71 ∨ c = 85) (haa : a < 2 ^ n') (hb : b < 2 ^ n') : Con G mX8_some (d + 6) [.ref 64, .int (nI c), .int (nI a), .int (nI b)] h n 0 0 (PM h n (some (.int (nI (someS T n' f L c a b)))) th z sv sm bf ty (nI (r + someR T n' f L c a b)) se ro le de wa ww rw rm sp fm ff ha) := by
  have hn := ho.1
  have hn0 := hz.1
  refine Con.of [some (.ref 64), some (.int (nI c)), some (.int (nI a)), some (.int (nI b))] pl_X8 rfl (Nat.le_of_ble_eq_true rfl) rfl ?_
  have hQ : ∀ g, IM h g th z sv sm bf ty (nI (r + someR T n' f L c a b)) se ro le de wa ww rw rm sp fm ff ha → (PM h n (some (.int (nI (someS T n' f L c a b)))) th z sv sm bf ty (nI (r + someR T n' f L c a b)) se ro le de wa ww rw rm sp fm ff ha) (.inl (some (.int (nI (someS T n' f L c a b))))) g n := fun g hM => ⟨rfl, hM, rfl⟩
  generalize PM h n (some (.int (nI (someS T n' f L c a b)))) th z sv sm bf ty (nI (r + someR T n' f L c a b)) se ro le de wa ww rw rm sp fm ff ha = Q at hQ ⊢
  refine ez_iload_n (q := 1) 1 dX8_some_0 rfl rfl rfl ?_
  rcases hk with rfl | rfl | rfl | rfl
  · refine ez_lookup (q := 36) (off := 35) dX8_some_1 (by decide) (by decide) (by decide) ?_
    refine ez_aload_n (q := 37) 0 dX8_some_36 rfl rfl rfl ?_
    refine ez_aload_n (q := 38) 0 dX8_some_37 rfl rfl rfl ?_
    refine cMv (q := 41) dX8_some_38 ck_X8_85 hM (t_X8_live hM.rb hz ho) rfl rfl rfl rfl rfl (Nat.le_of_ble_eq_true rfl) rfl (fun g hM => ?_)
    refine ez_iload_n (q := 42) 2 dX8_some_41 rfl rfl rfl ?_
    refine ez_iandN (q := 43) dX8_some_42 rfl ?_
    refine cMv (q := 46) dX8_some_43 ck_X8_73 hM (t_X8_into hM.rb hz ho) rfl rfl rfl rfl rfl (Nat.le_of_ble_eq_true rfl) rfl (fun g hM => ?_)
    exact ez_iret dX8_some_46 rfl (hQ _ hM)
  · refine ez_lookup (q := 47) (off := 46) dX8_some_1 (by decide) (by decide) (by decide) ?_
    refine ez_aload_n (q := 48) 0 dX8_some_47 rfl rfl rfl ?_
    refine ez_aload_n (q := 49) 0 dX8_some_48 rfl rfl rfl ?_
    refine cMv (q := 52) dX8_some_49 ck_X8_79 hM (t_X8_all hM.rb hz ho) rfl rfl rfl rfl rfl (Nat.le_of_ble_eq_true rfl) rfl (fun g hM => ?_)
    refine ez_iload_n (q := 53) 2 dX8_some_52 rfl rfl rfl ?_
    refine cMv (q := 56) dX8_some_53 ck_X8_88 hM (t_X8_comes hM.rb hz ho haa) rfl rfl rfl rfl rfl (Nat.le_of_ble_eq_true rfl) rfl (fun g hM => ?_)
    exact ez_iret dX8_some_56 rfl (hQ _ hM)
  · refine ez_lookup (q := 57) (off := 56) dX8_some_1 (by decide) (by decide) (by decide) ?_
    refine ez_aload_n (q := 58) 0 dX8_some_57 rfl rfl rfl ?_
    refine ez_iload_n (q := 59) 2 dX8_some_58 rfl rfl rfl ?_
    refine cMv (q := 62) dX8_some_59 ck_X8_82 hM (t_X8_stays hM.rb hz ho haa) rfl rfl rfl rfl rfl (Nat.le_of_ble_eq_true rfl) rfl (fun g hM => ?_)
    exact ez_iret dX8_some_62 rfl (hQ _ hM)
  · refine ez_lookup (q := 63) (off := 62) dX8_some_1 (by decide) (by decide) (by decide) ?_
    refine ez_aload_n (q := 64) 0 dX8_some_63 rfl rfl rfl ?_
    refine ez_iload_n (q := 65) 2 dX8_some_64 rfl rfl rfl ?_
    refine ez_iload_n (q := 66) 3 dX8_some_65 rfl rfl rfl ?_
    refine cMv (q := 69) dX8_some_66 ck_X8_88 hM (t_X8_comes hM.rb hz ho hb) rfl rfl rfl rfl rfl (Nat.le_of_ble_eq_true rfl) rfl (fun g hM => ?_)
    exact ez_iret dX8_some_69 rfl (hQ _ hM)

set_option maxHeartbeats 4000000 in
set_option maxRecDepth 100000 in
theorem t_X8_every {G : ez_G} {d n : Nat} {h : ez_H} {n' f : Nat} {L T ln : Nat → Nat} {sg : Nat → Nat → Nat} {c a b r : Nat} {th sm ty wa rm fm ff : Int32} {z sv bf se ro le de rw sp : Nat → Int32} {ww : Bool} {ha : Int64} (hM : IM h h th z sv sm bf ty (nI r) se ro le de wa ww rw rm sp fm ff ha) (hz : ZZ z n' f L T ln sg) (ho : OK n' f L T ln sg) (hk : c = 88 ∨ c = 70 ∨ c = 71 ∨ c = 85) : Con G mX8_every (d + 6) [.ref 64, .int (nI c), .int (nI a), .int (nI b)] h n 0 0 (PM h n (some (.int (nI (evryS T n' f L c a b)))) th z sv sm bf ty (nI (r + evryR T n' f L c a b)) se ro le de wa ww rw rm sp fm ff ha) := by
  have hn := ho.1
  have hn0 := hz.1
  refine Con.of [some (.ref 64), some (.int (nI c)), some (.int (nI a)), some (.int (nI b)), none] pl_X8 rfl (Nat.le_of_ble_eq_true rfl) rfl ?_
  have hQ : ∀ g, IM h g th z sv sm bf ty (nI (r + evryR T n' f L c a b)) se ro le de wa ww rw rm sp fm ff ha → (PM h n (some (.int (nI (evryS T n' f L c a b)))) th z sv sm bf ty (nI (r + evryR T n' f L c a b)) se ro le de wa ww rw rm sp fm ff ha) (.inl (some (.int (nI (evryS T n' f L c a b))))) g n := fun g hM => ⟨rfl, hM, rfl⟩
  generalize PM h n (some (.int (nI (evryS T n' f L c a b)))) th z sv sm bf ty (nI (r + evryR T n' f L c a b)) se ro le de wa ww rw rm sp fm ff ha = Q at hQ ⊢
  refine ez_iload_n (q := 1) 1 dX8_every_0 rfl rfl rfl ?_
  rcases hk with rfl | rfl | rfl | rfl
  · refine ez_lookup (q := 36) (off := 35) dX8_every_1 (by decide) (by decide) (by decide) ?_
    refine ez_aload_n (q := 37) 0 dX8_every_36 rfl rfl rfl ?_
    refine cMv (q := 40) dX8_every_37 ck_X8_79 hM (t_X8_all hM.rb hz ho) rfl rfl rfl rfl rfl (Nat.le_of_ble_eq_true rfl) rfl (fun g hM => ?_)
    refine ez_aload_n (q := 41) 0 dX8_every_40 rfl rfl rfl ?_
    refine ez_aload_n (q := 42) 0 dX8_every_41 rfl rfl rfl ?_
    refine cMv (q := 45) dX8_every_42 ck_X8_85 hM (t_X8_live hM.rb hz ho) rfl rfl rfl rfl rfl (Nat.le_of_ble_eq_true rfl) rfl (fun g hM => ?_)
    refine ez_iload_n (q := 46) 2 dX8_every_45 rfl rfl rfl ?_
    refine ez_iconst (v := -1) (q := 47) dX8_every_46 (by decide) rfl ?_
    refine ez_ixor (q := 48) dX8_every_47 rfl ?_
    refine ez_iandX (q := 49) dX8_every_48 rfl ?_
    refine cMv (q := 52) dX8_every_49 ck_X8_73 hM (t_X8_into hM.rb hz ho) rfl rfl rfl rfl rfl (Nat.le_of_ble_eq_true rfl) rfl (fun g hM => ?_)
    refine ez_iconst (v := -1) (q := 53) dX8_every_52 (by decide) rfl ?_
    refine ez_ixor (q := 54) dX8_every_53 rfl ?_
    refine ez_iandX (q := 55) dX8_every_54 rfl ?_
    exact ez_iret dX8_every_55 rfl (hQ _ hM)
  · refine ez_lookup (q := 56) (off := 55) dX8_every_1 (by decide) (by decide) (by decide) ?_
    refine ez_aload_n (q := 57) 0 dX8_every_56 rfl rfl rfl ?_
    refine cMv (q := 60) dX8_every_57 ck_X8_79 hM (t_X8_all hM.rb hz ho) rfl rfl rfl rfl rfl (Nat.le_of_ble_eq_true rfl) rfl (fun g hM => ?_)
    refine ez_aload_n (q := 61) 0 dX8_every_60 rfl rfl rfl ?_
    refine ez_aload_n (q := 62) 0 dX8_every_61 rfl rfl rfl ?_
    refine cMv (q := 65) dX8_every_62 ck_X8_79 hM (t_X8_all hM.rb hz ho) rfl rfl rfl rfl rfl (Nat.le_of_ble_eq_true rfl) rfl (fun g hM => ?_)
    refine ez_iload_n (q := 66) 2 dX8_every_65 rfl rfl rfl ?_
    refine ez_iconst (v := -1) (q := 67) dX8_every_66 (by decide) rfl ?_
    refine ez_ixor (q := 68) dX8_every_67 rfl ?_
    refine ez_iandX (q := 69) dX8_every_68 rfl ?_
    refine cMv (q := 72) dX8_every_69 ck_X8_82 hM (t_X8_stays hM.rb hz ho (nd_lt (al_lt n'))) rfl rfl rfl rfl rfl (Nat.le_of_ble_eq_true rfl) rfl (fun g hM => ?_)
    refine ez_iconst (v := -1) (q := 73) dX8_every_72 (by decide) rfl ?_
    refine ez_ixor (q := 74) dX8_every_73 rfl ?_
    refine ez_iandX (q := 75) dX8_every_74 rfl ?_
    exact ez_iret dX8_every_75 rfl (hQ _ hM)
  · refine ez_lookup (q := 76) (off := 75) dX8_every_1 (by decide) (by decide) (by decide) ?_
    refine ez_aload_n (q := 77) 0 dX8_every_76 rfl rfl rfl ?_
    refine cMv (q := 80) dX8_every_77 ck_X8_79 hM (t_X8_all hM.rb hz ho) rfl rfl rfl rfl rfl (Nat.le_of_ble_eq_true rfl) rfl (fun g hM => ?_)
    refine ez_aload_n (q := 81) 0 dX8_every_80 rfl rfl rfl ?_
    refine ez_aload_n (q := 82) 0 dX8_every_81 rfl rfl rfl ?_
    refine cMv (q := 85) dX8_every_82 ck_X8_79 hM (t_X8_all hM.rb hz ho) rfl rfl rfl rfl rfl (Nat.le_of_ble_eq_true rfl) rfl (fun g hM => ?_)
    refine ez_aload_n (q := 86) 0 dX8_every_85 rfl rfl rfl ?_
    refine cMv (q := 89) dX8_every_86 ck_X8_79 hM (t_X8_all hM.rb hz ho) rfl rfl rfl rfl rfl (Nat.le_of_ble_eq_true rfl) rfl (fun g hM => ?_)
    refine ez_iload_n (q := 90) 2 dX8_every_89 rfl rfl rfl ?_
    refine ez_iconst (v := -1) (q := 91) dX8_every_90 (by decide) rfl ?_
    refine ez_ixor (q := 92) dX8_every_91 rfl ?_
    refine ez_iandX (q := 93) dX8_every_92 rfl ?_
    refine cMv (q := 96) dX8_every_93 ck_X8_88 hM (t_X8_comes hM.rb hz ho (nd_lt (al_lt n'))) rfl rfl rfl rfl rfl (Nat.le_of_ble_eq_true rfl) rfl (fun g hM => ?_)
    refine ez_iconst (v := -1) (q := 97) dX8_every_96 (by decide) rfl ?_
    refine ez_ixor (q := 98) dX8_every_97 rfl ?_
    refine ez_iandX (q := 99) dX8_every_98 rfl ?_
    exact ez_iret dX8_every_99 rfl (hQ _ hM)
  · refine ez_lookup (q := 100) (off := 99) dX8_every_1 (by decide) (by decide) (by decide) ?_
    refine ez_aload_n (q := 101) 0 dX8_every_100 rfl rfl rfl ?_
    refine cMv (q := 104) dX8_every_101 ck_X8_79 hM (t_X8_all hM.rb hz ho) rfl rfl rfl rfl rfl (Nat.le_of_ble_eq_true rfl) rfl (fun g hM => ?_)
    refine ez_iload_n (q := 105) 3 dX8_every_104 rfl rfl rfl ?_
    refine ez_iconst (v := -1) (q := 106) dX8_every_105 (by decide) rfl ?_
    refine ez_ixor (q := 107) dX8_every_106 rfl ?_
    refine ez_iandX (q := 108) dX8_every_107 rfl ?_
    refine ez_istore_4 (q := 110) dX8_every_108 (by decide) rfl rfl ?_
    refine ez_aload_n (q := 111) 0 dX8_every_110 rfl rfl rfl ?_
    refine cMv (q := 114) dX8_every_111 ck_X8_79 hM (t_X8_all hM.rb hz ho) rfl rfl rfl rfl rfl (Nat.le_of_ble_eq_true rfl) rfl (fun g hM => ?_)
    refine ez_aload_n (q := 115) 0 dX8_every_114 rfl rfl rfl ?_
    refine ez_iload (q := 117) dX8_every_115 rfl rfl ?_
    refine ez_iload (q := 119) dX8_every_117 rfl rfl ?_
    refine ez_iload_n (q := 120) 2 dX8_every_119 rfl rfl rfl ?_
    refine ez_iconst (v := -1) (q := 121) dX8_every_120 (by decide) rfl ?_
    refine ez_ixor (q := 122) dX8_every_121 rfl ?_
    refine ez_iandX (q := 123) dX8_every_122 rfl ?_
    refine cMv (q := 126) dX8_every_123 ck_X8_88 hM (t_X8_comes hM.rb hz ho (nd_lt (nd_lt (al_lt n')))) rfl rfl rfl rfl rfl (Nat.le_of_ble_eq_true rfl) rfl (fun g hM => ?_)
    refine ez_aload_n (q := 127) 0 dX8_every_126 rfl rfl rfl ?_
    refine ez_iload (q := 129) dX8_every_127 rfl rfl ?_
    refine cMv (q := 132) dX8_every_129 ck_X8_82 hM (t_X8_stays hM.rb hz ho (nd_lt (al_lt n'))) rfl rfl rfl rfl rfl (Nat.le_of_ble_eq_true rfl) rfl (fun g hM => ?_)
    refine ez_iorN (q := 133) dX8_every_132 rfl ?_
    refine ez_iconst (v := -1) (q := 134) dX8_every_133 (by decide) rfl ?_
    refine ez_ixor (q := 135) dX8_every_134 rfl ?_
    refine ez_iandX (q := 136) dX8_every_135 rfl ?_
    exact ez_iret dX8_every_136 rfl (by rw [Nat.add_assoc] at hM; exact hQ _ hM)

set_option maxHeartbeats 4000000 in
set_option maxRecDepth 100000 in
theorem t_X8_layWays {G : ez_G} {d n : Nat} {h : ez_H} {n' f : Nat} {L T ln : Nat → Nat} {sg : Nat → Nat → Nat} {w i r : Nat} {sc : Nat → Nat × Bool} {th sm ty wa rm fm ff : Int32} {z sv bf se ro le de rw sp : Nat → Int32} {ww : Bool} {ha : Int64} (hM : IM h h th z sv sm bf ty (nI r) se ro le de wa ww rw rm sp fm ff ha) (hz : ZZ z n' f L T ln sg) (ho : OK n' f L T ln sg) (hw : w < 4) (hi : i < ln w) (hwf : WF (ln w) (sg w) sc) (hs : (sc i).2 = false) (ht : TB T n' f L (ln w) (sg w) (i + 1) se ro le de) (hc : sg w i = 69 ∨ sg w i = 65) : Con G mX8_layWays (d + 7) [.ref 64, .int (nI w), .int (nI i)] h n 0 0 (PM h n none th z sv sm bf ty (nI (roW T n' f L (ln w) (sg w) (i))) (upd se i (nI (seW T n' f L (ln w) (sg w) (i)))) (upd ro i (nI (roW T n' f L (ln w) (sg w) (i)))) (upd le i (nI (leW (ln w) (sg w) (i)))) (upd de i (nI (deW (ln w) (sg w) (i)))) wa ww rw rm sp fm ff ha) := by
  have hn := ho.1
  have hn0 := hz.1
  have hl := ho.2.2.2.2.1 w hw
  obtain ⟨hk, h2, h2s, h2u⟩ := wf_ea hwf hi hs hc
  have t2 := (ht (i + 2) (by omega) h2).2 ((wf_w hwf h2).trans h2s)
  have t3 := fun e => (ht (i + 2 + leW (ln w) (sg w) (i + 2)) (by omega) (h2u e).1).2 ((wf_w hwf (h2u e).1).trans (h2u e).2)
  have d2 := deW_l (ln w) (sg w) (i + 2)
  have d3 := deW_l (ln w) (sg w) (i + 2 + leW (ln w) (sg w) (i + 2))
  refine Con.of [some (.ref 64), some (.int (nI w)), some (.int (nI i)), none, none, none, none, none] pl_X8 rfl (Nat.le_of_ble_eq_true rfl) rfl ?_
  have hQ : ∀ g, IM h g th z sv sm bf ty (nI (roW T n' f L (ln w) (sg w) (i))) (upd se i (nI (seW T n' f L (ln w) (sg w) (i)))) (upd ro i (nI (roW T n' f L (ln w) (sg w) (i)))) (upd le i (nI (leW (ln w) (sg w) (i)))) (upd de i (nI (deW (ln w) (sg w) (i)))) wa ww rw rm sp fm ff ha → (PM h n none th z sv sm bf ty (nI (roW T n' f L (ln w) (sg w) (i))) (upd se i (nI (seW T n' f L (ln w) (sg w) (i)))) (upd ro i (nI (roW T n' f L (ln w) (sg w) (i)))) (upd le i (nI (leW (ln w) (sg w) (i)))) (upd de i (nI (deW (ln w) (sg w) (i)))) wa ww rw rm sp fm ff ha) (.inl none) g n := fun g hM => ⟨rfl, hM, rfl⟩
  generalize PM h n none th z sv sm bf ty (nI (roW T n' f L (ln w) (sg w) (i))) (upd se i (nI (seW T n' f L (ln w) (sg w) (i)))) (upd ro i (nI (roW T n' f L (ln w) (sg w) (i)))) (upd le i (nI (leW (ln w) (sg w) (i)))) (upd de i (nI (deW (ln w) (sg w) (i)))) wa ww rw rm sp fm ff ha = Q at hQ ⊢
  refine ez_aload_n (q := 1) 0 dX8_layWays_0 rfl rfl rfl ?_
  refine ez_iload_n (q := 2) 1 dX8_layWays_1 rfl rfl rfl ?_
  refine ez_iload_n (q := 3) 2 dX8_layWays_2 rfl rfl rfl ?_
  refine ez_iconst (v := nI 1) (q := 4) dX8_layWays_3 (by decide) rfl ?_
  refine ez_iaddN (q := 5) dX8_layWays_4 rfl ?_
  refine cMv (q := 8) dX8_layWays_5 ck_X8_91 hM (t_X8_signAt hM.rb hz ho hw (show i + 1 < ln w by omega)) rfl rfl rfl rfl rfl (Nat.le_of_ble_eq_true rfl) rfl (fun g hM => ?_)
  refine ez_istore_3 (q := 9) dX8_layWays_8 rfl (by decide) rfl rfl ?_
  refine ez_iload_n (q := 10) 2 dX8_layWays_9 rfl rfl rfl ?_
  refine ez_iconst (v := nI 2) (q := 11) dX8_layWays_10 (by decide) rfl ?_
  refine ez_iaddN (q := 12) dX8_layWays_11 rfl ?_
  refine ez_istore_4 (q := 14) dX8_layWays_12 (by decide) rfl rfl ?_
  refine ez_iload (q := 16) dX8_layWays_14 rfl rfl ?_
  refine ez_aload_n (q := 17) 0 dX8_layWays_16 rfl rfl rfl ?_
  refine ez_getf (q := 20) dX8_layWays_17 fl_X8_25 hM.1 rfl rfl ?_
  refine ez_iload (q := 22) dX8_layWays_20 rfl rfl ?_
  refine ez_iald (q := 23) dX8_layWays_22 hM.2.2.2.2.2.2.1 rfl (by omega) (by decide) rfl ?_
  refine ez_top (t2.2.2.1) ?_
  refine ez_iaddN (q := 24) dX8_layWays_23 rfl ?_
  refine ez_istore_5 (q := 26) dX8_layWays_24 (by decide) rfl rfl ?_
  refine ez_iload_n (q := 27) 3 dX8_layWays_26 rfl rfl rfl ?_
  refine ez_bipush (v := nI 85) (q := 29) dX8_layWays_27 (by decide) rfl ?_
  refine ez_icmpneN (q := 32) (tgt := 36) dX8_layWays_29 (by decide) (by have := wf_c hwf (show i + 1 < ln w by omega); omega) (by decide) rfl (fun hc29 => ?_) (fun hc29 => ?_)
  · refine ez_iconst (v := nI 0) (q := 37) dX8_layWays_36 (by decide) rfl ?_
    refine ez_istore_6 (q := 39) dX8_layWays_37 (by decide) rfl rfl ?_
    refine ez_iload (q := 41) dX8_layWays_39 rfl rfl ?_
    refine ez_ifeqN (q := 44) (tgt := 54) dX8_layWays_41 (by decide) (by decide) rfl (fun hc41 => ?_) (fun hc41 => ?_)
    · first
      | exact absurd hc41 (by decide)
      | skip
        refine ez_iconst (v := nI 0) (q := 55) dX8_layWays_54 (by decide) rfl ?_
        refine ez_istore_7 (q := 57) dX8_layWays_55 (by decide) rfl rfl ?_
        refine ez_aload_n (q := 58) 0 dX8_layWays_57 rfl rfl rfl ?_
        refine ez_iconst (v := nI 0) (q := 59) dX8_layWays_58 (by decide) rfl ?_
        refine pM_rd (q := 62) dX8_layWays_59 fl_X8_76 hM rfl (fun g hM => ?_)
        refine ez_aload_n (q := 63) 0 dX8_layWays_62 rfl rfl rfl ?_
        refine ez_getf (q := 66) dX8_layWays_63 fl_X8_19 hM.1 rfl rfl ?_
        refine ez_iload_n (q := 67) 2 dX8_layWays_66 rfl rfl rfl ?_
        refine ez_aload_n (q := 68) 0 dX8_layWays_67 rfl rfl rfl ?_
        refine ez_iload_n (q := 69) 1 dX8_layWays_68 rfl rfl rfl ?_
        refine ez_iload_n (q := 70) 2 dX8_layWays_69 rfl rfl rfl ?_
        refine cMv (q := 73) dX8_layWays_70 ck_X8_91 hM (t_X8_signAt hM.rb hz ho hw hi) rfl rfl rfl rfl rfl (Nat.le_of_ble_eq_true rfl) rfl (fun g hM => ?_)
        refine ez_bipush (v := nI 69) (q := 75) dX8_layWays_73 (by decide) rfl ?_
        refine ez_icmpneN (q := 78) (tgt := 95) dX8_layWays_75 (by decide) (by have := wf_c hwf hi; omega) (by decide) rfl (fun hc75 => ?_) (fun hc75 => ?_)
        · refine ez_aload_n (q := 96) 0 dX8_layWays_95 rfl rfl rfl ?_
          refine ez_iload_n (q := 97) 3 dX8_layWays_96 rfl rfl rfl ?_
          refine ez_aload_n (q := 98) 0 dX8_layWays_97 rfl rfl rfl ?_
          refine ez_getf (q := 101) dX8_layWays_98 fl_X8_19 hM.1 rfl rfl ?_
          refine ez_iload (q := 103) dX8_layWays_101 rfl rfl ?_
          refine ez_iald (q := 104) dX8_layWays_103 hM.2.2.2.2.1 rfl (by omega) (by decide) rfl ?_
          refine ez_top (t2.1) ?_
          refine ez_iload (q := 106) dX8_layWays_104 rfl rfl ?_
          refine cMv (q := 109) dX8_layWays_106 ck_X8_98 hM (t_X8_every hM.rb hz ho hk) rfl rfl rfl rfl rfl (Nat.le_of_ble_eq_true rfl) rfl (fun g hM => ?_)
          have er := roW_A (T := T) (n := n') (f := f) (L := L) (m := ln w) (s := sg w) (j := i) (by omega)
          first | rw [if_pos hc29] at er | rw [if_neg hc29] at er
          rw [Nat.zero_add, ← er] at hM
          refine ez_top (y := nI (seW T n' f L (ln w) (sg w) (i))) (congrArg nI (by first | (rw [seW_E hi hc75]; first | rw [if_pos hc29] | rw [if_neg hc29]) | (rw [seW_A hi (by omega)]; first | rw [if_pos hc29] | rw [if_neg hc29]))) ?_
          refine sM_se (q := 110) dX8_layWays_109 hM rfl (by omega) rfl (fun g hM => ?_)
          refine ez_aload_n (q := 111) 0 dX8_layWays_110 rfl rfl rfl ?_
          refine ez_getf (q := 114) dX8_layWays_111 fl_X8_22 hM.1 rfl rfl ?_
          refine ez_iload_n (q := 115) 2 dX8_layWays_114 rfl rfl rfl ?_
          refine ez_aload_n (q := 116) 0 dX8_layWays_115 rfl rfl rfl ?_
          refine ez_getf (q := 119) dX8_layWays_116 fl_X8_76 hM.1 rfl rfl ?_
          refine sM_ro (q := 120) dX8_layWays_119 hM rfl (by omega) rfl (fun g hM => ?_)
          refine ez_aload_n (q := 121) 0 dX8_layWays_120 rfl rfl rfl ?_
          refine ez_getf (q := 124) dX8_layWays_121 fl_X8_25 hM.1 rfl rfl ?_
          refine ez_iload_n (q := 125) 2 dX8_layWays_124 rfl rfl rfl ?_
          refine ez_iconst (v := nI 2) (q := 126) dX8_layWays_125 (by decide) rfl ?_
          refine ez_aload_n (q := 127) 0 dX8_layWays_126 rfl rfl rfl ?_
          refine ez_getf (q := 130) dX8_layWays_127 fl_X8_25 hM.1 rfl rfl ?_
          refine ez_iload (q := 132) dX8_layWays_130 rfl rfl ?_
          refine ez_iald (q := 133) dX8_layWays_132 hM.2.2.2.2.2.2.1 rfl (by omega) (by decide) rfl ?_
          refine ez_top (t2.2.2.1) ?_
          refine ez_iaddN (q := 134) dX8_layWays_133 rfl ?_
          refine ez_iload (q := 136) dX8_layWays_134 rfl rfl ?_
          refine ez_ifeqN (q := 139) (tgt := 149) dX8_layWays_136 (by decide) (by decide) rfl (fun hc136 => ?_) (fun hc136 => ?_)
          · first
            | exact absurd hc136 (by decide)
            | skip
              refine ez_iconst (v := nI 0) (q := 150) dX8_layWays_149 (by decide) rfl ?_
              refine ez_iaddN (q := 151) dX8_layWays_150 rfl ?_
              refine ez_top (y := nI (leW (ln w) (sg w) (i))) (congrArg nI (by rw [leW_ea hi hc]; first | rw [if_pos hc29] | rw [if_neg hc29])) ?_
              refine sM_le (q := 152) dX8_layWays_151 hM rfl (by omega) rfl (fun g hM => ?_)
              refine ez_aload_n (q := 153) 0 dX8_layWays_152 rfl rfl rfl ?_
              refine ez_getf (q := 156) dX8_layWays_153 fl_X8_28 hM.1 rfl rfl ?_
              refine ez_iload_n (q := 157) 2 dX8_layWays_156 rfl rfl rfl ?_
              refine ez_iconst (v := nI 1) (q := 158) dX8_layWays_157 (by decide) rfl ?_
              refine ez_iload (q := 160) dX8_layWays_158 rfl rfl ?_
              refine ez_ifeqN (q := 163) (tgt := 190) dX8_layWays_160 (by decide) (by decide) rfl (fun hc160 => ?_) (fun hc160 => ?_)
              · first
                | exact absurd hc160 (by decide)
                | skip
                  refine ez_aload_n (q := 191) 0 dX8_layWays_190 rfl rfl rfl ?_
                  refine ez_getf (q := 194) dX8_layWays_191 fl_X8_28 hM.1 rfl rfl ?_
                  refine ez_iload (q := 196) dX8_layWays_194 rfl rfl ?_
                  refine ez_iald (q := 197) dX8_layWays_196 hM.2.2.2.2.2.2.2.1 rfl (by omega) (by decide) rfl ?_
                  refine ez_top (t2.2.2.2) ?_
                  refine ez_iaddN (q := 198) dX8_layWays_197 rfl ?_
                  refine ez_top (y := nI (deW (ln w) (sg w) (i))) (congrArg nI (by rw [deW_ea hi hc]; split <;> first | rfl | omega)) ?_
                  refine sM_de (q := 199) dX8_layWays_198 hM rfl (by omega) rfl (fun g hM => ?_)
                  exact ez_vret dX8_layWays_199 rfl (hQ _ hM)
              · first
                | exact absurd rfl hc160
                | skip
                  refine ez_aload_n (q := 164) 0 dX8_layWays_163 rfl rfl rfl ?_
                  refine ez_getf (q := 167) dX8_layWays_164 fl_X8_28 hM.1 rfl rfl ?_
                  refine ez_iload (q := 169) dX8_layWays_167 rfl rfl ?_
                  refine ez_iald (q := 170) dX8_layWays_169 hM.2.2.2.2.2.2.2.1 rfl (by have := (h2u hc29).1; omega) (by decide) rfl ?_
                  refine ez_top ((t3 hc29).2.2.2) ?_
                  refine ez_aload_n (q := 171) 0 dX8_layWays_170 rfl rfl rfl ?_
                  refine ez_getf (q := 174) dX8_layWays_171 fl_X8_28 hM.1 rfl rfl ?_
                  refine ez_iload (q := 176) dX8_layWays_174 rfl rfl ?_
                  refine ez_iald (q := 177) dX8_layWays_176 hM.2.2.2.2.2.2.2.1 rfl (by omega) (by decide) rfl ?_
                  refine ez_top (t2.2.2.2) ?_
                  refine ez_icmpleN (q := 180) (tgt := 190) dX8_layWays_177 (by decide) (by omega) (by omega) rfl (fun hc177 => ?_) (fun hc177 => ?_)
                  · refine ez_aload_n (q := 191) 0 dX8_layWays_190 rfl rfl rfl ?_
                    refine ez_getf (q := 194) dX8_layWays_191 fl_X8_28 hM.1 rfl rfl ?_
                    refine ez_iload (q := 196) dX8_layWays_194 rfl rfl ?_
                    refine ez_iald (q := 197) dX8_layWays_196 hM.2.2.2.2.2.2.2.1 rfl (by omega) (by decide) rfl ?_
                    refine ez_top (t2.2.2.2) ?_
                    refine ez_iaddN (q := 198) dX8_layWays_197 rfl ?_
                    refine ez_top (y := nI (deW (ln w) (sg w) (i))) (congrArg nI (by rw [deW_ea hi hc]; split <;> first | rfl | omega)) ?_
                    refine sM_de (q := 199) dX8_layWays_198 hM rfl (by omega) rfl (fun g hM => ?_)
                    exact ez_vret dX8_layWays_199 rfl (hQ _ hM)
                  · refine ez_aload_n (q := 181) 0 dX8_layWays_180 rfl rfl rfl ?_
                    refine ez_getf (q := 184) dX8_layWays_181 fl_X8_28 hM.1 rfl rfl ?_
                    refine ez_iload (q := 186) dX8_layWays_184 rfl rfl ?_
                    refine ez_iald (q := 187) dX8_layWays_186 hM.2.2.2.2.2.2.2.1 rfl (by have := (h2u hc29).1; omega) (by decide) rfl ?_
                    refine ez_top ((t3 hc29).2.2.2) ?_
                    refine ez_goto (q := 197) dX8_layWays_187 (by decide) ?_
                    refine ez_iaddN (q := 198) dX8_layWays_197 rfl ?_
                    refine ez_top (y := nI (deW (ln w) (sg w) (i))) (congrArg nI (by rw [deW_ea hi hc]; split <;> first | rfl | omega)) ?_
                    refine sM_de (q := 199) dX8_layWays_198 hM rfl (by omega) rfl (fun g hM => ?_)
                    exact ez_vret dX8_layWays_199 rfl (hQ _ hM)
          · first
            | exact absurd rfl hc136
            | skip
              refine ez_aload_n (q := 140) 0 dX8_layWays_139 rfl rfl rfl ?_
              refine ez_getf (q := 143) dX8_layWays_140 fl_X8_25 hM.1 rfl rfl ?_
              refine ez_iload (q := 145) dX8_layWays_143 rfl rfl ?_
              refine ez_iald (q := 146) dX8_layWays_145 hM.2.2.2.2.2.2.1 rfl (by have := (h2u hc29).1; omega) (by decide) rfl ?_
              refine ez_top ((t3 hc29).2.2.1) ?_
              refine ez_goto (q := 150) dX8_layWays_146 (by decide) ?_
              refine ez_iaddN (q := 151) dX8_layWays_150 rfl ?_
              refine ez_top (y := nI (leW (ln w) (sg w) (i))) (congrArg nI (by rw [leW_ea hi hc]; first | rw [if_pos hc29] | rw [if_neg hc29])) ?_
              refine sM_le (q := 152) dX8_layWays_151 hM rfl (by omega) rfl (fun g hM => ?_)
              refine ez_aload_n (q := 153) 0 dX8_layWays_152 rfl rfl rfl ?_
              refine ez_getf (q := 156) dX8_layWays_153 fl_X8_28 hM.1 rfl rfl ?_
              refine ez_iload_n (q := 157) 2 dX8_layWays_156 rfl rfl rfl ?_
              refine ez_iconst (v := nI 1) (q := 158) dX8_layWays_157 (by decide) rfl ?_
              refine ez_iload (q := 160) dX8_layWays_158 rfl rfl ?_
              refine ez_ifeqN (q := 163) (tgt := 190) dX8_layWays_160 (by decide) (by decide) rfl (fun hc160 => ?_) (fun hc160 => ?_)
              · first
                | exact absurd hc160 (by decide)
                | skip
                  refine ez_aload_n (q := 191) 0 dX8_layWays_190 rfl rfl rfl ?_
                  refine ez_getf (q := 194) dX8_layWays_191 fl_X8_28 hM.1 rfl rfl ?_
                  refine ez_iload (q := 196) dX8_layWays_194 rfl rfl ?_
                  refine ez_iald (q := 197) dX8_layWays_196 hM.2.2.2.2.2.2.2.1 rfl (by omega) (by decide) rfl ?_
                  refine ez_top (t2.2.2.2) ?_
                  refine ez_iaddN (q := 198) dX8_layWays_197 rfl ?_
                  refine ez_top (y := nI (deW (ln w) (sg w) (i))) (congrArg nI (by rw [deW_ea hi hc]; split <;> first | rfl | omega)) ?_
                  refine sM_de (q := 199) dX8_layWays_198 hM rfl (by omega) rfl (fun g hM => ?_)
                  exact ez_vret dX8_layWays_199 rfl (hQ _ hM)
              · first
                | exact absurd rfl hc160
                | skip
                  refine ez_aload_n (q := 164) 0 dX8_layWays_163 rfl rfl rfl ?_
                  refine ez_getf (q := 167) dX8_layWays_164 fl_X8_28 hM.1 rfl rfl ?_
                  refine ez_iload (q := 169) dX8_layWays_167 rfl rfl ?_
                  refine ez_iald (q := 170) dX8_layWays_169 hM.2.2.2.2.2.2.2.1 rfl (by have := (h2u hc29).1; omega) (by decide) rfl ?_
                  refine ez_top ((t3 hc29).2.2.2) ?_
                  refine ez_aload_n (q := 171) 0 dX8_layWays_170 rfl rfl rfl ?_
                  refine ez_getf (q := 174) dX8_layWays_171 fl_X8_28 hM.1 rfl rfl ?_
                  refine ez_iload (q := 176) dX8_layWays_174 rfl rfl ?_
                  refine ez_iald (q := 177) dX8_layWays_176 hM.2.2.2.2.2.2.2.1 rfl (by omega) (by decide) rfl ?_
                  refine ez_top (t2.2.2.2) ?_
                  refine ez_icmpleN (q := 180) (tgt := 190) dX8_layWays_177 (by decide) (by omega) (by omega) rfl (fun hc177 => ?_) (fun hc177 => ?_)
                  · refine ez_aload_n (q := 191) 0 dX8_layWays_190 rfl rfl rfl ?_
                    refine ez_getf (q := 194) dX8_layWays_191 fl_X8_28 hM.1 rfl rfl ?_
                    refine ez_iload (q := 196) dX8_layWays_194 rfl rfl ?_
                    refine ez_iald (q := 197) dX8_layWays_196 hM.2.2.2.2.2.2.2.1 rfl (by omega) (by decide) rfl ?_
                    refine ez_top (t2.2.2.2) ?_
                    refine ez_iaddN (q := 198) dX8_layWays_197 rfl ?_
                    refine ez_top (y := nI (deW (ln w) (sg w) (i))) (congrArg nI (by rw [deW_ea hi hc]; split <;> first | rfl | omega)) ?_
                    refine sM_de (q := 199) dX8_layWays_198 hM rfl (by omega) rfl (fun g hM => ?_)
                    exact ez_vret dX8_layWays_199 rfl (hQ _ hM)
                  · refine ez_aload_n (q := 181) 0 dX8_layWays_180 rfl rfl rfl ?_
                    refine ez_getf (q := 184) dX8_layWays_181 fl_X8_28 hM.1 rfl rfl ?_
                    refine ez_iload (q := 186) dX8_layWays_184 rfl rfl ?_
                    refine ez_iald (q := 187) dX8_layWays_186 hM.2.2.2.2.2.2.2.1 rfl (by have := (h2u hc29).1; omega) (by decide) rfl ?_
                    refine ez_top ((t3 hc29).2.2.2) ?_
                    refine ez_goto (q := 197) dX8_layWays_187 (by decide) ?_
                    refine ez_iaddN (q := 198) dX8_layWays_197 rfl ?_
                    refine ez_top (y := nI (deW (ln w) (sg w) (i))) (congrArg nI (by rw [deW_ea hi hc]; split <;> first | rfl | omega)) ?_
                    refine sM_de (q := 199) dX8_layWays_198 hM rfl (by omega) rfl (fun g hM => ?_)
                    exact ez_vret dX8_layWays_199 rfl (hQ _ hM)
        · refine ez_aload_n (q := 79) 0 dX8_layWays_78 rfl rfl rfl ?_
          refine ez_iload_n (q := 80) 3 dX8_layWays_79 rfl rfl rfl ?_
          refine ez_aload_n (q := 81) 0 dX8_layWays_80 rfl rfl rfl ?_
          refine ez_getf (q := 84) dX8_layWays_81 fl_X8_19 hM.1 rfl rfl ?_
          refine ez_iload (q := 86) dX8_layWays_84 rfl rfl ?_
          refine ez_iald (q := 87) dX8_layWays_86 hM.2.2.2.2.1 rfl (by omega) (by decide) rfl ?_
          refine ez_top (t2.1) ?_
          refine ez_iload (q := 89) dX8_layWays_87 rfl rfl ?_
          refine cMv (q := 92) dX8_layWays_89 ck_X8_94 hM (t_X8_some hM.rb hz ho hk (seW_l _ _ _ _ _ _ _) (by first | exact seW_l _ _ _ _ _ _ _ | exact Nat.two_pow_pos n')) rfl rfl rfl rfl rfl (Nat.le_of_ble_eq_true rfl) rfl (fun g hM => ?_)
          have er := roW_E (T := T) (n := n') (f := f) (L := L) (m := ln w) hc75
          first | rw [if_pos hc29] at er | rw [if_neg hc29] at er
          rw [Nat.zero_add, ← er] at hM
          refine ez_goto (q := 109) dX8_layWays_92 (by decide) ?_
          refine ez_top (y := nI (seW T n' f L (ln w) (sg w) (i))) (congrArg nI (by first | (rw [seW_E hi hc75]; first | rw [if_pos hc29] | rw [if_neg hc29]) | (rw [seW_A hi (by omega)]; first | rw [if_pos hc29] | rw [if_neg hc29]))) ?_
          refine sM_se (q := 110) dX8_layWays_109 hM rfl (by omega) rfl (fun g hM => ?_)
          refine ez_aload_n (q := 111) 0 dX8_layWays_110 rfl rfl rfl ?_
          refine ez_getf (q := 114) dX8_layWays_111 fl_X8_22 hM.1 rfl rfl ?_
          refine ez_iload_n (q := 115) 2 dX8_layWays_114 rfl rfl rfl ?_
          refine ez_aload_n (q := 116) 0 dX8_layWays_115 rfl rfl rfl ?_
          refine ez_getf (q := 119) dX8_layWays_116 fl_X8_76 hM.1 rfl rfl ?_
          refine sM_ro (q := 120) dX8_layWays_119 hM rfl (by omega) rfl (fun g hM => ?_)
          refine ez_aload_n (q := 121) 0 dX8_layWays_120 rfl rfl rfl ?_
          refine ez_getf (q := 124) dX8_layWays_121 fl_X8_25 hM.1 rfl rfl ?_
          refine ez_iload_n (q := 125) 2 dX8_layWays_124 rfl rfl rfl ?_
          refine ez_iconst (v := nI 2) (q := 126) dX8_layWays_125 (by decide) rfl ?_
          refine ez_aload_n (q := 127) 0 dX8_layWays_126 rfl rfl rfl ?_
          refine ez_getf (q := 130) dX8_layWays_127 fl_X8_25 hM.1 rfl rfl ?_
          refine ez_iload (q := 132) dX8_layWays_130 rfl rfl ?_
          refine ez_iald (q := 133) dX8_layWays_132 hM.2.2.2.2.2.2.1 rfl (by omega) (by decide) rfl ?_
          refine ez_top (t2.2.2.1) ?_
          refine ez_iaddN (q := 134) dX8_layWays_133 rfl ?_
          refine ez_iload (q := 136) dX8_layWays_134 rfl rfl ?_
          refine ez_ifeqN (q := 139) (tgt := 149) dX8_layWays_136 (by decide) (by decide) rfl (fun hc136 => ?_) (fun hc136 => ?_)
          · first
            | exact absurd hc136 (by decide)
            | skip
              refine ez_iconst (v := nI 0) (q := 150) dX8_layWays_149 (by decide) rfl ?_
              refine ez_iaddN (q := 151) dX8_layWays_150 rfl ?_
              refine ez_top (y := nI (leW (ln w) (sg w) (i))) (congrArg nI (by rw [leW_ea hi hc]; first | rw [if_pos hc29] | rw [if_neg hc29])) ?_
              refine sM_le (q := 152) dX8_layWays_151 hM rfl (by omega) rfl (fun g hM => ?_)
              refine ez_aload_n (q := 153) 0 dX8_layWays_152 rfl rfl rfl ?_
              refine ez_getf (q := 156) dX8_layWays_153 fl_X8_28 hM.1 rfl rfl ?_
              refine ez_iload_n (q := 157) 2 dX8_layWays_156 rfl rfl rfl ?_
              refine ez_iconst (v := nI 1) (q := 158) dX8_layWays_157 (by decide) rfl ?_
              refine ez_iload (q := 160) dX8_layWays_158 rfl rfl ?_
              refine ez_ifeqN (q := 163) (tgt := 190) dX8_layWays_160 (by decide) (by decide) rfl (fun hc160 => ?_) (fun hc160 => ?_)
              · first
                | exact absurd hc160 (by decide)
                | skip
                  refine ez_aload_n (q := 191) 0 dX8_layWays_190 rfl rfl rfl ?_
                  refine ez_getf (q := 194) dX8_layWays_191 fl_X8_28 hM.1 rfl rfl ?_
                  refine ez_iload (q := 196) dX8_layWays_194 rfl rfl ?_
                  refine ez_iald (q := 197) dX8_layWays_196 hM.2.2.2.2.2.2.2.1 rfl (by omega) (by decide) rfl ?_
                  refine ez_top (t2.2.2.2) ?_
                  refine ez_iaddN (q := 198) dX8_layWays_197 rfl ?_
                  refine ez_top (y := nI (deW (ln w) (sg w) (i))) (congrArg nI (by rw [deW_ea hi hc]; split <;> first | rfl | omega)) ?_
                  refine sM_de (q := 199) dX8_layWays_198 hM rfl (by omega) rfl (fun g hM => ?_)
                  exact ez_vret dX8_layWays_199 rfl (hQ _ hM)
              · first
                | exact absurd rfl hc160
                | skip
                  refine ez_aload_n (q := 164) 0 dX8_layWays_163 rfl rfl rfl ?_
                  refine ez_getf (q := 167) dX8_layWays_164 fl_X8_28 hM.1 rfl rfl ?_
                  refine ez_iload (q := 169) dX8_layWays_167 rfl rfl ?_
                  refine ez_iald (q := 170) dX8_layWays_169 hM.2.2.2.2.2.2.2.1 rfl (by have := (h2u hc29).1; omega) (by decide) rfl ?_
                  refine ez_top ((t3 hc29).2.2.2) ?_
                  refine ez_aload_n (q := 171) 0 dX8_layWays_170 rfl rfl rfl ?_
                  refine ez_getf (q := 174) dX8_layWays_171 fl_X8_28 hM.1 rfl rfl ?_
                  refine ez_iload (q := 176) dX8_layWays_174 rfl rfl ?_
                  refine ez_iald (q := 177) dX8_layWays_176 hM.2.2.2.2.2.2.2.1 rfl (by omega) (by decide) rfl ?_
                  refine ez_top (t2.2.2.2) ?_
                  refine ez_icmpleN (q := 180) (tgt := 190) dX8_layWays_177 (by decide) (by omega) (by omega) rfl (fun hc177 => ?_) (fun hc177 => ?_)
                  · refine ez_aload_n (q := 191) 0 dX8_layWays_190 rfl rfl rfl ?_
                    refine ez_getf (q := 194) dX8_layWays_191 fl_X8_28 hM.1 rfl rfl ?_
                    refine ez_iload (q := 196) dX8_layWays_194 rfl rfl ?_
                    refine ez_iald (q := 197) dX8_layWays_196 hM.2.2.2.2.2.2.2.1 rfl (by omega) (by decide) rfl ?_
                    refine ez_top (t2.2.2.2) ?_
                    refine ez_iaddN (q := 198) dX8_layWays_197 rfl ?_
                    refine ez_top (y := nI (deW (ln w) (sg w) (i))) (congrArg nI (by rw [deW_ea hi hc]; split <;> first | rfl | omega)) ?_
                    refine sM_de (q := 199) dX8_layWays_198 hM rfl (by omega) rfl (fun g hM => ?_)
                    exact ez_vret dX8_layWays_199 rfl (hQ _ hM)
                  · refine ez_aload_n (q := 181) 0 dX8_layWays_180 rfl rfl rfl ?_
                    refine ez_getf (q := 184) dX8_layWays_181 fl_X8_28 hM.1 rfl rfl ?_
                    refine ez_iload (q := 186) dX8_layWays_184 rfl rfl ?_
                    refine ez_iald (q := 187) dX8_layWays_186 hM.2.2.2.2.2.2.2.1 rfl (by have := (h2u hc29).1; omega) (by decide) rfl ?_
                    refine ez_top ((t3 hc29).2.2.2) ?_
                    refine ez_goto (q := 197) dX8_layWays_187 (by decide) ?_
                    refine ez_iaddN (q := 198) dX8_layWays_197 rfl ?_
                    refine ez_top (y := nI (deW (ln w) (sg w) (i))) (congrArg nI (by rw [deW_ea hi hc]; split <;> first | rfl | omega)) ?_
                    refine sM_de (q := 199) dX8_layWays_198 hM rfl (by omega) rfl (fun g hM => ?_)
                    exact ez_vret dX8_layWays_199 rfl (hQ _ hM)
          · first
            | exact absurd rfl hc136
            | skip
              refine ez_aload_n (q := 140) 0 dX8_layWays_139 rfl rfl rfl ?_
              refine ez_getf (q := 143) dX8_layWays_140 fl_X8_25 hM.1 rfl rfl ?_
              refine ez_iload (q := 145) dX8_layWays_143 rfl rfl ?_
              refine ez_iald (q := 146) dX8_layWays_145 hM.2.2.2.2.2.2.1 rfl (by have := (h2u hc29).1; omega) (by decide) rfl ?_
              refine ez_top ((t3 hc29).2.2.1) ?_
              refine ez_goto (q := 150) dX8_layWays_146 (by decide) ?_
              refine ez_iaddN (q := 151) dX8_layWays_150 rfl ?_
              refine ez_top (y := nI (leW (ln w) (sg w) (i))) (congrArg nI (by rw [leW_ea hi hc]; first | rw [if_pos hc29] | rw [if_neg hc29])) ?_
              refine sM_le (q := 152) dX8_layWays_151 hM rfl (by omega) rfl (fun g hM => ?_)
              refine ez_aload_n (q := 153) 0 dX8_layWays_152 rfl rfl rfl ?_
              refine ez_getf (q := 156) dX8_layWays_153 fl_X8_28 hM.1 rfl rfl ?_
              refine ez_iload_n (q := 157) 2 dX8_layWays_156 rfl rfl rfl ?_
              refine ez_iconst (v := nI 1) (q := 158) dX8_layWays_157 (by decide) rfl ?_
              refine ez_iload (q := 160) dX8_layWays_158 rfl rfl ?_
              refine ez_ifeqN (q := 163) (tgt := 190) dX8_layWays_160 (by decide) (by decide) rfl (fun hc160 => ?_) (fun hc160 => ?_)
              · first
                | exact absurd hc160 (by decide)
                | skip
                  refine ez_aload_n (q := 191) 0 dX8_layWays_190 rfl rfl rfl ?_
                  refine ez_getf (q := 194) dX8_layWays_191 fl_X8_28 hM.1 rfl rfl ?_
                  refine ez_iload (q := 196) dX8_layWays_194 rfl rfl ?_
                  refine ez_iald (q := 197) dX8_layWays_196 hM.2.2.2.2.2.2.2.1 rfl (by omega) (by decide) rfl ?_
                  refine ez_top (t2.2.2.2) ?_
                  refine ez_iaddN (q := 198) dX8_layWays_197 rfl ?_
                  refine ez_top (y := nI (deW (ln w) (sg w) (i))) (congrArg nI (by rw [deW_ea hi hc]; split <;> first | rfl | omega)) ?_
                  refine sM_de (q := 199) dX8_layWays_198 hM rfl (by omega) rfl (fun g hM => ?_)
                  exact ez_vret dX8_layWays_199 rfl (hQ _ hM)
              · first
                | exact absurd rfl hc160
                | skip
                  refine ez_aload_n (q := 164) 0 dX8_layWays_163 rfl rfl rfl ?_
                  refine ez_getf (q := 167) dX8_layWays_164 fl_X8_28 hM.1 rfl rfl ?_
                  refine ez_iload (q := 169) dX8_layWays_167 rfl rfl ?_
                  refine ez_iald (q := 170) dX8_layWays_169 hM.2.2.2.2.2.2.2.1 rfl (by have := (h2u hc29).1; omega) (by decide) rfl ?_
                  refine ez_top ((t3 hc29).2.2.2) ?_
                  refine ez_aload_n (q := 171) 0 dX8_layWays_170 rfl rfl rfl ?_
                  refine ez_getf (q := 174) dX8_layWays_171 fl_X8_28 hM.1 rfl rfl ?_
                  refine ez_iload (q := 176) dX8_layWays_174 rfl rfl ?_
                  refine ez_iald (q := 177) dX8_layWays_176 hM.2.2.2.2.2.2.2.1 rfl (by omega) (by decide) rfl ?_
                  refine ez_top (t2.2.2.2) ?_
                  refine ez_icmpleN (q := 180) (tgt := 190) dX8_layWays_177 (by decide) (by omega) (by omega) rfl (fun hc177 => ?_) (fun hc177 => ?_)
                  · refine ez_aload_n (q := 191) 0 dX8_layWays_190 rfl rfl rfl ?_
                    refine ez_getf (q := 194) dX8_layWays_191 fl_X8_28 hM.1 rfl rfl ?_
                    refine ez_iload (q := 196) dX8_layWays_194 rfl rfl ?_
                    refine ez_iald (q := 197) dX8_layWays_196 hM.2.2.2.2.2.2.2.1 rfl (by omega) (by decide) rfl ?_
                    refine ez_top (t2.2.2.2) ?_
                    refine ez_iaddN (q := 198) dX8_layWays_197 rfl ?_
                    refine ez_top (y := nI (deW (ln w) (sg w) (i))) (congrArg nI (by rw [deW_ea hi hc]; split <;> first | rfl | omega)) ?_
                    refine sM_de (q := 199) dX8_layWays_198 hM rfl (by omega) rfl (fun g hM => ?_)
                    exact ez_vret dX8_layWays_199 rfl (hQ _ hM)
                  · refine ez_aload_n (q := 181) 0 dX8_layWays_180 rfl rfl rfl ?_
                    refine ez_getf (q := 184) dX8_layWays_181 fl_X8_28 hM.1 rfl rfl ?_
                    refine ez_iload (q := 186) dX8_layWays_184 rfl rfl ?_
                    refine ez_iald (q := 187) dX8_layWays_186 hM.2.2.2.2.2.2.2.1 rfl (by have := (h2u hc29).1; omega) (by decide) rfl ?_
                    refine ez_top ((t3 hc29).2.2.2) ?_
                    refine ez_goto (q := 197) dX8_layWays_187 (by decide) ?_
                    refine ez_iaddN (q := 198) dX8_layWays_197 rfl ?_
                    refine ez_top (y := nI (deW (ln w) (sg w) (i))) (congrArg nI (by rw [deW_ea hi hc]; split <;> first | rfl | omega)) ?_
                    refine sM_de (q := 199) dX8_layWays_198 hM rfl (by omega) rfl (fun g hM => ?_)
                    exact ez_vret dX8_layWays_199 rfl (hQ _ hM)
    · first
      | exact absurd rfl hc41
      | skip
        refine ez_aload_n (q := 45) 0 dX8_layWays_44 rfl rfl rfl ?_
        refine ez_getf (q := 48) dX8_layWays_45 fl_X8_19 hM.1 rfl rfl ?_
        refine ez_iload (q := 50) dX8_layWays_48 rfl rfl ?_
        refine ez_iald (q := 51) dX8_layWays_50 hM.2.2.2.2.1 rfl (by have := (h2u hc29).1; omega) (by decide) rfl ?_
        refine ez_top ((t3 hc29).1) ?_
        refine ez_goto (q := 55) dX8_layWays_51 (by decide) ?_
        refine ez_istore_7 (q := 57) dX8_layWays_55 (by decide) rfl rfl ?_
        refine ez_aload_n (q := 58) 0 dX8_layWays_57 rfl rfl rfl ?_
        refine ez_iconst (v := nI 0) (q := 59) dX8_layWays_58 (by decide) rfl ?_
        refine pM_rd (q := 62) dX8_layWays_59 fl_X8_76 hM rfl (fun g hM => ?_)
        refine ez_aload_n (q := 63) 0 dX8_layWays_62 rfl rfl rfl ?_
        refine ez_getf (q := 66) dX8_layWays_63 fl_X8_19 hM.1 rfl rfl ?_
        refine ez_iload_n (q := 67) 2 dX8_layWays_66 rfl rfl rfl ?_
        refine ez_aload_n (q := 68) 0 dX8_layWays_67 rfl rfl rfl ?_
        refine ez_iload_n (q := 69) 1 dX8_layWays_68 rfl rfl rfl ?_
        refine ez_iload_n (q := 70) 2 dX8_layWays_69 rfl rfl rfl ?_
        refine cMv (q := 73) dX8_layWays_70 ck_X8_91 hM (t_X8_signAt hM.rb hz ho hw hi) rfl rfl rfl rfl rfl (Nat.le_of_ble_eq_true rfl) rfl (fun g hM => ?_)
        refine ez_bipush (v := nI 69) (q := 75) dX8_layWays_73 (by decide) rfl ?_
        refine ez_icmpneN (q := 78) (tgt := 95) dX8_layWays_75 (by decide) (by have := wf_c hwf hi; omega) (by decide) rfl (fun hc75 => ?_) (fun hc75 => ?_)
        · refine ez_aload_n (q := 96) 0 dX8_layWays_95 rfl rfl rfl ?_
          refine ez_iload_n (q := 97) 3 dX8_layWays_96 rfl rfl rfl ?_
          refine ez_aload_n (q := 98) 0 dX8_layWays_97 rfl rfl rfl ?_
          refine ez_getf (q := 101) dX8_layWays_98 fl_X8_19 hM.1 rfl rfl ?_
          refine ez_iload (q := 103) dX8_layWays_101 rfl rfl ?_
          refine ez_iald (q := 104) dX8_layWays_103 hM.2.2.2.2.1 rfl (by omega) (by decide) rfl ?_
          refine ez_top (t2.1) ?_
          refine ez_iload (q := 106) dX8_layWays_104 rfl rfl ?_
          refine cMv (q := 109) dX8_layWays_106 ck_X8_98 hM (t_X8_every hM.rb hz ho hk) rfl rfl rfl rfl rfl (Nat.le_of_ble_eq_true rfl) rfl (fun g hM => ?_)
          have er := roW_A (T := T) (n := n') (f := f) (L := L) (m := ln w) (s := sg w) (j := i) (by omega)
          first | rw [if_pos hc29] at er | rw [if_neg hc29] at er
          rw [Nat.zero_add, ← er] at hM
          refine ez_top (y := nI (seW T n' f L (ln w) (sg w) (i))) (congrArg nI (by first | (rw [seW_E hi hc75]; first | rw [if_pos hc29] | rw [if_neg hc29]) | (rw [seW_A hi (by omega)]; first | rw [if_pos hc29] | rw [if_neg hc29]))) ?_
          refine sM_se (q := 110) dX8_layWays_109 hM rfl (by omega) rfl (fun g hM => ?_)
          refine ez_aload_n (q := 111) 0 dX8_layWays_110 rfl rfl rfl ?_
          refine ez_getf (q := 114) dX8_layWays_111 fl_X8_22 hM.1 rfl rfl ?_
          refine ez_iload_n (q := 115) 2 dX8_layWays_114 rfl rfl rfl ?_
          refine ez_aload_n (q := 116) 0 dX8_layWays_115 rfl rfl rfl ?_
          refine ez_getf (q := 119) dX8_layWays_116 fl_X8_76 hM.1 rfl rfl ?_
          refine sM_ro (q := 120) dX8_layWays_119 hM rfl (by omega) rfl (fun g hM => ?_)
          refine ez_aload_n (q := 121) 0 dX8_layWays_120 rfl rfl rfl ?_
          refine ez_getf (q := 124) dX8_layWays_121 fl_X8_25 hM.1 rfl rfl ?_
          refine ez_iload_n (q := 125) 2 dX8_layWays_124 rfl rfl rfl ?_
          refine ez_iconst (v := nI 2) (q := 126) dX8_layWays_125 (by decide) rfl ?_
          refine ez_aload_n (q := 127) 0 dX8_layWays_126 rfl rfl rfl ?_
          refine ez_getf (q := 130) dX8_layWays_127 fl_X8_25 hM.1 rfl rfl ?_
          refine ez_iload (q := 132) dX8_layWays_130 rfl rfl ?_
          refine ez_iald (q := 133) dX8_layWays_132 hM.2.2.2.2.2.2.1 rfl (by omega) (by decide) rfl ?_
          refine ez_top (t2.2.2.1) ?_
          refine ez_iaddN (q := 134) dX8_layWays_133 rfl ?_
          refine ez_iload (q := 136) dX8_layWays_134 rfl rfl ?_
          refine ez_ifeqN (q := 139) (tgt := 149) dX8_layWays_136 (by decide) (by decide) rfl (fun hc136 => ?_) (fun hc136 => ?_)
          · first
            | exact absurd hc136 (by decide)
            | skip
              refine ez_iconst (v := nI 0) (q := 150) dX8_layWays_149 (by decide) rfl ?_
              refine ez_iaddN (q := 151) dX8_layWays_150 rfl ?_
              refine ez_top (y := nI (leW (ln w) (sg w) (i))) (congrArg nI (by rw [leW_ea hi hc]; first | rw [if_pos hc29] | rw [if_neg hc29])) ?_
              refine sM_le (q := 152) dX8_layWays_151 hM rfl (by omega) rfl (fun g hM => ?_)
              refine ez_aload_n (q := 153) 0 dX8_layWays_152 rfl rfl rfl ?_
              refine ez_getf (q := 156) dX8_layWays_153 fl_X8_28 hM.1 rfl rfl ?_
              refine ez_iload_n (q := 157) 2 dX8_layWays_156 rfl rfl rfl ?_
              refine ez_iconst (v := nI 1) (q := 158) dX8_layWays_157 (by decide) rfl ?_
              refine ez_iload (q := 160) dX8_layWays_158 rfl rfl ?_
              refine ez_ifeqN (q := 163) (tgt := 190) dX8_layWays_160 (by decide) (by decide) rfl (fun hc160 => ?_) (fun hc160 => ?_)
              · first
                | exact absurd hc160 (by decide)
                | skip
                  refine ez_aload_n (q := 191) 0 dX8_layWays_190 rfl rfl rfl ?_
                  refine ez_getf (q := 194) dX8_layWays_191 fl_X8_28 hM.1 rfl rfl ?_
                  refine ez_iload (q := 196) dX8_layWays_194 rfl rfl ?_
                  refine ez_iald (q := 197) dX8_layWays_196 hM.2.2.2.2.2.2.2.1 rfl (by omega) (by decide) rfl ?_
                  refine ez_top (t2.2.2.2) ?_
                  refine ez_iaddN (q := 198) dX8_layWays_197 rfl ?_
                  refine ez_top (y := nI (deW (ln w) (sg w) (i))) (congrArg nI (by rw [deW_ea hi hc]; split <;> first | rfl | omega)) ?_
                  refine sM_de (q := 199) dX8_layWays_198 hM rfl (by omega) rfl (fun g hM => ?_)
                  exact ez_vret dX8_layWays_199 rfl (hQ _ hM)
              · first
                | exact absurd rfl hc160
                | skip
                  refine ez_aload_n (q := 164) 0 dX8_layWays_163 rfl rfl rfl ?_
                  refine ez_getf (q := 167) dX8_layWays_164 fl_X8_28 hM.1 rfl rfl ?_
                  refine ez_iload (q := 169) dX8_layWays_167 rfl rfl ?_
                  refine ez_iald (q := 170) dX8_layWays_169 hM.2.2.2.2.2.2.2.1 rfl (by have := (h2u hc29).1; omega) (by decide) rfl ?_
                  refine ez_top ((t3 hc29).2.2.2) ?_
                  refine ez_aload_n (q := 171) 0 dX8_layWays_170 rfl rfl rfl ?_
                  refine ez_getf (q := 174) dX8_layWays_171 fl_X8_28 hM.1 rfl rfl ?_
                  refine ez_iload (q := 176) dX8_layWays_174 rfl rfl ?_
                  refine ez_iald (q := 177) dX8_layWays_176 hM.2.2.2.2.2.2.2.1 rfl (by omega) (by decide) rfl ?_
                  refine ez_top (t2.2.2.2) ?_
                  refine ez_icmpleN (q := 180) (tgt := 190) dX8_layWays_177 (by decide) (by omega) (by omega) rfl (fun hc177 => ?_) (fun hc177 => ?_)
                  · refine ez_aload_n (q := 191) 0 dX8_layWays_190 rfl rfl rfl ?_
                    refine ez_getf (q := 194) dX8_layWays_191 fl_X8_28 hM.1 rfl rfl ?_
                    refine ez_iload (q := 196) dX8_layWays_194 rfl rfl ?_
                    refine ez_iald (q := 197) dX8_layWays_196 hM.2.2.2.2.2.2.2.1 rfl (by omega) (by decide) rfl ?_
                    refine ez_top (t2.2.2.2) ?_
                    refine ez_iaddN (q := 198) dX8_layWays_197 rfl ?_
                    refine ez_top (y := nI (deW (ln w) (sg w) (i))) (congrArg nI (by rw [deW_ea hi hc]; split <;> first | rfl | omega)) ?_
                    refine sM_de (q := 199) dX8_layWays_198 hM rfl (by omega) rfl (fun g hM => ?_)
                    exact ez_vret dX8_layWays_199 rfl (hQ _ hM)
                  · refine ez_aload_n (q := 181) 0 dX8_layWays_180 rfl rfl rfl ?_
                    refine ez_getf (q := 184) dX8_layWays_181 fl_X8_28 hM.1 rfl rfl ?_
                    refine ez_iload (q := 186) dX8_layWays_184 rfl rfl ?_
                    refine ez_iald (q := 187) dX8_layWays_186 hM.2.2.2.2.2.2.2.1 rfl (by have := (h2u hc29).1; omega) (by decide) rfl ?_
                    refine ez_top ((t3 hc29).2.2.2) ?_
                    refine ez_goto (q := 197) dX8_layWays_187 (by decide) ?_
                    refine ez_iaddN (q := 198) dX8_layWays_197 rfl ?_
                    refine ez_top (y := nI (deW (ln w) (sg w) (i))) (congrArg nI (by rw [deW_ea hi hc]; split <;> first | rfl | omega)) ?_
                    refine sM_de (q := 199) dX8_layWays_198 hM rfl (by omega) rfl (fun g hM => ?_)
                    exact ez_vret dX8_layWays_199 rfl (hQ _ hM)
          · first
            | exact absurd rfl hc136
            | skip
              refine ez_aload_n (q := 140) 0 dX8_layWays_139 rfl rfl rfl ?_
              refine ez_getf (q := 143) dX8_layWays_140 fl_X8_25 hM.1 rfl rfl ?_
              refine ez_iload (q := 145) dX8_layWays_143 rfl rfl ?_
              refine ez_iald (q := 146) dX8_layWays_145 hM.2.2.2.2.2.2.1 rfl (by have := (h2u hc29).1; omega) (by decide) rfl ?_
              refine ez_top ((t3 hc29).2.2.1) ?_
              refine ez_goto (q := 150) dX8_layWays_146 (by decide) ?_
              refine ez_iaddN (q := 151) dX8_layWays_150 rfl ?_
              refine ez_top (y := nI (leW (ln w) (sg w) (i))) (congrArg nI (by rw [leW_ea hi hc]; first | rw [if_pos hc29] | rw [if_neg hc29])) ?_
              refine sM_le (q := 152) dX8_layWays_151 hM rfl (by omega) rfl (fun g hM => ?_)
              refine ez_aload_n (q := 153) 0 dX8_layWays_152 rfl rfl rfl ?_
              refine ez_getf (q := 156) dX8_layWays_153 fl_X8_28 hM.1 rfl rfl ?_
              refine ez_iload_n (q := 157) 2 dX8_layWays_156 rfl rfl rfl ?_
              refine ez_iconst (v := nI 1) (q := 158) dX8_layWays_157 (by decide) rfl ?_
              refine ez_iload (q := 160) dX8_layWays_158 rfl rfl ?_
              refine ez_ifeqN (q := 163) (tgt := 190) dX8_layWays_160 (by decide) (by decide) rfl (fun hc160 => ?_) (fun hc160 => ?_)
              · first
                | exact absurd hc160 (by decide)
                | skip
                  refine ez_aload_n (q := 191) 0 dX8_layWays_190 rfl rfl rfl ?_
                  refine ez_getf (q := 194) dX8_layWays_191 fl_X8_28 hM.1 rfl rfl ?_
                  refine ez_iload (q := 196) dX8_layWays_194 rfl rfl ?_
                  refine ez_iald (q := 197) dX8_layWays_196 hM.2.2.2.2.2.2.2.1 rfl (by omega) (by decide) rfl ?_
                  refine ez_top (t2.2.2.2) ?_
                  refine ez_iaddN (q := 198) dX8_layWays_197 rfl ?_
                  refine ez_top (y := nI (deW (ln w) (sg w) (i))) (congrArg nI (by rw [deW_ea hi hc]; split <;> first | rfl | omega)) ?_
                  refine sM_de (q := 199) dX8_layWays_198 hM rfl (by omega) rfl (fun g hM => ?_)
                  exact ez_vret dX8_layWays_199 rfl (hQ _ hM)
              · first
                | exact absurd rfl hc160
                | skip
                  refine ez_aload_n (q := 164) 0 dX8_layWays_163 rfl rfl rfl ?_
                  refine ez_getf (q := 167) dX8_layWays_164 fl_X8_28 hM.1 rfl rfl ?_
                  refine ez_iload (q := 169) dX8_layWays_167 rfl rfl ?_
                  refine ez_iald (q := 170) dX8_layWays_169 hM.2.2.2.2.2.2.2.1 rfl (by have := (h2u hc29).1; omega) (by decide) rfl ?_
                  refine ez_top ((t3 hc29).2.2.2) ?_
                  refine ez_aload_n (q := 171) 0 dX8_layWays_170 rfl rfl rfl ?_
                  refine ez_getf (q := 174) dX8_layWays_171 fl_X8_28 hM.1 rfl rfl ?_
                  refine ez_iload (q := 176) dX8_layWays_174 rfl rfl ?_
                  refine ez_iald (q := 177) dX8_layWays_176 hM.2.2.2.2.2.2.2.1 rfl (by omega) (by decide) rfl ?_
                  refine ez_top (t2.2.2.2) ?_
                  refine ez_icmpleN (q := 180) (tgt := 190) dX8_layWays_177 (by decide) (by omega) (by omega) rfl (fun hc177 => ?_) (fun hc177 => ?_)
                  · refine ez_aload_n (q := 191) 0 dX8_layWays_190 rfl rfl rfl ?_
                    refine ez_getf (q := 194) dX8_layWays_191 fl_X8_28 hM.1 rfl rfl ?_
                    refine ez_iload (q := 196) dX8_layWays_194 rfl rfl ?_
                    refine ez_iald (q := 197) dX8_layWays_196 hM.2.2.2.2.2.2.2.1 rfl (by omega) (by decide) rfl ?_
                    refine ez_top (t2.2.2.2) ?_
                    refine ez_iaddN (q := 198) dX8_layWays_197 rfl ?_
                    refine ez_top (y := nI (deW (ln w) (sg w) (i))) (congrArg nI (by rw [deW_ea hi hc]; split <;> first | rfl | omega)) ?_
                    refine sM_de (q := 199) dX8_layWays_198 hM rfl (by omega) rfl (fun g hM => ?_)
                    exact ez_vret dX8_layWays_199 rfl (hQ _ hM)
                  · refine ez_aload_n (q := 181) 0 dX8_layWays_180 rfl rfl rfl ?_
                    refine ez_getf (q := 184) dX8_layWays_181 fl_X8_28 hM.1 rfl rfl ?_
                    refine ez_iload (q := 186) dX8_layWays_184 rfl rfl ?_
                    refine ez_iald (q := 187) dX8_layWays_186 hM.2.2.2.2.2.2.2.1 rfl (by have := (h2u hc29).1; omega) (by decide) rfl ?_
                    refine ez_top ((t3 hc29).2.2.2) ?_
                    refine ez_goto (q := 197) dX8_layWays_187 (by decide) ?_
                    refine ez_iaddN (q := 198) dX8_layWays_197 rfl ?_
                    refine ez_top (y := nI (deW (ln w) (sg w) (i))) (congrArg nI (by rw [deW_ea hi hc]; split <;> first | rfl | omega)) ?_
                    refine sM_de (q := 199) dX8_layWays_198 hM rfl (by omega) rfl (fun g hM => ?_)
                    exact ez_vret dX8_layWays_199 rfl (hQ _ hM)
        · refine ez_aload_n (q := 79) 0 dX8_layWays_78 rfl rfl rfl ?_
          refine ez_iload_n (q := 80) 3 dX8_layWays_79 rfl rfl rfl ?_
          refine ez_aload_n (q := 81) 0 dX8_layWays_80 rfl rfl rfl ?_
          refine ez_getf (q := 84) dX8_layWays_81 fl_X8_19 hM.1 rfl rfl ?_
          refine ez_iload (q := 86) dX8_layWays_84 rfl rfl ?_
          refine ez_iald (q := 87) dX8_layWays_86 hM.2.2.2.2.1 rfl (by omega) (by decide) rfl ?_
          refine ez_top (t2.1) ?_
          refine ez_iload (q := 89) dX8_layWays_87 rfl rfl ?_
          refine cMv (q := 92) dX8_layWays_89 ck_X8_94 hM (t_X8_some hM.rb hz ho hk (seW_l _ _ _ _ _ _ _) (by first | exact seW_l _ _ _ _ _ _ _ | exact Nat.two_pow_pos n')) rfl rfl rfl rfl rfl (Nat.le_of_ble_eq_true rfl) rfl (fun g hM => ?_)
          have er := roW_E (T := T) (n := n') (f := f) (L := L) (m := ln w) hc75
          first | rw [if_pos hc29] at er | rw [if_neg hc29] at er
          rw [Nat.zero_add, ← er] at hM
          refine ez_goto (q := 109) dX8_layWays_92 (by decide) ?_
          refine ez_top (y := nI (seW T n' f L (ln w) (sg w) (i))) (congrArg nI (by first | (rw [seW_E hi hc75]; first | rw [if_pos hc29] | rw [if_neg hc29]) | (rw [seW_A hi (by omega)]; first | rw [if_pos hc29] | rw [if_neg hc29]))) ?_
          refine sM_se (q := 110) dX8_layWays_109 hM rfl (by omega) rfl (fun g hM => ?_)
          refine ez_aload_n (q := 111) 0 dX8_layWays_110 rfl rfl rfl ?_
          refine ez_getf (q := 114) dX8_layWays_111 fl_X8_22 hM.1 rfl rfl ?_
          refine ez_iload_n (q := 115) 2 dX8_layWays_114 rfl rfl rfl ?_
          refine ez_aload_n (q := 116) 0 dX8_layWays_115 rfl rfl rfl ?_
          refine ez_getf (q := 119) dX8_layWays_116 fl_X8_76 hM.1 rfl rfl ?_
          refine sM_ro (q := 120) dX8_layWays_119 hM rfl (by omega) rfl (fun g hM => ?_)
          refine ez_aload_n (q := 121) 0 dX8_layWays_120 rfl rfl rfl ?_
          refine ez_getf (q := 124) dX8_layWays_121 fl_X8_25 hM.1 rfl rfl ?_
          refine ez_iload_n (q := 125) 2 dX8_layWays_124 rfl rfl rfl ?_
          refine ez_iconst (v := nI 2) (q := 126) dX8_layWays_125 (by decide) rfl ?_
          refine ez_aload_n (q := 127) 0 dX8_layWays_126 rfl rfl rfl ?_
          refine ez_getf (q := 130) dX8_layWays_127 fl_X8_25 hM.1 rfl rfl ?_
          refine ez_iload (q := 132) dX8_layWays_130 rfl rfl ?_
          refine ez_iald (q := 133) dX8_layWays_132 hM.2.2.2.2.2.2.1 rfl (by omega) (by decide) rfl ?_
          refine ez_top (t2.2.2.1) ?_
          refine ez_iaddN (q := 134) dX8_layWays_133 rfl ?_
          refine ez_iload (q := 136) dX8_layWays_134 rfl rfl ?_
          refine ez_ifeqN (q := 139) (tgt := 149) dX8_layWays_136 (by decide) (by decide) rfl (fun hc136 => ?_) (fun hc136 => ?_)
          · first
            | exact absurd hc136 (by decide)
            | skip
              refine ez_iconst (v := nI 0) (q := 150) dX8_layWays_149 (by decide) rfl ?_
              refine ez_iaddN (q := 151) dX8_layWays_150 rfl ?_
              refine ez_top (y := nI (leW (ln w) (sg w) (i))) (congrArg nI (by rw [leW_ea hi hc]; first | rw [if_pos hc29] | rw [if_neg hc29])) ?_
              refine sM_le (q := 152) dX8_layWays_151 hM rfl (by omega) rfl (fun g hM => ?_)
              refine ez_aload_n (q := 153) 0 dX8_layWays_152 rfl rfl rfl ?_
              refine ez_getf (q := 156) dX8_layWays_153 fl_X8_28 hM.1 rfl rfl ?_
              refine ez_iload_n (q := 157) 2 dX8_layWays_156 rfl rfl rfl ?_
              refine ez_iconst (v := nI 1) (q := 158) dX8_layWays_157 (by decide) rfl ?_
              refine ez_iload (q := 160) dX8_layWays_158 rfl rfl ?_
              refine ez_ifeqN (q := 163) (tgt := 190) dX8_layWays_160 (by decide) (by decide) rfl (fun hc160 => ?_) (fun hc160 => ?_)
              · first
                | exact absurd hc160 (by decide)
                | skip
                  refine ez_aload_n (q := 191) 0 dX8_layWays_190 rfl rfl rfl ?_
                  refine ez_getf (q := 194) dX8_layWays_191 fl_X8_28 hM.1 rfl rfl ?_
                  refine ez_iload (q := 196) dX8_layWays_194 rfl rfl ?_
                  refine ez_iald (q := 197) dX8_layWays_196 hM.2.2.2.2.2.2.2.1 rfl (by omega) (by decide) rfl ?_
                  refine ez_top (t2.2.2.2) ?_
                  refine ez_iaddN (q := 198) dX8_layWays_197 rfl ?_
                  refine ez_top (y := nI (deW (ln w) (sg w) (i))) (congrArg nI (by rw [deW_ea hi hc]; split <;> first | rfl | omega)) ?_
                  refine sM_de (q := 199) dX8_layWays_198 hM rfl (by omega) rfl (fun g hM => ?_)
                  exact ez_vret dX8_layWays_199 rfl (hQ _ hM)
              · first
                | exact absurd rfl hc160
                | skip
                  refine ez_aload_n (q := 164) 0 dX8_layWays_163 rfl rfl rfl ?_
                  refine ez_getf (q := 167) dX8_layWays_164 fl_X8_28 hM.1 rfl rfl ?_
                  refine ez_iload (q := 169) dX8_layWays_167 rfl rfl ?_
                  refine ez_iald (q := 170) dX8_layWays_169 hM.2.2.2.2.2.2.2.1 rfl (by have := (h2u hc29).1; omega) (by decide) rfl ?_
                  refine ez_top ((t3 hc29).2.2.2) ?_
                  refine ez_aload_n (q := 171) 0 dX8_layWays_170 rfl rfl rfl ?_
                  refine ez_getf (q := 174) dX8_layWays_171 fl_X8_28 hM.1 rfl rfl ?_
                  refine ez_iload (q := 176) dX8_layWays_174 rfl rfl ?_
                  refine ez_iald (q := 177) dX8_layWays_176 hM.2.2.2.2.2.2.2.1 rfl (by omega) (by decide) rfl ?_
                  refine ez_top (t2.2.2.2) ?_
                  refine ez_icmpleN (q := 180) (tgt := 190) dX8_layWays_177 (by decide) (by omega) (by omega) rfl (fun hc177 => ?_) (fun hc177 => ?_)
                  · refine ez_aload_n (q := 191) 0 dX8_layWays_190 rfl rfl rfl ?_
                    refine ez_getf (q := 194) dX8_layWays_191 fl_X8_28 hM.1 rfl rfl ?_
                    refine ez_iload (q := 196) dX8_layWays_194 rfl rfl ?_
                    refine ez_iald (q := 197) dX8_layWays_196 hM.2.2.2.2.2.2.2.1 rfl (by omega) (by decide) rfl ?_
                    refine ez_top (t2.2.2.2) ?_
                    refine ez_iaddN (q := 198) dX8_layWays_197 rfl ?_
                    refine ez_top (y := nI (deW (ln w) (sg w) (i))) (congrArg nI (by rw [deW_ea hi hc]; split <;> first | rfl | omega)) ?_
                    refine sM_de (q := 199) dX8_layWays_198 hM rfl (by omega) rfl (fun g hM => ?_)
                    exact ez_vret dX8_layWays_199 rfl (hQ _ hM)
                  · refine ez_aload_n (q := 181) 0 dX8_layWays_180 rfl rfl rfl ?_
                    refine ez_getf (q := 184) dX8_layWays_181 fl_X8_28 hM.1 rfl rfl ?_
                    refine ez_iload (q := 186) dX8_layWays_184 rfl rfl ?_
                    refine ez_iald (q := 187) dX8_layWays_186 hM.2.2.2.2.2.2.2.1 rfl (by have := (h2u hc29).1; omega) (by decide) rfl ?_
                    refine ez_top ((t3 hc29).2.2.2) ?_
                    refine ez_goto (q := 197) dX8_layWays_187 (by decide) ?_
                    refine ez_iaddN (q := 198) dX8_layWays_197 rfl ?_
                    refine ez_top (y := nI (deW (ln w) (sg w) (i))) (congrArg nI (by rw [deW_ea hi hc]; split <;> first | rfl | omega)) ?_
                    refine sM_de (q := 199) dX8_layWays_198 hM rfl (by omega) rfl (fun g hM => ?_)
                    exact ez_vret dX8_layWays_199 rfl (hQ _ hM)
          · first
            | exact absurd rfl hc136
            | skip
              refine ez_aload_n (q := 140) 0 dX8_layWays_139 rfl rfl rfl ?_
              refine ez_getf (q := 143) dX8_layWays_140 fl_X8_25 hM.1 rfl rfl ?_
              refine ez_iload (q := 145) dX8_layWays_143 rfl rfl ?_
              refine ez_iald (q := 146) dX8_layWays_145 hM.2.2.2.2.2.2.1 rfl (by have := (h2u hc29).1; omega) (by decide) rfl ?_
              refine ez_top ((t3 hc29).2.2.1) ?_
              refine ez_goto (q := 150) dX8_layWays_146 (by decide) ?_
              refine ez_iaddN (q := 151) dX8_layWays_150 rfl ?_
              refine ez_top (y := nI (leW (ln w) (sg w) (i))) (congrArg nI (by rw [leW_ea hi hc]; first | rw [if_pos hc29] | rw [if_neg hc29])) ?_
              refine sM_le (q := 152) dX8_layWays_151 hM rfl (by omega) rfl (fun g hM => ?_)
              refine ez_aload_n (q := 153) 0 dX8_layWays_152 rfl rfl rfl ?_
              refine ez_getf (q := 156) dX8_layWays_153 fl_X8_28 hM.1 rfl rfl ?_
              refine ez_iload_n (q := 157) 2 dX8_layWays_156 rfl rfl rfl ?_
              refine ez_iconst (v := nI 1) (q := 158) dX8_layWays_157 (by decide) rfl ?_
              refine ez_iload (q := 160) dX8_layWays_158 rfl rfl ?_
              refine ez_ifeqN (q := 163) (tgt := 190) dX8_layWays_160 (by decide) (by decide) rfl (fun hc160 => ?_) (fun hc160 => ?_)
              · first
                | exact absurd hc160 (by decide)
                | skip
                  refine ez_aload_n (q := 191) 0 dX8_layWays_190 rfl rfl rfl ?_
                  refine ez_getf (q := 194) dX8_layWays_191 fl_X8_28 hM.1 rfl rfl ?_
                  refine ez_iload (q := 196) dX8_layWays_194 rfl rfl ?_
                  refine ez_iald (q := 197) dX8_layWays_196 hM.2.2.2.2.2.2.2.1 rfl (by omega) (by decide) rfl ?_
                  refine ez_top (t2.2.2.2) ?_
                  refine ez_iaddN (q := 198) dX8_layWays_197 rfl ?_
                  refine ez_top (y := nI (deW (ln w) (sg w) (i))) (congrArg nI (by rw [deW_ea hi hc]; split <;> first | rfl | omega)) ?_
                  refine sM_de (q := 199) dX8_layWays_198 hM rfl (by omega) rfl (fun g hM => ?_)
                  exact ez_vret dX8_layWays_199 rfl (hQ _ hM)
              · first
                | exact absurd rfl hc160
                | skip
                  refine ez_aload_n (q := 164) 0 dX8_layWays_163 rfl rfl rfl ?_
                  refine ez_getf (q := 167) dX8_layWays_164 fl_X8_28 hM.1 rfl rfl ?_
                  refine ez_iload (q := 169) dX8_layWays_167 rfl rfl ?_
                  refine ez_iald (q := 170) dX8_layWays_169 hM.2.2.2.2.2.2.2.1 rfl (by have := (h2u hc29).1; omega) (by decide) rfl ?_
                  refine ez_top ((t3 hc29).2.2.2) ?_
                  refine ez_aload_n (q := 171) 0 dX8_layWays_170 rfl rfl rfl ?_
                  refine ez_getf (q := 174) dX8_layWays_171 fl_X8_28 hM.1 rfl rfl ?_
                  refine ez_iload (q := 176) dX8_layWays_174 rfl rfl ?_
                  refine ez_iald (q := 177) dX8_layWays_176 hM.2.2.2.2.2.2.2.1 rfl (by omega) (by decide) rfl ?_
                  refine ez_top (t2.2.2.2) ?_
                  refine ez_icmpleN (q := 180) (tgt := 190) dX8_layWays_177 (by decide) (by omega) (by omega) rfl (fun hc177 => ?_) (fun hc177 => ?_)
                  · refine ez_aload_n (q := 191) 0 dX8_layWays_190 rfl rfl rfl ?_
                    refine ez_getf (q := 194) dX8_layWays_191 fl_X8_28 hM.1 rfl rfl ?_
                    refine ez_iload (q := 196) dX8_layWays_194 rfl rfl ?_
                    refine ez_iald (q := 197) dX8_layWays_196 hM.2.2.2.2.2.2.2.1 rfl (by omega) (by decide) rfl ?_
                    refine ez_top (t2.2.2.2) ?_
                    refine ez_iaddN (q := 198) dX8_layWays_197 rfl ?_
                    refine ez_top (y := nI (deW (ln w) (sg w) (i))) (congrArg nI (by rw [deW_ea hi hc]; split <;> first | rfl | omega)) ?_
                    refine sM_de (q := 199) dX8_layWays_198 hM rfl (by omega) rfl (fun g hM => ?_)
                    exact ez_vret dX8_layWays_199 rfl (hQ _ hM)
                  · refine ez_aload_n (q := 181) 0 dX8_layWays_180 rfl rfl rfl ?_
                    refine ez_getf (q := 184) dX8_layWays_181 fl_X8_28 hM.1 rfl rfl ?_
                    refine ez_iload (q := 186) dX8_layWays_184 rfl rfl ?_
                    refine ez_iald (q := 187) dX8_layWays_186 hM.2.2.2.2.2.2.2.1 rfl (by have := (h2u hc29).1; omega) (by decide) rfl ?_
                    refine ez_top ((t3 hc29).2.2.2) ?_
                    refine ez_goto (q := 197) dX8_layWays_187 (by decide) ?_
                    refine ez_iaddN (q := 198) dX8_layWays_197 rfl ?_
                    refine ez_top (y := nI (deW (ln w) (sg w) (i))) (congrArg nI (by rw [deW_ea hi hc]; split <;> first | rfl | omega)) ?_
                    refine sM_de (q := 199) dX8_layWays_198 hM rfl (by omega) rfl (fun g hM => ?_)
                    exact ez_vret dX8_layWays_199 rfl (hQ _ hM)
  · refine ez_iconst (v := nI 1) (q := 33) dX8_layWays_32 (by decide) rfl ?_
    refine ez_goto (q := 37) dX8_layWays_33 (by decide) ?_
    refine ez_istore_6 (q := 39) dX8_layWays_37 (by decide) rfl rfl ?_
    refine ez_iload (q := 41) dX8_layWays_39 rfl rfl ?_
    refine ez_ifeqN (q := 44) (tgt := 54) dX8_layWays_41 (by decide) (by decide) rfl (fun hc41 => ?_) (fun hc41 => ?_)
    · first
      | exact absurd hc41 (by decide)
      | skip
        refine ez_iconst (v := nI 0) (q := 55) dX8_layWays_54 (by decide) rfl ?_
        refine ez_istore_7 (q := 57) dX8_layWays_55 (by decide) rfl rfl ?_
        refine ez_aload_n (q := 58) 0 dX8_layWays_57 rfl rfl rfl ?_
        refine ez_iconst (v := nI 0) (q := 59) dX8_layWays_58 (by decide) rfl ?_
        refine pM_rd (q := 62) dX8_layWays_59 fl_X8_76 hM rfl (fun g hM => ?_)
        refine ez_aload_n (q := 63) 0 dX8_layWays_62 rfl rfl rfl ?_
        refine ez_getf (q := 66) dX8_layWays_63 fl_X8_19 hM.1 rfl rfl ?_
        refine ez_iload_n (q := 67) 2 dX8_layWays_66 rfl rfl rfl ?_
        refine ez_aload_n (q := 68) 0 dX8_layWays_67 rfl rfl rfl ?_
        refine ez_iload_n (q := 69) 1 dX8_layWays_68 rfl rfl rfl ?_
        refine ez_iload_n (q := 70) 2 dX8_layWays_69 rfl rfl rfl ?_
        refine cMv (q := 73) dX8_layWays_70 ck_X8_91 hM (t_X8_signAt hM.rb hz ho hw hi) rfl rfl rfl rfl rfl (Nat.le_of_ble_eq_true rfl) rfl (fun g hM => ?_)
        refine ez_bipush (v := nI 69) (q := 75) dX8_layWays_73 (by decide) rfl ?_
        refine ez_icmpneN (q := 78) (tgt := 95) dX8_layWays_75 (by decide) (by have := wf_c hwf hi; omega) (by decide) rfl (fun hc75 => ?_) (fun hc75 => ?_)
        · refine ez_aload_n (q := 96) 0 dX8_layWays_95 rfl rfl rfl ?_
          refine ez_iload_n (q := 97) 3 dX8_layWays_96 rfl rfl rfl ?_
          refine ez_aload_n (q := 98) 0 dX8_layWays_97 rfl rfl rfl ?_
          refine ez_getf (q := 101) dX8_layWays_98 fl_X8_19 hM.1 rfl rfl ?_
          refine ez_iload (q := 103) dX8_layWays_101 rfl rfl ?_
          refine ez_iald (q := 104) dX8_layWays_103 hM.2.2.2.2.1 rfl (by omega) (by decide) rfl ?_
          refine ez_top (t2.1) ?_
          refine ez_iload (q := 106) dX8_layWays_104 rfl rfl ?_
          refine cMv (q := 109) dX8_layWays_106 ck_X8_98 hM (t_X8_every hM.rb hz ho hk) rfl rfl rfl rfl rfl (Nat.le_of_ble_eq_true rfl) rfl (fun g hM => ?_)
          have er := roW_A (T := T) (n := n') (f := f) (L := L) (m := ln w) (s := sg w) (j := i) (by omega)
          first | rw [if_pos hc29] at er | rw [if_neg hc29] at er
          rw [Nat.zero_add, ← er] at hM
          refine ez_top (y := nI (seW T n' f L (ln w) (sg w) (i))) (congrArg nI (by first | (rw [seW_E hi hc75]; first | rw [if_pos hc29] | rw [if_neg hc29]) | (rw [seW_A hi (by omega)]; first | rw [if_pos hc29] | rw [if_neg hc29]))) ?_
          refine sM_se (q := 110) dX8_layWays_109 hM rfl (by omega) rfl (fun g hM => ?_)
          refine ez_aload_n (q := 111) 0 dX8_layWays_110 rfl rfl rfl ?_
          refine ez_getf (q := 114) dX8_layWays_111 fl_X8_22 hM.1 rfl rfl ?_
          refine ez_iload_n (q := 115) 2 dX8_layWays_114 rfl rfl rfl ?_
          refine ez_aload_n (q := 116) 0 dX8_layWays_115 rfl rfl rfl ?_
          refine ez_getf (q := 119) dX8_layWays_116 fl_X8_76 hM.1 rfl rfl ?_
          refine sM_ro (q := 120) dX8_layWays_119 hM rfl (by omega) rfl (fun g hM => ?_)
          refine ez_aload_n (q := 121) 0 dX8_layWays_120 rfl rfl rfl ?_
          refine ez_getf (q := 124) dX8_layWays_121 fl_X8_25 hM.1 rfl rfl ?_
          refine ez_iload_n (q := 125) 2 dX8_layWays_124 rfl rfl rfl ?_
          refine ez_iconst (v := nI 2) (q := 126) dX8_layWays_125 (by decide) rfl ?_
          refine ez_aload_n (q := 127) 0 dX8_layWays_126 rfl rfl rfl ?_
          refine ez_getf (q := 130) dX8_layWays_127 fl_X8_25 hM.1 rfl rfl ?_
          refine ez_iload (q := 132) dX8_layWays_130 rfl rfl ?_
          refine ez_iald (q := 133) dX8_layWays_132 hM.2.2.2.2.2.2.1 rfl (by omega) (by decide) rfl ?_
          refine ez_top (t2.2.2.1) ?_
          refine ez_iaddN (q := 134) dX8_layWays_133 rfl ?_
          refine ez_iload (q := 136) dX8_layWays_134 rfl rfl ?_
          refine ez_ifeqN (q := 139) (tgt := 149) dX8_layWays_136 (by decide) (by decide) rfl (fun hc136 => ?_) (fun hc136 => ?_)
          · first
            | exact absurd hc136 (by decide)
            | skip
              refine ez_iconst (v := nI 0) (q := 150) dX8_layWays_149 (by decide) rfl ?_
              refine ez_iaddN (q := 151) dX8_layWays_150 rfl ?_
              refine ez_top (y := nI (leW (ln w) (sg w) (i))) (congrArg nI (by rw [leW_ea hi hc]; first | rw [if_pos hc29] | rw [if_neg hc29])) ?_
              refine sM_le (q := 152) dX8_layWays_151 hM rfl (by omega) rfl (fun g hM => ?_)
              refine ez_aload_n (q := 153) 0 dX8_layWays_152 rfl rfl rfl ?_
              refine ez_getf (q := 156) dX8_layWays_153 fl_X8_28 hM.1 rfl rfl ?_
              refine ez_iload_n (q := 157) 2 dX8_layWays_156 rfl rfl rfl ?_
              refine ez_iconst (v := nI 1) (q := 158) dX8_layWays_157 (by decide) rfl ?_
              refine ez_iload (q := 160) dX8_layWays_158 rfl rfl ?_
              refine ez_ifeqN (q := 163) (tgt := 190) dX8_layWays_160 (by decide) (by decide) rfl (fun hc160 => ?_) (fun hc160 => ?_)
              · first
                | exact absurd hc160 (by decide)
                | skip
                  refine ez_aload_n (q := 191) 0 dX8_layWays_190 rfl rfl rfl ?_
                  refine ez_getf (q := 194) dX8_layWays_191 fl_X8_28 hM.1 rfl rfl ?_
                  refine ez_iload (q := 196) dX8_layWays_194 rfl rfl ?_
                  refine ez_iald (q := 197) dX8_layWays_196 hM.2.2.2.2.2.2.2.1 rfl (by omega) (by decide) rfl ?_
                  refine ez_top (t2.2.2.2) ?_
                  refine ez_iaddN (q := 198) dX8_layWays_197 rfl ?_
                  refine ez_top (y := nI (deW (ln w) (sg w) (i))) (congrArg nI (by rw [deW_ea hi hc]; split <;> first | rfl | omega)) ?_
                  refine sM_de (q := 199) dX8_layWays_198 hM rfl (by omega) rfl (fun g hM => ?_)
                  exact ez_vret dX8_layWays_199 rfl (hQ _ hM)
              · first
                | exact absurd rfl hc160
                | skip
                  refine ez_aload_n (q := 164) 0 dX8_layWays_163 rfl rfl rfl ?_
                  refine ez_getf (q := 167) dX8_layWays_164 fl_X8_28 hM.1 rfl rfl ?_
                  refine ez_iload (q := 169) dX8_layWays_167 rfl rfl ?_
                  refine ez_iald (q := 170) dX8_layWays_169 hM.2.2.2.2.2.2.2.1 rfl (by have := (h2u hc29).1; omega) (by decide) rfl ?_
                  refine ez_top ((t3 hc29).2.2.2) ?_
                  refine ez_aload_n (q := 171) 0 dX8_layWays_170 rfl rfl rfl ?_
                  refine ez_getf (q := 174) dX8_layWays_171 fl_X8_28 hM.1 rfl rfl ?_
                  refine ez_iload (q := 176) dX8_layWays_174 rfl rfl ?_
                  refine ez_iald (q := 177) dX8_layWays_176 hM.2.2.2.2.2.2.2.1 rfl (by omega) (by decide) rfl ?_
                  refine ez_top (t2.2.2.2) ?_
                  refine ez_icmpleN (q := 180) (tgt := 190) dX8_layWays_177 (by decide) (by omega) (by omega) rfl (fun hc177 => ?_) (fun hc177 => ?_)
                  · refine ez_aload_n (q := 191) 0 dX8_layWays_190 rfl rfl rfl ?_
                    refine ez_getf (q := 194) dX8_layWays_191 fl_X8_28 hM.1 rfl rfl ?_
                    refine ez_iload (q := 196) dX8_layWays_194 rfl rfl ?_
                    refine ez_iald (q := 197) dX8_layWays_196 hM.2.2.2.2.2.2.2.1 rfl (by omega) (by decide) rfl ?_
                    refine ez_top (t2.2.2.2) ?_
                    refine ez_iaddN (q := 198) dX8_layWays_197 rfl ?_
                    refine ez_top (y := nI (deW (ln w) (sg w) (i))) (congrArg nI (by rw [deW_ea hi hc]; split <;> first | rfl | omega)) ?_
                    refine sM_de (q := 199) dX8_layWays_198 hM rfl (by omega) rfl (fun g hM => ?_)
                    exact ez_vret dX8_layWays_199 rfl (hQ _ hM)
                  · refine ez_aload_n (q := 181) 0 dX8_layWays_180 rfl rfl rfl ?_
                    refine ez_getf (q := 184) dX8_layWays_181 fl_X8_28 hM.1 rfl rfl ?_
                    refine ez_iload (q := 186) dX8_layWays_184 rfl rfl ?_
                    refine ez_iald (q := 187) dX8_layWays_186 hM.2.2.2.2.2.2.2.1 rfl (by have := (h2u hc29).1; omega) (by decide) rfl ?_
                    refine ez_top ((t3 hc29).2.2.2) ?_
                    refine ez_goto (q := 197) dX8_layWays_187 (by decide) ?_
                    refine ez_iaddN (q := 198) dX8_layWays_197 rfl ?_
                    refine ez_top (y := nI (deW (ln w) (sg w) (i))) (congrArg nI (by rw [deW_ea hi hc]; split <;> first | rfl | omega)) ?_
                    refine sM_de (q := 199) dX8_layWays_198 hM rfl (by omega) rfl (fun g hM => ?_)
                    exact ez_vret dX8_layWays_199 rfl (hQ _ hM)
          · first
            | exact absurd rfl hc136
            | skip
              refine ez_aload_n (q := 140) 0 dX8_layWays_139 rfl rfl rfl ?_
              refine ez_getf (q := 143) dX8_layWays_140 fl_X8_25 hM.1 rfl rfl ?_
              refine ez_iload (q := 145) dX8_layWays_143 rfl rfl ?_
              refine ez_iald (q := 146) dX8_layWays_145 hM.2.2.2.2.2.2.1 rfl (by have := (h2u hc29).1; omega) (by decide) rfl ?_
              refine ez_top ((t3 hc29).2.2.1) ?_
              refine ez_goto (q := 150) dX8_layWays_146 (by decide) ?_
              refine ez_iaddN (q := 151) dX8_layWays_150 rfl ?_
              refine ez_top (y := nI (leW (ln w) (sg w) (i))) (congrArg nI (by rw [leW_ea hi hc]; first | rw [if_pos hc29] | rw [if_neg hc29])) ?_
              refine sM_le (q := 152) dX8_layWays_151 hM rfl (by omega) rfl (fun g hM => ?_)
              refine ez_aload_n (q := 153) 0 dX8_layWays_152 rfl rfl rfl ?_
              refine ez_getf (q := 156) dX8_layWays_153 fl_X8_28 hM.1 rfl rfl ?_
              refine ez_iload_n (q := 157) 2 dX8_layWays_156 rfl rfl rfl ?_
              refine ez_iconst (v := nI 1) (q := 158) dX8_layWays_157 (by decide) rfl ?_
              refine ez_iload (q := 160) dX8_layWays_158 rfl rfl ?_
              refine ez_ifeqN (q := 163) (tgt := 190) dX8_layWays_160 (by decide) (by decide) rfl (fun hc160 => ?_) (fun hc160 => ?_)
              · first
                | exact absurd hc160 (by decide)
                | skip
                  refine ez_aload_n (q := 191) 0 dX8_layWays_190 rfl rfl rfl ?_
                  refine ez_getf (q := 194) dX8_layWays_191 fl_X8_28 hM.1 rfl rfl ?_
                  refine ez_iload (q := 196) dX8_layWays_194 rfl rfl ?_
                  refine ez_iald (q := 197) dX8_layWays_196 hM.2.2.2.2.2.2.2.1 rfl (by omega) (by decide) rfl ?_
                  refine ez_top (t2.2.2.2) ?_
                  refine ez_iaddN (q := 198) dX8_layWays_197 rfl ?_
                  refine ez_top (y := nI (deW (ln w) (sg w) (i))) (congrArg nI (by rw [deW_ea hi hc]; split <;> first | rfl | omega)) ?_
                  refine sM_de (q := 199) dX8_layWays_198 hM rfl (by omega) rfl (fun g hM => ?_)
                  exact ez_vret dX8_layWays_199 rfl (hQ _ hM)
              · first
                | exact absurd rfl hc160
                | skip
                  refine ez_aload_n (q := 164) 0 dX8_layWays_163 rfl rfl rfl ?_
                  refine ez_getf (q := 167) dX8_layWays_164 fl_X8_28 hM.1 rfl rfl ?_
                  refine ez_iload (q := 169) dX8_layWays_167 rfl rfl ?_
                  refine ez_iald (q := 170) dX8_layWays_169 hM.2.2.2.2.2.2.2.1 rfl (by have := (h2u hc29).1; omega) (by decide) rfl ?_
                  refine ez_top ((t3 hc29).2.2.2) ?_
                  refine ez_aload_n (q := 171) 0 dX8_layWays_170 rfl rfl rfl ?_
                  refine ez_getf (q := 174) dX8_layWays_171 fl_X8_28 hM.1 rfl rfl ?_
                  refine ez_iload (q := 176) dX8_layWays_174 rfl rfl ?_
                  refine ez_iald (q := 177) dX8_layWays_176 hM.2.2.2.2.2.2.2.1 rfl (by omega) (by decide) rfl ?_
                  refine ez_top (t2.2.2.2) ?_
                  refine ez_icmpleN (q := 180) (tgt := 190) dX8_layWays_177 (by decide) (by omega) (by omega) rfl (fun hc177 => ?_) (fun hc177 => ?_)
                  · refine ez_aload_n (q := 191) 0 dX8_layWays_190 rfl rfl rfl ?_
                    refine ez_getf (q := 194) dX8_layWays_191 fl_X8_28 hM.1 rfl rfl ?_
                    refine ez_iload (q := 196) dX8_layWays_194 rfl rfl ?_
                    refine ez_iald (q := 197) dX8_layWays_196 hM.2.2.2.2.2.2.2.1 rfl (by omega) (by decide) rfl ?_
                    refine ez_top (t2.2.2.2) ?_
                    refine ez_iaddN (q := 198) dX8_layWays_197 rfl ?_
                    refine ez_top (y := nI (deW (ln w) (sg w) (i))) (congrArg nI (by rw [deW_ea hi hc]; split <;> first | rfl | omega)) ?_
                    refine sM_de (q := 199) dX8_layWays_198 hM rfl (by omega) rfl (fun g hM => ?_)
                    exact ez_vret dX8_layWays_199 rfl (hQ _ hM)
                  · refine ez_aload_n (q := 181) 0 dX8_layWays_180 rfl rfl rfl ?_
                    refine ez_getf (q := 184) dX8_layWays_181 fl_X8_28 hM.1 rfl rfl ?_
                    refine ez_iload (q := 186) dX8_layWays_184 rfl rfl ?_
                    refine ez_iald (q := 187) dX8_layWays_186 hM.2.2.2.2.2.2.2.1 rfl (by have := (h2u hc29).1; omega) (by decide) rfl ?_
                    refine ez_top ((t3 hc29).2.2.2) ?_
                    refine ez_goto (q := 197) dX8_layWays_187 (by decide) ?_
                    refine ez_iaddN (q := 198) dX8_layWays_197 rfl ?_
                    refine ez_top (y := nI (deW (ln w) (sg w) (i))) (congrArg nI (by rw [deW_ea hi hc]; split <;> first | rfl | omega)) ?_
                    refine sM_de (q := 199) dX8_layWays_198 hM rfl (by omega) rfl (fun g hM => ?_)
                    exact ez_vret dX8_layWays_199 rfl (hQ _ hM)
        · refine ez_aload_n (q := 79) 0 dX8_layWays_78 rfl rfl rfl ?_
          refine ez_iload_n (q := 80) 3 dX8_layWays_79 rfl rfl rfl ?_
          refine ez_aload_n (q := 81) 0 dX8_layWays_80 rfl rfl rfl ?_
          refine ez_getf (q := 84) dX8_layWays_81 fl_X8_19 hM.1 rfl rfl ?_
          refine ez_iload (q := 86) dX8_layWays_84 rfl rfl ?_
          refine ez_iald (q := 87) dX8_layWays_86 hM.2.2.2.2.1 rfl (by omega) (by decide) rfl ?_
          refine ez_top (t2.1) ?_
          refine ez_iload (q := 89) dX8_layWays_87 rfl rfl ?_
          refine cMv (q := 92) dX8_layWays_89 ck_X8_94 hM (t_X8_some hM.rb hz ho hk (seW_l _ _ _ _ _ _ _) (by first | exact seW_l _ _ _ _ _ _ _ | exact Nat.two_pow_pos n')) rfl rfl rfl rfl rfl (Nat.le_of_ble_eq_true rfl) rfl (fun g hM => ?_)
          have er := roW_E (T := T) (n := n') (f := f) (L := L) (m := ln w) hc75
          first | rw [if_pos hc29] at er | rw [if_neg hc29] at er
          rw [Nat.zero_add, ← er] at hM
          refine ez_goto (q := 109) dX8_layWays_92 (by decide) ?_
          refine ez_top (y := nI (seW T n' f L (ln w) (sg w) (i))) (congrArg nI (by first | (rw [seW_E hi hc75]; first | rw [if_pos hc29] | rw [if_neg hc29]) | (rw [seW_A hi (by omega)]; first | rw [if_pos hc29] | rw [if_neg hc29]))) ?_
          refine sM_se (q := 110) dX8_layWays_109 hM rfl (by omega) rfl (fun g hM => ?_)
          refine ez_aload_n (q := 111) 0 dX8_layWays_110 rfl rfl rfl ?_
          refine ez_getf (q := 114) dX8_layWays_111 fl_X8_22 hM.1 rfl rfl ?_
          refine ez_iload_n (q := 115) 2 dX8_layWays_114 rfl rfl rfl ?_
          refine ez_aload_n (q := 116) 0 dX8_layWays_115 rfl rfl rfl ?_
          refine ez_getf (q := 119) dX8_layWays_116 fl_X8_76 hM.1 rfl rfl ?_
          refine sM_ro (q := 120) dX8_layWays_119 hM rfl (by omega) rfl (fun g hM => ?_)
          refine ez_aload_n (q := 121) 0 dX8_layWays_120 rfl rfl rfl ?_
          refine ez_getf (q := 124) dX8_layWays_121 fl_X8_25 hM.1 rfl rfl ?_
          refine ez_iload_n (q := 125) 2 dX8_layWays_124 rfl rfl rfl ?_
          refine ez_iconst (v := nI 2) (q := 126) dX8_layWays_125 (by decide) rfl ?_
          refine ez_aload_n (q := 127) 0 dX8_layWays_126 rfl rfl rfl ?_
          refine ez_getf (q := 130) dX8_layWays_127 fl_X8_25 hM.1 rfl rfl ?_
          refine ez_iload (q := 132) dX8_layWays_130 rfl rfl ?_
          refine ez_iald (q := 133) dX8_layWays_132 hM.2.2.2.2.2.2.1 rfl (by omega) (by decide) rfl ?_
          refine ez_top (t2.2.2.1) ?_
          refine ez_iaddN (q := 134) dX8_layWays_133 rfl ?_
          refine ez_iload (q := 136) dX8_layWays_134 rfl rfl ?_
          refine ez_ifeqN (q := 139) (tgt := 149) dX8_layWays_136 (by decide) (by decide) rfl (fun hc136 => ?_) (fun hc136 => ?_)
          · first
            | exact absurd hc136 (by decide)
            | skip
              refine ez_iconst (v := nI 0) (q := 150) dX8_layWays_149 (by decide) rfl ?_
              refine ez_iaddN (q := 151) dX8_layWays_150 rfl ?_
              refine ez_top (y := nI (leW (ln w) (sg w) (i))) (congrArg nI (by rw [leW_ea hi hc]; first | rw [if_pos hc29] | rw [if_neg hc29])) ?_
              refine sM_le (q := 152) dX8_layWays_151 hM rfl (by omega) rfl (fun g hM => ?_)
              refine ez_aload_n (q := 153) 0 dX8_layWays_152 rfl rfl rfl ?_
              refine ez_getf (q := 156) dX8_layWays_153 fl_X8_28 hM.1 rfl rfl ?_
              refine ez_iload_n (q := 157) 2 dX8_layWays_156 rfl rfl rfl ?_
              refine ez_iconst (v := nI 1) (q := 158) dX8_layWays_157 (by decide) rfl ?_
              refine ez_iload (q := 160) dX8_layWays_158 rfl rfl ?_
              refine ez_ifeqN (q := 163) (tgt := 190) dX8_layWays_160 (by decide) (by decide) rfl (fun hc160 => ?_) (fun hc160 => ?_)
              · first
                | exact absurd hc160 (by decide)
                | skip
                  refine ez_aload_n (q := 191) 0 dX8_layWays_190 rfl rfl rfl ?_
                  refine ez_getf (q := 194) dX8_layWays_191 fl_X8_28 hM.1 rfl rfl ?_
                  refine ez_iload (q := 196) dX8_layWays_194 rfl rfl ?_
                  refine ez_iald (q := 197) dX8_layWays_196 hM.2.2.2.2.2.2.2.1 rfl (by omega) (by decide) rfl ?_
                  refine ez_top (t2.2.2.2) ?_
                  refine ez_iaddN (q := 198) dX8_layWays_197 rfl ?_
                  refine ez_top (y := nI (deW (ln w) (sg w) (i))) (congrArg nI (by rw [deW_ea hi hc]; split <;> first | rfl | omega)) ?_
                  refine sM_de (q := 199) dX8_layWays_198 hM rfl (by omega) rfl (fun g hM => ?_)
                  exact ez_vret dX8_layWays_199 rfl (hQ _ hM)
              · first
                | exact absurd rfl hc160
                | skip
                  refine ez_aload_n (q := 164) 0 dX8_layWays_163 rfl rfl rfl ?_
                  refine ez_getf (q := 167) dX8_layWays_164 fl_X8_28 hM.1 rfl rfl ?_
                  refine ez_iload (q := 169) dX8_layWays_167 rfl rfl ?_
                  refine ez_iald (q := 170) dX8_layWays_169 hM.2.2.2.2.2.2.2.1 rfl (by have := (h2u hc29).1; omega) (by decide) rfl ?_
                  refine ez_top ((t3 hc29).2.2.2) ?_
                  refine ez_aload_n (q := 171) 0 dX8_layWays_170 rfl rfl rfl ?_
                  refine ez_getf (q := 174) dX8_layWays_171 fl_X8_28 hM.1 rfl rfl ?_
                  refine ez_iload (q := 176) dX8_layWays_174 rfl rfl ?_
                  refine ez_iald (q := 177) dX8_layWays_176 hM.2.2.2.2.2.2.2.1 rfl (by omega) (by decide) rfl ?_
                  refine ez_top (t2.2.2.2) ?_
                  refine ez_icmpleN (q := 180) (tgt := 190) dX8_layWays_177 (by decide) (by omega) (by omega) rfl (fun hc177 => ?_) (fun hc177 => ?_)
                  · refine ez_aload_n (q := 191) 0 dX8_layWays_190 rfl rfl rfl ?_
                    refine ez_getf (q := 194) dX8_layWays_191 fl_X8_28 hM.1 rfl rfl ?_
                    refine ez_iload (q := 196) dX8_layWays_194 rfl rfl ?_
                    refine ez_iald (q := 197) dX8_layWays_196 hM.2.2.2.2.2.2.2.1 rfl (by omega) (by decide) rfl ?_
                    refine ez_top (t2.2.2.2) ?_
                    refine ez_iaddN (q := 198) dX8_layWays_197 rfl ?_
                    refine ez_top (y := nI (deW (ln w) (sg w) (i))) (congrArg nI (by rw [deW_ea hi hc]; split <;> first | rfl | omega)) ?_
                    refine sM_de (q := 199) dX8_layWays_198 hM rfl (by omega) rfl (fun g hM => ?_)
                    exact ez_vret dX8_layWays_199 rfl (hQ _ hM)
                  · refine ez_aload_n (q := 181) 0 dX8_layWays_180 rfl rfl rfl ?_
                    refine ez_getf (q := 184) dX8_layWays_181 fl_X8_28 hM.1 rfl rfl ?_
                    refine ez_iload (q := 186) dX8_layWays_184 rfl rfl ?_
                    refine ez_iald (q := 187) dX8_layWays_186 hM.2.2.2.2.2.2.2.1 rfl (by have := (h2u hc29).1; omega) (by decide) rfl ?_
                    refine ez_top ((t3 hc29).2.2.2) ?_
                    refine ez_goto (q := 197) dX8_layWays_187 (by decide) ?_
                    refine ez_iaddN (q := 198) dX8_layWays_197 rfl ?_
                    refine ez_top (y := nI (deW (ln w) (sg w) (i))) (congrArg nI (by rw [deW_ea hi hc]; split <;> first | rfl | omega)) ?_
                    refine sM_de (q := 199) dX8_layWays_198 hM rfl (by omega) rfl (fun g hM => ?_)
                    exact ez_vret dX8_layWays_199 rfl (hQ _ hM)
          · first
            | exact absurd rfl hc136
            | skip
              refine ez_aload_n (q := 140) 0 dX8_layWays_139 rfl rfl rfl ?_
              refine ez_getf (q := 143) dX8_layWays_140 fl_X8_25 hM.1 rfl rfl ?_
              refine ez_iload (q := 145) dX8_layWays_143 rfl rfl ?_
              refine ez_iald (q := 146) dX8_layWays_145 hM.2.2.2.2.2.2.1 rfl (by have := (h2u hc29).1; omega) (by decide) rfl ?_
              refine ez_top ((t3 hc29).2.2.1) ?_
              refine ez_goto (q := 150) dX8_layWays_146 (by decide) ?_
              refine ez_iaddN (q := 151) dX8_layWays_150 rfl ?_
              refine ez_top (y := nI (leW (ln w) (sg w) (i))) (congrArg nI (by rw [leW_ea hi hc]; first | rw [if_pos hc29] | rw [if_neg hc29])) ?_
              refine sM_le (q := 152) dX8_layWays_151 hM rfl (by omega) rfl (fun g hM => ?_)
              refine ez_aload_n (q := 153) 0 dX8_layWays_152 rfl rfl rfl ?_
              refine ez_getf (q := 156) dX8_layWays_153 fl_X8_28 hM.1 rfl rfl ?_
              refine ez_iload_n (q := 157) 2 dX8_layWays_156 rfl rfl rfl ?_
              refine ez_iconst (v := nI 1) (q := 158) dX8_layWays_157 (by decide) rfl ?_
              refine ez_iload (q := 160) dX8_layWays_158 rfl rfl ?_
              refine ez_ifeqN (q := 163) (tgt := 190) dX8_layWays_160 (by decide) (by decide) rfl (fun hc160 => ?_) (fun hc160 => ?_)
              · first
                | exact absurd hc160 (by decide)
                | skip
                  refine ez_aload_n (q := 191) 0 dX8_layWays_190 rfl rfl rfl ?_
                  refine ez_getf (q := 194) dX8_layWays_191 fl_X8_28 hM.1 rfl rfl ?_
                  refine ez_iload (q := 196) dX8_layWays_194 rfl rfl ?_
                  refine ez_iald (q := 197) dX8_layWays_196 hM.2.2.2.2.2.2.2.1 rfl (by omega) (by decide) rfl ?_
                  refine ez_top (t2.2.2.2) ?_
                  refine ez_iaddN (q := 198) dX8_layWays_197 rfl ?_
                  refine ez_top (y := nI (deW (ln w) (sg w) (i))) (congrArg nI (by rw [deW_ea hi hc]; split <;> first | rfl | omega)) ?_
                  refine sM_de (q := 199) dX8_layWays_198 hM rfl (by omega) rfl (fun g hM => ?_)
                  exact ez_vret dX8_layWays_199 rfl (hQ _ hM)
              · first
                | exact absurd rfl hc160
                | skip
                  refine ez_aload_n (q := 164) 0 dX8_layWays_163 rfl rfl rfl ?_
                  refine ez_getf (q := 167) dX8_layWays_164 fl_X8_28 hM.1 rfl rfl ?_
                  refine ez_iload (q := 169) dX8_layWays_167 rfl rfl ?_
                  refine ez_iald (q := 170) dX8_layWays_169 hM.2.2.2.2.2.2.2.1 rfl (by have := (h2u hc29).1; omega) (by decide) rfl ?_
                  refine ez_top ((t3 hc29).2.2.2) ?_
                  refine ez_aload_n (q := 171) 0 dX8_layWays_170 rfl rfl rfl ?_
                  refine ez_getf (q := 174) dX8_layWays_171 fl_X8_28 hM.1 rfl rfl ?_
                  refine ez_iload (q := 176) dX8_layWays_174 rfl rfl ?_
                  refine ez_iald (q := 177) dX8_layWays_176 hM.2.2.2.2.2.2.2.1 rfl (by omega) (by decide) rfl ?_
                  refine ez_top (t2.2.2.2) ?_
                  refine ez_icmpleN (q := 180) (tgt := 190) dX8_layWays_177 (by decide) (by omega) (by omega) rfl (fun hc177 => ?_) (fun hc177 => ?_)
                  · refine ez_aload_n (q := 191) 0 dX8_layWays_190 rfl rfl rfl ?_
                    refine ez_getf (q := 194) dX8_layWays_191 fl_X8_28 hM.1 rfl rfl ?_
                    refine ez_iload (q := 196) dX8_layWays_194 rfl rfl ?_
                    refine ez_iald (q := 197) dX8_layWays_196 hM.2.2.2.2.2.2.2.1 rfl (by omega) (by decide) rfl ?_
                    refine ez_top (t2.2.2.2) ?_
                    refine ez_iaddN (q := 198) dX8_layWays_197 rfl ?_
                    refine ez_top (y := nI (deW (ln w) (sg w) (i))) (congrArg nI (by rw [deW_ea hi hc]; split <;> first | rfl | omega)) ?_
                    refine sM_de (q := 199) dX8_layWays_198 hM rfl (by omega) rfl (fun g hM => ?_)
                    exact ez_vret dX8_layWays_199 rfl (hQ _ hM)
                  · refine ez_aload_n (q := 181) 0 dX8_layWays_180 rfl rfl rfl ?_
                    refine ez_getf (q := 184) dX8_layWays_181 fl_X8_28 hM.1 rfl rfl ?_
                    refine ez_iload (q := 186) dX8_layWays_184 rfl rfl ?_
                    refine ez_iald (q := 187) dX8_layWays_186 hM.2.2.2.2.2.2.2.1 rfl (by have := (h2u hc29).1; omega) (by decide) rfl ?_
                    refine ez_top ((t3 hc29).2.2.2) ?_
                    refine ez_goto (q := 197) dX8_layWays_187 (by decide) ?_
                    refine ez_iaddN (q := 198) dX8_layWays_197 rfl ?_
                    refine ez_top (y := nI (deW (ln w) (sg w) (i))) (congrArg nI (by rw [deW_ea hi hc]; split <;> first | rfl | omega)) ?_
                    refine sM_de (q := 199) dX8_layWays_198 hM rfl (by omega) rfl (fun g hM => ?_)
                    exact ez_vret dX8_layWays_199 rfl (hQ _ hM)
    · first
      | exact absurd rfl hc41
      | skip
        refine ez_aload_n (q := 45) 0 dX8_layWays_44 rfl rfl rfl ?_
        refine ez_getf (q := 48) dX8_layWays_45 fl_X8_19 hM.1 rfl rfl ?_
        refine ez_iload (q := 50) dX8_layWays_48 rfl rfl ?_
        refine ez_iald (q := 51) dX8_layWays_50 hM.2.2.2.2.1 rfl (by have := (h2u hc29).1; omega) (by decide) rfl ?_
        refine ez_top ((t3 hc29).1) ?_
        refine ez_goto (q := 55) dX8_layWays_51 (by decide) ?_
        refine ez_istore_7 (q := 57) dX8_layWays_55 (by decide) rfl rfl ?_
        refine ez_aload_n (q := 58) 0 dX8_layWays_57 rfl rfl rfl ?_
        refine ez_iconst (v := nI 0) (q := 59) dX8_layWays_58 (by decide) rfl ?_
        refine pM_rd (q := 62) dX8_layWays_59 fl_X8_76 hM rfl (fun g hM => ?_)
        refine ez_aload_n (q := 63) 0 dX8_layWays_62 rfl rfl rfl ?_
        refine ez_getf (q := 66) dX8_layWays_63 fl_X8_19 hM.1 rfl rfl ?_
        refine ez_iload_n (q := 67) 2 dX8_layWays_66 rfl rfl rfl ?_
        refine ez_aload_n (q := 68) 0 dX8_layWays_67 rfl rfl rfl ?_
        refine ez_iload_n (q := 69) 1 dX8_layWays_68 rfl rfl rfl ?_
        refine ez_iload_n (q := 70) 2 dX8_layWays_69 rfl rfl rfl ?_
        refine cMv (q := 73) dX8_layWays_70 ck_X8_91 hM (t_X8_signAt hM.rb hz ho hw hi) rfl rfl rfl rfl rfl (Nat.le_of_ble_eq_true rfl) rfl (fun g hM => ?_)
        refine ez_bipush (v := nI 69) (q := 75) dX8_layWays_73 (by decide) rfl ?_
        refine ez_icmpneN (q := 78) (tgt := 95) dX8_layWays_75 (by decide) (by have := wf_c hwf hi; omega) (by decide) rfl (fun hc75 => ?_) (fun hc75 => ?_)
        · refine ez_aload_n (q := 96) 0 dX8_layWays_95 rfl rfl rfl ?_
          refine ez_iload_n (q := 97) 3 dX8_layWays_96 rfl rfl rfl ?_
          refine ez_aload_n (q := 98) 0 dX8_layWays_97 rfl rfl rfl ?_
          refine ez_getf (q := 101) dX8_layWays_98 fl_X8_19 hM.1 rfl rfl ?_
          refine ez_iload (q := 103) dX8_layWays_101 rfl rfl ?_
          refine ez_iald (q := 104) dX8_layWays_103 hM.2.2.2.2.1 rfl (by omega) (by decide) rfl ?_
          refine ez_top (t2.1) ?_
          refine ez_iload (q := 106) dX8_layWays_104 rfl rfl ?_
          refine cMv (q := 109) dX8_layWays_106 ck_X8_98 hM (t_X8_every hM.rb hz ho hk) rfl rfl rfl rfl rfl (Nat.le_of_ble_eq_true rfl) rfl (fun g hM => ?_)
          have er := roW_A (T := T) (n := n') (f := f) (L := L) (m := ln w) (s := sg w) (j := i) (by omega)
          first | rw [if_pos hc29] at er | rw [if_neg hc29] at er
          rw [Nat.zero_add, ← er] at hM
          refine ez_top (y := nI (seW T n' f L (ln w) (sg w) (i))) (congrArg nI (by first | (rw [seW_E hi hc75]; first | rw [if_pos hc29] | rw [if_neg hc29]) | (rw [seW_A hi (by omega)]; first | rw [if_pos hc29] | rw [if_neg hc29]))) ?_
          refine sM_se (q := 110) dX8_layWays_109 hM rfl (by omega) rfl (fun g hM => ?_)
          refine ez_aload_n (q := 111) 0 dX8_layWays_110 rfl rfl rfl ?_
          refine ez_getf (q := 114) dX8_layWays_111 fl_X8_22 hM.1 rfl rfl ?_
          refine ez_iload_n (q := 115) 2 dX8_layWays_114 rfl rfl rfl ?_
          refine ez_aload_n (q := 116) 0 dX8_layWays_115 rfl rfl rfl ?_
          refine ez_getf (q := 119) dX8_layWays_116 fl_X8_76 hM.1 rfl rfl ?_
          refine sM_ro (q := 120) dX8_layWays_119 hM rfl (by omega) rfl (fun g hM => ?_)
          refine ez_aload_n (q := 121) 0 dX8_layWays_120 rfl rfl rfl ?_
          refine ez_getf (q := 124) dX8_layWays_121 fl_X8_25 hM.1 rfl rfl ?_
          refine ez_iload_n (q := 125) 2 dX8_layWays_124 rfl rfl rfl ?_
          refine ez_iconst (v := nI 2) (q := 126) dX8_layWays_125 (by decide) rfl ?_
          refine ez_aload_n (q := 127) 0 dX8_layWays_126 rfl rfl rfl ?_
          refine ez_getf (q := 130) dX8_layWays_127 fl_X8_25 hM.1 rfl rfl ?_
          refine ez_iload (q := 132) dX8_layWays_130 rfl rfl ?_
          refine ez_iald (q := 133) dX8_layWays_132 hM.2.2.2.2.2.2.1 rfl (by omega) (by decide) rfl ?_
          refine ez_top (t2.2.2.1) ?_
          refine ez_iaddN (q := 134) dX8_layWays_133 rfl ?_
          refine ez_iload (q := 136) dX8_layWays_134 rfl rfl ?_
          refine ez_ifeqN (q := 139) (tgt := 149) dX8_layWays_136 (by decide) (by decide) rfl (fun hc136 => ?_) (fun hc136 => ?_)
          · first
            | exact absurd hc136 (by decide)
            | skip
              refine ez_iconst (v := nI 0) (q := 150) dX8_layWays_149 (by decide) rfl ?_
              refine ez_iaddN (q := 151) dX8_layWays_150 rfl ?_
              refine ez_top (y := nI (leW (ln w) (sg w) (i))) (congrArg nI (by rw [leW_ea hi hc]; first | rw [if_pos hc29] | rw [if_neg hc29])) ?_
              refine sM_le (q := 152) dX8_layWays_151 hM rfl (by omega) rfl (fun g hM => ?_)
              refine ez_aload_n (q := 153) 0 dX8_layWays_152 rfl rfl rfl ?_
              refine ez_getf (q := 156) dX8_layWays_153 fl_X8_28 hM.1 rfl rfl ?_
              refine ez_iload_n (q := 157) 2 dX8_layWays_156 rfl rfl rfl ?_
              refine ez_iconst (v := nI 1) (q := 158) dX8_layWays_157 (by decide) rfl ?_
              refine ez_iload (q := 160) dX8_layWays_158 rfl rfl ?_
              refine ez_ifeqN (q := 163) (tgt := 190) dX8_layWays_160 (by decide) (by decide) rfl (fun hc160 => ?_) (fun hc160 => ?_)
              · first
                | exact absurd hc160 (by decide)
                | skip
                  refine ez_aload_n (q := 191) 0 dX8_layWays_190 rfl rfl rfl ?_
                  refine ez_getf (q := 194) dX8_layWays_191 fl_X8_28 hM.1 rfl rfl ?_
                  refine ez_iload (q := 196) dX8_layWays_194 rfl rfl ?_
                  refine ez_iald (q := 197) dX8_layWays_196 hM.2.2.2.2.2.2.2.1 rfl (by omega) (by decide) rfl ?_
                  refine ez_top (t2.2.2.2) ?_
                  refine ez_iaddN (q := 198) dX8_layWays_197 rfl ?_
                  refine ez_top (y := nI (deW (ln w) (sg w) (i))) (congrArg nI (by rw [deW_ea hi hc]; split <;> first | rfl | omega)) ?_
                  refine sM_de (q := 199) dX8_layWays_198 hM rfl (by omega) rfl (fun g hM => ?_)
                  exact ez_vret dX8_layWays_199 rfl (hQ _ hM)
              · first
                | exact absurd rfl hc160
                | skip
                  refine ez_aload_n (q := 164) 0 dX8_layWays_163 rfl rfl rfl ?_
                  refine ez_getf (q := 167) dX8_layWays_164 fl_X8_28 hM.1 rfl rfl ?_
                  refine ez_iload (q := 169) dX8_layWays_167 rfl rfl ?_
                  refine ez_iald (q := 170) dX8_layWays_169 hM.2.2.2.2.2.2.2.1 rfl (by have := (h2u hc29).1; omega) (by decide) rfl ?_
                  refine ez_top ((t3 hc29).2.2.2) ?_
                  refine ez_aload_n (q := 171) 0 dX8_layWays_170 rfl rfl rfl ?_
                  refine ez_getf (q := 174) dX8_layWays_171 fl_X8_28 hM.1 rfl rfl ?_
                  refine ez_iload (q := 176) dX8_layWays_174 rfl rfl ?_
                  refine ez_iald (q := 177) dX8_layWays_176 hM.2.2.2.2.2.2.2.1 rfl (by omega) (by decide) rfl ?_
                  refine ez_top (t2.2.2.2) ?_
                  refine ez_icmpleN (q := 180) (tgt := 190) dX8_layWays_177 (by decide) (by omega) (by omega) rfl (fun hc177 => ?_) (fun hc177 => ?_)
                  · refine ez_aload_n (q := 191) 0 dX8_layWays_190 rfl rfl rfl ?_
                    refine ez_getf (q := 194) dX8_layWays_191 fl_X8_28 hM.1 rfl rfl ?_
                    refine ez_iload (q := 196) dX8_layWays_194 rfl rfl ?_
                    refine ez_iald (q := 197) dX8_layWays_196 hM.2.2.2.2.2.2.2.1 rfl (by omega) (by decide) rfl ?_
                    refine ez_top (t2.2.2.2) ?_
                    refine ez_iaddN (q := 198) dX8_layWays_197 rfl ?_
                    refine ez_top (y := nI (deW (ln w) (sg w) (i))) (congrArg nI (by rw [deW_ea hi hc]; split <;> first | rfl | omega)) ?_
                    refine sM_de (q := 199) dX8_layWays_198 hM rfl (by omega) rfl (fun g hM => ?_)
                    exact ez_vret dX8_layWays_199 rfl (hQ _ hM)
                  · refine ez_aload_n (q := 181) 0 dX8_layWays_180 rfl rfl rfl ?_
                    refine ez_getf (q := 184) dX8_layWays_181 fl_X8_28 hM.1 rfl rfl ?_
                    refine ez_iload (q := 186) dX8_layWays_184 rfl rfl ?_
                    refine ez_iald (q := 187) dX8_layWays_186 hM.2.2.2.2.2.2.2.1 rfl (by have := (h2u hc29).1; omega) (by decide) rfl ?_
                    refine ez_top ((t3 hc29).2.2.2) ?_
                    refine ez_goto (q := 197) dX8_layWays_187 (by decide) ?_
                    refine ez_iaddN (q := 198) dX8_layWays_197 rfl ?_
                    refine ez_top (y := nI (deW (ln w) (sg w) (i))) (congrArg nI (by rw [deW_ea hi hc]; split <;> first | rfl | omega)) ?_
                    refine sM_de (q := 199) dX8_layWays_198 hM rfl (by omega) rfl (fun g hM => ?_)
                    exact ez_vret dX8_layWays_199 rfl (hQ _ hM)
          · first
            | exact absurd rfl hc136
            | skip
              refine ez_aload_n (q := 140) 0 dX8_layWays_139 rfl rfl rfl ?_
              refine ez_getf (q := 143) dX8_layWays_140 fl_X8_25 hM.1 rfl rfl ?_
              refine ez_iload (q := 145) dX8_layWays_143 rfl rfl ?_
              refine ez_iald (q := 146) dX8_layWays_145 hM.2.2.2.2.2.2.1 rfl (by have := (h2u hc29).1; omega) (by decide) rfl ?_
              refine ez_top ((t3 hc29).2.2.1) ?_
              refine ez_goto (q := 150) dX8_layWays_146 (by decide) ?_
              refine ez_iaddN (q := 151) dX8_layWays_150 rfl ?_
              refine ez_top (y := nI (leW (ln w) (sg w) (i))) (congrArg nI (by rw [leW_ea hi hc]; first | rw [if_pos hc29] | rw [if_neg hc29])) ?_
              refine sM_le (q := 152) dX8_layWays_151 hM rfl (by omega) rfl (fun g hM => ?_)
              refine ez_aload_n (q := 153) 0 dX8_layWays_152 rfl rfl rfl ?_
              refine ez_getf (q := 156) dX8_layWays_153 fl_X8_28 hM.1 rfl rfl ?_
              refine ez_iload_n (q := 157) 2 dX8_layWays_156 rfl rfl rfl ?_
              refine ez_iconst (v := nI 1) (q := 158) dX8_layWays_157 (by decide) rfl ?_
              refine ez_iload (q := 160) dX8_layWays_158 rfl rfl ?_
              refine ez_ifeqN (q := 163) (tgt := 190) dX8_layWays_160 (by decide) (by decide) rfl (fun hc160 => ?_) (fun hc160 => ?_)
              · first
                | exact absurd hc160 (by decide)
                | skip
                  refine ez_aload_n (q := 191) 0 dX8_layWays_190 rfl rfl rfl ?_
                  refine ez_getf (q := 194) dX8_layWays_191 fl_X8_28 hM.1 rfl rfl ?_
                  refine ez_iload (q := 196) dX8_layWays_194 rfl rfl ?_
                  refine ez_iald (q := 197) dX8_layWays_196 hM.2.2.2.2.2.2.2.1 rfl (by omega) (by decide) rfl ?_
                  refine ez_top (t2.2.2.2) ?_
                  refine ez_iaddN (q := 198) dX8_layWays_197 rfl ?_
                  refine ez_top (y := nI (deW (ln w) (sg w) (i))) (congrArg nI (by rw [deW_ea hi hc]; split <;> first | rfl | omega)) ?_
                  refine sM_de (q := 199) dX8_layWays_198 hM rfl (by omega) rfl (fun g hM => ?_)
                  exact ez_vret dX8_layWays_199 rfl (hQ _ hM)
              · first
                | exact absurd rfl hc160
                | skip
                  refine ez_aload_n (q := 164) 0 dX8_layWays_163 rfl rfl rfl ?_
                  refine ez_getf (q := 167) dX8_layWays_164 fl_X8_28 hM.1 rfl rfl ?_
                  refine ez_iload (q := 169) dX8_layWays_167 rfl rfl ?_
                  refine ez_iald (q := 170) dX8_layWays_169 hM.2.2.2.2.2.2.2.1 rfl (by have := (h2u hc29).1; omega) (by decide) rfl ?_
                  refine ez_top ((t3 hc29).2.2.2) ?_
                  refine ez_aload_n (q := 171) 0 dX8_layWays_170 rfl rfl rfl ?_
                  refine ez_getf (q := 174) dX8_layWays_171 fl_X8_28 hM.1 rfl rfl ?_
                  refine ez_iload (q := 176) dX8_layWays_174 rfl rfl ?_
                  refine ez_iald (q := 177) dX8_layWays_176 hM.2.2.2.2.2.2.2.1 rfl (by omega) (by decide) rfl ?_
                  refine ez_top (t2.2.2.2) ?_
                  refine ez_icmpleN (q := 180) (tgt := 190) dX8_layWays_177 (by decide) (by omega) (by omega) rfl (fun hc177 => ?_) (fun hc177 => ?_)
                  · refine ez_aload_n (q := 191) 0 dX8_layWays_190 rfl rfl rfl ?_
                    refine ez_getf (q := 194) dX8_layWays_191 fl_X8_28 hM.1 rfl rfl ?_
                    refine ez_iload (q := 196) dX8_layWays_194 rfl rfl ?_
                    refine ez_iald (q := 197) dX8_layWays_196 hM.2.2.2.2.2.2.2.1 rfl (by omega) (by decide) rfl ?_
                    refine ez_top (t2.2.2.2) ?_
                    refine ez_iaddN (q := 198) dX8_layWays_197 rfl ?_
                    refine ez_top (y := nI (deW (ln w) (sg w) (i))) (congrArg nI (by rw [deW_ea hi hc]; split <;> first | rfl | omega)) ?_
                    refine sM_de (q := 199) dX8_layWays_198 hM rfl (by omega) rfl (fun g hM => ?_)
                    exact ez_vret dX8_layWays_199 rfl (hQ _ hM)
                  · refine ez_aload_n (q := 181) 0 dX8_layWays_180 rfl rfl rfl ?_
                    refine ez_getf (q := 184) dX8_layWays_181 fl_X8_28 hM.1 rfl rfl ?_
                    refine ez_iload (q := 186) dX8_layWays_184 rfl rfl ?_
                    refine ez_iald (q := 187) dX8_layWays_186 hM.2.2.2.2.2.2.2.1 rfl (by have := (h2u hc29).1; omega) (by decide) rfl ?_
                    refine ez_top ((t3 hc29).2.2.2) ?_
                    refine ez_goto (q := 197) dX8_layWays_187 (by decide) ?_
                    refine ez_iaddN (q := 198) dX8_layWays_197 rfl ?_
                    refine ez_top (y := nI (deW (ln w) (sg w) (i))) (congrArg nI (by rw [deW_ea hi hc]; split <;> first | rfl | omega)) ?_
                    refine sM_de (q := 199) dX8_layWays_198 hM rfl (by omega) rfl (fun g hM => ?_)
                    exact ez_vret dX8_layWays_199 rfl (hQ _ hM)
        · refine ez_aload_n (q := 79) 0 dX8_layWays_78 rfl rfl rfl ?_
          refine ez_iload_n (q := 80) 3 dX8_layWays_79 rfl rfl rfl ?_
          refine ez_aload_n (q := 81) 0 dX8_layWays_80 rfl rfl rfl ?_
          refine ez_getf (q := 84) dX8_layWays_81 fl_X8_19 hM.1 rfl rfl ?_
          refine ez_iload (q := 86) dX8_layWays_84 rfl rfl ?_
          refine ez_iald (q := 87) dX8_layWays_86 hM.2.2.2.2.1 rfl (by omega) (by decide) rfl ?_
          refine ez_top (t2.1) ?_
          refine ez_iload (q := 89) dX8_layWays_87 rfl rfl ?_
          refine cMv (q := 92) dX8_layWays_89 ck_X8_94 hM (t_X8_some hM.rb hz ho hk (seW_l _ _ _ _ _ _ _) (by first | exact seW_l _ _ _ _ _ _ _ | exact Nat.two_pow_pos n')) rfl rfl rfl rfl rfl (Nat.le_of_ble_eq_true rfl) rfl (fun g hM => ?_)
          have er := roW_E (T := T) (n := n') (f := f) (L := L) (m := ln w) hc75
          first | rw [if_pos hc29] at er | rw [if_neg hc29] at er
          rw [Nat.zero_add, ← er] at hM
          refine ez_goto (q := 109) dX8_layWays_92 (by decide) ?_
          refine ez_top (y := nI (seW T n' f L (ln w) (sg w) (i))) (congrArg nI (by first | (rw [seW_E hi hc75]; first | rw [if_pos hc29] | rw [if_neg hc29]) | (rw [seW_A hi (by omega)]; first | rw [if_pos hc29] | rw [if_neg hc29]))) ?_
          refine sM_se (q := 110) dX8_layWays_109 hM rfl (by omega) rfl (fun g hM => ?_)
          refine ez_aload_n (q := 111) 0 dX8_layWays_110 rfl rfl rfl ?_
          refine ez_getf (q := 114) dX8_layWays_111 fl_X8_22 hM.1 rfl rfl ?_
          refine ez_iload_n (q := 115) 2 dX8_layWays_114 rfl rfl rfl ?_
          refine ez_aload_n (q := 116) 0 dX8_layWays_115 rfl rfl rfl ?_
          refine ez_getf (q := 119) dX8_layWays_116 fl_X8_76 hM.1 rfl rfl ?_
          refine sM_ro (q := 120) dX8_layWays_119 hM rfl (by omega) rfl (fun g hM => ?_)
          refine ez_aload_n (q := 121) 0 dX8_layWays_120 rfl rfl rfl ?_
          refine ez_getf (q := 124) dX8_layWays_121 fl_X8_25 hM.1 rfl rfl ?_
          refine ez_iload_n (q := 125) 2 dX8_layWays_124 rfl rfl rfl ?_
          refine ez_iconst (v := nI 2) (q := 126) dX8_layWays_125 (by decide) rfl ?_
          refine ez_aload_n (q := 127) 0 dX8_layWays_126 rfl rfl rfl ?_
          refine ez_getf (q := 130) dX8_layWays_127 fl_X8_25 hM.1 rfl rfl ?_
          refine ez_iload (q := 132) dX8_layWays_130 rfl rfl ?_
          refine ez_iald (q := 133) dX8_layWays_132 hM.2.2.2.2.2.2.1 rfl (by omega) (by decide) rfl ?_
          refine ez_top (t2.2.2.1) ?_
          refine ez_iaddN (q := 134) dX8_layWays_133 rfl ?_
          refine ez_iload (q := 136) dX8_layWays_134 rfl rfl ?_
          refine ez_ifeqN (q := 139) (tgt := 149) dX8_layWays_136 (by decide) (by decide) rfl (fun hc136 => ?_) (fun hc136 => ?_)
          · first
            | exact absurd hc136 (by decide)
            | skip
              refine ez_iconst (v := nI 0) (q := 150) dX8_layWays_149 (by decide) rfl ?_
              refine ez_iaddN (q := 151) dX8_layWays_150 rfl ?_
              refine ez_top (y := nI (leW (ln w) (sg w) (i))) (congrArg nI (by rw [leW_ea hi hc]; first | rw [if_pos hc29] | rw [if_neg hc29])) ?_
              refine sM_le (q := 152) dX8_layWays_151 hM rfl (by omega) rfl (fun g hM => ?_)
              refine ez_aload_n (q := 153) 0 dX8_layWays_152 rfl rfl rfl ?_
              refine ez_getf (q := 156) dX8_layWays_153 fl_X8_28 hM.1 rfl rfl ?_
              refine ez_iload_n (q := 157) 2 dX8_layWays_156 rfl rfl rfl ?_
              refine ez_iconst (v := nI 1) (q := 158) dX8_layWays_157 (by decide) rfl ?_
              refine ez_iload (q := 160) dX8_layWays_158 rfl rfl ?_
              refine ez_ifeqN (q := 163) (tgt := 190) dX8_layWays_160 (by decide) (by decide) rfl (fun hc160 => ?_) (fun hc160 => ?_)
              · first
                | exact absurd hc160 (by decide)
                | skip
                  refine ez_aload_n (q := 191) 0 dX8_layWays_190 rfl rfl rfl ?_
                  refine ez_getf (q := 194) dX8_layWays_191 fl_X8_28 hM.1 rfl rfl ?_
                  refine ez_iload (q := 196) dX8_layWays_194 rfl rfl ?_
                  refine ez_iald (q := 197) dX8_layWays_196 hM.2.2.2.2.2.2.2.1 rfl (by omega) (by decide) rfl ?_
                  refine ez_top (t2.2.2.2) ?_
                  refine ez_iaddN (q := 198) dX8_layWays_197 rfl ?_
                  refine ez_top (y := nI (deW (ln w) (sg w) (i))) (congrArg nI (by rw [deW_ea hi hc]; split <;> first | rfl | omega)) ?_
                  refine sM_de (q := 199) dX8_layWays_198 hM rfl (by omega) rfl (fun g hM => ?_)
                  exact ez_vret dX8_layWays_199 rfl (hQ _ hM)
              · first
                | exact absurd rfl hc160
                | skip
                  refine ez_aload_n (q := 164) 0 dX8_layWays_163 rfl rfl rfl ?_
                  refine ez_getf (q := 167) dX8_layWays_164 fl_X8_28 hM.1 rfl rfl ?_
                  refine ez_iload (q := 169) dX8_layWays_167 rfl rfl ?_
                  refine ez_iald (q := 170) dX8_layWays_169 hM.2.2.2.2.2.2.2.1 rfl (by have := (h2u hc29).1; omega) (by decide) rfl ?_
                  refine ez_top ((t3 hc29).2.2.2) ?_
                  refine ez_aload_n (q := 171) 0 dX8_layWays_170 rfl rfl rfl ?_
                  refine ez_getf (q := 174) dX8_layWays_171 fl_X8_28 hM.1 rfl rfl ?_
                  refine ez_iload (q := 176) dX8_layWays_174 rfl rfl ?_
                  refine ez_iald (q := 177) dX8_layWays_176 hM.2.2.2.2.2.2.2.1 rfl (by omega) (by decide) rfl ?_
                  refine ez_top (t2.2.2.2) ?_
                  refine ez_icmpleN (q := 180) (tgt := 190) dX8_layWays_177 (by decide) (by omega) (by omega) rfl (fun hc177 => ?_) (fun hc177 => ?_)
                  · refine ez_aload_n (q := 191) 0 dX8_layWays_190 rfl rfl rfl ?_
                    refine ez_getf (q := 194) dX8_layWays_191 fl_X8_28 hM.1 rfl rfl ?_
                    refine ez_iload (q := 196) dX8_layWays_194 rfl rfl ?_
                    refine ez_iald (q := 197) dX8_layWays_196 hM.2.2.2.2.2.2.2.1 rfl (by omega) (by decide) rfl ?_
                    refine ez_top (t2.2.2.2) ?_
                    refine ez_iaddN (q := 198) dX8_layWays_197 rfl ?_
                    refine ez_top (y := nI (deW (ln w) (sg w) (i))) (congrArg nI (by rw [deW_ea hi hc]; split <;> first | rfl | omega)) ?_
                    refine sM_de (q := 199) dX8_layWays_198 hM rfl (by omega) rfl (fun g hM => ?_)
                    exact ez_vret dX8_layWays_199 rfl (hQ _ hM)
                  · refine ez_aload_n (q := 181) 0 dX8_layWays_180 rfl rfl rfl ?_
                    refine ez_getf (q := 184) dX8_layWays_181 fl_X8_28 hM.1 rfl rfl ?_
                    refine ez_iload (q := 186) dX8_layWays_184 rfl rfl ?_
                    refine ez_iald (q := 187) dX8_layWays_186 hM.2.2.2.2.2.2.2.1 rfl (by have := (h2u hc29).1; omega) (by decide) rfl ?_
                    refine ez_top ((t3 hc29).2.2.2) ?_
                    refine ez_goto (q := 197) dX8_layWays_187 (by decide) ?_
                    refine ez_iaddN (q := 198) dX8_layWays_197 rfl ?_
                    refine ez_top (y := nI (deW (ln w) (sg w) (i))) (congrArg nI (by rw [deW_ea hi hc]; split <;> first | rfl | omega)) ?_
                    refine sM_de (q := 199) dX8_layWays_198 hM rfl (by omega) rfl (fun g hM => ?_)
                    exact ez_vret dX8_layWays_199 rfl (hQ _ hM)
          · first
            | exact absurd rfl hc136
            | skip
              refine ez_aload_n (q := 140) 0 dX8_layWays_139 rfl rfl rfl ?_
              refine ez_getf (q := 143) dX8_layWays_140 fl_X8_25 hM.1 rfl rfl ?_
              refine ez_iload (q := 145) dX8_layWays_143 rfl rfl ?_
              refine ez_iald (q := 146) dX8_layWays_145 hM.2.2.2.2.2.2.1 rfl (by have := (h2u hc29).1; omega) (by decide) rfl ?_
              refine ez_top ((t3 hc29).2.2.1) ?_
              refine ez_goto (q := 150) dX8_layWays_146 (by decide) ?_
              refine ez_iaddN (q := 151) dX8_layWays_150 rfl ?_
              refine ez_top (y := nI (leW (ln w) (sg w) (i))) (congrArg nI (by rw [leW_ea hi hc]; first | rw [if_pos hc29] | rw [if_neg hc29])) ?_
              refine sM_le (q := 152) dX8_layWays_151 hM rfl (by omega) rfl (fun g hM => ?_)
              refine ez_aload_n (q := 153) 0 dX8_layWays_152 rfl rfl rfl ?_
              refine ez_getf (q := 156) dX8_layWays_153 fl_X8_28 hM.1 rfl rfl ?_
              refine ez_iload_n (q := 157) 2 dX8_layWays_156 rfl rfl rfl ?_
              refine ez_iconst (v := nI 1) (q := 158) dX8_layWays_157 (by decide) rfl ?_
              refine ez_iload (q := 160) dX8_layWays_158 rfl rfl ?_
              refine ez_ifeqN (q := 163) (tgt := 190) dX8_layWays_160 (by decide) (by decide) rfl (fun hc160 => ?_) (fun hc160 => ?_)
              · first
                | exact absurd hc160 (by decide)
                | skip
                  refine ez_aload_n (q := 191) 0 dX8_layWays_190 rfl rfl rfl ?_
                  refine ez_getf (q := 194) dX8_layWays_191 fl_X8_28 hM.1 rfl rfl ?_
                  refine ez_iload (q := 196) dX8_layWays_194 rfl rfl ?_
                  refine ez_iald (q := 197) dX8_layWays_196 hM.2.2.2.2.2.2.2.1 rfl (by omega) (by decide) rfl ?_
                  refine ez_top (t2.2.2.2) ?_
                  refine ez_iaddN (q := 198) dX8_layWays_197 rfl ?_
                  refine ez_top (y := nI (deW (ln w) (sg w) (i))) (congrArg nI (by rw [deW_ea hi hc]; split <;> first | rfl | omega)) ?_
                  refine sM_de (q := 199) dX8_layWays_198 hM rfl (by omega) rfl (fun g hM => ?_)
                  exact ez_vret dX8_layWays_199 rfl (hQ _ hM)
              · first
                | exact absurd rfl hc160
                | skip
                  refine ez_aload_n (q := 164) 0 dX8_layWays_163 rfl rfl rfl ?_
                  refine ez_getf (q := 167) dX8_layWays_164 fl_X8_28 hM.1 rfl rfl ?_
                  refine ez_iload (q := 169) dX8_layWays_167 rfl rfl ?_
                  refine ez_iald (q := 170) dX8_layWays_169 hM.2.2.2.2.2.2.2.1 rfl (by have := (h2u hc29).1; omega) (by decide) rfl ?_
                  refine ez_top ((t3 hc29).2.2.2) ?_
                  refine ez_aload_n (q := 171) 0 dX8_layWays_170 rfl rfl rfl ?_
                  refine ez_getf (q := 174) dX8_layWays_171 fl_X8_28 hM.1 rfl rfl ?_
                  refine ez_iload (q := 176) dX8_layWays_174 rfl rfl ?_
                  refine ez_iald (q := 177) dX8_layWays_176 hM.2.2.2.2.2.2.2.1 rfl (by omega) (by decide) rfl ?_
                  refine ez_top (t2.2.2.2) ?_
                  refine ez_icmpleN (q := 180) (tgt := 190) dX8_layWays_177 (by decide) (by omega) (by omega) rfl (fun hc177 => ?_) (fun hc177 => ?_)
                  · refine ez_aload_n (q := 191) 0 dX8_layWays_190 rfl rfl rfl ?_
                    refine ez_getf (q := 194) dX8_layWays_191 fl_X8_28 hM.1 rfl rfl ?_
                    refine ez_iload (q := 196) dX8_layWays_194 rfl rfl ?_
                    refine ez_iald (q := 197) dX8_layWays_196 hM.2.2.2.2.2.2.2.1 rfl (by omega) (by decide) rfl ?_
                    refine ez_top (t2.2.2.2) ?_
                    refine ez_iaddN (q := 198) dX8_layWays_197 rfl ?_
                    refine ez_top (y := nI (deW (ln w) (sg w) (i))) (congrArg nI (by rw [deW_ea hi hc]; split <;> first | rfl | omega)) ?_
                    refine sM_de (q := 199) dX8_layWays_198 hM rfl (by omega) rfl (fun g hM => ?_)
                    exact ez_vret dX8_layWays_199 rfl (hQ _ hM)
                  · refine ez_aload_n (q := 181) 0 dX8_layWays_180 rfl rfl rfl ?_
                    refine ez_getf (q := 184) dX8_layWays_181 fl_X8_28 hM.1 rfl rfl ?_
                    refine ez_iload (q := 186) dX8_layWays_184 rfl rfl ?_
                    refine ez_iald (q := 187) dX8_layWays_186 hM.2.2.2.2.2.2.2.1 rfl (by have := (h2u hc29).1; omega) (by decide) rfl ?_
                    refine ez_top ((t3 hc29).2.2.2) ?_
                    refine ez_goto (q := 197) dX8_layWays_187 (by decide) ?_
                    refine ez_iaddN (q := 198) dX8_layWays_197 rfl ?_
                    refine ez_top (y := nI (deW (ln w) (sg w) (i))) (congrArg nI (by rw [deW_ea hi hc]; split <;> first | rfl | omega)) ?_
                    refine sM_de (q := 199) dX8_layWays_198 hM rfl (by omega) rfl (fun g hM => ?_)
                    exact ez_vret dX8_layWays_199 rfl (hQ _ hM)

