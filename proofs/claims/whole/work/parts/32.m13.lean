set_option maxHeartbeats 800000 in
set_option maxRecDepth 100000 in
theorem t_X8_goesTo {G : ez_G} {d n : Nat} {h : ez_H} {l : List Nat} {w : Nat} {th sm ty rd wa fm ff : Int32} {z sv bf se ro le de rw sp : Nat → Int32} {ww : Bool} {ha : Int64} (hM : IM h h th z sv sm bf ty rd se ro le de wa ww rw (nI l.length) sp fm ff ha) (hl : l.length < 200) : Con G mX8_goesTo (d) [.ref 64, .int (nI w)] h n 0 0 (PM h n none th z sv sm bf ty rd se ro le de wa ww (upd rw l.length (nI w)) (nI (l ++ [w]).length) sp fm ff ha) := by
  refine Con.of [some (.ref 64), some (.int (nI w))] pl_X8 rfl (Nat.le_of_ble_eq_true rfl) rfl ?_
  have hQ : ∀ g, IM h g th z sv sm bf ty rd se ro le de wa ww (upd rw l.length (nI w)) (nI (l ++ [w]).length) sp fm ff ha → (PM h n none th z sv sm bf ty rd se ro le de wa ww (upd rw l.length (nI w)) (nI (l ++ [w]).length) sp fm ff ha) (.inl none) g n := fun g hM => ⟨rfl, hM, rfl⟩
  generalize PM h n none th z sv sm bf ty rd se ro le de wa ww (upd rw l.length (nI w)) (nI (l ++ [w]).length) sp fm ff ha = Q at hQ ⊢
  refine ez_aload_n (q := 1) 0 dX8_goesTo_0 rfl rfl rfl ?_
  refine ez_getf (q := 4) dX8_goesTo_1 fl_X8_31 hM.1 rfl rfl ?_
  refine ez_aload_n (q := 5) 0 dX8_goesTo_4 rfl rfl rfl ?_
  refine ez_getf (q := 8) dX8_goesTo_5 fl_X8_162 hM.1 rfl rfl ?_
  refine ez_iload_n (q := 9) 1 dX8_goesTo_8 rfl rfl rfl ?_
  refine sM_rw (q := 10) dX8_goesTo_9 hM rfl (by omega) rfl (fun g hM => ?_)
  refine ez_aload_n (q := 11) 0 dX8_goesTo_10 rfl rfl rfl ?_
  refine ez_dup (q := 12) dX8_goesTo_11 rfl rfl ?_
  refine ez_getf (q := 15) dX8_goesTo_12 fl_X8_162 hM.1 rfl rfl ?_
  refine ez_iconst (v := nI 1) (q := 16) dX8_goesTo_15 (by decide) rfl ?_
  refine ez_iaddN (q := 17) dX8_goesTo_16 rfl ?_
  refine ez_top (congrArg nI (show l.length + 1 = (l ++ [w]).length by simp)) ?_
  refine pM_rm (q := 20) dX8_goesTo_17 fl_X8_162 hM rfl (fun g hM => ?_)
  exact ez_vret dX8_goesTo_20 rfl (hQ _ hM)

set_option maxHeartbeats 800000 in
set_option maxRecDepth 100000 in
theorem t_X8_layFar {G : ez_G} {d n : Nat} {h : ez_H} {n' f : Nat} {L T ln : Nat → Nat} {sg : Nat → Nat → Nat} {y s : Nat} {th sm ty rd wa rm fm ff : Int32} {z sv bf se ro le de rw sp : Nat → Int32} {ww : Bool} {ha : Int64} (hM : IM h h th z sv sm bf ty rd se ro le de wa ww rw rm sp fm ff ha) (hz : ZZ z n' f L T ln sg) (ho : OK n' f L T ln sg) (hs : s < 2 ^ n') : Con G mX8_layFar (d + 1) [.ref 64, .int (nI y), .int (nI s)] h n 0 0 (PW n none (fun g => ∃ sp' : Nat → Int32, IM h g th z sv sm bf ty rd se ro le de wa ww rw rm sp' fm ff ha ∧ ∀ i, i < n' → sp' i = nI (dsN T n' y s 10 i))) := by
  have hn := ho.1
  have hn0 := hz.1
  refine Con.of [some (.ref 64), some (.int (nI y)), some (.int (nI s)), none, none, none, none] pl_X8 rfl (Nat.le_of_ble_eq_true rfl) rfl ?_
  have hQ : ∀ g (sp' : Nat → Int32), IM h g th z sv sm bf ty rd se ro le de wa ww rw rm sp' fm ff ha → (∀ i, i < n' → sp' i = nI (dsN T n' y s 10 i)) → (PW n none (fun g => ∃ sp' : Nat → Int32, IM h g th z sv sm bf ty rd se ro le de wa ww rw rm sp' fm ff ha ∧ ∀ i, i < n' → sp' i = nI (dsN T n' y s 10 i))) (.inl none) g n := fun g sp' h1 h2 => ⟨rfl, ⟨sp', h1, h2⟩, rfl⟩
  generalize PW n none (fun g => ∃ sp' : Nat → Int32, IM h g th z sv sm bf ty rd se ro le de wa ww rw rm sp' fm ff ha ∧ ∀ i, i < n' → sp' i = nI (dsN T n' y s 10 i)) = Q at hQ ⊢
  refine ez_iconst (v := nI 0) (q := 1) dX8_layFar_0 (by decide) rfl ?_
  refine ez_istore_3 (q := 2) dX8_layFar_1 rfl (by decide) rfl rfl ?_
  refine ez_loop (α := Nat) (fun i => n' - i) (P := fun i => ∀ (g : ez_H) (sp : Nat → Int32), IM h g th z sv sm bf ty rd se ro le de wa ww rw rm sp fm ff ha → (i ≤ n') → (∀ j, j < i → sp j = nI (dsN T n' y s 0 j)) → E G mX8_layFar (d + 1) Q g n 0 0 2 [some (.ref 64), some (.int (nI y)), some (.int (nI s)), some (.int (nI i)), none, none, none] []) ?_ 0 h _ hM (Nat.zero_le _) (fun j hj => absurd hj (by omega))
  intro i ih2 g sp hM hi h1
  refine ez_iload_n (q := 3) 3 dX8_layFar_2 rfl rfl rfl ?_
  refine ez_aload_n (q := 4) 0 dX8_layFar_3 rfl rfl rfl ?_
  refine ez_getf (q := 7) dX8_layFar_4 fl_X8_7 hM.1 rfl rfl ?_
  refine ez_iconst (v := nI 0) (q := 8) dX8_layFar_7 (by decide) rfl ?_
  refine ez_iald (q := 9) dX8_layFar_8 hM.2.1 rfl (by omega) (by decide) rfl ?_
  refine ez_top (hn0) ?_
  refine ez_icmpgeN (q := 12) (tgt := 39) dX8_layFar_9 (by decide) (by omega) (by omega) rfl (fun hc9 => ?_) (fun hc9 => ?_)
  · refine ez_iload_n (q := 40) 2 dX8_layFar_39 rfl rfl rfl ?_
    refine ez_istore_3 (q := 41) dX8_layFar_40 rfl (by decide) rfl rfl ?_
    refine ez_iconst (v := nI 1) (q := 42) dX8_layFar_41 (by decide) rfl ?_
    refine ez_istore_4 (q := 44) dX8_layFar_42 (by decide) rfl rfl ?_
    refine ez_loop (α := Nat) (fun k => 11 - k) (P := fun k => ∀ (g : ez_H) (sp : Nat → Int32), IM h g th z sv sm bf ty rd se ro le de wa ww rw rm sp fm ff ha → (k ≤ 10) → (∀ j, j < n' → sp j = nI (dsN T n' y s k j)) → E G mX8_layFar (d + 1) Q g n 0 0 44 [some (.ref 64), some (.int (nI y)), some (.int (nI s)), some (.int (nI (laN T n' y s k))), some (.int (nI (k + 1))), none, none] []) ?_ 0 g _ hM (by omega) (fun j hj => h1 j (by omega))
    intro k ih44 g sp hM hk h1
    refine ez_iload (q := 46) dX8_layFar_44 rfl rfl ?_
    refine ez_bipush (v := nI 10) (q := 48) dX8_layFar_46 (by decide) rfl ?_
    refine ez_icmpgtN (q := 51) (tgt := 125) dX8_layFar_48 (by decide) (by omega) (by omega) rfl (fun hc48 => ?_) (fun hc48 => ?_)
    · exact ez_vret dX8_layFar_125 rfl (by rw [show k = 10 from by omega] at h1; exact hQ _ _ hM h1)
    · refine ez_iload_n (q := 52) 1 dX8_layFar_51 rfl rfl rfl ?_
      refine ez_aload_n (q := 53) 0 dX8_layFar_52 rfl rfl rfl ?_
      refine ez_iload_n (q := 54) 3 dX8_layFar_53 rfl rfl rfl ?_
      refine cMv (q := 57) dX8_layFar_54 ck_X8_73 hM (t_X8_into hM.rb hz ho) rfl rfl rfl rfl rfl (Nat.le_of_ble_eq_true rfl) rfl (fun g hM => ?_)
      refine ez_iandN (q := 58) dX8_layFar_57 rfl ?_
      refine ez_iload_n (q := 59) 3 dX8_layFar_58 rfl rfl rfl ?_
      refine ez_iconst (v := -1) (q := 60) dX8_layFar_59 (by decide) rfl ?_
      refine ez_ixor (q := 61) dX8_layFar_60 rfl ?_
      refine ez_iandX (q := 62) dX8_layFar_61 rfl ?_
      refine ez_istore_5 (q := 64) dX8_layFar_62 (by decide) rfl rfl ?_
      refine ez_iconst (v := nI 0) (q := 65) dX8_layFar_64 (by decide) rfl ?_
      refine ez_istore_6 (q := 67) dX8_layFar_65 (by decide) rfl rfl ?_
      refine ez_loop (α := Nat) (fun i => n' - i) (P := fun i => ∀ (g : ez_H) (sp : Nat → Int32), IM h g th z sv sm bf ty rd se ro le de wa ww rw rm sp fm ff ha → (i ≤ n') → (∀ j, j < n' → sp j = nI (if j < i then dsN T n' y s (k + 1) j else dsN T n' y s k j)) → E G mX8_layFar (d + 1) Q g n 0 0 67 [some (.ref 64), some (.int (nI y)), some (.int (nI s)), some (.int (nI (laN T n' y s k))), some (.int (nI (k + 1))), some (.int (nI (ndN (y &&& inN T (laN T n' y s k) n') (laN T n' y s k)))), some (.int (nI i))] []) ?_ 0 g _ hM (Nat.zero_le _) (fun j hj => (h1 j hj).trans (by rw [if_neg (by omega)]))
      intro i ih67 g sp hM hi h2
      refine ez_iload (q := 69) dX8_layFar_67 rfl rfl ?_
      refine ez_aload_n (q := 70) 0 dX8_layFar_69 rfl rfl rfl ?_
      refine ez_getf (q := 73) dX8_layFar_70 fl_X8_7 hM.1 rfl rfl ?_
      refine ez_iconst (v := nI 0) (q := 74) dX8_layFar_73 (by decide) rfl ?_
      refine ez_iald (q := 75) dX8_layFar_74 hM.2.1 rfl (by omega) (by decide) rfl ?_
      refine ez_top (hn0) ?_
      refine ez_icmpgeN (q := 78) (tgt := 114) dX8_layFar_75 (by decide) (by omega) (by omega) rfl (fun hc75 => ?_) (fun hc75 => ?_)
      · refine ez_iload_n (q := 115) 3 dX8_layFar_114 rfl rfl rfl ?_
        refine ez_iload (q := 117) dX8_layFar_115 rfl rfl ?_
        refine ez_iorN (q := 118) dX8_layFar_117 rfl ?_
        refine ez_istore_3 (q := 119) dX8_layFar_118 rfl (by decide) rfl rfl ?_
        refine ez_iincN_4 (q := 122) dX8_layFar_119 (by decide) rfl rfl ?_
        refine ez_goto (q := 44) dX8_layFar_122 (by decide) ?_
        exact E.fg (ih44 (k + 1) (by omega) g _ hM (by omega) (fun j hj => (h2 j hj).trans (by rw [if_pos (show j < i by omega)]))) ⟨Or.inr (rfl), Or.inr (rfl), Or.inr (rfl), Or.inr (by rw [la_s]), Or.inr (rfl), Or.inl rfl, Or.inl rfl, trivial⟩
      · refine ez_aload_n (q := 79) 0 dX8_layFar_78 rfl rfl rfl ?_
        refine ez_getf (q := 82) dX8_layFar_79 fl_X8_34 hM.1 rfl rfl ?_
        refine ez_iload (q := 84) dX8_layFar_82 rfl rfl ?_
        refine ez_iload (q := 86) dX8_layFar_84 rfl rfl ?_
        refine ez_iload (q := 88) dX8_layFar_86 rfl rfl ?_
        refine ez_ishrN (q := 89) dX8_layFar_88 (lt31 (nd_lt (sb_lt (sb_and_r _ _) (inN_lt T _ n'))) hn) (by omega) rfl ?_
        refine ez_iconst (v := nI 1) (q := 90) dX8_layFar_89 (by decide) rfl ?_
        refine ez_iandN (q := 91) dX8_layFar_90 rfl ?_
        refine ez_iconst (v := nI 1) (q := 92) dX8_layFar_91 (by decide) rfl ?_
        refine ez_icmpneN (q := 95) (tgt := 100) dX8_layFar_92 (by decide) (Nat.lt_of_le_of_lt Nat.and_le_right (by decide)) (by decide) rfl (fun hc92 => ?_) (fun hc92 => ?_)
        · refine ez_aload_n (q := 101) 0 dX8_layFar_100 rfl rfl rfl ?_
          refine ez_getf (q := 104) dX8_layFar_101 fl_X8_34 hM.1 rfl rfl ?_
          refine ez_iload (q := 106) dX8_layFar_104 rfl rfl ?_
          refine ez_iald (q := 107) dX8_layFar_106 hM.2.2.2.2.2.2.2.2.2.1 rfl (by omega) (by decide) rfl ?_
          refine ez_top (rfl) ?_
          refine sM_sp (q := 108) dX8_layFar_107 hM rfl (by omega) rfl (fun g hM => ?_)
          refine ez_iincN_6 (q := 111) dX8_layFar_108 (by decide) rfl rfl ?_
          refine ez_goto (q := 67) dX8_layFar_111 (by decide) ?_
          exact E.fg (ih67 (i + 1) (by omega) g _ hM (by omega) (fun j hj => by by_cases e : j = i; { rw [e, up_eq, if_pos (Nat.lt_succ_self i), dsN]; first | (rw [if_pos hc92]; done) | (rw [if_neg hc92]; exact (h2 i (by omega)).trans (by rw [if_neg (Nat.lt_irrefl i)])) }; { rw [up_ne _ _ e, h2 j hj]; by_cases e2 : j < i; { rw [if_pos e2, if_pos (by omega)] }; { rw [if_neg e2, if_neg (by omega)] } })) ⟨Or.inr (rfl), Or.inr (rfl), Or.inr (rfl), Or.inr (rfl), Or.inr (rfl), Or.inr (rfl), Or.inr (rfl), trivial⟩
        · refine ez_iload (q := 97) dX8_layFar_95 rfl rfl ?_
          refine ez_goto (q := 107) dX8_layFar_97 (by decide) ?_
          refine sM_sp (q := 108) dX8_layFar_107 hM rfl (by omega) rfl (fun g hM => ?_)
          refine ez_iincN_6 (q := 111) dX8_layFar_108 (by decide) rfl rfl ?_
          refine ez_goto (q := 67) dX8_layFar_111 (by decide) ?_
          exact E.fg (ih67 (i + 1) (by omega) g _ hM (by omega) (fun j hj => by by_cases e : j = i; { rw [e, up_eq, if_pos (Nat.lt_succ_self i), dsN]; first | (rw [if_pos hc92]; done) | (rw [if_neg hc92]; exact (h2 i (by omega)).trans (by rw [if_neg (Nat.lt_irrefl i)])) }; { rw [up_ne _ _ e, h2 j hj]; by_cases e2 : j < i; { rw [if_pos e2, if_pos (by omega)] }; { rw [if_neg e2, if_neg (by omega)] } })) ⟨Or.inr (rfl), Or.inr (rfl), Or.inr (rfl), Or.inr (rfl), Or.inr (rfl), Or.inr (rfl), Or.inr (rfl), trivial⟩
  · refine ez_aload_n (q := 13) 0 dX8_layFar_12 rfl rfl rfl ?_
    refine ez_getf (q := 16) dX8_layFar_13 fl_X8_34 hM.1 rfl rfl ?_
    refine ez_iload_n (q := 17) 3 dX8_layFar_16 rfl rfl rfl ?_
    refine ez_iload_n (q := 18) 2 dX8_layFar_17 rfl rfl rfl ?_
    refine ez_iload_n (q := 19) 3 dX8_layFar_18 rfl rfl rfl ?_
    refine ez_ishrN (q := 20) dX8_layFar_19 (lt31 hs hn) (by omega) rfl ?_
    refine ez_iconst (v := nI 1) (q := 21) dX8_layFar_20 (by decide) rfl ?_
    refine ez_iandN (q := 22) dX8_layFar_21 rfl ?_
    refine ez_iconst (v := nI 1) (q := 23) dX8_layFar_22 (by decide) rfl ?_
    refine ez_icmpneN (q := 26) (tgt := 30) dX8_layFar_23 (by decide) (Nat.lt_of_le_of_lt Nat.and_le_right (by decide)) (by decide) rfl (fun hc23 => ?_) (fun hc23 => ?_)
    · refine ez_bipush (v := nI 99) (q := 32) dX8_layFar_30 (by decide) rfl ?_
      refine sM_sp (q := 33) dX8_layFar_32 hM rfl (by omega) rfl (fun g hM => ?_)
      refine ez_iincN_3 (q := 36) dX8_layFar_33 (by decide) rfl rfl ?_
      refine ez_goto (q := 2) dX8_layFar_36 (by decide) ?_
      exact E.fg (ih2 (i + 1) (by omega) g _ hM (by omega) (fun j hj => by by_cases e : j = i; { rw [e, up_eq, dsN]; first | rw [if_pos hc23] | rw [if_neg hc23] }; { rw [up_ne _ _ e]; exact h1 j (by omega) })) ⟨Or.inr (rfl), Or.inr (rfl), Or.inr (rfl), Or.inr (rfl), Or.inl rfl, Or.inl rfl, Or.inl rfl, trivial⟩
    · refine ez_iconst (v := nI 0) (q := 27) dX8_layFar_26 (by decide) rfl ?_
      refine ez_goto (q := 32) dX8_layFar_27 (by decide) ?_
      refine sM_sp (q := 33) dX8_layFar_32 hM rfl (by omega) rfl (fun g hM => ?_)
      refine ez_iincN_3 (q := 36) dX8_layFar_33 (by decide) rfl rfl ?_
      refine ez_goto (q := 2) dX8_layFar_36 (by decide) ?_
      exact E.fg (ih2 (i + 1) (by omega) g _ hM (by omega) (fun j hj => by by_cases e : j = i; { rw [e, up_eq, dsN]; first | rw [if_pos hc23] | rw [if_neg hc23] }; { rw [up_ne _ _ e]; exact h1 j (by omega) })) ⟨Or.inr (rfl), Or.inr (rfl), Or.inr (rfl), Or.inr (rfl), Or.inl rfl, Or.inl rfl, Or.inl rfl, trivial⟩

