set_option maxHeartbeats 800000 in
set_option maxRecDepth 100000 in
theorem t_J6_bitCount_0f7a4 {G : ez_G} {d n : Nat} {h : ez_H} {a : Nat} (ha : a < 1024) : Con G mJ6_bitCount_0f7a4 (d) [.int (nI a)] h n 0 0 (PU h n (some (.int (nI (ctN a 10))))) := by
  refine Con.of [some (.int (nI a))] pl_J6 rfl (Nat.le_of_ble_eq_true rfl) rfl ?_
  have hQ : (PU h n (some (.int (nI (ctN a 10))))) (.inl (some (.int (nI (ctN a 10))))) h n := ⟨rfl, rfl, rfl⟩
  generalize PU h n (some (.int (nI (ctN a 10)))) = Q at hQ ⊢
  refine ez_iload_n (q := 1) 0 dJ6_bitCount_0f7a4_0 rfl rfl rfl ?_
  refine ez_iload_n (q := 2) 0 dJ6_bitCount_0f7a4_1 rfl rfl rfl ?_
  refine ez_iconst (v := nI 1) (q := 3) dJ6_bitCount_0f7a4_2 (by decide) rfl ?_
  refine ez_iushr (q := 4) dJ6_bitCount_0f7a4_3 rfl rfl ?_
  refine ez_ldcw (q := 7) dJ6_bitCount_0f7a4_4 ct_J6_265 rfl ?_
  refine ez_iand (q := 8) dJ6_bitCount_0f7a4_7 rfl ?_
  refine ez_isub (q := 9) dJ6_bitCount_0f7a4_8 rfl ?_
  refine ez_top (show _ = bc1 (nI a) from rfl) ?_
  refine ez_istore_0 (q := 10) dJ6_bitCount_0f7a4_9 rfl (by decide) rfl ?_
  refine ez_iload_n (q := 11) 0 dJ6_bitCount_0f7a4_10 rfl rfl rfl ?_
  refine ez_ldcw (q := 14) dJ6_bitCount_0f7a4_11 ct_J6_266 rfl ?_
  refine ez_iand (q := 15) dJ6_bitCount_0f7a4_14 rfl ?_
  refine ez_iload_n (q := 16) 0 dJ6_bitCount_0f7a4_15 rfl rfl rfl ?_
  refine ez_iconst (v := nI 2) (q := 17) dJ6_bitCount_0f7a4_16 (by decide) rfl ?_
  refine ez_iushr (q := 18) dJ6_bitCount_0f7a4_17 rfl rfl ?_
  refine ez_ldcw (q := 21) dJ6_bitCount_0f7a4_18 ct_J6_266 rfl ?_
  refine ez_iand (q := 22) dJ6_bitCount_0f7a4_21 rfl ?_
  refine ez_iadd (q := 23) dJ6_bitCount_0f7a4_22 rfl ?_
  refine ez_top (show _ = bc2 (bc1 (nI a)) from rfl) ?_
  refine ez_istore_0 (q := 24) dJ6_bitCount_0f7a4_23 rfl (by decide) rfl ?_
  refine ez_iload_n (q := 25) 0 dJ6_bitCount_0f7a4_24 rfl rfl rfl ?_
  refine ez_iload_n (q := 26) 0 dJ6_bitCount_0f7a4_25 rfl rfl rfl ?_
  refine ez_iconst (v := nI 4) (q := 27) dJ6_bitCount_0f7a4_26 (by decide) rfl ?_
  refine ez_iushr (q := 28) dJ6_bitCount_0f7a4_27 rfl rfl ?_
  refine ez_iadd (q := 29) dJ6_bitCount_0f7a4_28 rfl ?_
  refine ez_ldcw (q := 32) dJ6_bitCount_0f7a4_29 ct_J6_267 rfl ?_
  refine ez_iand (q := 33) dJ6_bitCount_0f7a4_32 rfl ?_
  refine ez_top (show _ = bc3 (bc2 (bc1 (nI a))) from rfl) ?_
  refine ez_istore_0 (q := 34) dJ6_bitCount_0f7a4_33 rfl (by decide) rfl ?_
  refine ez_iload_n (q := 35) 0 dJ6_bitCount_0f7a4_34 rfl rfl rfl ?_
  refine ez_iload_n (q := 36) 0 dJ6_bitCount_0f7a4_35 rfl rfl rfl ?_
  refine ez_bipush (v := nI 8) (q := 38) dJ6_bitCount_0f7a4_36 (by decide) rfl ?_
  refine ez_iushr (q := 39) dJ6_bitCount_0f7a4_38 rfl rfl ?_
  refine ez_iadd (q := 40) dJ6_bitCount_0f7a4_39 rfl ?_
  refine ez_top (show _ = bc4 (bc3 (bc2 (bc1 (nI a)))) from rfl) ?_
  refine ez_istore_0 (q := 41) dJ6_bitCount_0f7a4_40 rfl (by decide) rfl ?_
  refine ez_iload_n (q := 42) 0 dJ6_bitCount_0f7a4_41 rfl rfl rfl ?_
  refine ez_iload_n (q := 43) 0 dJ6_bitCount_0f7a4_42 rfl rfl rfl ?_
  refine ez_bipush (v := nI 16) (q := 45) dJ6_bitCount_0f7a4_43 (by decide) rfl ?_
  refine ez_iushr (q := 46) dJ6_bitCount_0f7a4_45 rfl rfl ?_
  refine ez_iadd (q := 47) dJ6_bitCount_0f7a4_46 rfl ?_
  refine ez_top (show _ = bc5 (bc4 (bc3 (bc2 (bc1 (nI a))))) from rfl) ?_
  refine ez_istore_0 (q := 48) dJ6_bitCount_0f7a4_47 rfl (by decide) rfl ?_
  refine ez_iload_n (q := 49) 0 dJ6_bitCount_0f7a4_48 rfl rfl rfl ?_
  refine ez_bipush (v := nI 63) (q := 51) dJ6_bitCount_0f7a4_49 (by decide) rfl ?_
  refine ez_iand (q := 52) dJ6_bitCount_0f7a4_51 rfl ?_
  refine ez_top (bc_ok a ha) ?_
  exact ez_iret dJ6_bitCount_0f7a4_52 rfl (hQ)

set_option maxHeartbeats 800000 in
set_option maxRecDepth 100000 in
theorem t_X3_hasWorld {G : ez_G} {d n : Nat} {h : ez_H} {ia n' : Nat} {ff : Int32} {lt st le sc : Nat → Int32} {i : Int32} (hM : SW ia h h (nI n') ff lt st le sc) (hn : n' ≤ 10) : Con G mX3_hasWorld (d) [.ref ia, .int i] h n 0 0 (PU h n (some (.int (bI (inB i 0 (n' - 1)))))) := by
  have hn1 := nI_toInt (show n' < 2 ^ 31 by omega)
  refine Con.of [some (.ref ia), some (.int i)] pl_X3 rfl (Nat.le_of_ble_eq_true rfl) rfl ?_
  have hQ : (PU h n (some (.int (bI (inB i 0 (n' - 1)))))) (.inl (some (.int (bI (inB i 0 (n' - 1)))))) h n := ⟨rfl, rfl, rfl⟩
  generalize PU h n (some (.int (bI (inB i 0 (n' - 1))))) = Q at hQ ⊢
  refine ez_iload_n (q := 1) 1 dX3_hasWorld_0 rfl rfl rfl ?_
  refine ez_iflt (q := 4) (tgt := 16) dX3_hasWorld_1 (by decide) rfl (fun hc1 => ?_) (fun hc1 => ?_)
  · refine ez_iconst (v := nI 0) (q := 17) dX3_hasWorld_16 (by decide) rfl ?_
    refine ez_top (show nI 0 = bI (inB i 0 (n' - 1)) from bI_df (by simp only [Int32.lt_iff_toInt_lt, Int32.le_iff_toInt_le, Int32.toInt_zero, hn1] at *; omega)) ?_
    exact ez_zretB dX3_hasWorld_17 rfl (hQ)
  · refine ez_iload_n (q := 5) 1 dX3_hasWorld_4 rfl rfl rfl ?_
    refine ez_aload_n (q := 6) 0 dX3_hasWorld_5 rfl rfl rfl ?_
    refine ez_getf (q := 9) dX3_hasWorld_6 fl_X3_9 hM.2.1 rfl rfl ?_
    refine ez_icmpge (q := 12) (tgt := 16) dX3_hasWorld_9 (by decide) rfl (fun hc9 => ?_) (fun hc9 => ?_)
    · refine ez_iconst (v := nI 0) (q := 17) dX3_hasWorld_16 (by decide) rfl ?_
      refine ez_top (show nI 0 = bI (inB i 0 (n' - 1)) from bI_df (by simp only [Int32.lt_iff_toInt_lt, Int32.le_iff_toInt_le, Int32.toInt_zero, hn1] at *; omega)) ?_
      exact ez_zretB dX3_hasWorld_17 rfl (hQ)
    · refine ez_iconst (v := nI 1) (q := 13) dX3_hasWorld_12 (by decide) rfl ?_
      refine ez_top (show nI 1 = bI (inB i 0 (n' - 1)) from bI_dt (by simp only [Int32.lt_iff_toInt_lt, Int32.le_iff_toInt_le, Int32.toInt_zero, hn1] at *; omega)) ?_
      refine ez_goto (q := 17) dX3_hasWorld_13 (by decide) ?_
      exact ez_zretB dX3_hasWorld_17 rfl (hQ)

theorem inB_nt {i n : Nat} (h : i < n) (hn : n ≤ 10) : inB (nI i) 0 (n - 1) = true := decide_eq_true (by rw [nI_toInt (by omega)]; omega)
set_option maxHeartbeats 800000 in
set_option maxRecDepth 100000 in
theorem t_X3_allWorlds {G : ez_G} {d n : Nat} {h : ez_H} {n' f ia : Nat} {L T ln : Nat → Nat} {sg : Nat → Nat → Nat} (hS : SS ia h n' f L T ln sg) (ho : OK n' f L T ln sg) : Con G mX3_allWorlds (d) [.ref ia] h n 0 0 (PU h n (some (.int (nI (2 ^ n' - 1))))) := by
  obtain ⟨lt, st, le, sc, hM, hz⟩ := hS
  have hn := ho.1
  refine Con.of [some (.ref ia)] pl_X3 rfl (Nat.le_of_ble_eq_true rfl) rfl ?_
  have hQ : (PU h n (some (.int (nI (2 ^ n' - 1))))) (.inl (some (.int (nI (2 ^ n' - 1))))) h n := ⟨rfl, rfl, rfl⟩
  generalize PU h n (some (.int (nI (2 ^ n' - 1)))) = Q at hQ ⊢
  refine ez_iconst (v := nI 1) (q := 1) dX3_allWorlds_0 (by decide) rfl ?_
  refine ez_aload_n (q := 2) 0 dX3_allWorlds_1 rfl rfl rfl ?_
  refine ez_getf (q := 5) dX3_allWorlds_2 fl_X3_9 hM.2.1 rfl rfl ?_
  refine ez_shl1 (q := 6) dX3_allWorlds_5 (by omega) rfl ?_
  refine ez_iconst (v := nI 1) (q := 7) dX3_allWorlds_6 (by decide) rfl ?_
  refine ez_isubN (q := 8) dX3_allWorlds_7 Nat.one_le_two_pow rfl ?_
  exact ez_iret dX3_allWorlds_8 rfl (hQ)

set_option maxHeartbeats 800000 in
set_option maxRecDepth 100000 in
theorem t_X3_lettersOf {G : ez_G} {d n : Nat} {h : ez_H} {ia n' : Nat} {ff : Int32} {lt st le sc : Nat → Int32} {i : Nat} (hM : SW ia h h (nI n') ff lt st le sc) (hn : n' ≤ 10) (hi : i < n') : Con G mX3_lettersOf (d) [.ref ia, .int (nI i)] h n 0 0 (PU h n (some (.int (lt i)))) := by
  refine Con.of [some (.ref ia), some (.int (nI i))] pl_X3 rfl (Nat.le_of_ble_eq_true rfl) rfl ?_
  have hQ : (PU h n (some (.int (lt i)))) (.inl (some (.int (lt i)))) h n := ⟨rfl, rfl, rfl⟩
  generalize PU h n (some (.int (lt i))) = Q at hQ ⊢
  refine ez_iload_n (q := 1) 1 dX3_lettersOf_0 rfl rfl rfl ?_
  refine ez_ifltN (q := 4) (tgt := 21) dX3_lettersOf_1 (by decide) (by omega) rfl ?_
  refine ez_iload_n (q := 5) 1 dX3_lettersOf_4 rfl rfl rfl ?_
  refine ez_aload_n (q := 6) 0 dX3_lettersOf_5 rfl rfl rfl ?_
  refine ez_getf (q := 9) dX3_lettersOf_6 fl_X3_9 hM.2.1 rfl rfl ?_
  refine ez_icmpgeN (q := 12) (tgt := 21) dX3_lettersOf_9 (by decide) (by omega) (by omega) rfl (fun hc9 => absurd hi (by omega)) (fun hc9 => ?_)
  refine ez_aload_n (q := 13) 0 dX3_lettersOf_12 rfl rfl rfl ?_
  refine ez_getf (q := 16) dX3_lettersOf_13 fl_X3_18 hM.2.1 rfl rfl ?_
  refine ez_iload_n (q := 17) 1 dX3_lettersOf_16 rfl rfl rfl ?_
  refine ez_iald (q := 18) dX3_lettersOf_17 hM.2.2.1 rfl (by omega) (by decide) rfl ?_
  refine ez_goto (q := 22) dX3_lettersOf_18 (by decide) ?_
  exact ez_iret dX3_lettersOf_22 rfl (hQ)

theorem r_X3_lettersOf {G : ez_G} {d n : Nat} {h : ez_H} {n' f ia : Nat} {L T ln : Nat → Nat} {sg : Nat → Nat → Nat} {i : Nat} (hS : SS ia h n' f L T ln sg) (ho : OK n' f L T ln sg) (hi : i < n') : Con G mX3_lettersOf d [.ref ia, .int (nI i)] h n 0 0 (PU h n (some (.int (nI (L i))))) := by
  obtain ⟨lt, st, le, sc, hM, hz⟩ := hS
  have h1 := t_X3_lettersOf (G := G) (d := d) (n := n) hM ho.1 hi
  rwa [hz.1 i hi] at h1
set_option maxHeartbeats 800000 in
set_option maxRecDepth 100000 in
theorem t_X3_stepsFrom {G : ez_G} {d n : Nat} {h : ez_H} {ia n' : Nat} {ff : Int32} {lt st le sc : Nat → Int32} {i : Nat} (hM : SW ia h h (nI n') ff lt st le sc) (hn : n' ≤ 10) (hi : i < n') : Con G mX3_stepsFrom (d) [.ref ia, .int (nI i)] h n 0 0 (PU h n (some (.int (st i)))) := by
  refine Con.of [some (.ref ia), some (.int (nI i))] pl_X3 rfl (Nat.le_of_ble_eq_true rfl) rfl ?_
  have hQ : (PU h n (some (.int (st i)))) (.inl (some (.int (st i)))) h n := ⟨rfl, rfl, rfl⟩
  generalize PU h n (some (.int (st i))) = Q at hQ ⊢
  refine ez_iload_n (q := 1) 1 dX3_stepsFrom_0 rfl rfl rfl ?_
  refine ez_ifltN (q := 4) (tgt := 21) dX3_stepsFrom_1 (by decide) (by omega) rfl ?_
  refine ez_iload_n (q := 5) 1 dX3_stepsFrom_4 rfl rfl rfl ?_
  refine ez_aload_n (q := 6) 0 dX3_stepsFrom_5 rfl rfl rfl ?_
  refine ez_getf (q := 9) dX3_stepsFrom_6 fl_X3_9 hM.2.1 rfl rfl ?_
  refine ez_icmpgeN (q := 12) (tgt := 21) dX3_stepsFrom_9 (by decide) (by omega) (by omega) rfl (fun hc9 => absurd hi (by omega)) (fun hc9 => ?_)
  refine ez_aload_n (q := 13) 0 dX3_stepsFrom_12 rfl rfl rfl ?_
  refine ez_getf (q := 16) dX3_stepsFrom_13 fl_X3_22 hM.2.1 rfl rfl ?_
  refine ez_iload_n (q := 17) 1 dX3_stepsFrom_16 rfl rfl rfl ?_
  refine ez_iald (q := 18) dX3_stepsFrom_17 hM.2.2.2.1 rfl (by omega) (by decide) rfl ?_
  refine ez_goto (q := 22) dX3_stepsFrom_18 (by decide) ?_
  exact ez_iret dX3_stepsFrom_22 rfl (hQ)

theorem r_X3_stepsFrom {G : ez_G} {d n : Nat} {h : ez_H} {n' f ia : Nat} {L T ln : Nat → Nat} {sg : Nat → Nat → Nat} {i : Nat} (hS : SS ia h n' f L T ln sg) (ho : OK n' f L T ln sg) (hi : i < n') : Con G mX3_stepsFrom d [.ref ia, .int (nI i)] h n 0 0 (PU h n (some (.int (nI (T i))))) := by
  obtain ⟨lt, st, le, sc, hM, hz⟩ := hS
  have h1 := t_X3_stepsFrom (G := G) (d := d) (n := n) hM ho.1 hi
  rwa [hz.2.1 i hi] at h1
set_option maxHeartbeats 800000 in
set_option maxRecDepth 100000 in
theorem t_X3_withLetter {G : ez_G} {d n : Nat} {h : ez_H} {n' f ia : Nat} {L T ln : Nat → Nat} {sg : Nat → Nat → Nat} {c : Nat} (hS : SS ia h n' f L T ln sg) (ho : OK n' f L T ln sg) (hc : c < 4) : Con G mX3_withLetter (d) [.ref ia, .int (nI c)] h n 0 0 (PU h n (some (.int (nI (wlN L c n'))))) := by
  obtain ⟨lt, st, le, sc, hM, hz⟩ := hS
  have hn := ho.1
  refine Con.of [some (.ref ia), some (.int (nI c)), none, none] pl_X3 rfl (Nat.le_of_ble_eq_true rfl) rfl ?_
  have hQ : (PU h n (some (.int (nI (wlN L c n'))))) (.inl (some (.int (nI (wlN L c n'))))) h n := ⟨rfl, rfl, rfl⟩
  generalize PU h n (some (.int (nI (wlN L c n')))) = Q at hQ ⊢
  refine ez_iconst (v := nI 0) (q := 1) dX3_withLetter_0 (by decide) rfl ?_
  refine ez_istore_2 (q := 2) dX3_withLetter_1 rfl (by decide) rfl rfl ?_
  refine ez_iconst (v := nI 0) (q := 3) dX3_withLetter_2 (by decide) rfl ?_
  refine ez_istore_3 (q := 4) dX3_withLetter_3 rfl (by decide) rfl rfl ?_
  refine ez_loop (α := Nat) (fun i => n' - i) (P := fun i => (i ≤ n') → E G mX3_withLetter (d) Q h n 0 0 4 [some (.ref ia), some (.int (nI c)), some (.int (nI (wlN L c i))), some (.int (nI i))] []) ?_ 0 (Nat.zero_le _)
  intro i ih4 hi
  refine ez_iload_n (q := 5) 3 dX3_withLetter_4 rfl rfl rfl ?_
  refine ez_aload_n (q := 6) 0 dX3_withLetter_5 rfl rfl rfl ?_
  refine ez_getf (q := 9) dX3_withLetter_6 fl_X3_9 hM.2.1 rfl rfl ?_
  refine ez_icmpgeN (q := 12) (tgt := 33) dX3_withLetter_9 (by decide) (by omega) (by omega) rfl (fun hc9 => ?_) (fun hc9 => ?_)
  · refine ez_iload_n (q := 34) 2 dX3_withLetter_33 rfl rfl rfl ?_
    exact ez_iret dX3_withLetter_34 rfl (by rw [show n' = i from by omega] at hQ; exact hQ)
  · refine ez_iload_n (q := 13) 2 dX3_withLetter_12 rfl rfl rfl ?_
    refine ez_aload_n (q := 14) 0 dX3_withLetter_13 rfl rfl rfl ?_
    refine ez_getf (q := 17) dX3_withLetter_14 fl_X3_18 hM.2.1 rfl rfl ?_
    refine ez_iload_n (q := 18) 3 dX3_withLetter_17 rfl rfl rfl ?_
    refine ez_iald (q := 19) dX3_withLetter_18 hM.2.2.1 rfl (by omega) (by decide) rfl ?_
    refine ez_top (hz.1 _ (by omega)) ?_
    refine ez_iload_n (q := 20) 1 dX3_withLetter_19 rfl rfl rfl ?_
    refine ez_ishrN (q := 21) dX3_withLetter_20 (by have := ho.2.2.1 i (by omega); omega) (by omega) rfl ?_
    refine ez_iconst (v := nI 1) (q := 22) dX3_withLetter_21 (by decide) rfl ?_
    refine ez_iandN (q := 23) dX3_withLetter_22 rfl ?_
    refine ez_iload_n (q := 24) 3 dX3_withLetter_23 rfl rfl rfl ?_
    refine ez_ishlN (q := 25) dX3_withLetter_24 (by omega) rfl ?_
    refine ez_iorN (q := 26) dX3_withLetter_25 rfl ?_
    refine ez_istore_2 (q := 27) dX3_withLetter_26 rfl (by decide) rfl rfl ?_
    refine ez_iincN_3 (q := 30) dX3_withLetter_27 (by decide) rfl rfl ?_
    refine ez_goto (q := 4) dX3_withLetter_30 (by decide) ?_
    exact E.fg (ih4 (i + 1) (by omega) (by omega)) ⟨Or.inr (rfl), Or.inr (rfl), Or.inr (rfl), Or.inr (rfl), trivial⟩

set_option maxHeartbeats 800000 in
set_option maxRecDepth 100000 in
theorem t_X3_leadingInto {G : ez_G} {d n : Nat} {h : ez_H} {n' f ia : Nat} {L T ln : Nat → Nat} {sg : Nat → Nat → Nat} {s : Nat} (hS : SS ia h n' f L T ln sg) (ho : OK n' f L T ln sg) : Con G mX3_leadingInto (d) [.ref ia, .int (nI s)] h n 0 0 (PU h n (some (.int (nI (inN T s n'))))) := by
  obtain ⟨lt, st, le, sc, hM, hz⟩ := hS
  have hn := ho.1
  refine Con.of [some (.ref ia), some (.int (nI s)), none, none] pl_X3 rfl (Nat.le_of_ble_eq_true rfl) rfl ?_
  have hQ : (PU h n (some (.int (nI (inN T s n'))))) (.inl (some (.int (nI (inN T s n'))))) h n := ⟨rfl, rfl, rfl⟩
  generalize PU h n (some (.int (nI (inN T s n')))) = Q at hQ ⊢
  refine ez_iconst (v := nI 0) (q := 1) dX3_leadingInto_0 (by decide) rfl ?_
  refine ez_istore_2 (q := 2) dX3_leadingInto_1 rfl (by decide) rfl rfl ?_
  refine ez_iconst (v := nI 0) (q := 3) dX3_leadingInto_2 (by decide) rfl ?_
  refine ez_istore_3 (q := 4) dX3_leadingInto_3 rfl (by decide) rfl rfl ?_
  refine ez_loop (α := Nat) (fun i => n' - i) (P := fun i => (i ≤ n') → E G mX3_leadingInto (d) Q h n 0 0 4 [some (.ref ia), some (.int (nI s)), some (.int (nI (inN T s i))), some (.int (nI i))] []) ?_ 0 (Nat.zero_le _)
  intro i ih4 hi
  refine ez_iload_n (q := 5) 3 dX3_leadingInto_4 rfl rfl rfl ?_
  refine ez_aload_n (q := 6) 0 dX3_leadingInto_5 rfl rfl rfl ?_
  refine ez_getf (q := 9) dX3_leadingInto_6 fl_X3_9 hM.2.1 rfl rfl ?_
  refine ez_icmpgeN (q := 12) (tgt := 35) dX3_leadingInto_9 (by decide) (by omega) (by omega) rfl (fun hc9 => ?_) (fun hc9 => ?_)
  · refine ez_iload_n (q := 36) 2 dX3_leadingInto_35 rfl rfl rfl ?_
    exact ez_iret dX3_leadingInto_36 rfl (by rw [show n' = i from by omega] at hQ; exact hQ)
  · refine ez_aload_n (q := 13) 0 dX3_leadingInto_12 rfl rfl rfl ?_
    refine ez_getf (q := 16) dX3_leadingInto_13 fl_X3_22 hM.2.1 rfl rfl ?_
    refine ez_iload_n (q := 17) 3 dX3_leadingInto_16 rfl rfl rfl ?_
    refine ez_iald (q := 18) dX3_leadingInto_17 hM.2.2.2.1 rfl (by omega) (by decide) rfl ?_
    refine ez_top (hz.2.1 _ (by omega)) ?_
    refine ez_iload_n (q := 19) 1 dX3_leadingInto_18 rfl rfl rfl ?_
    refine ez_iandN (q := 20) dX3_leadingInto_19 rfl ?_
    refine ez_ifeqN (q := 23) (tgt := 29) dX3_leadingInto_20 (by decide) (Nat.lt_of_le_of_lt (and_le _ _) (Nat.lt_of_lt_of_le (ho.2.2.2.1 i (by omega)) (Nat.le_trans (p10 (Nat.le_refl _) hn) (by decide)))) rfl (fun hc20 => ?_) (fun hc20 => ?_)
    · refine ez_iincN_3 (q := 32) dX3_leadingInto_29 (by decide) rfl rfl ?_
      refine ez_goto (q := 4) dX3_leadingInto_32 (by decide) ?_
      exact E.fg (ih4 (i + 1) (by omega) (by omega)) ⟨Or.inr (rfl), Or.inr (rfl), Or.inr (by first | rw [inN_t hc20] | rw [inN_f hc20]), Or.inr (rfl), trivial⟩
    · refine ez_iload_n (q := 24) 2 dX3_leadingInto_23 rfl rfl rfl ?_
      refine ez_iconst (v := nI 1) (q := 25) dX3_leadingInto_24 (by decide) rfl ?_
      refine ez_iload_n (q := 26) 3 dX3_leadingInto_25 rfl rfl rfl ?_
      refine ez_shl1 (q := 27) dX3_leadingInto_26 (by omega) rfl ?_
      refine ez_iorN (q := 28) dX3_leadingInto_27 rfl ?_
      refine ez_istore_2 (q := 29) dX3_leadingInto_28 rfl (by decide) rfl rfl ?_
      refine ez_iincN_3 (q := 32) dX3_leadingInto_29 (by decide) rfl rfl ?_
      refine ez_goto (q := 4) dX3_leadingInto_32 (by decide) ?_
      exact E.fg (ih4 (i + 1) (by omega) (by omega)) ⟨Or.inr (rfl), Or.inr (rfl), Or.inr (by first | rw [inN_t hc20] | rw [inN_f hc20]), Or.inr (rfl), trivial⟩

set_option maxHeartbeats 800000 in
set_option maxRecDepth 100000 in
theorem t_X3_countSteps {G : ez_G} {d n : Nat} {h : ez_H} {n' f ia : Nat} {L T ln : Nat → Nat} {sg : Nat → Nat → Nat} (hS : SS ia h n' f L T ln sg) (ho : OK n' f L T ln sg) : Con G mX3_countSteps (d + 1) [.ref ia] h n 0 0 (PU h n (some (.int (nI (csN T n'))))) := by
  obtain ⟨lt, st, le, sc, hM, hz⟩ := hS
  have hn := ho.1
  refine Con.of [some (.ref ia), none, none] pl_X3 rfl (Nat.le_of_ble_eq_true rfl) rfl ?_
  have hQ : (PU h n (some (.int (nI (csN T n'))))) (.inl (some (.int (nI (csN T n'))))) h n := ⟨rfl, rfl, rfl⟩
  generalize PU h n (some (.int (nI (csN T n')))) = Q at hQ ⊢
  refine ez_iconst (v := nI 0) (q := 1) dX3_countSteps_0 (by decide) rfl ?_
  refine ez_istore_1 (q := 2) dX3_countSteps_1 rfl (by decide) rfl rfl ?_
  refine ez_iconst (v := nI 0) (q := 3) dX3_countSteps_2 (by decide) rfl ?_
  refine ez_istore_2 (q := 4) dX3_countSteps_3 rfl (by decide) rfl rfl ?_
  refine ez_loop (α := Nat) (fun i => n' - i) (P := fun i => (i ≤ n') → E G mX3_countSteps (d + 1) Q h n 0 0 4 [some (.ref ia), some (.int (nI (csN T i))), some (.int (nI i))] []) ?_ 0 (Nat.zero_le _)
  intro i ih4 hi
  refine ez_iload_n (q := 5) 2 dX3_countSteps_4 rfl rfl rfl ?_
  refine ez_aload_n (q := 6) 0 dX3_countSteps_5 rfl rfl rfl ?_
  refine ez_getf (q := 9) dX3_countSteps_6 fl_X3_9 hM.2.1 rfl rfl ?_
  refine ez_icmpgeN (q := 12) (tgt := 30) dX3_countSteps_9 (by decide) (by omega) (by omega) rfl (fun hc9 => ?_) (fun hc9 => ?_)
  · refine ez_iload_n (q := 31) 1 dX3_countSteps_30 rfl rfl rfl ?_
    exact ez_iret dX3_countSteps_31 rfl (by rw [show n' = i from by omega] at hQ; exact hQ)
  · refine ez_iload_n (q := 13) 1 dX3_countSteps_12 rfl rfl rfl ?_
    refine ez_aload_n (q := 14) 0 dX3_countSteps_13 rfl rfl rfl ?_
    refine ez_getf (q := 17) dX3_countSteps_14 fl_X3_22 hM.2.1 rfl rfl ?_
    refine ez_iload_n (q := 18) 2 dX3_countSteps_17 rfl rfl rfl ?_
    refine ez_iald (q := 19) dX3_countSteps_18 hM.2.2.2.1 rfl (by omega) (by decide) rfl ?_
    refine ez_top (hz.2.1 _ (by omega)) ?_
    refine cUv (q := 22) dX3_countSteps_19 ck_X3_38 (t_J6_bitCount_0f7a4 (Nat.lt_of_lt_of_le (ho.2.2.2.1 i (by omega)) (p10 (Nat.le_refl _) hn))) rfl rfl rfl (Nat.le_of_ble_eq_true rfl) rfl ?_
    refine ez_iaddN (q := 23) dX3_countSteps_22 rfl ?_
    refine ez_istore_1 (q := 24) dX3_countSteps_23 rfl (by decide) rfl rfl ?_
    refine ez_iincN_2 (q := 27) dX3_countSteps_24 (by decide) rfl rfl ?_
    refine ez_goto (q := 4) dX3_countSteps_27 (by decide) ?_
    exact E.fg (ih4 (i + 1) (by omega) (by omega)) ⟨Or.inr (rfl), Or.inr (rfl), Or.inr (rfl), trivial⟩

set_option maxHeartbeats 800000 in
set_option maxRecDepth 100000 in
theorem t_X3_lengthOf {G : ez_G} {d n : Nat} {h : ez_H} {ia n' : Nat} {ff : Int32} {lt st le sc : Nat → Int32} {w : Nat} (hM : SW ia h h (nI n') ff lt st le sc) (hw : w < 4) : Con G mX3_lengthOf (d) [.ref ia, .int (nI w)] h n 0 0 (PU h n (some (.int (le w)))) := by
  refine Con.of [some (.ref ia), some (.int (nI w))] pl_X3 rfl (Nat.le_of_ble_eq_true rfl) rfl ?_
  have hQ : (PU h n (some (.int (le w)))) (.inl (some (.int (le w)))) h n := ⟨rfl, rfl, rfl⟩
  generalize PU h n (some (.int (le w))) = Q at hQ ⊢
  refine ez_iload_n (q := 1) 1 dX3_lengthOf_0 rfl rfl rfl ?_
  refine ez_ifltN (q := 4) (tgt := 18) dX3_lengthOf_1 (by decide) (by omega) rfl ?_
  refine ez_iload_n (q := 5) 1 dX3_lengthOf_4 rfl rfl rfl ?_
  refine ez_iconst (v := nI 4) (q := 6) dX3_lengthOf_5 (by decide) rfl ?_
  refine ez_icmpgeN (q := 9) (tgt := 18) dX3_lengthOf_6 (by decide) (by omega) (by omega) rfl (fun hc6 => absurd hw (by omega)) (fun hc6 => ?_)
  refine ez_aload_n (q := 10) 0 dX3_lengthOf_9 rfl rfl rfl ?_
  refine ez_getf (q := 13) dX3_lengthOf_10 fl_X3_25 hM.2.1 rfl rfl ?_
  refine ez_iload_n (q := 14) 1 dX3_lengthOf_13 rfl rfl rfl ?_
  refine ez_iald (q := 15) dX3_lengthOf_14 hM.2.2.2.2.1 rfl (by omega) (by decide) rfl ?_
  refine ez_goto (q := 19) dX3_lengthOf_15 (by decide) ?_
  exact ez_iret dX3_lengthOf_19 rfl (hQ)

theorem r_X3_lengthOf {G : ez_G} {d n : Nat} {h : ez_H} {n' f ia : Nat} {L T ln : Nat → Nat} {sg : Nat → Nat → Nat} {w : Nat} (hS : SS ia h n' f L T ln sg) (ho : OK n' f L T ln sg) (hw : w < 4) : Con G mX3_lengthOf d [.ref ia, .int (nI w)] h n 0 0 (PU h n (some (.int (nI (ln w))))) := by
  obtain ⟨lt, st, le, sc, hM, hz⟩ := hS
  have h1 := t_X3_lengthOf (G := G) (d := d) (n := n) hM hw
  rwa [hz.2.2.1 w hw] at h1
def sgA (ln : Nat → Nat) (sg : Nat → Nat → Nat) (w i : Nat) : Nat := if i < ln w then sg w i else 0
set_option maxHeartbeats 800000 in
set_option maxRecDepth 100000 in
theorem t_X3_signAt {G : ez_G} {d n : Nat} {h : ez_H} {ia n' : Nat} {ff : Int32} {lt st le sc : Nat → Int32} {w i l c : Nat} (hM : SW ia h h (nI n') ff lt st le sc) (hw : w < 4) (hl : le w = nI l) (hl2 : l ≤ 40) (hi : i < 2 ^ 31) (hc0 : i < l → sc (w * 40 + i) = nI c) (hc : c < 65536) : Con G mX3_signAt (d + 1) [.ref ia, .int (nI w), .int (nI i)] h n 0 0 (PU h n (some (.int (nI (if i < l then c else 0))))) := by
  refine Con.of [some (.ref ia), some (.int (nI w)), some (.int (nI i))] pl_X3 rfl (Nat.le_of_ble_eq_true rfl) rfl ?_
  have hQ : (PU h n (some (.int (nI (if i < l then c else 0))))) (.inl (some (.int (nI (if i < l then c else 0))))) h n := ⟨rfl, rfl, rfl⟩
  generalize PU h n (some (.int (nI (if i < l then c else 0)))) = Q at hQ ⊢
  refine ez_iload_n (q := 1) 2 dX3_signAt_0 rfl rfl rfl ?_
  refine ez_ifltN (q := 4) (tgt := 27) dX3_signAt_1 (by decide) (by omega) rfl ?_
  refine ez_iload_n (q := 5) 2 dX3_signAt_4 rfl rfl rfl ?_
  refine ez_aload_n (q := 6) 0 dX3_signAt_5 rfl rfl rfl ?_
  refine ez_iload_n (q := 7) 1 dX3_signAt_6 rfl rfl rfl ?_
  refine cPv (q := 10) dX3_signAt_7 ck_X3_48 hM.2.1 (t_X3_lengthOf hM hw) rfl ⟨by decide, rfl⟩ rfl rfl rfl (Nat.le_of_ble_eq_true rfl) rfl ?_
  refine ez_top hl ?_
  refine ez_icmpgeN (q := 13) (tgt := 27) dX3_signAt_10 (by decide) (by omega) (by omega) rfl (fun hc10 => ?_) (fun hc10 => ?_)
  · rw [if_neg (show ¬ i < l by omega)] at hQ
    refine ez_iconst (v := nI 0) (q := 28) dX3_signAt_27 (by decide) rfl ?_
    exact ez_zret dX3_signAt_28 rfl (by first | exact ez_nar _ hc | exact ez_nar 0 (by decide)) (hQ)
  · rw [if_pos hc10] at hQ
    refine ez_aload_n (q := 14) 0 dX3_signAt_13 rfl rfl rfl ?_
    refine ez_getf (q := 17) dX3_signAt_14 fl_X3_28 hM.2.1 rfl rfl ?_
    refine ez_iload_n (q := 18) 1 dX3_signAt_17 rfl rfl rfl ?_
    refine ez_bipush (v := nI 40) (q := 20) dX3_signAt_18 (by decide) rfl ?_
    refine ez_imulN (q := 21) dX3_signAt_20 rfl ?_
    refine ez_iload_n (q := 22) 2 dX3_signAt_21 rfl rfl rfl ?_
    refine ez_iaddN (q := 23) dX3_signAt_22 rfl ?_
    refine ez_cald (q := 24) dX3_signAt_23 hM.2.2.2.2.2.1 rfl (by omega) (by decide) rfl ?_
    refine ez_top (hc0 hc10) ?_
    refine ez_goto (q := 28) dX3_signAt_24 (by decide) ?_
    exact ez_zret dX3_signAt_28 rfl (by first | exact ez_nar _ hc | exact ez_nar 0 (by decide)) (hQ)

theorem r_X3_signAt {G : ez_G} {d n : Nat} {h : ez_H} {n' f ia : Nat} {L T ln : Nat → Nat} {sg : Nat → Nat → Nat} {w i : Nat} (hS : SS ia h n' f L T ln sg) (ho : OK n' f L T ln sg) (hw : w < 4) (hi : i < 2 ^ 31) : Con G mX3_signAt (d + 1) [.ref ia, .int (nI w), .int (nI i)] h n 0 0 (PU h n (some (.int (nI (sgA ln sg w i))))) := by
  obtain ⟨lt, st, le, sc, hM, hz⟩ := hS
  by_cases hl : i < ln w
  · exact t_X3_signAt (G := G) (d := d) (n := n) (c := sg w i) hM hw (hz.2.2.1 w hw) (ho.2.2.2.2.1 w hw) hi (fun h => hz.2.2.2.1 w hw i h) (by have := ho.2.2.2.2.2 w hw i hl; omega)
  · have h1 := t_X3_signAt (G := G) (d := d) (n := n) (c := 0) hM hw (hz.2.2.1 w hw) (ho.2.2.2.2.1 w hw) hi (fun h => absurd h hl) (by decide)
    rw [sgA, if_neg hl]; rwa [if_neg hl] at h1
set_option maxHeartbeats 800000 in
set_option maxRecDepth 100000 in
theorem t_X3_countWishes {G : ez_G} {d n : Nat} {h : ez_H} {n' f ia : Nat} {L T ln : Nat → Nat} {sg : Nat → Nat → Nat} (hS : SS ia h n' f L T ln sg) (ho : OK n' f L T ln sg) : Con G mX3_countWishes (d + 1) [.ref ia] h n 0 0 (PU h n (some (.int (nI (wmN ln 4))))) := by
  obtain ⟨lt, st, le, sc, hM, hz⟩ := hS
  have hn := ho.1
  refine Con.of [some (.ref ia), none, none] pl_X3 rfl (Nat.le_of_ble_eq_true rfl) rfl ?_
  have hQ : (PU h n (some (.int (nI (wmN ln 4))))) (.inl (some (.int (nI (wmN ln 4))))) h n := ⟨rfl, rfl, rfl⟩
  generalize PU h n (some (.int (nI (wmN ln 4)))) = Q at hQ ⊢
  refine ez_iconst (v := nI 0) (q := 1) dX3_countWishes_0 (by decide) rfl ?_
  refine ez_istore_1 (q := 2) dX3_countWishes_1 rfl (by decide) rfl rfl ?_
  refine ez_iconst (v := nI 0) (q := 3) dX3_countWishes_2 (by decide) rfl ?_
  refine ez_istore_2 (q := 4) dX3_countWishes_3 rfl (by decide) rfl rfl ?_
  refine ez_loop (α := Nat) (fun w => 4 - w) (P := fun w => (w ≤ 4) → E G mX3_countWishes (d + 1) Q h n 0 0 4 [some (.ref ia), some (.int (nI (wmN ln w))), some (.int (nI w))] []) ?_ 0 (by omega)
  intro w ih4 hw
  refine ez_iload_n (q := 5) 2 dX3_countWishes_4 rfl rfl rfl ?_
  refine ez_iconst (v := nI 4) (q := 6) dX3_countWishes_5 (by decide) rfl ?_
  refine ez_icmpgeN (q := 9) (tgt := 31) dX3_countWishes_6 (by decide) (by omega) (by omega) rfl (fun hc6 => ?_) (fun hc6 => ?_)
  · refine ez_iload_n (q := 32) 1 dX3_countWishes_31 rfl rfl rfl ?_
    exact ez_iret dX3_countWishes_32 rfl (by rw [show w = 4 from by omega]; exact hQ)
  · refine ez_iload_n (q := 10) 1 dX3_countWishes_9 rfl rfl rfl ?_
    refine ez_aload_n (q := 11) 0 dX3_countWishes_10 rfl rfl rfl ?_
    refine ez_iload_n (q := 12) 2 dX3_countWishes_11 rfl rfl rfl ?_
    refine cPv (q := 15) dX3_countWishes_12 ck_X3_48 hM.2.1 (t_X3_lengthOf hM (by omega)) rfl ⟨by decide, rfl⟩ rfl rfl rfl (Nat.le_of_ble_eq_true rfl) rfl ?_
    refine ez_top (hz.2.2.1 w (by omega)) ?_
    refine ez_ifleN (q := 18) (tgt := 22) dX3_countWishes_15 (by decide) (by have := ho.2.2.2.2.1 w (by omega); omega) rfl (fun hc15 => ?_) (fun hc15 => ?_)
    · refine ez_iconst (v := nI 0) (q := 23) dX3_countWishes_22 (by decide) rfl ?_
      refine ez_iaddN (q := 24) dX3_countWishes_23 rfl ?_
      refine ez_istore_1 (q := 25) dX3_countWishes_24 rfl (by decide) rfl rfl ?_
      refine ez_iincN_2 (q := 28) dX3_countWishes_25 (by decide) rfl rfl ?_
      refine ez_goto (q := 4) dX3_countWishes_28 (by decide) ?_
      exact E.fg (ih4 (w + 1) (by omega) (by omega)) ⟨Or.inr (rfl), Or.inr (by first | rw [wmN, if_pos (by omega)] | rw [wmN, if_neg (by omega)]), Or.inr (rfl), trivial⟩
    · refine ez_iconst (v := nI 1) (q := 19) dX3_countWishes_18 (by decide) rfl ?_
      refine ez_goto (q := 23) dX3_countWishes_19 (by decide) ?_
      refine ez_iaddN (q := 24) dX3_countWishes_23 rfl ?_
      refine ez_istore_1 (q := 25) dX3_countWishes_24 rfl (by decide) rfl rfl ?_
      refine ez_iincN_2 (q := 28) dX3_countWishes_25 (by decide) rfl rfl ?_
      refine ez_goto (q := 4) dX3_countWishes_28 (by decide) ?_
      exact E.fg (ih4 (w + 1) (by omega) (by omega)) ⟨Or.inr (rfl), Or.inr (by first | rw [wmN, if_pos (by omega)] | rw [wmN, if_neg (by omega)]), Or.inr (rfl), trivial⟩

set_option maxHeartbeats 800000 in
set_option maxRecDepth 100000 in
theorem t_X3_countSigns {G : ez_G} {d n : Nat} {h : ez_H} {n' f ia : Nat} {L T ln : Nat → Nat} {sg : Nat → Nat → Nat} (hS : SS ia h n' f L T ln sg) (ho : OK n' f L T ln sg) : Con G mX3_countSigns (d + 1) [.ref ia] h n 0 0 (PU h n (some (.int (nI (smN ln 4))))) := by
  obtain ⟨lt, st, le, sc, hM, hz⟩ := hS
  have hn := ho.1
  refine Con.of [some (.ref ia), none, none] pl_X3 rfl (Nat.le_of_ble_eq_true rfl) rfl ?_
  have hQ : (PU h n (some (.int (nI (smN ln 4))))) (.inl (some (.int (nI (smN ln 4))))) h n := ⟨rfl, rfl, rfl⟩
  generalize PU h n (some (.int (nI (smN ln 4)))) = Q at hQ ⊢
  refine ez_iconst (v := nI 0) (q := 1) dX3_countSigns_0 (by decide) rfl ?_
  refine ez_istore_1 (q := 2) dX3_countSigns_1 rfl (by decide) rfl rfl ?_
  refine ez_iconst (v := nI 0) (q := 3) dX3_countSigns_2 (by decide) rfl ?_
  refine ez_istore_2 (q := 4) dX3_countSigns_3 rfl (by decide) rfl rfl ?_
  refine ez_loop (α := Nat) (fun w => 4 - w) (P := fun w => (w ≤ 4) → E G mX3_countSigns (d + 1) Q h n 0 0 4 [some (.ref ia), some (.int (nI (smN ln w))), some (.int (nI w))] []) ?_ 0 (by omega)
  intro w ih4 hw
  refine ez_iload_n (q := 5) 2 dX3_countSigns_4 rfl rfl rfl ?_
  refine ez_iconst (v := nI 4) (q := 6) dX3_countSigns_5 (by decide) rfl ?_
  refine ez_icmpgeN (q := 9) (tgt := 23) dX3_countSigns_6 (by decide) (by omega) (by omega) rfl (fun hc6 => ?_) (fun hc6 => ?_)
  · refine ez_iload_n (q := 24) 1 dX3_countSigns_23 rfl rfl rfl ?_
    exact ez_iret dX3_countSigns_24 rfl (by rw [show w = 4 from by omega]; exact hQ)
  · refine ez_iload_n (q := 10) 1 dX3_countSigns_9 rfl rfl rfl ?_
    refine ez_aload_n (q := 11) 0 dX3_countSigns_10 rfl rfl rfl ?_
    refine ez_iload_n (q := 12) 2 dX3_countSigns_11 rfl rfl rfl ?_
    refine cPv (q := 15) dX3_countSigns_12 ck_X3_48 hM.2.1 (t_X3_lengthOf hM (by omega)) rfl ⟨by decide, rfl⟩ rfl rfl rfl (Nat.le_of_ble_eq_true rfl) rfl ?_
    refine ez_top (hz.2.2.1 w (by omega)) ?_
    refine ez_iaddN (q := 16) dX3_countSigns_15 rfl ?_
    refine ez_istore_1 (q := 17) dX3_countSigns_16 rfl (by decide) rfl rfl ?_
    refine ez_iincN_2 (q := 20) dX3_countSigns_17 (by decide) rfl rfl ?_
    refine ez_goto (q := 4) dX3_countSigns_20 (by decide) ?_
    exact E.fg (ih4 (w + 1) (by omega) (by omega)) ⟨Or.inr (rfl), Or.inr (rfl), Or.inr (rfl), trivial⟩


