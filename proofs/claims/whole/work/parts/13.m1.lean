/-- v is one of lo .. hi -/
def inB (v : Int32) (lo hi : Int) : Bool := decide (lo ≤ v.toInt ∧ v.toInt ≤ hi)
set_option maxHeartbeats 4000000 in
set_option maxRecDepth 100000 in
theorem t_X8_in {G : ez_G} {d n : Nat} {h : ez_H} {v lo hi : Int32} {a b : Int}  (h1 : lo.toInt = a) (h2 : hi.toInt = b) : Con G mX8_in (d) [.int v, .int lo, .int hi] h n 0 0 (PU h n (some (.int (bI (inB v a b))))) := by
  refine Con.of [some (.int v), some (.int lo), some (.int hi)] pl_X8 rfl (Nat.le_of_ble_eq_true rfl) rfl ?_
  have hQ : (PU h n (some (.int (bI (inB v a b))))) (.inl (some (.int (bI (inB v a b))))) h n := ⟨rfl, rfl, rfl⟩
  generalize PU h n (some (.int (bI (inB v a b)))) = Q at hQ ⊢
  refine ez_iload_n (q := 1) 0 dX8_in_0 rfl rfl rfl ?_
  refine ez_iload_n (q := 2) 1 dX8_in_1 rfl rfl rfl ?_
  refine ez_icmplt (q := 5) (tgt := 14) dX8_in_2 (by decide) rfl (fun hc2 => ?_) (fun hc2 => ?_)
  · refine ez_iconst (v := nI 0) (q := 15) dX8_in_14 (by decide) rfl ?_
    refine ez_top (show nI 0 = bI (inB v a b) from bI_df (by simp only [Int32.lt_iff_toInt_lt] at *; omega)) ?_
    exact ez_zretB dX8_in_15 rfl (hQ)
  · refine ez_iload_n (q := 6) 0 dX8_in_5 rfl rfl rfl ?_
    refine ez_iload_n (q := 7) 2 dX8_in_6 rfl rfl rfl ?_
    refine ez_icmpgt (q := 10) (tgt := 14) dX8_in_7 (by decide) rfl (fun hc7 => ?_) (fun hc7 => ?_)
    · refine ez_iconst (v := nI 0) (q := 15) dX8_in_14 (by decide) rfl ?_
      refine ez_top (show nI 0 = bI (inB v a b) from bI_df (by simp only [Int32.lt_iff_toInt_lt] at *; omega)) ?_
      exact ez_zretB dX8_in_15 rfl (hQ)
    · refine ez_iconst (v := nI 1) (q := 11) dX8_in_10 (by decide) rfl ?_
      refine ez_top (show nI 1 = bI (inB v a b) from bI_dt (by simp only [Int32.lt_iff_toInt_lt] at *; omega)) ?_
      refine ez_goto (q := 15) dX8_in_11 (by decide) ?_
      exact ez_zretB dX8_in_15 rfl (hQ)

set_option maxHeartbeats 4000000 in
set_option maxRecDepth 100000 in
theorem t_X8_isWish {G : ez_G} {d n : Nat} {h : ez_H} {v : Int32}   : Con G mX8_isWish (d + 1) [.int v] h n 0 0 (PU h n (some (.int (bI (inB v 0 3))))) := by
  refine Con.of [some (.int v)] pl_X8 rfl (Nat.le_of_ble_eq_true rfl) rfl ?_
  have hQ : (PU h n (some (.int (bI (inB v 0 3))))) (.inl (some (.int (bI (inB v 0 3))))) h n := ⟨rfl, rfl, rfl⟩
  generalize PU h n (some (.int (bI (inB v 0 3)))) = Q at hQ ⊢
  refine ez_iload_n (q := 1) 0 dX8_isWish_0 rfl rfl rfl ?_
  refine ez_iconst (v := nI 0) (q := 2) dX8_isWish_1 (by decide) rfl ?_
  refine ez_iconst (v := nI 3) (q := 3) dX8_isWish_2 (by decide) rfl ?_
  refine cUv (q := 6) dX8_isWish_3 ck_X8_41 (t_X8_in (a := 0) (b := 3) (by decide) (by decide)) rfl rfl rfl (Nat.le_of_ble_eq_true rfl) rfl ?_
  exact ez_zretB dX8_isWish_6 rfl (hQ)

set_option maxHeartbeats 4000000 in
set_option maxRecDepth 100000 in
theorem t_X8_isWorld {G : ez_G} {d n : Nat} {h : ez_H} {n' f : Nat} {L T ln : Nat → Nat} {sg : Nat → Nat → Nat} {i : Int32} {th sm ty rd wa rm fm ff : Int32} {z sv bf se ro le de rw sp : Nat → Int32} {ww : Bool} {ha : Int64} (hM : IM h h th z sv sm bf ty rd se ro le de wa ww rw rm sp fm ff ha) (hz : ZZ z n' f L T ln sg) (ho : OK n' f L T ln sg) : Con G mX8_isWorld (d) [.ref 64, .int i] h n 0 0 (PM h n (some (.int (bI (inB i 0 (n' - 1))))) th z sv sm bf ty rd se ro le de wa ww rw rm sp fm ff ha) := by
  have hn := ho.1
  have hn0 := hz.1
  have hn1 := nI_toInt (show n' < 2 ^ 31 by omega)
  refine Con.of [some (.ref 64), some (.int i)] pl_X8 rfl (Nat.le_of_ble_eq_true rfl) rfl ?_
  have hQ : ∀ g, IM h g th z sv sm bf ty rd se ro le de wa ww rw rm sp fm ff ha → (PM h n (some (.int (bI (inB i 0 (n' - 1))))) th z sv sm bf ty rd se ro le de wa ww rw rm sp fm ff ha) (.inl (some (.int (bI (inB i 0 (n' - 1)))))) g n := fun g hM => ⟨rfl, hM, rfl⟩
  generalize PM h n (some (.int (bI (inB i 0 (n' - 1))))) th z sv sm bf ty rd se ro le de wa ww rw rm sp fm ff ha = Q at hQ ⊢
  refine ez_iload_n (q := 1) 1 dX8_isWorld_0 rfl rfl rfl ?_
  refine ez_iflt (q := 4) (tgt := 18) dX8_isWorld_1 (by decide) rfl (fun hc1 => ?_) (fun hc1 => ?_)
  · refine ez_iconst (v := nI 0) (q := 19) dX8_isWorld_18 (by decide) rfl ?_
    refine ez_top (show nI 0 = bI (inB i 0 (n' - 1)) from bI_df (by simp only [Int32.lt_iff_toInt_lt, Int32.le_iff_toInt_le, Int32.toInt_zero, hn1] at *; omega)) ?_
    exact ez_zretB dX8_isWorld_19 rfl (hQ _ hM)
  · refine ez_iload_n (q := 5) 1 dX8_isWorld_4 rfl rfl rfl ?_
    refine ez_aload_n (q := 6) 0 dX8_isWorld_5 rfl rfl rfl ?_
    refine ez_getf (q := 9) dX8_isWorld_6 fl_X8_7 hM.1 rfl rfl ?_
    refine ez_iconst (v := nI 0) (q := 10) dX8_isWorld_9 (by decide) rfl ?_
    refine ez_iald (q := 11) dX8_isWorld_10 hM.2.1 rfl (by omega) (by decide) rfl ?_
    refine ez_top (hn0) ?_
    refine ez_icmpge (q := 14) (tgt := 18) dX8_isWorld_11 (by decide) rfl (fun hc11 => ?_) (fun hc11 => ?_)
    · refine ez_iconst (v := nI 0) (q := 19) dX8_isWorld_18 (by decide) rfl ?_
      refine ez_top (show nI 0 = bI (inB i 0 (n' - 1)) from bI_df (by simp only [Int32.lt_iff_toInt_lt, Int32.le_iff_toInt_le, Int32.toInt_zero, hn1] at *; omega)) ?_
      exact ez_zretB dX8_isWorld_19 rfl (hQ _ hM)
    · refine ez_iconst (v := nI 1) (q := 15) dX8_isWorld_14 (by decide) rfl ?_
      refine ez_top (show nI 1 = bI (inB i 0 (n' - 1)) from bI_dt (by simp only [Int32.lt_iff_toInt_lt, Int32.le_iff_toInt_le, Int32.toInt_zero, hn1] at *; omega)) ?_
      refine ez_goto (q := 19) dX8_isWorld_15 (by decide) ?_
      exact ez_zretB dX8_isWorld_19 rfl (hQ _ hM)

set_option maxHeartbeats 4000000 in
set_option maxRecDepth 100000 in
theorem t_X8_all {G : ez_G} {d n : Nat} {h : ez_H} {n' f : Nat} {L T ln : Nat → Nat} {sg : Nat → Nat → Nat} {th sm ty rd wa rm fm ff : Int32} {z sv bf se ro le de rw sp : Nat → Int32} {ww : Bool} {ha : Int64} (hM : IM h h th z sv sm bf ty rd se ro le de wa ww rw rm sp fm ff ha) (hz : ZZ z n' f L T ln sg) (ho : OK n' f L T ln sg) : Con G mX8_all (d) [.ref 64] h n 0 0 (PM h n (some (.int (nI (2 ^ n' - 1)))) th z sv sm bf ty rd se ro le de wa ww rw rm sp fm ff ha) := by
  have hn := ho.1
  have hn0 := hz.1
  refine Con.of [some (.ref 64)] pl_X8 rfl (Nat.le_of_ble_eq_true rfl) rfl ?_
  have hQ : ∀ g, IM h g th z sv sm bf ty rd se ro le de wa ww rw rm sp fm ff ha → (PM h n (some (.int (nI (2 ^ n' - 1)))) th z sv sm bf ty rd se ro le de wa ww rw rm sp fm ff ha) (.inl (some (.int (nI (2 ^ n' - 1))))) g n := fun g hM => ⟨rfl, hM, rfl⟩
  generalize PM h n (some (.int (nI (2 ^ n' - 1)))) th z sv sm bf ty rd se ro le de wa ww rw rm sp fm ff ha = Q at hQ ⊢
  refine ez_iconst (v := nI 1) (q := 1) dX8_all_0 (by decide) rfl ?_
  refine ez_aload_n (q := 2) 0 dX8_all_1 rfl rfl rfl ?_
  refine ez_getf (q := 5) dX8_all_2 fl_X8_7 hM.1 rfl rfl ?_
  refine ez_iconst (v := nI 0) (q := 6) dX8_all_5 (by decide) rfl ?_
  refine ez_iald (q := 7) dX8_all_6 hM.2.1 rfl (by omega) (by decide) rfl ?_
  refine ez_top (hn0) ?_
  refine ez_shl1 (q := 8) dX8_all_7 (by omega) rfl ?_
  refine ez_iconst (v := nI 1) (q := 9) dX8_all_8 (by decide) rfl ?_
  refine ez_isubN (q := 10) dX8_all_9 Nat.one_le_two_pow rfl ?_
  exact ez_iret dX8_all_10 rfl (hQ _ hM)

set_option maxHeartbeats 4000000 in
set_option maxRecDepth 100000 in
theorem t_X8_lengthOf {G : ez_G} {d n : Nat} {h : ez_H} {n' f : Nat} {L T ln : Nat → Nat} {sg : Nat → Nat → Nat} {w : Nat} {th sm ty rd wa rm fm ff : Int32} {z sv bf se ro le de rw sp : Nat → Int32} {ww : Bool} {ha : Int64} (hM : IM h h th z sv sm bf ty rd se ro le de wa ww rw rm sp fm ff ha) (hz : ZZ z n' f L T ln sg) (ho : OK n' f L T ln sg) (hw : w < 4) : Con G mX8_lengthOf (d) [.ref 64, .int (nI w)] h n 0 0 (PM h n (some (.int (nI (ln w)))) th z sv sm bf ty rd se ro le de wa ww rw rm sp fm ff ha) := by
  refine Con.of [some (.ref 64), some (.int (nI w))] pl_X8 rfl (Nat.le_of_ble_eq_true rfl) rfl ?_
  have hQ : ∀ g, IM h g th z sv sm bf ty rd se ro le de wa ww rw rm sp fm ff ha → (PM h n (some (.int (nI (ln w)))) th z sv sm bf ty rd se ro le de wa ww rw rm sp fm ff ha) (.inl (some (.int (nI (ln w))))) g n := fun g hM => ⟨rfl, hM, rfl⟩
  generalize PM h n (some (.int (nI (ln w)))) th z sv sm bf ty rd se ro le de wa ww rw rm sp fm ff ha = Q at hQ ⊢
  refine ez_aload_n (q := 1) 0 dX8_lengthOf_0 rfl rfl rfl ?_
  refine ez_getf (q := 4) dX8_lengthOf_1 fl_X8_7 hM.1 rfl rfl ?_
  refine ez_bipush (v := nI 22) (q := 6) dX8_lengthOf_4 (by decide) rfl ?_
  refine ez_bipush (v := nI 41) (q := 8) dX8_lengthOf_6 (by decide) rfl ?_
  refine ez_iload_n (q := 9) 1 dX8_lengthOf_8 rfl rfl rfl ?_
  refine ez_imulN (q := 10) dX8_lengthOf_9 rfl ?_
  refine ez_iaddN (q := 11) dX8_lengthOf_10 rfl ?_
  refine ez_iald (q := 12) dX8_lengthOf_11 hM.2.1 rfl (by omega) (by decide) rfl ?_
  refine ez_top (hz.2.2.2.2.1 w hw) ?_
  exact ez_iret dX8_lengthOf_12 rfl (hQ _ hM)

set_option maxHeartbeats 4000000 in
set_option maxRecDepth 100000 in
theorem t_X8_signAt {G : ez_G} {d n : Nat} {h : ez_H} {n' f : Nat} {L T ln : Nat → Nat} {sg : Nat → Nat → Nat} {w i : Nat} {th sm ty rd wa rm fm ff : Int32} {z sv bf se ro le de rw sp : Nat → Int32} {ww : Bool} {ha : Int64} (hM : IM h h th z sv sm bf ty rd se ro le de wa ww rw rm sp fm ff ha) (hz : ZZ z n' f L T ln sg) (ho : OK n' f L T ln sg) (hw : w < 4) (hi : i < ln w) : Con G mX8_signAt (d) [.ref 64, .int (nI w), .int (nI i)] h n 0 0 (PM h n (some (.int (nI (sg w i)))) th z sv sm bf ty rd se ro le de wa ww rw rm sp fm ff ha) := by
  have hl := ho.2.2.2.2.1 w hw
  refine Con.of [some (.ref 64), some (.int (nI w)), some (.int (nI i))] pl_X8 rfl (Nat.le_of_ble_eq_true rfl) rfl ?_
  have hQ : ∀ g, IM h g th z sv sm bf ty rd se ro le de wa ww rw rm sp fm ff ha → (PM h n (some (.int (nI (sg w i)))) th z sv sm bf ty rd se ro le de wa ww rw rm sp fm ff ha) (.inl (some (.int (nI (sg w i))))) g n := fun g hM => ⟨rfl, hM, rfl⟩
  generalize PM h n (some (.int (nI (sg w i)))) th z sv sm bf ty rd se ro le de wa ww rw rm sp fm ff ha = Q at hQ ⊢
  refine ez_aload_n (q := 1) 0 dX8_signAt_0 rfl rfl rfl ?_
  refine ez_getf (q := 4) dX8_signAt_1 fl_X8_7 hM.1 rfl rfl ?_
  refine ez_bipush (v := nI 22) (q := 6) dX8_signAt_4 (by decide) rfl ?_
  refine ez_bipush (v := nI 41) (q := 8) dX8_signAt_6 (by decide) rfl ?_
  refine ez_iload_n (q := 9) 1 dX8_signAt_8 rfl rfl rfl ?_
  refine ez_imulN (q := 10) dX8_signAt_9 rfl ?_
  refine ez_iaddN (q := 11) dX8_signAt_10 rfl ?_
  refine ez_iconst (v := nI 1) (q := 12) dX8_signAt_11 (by decide) rfl ?_
  refine ez_iaddN (q := 13) dX8_signAt_12 rfl ?_
  refine ez_iload_n (q := 14) 2 dX8_signAt_13 rfl rfl rfl ?_
  refine ez_iaddN (q := 15) dX8_signAt_14 rfl ?_
  refine ez_iald (q := 16) dX8_signAt_15 hM.2.1 rfl (by omega) (by decide) rfl ?_
  refine ez_top (hz.2.2.2.2.2 w hw i hi) ?_
  exact ez_iret dX8_signAt_16 rfl (hQ _ hM)

def wayB (c : Nat) : Bool := decide (c = 88 ∨ c = 70 ∨ c = 71 ∨ c = 85)
set_option maxHeartbeats 4000000 in
set_option maxRecDepth 100000 in
theorem t_X8_isOfWays {G : ez_G} {d n : Nat} {h : ez_H} {c : Nat}  (hc : c < 128) : Con G mX8_isOfWays (d) [.int (nI c)] h n 0 0 (PU h n (some (.int (bI (wayB c))))) := by
  refine Con.of [some (.int (nI c))] pl_X8 rfl (Nat.le_of_ble_eq_true rfl) rfl ?_
  have hQ : (PU h n (some (.int (bI (wayB c))))) (.inl (some (.int (bI (wayB c))))) h n := ⟨rfl, rfl, rfl⟩
  generalize PU h n (some (.int (bI (wayB c)))) = Q at hQ ⊢
  refine ez_iload_n (q := 1) 0 dX8_isOfWays_0 rfl rfl rfl ?_
  refine ez_bipush (v := nI 88) (q := 3) dX8_isOfWays_1 (by decide) rfl ?_
  refine ez_icmpeqN (q := 6) (tgt := 24) dX8_isOfWays_3 (by decide) (by omega) (by omega) rfl (fun hc3 => ?_) (fun hc3 => ?_)
  · refine ez_iconst (v := nI 1) (q := 25) dX8_isOfWays_24 (by decide) rfl ?_
    refine ez_top (show nI 1 = bI (wayB c) from bI_dt (by omega)) ?_
    refine ez_goto (q := 29) dX8_isOfWays_25 (by decide) ?_
    exact ez_zretB dX8_isOfWays_29 rfl (hQ)
  · refine ez_iload_n (q := 7) 0 dX8_isOfWays_6 rfl rfl rfl ?_
    refine ez_bipush (v := nI 70) (q := 9) dX8_isOfWays_7 (by decide) rfl ?_
    refine ez_icmpeqN (q := 12) (tgt := 24) dX8_isOfWays_9 (by decide) (by omega) (by omega) rfl (fun hc9 => ?_) (fun hc9 => ?_)
    · refine ez_iconst (v := nI 1) (q := 25) dX8_isOfWays_24 (by decide) rfl ?_
      refine ez_top (show nI 1 = bI (wayB c) from bI_dt (by omega)) ?_
      refine ez_goto (q := 29) dX8_isOfWays_25 (by decide) ?_
      exact ez_zretB dX8_isOfWays_29 rfl (hQ)
    · refine ez_iload_n (q := 13) 0 dX8_isOfWays_12 rfl rfl rfl ?_
      refine ez_bipush (v := nI 71) (q := 15) dX8_isOfWays_13 (by decide) rfl ?_
      refine ez_icmpeqN (q := 18) (tgt := 24) dX8_isOfWays_15 (by decide) (by omega) (by omega) rfl (fun hc15 => ?_) (fun hc15 => ?_)
      · refine ez_iconst (v := nI 1) (q := 25) dX8_isOfWays_24 (by decide) rfl ?_
        refine ez_top (show nI 1 = bI (wayB c) from bI_dt (by omega)) ?_
        refine ez_goto (q := 29) dX8_isOfWays_25 (by decide) ?_
        exact ez_zretB dX8_isOfWays_29 rfl (hQ)
      · refine ez_iload_n (q := 19) 0 dX8_isOfWays_18 rfl rfl rfl ?_
        refine ez_bipush (v := nI 85) (q := 21) dX8_isOfWays_19 (by decide) rfl ?_
        refine ez_icmpneN (q := 24) (tgt := 28) dX8_isOfWays_21 (by decide) (by omega) (by omega) rfl (fun hc21 => ?_) (fun hc21 => ?_)
        · refine ez_iconst (v := nI 0) (q := 29) dX8_isOfWays_28 (by decide) rfl ?_
          refine ez_top (show nI 0 = bI (wayB c) from bI_df (by omega)) ?_
          exact ez_zretB dX8_isOfWays_29 rfl (hQ)
        · refine ez_iconst (v := nI 1) (q := 25) dX8_isOfWays_24 (by decide) rfl ?_
          refine ez_top (show nI 1 = bI (wayB c) from bI_dt (by omega)) ?_
          refine ez_goto (q := 29) dX8_isOfWays_25 (by decide) ?_
          exact ez_zretB dX8_isOfWays_29 rfl (hQ)

set_option maxHeartbeats 4000000 in
set_option maxRecDepth 100000 in
theorem t_X8_into {G : ez_G} {d n : Nat} {h : ez_H} {n' f : Nat} {L T ln : Nat → Nat} {sg : Nat → Nat → Nat} {s : Nat} {th sm ty rd wa rm fm ff : Int32} {z sv bf se ro le de rw sp : Nat → Int32} {ww : Bool} {ha : Int64} (hM : IM h h th z sv sm bf ty rd se ro le de wa ww rw rm sp fm ff ha) (hz : ZZ z n' f L T ln sg) (ho : OK n' f L T ln sg) : Con G mX8_into (d) [.ref 64, .int (nI s)] h n 0 0 (PM h n (some (.int (nI (inN T s n')))) th z sv sm bf ty rd se ro le de wa ww rw rm sp fm ff ha) := by
  have hn := ho.1
  have hn0 := hz.1
  refine Con.of [some (.ref 64), some (.int (nI s)), none, none] pl_X8 rfl (Nat.le_of_ble_eq_true rfl) rfl ?_
  have hQ : ∀ g, IM h g th z sv sm bf ty rd se ro le de wa ww rw rm sp fm ff ha → (PM h n (some (.int (nI (inN T s n')))) th z sv sm bf ty rd se ro le de wa ww rw rm sp fm ff ha) (.inl (some (.int (nI (inN T s n'))))) g n := fun g hM => ⟨rfl, hM, rfl⟩
  generalize PM h n (some (.int (nI (inN T s n')))) th z sv sm bf ty rd se ro le de wa ww rw rm sp fm ff ha = Q at hQ ⊢
  refine ez_iconst (v := nI 0) (q := 1) dX8_into_0 (by decide) rfl ?_
  refine ez_istore_2 (q := 2) dX8_into_1 rfl (by decide) rfl rfl ?_
  refine ez_iconst (v := nI 0) (q := 3) dX8_into_2 (by decide) rfl ?_
  refine ez_istore_3 (q := 4) dX8_into_3 rfl (by decide) rfl rfl ?_
  refine ez_loop (α := Nat) (fun i => n' - i) (P := fun i => (i ≤ n') → E G mX8_into (d) Q h n 0 0 4 [some (.ref 64), some (.int (nI s)), some (.int (nI (inN T s i))), some (.int (nI i))] []) ?_ 0 (Nat.zero_le _)
  intro i ih4 hi
  refine ez_iload_n (q := 5) 3 dX8_into_4 rfl rfl rfl ?_
  refine ez_aload_n (q := 6) 0 dX8_into_5 rfl rfl rfl ?_
  refine ez_getf (q := 9) dX8_into_6 fl_X8_7 hM.1 rfl rfl ?_
  refine ez_iconst (v := nI 0) (q := 10) dX8_into_9 (by decide) rfl ?_
  refine ez_iald (q := 11) dX8_into_10 hM.2.1 rfl (by omega) (by decide) rfl ?_
  first | refine ez_top (hn0) ?_ | refine ez_top (hz.2.2.2.1 _ (by omega)) ?_
  refine ez_icmpgeN (q := 14) (tgt := 44) dX8_into_11 (by decide) (by omega) (by omega) rfl (fun hc11 => ?_) (fun hc11 => ?_)
  · refine ez_iload_n (q := 45) 2 dX8_into_44 rfl rfl rfl ?_
    exact ez_iret dX8_into_45 rfl (by rw [show i = n' from by omega]; exact hQ _ hM)
  · refine ez_iload_n (q := 15) 2 dX8_into_14 rfl rfl rfl ?_
    refine ez_aload_n (q := 16) 0 dX8_into_15 rfl rfl rfl ?_
    refine ez_getf (q := 19) dX8_into_16 fl_X8_7 hM.1 rfl rfl ?_
    refine ez_bipush (v := nI 12) (q := 21) dX8_into_19 (by decide) rfl ?_
    refine ez_iload_n (q := 22) 3 dX8_into_21 rfl rfl rfl ?_
    refine ez_iaddN (q := 23) dX8_into_22 rfl ?_
    refine ez_iald (q := 24) dX8_into_23 hM.2.1 rfl (by omega) (by decide) rfl ?_
    first | refine ez_top (hn0) ?_ | refine ez_top (hz.2.2.2.1 _ (by omega)) ?_
    refine ez_iload_n (q := 25) 1 dX8_into_24 rfl rfl rfl ?_
    refine ez_iandN (q := 26) dX8_into_25 rfl ?_
    refine ez_ifeqN (q := 29) (tgt := 35) dX8_into_26 (by decide) (Nat.lt_of_le_of_lt (and_le _ _) (Nat.lt_of_lt_of_le (ho.2.2.2.1 i hc11) (Nat.le_trans (p10 (Nat.le_refl _) hn) (by decide)))) rfl (fun hc26 => ?_) (fun hc26 => ?_)
    · refine ez_iconst (v := nI 0) (q := 36) dX8_into_35 (by decide) rfl ?_
      refine ez_iorN (q := 37) dX8_into_36 rfl ?_
      refine ez_istore_2 (q := 38) dX8_into_37 rfl (by decide) rfl rfl ?_
      refine ez_iincN_3 (q := 41) dX8_into_38 (by decide) rfl rfl ?_
      refine ez_goto (q := 4) dX8_into_41 (by decide) ?_
      exact E.fg (ih4 (i + 1) (by omega) (by omega)) ⟨Or.inr (rfl), Or.inr (rfl), Or.inr (by first | rw [inN_t hc26] | rw [inN_f hc26, Nat.or_zero]), Or.inr (rfl), trivial⟩
    · refine ez_iconst (v := nI 1) (q := 30) dX8_into_29 (by decide) rfl ?_
      refine ez_iload_n (q := 31) 3 dX8_into_30 rfl rfl rfl ?_
      refine ez_shl1 (q := 32) dX8_into_31 (by omega) rfl ?_
      refine ez_goto (q := 36) dX8_into_32 (by decide) ?_
      refine ez_iorN (q := 37) dX8_into_36 rfl ?_
      refine ez_istore_2 (q := 38) dX8_into_37 rfl (by decide) rfl rfl ?_
      refine ez_iincN_3 (q := 41) dX8_into_38 (by decide) rfl rfl ?_
      refine ez_goto (q := 4) dX8_into_41 (by decide) ?_
      exact E.fg (ih4 (i + 1) (by omega) (by omega)) ⟨Or.inr (rfl), Or.inr (rfl), Or.inr (by first | rw [inN_t hc26] | rw [inN_f hc26, Nat.or_zero]), Or.inr (rfl), trivial⟩

set_option maxHeartbeats 4000000 in
set_option maxRecDepth 100000 in
theorem t_X8_withLetter {G : ez_G} {d n : Nat} {h : ez_H} {n' f : Nat} {L T ln : Nat → Nat} {sg : Nat → Nat → Nat} {c : Nat} {th sm ty rd wa rm fm ff : Int32} {z sv bf se ro le de rw sp : Nat → Int32} {ww : Bool} {ha : Int64} (hM : IM h h th z sv sm bf ty rd se ro le de wa ww rw rm sp fm ff ha) (hz : ZZ z n' f L T ln sg) (ho : OK n' f L T ln sg) (hc : c < 4) : Con G mX8_withLetter (d) [.ref 64, .int (nI c)] h n 0 0 (PM h n (some (.int (nI (wlN L c n')))) th z sv sm bf ty rd se ro le de wa ww rw rm sp fm ff ha) := by
  have hn := ho.1
  have hn0 := hz.1
  refine Con.of [some (.ref 64), some (.int (nI c)), none, none] pl_X8 rfl (Nat.le_of_ble_eq_true rfl) rfl ?_
  have hQ : ∀ g, IM h g th z sv sm bf ty rd se ro le de wa ww rw rm sp fm ff ha → (PM h n (some (.int (nI (wlN L c n')))) th z sv sm bf ty rd se ro le de wa ww rw rm sp fm ff ha) (.inl (some (.int (nI (wlN L c n'))))) g n := fun g hM => ⟨rfl, hM, rfl⟩
  generalize PM h n (some (.int (nI (wlN L c n')))) th z sv sm bf ty rd se ro le de wa ww rw rm sp fm ff ha = Q at hQ ⊢
  refine ez_iconst (v := nI 0) (q := 1) dX8_withLetter_0 (by decide) rfl ?_
  refine ez_istore_2 (q := 2) dX8_withLetter_1 rfl (by decide) rfl rfl ?_
  refine ez_iconst (v := nI 0) (q := 3) dX8_withLetter_2 (by decide) rfl ?_
  refine ez_istore_3 (q := 4) dX8_withLetter_3 rfl (by decide) rfl rfl ?_
  refine ez_loop (α := Nat) (fun i => n' - i) (P := fun i => (i ≤ n') → E G mX8_withLetter (d) Q h n 0 0 4 [some (.ref 64), some (.int (nI c)), some (.int (nI (wlN L c i))), some (.int (nI i))] []) ?_ 0 (Nat.zero_le _)
  intro i ih4 hi
  refine ez_iload_n (q := 5) 3 dX8_withLetter_4 rfl rfl rfl ?_
  refine ez_aload_n (q := 6) 0 dX8_withLetter_5 rfl rfl rfl ?_
  refine ez_getf (q := 9) dX8_withLetter_6 fl_X8_7 hM.1 rfl rfl ?_
  refine ez_iconst (v := nI 0) (q := 10) dX8_withLetter_9 (by decide) rfl ?_
  refine ez_iald (q := 11) dX8_withLetter_10 hM.2.1 rfl (by omega) (by decide) rfl ?_
  first | refine ez_top (hn0) ?_ | refine ez_top (hz.2.2.1 _ (by omega)) ?_
  refine ez_icmpgeN (q := 14) (tgt := 37) dX8_withLetter_11 (by decide) (by omega) (by omega) rfl (fun hc11 => ?_) (fun hc11 => ?_)
  · refine ez_iload_n (q := 38) 2 dX8_withLetter_37 rfl rfl rfl ?_
    exact ez_iret dX8_withLetter_38 rfl (by rw [show i = n' from by omega]; exact hQ _ hM)
  · refine ez_iload_n (q := 15) 2 dX8_withLetter_14 rfl rfl rfl ?_
    refine ez_aload_n (q := 16) 0 dX8_withLetter_15 rfl rfl rfl ?_
    refine ez_getf (q := 19) dX8_withLetter_16 fl_X8_7 hM.1 rfl rfl ?_
    refine ez_iconst (v := nI 2) (q := 20) dX8_withLetter_19 (by decide) rfl ?_
    refine ez_iload_n (q := 21) 3 dX8_withLetter_20 rfl rfl rfl ?_
    refine ez_iaddN (q := 22) dX8_withLetter_21 rfl ?_
    refine ez_iald (q := 23) dX8_withLetter_22 hM.2.1 rfl (by omega) (by decide) rfl ?_
    first | refine ez_top (hn0) ?_ | refine ez_top (hz.2.2.1 _ (by omega)) ?_
    refine ez_iload_n (q := 24) 1 dX8_withLetter_23 rfl rfl rfl ?_
    refine ez_ishrN (q := 25) dX8_withLetter_24 (by have := ho.2.2.1 i (by omega); omega) (by omega) rfl ?_
    refine ez_iconst (v := nI 1) (q := 26) dX8_withLetter_25 (by decide) rfl ?_
    refine ez_iandN (q := 27) dX8_withLetter_26 rfl ?_
    refine ez_iload_n (q := 28) 3 dX8_withLetter_27 rfl rfl rfl ?_
    refine ez_ishlN (q := 29) dX8_withLetter_28 (by omega) rfl ?_
    refine ez_iorN (q := 30) dX8_withLetter_29 rfl ?_
    refine ez_istore_2 (q := 31) dX8_withLetter_30 rfl (by decide) rfl rfl ?_
    refine ez_iincN_3 (q := 34) dX8_withLetter_31 (by decide) rfl rfl ?_
    refine ez_goto (q := 4) dX8_withLetter_34 (by decide) ?_
    exact E.fg (ih4 (i + 1) (by omega) (by omega)) ⟨Or.inr (rfl), Or.inr (rfl), Or.inr (rfl), Or.inr (rfl), trivial⟩

set_option maxHeartbeats 4000000 in
set_option maxRecDepth 100000 in
theorem t_X8_goals {G : ez_G} {d n : Nat} {h : ez_H} {n' f : Nat} {L T ln : Nat → Nat} {sg : Nat → Nat → Nat} {s : Nat} {th sm ty rd wa rm fm ff : Int32} {z sv bf se ro le de rw sp : Nat → Int32} {ww : Bool} {ha : Int64} (hM : IM h h th z sv sm bf ty rd se ro le de wa ww rw rm sp fm ff ha) (hz : ZZ z n' f L T ln sg) (ho : OK n' f L T ln sg) : Con G mX8_goals (d + 1) [.ref 64, .int (nI s)] h n 0 0 (PM h n (some (.int (nI (goN n' f L s)))) th z sv sm bf ty rd se ro le de wa ww rw rm sp fm ff ha) := by
  have hf := ho.2.1
  refine Con.of [some (.ref 64), some (.int (nI s))] pl_X8 rfl (Nat.le_of_ble_eq_true rfl) rfl ?_
  have hQ : ∀ g, IM h g th z sv sm bf ty rd se ro le de wa ww rw rm sp fm ff ha → (PM h n (some (.int (nI (goN n' f L s)))) th z sv sm bf ty rd se ro le de wa ww rw rm sp fm ff ha) (.inl (some (.int (nI (goN n' f L s))))) g n := fun g hM => ⟨rfl, hM, rfl⟩
  generalize PM h n (some (.int (nI (goN n' f L s)))) th z sv sm bf ty rd se ro le de wa ww rw rm sp fm ff ha = Q at hQ ⊢
  refine ez_aload_n (q := 1) 0 dX8_goals_0 rfl rfl rfl ?_
  refine ez_getf (q := 4) dX8_goals_1 fl_X8_7 hM.1 rfl rfl ?_
  refine ez_iconst (v := nI 1) (q := 5) dX8_goals_4 (by decide) rfl ?_
  refine ez_iald (q := 6) dX8_goals_5 hM.2.1 rfl (by omega) (by decide) rfl ?_
  refine ez_top (hz.2.1) ?_
  refine ez_iconst (v := -1) (q := 7) dX8_goals_6 (by decide) rfl ?_
  refine ez_icmpne (q := 10) (tgt := 14) dX8_goals_7 (by decide) rfl (fun hc7 => ?_) (fun hc7 => ?_)
  · have hf4 : f ≠ 4 := fun e => hc7 (by rw [e]; rfl)
    refine ez_iload_n (q := 15) 1 dX8_goals_14 rfl rfl rfl ?_
    refine ez_aload_n (q := 16) 0 dX8_goals_15 rfl rfl rfl ?_
    refine ez_aload_n (q := 17) 0 dX8_goals_16 rfl rfl rfl ?_
    refine ez_getf (q := 20) dX8_goals_17 fl_X8_7 hM.1 rfl rfl ?_
    refine ez_iconst (v := nI 1) (q := 21) dX8_goals_20 (by decide) rfl ?_
    refine ez_iald (q := 22) dX8_goals_21 hM.2.1 rfl (by omega) (by decide) rfl ?_
    refine ez_top (hz.2.1.trans (fI_n hf4)) ?_
    refine cMv (q := 25) dX8_goals_22 ck_X8_67 hM (t_X8_withLetter hM.rb hz ho (by omega)) rfl rfl rfl rfl rfl (Nat.le_of_ble_eq_true rfl) rfl (fun g hM => ?_)
    refine ez_iandN (q := 26) dX8_goals_25 rfl ?_
    exact ez_iret dX8_goals_26 rfl (by first | exact hQ _ hM | (rw [goN, if_neg hf4] at hQ; exact hQ _ hM))
  · have hf4 := fI_m hf hc7
    subst hf4
    refine ez_iload_n (q := 11) 1 dX8_goals_10 rfl rfl rfl ?_
    refine ez_goto (q := 26) dX8_goals_11 (by decide) ?_
    exact ez_iret dX8_goals_26 rfl (by first | exact hQ _ hM | (rw [goN, if_neg hf4] at hQ; exact hQ _ hM))

