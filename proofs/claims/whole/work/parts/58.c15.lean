set_option maxHeartbeats 800000 in
set_option maxRecDepth 100000 in
theorem t_X7_mixed {G : ez_G} {d n : Nat} {h : ez_H} {mx : Int64 → Int64 → Int64} {a9 b9 : Int64} (hmx : ∀ a b, mx a b = 31 * a + b) : Con G mX7_mixed (d) [.long a9, .long b9] h n 0 0 (PU h n (some (.long (mx a9 b9)))) := by
  refine Con.of [some (.long a9), none, some (.long b9), none] pl_X7 rfl (Nat.le_of_ble_eq_true rfl) rfl ?_
  have hQ : (PU h n (some (.long (mx a9 b9)))) (.inl (some (.long (mx a9 b9)))) h n := ⟨rfl, rfl, rfl⟩
  generalize PU h n (some (.long (mx a9 b9))) = Q at hQ ⊢
  refine ez_ldc2 (q := 3) dX7_mixed_0 ct_X7_286 rfl ?_
  refine ez_lload_n (q := 4) 0 dX7_mixed_3 rfl rfl rfl ?_
  refine ez_lmul (q := 5) dX7_mixed_4 rfl ?_
  refine ez_lload_n (q := 6) 2 dX7_mixed_5 rfl rfl rfl ?_
  refine ez_ladd (q := 7) dX7_mixed_6 rfl ?_
  exact ez_lret dX7_mixed_7 rfl (by rw [hmx] at hQ; exact hQ)

set_option maxHeartbeats 800000 in
set_option maxRecDepth 100000 in
theorem t_X7_bitsOfShare {G : ez_G} {d n : Nat} {h : ez_H} {u p : Nat} (hp : p < 41) (hh : u ≤ p) : Con G mX7_bitsOfShare (d) [.double (shV u p)] h n 0 0 (PU h n (some (.long (biV u p)))) := by
  refine Con.of [some (.double (shV u p)), none, none, none, none, none, none, none] pl_X7 rfl (Nat.le_of_ble_eq_true rfl) rfl ?_
  have hQ : (PU h n (some (.long (biV u p)))) (.inl (some (.long (biV u p)))) h n := ⟨rfl, rfl, rfl⟩
  generalize PU h n (some (.long (biV u p))) = Q at hQ ⊢
  by_cases hz9 : u = 0 ∧ ¬ p = 0
  · obtain ⟨rfl, hp0⟩ := hz9
    obtain ⟨z1, z2⟩ := bi_0 p hp hp0
    rw [show biV 0 p = 0 from if_pos ⟨rfl, hp0⟩] at hQ
    refine ez_dload_n (q := 1) 0 dX7_bitsOfShare_0 rfl rfl rfl ?_
    refine ez_dconst0 (q := 2) dX7_bitsOfShare_1 rfl ?_
    refine ez_dcmp (q := 3) dX7_bitsOfShare_2 rfl ?_
    refine ez_ifgt (q := 6) (tgt := 8) dX7_bitsOfShare_3 (by decide) rfl (fun hc3 => ?_) (fun hc3 => ?_)
    · first
      | exact absurd hc3 (by rw [z1]; decide)
      | skip
        refine ez_dload_n (q := 9) 0 dX7_bitsOfShare_8 rfl rfl rfl ?_
        refine ez_dstore_2 (q := 10) dX7_bitsOfShare_9 rfl (by decide) rfl rfl ?_
        refine ez_ldc2 (q := 13) dX7_bitsOfShare_10 ct_X7_289 rfl ?_
        refine ez_lstore_4 (q := 15) dX7_bitsOfShare_13 (by decide) rfl rfl ?_
        refine ez_iconst (v := nI 0) (q := 16) dX7_bitsOfShare_15 (by decide) rfl ?_
        refine ez_istore_6 (q := 18) dX7_bitsOfShare_16 (by decide) rfl rfl ?_
        refine ez_loop (α := Nat) (fun k => biK (shV u p) - k) (P := fun k => (k ≤ biK (shV u p)) → E G mX7_bitsOfShare (d) Q h n 0 0 18 [some (.double ((shV u p))), none, some (.double (dbN (shV u p) k)), none, some (.long (pwN k)), none, some (.int (nI k)), none] []) ?_ 0 (Nat.zero_le _)
        intro k ih18 hk
        refine ez_iload (q := 20) dX7_bitsOfShare_18 rfl rfl ?_
        refine ez_sipush (v := nI 1023) (q := 23) dX7_bitsOfShare_20 (by decide) rfl ?_
        refine ez_icmpgeN (q := 26) (tgt := 50) dX7_bitsOfShare_23 (by decide) (by omega) (by decide) rfl (fun hc23 => absurd hk (by omega)) (fun hc23 => ?_)
        refine ez_dload_n (q := 27) 2 dX7_bitsOfShare_26 rfl rfl rfl ?_
        refine ez_dconst1 (q := 28) dX7_bitsOfShare_27 rfl ?_
        refine ez_dcmp (q := 29) dX7_bitsOfShare_28 rfl ?_
        refine ez_ifge (q := 32) (tgt := 50) dX7_bitsOfShare_29 (by decide) rfl (fun hc29 => ?_) (fun hc29 => ?_)
        · have ek : k = biK (shV u p) := by by_cases e : k = biK (shV u p); { exact e }; { have h9 := (a5 k (by omega)).1; exact absurd (show lt1 (dbN (shV u p) k) < 0 from h9) (by simp only [Int32.lt_iff_toInt_lt, Int32.le_iff_toInt_le] at hc29 ⊢; exact fun q9 => by have q8 : (0 : Int32).toInt ≤ (lt1 (dbN (shV u p) k)).toInt := hc29; omega) }
          subst ek
          refine ez_dload_n (q := 51) 2 dX7_bitsOfShare_50 rfl rfl rfl ?_
          refine ez_dconst1 (q := 52) dX7_bitsOfShare_51 rfl ?_
          refine ez_dsub (q := 53) dX7_bitsOfShare_52 a7 rfl ?_
          refine ez_ldc2d (q := 56) dX7_bitsOfShare_53 ct_X7_293 rfl ?_
          refine ez_dmul (q := 57) dX7_bitsOfShare_56 a8 rfl ?_
          refine ez_d2l (q := 58) dX7_bitsOfShare_57 rfl ?_
          refine ez_lstore_6 (q := 60) dX7_bitsOfShare_58 (by decide) rfl rfl ?_
          refine ez_lload (q := 62) dX7_bitsOfShare_60 rfl rfl ?_
          refine ez_bipush (v := nI 52) (q := 64) dX7_bitsOfShare_62 (by decide) rfl ?_
          refine ez_lshl (q := 65) dX7_bitsOfShare_64 rfl ?_
          refine ez_lload (q := 67) dX7_bitsOfShare_65 rfl rfl ?_
          refine ez_ladd (q := 68) dX7_bitsOfShare_67 rfl ?_
          exact ez_lret dX7_bitsOfShare_68 rfl (hQ)
        · have hlt : k < biK (shV u p) := by by_cases e : k = biK (shV u p); { rw [e] at hc29; exact absurd a6 hc29 }; { omega }
          refine ez_dload_n (q := 33) 2 dX7_bitsOfShare_32 rfl rfl rfl ?_
          refine ez_ldc2d (q := 36) dX7_bitsOfShare_33 ct_X7_291 rfl ?_
          refine ez_dmul (q := 37) dX7_bitsOfShare_36 (a5 k hlt).2 rfl ?_
          refine ez_dstore_2 (q := 38) dX7_bitsOfShare_37 rfl (by decide) rfl rfl ?_
          refine ez_lload (q := 40) dX7_bitsOfShare_38 rfl rfl ?_
          refine ez_lconst (v := 1) (q := 41) dX7_bitsOfShare_40 (by decide) rfl ?_
          refine ez_lsub (q := 42) dX7_bitsOfShare_41 rfl ?_
          refine ez_lstore_4 (q := 44) dX7_bitsOfShare_42 (by decide) rfl rfl ?_
          refine ez_iincN_6 (q := 47) dX7_bitsOfShare_44 (by decide) rfl rfl ?_
          refine ez_goto (q := 18) dX7_bitsOfShare_47 (by decide) ?_
          exact E.fg (ih18 (k + 1) (by omega) (by omega)) ⟨Or.inr (rfl), Or.inl rfl, Or.inr (rfl), Or.inl rfl, Or.inr (rfl), Or.inl rfl, Or.inr (rfl), Or.inl rfl, trivial⟩
    · first
      | exact absurd a1 hc3
      | skip
        refine ez_lconst (v := 0) (q := 7) dX7_bitsOfShare_6 (by decide) rfl ?_
        exact ez_lret dX7_bitsOfShare_7 rfl (hQ)
  · obtain ⟨hbo, hbv⟩ := bi_get hp hh hz9
    obtain ⟨a1, a2, a3, a4, a5, a6, a7, a8, a9, a10⟩ := biO_s hbo
    rw [hbv, ← a10] at hQ
    clear hbv
    refine ez_dload_n (q := 1) 0 dX7_bitsOfShare_0 rfl rfl rfl ?_
    refine ez_dconst0 (q := 2) dX7_bitsOfShare_1 rfl ?_
    refine ez_dcmp (q := 3) dX7_bitsOfShare_2 rfl ?_
    refine ez_ifgt (q := 6) (tgt := 8) dX7_bitsOfShare_3 (by decide) rfl (fun hc3 => ?_) (fun hc3 => ?_)
    · first
      | exact absurd hc3 (by rw [z1]; decide)
      | skip
        refine ez_dload_n (q := 9) 0 dX7_bitsOfShare_8 rfl rfl rfl ?_
        refine ez_dstore_2 (q := 10) dX7_bitsOfShare_9 rfl (by decide) rfl rfl ?_
        refine ez_ldc2 (q := 13) dX7_bitsOfShare_10 ct_X7_289 rfl ?_
        refine ez_lstore_4 (q := 15) dX7_bitsOfShare_13 (by decide) rfl rfl ?_
        refine ez_iconst (v := nI 0) (q := 16) dX7_bitsOfShare_15 (by decide) rfl ?_
        refine ez_istore_6 (q := 18) dX7_bitsOfShare_16 (by decide) rfl rfl ?_
        refine ez_loop (α := Nat) (fun k => biK (shV u p) - k) (P := fun k => (k ≤ biK (shV u p)) → E G mX7_bitsOfShare (d) Q h n 0 0 18 [some (.double ((shV u p))), none, some (.double (dbN (shV u p) k)), none, some (.long (pwN k)), none, some (.int (nI k)), none] []) ?_ 0 (Nat.zero_le _)
        intro k ih18 hk
        refine ez_iload (q := 20) dX7_bitsOfShare_18 rfl rfl ?_
        refine ez_sipush (v := nI 1023) (q := 23) dX7_bitsOfShare_20 (by decide) rfl ?_
        refine ez_icmpgeN (q := 26) (tgt := 50) dX7_bitsOfShare_23 (by decide) (by omega) (by decide) rfl (fun hc23 => absurd hk (by omega)) (fun hc23 => ?_)
        refine ez_dload_n (q := 27) 2 dX7_bitsOfShare_26 rfl rfl rfl ?_
        refine ez_dconst1 (q := 28) dX7_bitsOfShare_27 rfl ?_
        refine ez_dcmp (q := 29) dX7_bitsOfShare_28 rfl ?_
        refine ez_ifge (q := 32) (tgt := 50) dX7_bitsOfShare_29 (by decide) rfl (fun hc29 => ?_) (fun hc29 => ?_)
        · have ek : k = biK (shV u p) := by by_cases e : k = biK (shV u p); { exact e }; { have h9 := (a5 k (by omega)).1; exact absurd (show lt1 (dbN (shV u p) k) < 0 from h9) (by simp only [Int32.lt_iff_toInt_lt, Int32.le_iff_toInt_le] at hc29 ⊢; exact fun q9 => by have q8 : (0 : Int32).toInt ≤ (lt1 (dbN (shV u p) k)).toInt := hc29; omega) }
          subst ek
          refine ez_dload_n (q := 51) 2 dX7_bitsOfShare_50 rfl rfl rfl ?_
          refine ez_dconst1 (q := 52) dX7_bitsOfShare_51 rfl ?_
          refine ez_dsub (q := 53) dX7_bitsOfShare_52 a7 rfl ?_
          refine ez_ldc2d (q := 56) dX7_bitsOfShare_53 ct_X7_293 rfl ?_
          refine ez_dmul (q := 57) dX7_bitsOfShare_56 a8 rfl ?_
          refine ez_d2l (q := 58) dX7_bitsOfShare_57 rfl ?_
          refine ez_lstore_6 (q := 60) dX7_bitsOfShare_58 (by decide) rfl rfl ?_
          refine ez_lload (q := 62) dX7_bitsOfShare_60 rfl rfl ?_
          refine ez_bipush (v := nI 52) (q := 64) dX7_bitsOfShare_62 (by decide) rfl ?_
          refine ez_lshl (q := 65) dX7_bitsOfShare_64 rfl ?_
          refine ez_lload (q := 67) dX7_bitsOfShare_65 rfl rfl ?_
          refine ez_ladd (q := 68) dX7_bitsOfShare_67 rfl ?_
          exact ez_lret dX7_bitsOfShare_68 rfl (hQ)
        · have hlt : k < biK (shV u p) := by by_cases e : k = biK (shV u p); { rw [e] at hc29; exact absurd a6 hc29 }; { omega }
          refine ez_dload_n (q := 33) 2 dX7_bitsOfShare_32 rfl rfl rfl ?_
          refine ez_ldc2d (q := 36) dX7_bitsOfShare_33 ct_X7_291 rfl ?_
          refine ez_dmul (q := 37) dX7_bitsOfShare_36 (a5 k hlt).2 rfl ?_
          refine ez_dstore_2 (q := 38) dX7_bitsOfShare_37 rfl (by decide) rfl rfl ?_
          refine ez_lload (q := 40) dX7_bitsOfShare_38 rfl rfl ?_
          refine ez_lconst (v := 1) (q := 41) dX7_bitsOfShare_40 (by decide) rfl ?_
          refine ez_lsub (q := 42) dX7_bitsOfShare_41 rfl ?_
          refine ez_lstore_4 (q := 44) dX7_bitsOfShare_42 (by decide) rfl rfl ?_
          refine ez_iincN_6 (q := 47) dX7_bitsOfShare_44 (by decide) rfl rfl ?_
          refine ez_goto (q := 18) dX7_bitsOfShare_47 (by decide) ?_
          exact E.fg (ih18 (k + 1) (by omega) (by omega)) ⟨Or.inr (rfl), Or.inl rfl, Or.inr (rfl), Or.inl rfl, Or.inr (rfl), Or.inl rfl, Or.inr (rfl), Or.inl rfl, trivial⟩
    · first
      | exact absurd a1 hc3
      | skip
        refine ez_lconst (v := 0) (q := 7) dX7_bitsOfShare_6 (by decide) rfl ?_
        exact ez_lret dX7_bitsOfShare_7 rfl (hQ)

set_option maxHeartbeats 800000 in
set_option maxRecDepth 100000 in
theorem t_X7_mixedSigns {G : ez_G} {d n : Nat} {h : ez_H} {n' f k t : Nat} {L T ln : Nat → Nat} {sg : Nat → Nat → Nat} {zs : Nat → AS} {b : Nat → Nat} {mx : Int64 → Int64 → Int64} {a9 : Int64} {w : Nat} (hI : CJ h h n' f L T ln sg k zs t b) (ho : OK n' f L T ln sg) (hs : WFS ln sg) (hmx : ∀ a b, mx a b = 31 * a + b) (hG : MG 41 2 h h T n' f L ln sg w) (hw : w < 4) : Con G mX7_mixedSigns (d + 3) [.ref 1, .long a9] h n 0 0 (PU h n (some (.long (mx2 mx (mxs mx a9 (tsI T n' f L ln sg w) 4) (tgI T n' f L ln sg w) 4 (ln w))))) := by
  obtain ⟨mg, me, md, mt, mr, r9, hF, hgg, hle, hse⟩ := hG
  have hE := hF.me
  have hn := ho.1
  have hl := ho.2.2.2.2.1 w hw
  have h00 : 0 < ln w → wayB (sg w 0) = false := fun h9 => by obtain ⟨sc, hwf⟩ := hs w hw h9; exact (wf_w hwf h9).trans (by rw [(wf_0 hwf).2.1])
  refine Con.of [some (.ref 1), some (.long a9), none, none, none, none, none] pl_X7 rfl (Nat.le_of_ble_eq_true rfl) rfl ?_
  have hQ : (PU h n (some (.long (mx2 mx (mxs mx a9 (tsI T n' f L ln sg w) 4) (tgI T n' f L ln sg w) 4 (ln w))))) (.inl (some (.long (mx2 mx (mxs mx a9 (tsI T n' f L ln sg w) 4) (tgI T n' f L ln sg w) 4 (ln w))))) h n := ⟨rfl, rfl, rfl⟩
  generalize PU h n (some (.long (mx2 mx (mxs mx a9 (tsI T n' f L ln sg w) 4) (tgI T n' f L ln sg w) 4 (ln w)))) = Q at hQ ⊢
  refine ez_lload_n (q := 1) 1 dX7_mixedSigns_0 rfl rfl rfl ?_
  refine ez_lstore_3 (q := 2) dX7_mixedSigns_1 rfl (by decide) rfl rfl ?_
  refine ez_iconst (v := nI 0) (q := 3) dX7_mixedSigns_2 (by decide) rfl ?_
  refine ez_istore_5 (q := 5) dX7_mixedSigns_3 (by decide) rfl rfl ?_
  refine ez_loop (α := Nat) (fun j => 4 - j) (P := fun j => (j ≤ 4) → E G mX7_mixedSigns (d + 3) Q h n 0 0 5 [some (.ref 1), some (.long (a9)), none, some (.long ((mxs mx a9 (tsI T n' f L ln sg w) j))), none, some (.int (nI j)), none] []) ?_ 0 (by omega)
  intro j ih5 hj
  refine ez_iload (q := 7) dX7_mixedSigns_5 rfl rfl ?_
  refine ez_iconst (v := nI 3) (q := 8) dX7_mixedSigns_7 (by decide) rfl ?_
  refine ez_icmpgtN (q := 11) (tgt := 32) dX7_mixedSigns_8 (by decide) (by omega) (by omega) rfl (fun hc8 => ?_) (fun hc8 => ?_)
  · obtain rfl : j = 4 := by omega
    refine ez_iconst (v := nI 0) (q := 33) dX7_mixedSigns_32 (by decide) rfl ?_
    refine ez_istore_5 (q := 35) dX7_mixedSigns_33 (by decide) rfl rfl ?_
    refine ez_loop (α := Nat) (fun i => ln w - i) (P := fun i => (i ≤ ln w) → E G mX7_mixedSigns (d + 3) Q h n 0 0 35 [some (.ref 1), some (.long (a9)), none, some (.long ((mx2 mx (mxs mx a9 (tsI T n' f L ln sg w) 4) (tgI T n' f L ln sg w) 4 i))), none, some (.int (nI i)), none] []) ?_ 0 (by omega)
    intro i ih35 hi
    refine ez_iload (q := 37) dX7_mixedSigns_35 rfl rfl ?_
    refine ez_aload_n (q := 38) 0 dX7_mixedSigns_37 rfl rfl rfl ?_
    refine ez_getf (q := 41) dX7_mixedSigns_38 fl_X7_35 hI.1.1 rfl rfl ?_
    refine ez_getf (q := 44) dX7_mixedSigns_41 fl_X7_288 hE.2.1 rfl rfl ?_
    refine ez_icmpgeN (q := 47) (tgt := 85) dX7_mixedSigns_44 (by decide) (by omega) (by omega) rfl (fun hc44 => ?_) (fun hc44 => ?_)
    · refine ez_lload_n (q := 86) 3 dX7_mixedSigns_85 rfl rfl rfl ?_
      exact ez_lret dX7_mixedSigns_86 rfl (by rw [show ln w = i from by omega] at hQ; exact hQ)
    · refine ez_iconst (v := nI 0) (q := 48) dX7_mixedSigns_47 (by decide) rfl ?_
      refine ez_istore_6 (q := 50) dX7_mixedSigns_48 (by decide) rfl rfl ?_
      refine ez_loop (α := Nat) (fun j => 4 - j) (P := fun j => (j ≤ 4) → E G mX7_mixedSigns (d + 3) Q h n 0 0 50 [some (.ref 1), some (.long (a9)), none, some (.long ((mxs mx (mx2 mx (mxs mx a9 (tsI T n' f L ln sg w) 4) (tgI T n' f L ln sg w) 4 i) (tgI T n' f L ln sg w i) j))), none, some (.int (nI i)), some (.int (nI j))] []) ?_ 0 (by omega)
      intro j ih50 hj
      refine ez_iload (q := 52) dX7_mixedSigns_50 rfl rfl ?_
      refine ez_iconst (v := nI 3) (q := 53) dX7_mixedSigns_52 (by decide) rfl ?_
      refine ez_icmpgtN (q := 56) (tgt := 79) dX7_mixedSigns_53 (by decide) (by omega) (by omega) rfl (fun hc53 => ?_) (fun hc53 => ?_)
      · obtain rfl : j = 4 := by omega
        refine ez_iincN_5 (q := 82) dX7_mixedSigns_79 (by decide) rfl rfl ?_
        refine ez_goto (q := 35) dX7_mixedSigns_82 (by decide) ?_
        exact E.fg (ih35 (i + 1) (by omega) (by omega)) ⟨Or.inr (rfl), Or.inr (rfl), Or.inl rfl, Or.inr (rfl), Or.inl rfl, Or.inr (rfl), Or.inl rfl, trivial⟩
      · refine ez_lload_n (q := 57) 3 dX7_mixedSigns_56 rfl rfl rfl ?_
        refine ez_aload_n (q := 58) 0 dX7_mixedSigns_57 rfl rfl rfl ?_
        refine ez_getf (q := 61) dX7_mixedSigns_58 fl_X7_35 hI.1.1 rfl rfl ?_
        refine ez_iload (q := 63) dX7_mixedSigns_61 rfl rfl ?_
        refine ez_iload (q := 65) dX7_mixedSigns_63 rfl rfl ?_
        refine cPv (q := 68) dX7_mixedSigns_65 ck_X7_189 hE.2.1 (t_X2_ofSign hE hl hgg hle hse (by omega) (by omega)) rfl ⟨by decide, rfl⟩ rfl rfl rfl (Nat.le_of_ble_eq_true rfl) rfl ?_
        refine ez_i2l (q := 69) dX7_mixedSigns_68 rfl ?_
        refine cUv (q := 72) dX7_mixedSigns_69 ck_X7_239 (t_X7_mixed hmx) rfl rfl rfl (Nat.le_of_ble_eq_true rfl) rfl ?_
        refine ez_lstore_3 (q := 73) dX7_mixedSigns_72 rfl (by decide) rfl rfl ?_
        refine ez_iincN_6 (q := 76) dX7_mixedSigns_73 (by decide) rfl rfl ?_
        refine ez_goto (q := 50) dX7_mixedSigns_76 (by decide) ?_
        exact E.fg (ih50 (j + 1) (by omega) (by omega)) ⟨Or.inr (rfl), Or.inr (rfl), Or.inl rfl, Or.inr (rfl), Or.inl rfl, Or.inr (rfl), Or.inr (rfl), trivial⟩
  · refine ez_lload_n (q := 12) 3 dX7_mixedSigns_11 rfl rfl rfl ?_
    refine ez_aload_n (q := 13) 0 dX7_mixedSigns_12 rfl rfl rfl ?_
    refine ez_getf (q := 16) dX7_mixedSigns_13 fl_X7_35 hI.1.1 rfl rfl ?_
    refine ez_iload (q := 18) dX7_mixedSigns_16 rfl rfl ?_
    refine cPv (q := 21) dX7_mixedSigns_18 ck_X7_181 hE.2.1 (t_X2_ofWish hE hl hgg hle hse h00 (by omega)) rfl ⟨by decide, rfl⟩ rfl rfl rfl (Nat.le_of_ble_eq_true rfl) rfl ?_
    refine ez_i2l (q := 22) dX7_mixedSigns_21 rfl ?_
    refine cUv (q := 25) dX7_mixedSigns_22 ck_X7_239 (t_X7_mixed hmx) rfl rfl rfl (Nat.le_of_ble_eq_true rfl) rfl ?_
    refine ez_lstore_3 (q := 26) dX7_mixedSigns_25 rfl (by decide) rfl rfl ?_
    refine ez_iincN_5 (q := 29) dX7_mixedSigns_26 (by decide) rfl rfl ?_
    refine ez_goto (q := 5) dX7_mixedSigns_29 (by decide) ?_
    exact E.fg (ih5 (j + 1) (by omega) (by omega)) ⟨Or.inr (rfl), Or.inr (rfl), Or.inl rfl, Or.inr (rfl), Or.inl rfl, Or.inr (rfl), Or.inl rfl, trivial⟩

set_option maxHeartbeats 800000 in
set_option maxRecDepth 100000 in
theorem t_X7_mixedWitness {G : ez_G} {d n : Nat} {h : ez_H} {n' f k t : Nat} {L T ln : Nat → Nat} {sg : Nat → Nat → Nat} {zs : Nat → AS} {b : Nat → Nat} {mx : Int64 → Int64 → Int64} {a9 : Int64} {l9 : List Nat} {al li ro go : Int32} {rw la : Nat → Int32} (hI : CJ h h n' f L T ln sg k zs t b) (ho : OK n' f L T ln sg) (hs : WFS ln sg) (hmx : ∀ a b, mx a b = 31 * a + b) (hM : WW h h al li ro go (nI l9.length) rw la) (hrw : RW rw l9) (hl9 : l9.length ≤ 111) : Con G mX7_mixedWitness (d + 1) [.ref 1, .long a9] h n 0 0 (PU h n (some (.long (mxs mx a9 (fun j => bsI l9[j]?) 4)))) := by
  refine Con.of [some (.ref 1), some (.long a9), none, none, none, none] pl_X7 rfl (Nat.le_of_ble_eq_true rfl) rfl ?_
  have hQ : (PU h n (some (.long (mxs mx a9 (fun j => bsI l9[j]?) 4)))) (.inl (some (.long (mxs mx a9 (fun j => bsI l9[j]?) 4)))) h n := ⟨rfl, rfl, rfl⟩
  generalize PU h n (some (.long (mxs mx a9 (fun j => bsI l9[j]?) 4))) = Q at hQ ⊢
  refine ez_lload_n (q := 1) 1 dX7_mixedWitness_0 rfl rfl rfl ?_
  refine ez_lstore_3 (q := 2) dX7_mixedWitness_1 rfl (by decide) rfl rfl ?_
  refine ez_iconst (v := nI 0) (q := 3) dX7_mixedWitness_2 (by decide) rfl ?_
  refine ez_istore_5 (q := 5) dX7_mixedWitness_3 (by decide) rfl rfl ?_
  refine ez_loop (α := Nat) (fun j => 4 - j) (P := fun j => (j ≤ 4) → E G mX7_mixedWitness (d + 1) Q h n 0 0 5 [some (.ref 1), some (.long (a9)), none, some (.long (mxs mx a9 (fun j => bsI l9[j]?) j)), none, some (.int (nI j))] []) ?_ 0 (by omega)
  intro j ih5 hj
  refine ez_iload (q := 7) dX7_mixedWitness_5 rfl rfl ?_
  refine ez_iconst (v := nI 4) (q := 8) dX7_mixedWitness_7 (by decide) rfl ?_
  refine ez_icmpgeN (q := 11) (tgt := 32) dX7_mixedWitness_8 (by decide) (by omega) (by omega) rfl (fun hc8 => ?_) (fun hc8 => ?_)
  · refine ez_lload_n (q := 33) 3 dX7_mixedWitness_32 rfl rfl rfl ?_
    exact ez_lret dX7_mixedWitness_33 rfl (by rw [show j = 4 from by omega]; exact hQ)
  · refine ez_lload_n (q := 12) 3 dX7_mixedWitness_11 rfl rfl rfl ?_
    refine ez_aload_n (q := 13) 0 dX7_mixedWitness_12 rfl rfl rfl ?_
    refine ez_getf (q := 16) dX7_mixedWitness_13 fl_X7_44 hI.1.1 rfl rfl ?_
    refine ez_iload (q := 18) dX7_mixedWitness_16 rfl rfl ?_
    refine cPv (q := 21) dX7_mixedWitness_18 ck_X7_197 hM.2.1 (t_X6_at hM hrw hl9 (by omega)) rfl ⟨by decide, rfl⟩ rfl rfl rfl (Nat.le_of_ble_eq_true rfl) rfl ?_
    refine ez_i2l (q := 22) dX7_mixedWitness_21 rfl ?_
    refine cUv (q := 25) dX7_mixedWitness_22 ck_X7_239 (t_X7_mixed hmx) rfl rfl rfl (Nat.le_of_ble_eq_true rfl) rfl ?_
    refine ez_lstore_3 (q := 26) dX7_mixedWitness_25 rfl (by decide) rfl rfl ?_
    refine ez_iincN_5 (q := 29) dX7_mixedWitness_26 (by decide) rfl rfl ?_
    refine ez_goto (q := 5) dX7_mixedWitness_29 (by decide) ?_
    exact E.fg (ih5 (j + 1) (by omega) (by omega)) ⟨Or.inr (rfl), Or.inr (rfl), Or.inl rfl, Or.inr (rfl), Or.inl rfl, Or.inr (rfl), trivial⟩

set_option maxHeartbeats 800000 in
set_option maxRecDepth 100000 in
theorem t_X7_mixedFixes {G : ez_G} {d n : Nat} {h : ez_H} {n' f k t : Nat} {L T ln : Nat → Nat} {sg : Nat → Nat → Nat} {zs : Nat → AS} {b : Nat → Nat} {mx : Int64 → Int64 → Int64} {a9 : Int64} {w : Nat} (hI : CJ h h n' f L T ln sg k zs t b) (ho : OK n' f L T ln sg) (hs : WFS ln sg) (hmx : ∀ a b, mx a b = 31 * a + b) (hw : w < 4) (h0n : 0 < n') : Con G mX7_mixedFixes (d + 6) [.ref 1, .long a9, .int (nI w)] h n 0 0 (PW n (some (.long (mxs mx a9 (fxI T n' f L ln sg w 0) 4))) (fun g => CJ h g n' f L T ln sg k zs t b)) := by
  refine Con.of [some (.ref 1), some (.long a9), none, some (.int (nI w)), none, none] pl_X7 rfl (Nat.le_of_ble_eq_true rfl) rfl ?_
  have hQ : ∀ g, CJ h g n' f L T ln sg k zs t b → (PW n (some (.long (mxs mx a9 (fxI T n' f L ln sg w 0) 4))) (fun g => CJ h g n' f L T ln sg k zs t b)) (.inl (some (.long (mxs mx a9 (fxI T n' f L ln sg w 0) 4)))) g n := fun g h1 => ⟨rfl, h1, rfl⟩
  generalize PW n (some (.long (mxs mx a9 (fxI T n' f L ln sg w 0) 4))) (fun g => CJ h g n' f L T ln sg k zs t b) = Q at hQ ⊢
  refine ez_aload_n (q := 1) 0 dX7_mixedFixes_0 rfl rfl rfl ?_
  refine ez_getf (q := 4) dX7_mixedFixes_1 fl_X7_51 hI.1.1 rfl rfl ?_
  refine ez_aload_n (q := 5) 0 dX7_mixedFixes_4 rfl rfl rfl ?_
  refine ez_getf (q := 8) dX7_mixedFixes_5 fl_X7_10 hI.1.1 rfl rfl ?_
  refine ez_iload_n (q := 9) 3 dX7_mixedFixes_8 rfl rfl rfl ?_
  refine ez_iconst (v := nI 0) (q := 10) dX7_mixedFixes_9 (by decide) rfl ?_
  refine cX0 (q := 13) dX7_mixedFixes_10 ck_X7_217 hI.tr9.ob.choose_spec (t_X5_flips hI.tr9 hI.ss ho hs hw h0n) rfl ⟨by decide, rfl⟩ rfl rfl rfl (Nat.le_of_ble_eq_true rfl) rfl (fun g hW => ?_)
  have hM := hW
  clear hW
  have hI := hI.trial hM.x hM.2.2.2
  refine ez_lload_n (q := 14) 1 dX7_mixedFixes_13 rfl rfl rfl ?_
  refine ez_aload_n (q := 15) 0 dX7_mixedFixes_14 rfl rfl rfl ?_
  refine ez_getf (q := 18) dX7_mixedFixes_15 fl_X7_51 hI.1.1 rfl rfl ?_
  refine ez_getf (q := 21) dX7_mixedFixes_18 fl_X7_224 hM.1 rfl rfl ?_
  refine ez_i2l (q := 22) dX7_mixedFixes_21 rfl ?_
  refine cUv (q := 25) dX7_mixedFixes_22 ck_X7_239 (t_X7_mixed hmx) rfl rfl rfl (Nat.le_of_ble_eq_true rfl) rfl ?_
  refine ez_aload_n (q := 26) 0 dX7_mixedFixes_25 rfl rfl rfl ?_
  refine ez_getf (q := 29) dX7_mixedFixes_26 fl_X7_51 hI.1.1 rfl rfl ?_
  refine ez_getf (q := 32) dX7_mixedFixes_29 fl_X7_227 hM.1 rfl rfl ?_
  refine ez_i2l (q := 33) dX7_mixedFixes_32 rfl ?_
  refine cUv (q := 36) dX7_mixedFixes_33 ck_X7_239 (t_X7_mixed hmx) rfl rfl rfl (Nat.le_of_ble_eq_true rfl) rfl ?_
  refine ez_lstore_4 (q := 38) dX7_mixedFixes_36 (by decide) rfl rfl ?_
  refine ez_aload_n (q := 39) 0 dX7_mixedFixes_38 rfl rfl rfl ?_
  refine ez_getf (q := 42) dX7_mixedFixes_39 fl_X7_51 hI.1.1 rfl rfl ?_
  refine ez_aload_n (q := 43) 0 dX7_mixedFixes_42 rfl rfl rfl ?_
  refine ez_getf (q := 46) dX7_mixedFixes_43 fl_X7_10 hI.1.1 rfl rfl ?_
  refine ez_iload_n (q := 47) 3 dX7_mixedFixes_46 rfl rfl rfl ?_
  refine ez_iconst (v := nI 0) (q := 48) dX7_mixedFixes_47 (by decide) rfl ?_
  refine cX0 (q := 51) dX7_mixedFixes_48 ck_X7_221 hI.tr9.ob.choose_spec (t_X5_turns hI.tr9 hI.ss ho hs hw h0n) rfl ⟨by decide, rfl⟩ rfl rfl rfl (Nat.le_of_ble_eq_true rfl) rfl (fun g hW => ?_)
  have hM := hW
  clear hW
  have hI := hI.trial hM.x hM.2.2.2
  refine ez_lload (q := 53) dX7_mixedFixes_51 rfl rfl ?_
  refine ez_aload_n (q := 54) 0 dX7_mixedFixes_53 rfl rfl rfl ?_
  refine ez_getf (q := 57) dX7_mixedFixes_54 fl_X7_51 hI.1.1 rfl rfl ?_
  refine ez_getf (q := 60) dX7_mixedFixes_57 fl_X7_224 hM.1 rfl rfl ?_
  refine ez_i2l (q := 61) dX7_mixedFixes_60 rfl ?_
  refine cUv (q := 64) dX7_mixedFixes_61 ck_X7_239 (t_X7_mixed hmx) rfl rfl rfl (Nat.le_of_ble_eq_true rfl) rfl ?_
  refine ez_aload_n (q := 65) 0 dX7_mixedFixes_64 rfl rfl rfl ?_
  refine ez_getf (q := 68) dX7_mixedFixes_65 fl_X7_51 hI.1.1 rfl rfl ?_
  refine ez_getf (q := 71) dX7_mixedFixes_68 fl_X7_227 hM.1 rfl rfl ?_
  refine ez_i2l (q := 72) dX7_mixedFixes_71 rfl ?_
  refine cUv (q := 75) dX7_mixedFixes_72 ck_X7_239 (t_X7_mixed hmx) rfl rfl rfl (Nat.le_of_ble_eq_true rfl) rfl ?_
  exact ez_lret dX7_mixedFixes_75 rfl (hQ _ hI)

set_option maxHeartbeats 800000 in
set_option maxRecDepth 100000 in
theorem t_X7_digest {G : ez_G} {d n : Nat} {h : ez_H} {n' f k t : Nat} {L T ln : Nat → Nat} {sg : Nat → Nat → Nat} {zs : Nat → AS} {b : Nat → Nat} {mx : Int64 → Int64 → Int64} (hI : CJ h h n' f L T ln sg k zs t b) (ho : OK n' f L T ln sg) (hs : WFS ln sg) (hmx : ∀ a b, mx a b = 31 * a + b) : Con G mX7_digest (d + 9) [.ref 1] h n 0 0 (PW n (some (.long (dgV mx T n' f L ln sg k t b))) (fun g => CJ h g n' f L T ln sg k zs t b)) := by
  have hn := ho.1
  have hh2 := hp_le2 (T := T) (f := f) (L := L) (ln := ln) (sg := sg) hn
  have hp4 : n' * wmN ln 4 ≤ 10 * 4 := Nat.mul_le_mul hn (wm_le ln 4)
  refine Con.of [some (.ref 1), none, none, none, none] pl_X7 rfl (Nat.le_of_ble_eq_true rfl) rfl ?_
  have hQ : ∀ g, CJ h g n' f L T ln sg k zs t b → (PW n (some (.long (dgV mx T n' f L ln sg k t b))) (fun g => CJ h g n' f L T ln sg k zs t b)) (.inl (some (.long (dgV mx T n' f L ln sg k t b)))) g n := fun g h1 => ⟨rfl, h1, rfl⟩
  generalize PW n (some (.long (dgV mx T n' f L ln sg k t b))) (fun g => CJ h g n' f L T ln sg k zs t b) = Q at hQ ⊢
  refine ez_ldc2 (q := 3) dX7_digest_0 ct_X7_234 rfl ?_
  refine ez_lstore_1 (q := 4) dX7_digest_3 rfl (by decide) rfl rfl ?_
  refine ez_iconst (v := nI 0) (q := 5) dX7_digest_4 (by decide) rfl ?_
  refine ez_istore_3 (q := 6) dX7_digest_5 rfl (by decide) rfl rfl ?_
  refine ez_loop (α := Nat) (fun j => 9 - j) (P := fun j => ∀ (g : ez_H) , CJ h g n' f L T ln sg k zs t b → (j ≤ 9) → E G mX7_digest (d + 9) Q g n 0 0 6 [some (.ref 1), some (.long ((mxs mx 2621 (couI T n' f L ln sg k) j))), none, some (.int (nI j)), none] []) ?_ 0 h hI (by omega)
  intro j ih6 g  hM hj
  have hI := hM
  refine ez_iload_n (q := 7) 3 dX7_digest_6 rfl rfl rfl ?_
  refine ez_bipush (v := nI 8) (q := 9) dX7_digest_7 (by decide) rfl ?_
  refine ez_icmpgtN (q := 12) (tgt := 29) dX7_digest_9 (by decide) (by omega) (by omega) rfl (fun hc9 => ?_) (fun hc9 => ?_)
  · obtain rfl : j = 9 := by omega
    refine ez_iconst (v := nI 0) (q := 30) dX7_digest_29 (by decide) rfl ?_
    refine ez_istore_3 (q := 31) dX7_digest_30 rfl (by decide) rfl rfl ?_
    refine ez_loop (α := Nat) (fun i => n' - i) (P := fun i => ∀ (g : ez_H) , CJ h g n' f L T ln sg k zs t b → (i ≤ n') → E G mX7_digest (d + 9) Q g n 0 0 31 [some (.ref 1), some (.long ((mx2 mx (mxs mx 2621 (couI T n' f L ln sg k) 9) (twI T n' f L ln sg) 5 i))), none, some (.int (nI i)), none] []) ?_ 0 g hI (by omega)
    intro i ih31 g  hM hi
    have hI := hM
    refine ez_iload_n (q := 32) 3 dX7_digest_31 rfl rfl rfl ?_
    refine ez_aload_n (q := 33) 0 dX7_digest_32 rfl rfl rfl ?_
    refine ez_getf (q := 36) dX7_digest_33 fl_X7_10 hI.1.1 rfl rfl ?_
    refine ez_getf (q := 39) dX7_digest_36 fl_X7_62 hI.ss.ob rfl rfl ?_
    refine ez_icmpgeN (q := 42) (tgt := 76) dX7_digest_39 (by decide) (by omega) (by omega) rfl (fun hc39 => ?_) (fun hc39 => ?_)
    · have ei9 : i = n' := by omega
      rw [ei9]
      refine ez_iconst (v := nI 0) (q := 77) dX7_digest_76 (by decide) rfl ?_
      refine ez_istore_3 (q := 78) dX7_digest_77 rfl (by decide) rfl rfl ?_
      refine ez_loop (α := Nat) (fun w => 4 - w) (P := fun w => ∀ (g : ez_H) , CJ h g n' f L T ln sg k zs t b → (w ≤ 4) → E G mX7_digest (d + 9) Q g n 0 0 78 [some (.ref 1), some (.long ((dwS mx T n' f L ln sg (dg2 mx T n' f L ln sg k) w))), none, some (.int (nI w)), none] []) ?_ 0 g hI (by omega)
      intro w ih78 g  hM hw
      have hI := hM
      refine ez_iload_n (q := 79) 3 dX7_digest_78 rfl rfl rfl ?_
      refine ez_iconst (v := nI 4) (q := 80) dX7_digest_79 (by decide) rfl ?_
      refine ez_icmpgeN (q := 83) (tgt := 193) dX7_digest_80 (by decide) (by omega) (by omega) rfl (fun hc80 => ?_) (fun hc80 => ?_)
      · obtain rfl : w = 4 := by omega
        refine ez_lload_n (q := 194) 1 dX7_digest_193 rfl rfl rfl ?_
        refine ez_aload_n (q := 195) 0 dX7_digest_194 rfl rfl rfl ?_
        refine cXv (q := 198) dX7_digest_195 ck_X7_263 hI.1.1 (v_X7_fulfilled hI.rb ho hs) rfl ⟨by decide, rfl⟩ rfl rfl rfl (Nat.le_of_ble_eq_true rfl) rfl (fun g hW => ?_)
        have hI := hI.tr hW
        clear hW
        refine cUv (q := 201) dX7_digest_198 ck_X7_267 (t_X7_bitsOfShare (by omega) hh2) rfl rfl rfl (Nat.le_of_ble_eq_true rfl) rfl ?_
        refine cUv (q := 204) dX7_digest_201 ck_X7_239 (t_X7_mixed hmx) rfl rfl rfl (Nat.le_of_ble_eq_true rfl) rfl ?_
        refine ez_lstore_1 (q := 205) dX7_digest_204 rfl (by decide) rfl rfl ?_
        obtain ⟨op9, hw9, ch9, hT, hb9⟩ := hI.tx
        have ht60 := hb9.1
        refine ez_lload_n (q := 206) 1 dX7_digest_205 rfl rfl rfl ?_
        refine ez_aload_n (q := 207) 0 dX7_digest_206 rfl rfl rfl ?_
        refine ez_getf (q := 210) dX7_digest_207 fl_X7_26 hI.1.1 rfl rfl ?_
        refine ez_getf (q := 213) dX7_digest_210 fl_X7_115 hT.1 rfl rfl ?_
        refine ez_i2l (q := 214) dX7_digest_213 rfl ?_
        refine cUv (q := 217) dX7_digest_214 ck_X7_239 (t_X7_mixed hmx) rfl rfl rfl (Nat.le_of_ble_eq_true rfl) rfl ?_
        refine ez_lstore_1 (q := 218) dX7_digest_217 rfl (by decide) rfl rfl ?_
        refine ez_iconst (v := nI 0) (q := 219) dX7_digest_218 (by decide) rfl ?_
        refine ez_istore_3 (q := 220) dX7_digest_219 rfl (by decide) rfl rfl ?_
        refine ez_loop (α := Nat) (fun j => t - j) (P := fun j => (j ≤ t) → E G mX7_digest (d + 9) Q g n 0 0 220 [some (.ref 1), some (.long ((mxs mx (mx (dg4 mx T n' f L ln sg k) (nI t).toInt64) (fun j => nI (b j)) j))), none, some (.int (nI j)), none] []) ?_ 0 (Nat.zero_le _)
        intro j ih220 hj
        refine ez_iload_n (q := 221) 3 dX7_digest_220 rfl rfl rfl ?_
        refine ez_aload_n (q := 222) 0 dX7_digest_221 rfl rfl rfl ?_
        refine ez_getf (q := 225) dX7_digest_222 fl_X7_26 hI.1.1 rfl rfl ?_
        refine ez_getf (q := 228) dX7_digest_225 fl_X7_115 hT.1 rfl rfl ?_
        refine ez_icmpgeN (q := 231) (tgt := 251) dX7_digest_228 (by decide) (by omega) (by omega) rfl (fun hc228 => ?_) (fun hc228 => ?_)
        · refine ez_lload_n (q := 252) 1 dX7_digest_251 rfl rfl rfl ?_
          exact ez_lret dX7_digest_252 rfl (by rw [show j = t from by omega]; exact hQ _ hI)
        · refine ez_lload_n (q := 232) 1 dX7_digest_231 rfl rfl rfl ?_
          refine ez_aload_n (q := 233) 0 dX7_digest_232 rfl rfl rfl ?_
          refine ez_getf (q := 236) dX7_digest_233 fl_X7_26 hI.1.1 rfl rfl ?_
          refine ez_iload_n (q := 237) 3 dX7_digest_236 rfl rfl rfl ?_
          refine cPv (q := 240) dX7_digest_237 ck_X7_271 hT.1 (t_X4_at hT hb9 (by omega)) rfl ⟨by decide, rfl⟩ rfl rfl rfl (Nat.le_of_ble_eq_true rfl) rfl ?_
          refine ez_i2l (q := 241) dX7_digest_240 rfl ?_
          refine cUv (q := 244) dX7_digest_241 ck_X7_239 (t_X7_mixed hmx) rfl rfl rfl (Nat.le_of_ble_eq_true rfl) rfl ?_
          refine ez_lstore_1 (q := 245) dX7_digest_244 rfl (by decide) rfl rfl ?_
          refine ez_iincN_3 (q := 248) dX7_digest_245 (by decide) rfl rfl ?_
          refine ez_goto (q := 220) dX7_digest_248 (by decide) ?_
          exact E.fg (ih220 (j + 1) (by omega) (by omega)) ⟨Or.inr (rfl), Or.inr (rfl), Or.inl rfl, Or.inr (rfl), Or.inl rfl, trivial⟩
      · refine ez_aload_n (q := 84) 0 dX7_digest_83 rfl rfl rfl ?_
        refine ez_getf (q := 87) dX7_digest_84 fl_X7_35 hI.1.1 rfl rfl ?_
        refine ez_iload_n (q := 88) 3 dX7_digest_87 rfl rfl rfl ?_
        refine cXv (q := 91) dX7_digest_88 ck_X7_178 hI.mx.ob.choose_spec (t_X2_find hI.mx hI.ss ho hs (by omega) (by omega)) rfl ⟨by decide, rfl⟩ rfl rfl rfl (Nat.le_of_ble_eq_true rfl) rfl (fun g hW => ?_)
        have hG := hW
        clear hW
        have hI := hI.find hG
        refine ez_pop (q := 92) dX7_digest_91 rfl rfl ?_
        refine ez_aload_n (q := 93) 0 dX7_digest_92 rfl rfl rfl ?_
        refine ez_lload_n (q := 94) 1 dX7_digest_93 rfl rfl rfl ?_
        refine cPv (q := 97) dX7_digest_94 ck_X7_246 hI.1.1 (t_X7_mixedSigns hI.rb ho hs hmx (hG.to (fun _ _ _ => rfl)) (by omega)) rfl ⟨by decide, rfl⟩ rfl rfl rfl (Nat.le_of_ble_eq_true rfl) rfl ?_
        refine ez_lstore_1 (q := 98) dX7_digest_97 rfl (by decide) rfl rfl ?_
        refine ez_iconst (v := nI 0) (q := 99) dX7_digest_98 (by decide) rfl ?_
        refine ez_istore_4 (q := 101) dX7_digest_99 (by decide) rfl rfl ?_
        refine ez_loop (α := Nat) (fun i => n' - i) (P := fun i => ∀ (g : ez_H) , CJ h g n' f L T ln sg k zs t b → (i ≤ n') → (MG 41 2 g g T n' f L ln sg w) → E G mX7_digest (d + 9) Q g n 0 0 101 [some (.ref 1), some (.long ((mx2 mx (mx2 mx (mxs mx (dwS mx T n' f L ln sg (dg2 mx T n' f L ln sg k) w) (tsI T n' f L ln sg w) 4) (tgI T n' f L ln sg w) 4 (ln w)) (wtI T n' f L ln sg w) 4 i))), none, some (.int (nI w)), some (.int (nI i))] []) ?_ 0 g hI (by omega) (hG.to (fun _ _ _ => rfl))
        intro i ih101 g  hM hi hG
        have hI := hM
        refine ez_iload (q := 103) dX7_digest_101 rfl rfl ?_
        refine ez_aload_n (q := 104) 0 dX7_digest_103 rfl rfl rfl ?_
        refine ez_getf (q := 107) dX7_digest_104 fl_X7_10 hI.1.1 rfl rfl ?_
        refine ez_getf (q := 110) dX7_digest_107 fl_X7_62 hI.ss.ob rfl rfl ?_
        refine ez_icmpgeN (q := 113) (tgt := 134) dX7_digest_110 (by decide) (by omega) (by omega) rfl (fun hc110 => ?_) (fun hc110 => ?_)
        · have ei8 : i = n' := by omega
          rw [ei8]
          refine ez_lload_n (q := 135) 1 dX7_digest_134 rfl rfl rfl ?_
          refine ez_aload_n (q := 136) 0 dX7_digest_135 rfl rfl rfl ?_
          refine ez_iload_n (q := 137) 3 dX7_digest_136 rfl rfl rfl ?_
          refine ez_iconst (v := nI 0) (q := 138) dX7_digest_137 (by decide) rfl ?_
          refine cXv (q := 141) dX7_digest_138 ck_X7_253 hI.1.1 (v_X7_compare hI.rb ho hs (by omega) (by omega)) rfl ⟨by decide, rfl⟩ rfl rfl rfl (Nat.le_of_ble_eq_true rfl) rfl (fun g hW => ?_)
          have hI := hI.tr hW
          clear hW
          refine ez_i2l (q := 142) dX7_digest_141 rfl ?_
          refine cUv (q := 145) dX7_digest_142 ck_X7_239 (t_X7_mixed hmx) rfl rfl rfl (Nat.le_of_ble_eq_true rfl) rfl ?_
          refine ez_lstore_1 (q := 146) dX7_digest_145 rfl (by decide) rfl rfl ?_
          refine ez_lload_n (q := 147) 1 dX7_digest_146 rfl rfl rfl ?_
          refine ez_aload_n (q := 148) 0 dX7_digest_147 rfl rfl rfl ?_
          refine ez_iload_n (q := 149) 3 dX7_digest_148 rfl rfl rfl ?_
          refine ez_iconst (v := -1) (q := 150) dX7_digest_149 (by decide) rfl ?_
          refine cXv (q := 153) dX7_digest_150 ck_X7_256 hI.1.1 (v_X7_ifFair (u := 4) hI.rb ho hs (by omega) (by omega)) rfl ⟨by decide, rfl⟩ rfl rfl rfl (Nat.le_of_ble_eq_true rfl) rfl (fun g hW => ?_)
          have hI := hI.tr hW
          clear hW
          refine ez_i2l (q := 154) dX7_digest_153 rfl ?_
          refine cUv (q := 157) dX7_digest_154 ck_X7_239 (t_X7_mixed hmx) rfl rfl rfl (Nat.le_of_ble_eq_true rfl) rfl ?_
          refine ez_lstore_1 (q := 158) dX7_digest_157 rfl (by decide) rfl rfl ?_
          refine ez_lload_n (q := 159) 1 dX7_digest_158 rfl rfl rfl ?_
          refine ez_aload_n (q := 160) 0 dX7_digest_159 rfl rfl rfl ?_
          refine ez_iload_n (q := 161) 3 dX7_digest_160 rfl rfl rfl ?_
          refine ez_iconst (v := nI 0) (q := 162) dX7_digest_161 (by decide) rfl ?_
          refine cXv (q := 165) dX7_digest_162 ck_X7_256 hI.1.1 (v_X7_ifFair (u := 0) hI.rb ho hs (by omega) (by omega)) rfl ⟨by decide, rfl⟩ rfl rfl rfl (Nat.le_of_ble_eq_true rfl) rfl (fun g hW => ?_)
          have hI := hI.tr hW
          clear hW
          refine ez_i2l (q := 166) dX7_digest_165 rfl ?_
          refine cUv (q := 169) dX7_digest_166 ck_X7_239 (t_X7_mixed hmx) rfl rfl rfl (Nat.le_of_ble_eq_true rfl) rfl ?_
          refine ez_lstore_1 (q := 170) dX7_digest_169 rfl (by decide) rfl rfl ?_
          refine ez_aload_n (q := 171) 0 dX7_digest_170 rfl rfl rfl ?_
          refine ez_getf (q := 174) dX7_digest_171 fl_X7_10 hI.1.1 rfl rfl ?_
          refine ez_getf (q := 177) dX7_digest_174 fl_X7_62 hI.ss.ob rfl rfl ?_
          refine ez_ifleN (q := 180) (tgt := 187) dX7_digest_177 (by decide) (by omega) rfl (fun hc177 => ?_) (fun hc177 => ?_)
          · refine ez_iincN_3 (q := 190) dX7_digest_187 (by decide) rfl rfl ?_
            refine ez_goto (q := 78) dX7_digest_190 (by decide) ?_
            exact E.fg (ih78 (w + 1) (by omega) g hI (by omega)) ⟨Or.inr (rfl), Or.inr ((congrArg (fun z => some (Value.long z)) (show dwS mx T n' f L ln sg (dg2 mx T n' f L ln sg k) (w + 1) = _ from by first | (show dwJ mx T n' f L ln sg _ _ = _; rw [dwJ, if_pos (show n' = 0 by omega), dw6, dw3]; done) | (show dwJ mx T n' f L ln sg _ _ = _; rw [dwJ, if_pos (show n' = 0 by omega)]; rfl) | (show dwJ mx T n' f L ln sg _ _ = _; rw [dwJ, if_neg (show ¬ n' = 0 by omega)]; rfl)))), Or.inl rfl, Or.inr (rfl), Or.inl rfl, trivial⟩
          · refine ez_aload_n (q := 181) 0 dX7_digest_180 rfl rfl rfl ?_
            refine ez_lload_n (q := 182) 1 dX7_digest_181 rfl rfl rfl ?_
            refine ez_iload_n (q := 183) 3 dX7_digest_182 rfl rfl rfl ?_
            refine cXv (q := 186) dX7_digest_183 ck_X7_259 hI.1.1 (t_X7_mixedFixes hI.rb ho hs hmx (by omega) (by omega)) rfl ⟨by decide, rfl⟩ rfl rfl rfl (Nat.le_of_ble_eq_true rfl) rfl (fun g hW => ?_)
            have hI := hI.tr hW
            clear hW
            refine ez_lstore_1 (q := 187) dX7_digest_186 rfl (by decide) rfl rfl ?_
            refine ez_iincN_3 (q := 190) dX7_digest_187 (by decide) rfl rfl ?_
            refine ez_goto (q := 78) dX7_digest_190 (by decide) ?_
            exact E.fg (ih78 (w + 1) (by omega) g hI (by omega)) ⟨Or.inr (rfl), Or.inr ((congrArg (fun z => some (Value.long z)) (show dwS mx T n' f L ln sg (dg2 mx T n' f L ln sg k) (w + 1) = _ from by first | (show dwJ mx T n' f L ln sg _ _ = _; rw [dwJ, if_pos (show n' = 0 by omega), dw6, dw3]; done) | (show dwJ mx T n' f L ln sg _ _ = _; rw [dwJ, if_pos (show n' = 0 by omega)]; rfl) | (show dwJ mx T n' f L ln sg _ _ = _; rw [dwJ, if_neg (show ¬ n' = 0 by omega)]; rfl)))), Or.inl rfl, Or.inr (rfl), Or.inl rfl, trivial⟩
        · refine ez_aload_n (q := 114) 0 dX7_digest_113 rfl rfl rfl ?_
          refine ez_getf (q := 117) dX7_digest_114 fl_X7_44 hI.1.1 rfl rfl ?_
          refine ez_iload (q := 119) dX7_digest_117 rfl rfl ?_
          refine cX0 (q := 122) dX7_digest_119 ck_X7_195 hI.wo.ob.choose_spec (t_X6_find hG hI.wo hI.ss ho hs (by omega) (by omega)) rfl ⟨by decide, rfl⟩ rfl rfl rfl (Nat.le_of_ble_eq_true rfl) rfl (fun g hW => ?_)
          obtain ⟨rw, la, r9, hM9, hrw⟩ := hW
          have hI := hI.way hG hM9
          have hG := hG.way hM9
          refine ez_aload_n (q := 123) 0 dX7_digest_122 rfl rfl rfl ?_
          refine ez_lload_n (q := 124) 1 dX7_digest_123 rfl rfl rfl ?_
          refine cPv (q := 127) dX7_digest_124 ck_X7_250 hI.1.1 (t_X7_mixedWitness hI.rb ho hs hmx hM9.rb hrw (wt_len hn hs (by omega) (by omega))) rfl ⟨by decide, rfl⟩ rfl rfl rfl (Nat.le_of_ble_eq_true rfl) rfl ?_
          refine ez_lstore_1 (q := 128) dX7_digest_127 rfl (by decide) rfl rfl ?_
          refine ez_iincN_4 (q := 131) dX7_digest_128 (by decide) rfl rfl ?_
          refine ez_goto (q := 101) dX7_digest_131 (by decide) ?_
          exact E.fg (ih101 (i + 1) (by omega) g hI (by omega) hG) ⟨Or.inr (rfl), Or.inr (rfl), Or.inl rfl, Or.inr (rfl), Or.inr (rfl), trivial⟩
    · refine ez_iconst (v := nI 0) (q := 43) dX7_digest_42 (by decide) rfl ?_
      refine ez_istore_4 (q := 45) dX7_digest_43 (by decide) rfl rfl ?_
      refine ez_loop (α := Nat) (fun j => 5 - j) (P := fun j => ∀ (g : ez_H) , CJ h g n' f L T ln sg k zs t b → (j ≤ 5) → E G mX7_digest (d + 9) Q g n 0 0 45 [some (.ref 1), some (.long ((mxs mx (mx2 mx (mxs mx 2621 (couI T n' f L ln sg k) 9) (twI T n' f L ln sg) 5 i) (twI T n' f L ln sg i) j))), none, some (.int (nI i)), some (.int (nI j))] []) ?_ 0 g hI (by omega)
      intro j ih45 g  hM hj
      have hI := hM
      refine ez_iload (q := 47) dX7_digest_45 rfl rfl ?_
      refine ez_iconst (v := nI 4) (q := 48) dX7_digest_47 (by decide) rfl ?_
      refine ez_icmpgtN (q := 51) (tgt := 70) dX7_digest_48 (by decide) (by omega) (by omega) rfl (fun hc48 => ?_) (fun hc48 => ?_)
      · obtain rfl : j = 5 := by omega
        refine ez_iincN_3 (q := 73) dX7_digest_70 (by decide) rfl rfl ?_
        refine ez_goto (q := 31) dX7_digest_73 (by decide) ?_
        exact E.fg (ih31 (i + 1) (by omega) g hI (by omega)) ⟨Or.inr (rfl), Or.inr (rfl), Or.inl rfl, Or.inr (rfl), Or.inl rfl, trivial⟩
      · refine ez_lload_n (q := 52) 1 dX7_digest_51 rfl rfl rfl ?_
        refine ez_aload_n (q := 53) 0 dX7_digest_52 rfl rfl rfl ?_
        refine ez_iload_n (q := 54) 3 dX7_digest_53 rfl rfl rfl ?_
        refine ez_iload (q := 56) dX7_digest_54 rfl rfl ?_
        refine cXv (q := 59) dX7_digest_56 ck_X7_243 hI.1.1 (v_X7_world hI.rb ho hs (by omega) (by omega)) rfl ⟨by decide, rfl⟩ rfl rfl rfl (Nat.le_of_ble_eq_true rfl) rfl (fun g hW => ?_)
        have hI := hI.tr hW
        clear hW
        refine ez_i2l (q := 60) dX7_digest_59 rfl ?_
        refine cUv (q := 63) dX7_digest_60 ck_X7_239 (t_X7_mixed hmx) rfl rfl rfl (Nat.le_of_ble_eq_true rfl) rfl ?_
        refine ez_lstore_1 (q := 64) dX7_digest_63 rfl (by decide) rfl rfl ?_
        refine ez_iincN_4 (q := 67) dX7_digest_64 (by decide) rfl rfl ?_
        refine ez_goto (q := 45) dX7_digest_67 (by decide) ?_
        exact E.fg (ih45 (j + 1) (by omega) g hI (by omega)) ⟨Or.inr (rfl), Or.inr (rfl), Or.inl rfl, Or.inr (rfl), Or.inr (rfl), trivial⟩
  · refine ez_lload_n (q := 13) 1 dX7_digest_12 rfl rfl rfl ?_
    refine ez_aload_n (q := 14) 0 dX7_digest_13 rfl rfl rfl ?_
    refine ez_iload_n (q := 15) 3 dX7_digest_14 rfl rfl rfl ?_
    refine cXv (q := 18) dX7_digest_15 ck_X7_236 hI.1.1 (v_X7_count hI.rb ho hs (by omega)) rfl ⟨by decide, rfl⟩ rfl rfl rfl (Nat.le_of_ble_eq_true rfl) rfl (fun g hW => ?_)
    have hI := hI.tr hW
    clear hW
    refine ez_i2l (q := 19) dX7_digest_18 rfl ?_
    refine cUv (q := 22) dX7_digest_19 ck_X7_239 (t_X7_mixed hmx) rfl rfl rfl (Nat.le_of_ble_eq_true rfl) rfl ?_
    refine ez_lstore_1 (q := 23) dX7_digest_22 rfl (by decide) rfl rfl ?_
    refine ez_iincN_3 (q := 26) dX7_digest_23 (by decide) rfl rfl ?_
    refine ez_goto (q := 6) dX7_digest_26 (by decide) ?_
    exact E.fg (ih6 (j + 1) (by omega) g hI (by omega)) ⟨Or.inr (rfl), Or.inr (rfl), Or.inl rfl, Or.inr (rfl), Or.inl rfl, trivial⟩

