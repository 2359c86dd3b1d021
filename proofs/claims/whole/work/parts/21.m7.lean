set_option maxHeartbeats 800000 in
set_option maxRecDepth 100000 in
theorem t_X8_bits {G : ez_G} {d n : Nat} {h : ez_H} {a : Nat}  (hb : a < 1024) : Con G mX8_bits (d) [.int (nI a)] h n 0 0 (PU h n (some (.int (nI (ctN a 10))))) := by
  refine Con.of [some (.int (nI a)), none, none] pl_X8 rfl (Nat.le_of_ble_eq_true rfl) rfl ?_
  have hQ : (PU h n (some (.int (nI (ctN a 10))))) (.inl (some (.int (nI (ctN a 10))))) h n := ⟨rfl, rfl, rfl⟩
  generalize PU h n (some (.int (nI (ctN a 10)))) = Q at hQ ⊢
  refine ez_iconst (v := nI 0) (q := 1) dX8_bits_0 (by decide) rfl ?_
  refine ez_istore_1 (q := 2) dX8_bits_1 rfl (by decide) rfl rfl ?_
  refine ez_iload_n (q := 3) 0 dX8_bits_2 rfl rfl rfl ?_
  refine ez_istore_2 (q := 4) dX8_bits_3 rfl (by decide) rfl rfl ?_
  refine ez_loop (α := Nat × Nat) (fun z99 => match z99 with | (y, k) => ctN y 10) (P := fun z99 => match z99 with | (y, k) => (y < 1024) → (k + ctN y 10 = ctN a 10) → E G mX8_bits (d) Q h n 0 0 4 [some (.int (nI a)), some (.int (nI k)), some (.int (nI y))] []) ?_ (a, 0) hb (Nat.zero_add _)
  rintro ⟨y, k⟩ ih4
  dsimp only at ih4 ⊢
  obtain ⟨μ4, hμ4⟩ : ∃ y99, y99 = ctN y 10 := ⟨_, rfl⟩
  rw [← hμ4] at ih4
  have ih4 : ∀ (y : Nat) (k : Nat), ctN y 10 < μ4 → (y < 1024) → (k + ctN y 10 = ctN a 10) → E G mX8_bits (d) Q h n 0 0 4 [some (.int (nI a)), some (.int (nI k)), some (.int (nI y))] [] := fun y k => ih4 (y, k)
  intro hy hk
  refine ez_iload_n (q := 5) 2 dX8_bits_4 rfl rfl rfl ?_
  refine ez_ifeqN (q := 8) (tgt := 20) dX8_bits_5 (by decide) (by omega) rfl (fun hc5 => ?_) (fun hc5 => ?_)
  · refine ez_iload_n (q := 21) 1 dX8_bits_20 rfl rfl rfl ?_
    exact ez_iret dX8_bits_21 rfl (by rw [hc5] at hk; rw [show k = ctN a 10 from hk]; exact hQ)
  · refine ez_iincN_1 (q := 11) dX8_bits_8 (by decide) rfl rfl ?_
    refine ez_iload_n (q := 12) 2 dX8_bits_11 rfl rfl rfl ?_
    refine ez_iload_n (q := 13) 2 dX8_bits_12 rfl rfl rfl ?_
    refine ez_iconst (v := nI 1) (q := 14) dX8_bits_13 (by decide) rfl ?_
    refine ez_isubN (q := 15) dX8_bits_14 (by omega) rfl ?_
    refine ez_iandN (q := 16) dX8_bits_15 rfl ?_
    refine ez_istore_2 (q := 17) dX8_bits_16 rfl (by decide) rfl rfl ?_
    refine ez_goto (q := 4) dX8_bits_17 (by decide) ?_
    exact E.fg (ih4 (y &&& (y - 1)) (k + 1) (by have := ct_k y hy hc5; omega) (Nat.lt_of_le_of_lt (and_le _ _) hy) (by have := ct_k y hy hc5; omega)) ⟨Or.inr (rfl), Or.inr (rfl), Or.inr (rfl), trivial⟩

set_option maxHeartbeats 800000 in
set_option maxRecDepth 100000 in
theorem t_X8_stepMany {G : ez_G} {d n : Nat} {h : ez_H} {n' f : Nat} {L T ln : Nat → Nat} {sg : Nat → Nat → Nat} {th sm ty rd wa rm fm ff : Int32} {z sv bf se ro le de rw sp : Nat → Int32} {ww : Bool} {ha : Int64} (hM : IM h h th z sv sm bf ty rd se ro le de wa ww rw rm sp fm ff ha) (hz : ZZ z n' f L T ln sg) (ho : OK n' f L T ln sg) : Con G mX8_stepMany (d + 1) [.ref 64] h n 0 0 (PM h n (some (.int (nI (csN T n')))) th z sv sm bf ty rd se ro le de wa ww rw rm sp fm ff ha) := by
  have hn := ho.1
  have hn0 := hz.1
  refine Con.of [some (.ref 64), none, none] pl_X8 rfl (Nat.le_of_ble_eq_true rfl) rfl ?_
  have hQ : ∀ g, IM h g th z sv sm bf ty rd se ro le de wa ww rw rm sp fm ff ha → (PM h n (some (.int (nI (csN T n')))) th z sv sm bf ty rd se ro le de wa ww rw rm sp fm ff ha) (.inl (some (.int (nI (csN T n'))))) g n := fun g hM => ⟨rfl, hM, rfl⟩
  generalize PM h n (some (.int (nI (csN T n')))) th z sv sm bf ty rd se ro le de wa ww rw rm sp fm ff ha = Q at hQ ⊢
  refine ez_iconst (v := nI 0) (q := 1) dX8_stepMany_0 (by decide) rfl ?_
  refine ez_istore_1 (q := 2) dX8_stepMany_1 rfl (by decide) rfl rfl ?_
  refine ez_iconst (v := nI 0) (q := 3) dX8_stepMany_2 (by decide) rfl ?_
  refine ez_istore_2 (q := 4) dX8_stepMany_3 rfl (by decide) rfl rfl ?_
  refine ez_loop (α := Nat) (fun i => n' - i) (P := fun i => ∀ (g : ez_H) , IM h g th z sv sm bf ty rd se ro le de wa ww rw rm sp fm ff ha → (i ≤ n') → E G mX8_stepMany (d + 1) Q g n 0 0 4 [some (.ref 64), some (.int (nI (csN T i))), some (.int (nI i))] []) ?_ 0 h hM (Nat.zero_le _)
  intro i ih4 g  hM hi
  refine ez_iload_n (q := 5) 2 dX8_stepMany_4 rfl rfl rfl ?_
  refine ez_aload_n (q := 6) 0 dX8_stepMany_5 rfl rfl rfl ?_
  refine ez_getf (q := 9) dX8_stepMany_6 fl_X8_7 hM.1 rfl rfl ?_
  refine ez_iconst (v := nI 0) (q := 10) dX8_stepMany_9 (by decide) rfl ?_
  refine ez_iald (q := 11) dX8_stepMany_10 hM.2.1 rfl (by omega) (by decide) rfl ?_
  first | refine ez_top (hn0) ?_ | refine ez_top (hz.2.2.2.1 _ (by omega)) ?_
  refine ez_icmpgeN (q := 14) (tgt := 35) dX8_stepMany_11 (by decide) (by omega) (by omega) rfl (fun hc11 => ?_) (fun hc11 => ?_)
  · refine ez_iload_n (q := 36) 1 dX8_stepMany_35 rfl rfl rfl ?_
    exact ez_iret dX8_stepMany_36 rfl (by rw [show n' = i from by omega] at hQ; exact hQ _ hM)
  · refine ez_iload_n (q := 15) 1 dX8_stepMany_14 rfl rfl rfl ?_
    refine ez_aload_n (q := 16) 0 dX8_stepMany_15 rfl rfl rfl ?_
    refine ez_getf (q := 19) dX8_stepMany_16 fl_X8_7 hM.1 rfl rfl ?_
    refine ez_bipush (v := nI 12) (q := 21) dX8_stepMany_19 (by decide) rfl ?_
    refine ez_iload_n (q := 22) 2 dX8_stepMany_21 rfl rfl rfl ?_
    refine ez_iaddN (q := 23) dX8_stepMany_22 rfl ?_
    refine ez_iald (q := 24) dX8_stepMany_23 hM.2.1 rfl (by omega) (by decide) rfl ?_
    first | refine ez_top (hn0) ?_ | refine ez_top (hz.2.2.2.1 _ (by omega)) ?_
    refine cUv (q := 27) dX8_stepMany_24 ck_X8_59 (t_X8_bits (Nat.lt_of_lt_of_le (ho.2.2.2.1 i hc11) (p10 (Nat.le_refl _) hn))) rfl rfl rfl (Nat.le_of_ble_eq_true rfl) rfl ?_
    refine ez_iaddN (q := 28) dX8_stepMany_27 rfl ?_
    refine ez_istore_1 (q := 29) dX8_stepMany_28 rfl (by decide) rfl rfl ?_
    refine ez_iincN_2 (q := 32) dX8_stepMany_29 (by decide) rfl rfl ?_
    refine ez_goto (q := 4) dX8_stepMany_32 (by decide) ?_
    exact E.fg (ih4 (i + 1) (by omega) g hM (by omega)) ⟨Or.inr (rfl), Or.inr (rfl), Or.inr (rfl), trivial⟩

set_option maxHeartbeats 800000 in
set_option maxRecDepth 100000 in
theorem t_X8_less {G : ez_G} {d n : Nat} {h : ez_H} {s w : Nat}  (hs : s < 1024) (hw : w < 10) : Con G mX8_less (d) [.int (nI s), .int (nI w)] h n 0 0 (PU h n (some (.int (nI (lessN s w))))) := by
  refine Con.of [some (.int (nI s)), some (.int (nI w)), none] pl_X8 rfl (Nat.le_of_ble_eq_true rfl) rfl ?_
  have hQ : (PU h n (some (.int (nI (lessN s w))))) (.inl (some (.int (nI (lessN s w))))) h n := ⟨rfl, rfl, rfl⟩
  generalize PU h n (some (.int (nI (lessN s w)))) = Q at hQ ⊢
  refine ez_iload_n (q := 1) 0 dX8_less_0 rfl rfl rfl ?_
  refine ez_iconst (v := nI 1) (q := 2) dX8_less_1 (by decide) rfl ?_
  refine ez_iload_n (q := 3) 1 dX8_less_2 rfl rfl rfl ?_
  refine ez_shl1 (q := 4) dX8_less_3 (by omega) rfl ?_
  refine ez_iconst (v := nI 1) (q := 5) dX8_less_4 (by decide) rfl ?_
  refine ez_isubN (q := 6) dX8_less_5 Nat.one_le_two_pow rfl ?_
  refine ez_iandN (q := 7) dX8_less_6 rfl ?_
  refine ez_istore_2 (q := 8) dX8_less_7 rfl (by decide) rfl rfl ?_
  refine ez_iload_n (q := 9) 2 dX8_less_8 rfl rfl rfl ?_
  refine ez_iload_n (q := 10) 0 dX8_less_9 rfl rfl rfl ?_
  refine ez_iload_n (q := 11) 1 dX8_less_10 rfl rfl rfl ?_
  refine ez_iconst (v := nI 1) (q := 12) dX8_less_11 (by decide) rfl ?_
  refine ez_iaddN (q := 13) dX8_less_12 rfl ?_
  refine ez_ishrN (q := 14) dX8_less_13 (by omega) (by omega) rfl ?_
  refine ez_iload_n (q := 15) 1 dX8_less_14 rfl rfl rfl ?_
  refine ez_ishlN (q := 16) dX8_less_15 (by omega) rfl ?_
  refine ez_iorN (q := 17) dX8_less_16 rfl ?_
  exact ez_iret dX8_less_17 rfl (hQ)

set_option maxHeartbeats 800000 in
set_option maxRecDepth 100000 in
theorem t_X8_save {G : ez_G} {d n : Nat} {h : ez_H} {k : Nat} {zs : Nat → Nat → Int32} {th ty rd wa rm fm ff : Int32} {z sv bf se ro le de rw sp : Nat → Int32} {ww : Bool} {ha : Int64} (hM : IM h h th z sv (nI k) bf ty rd se ro le de wa ww rw rm sp fm ff ha) (hk : k ≤ 6) (hv : SVD sv k zs) : Con G mX8_save (d) [.ref 64] h n 0 0 (PW n none (fun g => ∃ sv' : Nat → Int32, IM h g th z sv' (nI (svk k)) bf ty rd se ro le de wa ww rw rm sp fm ff ha ∧ SVD sv' (svk k) (pushZ zs k z))) := by
  refine Con.of [some (.ref 64), none] pl_X8 rfl (Nat.le_of_ble_eq_true rfl) rfl ?_
  have hQ : ∀ g (sv' : Nat → Int32), IM h g th z sv' (nI (svk k)) bf ty rd se ro le de wa ww rw rm sp fm ff ha → SVD sv' (svk k) (pushZ zs k z) → (PW n none (fun g => ∃ sv' : Nat → Int32, IM h g th z sv' (nI (svk k)) bf ty rd se ro le de wa ww rw rm sp fm ff ha ∧ SVD sv' (svk k) (pushZ zs k z))) (.inl none) g n := fun g sv' hM hx => ⟨rfl, ⟨sv', hM, hx⟩, rfl⟩
  generalize PW n none (fun g => ∃ sv' : Nat → Int32, IM h g th z sv' (nI (svk k)) bf ty rd se ro le de wa ww rw rm sp fm ff ha ∧ SVD sv' (svk k) (pushZ zs k z)) = Q at hQ ⊢
  have k50 : ∀ (g : ez_H) (sv2 : Nat → Int32) (m : Nat) (zs2 : Nat → Nat → Int32), IM h g th z sv2 (nI m) bf ty rd se ro le de wa ww rw rm sp fm ff ha → m ≤ 5 → SVD sv2 m zs2 → m + 1 = svk k → pushZ zs k z = putZ zs2 m z → E G mX8_save (d) Q g n 0 0 50 [some (.ref 64), none] [] := by
    intro g sv2 m zs2 hM hm hv2 e1 e2
    refine ez_iconst (v := nI 0) (q := 51) dX8_save_50 (by decide) rfl ?_
    refine ez_istore_1 (q := 52) dX8_save_51 rfl (by decide) rfl rfl ?_
    refine ez_loop (α := Nat) (fun i => 186 - i) (P := fun i => ∀ (g : ez_H) (sv' : Nat → Int32), IM h g th z sv' (nI m) bf ty rd se ro le de wa ww rw rm sp fm ff ha → (i ≤ 186) → (SVD sv' m zs2) → (∀ j, j < i → sv' (m * 186 + j) = z j) → E G mX8_save (d) Q g n 0 0 52 [some (.ref 64), some (.int (nI i))] []) ?_ 0 g sv2 hM (by omega) hv2 (fun j hj => absurd hj (by omega))
    intro i ih52 g sv' hM hi h1 h2
    refine ez_iload_n (q := 53) 1 dX8_save_52 rfl rfl rfl ?_
    refine ez_sipush (v := nI 186) (q := 56) dX8_save_53 (by decide) rfl ?_
    refine ez_icmpgeN (q := 59) (tgt := 86) dX8_save_56 (by decide) (by omega) (by omega) rfl (fun hc56 => ?_) (fun hc56 => ?_)
    · refine ez_aload_n (q := 87) 0 dX8_save_86 rfl rfl rfl ?_
      refine ez_dup (q := 88) dX8_save_87 rfl rfl ?_
      refine ez_getf (q := 91) dX8_save_88 fl_X8_45 hM.1 rfl rfl ?_
      refine ez_iconst (v := nI 1) (q := 92) dX8_save_91 (by decide) rfl ?_
      refine ez_iaddN (q := 93) dX8_save_92 rfl ?_
      refine pM_sm (q := 96) dX8_save_93 fl_X8_45 hM rfl (fun g hM => ?_)
      exact ez_vret dX8_save_96 rfl (by refine hQ _ _ (by rw [← e1]; exact hM) (by rw [← e1, e2]; exact fun a ha j hj => by by_cases h3 : a = m; { rw [h3, putZ, if_pos rfl]; exact h2 j (by omega) }; { rw [putZ, if_neg h3]; exact h1 a (by omega) j hj }))
    · refine ez_aload_n (q := 60) 0 dX8_save_59 rfl rfl rfl ?_
      refine ez_getf (q := 63) dX8_save_60 fl_X8_13 hM.1 rfl rfl ?_
      refine ez_aload_n (q := 64) 0 dX8_save_63 rfl rfl rfl ?_
      refine ez_getf (q := 67) dX8_save_64 fl_X8_45 hM.1 rfl rfl ?_
      refine ez_sipush (v := nI 186) (q := 70) dX8_save_67 (by decide) rfl ?_
      refine ez_imulN (q := 71) dX8_save_70 rfl ?_
      refine ez_iload_n (q := 72) 1 dX8_save_71 rfl rfl rfl ?_
      refine ez_iaddN (q := 73) dX8_save_72 rfl ?_
      refine ez_aload_n (q := 74) 0 dX8_save_73 rfl rfl rfl ?_
      refine ez_getf (q := 77) dX8_save_74 fl_X8_7 hM.1 rfl rfl ?_
      refine ez_iload_n (q := 78) 1 dX8_save_77 rfl rfl rfl ?_
      refine ez_iald (q := 79) dX8_save_78 hM.2.1 rfl (by omega) (by decide) rfl ?_
      refine sM_sv (q := 80) dX8_save_79 hM rfl (by omega) rfl (fun g hM => ?_)
      refine ez_iincN_1 (q := 83) dX8_save_80 (by decide) rfl rfl ?_
      refine ez_goto (q := 52) dX8_save_83 (by decide) ?_
      exact E.fg (ih52 (i + 1) (by omega) g _ hM (by omega) (fun a ha j hj => by rw [up_ne _ _ (by omega)]; exact h1 a ha j hj) (fun j hj => by rcases (show j < i ∨ j = i by omega) with h3 | h3; { rw [up_ne _ _ (by omega)]; exact h2 j h3 }; { rw [h3, up_eq] })) ⟨Or.inr (rfl), Or.inr (rfl), trivial⟩
  refine ez_aload_n (q := 1) 0 dX8_save_0 rfl rfl rfl ?_
  refine ez_getf (q := 4) dX8_save_1 fl_X8_45 hM.1 rfl rfl ?_
  refine ez_bipush (v := nI 6) (q := 6) dX8_save_4 (by decide) rfl ?_
  refine ez_icmpneN (q := 9) (tgt := 50) dX8_save_6 (by decide) (by omega) (by omega) rfl (fun hc6 => ?_) (fun hc6 => ?_)
  · first | exact E.fg (k50 g _ 5 (fun i => zs (i + 1)) hM (by decide) (fun a ha j hj => (h1 (a * 186 + j) (by omega)).trans (by rw [show a * 186 + j + 186 = (a + 1) * 186 + j by omega]; exact hv (a + 1) (by omega) j hj)) rfl rfl) ⟨Or.inr (rfl), Or.inl rfl, trivial⟩ | exact E.fg (k50 h _ k zs hM (by omega) hv (by rw [svk, if_neg hc6]) (by rw [pushZ, if_neg hc6])) ⟨Or.inr (rfl), Or.inl rfl, trivial⟩
  · subst hc6
    refine ez_iconst (v := nI 0) (q := 10) dX8_save_9 (by decide) rfl ?_
    refine ez_istore_1 (q := 11) dX8_save_10 rfl (by decide) rfl rfl ?_
    refine ez_loop (α := Nat) (fun i => 930 - i) (P := fun i => ∀ (g : ez_H) (sv' : Nat → Int32), IM h g th z sv' (nI 6) bf ty rd se ro le de wa ww rw rm sp fm ff ha → (i ≤ 930) → (∀ j, j < i → sv' j = sv (j + 186)) → (∀ j, i ≤ j → j < 1116 → sv' j = sv j) → E G mX8_save (d) Q g n 0 0 11 [some (.ref 64), some (.int (nI i))] []) ?_ 0 h sv hM (by omega) (fun j hj => absurd hj (by omega)) (fun _ _ _ => rfl)
    intro i ih11 g sv' hM hi h1 h2
    refine ez_iload_n (q := 12) 1 dX8_save_11 rfl rfl rfl ?_
    refine ez_sipush (v := nI 930) (q := 15) dX8_save_12 (by decide) rfl ?_
    refine ez_icmpgeN (q := 18) (tgt := 40) dX8_save_15 (by decide) (by omega) (by omega) rfl (fun hc15 => ?_) (fun hc15 => ?_)
    · refine ez_aload_n (q := 41) 0 dX8_save_40 rfl rfl rfl ?_
      refine ez_dup (q := 42) dX8_save_41 rfl rfl ?_
      refine ez_getf (q := 45) dX8_save_42 fl_X8_45 hM.1 rfl rfl ?_
      refine ez_iconst (v := nI 1) (q := 46) dX8_save_45 (by decide) rfl ?_
      refine ez_isubN (q := 47) dX8_save_46 (by decide) rfl ?_
      refine pM_sm (q := 50) dX8_save_47 fl_X8_45 hM rfl (fun g hM => ?_)
      first | exact E.fg (k50 g _ 5 (fun i => zs (i + 1)) hM (by decide) (fun a ha j hj => (h1 (a * 186 + j) (by omega)).trans (by rw [show a * 186 + j + 186 = (a + 1) * 186 + j by omega]; exact hv (a + 1) (by omega) j hj)) rfl rfl) ⟨Or.inr (rfl), Or.inl rfl, trivial⟩ | exact E.fg (k50 h _ k zs hM (by omega) hv (by rw [svk, if_neg hc6]) (by rw [pushZ, if_neg hc6])) ⟨Or.inr (rfl), Or.inl rfl, trivial⟩
    · refine ez_aload_n (q := 19) 0 dX8_save_18 rfl rfl rfl ?_
      refine ez_getf (q := 22) dX8_save_19 fl_X8_13 hM.1 rfl rfl ?_
      refine ez_iload_n (q := 23) 1 dX8_save_22 rfl rfl rfl ?_
      refine ez_aload_n (q := 24) 0 dX8_save_23 rfl rfl rfl ?_
      refine ez_getf (q := 27) dX8_save_24 fl_X8_13 hM.1 rfl rfl ?_
      refine ez_iload_n (q := 28) 1 dX8_save_27 rfl rfl rfl ?_
      refine ez_sipush (v := nI 186) (q := 31) dX8_save_28 (by decide) rfl ?_
      refine ez_iaddN (q := 32) dX8_save_31 rfl ?_
      refine ez_iald (q := 33) dX8_save_32 hM.2.2.1 rfl (by omega) (by decide) rfl ?_
      refine sM_sv (q := 34) dX8_save_33 hM rfl (by omega) rfl (fun g hM => ?_)
      refine ez_iincN_1 (q := 37) dX8_save_34 (by decide) rfl rfl ?_
      refine ez_goto (q := 11) dX8_save_37 (by decide) ?_
      exact E.fg (ih11 (i + 1) (by omega) g _ hM (by omega) (fun j hj => by rcases (show j < i ∨ j = i by omega) with h3 | h3; { rw [up_ne _ _ (by omega)]; exact h1 j h3 }; { rw [h3, up_eq]; exact h2 (i + 186) (by omega) (by omega) }) (fun j hj hj2 => by rw [up_ne _ _ (by omega)]; exact h2 j (by omega) hj2)) ⟨Or.inr (rfl), Or.inr (rfl), trivial⟩

