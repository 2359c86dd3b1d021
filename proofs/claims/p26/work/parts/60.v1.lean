set_option maxHeartbeats 800000 in
set_option maxRecDepth 100000 in
theorem v_X7_addWorld {G : ez_G} {d n : Nat} {h : ez_H} {n' f k t : Nat} {L T ln : Nat → Nat} {sg : Nat → Nat → Nat} {zs : Nat → AS} {b : Nat → Nat} {l : Nat} (hI : CJ h h n' f L T ln sg k zs t b) (ho : OK n' f L T ln sg) (hs : WFS ln sg) (hn9 : n' < 10) (hl : l < 16) : Con G mX7_addWorld (d + 7) [.ref 1, .int (nI l)] h n 0 0 (PW n (some (.int (nI n'))) (fun g => CJ h g (n' + 1) f (upN L n' l) (upN T n' 0) ln sg (svk k) (pushZ zs k ((n', f, L, T, ln, sg) : AS)) t b)) := by
  have hn := ho.1
  refine Con.of [some (.ref 1), some (.int (nI l))] pl_X7 rfl (Nat.le_of_ble_eq_true rfl) rfl ?_
  have hQ : ∀ g, CJ h g (n' + 1) f (upN L n' l) (upN T n' 0) ln sg (svk k) (pushZ zs k ((n', f, L, T, ln, sg) : AS)) t b → (PW n (some (.int (nI n'))) (fun g => CJ h g (n' + 1) f (upN L n' l) (upN T n' 0) ln sg (svk k) (pushZ zs k ((n', f, L, T, ln, sg) : AS)) t b)) (.inl (some (.int (nI n')))) g n := fun g h1 => ⟨rfl, h1, rfl⟩
  generalize PW n (some (.int (nI n'))) (fun g => CJ h g (n' + 1) f (upN L n' l) (upN T n' 0) ln sg (svk k) (pushZ zs k ((n', f, L, T, ln, sg) : AS)) t b) = Q at hQ ⊢
  refine ez_iload_n (q := 1) 1 dX7_addWorld_0 rfl rfl rfl ?_
  refine ez_ifltN (q := 4) (tgt := 10) dX7_addWorld_1 (by decide) (by omega) rfl ?_
  refine ez_iload_n (q := 5) 1 dX7_addWorld_4 rfl rfl rfl ?_
  refine ez_bipush (v := nI 15) (q := 7) dX7_addWorld_5 (by decide) rfl ?_
  refine ez_icmpleN (q := 10) (tgt := 20) dX7_addWorld_7 (by decide) (by omega) (by omega) rfl (fun hc7 => ?_) (fun hc7 => absurd hc7 (by omega))
  refine ez_aload_n (q := 21) 0 dX7_addWorld_20 rfl rfl rfl ?_
  refine ez_getf (q := 24) dX7_addWorld_21 fl_X7_10 hI.1.1 rfl rfl ?_
  refine ez_getf (q := 27) dX7_addWorld_24 fl_X7_62 hI.ss.ob rfl rfl ?_
  refine ez_bipush (v := nI 10) (q := 29) dX7_addWorld_27 (by decide) rfl ?_
  refine ez_icmpltN (q := 32) (tgt := 42) dX7_addWorld_29 (by decide) (by omega) (by omega) rfl (fun hc29 => ?_) (fun hc29 => absurd hc29 (by omega))
  refine ez_aload_n (q := 43) 0 dX7_addWorld_42 rfl rfl rfl ?_
  refine ez_getf (q := 46) dX7_addWorld_43 fl_X7_19 hI.1.1 rfl rfl ?_
  refine ez_aload_n (q := 47) 0 dX7_addWorld_46 rfl rfl rfl ?_
  refine ez_getf (q := 50) dX7_addWorld_47 fl_X7_10 hI.1.1 rfl rfl ?_
  obtain ⟨o, hH⟩ := hI.hh
  refine cX0 (q := 53) dX7_addWorld_50 ck_X7_71 hI.hh.choose_spec.1 (t_X1_save hH hI.ss ho) rfl ⟨by decide, rfl⟩ rfl rfl rfl (Nat.le_of_ble_eq_true rfl) rfl (fun g hW => ?_)
  obtain ⟨hH2, hF2⟩ := hW
  have hI := hI.sv hH2 hF2
  refine ez_aload_n (q := 54) 0 dX7_addWorld_53 rfl rfl rfl ?_
  refine ez_getf (q := 57) dX7_addWorld_54 fl_X7_10 hI.1.1 rfl rfl ?_
  refine ez_iload_n (q := 58) 1 dX7_addWorld_57 rfl rfl rfl ?_
  refine cXv (q := 61) dX7_addWorld_58 ck_X7_74 hI.ss.ob (t_X3_putWorld hI.ss ho (by omega)) rfl ⟨by decide, rfl⟩ rfl rfl rfl (Nat.le_of_ble_eq_true rfl) rfl (fun g hW => ?_)
  obtain ⟨hS2, hF2⟩ := hW
  have hI := hI.st hS2 hF2
  exact ez_iret dX7_addWorld_61 rfl (hQ _ hI)

set_option maxHeartbeats 800000 in
set_option maxRecDepth 100000 in
theorem v_X7_step {G : ez_G} {d n : Nat} {h : ez_H} {n' f k t : Nat} {L T ln : Nat → Nat} {sg : Nat → Nat → Nat} {zs : Nat → AS} {b : Nat → Nat} {u v : Nat} (hI : CJ h h n' f L T ln sg k zs t b) (ho : OK n' f L T ln sg) (hs : WFS ln sg) (hu : u < n') (hv : v < n') : Con G mX7_step (d + 7) [.ref 1, .int (nI u), .int (nI v)] h n 0 0 (PW n (some (.int (nI ((T u ^^^ 2 ^ v) >>> v &&& 1)))) (fun g => CJ h g n' f L (upN T u (T u ^^^ 2 ^ v)) ln sg (svk k) (pushZ zs k ((n', f, L, T, ln, sg) : AS)) t b)) := by
  have hn := ho.1
  have hx := xo_lt (b := v) (ho.2.2.2.1 u (by omega)) (show v < n' by omega)
  refine Con.of [some (.ref 1), some (.int (nI u)), some (.int (nI v))] pl_X7 rfl (Nat.le_of_ble_eq_true rfl) rfl ?_
  have hQ : ∀ g, CJ h g n' f L (upN T u (T u ^^^ 2 ^ v)) ln sg (svk k) (pushZ zs k ((n', f, L, T, ln, sg) : AS)) t b → (PW n (some (.int (nI ((T u ^^^ 2 ^ v) >>> v &&& 1)))) (fun g => CJ h g n' f L (upN T u (T u ^^^ 2 ^ v)) ln sg (svk k) (pushZ zs k ((n', f, L, T, ln, sg) : AS)) t b)) (.inl (some (.int (nI ((T u ^^^ 2 ^ v) >>> v &&& 1))))) g n := fun g h1 => ⟨rfl, h1, rfl⟩
  generalize PW n (some (.int (nI ((T u ^^^ 2 ^ v) >>> v &&& 1)))) (fun g => CJ h g n' f L (upN T u (T u ^^^ 2 ^ v)) ln sg (svk k) (pushZ zs k ((n', f, L, T, ln, sg) : AS)) t b) = Q at hQ ⊢
  refine ez_aload_n (q := 1) 0 dX7_step_0 rfl rfl rfl ?_
  refine ez_iload_n (q := 2) 1 dX7_step_1 rfl rfl rfl ?_
  refine cP0 (q := 5) dX7_step_2 ck_X7_78 hI.1.1 (v_X7_needWorld hI.rb ho hs (by omega)) rfl ⟨by decide, rfl⟩ rfl rfl rfl (Nat.le_of_ble_eq_true rfl) rfl ?_
  refine ez_aload_n (q := 6) 0 dX7_step_5 rfl rfl rfl ?_
  refine ez_iload_n (q := 7) 2 dX7_step_6 rfl rfl rfl ?_
  refine cP0 (q := 10) dX7_step_7 ck_X7_78 hI.1.1 (v_X7_needWorld hI.rb ho hs (by omega)) rfl ⟨by decide, rfl⟩ rfl rfl rfl (Nat.le_of_ble_eq_true rfl) rfl ?_
  refine ez_aload_n (q := 11) 0 dX7_step_10 rfl rfl rfl ?_
  refine ez_getf (q := 14) dX7_step_11 fl_X7_19 hI.1.1 rfl rfl ?_
  refine ez_aload_n (q := 15) 0 dX7_step_14 rfl rfl rfl ?_
  refine ez_getf (q := 18) dX7_step_15 fl_X7_10 hI.1.1 rfl rfl ?_
  obtain ⟨o, hH⟩ := hI.hh
  refine cX0 (q := 21) dX7_step_18 ck_X7_71 hI.hh.choose_spec.1 (t_X1_save hH hI.ss ho) rfl ⟨by decide, rfl⟩ rfl rfl rfl (Nat.le_of_ble_eq_true rfl) rfl (fun g hW => ?_)
  obtain ⟨hH2, hF2⟩ := hW
  have hI := hI.sv hH2 hF2
  refine ez_aload_n (q := 22) 0 dX7_step_21 rfl rfl rfl ?_
  refine ez_getf (q := 25) dX7_step_22 fl_X7_10 hI.1.1 rfl rfl ?_
  refine ez_iload_n (q := 26) 1 dX7_step_25 rfl rfl rfl ?_
  refine ez_iload_n (q := 27) 2 dX7_step_26 rfl rfl rfl ?_
  refine cX0 (q := 30) dX7_step_27 ck_X7_85 hI.ss.ob (t_X3_turnStep hI.ss ho (by omega) (by omega)) rfl ⟨by decide, rfl⟩ rfl rfl rfl (Nat.le_of_ble_eq_true rfl) rfl (fun g hW => ?_)
  obtain ⟨hS2, hF2⟩ := hW
  have hI := hI.st hS2 hF2
  refine ez_aload_n (q := 31) 0 dX7_step_30 rfl rfl rfl ?_
  refine ez_getf (q := 34) dX7_step_31 fl_X7_10 hI.1.1 rfl rfl ?_
  refine ez_iload_n (q := 35) 1 dX7_step_34 rfl rfl rfl ?_
  refine cPv (q := 38) dX7_step_35 ck_X7_89 hI.ss.ob (r_X3_stepsFrom hI.ss (ho.turn u hx) (by omega)) rfl ⟨by decide, rfl⟩ rfl rfl rfl (Nat.le_of_ble_eq_true rfl) rfl ?_
  rw [upN_eq]
  refine ez_iload_n (q := 39) 2 dX7_step_38 rfl rfl rfl ?_
  refine ez_ishrN (q := 40) dX7_step_39 (lt31 hx hn) (by omega) rfl ?_
  refine ez_iconst (v := nI 1) (q := 41) dX7_step_40 (by decide) rfl ?_
  refine ez_iandN (q := 42) dX7_step_41 rfl ?_
  exact ez_iret dX7_step_42 rfl (hQ _ hI)

set_option maxHeartbeats 800000 in
set_option maxRecDepth 100000 in
theorem v_X7_fair {G : ez_G} {d n : Nat} {h : ez_H} {n' f k t : Nat} {L T ln : Nat → Nat} {sg : Nat → Nat → Nat} {zs : Nat → AS} {b : Nat → Nat} {u : Nat} (hI : CJ h h n' f L T ln sg k zs t b) (ho : OK n' f L T ln sg) (hs : WFS ln sg) (hu : u ≤ 4) : Con G mX7_fair (d + 7) [.ref 1, .int (fI u)] h n 0 0 (PW n (some (.int (fI f))) (fun g => CJ h g n' u L T ln sg (svk k) (pushZ zs k ((n', f, L, T, ln, sg) : AS)) t b)) := by
  have hn := ho.1
  refine Con.of [some (.ref 1), some (.int (fI u)), none] pl_X7 rfl (Nat.le_of_ble_eq_true rfl) rfl ?_
  have hQ : ∀ g, CJ h g n' u L T ln sg (svk k) (pushZ zs k ((n', f, L, T, ln, sg) : AS)) t b → (PW n (some (.int (fI f))) (fun g => CJ h g n' u L T ln sg (svk k) (pushZ zs k ((n', f, L, T, ln, sg) : AS)) t b)) (.inl (some (.int (fI f)))) g n := fun g h1 => ⟨rfl, h1, rfl⟩
  generalize PW n (some (.int (fI f))) (fun g => CJ h g n' u L T ln sg (svk k) (pushZ zs k ((n', f, L, T, ln, sg) : AS)) t b) = Q at hQ ⊢
  refine ez_iload_n (q := 1) 1 dX7_fair_0 rfl rfl rfl ?_
  refine cU0 (q := 4) dX7_fair_1 ck_X7_100 (v_X7_needLetterOrNone (by omega)) rfl rfl rfl (Nat.le_of_ble_eq_true rfl) rfl ?_
  refine ez_aload_n (q := 5) 0 dX7_fair_4 rfl rfl rfl ?_
  refine ez_getf (q := 8) dX7_fair_5 fl_X7_19 hI.1.1 rfl rfl ?_
  refine ez_aload_n (q := 9) 0 dX7_fair_8 rfl rfl rfl ?_
  refine ez_getf (q := 12) dX7_fair_9 fl_X7_10 hI.1.1 rfl rfl ?_
  obtain ⟨o, hH⟩ := hI.hh
  refine cX0 (q := 15) dX7_fair_12 ck_X7_71 hI.hh.choose_spec.1 (t_X1_save hH hI.ss ho) rfl ⟨by decide, rfl⟩ rfl rfl rfl (Nat.le_of_ble_eq_true rfl) rfl (fun g hW => ?_)
  obtain ⟨hH2, hF2⟩ := hW
  have hI := hI.sv hH2 hF2
  refine ez_aload_n (q := 16) 0 dX7_fair_15 rfl rfl rfl ?_
  refine ez_getf (q := 19) dX7_fair_16 fl_X7_10 hI.1.1 rfl rfl ?_
  refine ez_getf (q := 22) dX7_fair_19 fl_X7_103 hI.ss.ob rfl rfl ?_
  refine ez_istore_2 (q := 23) dX7_fair_22 rfl (by decide) rfl rfl ?_
  refine ez_aload_n (q := 24) 0 dX7_fair_23 rfl rfl rfl ?_
  refine ez_getf (q := 27) dX7_fair_24 fl_X7_10 hI.1.1 rfl rfl ?_
  refine ez_iload_n (q := 28) 1 dX7_fair_27 rfl rfl rfl ?_
  obtain ⟨lt9, st9, le9, sc9, hw9, hz9⟩ := hI.ss
  refine pSW_ff (q := 31) dX7_fair_28 fl_X7_103 hw9 rfl (fun g hw8 => ?_)
  have hI := hI.st (show SS 2 g n' u L T ln sg from ⟨lt9, st9, le9, sc9, hw8.rb, hz9⟩) hw8.fr
  refine ez_iload_n (q := 32) 2 dX7_fair_31 rfl rfl rfl ?_
  exact ez_iret dX7_fair_32 rfl (hQ _ hI)

set_option maxHeartbeats 800000 in
set_option maxRecDepth 100000 in
theorem v_X7_append {G : ez_G} {d n : Nat} {h : ez_H} {n' f k t : Nat} {L T ln : Nat → Nat} {sg : Nat → Nat → Nat} {zs : Nat → AS} {b : Nat → Nat} {c : Nat} (hI : CJ h h n' f L T ln sg k zs t b) (ho : OK n' f L T ln sg) (hs : WFS ln sg) (hc1 : 33 ≤ c) (hc2 : c ≤ 126) (ht : t < 60) : Con G mX7_append (d + 7) [.ref 1, .int (nI c)] h n 0 0 (PW n (some (.int (nI (t + 1)))) (fun g => CJ h g n' f L T ln sg k zs (t + 1) (upN b t c))) := by
  have hn := ho.1
  refine Con.of [some (.ref 1), some (.int (nI c))] pl_X7 rfl (Nat.le_of_ble_eq_true rfl) rfl ?_
  have hQ : ∀ g, CJ h g n' f L T ln sg k zs (t + 1) (upN b t c) → (PW n (some (.int (nI (t + 1)))) (fun g => CJ h g n' f L T ln sg k zs (t + 1) (upN b t c))) (.inl (some (.int (nI (t + 1))))) g n := fun g h1 => ⟨rfl, h1, rfl⟩
  generalize PW n (some (.int (nI (t + 1)))) (fun g => CJ h g n' f L T ln sg k zs (t + 1) (upN b t c)) = Q at hQ ⊢
  obtain ⟨op, hw9, ch, hT, hb⟩ := hI.tx
  refine ez_iload_n (q := 1) 1 dX7_append_0 rfl rfl rfl ?_
  refine ez_bipush (v := nI 33) (q := 3) dX7_append_1 (by decide) rfl ?_
  refine ez_icmpltN (q := 6) (tgt := 12) dX7_append_3 (by decide) (by omega) (by omega) rfl (fun hc3 => absurd hc3 (by omega)) (fun hc3 => ?_)
  refine ez_iload_n (q := 7) 1 dX7_append_6 rfl rfl rfl ?_
  refine ez_bipush (v := nI 126) (q := 9) dX7_append_7 (by decide) rfl ?_
  refine ez_icmpleN (q := 12) (tgt := 22) dX7_append_9 (by decide) (by omega) (by omega) rfl (fun hc9 => ?_) (fun hc9 => absurd hc9 (by omega))
  refine ez_aload_n (q := 23) 0 dX7_append_22 rfl rfl rfl ?_
  refine ez_getf (q := 26) dX7_append_23 fl_X7_26 hI.1.1 rfl rfl ?_
  refine ez_getf (q := 29) dX7_append_26 fl_X7_115 hT.1 rfl rfl ?_
  refine ez_bipush (v := nI 60) (q := 31) dX7_append_29 (by decide) rfl ?_
  refine ez_icmpltN (q := 34) (tgt := 44) dX7_append_31 (by decide) (by omega) (by omega) rfl (fun hc31 => ?_) (fun hc31 => absurd hc31 (by omega))
  refine ez_aload_n (q := 45) 0 dX7_append_44 rfl rfl rfl ?_
  refine ez_getf (q := 48) dX7_append_45 fl_X7_26 hI.1.1 rfl rfl ?_
  refine ez_iload_n (q := 49) 1 dX7_append_48 rfl rfl rfl ?_
  refine ez_i2c (v := nI c) (q := 50) dX7_append_49 (i2c_ok c (by omega)) rfl ?_
  refine cX0 (q := 53) dX7_append_50 ck_X7_120 hT.1 (t_X4_put hT (by omega) (by omega)) rfl ⟨by decide, rfl⟩ rfl rfl rfl (Nat.le_of_ble_eq_true rfl) rfl (fun g hW => ?_)
  have hT := hW
  clear hW
  have hI := hI.bu hT (hb.put (by omega) (show c < 128 by omega))
  refine ez_aload_n (q := 54) 0 dX7_append_53 rfl rfl rfl ?_
  refine ez_getf (q := 57) dX7_append_54 fl_X7_26 hI.1.1 rfl rfl ?_
  refine ez_getf (q := 60) dX7_append_57 fl_X7_115 hT.1 rfl rfl ?_
  exact ez_iret dX7_append_60 rfl (hQ _ hI)

set_option maxHeartbeats 800000 in
set_option maxRecDepth 100000 in
theorem v_X7_firstError {G : ez_G} {d n : Nat} {h : ez_H} {n' f k t : Nat} {L T ln : Nat → Nat} {sg : Nat → Nat → Nat} {zs : Nat → AS} {b : Nat → Nat} (hI : CJ h h n' f L T ln sg k zs t b) (ho : OK n' f L T ln sg) (hs : WFS ln sg) : Con G mX7_firstError (d + 7) [.ref 1] h n 0 0 (PW n (some (.int (nI (rdR b t).1))) (fun g => CJ h g n' f L T ln sg k zs t b)) := by
  have hn := ho.1
  refine Con.of [some (.ref 1)] pl_X7 rfl (Nat.le_of_ble_eq_true rfl) rfl ?_
  have hQ : ∀ g, CJ h g n' f L T ln sg k zs t b → (PW n (some (.int (nI (rdR b t).1))) (fun g => CJ h g n' f L T ln sg k zs t b)) (.inl (some (.int (nI (rdR b t).1)))) g n := fun g h1 => ⟨rfl, h1, rfl⟩
  generalize PW n (some (.int (nI (rdR b t).1))) (fun g => CJ h g n' f L T ln sg k zs t b) = Q at hQ ⊢
  obtain ⟨op, hw9, ch, hT, hb⟩ := hI.tx
  refine ez_aload_n (q := 1) 0 dX7_firstError_0 rfl rfl rfl ?_
  refine ez_getf (q := 4) dX7_firstError_1 fl_X7_26 hI.1.1 rfl rfl ?_
  refine cXv (q := 7) dX7_firstError_4 ck_X7_124 hT.1 (t_X4_firstFault hT hb) rfl ⟨by decide, rfl⟩ rfl rfl rfl (Nat.le_of_ble_eq_true rfl) rfl (fun g hW => ?_)
  obtain ⟨op2, hw2, hT2, hx⟩ := hW
  have hI := hI.bu hT2 hb
  exact ez_iret dX7_firstError_7 rfl (hQ _ hI)

set_option maxHeartbeats 800000 in
set_option maxRecDepth 100000 in
theorem v_X7_read {G : ez_G} {d n : Nat} {h : ez_H} {n' f k t : Nat} {L T ln : Nat → Nat} {sg : Nat → Nat → Nat} {zs : Nat → AS} {b : Nat → Nat} {w : Nat} (hI : CJ h h n' f L T ln sg k zs t b) (ho : OK n' f L T ln sg) (hs : WFS ln sg) (hw : w < 4) (hwho : whoB b t = true) : Con G mX7_read (d + 7) [.ref 1, .int (nI w)] h n 0 0 (PW n (some (.int (nI t))) (fun g => CJ h g n' f L T (upN ln w t) (sgN sg w b) (svk k) (pushZ zs k ((n', f, L, T, ln, sg) : AS)) 0 b)) := by
  have hn := ho.1
  obtain ⟨hwf, ht0, ht4⟩ := who_w hwho
  refine Con.of [some (.ref 1), some (.int (nI w))] pl_X7 rfl (Nat.le_of_ble_eq_true rfl) rfl ?_
  have hQ : ∀ g, CJ h g n' f L T (upN ln w t) (sgN sg w b) (svk k) (pushZ zs k ((n', f, L, T, ln, sg) : AS)) 0 b → (PW n (some (.int (nI t))) (fun g => CJ h g n' f L T (upN ln w t) (sgN sg w b) (svk k) (pushZ zs k ((n', f, L, T, ln, sg) : AS)) 0 b)) (.inl (some (.int (nI t)))) g n := fun g h1 => ⟨rfl, h1, rfl⟩
  generalize PW n (some (.int (nI t))) (fun g => CJ h g n' f L T (upN ln w t) (sgN sg w b) (svk k) (pushZ zs k ((n', f, L, T, ln, sg) : AS)) 0 b) = Q at hQ ⊢
  obtain ⟨op, hw9, ch, hT, hb⟩ := hI.tx
  refine ez_iload_n (q := 1) 1 dX7_read_0 rfl rfl rfl ?_
  refine cU0 (q := 4) dX7_read_1 ck_X7_127 (v_X7_needWish (by omega)) rfl rfl rfl (Nat.le_of_ble_eq_true rfl) rfl ?_
  refine ez_aload_n (q := 5) 0 dX7_read_4 rfl rfl rfl ?_
  refine ez_getf (q := 8) dX7_read_5 fl_X7_26 hI.1.1 rfl rfl ?_
  refine cXv (q := 11) dX7_read_8 ck_X7_130 hT.1 (t_X4_isWish hT hb) rfl ⟨by decide, rfl⟩ rfl rfl rfl (Nat.le_of_ble_eq_true rfl) rfl (fun g hW => ?_)
  obtain ⟨op2, hw2, hT2⟩ := hW
  have hI := hI.bu hT2 hb
  have hT := hT2.rb
  refine ez_ifneB (q := 14) (tgt := 24) dX7_read_11 (by decide) rfl (fun hc11 => ?_) (fun hc11 => absurd hwho (by rw [hc11]; decide))
  refine ez_aload_n (q := 25) 0 dX7_read_24 rfl rfl rfl ?_
  refine ez_getf (q := 28) dX7_read_25 fl_X7_19 hI.1.1 rfl rfl ?_
  refine ez_aload_n (q := 29) 0 dX7_read_28 rfl rfl rfl ?_
  refine ez_getf (q := 32) dX7_read_29 fl_X7_10 hI.1.1 rfl rfl ?_
  obtain ⟨o, hH⟩ := hI.hh
  refine cX0 (q := 35) dX7_read_32 ck_X7_71 hI.hh.choose_spec.1 (t_X1_save hH hI.ss ho) rfl ⟨by decide, rfl⟩ rfl rfl rfl (Nat.le_of_ble_eq_true rfl) rfl (fun g hW => ?_)
  obtain ⟨hH2, hF2⟩ := hW
  have hI := hI.sv hH2 hF2
  have hT := hT.to (hF2 39 (by omega)) (hF2 40 (by omega))
  refine ez_aload_n (q := 36) 0 dX7_read_35 rfl rfl rfl ?_
  refine ez_getf (q := 39) dX7_read_36 fl_X7_10 hI.1.1 rfl rfl ?_
  refine ez_iload_n (q := 40) 1 dX7_read_39 rfl rfl rfl ?_
  refine ez_aload_n (q := 41) 0 dX7_read_40 rfl rfl rfl ?_
  refine ez_getf (q := 44) dX7_read_41 fl_X7_26 hI.1.1 rfl rfl ?_
  refine cX0 (q := 47) dX7_read_44 ck_X7_136 hI.ss.ob (t_X3_putWish hI.ss ho hT hb (by omega) (by omega) ht4) rfl ⟨by decide, rfl⟩ rfl rfl rfl (Nat.le_of_ble_eq_true rfl) rfl (fun g hW => ?_)
  obtain ⟨hS2, hF2⟩ := hW
  have hI := hI.st hS2 hF2
  have hT := hT.to (hF2 39 (by omega)) (hF2 40 (by omega))
  refine ez_aload_n (q := 48) 0 dX7_read_47 rfl rfl rfl ?_
  refine ez_getf (q := 51) dX7_read_48 fl_X7_26 hI.1.1 rfl rfl ?_
  refine ez_iconst (v := nI 0) (q := 52) dX7_read_51 (by decide) rfl ?_
  refine pTX_tl (q := 55) dX7_read_52 fl_X7_115 hT rfl (fun g hT => ?_)
  have hI := hI.bu (t2 := 0) hT (BB.nil (b := b))
  refine ez_aload_n (q := 56) 0 dX7_read_55 rfl rfl rfl ?_
  refine ez_getf (q := 59) dX7_read_56 fl_X7_10 hI.1.1 rfl rfl ?_
  refine ez_iload_n (q := 60) 1 dX7_read_59 rfl rfl rfl ?_
  refine cPv (q := 63) dX7_read_60 ck_X7_140 hI.ss.ob (r_X3_lengthOf hI.ss (ho.wish ht4 (fun k hk => (hb.2 k hk).2)) (by omega)) rfl ⟨by decide, rfl⟩ rfl rfl rfl (Nat.le_of_ble_eq_true rfl) rfl ?_
  rw [upN_eq]
  exact ez_iret dX7_read_63 rfl (hQ _ hI)

set_option maxHeartbeats 800000 in
set_option maxRecDepth 100000 in
theorem v_X7_negate {G : ez_G} {d n : Nat} {h : ez_H} {n' f k t : Nat} {L T ln : Nat → Nat} {sg : Nat → Nat → Nat} {zs : Nat → AS} {b : Nat → Nat} {w : Nat} (hI : CJ h h n' f L T ln sg k zs t b) (ho : OK n' f L T ln sg) (hs : WFS ln sg) (hw : w < 4) (hl0 : 0 < ln w) (hl9 : ln w < 40) : Con G mX7_negate (d + 7) [.ref 1, .int (nI w)] h n 0 0 (PW n (some (.int (nI (negM ln sg w)))) (fun g => CJ h g n' f L T (upN ln w (negM ln sg w)) (sgN sg w (negS sg w)) (svk k) (pushZ zs k ((n', f, L, T, ln, sg) : AS)) t b)) := by
  have hn := ho.1
  have hl := ho.2.2.2.2.1 w (by omega)
  have hl2 : ∀ j, j < ln w → sg w j < 128 := ho.2.2.2.2.2 w (by omega)
  have hsa := sgA_lt (i := 0) hl2
  refine Con.of [some (.ref 1), some (.int (nI w)), none, none] pl_X7 rfl (Nat.le_of_ble_eq_true rfl) rfl ?_
  have hQ : ∀ g, CJ h g n' f L T (upN ln w (negM ln sg w)) (sgN sg w (negS sg w)) (svk k) (pushZ zs k ((n', f, L, T, ln, sg) : AS)) t b → (PW n (some (.int (nI (negM ln sg w)))) (fun g => CJ h g n' f L T (upN ln w (negM ln sg w)) (sgN sg w (negS sg w)) (svk k) (pushZ zs k ((n', f, L, T, ln, sg) : AS)) t b)) (.inl (some (.int (nI (negM ln sg w))))) g n := fun g h1 => ⟨rfl, h1, rfl⟩
  generalize PW n (some (.int (nI (negM ln sg w)))) (fun g => CJ h g n' f L T (upN ln w (negM ln sg w)) (sgN sg w (negS sg w)) (svk k) (pushZ zs k ((n', f, L, T, ln, sg) : AS)) t b) = Q at hQ ⊢
  refine ez_iload_n (q := 1) 1 dX7_negate_0 rfl rfl rfl ?_
  refine cU0 (q := 4) dX7_negate_1 ck_X7_127 (v_X7_needWish (by omega)) rfl rfl rfl (Nat.le_of_ble_eq_true rfl) rfl ?_
  refine ez_aload_n (q := 5) 0 dX7_negate_4 rfl rfl rfl ?_
  refine ez_getf (q := 8) dX7_negate_5 fl_X7_10 hI.1.1 rfl rfl ?_
  refine ez_iload_n (q := 9) 1 dX7_negate_8 rfl rfl rfl ?_
  refine ez_iconst (v := nI 0) (q := 10) dX7_negate_9 (by decide) rfl ?_
  refine cPv (q := 13) dX7_negate_10 ck_X7_143 hI.ss.ob (r_X3_signAt hI.ss ho (by omega) (by decide)) rfl ⟨by decide, rfl⟩ rfl rfl rfl (Nat.le_of_ble_eq_true rfl) rfl ?_
  refine ez_bipush (v := nI 33) (q := 15) dX7_negate_13 (by decide) rfl ?_
  refine ez_icmpneN (q := 18) (tgt := 22) dX7_negate_15 (by decide) (by omega) (by decide) rfl (fun hc15 => ?_) (fun hc15 => ?_)
  · have h33 : ¬ sg w 0 = 33 := fun e => hc15 (by rw [sgA, if_pos hl0]; exact e)
    refine ez_iconst (v := nI 0) (q := 23) dX7_negate_22 (by decide) rfl ?_
    refine ez_istore_2 (q := 24) dX7_negate_23 rfl (by decide) rfl rfl ?_
    refine ez_aload_n (q := 25) 0 dX7_negate_24 rfl rfl rfl ?_
    refine ez_getf (q := 28) dX7_negate_25 fl_X7_10 hI.1.1 rfl rfl ?_
    refine ez_iload_n (q := 29) 1 dX7_negate_28 rfl rfl rfl ?_
    refine cPv (q := 32) dX7_negate_29 ck_X7_140 hI.ss.ob (r_X3_lengthOf hI.ss ho (by omega)) rfl ⟨by decide, rfl⟩ rfl rfl rfl (Nat.le_of_ble_eq_true rfl) rfl ?_
    refine ez_istore_3 (q := 33) dX7_negate_32 rfl (by decide) rfl rfl ?_
    refine ez_iload_n (q := 34) 3 dX7_negate_33 rfl rfl rfl ?_
    refine ez_ifeqN (q := 37) (tgt := 47) dX7_negate_34 (by decide) (by omega) rfl (fun hc34 => absurd hc34 (by omega)) (fun hc34 => ?_)
    refine ez_iload_n (q := 38) 2 dX7_negate_37 rfl rfl rfl ?_
    refine ez_ifneN (q := 41) (tgt := 57) dX7_negate_38 (by decide) (by decide) rfl (fun hc38 => ?_) (fun hc38 => ?_)
    · first
      | exact absurd hc38 (by decide)
      | skip
        refine ez_aload_n (q := 58) 0 dX7_negate_57 rfl rfl rfl ?_
        refine ez_getf (q := 61) dX7_negate_58 fl_X7_19 hI.1.1 rfl rfl ?_
        refine ez_aload_n (q := 62) 0 dX7_negate_61 rfl rfl rfl ?_
        refine ez_getf (q := 65) dX7_negate_62 fl_X7_10 hI.1.1 rfl rfl ?_
        obtain ⟨o, hH⟩ := hI.hh
        refine cX0 (q := 68) dX7_negate_65 ck_X7_71 hI.hh.choose_spec.1 (t_X1_save hH hI.ss ho) rfl ⟨by decide, rfl⟩ rfl rfl rfl (Nat.le_of_ble_eq_true rfl) rfl (fun g hW => ?_)
        obtain ⟨hH2, hF2⟩ := hW
        have hI := hI.sv hH2 hF2
        refine ez_iload_n (q := 69) 2 dX7_negate_68 rfl rfl rfl ?_
        refine ez_ifeqN (q := 72) (tgt := 83) dX7_negate_69 (by decide) (by decide) rfl (fun hc69 => ?_) (fun hc69 => ?_)
        · first
          | exact absurd hc69 (by decide)
          | skip
            refine ez_aload_n (q := 84) 0 dX7_negate_83 rfl rfl rfl ?_
            refine ez_getf (q := 87) dX7_negate_84 fl_X7_10 hI.1.1 rfl rfl ?_
            refine ez_iload_n (q := 88) 1 dX7_negate_87 rfl rfl rfl ?_
            rw [negM, if_neg h33, negS, if_neg h33] at hQ
            refine cX0 (q := 91) dX7_negate_88 ck_X7_152 hI.ss.ob (t_X3_putNot hI.ss ho (by omega) (by omega)) rfl ⟨by decide, rfl⟩ rfl rfl rfl (Nat.le_of_ble_eq_true rfl) rfl (fun g hW => ?_)
            obtain ⟨hS2, hF2⟩ := hW
            have hI := hI.st hS2 hF2
            have hok := ho.wish (w := w) (m := ln w + 1) (s := notS (sg w)) (by omega) (fun k hk => by cases k with | zero => exact (show 33 < 128 by decide) | succ k => exact hl2 k (by omega))
            refine ez_aload_n (q := 92) 0 dX7_negate_91 rfl rfl rfl ?_
            refine ez_getf (q := 95) dX7_negate_92 fl_X7_10 hI.1.1 rfl rfl ?_
            refine ez_iload_n (q := 96) 1 dX7_negate_95 rfl rfl rfl ?_
            refine cPv (q := 99) dX7_negate_96 ck_X7_140 hI.ss.ob (r_X3_lengthOf hI.ss hok (by omega)) rfl ⟨by decide, rfl⟩ rfl rfl rfl (Nat.le_of_ble_eq_true rfl) rfl ?_
            rw [upN_eq]
            exact ez_iret dX7_negate_99 rfl (hQ _ hI)
        · first
          | exact absurd hc69 (by decide)
          | skip
            refine ez_aload_n (q := 73) 0 dX7_negate_72 rfl rfl rfl ?_
            refine ez_getf (q := 76) dX7_negate_73 fl_X7_10 hI.1.1 rfl rfl ?_
            refine ez_iload_n (q := 77) 1 dX7_negate_76 rfl rfl rfl ?_
            rw [negM, if_pos h33, negS, if_pos h33] at hQ
            refine cX0 (q := 80) dX7_negate_77 ck_X7_149 hI.ss.ob (t_X3_dropNot hI.ss ho (by omega) (by omega)) rfl ⟨by decide, rfl⟩ rfl rfl rfl (Nat.le_of_ble_eq_true rfl) rfl (fun g hW => ?_)
            obtain ⟨hS2, hF2⟩ := hW
            have hI := hI.st hS2 hF2
            have hok := ho.wish (w := w) (m := ln w - 1) (s := fun k => sg w (k + 1)) (by omega) (fun k hk => hl2 (k + 1) (by omega))
            refine ez_goto (q := 91) dX7_negate_80 (by decide) ?_
            refine ez_aload_n (q := 92) 0 dX7_negate_91 rfl rfl rfl ?_
            refine ez_getf (q := 95) dX7_negate_92 fl_X7_10 hI.1.1 rfl rfl ?_
            refine ez_iload_n (q := 96) 1 dX7_negate_95 rfl rfl rfl ?_
            refine cPv (q := 99) dX7_negate_96 ck_X7_140 hI.ss.ob (r_X3_lengthOf hI.ss hok (by omega)) rfl ⟨by decide, rfl⟩ rfl rfl rfl (Nat.le_of_ble_eq_true rfl) rfl ?_
            rw [upN_eq]
            exact ez_iret dX7_negate_99 rfl (hQ _ hI)
    · first
      | exact absurd hc38 (by decide)
      | skip
        refine ez_iload_n (q := 42) 3 dX7_negate_41 rfl rfl rfl ?_
        refine ez_bipush (v := nI 40) (q := 44) dX7_negate_42 (by decide) rfl ?_
        refine ez_icmpltN (q := 47) (tgt := 57) dX7_negate_44 (by decide) (by omega) (by omega) rfl (fun hc44 => ?_) (fun hc44 => absurd hc44 (by omega))
        refine ez_aload_n (q := 58) 0 dX7_negate_57 rfl rfl rfl ?_
        refine ez_getf (q := 61) dX7_negate_58 fl_X7_19 hI.1.1 rfl rfl ?_
        refine ez_aload_n (q := 62) 0 dX7_negate_61 rfl rfl rfl ?_
        refine ez_getf (q := 65) dX7_negate_62 fl_X7_10 hI.1.1 rfl rfl ?_
        obtain ⟨o, hH⟩ := hI.hh
        refine cX0 (q := 68) dX7_negate_65 ck_X7_71 hI.hh.choose_spec.1 (t_X1_save hH hI.ss ho) rfl ⟨by decide, rfl⟩ rfl rfl rfl (Nat.le_of_ble_eq_true rfl) rfl (fun g hW => ?_)
        obtain ⟨hH2, hF2⟩ := hW
        have hI := hI.sv hH2 hF2
        refine ez_iload_n (q := 69) 2 dX7_negate_68 rfl rfl rfl ?_
        refine ez_ifeqN (q := 72) (tgt := 83) dX7_negate_69 (by decide) (by decide) rfl (fun hc69 => ?_) (fun hc69 => ?_)
        · first
          | exact absurd hc69 (by decide)
          | skip
            refine ez_aload_n (q := 84) 0 dX7_negate_83 rfl rfl rfl ?_
            refine ez_getf (q := 87) dX7_negate_84 fl_X7_10 hI.1.1 rfl rfl ?_
            refine ez_iload_n (q := 88) 1 dX7_negate_87 rfl rfl rfl ?_
            rw [negM, if_neg h33, negS, if_neg h33] at hQ
            refine cX0 (q := 91) dX7_negate_88 ck_X7_152 hI.ss.ob (t_X3_putNot hI.ss ho (by omega) (by omega)) rfl ⟨by decide, rfl⟩ rfl rfl rfl (Nat.le_of_ble_eq_true rfl) rfl (fun g hW => ?_)
            obtain ⟨hS2, hF2⟩ := hW
            have hI := hI.st hS2 hF2
            have hok := ho.wish (w := w) (m := ln w + 1) (s := notS (sg w)) (by omega) (fun k hk => by cases k with | zero => exact (show 33 < 128 by decide) | succ k => exact hl2 k (by omega))
            refine ez_aload_n (q := 92) 0 dX7_negate_91 rfl rfl rfl ?_
            refine ez_getf (q := 95) dX7_negate_92 fl_X7_10 hI.1.1 rfl rfl ?_
            refine ez_iload_n (q := 96) 1 dX7_negate_95 rfl rfl rfl ?_
            refine cPv (q := 99) dX7_negate_96 ck_X7_140 hI.ss.ob (r_X3_lengthOf hI.ss hok (by omega)) rfl ⟨by decide, rfl⟩ rfl rfl rfl (Nat.le_of_ble_eq_true rfl) rfl ?_
            rw [upN_eq]
            exact ez_iret dX7_negate_99 rfl (hQ _ hI)
        · first
          | exact absurd hc69 (by decide)
          | skip
            refine ez_aload_n (q := 73) 0 dX7_negate_72 rfl rfl rfl ?_
            refine ez_getf (q := 76) dX7_negate_73 fl_X7_10 hI.1.1 rfl rfl ?_
            refine ez_iload_n (q := 77) 1 dX7_negate_76 rfl rfl rfl ?_
            rw [negM, if_pos h33, negS, if_pos h33] at hQ
            refine cX0 (q := 80) dX7_negate_77 ck_X7_149 hI.ss.ob (t_X3_dropNot hI.ss ho (by omega) (by omega)) rfl ⟨by decide, rfl⟩ rfl rfl rfl (Nat.le_of_ble_eq_true rfl) rfl (fun g hW => ?_)
            obtain ⟨hS2, hF2⟩ := hW
            have hI := hI.st hS2 hF2
            have hok := ho.wish (w := w) (m := ln w - 1) (s := fun k => sg w (k + 1)) (by omega) (fun k hk => hl2 (k + 1) (by omega))
            refine ez_goto (q := 91) dX7_negate_80 (by decide) ?_
            refine ez_aload_n (q := 92) 0 dX7_negate_91 rfl rfl rfl ?_
            refine ez_getf (q := 95) dX7_negate_92 fl_X7_10 hI.1.1 rfl rfl ?_
            refine ez_iload_n (q := 96) 1 dX7_negate_95 rfl rfl rfl ?_
            refine cPv (q := 99) dX7_negate_96 ck_X7_140 hI.ss.ob (r_X3_lengthOf hI.ss hok (by omega)) rfl ⟨by decide, rfl⟩ rfl rfl rfl (Nat.le_of_ble_eq_true rfl) rfl ?_
            rw [upN_eq]
            exact ez_iret dX7_negate_99 rfl (hQ _ hI)
  · have h33 : sg w 0 = 33 := by rw [sgA, if_pos hl0] at hc15; exact hc15
    refine ez_iconst (v := nI 1) (q := 19) dX7_negate_18 (by decide) rfl ?_
    refine ez_goto (q := 23) dX7_negate_19 (by decide) ?_
    refine ez_istore_2 (q := 24) dX7_negate_23 rfl (by decide) rfl rfl ?_
    refine ez_aload_n (q := 25) 0 dX7_negate_24 rfl rfl rfl ?_
    refine ez_getf (q := 28) dX7_negate_25 fl_X7_10 hI.1.1 rfl rfl ?_
    refine ez_iload_n (q := 29) 1 dX7_negate_28 rfl rfl rfl ?_
    refine cPv (q := 32) dX7_negate_29 ck_X7_140 hI.ss.ob (r_X3_lengthOf hI.ss ho (by omega)) rfl ⟨by decide, rfl⟩ rfl rfl rfl (Nat.le_of_ble_eq_true rfl) rfl ?_
    refine ez_istore_3 (q := 33) dX7_negate_32 rfl (by decide) rfl rfl ?_
    refine ez_iload_n (q := 34) 3 dX7_negate_33 rfl rfl rfl ?_
    refine ez_ifeqN (q := 37) (tgt := 47) dX7_negate_34 (by decide) (by omega) rfl (fun hc34 => absurd hc34 (by omega)) (fun hc34 => ?_)
    refine ez_iload_n (q := 38) 2 dX7_negate_37 rfl rfl rfl ?_
    refine ez_ifneN (q := 41) (tgt := 57) dX7_negate_38 (by decide) (by decide) rfl (fun hc38 => ?_) (fun hc38 => ?_)
    · first
      | exact absurd hc38 (by decide)
      | skip
        refine ez_aload_n (q := 58) 0 dX7_negate_57 rfl rfl rfl ?_
        refine ez_getf (q := 61) dX7_negate_58 fl_X7_19 hI.1.1 rfl rfl ?_
        refine ez_aload_n (q := 62) 0 dX7_negate_61 rfl rfl rfl ?_
        refine ez_getf (q := 65) dX7_negate_62 fl_X7_10 hI.1.1 rfl rfl ?_
        obtain ⟨o, hH⟩ := hI.hh
        refine cX0 (q := 68) dX7_negate_65 ck_X7_71 hI.hh.choose_spec.1 (t_X1_save hH hI.ss ho) rfl ⟨by decide, rfl⟩ rfl rfl rfl (Nat.le_of_ble_eq_true rfl) rfl (fun g hW => ?_)
        obtain ⟨hH2, hF2⟩ := hW
        have hI := hI.sv hH2 hF2
        refine ez_iload_n (q := 69) 2 dX7_negate_68 rfl rfl rfl ?_
        refine ez_ifeqN (q := 72) (tgt := 83) dX7_negate_69 (by decide) (by decide) rfl (fun hc69 => ?_) (fun hc69 => ?_)
        · first
          | exact absurd hc69 (by decide)
          | skip
            refine ez_aload_n (q := 84) 0 dX7_negate_83 rfl rfl rfl ?_
            refine ez_getf (q := 87) dX7_negate_84 fl_X7_10 hI.1.1 rfl rfl ?_
            refine ez_iload_n (q := 88) 1 dX7_negate_87 rfl rfl rfl ?_
            rw [negM, if_neg h33, negS, if_neg h33] at hQ
            refine cX0 (q := 91) dX7_negate_88 ck_X7_152 hI.ss.ob (t_X3_putNot hI.ss ho (by omega) (by omega)) rfl ⟨by decide, rfl⟩ rfl rfl rfl (Nat.le_of_ble_eq_true rfl) rfl (fun g hW => ?_)
            obtain ⟨hS2, hF2⟩ := hW
            have hI := hI.st hS2 hF2
            have hok := ho.wish (w := w) (m := ln w + 1) (s := notS (sg w)) (by omega) (fun k hk => by cases k with | zero => exact (show 33 < 128 by decide) | succ k => exact hl2 k (by omega))
            refine ez_aload_n (q := 92) 0 dX7_negate_91 rfl rfl rfl ?_
            refine ez_getf (q := 95) dX7_negate_92 fl_X7_10 hI.1.1 rfl rfl ?_
            refine ez_iload_n (q := 96) 1 dX7_negate_95 rfl rfl rfl ?_
            refine cPv (q := 99) dX7_negate_96 ck_X7_140 hI.ss.ob (r_X3_lengthOf hI.ss hok (by omega)) rfl ⟨by decide, rfl⟩ rfl rfl rfl (Nat.le_of_ble_eq_true rfl) rfl ?_
            rw [upN_eq]
            exact ez_iret dX7_negate_99 rfl (hQ _ hI)
        · first
          | exact absurd hc69 (by decide)
          | skip
            refine ez_aload_n (q := 73) 0 dX7_negate_72 rfl rfl rfl ?_
            refine ez_getf (q := 76) dX7_negate_73 fl_X7_10 hI.1.1 rfl rfl ?_
            refine ez_iload_n (q := 77) 1 dX7_negate_76 rfl rfl rfl ?_
            rw [negM, if_pos h33, negS, if_pos h33] at hQ
            refine cX0 (q := 80) dX7_negate_77 ck_X7_149 hI.ss.ob (t_X3_dropNot hI.ss ho (by omega) (by omega)) rfl ⟨by decide, rfl⟩ rfl rfl rfl (Nat.le_of_ble_eq_true rfl) rfl (fun g hW => ?_)
            obtain ⟨hS2, hF2⟩ := hW
            have hI := hI.st hS2 hF2
            have hok := ho.wish (w := w) (m := ln w - 1) (s := fun k => sg w (k + 1)) (by omega) (fun k hk => hl2 (k + 1) (by omega))
            refine ez_goto (q := 91) dX7_negate_80 (by decide) ?_
            refine ez_aload_n (q := 92) 0 dX7_negate_91 rfl rfl rfl ?_
            refine ez_getf (q := 95) dX7_negate_92 fl_X7_10 hI.1.1 rfl rfl ?_
            refine ez_iload_n (q := 96) 1 dX7_negate_95 rfl rfl rfl ?_
            refine cPv (q := 99) dX7_negate_96 ck_X7_140 hI.ss.ob (r_X3_lengthOf hI.ss hok (by omega)) rfl ⟨by decide, rfl⟩ rfl rfl rfl (Nat.le_of_ble_eq_true rfl) rfl ?_
            rw [upN_eq]
            exact ez_iret dX7_negate_99 rfl (hQ _ hI)
    · first
      | exact absurd hc38 (by decide)
      | skip
        refine ez_iload_n (q := 42) 3 dX7_negate_41 rfl rfl rfl ?_
        refine ez_bipush (v := nI 40) (q := 44) dX7_negate_42 (by decide) rfl ?_
        refine ez_icmpltN (q := 47) (tgt := 57) dX7_negate_44 (by decide) (by omega) (by omega) rfl (fun hc44 => ?_) (fun hc44 => absurd hc44 (by omega))
        refine ez_aload_n (q := 58) 0 dX7_negate_57 rfl rfl rfl ?_
        refine ez_getf (q := 61) dX7_negate_58 fl_X7_19 hI.1.1 rfl rfl ?_
        refine ez_aload_n (q := 62) 0 dX7_negate_61 rfl rfl rfl ?_
        refine ez_getf (q := 65) dX7_negate_62 fl_X7_10 hI.1.1 rfl rfl ?_
        obtain ⟨o, hH⟩ := hI.hh
        refine cX0 (q := 68) dX7_negate_65 ck_X7_71 hI.hh.choose_spec.1 (t_X1_save hH hI.ss ho) rfl ⟨by decide, rfl⟩ rfl rfl rfl (Nat.le_of_ble_eq_true rfl) rfl (fun g hW => ?_)
        obtain ⟨hH2, hF2⟩ := hW
        have hI := hI.sv hH2 hF2
        refine ez_iload_n (q := 69) 2 dX7_negate_68 rfl rfl rfl ?_
        refine ez_ifeqN (q := 72) (tgt := 83) dX7_negate_69 (by decide) (by decide) rfl (fun hc69 => ?_) (fun hc69 => ?_)
        · first
          | exact absurd hc69 (by decide)
          | skip
            refine ez_aload_n (q := 84) 0 dX7_negate_83 rfl rfl rfl ?_
            refine ez_getf (q := 87) dX7_negate_84 fl_X7_10 hI.1.1 rfl rfl ?_
            refine ez_iload_n (q := 88) 1 dX7_negate_87 rfl rfl rfl ?_
            rw [negM, if_neg h33, negS, if_neg h33] at hQ
            refine cX0 (q := 91) dX7_negate_88 ck_X7_152 hI.ss.ob (t_X3_putNot hI.ss ho (by omega) (by omega)) rfl ⟨by decide, rfl⟩ rfl rfl rfl (Nat.le_of_ble_eq_true rfl) rfl (fun g hW => ?_)
            obtain ⟨hS2, hF2⟩ := hW
            have hI := hI.st hS2 hF2
            have hok := ho.wish (w := w) (m := ln w + 1) (s := notS (sg w)) (by omega) (fun k hk => by cases k with | zero => exact (show 33 < 128 by decide) | succ k => exact hl2 k (by omega))
            refine ez_aload_n (q := 92) 0 dX7_negate_91 rfl rfl rfl ?_
            refine ez_getf (q := 95) dX7_negate_92 fl_X7_10 hI.1.1 rfl rfl ?_
            refine ez_iload_n (q := 96) 1 dX7_negate_95 rfl rfl rfl ?_
            refine cPv (q := 99) dX7_negate_96 ck_X7_140 hI.ss.ob (r_X3_lengthOf hI.ss hok (by omega)) rfl ⟨by decide, rfl⟩ rfl rfl rfl (Nat.le_of_ble_eq_true rfl) rfl ?_
            rw [upN_eq]
            exact ez_iret dX7_negate_99 rfl (hQ _ hI)
        · first
          | exact absurd hc69 (by decide)
          | skip
            refine ez_aload_n (q := 73) 0 dX7_negate_72 rfl rfl rfl ?_
            refine ez_getf (q := 76) dX7_negate_73 fl_X7_10 hI.1.1 rfl rfl ?_
            refine ez_iload_n (q := 77) 1 dX7_negate_76 rfl rfl rfl ?_
            rw [negM, if_pos h33, negS, if_pos h33] at hQ
            refine cX0 (q := 80) dX7_negate_77 ck_X7_149 hI.ss.ob (t_X3_dropNot hI.ss ho (by omega) (by omega)) rfl ⟨by decide, rfl⟩ rfl rfl rfl (Nat.le_of_ble_eq_true rfl) rfl (fun g hW => ?_)
            obtain ⟨hS2, hF2⟩ := hW
            have hI := hI.st hS2 hF2
            have hok := ho.wish (w := w) (m := ln w - 1) (s := fun k => sg w (k + 1)) (by omega) (fun k hk => hl2 (k + 1) (by omega))
            refine ez_goto (q := 91) dX7_negate_80 (by decide) ?_
            refine ez_aload_n (q := 92) 0 dX7_negate_91 rfl rfl rfl ?_
            refine ez_getf (q := 95) dX7_negate_92 fl_X7_10 hI.1.1 rfl rfl ?_
            refine ez_iload_n (q := 96) 1 dX7_negate_95 rfl rfl rfl ?_
            refine cPv (q := 99) dX7_negate_96 ck_X7_140 hI.ss.ob (r_X3_lengthOf hI.ss hok (by omega)) rfl ⟨by decide, rfl⟩ rfl rfl rfl (Nat.le_of_ble_eq_true rfl) rfl ?_
            rw [upN_eq]
            exact ez_iret dX7_negate_99 rfl (hQ _ hI)

set_option maxHeartbeats 800000 in
set_option maxRecDepth 100000 in
theorem v_X7_undo {G : ez_G} {d n : Nat} {h : ez_H} {n' f k t : Nat} {L T ln : Nat → Nat} {sg : Nat → Nat → Nat} {zs : Nat → AS} {b : Nat → Nat} (hI : CJ h h n' f L T ln sg k zs t b) (ho : OK n' f L T ln sg) (hs : WFS ln sg) (hz : ∀ i, i < k → OKA (zs i)) (hk0 : 0 < k) : Con G mX7_undo (d + 7) [.ref 1] h n 0 0 (PW n (some (.int (nI (k - 1)))) (fun g => CJ h g (zs (k - 1)).1 (zs (k - 1)).2.1 (zs (k - 1)).2.2.1 (zs (k - 1)).2.2.2.1 (zs (k - 1)).2.2.2.2.1 (zs (k - 1)).2.2.2.2.2 (k - 1) zs t b)) := by
  have hn := ho.1
  refine Con.of [some (.ref 1)] pl_X7 rfl (Nat.le_of_ble_eq_true rfl) rfl ?_
  have hQ : ∀ g, CJ h g (zs (k - 1)).1 (zs (k - 1)).2.1 (zs (k - 1)).2.2.1 (zs (k - 1)).2.2.2.1 (zs (k - 1)).2.2.2.2.1 (zs (k - 1)).2.2.2.2.2 (k - 1) zs t b → (PW n (some (.int (nI (k - 1)))) (fun g => CJ h g (zs (k - 1)).1 (zs (k - 1)).2.1 (zs (k - 1)).2.2.1 (zs (k - 1)).2.2.2.1 (zs (k - 1)).2.2.2.2.1 (zs (k - 1)).2.2.2.2.2 (k - 1) zs t b)) (.inl (some (.int (nI (k - 1))))) g n := fun g h1 => ⟨rfl, h1, rfl⟩
  generalize PW n (some (.int (nI (k - 1)))) (fun g => CJ h g (zs (k - 1)).1 (zs (k - 1)).2.1 (zs (k - 1)).2.2.1 (zs (k - 1)).2.2.2.1 (zs (k - 1)).2.2.2.2.1 (zs (k - 1)).2.2.2.2.2 (k - 1) zs t b) = Q at hQ ⊢
  obtain ⟨o, hH⟩ := hI.hh
  have hk6 := hH.2.2.1
  refine ez_aload_n (q := 1) 0 dX7_undo_0 rfl rfl rfl ?_
  refine ez_getf (q := 4) dX7_undo_1 fl_X7_19 hI.1.1 rfl rfl ?_
  refine ez_getf (q := 7) dX7_undo_4 fl_X7_158 hI.hh.choose_spec.1 rfl rfl ?_
  refine ez_ifneN (q := 10) (tgt := 20) dX7_undo_7 (by decide) (by omega) rfl (fun hc7 => ?_) (fun hc7 => absurd hk0 (by omega))
  refine ez_aload_n (q := 21) 0 dX7_undo_20 rfl rfl rfl ?_
  refine ez_getf (q := 24) dX7_undo_21 fl_X7_19 hI.1.1 rfl rfl ?_
  refine ez_aload_n (q := 25) 0 dX7_undo_24 rfl rfl rfl ?_
  refine ez_getf (q := 28) dX7_undo_25 fl_X7_10 hI.1.1 rfl rfl ?_
  refine cX0 (q := 31) dX7_undo_28 ck_X7_163 hI.hh.choose_spec.1 (t_X1_restore hH hI.ss.sr (hz (k - 1) (by omega)).1 (by omega)) rfl ⟨by decide, rfl⟩ rfl rfl rfl (Nat.le_of_ble_eq_true rfl) rfl (fun g hW => ?_)
  obtain ⟨hS2, hH2, hF2⟩ := hW
  have hI := hI.un hS2 hH2 hF2
  refine ez_aload_n (q := 32) 0 dX7_undo_31 rfl rfl rfl ?_
  refine ez_getf (q := 35) dX7_undo_32 fl_X7_19 hI.1.1 rfl rfl ?_
  refine ez_getf (q := 38) dX7_undo_35 fl_X7_158 hI.hh.choose_spec.1 rfl rfl ?_
  exact ez_iret dX7_undo_38 rfl (hQ _ hI)

set_option maxHeartbeats 800000 in
set_option maxRecDepth 100000 in
theorem v_X7_wish {G : ez_G} {d n : Nat} {h : ez_H} {n' f k t : Nat} {L T ln : Nat → Nat} {sg : Nat → Nat → Nat} {zs : Nat → AS} {b : Nat → Nat} {w what : Nat} (hI : CJ h h n' f L T ln sg k zs t b) (ho : OK n' f L T ln sg) (hs : WFS ln sg) (hw : w < 4) (hwh : what ≤ 3) : Con G mX7_wish (d + 7) [.ref 1, .int (nI w), .int (nI what)] h n 0 0 (PW n (some (.int (tsI T n' f L ln sg w what))) (fun g => CJ h g n' f L T ln sg k zs t b)) := by
  have hn := ho.1
  refine Con.of [some (.ref 1), some (.int (nI w)), some (.int (nI what))] pl_X7 rfl (Nat.le_of_ble_eq_true rfl) rfl ?_
  have hQ : ∀ g, CJ h g n' f L T ln sg k zs t b → (PW n (some (.int (tsI T n' f L ln sg w what))) (fun g => CJ h g n' f L T ln sg k zs t b)) (.inl (some (.int (tsI T n' f L ln sg w what)))) g n := fun g h1 => ⟨rfl, h1, rfl⟩
  generalize PW n (some (.int (tsI T n' f L ln sg w what))) (fun g => CJ h g n' f L T ln sg k zs t b) = Q at hQ ⊢
  refine ez_iload_n (q := 1) 1 dX7_wish_0 rfl rfl rfl ?_
  refine cU0 (q := 4) dX7_wish_1 ck_X7_127 (v_X7_needWish (by omega)) rfl rfl rfl (Nat.le_of_ble_eq_true rfl) rfl ?_
  refine ez_iload_n (q := 5) 2 dX7_wish_4 rfl rfl rfl ?_
  refine ez_iconst (v := nI 3) (q := 6) dX7_wish_5 (by decide) rfl ?_
  refine cU0 (q := 9) dX7_wish_6 ck_X7_166 (v_X7_needLook (by omega) (by decide)) rfl rfl rfl (Nat.le_of_ble_eq_true rfl) rfl ?_
  refine ez_aload_n (q := 10) 0 dX7_wish_9 rfl rfl rfl ?_
  refine ez_getf (q := 13) dX7_wish_10 fl_X7_35 hI.1.1 rfl rfl ?_
  refine ez_iload_n (q := 14) 1 dX7_wish_13 rfl rfl rfl ?_
  refine cXv (q := 17) dX7_wish_14 ck_X7_178 hI.mx.ob.choose_spec (t_X2_find hI.mx hI.ss ho hs (by omega) (by omega)) rfl ⟨by decide, rfl⟩ rfl rfl rfl (Nat.le_of_ble_eq_true rfl) rfl (fun g hW => ?_)
  have hG := hW
  clear hW
  have hI := hI.find hG
  obtain ⟨mg, me, md, mt, mr, r, hF, hgg, hle, hse⟩ := hG
  have hE := hF.me
  refine ez_pop (q := 18) dX7_wish_17 rfl rfl ?_
  refine ez_aload_n (q := 19) 0 dX7_wish_18 rfl rfl rfl ?_
  refine ez_getf (q := 22) dX7_wish_19 fl_X7_35 hI.1.1 rfl rfl ?_
  refine ez_iload_n (q := 23) 2 dX7_wish_22 rfl rfl rfl ?_
  refine cPv (q := 26) dX7_wish_23 ck_X7_181 hE.2.1 (t_X2_ofWish hE (ho.2.2.2.2.1 w (by omega)) hgg hle hse (fun h9 => by obtain ⟨sc, hwf⟩ := hs w (by omega) h9; exact (wf_w hwf h9).trans (by rw [(wf_0 hwf).2.1])) (by omega)) rfl ⟨by decide, rfl⟩ rfl rfl rfl (Nat.le_of_ble_eq_true rfl) rfl ?_
  exact ez_iret dX7_wish_26 rfl (hQ _ hI)

set_option maxHeartbeats 800000 in
set_option maxRecDepth 100000 in
theorem v_X7_sign {G : ez_G} {d n : Nat} {h : ez_H} {n' f k t : Nat} {L T ln : Nat → Nat} {sg : Nat → Nat → Nat} {zs : Nat → AS} {b : Nat → Nat} {w i what : Nat} (hI : CJ h h n' f L T ln sg k zs t b) (ho : OK n' f L T ln sg) (hs : WFS ln sg) (hw : w < 4) (hi : i < ln w) (hwh : what ≤ 3) : Con G mX7_sign (d + 7) [.ref 1, .int (nI w), .int (nI i), .int (nI what)] h n 0 0 (PW n (some (.int (tgI T n' f L ln sg w i what))) (fun g => CJ h g n' f L T ln sg k zs t b)) := by
  have hn := ho.1
  have hl := ho.2.2.2.2.1 w (by omega)
  refine Con.of [some (.ref 1), some (.int (nI w)), some (.int (nI i)), some (.int (nI what))] pl_X7 rfl (Nat.le_of_ble_eq_true rfl) rfl ?_
  have hQ : ∀ g, CJ h g n' f L T ln sg k zs t b → (PW n (some (.int (tgI T n' f L ln sg w i what))) (fun g => CJ h g n' f L T ln sg k zs t b)) (.inl (some (.int (tgI T n' f L ln sg w i what)))) g n := fun g h1 => ⟨rfl, h1, rfl⟩
  generalize PW n (some (.int (tgI T n' f L ln sg w i what))) (fun g => CJ h g n' f L T ln sg k zs t b) = Q at hQ ⊢
  refine ez_iload_n (q := 1) 1 dX7_sign_0 rfl rfl rfl ?_
  refine cU0 (q := 4) dX7_sign_1 ck_X7_127 (v_X7_needWish (by omega)) rfl rfl rfl (Nat.le_of_ble_eq_true rfl) rfl ?_
  refine ez_iload_n (q := 5) 2 dX7_sign_4 rfl rfl rfl ?_
  refine ez_ifltN (q := 8) (tgt := 20) dX7_sign_5 (by decide) (by omega) rfl ?_
  refine ez_iload_n (q := 9) 2 dX7_sign_8 rfl rfl rfl ?_
  refine ez_aload_n (q := 10) 0 dX7_sign_9 rfl rfl rfl ?_
  refine ez_getf (q := 13) dX7_sign_10 fl_X7_10 hI.1.1 rfl rfl ?_
  refine ez_iload_n (q := 14) 1 dX7_sign_13 rfl rfl rfl ?_
  refine cPv (q := 17) dX7_sign_14 ck_X7_140 hI.ss.ob (r_X3_lengthOf hI.ss ho (by omega)) rfl ⟨by decide, rfl⟩ rfl rfl rfl (Nat.le_of_ble_eq_true rfl) rfl ?_
  refine ez_icmpltN (q := 20) (tgt := 30) dX7_sign_17 (by decide) (by omega) (by omega) rfl (fun hc17 => ?_) (fun hc17 => absurd hc17 (by omega))
  refine ez_iload_n (q := 31) 3 dX7_sign_30 rfl rfl rfl ?_
  refine ez_iconst (v := nI 3) (q := 32) dX7_sign_31 (by decide) rfl ?_
  refine cU0 (q := 35) dX7_sign_32 ck_X7_166 (v_X7_needLook (by omega) (by decide)) rfl rfl rfl (Nat.le_of_ble_eq_true rfl) rfl ?_
  refine ez_aload_n (q := 36) 0 dX7_sign_35 rfl rfl rfl ?_
  refine ez_getf (q := 39) dX7_sign_36 fl_X7_35 hI.1.1 rfl rfl ?_
  refine ez_iload_n (q := 40) 1 dX7_sign_39 rfl rfl rfl ?_
  refine cXv (q := 43) dX7_sign_40 ck_X7_178 hI.mx.ob.choose_spec (t_X2_find hI.mx hI.ss ho hs (by omega) (by omega)) rfl ⟨by decide, rfl⟩ rfl rfl rfl (Nat.le_of_ble_eq_true rfl) rfl (fun g hW => ?_)
  have hG := hW
  clear hW
  have hI := hI.find hG
  obtain ⟨mg, me, md, mt, mr, r, hF, hgg, hle, hse⟩ := hG
  have hE := hF.me
  refine ez_pop (q := 44) dX7_sign_43 rfl rfl ?_
  refine ez_aload_n (q := 45) 0 dX7_sign_44 rfl rfl rfl ?_
  refine ez_getf (q := 48) dX7_sign_45 fl_X7_35 hI.1.1 rfl rfl ?_
  refine ez_iload_n (q := 49) 2 dX7_sign_48 rfl rfl rfl ?_
  refine ez_iload_n (q := 50) 3 dX7_sign_49 rfl rfl rfl ?_
  refine cPv (q := 53) dX7_sign_50 ck_X7_189 hE.2.1 (t_X2_ofSign hE (ho.2.2.2.2.1 w (by omega)) hgg hle hse (by omega) (by omega)) rfl ⟨by decide, rfl⟩ rfl rfl rfl (Nat.le_of_ble_eq_true rfl) rfl ?_
  exact ez_iret dX7_sign_53 rfl (hQ _ hI)

