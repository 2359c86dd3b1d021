def cdA (n : Nat) (l : Int32) : Nat := if inB l 0 15 = true then (if n = 10 then 2 else 0) else 1
set_option maxHeartbeats 800000 in
set_option maxRecDepth 100000 in
theorem t_X8_addWorld {G : ez_G} {d n : Nat} {h : ez_H} {n' f : Nat} {L T ln : Nat → Nat} {sg : Nat → Nat → Nat} {l : Int32} {k r : Nat} {zs : Nat → Nat → Int32} {th ty wa rm fm ff : Int32} {z sv bf se ro le de rw sp : Nat → Int32} {ww : Bool} {ha : Int64} (hM : IM h h th z sv (nI k) bf ty (nI r) se ro le de wa ww rw rm sp fm ff ha) (hz : ZZ z n' f L T ln sg) (ho : OK n' f L T ln sg) (hk : k ≤ 6) (hv : SVD sv k zs) : Con G mX8_addWorld (d + 5) [.ref 64, .int l] h n 0 0 (PW n (some (.int (aW (cdA n' l) (nI n')))) (fun g => (cdA n' l = 0 → ∃ z' sv' : Nat → Int32, MB h g (nI 0) z' sv' (nI (svk k)) bf ty ha ∧ ZZ z' (n' + 1) f (upN L n' (nn l)) (upN T n' 0) ln sg ∧ SVD sv' (svk k) (pushZ zs k z)) ∧ (¬ cdA n' l = 0 → MB h g (nI (cdA n' l)) z sv (nI k) bf ty ha))) := by
  have hn := ho.1
  have hn0 := hz.1
  refine Con.of [some (.ref 64), some (.int l)] pl_X8 rfl (Nat.le_of_ble_eq_true rfl) rfl ?_
  have hQ : (cdA n' l = 0 → ∀ g (z' sv' : Nat → Int32), MB h g (nI 0) z' sv' (nI (svk k)) bf ty ha → ZZ z' (n' + 1) f (upN L n' (nn l)) (upN T n' 0) ln sg → SVD sv' (svk k) (pushZ zs k z) → (PW n (some (.int (aW (cdA n' l) (nI n')))) (fun g => (cdA n' l = 0 → ∃ z' sv' : Nat → Int32, MB h g (nI 0) z' sv' (nI (svk k)) bf ty ha ∧ ZZ z' (n' + 1) f (upN L n' (nn l)) (upN T n' 0) ln sg ∧ SVD sv' (svk k) (pushZ zs k z)) ∧ (¬ cdA n' l = 0 → MB h g (nI (cdA n' l)) z sv (nI k) bf ty ha))) (.inl (some (.int (nI n')))) g n) ∧ (∀ c, cdA n' l = c → c ≠ 0 → ∀ g, MB h g (nI c) z sv (nI k) bf ty ha → (PW n (some (.int (aW (cdA n' l) (nI n')))) (fun g => (cdA n' l = 0 → ∃ z' sv' : Nat → Int32, MB h g (nI 0) z' sv' (nI (svk k)) bf ty ha ∧ ZZ z' (n' + 1) f (upN L n' (nn l)) (upN T n' 0) ln sg ∧ SVD sv' (svk k) (pushZ zs k z)) ∧ (¬ cdA n' l = 0 → MB h g (nI (cdA n' l)) z sv (nI k) bf ty ha))) (.inl (some (.int (nI 0)))) g n) := ⟨fun e g z' sv' h1 h2 h3 => ⟨by rw [aW, if_pos e], ⟨fun _ => ⟨z', sv', h1, h2, h3⟩, fun a => absurd e a⟩, rfl⟩, fun c hc e g h1 => ⟨by rw [aW, if_neg (by omega)]; rfl, ⟨fun a => absurd a (by omega), fun _ => by rw [hc]; exact h1⟩, rfl⟩⟩
  generalize PW n (some (.int (aW (cdA n' l) (nI n')))) (fun g => (cdA n' l = 0 → ∃ z' sv' : Nat → Int32, MB h g (nI 0) z' sv' (nI (svk k)) bf ty ha ∧ ZZ z' (n' + 1) f (upN L n' (nn l)) (upN T n' 0) ln sg ∧ SVD sv' (svk k) (pushZ zs k z)) ∧ (¬ cdA n' l = 0 → MB h g (nI (cdA n' l)) z sv (nI k) bf ty ha)) = Q at hQ ⊢
  refine ez_aload_n (q := 1) 0 dX8_addWorld_0 rfl rfl rfl ?_
  refine ez_iload_n (q := 2) 1 dX8_addWorld_1 rfl rfl rfl ?_
  refine ez_iconst (v := nI 0) (q := 3) dX8_addWorld_2 (by decide) rfl ?_
  refine ez_bipush (v := nI 15) (q := 5) dX8_addWorld_3 (by decide) rfl ?_
  refine cUv (q := 8) dX8_addWorld_5 ck_X8_41 (t_X8_in (a := 0) (b := 15) (by decide) (by decide)) rfl rfl rfl (Nat.le_of_ble_eq_true rfl) rfl ?_
  refine ez_ifneB (q := 11) (tgt := 15) dX8_addWorld_8 (by decide) rfl (fun hc8 => ?_) (fun hc8 => ?_)
  · refine ez_aload_n (q := 16) 0 dX8_addWorld_15 rfl rfl rfl ?_
    refine ez_getf (q := 19) dX8_addWorld_16 fl_X8_7 hM.1 rfl rfl ?_
    refine ez_iconst (v := nI 0) (q := 20) dX8_addWorld_19 (by decide) rfl ?_
    refine ez_iald (q := 21) dX8_addWorld_20 hM.2.1 rfl (by omega) (by decide) rfl ?_
    first | refine ez_top (hn0) ?_ | refine ez_top ((up_ne _ _ (by omega)).trans hn0) ?_ | refine ez_top ((up_ne _ _ (by omega)).trans ((up_ne _ _ (by omega)).trans hn0)) ?_ | refine ez_top (up_eq _ _ _) ?_
    refine ez_bipush (v := nI 10) (q := 23) dX8_addWorld_21 (by decide) rfl ?_
    refine ez_icmpneN (q := 26) (tgt := 30) dX8_addWorld_23 (by decide) (by omega) (by omega) rfl (fun hc23 => ?_) (fun hc23 => ?_)
    · have hQ0 := hQ.1 (by simp [cdA, hc8, hc23])
      clear hQ
      obtain ⟨l, rfl, hl, hl2⟩ := inB_nat hc8
      rw [nn_nI hl2] at hQ0
      refine ez_iconst (v := nI 0) (q := 31) dX8_addWorld_30 (by decide) rfl ?_
      refine pM_th (q := 34) dX8_addWorld_31 fl_X8_37 hM rfl (fun g hM => ?_)
      refine ez_aload_n (q := 35) 0 dX8_addWorld_34 rfl rfl rfl ?_
      refine ez_getf (q := 38) dX8_addWorld_35 fl_X8_37 hM.1 rfl rfl ?_
      refine ez_ifleN (q := 41) (tgt := 43) dX8_addWorld_38 (by decide) (by decide) rfl (fun hc38 => ?_) (fun hc38 => ?_)
      · first
        | exact absurd hc38 (by decide)
        | skip
          refine ez_aload_n (q := 44) 0 dX8_addWorld_43 rfl rfl rfl ?_
          refine cX0 (q := 47) dX8_addWorld_44 ck_X8_48 hM.1 (t_X8_save hM.rb hk hv) rfl ⟨by decide, rfl⟩ rfl rfl rfl (Nat.le_of_ble_eq_true rfl) rfl (fun g hW => ?_)
          obtain ⟨sv', hM2, hv⟩ := hW
          have hM := hM.tr hM2
          refine ez_aload_n (q := 48) 0 dX8_addWorld_47 rfl rfl rfl ?_
          refine ez_getf (q := 51) dX8_addWorld_48 fl_X8_7 hM.1 rfl rfl ?_
          refine ez_iconst (v := nI 2) (q := 52) dX8_addWorld_51 (by decide) rfl ?_
          refine ez_aload_n (q := 53) 0 dX8_addWorld_52 rfl rfl rfl ?_
          refine ez_getf (q := 56) dX8_addWorld_53 fl_X8_7 hM.1 rfl rfl ?_
          refine ez_iconst (v := nI 0) (q := 57) dX8_addWorld_56 (by decide) rfl ?_
          refine ez_iald (q := 58) dX8_addWorld_57 hM.2.1 rfl (by omega) (by decide) rfl ?_
          first | refine ez_top (hn0) ?_ | refine ez_top ((up_ne _ _ (by omega)).trans hn0) ?_ | refine ez_top ((up_ne _ _ (by omega)).trans ((up_ne _ _ (by omega)).trans hn0)) ?_ | refine ez_top (up_eq _ _ _) ?_
          refine ez_iaddN (q := 59) dX8_addWorld_58 rfl ?_
          refine ez_iload_n (q := 60) 1 dX8_addWorld_59 rfl rfl rfl ?_
          refine sM_z (q := 61) dX8_addWorld_60 hM rfl (by omega) rfl (fun g hM => ?_)
          refine ez_aload_n (q := 62) 0 dX8_addWorld_61 rfl rfl rfl ?_
          refine ez_getf (q := 65) dX8_addWorld_62 fl_X8_7 hM.1 rfl rfl ?_
          refine ez_bipush (v := nI 12) (q := 67) dX8_addWorld_65 (by decide) rfl ?_
          refine ez_aload_n (q := 68) 0 dX8_addWorld_67 rfl rfl rfl ?_
          refine ez_getf (q := 71) dX8_addWorld_68 fl_X8_7 hM.1 rfl rfl ?_
          refine ez_iconst (v := nI 0) (q := 72) dX8_addWorld_71 (by decide) rfl ?_
          refine ez_iald (q := 73) dX8_addWorld_72 hM.2.1 rfl (by omega) (by decide) rfl ?_
          first | refine ez_top (hn0) ?_ | refine ez_top ((up_ne _ _ (by omega)).trans hn0) ?_ | refine ez_top ((up_ne _ _ (by omega)).trans ((up_ne _ _ (by omega)).trans hn0)) ?_ | refine ez_top (up_eq _ _ _) ?_
          refine ez_iaddN (q := 74) dX8_addWorld_73 rfl ?_
          refine ez_iconst (v := nI 0) (q := 75) dX8_addWorld_74 (by decide) rfl ?_
          refine sM_z (q := 76) dX8_addWorld_75 hM rfl (by omega) rfl (fun g hM => ?_)
          refine ez_aload_n (q := 77) 0 dX8_addWorld_76 rfl rfl rfl ?_
          refine ez_getf (q := 80) dX8_addWorld_77 fl_X8_7 hM.1 rfl rfl ?_
          refine ez_iconst (v := nI 0) (q := 81) dX8_addWorld_80 (by decide) rfl ?_
          refine ez_dup2 (q := 82) dX8_addWorld_81 rfl rfl rfl ?_
          refine ez_iald (q := 83) dX8_addWorld_82 hM.2.1 rfl (by omega) (by decide) rfl ?_
          first | refine ez_top (hn0) ?_ | refine ez_top ((up_ne _ _ (by omega)).trans hn0) ?_ | refine ez_top ((up_ne _ _ (by omega)).trans ((up_ne _ _ (by omega)).trans hn0)) ?_ | refine ez_top (up_eq _ _ _) ?_
          refine ez_iconst (v := nI 1) (q := 84) dX8_addWorld_83 (by decide) rfl ?_
          refine ez_iaddN (q := 85) dX8_addWorld_84 rfl ?_
          refine sM_z (q := 86) dX8_addWorld_85 hM rfl (by omega) rfl (fun g hM => ?_)
          refine ez_aload_n (q := 87) 0 dX8_addWorld_86 rfl rfl rfl ?_
          refine ez_getf (q := 90) dX8_addWorld_87 fl_X8_7 hM.1 rfl rfl ?_
          refine ez_iconst (v := nI 0) (q := 91) dX8_addWorld_90 (by decide) rfl ?_
          refine ez_iald (q := 92) dX8_addWorld_91 hM.2.1 rfl (by omega) (by decide) rfl ?_
          first | refine ez_top (hn0) ?_ | refine ez_top ((up_ne _ _ (by omega)).trans hn0) ?_ | refine ez_top ((up_ne _ _ (by omega)).trans ((up_ne _ _ (by omega)).trans hn0)) ?_ | refine ez_top (up_eq _ _ _) ?_
          refine ez_iconst (v := nI 1) (q := 93) dX8_addWorld_92 (by decide) rfl ?_
          refine ez_isubN (q := 94) dX8_addWorld_93 (by omega) rfl ?_
          exact ez_iret dX8_addWorld_94 rfl (hQ0 _ _ _ ⟨_, _, _, _, _, _, _, _, _, _, _, _, hM⟩ (hz.add (by omega) l) hv)
      · first
        | exact absurd hc38 (by decide)
        | skip
          refine ez_iconst (v := nI 0) (q := 42) dX8_addWorld_41 (by decide) rfl ?_
          exact ez_iret dX8_addWorld_42 rfl (hQ1 _ ⟨_, _, _, _, _, _, _, _, _, _, _, _, hM⟩)
    · have hQ1 := hQ.2 2 (by simp [cdA, hc8, hc23]) (by decide)
      clear hQ
      refine ez_iconst (v := nI 2) (q := 27) dX8_addWorld_26 (by decide) rfl ?_
      refine ez_goto (q := 31) dX8_addWorld_27 (by decide) ?_
      refine pM_th (q := 34) dX8_addWorld_31 fl_X8_37 hM rfl (fun g hM => ?_)
      refine ez_aload_n (q := 35) 0 dX8_addWorld_34 rfl rfl rfl ?_
      refine ez_getf (q := 38) dX8_addWorld_35 fl_X8_37 hM.1 rfl rfl ?_
      refine ez_ifleN (q := 41) (tgt := 43) dX8_addWorld_38 (by decide) (by decide) rfl (fun hc38 => ?_) (fun hc38 => ?_)
      · first
        | exact absurd hc38 (by decide)
        | skip
          refine ez_aload_n (q := 44) 0 dX8_addWorld_43 rfl rfl rfl ?_
          refine cX0 (q := 47) dX8_addWorld_44 ck_X8_48 hM.1 (t_X8_save hM.rb hk hv) rfl ⟨by decide, rfl⟩ rfl rfl rfl (Nat.le_of_ble_eq_true rfl) rfl (fun g hW => ?_)
          obtain ⟨sv', hM2, hv⟩ := hW
          have hM := hM.tr hM2
          refine ez_aload_n (q := 48) 0 dX8_addWorld_47 rfl rfl rfl ?_
          refine ez_getf (q := 51) dX8_addWorld_48 fl_X8_7 hM.1 rfl rfl ?_
          refine ez_iconst (v := nI 2) (q := 52) dX8_addWorld_51 (by decide) rfl ?_
          refine ez_aload_n (q := 53) 0 dX8_addWorld_52 rfl rfl rfl ?_
          refine ez_getf (q := 56) dX8_addWorld_53 fl_X8_7 hM.1 rfl rfl ?_
          refine ez_iconst (v := nI 0) (q := 57) dX8_addWorld_56 (by decide) rfl ?_
          refine ez_iald (q := 58) dX8_addWorld_57 hM.2.1 rfl (by omega) (by decide) rfl ?_
          first | refine ez_top (hn0) ?_ | refine ez_top ((up_ne _ _ (by omega)).trans hn0) ?_ | refine ez_top ((up_ne _ _ (by omega)).trans ((up_ne _ _ (by omega)).trans hn0)) ?_ | refine ez_top (up_eq _ _ _) ?_
          refine ez_iaddN (q := 59) dX8_addWorld_58 rfl ?_
          refine ez_iload_n (q := 60) 1 dX8_addWorld_59 rfl rfl rfl ?_
          refine sM_z (q := 61) dX8_addWorld_60 hM rfl (by omega) rfl (fun g hM => ?_)
          refine ez_aload_n (q := 62) 0 dX8_addWorld_61 rfl rfl rfl ?_
          refine ez_getf (q := 65) dX8_addWorld_62 fl_X8_7 hM.1 rfl rfl ?_
          refine ez_bipush (v := nI 12) (q := 67) dX8_addWorld_65 (by decide) rfl ?_
          refine ez_aload_n (q := 68) 0 dX8_addWorld_67 rfl rfl rfl ?_
          refine ez_getf (q := 71) dX8_addWorld_68 fl_X8_7 hM.1 rfl rfl ?_
          refine ez_iconst (v := nI 0) (q := 72) dX8_addWorld_71 (by decide) rfl ?_
          refine ez_iald (q := 73) dX8_addWorld_72 hM.2.1 rfl (by omega) (by decide) rfl ?_
          first | refine ez_top (hn0) ?_ | refine ez_top ((up_ne _ _ (by omega)).trans hn0) ?_ | refine ez_top ((up_ne _ _ (by omega)).trans ((up_ne _ _ (by omega)).trans hn0)) ?_ | refine ez_top (up_eq _ _ _) ?_
          refine ez_iaddN (q := 74) dX8_addWorld_73 rfl ?_
          refine ez_iconst (v := nI 0) (q := 75) dX8_addWorld_74 (by decide) rfl ?_
          refine sM_z (q := 76) dX8_addWorld_75 hM rfl (by omega) rfl (fun g hM => ?_)
          refine ez_aload_n (q := 77) 0 dX8_addWorld_76 rfl rfl rfl ?_
          refine ez_getf (q := 80) dX8_addWorld_77 fl_X8_7 hM.1 rfl rfl ?_
          refine ez_iconst (v := nI 0) (q := 81) dX8_addWorld_80 (by decide) rfl ?_
          refine ez_dup2 (q := 82) dX8_addWorld_81 rfl rfl rfl ?_
          refine ez_iald (q := 83) dX8_addWorld_82 hM.2.1 rfl (by omega) (by decide) rfl ?_
          first | refine ez_top (hn0) ?_ | refine ez_top ((up_ne _ _ (by omega)).trans hn0) ?_ | refine ez_top ((up_ne _ _ (by omega)).trans ((up_ne _ _ (by omega)).trans hn0)) ?_ | refine ez_top (up_eq _ _ _) ?_
          refine ez_iconst (v := nI 1) (q := 84) dX8_addWorld_83 (by decide) rfl ?_
          refine ez_iaddN (q := 85) dX8_addWorld_84 rfl ?_
          refine sM_z (q := 86) dX8_addWorld_85 hM rfl (by omega) rfl (fun g hM => ?_)
          refine ez_aload_n (q := 87) 0 dX8_addWorld_86 rfl rfl rfl ?_
          refine ez_getf (q := 90) dX8_addWorld_87 fl_X8_7 hM.1 rfl rfl ?_
          refine ez_iconst (v := nI 0) (q := 91) dX8_addWorld_90 (by decide) rfl ?_
          refine ez_iald (q := 92) dX8_addWorld_91 hM.2.1 rfl (by omega) (by decide) rfl ?_
          first | refine ez_top (hn0) ?_ | refine ez_top ((up_ne _ _ (by omega)).trans hn0) ?_ | refine ez_top ((up_ne _ _ (by omega)).trans ((up_ne _ _ (by omega)).trans hn0)) ?_ | refine ez_top (up_eq _ _ _) ?_
          refine ez_iconst (v := nI 1) (q := 93) dX8_addWorld_92 (by decide) rfl ?_
          refine ez_isubN (q := 94) dX8_addWorld_93 (by omega) rfl ?_
          exact ez_iret dX8_addWorld_94 rfl (hQ0 _ _ _ ⟨_, _, _, _, _, _, _, _, _, _, _, _, hM⟩ (hz.add (by omega) l) hv)
      · first
        | exact absurd hc38 (by decide)
        | skip
          refine ez_iconst (v := nI 0) (q := 42) dX8_addWorld_41 (by decide) rfl ?_
          exact ez_iret dX8_addWorld_42 rfl (hQ1 _ ⟨_, _, _, _, _, _, _, _, _, _, _, _, hM⟩)
  · have hQ1 := hQ.2 1 (by simp [cdA, hc8]) (by decide)
    clear hQ
    refine ez_iconst (v := nI 1) (q := 12) dX8_addWorld_11 (by decide) rfl ?_
    refine ez_goto (q := 31) dX8_addWorld_12 (by decide) ?_
    refine pM_th (q := 34) dX8_addWorld_31 fl_X8_37 hM rfl (fun g hM => ?_)
    refine ez_aload_n (q := 35) 0 dX8_addWorld_34 rfl rfl rfl ?_
    refine ez_getf (q := 38) dX8_addWorld_35 fl_X8_37 hM.1 rfl rfl ?_
    refine ez_ifleN (q := 41) (tgt := 43) dX8_addWorld_38 (by decide) (by decide) rfl (fun hc38 => ?_) (fun hc38 => ?_)
    · first
      | exact absurd hc38 (by decide)
      | skip
        refine ez_aload_n (q := 44) 0 dX8_addWorld_43 rfl rfl rfl ?_
        refine cX0 (q := 47) dX8_addWorld_44 ck_X8_48 hM.1 (t_X8_save hM.rb hk hv) rfl ⟨by decide, rfl⟩ rfl rfl rfl (Nat.le_of_ble_eq_true rfl) rfl (fun g hW => ?_)
        obtain ⟨sv', hM2, hv⟩ := hW
        have hM := hM.tr hM2
        refine ez_aload_n (q := 48) 0 dX8_addWorld_47 rfl rfl rfl ?_
        refine ez_getf (q := 51) dX8_addWorld_48 fl_X8_7 hM.1 rfl rfl ?_
        refine ez_iconst (v := nI 2) (q := 52) dX8_addWorld_51 (by decide) rfl ?_
        refine ez_aload_n (q := 53) 0 dX8_addWorld_52 rfl rfl rfl ?_
        refine ez_getf (q := 56) dX8_addWorld_53 fl_X8_7 hM.1 rfl rfl ?_
        refine ez_iconst (v := nI 0) (q := 57) dX8_addWorld_56 (by decide) rfl ?_
        refine ez_iald (q := 58) dX8_addWorld_57 hM.2.1 rfl (by omega) (by decide) rfl ?_
        first | refine ez_top (hn0) ?_ | refine ez_top ((up_ne _ _ (by omega)).trans hn0) ?_ | refine ez_top ((up_ne _ _ (by omega)).trans ((up_ne _ _ (by omega)).trans hn0)) ?_ | refine ez_top (up_eq _ _ _) ?_
        refine ez_iaddN (q := 59) dX8_addWorld_58 rfl ?_
        refine ez_iload_n (q := 60) 1 dX8_addWorld_59 rfl rfl rfl ?_
        refine sM_z (q := 61) dX8_addWorld_60 hM rfl (by omega) rfl (fun g hM => ?_)
        refine ez_aload_n (q := 62) 0 dX8_addWorld_61 rfl rfl rfl ?_
        refine ez_getf (q := 65) dX8_addWorld_62 fl_X8_7 hM.1 rfl rfl ?_
        refine ez_bipush (v := nI 12) (q := 67) dX8_addWorld_65 (by decide) rfl ?_
        refine ez_aload_n (q := 68) 0 dX8_addWorld_67 rfl rfl rfl ?_
        refine ez_getf (q := 71) dX8_addWorld_68 fl_X8_7 hM.1 rfl rfl ?_
        refine ez_iconst (v := nI 0) (q := 72) dX8_addWorld_71 (by decide) rfl ?_
        refine ez_iald (q := 73) dX8_addWorld_72 hM.2.1 rfl (by omega) (by decide) rfl ?_
        first | refine ez_top (hn0) ?_ | refine ez_top ((up_ne _ _ (by omega)).trans hn0) ?_ | refine ez_top ((up_ne _ _ (by omega)).trans ((up_ne _ _ (by omega)).trans hn0)) ?_ | refine ez_top (up_eq _ _ _) ?_
        refine ez_iaddN (q := 74) dX8_addWorld_73 rfl ?_
        refine ez_iconst (v := nI 0) (q := 75) dX8_addWorld_74 (by decide) rfl ?_
        refine sM_z (q := 76) dX8_addWorld_75 hM rfl (by omega) rfl (fun g hM => ?_)
        refine ez_aload_n (q := 77) 0 dX8_addWorld_76 rfl rfl rfl ?_
        refine ez_getf (q := 80) dX8_addWorld_77 fl_X8_7 hM.1 rfl rfl ?_
        refine ez_iconst (v := nI 0) (q := 81) dX8_addWorld_80 (by decide) rfl ?_
        refine ez_dup2 (q := 82) dX8_addWorld_81 rfl rfl rfl ?_
        refine ez_iald (q := 83) dX8_addWorld_82 hM.2.1 rfl (by omega) (by decide) rfl ?_
        first | refine ez_top (hn0) ?_ | refine ez_top ((up_ne _ _ (by omega)).trans hn0) ?_ | refine ez_top ((up_ne _ _ (by omega)).trans ((up_ne _ _ (by omega)).trans hn0)) ?_ | refine ez_top (up_eq _ _ _) ?_
        refine ez_iconst (v := nI 1) (q := 84) dX8_addWorld_83 (by decide) rfl ?_
        refine ez_iaddN (q := 85) dX8_addWorld_84 rfl ?_
        refine sM_z (q := 86) dX8_addWorld_85 hM rfl (by omega) rfl (fun g hM => ?_)
        refine ez_aload_n (q := 87) 0 dX8_addWorld_86 rfl rfl rfl ?_
        refine ez_getf (q := 90) dX8_addWorld_87 fl_X8_7 hM.1 rfl rfl ?_
        refine ez_iconst (v := nI 0) (q := 91) dX8_addWorld_90 (by decide) rfl ?_
        refine ez_iald (q := 92) dX8_addWorld_91 hM.2.1 rfl (by omega) (by decide) rfl ?_
        first | refine ez_top (hn0) ?_ | refine ez_top ((up_ne _ _ (by omega)).trans hn0) ?_ | refine ez_top ((up_ne _ _ (by omega)).trans ((up_ne _ _ (by omega)).trans hn0)) ?_ | refine ez_top (up_eq _ _ _) ?_
        refine ez_iconst (v := nI 1) (q := 93) dX8_addWorld_92 (by decide) rfl ?_
        refine ez_isubN (q := 94) dX8_addWorld_93 (by omega) rfl ?_
        exact ez_iret dX8_addWorld_94 rfl (hQ0 _ _ _ ⟨_, _, _, _, _, _, _, _, _, _, _, _, hM⟩ (hz.add (by omega) l) hv)
    · first
      | exact absurd hc38 (by decide)
      | skip
        refine ez_iconst (v := nI 0) (q := 42) dX8_addWorld_41 (by decide) rfl ?_
        exact ez_iret dX8_addWorld_42 rfl (hQ1 _ ⟨_, _, _, _, _, _, _, _, _, _, _, _, hM⟩)

def cdR (n : Nat) (w : Int32) : Nat := if inB w 0 (n - 1) = true then 0 else 1

set_option maxHeartbeats 800000 in
set_option maxRecDepth 100000 in
theorem t_X8_removeWorld {G : ez_G} {d n : Nat} {h : ez_H} {n' f : Nat} {L T ln : Nat → Nat} {sg : Nat → Nat → Nat} {w : Int32} {k r : Nat} {zs : Nat → Nat → Int32} {th ty wa rm fm ff : Int32} {z sv bf se ro le de rw sp : Nat → Int32} {ww : Bool} {ha : Int64} (hM : IM h h th z sv (nI k) bf ty (nI r) se ro le de wa ww rw rm sp fm ff ha) (hz : ZZ z n' f L T ln sg) (ho : OK n' f L T ln sg) (hk : k ≤ 6) (hv : SVD sv k zs) : Con G mX8_removeWorld (d + 5) [.ref 64, .int w] h n 0 0 (PW n (some (.int (aW (cdR n' w) (nI (n' - 1))))) (fun g => (cdR n' w = 0 → ∃ z' sv' : Nat → Int32, MB h g (nI 0) z' sv' (nI (svk k)) bf ty ha ∧ ZZ z' (n' - 1) f (outN L (nn w)) (lesN T (nn w)) ln sg ∧ SVD sv' (svk k) (pushZ zs k z)) ∧ (¬ cdR n' w = 0 → MB h g (nI (cdR n' w)) z sv (nI k) bf ty ha))) := by
  have hn := ho.1
  have hn0 := hz.1
  refine Con.of [some (.ref 64), some (.int w), none] pl_X8 rfl (Nat.le_of_ble_eq_true rfl) rfl ?_
  have hQ : (cdR n' w = 0 → ∀ g (z' sv' : Nat → Int32), MB h g (nI 0) z' sv' (nI (svk k)) bf ty ha → ZZ z' (n' - 1) f (outN L (nn w)) (lesN T (nn w)) ln sg → SVD sv' (svk k) (pushZ zs k z) → (PW n (some (.int (aW (cdR n' w) (nI (n' - 1))))) (fun g => (cdR n' w = 0 → ∃ z' sv' : Nat → Int32, MB h g (nI 0) z' sv' (nI (svk k)) bf ty ha ∧ ZZ z' (n' - 1) f (outN L (nn w)) (lesN T (nn w)) ln sg ∧ SVD sv' (svk k) (pushZ zs k z)) ∧ (¬ cdR n' w = 0 → MB h g (nI (cdR n' w)) z sv (nI k) bf ty ha))) (.inl (some (.int (nI (n' - 1))))) g n) ∧ (∀ c, cdR n' w = c → c ≠ 0 → ∀ g, MB h g (nI c) z sv (nI k) bf ty ha → (PW n (some (.int (aW (cdR n' w) (nI (n' - 1))))) (fun g => (cdR n' w = 0 → ∃ z' sv' : Nat → Int32, MB h g (nI 0) z' sv' (nI (svk k)) bf ty ha ∧ ZZ z' (n' - 1) f (outN L (nn w)) (lesN T (nn w)) ln sg ∧ SVD sv' (svk k) (pushZ zs k z)) ∧ (¬ cdR n' w = 0 → MB h g (nI (cdR n' w)) z sv (nI k) bf ty ha))) (.inl (some (.int (nI 0)))) g n) := ⟨fun e g z' sv' h1 h2 h3 => ⟨by rw [aW, if_pos e], ⟨fun _ => ⟨z', sv', h1, h2, h3⟩, fun a => absurd e a⟩, rfl⟩, fun c hc e g h1 => ⟨by rw [aW, if_neg (by omega)]; rfl, ⟨fun a => absurd a (by omega), fun _ => by rw [hc]; exact h1⟩, rfl⟩⟩
  generalize PW n (some (.int (aW (cdR n' w) (nI (n' - 1))))) (fun g => (cdR n' w = 0 → ∃ z' sv' : Nat → Int32, MB h g (nI 0) z' sv' (nI (svk k)) bf ty ha ∧ ZZ z' (n' - 1) f (outN L (nn w)) (lesN T (nn w)) ln sg ∧ SVD sv' (svk k) (pushZ zs k z)) ∧ (¬ cdR n' w = 0 → MB h g (nI (cdR n' w)) z sv (nI k) bf ty ha)) = Q at hQ ⊢
  refine ez_aload_n (q := 1) 0 dX8_removeWorld_0 rfl rfl rfl ?_
  refine ez_aload_n (q := 2) 0 dX8_removeWorld_1 rfl rfl rfl ?_
  refine ez_iload_n (q := 3) 1 dX8_removeWorld_2 rfl rfl rfl ?_
  refine cMv (q := 6) dX8_removeWorld_3 ck_X8_51 hM (t_X8_isWorld hM.rb hz ho) rfl rfl rfl rfl rfl (Nat.le_of_ble_eq_true rfl) rfl (fun g hM => ?_)
  refine ez_ifeqB (q := 9) (tgt := 13) dX8_removeWorld_6 (by decide) rfl (fun hc6 => ?_) (fun hc6 => ?_)
  · have hQ1 := hQ.2 1 (by simp [cdR, hc6]) (by decide)
    clear hQ
    refine ez_iconst (v := nI 1) (q := 14) dX8_removeWorld_13 (by decide) rfl ?_
    refine pM_th (q := 17) dX8_removeWorld_14 fl_X8_37 hM rfl (fun g hM => ?_)
    refine ez_aload_n (q := 18) 0 dX8_removeWorld_17 rfl rfl rfl ?_
    refine ez_getf (q := 21) dX8_removeWorld_18 fl_X8_37 hM.1 rfl rfl ?_
    refine ez_ifleN (q := 24) (tgt := 26) dX8_removeWorld_21 (by decide) (by decide) rfl (fun hc21 => ?_) (fun hc21 => ?_)
    · first
      | exact absurd hc21 (by decide)
      | skip
        refine ez_aload_n (q := 27) 0 dX8_removeWorld_26 rfl rfl rfl ?_
        refine cX0 (q := 30) dX8_removeWorld_27 ck_X8_48 hM.1 (t_X8_save hM.rb hk hv) rfl ⟨by decide, rfl⟩ rfl rfl rfl (Nat.le_of_ble_eq_true rfl) rfl (fun g hW => ?_)
        obtain ⟨sv', hM2, hv⟩ := hW
        have hM := hM.tr hM2
        refine ez_aload_n (q := 31) 0 dX8_removeWorld_30 rfl rfl rfl ?_
        refine ez_getf (q := 34) dX8_removeWorld_31 fl_X8_7 hM.1 rfl rfl ?_
        refine ez_iconst (v := nI 0) (q := 35) dX8_removeWorld_34 (by decide) rfl ?_
        refine ez_dup2 (q := 36) dX8_removeWorld_35 rfl rfl rfl ?_
        refine ez_iald (q := 37) dX8_removeWorld_36 hM.2.1 rfl (by omega) (by decide) rfl ?_
        refine ez_top (hn0) ?_
        refine ez_iconst (v := nI 1) (q := 38) dX8_removeWorld_37 (by decide) rfl ?_
        refine ez_isubN (q := 39) dX8_removeWorld_38 (by omega) rfl ?_
        refine sM_z (q := 40) dX8_removeWorld_39 hM rfl (by omega) rfl (fun g hM => ?_)
        refine ez_iload_n (q := 41) 1 dX8_removeWorld_40 rfl rfl rfl ?_
        refine ez_istore_2 (q := 42) dX8_removeWorld_41 rfl (by decide) rfl rfl ?_
        refine ez_loop (α := Nat) (fun i => n' - i) (P := fun i => ∀ (g : ez_H) (y : Nat → Int32), IM h g (nI 0) y sv' (nI (svk k)) bf ty (nI r) se ro le de wa ww rw rm sp fm ff ha → (w ≤ i) → (i ≤ n' - 1) → (RM z y n' w L T i) → E G mX8_removeWorld (d + 5) Q g n 0 0 42 [some (.ref 64), some (.int (nI w)), some (.int (nI i))] []) ?_ w g _ hM (Nat.le_refl _) (by omega) (RM.init hz hn (by omega))
        intro i ih42 g y hM hi hi2 hr
        refine ez_iload_n (q := 43) 2 dX8_removeWorld_42 rfl rfl rfl ?_
        refine ez_aload_n (q := 44) 0 dX8_removeWorld_43 rfl rfl rfl ?_
        refine ez_getf (q := 47) dX8_removeWorld_44 fl_X8_7 hM.1 rfl rfl ?_
        refine ez_iconst (v := nI 0) (q := 48) dX8_removeWorld_47 (by decide) rfl ?_
        refine ez_iald (q := 49) dX8_removeWorld_48 hM.2.1 rfl (by omega) (by decide) rfl ?_
        refine ez_top (hr.1) ?_
        refine ez_icmpgeN (q := 52) (tgt := 96) dX8_removeWorld_49 (by decide) (by omega) (by omega) rfl (fun hc49 => ?_) (fun hc49 => ?_)
        · refine ez_aload_n (q := 97) 0 dX8_removeWorld_96 rfl rfl rfl ?_
          refine ez_getf (q := 100) dX8_removeWorld_97 fl_X8_7 hM.1 rfl rfl ?_
          refine ez_iconst (v := nI 2) (q := 101) dX8_removeWorld_100 (by decide) rfl ?_
          refine ez_aload_n (q := 102) 0 dX8_removeWorld_101 rfl rfl rfl ?_
          refine ez_getf (q := 105) dX8_removeWorld_102 fl_X8_7 hM.1 rfl rfl ?_
          refine ez_iconst (v := nI 0) (q := 106) dX8_removeWorld_105 (by decide) rfl ?_
          refine ez_iald (q := 107) dX8_removeWorld_106 hM.2.1 rfl (by omega) (by decide) rfl ?_
          refine ez_top (hr.1) ?_
          refine ez_iaddN (q := 108) dX8_removeWorld_107 rfl ?_
          refine ez_iconst (v := nI 0) (q := 109) dX8_removeWorld_108 (by decide) rfl ?_
          refine sM_z (q := 110) dX8_removeWorld_109 hM rfl (by omega) rfl (fun g hM => ?_)
          refine ez_aload_n (q := 111) 0 dX8_removeWorld_110 rfl rfl rfl ?_
          refine ez_getf (q := 114) dX8_removeWorld_111 fl_X8_7 hM.1 rfl rfl ?_
          refine ez_bipush (v := nI 12) (q := 116) dX8_removeWorld_114 (by decide) rfl ?_
          refine ez_aload_n (q := 117) 0 dX8_removeWorld_116 rfl rfl rfl ?_
          refine ez_getf (q := 120) dX8_removeWorld_117 fl_X8_7 hM.1 rfl rfl ?_
          refine ez_iconst (v := nI 0) (q := 121) dX8_removeWorld_120 (by decide) rfl ?_
          refine ez_iald (q := 122) dX8_removeWorld_121 hM.2.1 rfl (by omega) (by decide) rfl ?_
          refine ez_top ((up_ne _ _ (by omega)).trans hr.1) ?_
          refine ez_iaddN (q := 123) dX8_removeWorld_122 rfl ?_
          refine ez_iconst (v := nI 0) (q := 124) dX8_removeWorld_123 (by decide) rfl ?_
          refine sM_z (q := 125) dX8_removeWorld_124 hM rfl (by omega) rfl (fun g hM => ?_)
          refine ez_iconst (v := nI 0) (q := 126) dX8_removeWorld_125 (by decide) rfl ?_
          refine ez_istore_2 (q := 127) dX8_removeWorld_126 rfl (by decide) rfl rfl ?_
          refine ez_loop (α := Nat) (fun i => n' - i) (P := fun i => ∀ (g : ez_H) (y : Nat → Int32), IM h g (nI 0) y sv' (nI (svk k)) bf ty (nI r) se ro le de wa ww rw rm sp fm ff ha → (i ≤ n' - 1) → (RV z y n' w L T i) → E G mX8_removeWorld (d + 5) Q g n 0 0 127 [some (.ref 64), some (.int (nI w)), some (.int (nI i))] []) ?_ 0 g _ hM (by omega) (by rw [show i = n' - 1 from by omega] at hr; exact hr.less hn (by omega))
          intro i ih127 g y hM hi2 hr
          refine ez_iload_n (q := 128) 2 dX8_removeWorld_127 rfl rfl rfl ?_
          refine ez_aload_n (q := 129) 0 dX8_removeWorld_128 rfl rfl rfl ?_
          refine ez_getf (q := 132) dX8_removeWorld_129 fl_X8_7 hM.1 rfl rfl ?_
          refine ez_iconst (v := nI 0) (q := 133) dX8_removeWorld_132 (by decide) rfl ?_
          refine ez_iald (q := 134) dX8_removeWorld_133 hM.2.1 rfl (by omega) (by decide) rfl ?_
          refine ez_top (hr.1) ?_
          refine ez_icmpgeN (q := 137) (tgt := 165) dX8_removeWorld_134 (by decide) (by omega) (by omega) rfl (fun hc134 => ?_) (fun hc134 => ?_)
          · refine ez_aload_n (q := 166) 0 dX8_removeWorld_165 rfl rfl rfl ?_
            refine ez_getf (q := 169) dX8_removeWorld_166 fl_X8_7 hM.1 rfl rfl ?_
            refine ez_iconst (v := nI 0) (q := 170) dX8_removeWorld_169 (by decide) rfl ?_
            refine ez_iald (q := 171) dX8_removeWorld_170 hM.2.1 rfl (by omega) (by decide) rfl ?_
            refine ez_top (hr.1) ?_
            exact ez_iret dX8_removeWorld_171 rfl (by rw [show i = n' - 1 from by omega] at hr; exact hQ0 _ _ _ ⟨_, _, _, _, _, _, _, _, _, _, _, _, hM⟩ (hr.done hz hn) hv)
          · refine ez_aload_n (q := 138) 0 dX8_removeWorld_137 rfl rfl rfl ?_
            refine ez_getf (q := 141) dX8_removeWorld_138 fl_X8_7 hM.1 rfl rfl ?_
            refine ez_bipush (v := nI 12) (q := 143) dX8_removeWorld_141 (by decide) rfl ?_
            refine ez_iload_n (q := 144) 2 dX8_removeWorld_143 rfl rfl rfl ?_
            refine ez_iaddN (q := 145) dX8_removeWorld_144 rfl ?_
            refine ez_aload_n (q := 146) 0 dX8_removeWorld_145 rfl rfl rfl ?_
            refine ez_getf (q := 149) dX8_removeWorld_146 fl_X8_7 hM.1 rfl rfl ?_
            refine ez_bipush (v := nI 12) (q := 151) dX8_removeWorld_149 (by decide) rfl ?_
            refine ez_iload_n (q := 152) 2 dX8_removeWorld_151 rfl rfl rfl ?_
            refine ez_iaddN (q := 153) dX8_removeWorld_152 rfl ?_
            refine ez_iald (q := 154) dX8_removeWorld_153 hM.2.1 rfl (by omega) (by decide) rfl ?_
            refine ez_top (hr.2.2.2.1 i (Nat.le_refl i) hc134) ?_
            refine ez_iload_n (q := 155) 1 dX8_removeWorld_154 rfl rfl rfl ?_
            refine cUv (q := 158) dX8_removeWorld_155 ck_X8_55 (t_X8_less (Nat.lt_of_lt_of_le (show outN T w i < 2 ^ n' from by rw [outN]; split; { exact ho.2.2.2.1 i (by omega) }; { exact ho.2.2.2.1 (i + 1) (by omega) }) (p10 (Nat.le_refl _) hn)) (by omega)) rfl rfl rfl (Nat.le_of_ble_eq_true rfl) rfl ?_
            refine sM_z (q := 159) dX8_removeWorld_158 hM rfl (by omega) rfl (fun g hM => ?_)
            refine ez_iincN_2 (q := 162) dX8_removeWorld_159 (by decide) rfl rfl ?_
            refine ez_goto (q := 127) dX8_removeWorld_162 (by decide) ?_
            exact E.fg (ih127 (i + 1) (by omega) g _ hM (by omega) (hr.step hn hc134)) ⟨Or.inr (rfl), Or.inr (rfl), Or.inr (rfl), trivial⟩
        · refine ez_aload_n (q := 53) 0 dX8_removeWorld_52 rfl rfl rfl ?_
          refine ez_getf (q := 56) dX8_removeWorld_53 fl_X8_7 hM.1 rfl rfl ?_
          refine ez_iconst (v := nI 2) (q := 57) dX8_removeWorld_56 (by decide) rfl ?_
          refine ez_iload_n (q := 58) 2 dX8_removeWorld_57 rfl rfl rfl ?_
          refine ez_iaddN (q := 59) dX8_removeWorld_58 rfl ?_
          refine ez_aload_n (q := 60) 0 dX8_removeWorld_59 rfl rfl rfl ?_
          refine ez_getf (q := 63) dX8_removeWorld_60 fl_X8_7 hM.1 rfl rfl ?_
          refine ez_iconst (v := nI 2) (q := 64) dX8_removeWorld_63 (by decide) rfl ?_
          refine ez_iload_n (q := 65) 2 dX8_removeWorld_64 rfl rfl rfl ?_
          refine ez_iaddN (q := 66) dX8_removeWorld_65 rfl ?_
          refine ez_iconst (v := nI 1) (q := 67) dX8_removeWorld_66 (by decide) rfl ?_
          refine ez_iaddN (q := 68) dX8_removeWorld_67 rfl ?_
          refine ez_iald (q := 69) dX8_removeWorld_68 hM.2.1 rfl (by omega) (by decide) rfl ?_
          refine ez_top (hr.2.2.1 (i + 1) (by omega) (by omega)) ?_
          refine sM_z (q := 70) dX8_removeWorld_69 hM rfl (by omega) rfl (fun g hM => ?_)
          refine ez_aload_n (q := 71) 0 dX8_removeWorld_70 rfl rfl rfl ?_
          refine ez_getf (q := 74) dX8_removeWorld_71 fl_X8_7 hM.1 rfl rfl ?_
          refine ez_bipush (v := nI 12) (q := 76) dX8_removeWorld_74 (by decide) rfl ?_
          refine ez_iload_n (q := 77) 2 dX8_removeWorld_76 rfl rfl rfl ?_
          refine ez_iaddN (q := 78) dX8_removeWorld_77 rfl ?_
          refine ez_aload_n (q := 79) 0 dX8_removeWorld_78 rfl rfl rfl ?_
          refine ez_getf (q := 82) dX8_removeWorld_79 fl_X8_7 hM.1 rfl rfl ?_
          refine ez_bipush (v := nI 12) (q := 84) dX8_removeWorld_82 (by decide) rfl ?_
          refine ez_iload_n (q := 85) 2 dX8_removeWorld_84 rfl rfl rfl ?_
          refine ez_iaddN (q := 86) dX8_removeWorld_85 rfl ?_
          refine ez_iconst (v := nI 1) (q := 87) dX8_removeWorld_86 (by decide) rfl ?_
          refine ez_iaddN (q := 88) dX8_removeWorld_87 rfl ?_
          refine ez_iald (q := 89) dX8_removeWorld_88 hM.2.1 rfl (by omega) (by decide) rfl ?_
          refine ez_top ((up_ne _ _ (by omega)).trans (hr.2.2.2.2.1 (i + 1) (by omega) (by omega))) ?_
          refine sM_z (q := 90) dX8_removeWorld_89 hM rfl (by omega) rfl (fun g hM => ?_)
          refine ez_iincN_2 (q := 93) dX8_removeWorld_90 (by decide) rfl rfl ?_
          refine ez_goto (q := 42) dX8_removeWorld_93 (by decide) ?_
          exact E.fg (ih42 (i + 1) (by omega) g _ hM (by omega) (by omega) (hr.step hn hi hc49)) ⟨Or.inr (rfl), Or.inr (rfl), Or.inr (rfl), trivial⟩
    · first
      | exact absurd hc21 (by decide)
      | skip
        refine ez_iconst (v := nI 0) (q := 25) dX8_removeWorld_24 (by decide) rfl ?_
        exact ez_iret dX8_removeWorld_25 rfl (hQ1 _ ⟨_, _, _, _, _, _, _, _, _, _, _, _, hM⟩)
  · have hQ0 := hQ.1 (by simp [cdR, hc6])
    clear hQ
    obtain ⟨w, rfl, hw, hw2⟩ := inB_nat hc6
    rw [nn_nI hw2] at hQ0
    refine ez_iconst (v := nI 0) (q := 10) dX8_removeWorld_9 (by decide) rfl ?_
    refine ez_goto (q := 14) dX8_removeWorld_10 (by decide) ?_
    refine pM_th (q := 17) dX8_removeWorld_14 fl_X8_37 hM rfl (fun g hM => ?_)
    refine ez_aload_n (q := 18) 0 dX8_removeWorld_17 rfl rfl rfl ?_
    refine ez_getf (q := 21) dX8_removeWorld_18 fl_X8_37 hM.1 rfl rfl ?_
    refine ez_ifleN (q := 24) (tgt := 26) dX8_removeWorld_21 (by decide) (by decide) rfl (fun hc21 => ?_) (fun hc21 => ?_)
    · first
      | exact absurd hc21 (by decide)
      | skip
        refine ez_aload_n (q := 27) 0 dX8_removeWorld_26 rfl rfl rfl ?_
        refine cX0 (q := 30) dX8_removeWorld_27 ck_X8_48 hM.1 (t_X8_save hM.rb hk hv) rfl ⟨by decide, rfl⟩ rfl rfl rfl (Nat.le_of_ble_eq_true rfl) rfl (fun g hW => ?_)
        obtain ⟨sv', hM2, hv⟩ := hW
        have hM := hM.tr hM2
        refine ez_aload_n (q := 31) 0 dX8_removeWorld_30 rfl rfl rfl ?_
        refine ez_getf (q := 34) dX8_removeWorld_31 fl_X8_7 hM.1 rfl rfl ?_
        refine ez_iconst (v := nI 0) (q := 35) dX8_removeWorld_34 (by decide) rfl ?_
        refine ez_dup2 (q := 36) dX8_removeWorld_35 rfl rfl rfl ?_
        refine ez_iald (q := 37) dX8_removeWorld_36 hM.2.1 rfl (by omega) (by decide) rfl ?_
        refine ez_top (hn0) ?_
        refine ez_iconst (v := nI 1) (q := 38) dX8_removeWorld_37 (by decide) rfl ?_
        refine ez_isubN (q := 39) dX8_removeWorld_38 (by omega) rfl ?_
        refine sM_z (q := 40) dX8_removeWorld_39 hM rfl (by omega) rfl (fun g hM => ?_)
        refine ez_iload_n (q := 41) 1 dX8_removeWorld_40 rfl rfl rfl ?_
        refine ez_istore_2 (q := 42) dX8_removeWorld_41 rfl (by decide) rfl rfl ?_
        refine ez_loop (α := Nat) (fun i => n' - i) (P := fun i => ∀ (g : ez_H) (y : Nat → Int32), IM h g (nI 0) y sv' (nI (svk k)) bf ty (nI r) se ro le de wa ww rw rm sp fm ff ha → (w ≤ i) → (i ≤ n' - 1) → (RM z y n' w L T i) → E G mX8_removeWorld (d + 5) Q g n 0 0 42 [some (.ref 64), some (.int (nI w)), some (.int (nI i))] []) ?_ w g _ hM (Nat.le_refl _) (by omega) (RM.init hz hn (by omega))
        intro i ih42 g y hM hi hi2 hr
        refine ez_iload_n (q := 43) 2 dX8_removeWorld_42 rfl rfl rfl ?_
        refine ez_aload_n (q := 44) 0 dX8_removeWorld_43 rfl rfl rfl ?_
        refine ez_getf (q := 47) dX8_removeWorld_44 fl_X8_7 hM.1 rfl rfl ?_
        refine ez_iconst (v := nI 0) (q := 48) dX8_removeWorld_47 (by decide) rfl ?_
        refine ez_iald (q := 49) dX8_removeWorld_48 hM.2.1 rfl (by omega) (by decide) rfl ?_
        refine ez_top (hr.1) ?_
        refine ez_icmpgeN (q := 52) (tgt := 96) dX8_removeWorld_49 (by decide) (by omega) (by omega) rfl (fun hc49 => ?_) (fun hc49 => ?_)
        · refine ez_aload_n (q := 97) 0 dX8_removeWorld_96 rfl rfl rfl ?_
          refine ez_getf (q := 100) dX8_removeWorld_97 fl_X8_7 hM.1 rfl rfl ?_
          refine ez_iconst (v := nI 2) (q := 101) dX8_removeWorld_100 (by decide) rfl ?_
          refine ez_aload_n (q := 102) 0 dX8_removeWorld_101 rfl rfl rfl ?_
          refine ez_getf (q := 105) dX8_removeWorld_102 fl_X8_7 hM.1 rfl rfl ?_
          refine ez_iconst (v := nI 0) (q := 106) dX8_removeWorld_105 (by decide) rfl ?_
          refine ez_iald (q := 107) dX8_removeWorld_106 hM.2.1 rfl (by omega) (by decide) rfl ?_
          refine ez_top (hr.1) ?_
          refine ez_iaddN (q := 108) dX8_removeWorld_107 rfl ?_
          refine ez_iconst (v := nI 0) (q := 109) dX8_removeWorld_108 (by decide) rfl ?_
          refine sM_z (q := 110) dX8_removeWorld_109 hM rfl (by omega) rfl (fun g hM => ?_)
          refine ez_aload_n (q := 111) 0 dX8_removeWorld_110 rfl rfl rfl ?_
          refine ez_getf (q := 114) dX8_removeWorld_111 fl_X8_7 hM.1 rfl rfl ?_
          refine ez_bipush (v := nI 12) (q := 116) dX8_removeWorld_114 (by decide) rfl ?_
          refine ez_aload_n (q := 117) 0 dX8_removeWorld_116 rfl rfl rfl ?_
          refine ez_getf (q := 120) dX8_removeWorld_117 fl_X8_7 hM.1 rfl rfl ?_
          refine ez_iconst (v := nI 0) (q := 121) dX8_removeWorld_120 (by decide) rfl ?_
          refine ez_iald (q := 122) dX8_removeWorld_121 hM.2.1 rfl (by omega) (by decide) rfl ?_
          refine ez_top ((up_ne _ _ (by omega)).trans hr.1) ?_
          refine ez_iaddN (q := 123) dX8_removeWorld_122 rfl ?_
          refine ez_iconst (v := nI 0) (q := 124) dX8_removeWorld_123 (by decide) rfl ?_
          refine sM_z (q := 125) dX8_removeWorld_124 hM rfl (by omega) rfl (fun g hM => ?_)
          refine ez_iconst (v := nI 0) (q := 126) dX8_removeWorld_125 (by decide) rfl ?_
          refine ez_istore_2 (q := 127) dX8_removeWorld_126 rfl (by decide) rfl rfl ?_
          refine ez_loop (α := Nat) (fun i => n' - i) (P := fun i => ∀ (g : ez_H) (y : Nat → Int32), IM h g (nI 0) y sv' (nI (svk k)) bf ty (nI r) se ro le de wa ww rw rm sp fm ff ha → (i ≤ n' - 1) → (RV z y n' w L T i) → E G mX8_removeWorld (d + 5) Q g n 0 0 127 [some (.ref 64), some (.int (nI w)), some (.int (nI i))] []) ?_ 0 g _ hM (by omega) (by rw [show i = n' - 1 from by omega] at hr; exact hr.less hn (by omega))
          intro i ih127 g y hM hi2 hr
          refine ez_iload_n (q := 128) 2 dX8_removeWorld_127 rfl rfl rfl ?_
          refine ez_aload_n (q := 129) 0 dX8_removeWorld_128 rfl rfl rfl ?_
          refine ez_getf (q := 132) dX8_removeWorld_129 fl_X8_7 hM.1 rfl rfl ?_
          refine ez_iconst (v := nI 0) (q := 133) dX8_removeWorld_132 (by decide) rfl ?_
          refine ez_iald (q := 134) dX8_removeWorld_133 hM.2.1 rfl (by omega) (by decide) rfl ?_
          refine ez_top (hr.1) ?_
          refine ez_icmpgeN (q := 137) (tgt := 165) dX8_removeWorld_134 (by decide) (by omega) (by omega) rfl (fun hc134 => ?_) (fun hc134 => ?_)
          · refine ez_aload_n (q := 166) 0 dX8_removeWorld_165 rfl rfl rfl ?_
            refine ez_getf (q := 169) dX8_removeWorld_166 fl_X8_7 hM.1 rfl rfl ?_
            refine ez_iconst (v := nI 0) (q := 170) dX8_removeWorld_169 (by decide) rfl ?_
            refine ez_iald (q := 171) dX8_removeWorld_170 hM.2.1 rfl (by omega) (by decide) rfl ?_
            refine ez_top (hr.1) ?_
            exact ez_iret dX8_removeWorld_171 rfl (by rw [show i = n' - 1 from by omega] at hr; exact hQ0 _ _ _ ⟨_, _, _, _, _, _, _, _, _, _, _, _, hM⟩ (hr.done hz hn) hv)
          · refine ez_aload_n (q := 138) 0 dX8_removeWorld_137 rfl rfl rfl ?_
            refine ez_getf (q := 141) dX8_removeWorld_138 fl_X8_7 hM.1 rfl rfl ?_
            refine ez_bipush (v := nI 12) (q := 143) dX8_removeWorld_141 (by decide) rfl ?_
            refine ez_iload_n (q := 144) 2 dX8_removeWorld_143 rfl rfl rfl ?_
            refine ez_iaddN (q := 145) dX8_removeWorld_144 rfl ?_
            refine ez_aload_n (q := 146) 0 dX8_removeWorld_145 rfl rfl rfl ?_
            refine ez_getf (q := 149) dX8_removeWorld_146 fl_X8_7 hM.1 rfl rfl ?_
            refine ez_bipush (v := nI 12) (q := 151) dX8_removeWorld_149 (by decide) rfl ?_
            refine ez_iload_n (q := 152) 2 dX8_removeWorld_151 rfl rfl rfl ?_
            refine ez_iaddN (q := 153) dX8_removeWorld_152 rfl ?_
            refine ez_iald (q := 154) dX8_removeWorld_153 hM.2.1 rfl (by omega) (by decide) rfl ?_
            refine ez_top (hr.2.2.2.1 i (Nat.le_refl i) hc134) ?_
            refine ez_iload_n (q := 155) 1 dX8_removeWorld_154 rfl rfl rfl ?_
            refine cUv (q := 158) dX8_removeWorld_155 ck_X8_55 (t_X8_less (Nat.lt_of_lt_of_le (show outN T w i < 2 ^ n' from by rw [outN]; split; { exact ho.2.2.2.1 i (by omega) }; { exact ho.2.2.2.1 (i + 1) (by omega) }) (p10 (Nat.le_refl _) hn)) (by omega)) rfl rfl rfl (Nat.le_of_ble_eq_true rfl) rfl ?_
            refine sM_z (q := 159) dX8_removeWorld_158 hM rfl (by omega) rfl (fun g hM => ?_)
            refine ez_iincN_2 (q := 162) dX8_removeWorld_159 (by decide) rfl rfl ?_
            refine ez_goto (q := 127) dX8_removeWorld_162 (by decide) ?_
            exact E.fg (ih127 (i + 1) (by omega) g _ hM (by omega) (hr.step hn hc134)) ⟨Or.inr (rfl), Or.inr (rfl), Or.inr (rfl), trivial⟩
        · refine ez_aload_n (q := 53) 0 dX8_removeWorld_52 rfl rfl rfl ?_
          refine ez_getf (q := 56) dX8_removeWorld_53 fl_X8_7 hM.1 rfl rfl ?_
          refine ez_iconst (v := nI 2) (q := 57) dX8_removeWorld_56 (by decide) rfl ?_
          refine ez_iload_n (q := 58) 2 dX8_removeWorld_57 rfl rfl rfl ?_
          refine ez_iaddN (q := 59) dX8_removeWorld_58 rfl ?_
          refine ez_aload_n (q := 60) 0 dX8_removeWorld_59 rfl rfl rfl ?_
          refine ez_getf (q := 63) dX8_removeWorld_60 fl_X8_7 hM.1 rfl rfl ?_
          refine ez_iconst (v := nI 2) (q := 64) dX8_removeWorld_63 (by decide) rfl ?_
          refine ez_iload_n (q := 65) 2 dX8_removeWorld_64 rfl rfl rfl ?_
          refine ez_iaddN (q := 66) dX8_removeWorld_65 rfl ?_
          refine ez_iconst (v := nI 1) (q := 67) dX8_removeWorld_66 (by decide) rfl ?_
          refine ez_iaddN (q := 68) dX8_removeWorld_67 rfl ?_
          refine ez_iald (q := 69) dX8_removeWorld_68 hM.2.1 rfl (by omega) (by decide) rfl ?_
          refine ez_top (hr.2.2.1 (i + 1) (by omega) (by omega)) ?_
          refine sM_z (q := 70) dX8_removeWorld_69 hM rfl (by omega) rfl (fun g hM => ?_)
          refine ez_aload_n (q := 71) 0 dX8_removeWorld_70 rfl rfl rfl ?_
          refine ez_getf (q := 74) dX8_removeWorld_71 fl_X8_7 hM.1 rfl rfl ?_
          refine ez_bipush (v := nI 12) (q := 76) dX8_removeWorld_74 (by decide) rfl ?_
          refine ez_iload_n (q := 77) 2 dX8_removeWorld_76 rfl rfl rfl ?_
          refine ez_iaddN (q := 78) dX8_removeWorld_77 rfl ?_
          refine ez_aload_n (q := 79) 0 dX8_removeWorld_78 rfl rfl rfl ?_
          refine ez_getf (q := 82) dX8_removeWorld_79 fl_X8_7 hM.1 rfl rfl ?_
          refine ez_bipush (v := nI 12) (q := 84) dX8_removeWorld_82 (by decide) rfl ?_
          refine ez_iload_n (q := 85) 2 dX8_removeWorld_84 rfl rfl rfl ?_
          refine ez_iaddN (q := 86) dX8_removeWorld_85 rfl ?_
          refine ez_iconst (v := nI 1) (q := 87) dX8_removeWorld_86 (by decide) rfl ?_
          refine ez_iaddN (q := 88) dX8_removeWorld_87 rfl ?_
          refine ez_iald (q := 89) dX8_removeWorld_88 hM.2.1 rfl (by omega) (by decide) rfl ?_
          refine ez_top ((up_ne _ _ (by omega)).trans (hr.2.2.2.2.1 (i + 1) (by omega) (by omega))) ?_
          refine sM_z (q := 90) dX8_removeWorld_89 hM rfl (by omega) rfl (fun g hM => ?_)
          refine ez_iincN_2 (q := 93) dX8_removeWorld_90 (by decide) rfl rfl ?_
          refine ez_goto (q := 42) dX8_removeWorld_93 (by decide) ?_
          exact E.fg (ih42 (i + 1) (by omega) g _ hM (by omega) (by omega) (hr.step hn hi hc49)) ⟨Or.inr (rfl), Or.inr (rfl), Or.inr (rfl), trivial⟩
    · first
      | exact absurd hc21 (by decide)
      | skip
        refine ez_iconst (v := nI 0) (q := 25) dX8_removeWorld_24 (by decide) rfl ?_
        exact ez_iret dX8_removeWorld_25 rfl (hQ1 _ ⟨_, _, _, _, _, _, _, _, _, _, _, _, hM⟩)

def cdP (n : Nat) (u v : Int32) : Nat := if inB u 0 (n - 1) = true ∧ inB v 0 (n - 1) = true then 0 else 1
set_option maxHeartbeats 800000 in
set_option maxRecDepth 100000 in
theorem t_X8_step {G : ez_G} {d n : Nat} {h : ez_H} {n' f : Nat} {L T ln : Nat → Nat} {sg : Nat → Nat → Nat} {u v : Int32} {k r : Nat} {zs : Nat → Nat → Int32} {th ty wa rm fm ff : Int32} {z sv bf se ro le de rw sp : Nat → Int32} {ww : Bool} {ha : Int64} (hM : IM h h th z sv (nI k) bf ty (nI r) se ro le de wa ww rw rm sp fm ff ha) (hz : ZZ z n' f L T ln sg) (ho : OK n' f L T ln sg) (hk : k ≤ 6) (hv : SVD sv k zs) : Con G mX8_step (d + 5) [.ref 64, .int u, .int v] h n 0 0 (PW n (some (.int (aW (cdP n' u v) (nI ((T (nn u) ^^^ 2 ^ nn v) >>> nn v &&& 1))))) (fun g => (cdP n' u v = 0 → ∃ z' sv' : Nat → Int32, MB h g (nI 0) z' sv' (nI (svk k)) bf ty ha ∧ ZZ z' n' f L (upN T (nn u) (T (nn u) ^^^ 2 ^ nn v)) ln sg ∧ SVD sv' (svk k) (pushZ zs k z)) ∧ (¬ cdP n' u v = 0 → MB h g (nI (cdP n' u v)) z sv (nI k) bf ty ha))) := by
  have hn := ho.1
  have hn0 := hz.1
  refine Con.of [some (.ref 64), some (.int u), some (.int v)] pl_X8 rfl (Nat.le_of_ble_eq_true rfl) rfl ?_
  have hQ : (cdP n' u v = 0 → ∀ g (z' sv' : Nat → Int32), MB h g (nI 0) z' sv' (nI (svk k)) bf ty ha → ZZ z' n' f L (upN T (nn u) (T (nn u) ^^^ 2 ^ nn v)) ln sg → SVD sv' (svk k) (pushZ zs k z) → (PW n (some (.int (aW (cdP n' u v) (nI ((T (nn u) ^^^ 2 ^ nn v) >>> nn v &&& 1))))) (fun g => (cdP n' u v = 0 → ∃ z' sv' : Nat → Int32, MB h g (nI 0) z' sv' (nI (svk k)) bf ty ha ∧ ZZ z' n' f L (upN T (nn u) (T (nn u) ^^^ 2 ^ nn v)) ln sg ∧ SVD sv' (svk k) (pushZ zs k z)) ∧ (¬ cdP n' u v = 0 → MB h g (nI (cdP n' u v)) z sv (nI k) bf ty ha))) (.inl (some (.int (nI ((T (nn u) ^^^ 2 ^ nn v) >>> nn v &&& 1))))) g n) ∧ (∀ c, cdP n' u v = c → c ≠ 0 → ∀ g, MB h g (nI c) z sv (nI k) bf ty ha → (PW n (some (.int (aW (cdP n' u v) (nI ((T (nn u) ^^^ 2 ^ nn v) >>> nn v &&& 1))))) (fun g => (cdP n' u v = 0 → ∃ z' sv' : Nat → Int32, MB h g (nI 0) z' sv' (nI (svk k)) bf ty ha ∧ ZZ z' n' f L (upN T (nn u) (T (nn u) ^^^ 2 ^ nn v)) ln sg ∧ SVD sv' (svk k) (pushZ zs k z)) ∧ (¬ cdP n' u v = 0 → MB h g (nI (cdP n' u v)) z sv (nI k) bf ty ha))) (.inl (some (.int (nI 0)))) g n) := ⟨fun e g z' sv' h1 h2 h3 => ⟨by rw [aW, if_pos e], ⟨fun _ => ⟨z', sv', h1, h2, h3⟩, fun a => absurd e a⟩, rfl⟩, fun c hc e g h1 => ⟨by rw [aW, if_neg (by omega)]; rfl, ⟨fun a => absurd a (by omega), fun _ => by rw [hc]; exact h1⟩, rfl⟩⟩
  generalize PW n (some (.int (aW (cdP n' u v) (nI ((T (nn u) ^^^ 2 ^ nn v) >>> nn v &&& 1))))) (fun g => (cdP n' u v = 0 → ∃ z' sv' : Nat → Int32, MB h g (nI 0) z' sv' (nI (svk k)) bf ty ha ∧ ZZ z' n' f L (upN T (nn u) (T (nn u) ^^^ 2 ^ nn v)) ln sg ∧ SVD sv' (svk k) (pushZ zs k z)) ∧ (¬ cdP n' u v = 0 → MB h g (nI (cdP n' u v)) z sv (nI k) bf ty ha)) = Q at hQ ⊢
  refine ez_aload_n (q := 1) 0 dX8_step_0 rfl rfl rfl ?_
  refine ez_aload_n (q := 2) 0 dX8_step_1 rfl rfl rfl ?_
  refine ez_iload_n (q := 3) 1 dX8_step_2 rfl rfl rfl ?_
  refine cMv (q := 6) dX8_step_3 ck_X8_51 hM (t_X8_isWorld hM.rb hz ho) rfl rfl rfl rfl rfl (Nat.le_of_ble_eq_true rfl) rfl (fun g hM => ?_)
  refine ez_ifeqB (q := 9) (tgt := 21) dX8_step_6 (by decide) rfl (fun hc6 => ?_) (fun hc6 => ?_)
  · have hQ1 := hQ.2 1 (by simp [cdP, hc6]) (by decide)
    clear hQ
    refine ez_iconst (v := nI 1) (q := 22) dX8_step_21 (by decide) rfl ?_
    refine pM_th (q := 25) dX8_step_22 fl_X8_37 hM rfl (fun g hM => ?_)
    refine ez_aload_n (q := 26) 0 dX8_step_25 rfl rfl rfl ?_
    refine ez_getf (q := 29) dX8_step_26 fl_X8_37 hM.1 rfl rfl ?_
    refine ez_ifleN (q := 32) (tgt := 34) dX8_step_29 (by decide) (by decide) rfl (fun hc29 => ?_) (fun hc29 => ?_)
    · first
      | exact absurd hc29 (by decide)
      | skip
        refine ez_aload_n (q := 35) 0 dX8_step_34 rfl rfl rfl ?_
        refine cX0 (q := 38) dX8_step_35 ck_X8_48 hM.1 (t_X8_save hM.rb hk hv) rfl ⟨by decide, rfl⟩ rfl rfl rfl (Nat.le_of_ble_eq_true rfl) rfl (fun g hW => ?_)
        obtain ⟨sv', hM2, hv⟩ := hW
        have hM := hM.tr hM2
        refine ez_aload_n (q := 39) 0 dX8_step_38 rfl rfl rfl ?_
        refine ez_getf (q := 42) dX8_step_39 fl_X8_7 hM.1 rfl rfl ?_
        refine ez_bipush (v := nI 12) (q := 44) dX8_step_42 (by decide) rfl ?_
        refine ez_iload_n (q := 45) 1 dX8_step_44 rfl rfl rfl ?_
        refine ez_iadd (q := 46) dX8_step_45 rfl ?_
        refine ez_dup2 (q := 47) dX8_step_46 rfl rfl rfl ?_
        refine ez_iald (q := 48) dX8_step_47 hM.2.1 rfl (by omega) (by decide) rfl ?_
        refine ez_top (hz.2.2.2.1 u (by omega)) ?_
        refine ez_iconst (v := nI 1) (q := 49) dX8_step_48 (by decide) rfl ?_
        refine ez_iload_n (q := 50) 2 dX8_step_49 rfl rfl rfl ?_
        refine ez_ishl (q := 51) dX8_step_50 rfl ?_
        refine ez_ixor (q := 52) dX8_step_51 rfl ?_
        refine sM_z (q := 53) dX8_step_52 hM rfl (by omega) rfl (fun g hM => ?_)
        refine ez_aload_n (q := 54) 0 dX8_step_53 rfl rfl rfl ?_
        refine ez_getf (q := 57) dX8_step_54 fl_X8_7 hM.1 rfl rfl ?_
        refine ez_bipush (v := nI 12) (q := 59) dX8_step_57 (by decide) rfl ?_
        refine ez_iload_n (q := 60) 1 dX8_step_59 rfl rfl rfl ?_
        refine ez_iadd (q := 61) dX8_step_60 rfl ?_
        refine ez_iald (q := 62) dX8_step_61 hM.2.1 rfl (by omega) (by decide) rfl ?_
        refine ez_top (up_eq _ _ _) ?_
        refine ez_iload_n (q := 63) 2 dX8_step_62 rfl rfl rfl ?_
        refine ez_ishr (q := 64) dX8_step_63 rfl ?_
        refine ez_iconst (v := nI 1) (q := 65) dX8_step_64 (by decide) rfl ?_
        refine ez_iand (q := 66) dX8_step_65 rfl ?_
        exact ez_iret dX8_step_66 rfl (hQ0 _ _ _ ⟨_, _, _, _, _, _, _, _, _, _, _, _, hM⟩ (hz.turn ho (by omega) _) hv)
    · first
      | exact absurd hc29 (by decide)
      | skip
        refine ez_iconst (v := nI 0) (q := 33) dX8_step_32 (by decide) rfl ?_
        exact ez_iret dX8_step_33 rfl (hQ1 _ ⟨_, _, _, _, _, _, _, _, _, _, _, _, hM⟩)
  · refine ez_aload_n (q := 10) 0 dX8_step_9 rfl rfl rfl ?_
    refine ez_iload_n (q := 11) 2 dX8_step_10 rfl rfl rfl ?_
    refine cMv (q := 14) dX8_step_11 ck_X8_51 hM (t_X8_isWorld hM.rb hz ho) rfl rfl rfl rfl rfl (Nat.le_of_ble_eq_true rfl) rfl (fun g hM => ?_)
    refine ez_ifeqB (q := 17) (tgt := 21) dX8_step_14 (by decide) rfl (fun hc14 => ?_) (fun hc14 => ?_)
    · have hQ1 := hQ.2 1 (by simp [cdP, hc14]) (by decide)
      clear hQ
      refine ez_iconst (v := nI 1) (q := 22) dX8_step_21 (by decide) rfl ?_
      refine pM_th (q := 25) dX8_step_22 fl_X8_37 hM rfl (fun g hM => ?_)
      refine ez_aload_n (q := 26) 0 dX8_step_25 rfl rfl rfl ?_
      refine ez_getf (q := 29) dX8_step_26 fl_X8_37 hM.1 rfl rfl ?_
      refine ez_ifleN (q := 32) (tgt := 34) dX8_step_29 (by decide) (by decide) rfl (fun hc29 => ?_) (fun hc29 => ?_)
      · first
        | exact absurd hc29 (by decide)
        | skip
          refine ez_aload_n (q := 35) 0 dX8_step_34 rfl rfl rfl ?_
          refine cX0 (q := 38) dX8_step_35 ck_X8_48 hM.1 (t_X8_save hM.rb hk hv) rfl ⟨by decide, rfl⟩ rfl rfl rfl (Nat.le_of_ble_eq_true rfl) rfl (fun g hW => ?_)
          obtain ⟨sv', hM2, hv⟩ := hW
          have hM := hM.tr hM2
          refine ez_aload_n (q := 39) 0 dX8_step_38 rfl rfl rfl ?_
          refine ez_getf (q := 42) dX8_step_39 fl_X8_7 hM.1 rfl rfl ?_
          refine ez_bipush (v := nI 12) (q := 44) dX8_step_42 (by decide) rfl ?_
          refine ez_iload_n (q := 45) 1 dX8_step_44 rfl rfl rfl ?_
          refine ez_iadd (q := 46) dX8_step_45 rfl ?_
          refine ez_dup2 (q := 47) dX8_step_46 rfl rfl rfl ?_
          refine ez_iald (q := 48) dX8_step_47 hM.2.1 rfl (by omega) (by decide) rfl ?_
          refine ez_top (hz.2.2.2.1 u (by omega)) ?_
          refine ez_iconst (v := nI 1) (q := 49) dX8_step_48 (by decide) rfl ?_
          refine ez_iload_n (q := 50) 2 dX8_step_49 rfl rfl rfl ?_
          refine ez_ishl (q := 51) dX8_step_50 rfl ?_
          refine ez_ixor (q := 52) dX8_step_51 rfl ?_
          refine sM_z (q := 53) dX8_step_52 hM rfl (by omega) rfl (fun g hM => ?_)
          refine ez_aload_n (q := 54) 0 dX8_step_53 rfl rfl rfl ?_
          refine ez_getf (q := 57) dX8_step_54 fl_X8_7 hM.1 rfl rfl ?_
          refine ez_bipush (v := nI 12) (q := 59) dX8_step_57 (by decide) rfl ?_
          refine ez_iload_n (q := 60) 1 dX8_step_59 rfl rfl rfl ?_
          refine ez_iadd (q := 61) dX8_step_60 rfl ?_
          refine ez_iald (q := 62) dX8_step_61 hM.2.1 rfl (by omega) (by decide) rfl ?_
          refine ez_top (up_eq _ _ _) ?_
          refine ez_iload_n (q := 63) 2 dX8_step_62 rfl rfl rfl ?_
          refine ez_ishr (q := 64) dX8_step_63 rfl ?_
          refine ez_iconst (v := nI 1) (q := 65) dX8_step_64 (by decide) rfl ?_
          refine ez_iand (q := 66) dX8_step_65 rfl ?_
          exact ez_iret dX8_step_66 rfl (hQ0 _ _ _ ⟨_, _, _, _, _, _, _, _, _, _, _, _, hM⟩ (hz.turn ho (by omega) _) hv)
      · first
        | exact absurd hc29 (by decide)
        | skip
          refine ez_iconst (v := nI 0) (q := 33) dX8_step_32 (by decide) rfl ?_
          exact ez_iret dX8_step_33 rfl (hQ1 _ ⟨_, _, _, _, _, _, _, _, _, _, _, _, hM⟩)
    · have hQ0 := hQ.1 (by simp [cdP, hc6, hc14])
      clear hQ
      obtain ⟨u, rfl, hu, hu2⟩ := inB_nat hc6
      obtain ⟨v, rfl, hv1, hv2⟩ := inB_nat hc14
      rw [nn_nI hu2, nn_nI hv2] at hQ0
      have hx := xo_lt (b := v) (ho.2.2.2.1 u (by omega)) (show v < n' by omega)
      refine ez_iconst (v := nI 0) (q := 18) dX8_step_17 (by decide) rfl ?_
      refine ez_goto (q := 22) dX8_step_18 (by decide) ?_
      refine pM_th (q := 25) dX8_step_22 fl_X8_37 hM rfl (fun g hM => ?_)
      refine ez_aload_n (q := 26) 0 dX8_step_25 rfl rfl rfl ?_
      refine ez_getf (q := 29) dX8_step_26 fl_X8_37 hM.1 rfl rfl ?_
      refine ez_ifleN (q := 32) (tgt := 34) dX8_step_29 (by decide) (by decide) rfl (fun hc29 => ?_) (fun hc29 => ?_)
      · first
        | exact absurd hc29 (by decide)
        | skip
          refine ez_aload_n (q := 35) 0 dX8_step_34 rfl rfl rfl ?_
          refine cX0 (q := 38) dX8_step_35 ck_X8_48 hM.1 (t_X8_save hM.rb hk hv) rfl ⟨by decide, rfl⟩ rfl rfl rfl (Nat.le_of_ble_eq_true rfl) rfl (fun g hW => ?_)
          obtain ⟨sv', hM2, hv⟩ := hW
          have hM := hM.tr hM2
          refine ez_aload_n (q := 39) 0 dX8_step_38 rfl rfl rfl ?_
          refine ez_getf (q := 42) dX8_step_39 fl_X8_7 hM.1 rfl rfl ?_
          refine ez_bipush (v := nI 12) (q := 44) dX8_step_42 (by decide) rfl ?_
          refine ez_iload_n (q := 45) 1 dX8_step_44 rfl rfl rfl ?_
          refine ez_iaddN (q := 46) dX8_step_45 rfl ?_
          refine ez_dup2 (q := 47) dX8_step_46 rfl rfl rfl ?_
          refine ez_iald (q := 48) dX8_step_47 hM.2.1 rfl (by omega) (by decide) rfl ?_
          refine ez_top (hz.2.2.2.1 u (by omega)) ?_
          refine ez_iconst (v := nI 1) (q := 49) dX8_step_48 (by decide) rfl ?_
          refine ez_iload_n (q := 50) 2 dX8_step_49 rfl rfl rfl ?_
          refine ez_shl1 (q := 51) dX8_step_50 (by omega) rfl ?_
          refine ez_ixorN (q := 52) dX8_step_51 rfl ?_
          refine sM_z (q := 53) dX8_step_52 hM rfl (by omega) rfl (fun g hM => ?_)
          refine ez_aload_n (q := 54) 0 dX8_step_53 rfl rfl rfl ?_
          refine ez_getf (q := 57) dX8_step_54 fl_X8_7 hM.1 rfl rfl ?_
          refine ez_bipush (v := nI 12) (q := 59) dX8_step_57 (by decide) rfl ?_
          refine ez_iload_n (q := 60) 1 dX8_step_59 rfl rfl rfl ?_
          refine ez_iaddN (q := 61) dX8_step_60 rfl ?_
          refine ez_iald (q := 62) dX8_step_61 hM.2.1 rfl (by omega) (by decide) rfl ?_
          refine ez_top (up_eq _ _ _) ?_
          refine ez_iload_n (q := 63) 2 dX8_step_62 rfl rfl rfl ?_
          refine ez_ishrN (q := 64) dX8_step_63 (lt31 hx hn) (by omega) rfl ?_
          refine ez_iconst (v := nI 1) (q := 65) dX8_step_64 (by decide) rfl ?_
          refine ez_iandN (q := 66) dX8_step_65 rfl ?_
          exact ez_iret dX8_step_66 rfl (hQ0 _ _ _ ⟨_, _, _, _, _, _, _, _, _, _, _, _, hM⟩ (hz.turn ho (by omega) _) hv)
      · first
        | exact absurd hc29 (by decide)
        | skip
          refine ez_iconst (v := nI 0) (q := 33) dX8_step_32 (by decide) rfl ?_
          exact ez_iret dX8_step_33 rfl (hQ1 _ ⟨_, _, _, _, _, _, _, _, _, _, _, _, hM⟩)

def cdI (n : Nat) (u v : Int32) : Nat := if inB u 0 (n - 1) = true then (if inB v 0 3 = true then 0 else 2) else 1
set_option maxHeartbeats 800000 in
set_option maxRecDepth 100000 in
theorem t_X8_flip {G : ez_G} {d n : Nat} {h : ez_H} {n' f : Nat} {L T ln : Nat → Nat} {sg : Nat → Nat → Nat} {u v : Int32} {k r : Nat} {zs : Nat → Nat → Int32} {th ty wa rm fm ff : Int32} {z sv bf se ro le de rw sp : Nat → Int32} {ww : Bool} {ha : Int64} (hM : IM h h th z sv (nI k) bf ty (nI r) se ro le de wa ww rw rm sp fm ff ha) (hz : ZZ z n' f L T ln sg) (ho : OK n' f L T ln sg) (hk : k ≤ 6) (hv : SVD sv k zs) : Con G mX8_flip (d + 5) [.ref 64, .int u, .int v] h n 0 0 (PW n (some (.int (aW (cdI n' u v) (nI (L (nn u) ^^^ 2 ^ nn v))))) (fun g => (cdI n' u v = 0 → ∃ z' sv' : Nat → Int32, MB h g (nI 0) z' sv' (nI (svk k)) bf ty ha ∧ ZZ z' n' f (upN L (nn u) (L (nn u) ^^^ 2 ^ nn v)) T ln sg ∧ SVD sv' (svk k) (pushZ zs k z)) ∧ (¬ cdI n' u v = 0 → MB h g (nI (cdI n' u v)) z sv (nI k) bf ty ha))) := by
  have hn := ho.1
  have hn0 := hz.1
  refine Con.of [some (.ref 64), some (.int u), some (.int v)] pl_X8 rfl (Nat.le_of_ble_eq_true rfl) rfl ?_
  have hQ : (cdI n' u v = 0 → ∀ g (z' sv' : Nat → Int32), MB h g (nI 0) z' sv' (nI (svk k)) bf ty ha → ZZ z' n' f (upN L (nn u) (L (nn u) ^^^ 2 ^ nn v)) T ln sg → SVD sv' (svk k) (pushZ zs k z) → (PW n (some (.int (aW (cdI n' u v) (nI (L (nn u) ^^^ 2 ^ nn v))))) (fun g => (cdI n' u v = 0 → ∃ z' sv' : Nat → Int32, MB h g (nI 0) z' sv' (nI (svk k)) bf ty ha ∧ ZZ z' n' f (upN L (nn u) (L (nn u) ^^^ 2 ^ nn v)) T ln sg ∧ SVD sv' (svk k) (pushZ zs k z)) ∧ (¬ cdI n' u v = 0 → MB h g (nI (cdI n' u v)) z sv (nI k) bf ty ha))) (.inl (some (.int (nI (L (nn u) ^^^ 2 ^ nn v))))) g n) ∧ (∀ c, cdI n' u v = c → c ≠ 0 → ∀ g, MB h g (nI c) z sv (nI k) bf ty ha → (PW n (some (.int (aW (cdI n' u v) (nI (L (nn u) ^^^ 2 ^ nn v))))) (fun g => (cdI n' u v = 0 → ∃ z' sv' : Nat → Int32, MB h g (nI 0) z' sv' (nI (svk k)) bf ty ha ∧ ZZ z' n' f (upN L (nn u) (L (nn u) ^^^ 2 ^ nn v)) T ln sg ∧ SVD sv' (svk k) (pushZ zs k z)) ∧ (¬ cdI n' u v = 0 → MB h g (nI (cdI n' u v)) z sv (nI k) bf ty ha))) (.inl (some (.int (nI 0)))) g n) := ⟨fun e g z' sv' h1 h2 h3 => ⟨by rw [aW, if_pos e], ⟨fun _ => ⟨z', sv', h1, h2, h3⟩, fun a => absurd e a⟩, rfl⟩, fun c hc e g h1 => ⟨by rw [aW, if_neg (by omega)]; rfl, ⟨fun a => absurd a (by omega), fun _ => by rw [hc]; exact h1⟩, rfl⟩⟩
  generalize PW n (some (.int (aW (cdI n' u v) (nI (L (nn u) ^^^ 2 ^ nn v))))) (fun g => (cdI n' u v = 0 → ∃ z' sv' : Nat → Int32, MB h g (nI 0) z' sv' (nI (svk k)) bf ty ha ∧ ZZ z' n' f (upN L (nn u) (L (nn u) ^^^ 2 ^ nn v)) T ln sg ∧ SVD sv' (svk k) (pushZ zs k z)) ∧ (¬ cdI n' u v = 0 → MB h g (nI (cdI n' u v)) z sv (nI k) bf ty ha)) = Q at hQ ⊢
  refine ez_aload_n (q := 1) 0 dX8_flip_0 rfl rfl rfl ?_
  refine ez_aload_n (q := 2) 0 dX8_flip_1 rfl rfl rfl ?_
  refine ez_iload_n (q := 3) 1 dX8_flip_2 rfl rfl rfl ?_
  refine cMv (q := 6) dX8_flip_3 ck_X8_51 hM (t_X8_isWorld hM.rb hz ho) rfl rfl rfl rfl rfl (Nat.le_of_ble_eq_true rfl) rfl (fun g hM => ?_)
  refine ez_ifneB (q := 9) (tgt := 13) dX8_flip_6 (by decide) rfl (fun hc6 => ?_) (fun hc6 => ?_)
  · refine ez_iload_n (q := 14) 2 dX8_flip_13 rfl rfl rfl ?_
    refine ez_iconst (v := nI 0) (q := 15) dX8_flip_14 (by decide) rfl ?_
    refine ez_iconst (v := nI 3) (q := 16) dX8_flip_15 (by decide) rfl ?_
    refine cUv (q := 19) dX8_flip_16 ck_X8_41 (t_X8_in (a := 0) (b := 3) (by decide) (by decide)) rfl rfl rfl (Nat.le_of_ble_eq_true rfl) rfl ?_
    refine ez_ifneB (q := 22) (tgt := 26) dX8_flip_19 (by decide) rfl (fun hc19 => ?_) (fun hc19 => ?_)
    · have hQ0 := hQ.1 (by simp [cdI, hc6, hc19])
      clear hQ
      obtain ⟨u, rfl, hu, hu2⟩ := inB_nat hc6
      obtain ⟨v, rfl, hv1, hv2⟩ := inB_nat hc19
      rw [nn_nI hu2, nn_nI hv2] at hQ0
      refine ez_iconst (v := nI 0) (q := 27) dX8_flip_26 (by decide) rfl ?_
      refine pM_th (q := 30) dX8_flip_27 fl_X8_37 hM rfl (fun g hM => ?_)
      refine ez_aload_n (q := 31) 0 dX8_flip_30 rfl rfl rfl ?_
      refine ez_getf (q := 34) dX8_flip_31 fl_X8_37 hM.1 rfl rfl ?_
      refine ez_ifleN (q := 37) (tgt := 39) dX8_flip_34 (by decide) (by decide) rfl (fun hc34 => ?_) (fun hc34 => ?_)
      · first
        | exact absurd hc34 (by decide)
        | skip
          refine ez_aload_n (q := 40) 0 dX8_flip_39 rfl rfl rfl ?_
          refine cX0 (q := 43) dX8_flip_40 ck_X8_48 hM.1 (t_X8_save hM.rb hk hv) rfl ⟨by decide, rfl⟩ rfl rfl rfl (Nat.le_of_ble_eq_true rfl) rfl (fun g hW => ?_)
          obtain ⟨sv', hM2, hv⟩ := hW
          have hM := hM.tr hM2
          refine ez_aload_n (q := 44) 0 dX8_flip_43 rfl rfl rfl ?_
          refine ez_getf (q := 47) dX8_flip_44 fl_X8_7 hM.1 rfl rfl ?_
          refine ez_iconst (v := nI 2) (q := 48) dX8_flip_47 (by decide) rfl ?_
          refine ez_iload_n (q := 49) 1 dX8_flip_48 rfl rfl rfl ?_
          refine ez_iaddN (q := 50) dX8_flip_49 rfl ?_
          refine ez_dup2 (q := 51) dX8_flip_50 rfl rfl rfl ?_
          refine ez_iald (q := 52) dX8_flip_51 hM.2.1 rfl (by omega) (by decide) rfl ?_
          refine ez_top (hz.2.2.1 u (by omega)) ?_
          refine ez_iconst (v := nI 1) (q := 53) dX8_flip_52 (by decide) rfl ?_
          refine ez_iload_n (q := 54) 2 dX8_flip_53 rfl rfl rfl ?_
          refine ez_shl1 (q := 55) dX8_flip_54 (by omega) rfl ?_
          refine ez_ixorN (q := 56) dX8_flip_55 rfl ?_
          refine sM_z (q := 57) dX8_flip_56 hM rfl (by omega) rfl (fun g hM => ?_)
          refine ez_aload_n (q := 58) 0 dX8_flip_57 rfl rfl rfl ?_
          refine ez_getf (q := 61) dX8_flip_58 fl_X8_7 hM.1 rfl rfl ?_
          refine ez_iconst (v := nI 2) (q := 62) dX8_flip_61 (by decide) rfl ?_
          refine ez_iload_n (q := 63) 1 dX8_flip_62 rfl rfl rfl ?_
          refine ez_iaddN (q := 64) dX8_flip_63 rfl ?_
          refine ez_iald (q := 65) dX8_flip_64 hM.2.1 rfl (by omega) (by decide) rfl ?_
          refine ez_top (up_eq _ _ _) ?_
          exact ez_iret dX8_flip_65 rfl (hQ0 _ _ _ ⟨_, _, _, _, _, _, _, _, _, _, _, _, hM⟩ (hz.flip ho (by omega) _) hv)
      · first
        | exact absurd hc34 (by decide)
        | skip
          refine ez_iconst (v := nI 0) (q := 38) dX8_flip_37 (by decide) rfl ?_
          exact ez_iret dX8_flip_38 rfl (hQ1 _ ⟨_, _, _, _, _, _, _, _, _, _, _, _, hM⟩)
    · have hQ1 := hQ.2 2 (by simp [cdI, hc6, hc19]) (by decide)
      clear hQ
      refine ez_iconst (v := nI 2) (q := 23) dX8_flip_22 (by decide) rfl ?_
      refine ez_goto (q := 27) dX8_flip_23 (by decide) ?_
      refine pM_th (q := 30) dX8_flip_27 fl_X8_37 hM rfl (fun g hM => ?_)
      refine ez_aload_n (q := 31) 0 dX8_flip_30 rfl rfl rfl ?_
      refine ez_getf (q := 34) dX8_flip_31 fl_X8_37 hM.1 rfl rfl ?_
      refine ez_ifleN (q := 37) (tgt := 39) dX8_flip_34 (by decide) (by decide) rfl (fun hc34 => ?_) (fun hc34 => ?_)
      · first
        | exact absurd hc34 (by decide)
        | skip
          refine ez_aload_n (q := 40) 0 dX8_flip_39 rfl rfl rfl ?_
          refine cX0 (q := 43) dX8_flip_40 ck_X8_48 hM.1 (t_X8_save hM.rb hk hv) rfl ⟨by decide, rfl⟩ rfl rfl rfl (Nat.le_of_ble_eq_true rfl) rfl (fun g hW => ?_)
          obtain ⟨sv', hM2, hv⟩ := hW
          have hM := hM.tr hM2
          refine ez_aload_n (q := 44) 0 dX8_flip_43 rfl rfl rfl ?_
          refine ez_getf (q := 47) dX8_flip_44 fl_X8_7 hM.1 rfl rfl ?_
          refine ez_iconst (v := nI 2) (q := 48) dX8_flip_47 (by decide) rfl ?_
          refine ez_iload_n (q := 49) 1 dX8_flip_48 rfl rfl rfl ?_
          refine ez_iadd (q := 50) dX8_flip_49 rfl ?_
          refine ez_dup2 (q := 51) dX8_flip_50 rfl rfl rfl ?_
          refine ez_iald (q := 52) dX8_flip_51 hM.2.1 rfl (by omega) (by decide) rfl ?_
          refine ez_top (hz.2.2.1 u (by omega)) ?_
          refine ez_iconst (v := nI 1) (q := 53) dX8_flip_52 (by decide) rfl ?_
          refine ez_iload_n (q := 54) 2 dX8_flip_53 rfl rfl rfl ?_
          refine ez_ishl (q := 55) dX8_flip_54 rfl ?_
          refine ez_ixor (q := 56) dX8_flip_55 rfl ?_
          refine sM_z (q := 57) dX8_flip_56 hM rfl (by omega) rfl (fun g hM => ?_)
          refine ez_aload_n (q := 58) 0 dX8_flip_57 rfl rfl rfl ?_
          refine ez_getf (q := 61) dX8_flip_58 fl_X8_7 hM.1 rfl rfl ?_
          refine ez_iconst (v := nI 2) (q := 62) dX8_flip_61 (by decide) rfl ?_
          refine ez_iload_n (q := 63) 1 dX8_flip_62 rfl rfl rfl ?_
          refine ez_iadd (q := 64) dX8_flip_63 rfl ?_
          refine ez_iald (q := 65) dX8_flip_64 hM.2.1 rfl (by omega) (by decide) rfl ?_
          refine ez_top (up_eq _ _ _) ?_
          exact ez_iret dX8_flip_65 rfl (hQ0 _ _ _ ⟨_, _, _, _, _, _, _, _, _, _, _, _, hM⟩ (hz.flip ho (by omega) _) hv)
      · first
        | exact absurd hc34 (by decide)
        | skip
          refine ez_iconst (v := nI 0) (q := 38) dX8_flip_37 (by decide) rfl ?_
          exact ez_iret dX8_flip_38 rfl (hQ1 _ ⟨_, _, _, _, _, _, _, _, _, _, _, _, hM⟩)
  · have hQ1 := hQ.2 1 (by simp [cdI, hc6]) (by decide)
    clear hQ
    refine ez_iconst (v := nI 1) (q := 10) dX8_flip_9 (by decide) rfl ?_
    refine ez_goto (q := 27) dX8_flip_10 (by decide) ?_
    refine pM_th (q := 30) dX8_flip_27 fl_X8_37 hM rfl (fun g hM => ?_)
    refine ez_aload_n (q := 31) 0 dX8_flip_30 rfl rfl rfl ?_
    refine ez_getf (q := 34) dX8_flip_31 fl_X8_37 hM.1 rfl rfl ?_
    refine ez_ifleN (q := 37) (tgt := 39) dX8_flip_34 (by decide) (by decide) rfl (fun hc34 => ?_) (fun hc34 => ?_)
    · first
      | exact absurd hc34 (by decide)
      | skip
        refine ez_aload_n (q := 40) 0 dX8_flip_39 rfl rfl rfl ?_
        refine cX0 (q := 43) dX8_flip_40 ck_X8_48 hM.1 (t_X8_save hM.rb hk hv) rfl ⟨by decide, rfl⟩ rfl rfl rfl (Nat.le_of_ble_eq_true rfl) rfl (fun g hW => ?_)
        obtain ⟨sv', hM2, hv⟩ := hW
        have hM := hM.tr hM2
        refine ez_aload_n (q := 44) 0 dX8_flip_43 rfl rfl rfl ?_
        refine ez_getf (q := 47) dX8_flip_44 fl_X8_7 hM.1 rfl rfl ?_
        refine ez_iconst (v := nI 2) (q := 48) dX8_flip_47 (by decide) rfl ?_
        refine ez_iload_n (q := 49) 1 dX8_flip_48 rfl rfl rfl ?_
        refine ez_iadd (q := 50) dX8_flip_49 rfl ?_
        refine ez_dup2 (q := 51) dX8_flip_50 rfl rfl rfl ?_
        refine ez_iald (q := 52) dX8_flip_51 hM.2.1 rfl (by omega) (by decide) rfl ?_
        refine ez_top (hz.2.2.1 u (by omega)) ?_
        refine ez_iconst (v := nI 1) (q := 53) dX8_flip_52 (by decide) rfl ?_
        refine ez_iload_n (q := 54) 2 dX8_flip_53 rfl rfl rfl ?_
        refine ez_ishl (q := 55) dX8_flip_54 rfl ?_
        refine ez_ixor (q := 56) dX8_flip_55 rfl ?_
        refine sM_z (q := 57) dX8_flip_56 hM rfl (by omega) rfl (fun g hM => ?_)
        refine ez_aload_n (q := 58) 0 dX8_flip_57 rfl rfl rfl ?_
        refine ez_getf (q := 61) dX8_flip_58 fl_X8_7 hM.1 rfl rfl ?_
        refine ez_iconst (v := nI 2) (q := 62) dX8_flip_61 (by decide) rfl ?_
        refine ez_iload_n (q := 63) 1 dX8_flip_62 rfl rfl rfl ?_
        refine ez_iadd (q := 64) dX8_flip_63 rfl ?_
        refine ez_iald (q := 65) dX8_flip_64 hM.2.1 rfl (by omega) (by decide) rfl ?_
        refine ez_top (up_eq _ _ _) ?_
        exact ez_iret dX8_flip_65 rfl (hQ0 _ _ _ ⟨_, _, _, _, _, _, _, _, _, _, _, _, hM⟩ (hz.flip ho (by omega) _) hv)
    · first
      | exact absurd hc34 (by decide)
      | skip
        refine ez_iconst (v := nI 0) (q := 38) dX8_flip_37 (by decide) rfl ?_
        exact ez_iret dX8_flip_38 rfl (hQ1 _ ⟨_, _, _, _, _, _, _, _, _, _, _, _, hM⟩)

def cdW1 (g : Int32) : Nat := if inL g = true then 0 else 1
set_option maxHeartbeats 800000 in
set_option maxRecDepth 100000 in
theorem t_X8_fair {G : ez_G} {d n : Nat} {h : ez_H} {n' f : Nat} {L T ln : Nat → Nat} {sg : Nat → Nat → Nat} {u : Int32} {k r : Nat} {zs : Nat → Nat → Int32} {th ty wa rm fm ff : Int32} {z sv bf se ro le de rw sp : Nat → Int32} {ww : Bool} {ha : Int64} (hM : IM h h th z sv (nI k) bf ty (nI r) se ro le de wa ww rw rm sp fm ff ha) (hz : ZZ z n' f L T ln sg) (ho : OK n' f L T ln sg) (hk : k ≤ 6) (hv : SVD sv k zs) : Con G mX8_fair (d + 5) [.ref 64, .int u] h n 0 0 (PW n (some (.int (aW (cdW1 u) (fI f)))) (fun g => (cdW1 u = 0 → ∃ z' sv' : Nat → Int32, MB h g (nI 0) z' sv' (nI (svk k)) bf ty ha ∧ ZZ z' n' (lf u) L T ln sg ∧ SVD sv' (svk k) (pushZ zs k z)) ∧ (¬ cdW1 u = 0 → MB h g (nI (cdW1 u)) z sv (nI k) bf ty ha))) := by
  have hn := ho.1
  have hn0 := hz.1
  refine Con.of [some (.ref 64), some (.int u), none] pl_X8 rfl (Nat.le_of_ble_eq_true rfl) rfl ?_
  have hQ : (cdW1 u = 0 → ∀ g (z' sv' : Nat → Int32), MB h g (nI 0) z' sv' (nI (svk k)) bf ty ha → ZZ z' n' (lf u) L T ln sg → SVD sv' (svk k) (pushZ zs k z) → (PW n (some (.int (aW (cdW1 u) (fI f)))) (fun g => (cdW1 u = 0 → ∃ z' sv' : Nat → Int32, MB h g (nI 0) z' sv' (nI (svk k)) bf ty ha ∧ ZZ z' n' (lf u) L T ln sg ∧ SVD sv' (svk k) (pushZ zs k z)) ∧ (¬ cdW1 u = 0 → MB h g (nI (cdW1 u)) z sv (nI k) bf ty ha))) (.inl (some (.int (fI f)))) g n) ∧ (∀ c, cdW1 u = c → c ≠ 0 → ∀ g, MB h g (nI c) z sv (nI k) bf ty ha → (PW n (some (.int (aW (cdW1 u) (fI f)))) (fun g => (cdW1 u = 0 → ∃ z' sv' : Nat → Int32, MB h g (nI 0) z' sv' (nI (svk k)) bf ty ha ∧ ZZ z' n' (lf u) L T ln sg ∧ SVD sv' (svk k) (pushZ zs k z)) ∧ (¬ cdW1 u = 0 → MB h g (nI (cdW1 u)) z sv (nI k) bf ty ha))) (.inl (some (.int (nI 0)))) g n) := ⟨fun e g z' sv' h1 h2 h3 => ⟨by rw [aW, if_pos e], ⟨fun _ => ⟨z', sv', h1, h2, h3⟩, fun a => absurd e a⟩, rfl⟩, fun c hc e g h1 => ⟨by rw [aW, if_neg (by omega)]; rfl, ⟨fun a => absurd a (by omega), fun _ => by rw [hc]; exact h1⟩, rfl⟩⟩
  generalize PW n (some (.int (aW (cdW1 u) (fI f)))) (fun g => (cdW1 u = 0 → ∃ z' sv' : Nat → Int32, MB h g (nI 0) z' sv' (nI (svk k)) bf ty ha ∧ ZZ z' n' (lf u) L T ln sg ∧ SVD sv' (svk k) (pushZ zs k z)) ∧ (¬ cdW1 u = 0 → MB h g (nI (cdW1 u)) z sv (nI k) bf ty ha)) = Q at hQ ⊢
  refine ez_aload_n (q := 1) 0 dX8_fair_0 rfl rfl rfl ?_
  refine ez_iload_n (q := 2) 1 dX8_fair_1 rfl rfl rfl ?_
  refine ez_iconst (v := -1) (q := 3) dX8_fair_2 (by decide) rfl ?_
  refine ez_iconst (v := nI 3) (q := 4) dX8_fair_3 (by decide) rfl ?_
  refine cUv (q := 7) dX8_fair_4 ck_X8_41 (t_X8_in (a := -1) (b := 3) (by decide) (by decide)) rfl rfl rfl (Nat.le_of_ble_eq_true rfl) rfl ?_
  refine ez_ifeqB (q := 10) (tgt := 14) dX8_fair_7 (by decide) rfl (fun hc7 => ?_) (fun hc7 => ?_)
  · have hQ1 := hQ.2 1 (by simp [cdW1, inL, hc7]) (by decide)
    clear hQ
    refine ez_iconst (v := nI 1) (q := 15) dX8_fair_14 (by decide) rfl ?_
    refine pM_th (q := 18) dX8_fair_15 fl_X8_37 hM rfl (fun g hM => ?_)
    refine ez_aload_n (q := 19) 0 dX8_fair_18 rfl rfl rfl ?_
    refine ez_getf (q := 22) dX8_fair_19 fl_X8_37 hM.1 rfl rfl ?_
    refine ez_ifleN (q := 25) (tgt := 27) dX8_fair_22 (by decide) (by decide) rfl (fun hc22 => ?_) (fun hc22 => ?_)
    · first
      | exact absurd hc22 (by decide)
      | skip
        refine ez_aload_n (q := 28) 0 dX8_fair_27 rfl rfl rfl ?_
        refine cX0 (q := 31) dX8_fair_28 ck_X8_48 hM.1 (t_X8_save hM.rb hk hv) rfl ⟨by decide, rfl⟩ rfl rfl rfl (Nat.le_of_ble_eq_true rfl) rfl (fun g hW => ?_)
        obtain ⟨sv', hM2, hv⟩ := hW
        have hM := hM.tr hM2
        refine ez_aload_n (q := 32) 0 dX8_fair_31 rfl rfl rfl ?_
        refine ez_getf (q := 35) dX8_fair_32 fl_X8_7 hM.1 rfl rfl ?_
        refine ez_iconst (v := nI 1) (q := 36) dX8_fair_35 (by decide) rfl ?_
        refine ez_iald (q := 37) dX8_fair_36 hM.2.1 rfl (by omega) (by decide) rfl ?_
        refine ez_top (hz.2.1) ?_
        refine ez_istore_2 (q := 38) dX8_fair_37 rfl (by decide) rfl rfl ?_
        refine ez_aload_n (q := 39) 0 dX8_fair_38 rfl rfl rfl ?_
        refine ez_getf (q := 42) dX8_fair_39 fl_X8_7 hM.1 rfl rfl ?_
        refine ez_iconst (v := nI 1) (q := 43) dX8_fair_42 (by decide) rfl ?_
        refine ez_iload_n (q := 44) 1 dX8_fair_43 rfl rfl rfl ?_
        refine sM_z (q := 45) dX8_fair_44 hM rfl (by omega) rfl (fun g hM => ?_)
        refine ez_iload_n (q := 46) 2 dX8_fair_45 rfl rfl rfl ?_
        exact ez_iret dX8_fair_46 rfl (hQ0 _ _ _ ⟨_, _, _, _, _, _, _, _, _, _, _, _, hM⟩ (hz.fair ho _) hv)
    · first
      | exact absurd hc22 (by decide)
      | skip
        refine ez_iconst (v := nI 0) (q := 26) dX8_fair_25 (by decide) rfl ?_
        exact ez_iret dX8_fair_26 rfl (hQ1 _ ⟨_, _, _, _, _, _, _, _, _, _, _, _, hM⟩)
  · have hQ0 := hQ.1 (by simp [cdW1, inL, hc7])
    clear hQ
    obtain ⟨u, rfl, hu, hu2⟩ := inL_nat hc7
    rw [hu2] at hQ0
    refine ez_iconst (v := nI 0) (q := 11) dX8_fair_10 (by decide) rfl ?_
    refine ez_goto (q := 15) dX8_fair_11 (by decide) ?_
    refine pM_th (q := 18) dX8_fair_15 fl_X8_37 hM rfl (fun g hM => ?_)
    refine ez_aload_n (q := 19) 0 dX8_fair_18 rfl rfl rfl ?_
    refine ez_getf (q := 22) dX8_fair_19 fl_X8_37 hM.1 rfl rfl ?_
    refine ez_ifleN (q := 25) (tgt := 27) dX8_fair_22 (by decide) (by decide) rfl (fun hc22 => ?_) (fun hc22 => ?_)
    · first
      | exact absurd hc22 (by decide)
      | skip
        refine ez_aload_n (q := 28) 0 dX8_fair_27 rfl rfl rfl ?_
        refine cX0 (q := 31) dX8_fair_28 ck_X8_48 hM.1 (t_X8_save hM.rb hk hv) rfl ⟨by decide, rfl⟩ rfl rfl rfl (Nat.le_of_ble_eq_true rfl) rfl (fun g hW => ?_)
        obtain ⟨sv', hM2, hv⟩ := hW
        have hM := hM.tr hM2
        refine ez_aload_n (q := 32) 0 dX8_fair_31 rfl rfl rfl ?_
        refine ez_getf (q := 35) dX8_fair_32 fl_X8_7 hM.1 rfl rfl ?_
        refine ez_iconst (v := nI 1) (q := 36) dX8_fair_35 (by decide) rfl ?_
        refine ez_iald (q := 37) dX8_fair_36 hM.2.1 rfl (by omega) (by decide) rfl ?_
        refine ez_top (hz.2.1) ?_
        refine ez_istore_2 (q := 38) dX8_fair_37 rfl (by decide) rfl rfl ?_
        refine ez_aload_n (q := 39) 0 dX8_fair_38 rfl rfl rfl ?_
        refine ez_getf (q := 42) dX8_fair_39 fl_X8_7 hM.1 rfl rfl ?_
        refine ez_iconst (v := nI 1) (q := 43) dX8_fair_42 (by decide) rfl ?_
        refine ez_iload_n (q := 44) 1 dX8_fair_43 rfl rfl rfl ?_
        refine sM_z (q := 45) dX8_fair_44 hM rfl (by omega) rfl (fun g hM => ?_)
        refine ez_iload_n (q := 46) 2 dX8_fair_45 rfl rfl rfl ?_
        exact ez_iret dX8_fair_46 rfl (hQ0 _ _ _ ⟨_, _, _, _, _, _, _, _, _, _, _, _, hM⟩ (hz.fair ho _) hv)
    · first
      | exact absurd hc22 (by decide)
      | skip
        refine ez_iconst (v := nI 0) (q := 26) dX8_fair_25 (by decide) rfl ?_
        exact ez_iret dX8_fair_26 rfl (hQ1 _ ⟨_, _, _, _, _, _, _, _, _, _, _, _, hM⟩)

set_option maxHeartbeats 800000 in
set_option maxRecDepth 100000 in
theorem t_X8_ring {G : ez_G} {d n : Nat} {h : ez_H} {n' f : Nat} {L T ln : Nat → Nat} {sg : Nat → Nat → Nat} {k r : Nat} {zs : Nat → Nat → Int32} {th ty wa rm fm ff : Int32} {z sv bf se ro le de rw sp : Nat → Int32} {ww : Bool} {ha : Int64} (hM : IM h h th z sv (nI k) bf ty (nI r) se ro le de wa ww rw rm sp fm ff ha) (hz : ZZ z n' f L T ln sg) (ho : OK n' f L T ln sg) (hk : k ≤ 6) (hv : SVD sv k zs) : Con G mX8_ring (d + 5) [.ref 64] h n 0 0 (PW n (some (.int (aW (0) (nI (csN (rgN T n' n') n'))))) (fun g => (0 = 0 → ∃ z' sv' : Nat → Int32, MB h g (nI 0) z' sv' (nI (svk k)) bf ty ha ∧ ZZ z' n' f L (rgN T n' n') ln sg ∧ SVD sv' (svk k) (pushZ zs k z)) ∧ (¬ 0 = 0 → MB h g (nI (0)) z sv (nI k) bf ty ha))) := by
  have hn := ho.1
  have hn0 := hz.1
  refine Con.of [some (.ref 64), none] pl_X8 rfl (Nat.le_of_ble_eq_true rfl) rfl ?_
  have hQ : (0 = 0 → ∀ g (z' sv' : Nat → Int32), MB h g (nI 0) z' sv' (nI (svk k)) bf ty ha → ZZ z' n' f L (rgN T n' n') ln sg → SVD sv' (svk k) (pushZ zs k z) → (PW n (some (.int (aW (0) (nI (csN (rgN T n' n') n'))))) (fun g => (0 = 0 → ∃ z' sv' : Nat → Int32, MB h g (nI 0) z' sv' (nI (svk k)) bf ty ha ∧ ZZ z' n' f L (rgN T n' n') ln sg ∧ SVD sv' (svk k) (pushZ zs k z)) ∧ (¬ 0 = 0 → MB h g (nI (0)) z sv (nI k) bf ty ha))) (.inl (some (.int (nI (csN (rgN T n' n') n'))))) g n) ∧ (∀ c, 0 = c → c ≠ 0 → ∀ g, MB h g (nI c) z sv (nI k) bf ty ha → (PW n (some (.int (aW (0) (nI (csN (rgN T n' n') n'))))) (fun g => (0 = 0 → ∃ z' sv' : Nat → Int32, MB h g (nI 0) z' sv' (nI (svk k)) bf ty ha ∧ ZZ z' n' f L (rgN T n' n') ln sg ∧ SVD sv' (svk k) (pushZ zs k z)) ∧ (¬ 0 = 0 → MB h g (nI (0)) z sv (nI k) bf ty ha))) (.inl (some (.int (nI 0)))) g n) := ⟨fun e g z' sv' h1 h2 h3 => ⟨by rw [aW, if_pos e], ⟨fun _ => ⟨z', sv', h1, h2, h3⟩, fun a => absurd e a⟩, rfl⟩, fun c hc e g h1 => ⟨by rw [aW, if_neg (by omega)]; rfl, ⟨fun a => absurd a (by omega), fun _ => by rw [hc]; exact h1⟩, rfl⟩⟩
  generalize PW n (some (.int (aW (0) (nI (csN (rgN T n' n') n'))))) (fun g => (0 = 0 → ∃ z' sv' : Nat → Int32, MB h g (nI 0) z' sv' (nI (svk k)) bf ty ha ∧ ZZ z' n' f L (rgN T n' n') ln sg ∧ SVD sv' (svk k) (pushZ zs k z)) ∧ (¬ 0 = 0 → MB h g (nI (0)) z sv (nI k) bf ty ha)) = Q at hQ ⊢
  have hQ0 := hQ.1 rfl
  clear hQ
  refine ez_aload_n (q := 1) 0 dX8_ring_0 rfl rfl rfl ?_
  refine ez_iconst (v := nI 0) (q := 2) dX8_ring_1 (by decide) rfl ?_
  refine pM_th (q := 5) dX8_ring_2 fl_X8_37 hM rfl (fun g hM => ?_)
  refine ez_aload_n (q := 6) 0 dX8_ring_5 rfl rfl rfl ?_
  refine cX0 (q := 9) dX8_ring_6 ck_X8_48 hM.1 (t_X8_save hM.rb hk hv) rfl ⟨by decide, rfl⟩ rfl rfl rfl (Nat.le_of_ble_eq_true rfl) rfl (fun g hW => ?_)
  obtain ⟨sv', hM2, hv⟩ := hW
  have hM := hM.tr hM2
  refine ez_iconst (v := nI 0) (q := 10) dX8_ring_9 (by decide) rfl ?_
  refine ez_istore_1 (q := 11) dX8_ring_10 rfl (by decide) rfl rfl ?_
  refine ez_loop (α := Nat) (fun i => n' - i) (P := fun i => ∀ (g : ez_H) (y : Nat → Int32), IM h g (nI 0) y sv' (nI (svk k)) bf ty (nI r) se ro le de wa ww rw rm sp fm ff ha → (i ≤ n') → (ZZ y n' f L (rgN T n' i) ln sg) → E G mX8_ring (d + 5) Q g n 0 0 11 [some (.ref 64), some (.int (nI i))] []) ?_ 0 g _ hM (Nat.zero_le _) hz
  intro i ih11 g y hM hi hy
  refine ez_iload_n (q := 12) 1 dX8_ring_11 rfl rfl rfl ?_
  refine ez_aload_n (q := 13) 0 dX8_ring_12 rfl rfl rfl ?_
  refine ez_getf (q := 16) dX8_ring_13 fl_X8_7 hM.1 rfl rfl ?_
  refine ez_iconst (v := nI 0) (q := 17) dX8_ring_16 (by decide) rfl ?_
  refine ez_iald (q := 18) dX8_ring_17 hM.2.1 rfl (by omega) (by decide) rfl ?_
  refine ez_top (hy.1) ?_
  refine ez_icmpgeN (q := 21) (tgt := 51) dX8_ring_18 (by decide) (by omega) (by omega) rfl (fun hc18 => ?_) (fun hc18 => ?_)
  · obtain rfl : i = n' := by omega
    refine ez_aload_n (q := 52) 0 dX8_ring_51 rfl rfl rfl ?_
    refine cMv (q := 55) dX8_ring_52 ck_X8_63 hM (t_X8_stepMany hM.rb hy (ho.ring _)) rfl rfl rfl rfl rfl (Nat.le_of_ble_eq_true rfl) rfl (fun g hM => ?_)
    exact ez_iret dX8_ring_55 rfl (hQ0 _ _ _ ⟨_, _, _, _, _, _, _, _, _, _, _, _, hM⟩ hy hv)
  · refine ez_aload_n (q := 22) 0 dX8_ring_21 rfl rfl rfl ?_
    refine ez_getf (q := 25) dX8_ring_22 fl_X8_7 hM.1 rfl rfl ?_
    refine ez_bipush (v := nI 12) (q := 27) dX8_ring_25 (by decide) rfl ?_
    refine ez_iload_n (q := 28) 1 dX8_ring_27 rfl rfl rfl ?_
    refine ez_iaddN (q := 29) dX8_ring_28 rfl ?_
    refine ez_dup2 (q := 30) dX8_ring_29 rfl rfl rfl ?_
    refine ez_iald (q := 31) dX8_ring_30 hM.2.1 rfl (by omega) (by decide) rfl ?_
    refine ez_top ((hy.2.2.2.1 i hc18).trans (congrArg nI (rg_at T n' i))) ?_
    refine ez_iconst (v := nI 1) (q := 32) dX8_ring_31 (by decide) rfl ?_
    refine ez_iload_n (q := 33) 1 dX8_ring_32 rfl rfl rfl ?_
    refine ez_iconst (v := nI 1) (q := 34) dX8_ring_33 (by decide) rfl ?_
    refine ez_iaddN (q := 35) dX8_ring_34 rfl ?_
    refine ez_aload_n (q := 36) 0 dX8_ring_35 rfl rfl rfl ?_
    refine ez_getf (q := 39) dX8_ring_36 fl_X8_7 hM.1 rfl rfl ?_
    refine ez_iconst (v := nI 0) (q := 40) dX8_ring_39 (by decide) rfl ?_
    refine ez_iald (q := 41) dX8_ring_40 hM.2.1 rfl (by omega) (by decide) rfl ?_
    refine ez_top (hy.1) ?_
    refine ez_iremN (q := 42) dX8_ring_41 (by omega) (by omega) (by omega) rfl ?_
    refine ez_shl1 (q := 43) dX8_ring_42 (by have := Nat.mod_lt (i + 1) (show 0 < n' by omega); omega) rfl ?_
    refine ez_iorN (q := 44) dX8_ring_43 rfl ?_
    refine sM_z (q := 45) dX8_ring_44 hM rfl (by omega) rfl (fun g hM => ?_)
    refine ez_iincN_1 (q := 48) dX8_ring_45 (by decide) rfl rfl ?_
    refine ez_goto (q := 11) dX8_ring_48 (by decide) ?_
    exact E.fg (ih11 (i + 1) (by omega) g _ hM (by omega) (by rw [← rg_s]; exact hy.turn (ho.ring i) hc18 _)) ⟨Or.inr (rfl), Or.inr (rfl), trivial⟩

