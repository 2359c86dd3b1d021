def cdB (t : Nat) (c : Int32) : Nat := if inB c 33 126 = true then (if t = 60 then 2 else 0) else 1
theorem inB_c {c : Int32} (h : inB c 33 126 = true) : ∃ j : Nat, c = nI j ∧ nn c = j ∧ 33 ≤ j ∧ j ≤ 126 := by
  have h1 := of_decide_eq_true h
  obtain ⟨j, rfl, h2, h3⟩ := inB_nat (i := c) (m := 126) (decide_eq_true ⟨by omega, h1.2⟩)
  rw [nI_toInt h3] at h1
  exact ⟨j, rfl, nn_nI h3, by omega, by omega⟩
set_option maxHeartbeats 800000 in
set_option maxRecDepth 100000 in
theorem t_X8_append {G : ez_G} {d n : Nat} {h : ez_H} {t : Nat} {b : Nat → Nat} {c : Int32} {r : Nat} {th sm wa rm fm ff : Int32} {z sv bf se ro le de rw sp : Nat → Int32} {ww : Bool} {ha : Int64} (hM : IM h h th z sv sm bf (nI t) (nI r) se ro le de wa ww rw rm sp fm ff ha) (hb : BB bf t b) : Con G mX8_append (d + 1) [.ref 64, .int c] h n 0 0 (PW n (some (.int (aW (cdB t c) (nI (t + 1))))) (fun g => (cdB t c = 0 → ∃ bf' : Nat → Int32, MB h g (nI 0) z sv sm bf' (nI (t + 1)) ha ∧ BB bf' (t + 1) (upN b t (nn c))) ∧ (¬ cdB t c = 0 → MB h g (nI (cdB t c)) z sv sm bf (nI t) ha))) := by
  have ht := hb.1
  refine Con.of [some (.ref 64), some (.int c)] pl_X8 rfl (Nat.le_of_ble_eq_true rfl) rfl ?_
  have hQ : (cdB t c = 0 → ∀ g (bf' : Nat → Int32), MB h g (nI 0) z sv sm bf' (nI (t + 1)) ha → BB bf' (t + 1) (upN b t (nn c)) → (PW n (some (.int (aW (cdB t c) (nI (t + 1))))) (fun g => (cdB t c = 0 → ∃ bf' : Nat → Int32, MB h g (nI 0) z sv sm bf' (nI (t + 1)) ha ∧ BB bf' (t + 1) (upN b t (nn c))) ∧ (¬ cdB t c = 0 → MB h g (nI (cdB t c)) z sv sm bf (nI t) ha))) (.inl (some (.int (nI (t + 1))))) g n) ∧ (∀ c1, cdB t c = c1 → c1 ≠ 0 → ∀ g, MB h g (nI c1) z sv sm bf (nI t) ha → (PW n (some (.int (aW (cdB t c) (nI (t + 1))))) (fun g => (cdB t c = 0 → ∃ bf' : Nat → Int32, MB h g (nI 0) z sv sm bf' (nI (t + 1)) ha ∧ BB bf' (t + 1) (upN b t (nn c))) ∧ (¬ cdB t c = 0 → MB h g (nI (cdB t c)) z sv sm bf (nI t) ha))) (.inl (some (.int (nI 0)))) g n) := ⟨fun e g bf' h1 h2 => ⟨by rw [aW, if_pos e], ⟨fun _ => ⟨bf', h1, h2⟩, fun a => absurd e a⟩, rfl⟩, fun c1 hc e g h1 => ⟨by rw [aW, if_neg (by omega)]; rfl, ⟨fun a => absurd a (by omega), fun _ => by rw [hc]; exact h1⟩, rfl⟩⟩
  generalize PW n (some (.int (aW (cdB t c) (nI (t + 1))))) (fun g => (cdB t c = 0 → ∃ bf' : Nat → Int32, MB h g (nI 0) z sv sm bf' (nI (t + 1)) ha ∧ BB bf' (t + 1) (upN b t (nn c))) ∧ (¬ cdB t c = 0 → MB h g (nI (cdB t c)) z sv sm bf (nI t) ha)) = Q at hQ ⊢
  refine ez_aload_n (q := 1) 0 dX8_append_0 rfl rfl rfl ?_
  refine ez_iload_n (q := 2) 1 dX8_append_1 rfl rfl rfl ?_
  refine ez_bipush (v := nI 33) (q := 4) dX8_append_2 (by decide) rfl ?_
  refine ez_bipush (v := nI 126) (q := 6) dX8_append_4 (by decide) rfl ?_
  refine cUv (q := 9) dX8_append_6 ck_X8_41 (t_X8_in (a := 33) (b := 126) (by decide) (by decide)) rfl rfl rfl (Nat.le_of_ble_eq_true rfl) rfl ?_
  refine ez_ifneB (q := 12) (tgt := 16) dX8_append_9 (by decide) rfl (fun hc9 => ?_) (fun hc9 => ?_)
  · refine ez_aload_n (q := 17) 0 dX8_append_16 rfl rfl rfl ?_
    refine ez_getf (q := 20) dX8_append_17 fl_X8_118 hM.1 rfl rfl ?_
    refine ez_bipush (v := nI 60) (q := 22) dX8_append_20 (by decide) rfl ?_
    refine ez_icmpneN (q := 25) (tgt := 29) dX8_append_22 (by decide) (by omega) (by omega) rfl (fun hc22 => ?_) (fun hc22 => ?_)
    · have hQ0 := hQ.1 (by simp [cdB, hc9, hc22])
      clear hQ
      obtain ⟨c, rfl, hcn, hc1, hc2⟩ := inB_c hc9
      rw [hcn] at hQ0
      refine ez_iconst (v := nI 0) (q := 30) dX8_append_29 (by decide) rfl ?_
      refine pM_th (q := 33) dX8_append_30 fl_X8_37 hM rfl (fun g hM => ?_)
      refine ez_aload_n (q := 34) 0 dX8_append_33 rfl rfl rfl ?_
      refine ez_getf (q := 37) dX8_append_34 fl_X8_37 hM.1 rfl rfl ?_
      refine ez_ifleN (q := 40) (tgt := 42) dX8_append_37 (by decide) (by decide) rfl (fun hc37 => ?_) (fun hc37 => ?_)
      · first
        | exact absurd hc37 (by decide)
        | skip
          refine ez_aload_n (q := 43) 0 dX8_append_42 rfl rfl rfl ?_
          refine ez_getf (q := 46) dX8_append_43 fl_X8_16 hM.1 rfl rfl ?_
          refine ez_aload_n (q := 47) 0 dX8_append_46 rfl rfl rfl ?_
          refine ez_getf (q := 50) dX8_append_47 fl_X8_118 hM.1 rfl rfl ?_
          refine ez_iload_n (q := 51) 1 dX8_append_50 rfl rfl rfl ?_
          refine sM_bf (q := 52) dX8_append_51 hM rfl (by omega) rfl (fun g hM => ?_)
          refine ez_aload_n (q := 53) 0 dX8_append_52 rfl rfl rfl ?_
          refine ez_dup (q := 54) dX8_append_53 rfl rfl ?_
          refine ez_getf (q := 57) dX8_append_54 fl_X8_118 hM.1 rfl rfl ?_
          refine ez_iconst (v := nI 1) (q := 58) dX8_append_57 (by decide) rfl ?_
          refine ez_iaddN (q := 59) dX8_append_58 rfl ?_
          refine pM_ty (q := 62) dX8_append_59 fl_X8_118 hM rfl (fun g hM => ?_)
          refine ez_aload_n (q := 63) 0 dX8_append_62 rfl rfl rfl ?_
          refine ez_getf (q := 66) dX8_append_63 fl_X8_118 hM.1 rfl rfl ?_
          exact ez_iret dX8_append_66 rfl (hQ0 _ _ ⟨_, _, _, _, _, _, _, _, _, _, _, _, hM⟩ ⟨by omega, fun j hj => by by_cases e : j = t; { rw [e, up_eq, upN_eq]; exact ⟨rfl, by omega⟩ }; { rw [up_ne _ _ e, upN_ne _ _ e]; exact hb.2 j (by omega) }⟩)
      · first
        | exact absurd hc37 (by decide)
        | skip
          refine ez_iconst (v := nI 0) (q := 41) dX8_append_40 (by decide) rfl ?_
          exact ez_iret dX8_append_41 rfl (hQ1 _ ⟨_, _, _, _, _, _, _, _, _, _, _, _, hM⟩)
    · have hQ1 := hQ.2 2 (by simp [cdB, hc9, hc22]) (by decide)
      clear hQ
      refine ez_iconst (v := nI 2) (q := 26) dX8_append_25 (by decide) rfl ?_
      refine ez_goto (q := 30) dX8_append_26 (by decide) ?_
      refine pM_th (q := 33) dX8_append_30 fl_X8_37 hM rfl (fun g hM => ?_)
      refine ez_aload_n (q := 34) 0 dX8_append_33 rfl rfl rfl ?_
      refine ez_getf (q := 37) dX8_append_34 fl_X8_37 hM.1 rfl rfl ?_
      refine ez_ifleN (q := 40) (tgt := 42) dX8_append_37 (by decide) (by decide) rfl (fun hc37 => ?_) (fun hc37 => ?_)
      · first
        | exact absurd hc37 (by decide)
        | skip
          refine ez_aload_n (q := 43) 0 dX8_append_42 rfl rfl rfl ?_
          refine ez_getf (q := 46) dX8_append_43 fl_X8_16 hM.1 rfl rfl ?_
          refine ez_aload_n (q := 47) 0 dX8_append_46 rfl rfl rfl ?_
          refine ez_getf (q := 50) dX8_append_47 fl_X8_118 hM.1 rfl rfl ?_
          refine ez_iload_n (q := 51) 1 dX8_append_50 rfl rfl rfl ?_
          refine sM_bf (q := 52) dX8_append_51 hM rfl (by omega) rfl (fun g hM => ?_)
          refine ez_aload_n (q := 53) 0 dX8_append_52 rfl rfl rfl ?_
          refine ez_dup (q := 54) dX8_append_53 rfl rfl ?_
          refine ez_getf (q := 57) dX8_append_54 fl_X8_118 hM.1 rfl rfl ?_
          refine ez_iconst (v := nI 1) (q := 58) dX8_append_57 (by decide) rfl ?_
          refine ez_iaddN (q := 59) dX8_append_58 rfl ?_
          refine pM_ty (q := 62) dX8_append_59 fl_X8_118 hM rfl (fun g hM => ?_)
          refine ez_aload_n (q := 63) 0 dX8_append_62 rfl rfl rfl ?_
          refine ez_getf (q := 66) dX8_append_63 fl_X8_118 hM.1 rfl rfl ?_
          exact ez_iret dX8_append_66 rfl (hQ0 _ _ ⟨_, _, _, _, _, _, _, _, _, _, _, _, hM⟩ ⟨by omega, fun j hj => by by_cases e : j = t; { rw [e, up_eq, upN_eq]; exact ⟨rfl, by omega⟩ }; { rw [up_ne _ _ e, upN_ne _ _ e]; exact hb.2 j (by omega) }⟩)
      · first
        | exact absurd hc37 (by decide)
        | skip
          refine ez_iconst (v := nI 0) (q := 41) dX8_append_40 (by decide) rfl ?_
          exact ez_iret dX8_append_41 rfl (hQ1 _ ⟨_, _, _, _, _, _, _, _, _, _, _, _, hM⟩)
  · have hQ1 := hQ.2 1 (by simp [cdB, hc9]) (by decide)
    clear hQ
    refine ez_iconst (v := nI 1) (q := 13) dX8_append_12 (by decide) rfl ?_
    refine ez_goto (q := 30) dX8_append_13 (by decide) ?_
    refine pM_th (q := 33) dX8_append_30 fl_X8_37 hM rfl (fun g hM => ?_)
    refine ez_aload_n (q := 34) 0 dX8_append_33 rfl rfl rfl ?_
    refine ez_getf (q := 37) dX8_append_34 fl_X8_37 hM.1 rfl rfl ?_
    refine ez_ifleN (q := 40) (tgt := 42) dX8_append_37 (by decide) (by decide) rfl (fun hc37 => ?_) (fun hc37 => ?_)
    · first
      | exact absurd hc37 (by decide)
      | skip
        refine ez_aload_n (q := 43) 0 dX8_append_42 rfl rfl rfl ?_
        refine ez_getf (q := 46) dX8_append_43 fl_X8_16 hM.1 rfl rfl ?_
        refine ez_aload_n (q := 47) 0 dX8_append_46 rfl rfl rfl ?_
        refine ez_getf (q := 50) dX8_append_47 fl_X8_118 hM.1 rfl rfl ?_
        refine ez_iload_n (q := 51) 1 dX8_append_50 rfl rfl rfl ?_
        refine sM_bf (q := 52) dX8_append_51 hM rfl (by omega) rfl (fun g hM => ?_)
        refine ez_aload_n (q := 53) 0 dX8_append_52 rfl rfl rfl ?_
        refine ez_dup (q := 54) dX8_append_53 rfl rfl ?_
        refine ez_getf (q := 57) dX8_append_54 fl_X8_118 hM.1 rfl rfl ?_
        refine ez_iconst (v := nI 1) (q := 58) dX8_append_57 (by decide) rfl ?_
        refine ez_iaddN (q := 59) dX8_append_58 rfl ?_
        refine pM_ty (q := 62) dX8_append_59 fl_X8_118 hM rfl (fun g hM => ?_)
        refine ez_aload_n (q := 63) 0 dX8_append_62 rfl rfl rfl ?_
        refine ez_getf (q := 66) dX8_append_63 fl_X8_118 hM.1 rfl rfl ?_
        exact ez_iret dX8_append_66 rfl (hQ0 _ _ ⟨_, _, _, _, _, _, _, _, _, _, _, _, hM⟩ ⟨by omega, fun j hj => by by_cases e : j = t; { rw [e, up_eq, upN_eq]; exact ⟨rfl, by omega⟩ }; { rw [up_ne _ _ e, upN_ne _ _ e]; exact hb.2 j (by omega) }⟩)
    · first
      | exact absurd hc37 (by decide)
      | skip
        refine ez_iconst (v := nI 0) (q := 41) dX8_append_40 (by decide) rfl ?_
        exact ez_iret dX8_append_41 rfl (hQ1 _ ⟨_, _, _, _, _, _, _, _, _, _, _, _, hM⟩)

set_option maxHeartbeats 800000 in
set_option maxRecDepth 100000 in
theorem t_X8_clearBuffer {G : ez_G} {d n : Nat} {h : ez_H} {t r : Nat} {th sm wa rm fm ff : Int32} {z sv bf se ro le de rw sp : Nat → Int32} {ww : Bool} {ha : Int64} (hM : IM h h th z sv sm bf (nI t) (nI r) se ro le de wa ww rw rm sp fm ff ha)  : Con G mX8_clearBuffer (d) [.ref 64] h n 0 0 (PW n (some (.int (nI t))) (fun g => MB h g (nI 0) z sv sm bf (nI 0) ha)) := by
  refine Con.of [some (.ref 64), none] pl_X8 rfl (Nat.le_of_ble_eq_true rfl) rfl ?_
  have hQ : ∀ g, MB h g (nI 0) z sv sm bf (nI 0) ha → (PW n (some (.int (nI t))) (fun g => MB h g (nI 0) z sv sm bf (nI 0) ha)) (.inl (some (.int (nI t)))) g n := fun g hW => ⟨rfl, hW, rfl⟩
  generalize PW n (some (.int (nI t))) (fun g => MB h g (nI 0) z sv sm bf (nI 0) ha) = Q at hQ ⊢
  refine ez_aload_n (q := 1) 0 dX8_clearBuffer_0 rfl rfl rfl ?_
  refine ez_iconst (v := nI 0) (q := 2) dX8_clearBuffer_1 (by decide) rfl ?_
  refine pM_th (q := 5) dX8_clearBuffer_2 fl_X8_37 hM rfl (fun g hM => ?_)
  refine ez_aload_n (q := 6) 0 dX8_clearBuffer_5 rfl rfl rfl ?_
  refine ez_getf (q := 9) dX8_clearBuffer_6 fl_X8_118 hM.1 rfl rfl ?_
  refine ez_istore_1 (q := 10) dX8_clearBuffer_9 rfl (by decide) rfl rfl ?_
  refine ez_aload_n (q := 11) 0 dX8_clearBuffer_10 rfl rfl rfl ?_
  refine ez_iconst (v := nI 0) (q := 12) dX8_clearBuffer_11 (by decide) rfl ?_
  refine pM_ty (q := 15) dX8_clearBuffer_12 fl_X8_118 hM rfl (fun g hM => ?_)
  refine ez_iload_n (q := 16) 1 dX8_clearBuffer_15 rfl rfl rfl ?_
  exact ez_iret dX8_clearBuffer_16 rfl (hQ _ ⟨_, _, _, _, _, _, _, _, _, _, _, _, hM⟩)

def cdD (b : Nat → Nat) (t : Nat) (w : Int32) : Nat := if inB w 0 3 = true then (if whoB b t = true then 0 else 2) else 1
set_option maxHeartbeats 800000 in
set_option maxRecDepth 100000 in
theorem t_X8_read {G : ez_G} {d n : Nat} {h : ez_H} {n' f : Nat} {L T ln : Nat → Nat} {sg : Nat → Nat → Nat} {w : Int32} {t : Nat} {b : Nat → Nat} {k r : Nat} {zs : Nat → Nat → Int32} {th wa rm fm ff : Int32} {z sv bf se ro le de rw sp : Nat → Int32} {ww : Bool} {ha : Int64} (hM : IM h h th z sv (nI k) bf (nI t) (nI r) se ro le de wa ww rw rm sp fm ff ha) (hz : ZZ z n' f L T ln sg) (ho : OK n' f L T ln sg) (hb : BB bf t b) (hk : k ≤ 6) (hv : SVD sv k zs) : Con G mX8_read (d + 5) [.ref 64, .int w] h n 0 0 (PW n (some (.int (aW (cdD b t w) (nI t)))) (fun g => (cdD b t w = 0 → ∃ z' sv' : Nat → Int32, MB h g (nI 0) z' sv' (nI (svk k)) bf (nI 0) ha ∧ ZZ z' n' f L T (upN ln (nn w) t) (sgN sg (nn w) b) ∧ SVD sv' (svk k) (pushZ zs k z)) ∧ (¬ cdD b t w = 0 → MB h g (nI (cdD b t w)) z sv (nI k) bf (nI t) ha))) := by
  have hn := ho.1
  have hn0 := hz.1
  have ht := hb.1
  refine Con.of [some (.ref 64), some (.int w), none] pl_X8 rfl (Nat.le_of_ble_eq_true rfl) rfl ?_
  have hQ : (cdD b t w = 0 → ∀ g (z' sv' : Nat → Int32), MB h g (nI 0) z' sv' (nI (svk k)) bf (nI 0) ha → ZZ z' n' f L T (upN ln (nn w) t) (sgN sg (nn w) b) → SVD sv' (svk k) (pushZ zs k z) → (PW n (some (.int (aW (cdD b t w) (nI t)))) (fun g => (cdD b t w = 0 → ∃ z' sv' : Nat → Int32, MB h g (nI 0) z' sv' (nI (svk k)) bf (nI 0) ha ∧ ZZ z' n' f L T (upN ln (nn w) t) (sgN sg (nn w) b) ∧ SVD sv' (svk k) (pushZ zs k z)) ∧ (¬ cdD b t w = 0 → MB h g (nI (cdD b t w)) z sv (nI k) bf (nI t) ha))) (.inl (some (.int (nI t)))) g n) ∧ (∀ c, cdD b t w = c → c ≠ 0 → ∀ g, MB h g (nI c) z sv (nI k) bf (nI t) ha → (PW n (some (.int (aW (cdD b t w) (nI t)))) (fun g => (cdD b t w = 0 → ∃ z' sv' : Nat → Int32, MB h g (nI 0) z' sv' (nI (svk k)) bf (nI 0) ha ∧ ZZ z' n' f L T (upN ln (nn w) t) (sgN sg (nn w) b) ∧ SVD sv' (svk k) (pushZ zs k z)) ∧ (¬ cdD b t w = 0 → MB h g (nI (cdD b t w)) z sv (nI k) bf (nI t) ha))) (.inl (some (.int (nI 0)))) g n) := ⟨fun e g z' sv' h1 h2 h3 => ⟨by rw [aW, if_pos e], ⟨fun _ => ⟨z', sv', h1, h2, h3⟩, fun a => absurd e a⟩, rfl⟩, fun c hc e g h1 => ⟨by rw [aW, if_neg (by omega)]; rfl, ⟨fun a => absurd a (by omega), fun _ => by rw [hc]; exact h1⟩, rfl⟩⟩
  generalize PW n (some (.int (aW (cdD b t w) (nI t)))) (fun g => (cdD b t w = 0 → ∃ z' sv' : Nat → Int32, MB h g (nI 0) z' sv' (nI (svk k)) bf (nI 0) ha ∧ ZZ z' n' f L T (upN ln (nn w) t) (sgN sg (nn w) b) ∧ SVD sv' (svk k) (pushZ zs k z)) ∧ (¬ cdD b t w = 0 → MB h g (nI (cdD b t w)) z sv (nI k) bf (nI t) ha)) = Q at hQ ⊢
  refine ez_aload_n (q := 1) 0 dX8_read_0 rfl rfl rfl ?_
  refine ez_iload_n (q := 2) 1 dX8_read_1 rfl rfl rfl ?_
  refine cUv (q := 5) dX8_read_2 ck_X8_134 (t_X8_isWish) rfl rfl rfl (Nat.le_of_ble_eq_true rfl) rfl ?_
  refine ez_ifneB (q := 8) (tgt := 12) dX8_read_5 (by decide) rfl (fun hc5 => ?_) (fun hc5 => ?_)
  · obtain ⟨w, rfl, hw, hw2⟩ := inB_nat hc5
    rw [nn_nI hw2] at hQ
    refine ez_aload_n (q := 13) 0 dX8_read_12 rfl rfl rfl ?_
    refine cXv (q := 16) dX8_read_13 ck_X8_137 hM.1 (t_X8_isWhole hM.rb hb) rfl ⟨by decide, rfl⟩ rfl rfl rfl (Nat.le_of_ble_eq_true rfl) rfl (fun g hW => ?_)
    obtain ⟨wa', ww', hM2⟩ := hW
    have hM := hM.tr hM2
    refine ez_ifeqB (q := 19) (tgt := 23) dX8_read_16 (by decide) rfl (fun hc16 => ?_) (fun hc16 => ?_)
    · have hQ1 := hQ.2 2 (by simp [cdD, hc5, hc16]) (by decide)
      clear hQ
      refine ez_iconst (v := nI 2) (q := 24) dX8_read_23 (by decide) rfl ?_
      refine pM_th (q := 27) dX8_read_24 fl_X8_37 hM rfl (fun g hM => ?_)
      refine ez_aload_n (q := 28) 0 dX8_read_27 rfl rfl rfl ?_
      refine ez_getf (q := 31) dX8_read_28 fl_X8_37 hM.1 rfl rfl ?_
      refine ez_ifleN (q := 34) (tgt := 36) dX8_read_31 (by decide) (by decide) rfl (fun hc31 => ?_) (fun hc31 => ?_)
      · first
        | exact absurd hc31 (by decide)
        | skip
          refine ez_aload_n (q := 37) 0 dX8_read_36 rfl rfl rfl ?_
          refine cX0 (q := 40) dX8_read_37 ck_X8_48 hM.1 (t_X8_save hM.rb hk hv) rfl ⟨by decide, rfl⟩ rfl rfl rfl (Nat.le_of_ble_eq_true rfl) rfl (fun g hW => ?_)
          obtain ⟨sv', hM2, hv⟩ := hW
          have hM := hM.tr hM2
          refine ez_aload_n (q := 41) 0 dX8_read_40 rfl rfl rfl ?_
          refine ez_getf (q := 44) dX8_read_41 fl_X8_7 hM.1 rfl rfl ?_
          refine ez_bipush (v := nI 22) (q := 46) dX8_read_44 (by decide) rfl ?_
          refine ez_bipush (v := nI 41) (q := 48) dX8_read_46 (by decide) rfl ?_
          refine ez_iload_n (q := 49) 1 dX8_read_48 rfl rfl rfl ?_
          refine ez_imulN (q := 50) dX8_read_49 rfl ?_
          refine ez_iaddN (q := 51) dX8_read_50 rfl ?_
          refine ez_aload_n (q := 52) 0 dX8_read_51 rfl rfl rfl ?_
          refine ez_getf (q := 55) dX8_read_52 fl_X8_118 hM.1 rfl rfl ?_
          refine sM_z (q := 56) dX8_read_55 hM rfl (by omega) rfl (fun g hM => ?_)
          refine ez_iconst (v := nI 0) (q := 57) dX8_read_56 (by decide) rfl ?_
          refine ez_istore_2 (q := 58) dX8_read_57 rfl (by decide) rfl rfl ?_
          refine ez_loop (α := Nat) (fun i => 40 - i) (P := fun i => ∀ (g : ez_H) (y : Nat → Int32), IM h g (nI 0) y sv' (nI (svk k)) bf (nI t) (nI r) se ro le de wa' ww' rw rm sp fm ff ha → (i ≤ 40) → (y (22 + 41 * w) = nI t) → (∀ j, j < i → j < t → y ((22 + 41 * w) + 1 + j) = nI (b j)) → (∀ j, j < (22 + 41 * w) ∨ (22 + 41 * w) + 41 ≤ j → y j = z j) → E G mX8_read (d + 5) Q g n 0 0 58 [some (.ref 64), some (.int (nI w)), some (.int (nI i))] []) ?_ 0 g _ hM (by omega) (up_eq _ _ _) (fun j hj => absurd hj (by omega)) (fun j hj => up_ne _ _ (by omega))
          intro i ih58 g y hM hi y1 y2 y3
          refine ez_iload_n (q := 59) 2 dX8_read_58 rfl rfl rfl ?_
          refine ez_bipush (v := nI 40) (q := 61) dX8_read_59 (by decide) rfl ?_
          refine ez_icmpgeN (q := 64) (tgt := 104) dX8_read_61 (by decide) (by omega) (by omega) rfl (fun hc61 => ?_) (fun hc61 => ?_)
          · refine ez_aload_n (q := 105) 0 dX8_read_104 rfl rfl rfl ?_
            refine ez_getf (q := 108) dX8_read_105 fl_X8_118 hM.1 rfl rfl ?_
            refine ez_istore_2 (q := 109) dX8_read_108 rfl (by decide) rfl rfl ?_
            refine ez_aload_n (q := 110) 0 dX8_read_109 rfl rfl rfl ?_
            refine ez_iconst (v := nI 0) (q := 111) dX8_read_110 (by decide) rfl ?_
            refine pM_ty (q := 114) dX8_read_111 fl_X8_118 hM rfl (fun g hM => ?_)
            refine ez_iload_n (q := 115) 2 dX8_read_114 rfl rfl rfl ?_
            exact ez_iret dX8_read_115 rfl (hQ0 _ _ _ ⟨_, _, _, _, _, _, _, _, _, _, _, _, hM⟩ (hz.wish ho (by omega) ht4 y1 (fun j hj => y2 j (by omega) hj) y3) hv)
          · refine ez_aload_n (q := 65) 0 dX8_read_64 rfl rfl rfl ?_
            refine ez_getf (q := 68) dX8_read_65 fl_X8_7 hM.1 rfl rfl ?_
            refine ez_bipush (v := nI 22) (q := 70) dX8_read_68 (by decide) rfl ?_
            refine ez_bipush (v := nI 41) (q := 72) dX8_read_70 (by decide) rfl ?_
            refine ez_iload_n (q := 73) 1 dX8_read_72 rfl rfl rfl ?_
            refine ez_imulN (q := 74) dX8_read_73 rfl ?_
            refine ez_iaddN (q := 75) dX8_read_74 rfl ?_
            refine ez_iconst (v := nI 1) (q := 76) dX8_read_75 (by decide) rfl ?_
            refine ez_iaddN (q := 77) dX8_read_76 rfl ?_
            refine ez_iload_n (q := 78) 2 dX8_read_77 rfl rfl rfl ?_
            refine ez_iaddN (q := 79) dX8_read_78 rfl ?_
            refine ez_iload_n (q := 80) 2 dX8_read_79 rfl rfl rfl ?_
            refine ez_aload_n (q := 81) 0 dX8_read_80 rfl rfl rfl ?_
            refine ez_getf (q := 84) dX8_read_81 fl_X8_118 hM.1 rfl rfl ?_
            refine ez_icmpgeN (q := 87) (tgt := 96) dX8_read_84 (by decide) (by omega) (by omega) rfl (fun hc84 => ?_) (fun hc84 => ?_)
            · refine ez_iconst (v := nI 0) (q := 97) dX8_read_96 (by decide) rfl ?_
              refine sM_z (q := 98) dX8_read_97 hM rfl (by omega) rfl (fun g hM => ?_)
              refine ez_iincN_2 (q := 101) dX8_read_98 (by decide) rfl rfl ?_
              refine ez_goto (q := 58) dX8_read_101 (by decide) ?_
              exact E.fg (ih58 (i + 1) (by omega) g _ hM (by omega) (by rw [up_ne _ _ (by omega)]; exact y1) (fun j hj hj2 => by by_cases e : j = i; { rw [e, up_eq]; first | exact (hb.2 i (by omega)).1 | exact absurd hj2 (by omega) }; { rw [up_ne _ _ (by omega)]; exact y2 j (by omega) hj2 }) (fun j hj => by rw [up_ne _ _ (by omega)]; exact y3 j hj)) ⟨Or.inr (rfl), Or.inr (rfl), Or.inr (rfl), trivial⟩
            · refine ez_aload_n (q := 88) 0 dX8_read_87 rfl rfl rfl ?_
              refine ez_getf (q := 91) dX8_read_88 fl_X8_16 hM.1 rfl rfl ?_
              refine ez_iload_n (q := 92) 2 dX8_read_91 rfl rfl rfl ?_
              refine ez_iald (q := 93) dX8_read_92 hM.2.2.2.1 rfl (by omega) (by decide) rfl ?_
              refine ez_goto (q := 97) dX8_read_93 (by decide) ?_
              refine sM_z (q := 98) dX8_read_97 hM rfl (by omega) rfl (fun g hM => ?_)
              refine ez_iincN_2 (q := 101) dX8_read_98 (by decide) rfl rfl ?_
              refine ez_goto (q := 58) dX8_read_101 (by decide) ?_
              exact E.fg (ih58 (i + 1) (by omega) g _ hM (by omega) (by rw [up_ne _ _ (by omega)]; exact y1) (fun j hj hj2 => by by_cases e : j = i; { rw [e, up_eq]; first | exact (hb.2 i (by omega)).1 | exact absurd hj2 (by omega) }; { rw [up_ne _ _ (by omega)]; exact y2 j (by omega) hj2 }) (fun j hj => by rw [up_ne _ _ (by omega)]; exact y3 j hj)) ⟨Or.inr (rfl), Or.inr (rfl), Or.inr (rfl), trivial⟩
      · first
        | exact absurd hc31 (by decide)
        | skip
          refine ez_iconst (v := nI 0) (q := 35) dX8_read_34 (by decide) rfl ?_
          exact ez_iret dX8_read_35 rfl (hQ1 _ ⟨_, _, _, _, _, _, _, _, _, _, _, _, hM⟩)
    · have hQ0 := hQ.1 (by simp [cdD, hc5, hc16])
      clear hQ
      obtain ⟨hwf, ht0, ht4⟩ := who_w hc16
      refine ez_iconst (v := nI 0) (q := 20) dX8_read_19 (by decide) rfl ?_
      refine ez_goto (q := 24) dX8_read_20 (by decide) ?_
      refine pM_th (q := 27) dX8_read_24 fl_X8_37 hM rfl (fun g hM => ?_)
      refine ez_aload_n (q := 28) 0 dX8_read_27 rfl rfl rfl ?_
      refine ez_getf (q := 31) dX8_read_28 fl_X8_37 hM.1 rfl rfl ?_
      refine ez_ifleN (q := 34) (tgt := 36) dX8_read_31 (by decide) (by decide) rfl (fun hc31 => ?_) (fun hc31 => ?_)
      · first
        | exact absurd hc31 (by decide)
        | skip
          refine ez_aload_n (q := 37) 0 dX8_read_36 rfl rfl rfl ?_
          refine cX0 (q := 40) dX8_read_37 ck_X8_48 hM.1 (t_X8_save hM.rb hk hv) rfl ⟨by decide, rfl⟩ rfl rfl rfl (Nat.le_of_ble_eq_true rfl) rfl (fun g hW => ?_)
          obtain ⟨sv', hM2, hv⟩ := hW
          have hM := hM.tr hM2
          refine ez_aload_n (q := 41) 0 dX8_read_40 rfl rfl rfl ?_
          refine ez_getf (q := 44) dX8_read_41 fl_X8_7 hM.1 rfl rfl ?_
          refine ez_bipush (v := nI 22) (q := 46) dX8_read_44 (by decide) rfl ?_
          refine ez_bipush (v := nI 41) (q := 48) dX8_read_46 (by decide) rfl ?_
          refine ez_iload_n (q := 49) 1 dX8_read_48 rfl rfl rfl ?_
          refine ez_imulN (q := 50) dX8_read_49 rfl ?_
          refine ez_iaddN (q := 51) dX8_read_50 rfl ?_
          refine ez_aload_n (q := 52) 0 dX8_read_51 rfl rfl rfl ?_
          refine ez_getf (q := 55) dX8_read_52 fl_X8_118 hM.1 rfl rfl ?_
          refine sM_z (q := 56) dX8_read_55 hM rfl (by omega) rfl (fun g hM => ?_)
          refine ez_iconst (v := nI 0) (q := 57) dX8_read_56 (by decide) rfl ?_
          refine ez_istore_2 (q := 58) dX8_read_57 rfl (by decide) rfl rfl ?_
          refine ez_loop (α := Nat) (fun i => 40 - i) (P := fun i => ∀ (g : ez_H) (y : Nat → Int32), IM h g (nI 0) y sv' (nI (svk k)) bf (nI t) (nI r) se ro le de wa' ww' rw rm sp fm ff ha → (i ≤ 40) → (y (22 + 41 * w) = nI t) → (∀ j, j < i → j < t → y ((22 + 41 * w) + 1 + j) = nI (b j)) → (∀ j, j < (22 + 41 * w) ∨ (22 + 41 * w) + 41 ≤ j → y j = z j) → E G mX8_read (d + 5) Q g n 0 0 58 [some (.ref 64), some (.int (nI w)), some (.int (nI i))] []) ?_ 0 g _ hM (by omega) (up_eq _ _ _) (fun j hj => absurd hj (by omega)) (fun j hj => up_ne _ _ (by omega))
          intro i ih58 g y hM hi y1 y2 y3
          refine ez_iload_n (q := 59) 2 dX8_read_58 rfl rfl rfl ?_
          refine ez_bipush (v := nI 40) (q := 61) dX8_read_59 (by decide) rfl ?_
          refine ez_icmpgeN (q := 64) (tgt := 104) dX8_read_61 (by decide) (by omega) (by omega) rfl (fun hc61 => ?_) (fun hc61 => ?_)
          · refine ez_aload_n (q := 105) 0 dX8_read_104 rfl rfl rfl ?_
            refine ez_getf (q := 108) dX8_read_105 fl_X8_118 hM.1 rfl rfl ?_
            refine ez_istore_2 (q := 109) dX8_read_108 rfl (by decide) rfl rfl ?_
            refine ez_aload_n (q := 110) 0 dX8_read_109 rfl rfl rfl ?_
            refine ez_iconst (v := nI 0) (q := 111) dX8_read_110 (by decide) rfl ?_
            refine pM_ty (q := 114) dX8_read_111 fl_X8_118 hM rfl (fun g hM => ?_)
            refine ez_iload_n (q := 115) 2 dX8_read_114 rfl rfl rfl ?_
            exact ez_iret dX8_read_115 rfl (hQ0 _ _ _ ⟨_, _, _, _, _, _, _, _, _, _, _, _, hM⟩ (hz.wish ho (by omega) ht4 y1 (fun j hj => y2 j (by omega) hj) y3) hv)
          · refine ez_aload_n (q := 65) 0 dX8_read_64 rfl rfl rfl ?_
            refine ez_getf (q := 68) dX8_read_65 fl_X8_7 hM.1 rfl rfl ?_
            refine ez_bipush (v := nI 22) (q := 70) dX8_read_68 (by decide) rfl ?_
            refine ez_bipush (v := nI 41) (q := 72) dX8_read_70 (by decide) rfl ?_
            refine ez_iload_n (q := 73) 1 dX8_read_72 rfl rfl rfl ?_
            refine ez_imulN (q := 74) dX8_read_73 rfl ?_
            refine ez_iaddN (q := 75) dX8_read_74 rfl ?_
            refine ez_iconst (v := nI 1) (q := 76) dX8_read_75 (by decide) rfl ?_
            refine ez_iaddN (q := 77) dX8_read_76 rfl ?_
            refine ez_iload_n (q := 78) 2 dX8_read_77 rfl rfl rfl ?_
            refine ez_iaddN (q := 79) dX8_read_78 rfl ?_
            refine ez_iload_n (q := 80) 2 dX8_read_79 rfl rfl rfl ?_
            refine ez_aload_n (q := 81) 0 dX8_read_80 rfl rfl rfl ?_
            refine ez_getf (q := 84) dX8_read_81 fl_X8_118 hM.1 rfl rfl ?_
            refine ez_icmpgeN (q := 87) (tgt := 96) dX8_read_84 (by decide) (by omega) (by omega) rfl (fun hc84 => ?_) (fun hc84 => ?_)
            · refine ez_iconst (v := nI 0) (q := 97) dX8_read_96 (by decide) rfl ?_
              refine sM_z (q := 98) dX8_read_97 hM rfl (by omega) rfl (fun g hM => ?_)
              refine ez_iincN_2 (q := 101) dX8_read_98 (by decide) rfl rfl ?_
              refine ez_goto (q := 58) dX8_read_101 (by decide) ?_
              exact E.fg (ih58 (i + 1) (by omega) g _ hM (by omega) (by rw [up_ne _ _ (by omega)]; exact y1) (fun j hj hj2 => by by_cases e : j = i; { rw [e, up_eq]; first | exact (hb.2 i (by omega)).1 | exact absurd hj2 (by omega) }; { rw [up_ne _ _ (by omega)]; exact y2 j (by omega) hj2 }) (fun j hj => by rw [up_ne _ _ (by omega)]; exact y3 j hj)) ⟨Or.inr (rfl), Or.inr (rfl), Or.inr (rfl), trivial⟩
            · refine ez_aload_n (q := 88) 0 dX8_read_87 rfl rfl rfl ?_
              refine ez_getf (q := 91) dX8_read_88 fl_X8_16 hM.1 rfl rfl ?_
              refine ez_iload_n (q := 92) 2 dX8_read_91 rfl rfl rfl ?_
              refine ez_iald (q := 93) dX8_read_92 hM.2.2.2.1 rfl (by omega) (by decide) rfl ?_
              refine ez_goto (q := 97) dX8_read_93 (by decide) ?_
              refine sM_z (q := 98) dX8_read_97 hM rfl (by omega) rfl (fun g hM => ?_)
              refine ez_iincN_2 (q := 101) dX8_read_98 (by decide) rfl rfl ?_
              refine ez_goto (q := 58) dX8_read_101 (by decide) ?_
              exact E.fg (ih58 (i + 1) (by omega) g _ hM (by omega) (by rw [up_ne _ _ (by omega)]; exact y1) (fun j hj hj2 => by by_cases e : j = i; { rw [e, up_eq]; first | exact (hb.2 i (by omega)).1 | exact absurd hj2 (by omega) }; { rw [up_ne _ _ (by omega)]; exact y2 j (by omega) hj2 }) (fun j hj => by rw [up_ne _ _ (by omega)]; exact y3 j hj)) ⟨Or.inr (rfl), Or.inr (rfl), Or.inr (rfl), trivial⟩
      · first
        | exact absurd hc31 (by decide)
        | skip
          refine ez_iconst (v := nI 0) (q := 35) dX8_read_34 (by decide) rfl ?_
          exact ez_iret dX8_read_35 rfl (hQ1 _ ⟨_, _, _, _, _, _, _, _, _, _, _, _, hM⟩)
  · have hQ1 := hQ.2 1 (by simp [cdD, hc5]) (by decide)
    clear hQ
    refine ez_iconst (v := nI 1) (q := 9) dX8_read_8 (by decide) rfl ?_
    refine ez_goto (q := 24) dX8_read_9 (by decide) ?_
    refine pM_th (q := 27) dX8_read_24 fl_X8_37 hM rfl (fun g hM => ?_)
    refine ez_aload_n (q := 28) 0 dX8_read_27 rfl rfl rfl ?_
    refine ez_getf (q := 31) dX8_read_28 fl_X8_37 hM.1 rfl rfl ?_
    refine ez_ifleN (q := 34) (tgt := 36) dX8_read_31 (by decide) (by decide) rfl (fun hc31 => ?_) (fun hc31 => ?_)
    · first
      | exact absurd hc31 (by decide)
      | skip
        refine ez_aload_n (q := 37) 0 dX8_read_36 rfl rfl rfl ?_
        refine cX0 (q := 40) dX8_read_37 ck_X8_48 hM.1 (t_X8_save hM.rb hk hv) rfl ⟨by decide, rfl⟩ rfl rfl rfl (Nat.le_of_ble_eq_true rfl) rfl (fun g hW => ?_)
        obtain ⟨sv', hM2, hv⟩ := hW
        have hM := hM.tr hM2
        refine ez_aload_n (q := 41) 0 dX8_read_40 rfl rfl rfl ?_
        refine ez_getf (q := 44) dX8_read_41 fl_X8_7 hM.1 rfl rfl ?_
        refine ez_bipush (v := nI 22) (q := 46) dX8_read_44 (by decide) rfl ?_
        refine ez_bipush (v := nI 41) (q := 48) dX8_read_46 (by decide) rfl ?_
        refine ez_iload_n (q := 49) 1 dX8_read_48 rfl rfl rfl ?_
        refine ez_imul (q := 50) dX8_read_49 rfl ?_
        refine ez_iadd (q := 51) dX8_read_50 rfl ?_
        refine ez_aload_n (q := 52) 0 dX8_read_51 rfl rfl rfl ?_
        refine ez_getf (q := 55) dX8_read_52 fl_X8_118 hM.1 rfl rfl ?_
        refine sM_z (q := 56) dX8_read_55 hM rfl (by omega) rfl (fun g hM => ?_)
        refine ez_iconst (v := nI 0) (q := 57) dX8_read_56 (by decide) rfl ?_
        refine ez_istore_2 (q := 58) dX8_read_57 rfl (by decide) rfl rfl ?_
        refine ez_loop (α := Nat) (fun i => 40 - i) (P := fun i => ∀ (g : ez_H) (y : Nat → Int32), IM h g (nI 0) y sv' (nI (svk k)) bf (nI t) (nI r) se ro le de wa' ww' rw rm sp fm ff ha → (i ≤ 40) → (y (22 + 41 * w) = nI t) → (∀ j, j < i → j < t → y ((22 + 41 * w) + 1 + j) = nI (b j)) → (∀ j, j < (22 + 41 * w) ∨ (22 + 41 * w) + 41 ≤ j → y j = z j) → E G mX8_read (d + 5) Q g n 0 0 58 [some (.ref 64), some (.int (nI w)), some (.int (nI i))] []) ?_ 0 g _ hM (by omega) (up_eq _ _ _) (fun j hj => absurd hj (by omega)) (fun j hj => up_ne _ _ (by omega))
        intro i ih58 g y hM hi y1 y2 y3
        refine ez_iload_n (q := 59) 2 dX8_read_58 rfl rfl rfl ?_
        refine ez_bipush (v := nI 40) (q := 61) dX8_read_59 (by decide) rfl ?_
        refine ez_icmpgeN (q := 64) (tgt := 104) dX8_read_61 (by decide) (by omega) (by omega) rfl (fun hc61 => ?_) (fun hc61 => ?_)
        · refine ez_aload_n (q := 105) 0 dX8_read_104 rfl rfl rfl ?_
          refine ez_getf (q := 108) dX8_read_105 fl_X8_118 hM.1 rfl rfl ?_
          refine ez_istore_2 (q := 109) dX8_read_108 rfl (by decide) rfl rfl ?_
          refine ez_aload_n (q := 110) 0 dX8_read_109 rfl rfl rfl ?_
          refine ez_iconst (v := nI 0) (q := 111) dX8_read_110 (by decide) rfl ?_
          refine pM_ty (q := 114) dX8_read_111 fl_X8_118 hM rfl (fun g hM => ?_)
          refine ez_iload_n (q := 115) 2 dX8_read_114 rfl rfl rfl ?_
          exact ez_iret dX8_read_115 rfl (hQ0 _ _ _ ⟨_, _, _, _, _, _, _, _, _, _, _, _, hM⟩ (hz.wish ho (by omega) ht4 y1 (fun j hj => y2 j (by omega) hj) y3) hv)
        · refine ez_aload_n (q := 65) 0 dX8_read_64 rfl rfl rfl ?_
          refine ez_getf (q := 68) dX8_read_65 fl_X8_7 hM.1 rfl rfl ?_
          refine ez_bipush (v := nI 22) (q := 70) dX8_read_68 (by decide) rfl ?_
          refine ez_bipush (v := nI 41) (q := 72) dX8_read_70 (by decide) rfl ?_
          refine ez_iload_n (q := 73) 1 dX8_read_72 rfl rfl rfl ?_
          refine ez_imul (q := 74) dX8_read_73 rfl ?_
          refine ez_iadd (q := 75) dX8_read_74 rfl ?_
          refine ez_iconst (v := nI 1) (q := 76) dX8_read_75 (by decide) rfl ?_
          refine ez_iadd (q := 77) dX8_read_76 rfl ?_
          refine ez_iload_n (q := 78) 2 dX8_read_77 rfl rfl rfl ?_
          refine ez_iadd (q := 79) dX8_read_78 rfl ?_
          refine ez_iload_n (q := 80) 2 dX8_read_79 rfl rfl rfl ?_
          refine ez_aload_n (q := 81) 0 dX8_read_80 rfl rfl rfl ?_
          refine ez_getf (q := 84) dX8_read_81 fl_X8_118 hM.1 rfl rfl ?_
          refine ez_icmpgeN (q := 87) (tgt := 96) dX8_read_84 (by decide) (by omega) (by omega) rfl (fun hc84 => ?_) (fun hc84 => ?_)
          · refine ez_iconst (v := nI 0) (q := 97) dX8_read_96 (by decide) rfl ?_
            refine sM_z (q := 98) dX8_read_97 hM rfl (by omega) rfl (fun g hM => ?_)
            refine ez_iincN_2 (q := 101) dX8_read_98 (by decide) rfl rfl ?_
            refine ez_goto (q := 58) dX8_read_101 (by decide) ?_
            exact E.fg (ih58 (i + 1) (by omega) g _ hM (by omega) (by rw [up_ne _ _ (by omega)]; exact y1) (fun j hj hj2 => by by_cases e : j = i; { rw [e, up_eq]; first | exact (hb.2 i (by omega)).1 | exact absurd hj2 (by omega) }; { rw [up_ne _ _ (by omega)]; exact y2 j (by omega) hj2 }) (fun j hj => by rw [up_ne _ _ (by omega)]; exact y3 j hj)) ⟨Or.inr (rfl), Or.inr (rfl), Or.inr (rfl), trivial⟩
          · refine ez_aload_n (q := 88) 0 dX8_read_87 rfl rfl rfl ?_
            refine ez_getf (q := 91) dX8_read_88 fl_X8_16 hM.1 rfl rfl ?_
            refine ez_iload_n (q := 92) 2 dX8_read_91 rfl rfl rfl ?_
            refine ez_iald (q := 93) dX8_read_92 hM.2.2.2.1 rfl (by omega) (by decide) rfl ?_
            refine ez_goto (q := 97) dX8_read_93 (by decide) ?_
            refine sM_z (q := 98) dX8_read_97 hM rfl (by omega) rfl (fun g hM => ?_)
            refine ez_iincN_2 (q := 101) dX8_read_98 (by decide) rfl rfl ?_
            refine ez_goto (q := 58) dX8_read_101 (by decide) ?_
            exact E.fg (ih58 (i + 1) (by omega) g _ hM (by omega) (by rw [up_ne _ _ (by omega)]; exact y1) (fun j hj hj2 => by by_cases e : j = i; { rw [e, up_eq]; first | exact (hb.2 i (by omega)).1 | exact absurd hj2 (by omega) }; { rw [up_ne _ _ (by omega)]; exact y2 j (by omega) hj2 }) (fun j hj => by rw [up_ne _ _ (by omega)]; exact y3 j hj)) ⟨Or.inr (rfl), Or.inr (rfl), Or.inr (rfl), trivial⟩
    · first
      | exact absurd hc31 (by decide)
      | skip
        refine ez_iconst (v := nI 0) (q := 35) dX8_read_34 (by decide) rfl ?_
        exact ez_iret dX8_read_35 rfl (hQ1 _ ⟨_, _, _, _, _, _, _, _, _, _, _, _, hM⟩)

def cdN (ln : Nat → Nat) (sg : Nat → Nat → Nat) (w : Int32) : Nat := if inB w 0 3 = true then (if ln (nn w) = 0 ∨ (ln (nn w) = 40 ∧ ¬ sg (nn w) 0 = 33) then 2 else 0) else 1
theorem cdN_2 (ln : Nat → Nat) (sg : Nat → Nat → Nat) (w : Int32) : cdN ln sg w ≤ 2 := by
  rw [cdN]
  split
  · split <;> omega
  · omega
set_option maxHeartbeats 800000 in
set_option maxRecDepth 100000 in
theorem t_X8_whyNotNegate {G : ez_G} {d n : Nat} {h : ez_H} {n' f : Nat} {L T ln : Nat → Nat} {sg : Nat → Nat → Nat} {w : Int32} {r : Nat} {th sm ty wa rm fm ff : Int32} {z sv bf se ro le de rw sp : Nat → Int32} {ww : Bool} {ha : Int64} (hM : IM h h th z sv sm bf ty (nI r) se ro le de wa ww rw rm sp fm ff ha) (hz : ZZ z n' f L T ln sg) (ho : OK n' f L T ln sg) : Con G mX8_whyNotNegate (d + 2) [.ref 64, .int w] h n 0 0 (PW n (some (.int (nI (cdN ln sg w)))) (fun g => MB h g th z sv sm bf ty ha)) := by
  have hn := ho.1
  have hn0 := hz.1
  refine Con.of [some (.ref 64), some (.int w), none] pl_X8 rfl (Nat.le_of_ble_eq_true rfl) rfl ?_
  have hQ : ∀ g, MB h g th z sv sm bf ty ha → (PW n (some (.int (nI (cdN ln sg w)))) (fun g => MB h g th z sv sm bf ty ha)) (.inl (some (.int (nI (cdN ln sg w))))) g n := fun g hW => ⟨rfl, hW, rfl⟩
  generalize PW n (some (.int (nI (cdN ln sg w)))) (fun g => MB h g th z sv sm bf ty ha) = Q at hQ ⊢
  refine ez_iload_n (q := 1) 1 dX8_whyNotNegate_0 rfl rfl rfl ?_
  refine cUv (q := 4) dX8_whyNotNegate_1 ck_X8_134 (t_X8_isWish) rfl rfl rfl (Nat.le_of_ble_eq_true rfl) rfl ?_
  refine ez_ifneB (q := 7) (tgt := 9) dX8_whyNotNegate_4 (by decide) rfl (fun hc4 => ?_) (fun hc4 => ?_)
  · obtain ⟨w, rfl, hw, hw2⟩ := inB_nat hc4
    have hl := ho.2.2.2.2.1 w (by omega)
    have ecd : cdN ln sg (nI w) = (if ln w = 0 ∨ (ln w = 40 ∧ ¬ sg w 0 = 33) then 2 else 0) := by rw [cdN, if_pos hc4, nn_nI hw2]
    rw [ecd] at hQ
    clear ecd
    refine ez_aload_n (q := 10) 0 dX8_whyNotNegate_9 rfl rfl rfl ?_
    refine ez_iload_n (q := 11) 1 dX8_whyNotNegate_10 rfl rfl rfl ?_
    refine cMv (q := 14) dX8_whyNotNegate_11 ck_X8_101 hM (t_X8_lengthOf hM.rb hz ho (by omega)) rfl rfl rfl rfl rfl (Nat.le_of_ble_eq_true rfl) rfl (fun g hM => ?_)
    refine ez_bipush (v := nI 40) (q := 16) dX8_whyNotNegate_14 (by decide) rfl ?_
    refine ez_icmpneN (q := 19) (tgt := 34) dX8_whyNotNegate_16 (by decide) (by omega) (by decide) rfl (fun hc16 => ?_) (fun hc16 => ?_)
    · refine ez_iconst (v := nI 0) (q := 35) dX8_whyNotNegate_34 (by decide) rfl ?_
      refine ez_top (show nI 0 = bI false from rfl) ?_
      refine ez_istore_2 (q := 36) dX8_whyNotNegate_35 rfl (by decide) rfl rfl ?_
      refine ez_aload_n (q := 37) 0 dX8_whyNotNegate_36 rfl rfl rfl ?_
      refine ez_iload_n (q := 38) 1 dX8_whyNotNegate_37 rfl rfl rfl ?_
      refine cMv (q := 41) dX8_whyNotNegate_38 ck_X8_101 hM (t_X8_lengthOf hM.rb hz ho (by omega)) rfl rfl rfl rfl rfl (Nat.le_of_ble_eq_true rfl) rfl (fun g hM => ?_)
      refine ez_ifeqN (q := 44) (tgt := 48) dX8_whyNotNegate_41 (by decide) (by omega) rfl (fun hc41 => ?_) (fun hc41 => ?_)
      · refine ez_iconst (v := nI 2) (q := 49) dX8_whyNotNegate_48 (by decide) rfl ?_
        refine ez_goto (q := 53) dX8_whyNotNegate_49 (by decide) ?_
        exact ez_iret dX8_whyNotNegate_53 rfl (by first | (rw [if_pos (by omega)] at hQ; exact hQ _ ⟨_, _, _, _, _, _, _, _, _, _, _, _, hM⟩) | (rw [if_neg (by omega)] at hQ; exact hQ _ ⟨_, _, _, _, _, _, _, _, _, _, _, _, hM⟩))
      · refine ez_iload_n (q := 45) 2 dX8_whyNotNegate_44 rfl rfl rfl ?_
        refine ez_ifeqB (q := 48) (tgt := 52) dX8_whyNotNegate_45 (by decide) rfl (fun hc45 => ?_) (fun hc45 => ?_)
        · first
          | exact absurd hc45 (by decide)
          | skip
            refine ez_iconst (v := nI 0) (q := 53) dX8_whyNotNegate_52 (by decide) rfl ?_
            exact ez_iret dX8_whyNotNegate_53 rfl (by first | (rw [if_pos (by omega)] at hQ; exact hQ _ ⟨_, _, _, _, _, _, _, _, _, _, _, _, hM⟩) | (rw [if_neg (by omega)] at hQ; exact hQ _ ⟨_, _, _, _, _, _, _, _, _, _, _, _, hM⟩))
        · first
          | exact absurd hc45 (by decide)
          | skip
            refine ez_iconst (v := nI 2) (q := 49) dX8_whyNotNegate_48 (by decide) rfl ?_
            refine ez_goto (q := 53) dX8_whyNotNegate_49 (by decide) ?_
            exact ez_iret dX8_whyNotNegate_53 rfl (by first | (rw [if_pos (by omega)] at hQ; exact hQ _ ⟨_, _, _, _, _, _, _, _, _, _, _, _, hM⟩) | (rw [if_neg (by omega)] at hQ; exact hQ _ ⟨_, _, _, _, _, _, _, _, _, _, _, _, hM⟩))
    · refine ez_aload_n (q := 20) 0 dX8_whyNotNegate_19 rfl rfl rfl ?_
      refine ez_iload_n (q := 21) 1 dX8_whyNotNegate_20 rfl rfl rfl ?_
      refine ez_iconst (v := nI 0) (q := 22) dX8_whyNotNegate_21 (by decide) rfl ?_
      refine cMv (q := 25) dX8_whyNotNegate_22 ck_X8_91 hM (t_X8_signAt hM.rb hz ho (by omega) (by omega)) rfl rfl rfl rfl rfl (Nat.le_of_ble_eq_true rfl) rfl (fun g hM => ?_)
      refine ez_bipush (v := nI 33) (q := 27) dX8_whyNotNegate_25 (by decide) rfl ?_
      refine ez_icmpeqN (q := 30) (tgt := 34) dX8_whyNotNegate_27 (by decide) (by have := ho.2.2.2.2.2 w (by omega) 0 (by omega); omega) (by decide) rfl (fun hc27 => ?_) (fun hc27 => ?_)
      · refine ez_iconst (v := nI 0) (q := 35) dX8_whyNotNegate_34 (by decide) rfl ?_
        refine ez_top (show nI 0 = bI false from rfl) ?_
        refine ez_istore_2 (q := 36) dX8_whyNotNegate_35 rfl (by decide) rfl rfl ?_
        refine ez_aload_n (q := 37) 0 dX8_whyNotNegate_36 rfl rfl rfl ?_
        refine ez_iload_n (q := 38) 1 dX8_whyNotNegate_37 rfl rfl rfl ?_
        refine cMv (q := 41) dX8_whyNotNegate_38 ck_X8_101 hM (t_X8_lengthOf hM.rb hz ho (by omega)) rfl rfl rfl rfl rfl (Nat.le_of_ble_eq_true rfl) rfl (fun g hM => ?_)
        refine ez_ifeqN (q := 44) (tgt := 48) dX8_whyNotNegate_41 (by decide) (by omega) rfl (fun hc41 => ?_) (fun hc41 => ?_)
        · refine ez_iconst (v := nI 2) (q := 49) dX8_whyNotNegate_48 (by decide) rfl ?_
          refine ez_goto (q := 53) dX8_whyNotNegate_49 (by decide) ?_
          exact ez_iret dX8_whyNotNegate_53 rfl (by first | (rw [if_pos (by omega)] at hQ; exact hQ _ ⟨_, _, _, _, _, _, _, _, _, _, _, _, hM⟩) | (rw [if_neg (by omega)] at hQ; exact hQ _ ⟨_, _, _, _, _, _, _, _, _, _, _, _, hM⟩))
        · refine ez_iload_n (q := 45) 2 dX8_whyNotNegate_44 rfl rfl rfl ?_
          refine ez_ifeqB (q := 48) (tgt := 52) dX8_whyNotNegate_45 (by decide) rfl (fun hc45 => ?_) (fun hc45 => ?_)
          · first
            | exact absurd hc45 (by decide)
            | skip
              refine ez_iconst (v := nI 0) (q := 53) dX8_whyNotNegate_52 (by decide) rfl ?_
              exact ez_iret dX8_whyNotNegate_53 rfl (by first | (rw [if_pos (by omega)] at hQ; exact hQ _ ⟨_, _, _, _, _, _, _, _, _, _, _, _, hM⟩) | (rw [if_neg (by omega)] at hQ; exact hQ _ ⟨_, _, _, _, _, _, _, _, _, _, _, _, hM⟩))
          · first
            | exact absurd hc45 (by decide)
            | skip
              refine ez_iconst (v := nI 2) (q := 49) dX8_whyNotNegate_48 (by decide) rfl ?_
              refine ez_goto (q := 53) dX8_whyNotNegate_49 (by decide) ?_
              exact ez_iret dX8_whyNotNegate_53 rfl (by first | (rw [if_pos (by omega)] at hQ; exact hQ _ ⟨_, _, _, _, _, _, _, _, _, _, _, _, hM⟩) | (rw [if_neg (by omega)] at hQ; exact hQ _ ⟨_, _, _, _, _, _, _, _, _, _, _, _, hM⟩))
      · refine ez_iconst (v := nI 1) (q := 31) dX8_whyNotNegate_30 (by decide) rfl ?_
        refine ez_top (show nI 1 = bI true from rfl) ?_
        refine ez_goto (q := 35) dX8_whyNotNegate_31 (by decide) ?_
        refine ez_istore_2 (q := 36) dX8_whyNotNegate_35 rfl (by decide) rfl rfl ?_
        refine ez_aload_n (q := 37) 0 dX8_whyNotNegate_36 rfl rfl rfl ?_
        refine ez_iload_n (q := 38) 1 dX8_whyNotNegate_37 rfl rfl rfl ?_
        refine cMv (q := 41) dX8_whyNotNegate_38 ck_X8_101 hM (t_X8_lengthOf hM.rb hz ho (by omega)) rfl rfl rfl rfl rfl (Nat.le_of_ble_eq_true rfl) rfl (fun g hM => ?_)
        refine ez_ifeqN (q := 44) (tgt := 48) dX8_whyNotNegate_41 (by decide) (by omega) rfl (fun hc41 => ?_) (fun hc41 => ?_)
        · refine ez_iconst (v := nI 2) (q := 49) dX8_whyNotNegate_48 (by decide) rfl ?_
          refine ez_goto (q := 53) dX8_whyNotNegate_49 (by decide) ?_
          exact ez_iret dX8_whyNotNegate_53 rfl (by first | (rw [if_pos (by omega)] at hQ; exact hQ _ ⟨_, _, _, _, _, _, _, _, _, _, _, _, hM⟩) | (rw [if_neg (by omega)] at hQ; exact hQ _ ⟨_, _, _, _, _, _, _, _, _, _, _, _, hM⟩))
        · refine ez_iload_n (q := 45) 2 dX8_whyNotNegate_44 rfl rfl rfl ?_
          refine ez_ifeqB (q := 48) (tgt := 52) dX8_whyNotNegate_45 (by decide) rfl (fun hc45 => ?_) (fun hc45 => ?_)
          · first
            | exact absurd hc45 (by decide)
            | skip
              refine ez_iconst (v := nI 0) (q := 53) dX8_whyNotNegate_52 (by decide) rfl ?_
              exact ez_iret dX8_whyNotNegate_53 rfl (by first | (rw [if_pos (by omega)] at hQ; exact hQ _ ⟨_, _, _, _, _, _, _, _, _, _, _, _, hM⟩) | (rw [if_neg (by omega)] at hQ; exact hQ _ ⟨_, _, _, _, _, _, _, _, _, _, _, _, hM⟩))
          · first
            | exact absurd hc45 (by decide)
            | skip
              refine ez_iconst (v := nI 2) (q := 49) dX8_whyNotNegate_48 (by decide) rfl ?_
              refine ez_goto (q := 53) dX8_whyNotNegate_49 (by decide) ?_
              exact ez_iret dX8_whyNotNegate_53 rfl (by first | (rw [if_pos (by omega)] at hQ; exact hQ _ ⟨_, _, _, _, _, _, _, _, _, _, _, _, hM⟩) | (rw [if_neg (by omega)] at hQ; exact hQ _ ⟨_, _, _, _, _, _, _, _, _, _, _, _, hM⟩))
  · rw [show cdN ln sg w = 1 from by simp [cdN, hc4]] at hQ
    refine ez_iconst (v := nI 1) (q := 8) dX8_whyNotNegate_7 (by decide) rfl ?_
    exact ez_iret dX8_whyNotNegate_8 rfl (hQ _ ⟨_, _, _, _, _, _, _, _, _, _, _, _, hM⟩)

def negM (ln : Nat → Nat) (sg : Nat → Nat → Nat) (w : Nat) : Nat := if sg w 0 = 33 then ln w - 1 else ln w + 1
def negS (sg : Nat → Nat → Nat) (w : Nat) : Nat → Nat := if sg w 0 = 33 then fun k => sg w (k + 1) else notS (sg w)
theorem cdN_0 {ln : Nat → Nat} {sg : Nat → Nat → Nat} {w : Int32} (h : cdN ln sg w = 0) : ∃ j : Nat, w = nI j ∧ nn w = j ∧ j < 4 ∧ 0 < ln j ∧ (ln j = 40 → sg j 0 = 33) := by
  rw [cdN] at h
  split at h
  · rename_i h1
    obtain ⟨j, rfl, h2, h3⟩ := inB_nat h1
    rw [nn_nI h3] at h ⊢
    split at h
    · cases h
    · exact ⟨j, rfl, rfl, by omega, by omega, by omega⟩
  · cases h
set_option maxHeartbeats 800000 in
set_option maxRecDepth 100000 in
theorem t_X8_negate {G : ez_G} {d n : Nat} {h : ez_H} {n' f : Nat} {L T ln : Nat → Nat} {sg : Nat → Nat → Nat} {w : Int32} {k r : Nat} {zs : Nat → Nat → Int32} {th ty wa rm fm ff : Int32} {z sv bf se ro le de rw sp : Nat → Int32} {ww : Bool} {ha : Int64} (hM : IM h h th z sv (nI k) bf ty (nI r) se ro le de wa ww rw rm sp fm ff ha) (hz : ZZ z n' f L T ln sg) (ho : OK n' f L T ln sg) (hk : k ≤ 6) (hv : SVD sv k zs) : Con G mX8_negate (d + 5) [.ref 64, .int w] h n 0 0 (PW n (some (.int (aW (cdN ln sg w) (nI (negM ln sg (nn w)))))) (fun g => (cdN ln sg w = 0 → ∃ z' sv' : Nat → Int32, MB h g (nI 0) z' sv' (nI (svk k)) bf ty ha ∧ ZZ z' n' f L T (upN ln (nn w) (negM ln sg (nn w))) (sgN sg (nn w) (negS sg (nn w))) ∧ SVD sv' (svk k) (pushZ zs k z)) ∧ (¬ cdN ln sg w = 0 → MB h g (nI (cdN ln sg w)) z sv (nI k) bf ty ha))) := by
  have hn := ho.1
  have hn0 := hz.1
  refine Con.of [some (.ref 64), some (.int w), none, none] pl_X8 rfl (Nat.le_of_ble_eq_true rfl) rfl ?_
  have hQ : (cdN ln sg w = 0 → ∀ g (z' sv' : Nat → Int32), MB h g (nI 0) z' sv' (nI (svk k)) bf ty ha → ZZ z' n' f L T (upN ln (nn w) (negM ln sg (nn w))) (sgN sg (nn w) (negS sg (nn w))) → SVD sv' (svk k) (pushZ zs k z) → (PW n (some (.int (aW (cdN ln sg w) (nI (negM ln sg (nn w)))))) (fun g => (cdN ln sg w = 0 → ∃ z' sv' : Nat → Int32, MB h g (nI 0) z' sv' (nI (svk k)) bf ty ha ∧ ZZ z' n' f L T (upN ln (nn w) (negM ln sg (nn w))) (sgN sg (nn w) (negS sg (nn w))) ∧ SVD sv' (svk k) (pushZ zs k z)) ∧ (¬ cdN ln sg w = 0 → MB h g (nI (cdN ln sg w)) z sv (nI k) bf ty ha))) (.inl (some (.int (nI (negM ln sg (nn w)))))) g n) ∧ (∀ c, cdN ln sg w = c → c ≠ 0 → ∀ g, MB h g (nI c) z sv (nI k) bf ty ha → (PW n (some (.int (aW (cdN ln sg w) (nI (negM ln sg (nn w)))))) (fun g => (cdN ln sg w = 0 → ∃ z' sv' : Nat → Int32, MB h g (nI 0) z' sv' (nI (svk k)) bf ty ha ∧ ZZ z' n' f L T (upN ln (nn w) (negM ln sg (nn w))) (sgN sg (nn w) (negS sg (nn w))) ∧ SVD sv' (svk k) (pushZ zs k z)) ∧ (¬ cdN ln sg w = 0 → MB h g (nI (cdN ln sg w)) z sv (nI k) bf ty ha))) (.inl (some (.int (nI 0)))) g n) := ⟨fun e g z' sv' h1 h2 h3 => ⟨by rw [aW, if_pos e], ⟨fun _ => ⟨z', sv', h1, h2, h3⟩, fun a => absurd e a⟩, rfl⟩, fun c hc e g h1 => ⟨by rw [aW, if_neg (by omega)]; rfl, ⟨fun a => absurd a (by omega), fun _ => by rw [hc]; exact h1⟩, rfl⟩⟩
  generalize PW n (some (.int (aW (cdN ln sg w) (nI (negM ln sg (nn w)))))) (fun g => (cdN ln sg w = 0 → ∃ z' sv' : Nat → Int32, MB h g (nI 0) z' sv' (nI (svk k)) bf ty ha ∧ ZZ z' n' f L T (upN ln (nn w) (negM ln sg (nn w))) (sgN sg (nn w) (negS sg (nn w))) ∧ SVD sv' (svk k) (pushZ zs k z)) ∧ (¬ cdN ln sg w = 0 → MB h g (nI (cdN ln sg w)) z sv (nI k) bf ty ha)) = Q at hQ ⊢
  refine ez_aload_n (q := 1) 0 dX8_negate_0 rfl rfl rfl ?_
  refine ez_aload_n (q := 2) 0 dX8_negate_1 rfl rfl rfl ?_
  refine ez_iload_n (q := 3) 1 dX8_negate_2 rfl rfl rfl ?_
  refine cXv (q := 6) dX8_negate_3 ck_X8_141 hM.1 (t_X8_whyNotNegate hM.rb hz ho) rfl ⟨by decide, rfl⟩ rfl rfl rfl (Nat.le_of_ble_eq_true rfl) rfl (fun g hW => ?_)
  obtain ⟨r, se, ro, le, de, wa, ww, rw, rm, sp, fm, ff, hM2⟩ := hW
  have hM := hM.tr hM2
  have hcl := cdN_2 ln sg w
  refine pM_th (q := 9) dX8_negate_6 fl_X8_37 hM rfl (fun g hM => ?_)
  refine ez_aload_n (q := 10) 0 dX8_negate_9 rfl rfl rfl ?_
  refine ez_getf (q := 13) dX8_negate_10 fl_X8_37 hM.1 rfl rfl ?_
  refine ez_ifleN (q := 16) (tgt := 18) dX8_negate_13 (by decide) (by omega) rfl (fun hc13 => ?_) (fun hc13 => ?_)
  · have hQ0 := hQ.1 hc13
    clear hQ
    obtain ⟨w, rfl, hnw, hw, hl0, hl33⟩ := cdN_0 hc13
    rw [hnw] at hQ0
    rw [hc13] at hM
    have hl := ho.2.2.2.2.1 w hw
    have hl2 : ∀ j, j < ln w → sg w j < 128 := ho.2.2.2.2.2 w hw
    refine ez_aload_n (q := 19) 0 dX8_negate_18 rfl rfl rfl ?_
    refine cX0 (q := 22) dX8_negate_19 ck_X8_48 hM.1 (t_X8_save hM.rb hk hv) rfl ⟨by decide, rfl⟩ rfl rfl rfl (Nat.le_of_ble_eq_true rfl) rfl (fun g hW => ?_)
    obtain ⟨sv', hM2, hv⟩ := hW
    have hM := hM.tr hM2
    refine ez_bipush (v := nI 22) (q := 24) dX8_negate_22 (by decide) rfl ?_
    refine ez_bipush (v := nI 41) (q := 26) dX8_negate_24 (by decide) rfl ?_
    refine ez_iload_n (q := 27) 1 dX8_negate_26 rfl rfl rfl ?_
    refine ez_imulN (q := 28) dX8_negate_27 rfl ?_
    refine ez_iaddN (q := 29) dX8_negate_28 rfl ?_
    refine ez_istore_2 (q := 30) dX8_negate_29 rfl (by decide) rfl rfl ?_
    refine ez_aload_n (q := 31) 0 dX8_negate_30 rfl rfl rfl ?_
    refine ez_getf (q := 34) dX8_negate_31 fl_X8_7 hM.1 rfl rfl ?_
    refine ez_iload_n (q := 35) 2 dX8_negate_34 rfl rfl rfl ?_
    refine ez_iconst (v := nI 1) (q := 36) dX8_negate_35 (by decide) rfl ?_
    refine ez_iaddN (q := 37) dX8_negate_36 rfl ?_
    refine ez_iald (q := 38) dX8_negate_37 hM.2.1 rfl (by omega) (by decide) rfl ?_
    refine ez_top (hz.2.2.2.2.2 w hw 0 hl0) ?_
    refine ez_bipush (v := nI 33) (q := 40) dX8_negate_38 (by decide) rfl ?_
    refine ez_icmpneN (q := 43) (tgt := 98) dX8_negate_40 (by decide) (by have := hl2 0 hl0; omega) (by decide) rfl (fun hc40 => ?_) (fun hc40 => ?_)
    · rw [negM, if_neg hc40, negS, if_neg hc40] at hQ0
      refine ez_bipush (v := nI 40) (q := 100) dX8_negate_98 (by decide) rfl ?_
      refine ez_istore_3 (q := 101) dX8_negate_100 rfl (by decide) rfl rfl ?_
      refine ez_loop (α := Nat) (fun i => i) (P := fun i => ∀ (g : ez_H) (y : Nat → Int32), IM h g (nI 0) y sv' (nI (svk k)) bf ty (nI r) se ro le de wa ww rw rm sp fm ff ha → (1 ≤ i) → (i ≤ 40) → (y (22 + 41 * w) = nI (ln w)) → (∀ j, i < j → j ≤ 40 → y ((22 + 41 * w) + j) = z ((22 + 41 * w) + (j - 1))) → (∀ j, 1 ≤ j → j ≤ i → y ((22 + 41 * w) + j) = z ((22 + 41 * w) + j)) → (∀ j, j < (22 + 41 * w) ∨ (22 + 41 * w) + 41 ≤ j → y j = z j) → E G mX8_negate (d + 5) Q g n 0 0 101 [some (.ref 64), some (.int (nI w)), some (.int (nI (22 + 41 * w))), some (.int (nI i))] []) ?_ 40 g _ hM (by omega) (Nat.le_refl 40) (hz.2.2.2.2.1 w hw) (fun j hj hj2 => absurd hj2 (by omega)) (fun j _ _ => rfl) (fun j _ => rfl)
      intro i ih101 g y hM hi hi2 y1 y2 y3 y4
      refine ez_iload_n (q := 102) 3 dX8_negate_101 rfl rfl rfl ?_
      refine ez_iconst (v := nI 1) (q := 103) dX8_negate_102 (by decide) rfl ?_
      refine ez_icmpleN (q := 106) (tgt := 130) dX8_negate_103 (by decide) (by omega) (by omega) rfl (fun hc103 => ?_) (fun hc103 => ?_)
      · refine ez_aload_n (q := 131) 0 dX8_negate_130 rfl rfl rfl ?_
        refine ez_getf (q := 134) dX8_negate_131 fl_X8_7 hM.1 rfl rfl ?_
        refine ez_iload_n (q := 135) 2 dX8_negate_134 rfl rfl rfl ?_
        refine ez_iconst (v := nI 1) (q := 136) dX8_negate_135 (by decide) rfl ?_
        refine ez_iaddN (q := 137) dX8_negate_136 rfl ?_
        refine ez_bipush (v := nI 33) (q := 139) dX8_negate_137 (by decide) rfl ?_
        refine sM_z (q := 140) dX8_negate_139 hM rfl (by omega) rfl (fun g hM => ?_)
        refine ez_aload_n (q := 141) 0 dX8_negate_140 rfl rfl rfl ?_
        refine ez_getf (q := 144) dX8_negate_141 fl_X8_7 hM.1 rfl rfl ?_
        refine ez_iload_n (q := 145) 2 dX8_negate_144 rfl rfl rfl ?_
        refine ez_dup2 (q := 146) dX8_negate_145 rfl rfl rfl ?_
        refine ez_iald (q := 147) dX8_negate_146 hM.2.1 rfl (by omega) (by decide) rfl ?_
        refine ez_top ((up_ne _ _ (by omega)).trans y1) ?_
        refine ez_iconst (v := nI 1) (q := 148) dX8_negate_147 (by decide) rfl ?_
        refine ez_iaddN (q := 149) dX8_negate_148 rfl ?_
        refine sM_z (q := 150) dX8_negate_149 hM rfl (by omega) rfl (fun g hM => ?_)
        refine ez_aload_n (q := 151) 0 dX8_negate_150 rfl rfl rfl ?_
        refine ez_getf (q := 154) dX8_negate_151 fl_X8_7 hM.1 rfl rfl ?_
        refine ez_iload_n (q := 155) 2 dX8_negate_154 rfl rfl rfl ?_
        refine ez_iald (q := 156) dX8_negate_155 hM.2.1 rfl (by omega) (by decide) rfl ?_
        refine ez_top (up_eq _ _ _) ?_
        exact ez_iret dX8_negate_156 rfl (by first | exact hQ0 _ _ _ ⟨_, _, _, _, _, _, _, _, _, _, _, _, hM⟩ (hz.wish ho hw (by omega) (up_eq _ _ _) (fun j hj => by rw [up_ne _ _ (by omega), up_ne _ _ (by omega)]; exact ((congrArg y (by omega)).trans (y2 (j + 1) (by omega) (by omega))).trans ((congrArg z (by omega)).trans (hz.2.2.2.2.2 w hw (j + 1) (by omega)))) (fun j hj => by rw [up_ne _ _ (by omega), up_ne _ _ (by omega)]; exact y4 j hj)) hv | exact hQ0 _ _ _ ⟨_, _, _, _, _, _, _, _, _, _, _, _, hM⟩ (hz.wish ho hw (by omega) (up_eq _ _ _) (fun j hj => by cases j with | zero => rw [up_ne _ _ (by omega), up_eq]; rfl | succ j => rw [up_ne _ _ (by omega), up_ne _ _ (by omega)]; exact ((congrArg y (by omega)).trans (y2 (j + 2) (by omega) (by omega))).trans ((congrArg z (by omega)).trans (hz.2.2.2.2.2 w hw j (by omega)))) (fun j hj => by rw [up_ne _ _ (by omega), up_ne _ _ (by omega)]; exact y4 j hj)) hv)
      · refine ez_aload_n (q := 107) 0 dX8_negate_106 rfl rfl rfl ?_
        refine ez_getf (q := 110) dX8_negate_107 fl_X8_7 hM.1 rfl rfl ?_
        refine ez_iload_n (q := 111) 2 dX8_negate_110 rfl rfl rfl ?_
        refine ez_iload_n (q := 112) 3 dX8_negate_111 rfl rfl rfl ?_
        refine ez_iaddN (q := 113) dX8_negate_112 rfl ?_
        refine ez_aload_n (q := 114) 0 dX8_negate_113 rfl rfl rfl ?_
        refine ez_getf (q := 117) dX8_negate_114 fl_X8_7 hM.1 rfl rfl ?_
        refine ez_iload_n (q := 118) 2 dX8_negate_117 rfl rfl rfl ?_
        refine ez_iload_n (q := 119) 3 dX8_negate_118 rfl rfl rfl ?_
        refine ez_iaddN (q := 120) dX8_negate_119 rfl ?_
        refine ez_iconst (v := nI 1) (q := 121) dX8_negate_120 (by decide) rfl ?_
        refine ez_isubN (q := 122) dX8_negate_121 (by omega) rfl ?_
        refine ez_iald (q := 123) dX8_negate_122 hM.2.1 rfl (by omega) (by decide) rfl ?_
        refine sM_z (q := 124) dX8_negate_123 hM rfl (by omega) rfl (fun g hM => ?_)
        refine ez_idecN_3 (q := 127) dX8_negate_124 (by omega) (by decide) rfl rfl ?_
        refine ez_goto (q := 101) dX8_negate_127 (by decide) ?_
        exact E.fg (ih101 (i - 1) (by omega) g _ hM (by omega) (by omega) (by rw [up_ne _ _ (by omega)]; exact y1) (fun j hj hj2 => by by_cases e : j = i; { rw [e, up_eq]; rw [show (22 + 41 * w) + i - 1 = (22 + 41 * w) + (i - 1) by omega]; exact y3 (i - 1) (by omega) (by omega) }; { rw [up_ne _ _ (by omega)]; exact y2 j (by omega) hj2 }) (fun j hj hj2 => by rw [up_ne _ _ (by omega)]; exact y3 j hj (by omega)) (fun j hj => by rw [up_ne _ _ (by omega)]; exact y4 j hj)) ⟨Or.inr (rfl), Or.inr (rfl), Or.inr (rfl), Or.inr (rfl), trivial⟩
    · rw [negM, if_pos hc40, negS, if_pos hc40] at hQ0
      refine ez_iconst (v := nI 1) (q := 44) dX8_negate_43 (by decide) rfl ?_
      refine ez_istore_3 (q := 45) dX8_negate_44 rfl (by decide) rfl rfl ?_
      refine ez_loop (α := Nat) (fun i => 40 - i) (P := fun i => ∀ (g : ez_H) (y : Nat → Int32), IM h g (nI 0) y sv' (nI (svk k)) bf ty (nI r) se ro le de wa ww rw rm sp fm ff ha → (1 ≤ i) → (i ≤ 40) → (y (22 + 41 * w) = nI (ln w)) → (∀ j, 1 ≤ j → j < i → y ((22 + 41 * w) + j) = z ((22 + 41 * w) + j + 1)) → (∀ j, i ≤ j → j ≤ 40 → y ((22 + 41 * w) + j) = z ((22 + 41 * w) + j)) → (∀ j, j < (22 + 41 * w) ∨ (22 + 41 * w) + 41 ≤ j → y j = z j) → E G mX8_negate (d + 5) Q g n 0 0 45 [some (.ref 64), some (.int (nI w)), some (.int (nI (22 + 41 * w))), some (.int (nI i))] []) ?_ 1 g _ hM (Nat.le_refl 1) (by omega) (hz.2.2.2.2.1 w hw) (fun j hj hj2 => absurd hj2 (by omega)) (fun j _ _ => rfl) (fun j _ => rfl)
      intro i ih45 g y hM hi hi2 y1 y2 y3 y4
      refine ez_iload_n (q := 46) 3 dX8_negate_45 rfl rfl rfl ?_
      refine ez_bipush (v := nI 40) (q := 48) dX8_negate_46 (by decide) rfl ?_
      refine ez_icmpgeN (q := 51) (tgt := 75) dX8_negate_48 (by decide) (by omega) (by omega) rfl (fun hc48 => ?_) (fun hc48 => ?_)
      · refine ez_aload_n (q := 76) 0 dX8_negate_75 rfl rfl rfl ?_
        refine ez_getf (q := 79) dX8_negate_76 fl_X8_7 hM.1 rfl rfl ?_
        refine ez_iload_n (q := 80) 2 dX8_negate_79 rfl rfl rfl ?_
        refine ez_bipush (v := nI 40) (q := 82) dX8_negate_80 (by decide) rfl ?_
        refine ez_iaddN (q := 83) dX8_negate_82 rfl ?_
        refine ez_iconst (v := nI 0) (q := 84) dX8_negate_83 (by decide) rfl ?_
        refine sM_z (q := 85) dX8_negate_84 hM rfl (by omega) rfl (fun g hM => ?_)
        refine ez_aload_n (q := 86) 0 dX8_negate_85 rfl rfl rfl ?_
        refine ez_getf (q := 89) dX8_negate_86 fl_X8_7 hM.1 rfl rfl ?_
        refine ez_iload_n (q := 90) 2 dX8_negate_89 rfl rfl rfl ?_
        refine ez_dup2 (q := 91) dX8_negate_90 rfl rfl rfl ?_
        refine ez_iald (q := 92) dX8_negate_91 hM.2.1 rfl (by omega) (by decide) rfl ?_
        refine ez_top ((up_ne _ _ (by omega)).trans y1) ?_
        refine ez_iconst (v := nI 1) (q := 93) dX8_negate_92 (by decide) rfl ?_
        refine ez_isubN (q := 94) dX8_negate_93 (by omega) rfl ?_
        refine sM_z (q := 95) dX8_negate_94 hM rfl (by omega) rfl (fun g hM => ?_)
        refine ez_goto (q := 150) dX8_negate_95 (by decide) ?_
        refine ez_aload_n (q := 151) 0 dX8_negate_150 rfl rfl rfl ?_
        refine ez_getf (q := 154) dX8_negate_151 fl_X8_7 hM.1 rfl rfl ?_
        refine ez_iload_n (q := 155) 2 dX8_negate_154 rfl rfl rfl ?_
        refine ez_iald (q := 156) dX8_negate_155 hM.2.1 rfl (by omega) (by decide) rfl ?_
        refine ez_top (up_eq _ _ _) ?_
        exact ez_iret dX8_negate_156 rfl (by first | exact hQ0 _ _ _ ⟨_, _, _, _, _, _, _, _, _, _, _, _, hM⟩ (hz.wish ho hw (by omega) (up_eq _ _ _) (fun j hj => by rw [up_ne _ _ (by omega), up_ne _ _ (by omega)]; exact ((congrArg y (by omega)).trans (y2 (j + 1) (by omega) (by omega))).trans ((congrArg z (by omega)).trans (hz.2.2.2.2.2 w hw (j + 1) (by omega)))) (fun j hj => by rw [up_ne _ _ (by omega), up_ne _ _ (by omega)]; exact y4 j hj)) hv | exact hQ0 _ _ _ ⟨_, _, _, _, _, _, _, _, _, _, _, _, hM⟩ (hz.wish ho hw (by omega) (up_eq _ _ _) (fun j hj => by cases j with | zero => rw [up_ne _ _ (by omega), up_eq]; rfl | succ j => rw [up_ne _ _ (by omega), up_ne _ _ (by omega)]; exact ((congrArg y (by omega)).trans (y2 (j + 2) (by omega) (by omega))).trans ((congrArg z (by omega)).trans (hz.2.2.2.2.2 w hw j (by omega)))) (fun j hj => by rw [up_ne _ _ (by omega), up_ne _ _ (by omega)]; exact y4 j hj)) hv)
      · refine ez_aload_n (q := 52) 0 dX8_negate_51 rfl rfl rfl ?_
        refine ez_getf (q := 55) dX8_negate_52 fl_X8_7 hM.1 rfl rfl ?_
        refine ez_iload_n (q := 56) 2 dX8_negate_55 rfl rfl rfl ?_
        refine ez_iload_n (q := 57) 3 dX8_negate_56 rfl rfl rfl ?_
        refine ez_iaddN (q := 58) dX8_negate_57 rfl ?_
        refine ez_aload_n (q := 59) 0 dX8_negate_58 rfl rfl rfl ?_
        refine ez_getf (q := 62) dX8_negate_59 fl_X8_7 hM.1 rfl rfl ?_
        refine ez_iload_n (q := 63) 2 dX8_negate_62 rfl rfl rfl ?_
        refine ez_iload_n (q := 64) 3 dX8_negate_63 rfl rfl rfl ?_
        refine ez_iaddN (q := 65) dX8_negate_64 rfl ?_
        refine ez_iconst (v := nI 1) (q := 66) dX8_negate_65 (by decide) rfl ?_
        refine ez_iaddN (q := 67) dX8_negate_66 rfl ?_
        refine ez_iald (q := 68) dX8_negate_67 hM.2.1 rfl (by omega) (by decide) rfl ?_
        refine sM_z (q := 69) dX8_negate_68 hM rfl (by omega) rfl (fun g hM => ?_)
        refine ez_iincN_3 (q := 72) dX8_negate_69 (by decide) rfl rfl ?_
        refine ez_goto (q := 45) dX8_negate_72 (by decide) ?_
        exact E.fg (ih45 (i + 1) (by omega) g _ hM (by omega) (by omega) (by rw [up_ne _ _ (by omega)]; exact y1) (fun j hj hj2 => by by_cases e : j = i; { rw [e, up_eq]; exact y3 (i + 1) (by omega) (by omega) }; { rw [up_ne _ _ (by omega)]; exact y2 j hj (by omega) }) (fun j hj hj2 => by rw [up_ne _ _ (by omega)]; exact y3 j (by omega) hj2) (fun j hj => by rw [up_ne _ _ (by omega)]; exact y4 j hj)) ⟨Or.inr (rfl), Or.inr (rfl), Or.inr (rfl), Or.inr (rfl), trivial⟩
  · have hQ1 := hQ.2 _ rfl (by omega)
    clear hQ
    refine ez_iconst (v := nI 0) (q := 17) dX8_negate_16 (by decide) rfl ?_
    exact ez_iret dX8_negate_17 rfl (hQ1 _ ⟨_, _, _, _, _, _, _, _, _, _, _, _, hM⟩)

def cdV (w : Int32) : Nat := if inB w 0 3 = true then 0 else 1
set_option maxHeartbeats 800000 in
set_option maxRecDepth 100000 in
theorem t_X8_giveUp {G : ez_G} {d n : Nat} {h : ez_H} {n' f : Nat} {L T ln : Nat → Nat} {sg : Nat → Nat → Nat} {w : Int32} {k r : Nat} {zs : Nat → Nat → Int32} {th ty wa rm fm ff : Int32} {z sv bf se ro le de rw sp : Nat → Int32} {ww : Bool} {ha : Int64} (hM : IM h h th z sv (nI k) bf ty (nI r) se ro le de wa ww rw rm sp fm ff ha) (hz : ZZ z n' f L T ln sg) (ho : OK n' f L T ln sg) (hk : k ≤ 6) (hv : SVD sv k zs) : Con G mX8_giveUp (d + 5) [.ref 64, .int w] h n 0 0 (PW n (some (.int (aW (cdV w) (nI (ln (nn w)))))) (fun g => (cdV w = 0 → ∃ z' sv' : Nat → Int32, MB h g (nI 0) z' sv' (nI (svk k)) bf ty ha ∧ ZZ z' n' f L T (upN ln (nn w) 0) (sgN sg (nn w) (sg (nn w))) ∧ SVD sv' (svk k) (pushZ zs k z)) ∧ (¬ cdV w = 0 → MB h g (nI (cdV w)) z sv (nI k) bf ty ha))) := by
  have hn := ho.1
  have hn0 := hz.1
  refine Con.of [some (.ref 64), some (.int w), none, none] pl_X8 rfl (Nat.le_of_ble_eq_true rfl) rfl ?_
  have hQ : (cdV w = 0 → ∀ g (z' sv' : Nat → Int32), MB h g (nI 0) z' sv' (nI (svk k)) bf ty ha → ZZ z' n' f L T (upN ln (nn w) 0) (sgN sg (nn w) (sg (nn w))) → SVD sv' (svk k) (pushZ zs k z) → (PW n (some (.int (aW (cdV w) (nI (ln (nn w)))))) (fun g => (cdV w = 0 → ∃ z' sv' : Nat → Int32, MB h g (nI 0) z' sv' (nI (svk k)) bf ty ha ∧ ZZ z' n' f L T (upN ln (nn w) 0) (sgN sg (nn w) (sg (nn w))) ∧ SVD sv' (svk k) (pushZ zs k z)) ∧ (¬ cdV w = 0 → MB h g (nI (cdV w)) z sv (nI k) bf ty ha))) (.inl (some (.int (nI (ln (nn w)))))) g n) ∧ (∀ c, cdV w = c → c ≠ 0 → ∀ g, MB h g (nI c) z sv (nI k) bf ty ha → (PW n (some (.int (aW (cdV w) (nI (ln (nn w)))))) (fun g => (cdV w = 0 → ∃ z' sv' : Nat → Int32, MB h g (nI 0) z' sv' (nI (svk k)) bf ty ha ∧ ZZ z' n' f L T (upN ln (nn w) 0) (sgN sg (nn w) (sg (nn w))) ∧ SVD sv' (svk k) (pushZ zs k z)) ∧ (¬ cdV w = 0 → MB h g (nI (cdV w)) z sv (nI k) bf ty ha))) (.inl (some (.int (nI 0)))) g n) := ⟨fun e g z' sv' h1 h2 h3 => ⟨by rw [aW, if_pos e], ⟨fun _ => ⟨z', sv', h1, h2, h3⟩, fun a => absurd e a⟩, rfl⟩, fun c hc e g h1 => ⟨by rw [aW, if_neg (by omega)]; rfl, ⟨fun a => absurd a (by omega), fun _ => by rw [hc]; exact h1⟩, rfl⟩⟩
  generalize PW n (some (.int (aW (cdV w) (nI (ln (nn w)))))) (fun g => (cdV w = 0 → ∃ z' sv' : Nat → Int32, MB h g (nI 0) z' sv' (nI (svk k)) bf ty ha ∧ ZZ z' n' f L T (upN ln (nn w) 0) (sgN sg (nn w) (sg (nn w))) ∧ SVD sv' (svk k) (pushZ zs k z)) ∧ (¬ cdV w = 0 → MB h g (nI (cdV w)) z sv (nI k) bf ty ha)) = Q at hQ ⊢
  refine ez_aload_n (q := 1) 0 dX8_giveUp_0 rfl rfl rfl ?_
  refine ez_iload_n (q := 2) 1 dX8_giveUp_1 rfl rfl rfl ?_
  refine cUv (q := 5) dX8_giveUp_2 ck_X8_134 (t_X8_isWish) rfl rfl rfl (Nat.le_of_ble_eq_true rfl) rfl ?_
  refine ez_ifeqB (q := 8) (tgt := 12) dX8_giveUp_5 (by decide) rfl (fun hc5 => ?_) (fun hc5 => ?_)
  · have hQ1 := hQ.2 1 (by simp [cdV, hc5]) (by decide)
    clear hQ
    refine ez_iconst (v := nI 1) (q := 13) dX8_giveUp_12 (by decide) rfl ?_
    refine pM_th (q := 16) dX8_giveUp_13 fl_X8_37 hM rfl (fun g hM => ?_)
    refine ez_aload_n (q := 17) 0 dX8_giveUp_16 rfl rfl rfl ?_
    refine ez_getf (q := 20) dX8_giveUp_17 fl_X8_37 hM.1 rfl rfl ?_
    refine ez_ifleN (q := 23) (tgt := 25) dX8_giveUp_20 (by decide) (by decide) rfl (fun hc20 => ?_) (fun hc20 => ?_)
    · first
      | exact absurd hc20 (by decide)
      | skip
        refine ez_aload_n (q := 26) 0 dX8_giveUp_25 rfl rfl rfl ?_
        refine cX0 (q := 29) dX8_giveUp_26 ck_X8_48 hM.1 (t_X8_save hM.rb hk hv) rfl ⟨by decide, rfl⟩ rfl rfl rfl (Nat.le_of_ble_eq_true rfl) rfl (fun g hW => ?_)
        obtain ⟨sv', hM2, hv⟩ := hW
        have hM := hM.tr hM2
        refine ez_aload_n (q := 30) 0 dX8_giveUp_29 rfl rfl rfl ?_
        refine ez_iload_n (q := 31) 1 dX8_giveUp_30 rfl rfl rfl ?_
        refine cMv (q := 34) dX8_giveUp_31 ck_X8_101 hM (t_X8_lengthOf hM.rb hz ho (by omega)) rfl rfl rfl rfl rfl (Nat.le_of_ble_eq_true rfl) rfl (fun g hM => ?_)
        refine ez_istore_2 (q := 35) dX8_giveUp_34 rfl (by decide) rfl rfl ?_
        refine ez_iconst (v := nI 0) (q := 36) dX8_giveUp_35 (by decide) rfl ?_
        refine ez_istore_3 (q := 37) dX8_giveUp_36 rfl (by decide) rfl rfl ?_
        refine ez_loop (α := Nat) (fun i => 41 - i) (P := fun i => ∀ (g : ez_H) (y : Nat → Int32), IM h g (nI 0) y sv' (nI (svk k)) bf ty (nI r) se ro le de wa ww rw rm sp fm ff ha → (i ≤ 41) → (0 < i → y (22 + 41 * w) = nI 0) → (∀ j, j < (22 + 41 * w) ∨ (22 + 41 * w) + 41 ≤ j → y j = z j) → E G mX8_giveUp (d + 5) Q g n 0 0 37 [some (.ref 64), some (.int (nI w)), some (.int (nI (ln w))), some (.int (nI i))] []) ?_ 0 g _ hM (by omega) (fun a => absurd a (by decide)) (fun j _ => rfl)
        intro i ih37 g y hM hi y1 y3
        refine ez_iload_n (q := 38) 3 dX8_giveUp_37 rfl rfl rfl ?_
        refine ez_bipush (v := nI 41) (q := 40) dX8_giveUp_38 (by decide) rfl ?_
        refine ez_icmpgeN (q := 43) (tgt := 64) dX8_giveUp_40 (by decide) (by omega) (by omega) rfl (fun hc40 => ?_) (fun hc40 => ?_)
        · refine ez_iload_n (q := 65) 2 dX8_giveUp_64 rfl rfl rfl ?_
          exact ez_iret dX8_giveUp_65 rfl (hQ0 _ _ _ ⟨_, _, _, _, _, _, _, _, _, _, _, _, hM⟩ (hz.wish ho (by omega) (Nat.zero_le 40) (y1 (by omega)) (fun j hj => absurd hj (by omega)) y3) hv)
        · refine ez_aload_n (q := 44) 0 dX8_giveUp_43 rfl rfl rfl ?_
          refine ez_getf (q := 47) dX8_giveUp_44 fl_X8_7 hM.1 rfl rfl ?_
          refine ez_bipush (v := nI 22) (q := 49) dX8_giveUp_47 (by decide) rfl ?_
          refine ez_bipush (v := nI 41) (q := 51) dX8_giveUp_49 (by decide) rfl ?_
          refine ez_iload_n (q := 52) 1 dX8_giveUp_51 rfl rfl rfl ?_
          refine ez_imulN (q := 53) dX8_giveUp_52 rfl ?_
          refine ez_iaddN (q := 54) dX8_giveUp_53 rfl ?_
          refine ez_iload_n (q := 55) 3 dX8_giveUp_54 rfl rfl rfl ?_
          refine ez_iaddN (q := 56) dX8_giveUp_55 rfl ?_
          refine ez_iconst (v := nI 0) (q := 57) dX8_giveUp_56 (by decide) rfl ?_
          refine sM_z (q := 58) dX8_giveUp_57 hM rfl (by omega) rfl (fun g hM => ?_)
          refine ez_iincN_3 (q := 61) dX8_giveUp_58 (by decide) rfl rfl ?_
          refine ez_goto (q := 37) dX8_giveUp_61 (by decide) ?_
          exact E.fg (ih37 (i + 1) (by omega) g _ hM (by omega) (fun _ => by by_cases e : i = 0; { subst e; exact up_eq _ _ _ }; { rw [up_ne _ _ (by omega)]; exact y1 (by omega) }) (fun j hj => by rw [up_ne _ _ (by omega)]; exact y3 j hj)) ⟨Or.inr (rfl), Or.inr (rfl), Or.inr (rfl), Or.inr (rfl), trivial⟩
    · first
      | exact absurd hc20 (by decide)
      | skip
        refine ez_iconst (v := nI 0) (q := 24) dX8_giveUp_23 (by decide) rfl ?_
        exact ez_iret dX8_giveUp_24 rfl (hQ1 _ ⟨_, _, _, _, _, _, _, _, _, _, _, _, hM⟩)
  · have hQ0 := hQ.1 (by simp [cdV, hc5])
    clear hQ
    obtain ⟨w, rfl, hw, hw2⟩ := inB_nat hc5
    rw [nn_nI hw2] at hQ0
    refine ez_iconst (v := nI 0) (q := 9) dX8_giveUp_8 (by decide) rfl ?_
    refine ez_goto (q := 13) dX8_giveUp_9 (by decide) ?_
    refine pM_th (q := 16) dX8_giveUp_13 fl_X8_37 hM rfl (fun g hM => ?_)
    refine ez_aload_n (q := 17) 0 dX8_giveUp_16 rfl rfl rfl ?_
    refine ez_getf (q := 20) dX8_giveUp_17 fl_X8_37 hM.1 rfl rfl ?_
    refine ez_ifleN (q := 23) (tgt := 25) dX8_giveUp_20 (by decide) (by decide) rfl (fun hc20 => ?_) (fun hc20 => ?_)
    · first
      | exact absurd hc20 (by decide)
      | skip
        refine ez_aload_n (q := 26) 0 dX8_giveUp_25 rfl rfl rfl ?_
        refine cX0 (q := 29) dX8_giveUp_26 ck_X8_48 hM.1 (t_X8_save hM.rb hk hv) rfl ⟨by decide, rfl⟩ rfl rfl rfl (Nat.le_of_ble_eq_true rfl) rfl (fun g hW => ?_)
        obtain ⟨sv', hM2, hv⟩ := hW
        have hM := hM.tr hM2
        refine ez_aload_n (q := 30) 0 dX8_giveUp_29 rfl rfl rfl ?_
        refine ez_iload_n (q := 31) 1 dX8_giveUp_30 rfl rfl rfl ?_
        refine cMv (q := 34) dX8_giveUp_31 ck_X8_101 hM (t_X8_lengthOf hM.rb hz ho (by omega)) rfl rfl rfl rfl rfl (Nat.le_of_ble_eq_true rfl) rfl (fun g hM => ?_)
        refine ez_istore_2 (q := 35) dX8_giveUp_34 rfl (by decide) rfl rfl ?_
        refine ez_iconst (v := nI 0) (q := 36) dX8_giveUp_35 (by decide) rfl ?_
        refine ez_istore_3 (q := 37) dX8_giveUp_36 rfl (by decide) rfl rfl ?_
        refine ez_loop (α := Nat) (fun i => 41 - i) (P := fun i => ∀ (g : ez_H) (y : Nat → Int32), IM h g (nI 0) y sv' (nI (svk k)) bf ty (nI r) se ro le de wa ww rw rm sp fm ff ha → (i ≤ 41) → (0 < i → y (22 + 41 * w) = nI 0) → (∀ j, j < (22 + 41 * w) ∨ (22 + 41 * w) + 41 ≤ j → y j = z j) → E G mX8_giveUp (d + 5) Q g n 0 0 37 [some (.ref 64), some (.int (nI w)), some (.int (nI (ln w))), some (.int (nI i))] []) ?_ 0 g _ hM (by omega) (fun a => absurd a (by decide)) (fun j _ => rfl)
        intro i ih37 g y hM hi y1 y3
        refine ez_iload_n (q := 38) 3 dX8_giveUp_37 rfl rfl rfl ?_
        refine ez_bipush (v := nI 41) (q := 40) dX8_giveUp_38 (by decide) rfl ?_
        refine ez_icmpgeN (q := 43) (tgt := 64) dX8_giveUp_40 (by decide) (by omega) (by omega) rfl (fun hc40 => ?_) (fun hc40 => ?_)
        · refine ez_iload_n (q := 65) 2 dX8_giveUp_64 rfl rfl rfl ?_
          exact ez_iret dX8_giveUp_65 rfl (hQ0 _ _ _ ⟨_, _, _, _, _, _, _, _, _, _, _, _, hM⟩ (hz.wish ho (by omega) (Nat.zero_le 40) (y1 (by omega)) (fun j hj => absurd hj (by omega)) y3) hv)
        · refine ez_aload_n (q := 44) 0 dX8_giveUp_43 rfl rfl rfl ?_
          refine ez_getf (q := 47) dX8_giveUp_44 fl_X8_7 hM.1 rfl rfl ?_
          refine ez_bipush (v := nI 22) (q := 49) dX8_giveUp_47 (by decide) rfl ?_
          refine ez_bipush (v := nI 41) (q := 51) dX8_giveUp_49 (by decide) rfl ?_
          refine ez_iload_n (q := 52) 1 dX8_giveUp_51 rfl rfl rfl ?_
          refine ez_imulN (q := 53) dX8_giveUp_52 rfl ?_
          refine ez_iaddN (q := 54) dX8_giveUp_53 rfl ?_
          refine ez_iload_n (q := 55) 3 dX8_giveUp_54 rfl rfl rfl ?_
          refine ez_iaddN (q := 56) dX8_giveUp_55 rfl ?_
          refine ez_iconst (v := nI 0) (q := 57) dX8_giveUp_56 (by decide) rfl ?_
          refine sM_z (q := 58) dX8_giveUp_57 hM rfl (by omega) rfl (fun g hM => ?_)
          refine ez_iincN_3 (q := 61) dX8_giveUp_58 (by decide) rfl rfl ?_
          refine ez_goto (q := 37) dX8_giveUp_61 (by decide) ?_
          exact E.fg (ih37 (i + 1) (by omega) g _ hM (by omega) (fun _ => by by_cases e : i = 0; { subst e; exact up_eq _ _ _ }; { rw [up_ne _ _ (by omega)]; exact y1 (by omega) }) (fun j hj => by rw [up_ne _ _ (by omega)]; exact y3 j hj)) ⟨Or.inr (rfl), Or.inr (rfl), Or.inr (rfl), Or.inr (rfl), trivial⟩
    · first
      | exact absurd hc20 (by decide)
      | skip
        refine ez_iconst (v := nI 0) (q := 24) dX8_giveUp_23 (by decide) rfl ?_
        exact ez_iret dX8_giveUp_24 rfl (hQ1 _ ⟨_, _, _, _, _, _, _, _, _, _, _, _, hM⟩)

def cdU (k : Nat) : Nat := if k = 0 then 1 else 0
set_option maxHeartbeats 800000 in
set_option maxRecDepth 100000 in
theorem t_X8_undo {G : ez_G} {d n : Nat} {h : ez_H} {k r : Nat} {zs : Nat → Nat → Int32} {th ty wa rm fm ff : Int32} {z sv bf se ro le de rw sp : Nat → Int32} {ww : Bool} {ha : Int64} (hM : IM h h th z sv (nI k) bf ty (nI r) se ro le de wa ww rw rm sp fm ff ha) (hk : k ≤ 6) (hv : SVD sv k zs) : Con G mX8_undo (d) [.ref 64] h n 0 0 (PW n (some (.int (aW (cdU k) (nI (k - 1))))) (fun g => (cdU k = 0 → ∃ z' : Nat → Int32, MB h g (nI 0) z' sv (nI (k - 1)) bf ty ha ∧ (∀ j, j < 186 → z' j = zs (k - 1) j)) ∧ (¬ cdU k = 0 → MB h g (nI (cdU k)) z sv (nI k) bf ty ha))) := by
  refine Con.of [some (.ref 64), none] pl_X8 rfl (Nat.le_of_ble_eq_true rfl) rfl ?_
  have hQ : (cdU k = 0 → ∀ g (z' : Nat → Int32), MB h g (nI 0) z' sv (nI (k - 1)) bf ty ha → (∀ j, j < 186 → z' j = zs (k - 1) j) → (PW n (some (.int (aW (cdU k) (nI (k - 1))))) (fun g => (cdU k = 0 → ∃ z' : Nat → Int32, MB h g (nI 0) z' sv (nI (k - 1)) bf ty ha ∧ (∀ j, j < 186 → z' j = zs (k - 1) j)) ∧ (¬ cdU k = 0 → MB h g (nI (cdU k)) z sv (nI k) bf ty ha))) (.inl (some (.int (nI (k - 1))))) g n) ∧ (∀ c1, cdU k = c1 → c1 ≠ 0 → ∀ g, MB h g (nI c1) z sv (nI k) bf ty ha → (PW n (some (.int (aW (cdU k) (nI (k - 1))))) (fun g => (cdU k = 0 → ∃ z' : Nat → Int32, MB h g (nI 0) z' sv (nI (k - 1)) bf ty ha ∧ (∀ j, j < 186 → z' j = zs (k - 1) j)) ∧ (¬ cdU k = 0 → MB h g (nI (cdU k)) z sv (nI k) bf ty ha))) (.inl (some (.int (nI 0)))) g n) := ⟨fun e g bf' h1 h2 => ⟨by rw [aW, if_pos e], ⟨fun _ => ⟨bf', h1, h2⟩, fun a => absurd e a⟩, rfl⟩, fun c1 hc e g h1 => ⟨by rw [aW, if_neg (by omega)]; rfl, ⟨fun a => absurd a (by omega), fun _ => by rw [hc]; exact h1⟩, rfl⟩⟩
  generalize PW n (some (.int (aW (cdU k) (nI (k - 1))))) (fun g => (cdU k = 0 → ∃ z' : Nat → Int32, MB h g (nI 0) z' sv (nI (k - 1)) bf ty ha ∧ (∀ j, j < 186 → z' j = zs (k - 1) j)) ∧ (¬ cdU k = 0 → MB h g (nI (cdU k)) z sv (nI k) bf ty ha)) = Q at hQ ⊢
  refine ez_aload_n (q := 1) 0 dX8_undo_0 rfl rfl rfl ?_
  refine ez_aload_n (q := 2) 0 dX8_undo_1 rfl rfl rfl ?_
  refine ez_getf (q := 5) dX8_undo_2 fl_X8_45 hM.1 rfl rfl ?_
  refine ez_ifneN (q := 8) (tgt := 12) dX8_undo_5 (by decide) (by omega) rfl (fun hc5 => ?_) (fun hc5 => ?_)
  · have hQ0 := hQ.1 (by simp [cdU, hc5])
    clear hQ
    refine ez_iconst (v := nI 0) (q := 13) dX8_undo_12 (by decide) rfl ?_
    refine pM_th (q := 16) dX8_undo_13 fl_X8_37 hM rfl (fun g hM => ?_)
    refine ez_aload_n (q := 17) 0 dX8_undo_16 rfl rfl rfl ?_
    refine ez_getf (q := 20) dX8_undo_17 fl_X8_37 hM.1 rfl rfl ?_
    refine ez_ifleN (q := 23) (tgt := 25) dX8_undo_20 (by decide) (by decide) rfl (fun hc20 => ?_) (fun hc20 => ?_)
    · first
      | exact absurd hc20 (by decide)
      | skip
        refine ez_aload_n (q := 26) 0 dX8_undo_25 rfl rfl rfl ?_
        refine ez_dup (q := 27) dX8_undo_26 rfl rfl ?_
        refine ez_getf (q := 30) dX8_undo_27 fl_X8_45 hM.1 rfl rfl ?_
        refine ez_iconst (v := nI 1) (q := 31) dX8_undo_30 (by decide) rfl ?_
        refine ez_isubN (q := 32) dX8_undo_31 (by omega) rfl ?_
        refine pM_sm (q := 35) dX8_undo_32 fl_X8_45 hM rfl (fun g hM => ?_)
        refine ez_iconst (v := nI 0) (q := 36) dX8_undo_35 (by decide) rfl ?_
        refine ez_istore_1 (q := 37) dX8_undo_36 rfl (by decide) rfl rfl ?_
        refine ez_loop (α := Nat) (fun i => 186 - i) (P := fun i => ∀ (g : ez_H) (y : Nat → Int32), IM h g (nI 0) y sv (nI (k - 1)) bf ty (nI r) se ro le de wa ww rw rm sp fm ff ha → (i ≤ 186) → (∀ j, j < i → y j = zs (k - 1) j) → E G mX8_undo (d) Q g n 0 0 37 [some (.ref 64), some (.int (nI i))] []) ?_ 0 g _ hM (by omega) (fun j hj => absurd hj (by omega))
        intro i ih37 g y hM hi y1
        refine ez_iload_n (q := 38) 1 dX8_undo_37 rfl rfl rfl ?_
        refine ez_sipush (v := nI 186) (q := 41) dX8_undo_38 (by decide) rfl ?_
        refine ez_icmpgeN (q := 44) (tgt := 71) dX8_undo_41 (by decide) (by omega) (by omega) rfl (fun hc41 => ?_) (fun hc41 => ?_)
        · refine ez_aload_n (q := 72) 0 dX8_undo_71 rfl rfl rfl ?_
          refine ez_getf (q := 75) dX8_undo_72 fl_X8_45 hM.1 rfl rfl ?_
          exact ez_iret dX8_undo_75 rfl (hQ0 _ _ ⟨_, _, _, _, _, _, _, _, _, _, _, _, hM⟩ (fun j hj => y1 j (by omega)))
        · refine ez_aload_n (q := 45) 0 dX8_undo_44 rfl rfl rfl ?_
          refine ez_getf (q := 48) dX8_undo_45 fl_X8_7 hM.1 rfl rfl ?_
          refine ez_iload_n (q := 49) 1 dX8_undo_48 rfl rfl rfl ?_
          refine ez_aload_n (q := 50) 0 dX8_undo_49 rfl rfl rfl ?_
          refine ez_getf (q := 53) dX8_undo_50 fl_X8_13 hM.1 rfl rfl ?_
          refine ez_aload_n (q := 54) 0 dX8_undo_53 rfl rfl rfl ?_
          refine ez_getf (q := 57) dX8_undo_54 fl_X8_45 hM.1 rfl rfl ?_
          refine ez_sipush (v := nI 186) (q := 60) dX8_undo_57 (by decide) rfl ?_
          refine ez_imulN (q := 61) dX8_undo_60 rfl ?_
          refine ez_iload_n (q := 62) 1 dX8_undo_61 rfl rfl rfl ?_
          refine ez_iaddN (q := 63) dX8_undo_62 rfl ?_
          refine ez_iald (q := 64) dX8_undo_63 hM.2.2.1 rfl (by omega) (by decide) rfl ?_
          refine sM_z (q := 65) dX8_undo_64 hM rfl (by omega) rfl (fun g hM => ?_)
          refine ez_iincN_1 (q := 68) dX8_undo_65 (by decide) rfl rfl ?_
          refine ez_goto (q := 37) dX8_undo_68 (by decide) ?_
          exact E.fg (ih37 (i + 1) (by omega) g _ hM (by omega) (fun j hj => by by_cases e : j = i; { rw [e, up_eq]; exact hv (k - 1) (by omega) i (by omega) }; { rw [up_ne _ _ e]; exact y1 j (by omega) })) ⟨Or.inr (rfl), Or.inr (rfl), trivial⟩
    · first
      | exact absurd hc20 (by decide)
      | skip
        refine ez_iconst (v := nI 0) (q := 24) dX8_undo_23 (by decide) rfl ?_
        exact ez_iret dX8_undo_24 rfl (hQ1 _ ⟨_, _, _, _, _, _, _, _, _, _, _, _, hM⟩)
  · have hQ1 := hQ.2 1 (by simp [cdU, hc5]) (by decide)
    clear hQ
    refine ez_iconst (v := nI 1) (q := 9) dX8_undo_8 (by decide) rfl ?_
    refine ez_goto (q := 13) dX8_undo_9 (by decide) ?_
    refine pM_th (q := 16) dX8_undo_13 fl_X8_37 hM rfl (fun g hM => ?_)
    refine ez_aload_n (q := 17) 0 dX8_undo_16 rfl rfl rfl ?_
    refine ez_getf (q := 20) dX8_undo_17 fl_X8_37 hM.1 rfl rfl ?_
    refine ez_ifleN (q := 23) (tgt := 25) dX8_undo_20 (by decide) (by decide) rfl (fun hc20 => ?_) (fun hc20 => ?_)
    · first
      | exact absurd hc20 (by decide)
      | skip
        refine ez_aload_n (q := 26) 0 dX8_undo_25 rfl rfl rfl ?_
        refine ez_dup (q := 27) dX8_undo_26 rfl rfl ?_
        refine ez_getf (q := 30) dX8_undo_27 fl_X8_45 hM.1 rfl rfl ?_
        refine ez_iconst (v := nI 1) (q := 31) dX8_undo_30 (by decide) rfl ?_
        refine ez_isubN (q := 32) dX8_undo_31 (by omega) rfl ?_
        refine pM_sm (q := 35) dX8_undo_32 fl_X8_45 hM rfl (fun g hM => ?_)
        refine ez_iconst (v := nI 0) (q := 36) dX8_undo_35 (by decide) rfl ?_
        refine ez_istore_1 (q := 37) dX8_undo_36 rfl (by decide) rfl rfl ?_
        refine ez_loop (α := Nat) (fun i => 186 - i) (P := fun i => ∀ (g : ez_H) (y : Nat → Int32), IM h g (nI 0) y sv (nI (k - 1)) bf ty (nI r) se ro le de wa ww rw rm sp fm ff ha → (i ≤ 186) → (∀ j, j < i → y j = zs (k - 1) j) → E G mX8_undo (d) Q g n 0 0 37 [some (.ref 64), some (.int (nI i))] []) ?_ 0 g _ hM (by omega) (fun j hj => absurd hj (by omega))
        intro i ih37 g y hM hi y1
        refine ez_iload_n (q := 38) 1 dX8_undo_37 rfl rfl rfl ?_
        refine ez_sipush (v := nI 186) (q := 41) dX8_undo_38 (by decide) rfl ?_
        refine ez_icmpgeN (q := 44) (tgt := 71) dX8_undo_41 (by decide) (by omega) (by omega) rfl (fun hc41 => ?_) (fun hc41 => ?_)
        · refine ez_aload_n (q := 72) 0 dX8_undo_71 rfl rfl rfl ?_
          refine ez_getf (q := 75) dX8_undo_72 fl_X8_45 hM.1 rfl rfl ?_
          exact ez_iret dX8_undo_75 rfl (hQ0 _ _ ⟨_, _, _, _, _, _, _, _, _, _, _, _, hM⟩ (fun j hj => y1 j (by omega)))
        · refine ez_aload_n (q := 45) 0 dX8_undo_44 rfl rfl rfl ?_
          refine ez_getf (q := 48) dX8_undo_45 fl_X8_7 hM.1 rfl rfl ?_
          refine ez_iload_n (q := 49) 1 dX8_undo_48 rfl rfl rfl ?_
          refine ez_aload_n (q := 50) 0 dX8_undo_49 rfl rfl rfl ?_
          refine ez_getf (q := 53) dX8_undo_50 fl_X8_13 hM.1 rfl rfl ?_
          refine ez_aload_n (q := 54) 0 dX8_undo_53 rfl rfl rfl ?_
          refine ez_getf (q := 57) dX8_undo_54 fl_X8_45 hM.1 rfl rfl ?_
          refine ez_sipush (v := nI 186) (q := 60) dX8_undo_57 (by decide) rfl ?_
          refine ez_imulN (q := 61) dX8_undo_60 rfl ?_
          refine ez_iload_n (q := 62) 1 dX8_undo_61 rfl rfl rfl ?_
          refine ez_iaddN (q := 63) dX8_undo_62 rfl ?_
          refine ez_iald (q := 64) dX8_undo_63 hM.2.2.1 rfl (by omega) (by decide) rfl ?_
          refine sM_z (q := 65) dX8_undo_64 hM rfl (by omega) rfl (fun g hM => ?_)
          refine ez_iincN_1 (q := 68) dX8_undo_65 (by decide) rfl rfl ?_
          refine ez_goto (q := 37) dX8_undo_68 (by decide) ?_
          exact E.fg (ih37 (i + 1) (by omega) g _ hM (by omega) (fun j hj => by by_cases e : j = i; { rw [e, up_eq]; exact hv (k - 1) (by omega) i (by omega) }; { rw [up_ne _ _ e]; exact y1 j (by omega) })) ⟨Or.inr (rfl), Or.inr (rfl), trivial⟩
    · first
      | exact absurd hc20 (by decide)
      | skip
        refine ez_iconst (v := nI 0) (q := 24) dX8_undo_23 (by decide) rfl ?_
        exact ez_iret dX8_undo_24 rfl (hQ1 _ ⟨_, _, _, _, _, _, _, _, _, _, _, _, hM⟩)

