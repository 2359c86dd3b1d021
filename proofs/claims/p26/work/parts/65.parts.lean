section
variable {m : Nat} {s : Nat → Nat} {sc : Nat → Nat × Bool}
theorem wf_prev (h : WF m s sc) {j : Nat} (hj : j < m) (hw : wayB (s j) = true) : 0 < j ∧ (s (j - 1) = 69 ∨ s (j - 1) = 65) := by
  have h1 : (sc j).2 = true := (wf_w h hj).symm.trans hw
  cases j with
  | zero => rw [h.1] at h1; cases h1
  | succ j =>
    refine ⟨Nat.succ_pos j, ?_⟩
    show s j = 69 ∨ s j = 65
    cases h2 : (sc j).2 with
    | true => rw [(wf_way h (by omega) h2).2.1] at h1; cases h1
    | false =>
      rcases (wf_one h (by omega) h2).2 with ⟨-, b⟩ | ⟨-, b⟩ | ⟨-, b⟩ | ⟨a, -⟩
      · rw [b] at h1; cases h1
      · rw [b] at h1; cases h1
      · rw [b] at h1; cases h1
      · exact a
theorem wf_sort (h : WF m s sc) {j : Nat} (hj : j < m) (hw : wayB (s j) = false) : (sc j).2 = false ∧ (s j = 116 ∨ (97 ≤ s j ∧ s j ≤ 100) ∨ s j = 33 ∨ s j = 38 ∨ s j = 124 ∨ (s j = 69 ∨ s j = 65)) := by
  have h1 : (sc j).2 = false := (wf_w h hj).symm.trans hw
  refine ⟨h1, ?_⟩
  rcases (wf_one h hj h1).2 with ⟨a, -⟩ | ⟨a, -⟩ | ⟨a, -⟩ | ⟨a, -⟩ <;> omega
theorem wf_len (h : WF m s sc) : leW m s 0 = m := by
  obtain ⟨h0, h1, h2⟩ := wf_0 h
  have h3 := (wf_pt h h0 h1).2
  rw [h.1, Nat.zero_add] at h3
  rcases Nat.lt_or_ge (leW m s 0) m with h4 | h4
  · have h5 := (wf_one h h4 (by rw [h3])).1
    rw [h3] at h5
    exact absurd h5 (by decide)
  · omega
theorem deW_pos (h : 0 < m) : 1 ≤ deW m s 0 := by
  rw [deW, if_pos h]
  split
  · omega
  · split
    · omega
    · split <;> omega
end
section
variable {T : Nat → Nat} {n f : Nat} {L : Nat → Nat} {ln : Nat → Nat} {sg : Nat → Nat → Nat} {w i : Nat}
theorem tg_way {what : Nat} (h : wayB (sg w i) = true) (hw : what ≠ 0) : tgI T n f L ln sg w i what = -1 := by rw [tgI, if_neg hw, if_pos h]
theorem tg_1 (h : wayB (sg w i) = false) : tgI T n f L ln sg w i 1 = nI (seW T n f L (ln w) (sg w) i) := by rw [tgI, if_neg (by decide), if_neg (by rw [h]; decide)]; rfl
theorem tg_2 (h : wayB (sg w i) = false) : tgI T n f L ln sg w i 2 = nI (roW T n f L (ln w) (sg w) i) := by rw [tgI, if_neg (by decide), if_neg (by rw [h]; decide)]; rfl
theorem tg_3 (h : wayB (sg w i) = false) : tgI T n f L ln sg w i 3 = nI (leW (ln w) (sg w) i) := by rw [tgI, if_neg (by decide), if_neg (by rw [h]; decide)]; rfl
theorem tg_rw : tgI T n f L ln sg w i 2 = rwI T n f L (ln w) (sg w) i := by rw [tgI, if_neg (by decide)]; rfl
theorem ts_w {what : Nat} (h : 0 < ln w) : tsI T n f L ln sg w what = nI (tsN T n f L ln sg w what) := by rw [tsI, if_neg (by omega)]
theorem fr_mu {R μ : Nat → Nat} (hR : ∀ w, R w ≠ w → μ (R w) < μ w) : ∀ k w, frN R k w ≤ μ w := by
  intro k
  induction k with
  | zero => intro w; exact Nat.zero_le _
  | succ k ih =>
    intro w
    rw [frN]
    split
    · exact Nat.zero_le _
    · rename_i h
      have h1 := ih (R w)
      have h2 := hR w h
      omega
theorem sr_le {x : Nat} (hx : x < 2 ^ n) : srN T n f L x ≤ n := by
  have h1 := fr_mu (st_mx T n f L) 11 x
  rw [mxN, if_pos hx] at h1
  exact Nat.le_trans h1 (ct_le x n)
theorem ur_le {y x : Nat} (hx : x < 2 ^ n) : urN T n y x ≤ n := by
  have h1 : ∀ k x, x < 2 ^ n → frN (uN T n y) k x ≤ n - ctN x n := by
    intro k
    induction k with
    | zero => intro x _; exact Nat.zero_le _
    | succ k ih =>
      intro x hx
      rw [frN]
      split
      · exact Nat.zero_le _
      · rename_i h
        have h2 := ct_lt (uN_sub T n y x) (Ne.symm h) (uN_lt T n y hx)
        have h3 := ct_le (uN T n y x) n
        have h4 := ih _ (uN_lt T n y hx)
        omega
  exact Nat.le_trans (h1 11 x hx) (Nat.sub_le _ _)
theorem ro_20 (hn : n ≤ 8) (m : Nat) (s : Nat → Nat) (j : Nat) : roW T n f L m s j ≤ 20 := by
  have hl := lvN_lt T n f L
  have hal := al_lt n
  rw [roW]
  split
  · rw [someR]
    split
    · omega
    · split
      · exact Nat.le_trans (ur_le (and_lt hl)) (by omega)
      · split
        · exact Nat.le_trans (sr_le (seW_l T n f L m s _)) (by omega)
        · exact Nat.le_trans (ur_le (and_lt hl)) (by omega)
  · split
    · rw [evryR]
      split
      · omega
      · split
        · exact Nat.le_trans (sr_le (nd_lt hal)) (by omega)
        · split
          · exact Nat.le_trans (ur_le (and_lt hl)) (by omega)
          · exact Nat.le_trans (Nat.add_le_add (ur_le (and_lt hl)) (sr_le (nd_lt hal))) (by omega)
    · omega
theorem se_E {m : Nat} {s : Nat → Nat} {j : Nat} (hj : j < m) (hc : s j = 69 ∨ s j = 65) : seW T n f L m s j = duW T n f L (s j) (s (j + 1)) (seW T n f L m s (j + 2)) (if s (j + 1) = 85 then seW T n f L m s (j + 2 + leW m s (j + 2)) else 0) := by
  rcases hc with h | h
  · rw [duW, if_pos h]; exact seW_E hj h
  · rw [duW, if_neg (by omega)]; exact seW_A hj h
theorem se_U {m : Nat} {s : Nat → Nat} {j : Nat} (hj : j < m) (hc : s j = 69 ∨ s j = 65) (hu : s (j + 1) = 85) : seW T n f L m s j = duW T n f L (s j) (s (j + 1)) (seW T n f L m s (j + 2)) (seW T n f L m s (j + 2 + leW m s (j + 2))) := by
  rw [se_E hj hc, if_pos hu]
theorem se_V {m : Nat} {s : Nat → Nat} {j : Nat} (hj : j < m) (hc : s j = 69 ∨ s j = 65) (hu : ¬ s (j + 1) = 85) : seW T n f L m s j = duW T n f L (s j) (s (j + 1)) (seW T n f L m s (j + 2)) 0 := by
  rw [se_E hj hc, if_neg hu]
theorem le_U {m : Nat} {s : Nat → Nat} {j : Nat} (hj : j < m) (hc : s j = 69 ∨ s j = 65) (hu : s (j + 1) = 85) : leW m s j = 2 + leW m s (j + 2) + leW m s (j + 2 + leW m s (j + 2)) := by
  rw [leW_ea hj hc, if_pos hu]
theorem le_V {m : Nat} {s : Nat → Nat} {j : Nat} (hj : j < m) (hc : s j = 69 ∨ s j = 65) (hu : ¬ s (j + 1) = 85) : leW m s j = 2 + leW m s (j + 2) + 0 := by
  rw [leW_ea hj hc, if_neg hu]
theorem ro_X {m : Nat} {s : Nat → Nat} {j : Nat} (hc : s j = 69 ∨ s j = 65) (hu : s (j + 1) = 88) : roW T n f L m s j = 0 := by
  rcases hc with h | h
  · rw [roW_E h, someR, if_pos hu]
  · rw [roW_A h, evryR, if_pos hu]
end
set_option maxHeartbeats 800000 in
set_option maxRecDepth 100000 in
theorem c_L_isPartW {G : ez_G} {d n : Nat} {h : ez_H} {n' f k t : Nat} {L T ln : Nat → Nat} {sg : Nat → Nat → Nat} {zs : Nat → AS} {b : Nat → Nat} {w i : Nat} (hI : CJ h h n' f L T ln sg k zs t b) (ho : OK n' f L T ln sg) (hs : WFS ln sg)  (hn8 : n' ≤ 8) (hw : w < 4) (hi : i < ln w) (hway : wayB (sg w i) = true) : Con G mL_isPart (d + 12) [.ref 1, .int (nI w), .int (nI i), .int (nI (lvN T n' f L))] h n 0 0 (PW n (some (.int (nI 1))) (fun g => CJ h g n' f L T ln sg k zs t b)) := by
  have hn := ho.1
  have hl4 := ho.2.2.2.2.1 w hw
  obtain ⟨sc, hwf⟩ := hs w hw (by omega)
  have hc128 := wf_c hwf hi
  obtain ⟨hi0, hprev⟩ := wf_prev hwf hi hway
  have hww : sg w i = 88 ∨ sg w i = 70 ∨ sg w i = 71 ∨ sg w i = 85 := of_decide_eq_true hway
  refine Con.of [some (.ref 1), some (.int (nI w)), some (.int (nI i)), some (.int (nI (lvN T n' f L))), none, none, none, none, none, none, none, none, none, none, none, none, none, none, none, none] pl_L rfl (Nat.le_of_ble_eq_true rfl) rfl ?_
  have hQ : ∀ g, CJ h g n' f L T ln sg k zs t b → (PW n (some (.int (nI 1))) (fun g => CJ h g n' f L T ln sg k zs t b)) (.inl (some (.int (nI 1)))) g n := fun g h1 => ⟨rfl, h1, rfl⟩
  generalize PW n (some (.int (nI 1))) (fun g => CJ h g n' f L T ln sg k zs t b) = Q at hQ ⊢
  refine ez_aload_n (q := 1) 0 dL_isPart_0 rfl rfl rfl ?_
  refine ez_iload_n (q := 2) 1 dL_isPart_1 rfl rfl rfl ?_
  refine ez_iload_n (q := 3) 2 dL_isPart_2 rfl rfl rfl ?_
  refine ez_iconst (v := nI 0) (q := 4) dL_isPart_3 (by decide) rfl ?_
  refine cXv (q := 7) dL_isPart_4 ck_L_63 hI.1.1 (v_X7_sign (what := 0) hI.rb ho hs (by omega) (by omega) (by decide)) rfl ⟨by decide, rfl⟩ rfl rfl rfl (Nat.le_of_ble_eq_true rfl) rfl (fun g hW => ?_)
  have hI := hI.tr hW
  clear hW
  refine ez_top (show tgI T n' f L ln sg w (i) 0 = nI (sg w (i)) from if_pos rfl) ?_
  refine ez_istore_4 (q := 9) dL_isPart_7 (by decide) rfl rfl ?_
  refine ez_iconst (v := nI 1) (q := 10) dL_isPart_9 (by decide) rfl ?_
  refine ez_aload_n (q := 11) 0 dL_isPart_10 rfl rfl rfl ?_
  refine ez_iconst (v := nI 0) (q := 12) dL_isPart_11 (by decide) rfl ?_
  refine cXv (q := 15) dL_isPart_12 ck_L_45 hI.1.1 (v_X7_count (what := 0) hI.rb ho hs (by decide)) rfl ⟨by decide, rfl⟩ rfl rfl rfl (Nat.le_of_ble_eq_true rfl) rfl (fun g hW => ?_)
  have hI := hI.tr hW
  clear hW
  refine ez_top (show couI T n' f L ln sg k 0 = nI n' from rfl) ?_
  refine ez_shl1 (q := 16) dL_isPart_15 (by omega) rfl ?_
  refine ez_iconst (v := nI 1) (q := 17) dL_isPart_16 (by decide) rfl ?_
  refine ez_isubN (q := 18) dL_isPart_17 (Nat.two_pow_pos _) rfl ?_
  refine ez_istore_5 (q := 20) dL_isPart_18 (by decide) rfl rfl ?_
  refine ez_aload_n (q := 21) 0 dL_isPart_20 rfl rfl rfl ?_
  refine ez_iload_n (q := 22) 1 dL_isPart_21 rfl rfl rfl ?_
  refine ez_iload_n (q := 23) 2 dL_isPart_22 rfl rfl rfl ?_
  refine ez_iconst (v := nI 1) (q := 24) dL_isPart_23 (by decide) rfl ?_
  refine cXv (q := 27) dL_isPart_24 ck_L_63 hI.1.1 (v_X7_sign (what := 1) hI.rb ho hs (by omega) (by omega) (by decide)) rfl ⟨by decide, rfl⟩ rfl rfl rfl (Nat.le_of_ble_eq_true rfl) rfl (fun g hW => ?_)
  have hI := hI.tr hW
  clear hW
  refine ez_top (tg_way hway (by decide)) ?_
  refine ez_istore_6 (q := 29) dL_isPart_27 (by decide) rfl rfl ?_
  refine ez_aload_n (q := 30) 0 dL_isPart_29 rfl rfl rfl ?_
  refine ez_iload_n (q := 31) 1 dL_isPart_30 rfl rfl rfl ?_
  refine ez_iload_n (q := 32) 2 dL_isPart_31 rfl rfl rfl ?_
  refine ez_iconst (v := nI 3) (q := 33) dL_isPart_32 (by decide) rfl ?_
  refine cXv (q := 36) dL_isPart_33 ck_L_63 hI.1.1 (v_X7_sign (what := 3) hI.rb ho hs (by omega) (by omega) (by decide)) rfl ⟨by decide, rfl⟩ rfl rfl rfl (Nat.le_of_ble_eq_true rfl) rfl (fun g hW => ?_)
  have hI := hI.tr hW
  clear hW
  refine ez_top (tg_way hway (by decide)) ?_
  refine ez_istore_7 (q := 38) dL_isPart_36 (by decide) rfl rfl ?_
  refine ez_iload (q := 40) dL_isPart_38 rfl rfl ?_
  refine ez_bipush (v := nI 88) (q := 42) dL_isPart_40 (by decide) rfl ?_
  refine ez_icmpeqN (q := 45) (tgt := 66) dL_isPart_42 (by decide) (by omega) (by omega) rfl (fun hc42 => ?_) (fun hc42 => ?_)
  · first
    | exact False.elim (by omega)
    | skip
      refine ez_iload (q := 68) dL_isPart_66 rfl rfl ?_
      refine ez_iconst (v := -1) (q := 69) dL_isPart_68 (by decide) rfl ?_
      refine ez_icmpne (q := 72) (tgt := 125) dL_isPart_69 (by decide) rfl (fun hc69 => absurd rfl hc69) (fun hc69 => ?_)
      refine ez_iload (q := 74) dL_isPart_72 rfl rfl ?_
      refine ez_iconst (v := -1) (q := 75) dL_isPart_74 (by decide) rfl ?_
      refine ez_icmpne (q := 78) (tgt := 125) dL_isPart_75 (by decide) rfl (fun hc75 => absurd rfl hc75) (fun hc75 => ?_)
      refine ez_aload_n (q := 79) 0 dL_isPart_78 rfl rfl rfl ?_
      refine ez_iload_n (q := 80) 1 dL_isPart_79 rfl rfl rfl ?_
      refine ez_iload_n (q := 81) 2 dL_isPart_80 rfl rfl rfl ?_
      refine ez_iconst (v := nI 2) (q := 82) dL_isPart_81 (by decide) rfl ?_
      refine cXv (q := 85) dL_isPart_82 ck_L_63 hI.1.1 (v_X7_sign (what := 2) hI.rb ho hs (by omega) (by omega) (by decide)) rfl ⟨by decide, rfl⟩ rfl rfl rfl (Nat.le_of_ble_eq_true rfl) rfl (fun g hW => ?_)
      have hI := hI.tr hW
      clear hW
      refine ez_top (tg_way hway (by decide)) ?_
      refine ez_iconst (v := -1) (q := 86) dL_isPart_85 (by decide) rfl ?_
      refine ez_icmpne (q := 89) (tgt := 125) dL_isPart_86 (by decide) rfl (fun hc86 => absurd rfl hc86) (fun hc86 => ?_)
      refine ez_iload_n (q := 90) 2 dL_isPart_89 rfl rfl rfl ?_
      refine ez_ifleN (q := 93) (tgt := 125) dL_isPart_90 (by decide) (by omega) rfl (fun hc90 => absurd hi0 (by omega)) (fun hc90 => ?_)
      refine ez_aload_n (q := 94) 0 dL_isPart_93 rfl rfl rfl ?_
      refine ez_iload_n (q := 95) 1 dL_isPart_94 rfl rfl rfl ?_
      refine ez_iload_n (q := 96) 2 dL_isPart_95 rfl rfl rfl ?_
      refine ez_iconst (v := nI 1) (q := 97) dL_isPart_96 (by decide) rfl ?_
      refine ez_isubN (q := 98) dL_isPart_97 (by omega) rfl ?_
      refine ez_iconst (v := nI 0) (q := 99) dL_isPart_98 (by decide) rfl ?_
      refine cXv (q := 102) dL_isPart_99 ck_L_63 hI.1.1 (v_X7_sign (what := 0) hI.rb ho hs (by omega) (by omega) (by decide)) rfl ⟨by decide, rfl⟩ rfl rfl rfl (Nat.le_of_ble_eq_true rfl) rfl (fun g hW => ?_)
      have hI := hI.tr hW
      clear hW
      refine ez_top (show tgI T n' f L ln sg w (i - 1) 0 = nI (sg w (i - 1)) from if_pos rfl) ?_
      refine ez_bipush (v := nI 69) (q := 104) dL_isPart_102 (by decide) rfl ?_
      refine ez_icmpeqN (q := 107) (tgt := 121) dL_isPart_104 (by decide) (by omega) (by omega) rfl (fun hc104 => ?_) (fun hc104 => ?_)
      · refine ez_iconst (v := nI 1) (q := 122) dL_isPart_121 (by decide) rfl ?_
        refine ez_goto (q := 126) dL_isPart_122 (by decide) ?_
        exact ez_zret dL_isPart_126 rfl rfl (hQ _ hI)
      · refine ez_aload_n (q := 108) 0 dL_isPart_107 rfl rfl rfl ?_
        refine ez_iload_n (q := 109) 1 dL_isPart_108 rfl rfl rfl ?_
        refine ez_iload_n (q := 110) 2 dL_isPart_109 rfl rfl rfl ?_
        refine ez_iconst (v := nI 1) (q := 111) dL_isPart_110 (by decide) rfl ?_
        refine ez_isubN (q := 112) dL_isPart_111 (by omega) rfl ?_
        refine ez_iconst (v := nI 0) (q := 113) dL_isPart_112 (by decide) rfl ?_
        refine cXv (q := 116) dL_isPart_113 ck_L_63 hI.1.1 (v_X7_sign (what := 0) hI.rb ho hs (by omega) (by omega) (by decide)) rfl ⟨by decide, rfl⟩ rfl rfl rfl (Nat.le_of_ble_eq_true rfl) rfl (fun g hW => ?_)
        have hI := hI.tr hW
        clear hW
        refine ez_top (show tgI T n' f L ln sg w (i - 1) 0 = nI (sg w (i - 1)) from if_pos rfl) ?_
        refine ez_bipush (v := nI 65) (q := 118) dL_isPart_116 (by decide) rfl ?_
        refine ez_icmpneN (q := 121) (tgt := 125) dL_isPart_118 (by decide) (by omega) (by omega) rfl (fun hc118 => absurd hprev (by omega)) (fun hc118 => ?_)
        refine ez_iconst (v := nI 1) (q := 122) dL_isPart_121 (by decide) rfl ?_
        refine ez_goto (q := 126) dL_isPart_122 (by decide) ?_
        exact ez_zret dL_isPart_126 rfl rfl (hQ _ hI)
  · first
    | exact False.elim (by omega)
    | skip
      refine ez_iload (q := 47) dL_isPart_45 rfl rfl ?_
      refine ez_bipush (v := nI 70) (q := 49) dL_isPart_47 (by decide) rfl ?_
      refine ez_icmpeqN (q := 52) (tgt := 66) dL_isPart_49 (by decide) (by omega) (by omega) rfl (fun hc49 => ?_) (fun hc49 => ?_)
      · first
        | exact False.elim (by omega)
        | skip
          refine ez_iload (q := 68) dL_isPart_66 rfl rfl ?_
          refine ez_iconst (v := -1) (q := 69) dL_isPart_68 (by decide) rfl ?_
          refine ez_icmpne (q := 72) (tgt := 125) dL_isPart_69 (by decide) rfl (fun hc69 => absurd rfl hc69) (fun hc69 => ?_)
          refine ez_iload (q := 74) dL_isPart_72 rfl rfl ?_
          refine ez_iconst (v := -1) (q := 75) dL_isPart_74 (by decide) rfl ?_
          refine ez_icmpne (q := 78) (tgt := 125) dL_isPart_75 (by decide) rfl (fun hc75 => absurd rfl hc75) (fun hc75 => ?_)
          refine ez_aload_n (q := 79) 0 dL_isPart_78 rfl rfl rfl ?_
          refine ez_iload_n (q := 80) 1 dL_isPart_79 rfl rfl rfl ?_
          refine ez_iload_n (q := 81) 2 dL_isPart_80 rfl rfl rfl ?_
          refine ez_iconst (v := nI 2) (q := 82) dL_isPart_81 (by decide) rfl ?_
          refine cXv (q := 85) dL_isPart_82 ck_L_63 hI.1.1 (v_X7_sign (what := 2) hI.rb ho hs (by omega) (by omega) (by decide)) rfl ⟨by decide, rfl⟩ rfl rfl rfl (Nat.le_of_ble_eq_true rfl) rfl (fun g hW => ?_)
          have hI := hI.tr hW
          clear hW
          refine ez_top (tg_way hway (by decide)) ?_
          refine ez_iconst (v := -1) (q := 86) dL_isPart_85 (by decide) rfl ?_
          refine ez_icmpne (q := 89) (tgt := 125) dL_isPart_86 (by decide) rfl (fun hc86 => absurd rfl hc86) (fun hc86 => ?_)
          refine ez_iload_n (q := 90) 2 dL_isPart_89 rfl rfl rfl ?_
          refine ez_ifleN (q := 93) (tgt := 125) dL_isPart_90 (by decide) (by omega) rfl (fun hc90 => absurd hi0 (by omega)) (fun hc90 => ?_)
          refine ez_aload_n (q := 94) 0 dL_isPart_93 rfl rfl rfl ?_
          refine ez_iload_n (q := 95) 1 dL_isPart_94 rfl rfl rfl ?_
          refine ez_iload_n (q := 96) 2 dL_isPart_95 rfl rfl rfl ?_
          refine ez_iconst (v := nI 1) (q := 97) dL_isPart_96 (by decide) rfl ?_
          refine ez_isubN (q := 98) dL_isPart_97 (by omega) rfl ?_
          refine ez_iconst (v := nI 0) (q := 99) dL_isPart_98 (by decide) rfl ?_
          refine cXv (q := 102) dL_isPart_99 ck_L_63 hI.1.1 (v_X7_sign (what := 0) hI.rb ho hs (by omega) (by omega) (by decide)) rfl ⟨by decide, rfl⟩ rfl rfl rfl (Nat.le_of_ble_eq_true rfl) rfl (fun g hW => ?_)
          have hI := hI.tr hW
          clear hW
          refine ez_top (show tgI T n' f L ln sg w (i - 1) 0 = nI (sg w (i - 1)) from if_pos rfl) ?_
          refine ez_bipush (v := nI 69) (q := 104) dL_isPart_102 (by decide) rfl ?_
          refine ez_icmpeqN (q := 107) (tgt := 121) dL_isPart_104 (by decide) (by omega) (by omega) rfl (fun hc104 => ?_) (fun hc104 => ?_)
          · refine ez_iconst (v := nI 1) (q := 122) dL_isPart_121 (by decide) rfl ?_
            refine ez_goto (q := 126) dL_isPart_122 (by decide) ?_
            exact ez_zret dL_isPart_126 rfl rfl (hQ _ hI)
          · refine ez_aload_n (q := 108) 0 dL_isPart_107 rfl rfl rfl ?_
            refine ez_iload_n (q := 109) 1 dL_isPart_108 rfl rfl rfl ?_
            refine ez_iload_n (q := 110) 2 dL_isPart_109 rfl rfl rfl ?_
            refine ez_iconst (v := nI 1) (q := 111) dL_isPart_110 (by decide) rfl ?_
            refine ez_isubN (q := 112) dL_isPart_111 (by omega) rfl ?_
            refine ez_iconst (v := nI 0) (q := 113) dL_isPart_112 (by decide) rfl ?_
            refine cXv (q := 116) dL_isPart_113 ck_L_63 hI.1.1 (v_X7_sign (what := 0) hI.rb ho hs (by omega) (by omega) (by decide)) rfl ⟨by decide, rfl⟩ rfl rfl rfl (Nat.le_of_ble_eq_true rfl) rfl (fun g hW => ?_)
            have hI := hI.tr hW
            clear hW
            refine ez_top (show tgI T n' f L ln sg w (i - 1) 0 = nI (sg w (i - 1)) from if_pos rfl) ?_
            refine ez_bipush (v := nI 65) (q := 118) dL_isPart_116 (by decide) rfl ?_
            refine ez_icmpneN (q := 121) (tgt := 125) dL_isPart_118 (by decide) (by omega) (by omega) rfl (fun hc118 => absurd hprev (by omega)) (fun hc118 => ?_)
            refine ez_iconst (v := nI 1) (q := 122) dL_isPart_121 (by decide) rfl ?_
            refine ez_goto (q := 126) dL_isPart_122 (by decide) ?_
            exact ez_zret dL_isPart_126 rfl rfl (hQ _ hI)
      · first
        | exact False.elim (by omega)
        | skip
          refine ez_iload (q := 54) dL_isPart_52 rfl rfl ?_
          refine ez_bipush (v := nI 71) (q := 56) dL_isPart_54 (by decide) rfl ?_
          refine ez_icmpeqN (q := 59) (tgt := 66) dL_isPart_56 (by decide) (by omega) (by omega) rfl (fun hc56 => ?_) (fun hc56 => ?_)
          · first
            | exact False.elim (by omega)
            | skip
              refine ez_iload (q := 68) dL_isPart_66 rfl rfl ?_
              refine ez_iconst (v := -1) (q := 69) dL_isPart_68 (by decide) rfl ?_
              refine ez_icmpne (q := 72) (tgt := 125) dL_isPart_69 (by decide) rfl (fun hc69 => absurd rfl hc69) (fun hc69 => ?_)
              refine ez_iload (q := 74) dL_isPart_72 rfl rfl ?_
              refine ez_iconst (v := -1) (q := 75) dL_isPart_74 (by decide) rfl ?_
              refine ez_icmpne (q := 78) (tgt := 125) dL_isPart_75 (by decide) rfl (fun hc75 => absurd rfl hc75) (fun hc75 => ?_)
              refine ez_aload_n (q := 79) 0 dL_isPart_78 rfl rfl rfl ?_
              refine ez_iload_n (q := 80) 1 dL_isPart_79 rfl rfl rfl ?_
              refine ez_iload_n (q := 81) 2 dL_isPart_80 rfl rfl rfl ?_
              refine ez_iconst (v := nI 2) (q := 82) dL_isPart_81 (by decide) rfl ?_
              refine cXv (q := 85) dL_isPart_82 ck_L_63 hI.1.1 (v_X7_sign (what := 2) hI.rb ho hs (by omega) (by omega) (by decide)) rfl ⟨by decide, rfl⟩ rfl rfl rfl (Nat.le_of_ble_eq_true rfl) rfl (fun g hW => ?_)
              have hI := hI.tr hW
              clear hW
              refine ez_top (tg_way hway (by decide)) ?_
              refine ez_iconst (v := -1) (q := 86) dL_isPart_85 (by decide) rfl ?_
              refine ez_icmpne (q := 89) (tgt := 125) dL_isPart_86 (by decide) rfl (fun hc86 => absurd rfl hc86) (fun hc86 => ?_)
              refine ez_iload_n (q := 90) 2 dL_isPart_89 rfl rfl rfl ?_
              refine ez_ifleN (q := 93) (tgt := 125) dL_isPart_90 (by decide) (by omega) rfl (fun hc90 => absurd hi0 (by omega)) (fun hc90 => ?_)
              refine ez_aload_n (q := 94) 0 dL_isPart_93 rfl rfl rfl ?_
              refine ez_iload_n (q := 95) 1 dL_isPart_94 rfl rfl rfl ?_
              refine ez_iload_n (q := 96) 2 dL_isPart_95 rfl rfl rfl ?_
              refine ez_iconst (v := nI 1) (q := 97) dL_isPart_96 (by decide) rfl ?_
              refine ez_isubN (q := 98) dL_isPart_97 (by omega) rfl ?_
              refine ez_iconst (v := nI 0) (q := 99) dL_isPart_98 (by decide) rfl ?_
              refine cXv (q := 102) dL_isPart_99 ck_L_63 hI.1.1 (v_X7_sign (what := 0) hI.rb ho hs (by omega) (by omega) (by decide)) rfl ⟨by decide, rfl⟩ rfl rfl rfl (Nat.le_of_ble_eq_true rfl) rfl (fun g hW => ?_)
              have hI := hI.tr hW
              clear hW
              refine ez_top (show tgI T n' f L ln sg w (i - 1) 0 = nI (sg w (i - 1)) from if_pos rfl) ?_
              refine ez_bipush (v := nI 69) (q := 104) dL_isPart_102 (by decide) rfl ?_
              refine ez_icmpeqN (q := 107) (tgt := 121) dL_isPart_104 (by decide) (by omega) (by omega) rfl (fun hc104 => ?_) (fun hc104 => ?_)
              · refine ez_iconst (v := nI 1) (q := 122) dL_isPart_121 (by decide) rfl ?_
                refine ez_goto (q := 126) dL_isPart_122 (by decide) ?_
                exact ez_zret dL_isPart_126 rfl rfl (hQ _ hI)
              · refine ez_aload_n (q := 108) 0 dL_isPart_107 rfl rfl rfl ?_
                refine ez_iload_n (q := 109) 1 dL_isPart_108 rfl rfl rfl ?_
                refine ez_iload_n (q := 110) 2 dL_isPart_109 rfl rfl rfl ?_
                refine ez_iconst (v := nI 1) (q := 111) dL_isPart_110 (by decide) rfl ?_
                refine ez_isubN (q := 112) dL_isPart_111 (by omega) rfl ?_
                refine ez_iconst (v := nI 0) (q := 113) dL_isPart_112 (by decide) rfl ?_
                refine cXv (q := 116) dL_isPart_113 ck_L_63 hI.1.1 (v_X7_sign (what := 0) hI.rb ho hs (by omega) (by omega) (by decide)) rfl ⟨by decide, rfl⟩ rfl rfl rfl (Nat.le_of_ble_eq_true rfl) rfl (fun g hW => ?_)
                have hI := hI.tr hW
                clear hW
                refine ez_top (show tgI T n' f L ln sg w (i - 1) 0 = nI (sg w (i - 1)) from if_pos rfl) ?_
                refine ez_bipush (v := nI 65) (q := 118) dL_isPart_116 (by decide) rfl ?_
                refine ez_icmpneN (q := 121) (tgt := 125) dL_isPart_118 (by decide) (by omega) (by omega) rfl (fun hc118 => absurd hprev (by omega)) (fun hc118 => ?_)
                refine ez_iconst (v := nI 1) (q := 122) dL_isPart_121 (by decide) rfl ?_
                refine ez_goto (q := 126) dL_isPart_122 (by decide) ?_
                exact ez_zret dL_isPart_126 rfl rfl (hQ _ hI)
          · first
            | exact False.elim (by omega)
            | skip
              refine ez_iload (q := 61) dL_isPart_59 rfl rfl ?_
              refine ez_bipush (v := nI 85) (q := 63) dL_isPart_61 (by decide) rfl ?_
              refine ez_icmpneN (q := 66) (tgt := 127) dL_isPart_63 (by decide) (by omega) (by omega) rfl (fun hc63 => absurd hww (by omega)) (fun hc63 => ?_)
              refine ez_iload (q := 68) dL_isPart_66 rfl rfl ?_
              refine ez_iconst (v := -1) (q := 69) dL_isPart_68 (by decide) rfl ?_
              refine ez_icmpne (q := 72) (tgt := 125) dL_isPart_69 (by decide) rfl (fun hc69 => absurd rfl hc69) (fun hc69 => ?_)
              refine ez_iload (q := 74) dL_isPart_72 rfl rfl ?_
              refine ez_iconst (v := -1) (q := 75) dL_isPart_74 (by decide) rfl ?_
              refine ez_icmpne (q := 78) (tgt := 125) dL_isPart_75 (by decide) rfl (fun hc75 => absurd rfl hc75) (fun hc75 => ?_)
              refine ez_aload_n (q := 79) 0 dL_isPart_78 rfl rfl rfl ?_
              refine ez_iload_n (q := 80) 1 dL_isPart_79 rfl rfl rfl ?_
              refine ez_iload_n (q := 81) 2 dL_isPart_80 rfl rfl rfl ?_
              refine ez_iconst (v := nI 2) (q := 82) dL_isPart_81 (by decide) rfl ?_
              refine cXv (q := 85) dL_isPart_82 ck_L_63 hI.1.1 (v_X7_sign (what := 2) hI.rb ho hs (by omega) (by omega) (by decide)) rfl ⟨by decide, rfl⟩ rfl rfl rfl (Nat.le_of_ble_eq_true rfl) rfl (fun g hW => ?_)
              have hI := hI.tr hW
              clear hW
              refine ez_top (tg_way hway (by decide)) ?_
              refine ez_iconst (v := -1) (q := 86) dL_isPart_85 (by decide) rfl ?_
              refine ez_icmpne (q := 89) (tgt := 125) dL_isPart_86 (by decide) rfl (fun hc86 => absurd rfl hc86) (fun hc86 => ?_)
              refine ez_iload_n (q := 90) 2 dL_isPart_89 rfl rfl rfl ?_
              refine ez_ifleN (q := 93) (tgt := 125) dL_isPart_90 (by decide) (by omega) rfl (fun hc90 => absurd hi0 (by omega)) (fun hc90 => ?_)
              refine ez_aload_n (q := 94) 0 dL_isPart_93 rfl rfl rfl ?_
              refine ez_iload_n (q := 95) 1 dL_isPart_94 rfl rfl rfl ?_
              refine ez_iload_n (q := 96) 2 dL_isPart_95 rfl rfl rfl ?_
              refine ez_iconst (v := nI 1) (q := 97) dL_isPart_96 (by decide) rfl ?_
              refine ez_isubN (q := 98) dL_isPart_97 (by omega) rfl ?_
              refine ez_iconst (v := nI 0) (q := 99) dL_isPart_98 (by decide) rfl ?_
              refine cXv (q := 102) dL_isPart_99 ck_L_63 hI.1.1 (v_X7_sign (what := 0) hI.rb ho hs (by omega) (by omega) (by decide)) rfl ⟨by decide, rfl⟩ rfl rfl rfl (Nat.le_of_ble_eq_true rfl) rfl (fun g hW => ?_)
              have hI := hI.tr hW
              clear hW
              refine ez_top (show tgI T n' f L ln sg w (i - 1) 0 = nI (sg w (i - 1)) from if_pos rfl) ?_
              refine ez_bipush (v := nI 69) (q := 104) dL_isPart_102 (by decide) rfl ?_
              refine ez_icmpeqN (q := 107) (tgt := 121) dL_isPart_104 (by decide) (by omega) (by omega) rfl (fun hc104 => ?_) (fun hc104 => ?_)
              · refine ez_iconst (v := nI 1) (q := 122) dL_isPart_121 (by decide) rfl ?_
                refine ez_goto (q := 126) dL_isPart_122 (by decide) ?_
                exact ez_zret dL_isPart_126 rfl rfl (hQ _ hI)
              · refine ez_aload_n (q := 108) 0 dL_isPart_107 rfl rfl rfl ?_
                refine ez_iload_n (q := 109) 1 dL_isPart_108 rfl rfl rfl ?_
                refine ez_iload_n (q := 110) 2 dL_isPart_109 rfl rfl rfl ?_
                refine ez_iconst (v := nI 1) (q := 111) dL_isPart_110 (by decide) rfl ?_
                refine ez_isubN (q := 112) dL_isPart_111 (by omega) rfl ?_
                refine ez_iconst (v := nI 0) (q := 113) dL_isPart_112 (by decide) rfl ?_
                refine cXv (q := 116) dL_isPart_113 ck_L_63 hI.1.1 (v_X7_sign (what := 0) hI.rb ho hs (by omega) (by omega) (by decide)) rfl ⟨by decide, rfl⟩ rfl rfl rfl (Nat.le_of_ble_eq_true rfl) rfl (fun g hW => ?_)
                have hI := hI.tr hW
                clear hW
                refine ez_top (show tgI T n' f L ln sg w (i - 1) 0 = nI (sg w (i - 1)) from if_pos rfl) ?_
                refine ez_bipush (v := nI 65) (q := 118) dL_isPart_116 (by decide) rfl ?_
                refine ez_icmpneN (q := 121) (tgt := 125) dL_isPart_118 (by decide) (by omega) (by omega) rfl (fun hc118 => absurd hprev (by omega)) (fun hc118 => ?_)
                refine ez_iconst (v := nI 1) (q := 122) dL_isPart_121 (by decide) rfl ?_
                refine ez_goto (q := 126) dL_isPart_122 (by decide) ?_
                exact ez_zret dL_isPart_126 rfl rfl (hQ _ hI)

set_option maxHeartbeats 800000 in
set_option maxRecDepth 100000 in
theorem c_L_isPartP {G : ez_G} {d n : Nat} {h : ez_H} {n' f k t : Nat} {L T ln : Nat → Nat} {sg : Nat → Nat → Nat} {zs : Nat → AS} {b : Nat → Nat} {w i : Nat} (hI : CJ h h n' f L T ln sg k zs t b) (ho : OK n' f L T ln sg) (hs : WFS ln sg)  (hn8 : n' ≤ 8) (hw : w < 4) (hi : i < ln w) (hnw : wayB (sg w i) = false) : Con G mL_isPart (d + 12) [.ref 1, .int (nI w), .int (nI i), .int (nI (lvN T n' f L))] h n 0 0 (PW n (some (.int (nI 1))) (fun g => CJ h g n' f L T ln sg k zs t b)) := by
  have hn := ho.1
  have hl4 := ho.2.2.2.2.1 w hw
  obtain ⟨sc, hwf⟩ := hs w hw (by omega)
  have hc128 := wf_c hwf hi
  obtain ⟨hsc, hsort9⟩ := wf_sort hwf hi hnw
  have hsort : sg w i = 116 ∨ (97 ≤ sg w i ∧ sg w i ≤ 100) ∨ sg w i = 33 ∨ sg w i = 38 ∨ sg w i = 124 ∨ (sg w i = 69 ∧ sg w (i + 1) = 85) ∨ (sg w i = 69 ∧ ¬ sg w (i + 1) = 85) ∨ (sg w i = 65 ∧ sg w (i + 1) = 85) ∨ (sg w i = 65 ∧ ¬ sg w (i + 1) = 85) := by omega
  have hr20 := ro_20 (T := T) (n := n') (f := f) (L := L) hn8 (ln w) (sg w) i
  refine Con.of [some (.ref 1), some (.int (nI w)), some (.int (nI i)), some (.int (nI (lvN T n' f L))), none, none, none, none, none, none, none, none, none, none, none, none, none, none, none, none] pl_L rfl (Nat.le_of_ble_eq_true rfl) rfl ?_
  have hQ : ∀ g, CJ h g n' f L T ln sg k zs t b → (PW n (some (.int (nI 1))) (fun g => CJ h g n' f L T ln sg k zs t b)) (.inl (some (.int (nI 1)))) g n := fun g h1 => ⟨rfl, h1, rfl⟩
  generalize PW n (some (.int (nI 1))) (fun g => CJ h g n' f L T ln sg k zs t b) = Q at hQ ⊢
  refine ez_aload_n (q := 1) 0 dL_isPart_0 rfl rfl rfl ?_
  refine ez_iload_n (q := 2) 1 dL_isPart_1 rfl rfl rfl ?_
  refine ez_iload_n (q := 3) 2 dL_isPart_2 rfl rfl rfl ?_
  refine ez_iconst (v := nI 0) (q := 4) dL_isPart_3 (by decide) rfl ?_
  refine cXv (q := 7) dL_isPart_4 ck_L_63 hI.1.1 (v_X7_sign (what := 0) hI.rb ho hs (by omega) (by omega) (by decide)) rfl ⟨by decide, rfl⟩ rfl rfl rfl (Nat.le_of_ble_eq_true rfl) rfl (fun g hW => ?_)
  have hI := hI.tr hW
  clear hW
  refine ez_top (show tgI T n' f L ln sg w (i) 0 = nI (sg w (i)) from if_pos rfl) ?_
  refine ez_istore_4 (q := 9) dL_isPart_7 (by decide) rfl rfl ?_
  refine ez_iconst (v := nI 1) (q := 10) dL_isPart_9 (by decide) rfl ?_
  refine ez_aload_n (q := 11) 0 dL_isPart_10 rfl rfl rfl ?_
  refine ez_iconst (v := nI 0) (q := 12) dL_isPart_11 (by decide) rfl ?_
  refine cXv (q := 15) dL_isPart_12 ck_L_45 hI.1.1 (v_X7_count (what := 0) hI.rb ho hs (by decide)) rfl ⟨by decide, rfl⟩ rfl rfl rfl (Nat.le_of_ble_eq_true rfl) rfl (fun g hW => ?_)
  have hI := hI.tr hW
  clear hW
  refine ez_top (show couI T n' f L ln sg k 0 = nI n' from rfl) ?_
  refine ez_shl1 (q := 16) dL_isPart_15 (by omega) rfl ?_
  refine ez_iconst (v := nI 1) (q := 17) dL_isPart_16 (by decide) rfl ?_
  refine ez_isubN (q := 18) dL_isPart_17 (Nat.two_pow_pos _) rfl ?_
  refine ez_istore_5 (q := 20) dL_isPart_18 (by decide) rfl rfl ?_
  refine ez_aload_n (q := 21) 0 dL_isPart_20 rfl rfl rfl ?_
  refine ez_iload_n (q := 22) 1 dL_isPart_21 rfl rfl rfl ?_
  refine ez_iload_n (q := 23) 2 dL_isPart_22 rfl rfl rfl ?_
  refine ez_iconst (v := nI 1) (q := 24) dL_isPart_23 (by decide) rfl ?_
  refine cXv (q := 27) dL_isPart_24 ck_L_63 hI.1.1 (v_X7_sign (what := 1) hI.rb ho hs (by omega) (by omega) (by decide)) rfl ⟨by decide, rfl⟩ rfl rfl rfl (Nat.le_of_ble_eq_true rfl) rfl (fun g hW => ?_)
  have hI := hI.tr hW
  clear hW
  refine ez_top (tg_1 hnw) ?_
  refine ez_istore_6 (q := 29) dL_isPart_27 (by decide) rfl rfl ?_
  refine ez_aload_n (q := 30) 0 dL_isPart_29 rfl rfl rfl ?_
  refine ez_iload_n (q := 31) 1 dL_isPart_30 rfl rfl rfl ?_
  refine ez_iload_n (q := 32) 2 dL_isPart_31 rfl rfl rfl ?_
  refine ez_iconst (v := nI 3) (q := 33) dL_isPart_32 (by decide) rfl ?_
  refine cXv (q := 36) dL_isPart_33 ck_L_63 hI.1.1 (v_X7_sign (what := 3) hI.rb ho hs (by omega) (by omega) (by decide)) rfl ⟨by decide, rfl⟩ rfl rfl rfl (Nat.le_of_ble_eq_true rfl) rfl (fun g hW => ?_)
  have hI := hI.tr hW
  clear hW
  refine ez_top (tg_3 hnw) ?_
  refine ez_istore_7 (q := 38) dL_isPart_36 (by decide) rfl rfl ?_
  rcases hsort with hc | hc | hc | hc | hc | ⟨hc, hyu⟩ | ⟨hc, hyu⟩ | ⟨hc, hyu⟩ | ⟨hc, hyu⟩
  · have hset := seW_t (T := T) (n := n') (f := f) (L := L) (m := ln w) (s := sg w) (j := i) hi hc
    have hle := leW_1 hi (Or.inr hc)
    have hrz := roW_0 (T := T) (n := n') (f := f) (L := L) (m := ln w) (s := sg w) (j := i) ⟨by omega, by omega⟩
    refine ez_iload (q := 40) dL_isPart_38 rfl rfl ?_
    refine ez_bipush (v := nI 88) (q := 42) dL_isPart_40 (by decide) rfl ?_
    refine ez_icmpeqN (q := 45) (tgt := 66) dL_isPart_42 (by decide) (by omega) (by omega) rfl (fun hc42 => False.elim (by omega)) (fun hc42 => ?_)
    refine ez_iload (q := 47) dL_isPart_45 rfl rfl ?_
    refine ez_bipush (v := nI 70) (q := 49) dL_isPart_47 (by decide) rfl ?_
    refine ez_icmpeqN (q := 52) (tgt := 66) dL_isPart_49 (by decide) (by omega) (by omega) rfl (fun hc49 => False.elim (by omega)) (fun hc49 => ?_)
    refine ez_iload (q := 54) dL_isPart_52 rfl rfl ?_
    refine ez_bipush (v := nI 71) (q := 56) dL_isPart_54 (by decide) rfl ?_
    refine ez_icmpeqN (q := 59) (tgt := 66) dL_isPart_56 (by decide) (by omega) (by omega) rfl (fun hc56 => False.elim (by omega)) (fun hc56 => ?_)
    refine ez_iload (q := 61) dL_isPart_59 rfl rfl ?_
    refine ez_bipush (v := nI 85) (q := 63) dL_isPart_61 (by decide) rfl ?_
    refine ez_icmpneN (q := 66) (tgt := 127) dL_isPart_63 (by decide) (by omega) (by omega) rfl (fun hc63 => ?_) (fun hc63 => False.elim (by omega))
    refine ez_iload (q := 129) dL_isPart_127 rfl rfl ?_
    refine ez_bipush (v := nI 69) (q := 131) dL_isPart_129 (by decide) rfl ?_
    refine ez_icmpeqN (q := 134) (tgt := 141) dL_isPart_131 (by decide) (by omega) (by omega) rfl (fun hc131 => False.elim (by omega)) (fun hc131 => ?_)
    refine ez_iload (q := 136) dL_isPart_134 rfl rfl ?_
    refine ez_bipush (v := nI 65) (q := 138) dL_isPart_136 (by decide) rfl ?_
    refine ez_icmpneN (q := 141) (tgt := 145) dL_isPart_138 (by decide) (by omega) (by omega) rfl (fun hc138 => ?_) (fun hc138 => False.elim (by omega))
    refine ez_iconst (v := nI 0) (q := 146) dL_isPart_145 (by decide) rfl ?_
    refine ez_istore_8 (q := 148) dL_isPart_146 (by decide) rfl rfl ?_
    refine ez_iload (q := 150) dL_isPart_148 rfl rfl ?_
    refine ez_ifeqN (q := 153) (tgt := 165) dL_isPart_150 (by decide) (by decide) rfl (fun hc150 => ?_) (fun hc150 => absurd hc150 (by decide))
    refine ez_iconst (v := nI 0) (q := 166) dL_isPart_165 (by decide) rfl ?_
    refine ez_istore_9 (q := 168) dL_isPart_166 (by decide) rfl rfl ?_
    refine ez_iload (q := 170) dL_isPart_168 rfl rfl ?_
    refine ez_bipush (v := nI 38) (q := 172) dL_isPart_170 (by decide) rfl ?_
    refine ez_icmpeqN (q := 175) (tgt := 189) dL_isPart_172 (by decide) (by omega) (by omega) rfl (fun hc172 => False.elim (by omega)) (fun hc172 => ?_)
    refine ez_iload (q := 177) dL_isPart_175 rfl rfl ?_
    refine ez_bipush (v := nI 124) (q := 179) dL_isPart_177 (by decide) rfl ?_
    refine ez_icmpeqN (q := 182) (tgt := 189) dL_isPart_179 (by decide) (by omega) (by omega) rfl (fun hc179 => False.elim (by omega)) (fun hc179 => ?_)
    refine ez_iload (q := 184) dL_isPart_182 rfl rfl ?_
    refine ez_bipush (v := nI 85) (q := 186) dL_isPart_184 (by decide) rfl ?_
    refine ez_icmpneN (q := 189) (tgt := 193) dL_isPart_186 (by decide) (by omega) (by omega) rfl (fun hc186 => ?_) (fun hc186 => False.elim (by omega))
    refine ez_iconst (v := nI 0) (q := 194) dL_isPart_193 (by decide) rfl ?_
    refine ez_istore_10 (q := 196) dL_isPart_194 (by decide) rfl rfl ?_
    refine ez_iload (q := 198) dL_isPart_196 rfl rfl ?_
    refine ez_bipush (v := nI 116) (q := 200) dL_isPart_198 (by decide) rfl ?_
    refine ez_icmpeqN (q := 203) (tgt := 217) dL_isPart_200 (by decide) (by omega) (by omega) rfl (fun hc200 => ?_) (fun hc200 => False.elim (by omega))
    refine ez_iconst (v := nI 1) (q := 218) dL_isPart_217 (by decide) rfl ?_
    refine ez_goto (q := 222) dL_isPart_218 (by decide) ?_
    refine ez_istore_11 (q := 224) dL_isPart_222 (by decide) rfl rfl ?_
    refine ez_iload_n (q := 225) 2 dL_isPart_224 rfl rfl rfl ?_
    refine ez_iload (q := 227) dL_isPart_225 rfl rfl ?_
    refine ez_ifeqN (q := 230) (tgt := 234) dL_isPart_227 (by decide) (by decide) rfl (fun hc227 => ?_) (fun hc227 => absurd hc227 (by decide))
    refine ez_iconst (v := nI 1) (q := 235) dL_isPart_234 (by decide) rfl ?_
    refine ez_iaddN (q := 236) dL_isPart_235 rfl ?_
    refine ez_istore_12 (q := 238) dL_isPart_236 (by decide) rfl rfl ?_
    refine ez_iload (q := 240) dL_isPart_238 rfl rfl ?_
    refine ez_ifeqN (q := 243) (tgt := 247) dL_isPart_240 (by decide) (by decide) rfl (fun hc240 => absurd hc240 (by decide)) (fun hc240 => ?_)
    refine ez_iconst (v := nI 0) (q := 244) dL_isPart_243 (by decide) rfl ?_
    refine ez_goto (q := 255) dL_isPart_244 (by decide) ?_
    refine ez_istore_13 (q := 257) dL_isPart_255 (by decide) rfl rfl ?_
    refine ez_iload (q := 259) dL_isPart_257 rfl rfl ?_
    refine ez_ifeqN (q := 262) (tgt := 266) dL_isPart_259 (by decide) (by decide) rfl (fun hc259 => absurd hc259 (by decide)) (fun hc259 => ?_)
    refine ez_iconst (v := nI 0) (q := 263) dL_isPart_262 (by decide) rfl ?_
    refine ez_goto (q := 274) dL_isPart_263 (by decide) ?_
    refine ez_istore_14 (q := 276) dL_isPart_274 (by decide) rfl rfl ?_
    refine ez_iload (q := 278) dL_isPart_276 rfl rfl ?_
    refine ez_ifeqN (q := 281) (tgt := 295) dL_isPart_278 (by decide) (by decide) rfl (fun hc278 => ?_) (fun hc278 => absurd hc278 (by decide))
    refine ez_iconst (v := nI 0) (q := 296) dL_isPart_295 (by decide) rfl ?_
    refine ez_istore_15 (q := 298) dL_isPart_296 (by decide) rfl rfl ?_
    refine ez_iload (q := 300) dL_isPart_298 rfl rfl ?_
    refine ez_ifeqN (q := 303) (tgt := 307) dL_isPart_300 (by decide) (by decide) rfl (fun hc300 => ?_) (fun hc300 => absurd hc300 (by decide))
    refine ez_iconst (v := nI 1) (q := 308) dL_isPart_307 (by decide) rfl ?_
    refine ez_iload (q := 310) dL_isPart_308 rfl rfl ?_
    refine ez_iaddN (q := 311) dL_isPart_310 rfl ?_
    refine ez_iload (q := 313) dL_isPart_311 rfl rfl ?_
    refine ez_ifeqN (q := 316) (tgt := 330) dL_isPart_313 (by decide) (by decide) rfl (fun hc313 => ?_) (fun hc313 => absurd hc313 (by decide))
    refine ez_iconst (v := nI 0) (q := 331) dL_isPart_330 (by decide) rfl ?_
    refine ez_iaddN (q := 332) dL_isPart_331 rfl ?_
    refine ez_istore_16 (q := 334) dL_isPart_332 (by decide) rfl rfl ?_
    refine ez_iload (q := 336) dL_isPart_334 rfl rfl ?_
    refine ez_bipush (v := nI 116) (q := 338) dL_isPart_336 (by decide) rfl ?_
    refine ez_icmpneN (q := 341) (tgt := 346) dL_isPart_338 (by decide) (by omega) (by omega) rfl (fun hc338 => False.elim (by omega)) (fun hc338 => ?_)
    refine ez_iload (q := 343) dL_isPart_341 rfl rfl ?_
    refine ez_goto (q := 383) dL_isPart_343 (by decide) ?_
    refine ez_istore_17 (q := 385) dL_isPart_383 (by decide) rfl rfl ?_
    refine ez_iload (q := 387) dL_isPart_385 rfl rfl ?_
    refine ez_ifeqN (q := 390) (tgt := 442) dL_isPart_387 (by decide) (by decide) rfl (fun hc387 => absurd hc387 (by decide)) (fun hc387 => ?_)
    refine ez_iload (q := 392) dL_isPart_390 rfl rfl ?_
    refine ez_bipush (v := nI 116) (q := 394) dL_isPart_392 (by decide) rfl ?_
    refine ez_icmpeqN (q := 397) (tgt := 442) dL_isPart_394 (by decide) (by omega) (by omega) rfl (fun hc394 => ?_) (fun hc394 => False.elim (by omega))
    refine ez_iload (q := 444) dL_isPart_442 rfl rfl ?_
    refine ez_ifeqN (q := 447) (tgt := 463) dL_isPart_444 (by decide) (by decide) rfl (fun hc444 => ?_) (fun hc444 => absurd hc444 (by decide))
    refine ez_iload (q := 465) dL_isPart_463 rfl rfl ?_
    refine ez_istore_17 (q := 467) dL_isPart_465 (by decide) rfl rfl ?_
    refine ez_aload_n (q := 468) 0 dL_isPart_467 rfl rfl rfl ?_
    refine ez_iload_n (q := 469) 1 dL_isPart_468 rfl rfl rfl ?_
    refine ez_iload_n (q := 470) 2 dL_isPart_469 rfl rfl rfl ?_
    refine ez_iconst (v := nI 2) (q := 471) dL_isPart_470 (by decide) rfl ?_
    refine cXv (q := 474) dL_isPart_471 ck_L_63 hI.1.1 (v_X7_sign (what := 2) hI.rb ho hs (by omega) (by omega) (by decide)) rfl ⟨by decide, rfl⟩ rfl rfl rfl (Nat.le_of_ble_eq_true rfl) rfl (fun g hW => ?_)
    have hI := hI.tr hW
    clear hW
    refine ez_top (tg_2 hnw) ?_
    refine ez_istore_18 (q := 476) dL_isPart_474 (by decide) rfl rfl ?_
    refine ez_iload (q := 478) dL_isPart_476 rfl rfl ?_
    refine ez_ifeqN (q := 481) (tgt := 492) dL_isPart_478 (by decide) (by decide) rfl (fun hc478 => ?_) (fun hc478 => absurd hc478 (by decide))
    refine ez_iconst (v := nI 0) (q := 493) dL_isPart_492 (by decide) rfl ?_
    refine ez_istore_19 (q := 495) dL_isPart_493 (by decide) rfl rfl ?_
    refine ez_iload (q := 497) dL_isPart_495 rfl rfl ?_
    refine ez_iload (q := 499) dL_isPart_497 rfl rfl ?_
    refine ez_icmpne (q := 502) (tgt := 535) dL_isPart_499 (by decide) rfl (fun hc499 => absurd (congrArg nI hset) hc499) (fun hc499 => ?_)
    refine ez_iload (q := 504) dL_isPart_502 rfl rfl ?_
    refine ez_iload (q := 506) dL_isPart_504 rfl rfl ?_
    refine ez_icmpne (q := 509) (tgt := 535) dL_isPart_506 (by decide) rfl (fun hc506 => absurd (congrArg nI hle) hc506) (fun hc506 => ?_)
    refine ez_iload (q := 511) dL_isPart_509 rfl rfl ?_
    refine ez_ifltN (q := 514) (tgt := 535) dL_isPart_511 (by decide) (by omega) rfl ?_
    refine ez_iload (q := 516) dL_isPart_514 rfl rfl ?_
    refine ez_bipush (v := nI 20) (q := 518) dL_isPart_516 (by decide) rfl ?_
    refine ez_icmpgtN (q := 521) (tgt := 535) dL_isPart_518 (by decide) (by omega) (by omega) rfl (fun hc518 => absurd hr20 (by omega)) (fun hc518 => ?_)
    refine ez_iload (q := 523) dL_isPart_521 rfl rfl ?_
    refine ez_ifneN (q := 526) (tgt := 531) dL_isPart_523 (by decide) (by decide) rfl (fun hc523 => ?_) (fun hc523 => ?_)
    · first
      | exact absurd hc523 (by decide)
      | skip
        refine ez_iconst (v := nI 1) (q := 532) dL_isPart_531 (by decide) rfl ?_
        refine ez_goto (q := 536) dL_isPart_532 (by decide) ?_
        exact ez_zret dL_isPart_536 rfl rfl (hQ _ hI)
    · first
      | exact absurd hc523 (by decide)
      | skip
        refine ez_iload (q := 528) dL_isPart_526 rfl rfl ?_
        refine ez_ifneN (q := 531) (tgt := 535) dL_isPart_528 (by decide) (by omega) rfl (fun hc528 => absurd (by first | exact hrz | exact hro0 hc485) hc528) (fun hc528 => ?_)
        refine ez_iconst (v := nI 1) (q := 532) dL_isPart_531 (by decide) rfl ?_
        refine ez_goto (q := 536) dL_isPart_532 (by decide) ?_
        exact ez_zret dL_isPart_536 rfl rfl (hQ _ hI)
  · have hset := seW_let (T := T) (n := n') (f := f) (L := L) (m := ln w) (s := sg w) (j := i) hi hc
    have hle := leW_1 hi (Or.inl hc)
    have hrz := roW_0 (T := T) (n := n') (f := f) (L := L) (m := ln w) (s := sg w) (j := i) ⟨by omega, by omega⟩
    refine ez_iload (q := 40) dL_isPart_38 rfl rfl ?_
    refine ez_bipush (v := nI 88) (q := 42) dL_isPart_40 (by decide) rfl ?_
    refine ez_icmpeqN (q := 45) (tgt := 66) dL_isPart_42 (by decide) (by omega) (by omega) rfl (fun hc42 => False.elim (by omega)) (fun hc42 => ?_)
    refine ez_iload (q := 47) dL_isPart_45 rfl rfl ?_
    refine ez_bipush (v := nI 70) (q := 49) dL_isPart_47 (by decide) rfl ?_
    refine ez_icmpeqN (q := 52) (tgt := 66) dL_isPart_49 (by decide) (by omega) (by omega) rfl (fun hc49 => False.elim (by omega)) (fun hc49 => ?_)
    refine ez_iload (q := 54) dL_isPart_52 rfl rfl ?_
    refine ez_bipush (v := nI 71) (q := 56) dL_isPart_54 (by decide) rfl ?_
    refine ez_icmpeqN (q := 59) (tgt := 66) dL_isPart_56 (by decide) (by omega) (by omega) rfl (fun hc56 => False.elim (by omega)) (fun hc56 => ?_)
    refine ez_iload (q := 61) dL_isPart_59 rfl rfl ?_
    refine ez_bipush (v := nI 85) (q := 63) dL_isPart_61 (by decide) rfl ?_
    refine ez_icmpneN (q := 66) (tgt := 127) dL_isPart_63 (by decide) (by omega) (by omega) rfl (fun hc63 => ?_) (fun hc63 => False.elim (by omega))
    refine ez_iload (q := 129) dL_isPart_127 rfl rfl ?_
    refine ez_bipush (v := nI 69) (q := 131) dL_isPart_129 (by decide) rfl ?_
    refine ez_icmpeqN (q := 134) (tgt := 141) dL_isPart_131 (by decide) (by omega) (by omega) rfl (fun hc131 => False.elim (by omega)) (fun hc131 => ?_)
    refine ez_iload (q := 136) dL_isPart_134 rfl rfl ?_
    refine ez_bipush (v := nI 65) (q := 138) dL_isPart_136 (by decide) rfl ?_
    refine ez_icmpneN (q := 141) (tgt := 145) dL_isPart_138 (by decide) (by omega) (by omega) rfl (fun hc138 => ?_) (fun hc138 => False.elim (by omega))
    refine ez_iconst (v := nI 0) (q := 146) dL_isPart_145 (by decide) rfl ?_
    refine ez_istore_8 (q := 148) dL_isPart_146 (by decide) rfl rfl ?_
    refine ez_iload (q := 150) dL_isPart_148 rfl rfl ?_
    refine ez_ifeqN (q := 153) (tgt := 165) dL_isPart_150 (by decide) (by decide) rfl (fun hc150 => ?_) (fun hc150 => absurd hc150 (by decide))
    refine ez_iconst (v := nI 0) (q := 166) dL_isPart_165 (by decide) rfl ?_
    refine ez_istore_9 (q := 168) dL_isPart_166 (by decide) rfl rfl ?_
    refine ez_iload (q := 170) dL_isPart_168 rfl rfl ?_
    refine ez_bipush (v := nI 38) (q := 172) dL_isPart_170 (by decide) rfl ?_
    refine ez_icmpeqN (q := 175) (tgt := 189) dL_isPart_172 (by decide) (by omega) (by omega) rfl (fun hc172 => False.elim (by omega)) (fun hc172 => ?_)
    refine ez_iload (q := 177) dL_isPart_175 rfl rfl ?_
    refine ez_bipush (v := nI 124) (q := 179) dL_isPart_177 (by decide) rfl ?_
    refine ez_icmpeqN (q := 182) (tgt := 189) dL_isPart_179 (by decide) (by omega) (by omega) rfl (fun hc179 => False.elim (by omega)) (fun hc179 => ?_)
    refine ez_iload (q := 184) dL_isPart_182 rfl rfl ?_
    refine ez_bipush (v := nI 85) (q := 186) dL_isPart_184 (by decide) rfl ?_
    refine ez_icmpneN (q := 189) (tgt := 193) dL_isPart_186 (by decide) (by omega) (by omega) rfl (fun hc186 => ?_) (fun hc186 => False.elim (by omega))
    refine ez_iconst (v := nI 0) (q := 194) dL_isPart_193 (by decide) rfl ?_
    refine ez_istore_10 (q := 196) dL_isPart_194 (by decide) rfl rfl ?_
    refine ez_iload (q := 198) dL_isPart_196 rfl rfl ?_
    refine ez_bipush (v := nI 116) (q := 200) dL_isPart_198 (by decide) rfl ?_
    refine ez_icmpeqN (q := 203) (tgt := 217) dL_isPart_200 (by decide) (by omega) (by omega) rfl (fun hc200 => False.elim (by omega)) (fun hc200 => ?_)
    refine ez_iload (q := 205) dL_isPart_203 rfl rfl ?_
    refine ez_bipush (v := nI 97) (q := 207) dL_isPart_205 (by decide) rfl ?_
    refine ez_icmpltN (q := 210) (tgt := 221) dL_isPart_207 (by decide) (by omega) (by omega) rfl (fun hc207 => False.elim (by omega)) (fun hc207 => ?_)
    refine ez_iload (q := 212) dL_isPart_210 rfl rfl ?_
    refine ez_bipush (v := nI 100) (q := 214) dL_isPart_212 (by decide) rfl ?_
    refine ez_icmpgtN (q := 217) (tgt := 221) dL_isPart_214 (by decide) (by omega) (by omega) rfl (fun hc214 => False.elim (by omega)) (fun hc214 => ?_)
    refine ez_iconst (v := nI 1) (q := 218) dL_isPart_217 (by decide) rfl ?_
    refine ez_goto (q := 222) dL_isPart_218 (by decide) ?_
    refine ez_istore_11 (q := 224) dL_isPart_222 (by decide) rfl rfl ?_
    refine ez_iload_n (q := 225) 2 dL_isPart_224 rfl rfl rfl ?_
    refine ez_iload (q := 227) dL_isPart_225 rfl rfl ?_
    refine ez_ifeqN (q := 230) (tgt := 234) dL_isPart_227 (by decide) (by decide) rfl (fun hc227 => ?_) (fun hc227 => absurd hc227 (by decide))
    refine ez_iconst (v := nI 1) (q := 235) dL_isPart_234 (by decide) rfl ?_
    refine ez_iaddN (q := 236) dL_isPart_235 rfl ?_
    refine ez_istore_12 (q := 238) dL_isPart_236 (by decide) rfl rfl ?_
    refine ez_iload (q := 240) dL_isPart_238 rfl rfl ?_
    refine ez_ifeqN (q := 243) (tgt := 247) dL_isPart_240 (by decide) (by decide) rfl (fun hc240 => absurd hc240 (by decide)) (fun hc240 => ?_)
    refine ez_iconst (v := nI 0) (q := 244) dL_isPart_243 (by decide) rfl ?_
    refine ez_goto (q := 255) dL_isPart_244 (by decide) ?_
    refine ez_istore_13 (q := 257) dL_isPart_255 (by decide) rfl rfl ?_
    refine ez_iload (q := 259) dL_isPart_257 rfl rfl ?_
    refine ez_ifeqN (q := 262) (tgt := 266) dL_isPart_259 (by decide) (by decide) rfl (fun hc259 => absurd hc259 (by decide)) (fun hc259 => ?_)
    refine ez_iconst (v := nI 0) (q := 263) dL_isPart_262 (by decide) rfl ?_
    refine ez_goto (q := 274) dL_isPart_263 (by decide) ?_
    refine ez_istore_14 (q := 276) dL_isPart_274 (by decide) rfl rfl ?_
    refine ez_iload (q := 278) dL_isPart_276 rfl rfl ?_
    refine ez_ifeqN (q := 281) (tgt := 295) dL_isPart_278 (by decide) (by decide) rfl (fun hc278 => ?_) (fun hc278 => absurd hc278 (by decide))
    refine ez_iconst (v := nI 0) (q := 296) dL_isPart_295 (by decide) rfl ?_
    refine ez_istore_15 (q := 298) dL_isPart_296 (by decide) rfl rfl ?_
    refine ez_iload (q := 300) dL_isPart_298 rfl rfl ?_
    refine ez_ifeqN (q := 303) (tgt := 307) dL_isPart_300 (by decide) (by decide) rfl (fun hc300 => ?_) (fun hc300 => absurd hc300 (by decide))
    refine ez_iconst (v := nI 1) (q := 308) dL_isPart_307 (by decide) rfl ?_
    refine ez_iload (q := 310) dL_isPart_308 rfl rfl ?_
    refine ez_iaddN (q := 311) dL_isPart_310 rfl ?_
    refine ez_iload (q := 313) dL_isPart_311 rfl rfl ?_
    refine ez_ifeqN (q := 316) (tgt := 330) dL_isPart_313 (by decide) (by decide) rfl (fun hc313 => ?_) (fun hc313 => absurd hc313 (by decide))
    refine ez_iconst (v := nI 0) (q := 331) dL_isPart_330 (by decide) rfl ?_
    refine ez_iaddN (q := 332) dL_isPart_331 rfl ?_
    refine ez_istore_16 (q := 334) dL_isPart_332 (by decide) rfl rfl ?_
    refine ez_iload (q := 336) dL_isPart_334 rfl rfl ?_
    refine ez_bipush (v := nI 116) (q := 338) dL_isPart_336 (by decide) rfl ?_
    refine ez_icmpneN (q := 341) (tgt := 346) dL_isPart_338 (by decide) (by omega) (by omega) rfl (fun hc338 => ?_) (fun hc338 => False.elim (by omega))
    refine ez_iload (q := 348) dL_isPart_346 rfl rfl ?_
    refine ez_bipush (v := nI 33) (q := 350) dL_isPart_348 (by decide) rfl ?_
    refine ez_icmpneN (q := 353) (tgt := 363) dL_isPart_350 (by decide) (by omega) (by omega) rfl (fun hc350 => ?_) (fun hc350 => False.elim (by omega))
    refine ez_iload (q := 365) dL_isPart_363 rfl rfl ?_
    refine ez_bipush (v := nI 38) (q := 367) dL_isPart_365 (by decide) rfl ?_
    refine ez_icmpneN (q := 370) (tgt := 378) dL_isPart_367 (by decide) (by omega) (by omega) rfl (fun hc367 => ?_) (fun hc367 => False.elim (by omega))
    refine ez_iload (q := 380) dL_isPart_378 rfl rfl ?_
    refine ez_iload (q := 382) dL_isPart_380 rfl rfl ?_
    refine ez_iorN (q := 383) dL_isPart_382 rfl ?_
    refine ez_istore_17 (q := 385) dL_isPart_383 (by decide) rfl rfl ?_
    refine ez_iload (q := 387) dL_isPart_385 rfl rfl ?_
    refine ez_ifeqN (q := 390) (tgt := 442) dL_isPart_387 (by decide) (by decide) rfl (fun hc387 => absurd hc387 (by decide)) (fun hc387 => ?_)
    refine ez_iload (q := 392) dL_isPart_390 rfl rfl ?_
    refine ez_bipush (v := nI 116) (q := 394) dL_isPart_392 (by decide) rfl ?_
    refine ez_icmpeqN (q := 397) (tgt := 442) dL_isPart_394 (by decide) (by omega) (by omega) rfl (fun hc394 => False.elim (by omega)) (fun hc394 => ?_)
    refine ez_iconst (v := nI 0) (q := 398) dL_isPart_397 (by decide) rfl ?_
    refine ez_istore_17 (q := 400) dL_isPart_398 (by decide) rfl rfl ?_
    refine ez_iconst (v := nI 0) (q := 401) dL_isPart_400 (by decide) rfl ?_
    refine ez_istore_18 (q := 403) dL_isPart_401 (by decide) rfl rfl ?_
    refine E.fg (ez_loop (α := Nat) (fun kk => n' - kk) (P := fun kk => ∀ (g : ez_H) , CJ h g n' f L T ln sg k zs t b → (kk ≤ n') → E G mL_isPart (d + 12) Q g n 0 0 403 [some (.ref 1), some (.int (nI w)), some (.int (nI i)), none, some (.int (nI (sg w i))), none, some (.int (nI (seW T n' f L (ln w) (sg w) i))), some (.int (nI (leW (ln w) (sg w) i))), some (.int (nI 0)), some (.int (nI 0)), none, some (.int (nI 1)), none, none, none, none, some (.int (nI (1 + 0 + 0))), some (.int (nI (wlN L (sg w i - 97) kk))), some (.int (nI kk)), none] []) ?_ 0 g hI (by omega)) ⟨Or.inr (rfl), Or.inr (rfl), Or.inr (rfl), Or.inl rfl, Or.inr (rfl), Or.inl rfl, Or.inr (rfl), Or.inr (rfl), Or.inr (rfl), Or.inr (rfl), Or.inl rfl, Or.inr (rfl), Or.inl rfl, Or.inl rfl, Or.inl rfl, Or.inl rfl, Or.inr (rfl), Or.inr (rfl), Or.inr (rfl), Or.inl rfl, trivial⟩
    intro kk ih403 g  hM hkk
    have hI := hM
    refine ez_iload (q := 405) dL_isPart_403 rfl rfl ?_
    refine ez_aload_n (q := 406) 0 dL_isPart_405 rfl rfl rfl ?_
    refine ez_iconst (v := nI 0) (q := 407) dL_isPart_406 (by decide) rfl ?_
    refine cXv (q := 410) dL_isPart_407 ck_L_45 hI.1.1 (v_X7_count (what := 0) hI.rb ho hs (by decide)) rfl ⟨by decide, rfl⟩ rfl rfl rfl (Nat.le_of_ble_eq_true rfl) rfl (fun g hW => ?_)
    have hI := hI.tr hW
    clear hW
    refine ez_top (show couI T n' f L ln sg k 0 = nI n' from rfl) ?_
    refine ez_icmpgeN (q := 413) (tgt := 442) dL_isPart_410 (by decide) (by omega) (by omega) rfl (fun hc410 => ?_) (fun hc410 => ?_)
    · have e9 : kk = n' := by omega
      rw [e9]
      refine ez_iload (q := 444) dL_isPart_442 rfl rfl ?_
      refine ez_ifeqN (q := 447) (tgt := 463) dL_isPart_444 (by decide) (by decide) rfl (fun hc444 => ?_) (fun hc444 => absurd hc444 (by decide))
      refine ez_iload (q := 465) dL_isPart_463 rfl rfl ?_
      refine ez_istore_17 (q := 467) dL_isPart_465 (by decide) rfl rfl ?_
      refine ez_aload_n (q := 468) 0 dL_isPart_467 rfl rfl rfl ?_
      refine ez_iload_n (q := 469) 1 dL_isPart_468 rfl rfl rfl ?_
      refine ez_iload_n (q := 470) 2 dL_isPart_469 rfl rfl rfl ?_
      refine ez_iconst (v := nI 2) (q := 471) dL_isPart_470 (by decide) rfl ?_
      refine cXv (q := 474) dL_isPart_471 ck_L_63 hI.1.1 (v_X7_sign (what := 2) hI.rb ho hs (by omega) (by omega) (by decide)) rfl ⟨by decide, rfl⟩ rfl rfl rfl (Nat.le_of_ble_eq_true rfl) rfl (fun g hW => ?_)
      have hI := hI.tr hW
      clear hW
      refine ez_top (tg_2 hnw) ?_
      refine ez_istore_18 (q := 476) dL_isPart_474 (by decide) rfl rfl ?_
      refine ez_iload (q := 478) dL_isPart_476 rfl rfl ?_
      refine ez_ifeqN (q := 481) (tgt := 492) dL_isPart_478 (by decide) (by decide) rfl (fun hc478 => ?_) (fun hc478 => absurd hc478 (by decide))
      refine ez_iconst (v := nI 0) (q := 493) dL_isPart_492 (by decide) rfl ?_
      refine ez_istore_19 (q := 495) dL_isPart_493 (by decide) rfl rfl ?_
      refine ez_iload (q := 497) dL_isPart_495 rfl rfl ?_
      refine ez_iload (q := 499) dL_isPart_497 rfl rfl ?_
      refine ez_icmpne (q := 502) (tgt := 535) dL_isPart_499 (by decide) rfl (fun hc499 => absurd (congrArg nI hset) hc499) (fun hc499 => ?_)
      refine ez_iload (q := 504) dL_isPart_502 rfl rfl ?_
      refine ez_iload (q := 506) dL_isPart_504 rfl rfl ?_
      refine ez_icmpne (q := 509) (tgt := 535) dL_isPart_506 (by decide) rfl (fun hc506 => absurd (congrArg nI hle) hc506) (fun hc506 => ?_)
      refine ez_iload (q := 511) dL_isPart_509 rfl rfl ?_
      refine ez_ifltN (q := 514) (tgt := 535) dL_isPart_511 (by decide) (by omega) rfl ?_
      refine ez_iload (q := 516) dL_isPart_514 rfl rfl ?_
      refine ez_bipush (v := nI 20) (q := 518) dL_isPart_516 (by decide) rfl ?_
      refine ez_icmpgtN (q := 521) (tgt := 535) dL_isPart_518 (by decide) (by omega) (by omega) rfl (fun hc518 => absurd hr20 (by omega)) (fun hc518 => ?_)
      refine ez_iload (q := 523) dL_isPart_521 rfl rfl ?_
      refine ez_ifneN (q := 526) (tgt := 531) dL_isPart_523 (by decide) (by decide) rfl (fun hc523 => ?_) (fun hc523 => ?_)
      · first
        | exact absurd hc523 (by decide)
        | skip
          refine ez_iconst (v := nI 1) (q := 532) dL_isPart_531 (by decide) rfl ?_
          refine ez_goto (q := 536) dL_isPart_532 (by decide) ?_
          exact ez_zret dL_isPart_536 rfl rfl (hQ _ hI)
      · first
        | exact absurd hc523 (by decide)
        | skip
          refine ez_iload (q := 528) dL_isPart_526 rfl rfl ?_
          refine ez_ifneN (q := 531) (tgt := 535) dL_isPart_528 (by decide) (by omega) rfl (fun hc528 => absurd (by first | exact hrz | exact hro0 hc485) hc528) (fun hc528 => ?_)
          refine ez_iconst (v := nI 1) (q := 532) dL_isPart_531 (by decide) rfl ?_
          refine ez_goto (q := 536) dL_isPart_532 (by decide) ?_
          exact ez_zret dL_isPart_536 rfl rfl (hQ _ hI)
    · refine ez_iload (q := 415) dL_isPart_413 rfl rfl ?_
      refine ez_aload_n (q := 416) 0 dL_isPart_415 rfl rfl rfl ?_
      refine ez_iload (q := 418) dL_isPart_416 rfl rfl ?_
      refine ez_iconst (v := nI 0) (q := 419) dL_isPart_418 (by decide) rfl ?_
      refine cXv (q := 422) dL_isPart_419 ck_L_36 hI.1.1 (v_X7_world (what := 0) hI.rb ho hs (by omega) (by decide)) rfl ⟨by decide, rfl⟩ rfl rfl rfl (Nat.le_of_ble_eq_true rfl) rfl (fun g hW => ?_)
      have hI := hI.tr hW
      clear hW
      refine ez_top (show nI (twN T n' f L ln sg kk 0) = nI (L kk) from rfl) ?_
      refine ez_iload (q := 424) dL_isPart_422 rfl rfl ?_
      refine ez_bipush (v := nI 97) (q := 426) dL_isPart_424 (by decide) rfl ?_
      refine ez_isubN (q := 427) dL_isPart_426 (by omega) rfl ?_
      refine ez_ishrN (q := 428) dL_isPart_427 (by have := ho.2.2.1 kk (by omega); omega) (by omega) rfl ?_
      refine ez_iconst (v := nI 1) (q := 429) dL_isPart_428 (by decide) rfl ?_
      refine ez_iandN (q := 430) dL_isPart_429 rfl ?_
      refine ez_iload (q := 432) dL_isPart_430 rfl rfl ?_
      refine ez_ishlN (q := 433) dL_isPart_432 (by omega) rfl ?_
      refine ez_iorN (q := 434) dL_isPart_433 rfl ?_
      refine ez_istore_17 (q := 436) dL_isPart_434 (by decide) rfl rfl ?_
      refine ez_iincN_18 (q := 439) dL_isPart_436 (by decide) rfl rfl ?_
      refine ez_goto (q := 403) dL_isPart_439 (by decide) ?_
      exact E.fg (ih403 (kk + 1) (by omega) g hI (by omega)) ⟨Or.inr (rfl), Or.inr (rfl), Or.inr (rfl), Or.inl rfl, Or.inr (rfl), Or.inl rfl, Or.inr (rfl), Or.inr (rfl), Or.inr (rfl), Or.inr (rfl), Or.inl rfl, Or.inr (rfl), Or.inl rfl, Or.inl rfl, Or.inl rfl, Or.inl rfl, Or.inr (rfl), Or.inr (by rw [wlN]), Or.inr (rfl), Or.inl rfl, trivial⟩
  · obtain ⟨hat1, hs1⟩ := wf_not hwf hi hsc hc
    have hw1 := (wf_w hwf hat1).trans hs1
    have hset := seW_not (T := T) (n := n') (f := f) (L := L) (m := ln w) (s := sg w) (j := i) hi hc
    have hle := leW_not hi hc
    have hrz := roW_0 (T := T) (n := n') (f := f) (L := L) (m := ln w) (s := sg w) (j := i) ⟨by omega, by omega⟩
    refine ez_iload (q := 40) dL_isPart_38 rfl rfl ?_
    refine ez_bipush (v := nI 88) (q := 42) dL_isPart_40 (by decide) rfl ?_
    refine ez_icmpeqN (q := 45) (tgt := 66) dL_isPart_42 (by decide) (by omega) (by omega) rfl (fun hc42 => False.elim (by omega)) (fun hc42 => ?_)
    refine ez_iload (q := 47) dL_isPart_45 rfl rfl ?_
    refine ez_bipush (v := nI 70) (q := 49) dL_isPart_47 (by decide) rfl ?_
    refine ez_icmpeqN (q := 52) (tgt := 66) dL_isPart_49 (by decide) (by omega) (by omega) rfl (fun hc49 => False.elim (by omega)) (fun hc49 => ?_)
    refine ez_iload (q := 54) dL_isPart_52 rfl rfl ?_
    refine ez_bipush (v := nI 71) (q := 56) dL_isPart_54 (by decide) rfl ?_
    refine ez_icmpeqN (q := 59) (tgt := 66) dL_isPart_56 (by decide) (by omega) (by omega) rfl (fun hc56 => False.elim (by omega)) (fun hc56 => ?_)
    refine ez_iload (q := 61) dL_isPart_59 rfl rfl ?_
    refine ez_bipush (v := nI 85) (q := 63) dL_isPart_61 (by decide) rfl ?_
    refine ez_icmpneN (q := 66) (tgt := 127) dL_isPart_63 (by decide) (by omega) (by omega) rfl (fun hc63 => ?_) (fun hc63 => False.elim (by omega))
    refine ez_iload (q := 129) dL_isPart_127 rfl rfl ?_
    refine ez_bipush (v := nI 69) (q := 131) dL_isPart_129 (by decide) rfl ?_
    refine ez_icmpeqN (q := 134) (tgt := 141) dL_isPart_131 (by decide) (by omega) (by omega) rfl (fun hc131 => False.elim (by omega)) (fun hc131 => ?_)
    refine ez_iload (q := 136) dL_isPart_134 rfl rfl ?_
    refine ez_bipush (v := nI 65) (q := 138) dL_isPart_136 (by decide) rfl ?_
    refine ez_icmpneN (q := 141) (tgt := 145) dL_isPart_138 (by decide) (by omega) (by omega) rfl (fun hc138 => ?_) (fun hc138 => False.elim (by omega))
    refine ez_iconst (v := nI 0) (q := 146) dL_isPart_145 (by decide) rfl ?_
    refine ez_istore_8 (q := 148) dL_isPart_146 (by decide) rfl rfl ?_
    refine ez_iload (q := 150) dL_isPart_148 rfl rfl ?_
    refine ez_ifeqN (q := 153) (tgt := 165) dL_isPart_150 (by decide) (by decide) rfl (fun hc150 => ?_) (fun hc150 => absurd hc150 (by decide))
    refine ez_iconst (v := nI 0) (q := 166) dL_isPart_165 (by decide) rfl ?_
    refine ez_istore_9 (q := 168) dL_isPart_166 (by decide) rfl rfl ?_
    refine ez_iload (q := 170) dL_isPart_168 rfl rfl ?_
    refine ez_bipush (v := nI 38) (q := 172) dL_isPart_170 (by decide) rfl ?_
    refine ez_icmpeqN (q := 175) (tgt := 189) dL_isPart_172 (by decide) (by omega) (by omega) rfl (fun hc172 => False.elim (by omega)) (fun hc172 => ?_)
    refine ez_iload (q := 177) dL_isPart_175 rfl rfl ?_
    refine ez_bipush (v := nI 124) (q := 179) dL_isPart_177 (by decide) rfl ?_
    refine ez_icmpeqN (q := 182) (tgt := 189) dL_isPart_179 (by decide) (by omega) (by omega) rfl (fun hc179 => False.elim (by omega)) (fun hc179 => ?_)
    refine ez_iload (q := 184) dL_isPart_182 rfl rfl ?_
    refine ez_bipush (v := nI 85) (q := 186) dL_isPart_184 (by decide) rfl ?_
    refine ez_icmpneN (q := 189) (tgt := 193) dL_isPart_186 (by decide) (by omega) (by omega) rfl (fun hc186 => ?_) (fun hc186 => False.elim (by omega))
    refine ez_iconst (v := nI 0) (q := 194) dL_isPart_193 (by decide) rfl ?_
    refine ez_istore_10 (q := 196) dL_isPart_194 (by decide) rfl rfl ?_
    refine ez_iload (q := 198) dL_isPart_196 rfl rfl ?_
    refine ez_bipush (v := nI 116) (q := 200) dL_isPart_198 (by decide) rfl ?_
    refine ez_icmpeqN (q := 203) (tgt := 217) dL_isPart_200 (by decide) (by omega) (by omega) rfl (fun hc200 => False.elim (by omega)) (fun hc200 => ?_)
    refine ez_iload (q := 205) dL_isPart_203 rfl rfl ?_
    refine ez_bipush (v := nI 97) (q := 207) dL_isPart_205 (by decide) rfl ?_
    refine ez_icmpltN (q := 210) (tgt := 221) dL_isPart_207 (by decide) (by omega) (by omega) rfl (fun hc207 => ?_) (fun hc207 => False.elim (by omega))
    refine ez_iconst (v := nI 0) (q := 222) dL_isPart_221 (by decide) rfl ?_
    refine ez_istore_11 (q := 224) dL_isPart_222 (by decide) rfl rfl ?_
    refine ez_iload_n (q := 225) 2 dL_isPart_224 rfl rfl rfl ?_
    refine ez_iload (q := 227) dL_isPart_225 rfl rfl ?_
    refine ez_ifeqN (q := 230) (tgt := 234) dL_isPart_227 (by decide) (by decide) rfl (fun hc227 => ?_) (fun hc227 => absurd hc227 (by decide))
    refine ez_iconst (v := nI 1) (q := 235) dL_isPart_234 (by decide) rfl ?_
    refine ez_iaddN (q := 236) dL_isPart_235 rfl ?_
    refine ez_istore_12 (q := 238) dL_isPart_236 (by decide) rfl rfl ?_
    refine ez_iload (q := 240) dL_isPart_238 rfl rfl ?_
    refine ez_ifeqN (q := 243) (tgt := 247) dL_isPart_240 (by decide) (by decide) rfl (fun hc240 => ?_) (fun hc240 => absurd hc240 (by decide))
    refine ez_aload_n (q := 248) 0 dL_isPart_247 rfl rfl rfl ?_
    refine ez_iload_n (q := 249) 1 dL_isPart_248 rfl rfl rfl ?_
    refine ez_iload (q := 251) dL_isPart_249 rfl rfl ?_
    refine ez_iconst (v := nI 1) (q := 252) dL_isPart_251 (by decide) rfl ?_
    refine cXv (q := 255) dL_isPart_252 ck_L_63 hI.1.1 (v_X7_sign (what := 1) hI.rb ho hs (by omega) hat1 (by decide)) rfl ⟨by decide, rfl⟩ rfl rfl rfl (Nat.le_of_ble_eq_true rfl) rfl (fun g hW => ?_)
    have hI := hI.tr hW
    clear hW
    refine ez_top (tg_1 hw1) ?_
    refine ez_istore_13 (q := 257) dL_isPart_255 (by decide) rfl rfl ?_
    refine ez_iload (q := 259) dL_isPart_257 rfl rfl ?_
    refine ez_ifeqN (q := 262) (tgt := 266) dL_isPart_259 (by decide) (by decide) rfl (fun hc259 => ?_) (fun hc259 => absurd hc259 (by decide))
    refine ez_aload_n (q := 267) 0 dL_isPart_266 rfl rfl rfl ?_
    refine ez_iload_n (q := 268) 1 dL_isPart_267 rfl rfl rfl ?_
    refine ez_iload (q := 270) dL_isPart_268 rfl rfl ?_
    refine ez_iconst (v := nI 3) (q := 271) dL_isPart_270 (by decide) rfl ?_
    refine cXv (q := 274) dL_isPart_271 ck_L_63 hI.1.1 (v_X7_sign (what := 3) hI.rb ho hs (by omega) hat1 (by decide)) rfl ⟨by decide, rfl⟩ rfl rfl rfl (Nat.le_of_ble_eq_true rfl) rfl (fun g hW => ?_)
    have hI := hI.tr hW
    clear hW
    refine ez_top (tg_3 hw1) ?_
    refine ez_istore_14 (q := 276) dL_isPart_274 (by decide) rfl rfl ?_
    refine ez_iload (q := 278) dL_isPart_276 rfl rfl ?_
    refine ez_ifeqN (q := 281) (tgt := 295) dL_isPart_278 (by decide) (by decide) rfl (fun hc278 => ?_) (fun hc278 => absurd hc278 (by decide))
    refine ez_iconst (v := nI 0) (q := 296) dL_isPart_295 (by decide) rfl ?_
    refine ez_istore_15 (q := 298) dL_isPart_296 (by decide) rfl rfl ?_
    refine ez_iload (q := 300) dL_isPart_298 rfl rfl ?_
    refine ez_ifeqN (q := 303) (tgt := 307) dL_isPart_300 (by decide) (by decide) rfl (fun hc300 => ?_) (fun hc300 => absurd hc300 (by decide))
    refine ez_iconst (v := nI 1) (q := 308) dL_isPart_307 (by decide) rfl ?_
    refine ez_iload (q := 310) dL_isPart_308 rfl rfl ?_
    refine ez_iaddN (q := 311) dL_isPart_310 rfl ?_
    refine ez_iload (q := 313) dL_isPart_311 rfl rfl ?_
    refine ez_ifeqN (q := 316) (tgt := 330) dL_isPart_313 (by decide) (by decide) rfl (fun hc313 => ?_) (fun hc313 => absurd hc313 (by decide))
    refine ez_iconst (v := nI 0) (q := 331) dL_isPart_330 (by decide) rfl ?_
    refine ez_iaddN (q := 332) dL_isPart_331 rfl ?_
    refine ez_istore_16 (q := 334) dL_isPart_332 (by decide) rfl rfl ?_
    refine ez_iload (q := 336) dL_isPart_334 rfl rfl ?_
    refine ez_bipush (v := nI 116) (q := 338) dL_isPart_336 (by decide) rfl ?_
    refine ez_icmpneN (q := 341) (tgt := 346) dL_isPart_338 (by decide) (by omega) (by omega) rfl (fun hc338 => ?_) (fun hc338 => False.elim (by omega))
    refine ez_iload (q := 348) dL_isPart_346 rfl rfl ?_
    refine ez_bipush (v := nI 33) (q := 350) dL_isPart_348 (by decide) rfl ?_
    refine ez_icmpneN (q := 353) (tgt := 363) dL_isPart_350 (by decide) (by omega) (by omega) rfl (fun hc350 => False.elim (by omega)) (fun hc350 => ?_)
    refine ez_iload (q := 355) dL_isPart_353 rfl rfl ?_
    refine ez_iload (q := 357) dL_isPart_355 rfl rfl ?_
    refine ez_iconst (v := -1) (q := 358) dL_isPart_357 (by decide) rfl ?_
    refine ez_ixor (q := 359) dL_isPart_358 rfl ?_
    refine ez_iandX (q := 360) dL_isPart_359 rfl ?_
    refine ez_goto (q := 383) dL_isPart_360 (by decide) ?_
    refine ez_istore_17 (q := 385) dL_isPart_383 (by decide) rfl rfl ?_
    refine ez_iload (q := 387) dL_isPart_385 rfl rfl ?_
    refine ez_ifeqN (q := 390) (tgt := 442) dL_isPart_387 (by decide) (by decide) rfl (fun hc387 => ?_) (fun hc387 => absurd hc387 (by decide))
    refine ez_iload (q := 444) dL_isPart_442 rfl rfl ?_
    refine ez_ifeqN (q := 447) (tgt := 463) dL_isPart_444 (by decide) (by decide) rfl (fun hc444 => ?_) (fun hc444 => absurd hc444 (by decide))
    refine ez_iload (q := 465) dL_isPart_463 rfl rfl ?_
    refine ez_istore_17 (q := 467) dL_isPart_465 (by decide) rfl rfl ?_
    refine ez_aload_n (q := 468) 0 dL_isPart_467 rfl rfl rfl ?_
    refine ez_iload_n (q := 469) 1 dL_isPart_468 rfl rfl rfl ?_
    refine ez_iload_n (q := 470) 2 dL_isPart_469 rfl rfl rfl ?_
    refine ez_iconst (v := nI 2) (q := 471) dL_isPart_470 (by decide) rfl ?_
    refine cXv (q := 474) dL_isPart_471 ck_L_63 hI.1.1 (v_X7_sign (what := 2) hI.rb ho hs (by omega) (by omega) (by decide)) rfl ⟨by decide, rfl⟩ rfl rfl rfl (Nat.le_of_ble_eq_true rfl) rfl (fun g hW => ?_)
    have hI := hI.tr hW
    clear hW
    refine ez_top (tg_2 hnw) ?_
    refine ez_istore_18 (q := 476) dL_isPart_474 (by decide) rfl rfl ?_
    refine ez_iload (q := 478) dL_isPart_476 rfl rfl ?_
    refine ez_ifeqN (q := 481) (tgt := 492) dL_isPart_478 (by decide) (by decide) rfl (fun hc478 => ?_) (fun hc478 => absurd hc478 (by decide))
    refine ez_iconst (v := nI 0) (q := 493) dL_isPart_492 (by decide) rfl ?_
    refine ez_istore_19 (q := 495) dL_isPart_493 (by decide) rfl rfl ?_
    refine ez_iload (q := 497) dL_isPart_495 rfl rfl ?_
    refine ez_iload (q := 499) dL_isPart_497 rfl rfl ?_
    refine ez_icmpne (q := 502) (tgt := 535) dL_isPart_499 (by decide) rfl (fun hc499 => absurd (congrArg nI hset) hc499) (fun hc499 => ?_)
    refine ez_iload (q := 504) dL_isPart_502 rfl rfl ?_
    refine ez_iload (q := 506) dL_isPart_504 rfl rfl ?_
    refine ez_icmpne (q := 509) (tgt := 535) dL_isPart_506 (by decide) rfl (fun hc506 => absurd (congrArg nI hle) hc506) (fun hc506 => ?_)
    refine ez_iload (q := 511) dL_isPart_509 rfl rfl ?_
    refine ez_ifltN (q := 514) (tgt := 535) dL_isPart_511 (by decide) (by omega) rfl ?_
    refine ez_iload (q := 516) dL_isPart_514 rfl rfl ?_
    refine ez_bipush (v := nI 20) (q := 518) dL_isPart_516 (by decide) rfl ?_
    refine ez_icmpgtN (q := 521) (tgt := 535) dL_isPart_518 (by decide) (by omega) (by omega) rfl (fun hc518 => absurd hr20 (by omega)) (fun hc518 => ?_)
    refine ez_iload (q := 523) dL_isPart_521 rfl rfl ?_
    refine ez_ifneN (q := 526) (tgt := 531) dL_isPart_523 (by decide) (by decide) rfl (fun hc523 => ?_) (fun hc523 => ?_)
    · first
      | exact absurd hc523 (by decide)
      | skip
        refine ez_iconst (v := nI 1) (q := 532) dL_isPart_531 (by decide) rfl ?_
        refine ez_goto (q := 536) dL_isPart_532 (by decide) ?_
        exact ez_zret dL_isPart_536 rfl rfl (hQ _ hI)
    · first
      | exact absurd hc523 (by decide)
      | skip
        refine ez_iload (q := 528) dL_isPart_526 rfl rfl ?_
        refine ez_ifneN (q := 531) (tgt := 535) dL_isPart_528 (by decide) (by omega) rfl (fun hc528 => absurd (by first | exact hrz | exact hro0 hc485) hc528) (fun hc528 => ?_)
        refine ez_iconst (v := nI 1) (q := 532) dL_isPart_531 (by decide) rfl ?_
        refine ez_goto (q := 536) dL_isPart_532 (by decide) ?_
        exact ez_zret dL_isPart_536 rfl rfl (hQ _ hI)
  · obtain ⟨hat1, hs1, hat2, hs2⟩ := wf_two hwf hi hsc (Or.inl hc)
    have hw1 := (wf_w hwf hat1).trans hs1
    have hw2 := (wf_w hwf hat2).trans hs2
    have hset := seW_and (T := T) (n := n') (f := f) (L := L) (m := ln w) (s := sg w) (j := i) hi hc
    have hle := leW_two hi (Or.inl hc)
    have hrz := roW_0 (T := T) (n := n') (f := f) (L := L) (m := ln w) (s := sg w) (j := i) ⟨by omega, by omega⟩
    refine ez_iload (q := 40) dL_isPart_38 rfl rfl ?_
    refine ez_bipush (v := nI 88) (q := 42) dL_isPart_40 (by decide) rfl ?_
    refine ez_icmpeqN (q := 45) (tgt := 66) dL_isPart_42 (by decide) (by omega) (by omega) rfl (fun hc42 => False.elim (by omega)) (fun hc42 => ?_)
    refine ez_iload (q := 47) dL_isPart_45 rfl rfl ?_
    refine ez_bipush (v := nI 70) (q := 49) dL_isPart_47 (by decide) rfl ?_
    refine ez_icmpeqN (q := 52) (tgt := 66) dL_isPart_49 (by decide) (by omega) (by omega) rfl (fun hc49 => False.elim (by omega)) (fun hc49 => ?_)
    refine ez_iload (q := 54) dL_isPart_52 rfl rfl ?_
    refine ez_bipush (v := nI 71) (q := 56) dL_isPart_54 (by decide) rfl ?_
    refine ez_icmpeqN (q := 59) (tgt := 66) dL_isPart_56 (by decide) (by omega) (by omega) rfl (fun hc56 => False.elim (by omega)) (fun hc56 => ?_)
    refine ez_iload (q := 61) dL_isPart_59 rfl rfl ?_
    refine ez_bipush (v := nI 85) (q := 63) dL_isPart_61 (by decide) rfl ?_
    refine ez_icmpneN (q := 66) (tgt := 127) dL_isPart_63 (by decide) (by omega) (by omega) rfl (fun hc63 => ?_) (fun hc63 => False.elim (by omega))
    refine ez_iload (q := 129) dL_isPart_127 rfl rfl ?_
    refine ez_bipush (v := nI 69) (q := 131) dL_isPart_129 (by decide) rfl ?_
    refine ez_icmpeqN (q := 134) (tgt := 141) dL_isPart_131 (by decide) (by omega) (by omega) rfl (fun hc131 => False.elim (by omega)) (fun hc131 => ?_)
    refine ez_iload (q := 136) dL_isPart_134 rfl rfl ?_
    refine ez_bipush (v := nI 65) (q := 138) dL_isPart_136 (by decide) rfl ?_
    refine ez_icmpneN (q := 141) (tgt := 145) dL_isPart_138 (by decide) (by omega) (by omega) rfl (fun hc138 => ?_) (fun hc138 => False.elim (by omega))
    refine ez_iconst (v := nI 0) (q := 146) dL_isPart_145 (by decide) rfl ?_
    refine ez_istore_8 (q := 148) dL_isPart_146 (by decide) rfl rfl ?_
    refine ez_iload (q := 150) dL_isPart_148 rfl rfl ?_
    refine ez_ifeqN (q := 153) (tgt := 165) dL_isPart_150 (by decide) (by decide) rfl (fun hc150 => ?_) (fun hc150 => absurd hc150 (by decide))
    refine ez_iconst (v := nI 0) (q := 166) dL_isPart_165 (by decide) rfl ?_
    refine ez_istore_9 (q := 168) dL_isPart_166 (by decide) rfl rfl ?_
    refine ez_iload (q := 170) dL_isPart_168 rfl rfl ?_
    refine ez_bipush (v := nI 38) (q := 172) dL_isPart_170 (by decide) rfl ?_
    refine ez_icmpeqN (q := 175) (tgt := 189) dL_isPart_172 (by decide) (by omega) (by omega) rfl (fun hc172 => ?_) (fun hc172 => False.elim (by omega))
    refine ez_iconst (v := nI 1) (q := 190) dL_isPart_189 (by decide) rfl ?_
    refine ez_goto (q := 194) dL_isPart_190 (by decide) ?_
    refine ez_istore_10 (q := 196) dL_isPart_194 (by decide) rfl rfl ?_
    refine ez_iload (q := 198) dL_isPart_196 rfl rfl ?_
    refine ez_bipush (v := nI 116) (q := 200) dL_isPart_198 (by decide) rfl ?_
    refine ez_icmpeqN (q := 203) (tgt := 217) dL_isPart_200 (by decide) (by omega) (by omega) rfl (fun hc200 => False.elim (by omega)) (fun hc200 => ?_)
    refine ez_iload (q := 205) dL_isPart_203 rfl rfl ?_
    refine ez_bipush (v := nI 97) (q := 207) dL_isPart_205 (by decide) rfl ?_
    refine ez_icmpltN (q := 210) (tgt := 221) dL_isPart_207 (by decide) (by omega) (by omega) rfl (fun hc207 => ?_) (fun hc207 => False.elim (by omega))
    refine ez_iconst (v := nI 0) (q := 222) dL_isPart_221 (by decide) rfl ?_
    refine ez_istore_11 (q := 224) dL_isPart_222 (by decide) rfl rfl ?_
    refine ez_iload_n (q := 225) 2 dL_isPart_224 rfl rfl rfl ?_
    refine ez_iload (q := 227) dL_isPart_225 rfl rfl ?_
    refine ez_ifeqN (q := 230) (tgt := 234) dL_isPart_227 (by decide) (by decide) rfl (fun hc227 => ?_) (fun hc227 => absurd hc227 (by decide))
    refine ez_iconst (v := nI 1) (q := 235) dL_isPart_234 (by decide) rfl ?_
    refine ez_iaddN (q := 236) dL_isPart_235 rfl ?_
    refine ez_istore_12 (q := 238) dL_isPart_236 (by decide) rfl rfl ?_
    refine ez_iload (q := 240) dL_isPart_238 rfl rfl ?_
    refine ez_ifeqN (q := 243) (tgt := 247) dL_isPart_240 (by decide) (by decide) rfl (fun hc240 => ?_) (fun hc240 => absurd hc240 (by decide))
    refine ez_aload_n (q := 248) 0 dL_isPart_247 rfl rfl rfl ?_
    refine ez_iload_n (q := 249) 1 dL_isPart_248 rfl rfl rfl ?_
    refine ez_iload (q := 251) dL_isPart_249 rfl rfl ?_
    refine ez_iconst (v := nI 1) (q := 252) dL_isPart_251 (by decide) rfl ?_
    refine cXv (q := 255) dL_isPart_252 ck_L_63 hI.1.1 (v_X7_sign (what := 1) hI.rb ho hs (by omega) hat1 (by decide)) rfl ⟨by decide, rfl⟩ rfl rfl rfl (Nat.le_of_ble_eq_true rfl) rfl (fun g hW => ?_)
    have hI := hI.tr hW
    clear hW
    refine ez_top (tg_1 hw1) ?_
    refine ez_istore_13 (q := 257) dL_isPart_255 (by decide) rfl rfl ?_
    refine ez_iload (q := 259) dL_isPart_257 rfl rfl ?_
    refine ez_ifeqN (q := 262) (tgt := 266) dL_isPart_259 (by decide) (by decide) rfl (fun hc259 => ?_) (fun hc259 => absurd hc259 (by decide))
    refine ez_aload_n (q := 267) 0 dL_isPart_266 rfl rfl rfl ?_
    refine ez_iload_n (q := 268) 1 dL_isPart_267 rfl rfl rfl ?_
    refine ez_iload (q := 270) dL_isPart_268 rfl rfl ?_
    refine ez_iconst (v := nI 3) (q := 271) dL_isPart_270 (by decide) rfl ?_
    refine cXv (q := 274) dL_isPart_271 ck_L_63 hI.1.1 (v_X7_sign (what := 3) hI.rb ho hs (by omega) hat1 (by decide)) rfl ⟨by decide, rfl⟩ rfl rfl rfl (Nat.le_of_ble_eq_true rfl) rfl (fun g hW => ?_)
    have hI := hI.tr hW
    clear hW
    refine ez_top (tg_3 hw1) ?_
    refine ez_istore_14 (q := 276) dL_isPart_274 (by decide) rfl rfl ?_
    refine ez_iload (q := 278) dL_isPart_276 rfl rfl ?_
    refine ez_ifeqN (q := 281) (tgt := 295) dL_isPart_278 (by decide) (by decide) rfl (fun hc278 => absurd hc278 (by decide)) (fun hc278 => ?_)
    refine ez_aload_n (q := 282) 0 dL_isPart_281 rfl rfl rfl ?_
    refine ez_iload_n (q := 283) 1 dL_isPart_282 rfl rfl rfl ?_
    refine ez_iload (q := 285) dL_isPart_283 rfl rfl ?_
    refine ez_iload (q := 287) dL_isPart_285 rfl rfl ?_
    refine ez_iaddN (q := 288) dL_isPart_287 rfl ?_
    refine ez_iconst (v := nI 1) (q := 289) dL_isPart_288 (by decide) rfl ?_
    refine cXv (q := 292) dL_isPart_289 ck_L_63 hI.1.1 (v_X7_sign (what := 1) hI.rb ho hs (by omega) hat2 (by decide)) rfl ⟨by decide, rfl⟩ rfl rfl rfl (Nat.le_of_ble_eq_true rfl) rfl (fun g hW => ?_)
    have hI := hI.tr hW
    clear hW
    refine ez_top (tg_1 hw2) ?_
    refine ez_goto (q := 296) dL_isPart_292 (by decide) ?_
    refine ez_istore_15 (q := 298) dL_isPart_296 (by decide) rfl rfl ?_
    refine ez_iload (q := 300) dL_isPart_298 rfl rfl ?_
    refine ez_ifeqN (q := 303) (tgt := 307) dL_isPart_300 (by decide) (by decide) rfl (fun hc300 => ?_) (fun hc300 => absurd hc300 (by decide))
    refine ez_iconst (v := nI 1) (q := 308) dL_isPart_307 (by decide) rfl ?_
    refine ez_iload (q := 310) dL_isPart_308 rfl rfl ?_
    refine ez_iaddN (q := 311) dL_isPart_310 rfl ?_
    refine ez_iload (q := 313) dL_isPart_311 rfl rfl ?_
    refine ez_ifeqN (q := 316) (tgt := 330) dL_isPart_313 (by decide) (by decide) rfl (fun hc313 => absurd hc313 (by decide)) (fun hc313 => ?_)
    refine ez_aload_n (q := 317) 0 dL_isPart_316 rfl rfl rfl ?_
    refine ez_iload_n (q := 318) 1 dL_isPart_317 rfl rfl rfl ?_
    refine ez_iload (q := 320) dL_isPart_318 rfl rfl ?_
    refine ez_iload (q := 322) dL_isPart_320 rfl rfl ?_
    refine ez_iaddN (q := 323) dL_isPart_322 rfl ?_
    refine ez_iconst (v := nI 3) (q := 324) dL_isPart_323 (by decide) rfl ?_
    refine cXv (q := 327) dL_isPart_324 ck_L_63 hI.1.1 (v_X7_sign (what := 3) hI.rb ho hs (by omega) hat2 (by decide)) rfl ⟨by decide, rfl⟩ rfl rfl rfl (Nat.le_of_ble_eq_true rfl) rfl (fun g hW => ?_)
    have hI := hI.tr hW
    clear hW
    refine ez_top (tg_3 hw2) ?_
    refine ez_goto (q := 331) dL_isPart_327 (by decide) ?_
    refine ez_iaddN (q := 332) dL_isPart_331 rfl ?_
    refine ez_istore_16 (q := 334) dL_isPart_332 (by decide) rfl rfl ?_
    refine ez_iload (q := 336) dL_isPart_334 rfl rfl ?_
    refine ez_bipush (v := nI 116) (q := 338) dL_isPart_336 (by decide) rfl ?_
    refine ez_icmpneN (q := 341) (tgt := 346) dL_isPart_338 (by decide) (by omega) (by omega) rfl (fun hc338 => ?_) (fun hc338 => False.elim (by omega))
    refine ez_iload (q := 348) dL_isPart_346 rfl rfl ?_
    refine ez_bipush (v := nI 33) (q := 350) dL_isPart_348 (by decide) rfl ?_
    refine ez_icmpneN (q := 353) (tgt := 363) dL_isPart_350 (by decide) (by omega) (by omega) rfl (fun hc350 => ?_) (fun hc350 => False.elim (by omega))
    refine ez_iload (q := 365) dL_isPart_363 rfl rfl ?_
    refine ez_bipush (v := nI 38) (q := 367) dL_isPart_365 (by decide) rfl ?_
    refine ez_icmpneN (q := 370) (tgt := 378) dL_isPart_367 (by decide) (by omega) (by omega) rfl (fun hc367 => False.elim (by omega)) (fun hc367 => ?_)
    refine ez_iload (q := 372) dL_isPart_370 rfl rfl ?_
    refine ez_iload (q := 374) dL_isPart_372 rfl rfl ?_
    refine ez_iandN (q := 375) dL_isPart_374 rfl ?_
    refine ez_goto (q := 383) dL_isPart_375 (by decide) ?_
    refine ez_istore_17 (q := 385) dL_isPart_383 (by decide) rfl rfl ?_
    refine ez_iload (q := 387) dL_isPart_385 rfl rfl ?_
    refine ez_ifeqN (q := 390) (tgt := 442) dL_isPart_387 (by decide) (by decide) rfl (fun hc387 => ?_) (fun hc387 => absurd hc387 (by decide))
    refine ez_iload (q := 444) dL_isPart_442 rfl rfl ?_
    refine ez_ifeqN (q := 447) (tgt := 463) dL_isPart_444 (by decide) (by decide) rfl (fun hc444 => ?_) (fun hc444 => absurd hc444 (by decide))
    refine ez_iload (q := 465) dL_isPart_463 rfl rfl ?_
    refine ez_istore_17 (q := 467) dL_isPart_465 (by decide) rfl rfl ?_
    refine ez_aload_n (q := 468) 0 dL_isPart_467 rfl rfl rfl ?_
    refine ez_iload_n (q := 469) 1 dL_isPart_468 rfl rfl rfl ?_
    refine ez_iload_n (q := 470) 2 dL_isPart_469 rfl rfl rfl ?_
    refine ez_iconst (v := nI 2) (q := 471) dL_isPart_470 (by decide) rfl ?_
    refine cXv (q := 474) dL_isPart_471 ck_L_63 hI.1.1 (v_X7_sign (what := 2) hI.rb ho hs (by omega) (by omega) (by decide)) rfl ⟨by decide, rfl⟩ rfl rfl rfl (Nat.le_of_ble_eq_true rfl) rfl (fun g hW => ?_)
    have hI := hI.tr hW
    clear hW
    refine ez_top (tg_2 hnw) ?_
    refine ez_istore_18 (q := 476) dL_isPart_474 (by decide) rfl rfl ?_
    refine ez_iload (q := 478) dL_isPart_476 rfl rfl ?_
    refine ez_ifeqN (q := 481) (tgt := 492) dL_isPart_478 (by decide) (by decide) rfl (fun hc478 => ?_) (fun hc478 => absurd hc478 (by decide))
    refine ez_iconst (v := nI 0) (q := 493) dL_isPart_492 (by decide) rfl ?_
    refine ez_istore_19 (q := 495) dL_isPart_493 (by decide) rfl rfl ?_
    refine ez_iload (q := 497) dL_isPart_495 rfl rfl ?_
    refine ez_iload (q := 499) dL_isPart_497 rfl rfl ?_
    refine ez_icmpne (q := 502) (tgt := 535) dL_isPart_499 (by decide) rfl (fun hc499 => absurd (congrArg nI hset) hc499) (fun hc499 => ?_)
    refine ez_iload (q := 504) dL_isPart_502 rfl rfl ?_
    refine ez_iload (q := 506) dL_isPart_504 rfl rfl ?_
    refine ez_icmpne (q := 509) (tgt := 535) dL_isPart_506 (by decide) rfl (fun hc506 => absurd (congrArg nI hle) hc506) (fun hc506 => ?_)
    refine ez_iload (q := 511) dL_isPart_509 rfl rfl ?_
    refine ez_ifltN (q := 514) (tgt := 535) dL_isPart_511 (by decide) (by omega) rfl ?_
    refine ez_iload (q := 516) dL_isPart_514 rfl rfl ?_
    refine ez_bipush (v := nI 20) (q := 518) dL_isPart_516 (by decide) rfl ?_
    refine ez_icmpgtN (q := 521) (tgt := 535) dL_isPart_518 (by decide) (by omega) (by omega) rfl (fun hc518 => absurd hr20 (by omega)) (fun hc518 => ?_)
    refine ez_iload (q := 523) dL_isPart_521 rfl rfl ?_
    refine ez_ifneN (q := 526) (tgt := 531) dL_isPart_523 (by decide) (by decide) rfl (fun hc523 => ?_) (fun hc523 => ?_)
    · first
      | exact absurd hc523 (by decide)
      | skip
        refine ez_iconst (v := nI 1) (q := 532) dL_isPart_531 (by decide) rfl ?_
        refine ez_goto (q := 536) dL_isPart_532 (by decide) ?_
        exact ez_zret dL_isPart_536 rfl rfl (hQ _ hI)
    · first
      | exact absurd hc523 (by decide)
      | skip
        refine ez_iload (q := 528) dL_isPart_526 rfl rfl ?_
        refine ez_ifneN (q := 531) (tgt := 535) dL_isPart_528 (by decide) (by omega) rfl (fun hc528 => absurd (by first | exact hrz | exact hro0 hc485) hc528) (fun hc528 => ?_)
        refine ez_iconst (v := nI 1) (q := 532) dL_isPart_531 (by decide) rfl ?_
        refine ez_goto (q := 536) dL_isPart_532 (by decide) ?_
        exact ez_zret dL_isPart_536 rfl rfl (hQ _ hI)
  · obtain ⟨hat1, hs1, hat2, hs2⟩ := wf_two hwf hi hsc (Or.inr hc)
    have hw1 := (wf_w hwf hat1).trans hs1
    have hw2 := (wf_w hwf hat2).trans hs2
    have hset := seW_or (T := T) (n := n') (f := f) (L := L) (m := ln w) (s := sg w) (j := i) hi hc
    have hle := leW_two hi (Or.inr hc)
    have hrz := roW_0 (T := T) (n := n') (f := f) (L := L) (m := ln w) (s := sg w) (j := i) ⟨by omega, by omega⟩
    refine ez_iload (q := 40) dL_isPart_38 rfl rfl ?_
    refine ez_bipush (v := nI 88) (q := 42) dL_isPart_40 (by decide) rfl ?_
    refine ez_icmpeqN (q := 45) (tgt := 66) dL_isPart_42 (by decide) (by omega) (by omega) rfl (fun hc42 => False.elim (by omega)) (fun hc42 => ?_)
    refine ez_iload (q := 47) dL_isPart_45 rfl rfl ?_
    refine ez_bipush (v := nI 70) (q := 49) dL_isPart_47 (by decide) rfl ?_
    refine ez_icmpeqN (q := 52) (tgt := 66) dL_isPart_49 (by decide) (by omega) (by omega) rfl (fun hc49 => False.elim (by omega)) (fun hc49 => ?_)
    refine ez_iload (q := 54) dL_isPart_52 rfl rfl ?_
    refine ez_bipush (v := nI 71) (q := 56) dL_isPart_54 (by decide) rfl ?_
    refine ez_icmpeqN (q := 59) (tgt := 66) dL_isPart_56 (by decide) (by omega) (by omega) rfl (fun hc56 => False.elim (by omega)) (fun hc56 => ?_)
    refine ez_iload (q := 61) dL_isPart_59 rfl rfl ?_
    refine ez_bipush (v := nI 85) (q := 63) dL_isPart_61 (by decide) rfl ?_
    refine ez_icmpneN (q := 66) (tgt := 127) dL_isPart_63 (by decide) (by omega) (by omega) rfl (fun hc63 => ?_) (fun hc63 => False.elim (by omega))
    refine ez_iload (q := 129) dL_isPart_127 rfl rfl ?_
    refine ez_bipush (v := nI 69) (q := 131) dL_isPart_129 (by decide) rfl ?_
    refine ez_icmpeqN (q := 134) (tgt := 141) dL_isPart_131 (by decide) (by omega) (by omega) rfl (fun hc131 => False.elim (by omega)) (fun hc131 => ?_)
    refine ez_iload (q := 136) dL_isPart_134 rfl rfl ?_
    refine ez_bipush (v := nI 65) (q := 138) dL_isPart_136 (by decide) rfl ?_
    refine ez_icmpneN (q := 141) (tgt := 145) dL_isPart_138 (by decide) (by omega) (by omega) rfl (fun hc138 => ?_) (fun hc138 => False.elim (by omega))
    refine ez_iconst (v := nI 0) (q := 146) dL_isPart_145 (by decide) rfl ?_
    refine ez_istore_8 (q := 148) dL_isPart_146 (by decide) rfl rfl ?_
    refine ez_iload (q := 150) dL_isPart_148 rfl rfl ?_
    refine ez_ifeqN (q := 153) (tgt := 165) dL_isPart_150 (by decide) (by decide) rfl (fun hc150 => ?_) (fun hc150 => absurd hc150 (by decide))
    refine ez_iconst (v := nI 0) (q := 166) dL_isPart_165 (by decide) rfl ?_
    refine ez_istore_9 (q := 168) dL_isPart_166 (by decide) rfl rfl ?_
    refine ez_iload (q := 170) dL_isPart_168 rfl rfl ?_
    refine ez_bipush (v := nI 38) (q := 172) dL_isPart_170 (by decide) rfl ?_
    refine ez_icmpeqN (q := 175) (tgt := 189) dL_isPart_172 (by decide) (by omega) (by omega) rfl (fun hc172 => False.elim (by omega)) (fun hc172 => ?_)
    refine ez_iload (q := 177) dL_isPart_175 rfl rfl ?_
    refine ez_bipush (v := nI 124) (q := 179) dL_isPart_177 (by decide) rfl ?_
    refine ez_icmpeqN (q := 182) (tgt := 189) dL_isPart_179 (by decide) (by omega) (by omega) rfl (fun hc179 => ?_) (fun hc179 => False.elim (by omega))
    refine ez_iconst (v := nI 1) (q := 190) dL_isPart_189 (by decide) rfl ?_
    refine ez_goto (q := 194) dL_isPart_190 (by decide) ?_
    refine ez_istore_10 (q := 196) dL_isPart_194 (by decide) rfl rfl ?_
    refine ez_iload (q := 198) dL_isPart_196 rfl rfl ?_
    refine ez_bipush (v := nI 116) (q := 200) dL_isPart_198 (by decide) rfl ?_
    refine ez_icmpeqN (q := 203) (tgt := 217) dL_isPart_200 (by decide) (by omega) (by omega) rfl (fun hc200 => False.elim (by omega)) (fun hc200 => ?_)
    refine ez_iload (q := 205) dL_isPart_203 rfl rfl ?_
    refine ez_bipush (v := nI 97) (q := 207) dL_isPart_205 (by decide) rfl ?_
    refine ez_icmpltN (q := 210) (tgt := 221) dL_isPart_207 (by decide) (by omega) (by omega) rfl (fun hc207 => False.elim (by omega)) (fun hc207 => ?_)
    refine ez_iload (q := 212) dL_isPart_210 rfl rfl ?_
    refine ez_bipush (v := nI 100) (q := 214) dL_isPart_212 (by decide) rfl ?_
    refine ez_icmpgtN (q := 217) (tgt := 221) dL_isPart_214 (by decide) (by omega) (by omega) rfl (fun hc214 => ?_) (fun hc214 => False.elim (by omega))
    refine ez_iconst (v := nI 0) (q := 222) dL_isPart_221 (by decide) rfl ?_
    refine ez_istore_11 (q := 224) dL_isPart_222 (by decide) rfl rfl ?_
    refine ez_iload_n (q := 225) 2 dL_isPart_224 rfl rfl rfl ?_
    refine ez_iload (q := 227) dL_isPart_225 rfl rfl ?_
    refine ez_ifeqN (q := 230) (tgt := 234) dL_isPart_227 (by decide) (by decide) rfl (fun hc227 => ?_) (fun hc227 => absurd hc227 (by decide))
    refine ez_iconst (v := nI 1) (q := 235) dL_isPart_234 (by decide) rfl ?_
    refine ez_iaddN (q := 236) dL_isPart_235 rfl ?_
    refine ez_istore_12 (q := 238) dL_isPart_236 (by decide) rfl rfl ?_
    refine ez_iload (q := 240) dL_isPart_238 rfl rfl ?_
    refine ez_ifeqN (q := 243) (tgt := 247) dL_isPart_240 (by decide) (by decide) rfl (fun hc240 => ?_) (fun hc240 => absurd hc240 (by decide))
    refine ez_aload_n (q := 248) 0 dL_isPart_247 rfl rfl rfl ?_
    refine ez_iload_n (q := 249) 1 dL_isPart_248 rfl rfl rfl ?_
    refine ez_iload (q := 251) dL_isPart_249 rfl rfl ?_
    refine ez_iconst (v := nI 1) (q := 252) dL_isPart_251 (by decide) rfl ?_
    refine cXv (q := 255) dL_isPart_252 ck_L_63 hI.1.1 (v_X7_sign (what := 1) hI.rb ho hs (by omega) hat1 (by decide)) rfl ⟨by decide, rfl⟩ rfl rfl rfl (Nat.le_of_ble_eq_true rfl) rfl (fun g hW => ?_)
    have hI := hI.tr hW
    clear hW
    refine ez_top (tg_1 hw1) ?_
    refine ez_istore_13 (q := 257) dL_isPart_255 (by decide) rfl rfl ?_
    refine ez_iload (q := 259) dL_isPart_257 rfl rfl ?_
    refine ez_ifeqN (q := 262) (tgt := 266) dL_isPart_259 (by decide) (by decide) rfl (fun hc259 => ?_) (fun hc259 => absurd hc259 (by decide))
    refine ez_aload_n (q := 267) 0 dL_isPart_266 rfl rfl rfl ?_
    refine ez_iload_n (q := 268) 1 dL_isPart_267 rfl rfl rfl ?_
    refine ez_iload (q := 270) dL_isPart_268 rfl rfl ?_
    refine ez_iconst (v := nI 3) (q := 271) dL_isPart_270 (by decide) rfl ?_
    refine cXv (q := 274) dL_isPart_271 ck_L_63 hI.1.1 (v_X7_sign (what := 3) hI.rb ho hs (by omega) hat1 (by decide)) rfl ⟨by decide, rfl⟩ rfl rfl rfl (Nat.le_of_ble_eq_true rfl) rfl (fun g hW => ?_)
    have hI := hI.tr hW
    clear hW
    refine ez_top (tg_3 hw1) ?_
    refine ez_istore_14 (q := 276) dL_isPart_274 (by decide) rfl rfl ?_
    refine ez_iload (q := 278) dL_isPart_276 rfl rfl ?_
    refine ez_ifeqN (q := 281) (tgt := 295) dL_isPart_278 (by decide) (by decide) rfl (fun hc278 => absurd hc278 (by decide)) (fun hc278 => ?_)
    refine ez_aload_n (q := 282) 0 dL_isPart_281 rfl rfl rfl ?_
    refine ez_iload_n (q := 283) 1 dL_isPart_282 rfl rfl rfl ?_
    refine ez_iload (q := 285) dL_isPart_283 rfl rfl ?_
    refine ez_iload (q := 287) dL_isPart_285 rfl rfl ?_
    refine ez_iaddN (q := 288) dL_isPart_287 rfl ?_
    refine ez_iconst (v := nI 1) (q := 289) dL_isPart_288 (by decide) rfl ?_
    refine cXv (q := 292) dL_isPart_289 ck_L_63 hI.1.1 (v_X7_sign (what := 1) hI.rb ho hs (by omega) hat2 (by decide)) rfl ⟨by decide, rfl⟩ rfl rfl rfl (Nat.le_of_ble_eq_true rfl) rfl (fun g hW => ?_)
    have hI := hI.tr hW
    clear hW
    refine ez_top (tg_1 hw2) ?_
    refine ez_goto (q := 296) dL_isPart_292 (by decide) ?_
    refine ez_istore_15 (q := 298) dL_isPart_296 (by decide) rfl rfl ?_
    refine ez_iload (q := 300) dL_isPart_298 rfl rfl ?_
    refine ez_ifeqN (q := 303) (tgt := 307) dL_isPart_300 (by decide) (by decide) rfl (fun hc300 => ?_) (fun hc300 => absurd hc300 (by decide))
    refine ez_iconst (v := nI 1) (q := 308) dL_isPart_307 (by decide) rfl ?_
    refine ez_iload (q := 310) dL_isPart_308 rfl rfl ?_
    refine ez_iaddN (q := 311) dL_isPart_310 rfl ?_
    refine ez_iload (q := 313) dL_isPart_311 rfl rfl ?_
    refine ez_ifeqN (q := 316) (tgt := 330) dL_isPart_313 (by decide) (by decide) rfl (fun hc313 => absurd hc313 (by decide)) (fun hc313 => ?_)
    refine ez_aload_n (q := 317) 0 dL_isPart_316 rfl rfl rfl ?_
    refine ez_iload_n (q := 318) 1 dL_isPart_317 rfl rfl rfl ?_
    refine ez_iload (q := 320) dL_isPart_318 rfl rfl ?_
    refine ez_iload (q := 322) dL_isPart_320 rfl rfl ?_
    refine ez_iaddN (q := 323) dL_isPart_322 rfl ?_
    refine ez_iconst (v := nI 3) (q := 324) dL_isPart_323 (by decide) rfl ?_
    refine cXv (q := 327) dL_isPart_324 ck_L_63 hI.1.1 (v_X7_sign (what := 3) hI.rb ho hs (by omega) hat2 (by decide)) rfl ⟨by decide, rfl⟩ rfl rfl rfl (Nat.le_of_ble_eq_true rfl) rfl (fun g hW => ?_)
    have hI := hI.tr hW
    clear hW
    refine ez_top (tg_3 hw2) ?_
    refine ez_goto (q := 331) dL_isPart_327 (by decide) ?_
    refine ez_iaddN (q := 332) dL_isPart_331 rfl ?_
    refine ez_istore_16 (q := 334) dL_isPart_332 (by decide) rfl rfl ?_
    refine ez_iload (q := 336) dL_isPart_334 rfl rfl ?_
    refine ez_bipush (v := nI 116) (q := 338) dL_isPart_336 (by decide) rfl ?_
    refine ez_icmpneN (q := 341) (tgt := 346) dL_isPart_338 (by decide) (by omega) (by omega) rfl (fun hc338 => ?_) (fun hc338 => False.elim (by omega))
    refine ez_iload (q := 348) dL_isPart_346 rfl rfl ?_
    refine ez_bipush (v := nI 33) (q := 350) dL_isPart_348 (by decide) rfl ?_
    refine ez_icmpneN (q := 353) (tgt := 363) dL_isPart_350 (by decide) (by omega) (by omega) rfl (fun hc350 => ?_) (fun hc350 => False.elim (by omega))
    refine ez_iload (q := 365) dL_isPart_363 rfl rfl ?_
    refine ez_bipush (v := nI 38) (q := 367) dL_isPart_365 (by decide) rfl ?_
    refine ez_icmpneN (q := 370) (tgt := 378) dL_isPart_367 (by decide) (by omega) (by omega) rfl (fun hc367 => ?_) (fun hc367 => False.elim (by omega))
    refine ez_iload (q := 380) dL_isPart_378 rfl rfl ?_
    refine ez_iload (q := 382) dL_isPart_380 rfl rfl ?_
    refine ez_iorN (q := 383) dL_isPart_382 rfl ?_
    refine ez_istore_17 (q := 385) dL_isPart_383 (by decide) rfl rfl ?_
    refine ez_iload (q := 387) dL_isPart_385 rfl rfl ?_
    refine ez_ifeqN (q := 390) (tgt := 442) dL_isPart_387 (by decide) (by decide) rfl (fun hc387 => ?_) (fun hc387 => absurd hc387 (by decide))
    refine ez_iload (q := 444) dL_isPart_442 rfl rfl ?_
    refine ez_ifeqN (q := 447) (tgt := 463) dL_isPart_444 (by decide) (by decide) rfl (fun hc444 => ?_) (fun hc444 => absurd hc444 (by decide))
    refine ez_iload (q := 465) dL_isPart_463 rfl rfl ?_
    refine ez_istore_17 (q := 467) dL_isPart_465 (by decide) rfl rfl ?_
    refine ez_aload_n (q := 468) 0 dL_isPart_467 rfl rfl rfl ?_
    refine ez_iload_n (q := 469) 1 dL_isPart_468 rfl rfl rfl ?_
    refine ez_iload_n (q := 470) 2 dL_isPart_469 rfl rfl rfl ?_
    refine ez_iconst (v := nI 2) (q := 471) dL_isPart_470 (by decide) rfl ?_
    refine cXv (q := 474) dL_isPart_471 ck_L_63 hI.1.1 (v_X7_sign (what := 2) hI.rb ho hs (by omega) (by omega) (by decide)) rfl ⟨by decide, rfl⟩ rfl rfl rfl (Nat.le_of_ble_eq_true rfl) rfl (fun g hW => ?_)
    have hI := hI.tr hW
    clear hW
    refine ez_top (tg_2 hnw) ?_
    refine ez_istore_18 (q := 476) dL_isPart_474 (by decide) rfl rfl ?_
    refine ez_iload (q := 478) dL_isPart_476 rfl rfl ?_
    refine ez_ifeqN (q := 481) (tgt := 492) dL_isPart_478 (by decide) (by decide) rfl (fun hc478 => ?_) (fun hc478 => absurd hc478 (by decide))
    refine ez_iconst (v := nI 0) (q := 493) dL_isPart_492 (by decide) rfl ?_
    refine ez_istore_19 (q := 495) dL_isPart_493 (by decide) rfl rfl ?_
    refine ez_iload (q := 497) dL_isPart_495 rfl rfl ?_
    refine ez_iload (q := 499) dL_isPart_497 rfl rfl ?_
    refine ez_icmpne (q := 502) (tgt := 535) dL_isPart_499 (by decide) rfl (fun hc499 => absurd (congrArg nI hset) hc499) (fun hc499 => ?_)
    refine ez_iload (q := 504) dL_isPart_502 rfl rfl ?_
    refine ez_iload (q := 506) dL_isPart_504 rfl rfl ?_
    refine ez_icmpne (q := 509) (tgt := 535) dL_isPart_506 (by decide) rfl (fun hc506 => absurd (congrArg nI hle) hc506) (fun hc506 => ?_)
    refine ez_iload (q := 511) dL_isPart_509 rfl rfl ?_
    refine ez_ifltN (q := 514) (tgt := 535) dL_isPart_511 (by decide) (by omega) rfl ?_
    refine ez_iload (q := 516) dL_isPart_514 rfl rfl ?_
    refine ez_bipush (v := nI 20) (q := 518) dL_isPart_516 (by decide) rfl ?_
    refine ez_icmpgtN (q := 521) (tgt := 535) dL_isPart_518 (by decide) (by omega) (by omega) rfl (fun hc518 => absurd hr20 (by omega)) (fun hc518 => ?_)
    refine ez_iload (q := 523) dL_isPart_521 rfl rfl ?_
    refine ez_ifneN (q := 526) (tgt := 531) dL_isPart_523 (by decide) (by decide) rfl (fun hc523 => ?_) (fun hc523 => ?_)
    · first
      | exact absurd hc523 (by decide)
      | skip
        refine ez_iconst (v := nI 1) (q := 532) dL_isPart_531 (by decide) rfl ?_
        refine ez_goto (q := 536) dL_isPart_532 (by decide) ?_
        exact ez_zret dL_isPart_536 rfl rfl (hQ _ hI)
    · first
      | exact absurd hc523 (by decide)
      | skip
        refine ez_iload (q := 528) dL_isPart_526 rfl rfl ?_
        refine ez_ifneN (q := 531) (tgt := 535) dL_isPart_528 (by decide) (by omega) rfl (fun hc528 => absurd (by first | exact hrz | exact hro0 hc485) hc528) (fun hc528 => ?_)
        refine ez_iconst (v := nI 1) (q := 532) dL_isPart_531 (by decide) rfl ?_
        refine ez_goto (q := 536) dL_isPart_532 (by decide) ?_
        exact ez_zret dL_isPart_536 rfl rfl (hQ _ hI)
  · have hc2 : sg w i = 69 ∨ sg w i = 65 := Or.inl hc
    obtain ⟨hy, hat1, hs1, hu⟩ := wf_ea hwf hi hsc hc2
    have hw1 := (wf_w hwf hat1).trans hs1
    obtain ⟨hat2, hs2⟩ := hu hyu
    have hw2 := (wf_w hwf hat2).trans hs2
    have hb2 : (seW T n' f L (ln w) (sg w) (i + 2 + leW (ln w) (sg w) (i + 2))) < 2 ^ n' := seW_l _ _ _ _ _ _ _
    have hset := se_U (T := T) (n := n') (f := f) (L := L) (m := ln w) (s := sg w) (j := i) hi hc2 hyu
    have hle := le_U hi hc2 hyu
    have hro0 := fun e => ro_X (T := T) (n := n') (f := f) (L := L) (m := ln w) (s := sg w) (j := i) hc2 e
    refine ez_iload (q := 40) dL_isPart_38 rfl rfl ?_
    refine ez_bipush (v := nI 88) (q := 42) dL_isPart_40 (by decide) rfl ?_
    refine ez_icmpeqN (q := 45) (tgt := 66) dL_isPart_42 (by decide) (by omega) (by omega) rfl (fun hc42 => False.elim (by omega)) (fun hc42 => ?_)
    refine ez_iload (q := 47) dL_isPart_45 rfl rfl ?_
    refine ez_bipush (v := nI 70) (q := 49) dL_isPart_47 (by decide) rfl ?_
    refine ez_icmpeqN (q := 52) (tgt := 66) dL_isPart_49 (by decide) (by omega) (by omega) rfl (fun hc49 => False.elim (by omega)) (fun hc49 => ?_)
    refine ez_iload (q := 54) dL_isPart_52 rfl rfl ?_
    refine ez_bipush (v := nI 71) (q := 56) dL_isPart_54 (by decide) rfl ?_
    refine ez_icmpeqN (q := 59) (tgt := 66) dL_isPart_56 (by decide) (by omega) (by omega) rfl (fun hc56 => False.elim (by omega)) (fun hc56 => ?_)
    refine ez_iload (q := 61) dL_isPart_59 rfl rfl ?_
    refine ez_bipush (v := nI 85) (q := 63) dL_isPart_61 (by decide) rfl ?_
    refine ez_icmpneN (q := 66) (tgt := 127) dL_isPart_63 (by decide) (by omega) (by omega) rfl (fun hc63 => ?_) (fun hc63 => False.elim (by omega))
    refine ez_iload (q := 129) dL_isPart_127 rfl rfl ?_
    refine ez_bipush (v := nI 69) (q := 131) dL_isPart_129 (by decide) rfl ?_
    refine ez_icmpeqN (q := 134) (tgt := 141) dL_isPart_131 (by decide) (by omega) (by omega) rfl (fun hc131 => ?_) (fun hc131 => False.elim (by omega))
    refine ez_iconst (v := nI 1) (q := 142) dL_isPart_141 (by decide) rfl ?_
    refine ez_goto (q := 146) dL_isPart_142 (by decide) ?_
    refine ez_istore_8 (q := 148) dL_isPart_146 (by decide) rfl rfl ?_
    refine ez_iload (q := 150) dL_isPart_148 rfl rfl ?_
    refine ez_ifeqN (q := 153) (tgt := 165) dL_isPart_150 (by decide) (by decide) rfl (fun hc150 => absurd hc150 (by decide)) (fun hc150 => ?_)
    refine ez_aload_n (q := 154) 0 dL_isPart_153 rfl rfl rfl ?_
    refine ez_iload_n (q := 155) 1 dL_isPart_154 rfl rfl rfl ?_
    refine ez_iload_n (q := 156) 2 dL_isPart_155 rfl rfl rfl ?_
    refine ez_iconst (v := nI 1) (q := 157) dL_isPart_156 (by decide) rfl ?_
    refine ez_iaddN (q := 158) dL_isPart_157 rfl ?_
    refine ez_iconst (v := nI 0) (q := 159) dL_isPart_158 (by decide) rfl ?_
    refine cXv (q := 162) dL_isPart_159 ck_L_63 hI.1.1 (v_X7_sign (what := 0) hI.rb ho hs (by omega) (by omega) (by decide)) rfl ⟨by decide, rfl⟩ rfl rfl rfl (Nat.le_of_ble_eq_true rfl) rfl (fun g hW => ?_)
    have hI := hI.tr hW
    clear hW
    refine ez_top (show tgI T n' f L ln sg w (i + 1) 0 = nI (sg w (i + 1)) from if_pos rfl) ?_
    refine ez_goto (q := 166) dL_isPart_162 (by decide) ?_
    refine ez_istore_9 (q := 168) dL_isPart_166 (by decide) rfl rfl ?_
    refine ez_iload (q := 170) dL_isPart_168 rfl rfl ?_
    refine ez_bipush (v := nI 38) (q := 172) dL_isPart_170 (by decide) rfl ?_
    refine ez_icmpeqN (q := 175) (tgt := 189) dL_isPart_172 (by decide) (by omega) (by omega) rfl (fun hc172 => False.elim (by omega)) (fun hc172 => ?_)
    refine ez_iload (q := 177) dL_isPart_175 rfl rfl ?_
    refine ez_bipush (v := nI 124) (q := 179) dL_isPart_177 (by decide) rfl ?_
    refine ez_icmpeqN (q := 182) (tgt := 189) dL_isPart_179 (by decide) (by omega) (by omega) rfl (fun hc179 => False.elim (by omega)) (fun hc179 => ?_)
    refine ez_iload (q := 184) dL_isPart_182 rfl rfl ?_
    refine ez_bipush (v := nI 85) (q := 186) dL_isPart_184 (by decide) rfl ?_
    refine ez_icmpneN (q := 189) (tgt := 193) dL_isPart_186 (by decide) (by omega) (by omega) rfl (fun hc186 => False.elim (by omega)) (fun hc186 => ?_)
    refine ez_iconst (v := nI 1) (q := 190) dL_isPart_189 (by decide) rfl ?_
    refine ez_goto (q := 194) dL_isPart_190 (by decide) ?_
    refine ez_istore_10 (q := 196) dL_isPart_194 (by decide) rfl rfl ?_
    refine ez_iload (q := 198) dL_isPart_196 rfl rfl ?_
    refine ez_bipush (v := nI 116) (q := 200) dL_isPart_198 (by decide) rfl ?_
    refine ez_icmpeqN (q := 203) (tgt := 217) dL_isPart_200 (by decide) (by omega) (by omega) rfl (fun hc200 => False.elim (by omega)) (fun hc200 => ?_)
    refine ez_iload (q := 205) dL_isPart_203 rfl rfl ?_
    refine ez_bipush (v := nI 97) (q := 207) dL_isPart_205 (by decide) rfl ?_
    refine ez_icmpltN (q := 210) (tgt := 221) dL_isPart_207 (by decide) (by omega) (by omega) rfl (fun hc207 => ?_) (fun hc207 => False.elim (by omega))
    refine ez_iconst (v := nI 0) (q := 222) dL_isPart_221 (by decide) rfl ?_
    refine ez_istore_11 (q := 224) dL_isPart_222 (by decide) rfl rfl ?_
    refine ez_iload_n (q := 225) 2 dL_isPart_224 rfl rfl rfl ?_
    refine ez_iload (q := 227) dL_isPart_225 rfl rfl ?_
    refine ez_ifeqN (q := 230) (tgt := 234) dL_isPart_227 (by decide) (by decide) rfl (fun hc227 => absurd hc227 (by decide)) (fun hc227 => ?_)
    refine ez_iconst (v := nI 2) (q := 231) dL_isPart_230 (by decide) rfl ?_
    refine ez_goto (q := 235) dL_isPart_231 (by decide) ?_
    refine ez_iaddN (q := 236) dL_isPart_235 rfl ?_
    refine ez_istore_12 (q := 238) dL_isPart_236 (by decide) rfl rfl ?_
    refine ez_iload (q := 240) dL_isPart_238 rfl rfl ?_
    refine ez_ifeqN (q := 243) (tgt := 247) dL_isPart_240 (by decide) (by decide) rfl (fun hc240 => ?_) (fun hc240 => absurd hc240 (by decide))
    refine ez_aload_n (q := 248) 0 dL_isPart_247 rfl rfl rfl ?_
    refine ez_iload_n (q := 249) 1 dL_isPart_248 rfl rfl rfl ?_
    refine ez_iload (q := 251) dL_isPart_249 rfl rfl ?_
    refine ez_iconst (v := nI 1) (q := 252) dL_isPart_251 (by decide) rfl ?_
    refine cXv (q := 255) dL_isPart_252 ck_L_63 hI.1.1 (v_X7_sign (what := 1) hI.rb ho hs (by omega) hat1 (by decide)) rfl ⟨by decide, rfl⟩ rfl rfl rfl (Nat.le_of_ble_eq_true rfl) rfl (fun g hW => ?_)
    have hI := hI.tr hW
    clear hW
    refine ez_top (tg_1 hw1) ?_
    refine ez_istore_13 (q := 257) dL_isPart_255 (by decide) rfl rfl ?_
    refine ez_iload (q := 259) dL_isPart_257 rfl rfl ?_
    refine ez_ifeqN (q := 262) (tgt := 266) dL_isPart_259 (by decide) (by decide) rfl (fun hc259 => ?_) (fun hc259 => absurd hc259 (by decide))
    refine ez_aload_n (q := 267) 0 dL_isPart_266 rfl rfl rfl ?_
    refine ez_iload_n (q := 268) 1 dL_isPart_267 rfl rfl rfl ?_
    refine ez_iload (q := 270) dL_isPart_268 rfl rfl ?_
    refine ez_iconst (v := nI 3) (q := 271) dL_isPart_270 (by decide) rfl ?_
    refine cXv (q := 274) dL_isPart_271 ck_L_63 hI.1.1 (v_X7_sign (what := 3) hI.rb ho hs (by omega) hat1 (by decide)) rfl ⟨by decide, rfl⟩ rfl rfl rfl (Nat.le_of_ble_eq_true rfl) rfl (fun g hW => ?_)
    have hI := hI.tr hW
    clear hW
    refine ez_top (tg_3 hw1) ?_
    refine ez_istore_14 (q := 276) dL_isPart_274 (by decide) rfl rfl ?_
    refine ez_iload (q := 278) dL_isPart_276 rfl rfl ?_
    refine ez_ifeqN (q := 281) (tgt := 295) dL_isPart_278 (by decide) (by decide) rfl (fun hc278 => absurd hc278 (by decide)) (fun hc278 => ?_)
    refine ez_aload_n (q := 282) 0 dL_isPart_281 rfl rfl rfl ?_
    refine ez_iload_n (q := 283) 1 dL_isPart_282 rfl rfl rfl ?_
    refine ez_iload (q := 285) dL_isPart_283 rfl rfl ?_
    refine ez_iload (q := 287) dL_isPart_285 rfl rfl ?_
    refine ez_iaddN (q := 288) dL_isPart_287 rfl ?_
    refine ez_iconst (v := nI 1) (q := 289) dL_isPart_288 (by decide) rfl ?_
    refine cXv (q := 292) dL_isPart_289 ck_L_63 hI.1.1 (v_X7_sign (what := 1) hI.rb ho hs (by omega) hat2 (by decide)) rfl ⟨by decide, rfl⟩ rfl rfl rfl (Nat.le_of_ble_eq_true rfl) rfl (fun g hW => ?_)
    have hI := hI.tr hW
    clear hW
    refine ez_top (tg_1 hw2) ?_
    refine ez_goto (q := 296) dL_isPart_292 (by decide) ?_
    refine ez_istore_15 (q := 298) dL_isPart_296 (by decide) rfl rfl ?_
    refine ez_iload (q := 300) dL_isPart_298 rfl rfl ?_
    refine ez_ifeqN (q := 303) (tgt := 307) dL_isPart_300 (by decide) (by decide) rfl (fun hc300 => absurd hc300 (by decide)) (fun hc300 => ?_)
    refine ez_iconst (v := nI 2) (q := 304) dL_isPart_303 (by decide) rfl ?_
    refine ez_goto (q := 308) dL_isPart_304 (by decide) ?_
    refine ez_iload (q := 310) dL_isPart_308 rfl rfl ?_
    refine ez_iaddN (q := 311) dL_isPart_310 rfl ?_
    refine ez_iload (q := 313) dL_isPart_311 rfl rfl ?_
    refine ez_ifeqN (q := 316) (tgt := 330) dL_isPart_313 (by decide) (by decide) rfl (fun hc313 => absurd hc313 (by decide)) (fun hc313 => ?_)
    refine ez_aload_n (q := 317) 0 dL_isPart_316 rfl rfl rfl ?_
    refine ez_iload_n (q := 318) 1 dL_isPart_317 rfl rfl rfl ?_
    refine ez_iload (q := 320) dL_isPart_318 rfl rfl ?_
    refine ez_iload (q := 322) dL_isPart_320 rfl rfl ?_
    refine ez_iaddN (q := 323) dL_isPart_322 rfl ?_
    refine ez_iconst (v := nI 3) (q := 324) dL_isPart_323 (by decide) rfl ?_
    refine cXv (q := 327) dL_isPart_324 ck_L_63 hI.1.1 (v_X7_sign (what := 3) hI.rb ho hs (by omega) hat2 (by decide)) rfl ⟨by decide, rfl⟩ rfl rfl rfl (Nat.le_of_ble_eq_true rfl) rfl (fun g hW => ?_)
    have hI := hI.tr hW
    clear hW
    refine ez_top (tg_3 hw2) ?_
    refine ez_goto (q := 331) dL_isPart_327 (by decide) ?_
    refine ez_iaddN (q := 332) dL_isPart_331 rfl ?_
    refine ez_istore_16 (q := 334) dL_isPart_332 (by decide) rfl rfl ?_
    refine ez_iload (q := 336) dL_isPart_334 rfl rfl ?_
    refine ez_bipush (v := nI 116) (q := 338) dL_isPart_336 (by decide) rfl ?_
    refine ez_icmpneN (q := 341) (tgt := 346) dL_isPart_338 (by decide) (by omega) (by omega) rfl (fun hc338 => ?_) (fun hc338 => False.elim (by omega))
    refine ez_iload (q := 348) dL_isPart_346 rfl rfl ?_
    refine ez_bipush (v := nI 33) (q := 350) dL_isPart_348 (by decide) rfl ?_
    refine ez_icmpneN (q := 353) (tgt := 363) dL_isPart_350 (by decide) (by omega) (by omega) rfl (fun hc350 => ?_) (fun hc350 => False.elim (by omega))
    refine ez_iload (q := 365) dL_isPart_363 rfl rfl ?_
    refine ez_bipush (v := nI 38) (q := 367) dL_isPart_365 (by decide) rfl ?_
    refine ez_icmpneN (q := 370) (tgt := 378) dL_isPart_367 (by decide) (by omega) (by omega) rfl (fun hc367 => ?_) (fun hc367 => False.elim (by omega))
    refine ez_iload (q := 380) dL_isPart_378 rfl rfl ?_
    refine ez_iload (q := 382) dL_isPart_380 rfl rfl ?_
    refine ez_iorN (q := 383) dL_isPart_382 rfl ?_
    refine ez_istore_17 (q := 385) dL_isPart_383 (by decide) rfl rfl ?_
    refine ez_iload (q := 387) dL_isPart_385 rfl rfl ?_
    refine ez_ifeqN (q := 390) (tgt := 442) dL_isPart_387 (by decide) (by decide) rfl (fun hc387 => ?_) (fun hc387 => absurd hc387 (by decide))
    refine ez_iload (q := 444) dL_isPart_442 rfl rfl ?_
    refine ez_ifeqN (q := 447) (tgt := 463) dL_isPart_444 (by decide) (by decide) rfl (fun hc444 => absurd hc444 (by decide)) (fun hc444 => ?_)
    refine ez_aload_n (q := 448) 0 dL_isPart_447 rfl rfl rfl ?_
    refine ez_iload (q := 450) dL_isPart_448 rfl rfl ?_
    refine ez_iload (q := 452) dL_isPart_450 rfl rfl ?_
    refine ez_iload (q := 454) dL_isPart_452 rfl rfl ?_
    refine ez_iload (q := 456) dL_isPart_454 rfl rfl ?_
    refine ez_iload_n (q := 457) 3 dL_isPart_456 rfl rfl rfl ?_
    refine cSw (q := 460) dL_isPart_457 ck_L_64 (c_L_due hI.rb ho hs hc2 hy (seW_l _ _ _ _ _ _ _) hb2) rfl rfl rfl (Nat.le_of_ble_eq_true rfl) rfl (fun g hW => ?_)
    have hI := hI.tr hW
    clear hW
    refine ez_goto (q := 465) dL_isPart_460 (by decide) ?_
    refine ez_istore_17 (q := 467) dL_isPart_465 (by decide) rfl rfl ?_
    refine ez_aload_n (q := 468) 0 dL_isPart_467 rfl rfl rfl ?_
    refine ez_iload_n (q := 469) 1 dL_isPart_468 rfl rfl rfl ?_
    refine ez_iload_n (q := 470) 2 dL_isPart_469 rfl rfl rfl ?_
    refine ez_iconst (v := nI 2) (q := 471) dL_isPart_470 (by decide) rfl ?_
    refine cXv (q := 474) dL_isPart_471 ck_L_63 hI.1.1 (v_X7_sign (what := 2) hI.rb ho hs (by omega) (by omega) (by decide)) rfl ⟨by decide, rfl⟩ rfl rfl rfl (Nat.le_of_ble_eq_true rfl) rfl (fun g hW => ?_)
    have hI := hI.tr hW
    clear hW
    refine ez_top (tg_2 hnw) ?_
    refine ez_istore_18 (q := 476) dL_isPart_474 (by decide) rfl rfl ?_
    refine ez_iload (q := 478) dL_isPart_476 rfl rfl ?_
    refine ez_ifeqN (q := 481) (tgt := 492) dL_isPart_478 (by decide) (by decide) rfl (fun hc478 => absurd hc478 (by decide)) (fun hc478 => ?_)
    refine ez_iload (q := 483) dL_isPart_481 rfl rfl ?_
    refine ez_bipush (v := nI 88) (q := 485) dL_isPart_483 (by decide) rfl ?_
    refine ez_icmpeqN (q := 488) (tgt := 492) dL_isPart_485 (by decide) (by omega) (by omega) rfl (fun hc485 => ?_) (fun hc485 => ?_)
    · first
      | exact False.elim (by omega)
      | skip
        refine ez_iconst (v := nI 0) (q := 493) dL_isPart_492 (by decide) rfl ?_
        refine ez_istore_19 (q := 495) dL_isPart_493 (by decide) rfl rfl ?_
        refine ez_iload (q := 497) dL_isPart_495 rfl rfl ?_
        refine ez_iload (q := 499) dL_isPart_497 rfl rfl ?_
        refine ez_icmpne (q := 502) (tgt := 535) dL_isPart_499 (by decide) rfl (fun hc499 => absurd (congrArg nI hset) hc499) (fun hc499 => ?_)
        refine ez_iload (q := 504) dL_isPart_502 rfl rfl ?_
        refine ez_iload (q := 506) dL_isPart_504 rfl rfl ?_
        refine ez_icmpne (q := 509) (tgt := 535) dL_isPart_506 (by decide) rfl (fun hc506 => absurd (congrArg nI hle) hc506) (fun hc506 => ?_)
        refine ez_iload (q := 511) dL_isPart_509 rfl rfl ?_
        refine ez_ifltN (q := 514) (tgt := 535) dL_isPart_511 (by decide) (by omega) rfl ?_
        refine ez_iload (q := 516) dL_isPart_514 rfl rfl ?_
        refine ez_bipush (v := nI 20) (q := 518) dL_isPart_516 (by decide) rfl ?_
        refine ez_icmpgtN (q := 521) (tgt := 535) dL_isPart_518 (by decide) (by omega) (by omega) rfl (fun hc518 => absurd hr20 (by omega)) (fun hc518 => ?_)
        refine ez_iload (q := 523) dL_isPart_521 rfl rfl ?_
        refine ez_ifneN (q := 526) (tgt := 531) dL_isPart_523 (by decide) (by decide) rfl (fun hc523 => ?_) (fun hc523 => ?_)
        · first
          | exact absurd hc523 (by decide)
          | skip
            refine ez_iconst (v := nI 1) (q := 532) dL_isPart_531 (by decide) rfl ?_
            refine ez_goto (q := 536) dL_isPart_532 (by decide) ?_
            exact ez_zret dL_isPart_536 rfl rfl (hQ _ hI)
        · first
          | exact absurd hc523 (by decide)
          | skip
            refine ez_iload (q := 528) dL_isPart_526 rfl rfl ?_
            refine ez_ifneN (q := 531) (tgt := 535) dL_isPart_528 (by decide) (by omega) rfl (fun hc528 => absurd (by first | exact hrz | exact hro0 hc485) hc528) (fun hc528 => ?_)
            refine ez_iconst (v := nI 1) (q := 532) dL_isPart_531 (by decide) rfl ?_
            refine ez_goto (q := 536) dL_isPart_532 (by decide) ?_
            exact ez_zret dL_isPart_536 rfl rfl (hQ _ hI)
    · first
      | exact False.elim (by omega)
      | skip
        refine ez_iconst (v := nI 1) (q := 489) dL_isPart_488 (by decide) rfl ?_
        refine ez_goto (q := 493) dL_isPart_489 (by decide) ?_
        refine ez_istore_19 (q := 495) dL_isPart_493 (by decide) rfl rfl ?_
        refine ez_iload (q := 497) dL_isPart_495 rfl rfl ?_
        refine ez_iload (q := 499) dL_isPart_497 rfl rfl ?_
        refine ez_icmpne (q := 502) (tgt := 535) dL_isPart_499 (by decide) rfl (fun hc499 => absurd (congrArg nI hset) hc499) (fun hc499 => ?_)
        refine ez_iload (q := 504) dL_isPart_502 rfl rfl ?_
        refine ez_iload (q := 506) dL_isPart_504 rfl rfl ?_
        refine ez_icmpne (q := 509) (tgt := 535) dL_isPart_506 (by decide) rfl (fun hc506 => absurd (congrArg nI hle) hc506) (fun hc506 => ?_)
        refine ez_iload (q := 511) dL_isPart_509 rfl rfl ?_
        refine ez_ifltN (q := 514) (tgt := 535) dL_isPart_511 (by decide) (by omega) rfl ?_
        refine ez_iload (q := 516) dL_isPart_514 rfl rfl ?_
        refine ez_bipush (v := nI 20) (q := 518) dL_isPart_516 (by decide) rfl ?_
        refine ez_icmpgtN (q := 521) (tgt := 535) dL_isPart_518 (by decide) (by omega) (by omega) rfl (fun hc518 => absurd hr20 (by omega)) (fun hc518 => ?_)
        refine ez_iload (q := 523) dL_isPart_521 rfl rfl ?_
        refine ez_ifneN (q := 526) (tgt := 531) dL_isPart_523 (by decide) (by decide) rfl (fun hc523 => ?_) (fun hc523 => ?_)
        · first
          | exact absurd hc523 (by decide)
          | skip
            refine ez_iconst (v := nI 1) (q := 532) dL_isPart_531 (by decide) rfl ?_
            refine ez_goto (q := 536) dL_isPart_532 (by decide) ?_
            exact ez_zret dL_isPart_536 rfl rfl (hQ _ hI)
        · first
          | exact absurd hc523 (by decide)
          | skip
            refine ez_iload (q := 528) dL_isPart_526 rfl rfl ?_
            refine ez_ifneN (q := 531) (tgt := 535) dL_isPart_528 (by decide) (by omega) rfl (fun hc528 => absurd (by first | exact hrz | exact hro0 hc485) hc528) (fun hc528 => ?_)
            refine ez_iconst (v := nI 1) (q := 532) dL_isPart_531 (by decide) rfl ?_
            refine ez_goto (q := 536) dL_isPart_532 (by decide) ?_
            exact ez_zret dL_isPart_536 rfl rfl (hQ _ hI)
  · have hc2 : sg w i = 69 ∨ sg w i = 65 := Or.inl hc
    obtain ⟨hy, hat1, hs1, hu⟩ := wf_ea hwf hi hsc hc2
    have hw1 := (wf_w hwf hat1).trans hs1
    have hb2 : 0 < 2 ^ n' := Nat.two_pow_pos _
    have hset := se_V (T := T) (n := n') (f := f) (L := L) (m := ln w) (s := sg w) (j := i) hi hc2 hyu
    have hle := le_V hi hc2 hyu
    have hro0 := fun e => ro_X (T := T) (n := n') (f := f) (L := L) (m := ln w) (s := sg w) (j := i) hc2 e
    refine ez_iload (q := 40) dL_isPart_38 rfl rfl ?_
    refine ez_bipush (v := nI 88) (q := 42) dL_isPart_40 (by decide) rfl ?_
    refine ez_icmpeqN (q := 45) (tgt := 66) dL_isPart_42 (by decide) (by omega) (by omega) rfl (fun hc42 => False.elim (by omega)) (fun hc42 => ?_)
    refine ez_iload (q := 47) dL_isPart_45 rfl rfl ?_
    refine ez_bipush (v := nI 70) (q := 49) dL_isPart_47 (by decide) rfl ?_
    refine ez_icmpeqN (q := 52) (tgt := 66) dL_isPart_49 (by decide) (by omega) (by omega) rfl (fun hc49 => False.elim (by omega)) (fun hc49 => ?_)
    refine ez_iload (q := 54) dL_isPart_52 rfl rfl ?_
    refine ez_bipush (v := nI 71) (q := 56) dL_isPart_54 (by decide) rfl ?_
    refine ez_icmpeqN (q := 59) (tgt := 66) dL_isPart_56 (by decide) (by omega) (by omega) rfl (fun hc56 => False.elim (by omega)) (fun hc56 => ?_)
    refine ez_iload (q := 61) dL_isPart_59 rfl rfl ?_
    refine ez_bipush (v := nI 85) (q := 63) dL_isPart_61 (by decide) rfl ?_
    refine ez_icmpneN (q := 66) (tgt := 127) dL_isPart_63 (by decide) (by omega) (by omega) rfl (fun hc63 => ?_) (fun hc63 => False.elim (by omega))
    refine ez_iload (q := 129) dL_isPart_127 rfl rfl ?_
    refine ez_bipush (v := nI 69) (q := 131) dL_isPart_129 (by decide) rfl ?_
    refine ez_icmpeqN (q := 134) (tgt := 141) dL_isPart_131 (by decide) (by omega) (by omega) rfl (fun hc131 => ?_) (fun hc131 => False.elim (by omega))
    refine ez_iconst (v := nI 1) (q := 142) dL_isPart_141 (by decide) rfl ?_
    refine ez_goto (q := 146) dL_isPart_142 (by decide) ?_
    refine ez_istore_8 (q := 148) dL_isPart_146 (by decide) rfl rfl ?_
    refine ez_iload (q := 150) dL_isPart_148 rfl rfl ?_
    refine ez_ifeqN (q := 153) (tgt := 165) dL_isPart_150 (by decide) (by decide) rfl (fun hc150 => absurd hc150 (by decide)) (fun hc150 => ?_)
    refine ez_aload_n (q := 154) 0 dL_isPart_153 rfl rfl rfl ?_
    refine ez_iload_n (q := 155) 1 dL_isPart_154 rfl rfl rfl ?_
    refine ez_iload_n (q := 156) 2 dL_isPart_155 rfl rfl rfl ?_
    refine ez_iconst (v := nI 1) (q := 157) dL_isPart_156 (by decide) rfl ?_
    refine ez_iaddN (q := 158) dL_isPart_157 rfl ?_
    refine ez_iconst (v := nI 0) (q := 159) dL_isPart_158 (by decide) rfl ?_
    refine cXv (q := 162) dL_isPart_159 ck_L_63 hI.1.1 (v_X7_sign (what := 0) hI.rb ho hs (by omega) (by omega) (by decide)) rfl ⟨by decide, rfl⟩ rfl rfl rfl (Nat.le_of_ble_eq_true rfl) rfl (fun g hW => ?_)
    have hI := hI.tr hW
    clear hW
    refine ez_top (show tgI T n' f L ln sg w (i + 1) 0 = nI (sg w (i + 1)) from if_pos rfl) ?_
    refine ez_goto (q := 166) dL_isPart_162 (by decide) ?_
    refine ez_istore_9 (q := 168) dL_isPart_166 (by decide) rfl rfl ?_
    refine ez_iload (q := 170) dL_isPart_168 rfl rfl ?_
    refine ez_bipush (v := nI 38) (q := 172) dL_isPart_170 (by decide) rfl ?_
    refine ez_icmpeqN (q := 175) (tgt := 189) dL_isPart_172 (by decide) (by omega) (by omega) rfl (fun hc172 => False.elim (by omega)) (fun hc172 => ?_)
    refine ez_iload (q := 177) dL_isPart_175 rfl rfl ?_
    refine ez_bipush (v := nI 124) (q := 179) dL_isPart_177 (by decide) rfl ?_
    refine ez_icmpeqN (q := 182) (tgt := 189) dL_isPart_179 (by decide) (by omega) (by omega) rfl (fun hc179 => False.elim (by omega)) (fun hc179 => ?_)
    refine ez_iload (q := 184) dL_isPart_182 rfl rfl ?_
    refine ez_bipush (v := nI 85) (q := 186) dL_isPart_184 (by decide) rfl ?_
    refine ez_icmpneN (q := 189) (tgt := 193) dL_isPart_186 (by decide) (by omega) (by omega) rfl (fun hc186 => ?_) (fun hc186 => False.elim (by omega))
    refine ez_iconst (v := nI 0) (q := 194) dL_isPart_193 (by decide) rfl ?_
    refine ez_istore_10 (q := 196) dL_isPart_194 (by decide) rfl rfl ?_
    refine ez_iload (q := 198) dL_isPart_196 rfl rfl ?_
    refine ez_bipush (v := nI 116) (q := 200) dL_isPart_198 (by decide) rfl ?_
    refine ez_icmpeqN (q := 203) (tgt := 217) dL_isPart_200 (by decide) (by omega) (by omega) rfl (fun hc200 => False.elim (by omega)) (fun hc200 => ?_)
    refine ez_iload (q := 205) dL_isPart_203 rfl rfl ?_
    refine ez_bipush (v := nI 97) (q := 207) dL_isPart_205 (by decide) rfl ?_
    refine ez_icmpltN (q := 210) (tgt := 221) dL_isPart_207 (by decide) (by omega) (by omega) rfl (fun hc207 => ?_) (fun hc207 => False.elim (by omega))
    refine ez_iconst (v := nI 0) (q := 222) dL_isPart_221 (by decide) rfl ?_
    refine ez_istore_11 (q := 224) dL_isPart_222 (by decide) rfl rfl ?_
    refine ez_iload_n (q := 225) 2 dL_isPart_224 rfl rfl rfl ?_
    refine ez_iload (q := 227) dL_isPart_225 rfl rfl ?_
    refine ez_ifeqN (q := 230) (tgt := 234) dL_isPart_227 (by decide) (by decide) rfl (fun hc227 => absurd hc227 (by decide)) (fun hc227 => ?_)
    refine ez_iconst (v := nI 2) (q := 231) dL_isPart_230 (by decide) rfl ?_
    refine ez_goto (q := 235) dL_isPart_231 (by decide) ?_
    refine ez_iaddN (q := 236) dL_isPart_235 rfl ?_
    refine ez_istore_12 (q := 238) dL_isPart_236 (by decide) rfl rfl ?_
    refine ez_iload (q := 240) dL_isPart_238 rfl rfl ?_
    refine ez_ifeqN (q := 243) (tgt := 247) dL_isPart_240 (by decide) (by decide) rfl (fun hc240 => ?_) (fun hc240 => absurd hc240 (by decide))
    refine ez_aload_n (q := 248) 0 dL_isPart_247 rfl rfl rfl ?_
    refine ez_iload_n (q := 249) 1 dL_isPart_248 rfl rfl rfl ?_
    refine ez_iload (q := 251) dL_isPart_249 rfl rfl ?_
    refine ez_iconst (v := nI 1) (q := 252) dL_isPart_251 (by decide) rfl ?_
    refine cXv (q := 255) dL_isPart_252 ck_L_63 hI.1.1 (v_X7_sign (what := 1) hI.rb ho hs (by omega) hat1 (by decide)) rfl ⟨by decide, rfl⟩ rfl rfl rfl (Nat.le_of_ble_eq_true rfl) rfl (fun g hW => ?_)
    have hI := hI.tr hW
    clear hW
    refine ez_top (tg_1 hw1) ?_
    refine ez_istore_13 (q := 257) dL_isPart_255 (by decide) rfl rfl ?_
    refine ez_iload (q := 259) dL_isPart_257 rfl rfl ?_
    refine ez_ifeqN (q := 262) (tgt := 266) dL_isPart_259 (by decide) (by decide) rfl (fun hc259 => ?_) (fun hc259 => absurd hc259 (by decide))
    refine ez_aload_n (q := 267) 0 dL_isPart_266 rfl rfl rfl ?_
    refine ez_iload_n (q := 268) 1 dL_isPart_267 rfl rfl rfl ?_
    refine ez_iload (q := 270) dL_isPart_268 rfl rfl ?_
    refine ez_iconst (v := nI 3) (q := 271) dL_isPart_270 (by decide) rfl ?_
    refine cXv (q := 274) dL_isPart_271 ck_L_63 hI.1.1 (v_X7_sign (what := 3) hI.rb ho hs (by omega) hat1 (by decide)) rfl ⟨by decide, rfl⟩ rfl rfl rfl (Nat.le_of_ble_eq_true rfl) rfl (fun g hW => ?_)
    have hI := hI.tr hW
    clear hW
    refine ez_top (tg_3 hw1) ?_
    refine ez_istore_14 (q := 276) dL_isPart_274 (by decide) rfl rfl ?_
    refine ez_iload (q := 278) dL_isPart_276 rfl rfl ?_
    refine ez_ifeqN (q := 281) (tgt := 295) dL_isPart_278 (by decide) (by decide) rfl (fun hc278 => ?_) (fun hc278 => absurd hc278 (by decide))
    refine ez_iconst (v := nI 0) (q := 296) dL_isPart_295 (by decide) rfl ?_
    refine ez_istore_15 (q := 298) dL_isPart_296 (by decide) rfl rfl ?_
    refine ez_iload (q := 300) dL_isPart_298 rfl rfl ?_
    refine ez_ifeqN (q := 303) (tgt := 307) dL_isPart_300 (by decide) (by decide) rfl (fun hc300 => absurd hc300 (by decide)) (fun hc300 => ?_)
    refine ez_iconst (v := nI 2) (q := 304) dL_isPart_303 (by decide) rfl ?_
    refine ez_goto (q := 308) dL_isPart_304 (by decide) ?_
    refine ez_iload (q := 310) dL_isPart_308 rfl rfl ?_
    refine ez_iaddN (q := 311) dL_isPart_310 rfl ?_
    refine ez_iload (q := 313) dL_isPart_311 rfl rfl ?_
    refine ez_ifeqN (q := 316) (tgt := 330) dL_isPart_313 (by decide) (by decide) rfl (fun hc313 => ?_) (fun hc313 => absurd hc313 (by decide))
    refine ez_iconst (v := nI 0) (q := 331) dL_isPart_330 (by decide) rfl ?_
    refine ez_iaddN (q := 332) dL_isPart_331 rfl ?_
    refine ez_istore_16 (q := 334) dL_isPart_332 (by decide) rfl rfl ?_
    refine ez_iload (q := 336) dL_isPart_334 rfl rfl ?_
    refine ez_bipush (v := nI 116) (q := 338) dL_isPart_336 (by decide) rfl ?_
    refine ez_icmpneN (q := 341) (tgt := 346) dL_isPart_338 (by decide) (by omega) (by omega) rfl (fun hc338 => ?_) (fun hc338 => False.elim (by omega))
    refine ez_iload (q := 348) dL_isPart_346 rfl rfl ?_
    refine ez_bipush (v := nI 33) (q := 350) dL_isPart_348 (by decide) rfl ?_
    refine ez_icmpneN (q := 353) (tgt := 363) dL_isPart_350 (by decide) (by omega) (by omega) rfl (fun hc350 => ?_) (fun hc350 => False.elim (by omega))
    refine ez_iload (q := 365) dL_isPart_363 rfl rfl ?_
    refine ez_bipush (v := nI 38) (q := 367) dL_isPart_365 (by decide) rfl ?_
    refine ez_icmpneN (q := 370) (tgt := 378) dL_isPart_367 (by decide) (by omega) (by omega) rfl (fun hc367 => ?_) (fun hc367 => False.elim (by omega))
    refine ez_iload (q := 380) dL_isPart_378 rfl rfl ?_
    refine ez_iload (q := 382) dL_isPart_380 rfl rfl ?_
    refine ez_iorN (q := 383) dL_isPart_382 rfl ?_
    refine ez_istore_17 (q := 385) dL_isPart_383 (by decide) rfl rfl ?_
    refine ez_iload (q := 387) dL_isPart_385 rfl rfl ?_
    refine ez_ifeqN (q := 390) (tgt := 442) dL_isPart_387 (by decide) (by decide) rfl (fun hc387 => ?_) (fun hc387 => absurd hc387 (by decide))
    refine ez_iload (q := 444) dL_isPart_442 rfl rfl ?_
    refine ez_ifeqN (q := 447) (tgt := 463) dL_isPart_444 (by decide) (by decide) rfl (fun hc444 => absurd hc444 (by decide)) (fun hc444 => ?_)
    refine ez_aload_n (q := 448) 0 dL_isPart_447 rfl rfl rfl ?_
    refine ez_iload (q := 450) dL_isPart_448 rfl rfl ?_
    refine ez_iload (q := 452) dL_isPart_450 rfl rfl ?_
    refine ez_iload (q := 454) dL_isPart_452 rfl rfl ?_
    refine ez_iload (q := 456) dL_isPart_454 rfl rfl ?_
    refine ez_iload_n (q := 457) 3 dL_isPart_456 rfl rfl rfl ?_
    refine cSw (q := 460) dL_isPart_457 ck_L_64 (c_L_due hI.rb ho hs hc2 hy (seW_l _ _ _ _ _ _ _) hb2) rfl rfl rfl (Nat.le_of_ble_eq_true rfl) rfl (fun g hW => ?_)
    have hI := hI.tr hW
    clear hW
    refine ez_goto (q := 465) dL_isPart_460 (by decide) ?_
    refine ez_istore_17 (q := 467) dL_isPart_465 (by decide) rfl rfl ?_
    refine ez_aload_n (q := 468) 0 dL_isPart_467 rfl rfl rfl ?_
    refine ez_iload_n (q := 469) 1 dL_isPart_468 rfl rfl rfl ?_
    refine ez_iload_n (q := 470) 2 dL_isPart_469 rfl rfl rfl ?_
    refine ez_iconst (v := nI 2) (q := 471) dL_isPart_470 (by decide) rfl ?_
    refine cXv (q := 474) dL_isPart_471 ck_L_63 hI.1.1 (v_X7_sign (what := 2) hI.rb ho hs (by omega) (by omega) (by decide)) rfl ⟨by decide, rfl⟩ rfl rfl rfl (Nat.le_of_ble_eq_true rfl) rfl (fun g hW => ?_)
    have hI := hI.tr hW
    clear hW
    refine ez_top (tg_2 hnw) ?_
    refine ez_istore_18 (q := 476) dL_isPart_474 (by decide) rfl rfl ?_
    refine ez_iload (q := 478) dL_isPart_476 rfl rfl ?_
    refine ez_ifeqN (q := 481) (tgt := 492) dL_isPart_478 (by decide) (by decide) rfl (fun hc478 => absurd hc478 (by decide)) (fun hc478 => ?_)
    refine ez_iload (q := 483) dL_isPart_481 rfl rfl ?_
    refine ez_bipush (v := nI 88) (q := 485) dL_isPart_483 (by decide) rfl ?_
    refine ez_icmpeqN (q := 488) (tgt := 492) dL_isPart_485 (by decide) (by omega) (by omega) rfl (fun hc485 => ?_) (fun hc485 => ?_)
    · first
      | exact False.elim (by omega)
      | skip
        refine ez_iconst (v := nI 0) (q := 493) dL_isPart_492 (by decide) rfl ?_
        refine ez_istore_19 (q := 495) dL_isPart_493 (by decide) rfl rfl ?_
        refine ez_iload (q := 497) dL_isPart_495 rfl rfl ?_
        refine ez_iload (q := 499) dL_isPart_497 rfl rfl ?_
        refine ez_icmpne (q := 502) (tgt := 535) dL_isPart_499 (by decide) rfl (fun hc499 => absurd (congrArg nI hset) hc499) (fun hc499 => ?_)
        refine ez_iload (q := 504) dL_isPart_502 rfl rfl ?_
        refine ez_iload (q := 506) dL_isPart_504 rfl rfl ?_
        refine ez_icmpne (q := 509) (tgt := 535) dL_isPart_506 (by decide) rfl (fun hc506 => absurd (congrArg nI hle) hc506) (fun hc506 => ?_)
        refine ez_iload (q := 511) dL_isPart_509 rfl rfl ?_
        refine ez_ifltN (q := 514) (tgt := 535) dL_isPart_511 (by decide) (by omega) rfl ?_
        refine ez_iload (q := 516) dL_isPart_514 rfl rfl ?_
        refine ez_bipush (v := nI 20) (q := 518) dL_isPart_516 (by decide) rfl ?_
        refine ez_icmpgtN (q := 521) (tgt := 535) dL_isPart_518 (by decide) (by omega) (by omega) rfl (fun hc518 => absurd hr20 (by omega)) (fun hc518 => ?_)
        refine ez_iload (q := 523) dL_isPart_521 rfl rfl ?_
        refine ez_ifneN (q := 526) (tgt := 531) dL_isPart_523 (by decide) (by decide) rfl (fun hc523 => ?_) (fun hc523 => ?_)
        · first
          | exact absurd hc523 (by decide)
          | skip
            refine ez_iconst (v := nI 1) (q := 532) dL_isPart_531 (by decide) rfl ?_
            refine ez_goto (q := 536) dL_isPart_532 (by decide) ?_
            exact ez_zret dL_isPart_536 rfl rfl (hQ _ hI)
        · first
          | exact absurd hc523 (by decide)
          | skip
            refine ez_iload (q := 528) dL_isPart_526 rfl rfl ?_
            refine ez_ifneN (q := 531) (tgt := 535) dL_isPart_528 (by decide) (by omega) rfl (fun hc528 => absurd (by first | exact hrz | exact hro0 hc485) hc528) (fun hc528 => ?_)
            refine ez_iconst (v := nI 1) (q := 532) dL_isPart_531 (by decide) rfl ?_
            refine ez_goto (q := 536) dL_isPart_532 (by decide) ?_
            exact ez_zret dL_isPart_536 rfl rfl (hQ _ hI)
    · first
      | exact False.elim (by omega)
      | skip
        refine ez_iconst (v := nI 1) (q := 489) dL_isPart_488 (by decide) rfl ?_
        refine ez_goto (q := 493) dL_isPart_489 (by decide) ?_
        refine ez_istore_19 (q := 495) dL_isPart_493 (by decide) rfl rfl ?_
        refine ez_iload (q := 497) dL_isPart_495 rfl rfl ?_
        refine ez_iload (q := 499) dL_isPart_497 rfl rfl ?_
        refine ez_icmpne (q := 502) (tgt := 535) dL_isPart_499 (by decide) rfl (fun hc499 => absurd (congrArg nI hset) hc499) (fun hc499 => ?_)
        refine ez_iload (q := 504) dL_isPart_502 rfl rfl ?_
        refine ez_iload (q := 506) dL_isPart_504 rfl rfl ?_
        refine ez_icmpne (q := 509) (tgt := 535) dL_isPart_506 (by decide) rfl (fun hc506 => absurd (congrArg nI hle) hc506) (fun hc506 => ?_)
        refine ez_iload (q := 511) dL_isPart_509 rfl rfl ?_
        refine ez_ifltN (q := 514) (tgt := 535) dL_isPart_511 (by decide) (by omega) rfl ?_
        refine ez_iload (q := 516) dL_isPart_514 rfl rfl ?_
        refine ez_bipush (v := nI 20) (q := 518) dL_isPart_516 (by decide) rfl ?_
        refine ez_icmpgtN (q := 521) (tgt := 535) dL_isPart_518 (by decide) (by omega) (by omega) rfl (fun hc518 => absurd hr20 (by omega)) (fun hc518 => ?_)
        refine ez_iload (q := 523) dL_isPart_521 rfl rfl ?_
        refine ez_ifneN (q := 526) (tgt := 531) dL_isPart_523 (by decide) (by decide) rfl (fun hc523 => ?_) (fun hc523 => ?_)
        · first
          | exact absurd hc523 (by decide)
          | skip
            refine ez_iconst (v := nI 1) (q := 532) dL_isPart_531 (by decide) rfl ?_
            refine ez_goto (q := 536) dL_isPart_532 (by decide) ?_
            exact ez_zret dL_isPart_536 rfl rfl (hQ _ hI)
        · first
          | exact absurd hc523 (by decide)
          | skip
            refine ez_iload (q := 528) dL_isPart_526 rfl rfl ?_
            refine ez_ifneN (q := 531) (tgt := 535) dL_isPart_528 (by decide) (by omega) rfl (fun hc528 => absurd (by first | exact hrz | exact hro0 hc485) hc528) (fun hc528 => ?_)
            refine ez_iconst (v := nI 1) (q := 532) dL_isPart_531 (by decide) rfl ?_
            refine ez_goto (q := 536) dL_isPart_532 (by decide) ?_
            exact ez_zret dL_isPart_536 rfl rfl (hQ _ hI)
  · have hc2 : sg w i = 69 ∨ sg w i = 65 := Or.inr hc
    obtain ⟨hy, hat1, hs1, hu⟩ := wf_ea hwf hi hsc hc2
    have hw1 := (wf_w hwf hat1).trans hs1
    obtain ⟨hat2, hs2⟩ := hu hyu
    have hw2 := (wf_w hwf hat2).trans hs2
    have hb2 : (seW T n' f L (ln w) (sg w) (i + 2 + leW (ln w) (sg w) (i + 2))) < 2 ^ n' := seW_l _ _ _ _ _ _ _
    have hset := se_U (T := T) (n := n') (f := f) (L := L) (m := ln w) (s := sg w) (j := i) hi hc2 hyu
    have hle := le_U hi hc2 hyu
    have hro0 := fun e => ro_X (T := T) (n := n') (f := f) (L := L) (m := ln w) (s := sg w) (j := i) hc2 e
    refine ez_iload (q := 40) dL_isPart_38 rfl rfl ?_
    refine ez_bipush (v := nI 88) (q := 42) dL_isPart_40 (by decide) rfl ?_
    refine ez_icmpeqN (q := 45) (tgt := 66) dL_isPart_42 (by decide) (by omega) (by omega) rfl (fun hc42 => False.elim (by omega)) (fun hc42 => ?_)
    refine ez_iload (q := 47) dL_isPart_45 rfl rfl ?_
    refine ez_bipush (v := nI 70) (q := 49) dL_isPart_47 (by decide) rfl ?_
    refine ez_icmpeqN (q := 52) (tgt := 66) dL_isPart_49 (by decide) (by omega) (by omega) rfl (fun hc49 => False.elim (by omega)) (fun hc49 => ?_)
    refine ez_iload (q := 54) dL_isPart_52 rfl rfl ?_
    refine ez_bipush (v := nI 71) (q := 56) dL_isPart_54 (by decide) rfl ?_
    refine ez_icmpeqN (q := 59) (tgt := 66) dL_isPart_56 (by decide) (by omega) (by omega) rfl (fun hc56 => False.elim (by omega)) (fun hc56 => ?_)
    refine ez_iload (q := 61) dL_isPart_59 rfl rfl ?_
    refine ez_bipush (v := nI 85) (q := 63) dL_isPart_61 (by decide) rfl ?_
    refine ez_icmpneN (q := 66) (tgt := 127) dL_isPart_63 (by decide) (by omega) (by omega) rfl (fun hc63 => ?_) (fun hc63 => False.elim (by omega))
    refine ez_iload (q := 129) dL_isPart_127 rfl rfl ?_
    refine ez_bipush (v := nI 69) (q := 131) dL_isPart_129 (by decide) rfl ?_
    refine ez_icmpeqN (q := 134) (tgt := 141) dL_isPart_131 (by decide) (by omega) (by omega) rfl (fun hc131 => False.elim (by omega)) (fun hc131 => ?_)
    refine ez_iload (q := 136) dL_isPart_134 rfl rfl ?_
    refine ez_bipush (v := nI 65) (q := 138) dL_isPart_136 (by decide) rfl ?_
    refine ez_icmpneN (q := 141) (tgt := 145) dL_isPart_138 (by decide) (by omega) (by omega) rfl (fun hc138 => False.elim (by omega)) (fun hc138 => ?_)
    refine ez_iconst (v := nI 1) (q := 142) dL_isPart_141 (by decide) rfl ?_
    refine ez_goto (q := 146) dL_isPart_142 (by decide) ?_
    refine ez_istore_8 (q := 148) dL_isPart_146 (by decide) rfl rfl ?_
    refine ez_iload (q := 150) dL_isPart_148 rfl rfl ?_
    refine ez_ifeqN (q := 153) (tgt := 165) dL_isPart_150 (by decide) (by decide) rfl (fun hc150 => absurd hc150 (by decide)) (fun hc150 => ?_)
    refine ez_aload_n (q := 154) 0 dL_isPart_153 rfl rfl rfl ?_
    refine ez_iload_n (q := 155) 1 dL_isPart_154 rfl rfl rfl ?_
    refine ez_iload_n (q := 156) 2 dL_isPart_155 rfl rfl rfl ?_
    refine ez_iconst (v := nI 1) (q := 157) dL_isPart_156 (by decide) rfl ?_
    refine ez_iaddN (q := 158) dL_isPart_157 rfl ?_
    refine ez_iconst (v := nI 0) (q := 159) dL_isPart_158 (by decide) rfl ?_
    refine cXv (q := 162) dL_isPart_159 ck_L_63 hI.1.1 (v_X7_sign (what := 0) hI.rb ho hs (by omega) (by omega) (by decide)) rfl ⟨by decide, rfl⟩ rfl rfl rfl (Nat.le_of_ble_eq_true rfl) rfl (fun g hW => ?_)
    have hI := hI.tr hW
    clear hW
    refine ez_top (show tgI T n' f L ln sg w (i + 1) 0 = nI (sg w (i + 1)) from if_pos rfl) ?_
    refine ez_goto (q := 166) dL_isPart_162 (by decide) ?_
    refine ez_istore_9 (q := 168) dL_isPart_166 (by decide) rfl rfl ?_
    refine ez_iload (q := 170) dL_isPart_168 rfl rfl ?_
    refine ez_bipush (v := nI 38) (q := 172) dL_isPart_170 (by decide) rfl ?_
    refine ez_icmpeqN (q := 175) (tgt := 189) dL_isPart_172 (by decide) (by omega) (by omega) rfl (fun hc172 => False.elim (by omega)) (fun hc172 => ?_)
    refine ez_iload (q := 177) dL_isPart_175 rfl rfl ?_
    refine ez_bipush (v := nI 124) (q := 179) dL_isPart_177 (by decide) rfl ?_
    refine ez_icmpeqN (q := 182) (tgt := 189) dL_isPart_179 (by decide) (by omega) (by omega) rfl (fun hc179 => False.elim (by omega)) (fun hc179 => ?_)
    refine ez_iload (q := 184) dL_isPart_182 rfl rfl ?_
    refine ez_bipush (v := nI 85) (q := 186) dL_isPart_184 (by decide) rfl ?_
    refine ez_icmpneN (q := 189) (tgt := 193) dL_isPart_186 (by decide) (by omega) (by omega) rfl (fun hc186 => False.elim (by omega)) (fun hc186 => ?_)
    refine ez_iconst (v := nI 1) (q := 190) dL_isPart_189 (by decide) rfl ?_
    refine ez_goto (q := 194) dL_isPart_190 (by decide) ?_
    refine ez_istore_10 (q := 196) dL_isPart_194 (by decide) rfl rfl ?_
    refine ez_iload (q := 198) dL_isPart_196 rfl rfl ?_
    refine ez_bipush (v := nI 116) (q := 200) dL_isPart_198 (by decide) rfl ?_
    refine ez_icmpeqN (q := 203) (tgt := 217) dL_isPart_200 (by decide) (by omega) (by omega) rfl (fun hc200 => False.elim (by omega)) (fun hc200 => ?_)
    refine ez_iload (q := 205) dL_isPart_203 rfl rfl ?_
    refine ez_bipush (v := nI 97) (q := 207) dL_isPart_205 (by decide) rfl ?_
    refine ez_icmpltN (q := 210) (tgt := 221) dL_isPart_207 (by decide) (by omega) (by omega) rfl (fun hc207 => ?_) (fun hc207 => False.elim (by omega))
    refine ez_iconst (v := nI 0) (q := 222) dL_isPart_221 (by decide) rfl ?_
    refine ez_istore_11 (q := 224) dL_isPart_222 (by decide) rfl rfl ?_
    refine ez_iload_n (q := 225) 2 dL_isPart_224 rfl rfl rfl ?_
    refine ez_iload (q := 227) dL_isPart_225 rfl rfl ?_
    refine ez_ifeqN (q := 230) (tgt := 234) dL_isPart_227 (by decide) (by decide) rfl (fun hc227 => absurd hc227 (by decide)) (fun hc227 => ?_)
    refine ez_iconst (v := nI 2) (q := 231) dL_isPart_230 (by decide) rfl ?_
    refine ez_goto (q := 235) dL_isPart_231 (by decide) ?_
    refine ez_iaddN (q := 236) dL_isPart_235 rfl ?_
    refine ez_istore_12 (q := 238) dL_isPart_236 (by decide) rfl rfl ?_
    refine ez_iload (q := 240) dL_isPart_238 rfl rfl ?_
    refine ez_ifeqN (q := 243) (tgt := 247) dL_isPart_240 (by decide) (by decide) rfl (fun hc240 => ?_) (fun hc240 => absurd hc240 (by decide))
    refine ez_aload_n (q := 248) 0 dL_isPart_247 rfl rfl rfl ?_
    refine ez_iload_n (q := 249) 1 dL_isPart_248 rfl rfl rfl ?_
    refine ez_iload (q := 251) dL_isPart_249 rfl rfl ?_
    refine ez_iconst (v := nI 1) (q := 252) dL_isPart_251 (by decide) rfl ?_
    refine cXv (q := 255) dL_isPart_252 ck_L_63 hI.1.1 (v_X7_sign (what := 1) hI.rb ho hs (by omega) hat1 (by decide)) rfl ⟨by decide, rfl⟩ rfl rfl rfl (Nat.le_of_ble_eq_true rfl) rfl (fun g hW => ?_)
    have hI := hI.tr hW
    clear hW
    refine ez_top (tg_1 hw1) ?_
    refine ez_istore_13 (q := 257) dL_isPart_255 (by decide) rfl rfl ?_
    refine ez_iload (q := 259) dL_isPart_257 rfl rfl ?_
    refine ez_ifeqN (q := 262) (tgt := 266) dL_isPart_259 (by decide) (by decide) rfl (fun hc259 => ?_) (fun hc259 => absurd hc259 (by decide))
    refine ez_aload_n (q := 267) 0 dL_isPart_266 rfl rfl rfl ?_
    refine ez_iload_n (q := 268) 1 dL_isPart_267 rfl rfl rfl ?_
    refine ez_iload (q := 270) dL_isPart_268 rfl rfl ?_
    refine ez_iconst (v := nI 3) (q := 271) dL_isPart_270 (by decide) rfl ?_
    refine cXv (q := 274) dL_isPart_271 ck_L_63 hI.1.1 (v_X7_sign (what := 3) hI.rb ho hs (by omega) hat1 (by decide)) rfl ⟨by decide, rfl⟩ rfl rfl rfl (Nat.le_of_ble_eq_true rfl) rfl (fun g hW => ?_)
    have hI := hI.tr hW
    clear hW
    refine ez_top (tg_3 hw1) ?_
    refine ez_istore_14 (q := 276) dL_isPart_274 (by decide) rfl rfl ?_
    refine ez_iload (q := 278) dL_isPart_276 rfl rfl ?_
    refine ez_ifeqN (q := 281) (tgt := 295) dL_isPart_278 (by decide) (by decide) rfl (fun hc278 => absurd hc278 (by decide)) (fun hc278 => ?_)
    refine ez_aload_n (q := 282) 0 dL_isPart_281 rfl rfl rfl ?_
    refine ez_iload_n (q := 283) 1 dL_isPart_282 rfl rfl rfl ?_
    refine ez_iload (q := 285) dL_isPart_283 rfl rfl ?_
    refine ez_iload (q := 287) dL_isPart_285 rfl rfl ?_
    refine ez_iaddN (q := 288) dL_isPart_287 rfl ?_
    refine ez_iconst (v := nI 1) (q := 289) dL_isPart_288 (by decide) rfl ?_
    refine cXv (q := 292) dL_isPart_289 ck_L_63 hI.1.1 (v_X7_sign (what := 1) hI.rb ho hs (by omega) hat2 (by decide)) rfl ⟨by decide, rfl⟩ rfl rfl rfl (Nat.le_of_ble_eq_true rfl) rfl (fun g hW => ?_)
    have hI := hI.tr hW
    clear hW
    refine ez_top (tg_1 hw2) ?_
    refine ez_goto (q := 296) dL_isPart_292 (by decide) ?_
    refine ez_istore_15 (q := 298) dL_isPart_296 (by decide) rfl rfl ?_
    refine ez_iload (q := 300) dL_isPart_298 rfl rfl ?_
    refine ez_ifeqN (q := 303) (tgt := 307) dL_isPart_300 (by decide) (by decide) rfl (fun hc300 => absurd hc300 (by decide)) (fun hc300 => ?_)
    refine ez_iconst (v := nI 2) (q := 304) dL_isPart_303 (by decide) rfl ?_
    refine ez_goto (q := 308) dL_isPart_304 (by decide) ?_
    refine ez_iload (q := 310) dL_isPart_308 rfl rfl ?_
    refine ez_iaddN (q := 311) dL_isPart_310 rfl ?_
    refine ez_iload (q := 313) dL_isPart_311 rfl rfl ?_
    refine ez_ifeqN (q := 316) (tgt := 330) dL_isPart_313 (by decide) (by decide) rfl (fun hc313 => absurd hc313 (by decide)) (fun hc313 => ?_)
    refine ez_aload_n (q := 317) 0 dL_isPart_316 rfl rfl rfl ?_
    refine ez_iload_n (q := 318) 1 dL_isPart_317 rfl rfl rfl ?_
    refine ez_iload (q := 320) dL_isPart_318 rfl rfl ?_
    refine ez_iload (q := 322) dL_isPart_320 rfl rfl ?_
    refine ez_iaddN (q := 323) dL_isPart_322 rfl ?_
    refine ez_iconst (v := nI 3) (q := 324) dL_isPart_323 (by decide) rfl ?_
    refine cXv (q := 327) dL_isPart_324 ck_L_63 hI.1.1 (v_X7_sign (what := 3) hI.rb ho hs (by omega) hat2 (by decide)) rfl ⟨by decide, rfl⟩ rfl rfl rfl (Nat.le_of_ble_eq_true rfl) rfl (fun g hW => ?_)
    have hI := hI.tr hW
    clear hW
    refine ez_top (tg_3 hw2) ?_
    refine ez_goto (q := 331) dL_isPart_327 (by decide) ?_
    refine ez_iaddN (q := 332) dL_isPart_331 rfl ?_
    refine ez_istore_16 (q := 334) dL_isPart_332 (by decide) rfl rfl ?_
    refine ez_iload (q := 336) dL_isPart_334 rfl rfl ?_
    refine ez_bipush (v := nI 116) (q := 338) dL_isPart_336 (by decide) rfl ?_
    refine ez_icmpneN (q := 341) (tgt := 346) dL_isPart_338 (by decide) (by omega) (by omega) rfl (fun hc338 => ?_) (fun hc338 => False.elim (by omega))
    refine ez_iload (q := 348) dL_isPart_346 rfl rfl ?_
    refine ez_bipush (v := nI 33) (q := 350) dL_isPart_348 (by decide) rfl ?_
    refine ez_icmpneN (q := 353) (tgt := 363) dL_isPart_350 (by decide) (by omega) (by omega) rfl (fun hc350 => ?_) (fun hc350 => False.elim (by omega))
    refine ez_iload (q := 365) dL_isPart_363 rfl rfl ?_
    refine ez_bipush (v := nI 38) (q := 367) dL_isPart_365 (by decide) rfl ?_
    refine ez_icmpneN (q := 370) (tgt := 378) dL_isPart_367 (by decide) (by omega) (by omega) rfl (fun hc367 => ?_) (fun hc367 => False.elim (by omega))
    refine ez_iload (q := 380) dL_isPart_378 rfl rfl ?_
    refine ez_iload (q := 382) dL_isPart_380 rfl rfl ?_
    refine ez_iorN (q := 383) dL_isPart_382 rfl ?_
    refine ez_istore_17 (q := 385) dL_isPart_383 (by decide) rfl rfl ?_
    refine ez_iload (q := 387) dL_isPart_385 rfl rfl ?_
    refine ez_ifeqN (q := 390) (tgt := 442) dL_isPart_387 (by decide) (by decide) rfl (fun hc387 => ?_) (fun hc387 => absurd hc387 (by decide))
    refine ez_iload (q := 444) dL_isPart_442 rfl rfl ?_
    refine ez_ifeqN (q := 447) (tgt := 463) dL_isPart_444 (by decide) (by decide) rfl (fun hc444 => absurd hc444 (by decide)) (fun hc444 => ?_)
    refine ez_aload_n (q := 448) 0 dL_isPart_447 rfl rfl rfl ?_
    refine ez_iload (q := 450) dL_isPart_448 rfl rfl ?_
    refine ez_iload (q := 452) dL_isPart_450 rfl rfl ?_
    refine ez_iload (q := 454) dL_isPart_452 rfl rfl ?_
    refine ez_iload (q := 456) dL_isPart_454 rfl rfl ?_
    refine ez_iload_n (q := 457) 3 dL_isPart_456 rfl rfl rfl ?_
    refine cSw (q := 460) dL_isPart_457 ck_L_64 (c_L_due hI.rb ho hs hc2 hy (seW_l _ _ _ _ _ _ _) hb2) rfl rfl rfl (Nat.le_of_ble_eq_true rfl) rfl (fun g hW => ?_)
    have hI := hI.tr hW
    clear hW
    refine ez_goto (q := 465) dL_isPart_460 (by decide) ?_
    refine ez_istore_17 (q := 467) dL_isPart_465 (by decide) rfl rfl ?_
    refine ez_aload_n (q := 468) 0 dL_isPart_467 rfl rfl rfl ?_
    refine ez_iload_n (q := 469) 1 dL_isPart_468 rfl rfl rfl ?_
    refine ez_iload_n (q := 470) 2 dL_isPart_469 rfl rfl rfl ?_
    refine ez_iconst (v := nI 2) (q := 471) dL_isPart_470 (by decide) rfl ?_
    refine cXv (q := 474) dL_isPart_471 ck_L_63 hI.1.1 (v_X7_sign (what := 2) hI.rb ho hs (by omega) (by omega) (by decide)) rfl ⟨by decide, rfl⟩ rfl rfl rfl (Nat.le_of_ble_eq_true rfl) rfl (fun g hW => ?_)
    have hI := hI.tr hW
    clear hW
    refine ez_top (tg_2 hnw) ?_
    refine ez_istore_18 (q := 476) dL_isPart_474 (by decide) rfl rfl ?_
    refine ez_iload (q := 478) dL_isPart_476 rfl rfl ?_
    refine ez_ifeqN (q := 481) (tgt := 492) dL_isPart_478 (by decide) (by decide) rfl (fun hc478 => absurd hc478 (by decide)) (fun hc478 => ?_)
    refine ez_iload (q := 483) dL_isPart_481 rfl rfl ?_
    refine ez_bipush (v := nI 88) (q := 485) dL_isPart_483 (by decide) rfl ?_
    refine ez_icmpeqN (q := 488) (tgt := 492) dL_isPart_485 (by decide) (by omega) (by omega) rfl (fun hc485 => ?_) (fun hc485 => ?_)
    · first
      | exact False.elim (by omega)
      | skip
        refine ez_iconst (v := nI 0) (q := 493) dL_isPart_492 (by decide) rfl ?_
        refine ez_istore_19 (q := 495) dL_isPart_493 (by decide) rfl rfl ?_
        refine ez_iload (q := 497) dL_isPart_495 rfl rfl ?_
        refine ez_iload (q := 499) dL_isPart_497 rfl rfl ?_
        refine ez_icmpne (q := 502) (tgt := 535) dL_isPart_499 (by decide) rfl (fun hc499 => absurd (congrArg nI hset) hc499) (fun hc499 => ?_)
        refine ez_iload (q := 504) dL_isPart_502 rfl rfl ?_
        refine ez_iload (q := 506) dL_isPart_504 rfl rfl ?_
        refine ez_icmpne (q := 509) (tgt := 535) dL_isPart_506 (by decide) rfl (fun hc506 => absurd (congrArg nI hle) hc506) (fun hc506 => ?_)
        refine ez_iload (q := 511) dL_isPart_509 rfl rfl ?_
        refine ez_ifltN (q := 514) (tgt := 535) dL_isPart_511 (by decide) (by omega) rfl ?_
        refine ez_iload (q := 516) dL_isPart_514 rfl rfl ?_
        refine ez_bipush (v := nI 20) (q := 518) dL_isPart_516 (by decide) rfl ?_
        refine ez_icmpgtN (q := 521) (tgt := 535) dL_isPart_518 (by decide) (by omega) (by omega) rfl (fun hc518 => absurd hr20 (by omega)) (fun hc518 => ?_)
        refine ez_iload (q := 523) dL_isPart_521 rfl rfl ?_
        refine ez_ifneN (q := 526) (tgt := 531) dL_isPart_523 (by decide) (by decide) rfl (fun hc523 => ?_) (fun hc523 => ?_)
        · first
          | exact absurd hc523 (by decide)
          | skip
            refine ez_iconst (v := nI 1) (q := 532) dL_isPart_531 (by decide) rfl ?_
            refine ez_goto (q := 536) dL_isPart_532 (by decide) ?_
            exact ez_zret dL_isPart_536 rfl rfl (hQ _ hI)
        · first
          | exact absurd hc523 (by decide)
          | skip
            refine ez_iload (q := 528) dL_isPart_526 rfl rfl ?_
            refine ez_ifneN (q := 531) (tgt := 535) dL_isPart_528 (by decide) (by omega) rfl (fun hc528 => absurd (by first | exact hrz | exact hro0 hc485) hc528) (fun hc528 => ?_)
            refine ez_iconst (v := nI 1) (q := 532) dL_isPart_531 (by decide) rfl ?_
            refine ez_goto (q := 536) dL_isPart_532 (by decide) ?_
            exact ez_zret dL_isPart_536 rfl rfl (hQ _ hI)
    · first
      | exact False.elim (by omega)
      | skip
        refine ez_iconst (v := nI 1) (q := 489) dL_isPart_488 (by decide) rfl ?_
        refine ez_goto (q := 493) dL_isPart_489 (by decide) ?_
        refine ez_istore_19 (q := 495) dL_isPart_493 (by decide) rfl rfl ?_
        refine ez_iload (q := 497) dL_isPart_495 rfl rfl ?_
        refine ez_iload (q := 499) dL_isPart_497 rfl rfl ?_
        refine ez_icmpne (q := 502) (tgt := 535) dL_isPart_499 (by decide) rfl (fun hc499 => absurd (congrArg nI hset) hc499) (fun hc499 => ?_)
        refine ez_iload (q := 504) dL_isPart_502 rfl rfl ?_
        refine ez_iload (q := 506) dL_isPart_504 rfl rfl ?_
        refine ez_icmpne (q := 509) (tgt := 535) dL_isPart_506 (by decide) rfl (fun hc506 => absurd (congrArg nI hle) hc506) (fun hc506 => ?_)
        refine ez_iload (q := 511) dL_isPart_509 rfl rfl ?_
        refine ez_ifltN (q := 514) (tgt := 535) dL_isPart_511 (by decide) (by omega) rfl ?_
        refine ez_iload (q := 516) dL_isPart_514 rfl rfl ?_
        refine ez_bipush (v := nI 20) (q := 518) dL_isPart_516 (by decide) rfl ?_
        refine ez_icmpgtN (q := 521) (tgt := 535) dL_isPart_518 (by decide) (by omega) (by omega) rfl (fun hc518 => absurd hr20 (by omega)) (fun hc518 => ?_)
        refine ez_iload (q := 523) dL_isPart_521 rfl rfl ?_
        refine ez_ifneN (q := 526) (tgt := 531) dL_isPart_523 (by decide) (by decide) rfl (fun hc523 => ?_) (fun hc523 => ?_)
        · first
          | exact absurd hc523 (by decide)
          | skip
            refine ez_iconst (v := nI 1) (q := 532) dL_isPart_531 (by decide) rfl ?_
            refine ez_goto (q := 536) dL_isPart_532 (by decide) ?_
            exact ez_zret dL_isPart_536 rfl rfl (hQ _ hI)
        · first
          | exact absurd hc523 (by decide)
          | skip
            refine ez_iload (q := 528) dL_isPart_526 rfl rfl ?_
            refine ez_ifneN (q := 531) (tgt := 535) dL_isPart_528 (by decide) (by omega) rfl (fun hc528 => absurd (by first | exact hrz | exact hro0 hc485) hc528) (fun hc528 => ?_)
            refine ez_iconst (v := nI 1) (q := 532) dL_isPart_531 (by decide) rfl ?_
            refine ez_goto (q := 536) dL_isPart_532 (by decide) ?_
            exact ez_zret dL_isPart_536 rfl rfl (hQ _ hI)
  · have hc2 : sg w i = 69 ∨ sg w i = 65 := Or.inr hc
    obtain ⟨hy, hat1, hs1, hu⟩ := wf_ea hwf hi hsc hc2
    have hw1 := (wf_w hwf hat1).trans hs1
    have hb2 : 0 < 2 ^ n' := Nat.two_pow_pos _
    have hset := se_V (T := T) (n := n') (f := f) (L := L) (m := ln w) (s := sg w) (j := i) hi hc2 hyu
    have hle := le_V hi hc2 hyu
    have hro0 := fun e => ro_X (T := T) (n := n') (f := f) (L := L) (m := ln w) (s := sg w) (j := i) hc2 e
    refine ez_iload (q := 40) dL_isPart_38 rfl rfl ?_
    refine ez_bipush (v := nI 88) (q := 42) dL_isPart_40 (by decide) rfl ?_
    refine ez_icmpeqN (q := 45) (tgt := 66) dL_isPart_42 (by decide) (by omega) (by omega) rfl (fun hc42 => False.elim (by omega)) (fun hc42 => ?_)
    refine ez_iload (q := 47) dL_isPart_45 rfl rfl ?_
    refine ez_bipush (v := nI 70) (q := 49) dL_isPart_47 (by decide) rfl ?_
    refine ez_icmpeqN (q := 52) (tgt := 66) dL_isPart_49 (by decide) (by omega) (by omega) rfl (fun hc49 => False.elim (by omega)) (fun hc49 => ?_)
    refine ez_iload (q := 54) dL_isPart_52 rfl rfl ?_
    refine ez_bipush (v := nI 71) (q := 56) dL_isPart_54 (by decide) rfl ?_
    refine ez_icmpeqN (q := 59) (tgt := 66) dL_isPart_56 (by decide) (by omega) (by omega) rfl (fun hc56 => False.elim (by omega)) (fun hc56 => ?_)
    refine ez_iload (q := 61) dL_isPart_59 rfl rfl ?_
    refine ez_bipush (v := nI 85) (q := 63) dL_isPart_61 (by decide) rfl ?_
    refine ez_icmpneN (q := 66) (tgt := 127) dL_isPart_63 (by decide) (by omega) (by omega) rfl (fun hc63 => ?_) (fun hc63 => False.elim (by omega))
    refine ez_iload (q := 129) dL_isPart_127 rfl rfl ?_
    refine ez_bipush (v := nI 69) (q := 131) dL_isPart_129 (by decide) rfl ?_
    refine ez_icmpeqN (q := 134) (tgt := 141) dL_isPart_131 (by decide) (by omega) (by omega) rfl (fun hc131 => False.elim (by omega)) (fun hc131 => ?_)
    refine ez_iload (q := 136) dL_isPart_134 rfl rfl ?_
    refine ez_bipush (v := nI 65) (q := 138) dL_isPart_136 (by decide) rfl ?_
    refine ez_icmpneN (q := 141) (tgt := 145) dL_isPart_138 (by decide) (by omega) (by omega) rfl (fun hc138 => False.elim (by omega)) (fun hc138 => ?_)
    refine ez_iconst (v := nI 1) (q := 142) dL_isPart_141 (by decide) rfl ?_
    refine ez_goto (q := 146) dL_isPart_142 (by decide) ?_
    refine ez_istore_8 (q := 148) dL_isPart_146 (by decide) rfl rfl ?_
    refine ez_iload (q := 150) dL_isPart_148 rfl rfl ?_
    refine ez_ifeqN (q := 153) (tgt := 165) dL_isPart_150 (by decide) (by decide) rfl (fun hc150 => absurd hc150 (by decide)) (fun hc150 => ?_)
    refine ez_aload_n (q := 154) 0 dL_isPart_153 rfl rfl rfl ?_
    refine ez_iload_n (q := 155) 1 dL_isPart_154 rfl rfl rfl ?_
    refine ez_iload_n (q := 156) 2 dL_isPart_155 rfl rfl rfl ?_
    refine ez_iconst (v := nI 1) (q := 157) dL_isPart_156 (by decide) rfl ?_
    refine ez_iaddN (q := 158) dL_isPart_157 rfl ?_
    refine ez_iconst (v := nI 0) (q := 159) dL_isPart_158 (by decide) rfl ?_
    refine cXv (q := 162) dL_isPart_159 ck_L_63 hI.1.1 (v_X7_sign (what := 0) hI.rb ho hs (by omega) (by omega) (by decide)) rfl ⟨by decide, rfl⟩ rfl rfl rfl (Nat.le_of_ble_eq_true rfl) rfl (fun g hW => ?_)
    have hI := hI.tr hW
    clear hW
    refine ez_top (show tgI T n' f L ln sg w (i + 1) 0 = nI (sg w (i + 1)) from if_pos rfl) ?_
    refine ez_goto (q := 166) dL_isPart_162 (by decide) ?_
    refine ez_istore_9 (q := 168) dL_isPart_166 (by decide) rfl rfl ?_
    refine ez_iload (q := 170) dL_isPart_168 rfl rfl ?_
    refine ez_bipush (v := nI 38) (q := 172) dL_isPart_170 (by decide) rfl ?_
    refine ez_icmpeqN (q := 175) (tgt := 189) dL_isPart_172 (by decide) (by omega) (by omega) rfl (fun hc172 => False.elim (by omega)) (fun hc172 => ?_)
    refine ez_iload (q := 177) dL_isPart_175 rfl rfl ?_
    refine ez_bipush (v := nI 124) (q := 179) dL_isPart_177 (by decide) rfl ?_
    refine ez_icmpeqN (q := 182) (tgt := 189) dL_isPart_179 (by decide) (by omega) (by omega) rfl (fun hc179 => False.elim (by omega)) (fun hc179 => ?_)
    refine ez_iload (q := 184) dL_isPart_182 rfl rfl ?_
    refine ez_bipush (v := nI 85) (q := 186) dL_isPart_184 (by decide) rfl ?_
    refine ez_icmpneN (q := 189) (tgt := 193) dL_isPart_186 (by decide) (by omega) (by omega) rfl (fun hc186 => ?_) (fun hc186 => False.elim (by omega))
    refine ez_iconst (v := nI 0) (q := 194) dL_isPart_193 (by decide) rfl ?_
    refine ez_istore_10 (q := 196) dL_isPart_194 (by decide) rfl rfl ?_
    refine ez_iload (q := 198) dL_isPart_196 rfl rfl ?_
    refine ez_bipush (v := nI 116) (q := 200) dL_isPart_198 (by decide) rfl ?_
    refine ez_icmpeqN (q := 203) (tgt := 217) dL_isPart_200 (by decide) (by omega) (by omega) rfl (fun hc200 => False.elim (by omega)) (fun hc200 => ?_)
    refine ez_iload (q := 205) dL_isPart_203 rfl rfl ?_
    refine ez_bipush (v := nI 97) (q := 207) dL_isPart_205 (by decide) rfl ?_
    refine ez_icmpltN (q := 210) (tgt := 221) dL_isPart_207 (by decide) (by omega) (by omega) rfl (fun hc207 => ?_) (fun hc207 => False.elim (by omega))
    refine ez_iconst (v := nI 0) (q := 222) dL_isPart_221 (by decide) rfl ?_
    refine ez_istore_11 (q := 224) dL_isPart_222 (by decide) rfl rfl ?_
    refine ez_iload_n (q := 225) 2 dL_isPart_224 rfl rfl rfl ?_
    refine ez_iload (q := 227) dL_isPart_225 rfl rfl ?_
    refine ez_ifeqN (q := 230) (tgt := 234) dL_isPart_227 (by decide) (by decide) rfl (fun hc227 => absurd hc227 (by decide)) (fun hc227 => ?_)
    refine ez_iconst (v := nI 2) (q := 231) dL_isPart_230 (by decide) rfl ?_
    refine ez_goto (q := 235) dL_isPart_231 (by decide) ?_
    refine ez_iaddN (q := 236) dL_isPart_235 rfl ?_
    refine ez_istore_12 (q := 238) dL_isPart_236 (by decide) rfl rfl ?_
    refine ez_iload (q := 240) dL_isPart_238 rfl rfl ?_
    refine ez_ifeqN (q := 243) (tgt := 247) dL_isPart_240 (by decide) (by decide) rfl (fun hc240 => ?_) (fun hc240 => absurd hc240 (by decide))
    refine ez_aload_n (q := 248) 0 dL_isPart_247 rfl rfl rfl ?_
    refine ez_iload_n (q := 249) 1 dL_isPart_248 rfl rfl rfl ?_
    refine ez_iload (q := 251) dL_isPart_249 rfl rfl ?_
    refine ez_iconst (v := nI 1) (q := 252) dL_isPart_251 (by decide) rfl ?_
    refine cXv (q := 255) dL_isPart_252 ck_L_63 hI.1.1 (v_X7_sign (what := 1) hI.rb ho hs (by omega) hat1 (by decide)) rfl ⟨by decide, rfl⟩ rfl rfl rfl (Nat.le_of_ble_eq_true rfl) rfl (fun g hW => ?_)
    have hI := hI.tr hW
    clear hW
    refine ez_top (tg_1 hw1) ?_
    refine ez_istore_13 (q := 257) dL_isPart_255 (by decide) rfl rfl ?_
    refine ez_iload (q := 259) dL_isPart_257 rfl rfl ?_
    refine ez_ifeqN (q := 262) (tgt := 266) dL_isPart_259 (by decide) (by decide) rfl (fun hc259 => ?_) (fun hc259 => absurd hc259 (by decide))
    refine ez_aload_n (q := 267) 0 dL_isPart_266 rfl rfl rfl ?_
    refine ez_iload_n (q := 268) 1 dL_isPart_267 rfl rfl rfl ?_
    refine ez_iload (q := 270) dL_isPart_268 rfl rfl ?_
    refine ez_iconst (v := nI 3) (q := 271) dL_isPart_270 (by decide) rfl ?_
    refine cXv (q := 274) dL_isPart_271 ck_L_63 hI.1.1 (v_X7_sign (what := 3) hI.rb ho hs (by omega) hat1 (by decide)) rfl ⟨by decide, rfl⟩ rfl rfl rfl (Nat.le_of_ble_eq_true rfl) rfl (fun g hW => ?_)
    have hI := hI.tr hW
    clear hW
    refine ez_top (tg_3 hw1) ?_
    refine ez_istore_14 (q := 276) dL_isPart_274 (by decide) rfl rfl ?_
    refine ez_iload (q := 278) dL_isPart_276 rfl rfl ?_
    refine ez_ifeqN (q := 281) (tgt := 295) dL_isPart_278 (by decide) (by decide) rfl (fun hc278 => ?_) (fun hc278 => absurd hc278 (by decide))
    refine ez_iconst (v := nI 0) (q := 296) dL_isPart_295 (by decide) rfl ?_
    refine ez_istore_15 (q := 298) dL_isPart_296 (by decide) rfl rfl ?_
    refine ez_iload (q := 300) dL_isPart_298 rfl rfl ?_
    refine ez_ifeqN (q := 303) (tgt := 307) dL_isPart_300 (by decide) (by decide) rfl (fun hc300 => absurd hc300 (by decide)) (fun hc300 => ?_)
    refine ez_iconst (v := nI 2) (q := 304) dL_isPart_303 (by decide) rfl ?_
    refine ez_goto (q := 308) dL_isPart_304 (by decide) ?_
    refine ez_iload (q := 310) dL_isPart_308 rfl rfl ?_
    refine ez_iaddN (q := 311) dL_isPart_310 rfl ?_
    refine ez_iload (q := 313) dL_isPart_311 rfl rfl ?_
    refine ez_ifeqN (q := 316) (tgt := 330) dL_isPart_313 (by decide) (by decide) rfl (fun hc313 => ?_) (fun hc313 => absurd hc313 (by decide))
    refine ez_iconst (v := nI 0) (q := 331) dL_isPart_330 (by decide) rfl ?_
    refine ez_iaddN (q := 332) dL_isPart_331 rfl ?_
    refine ez_istore_16 (q := 334) dL_isPart_332 (by decide) rfl rfl ?_
    refine ez_iload (q := 336) dL_isPart_334 rfl rfl ?_
    refine ez_bipush (v := nI 116) (q := 338) dL_isPart_336 (by decide) rfl ?_
    refine ez_icmpneN (q := 341) (tgt := 346) dL_isPart_338 (by decide) (by omega) (by omega) rfl (fun hc338 => ?_) (fun hc338 => False.elim (by omega))
    refine ez_iload (q := 348) dL_isPart_346 rfl rfl ?_
    refine ez_bipush (v := nI 33) (q := 350) dL_isPart_348 (by decide) rfl ?_
    refine ez_icmpneN (q := 353) (tgt := 363) dL_isPart_350 (by decide) (by omega) (by omega) rfl (fun hc350 => ?_) (fun hc350 => False.elim (by omega))
    refine ez_iload (q := 365) dL_isPart_363 rfl rfl ?_
    refine ez_bipush (v := nI 38) (q := 367) dL_isPart_365 (by decide) rfl ?_
    refine ez_icmpneN (q := 370) (tgt := 378) dL_isPart_367 (by decide) (by omega) (by omega) rfl (fun hc367 => ?_) (fun hc367 => False.elim (by omega))
    refine ez_iload (q := 380) dL_isPart_378 rfl rfl ?_
    refine ez_iload (q := 382) dL_isPart_380 rfl rfl ?_
    refine ez_iorN (q := 383) dL_isPart_382 rfl ?_
    refine ez_istore_17 (q := 385) dL_isPart_383 (by decide) rfl rfl ?_
    refine ez_iload (q := 387) dL_isPart_385 rfl rfl ?_
    refine ez_ifeqN (q := 390) (tgt := 442) dL_isPart_387 (by decide) (by decide) rfl (fun hc387 => ?_) (fun hc387 => absurd hc387 (by decide))
    refine ez_iload (q := 444) dL_isPart_442 rfl rfl ?_
    refine ez_ifeqN (q := 447) (tgt := 463) dL_isPart_444 (by decide) (by decide) rfl (fun hc444 => absurd hc444 (by decide)) (fun hc444 => ?_)
    refine ez_aload_n (q := 448) 0 dL_isPart_447 rfl rfl rfl ?_
    refine ez_iload (q := 450) dL_isPart_448 rfl rfl ?_
    refine ez_iload (q := 452) dL_isPart_450 rfl rfl ?_
    refine ez_iload (q := 454) dL_isPart_452 rfl rfl ?_
    refine ez_iload (q := 456) dL_isPart_454 rfl rfl ?_
    refine ez_iload_n (q := 457) 3 dL_isPart_456 rfl rfl rfl ?_
    refine cSw (q := 460) dL_isPart_457 ck_L_64 (c_L_due hI.rb ho hs hc2 hy (seW_l _ _ _ _ _ _ _) hb2) rfl rfl rfl (Nat.le_of_ble_eq_true rfl) rfl (fun g hW => ?_)
    have hI := hI.tr hW
    clear hW
    refine ez_goto (q := 465) dL_isPart_460 (by decide) ?_
    refine ez_istore_17 (q := 467) dL_isPart_465 (by decide) rfl rfl ?_
    refine ez_aload_n (q := 468) 0 dL_isPart_467 rfl rfl rfl ?_
    refine ez_iload_n (q := 469) 1 dL_isPart_468 rfl rfl rfl ?_
    refine ez_iload_n (q := 470) 2 dL_isPart_469 rfl rfl rfl ?_
    refine ez_iconst (v := nI 2) (q := 471) dL_isPart_470 (by decide) rfl ?_
    refine cXv (q := 474) dL_isPart_471 ck_L_63 hI.1.1 (v_X7_sign (what := 2) hI.rb ho hs (by omega) (by omega) (by decide)) rfl ⟨by decide, rfl⟩ rfl rfl rfl (Nat.le_of_ble_eq_true rfl) rfl (fun g hW => ?_)
    have hI := hI.tr hW
    clear hW
    refine ez_top (tg_2 hnw) ?_
    refine ez_istore_18 (q := 476) dL_isPart_474 (by decide) rfl rfl ?_
    refine ez_iload (q := 478) dL_isPart_476 rfl rfl ?_
    refine ez_ifeqN (q := 481) (tgt := 492) dL_isPart_478 (by decide) (by decide) rfl (fun hc478 => absurd hc478 (by decide)) (fun hc478 => ?_)
    refine ez_iload (q := 483) dL_isPart_481 rfl rfl ?_
    refine ez_bipush (v := nI 88) (q := 485) dL_isPart_483 (by decide) rfl ?_
    refine ez_icmpeqN (q := 488) (tgt := 492) dL_isPart_485 (by decide) (by omega) (by omega) rfl (fun hc485 => ?_) (fun hc485 => ?_)
    · first
      | exact False.elim (by omega)
      | skip
        refine ez_iconst (v := nI 0) (q := 493) dL_isPart_492 (by decide) rfl ?_
        refine ez_istore_19 (q := 495) dL_isPart_493 (by decide) rfl rfl ?_
        refine ez_iload (q := 497) dL_isPart_495 rfl rfl ?_
        refine ez_iload (q := 499) dL_isPart_497 rfl rfl ?_
        refine ez_icmpne (q := 502) (tgt := 535) dL_isPart_499 (by decide) rfl (fun hc499 => absurd (congrArg nI hset) hc499) (fun hc499 => ?_)
        refine ez_iload (q := 504) dL_isPart_502 rfl rfl ?_
        refine ez_iload (q := 506) dL_isPart_504 rfl rfl ?_
        refine ez_icmpne (q := 509) (tgt := 535) dL_isPart_506 (by decide) rfl (fun hc506 => absurd (congrArg nI hle) hc506) (fun hc506 => ?_)
        refine ez_iload (q := 511) dL_isPart_509 rfl rfl ?_
        refine ez_ifltN (q := 514) (tgt := 535) dL_isPart_511 (by decide) (by omega) rfl ?_
        refine ez_iload (q := 516) dL_isPart_514 rfl rfl ?_
        refine ez_bipush (v := nI 20) (q := 518) dL_isPart_516 (by decide) rfl ?_
        refine ez_icmpgtN (q := 521) (tgt := 535) dL_isPart_518 (by decide) (by omega) (by omega) rfl (fun hc518 => absurd hr20 (by omega)) (fun hc518 => ?_)
        refine ez_iload (q := 523) dL_isPart_521 rfl rfl ?_
        refine ez_ifneN (q := 526) (tgt := 531) dL_isPart_523 (by decide) (by decide) rfl (fun hc523 => ?_) (fun hc523 => ?_)
        · first
          | exact absurd hc523 (by decide)
          | skip
            refine ez_iconst (v := nI 1) (q := 532) dL_isPart_531 (by decide) rfl ?_
            refine ez_goto (q := 536) dL_isPart_532 (by decide) ?_
            exact ez_zret dL_isPart_536 rfl rfl (hQ _ hI)
        · first
          | exact absurd hc523 (by decide)
          | skip
            refine ez_iload (q := 528) dL_isPart_526 rfl rfl ?_
            refine ez_ifneN (q := 531) (tgt := 535) dL_isPart_528 (by decide) (by omega) rfl (fun hc528 => absurd (by first | exact hrz | exact hro0 hc485) hc528) (fun hc528 => ?_)
            refine ez_iconst (v := nI 1) (q := 532) dL_isPart_531 (by decide) rfl ?_
            refine ez_goto (q := 536) dL_isPart_532 (by decide) ?_
            exact ez_zret dL_isPart_536 rfl rfl (hQ _ hI)
    · first
      | exact False.elim (by omega)
      | skip
        refine ez_iconst (v := nI 1) (q := 489) dL_isPart_488 (by decide) rfl ?_
        refine ez_goto (q := 493) dL_isPart_489 (by decide) ?_
        refine ez_istore_19 (q := 495) dL_isPart_493 (by decide) rfl rfl ?_
        refine ez_iload (q := 497) dL_isPart_495 rfl rfl ?_
        refine ez_iload (q := 499) dL_isPart_497 rfl rfl ?_
        refine ez_icmpne (q := 502) (tgt := 535) dL_isPart_499 (by decide) rfl (fun hc499 => absurd (congrArg nI hset) hc499) (fun hc499 => ?_)
        refine ez_iload (q := 504) dL_isPart_502 rfl rfl ?_
        refine ez_iload (q := 506) dL_isPart_504 rfl rfl ?_
        refine ez_icmpne (q := 509) (tgt := 535) dL_isPart_506 (by decide) rfl (fun hc506 => absurd (congrArg nI hle) hc506) (fun hc506 => ?_)
        refine ez_iload (q := 511) dL_isPart_509 rfl rfl ?_
        refine ez_ifltN (q := 514) (tgt := 535) dL_isPart_511 (by decide) (by omega) rfl ?_
        refine ez_iload (q := 516) dL_isPart_514 rfl rfl ?_
        refine ez_bipush (v := nI 20) (q := 518) dL_isPart_516 (by decide) rfl ?_
        refine ez_icmpgtN (q := 521) (tgt := 535) dL_isPart_518 (by decide) (by omega) (by omega) rfl (fun hc518 => absurd hr20 (by omega)) (fun hc518 => ?_)
        refine ez_iload (q := 523) dL_isPart_521 rfl rfl ?_
        refine ez_ifneN (q := 526) (tgt := 531) dL_isPart_523 (by decide) (by decide) rfl (fun hc523 => ?_) (fun hc523 => ?_)
        · first
          | exact absurd hc523 (by decide)
          | skip
            refine ez_iconst (v := nI 1) (q := 532) dL_isPart_531 (by decide) rfl ?_
            refine ez_goto (q := 536) dL_isPart_532 (by decide) ?_
            exact ez_zret dL_isPart_536 rfl rfl (hQ _ hI)
        · first
          | exact absurd hc523 (by decide)
          | skip
            refine ez_iload (q := 528) dL_isPart_526 rfl rfl ?_
            refine ez_ifneN (q := 531) (tgt := 535) dL_isPart_528 (by decide) (by omega) rfl (fun hc528 => absurd (by first | exact hrz | exact hro0 hc485) hc528) (fun hc528 => ?_)
            refine ez_iconst (v := nI 1) (q := 532) dL_isPart_531 (by decide) rfl ?_
            refine ez_goto (q := 536) dL_isPart_532 (by decide) ?_
            exact ez_zret dL_isPart_536 rfl rfl (hQ _ hI)

