set_option maxHeartbeats 800000 in
set_option maxRecDepth 100000 in
theorem c_L_cell {G : ez_G} {d n : Nat} {h : ez_H} {N : Nat} {sc : Nat → Int32} {k : Nat} (hG : ez_N G = N ∧ ez_sc G = sc) (hN : N ≤ 260) (hk : k < 2 ^ 31) : Con G mL_cell (d) [.ref 0, .int (nI k)] h n 0 0 (PU h n (some (.int (clV N sc k)))) := by
  refine Con.of [some (.ref 0), some (.int (nI k))] pl_L rfl (Nat.le_of_ble_eq_true rfl) rfl ?_
  have hQ : (PU h n (some (.int (clV N sc k)))) (.inl (some (.int (clV N sc k)))) h n := ⟨rfl, rfl, rfl⟩
  generalize PU h n (some (.int (clV N sc k))) = Q at hQ ⊢
  refine ez_iload_n (q := 1) 1 dL_cell_0 rfl rfl rfl ?_
  refine ez_aload_n (q := 2) 0 dL_cell_1 rfl rfl rfl ?_
  refine ez_slen (q := 3) dL_cell_2 hG.1 rfl ?_
  refine ez_icmpgeN (q := 6) (tgt := 12) dL_cell_3 (by decide) (by omega) (by omega) rfl (fun hc3 => ?_) (fun hc3 => ?_)
  · rw [clV, if_neg (by omega)] at hQ
    refine ez_ldc (q := 14) dL_cell_12 ct_L_7 rfl ?_
    refine ez_iload_n (q := 15) 1 dL_cell_14 rfl rfl rfl ?_
    refine ez_imul (q := 16) dL_cell_15 rfl ?_
    refine ez_ldc (q := 18) dL_cell_16 ct_L_8 rfl ?_
    refine ez_iadd (q := 19) dL_cell_18 rfl ?_
    exact ez_iret dL_cell_19 rfl (hQ)
  · rw [clV, if_pos (by omega)] at hQ
    refine ez_aload_n (q := 7) 0 dL_cell_6 rfl rfl rfl ?_
    refine ez_iload_n (q := 8) 1 dL_cell_7 rfl rfl rfl ?_
    refine ez_sald (q := 9) dL_cell_8 hG rfl (by omega) (by omega) rfl ?_
    refine ez_goto (q := 19) dL_cell_9 (by decide) ?_
    exact ez_iret dL_cell_19 rfl (hQ)

set_option maxHeartbeats 800000 in
set_option maxRecDepth 100000 in
theorem c_L_low {G : ez_G} {d n : Nat} {h : ez_H} {v : Int32} {m : Nat} (hm : 0 < m) (hm2 : m < 2 ^ 31) : Con G mL_low (d) [.int v, .int (nI m)] h n 0 0 (PU h n (some (.int (nI (lwN v m))))) := by
  refine Con.of [some (.int v), some (.int (nI m))] pl_L rfl (Nat.le_of_ble_eq_true rfl) rfl ?_
  have hQ : (PU h n (some (.int (nI (lwN v m))))) (.inl (some (.int (nI (lwN v m))))) h n := ⟨rfl, rfl, rfl⟩
  generalize PU h n (some (.int (nI (lwN v m)))) = Q at hQ ⊢
  refine ez_iload_n (q := 1) 0 dL_low_0 rfl rfl rfl ?_
  refine ez_ldc (q := 3) dL_low_1 ct_L_9 rfl ?_
  refine ez_iand (q := 4) dL_low_3 rfl ?_
  refine ez_top (lw_31 v) ?_
  refine ez_iload_n (q := 5) 1 dL_low_4 rfl rfl rfl ?_
  refine ez_iremN (q := 6) dL_low_5 (lwB_lt v) (by omega) (by omega) rfl ?_
  exact ez_iret dL_low_6 rfl (hQ)

set_option maxHeartbeats 800000 in
set_option maxRecDepth 100000 in
theorem c_L_sign {G : ez_G} {d n : Nat} {h : ez_H} {v : Int32} {l w : Nat} (hwl : w ≤ l) (hl : l < 1000) : Con G mL_sign (d + 1) [.int v, .int (nI l), .int (nI w)] h n 0 0 (PE n nI (fun c g => g = h ∧ (((97 ≤ c ∧ c ≤ 100) ∨ c = 116) ∨ (2 ≤ l - w ∧ (c = 33 ∨ c = 38 ∨ c = 124 ∨ c = 69 ∨ c = 65))))) := by
  have hk := lwN_lt v (m := 16) (by decide)
  have hk4 := lwN_lt (v >>> (nI 4 &&& 31)) (m := 4) (by decide)
  refine Con.of [some (.int v), some (.int (nI l)), some (.int (nI w)), none, none] pl_L rfl (Nat.le_of_ble_eq_true rfl) rfl ?_
  have hQ : ∀ c, (((97 ≤ c ∧ c ≤ 100) ∨ c = 116) ∨ (2 ≤ l - w ∧ (c = 33 ∨ c = 38 ∨ c = 124 ∨ c = 69 ∨ c = 65))) → (PE n nI (fun c g => g = h ∧ (((97 ≤ c ∧ c ≤ 100) ∨ c = 116) ∨ (2 ≤ l - w ∧ (c = 33 ∨ c = 38 ∨ c = 124 ∨ c = 69 ∨ c = 65))))) (.inl (some (.int (nI c)))) h n := fun c h1 => ⟨c, rfl, ⟨rfl, h1⟩, rfl⟩
  generalize PE n nI (fun c g => g = h ∧ (((97 ≤ c ∧ c ≤ 100) ∨ c = 116) ∨ (2 ≤ l - w ∧ (c = 33 ∨ c = 38 ∨ c = 124 ∨ c = 69 ∨ c = 65)))) = Q at hQ ⊢
  refine ez_iload_n (q := 1) 0 dL_sign_0 rfl rfl rfl ?_
  refine ez_bipush (v := nI 16) (q := 3) dL_sign_1 (by decide) rfl ?_
  refine cUv (q := 6) dL_sign_3 ck_L_10 (c_L_low (by omega) (by omega)) rfl rfl rfl (Nat.le_of_ble_eq_true rfl) rfl ?_
  refine ez_istore_3 (q := 7) dL_sign_6 rfl (by decide) rfl rfl ?_
  refine ez_iload_n (q := 8) 1 dL_sign_7 rfl rfl rfl ?_
  refine ez_iload_n (q := 9) 2 dL_sign_8 rfl rfl rfl ?_
  refine ez_isubN (q := 10) dL_sign_9 (by omega) rfl ?_
  refine ez_istore_4 (q := 12) dL_sign_10 (by decide) rfl rfl ?_
  refine ez_iload (q := 14) dL_sign_12 rfl rfl ?_
  refine ez_iconst (v := nI 2) (q := 15) dL_sign_14 (by decide) rfl ?_
  refine ez_icmpltN (q := 18) (tgt := 23) dL_sign_15 (by decide) (by omega) (by omega) rfl (fun hc15 => ?_) (fun hc15 => ?_)
  · refine ez_iload_n (q := 24) 3 dL_sign_23 rfl rfl rfl ?_
    refine ez_iconst (v := nI 5) (q := 25) dL_sign_24 (by decide) rfl ?_
    refine ez_iremN (q := 26) dL_sign_25 (by omega) (by omega) (by omega) rfl ?_
    refine ez_iconst (v := nI 4) (q := 27) dL_sign_26 (by decide) rfl ?_
    refine ez_icmpneN (q := 30) (tgt := 35) dL_sign_27 (by decide) (by omega) (by omega) rfl (fun hc27 => ?_) (fun hc27 => ?_)
    · refine ez_bipush (v := nI 97) (q := 37) dL_sign_35 (by decide) rfl ?_
      refine ez_iload_n (q := 38) 0 dL_sign_37 rfl rfl rfl ?_
      refine ez_iconst (v := nI 4) (q := 39) dL_sign_38 (by decide) rfl ?_
      refine ez_ishr (q := 40) dL_sign_39 rfl ?_
      refine ez_iconst (v := nI 4) (q := 41) dL_sign_40 (by decide) rfl ?_
      refine cUv (q := 44) dL_sign_41 ck_L_10 (c_L_low (by omega) (by omega)) rfl rfl rfl (Nat.le_of_ble_eq_true rfl) rfl ?_
      refine ez_iaddN (q := 45) dL_sign_44 rfl ?_
      exact ez_iret dL_sign_45 rfl (hQ _ (by omega))
    · refine ez_bipush (v := nI 116) (q := 32) dL_sign_30 (by decide) rfl ?_
      refine ez_goto (q := 45) dL_sign_32 (by decide) ?_
      exact ez_iret dL_sign_45 rfl (hQ _ (by omega))
  · refine ez_iload_n (q := 19) 3 dL_sign_18 rfl rfl rfl ?_
    refine ez_iconst (v := nI 3) (q := 20) dL_sign_19 (by decide) rfl ?_
    refine ez_icmpgeN (q := 23) (tgt := 46) dL_sign_20 (by decide) (by omega) (by omega) rfl (fun hc20 => ?_) (fun hc20 => ?_)
    · refine ez_iload_n (q := 47) 3 dL_sign_46 rfl rfl rfl ?_
      refine ez_bipush (v := nI 6) (q := 49) dL_sign_47 (by decide) rfl ?_
      refine ez_icmpgeN (q := 52) (tgt := 57) dL_sign_49 (by decide) (by omega) (by omega) rfl (fun hc49 => ?_) (fun hc49 => ?_)
      · refine ez_iload_n (q := 58) 3 dL_sign_57 rfl rfl rfl ?_
        refine ez_bipush (v := nI 8) (q := 60) dL_sign_58 (by decide) rfl ?_
        refine ez_icmpgeN (q := 63) (tgt := 68) dL_sign_60 (by decide) (by omega) (by omega) rfl (fun hc60 => ?_) (fun hc60 => ?_)
        · refine ez_iload_n (q := 69) 3 dL_sign_68 rfl rfl rfl ?_
          refine ez_bipush (v := nI 9) (q := 71) dL_sign_69 (by decide) rfl ?_
          refine ez_icmpgeN (q := 74) (tgt := 79) dL_sign_71 (by decide) (by omega) (by omega) rfl (fun hc71 => ?_) (fun hc71 => ?_)
          · refine ez_iload_n (q := 80) 3 dL_sign_79 rfl rfl rfl ?_
            refine ez_bipush (v := nI 13) (q := 82) dL_sign_80 (by decide) rfl ?_
            refine ez_icmpgeN (q := 85) (tgt := 90) dL_sign_82 (by decide) (by omega) (by omega) rfl (fun hc82 => ?_) (fun hc82 => ?_)
            · refine ez_bipush (v := nI 65) (q := 92) dL_sign_90 (by decide) rfl ?_
              exact ez_iret dL_sign_92 rfl (hQ _ (by omega))
            · refine ez_bipush (v := nI 69) (q := 87) dL_sign_85 (by decide) rfl ?_
              refine ez_goto (q := 92) dL_sign_87 (by decide) ?_
              exact ez_iret dL_sign_92 rfl (hQ _ (by omega))
          · refine ez_bipush (v := nI 124) (q := 76) dL_sign_74 (by decide) rfl ?_
            refine ez_goto (q := 92) dL_sign_76 (by decide) ?_
            exact ez_iret dL_sign_92 rfl (hQ _ (by omega))
        · refine ez_bipush (v := nI 38) (q := 65) dL_sign_63 (by decide) rfl ?_
          refine ez_goto (q := 92) dL_sign_65 (by decide) ?_
          exact ez_iret dL_sign_92 rfl (hQ _ (by omega))
      · refine ez_bipush (v := nI 33) (q := 54) dL_sign_52 (by decide) rfl ?_
        refine ez_goto (q := 92) dL_sign_54 (by decide) ?_
        exact ez_iret dL_sign_92 rfl (hQ _ (by omega))
    · refine ez_iload_n (q := 24) 3 dL_sign_23 rfl rfl rfl ?_
      refine ez_iconst (v := nI 5) (q := 25) dL_sign_24 (by decide) rfl ?_
      refine ez_iremN (q := 26) dL_sign_25 (by omega) (by omega) (by omega) rfl ?_
      refine ez_iconst (v := nI 4) (q := 27) dL_sign_26 (by decide) rfl ?_
      refine ez_icmpneN (q := 30) (tgt := 35) dL_sign_27 (by decide) (by omega) (by omega) rfl (fun hc27 => ?_) (fun hc27 => ?_)
      · refine ez_bipush (v := nI 97) (q := 37) dL_sign_35 (by decide) rfl ?_
        refine ez_iload_n (q := 38) 0 dL_sign_37 rfl rfl rfl ?_
        refine ez_iconst (v := nI 4) (q := 39) dL_sign_38 (by decide) rfl ?_
        refine ez_ishr (q := 40) dL_sign_39 rfl ?_
        refine ez_iconst (v := nI 4) (q := 41) dL_sign_40 (by decide) rfl ?_
        refine cUv (q := 44) dL_sign_41 ck_L_10 (c_L_low (by omega) (by omega)) rfl rfl rfl (Nat.le_of_ble_eq_true rfl) rfl ?_
        refine ez_iaddN (q := 45) dL_sign_44 rfl ?_
        exact ez_iret dL_sign_45 rfl (hQ _ (by omega))
      · refine ez_bipush (v := nI 116) (q := 32) dL_sign_30 (by decide) rfl ?_
        refine ez_goto (q := 45) dL_sign_32 (by decide) ?_
        exact ez_iret dL_sign_45 rfl (hQ _ (by omega))

set_option maxHeartbeats 800000 in
set_option maxRecDepth 100000 in
theorem c_L_way {G : ez_G} {d n : Nat} {h : ez_H} {v : Int32} {l w : Nat} (hwl : w ≤ l) (hl : l < 1000) : Con G mL_way (d + 1) [.int v, .int (nI l), .int (nI w)] h n 0 0 (PE n nI (fun c g => g = h ∧ (c = 88 ∨ c = 70 ∨ c = 71 ∨ (c = 85 ∧ 2 ≤ l - w)))) := by
  have hk := lwN_lt v (m := 4) (by decide)
  refine Con.of [some (.int v), some (.int (nI l)), some (.int (nI w)), none] pl_L rfl (Nat.le_of_ble_eq_true rfl) rfl ?_
  have hQ : ∀ c, (c = 88 ∨ c = 70 ∨ c = 71 ∨ (c = 85 ∧ 2 ≤ l - w)) → (PE n nI (fun c g => g = h ∧ (c = 88 ∨ c = 70 ∨ c = 71 ∨ (c = 85 ∧ 2 ≤ l - w)))) (.inl (some (.int (nI c)))) h n := fun c h1 => ⟨c, rfl, ⟨rfl, h1⟩, rfl⟩
  generalize PE n nI (fun c g => g = h ∧ (c = 88 ∨ c = 70 ∨ c = 71 ∨ (c = 85 ∧ 2 ≤ l - w))) = Q at hQ ⊢
  refine ez_iload_n (q := 1) 0 dL_way_0 rfl rfl rfl ?_
  refine ez_iconst (v := nI 4) (q := 2) dL_way_1 (by decide) rfl ?_
  refine cUv (q := 5) dL_way_2 ck_L_10 (c_L_low (by omega) (by omega)) rfl rfl rfl (Nat.le_of_ble_eq_true rfl) rfl ?_
  refine ez_istore_3 (q := 6) dL_way_5 rfl (by decide) rfl rfl ?_
  refine ez_iload_n (q := 7) 3 dL_way_6 rfl rfl rfl ?_
  refine ez_ifneN (q := 10) (tgt := 15) dL_way_7 (by decide) (by omega) rfl (fun hc7 => ?_) (fun hc7 => ?_)
  · refine ez_iload_n (q := 16) 3 dL_way_15 rfl rfl rfl ?_
    refine ez_iconst (v := nI 1) (q := 17) dL_way_16 (by decide) rfl ?_
    refine ez_icmpneN (q := 20) (tgt := 25) dL_way_17 (by decide) (by omega) (by omega) rfl (fun hc17 => ?_) (fun hc17 => ?_)
    · refine ez_iload_n (q := 26) 3 dL_way_25 rfl rfl rfl ?_
      refine ez_iconst (v := nI 2) (q := 27) dL_way_26 (by decide) rfl ?_
      refine ez_icmpneN (q := 30) (tgt := 35) dL_way_27 (by decide) (by omega) (by omega) rfl (fun hc27 => ?_) (fun hc27 => ?_)
      · refine ez_iload_n (q := 36) 1 dL_way_35 rfl rfl rfl ?_
        refine ez_iload_n (q := 37) 2 dL_way_36 rfl rfl rfl ?_
        refine ez_isubN (q := 38) dL_way_37 (by omega) rfl ?_
        refine ez_iconst (v := nI 2) (q := 39) dL_way_38 (by decide) rfl ?_
        refine ez_icmpgeN (q := 42) (tgt := 47) dL_way_39 (by decide) (by omega) (by omega) rfl (fun hc39 => ?_) (fun hc39 => ?_)
        · refine ez_bipush (v := nI 85) (q := 49) dL_way_47 (by decide) rfl ?_
          exact ez_iret dL_way_49 rfl (hQ _ (by omega))
        · refine ez_bipush (v := nI 71) (q := 44) dL_way_42 (by decide) rfl ?_
          refine ez_goto (q := 49) dL_way_44 (by decide) ?_
          exact ez_iret dL_way_49 rfl (hQ _ (by omega))
      · refine ez_bipush (v := nI 71) (q := 32) dL_way_30 (by decide) rfl ?_
        refine ez_goto (q := 49) dL_way_32 (by decide) ?_
        exact ez_iret dL_way_49 rfl (hQ _ (by omega))
    · refine ez_bipush (v := nI 70) (q := 22) dL_way_20 (by decide) rfl ?_
      refine ez_goto (q := 49) dL_way_22 (by decide) ?_
      exact ez_iret dL_way_49 rfl (hQ _ (by omega))
  · refine ez_bipush (v := nI 88) (q := 12) dL_way_10 (by decide) rfl ?_
    refine ez_goto (q := 49) dL_way_12 (by decide) ?_
    exact ez_iret dL_way_49 rfl (hQ _ (by omega))

