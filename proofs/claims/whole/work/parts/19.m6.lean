theorem rd_le (b : Nat → Nat) (t : Nat) : ∀ u k q, k + u = t → (rdN b t u k q).1 ≤ t := by
  intro u
  induction u with
  | zero => intro k q _; exact Nat.le_refl _
  | succ u ih =>
    intro k q h
    rw [rdN]
    split
    · show k ≤ t; omega
    · rename_i p hp
      by_cases hc : 40 < k + 1 + p.1 + (if p.2 then 1 else 0)
      · rw [if_pos hc]; show k ≤ t; omega
      · rw [if_neg hc]; exact ih _ _ (by omega)
theorem rdR_le (b : Nat → Nat) (t : Nat) : (rdR b t).1 ≤ t := rd_le b t t 0 _ (Nat.zero_add t)
/-- what is open stays small -/
theorem stp_le {q p : Nat × Bool} {c : Nat} (h : stp q c = some p) : p.1 ≤ q.1 + 1 := by
  obtain ⟨o, y⟩ := q
  cases y with
  | true => rw [stp_tv h]; show (if c = 85 then o + 1 else o) ≤ o + 1; split <;> omega
  | false =>
    obtain ⟨_, h2, _⟩ := stp_fv h
    rw [h2]
    show _ ≤ o + 1
    split
    · omega
    · split <;> omega
set_option maxHeartbeats 800000 in
set_option maxRecDepth 100000 in
theorem t_X8_readBuffer {G : ez_G} {d n : Nat} {h : ez_H} {t : Nat} {b : Nat → Nat} {th sm rd wa rm fm ff : Int32} {z sv bf se ro le de rw sp : Nat → Int32} {ww : Bool} {ha : Int64} (hM : IM h h th z sv sm bf (nI t) rd se ro le de wa ww rw rm sp fm ff ha) (hb : BB bf t b) : Con G mX8_readBuffer (d + 2) [.ref 64] h n 0 0 (PW n (some (.int (nI (rdR b t).1))) (fun g => ∃ (x : Int32) (y : Bool), IM h g th z sv sm bf (nI t) rd se ro le de x y rw rm sp fm ff ha ∧ ((rdR b t).1 = t → x = nI (rdR b t).2.1 ∧ y = (rdR b t).2.2))) := by
  have ht := hb.1
  refine Con.of [some (.ref 64), none] pl_X8 rfl (Nat.le_of_ble_eq_true rfl) rfl ?_
  have hQ : ∀ g (x : Int32) (y : Bool), IM h g th z sv sm bf (nI t) rd se ro le de x y rw rm sp fm ff ha → ((rdR b t).1 = t → x = nI (rdR b t).2.1 ∧ y = (rdR b t).2.2) → (PW n (some (.int (nI (rdR b t).1))) (fun g => ∃ (x : Int32) (y : Bool), IM h g th z sv sm bf (nI t) rd se ro le de x y rw rm sp fm ff ha ∧ ((rdR b t).1 = t → x = nI (rdR b t).2.1 ∧ y = (rdR b t).2.2))) (.inl (some (.int (nI (rdR b t).1)))) g n := fun g x y hM hx => ⟨rfl, ⟨x, y, hM, hx⟩, rfl⟩
  generalize PW n (some (.int (nI (rdR b t).1))) (fun g => ∃ (x : Int32) (y : Bool), IM h g th z sv sm bf (nI t) rd se ro le de x y rw rm sp fm ff ha ∧ ((rdR b t).1 = t → x = nI (rdR b t).2.1 ∧ y = (rdR b t).2.2)) = Q at hQ ⊢
  refine ez_aload_n (q := 1) 0 dX8_readBuffer_0 rfl rfl rfl ?_
  refine ez_iconst (v := nI 1) (q := 2) dX8_readBuffer_1 (by decide) rfl ?_
  refine pM_wa (q := 5) dX8_readBuffer_2 fl_X8_125 hM rfl (fun g hM => ?_)
  refine ez_aload_n (q := 6) 0 dX8_readBuffer_5 rfl rfl rfl ?_
  refine ez_iconst (v := nI 0) (q := 7) dX8_readBuffer_6 (by decide) rfl ?_
  refine ez_top (show nI 0 = bI false from rfl) ?_
  refine pM_ww (q := 10) dX8_readBuffer_7 fl_X8_121 hM rfl (fun g hM => ?_)
  refine ez_iconst (v := nI 0) (q := 11) dX8_readBuffer_10 (by decide) rfl ?_
  refine ez_istore_1 (q := 12) dX8_readBuffer_11 rfl (by decide) rfl rfl ?_
  refine ez_loop (α := Nat) (fun k => t - k) (P := fun k => ∀ (g : ez_H) (o : Nat) (y : Bool), IM h g th z sv sm bf (nI t) rd se ro le de (nI o) y rw rm sp fm ff ha → (k ≤ t) → (rdN b t (t - k) k (o, y) = rdR b t) → (o ≤ k + 1) → E G mX8_readBuffer (d + 2) Q g n 0 0 12 [some (.ref 64), some (.int (nI k))] []) ?_ 0 g 1 false hM (Nat.zero_le t) rfl (Nat.le_refl 1)
  intro k ih12 g o y hM hk hr ho
  refine ez_iload_n (q := 13) 1 dX8_readBuffer_12 rfl rfl rfl ?_
  refine ez_aload_n (q := 14) 0 dX8_readBuffer_13 rfl rfl rfl ?_
  refine ez_getf (q := 17) dX8_readBuffer_14 fl_X8_118 hM.1 rfl rfl ?_
  refine ez_icmpgeN (q := 20) (tgt := 67) dX8_readBuffer_17 (by decide) (by omega) (by omega) rfl (fun hc17 => ?_) (fun hc17 => ?_)
  · have ek : k = t := by omega
    subst ek
    rw [Nat.sub_self, rdN] at hr
    refine ez_aload_n (q := 68) 0 dX8_readBuffer_67 rfl rfl rfl ?_
    refine ez_getf (q := 71) dX8_readBuffer_68 fl_X8_118 hM.1 rfl rfl ?_
    exact ez_iret dX8_readBuffer_71 rfl (by rw [← hr] at hQ; exact hQ _ _ _ hM (fun _ => ⟨rfl, rfl⟩))
  · refine ez_aload_n (q := 21) 0 dX8_readBuffer_20 rfl rfl rfl ?_
    refine ez_aload_n (q := 22) 0 dX8_readBuffer_21 rfl rfl rfl ?_
    refine ez_getf (q := 25) dX8_readBuffer_22 fl_X8_16 hM.1 rfl rfl ?_
    refine ez_iload_n (q := 26) 1 dX8_readBuffer_25 rfl rfl rfl ?_
    refine ez_iald (q := 27) dX8_readBuffer_26 hM.2.2.2.1 rfl (by omega) (by decide) rfl ?_
    refine ez_top ((hb.2 k hc17).1) ?_
    refine cXv (q := 30) dX8_readBuffer_27 ck_X8_128 hM.1 (t_X8_stands hM.rb (hb.2 k hc17).2 (by omega)) rfl ⟨by decide, rfl⟩ rfl rfl rfl (Nat.le_of_ble_eq_true rfl) rfl (fun g hW => ?_)
    obtain ⟨wa', ww', hM2, hx⟩ := hW
    have hM := hM.tr hM2
    refine ez_ifeqB (q := 33) (tgt := 59) dX8_readBuffer_30 (by decide) rfl (fun hc30 => ?_) (fun hc30 => ?_)
    · have hno : stp (o, y) (b k) = none := Option.not_isSome_iff_eq_none.mp (by rw [hc30]; exact Bool.false_ne_true)
      refine ez_iload_n (q := 60) 1 dX8_readBuffer_59 rfl rfl rfl ?_
      exact ez_iret dX8_readBuffer_60 rfl (by have e : rdR b t = (k, (o, y)) := by { rw [← hr, show t - k = (t - (k + 1)) + 1 by omega, rdN]; first | (rw [hno]; first | done | rfl) | (rw [hq3]; dsimp only; rw [if_pos (by first | (rw [hc45, if_pos rfl]; omega) | (rw [hc45, if_neg Bool.false_ne_true]; omega))]) }; rw [e] at hQ; exact hQ _ _ _ hM (fun h => by dsimp only at h; omega))
    · obtain ⟨⟨o2, y2⟩, hq3⟩ := Option.isSome_iff_exists.mp hc30
      obtain ⟨rfl, rfl⟩ := hx _ hq3
      have ho2 := stp_le hq3
      dsimp only at ho2 hM
      have hr3 := hr
      refine ez_iload_n (q := 34) 1 dX8_readBuffer_33 rfl rfl rfl ?_
      refine ez_iconst (v := nI 1) (q := 35) dX8_readBuffer_34 (by decide) rfl ?_
      refine ez_iaddN (q := 36) dX8_readBuffer_35 rfl ?_
      refine ez_aload_n (q := 37) 0 dX8_readBuffer_36 rfl rfl rfl ?_
      refine ez_getf (q := 40) dX8_readBuffer_37 fl_X8_125 hM.1 rfl rfl ?_
      refine ez_iaddN (q := 41) dX8_readBuffer_40 rfl ?_
      refine ez_aload_n (q := 42) 0 dX8_readBuffer_41 rfl rfl rfl ?_
      refine ez_getf (q := 45) dX8_readBuffer_42 fl_X8_121 hM.1 rfl rfl ?_
      refine ez_ifeqB (q := 48) (tgt := 52) dX8_readBuffer_45 (by decide) rfl (fun hc45 => ?_) (fun hc45 => ?_)
      · refine ez_iconst (v := nI 0) (q := 53) dX8_readBuffer_52 (by decide) rfl ?_
        refine ez_iaddN (q := 54) dX8_readBuffer_53 rfl ?_
        refine ez_bipush (v := nI 40) (q := 56) dX8_readBuffer_54 (by decide) rfl ?_
        refine ez_icmpleN (q := 59) (tgt := 61) dX8_readBuffer_56 (by decide) (by omega) (by decide) rfl (fun hc56 => ?_) (fun hc56 => ?_)
        · refine ez_iincN_1 (q := 64) dX8_readBuffer_61 (by decide) rfl rfl ?_
          refine ez_goto (q := 12) dX8_readBuffer_64 (by decide) ?_
          exact E.fg (ih12 (k + 1) (by omega) g _ _ hM (by omega) (by rw [← hr3, show t - k = (t - (k + 1)) + 1 by omega, rdN, hq3]; dsimp only; rw [if_neg (by first | (rw [hc45, if_pos rfl]; omega) | (rw [hc45, if_neg Bool.false_ne_true]; omega))]) (by have := stp_le hq3; dsimp only at this; omega)) ⟨Or.inr (rfl), Or.inr (rfl), trivial⟩
        · refine ez_iload_n (q := 60) 1 dX8_readBuffer_59 rfl rfl rfl ?_
          exact ez_iret dX8_readBuffer_60 rfl (by have e : rdR b t = (k, (o, y)) := by { rw [← hr, show t - k = (t - (k + 1)) + 1 by omega, rdN]; first | (rw [hno]; first | done | rfl) | (rw [hq3]; dsimp only; rw [if_pos (by first | (rw [hc45, if_pos rfl]; omega) | (rw [hc45, if_neg Bool.false_ne_true]; omega))]) }; rw [e] at hQ; exact hQ _ _ _ hM (fun h => by dsimp only at h; omega))
      · refine ez_iconst (v := nI 1) (q := 49) dX8_readBuffer_48 (by decide) rfl ?_
        refine ez_goto (q := 53) dX8_readBuffer_49 (by decide) ?_
        refine ez_iaddN (q := 54) dX8_readBuffer_53 rfl ?_
        refine ez_bipush (v := nI 40) (q := 56) dX8_readBuffer_54 (by decide) rfl ?_
        refine ez_icmpleN (q := 59) (tgt := 61) dX8_readBuffer_56 (by decide) (by omega) (by decide) rfl (fun hc56 => ?_) (fun hc56 => ?_)
        · refine ez_iincN_1 (q := 64) dX8_readBuffer_61 (by decide) rfl rfl ?_
          refine ez_goto (q := 12) dX8_readBuffer_64 (by decide) ?_
          exact E.fg (ih12 (k + 1) (by omega) g _ _ hM (by omega) (by rw [← hr3, show t - k = (t - (k + 1)) + 1 by omega, rdN, hq3]; dsimp only; rw [if_neg (by first | (rw [hc45, if_pos rfl]; omega) | (rw [hc45, if_neg Bool.false_ne_true]; omega))]) (by have := stp_le hq3; dsimp only at this; omega)) ⟨Or.inr (rfl), Or.inr (rfl), trivial⟩
        · refine ez_iload_n (q := 60) 1 dX8_readBuffer_59 rfl rfl rfl ?_
          exact ez_iret dX8_readBuffer_60 rfl (by have e : rdR b t = (k, (o, y)) := by { rw [← hr, show t - k = (t - (k + 1)) + 1 by omega, rdN]; first | (rw [hno]; first | done | rfl) | (rw [hq3]; dsimp only; rw [if_pos (by first | (rw [hc45, if_pos rfl]; omega) | (rw [hc45, if_neg Bool.false_ne_true]; omega))]) }; rw [e] at hQ; exact hQ _ _ _ hM (fun h => by dsimp only at h; omega))

set_option maxHeartbeats 800000 in
set_option maxRecDepth 100000 in
theorem t_X8_firstError {G : ez_G} {d n : Nat} {h : ez_H} {t : Nat} {b : Nat → Nat} {th sm rd wa rm fm ff : Int32} {z sv bf se ro le de rw sp : Nat → Int32} {ww : Bool} {ha : Int64} (hM : IM h h th z sv sm bf (nI t) rd se ro le de wa ww rw rm sp fm ff ha) (hb : BB bf t b) : Con G mX8_firstError (d + 3) [.ref 64] h n 0 0 (PW n (some (.int (nI (rdR b t).1))) (fun g => ∃ (x : Int32) (y : Bool), IM h g (nI 0) z sv sm bf (nI t) rd se ro le de x y rw rm sp fm ff ha)) := by
  refine Con.of [some (.ref 64)] pl_X8 rfl (Nat.le_of_ble_eq_true rfl) rfl ?_
  have hQ : ∀ g (x : Int32) (y : Bool), IM h g (nI 0) z sv sm bf (nI t) rd se ro le de x y rw rm sp fm ff ha → (PW n (some (.int (nI (rdR b t).1))) (fun g => ∃ (x : Int32) (y : Bool), IM h g (nI 0) z sv sm bf (nI t) rd se ro le de x y rw rm sp fm ff ha)) (.inl (some (.int (nI (rdR b t).1)))) g n := fun g x y hM => ⟨rfl, ⟨x, y, hM⟩, rfl⟩
  generalize PW n (some (.int (nI (rdR b t).1))) (fun g => ∃ (x : Int32) (y : Bool), IM h g (nI 0) z sv sm bf (nI t) rd se ro le de x y rw rm sp fm ff ha) = Q at hQ ⊢
  refine ez_aload_n (q := 1) 0 dX8_firstError_0 rfl rfl rfl ?_
  refine ez_iconst (v := nI 0) (q := 2) dX8_firstError_1 (by decide) rfl ?_
  refine pM_th (q := 5) dX8_firstError_2 fl_X8_37 hM rfl (fun g hM => ?_)
  refine ez_aload_n (q := 6) 0 dX8_firstError_5 rfl rfl rfl ?_
  refine cXv (q := 9) dX8_firstError_6 ck_X8_131 hM.1 (t_X8_readBuffer hM.rb hb) rfl ⟨by decide, rfl⟩ rfl rfl rfl (Nat.le_of_ble_eq_true rfl) rfl (fun g hW => ?_)
  obtain ⟨wa', ww', hM2, hx⟩ := hW
  have hM := hM.tr hM2
  exact ez_iret dX8_firstError_9 rfl (hQ _ _ _ hM)

def whoB (b : Nat → Nat) (t : Nat) : Bool := decide ((rdR b t).1 = t ∧ (rdR b t).2.1 = 0)
theorem rdR_b (b : Nat → Nat) (t : Nat) : (rdR b t).2.1 ≤ t + 1 := by
  have h : ∀ u k q, k + u = t → q.1 ≤ k + 1 → (rdN b t u k q).2.1 ≤ t + 1 := by
    intro u
    induction u with
    | zero => intro k q h1 h2; show q.1 ≤ _; omega
    | succ u ih =>
      intro k q h1 h2
      rw [rdN]
      split
      · show q.1 ≤ _; omega
      · rename_i p hp
        by_cases hc : 40 < k + 1 + p.1 + (if p.2 then 1 else 0)
        · rw [if_pos hc]; show q.1 ≤ _; omega
        · rw [if_neg hc]; exact ih _ _ (by omega) (by have := stp_le hp; omega)
  exact h t 0 _ (Nat.zero_add t) (Nat.le_refl _)
set_option maxHeartbeats 800000 in
set_option maxRecDepth 100000 in
theorem t_X8_isWhole {G : ez_G} {d n : Nat} {h : ez_H} {t : Nat} {b : Nat → Nat} {th sm rd wa rm fm ff : Int32} {z sv bf se ro le de rw sp : Nat → Int32} {ww : Bool} {ha : Int64} (hM : IM h h th z sv sm bf (nI t) rd se ro le de wa ww rw rm sp fm ff ha) (hb : BB bf t b) : Con G mX8_isWhole (d + 3) [.ref 64] h n 0 0 (PW n (some (.int (bI (whoB b t)))) (fun g => ∃ (x : Int32) (y : Bool), IM h g th z sv sm bf (nI t) rd se ro le de x y rw rm sp fm ff ha)) := by
  have ht := hb.1
  have h1 := rdR_le b t
  have h2 := rdR_b b t
  refine Con.of [some (.ref 64)] pl_X8 rfl (Nat.le_of_ble_eq_true rfl) rfl ?_
  have hQ : ∀ g (x : Int32) (y : Bool), IM h g th z sv sm bf (nI t) rd se ro le de x y rw rm sp fm ff ha → (PW n (some (.int (bI (whoB b t)))) (fun g => ∃ (x : Int32) (y : Bool), IM h g th z sv sm bf (nI t) rd se ro le de x y rw rm sp fm ff ha)) (.inl (some (.int (bI (whoB b t))))) g n := fun g x y hM => ⟨rfl, ⟨x, y, hM⟩, rfl⟩
  generalize PW n (some (.int (bI (whoB b t)))) (fun g => ∃ (x : Int32) (y : Bool), IM h g th z sv sm bf (nI t) rd se ro le de x y rw rm sp fm ff ha) = Q at hQ ⊢
  refine ez_aload_n (q := 1) 0 dX8_isWhole_0 rfl rfl rfl ?_
  refine cXv (q := 4) dX8_isWhole_1 ck_X8_131 hM.1 (t_X8_readBuffer hM.rb hb) rfl ⟨by decide, rfl⟩ rfl rfl rfl (Nat.le_of_ble_eq_true rfl) rfl (fun g hW => ?_)
  obtain ⟨wa', ww', hM2, hx⟩ := hW
  have hM := hM.tr hM2
  refine ez_aload_n (q := 5) 0 dX8_isWhole_4 rfl rfl rfl ?_
  refine ez_getf (q := 8) dX8_isWhole_5 fl_X8_118 hM.1 rfl rfl ?_
  refine ez_icmpneN (q := 11) (tgt := 22) dX8_isWhole_8 (by decide) (by omega) (by omega) rfl (fun hc8 => ?_) (fun hc8 => ?_)
  · refine ez_iconst (v := nI 0) (q := 23) dX8_isWhole_22 (by decide) rfl ?_
    refine ez_top (show nI 0 = bI (whoB b t) from bI_df (by first | (rintro ⟨a, -⟩; exact hc8 a) | (rintro ⟨-, a⟩; exact hc15 a))) ?_
    exact ez_zretB dX8_isWhole_23 rfl (hQ _ _ _ hM)
  · refine ez_aload_n (q := 12) 0 dX8_isWhole_11 rfl rfl rfl ?_
    refine ez_getf (q := 15) dX8_isWhole_12 fl_X8_125 hM.1 rfl rfl ?_
    refine ez_top ((hx hc8).1) ?_
    refine ez_ifneN (q := 18) (tgt := 22) dX8_isWhole_15 (by decide) (by omega) rfl (fun hc15 => ?_) (fun hc15 => ?_)
    · refine ez_iconst (v := nI 0) (q := 23) dX8_isWhole_22 (by decide) rfl ?_
      refine ez_top (show nI 0 = bI (whoB b t) from bI_df (by first | (rintro ⟨a, -⟩; exact hc8 a) | (rintro ⟨-, a⟩; exact hc15 a))) ?_
      exact ez_zretB dX8_isWhole_23 rfl (hQ _ _ _ hM)
    · refine ez_iconst (v := nI 1) (q := 19) dX8_isWhole_18 (by decide) rfl ?_
      refine ez_top (show nI 1 = bI (whoB b t) from bI_dt ⟨hc8, hc15⟩) ?_
      refine ez_goto (q := 23) dX8_isWhole_19 (by decide) ?_
      exact ez_zretB dX8_isWhole_23 rfl (hQ _ _ _ hM)

