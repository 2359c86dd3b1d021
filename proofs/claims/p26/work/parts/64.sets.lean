theorem cm_0 {T : Nat → Nat} {n y g : Nat} : sbN g (laN T n y g 0) ∧ sbN (y &&& inN T (laN T n y g 0) n) (laN T n y g 0 ||| (y &&& inN T g n)) := ⟨sb_rf g, sb_of (fun i hi => by rw [Nat.testBit_or, Bool.or_eq_true]; exact Or.inr hi)⟩
section
variable {T : Nat → Nat} {n f : Nat} {L : Nat → Nat} {c y a b : Nat}
def duW (T : Nat → Nat) (n f : Nat) (L : Nat → Nat) (c y a b : Nat) : Nat := if c = 69 then someS T n f L y a b else evryS T n f L y a b
theorem nd_al {a l : Nat} (h : l < 2 ^ n) : ndN (2 ^ n - 1) a &&& l = ndN l a := by
  apply Nat.eq_of_testBit_eq
  intro i
  rw [Nat.testBit_and, ndN_bit, ndN_bit, Nat.testBit_two_pow_sub_one]
  cases hl : l.testBit i with
  | false => simp
  | true => rw [decide_eq_true (all_bit h hl).1]; simp
theorem du_E88 (h : c = 69) (h2 : y = 88) : duW T n f L c y a b = inN T (a &&& lvN T n f L) n := by subst h; subst h2; rw [duW, if_pos rfl, someS, if_pos rfl, Nat.and_comm]
theorem du_E70 (h : c = 69) (h2 : y = 70) : duW T n f L c y a b = unN T n (2 ^ n - 1) (a &&& lvN T n f L) := by subst h; subst h2; rw [duW, if_pos rfl, someS, if_neg (by decide), if_pos rfl, Nat.and_comm]
theorem du_E71 (h : c = 69) (h2 : y = 71) : duW T n f L c y a b = stN T n f L a := by subst h; subst h2; rw [duW, if_pos rfl, someS, if_neg (by decide), if_neg (by decide), if_pos rfl]
theorem du_E85 (h : c = 69) (h2 : y = 85) : duW T n f L c y a b = unN T n a (b &&& lvN T n f L) := by subst h; subst h2; rw [duW, if_pos rfl, someS, if_neg (by decide), if_neg (by decide), if_neg (by decide), Nat.and_comm]
theorem du_A88 (h : ¬ c = 69) (h2 : y = 88) : duW T n f L c y a b = ndN (2 ^ n - 1) (inN T (ndN (2 ^ n - 1) a &&& lvN T n f L) n) := by subst h2; rw [duW, if_neg h, evryS, if_pos rfl, nd_al (lvN_lt T n f L)]
theorem du_A70 (h : ¬ c = 69) (h2 : y = 70) : duW T n f L c y a b = ndN (2 ^ n - 1) (stN T n f L (ndN (2 ^ n - 1) a)) := by subst h2; rw [duW, if_neg h, evryS, if_neg (by decide), if_pos rfl]
theorem du_A71 (h : ¬ c = 69) (h2 : y = 71) : duW T n f L c y a b = ndN (2 ^ n - 1) (unN T n (2 ^ n - 1) (ndN (2 ^ n - 1) a &&& lvN T n f L)) := by subst h2; rw [duW, if_neg h, evryS, if_neg (by decide), if_neg (by decide), if_pos rfl, Nat.and_comm]
theorem du_A85 (h : ¬ c = 69) (h2 : y = 85) : duW T n f L c y a b = ndN (2 ^ n - 1) (unN T n (ndN (2 ^ n - 1) b) (ndN (2 ^ n - 1) a &&& ndN (2 ^ n - 1) b &&& lvN T n f L) ||| stN T n f L (ndN (2 ^ n - 1) b)) := by subst h2; rw [duW, if_neg h, evryS, if_neg (by decide), if_neg (by decide), if_neg (by decide), nd_nd, Nat.and_comm (lvN T n f L)]
end
set_option maxHeartbeats 800000 in
set_option maxRecDepth 100000 in
theorem c_L_into {G : ez_G} {d n : Nat} {h : ez_H} {n' f k t : Nat} {L T ln : Nat → Nat} {sg : Nat → Nat → Nat} {zs : Nat → AS} {b : Nat → Nat} {s : Nat} (hI : CJ h h n' f L T ln sg k zs t b) (ho : OK n' f L T ln sg) (hs : WFS ln sg)  : Con G mL_into (d + 9) [.ref 1, .int (nI s)] h n 0 0 (PW n (some (.int (nI (inN T s n')))) (fun g => CJ h g n' f L T ln sg k zs t b)) := by
  have hn := ho.1
  refine Con.of [some (.ref 1), some (.int (nI s)), none, none] pl_L rfl (Nat.le_of_ble_eq_true rfl) rfl ?_
  have hQ : ∀ g, CJ h g n' f L T ln sg k zs t b → (PW n (some (.int (nI (inN T s n')))) (fun g => CJ h g n' f L T ln sg k zs t b)) (.inl (some (.int (nI (inN T s n'))))) g n := fun g h1 => ⟨rfl, h1, rfl⟩
  generalize PW n (some (.int (nI (inN T s n')))) (fun g => CJ h g n' f L T ln sg k zs t b) = Q at hQ ⊢
  refine ez_iconst (v := nI 0) (q := 1) dL_into_0 (by decide) rfl ?_
  refine ez_istore_2 (q := 2) dL_into_1 rfl (by decide) rfl rfl ?_
  refine ez_iconst (v := nI 0) (q := 3) dL_into_2 (by decide) rfl ?_
  refine ez_istore_3 (q := 4) dL_into_3 rfl (by decide) rfl rfl ?_
  refine ez_loop (α := Nat) (fun i => n' - i) (P := fun i => ∀ (g : ez_H) , CJ h g n' f L T ln sg k zs t b → (i ≤ n') → E G mL_into (d + 9) Q g n 0 0 4 [some (.ref 1), some (.int (nI s)), some (.int (nI (inN T s i))), some (.int (nI i))] []) ?_ 0 h hI (by omega)
  intro i ih4 g  hM hi
  have hI := hM
  refine ez_iload_n (q := 5) 3 dL_into_4 rfl rfl rfl ?_
  refine ez_aload_n (q := 6) 0 dL_into_5 rfl rfl rfl ?_
  refine ez_iconst (v := nI 0) (q := 7) dL_into_6 (by decide) rfl ?_
  refine cXv (q := 10) dL_into_7 ck_L_45 hI.1.1 (v_X7_count (what := 0) hI.rb ho hs (by decide)) rfl ⟨by decide, rfl⟩ rfl rfl rfl (Nat.le_of_ble_eq_true rfl) rfl (fun g hW => ?_)
  have hI := hI.tr hW
  clear hW
  refine ez_top (show couI T n' f L ln sg k 0 = nI n' from rfl) ?_
  refine ez_icmpgeN (q := 13) (tgt := 40) dL_into_10 (by decide) (by omega) (by omega) rfl (fun hc10 => ?_) (fun hc10 => ?_)
  · have e9 : i = n' := by omega
    rw [e9]
    refine ez_iload_n (q := 41) 2 dL_into_40 rfl rfl rfl ?_
    exact ez_iret dL_into_41 rfl (hQ _ hI)
  · refine ez_iload_n (q := 14) 2 dL_into_13 rfl rfl rfl ?_
    refine ez_aload_n (q := 15) 0 dL_into_14 rfl rfl rfl ?_
    refine ez_iload_n (q := 16) 3 dL_into_15 rfl rfl rfl ?_
    refine ez_iconst (v := nI 1) (q := 17) dL_into_16 (by decide) rfl ?_
    refine cXv (q := 20) dL_into_17 ck_L_36 hI.1.1 (v_X7_world (what := 1) hI.rb ho hs (by omega) (by decide)) rfl ⟨by decide, rfl⟩ rfl rfl rfl (Nat.le_of_ble_eq_true rfl) rfl (fun g hW => ?_)
    have hI := hI.tr hW
    clear hW
    refine ez_top (show nI (twN T n' f L ln sg i 1) = nI (T i) from rfl) ?_
    refine ez_iload_n (q := 21) 1 dL_into_20 rfl rfl rfl ?_
    refine ez_iandN (q := 22) dL_into_21 rfl ?_
    refine ez_ifeqN (q := 25) (tgt := 31) dL_into_22 (by decide) (lt31 (and_lt (ho.2.2.2.1 i (by omega))) hn) rfl (fun hc22 => ?_) (fun hc22 => ?_)
    · refine ez_iconst (v := nI 0) (q := 32) dL_into_31 (by decide) rfl ?_
      refine ez_iorN (q := 33) dL_into_32 rfl ?_
      refine ez_istore_2 (q := 34) dL_into_33 rfl (by decide) rfl rfl ?_
      refine ez_iincN_3 (q := 37) dL_into_34 (by decide) rfl rfl ?_
      refine ez_goto (q := 4) dL_into_37 (by decide) ?_
      exact E.fg (ih4 (i + 1) (by omega) g hI (by omega)) ⟨Or.inr (rfl), Or.inr (rfl), Or.inr (by first | rw [inN_t hc22] | rw [inN_f hc22, Nat.or_zero]), Or.inr (rfl), trivial⟩
    · refine ez_iconst (v := nI 1) (q := 26) dL_into_25 (by decide) rfl ?_
      refine ez_iload_n (q := 27) 3 dL_into_26 rfl rfl rfl ?_
      refine ez_shl1 (q := 28) dL_into_27 (by omega) rfl ?_
      refine ez_goto (q := 32) dL_into_28 (by decide) ?_
      refine ez_iorN (q := 33) dL_into_32 rfl ?_
      refine ez_istore_2 (q := 34) dL_into_33 rfl (by decide) rfl rfl ?_
      refine ez_iincN_3 (q := 37) dL_into_34 (by decide) rfl rfl ?_
      refine ez_goto (q := 4) dL_into_37 (by decide) ?_
      exact E.fg (ih4 (i + 1) (by omega) g hI (by omega)) ⟨Or.inr (rfl), Or.inr (rfl), Or.inr (by first | rw [inN_t hc22] | rw [inN_f hc22, Nat.or_zero]), Or.inr (rfl), trivial⟩

set_option maxHeartbeats 800000 in
set_option maxRecDepth 100000 in
theorem c_L_reached {G : ez_G} {d n : Nat} {h : ez_H} {n' f k t : Nat} {L T ln : Nat → Nat} {sg : Nat → Nat → Nat} {zs : Nat → AS} {b : Nat → Nat} {i s : Nat} (hI : CJ h h n' f L T ln sg k zs t b) (ho : OK n' f L T ln sg) (hs : WFS ln sg) (hi : i < n') : Con G mL_reached (d + 9) [.ref 1, .int (nI i), .int (nI s)] h n 0 0 (PW n (some (.int (nI (reN T n' s i)))) (fun g => CJ h g n' f L T ln sg k zs t b)) := by
  have hn := ho.1
  have hT := ho.2.2.2.1
  refine Con.of [some (.ref 1), some (.int (nI i)), some (.int (nI s)), none, none, none] pl_L rfl (Nat.le_of_ble_eq_true rfl) rfl ?_
  have hQ : ∀ g, CJ h g n' f L T ln sg k zs t b → (PW n (some (.int (nI (reN T n' s i)))) (fun g => CJ h g n' f L T ln sg k zs t b)) (.inl (some (.int (nI (reN T n' s i))))) g n := fun g h1 => ⟨rfl, h1, rfl⟩
  generalize PW n (some (.int (nI (reN T n' s i)))) (fun g => CJ h g n' f L T ln sg k zs t b) = Q at hQ ⊢
  refine ez_aload_n (q := 1) 0 dL_reached_0 rfl rfl rfl ?_
  refine ez_iload_n (q := 2) 1 dL_reached_1 rfl rfl rfl ?_
  refine ez_iconst (v := nI 1) (q := 3) dL_reached_2 (by decide) rfl ?_
  refine cXv (q := 6) dL_reached_3 ck_L_36 hI.1.1 (v_X7_world (what := 1) hI.rb ho hs (by omega) (by decide)) rfl ⟨by decide, rfl⟩ rfl rfl rfl (Nat.le_of_ble_eq_true rfl) rfl (fun g hW => ?_)
  have hI := hI.tr hW
  clear hW
  refine ez_top (show nI (twN T n' f L ln sg i 1) = nI (T i) from rfl) ?_
  refine ez_iload_n (q := 7) 2 dL_reached_6 rfl rfl rfl ?_
  refine ez_iandN (q := 8) dL_reached_7 rfl ?_
  refine ez_istore_3 (q := 9) dL_reached_8 rfl (by decide) rfl rfl ?_
  refine ez_iload_n (q := 10) 3 dL_reached_9 rfl rfl rfl ?_
  refine ez_istore_4 (q := 12) dL_reached_10 (by decide) rfl rfl ?_
  refine E.fg (ez_loop (α := Nat) (fun x => n' - ctN x n') (P := fun x => ∀ (g : ez_H) , CJ h g n' f L T ln sg k zs t b → (x < 2 ^ n') → (fxN (fun x => rxN T s x n') 11 x = reN T n' s i) → E G mL_reached (d + 9) Q g n 0 0 12 [some (.ref 1), some (.int (nI i)), some (.int (nI s)), none, some (.int (nI x)), none] []) ?_ (T i &&& s) g hI (and_lt (hT i hi)) rfl) ⟨Or.inr (rfl), Or.inr (rfl), Or.inr (rfl), Or.inl rfl, Or.inr (rfl), Or.inl rfl, trivial⟩
  intro x ih12 g  hM hx hfx
  have hI := hM
  refine ez_iload (q := 14) dL_reached_12 rfl rfl ?_
  refine ez_istore_3 (q := 15) dL_reached_14 rfl (by decide) rfl rfl ?_
  refine ez_iconst (v := nI 0) (q := 16) dL_reached_15 (by decide) rfl ?_
  refine ez_istore_5 (q := 18) dL_reached_16 (by decide) rfl rfl ?_
  refine ez_loop (α := Nat) (fun j => n' - j) (P := fun j => ∀ (g : ez_H) , CJ h g n' f L T ln sg k zs t b → (j ≤ n') → E G mL_reached (d + 9) Q g n 0 0 18 [some (.ref 1), some (.int (nI i)), some (.int (nI s)), some (.int (nI x)), some (.int (nI (rxN T s x j))), some (.int (nI j))] []) ?_ 0 g hI (by omega)
  intro j ih18 g  hM hj
  have hI := hM
  refine ez_iload (q := 20) dL_reached_18 rfl rfl ?_
  refine ez_aload_n (q := 21) 0 dL_reached_20 rfl rfl rfl ?_
  refine ez_iconst (v := nI 0) (q := 22) dL_reached_21 (by decide) rfl ?_
  refine cXv (q := 25) dL_reached_22 ck_L_45 hI.1.1 (v_X7_count (what := 0) hI.rb ho hs (by decide)) rfl ⟨by decide, rfl⟩ rfl rfl rfl (Nat.le_of_ble_eq_true rfl) rfl (fun g hW => ?_)
  have hI := hI.tr hW
  clear hW
  refine ez_top (show couI T n' f L ln sg k 0 = nI n' from rfl) ?_
  refine ez_icmpgeN (q := 28) (tgt := 62) dL_reached_25 (by decide) (by omega) (by omega) rfl (fun hc25 => ?_) (fun hc25 => ?_)
  · have e9 : j = n' := by omega
    rw [e9]
    refine ez_iload (q := 64) dL_reached_62 rfl rfl ?_
    refine ez_iload_n (q := 65) 3 dL_reached_64 rfl rfl rfl ?_
    refine ez_icmpneN (q := 68) (tgt := 12) dL_reached_65 (by decide) (lt31 (rx_lt hT hx n' (Nat.le_refl _)) hn) (lt31 hx hn) rfl (fun hc65 => ?_) (fun hc65 => ?_)
    · exact E.fg (ih12 (rxN T s x n') (by have h8 := ct_lt (rx_sb T s x n') (Ne.symm hc65) (rx_lt hT hx n' (Nat.le_refl _)); have h9 := ct_le (rxN T s x n') n'; omega) g hI (rx_lt hT hx n' (Nat.le_refl _)) (by rw [← hfx, re_at hn hT hx (s := s), if_neg hc65])) ⟨Or.inr (rfl), Or.inr (rfl), Or.inr (rfl), Or.inl rfl, Or.inr (rfl), Or.inl rfl, trivial⟩
    · rw [re_at hn hT hx (s := s), if_pos hc65] at hfx
      rw [hfx]
      refine ez_iload_n (q := 69) 3 dL_reached_68 rfl rfl rfl ?_
      exact ez_iret dL_reached_69 rfl (hQ _ hI)
  · refine ez_iload (q := 30) dL_reached_28 rfl rfl ?_
    refine ez_iload_n (q := 31) 3 dL_reached_30 rfl rfl rfl ?_
    refine ez_iload (q := 33) dL_reached_31 rfl rfl ?_
    refine ez_ishrN (q := 34) dL_reached_33 (lt31 hx hn) (by omega) rfl ?_
    refine ez_iconst (v := nI 1) (q := 35) dL_reached_34 (by decide) rfl ?_
    refine ez_iandN (q := 36) dL_reached_35 rfl ?_
    refine ez_iconst (v := nI 1) (q := 37) dL_reached_36 (by decide) rfl ?_
    refine ez_icmpneN (q := 40) (tgt := 52) dL_reached_37 (by decide) (Nat.lt_of_le_of_lt Nat.and_le_right (by decide)) (by decide) rfl (fun hc37 => ?_) (fun hc37 => ?_)
    · refine ez_iconst (v := nI 0) (q := 53) dL_reached_52 (by decide) rfl ?_
      refine ez_iorN (q := 54) dL_reached_53 rfl ?_
      refine ez_istore_4 (q := 56) dL_reached_54 (by decide) rfl rfl ?_
      refine ez_iincN_5 (q := 59) dL_reached_56 (by decide) rfl rfl ?_
      refine ez_goto (q := 18) dL_reached_59 (by decide) ?_
      exact E.fg (ih18 (j + 1) (by omega) g hI (by omega)) ⟨Or.inr (rfl), Or.inr (rfl), Or.inr (rfl), Or.inr (rfl), Or.inr (by rw [rxN]; first | rw [if_pos hc37] | rw [if_neg hc37]), Or.inr (rfl), trivial⟩
    · refine ez_aload_n (q := 41) 0 dL_reached_40 rfl rfl rfl ?_
      refine ez_iload (q := 43) dL_reached_41 rfl rfl ?_
      refine ez_iconst (v := nI 1) (q := 44) dL_reached_43 (by decide) rfl ?_
      refine cXv (q := 47) dL_reached_44 ck_L_36 hI.1.1 (v_X7_world (what := 1) hI.rb ho hs (by omega) (by decide)) rfl ⟨by decide, rfl⟩ rfl rfl rfl (Nat.le_of_ble_eq_true rfl) rfl (fun g hW => ?_)
      have hI := hI.tr hW
      clear hW
      refine ez_top (show nI (twN T n' f L ln sg j 1) = nI (T j) from rfl) ?_
      refine ez_iload_n (q := 48) 2 dL_reached_47 rfl rfl rfl ?_
      refine ez_iandN (q := 49) dL_reached_48 rfl ?_
      refine ez_goto (q := 53) dL_reached_49 (by decide) ?_
      refine ez_iorN (q := 54) dL_reached_53 rfl ?_
      refine ez_istore_4 (q := 56) dL_reached_54 (by decide) rfl rfl ?_
      refine ez_iincN_5 (q := 59) dL_reached_56 (by decide) rfl rfl ?_
      refine ez_goto (q := 18) dL_reached_59 (by decide) ?_
      exact E.fg (ih18 (j + 1) (by omega) g hI (by omega)) ⟨Or.inr (rfl), Or.inr (rfl), Or.inr (rfl), Or.inr (rfl), Or.inr (by rw [rxN]; first | rw [if_pos hc37] | rw [if_neg hc37]), Or.inr (rfl), trivial⟩

set_option maxHeartbeats 800000 in
set_option maxRecDepth 100000 in
theorem c_L_stays {G : ez_G} {d n : Nat} {h : ez_H} {n' f k t : Nat} {L T ln : Nat → Nat} {sg : Nat → Nat → Nat} {zs : Nat → AS} {b : Nat → Nat} {s : Nat} (hI : CJ h h n' f L T ln sg k zs t b) (ho : OK n' f L T ln sg) (hs : WFS ln sg) (hs2 : s < 2 ^ n') : Con G mL_stays (d + 10) [.ref 1, .int (nI s)] h n 0 0 (PW n (some (.int (nI (stN T n' f L s)))) (fun g => CJ h g n' f L T ln sg k zs t b)) := by
  have hn := ho.1
  have hT := ho.2.2.2.1
  have hf9 := ho.2.1
  refine Con.of [some (.ref 1), some (.int (nI s)), none, none, none, none, none] pl_L rfl (Nat.le_of_ble_eq_true rfl) rfl ?_
  have hQ : ∀ g, CJ h g n' f L T ln sg k zs t b → (PW n (some (.int (nI (stN T n' f L s)))) (fun g => CJ h g n' f L T ln sg k zs t b)) (.inl (some (.int (nI (stN T n' f L s))))) g n := fun g h1 => ⟨rfl, h1, rfl⟩
  generalize PW n (some (.int (nI (stN T n' f L s)))) (fun g => CJ h g n' f L T ln sg k zs t b) = Q at hQ ⊢
  refine ez_iconst (v := nI 0) (q := 1) dL_stays_0 (by decide) rfl ?_
  refine ez_istore_2 (q := 2) dL_stays_1 rfl (by decide) rfl rfl ?_
  refine ez_aload_n (q := 3) 0 dL_stays_2 rfl rfl rfl ?_
  refine ez_iconst (v := nI 4) (q := 4) dL_stays_3 (by decide) rfl ?_
  refine cXv (q := 7) dL_stays_4 ck_L_45 hI.1.1 (v_X7_count (what := 4) hI.rb ho hs (by decide)) rfl ⟨by decide, rfl⟩ rfl rfl rfl (Nat.le_of_ble_eq_true rfl) rfl (fun g hW => ?_)
  have hI := hI.tr hW
  clear hW
  refine ez_top (show couI T n' f L ln sg k 4 = fI f from rfl) ?_
  refine ez_istore_3 (q := 8) dL_stays_7 rfl (by decide) rfl rfl ?_
  refine ez_iconst (v := nI 0) (q := 9) dL_stays_8 (by decide) rfl ?_
  refine ez_istore_4 (q := 11) dL_stays_9 (by decide) rfl rfl ?_
  refine ez_loop (α := Nat) (fun i => n' - i) (P := fun i => ∀ (g : ez_H) , CJ h g n' f L T ln sg k zs t b → (i ≤ n') → E G mL_stays (d + 10) Q g n 0 0 11 [some (.ref 1), some (.int (nI s)), some (.int (nI (gsN T n' f L s i))), some (.int (fI f)), some (.int (nI i)), none, none] []) ?_ 0 g hI (by omega)
  intro i ih11 g  hM hi
  have hI := hM
  refine ez_iload (q := 13) dL_stays_11 rfl rfl ?_
  refine ez_aload_n (q := 14) 0 dL_stays_13 rfl rfl rfl ?_
  refine ez_iconst (v := nI 0) (q := 15) dL_stays_14 (by decide) rfl ?_
  refine cXv (q := 18) dL_stays_15 ck_L_45 hI.1.1 (v_X7_count (what := 0) hI.rb ho hs (by decide)) rfl ⟨by decide, rfl⟩ rfl rfl rfl (Nat.le_of_ble_eq_true rfl) rfl (fun g hW => ?_)
  have hI := hI.tr hW
  clear hW
  refine ez_top (show couI T n' f L ln sg k 0 = nI n' from rfl) ?_
  refine ez_icmpgeN (q := 21) (tgt := 96) dL_stays_18 (by decide) (by omega) (by omega) rfl (fun hc18 => ?_) (fun hc18 => ?_)
  · have e9 : i = n' := by omega
    rw [e9]
    refine ez_iconst (v := nI 0) (q := 97) dL_stays_96 (by decide) rfl ?_
    refine ez_istore_4 (q := 99) dL_stays_97 (by decide) rfl rfl ?_
    refine ez_iconst (v := nI 0) (q := 100) dL_stays_99 (by decide) rfl ?_
    refine ez_istore_5 (q := 102) dL_stays_100 (by decide) rfl rfl ?_
    refine E.fg (ez_loop (α := Nat) (fun j => n' - j) (P := fun j => ∀ (g : ez_H) , CJ h g n' f L T ln sg k zs t b → (j ≤ n') → E G mL_stays (d + 10) Q g n 0 0 102 [some (.ref 1), some (.int (nI s)), some (.int (nI (gsN T n' f L s n'))), none, some (.int (nI (asN T n' f L s j))), some (.int (nI j)), none] []) ?_ 0 g hI (by omega)) ⟨Or.inr (rfl), Or.inr (rfl), Or.inr (rfl), Or.inl rfl, Or.inr (rfl), Or.inr (rfl), Or.inl rfl, trivial⟩
    intro j ih102 g  hM hj
    have hI := hM
    refine ez_iload (q := 104) dL_stays_102 rfl rfl ?_
    refine ez_aload_n (q := 105) 0 dL_stays_104 rfl rfl rfl ?_
    refine ez_iconst (v := nI 0) (q := 106) dL_stays_105 (by decide) rfl ?_
    refine cXv (q := 109) dL_stays_106 ck_L_45 hI.1.1 (v_X7_count (what := 0) hI.rb ho hs (by decide)) rfl ⟨by decide, rfl⟩ rfl rfl rfl (Nat.le_of_ble_eq_true rfl) rfl (fun g hW => ?_)
    have hI := hI.tr hW
    clear hW
    refine ez_top (show couI T n' f L ln sg k 0 = nI n' from rfl) ?_
    refine ez_icmpgeN (q := 112) (tgt := 175) dL_stays_109 (by decide) (by omega) (by omega) rfl (fun hc109 => ?_) (fun hc109 => ?_)
    · have e9 : j = n' := by omega
      rw [e9, as_st hn hT hs2]
      refine ez_iload (q := 177) dL_stays_175 rfl rfl ?_
      exact ez_iret dL_stays_177 rfl (hQ _ hI)
    · refine ez_iload_n (q := 113) 1 dL_stays_112 rfl rfl rfl ?_
      refine ez_iload (q := 115) dL_stays_113 rfl rfl ?_
      refine ez_ishrN (q := 116) dL_stays_115 (lt31 hs2 hn) (by omega) rfl ?_
      refine ez_iconst (v := nI 1) (q := 117) dL_stays_116 (by decide) rfl ?_
      refine ez_iandN (q := 118) dL_stays_117 rfl ?_
      refine ez_iconst (v := nI 1) (q := 119) dL_stays_118 (by decide) rfl ?_
      refine ez_icmpneN (q := 122) (tgt := 148) dL_stays_119 (by decide) (Nat.lt_of_le_of_lt Nat.and_le_right (by decide)) (by decide) rfl (fun hc119 => ?_) (fun hc119 => ?_)
      · refine ez_iconst (v := nI 0) (q := 149) dL_stays_148 (by decide) rfl ?_
        refine ez_istore_6 (q := 151) dL_stays_149 (by decide) rfl rfl ?_
        refine ez_iload (q := 153) dL_stays_151 rfl rfl ?_
        refine ez_iload (q := 155) dL_stays_153 rfl rfl ?_
        refine ez_ifeqN (q := 158) (tgt := 165) dL_stays_155 (by decide) (by decide) rfl (fun hc155 => ?_) (fun hc155 => ?_)
        · first
          | exact absurd hc155 (by decide)
          | skip
            refine ez_iconst (v := nI 0) (q := 166) dL_stays_165 (by decide) rfl ?_
            refine ez_iorN (q := 167) dL_stays_166 rfl ?_
            refine ez_istore_4 (q := 169) dL_stays_167 (by decide) rfl rfl ?_
            refine ez_iincN_5 (q := 172) dL_stays_169 (by decide) rfl rfl ?_
            refine ez_goto (q := 102) dL_stays_172 (by decide) ?_
            exact E.fg (ih102 (j + 1) (by omega) g hI (by omega)) ⟨Or.inr (rfl), Or.inr (rfl), Or.inr (rfl), Or.inl rfl, Or.inr (by rw [asN]; first | rw [if_pos (And.intro hc119 (Or.inl hc129))] | rw [if_pos (And.intro hc119 (Or.inr hc141))] | rw [if_neg (fun a => hc119 a.1)] | rw [if_neg (fun a => a.2.elim hc129 (fun b => b hc141))]), Or.inr (rfl), Or.inl rfl, trivial⟩
        · first
          | exact absurd hc155 (by decide)
          | skip
            refine ez_iconst (v := nI 1) (q := 159) dL_stays_158 (by decide) rfl ?_
            refine ez_iload (q := 161) dL_stays_159 rfl rfl ?_
            refine ez_shl1 (q := 162) dL_stays_161 (by omega) rfl ?_
            refine ez_goto (q := 166) dL_stays_162 (by decide) ?_
            refine ez_iorN (q := 167) dL_stays_166 rfl ?_
            refine ez_istore_4 (q := 169) dL_stays_167 (by decide) rfl rfl ?_
            refine ez_iincN_5 (q := 172) dL_stays_169 (by decide) rfl rfl ?_
            refine ez_goto (q := 102) dL_stays_172 (by decide) ?_
            exact E.fg (ih102 (j + 1) (by omega) g hI (by omega)) ⟨Or.inr (rfl), Or.inr (rfl), Or.inr (rfl), Or.inl rfl, Or.inr (by rw [asN]; first | rw [if_pos (And.intro hc119 (Or.inl hc129))] | rw [if_pos (And.intro hc119 (Or.inr hc141))] | rw [if_neg (fun a => hc119 a.1)] | rw [if_neg (fun a => a.2.elim hc129 (fun b => b hc141))]), Or.inr (rfl), Or.inl rfl, trivial⟩
      · refine ez_iload_n (q := 123) 2 dL_stays_122 rfl rfl rfl ?_
        refine ez_iload (q := 125) dL_stays_123 rfl rfl ?_
        refine ez_ishrN (q := 126) dL_stays_125 (lt31 (gs_lt n' (Nat.le_refl _)) hn) (by omega) rfl ?_
        refine ez_iconst (v := nI 1) (q := 127) dL_stays_126 (by decide) rfl ?_
        refine ez_iandN (q := 128) dL_stays_127 rfl ?_
        refine ez_iconst (v := nI 1) (q := 129) dL_stays_128 (by decide) rfl ?_
        refine ez_icmpeqN (q := 132) (tgt := 144) dL_stays_129 (by decide) (Nat.lt_of_le_of_lt Nat.and_le_right (by decide)) (by decide) rfl (fun hc129 => ?_) (fun hc129 => ?_)
        · refine ez_iconst (v := nI 1) (q := 145) dL_stays_144 (by decide) rfl ?_
          refine ez_goto (q := 149) dL_stays_145 (by decide) ?_
          refine ez_istore_6 (q := 151) dL_stays_149 (by decide) rfl rfl ?_
          refine ez_iload (q := 153) dL_stays_151 rfl rfl ?_
          refine ez_iload (q := 155) dL_stays_153 rfl rfl ?_
          refine ez_ifeqN (q := 158) (tgt := 165) dL_stays_155 (by decide) (by decide) rfl (fun hc155 => ?_) (fun hc155 => ?_)
          · first
            | exact absurd hc155 (by decide)
            | skip
              refine ez_iconst (v := nI 0) (q := 166) dL_stays_165 (by decide) rfl ?_
              refine ez_iorN (q := 167) dL_stays_166 rfl ?_
              refine ez_istore_4 (q := 169) dL_stays_167 (by decide) rfl rfl ?_
              refine ez_iincN_5 (q := 172) dL_stays_169 (by decide) rfl rfl ?_
              refine ez_goto (q := 102) dL_stays_172 (by decide) ?_
              exact E.fg (ih102 (j + 1) (by omega) g hI (by omega)) ⟨Or.inr (rfl), Or.inr (rfl), Or.inr (rfl), Or.inl rfl, Or.inr (by rw [asN]; first | rw [if_pos (And.intro hc119 (Or.inl hc129))] | rw [if_pos (And.intro hc119 (Or.inr hc141))] | rw [if_neg (fun a => hc119 a.1)] | rw [if_neg (fun a => a.2.elim hc129 (fun b => b hc141))]), Or.inr (rfl), Or.inl rfl, trivial⟩
          · first
            | exact absurd hc155 (by decide)
            | skip
              refine ez_iconst (v := nI 1) (q := 159) dL_stays_158 (by decide) rfl ?_
              refine ez_iload (q := 161) dL_stays_159 rfl rfl ?_
              refine ez_shl1 (q := 162) dL_stays_161 (by omega) rfl ?_
              refine ez_goto (q := 166) dL_stays_162 (by decide) ?_
              refine ez_iorN (q := 167) dL_stays_166 rfl ?_
              refine ez_istore_4 (q := 169) dL_stays_167 (by decide) rfl rfl ?_
              refine ez_iincN_5 (q := 172) dL_stays_169 (by decide) rfl rfl ?_
              refine ez_goto (q := 102) dL_stays_172 (by decide) ?_
              exact E.fg (ih102 (j + 1) (by omega) g hI (by omega)) ⟨Or.inr (rfl), Or.inr (rfl), Or.inr (rfl), Or.inl rfl, Or.inr (by rw [asN]; first | rw [if_pos (And.intro hc119 (Or.inl hc129))] | rw [if_pos (And.intro hc119 (Or.inr hc141))] | rw [if_neg (fun a => hc119 a.1)] | rw [if_neg (fun a => a.2.elim hc129 (fun b => b hc141))]), Or.inr (rfl), Or.inl rfl, trivial⟩
        · refine ez_aload_n (q := 133) 0 dL_stays_132 rfl rfl rfl ?_
          refine ez_iload (q := 135) dL_stays_133 rfl rfl ?_
          refine ez_iload_n (q := 136) 1 dL_stays_135 rfl rfl rfl ?_
          refine cSw (q := 139) dL_stays_136 ck_L_48 (c_L_reached hI.rb ho hs (by omega)) rfl rfl rfl (Nat.le_of_ble_eq_true rfl) rfl (fun g hW => ?_)
          have hI := hI.tr hW
          clear hW
          refine ez_iload_n (q := 140) 2 dL_stays_139 rfl rfl rfl ?_
          refine ez_iandN (q := 141) dL_stays_140 rfl ?_
          refine ez_ifeqN (q := 144) (tgt := 148) dL_stays_141 (by decide) (lt31 (and_lt (re_lt hT (by omega))) hn) rfl (fun hc141 => ?_) (fun hc141 => ?_)
          · refine ez_iconst (v := nI 0) (q := 149) dL_stays_148 (by decide) rfl ?_
            refine ez_istore_6 (q := 151) dL_stays_149 (by decide) rfl rfl ?_
            refine ez_iload (q := 153) dL_stays_151 rfl rfl ?_
            refine ez_iload (q := 155) dL_stays_153 rfl rfl ?_
            refine ez_ifeqN (q := 158) (tgt := 165) dL_stays_155 (by decide) (by decide) rfl (fun hc155 => ?_) (fun hc155 => ?_)
            · first
              | exact absurd hc155 (by decide)
              | skip
                refine ez_iconst (v := nI 0) (q := 166) dL_stays_165 (by decide) rfl ?_
                refine ez_iorN (q := 167) dL_stays_166 rfl ?_
                refine ez_istore_4 (q := 169) dL_stays_167 (by decide) rfl rfl ?_
                refine ez_iincN_5 (q := 172) dL_stays_169 (by decide) rfl rfl ?_
                refine ez_goto (q := 102) dL_stays_172 (by decide) ?_
                exact E.fg (ih102 (j + 1) (by omega) g hI (by omega)) ⟨Or.inr (rfl), Or.inr (rfl), Or.inr (rfl), Or.inl rfl, Or.inr (by rw [asN]; first | rw [if_pos (And.intro hc119 (Or.inl hc129))] | rw [if_pos (And.intro hc119 (Or.inr hc141))] | rw [if_neg (fun a => hc119 a.1)] | rw [if_neg (fun a => a.2.elim hc129 (fun b => b hc141))]), Or.inr (rfl), Or.inl rfl, trivial⟩
            · first
              | exact absurd hc155 (by decide)
              | skip
                refine ez_iconst (v := nI 1) (q := 159) dL_stays_158 (by decide) rfl ?_
                refine ez_iload (q := 161) dL_stays_159 rfl rfl ?_
                refine ez_shl1 (q := 162) dL_stays_161 (by omega) rfl ?_
                refine ez_goto (q := 166) dL_stays_162 (by decide) ?_
                refine ez_iorN (q := 167) dL_stays_166 rfl ?_
                refine ez_istore_4 (q := 169) dL_stays_167 (by decide) rfl rfl ?_
                refine ez_iincN_5 (q := 172) dL_stays_169 (by decide) rfl rfl ?_
                refine ez_goto (q := 102) dL_stays_172 (by decide) ?_
                exact E.fg (ih102 (j + 1) (by omega) g hI (by omega)) ⟨Or.inr (rfl), Or.inr (rfl), Or.inr (rfl), Or.inl rfl, Or.inr (by rw [asN]; first | rw [if_pos (And.intro hc119 (Or.inl hc129))] | rw [if_pos (And.intro hc119 (Or.inr hc141))] | rw [if_neg (fun a => hc119 a.1)] | rw [if_neg (fun a => a.2.elim hc129 (fun b => b hc141))]), Or.inr (rfl), Or.inl rfl, trivial⟩
          · refine ez_iconst (v := nI 1) (q := 145) dL_stays_144 (by decide) rfl ?_
            refine ez_goto (q := 149) dL_stays_145 (by decide) ?_
            refine ez_istore_6 (q := 151) dL_stays_149 (by decide) rfl rfl ?_
            refine ez_iload (q := 153) dL_stays_151 rfl rfl ?_
            refine ez_iload (q := 155) dL_stays_153 rfl rfl ?_
            refine ez_ifeqN (q := 158) (tgt := 165) dL_stays_155 (by decide) (by decide) rfl (fun hc155 => ?_) (fun hc155 => ?_)
            · first
              | exact absurd hc155 (by decide)
              | skip
                refine ez_iconst (v := nI 0) (q := 166) dL_stays_165 (by decide) rfl ?_
                refine ez_iorN (q := 167) dL_stays_166 rfl ?_
                refine ez_istore_4 (q := 169) dL_stays_167 (by decide) rfl rfl ?_
                refine ez_iincN_5 (q := 172) dL_stays_169 (by decide) rfl rfl ?_
                refine ez_goto (q := 102) dL_stays_172 (by decide) ?_
                exact E.fg (ih102 (j + 1) (by omega) g hI (by omega)) ⟨Or.inr (rfl), Or.inr (rfl), Or.inr (rfl), Or.inl rfl, Or.inr (by rw [asN]; first | rw [if_pos (And.intro hc119 (Or.inl hc129))] | rw [if_pos (And.intro hc119 (Or.inr hc141))] | rw [if_neg (fun a => hc119 a.1)] | rw [if_neg (fun a => a.2.elim hc129 (fun b => b hc141))]), Or.inr (rfl), Or.inl rfl, trivial⟩
            · first
              | exact absurd hc155 (by decide)
              | skip
                refine ez_iconst (v := nI 1) (q := 159) dL_stays_158 (by decide) rfl ?_
                refine ez_iload (q := 161) dL_stays_159 rfl rfl ?_
                refine ez_shl1 (q := 162) dL_stays_161 (by omega) rfl ?_
                refine ez_goto (q := 166) dL_stays_162 (by decide) ?_
                refine ez_iorN (q := 167) dL_stays_166 rfl ?_
                refine ez_istore_4 (q := 169) dL_stays_167 (by decide) rfl rfl ?_
                refine ez_iincN_5 (q := 172) dL_stays_169 (by decide) rfl rfl ?_
                refine ez_goto (q := 102) dL_stays_172 (by decide) ?_
                exact E.fg (ih102 (j + 1) (by omega) g hI (by omega)) ⟨Or.inr (rfl), Or.inr (rfl), Or.inr (rfl), Or.inl rfl, Or.inr (by rw [asN]; first | rw [if_pos (And.intro hc119 (Or.inl hc129))] | rw [if_pos (And.intro hc119 (Or.inr hc141))] | rw [if_neg (fun a => hc119 a.1)] | rw [if_neg (fun a => a.2.elim hc129 (fun b => b hc141))]), Or.inr (rfl), Or.inl rfl, trivial⟩
  · refine ez_iload_n (q := 22) 1 dL_stays_21 rfl rfl rfl ?_
    refine ez_iload (q := 24) dL_stays_22 rfl rfl ?_
    refine ez_ishrN (q := 25) dL_stays_24 (lt31 hs2 hn) (by omega) rfl ?_
    refine ez_iconst (v := nI 1) (q := 26) dL_stays_25 (by decide) rfl ?_
    refine ez_iandN (q := 27) dL_stays_26 rfl ?_
    refine ez_iconst (v := nI 1) (q := 28) dL_stays_27 (by decide) rfl ?_
    refine ez_icmpneN (q := 31) (tgt := 55) dL_stays_28 (by decide) (Nat.lt_of_le_of_lt Nat.and_le_right (by decide)) (by decide) rfl (fun hc28 => ?_) (fun hc28 => ?_)
    · refine ez_iconst (v := nI 0) (q := 56) dL_stays_55 (by decide) rfl ?_
      refine ez_istore_5 (q := 58) dL_stays_56 (by decide) rfl rfl ?_
      refine ez_iload_n (q := 59) 2 dL_stays_58 rfl rfl rfl ?_
      refine ez_iload (q := 61) dL_stays_59 rfl rfl ?_
      refine ez_ifeqN (q := 64) (tgt := 87) dL_stays_61 (by decide) (by decide) rfl (fun hc61 => ?_) (fun hc61 => ?_)
      · first
        | exact absurd hc61 (by decide)
        | skip
          refine ez_iconst (v := nI 0) (q := 88) dL_stays_87 (by decide) rfl ?_
          refine ez_iorN (q := 89) dL_stays_88 rfl ?_
          refine ez_istore_2 (q := 90) dL_stays_89 rfl (by decide) rfl rfl ?_
          refine ez_iincN_4 (q := 93) dL_stays_90 (by decide) rfl rfl ?_
          refine ez_goto (q := 11) dL_stays_93 (by decide) ?_
          exact E.fg (ih11 (i + 1) (by omega) g hI (by omega)) ⟨Or.inr (rfl), Or.inr (rfl), Or.inr (by rw [gsN]; first | rw [if_neg (fun a => hc28 a.1.1)] | rw [if_neg (fun a => hc77 a.2)] | rw [if_neg (fun a => hc48 (a.1.2.resolve_left hf4))] | rw [if_pos (And.intro (And.intro hc28 (Or.inl (fI_m ho.2.1 hc33))) hc77)] | rw [if_pos (And.intro (And.intro hc28 (Or.inr hc48)) hc77)]), Or.inr (by first | rfl | rw [fI_n hf4]), Or.inr (rfl), Or.inl rfl, Or.inl rfl, trivial⟩
      · first
        | exact absurd hc61 (by decide)
        | skip
          refine ez_aload_n (q := 65) 0 dL_stays_64 rfl rfl rfl ?_
          refine ez_iload (q := 67) dL_stays_65 rfl rfl ?_
          refine ez_iload_n (q := 68) 1 dL_stays_67 rfl rfl rfl ?_
          refine cSw (q := 71) dL_stays_68 ck_L_48 (c_L_reached hI.rb ho hs (by omega)) rfl rfl rfl (Nat.le_of_ble_eq_true rfl) rfl (fun g hW => ?_)
          have hI := hI.tr hW
          clear hW
          refine ez_iload (q := 73) dL_stays_71 rfl rfl ?_
          refine ez_ishrN (q := 74) dL_stays_73 (lt31 (re_lt hT (by omega)) hn) (by omega) rfl ?_
          refine ez_iconst (v := nI 1) (q := 75) dL_stays_74 (by decide) rfl ?_
          refine ez_iandN (q := 76) dL_stays_75 rfl ?_
          refine ez_iconst (v := nI 1) (q := 77) dL_stays_76 (by decide) rfl ?_
          refine ez_icmpneN (q := 80) (tgt := 87) dL_stays_77 (by decide) (Nat.lt_of_le_of_lt Nat.and_le_right (by decide)) (by decide) rfl (fun hc77 => ?_) (fun hc77 => ?_)
          · refine ez_iconst (v := nI 0) (q := 88) dL_stays_87 (by decide) rfl ?_
            refine ez_iorN (q := 89) dL_stays_88 rfl ?_
            refine ez_istore_2 (q := 90) dL_stays_89 rfl (by decide) rfl rfl ?_
            refine ez_iincN_4 (q := 93) dL_stays_90 (by decide) rfl rfl ?_
            refine ez_goto (q := 11) dL_stays_93 (by decide) ?_
            exact E.fg (ih11 (i + 1) (by omega) g hI (by omega)) ⟨Or.inr (rfl), Or.inr (rfl), Or.inr (by rw [gsN]; first | rw [if_neg (fun a => hc28 a.1.1)] | rw [if_neg (fun a => hc77 a.2)] | rw [if_neg (fun a => hc48 (a.1.2.resolve_left hf4))] | rw [if_pos (And.intro (And.intro hc28 (Or.inl (fI_m ho.2.1 hc33))) hc77)] | rw [if_pos (And.intro (And.intro hc28 (Or.inr hc48)) hc77)]), Or.inr (by first | rfl | rw [fI_n hf4]), Or.inr (rfl), Or.inl rfl, Or.inl rfl, trivial⟩
          · refine ez_iconst (v := nI 1) (q := 81) dL_stays_80 (by decide) rfl ?_
            refine ez_iload (q := 83) dL_stays_81 rfl rfl ?_
            refine ez_shl1 (q := 84) dL_stays_83 (by omega) rfl ?_
            refine ez_goto (q := 88) dL_stays_84 (by decide) ?_
            refine ez_iorN (q := 89) dL_stays_88 rfl ?_
            refine ez_istore_2 (q := 90) dL_stays_89 rfl (by decide) rfl rfl ?_
            refine ez_iincN_4 (q := 93) dL_stays_90 (by decide) rfl rfl ?_
            refine ez_goto (q := 11) dL_stays_93 (by decide) ?_
            exact E.fg (ih11 (i + 1) (by omega) g hI (by omega)) ⟨Or.inr (rfl), Or.inr (rfl), Or.inr (by rw [gsN]; first | rw [if_neg (fun a => hc28 a.1.1)] | rw [if_neg (fun a => hc77 a.2)] | rw [if_neg (fun a => hc48 (a.1.2.resolve_left hf4))] | rw [if_pos (And.intro (And.intro hc28 (Or.inl (fI_m ho.2.1 hc33))) hc77)] | rw [if_pos (And.intro (And.intro hc28 (Or.inr hc48)) hc77)]), Or.inr (by first | rfl | rw [fI_n hf4]), Or.inr (rfl), Or.inl rfl, Or.inl rfl, trivial⟩
    · refine ez_iload_n (q := 32) 3 dL_stays_31 rfl rfl rfl ?_
      refine ez_iconst (v := -1) (q := 33) dL_stays_32 (by decide) rfl ?_
      refine ez_icmpeq (q := 36) (tgt := 51) dL_stays_33 (by decide) rfl (fun hc33 => ?_) (fun hc33 => ?_)
      · refine ez_iconst (v := nI 1) (q := 52) dL_stays_51 (by decide) rfl ?_
        refine ez_goto (q := 56) dL_stays_52 (by decide) ?_
        refine ez_istore_5 (q := 58) dL_stays_56 (by decide) rfl rfl ?_
        refine ez_iload_n (q := 59) 2 dL_stays_58 rfl rfl rfl ?_
        refine ez_iload (q := 61) dL_stays_59 rfl rfl ?_
        refine ez_ifeqN (q := 64) (tgt := 87) dL_stays_61 (by decide) (by decide) rfl (fun hc61 => ?_) (fun hc61 => ?_)
        · first
          | exact absurd hc61 (by decide)
          | skip
            refine ez_iconst (v := nI 0) (q := 88) dL_stays_87 (by decide) rfl ?_
            refine ez_iorN (q := 89) dL_stays_88 rfl ?_
            refine ez_istore_2 (q := 90) dL_stays_89 rfl (by decide) rfl rfl ?_
            refine ez_iincN_4 (q := 93) dL_stays_90 (by decide) rfl rfl ?_
            refine ez_goto (q := 11) dL_stays_93 (by decide) ?_
            exact E.fg (ih11 (i + 1) (by omega) g hI (by omega)) ⟨Or.inr (rfl), Or.inr (rfl), Or.inr (by rw [gsN]; first | rw [if_neg (fun a => hc28 a.1.1)] | rw [if_neg (fun a => hc77 a.2)] | rw [if_neg (fun a => hc48 (a.1.2.resolve_left hf4))] | rw [if_pos (And.intro (And.intro hc28 (Or.inl (fI_m ho.2.1 hc33))) hc77)] | rw [if_pos (And.intro (And.intro hc28 (Or.inr hc48)) hc77)]), Or.inr (by first | rfl | rw [fI_n hf4]), Or.inr (rfl), Or.inl rfl, Or.inl rfl, trivial⟩
        · first
          | exact absurd hc61 (by decide)
          | skip
            refine ez_aload_n (q := 65) 0 dL_stays_64 rfl rfl rfl ?_
            refine ez_iload (q := 67) dL_stays_65 rfl rfl ?_
            refine ez_iload_n (q := 68) 1 dL_stays_67 rfl rfl rfl ?_
            refine cSw (q := 71) dL_stays_68 ck_L_48 (c_L_reached hI.rb ho hs (by omega)) rfl rfl rfl (Nat.le_of_ble_eq_true rfl) rfl (fun g hW => ?_)
            have hI := hI.tr hW
            clear hW
            refine ez_iload (q := 73) dL_stays_71 rfl rfl ?_
            refine ez_ishrN (q := 74) dL_stays_73 (lt31 (re_lt hT (by omega)) hn) (by omega) rfl ?_
            refine ez_iconst (v := nI 1) (q := 75) dL_stays_74 (by decide) rfl ?_
            refine ez_iandN (q := 76) dL_stays_75 rfl ?_
            refine ez_iconst (v := nI 1) (q := 77) dL_stays_76 (by decide) rfl ?_
            refine ez_icmpneN (q := 80) (tgt := 87) dL_stays_77 (by decide) (Nat.lt_of_le_of_lt Nat.and_le_right (by decide)) (by decide) rfl (fun hc77 => ?_) (fun hc77 => ?_)
            · refine ez_iconst (v := nI 0) (q := 88) dL_stays_87 (by decide) rfl ?_
              refine ez_iorN (q := 89) dL_stays_88 rfl ?_
              refine ez_istore_2 (q := 90) dL_stays_89 rfl (by decide) rfl rfl ?_
              refine ez_iincN_4 (q := 93) dL_stays_90 (by decide) rfl rfl ?_
              refine ez_goto (q := 11) dL_stays_93 (by decide) ?_
              exact E.fg (ih11 (i + 1) (by omega) g hI (by omega)) ⟨Or.inr (rfl), Or.inr (rfl), Or.inr (by rw [gsN]; first | rw [if_neg (fun a => hc28 a.1.1)] | rw [if_neg (fun a => hc77 a.2)] | rw [if_neg (fun a => hc48 (a.1.2.resolve_left hf4))] | rw [if_pos (And.intro (And.intro hc28 (Or.inl (fI_m ho.2.1 hc33))) hc77)] | rw [if_pos (And.intro (And.intro hc28 (Or.inr hc48)) hc77)]), Or.inr (by first | rfl | rw [fI_n hf4]), Or.inr (rfl), Or.inl rfl, Or.inl rfl, trivial⟩
            · refine ez_iconst (v := nI 1) (q := 81) dL_stays_80 (by decide) rfl ?_
              refine ez_iload (q := 83) dL_stays_81 rfl rfl ?_
              refine ez_shl1 (q := 84) dL_stays_83 (by omega) rfl ?_
              refine ez_goto (q := 88) dL_stays_84 (by decide) ?_
              refine ez_iorN (q := 89) dL_stays_88 rfl ?_
              refine ez_istore_2 (q := 90) dL_stays_89 rfl (by decide) rfl rfl ?_
              refine ez_iincN_4 (q := 93) dL_stays_90 (by decide) rfl rfl ?_
              refine ez_goto (q := 11) dL_stays_93 (by decide) ?_
              exact E.fg (ih11 (i + 1) (by omega) g hI (by omega)) ⟨Or.inr (rfl), Or.inr (rfl), Or.inr (by rw [gsN]; first | rw [if_neg (fun a => hc28 a.1.1)] | rw [if_neg (fun a => hc77 a.2)] | rw [if_neg (fun a => hc48 (a.1.2.resolve_left hf4))] | rw [if_pos (And.intro (And.intro hc28 (Or.inl (fI_m ho.2.1 hc33))) hc77)] | rw [if_pos (And.intro (And.intro hc28 (Or.inr hc48)) hc77)]), Or.inr (by first | rfl | rw [fI_n hf4]), Or.inr (rfl), Or.inl rfl, Or.inl rfl, trivial⟩
      · have hf4 : f ≠ 4 := fun e => hc33 (by rw [e]; rfl)
        rw [fI_n hf4]
        refine ez_aload_n (q := 37) 0 dL_stays_36 rfl rfl rfl ?_
        refine ez_iload (q := 39) dL_stays_37 rfl rfl ?_
        refine ez_iconst (v := nI 0) (q := 40) dL_stays_39 (by decide) rfl ?_
        refine cXv (q := 43) dL_stays_40 ck_L_36 hI.1.1 (v_X7_world (what := 0) hI.rb ho hs (by omega) (by decide)) rfl ⟨by decide, rfl⟩ rfl rfl rfl (Nat.le_of_ble_eq_true rfl) rfl (fun g hW => ?_)
        have hI := hI.tr hW
        clear hW
        refine ez_top (show nI (twN T n' f L ln sg i 0) = nI (L i) from rfl) ?_
        refine ez_iload_n (q := 44) 3 dL_stays_43 rfl rfl rfl ?_
        refine ez_ishrN (q := 45) dL_stays_44 (by have := ho.2.2.1 i (by omega); omega) (by omega) rfl ?_
        refine ez_iconst (v := nI 1) (q := 46) dL_stays_45 (by decide) rfl ?_
        refine ez_iandN (q := 47) dL_stays_46 rfl ?_
        refine ez_iconst (v := nI 1) (q := 48) dL_stays_47 (by decide) rfl ?_
        refine ez_icmpneN (q := 51) (tgt := 55) dL_stays_48 (by decide) (Nat.lt_of_le_of_lt Nat.and_le_right (by decide)) (by decide) rfl (fun hc48 => ?_) (fun hc48 => ?_)
        · refine ez_iconst (v := nI 0) (q := 56) dL_stays_55 (by decide) rfl ?_
          refine ez_istore_5 (q := 58) dL_stays_56 (by decide) rfl rfl ?_
          refine ez_iload_n (q := 59) 2 dL_stays_58 rfl rfl rfl ?_
          refine ez_iload (q := 61) dL_stays_59 rfl rfl ?_
          refine ez_ifeqN (q := 64) (tgt := 87) dL_stays_61 (by decide) (by decide) rfl (fun hc61 => ?_) (fun hc61 => ?_)
          · first
            | exact absurd hc61 (by decide)
            | skip
              refine ez_iconst (v := nI 0) (q := 88) dL_stays_87 (by decide) rfl ?_
              refine ez_iorN (q := 89) dL_stays_88 rfl ?_
              refine ez_istore_2 (q := 90) dL_stays_89 rfl (by decide) rfl rfl ?_
              refine ez_iincN_4 (q := 93) dL_stays_90 (by decide) rfl rfl ?_
              refine ez_goto (q := 11) dL_stays_93 (by decide) ?_
              exact E.fg (ih11 (i + 1) (by omega) g hI (by omega)) ⟨Or.inr (rfl), Or.inr (rfl), Or.inr (by rw [gsN]; first | rw [if_neg (fun a => hc28 a.1.1)] | rw [if_neg (fun a => hc77 a.2)] | rw [if_neg (fun a => hc48 (a.1.2.resolve_left hf4))] | rw [if_pos (And.intro (And.intro hc28 (Or.inl (fI_m ho.2.1 hc33))) hc77)] | rw [if_pos (And.intro (And.intro hc28 (Or.inr hc48)) hc77)]), Or.inr (by first | rfl | rw [fI_n hf4]), Or.inr (rfl), Or.inl rfl, Or.inl rfl, trivial⟩
          · first
            | exact absurd hc61 (by decide)
            | skip
              refine ez_aload_n (q := 65) 0 dL_stays_64 rfl rfl rfl ?_
              refine ez_iload (q := 67) dL_stays_65 rfl rfl ?_
              refine ez_iload_n (q := 68) 1 dL_stays_67 rfl rfl rfl ?_
              refine cSw (q := 71) dL_stays_68 ck_L_48 (c_L_reached hI.rb ho hs (by omega)) rfl rfl rfl (Nat.le_of_ble_eq_true rfl) rfl (fun g hW => ?_)
              have hI := hI.tr hW
              clear hW
              refine ez_iload (q := 73) dL_stays_71 rfl rfl ?_
              refine ez_ishrN (q := 74) dL_stays_73 (lt31 (re_lt hT (by omega)) hn) (by omega) rfl ?_
              refine ez_iconst (v := nI 1) (q := 75) dL_stays_74 (by decide) rfl ?_
              refine ez_iandN (q := 76) dL_stays_75 rfl ?_
              refine ez_iconst (v := nI 1) (q := 77) dL_stays_76 (by decide) rfl ?_
              refine ez_icmpneN (q := 80) (tgt := 87) dL_stays_77 (by decide) (Nat.lt_of_le_of_lt Nat.and_le_right (by decide)) (by decide) rfl (fun hc77 => ?_) (fun hc77 => ?_)
              · refine ez_iconst (v := nI 0) (q := 88) dL_stays_87 (by decide) rfl ?_
                refine ez_iorN (q := 89) dL_stays_88 rfl ?_
                refine ez_istore_2 (q := 90) dL_stays_89 rfl (by decide) rfl rfl ?_
                refine ez_iincN_4 (q := 93) dL_stays_90 (by decide) rfl rfl ?_
                refine ez_goto (q := 11) dL_stays_93 (by decide) ?_
                exact E.fg (ih11 (i + 1) (by omega) g hI (by omega)) ⟨Or.inr (rfl), Or.inr (rfl), Or.inr (by rw [gsN]; first | rw [if_neg (fun a => hc28 a.1.1)] | rw [if_neg (fun a => hc77 a.2)] | rw [if_neg (fun a => hc48 (a.1.2.resolve_left hf4))] | rw [if_pos (And.intro (And.intro hc28 (Or.inl (fI_m ho.2.1 hc33))) hc77)] | rw [if_pos (And.intro (And.intro hc28 (Or.inr hc48)) hc77)]), Or.inr (by first | rfl | rw [fI_n hf4]), Or.inr (rfl), Or.inl rfl, Or.inl rfl, trivial⟩
              · refine ez_iconst (v := nI 1) (q := 81) dL_stays_80 (by decide) rfl ?_
                refine ez_iload (q := 83) dL_stays_81 rfl rfl ?_
                refine ez_shl1 (q := 84) dL_stays_83 (by omega) rfl ?_
                refine ez_goto (q := 88) dL_stays_84 (by decide) ?_
                refine ez_iorN (q := 89) dL_stays_88 rfl ?_
                refine ez_istore_2 (q := 90) dL_stays_89 rfl (by decide) rfl rfl ?_
                refine ez_iincN_4 (q := 93) dL_stays_90 (by decide) rfl rfl ?_
                refine ez_goto (q := 11) dL_stays_93 (by decide) ?_
                exact E.fg (ih11 (i + 1) (by omega) g hI (by omega)) ⟨Or.inr (rfl), Or.inr (rfl), Or.inr (by rw [gsN]; first | rw [if_neg (fun a => hc28 a.1.1)] | rw [if_neg (fun a => hc77 a.2)] | rw [if_neg (fun a => hc48 (a.1.2.resolve_left hf4))] | rw [if_pos (And.intro (And.intro hc28 (Or.inl (fI_m ho.2.1 hc33))) hc77)] | rw [if_pos (And.intro (And.intro hc28 (Or.inr hc48)) hc77)]), Or.inr (by first | rfl | rw [fI_n hf4]), Or.inr (rfl), Or.inl rfl, Or.inl rfl, trivial⟩
        · refine ez_iconst (v := nI 1) (q := 52) dL_stays_51 (by decide) rfl ?_
          refine ez_goto (q := 56) dL_stays_52 (by decide) ?_
          refine ez_istore_5 (q := 58) dL_stays_56 (by decide) rfl rfl ?_
          refine ez_iload_n (q := 59) 2 dL_stays_58 rfl rfl rfl ?_
          refine ez_iload (q := 61) dL_stays_59 rfl rfl ?_
          refine ez_ifeqN (q := 64) (tgt := 87) dL_stays_61 (by decide) (by decide) rfl (fun hc61 => ?_) (fun hc61 => ?_)
          · first
            | exact absurd hc61 (by decide)
            | skip
              refine ez_iconst (v := nI 0) (q := 88) dL_stays_87 (by decide) rfl ?_
              refine ez_iorN (q := 89) dL_stays_88 rfl ?_
              refine ez_istore_2 (q := 90) dL_stays_89 rfl (by decide) rfl rfl ?_
              refine ez_iincN_4 (q := 93) dL_stays_90 (by decide) rfl rfl ?_
              refine ez_goto (q := 11) dL_stays_93 (by decide) ?_
              exact E.fg (ih11 (i + 1) (by omega) g hI (by omega)) ⟨Or.inr (rfl), Or.inr (rfl), Or.inr (by rw [gsN]; first | rw [if_neg (fun a => hc28 a.1.1)] | rw [if_neg (fun a => hc77 a.2)] | rw [if_neg (fun a => hc48 (a.1.2.resolve_left hf4))] | rw [if_pos (And.intro (And.intro hc28 (Or.inl (fI_m ho.2.1 hc33))) hc77)] | rw [if_pos (And.intro (And.intro hc28 (Or.inr hc48)) hc77)]), Or.inr (by first | rfl | rw [fI_n hf4]), Or.inr (rfl), Or.inl rfl, Or.inl rfl, trivial⟩
          · first
            | exact absurd hc61 (by decide)
            | skip
              refine ez_aload_n (q := 65) 0 dL_stays_64 rfl rfl rfl ?_
              refine ez_iload (q := 67) dL_stays_65 rfl rfl ?_
              refine ez_iload_n (q := 68) 1 dL_stays_67 rfl rfl rfl ?_
              refine cSw (q := 71) dL_stays_68 ck_L_48 (c_L_reached hI.rb ho hs (by omega)) rfl rfl rfl (Nat.le_of_ble_eq_true rfl) rfl (fun g hW => ?_)
              have hI := hI.tr hW
              clear hW
              refine ez_iload (q := 73) dL_stays_71 rfl rfl ?_
              refine ez_ishrN (q := 74) dL_stays_73 (lt31 (re_lt hT (by omega)) hn) (by omega) rfl ?_
              refine ez_iconst (v := nI 1) (q := 75) dL_stays_74 (by decide) rfl ?_
              refine ez_iandN (q := 76) dL_stays_75 rfl ?_
              refine ez_iconst (v := nI 1) (q := 77) dL_stays_76 (by decide) rfl ?_
              refine ez_icmpneN (q := 80) (tgt := 87) dL_stays_77 (by decide) (Nat.lt_of_le_of_lt Nat.and_le_right (by decide)) (by decide) rfl (fun hc77 => ?_) (fun hc77 => ?_)
              · refine ez_iconst (v := nI 0) (q := 88) dL_stays_87 (by decide) rfl ?_
                refine ez_iorN (q := 89) dL_stays_88 rfl ?_
                refine ez_istore_2 (q := 90) dL_stays_89 rfl (by decide) rfl rfl ?_
                refine ez_iincN_4 (q := 93) dL_stays_90 (by decide) rfl rfl ?_
                refine ez_goto (q := 11) dL_stays_93 (by decide) ?_
                exact E.fg (ih11 (i + 1) (by omega) g hI (by omega)) ⟨Or.inr (rfl), Or.inr (rfl), Or.inr (by rw [gsN]; first | rw [if_neg (fun a => hc28 a.1.1)] | rw [if_neg (fun a => hc77 a.2)] | rw [if_neg (fun a => hc48 (a.1.2.resolve_left hf4))] | rw [if_pos (And.intro (And.intro hc28 (Or.inl (fI_m ho.2.1 hc33))) hc77)] | rw [if_pos (And.intro (And.intro hc28 (Or.inr hc48)) hc77)]), Or.inr (by first | rfl | rw [fI_n hf4]), Or.inr (rfl), Or.inl rfl, Or.inl rfl, trivial⟩
              · refine ez_iconst (v := nI 1) (q := 81) dL_stays_80 (by decide) rfl ?_
                refine ez_iload (q := 83) dL_stays_81 rfl rfl ?_
                refine ez_shl1 (q := 84) dL_stays_83 (by omega) rfl ?_
                refine ez_goto (q := 88) dL_stays_84 (by decide) ?_
                refine ez_iorN (q := 89) dL_stays_88 rfl ?_
                refine ez_istore_2 (q := 90) dL_stays_89 rfl (by decide) rfl rfl ?_
                refine ez_iincN_4 (q := 93) dL_stays_90 (by decide) rfl rfl ?_
                refine ez_goto (q := 11) dL_stays_93 (by decide) ?_
                exact E.fg (ih11 (i + 1) (by omega) g hI (by omega)) ⟨Or.inr (rfl), Or.inr (rfl), Or.inr (by rw [gsN]; first | rw [if_neg (fun a => hc28 a.1.1)] | rw [if_neg (fun a => hc77 a.2)] | rw [if_neg (fun a => hc48 (a.1.2.resolve_left hf4))] | rw [if_pos (And.intro (And.intro hc28 (Or.inl (fI_m ho.2.1 hc33))) hc77)] | rw [if_pos (And.intro (And.intro hc28 (Or.inr hc48)) hc77)]), Or.inr (by first | rfl | rw [fI_n hf4]), Or.inr (rfl), Or.inl rfl, Or.inl rfl, trivial⟩

set_option maxHeartbeats 800000 in
set_option maxRecDepth 100000 in
theorem c_L_comes {G : ez_G} {d n : Nat} {h : ez_H} {n' f k t : Nat} {L T ln : Nat → Nat} {sg : Nat → Nat → Nat} {zs : Nat → AS} {b : Nat → Nat} {y a l : Nat} (hI : CJ h h n' f L T ln sg k zs t b) (ho : OK n' f L T ln sg) (hs : WFS ln sg) (hg2 : a &&& l < 2 ^ n') : Con G mL_comes (d + 10) [.ref 1, .int (nI y), .int (nI a), .int (nI l)] h n 0 0 (PW n (some (.int (nI (unN T n' y (a &&& l))))) (fun g => CJ h g n' f L T ln sg k zs t b)) := by
  have hn := ho.1
  refine Con.of [some (.ref 1), some (.int (nI y)), some (.int (nI a)), some (.int (nI l)), none, none, none, none] pl_L rfl (Nat.le_of_ble_eq_true rfl) rfl ?_
  have hQ : ∀ g, CJ h g n' f L T ln sg k zs t b → (PW n (some (.int (nI (unN T n' y (a &&& l))))) (fun g => CJ h g n' f L T ln sg k zs t b)) (.inl (some (.int (nI (unN T n' y (a &&& l)))))) g n := fun g h1 => ⟨rfl, h1, rfl⟩
  generalize PW n (some (.int (nI (unN T n' y (a &&& l))))) (fun g => CJ h g n' f L T ln sg k zs t b) = Q at hQ ⊢
  refine ez_iload_n (q := 1) 2 dL_comes_0 rfl rfl rfl ?_
  refine ez_iload_n (q := 2) 3 dL_comes_1 rfl rfl rfl ?_
  refine ez_iandN (q := 3) dL_comes_2 rfl ?_
  refine ez_istore_4 (q := 5) dL_comes_3 (by decide) rfl rfl ?_
  refine ez_iload (q := 7) dL_comes_5 rfl rfl ?_
  refine ez_istore_5 (q := 9) dL_comes_7 (by decide) rfl rfl ?_
  refine ez_iconst (v := nI 0) (q := 10) dL_comes_9 (by decide) rfl ?_
  refine ez_istore_6 (q := 12) dL_comes_10 (by decide) rfl rfl ?_
  refine ez_loop (α := Nat × Nat) (fun z99 => match z99 with | (i, F) => n' - i) (P := fun z99 => match z99 with | (i, F) => ∀ (g : ez_H) , CJ h g n' f L T ln sg k zs t b → (i ≤ n') → (sbN F (laN T n' y (a &&& l) i)) → (sbN (y &&& inN T (laN T n' y (a &&& l) i) n') (laN T n' y (a &&& l) i ||| (y &&& inN T F n'))) → E G mL_comes (d + 10) Q g n 0 0 12 [some (.ref 1), some (.int (nI y)), some (.int (nI a)), some (.int (nI l)), some (.int (nI F)), some (.int (nI (laN T n' y (a &&& l) i))), some (.int (nI i)), none] []) ?_ (0, a &&& l) h hI (Nat.zero_le _) cm_0.1 cm_0.2
  rintro ⟨i, F⟩ ih12
  dsimp only at ih12 ⊢
  obtain ⟨μ12, hμ12⟩ : ∃ y99, y99 = n' - i := ⟨_, rfl⟩
  rw [← hμ12] at ih12
  have ih12 : ∀ (i : Nat) (F : Nat), n' - i < μ12 → ∀ (g : ez_H) , CJ h g n' f L T ln sg k zs t b → (i ≤ n') → (sbN F (laN T n' y (a &&& l) i)) → (sbN (y &&& inN T (laN T n' y (a &&& l) i) n') (laN T n' y (a &&& l) i ||| (y &&& inN T F n'))) → E G mL_comes (d + 10) Q g n 0 0 12 [some (.ref 1), some (.int (nI y)), some (.int (nI a)), some (.int (nI l)), some (.int (nI F)), some (.int (nI (laN T n' y (a &&& l) i))), some (.int (nI i)), none] [] := fun i F => ih12 (i, F)
  intro g  hM hi h1 h2
  have hI := hM
  refine ez_iload (q := 14) dL_comes_12 rfl rfl ?_
  refine ez_aload_n (q := 15) 0 dL_comes_14 rfl rfl rfl ?_
  refine ez_iconst (v := nI 0) (q := 16) dL_comes_15 (by decide) rfl ?_
  refine cXv (q := 19) dL_comes_16 ck_L_45 hI.1.1 (v_X7_count (what := 0) hI.rb ho hs (by decide)) rfl ⟨by decide, rfl⟩ rfl rfl rfl (Nat.le_of_ble_eq_true rfl) rfl (fun g hW => ?_)
  have hI := hI.tr hW
  clear hW
  refine ez_top (show couI T n' f L ln sg k 0 = nI n' from rfl) ?_
  refine ez_icmpgeN (q := 22) (tgt := 54) dL_comes_19 (by decide) (by omega) (by omega) rfl (fun hc19 => ?_) (fun hc19 => ?_)
  · have e9 : i = n' := by omega
    rw [e9, la_un hn hg2]
    refine ez_iload (q := 56) dL_comes_54 rfl rfl ?_
    exact ez_iret dL_comes_56 rfl (hQ _ hI)
  · refine ez_iload_n (q := 23) 1 dL_comes_22 rfl rfl rfl ?_
    refine ez_aload_n (q := 24) 0 dL_comes_23 rfl rfl rfl ?_
    refine ez_iload (q := 26) dL_comes_24 rfl rfl ?_
    refine cSw (q := 29) dL_comes_26 ck_L_52 (c_L_into hI.rb ho hs) rfl rfl rfl (Nat.le_of_ble_eq_true rfl) rfl (fun g hW => ?_)
    have hI := hI.tr hW
    clear hW
    refine ez_iandN (q := 30) dL_comes_29 rfl ?_
    refine ez_iload (q := 32) dL_comes_30 rfl rfl ?_
    refine ez_iconst (v := -1) (q := 33) dL_comes_32 (by decide) rfl ?_
    refine ez_ixor (q := 34) dL_comes_33 rfl ?_
    refine ez_iandX (q := 35) dL_comes_34 rfl ?_
    refine ez_istore_7 (q := 37) dL_comes_35 (by decide) rfl rfl ?_
    refine ez_iload (q := 39) dL_comes_37 rfl rfl ?_
    refine ez_iload (q := 41) dL_comes_39 rfl rfl ?_
    refine ez_iorN (q := 42) dL_comes_41 rfl ?_
    refine ez_istore_5 (q := 44) dL_comes_42 (by decide) rfl rfl ?_
    refine ez_iload (q := 46) dL_comes_44 rfl rfl ?_
    refine ez_istore_4 (q := 48) dL_comes_46 (by decide) rfl rfl ?_
    refine ez_iincN_6 (q := 51) dL_comes_48 (by decide) rfl rfl ?_
    refine ez_goto (q := 12) dL_comes_51 (by decide) ?_
    exact E.fg (ih12 (i + 1) (ndN (y &&& inN T F n') (laN T n' y (a &&& l) i)) (by omega) g hI (by omega) (cm_inv h1 h2).2.1 (cm_inv h1 h2).2.2) ⟨Or.inr (rfl), Or.inr (rfl), Or.inr (rfl), Or.inr (rfl), Or.inr (rfl), Or.inr (by rw [(cm_inv h1 h2).1]), Or.inr (rfl), Or.inl rfl, trivial⟩

set_option maxHeartbeats 800000 in
set_option maxRecDepth 100000 in
theorem c_L_due {G : ez_G} {d n : Nat} {h : ez_H} {n' f k t : Nat} {L T ln : Nat → Nat} {sg : Nat → Nat → Nat} {zs : Nat → AS} {b : Nat → Nat} {c y a bb : Nat} (hI : CJ h h n' f L T ln sg k zs t b) (ho : OK n' f L T ln sg) (hs : WFS ln sg) (hc : c = 69 ∨ c = 65) (hy : y = 88 ∨ y = 70 ∨ y = 71 ∨ y = 85) (ha : a < 2 ^ n') (hb : bb < 2 ^ n') : Con G mL_due (d + 11) [.ref 1, .int (nI c), .int (nI y), .int (nI a), .int (nI bb), .int (nI (lvN T n' f L))] h n 0 0 (PW n (some (.int (nI (duW T n' f L c y a bb)))) (fun g => CJ h g n' f L T ln sg k zs t b)) := by
  have hn := ho.1
  have hal := al_lt n'
  have hna : ndN (2 ^ n' - 1) a < 2 ^ n' := nd_lt hal
  have hnb : ndN (2 ^ n' - 1) bb < 2 ^ n' := nd_lt hal
  refine Con.of [some (.ref 1), some (.int (nI c)), some (.int (nI y)), some (.int (nI a)), some (.int (nI bb)), some (.int (nI (lvN T n' f L))), none, none, none, none] pl_L rfl (Nat.le_of_ble_eq_true rfl) rfl ?_
  have hQ : ∀ g, CJ h g n' f L T ln sg k zs t b → (PW n (some (.int (nI (duW T n' f L c y a bb)))) (fun g => CJ h g n' f L T ln sg k zs t b)) (.inl (some (.int (nI (duW T n' f L c y a bb))))) g n := fun g h1 => ⟨rfl, h1, rfl⟩
  generalize PW n (some (.int (nI (duW T n' f L c y a bb)))) (fun g => CJ h g n' f L T ln sg k zs t b) = Q at hQ ⊢
  refine ez_iconst (v := nI 1) (q := 1) dL_due_0 (by decide) rfl ?_
  refine ez_aload_n (q := 2) 0 dL_due_1 rfl rfl rfl ?_
  refine ez_iconst (v := nI 0) (q := 3) dL_due_2 (by decide) rfl ?_
  refine cXv (q := 6) dL_due_3 ck_L_45 hI.1.1 (v_X7_count (what := 0) hI.rb ho hs (by decide)) rfl ⟨by decide, rfl⟩ rfl rfl rfl (Nat.le_of_ble_eq_true rfl) rfl (fun g hW => ?_)
  have hI := hI.tr hW
  clear hW
  refine ez_top (show couI T n' f L ln sg k 0 = nI n' from rfl) ?_
  refine ez_shl1 (q := 7) dL_due_6 (by omega) rfl ?_
  refine ez_iconst (v := nI 1) (q := 8) dL_due_7 (by decide) rfl ?_
  refine ez_isubN (q := 9) dL_due_8 (Nat.two_pow_pos _) rfl ?_
  refine ez_istore_6 (q := 11) dL_due_9 (by decide) rfl rfl ?_
  refine ez_iload (q := 13) dL_due_11 rfl rfl ?_
  refine ez_iload_n (q := 14) 3 dL_due_13 rfl rfl rfl ?_
  refine ez_iconst (v := -1) (q := 15) dL_due_14 (by decide) rfl ?_
  refine ez_ixor (q := 16) dL_due_15 rfl ?_
  refine ez_iandX (q := 17) dL_due_16 rfl ?_
  refine ez_istore_7 (q := 19) dL_due_17 (by decide) rfl rfl ?_
  refine ez_iload (q := 21) dL_due_19 rfl rfl ?_
  refine ez_iload (q := 23) dL_due_21 rfl rfl ?_
  refine ez_iconst (v := -1) (q := 24) dL_due_23 (by decide) rfl ?_
  refine ez_ixor (q := 25) dL_due_24 rfl ?_
  refine ez_iandX (q := 26) dL_due_25 rfl ?_
  refine ez_istore_8 (q := 28) dL_due_26 (by decide) rfl rfl ?_
  refine ez_iload_n (q := 29) 1 dL_due_28 rfl rfl rfl ?_
  refine ez_bipush (v := nI 69) (q := 31) dL_due_29 (by decide) rfl ?_
  refine ez_icmpneN (q := 34) (tgt := 93) dL_due_31 (by decide) (by omega) (by decide) rfl (fun hc31 => ?_) (fun hc31 => ?_)
  · refine ez_iload_n (q := 94) 2 dL_due_93 rfl rfl rfl ?_
    refine ez_bipush (v := nI 88) (q := 96) dL_due_94 (by decide) rfl ?_
    refine ez_icmpneN (q := 99) (tgt := 111) dL_due_96 (by decide) (by omega) (by decide) rfl (fun hc96 => ?_) (fun hc96 => ?_)
    · refine ez_iload_n (q := 112) 2 dL_due_111 rfl rfl rfl ?_
      refine ez_bipush (v := nI 70) (q := 114) dL_due_112 (by decide) rfl ?_
      refine ez_icmpneN (q := 117) (tgt := 126) dL_due_114 (by decide) (by omega) (by decide) rfl (fun hc114 => ?_) (fun hc114 => ?_)
      · refine ez_iload_n (q := 127) 2 dL_due_126 rfl rfl rfl ?_
        refine ez_bipush (v := nI 71) (q := 129) dL_due_127 (by decide) rfl ?_
        refine ez_icmpneN (q := 132) (tgt := 145) dL_due_129 (by decide) (by omega) (by decide) rfl (fun hc129 => ?_) (fun hc129 => ?_)
        · rw [du_A85 hc31 (by omega)] at hQ
          refine ez_aload_n (q := 146) 0 dL_due_145 rfl rfl rfl ?_
          refine ez_iload (q := 148) dL_due_146 rfl rfl ?_
          refine ez_iload (q := 150) dL_due_148 rfl rfl ?_
          refine ez_iload (q := 152) dL_due_150 rfl rfl ?_
          refine ez_iandN (q := 153) dL_due_152 rfl ?_
          refine ez_iload (q := 155) dL_due_153 rfl rfl ?_
          refine cSw (q := 158) dL_due_155 ck_L_56 (c_L_comes hI.rb ho hs (and_lt (and_lt hna))) rfl rfl rfl (Nat.le_of_ble_eq_true rfl) rfl (fun g hW => ?_)
          have hI := hI.tr hW
          clear hW
          refine ez_aload_n (q := 159) 0 dL_due_158 rfl rfl rfl ?_
          refine ez_iload (q := 161) dL_due_159 rfl rfl ?_
          refine cSw (q := 164) dL_due_161 ck_L_60 (c_L_stays hI.rb ho hs hnb) rfl rfl rfl (Nat.le_of_ble_eq_true rfl) rfl (fun g hW => ?_)
          have hI := hI.tr hW
          clear hW
          refine ez_iorN (q := 165) dL_due_164 rfl ?_
          refine ez_istore_9 (q := 167) dL_due_165 (by decide) rfl rfl ?_
          refine ez_iload (q := 169) dL_due_167 rfl rfl ?_
          refine ez_iload (q := 171) dL_due_169 rfl rfl ?_
          refine ez_iconst (v := -1) (q := 172) dL_due_171 (by decide) rfl ?_
          refine ez_ixor (q := 173) dL_due_172 rfl ?_
          refine ez_iandX (q := 174) dL_due_173 rfl ?_
          exact ez_iret dL_due_174 rfl (hQ _ hI)
        · rw [du_A71 hc31 hc129] at hQ
          refine ez_aload_n (q := 133) 0 dL_due_132 rfl rfl rfl ?_
          refine ez_iload (q := 135) dL_due_133 rfl rfl ?_
          refine ez_iload (q := 137) dL_due_135 rfl rfl ?_
          refine ez_iload (q := 139) dL_due_137 rfl rfl ?_
          refine cSw (q := 142) dL_due_139 ck_L_56 (c_L_comes hI.rb ho hs (and_lt hna)) rfl rfl rfl (Nat.le_of_ble_eq_true rfl) rfl (fun g hW => ?_)
          have hI := hI.tr hW
          clear hW
          refine ez_goto (q := 165) dL_due_142 (by decide) ?_
          refine ez_istore_9 (q := 167) dL_due_165 (by decide) rfl rfl ?_
          refine ez_iload (q := 169) dL_due_167 rfl rfl ?_
          refine ez_iload (q := 171) dL_due_169 rfl rfl ?_
          refine ez_iconst (v := -1) (q := 172) dL_due_171 (by decide) rfl ?_
          refine ez_ixor (q := 173) dL_due_172 rfl ?_
          refine ez_iandX (q := 174) dL_due_173 rfl ?_
          exact ez_iret dL_due_174 rfl (hQ _ hI)
      · rw [du_A70 hc31 hc114] at hQ
        refine ez_aload_n (q := 118) 0 dL_due_117 rfl rfl rfl ?_
        refine ez_iload (q := 120) dL_due_118 rfl rfl ?_
        refine cSw (q := 123) dL_due_120 ck_L_60 (c_L_stays hI.rb ho hs hna) rfl rfl rfl (Nat.le_of_ble_eq_true rfl) rfl (fun g hW => ?_)
        have hI := hI.tr hW
        clear hW
        refine ez_goto (q := 165) dL_due_123 (by decide) ?_
        refine ez_istore_9 (q := 167) dL_due_165 (by decide) rfl rfl ?_
        refine ez_iload (q := 169) dL_due_167 rfl rfl ?_
        refine ez_iload (q := 171) dL_due_169 rfl rfl ?_
        refine ez_iconst (v := -1) (q := 172) dL_due_171 (by decide) rfl ?_
        refine ez_ixor (q := 173) dL_due_172 rfl ?_
        refine ez_iandX (q := 174) dL_due_173 rfl ?_
        exact ez_iret dL_due_174 rfl (hQ _ hI)
    · rw [du_A88 hc31 hc96] at hQ
      refine ez_aload_n (q := 100) 0 dL_due_99 rfl rfl rfl ?_
      refine ez_iload (q := 102) dL_due_100 rfl rfl ?_
      refine ez_iload (q := 104) dL_due_102 rfl rfl ?_
      refine ez_iandN (q := 105) dL_due_104 rfl ?_
      refine cSw (q := 108) dL_due_105 ck_L_52 (c_L_into hI.rb ho hs) rfl rfl rfl (Nat.le_of_ble_eq_true rfl) rfl (fun g hW => ?_)
      have hI := hI.tr hW
      clear hW
      refine ez_goto (q := 165) dL_due_108 (by decide) ?_
      refine ez_istore_9 (q := 167) dL_due_165 (by decide) rfl rfl ?_
      refine ez_iload (q := 169) dL_due_167 rfl rfl ?_
      refine ez_iload (q := 171) dL_due_169 rfl rfl ?_
      refine ez_iconst (v := -1) (q := 172) dL_due_171 (by decide) rfl ?_
      refine ez_ixor (q := 173) dL_due_172 rfl ?_
      refine ez_iandX (q := 174) dL_due_173 rfl ?_
      exact ez_iret dL_due_174 rfl (hQ _ hI)
  · refine ez_iload_n (q := 35) 2 dL_due_34 rfl rfl rfl ?_
    refine ez_bipush (v := nI 88) (q := 37) dL_due_35 (by decide) rfl ?_
    refine ez_icmpneN (q := 40) (tgt := 51) dL_due_37 (by decide) (by omega) (by decide) rfl (fun hc37 => ?_) (fun hc37 => ?_)
    · refine ez_iload_n (q := 52) 2 dL_due_51 rfl rfl rfl ?_
      refine ez_bipush (v := nI 70) (q := 54) dL_due_52 (by decide) rfl ?_
      refine ez_icmpneN (q := 57) (tgt := 69) dL_due_54 (by decide) (by omega) (by decide) rfl (fun hc54 => ?_) (fun hc54 => ?_)
      · refine ez_iload_n (q := 70) 2 dL_due_69 rfl rfl rfl ?_
        refine ez_bipush (v := nI 71) (q := 72) dL_due_70 (by decide) rfl ?_
        refine ez_icmpneN (q := 75) (tgt := 83) dL_due_72 (by decide) (by omega) (by decide) rfl (fun hc72 => ?_) (fun hc72 => ?_)
        · rw [du_E85 hc31 (by omega)] at hQ
          refine ez_aload_n (q := 84) 0 dL_due_83 rfl rfl rfl ?_
          refine ez_iload_n (q := 85) 3 dL_due_84 rfl rfl rfl ?_
          refine ez_iload (q := 87) dL_due_85 rfl rfl ?_
          refine ez_iload (q := 89) dL_due_87 rfl rfl ?_
          refine cSw (q := 92) dL_due_89 ck_L_56 (c_L_comes hI.rb ho hs (and_lt hb)) rfl rfl rfl (Nat.le_of_ble_eq_true rfl) rfl (fun g hW => ?_)
          have hI := hI.tr hW
          clear hW
          exact ez_iret dL_due_92 rfl (hQ _ hI)
        · rw [du_E71 hc31 hc72] at hQ
          refine ez_aload_n (q := 76) 0 dL_due_75 rfl rfl rfl ?_
          refine ez_iload_n (q := 77) 3 dL_due_76 rfl rfl rfl ?_
          refine cSw (q := 80) dL_due_77 ck_L_60 (c_L_stays hI.rb ho hs ha) rfl rfl rfl (Nat.le_of_ble_eq_true rfl) rfl (fun g hW => ?_)
          have hI := hI.tr hW
          clear hW
          refine ez_goto (q := 92) dL_due_80 (by decide) ?_
          exact ez_iret dL_due_92 rfl (hQ _ hI)
      · rw [du_E70 hc31 hc54] at hQ
        refine ez_aload_n (q := 58) 0 dL_due_57 rfl rfl rfl ?_
        refine ez_iload (q := 60) dL_due_58 rfl rfl ?_
        refine ez_iload_n (q := 61) 3 dL_due_60 rfl rfl rfl ?_
        refine ez_iload (q := 63) dL_due_61 rfl rfl ?_
        refine cSw (q := 66) dL_due_63 ck_L_56 (c_L_comes hI.rb ho hs (and_lt ha)) rfl rfl rfl (Nat.le_of_ble_eq_true rfl) rfl (fun g hW => ?_)
        have hI := hI.tr hW
        clear hW
        refine ez_goto (q := 92) dL_due_66 (by decide) ?_
        exact ez_iret dL_due_92 rfl (hQ _ hI)
    · rw [du_E88 hc31 hc37] at hQ
      refine ez_aload_n (q := 41) 0 dL_due_40 rfl rfl rfl ?_
      refine ez_iload_n (q := 42) 3 dL_due_41 rfl rfl rfl ?_
      refine ez_iload (q := 44) dL_due_42 rfl rfl ?_
      refine ez_iandN (q := 45) dL_due_44 rfl ?_
      refine cSw (q := 48) dL_due_45 ck_L_52 (c_L_into hI.rb ho hs) rfl rfl rfl (Nat.le_of_ble_eq_true rfl) rfl (fun g hW => ?_)
      have hI := hI.tr hW
      clear hW
      refine ez_goto (q := 92) dL_due_48 (by decide) ?_
      exact ez_iret dL_due_92 rfl (hQ _ hI)

