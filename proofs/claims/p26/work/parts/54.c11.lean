theorem MG.way {g g' : ez_H} {T : Nat → Nat} {n f : Nat} {L ln : Nat → Nat} {sg : Nat → Nat → Nat} {w r : Nat} {h0 : ez_H} {wl : Int32} {rw la : Nat → Int32} (hG : MG 41 2 h0 g T n f L ln sg w) (hM : WW g g' (nI (2 ^ n - 1)) (nI (lvN T n f L)) (nI r) (nI (goW n f L)) wl rw la) : MG 41 2 g' g' T n f L ln sg w := by
  obtain ⟨mg, me, md, mt, mr, r0, hF, h1⟩ := hG
  refine ⟨mg, me, md, mt, mr, r, ⟨hF.1, ?_, ?_, ?_, ?_, ?_, ?_, hM.1, fun _ _ => rfl⟩, h1⟩
  · exact (hM.fr 41 (by omega)).trans hF.2.1
  · exact (hM.fr 42 (by omega)).trans hF.2.2.1
  · exact (hM.fr 43 (by omega)).trans hF.2.2.2.1
  · exact (hM.fr 44 (by omega)).trans hF.2.2.2.2.1
  · exact (hM.fr 45 (by omega)).trans hF.2.2.2.2.2.1
  · exact (hM.fr 46 (by omega)).trans hF.2.2.2.2.2.2.1
theorem WW.wo {h0 h : ez_H} {al li ro go wl : Int32} {rw la : Nat → Int32} (hM : WW h0 h al li ro go wl rw la) : WO h := ⟨wl, rw, la, hM.2.1, hM.2.2.1, hM.2.2.2.1⟩
theorem CJ.way {h0 g g' : ez_H} {n f k t w r : Nat} {L T ln : Nat → Nat} {sg : Nat → Nat → Nat} {zs : Nat → AS} {b : Nat → Nat} {h1 : ez_H} {wl : Int32} {rw la : Nat → Int32} (hI : CJ h0 g n f L T ln sg k zs t b) (hG : MG 41 2 h1 g T n f L ln sg w) (hM : WW g g' (nI (2 ^ n - 1)) (nI (lvN T n f L)) (nI r) (nI (goW n f L)) wl rw la) : CJ h0 g' n f L T ln sg k zs t b := hI.scr (hG.way hM).x hM.wo (hI.tr9.to (fun j a c => hM.fr j (by omega))) (fun j hj => hM.fr j (by omega))
theorem nd_0 {a b : Nat} : ndN a b = 0 ↔ a &&& b = a := by
  constructor
  · intro h
    apply Nat.eq_of_testBit_eq
    intro i
    have h1 : (ndN a b).testBit i = false := by rw [h, Nat.zero_testBit]
    rw [ndN_bit] at h1
    rw [Nat.testBit_and]
    cases ha : a.testBit i with
    | false => rfl
    | true =>
      rw [ha] at h1
      cases hb : b.testBit i with
      | true => rfl
      | false => rw [hb] at h1; cases h1
  · intro h; rw [ndN, h, Nat.xor_self]
theorem cmN_1 {a b : Nat} (h0 : ¬ a = b) (h : a &&& b = a) : cmN a b = 1 := by rw [cmN, if_neg h0, if_pos (nd_0.mpr h)]
theorem cmN_2 {a b : Nat} (h0 : ¬ a = b) (h1 : ¬ a &&& b = a) (h : a &&& b = b) : cmN a b = 2 := by rw [cmN, if_neg h0, if_neg (fun e => h1 (nd_0.mp e)), if_pos (nd_0.mpr (by rw [Nat.and_comm]; exact h))]
theorem cmN_3 {a b : Nat} (h0 : ¬ a = b) (h1 : ¬ a &&& b = a) (h : ¬ a &&& b = b) : cmN a b = 3 := by rw [cmN, if_neg h0, if_neg (fun e => h1 (nd_0.mp e)), if_neg (fun e => h (by rw [Nat.and_comm]; exact nd_0.mp e))]
theorem ct_top {a n : Nat} (h : a < 2 ^ n) : ∀ m, n ≤ m → ctN a m = ctN a n := by
  intro m hm
  induction hm with
  | refl => rfl
  | step hm ih =>
    rename_i m
    rw [ctN, ih, Nat.testBit_lt_two_pow (Nat.lt_of_lt_of_le h (Nat.pow_le_pow_right (by decide) hm)), if_neg Bool.false_ne_true]
    rfl
theorem sl_ct {T : Nat → Nat} {n : Nat} (hT : ∀ i, i < n → T i < 2 ^ n) : ∀ m, m ≤ n → ctN (inN T (2 ^ n - 1) n) m + slN T m = m := by
  intro m
  induction m with
  | zero => intro _; rfl
  | succ m ih =>
    intro hm
    have h1 := ih (by omega)
    rw [ctN, slN, inN_bit, and_all (hT m (by omega))]
    by_cases h : T m = 0
    · rw [if_pos h, if_neg (by simp [h])]; omega
    · rw [if_neg h, if_pos (by simp [h]; omega)]; omega
theorem sl_eq {T : Nat → Nat} {n : Nat} (hn : n ≤ 10) (hT : ∀ i, i < n → T i < 2 ^ n) : ctN (inN T (2 ^ n - 1) n) 10 ≤ n ∧ n - ctN (inN T (2 ^ n - 1) n) 10 = slN T n := by
  have h1 := sl_ct hT n (Nat.le_refl n)
  rw [ct_top (inN_lt T _ n) 10 hn]
  omega
/-- sums -/
def suN (a : Nat → Nat) : Nat → Nat
  | 0 => 0
  | k + 1 => suN a k + a k
theorem su_eq {a b : Nat → Nat} : ∀ k, (∀ i, i < k → a i = b i) → suN a k = suN b k := by
  intro k
  induction k with
  | zero => intro _; rfl
  | succ k ih => intro h; rw [suN, suN, ih (fun i hi => h i (by omega)), h k (Nat.lt_succ_self k)]
theorem su_add (a b : Nat → Nat) : ∀ k, suN (fun i => a i + b i) k = suN a k + suN b k := by
  intro k
  induction k with
  | zero => rfl
  | succ k ih => rw [suN, suN, suN, ih]; omega
theorem su_0 : ∀ k, suN (fun _ => 0) k = 0 := by
  intro k
  induction k with
  | zero => rfl
  | succ k ih => rw [suN, ih]
theorem su_swap (a : Nat → Nat → Nat) (m : Nat) : ∀ n, suN (fun i => suN (a i) m) n = suN (fun w => suN (fun i => a i w) n) m := by
  intro n
  induction n with
  | zero => exact (su_0 m).symm
  | succ n ih =>
    rw [suN, ih, ← su_add]
    rfl
theorem ct_su (a : Nat) : ∀ k, ctN a k = suN (fun j => if a.testBit j then 1 else 0) k := by
  intro k
  induction k with
  | zero => rfl
  | succ k ih => rw [ctN, suN, ih]
section
variable {T : Nat → Nat} {n f : Nat} {L : Nat → Nat} {ln : Nat → Nat} {sg : Nat → Nat → Nat}
theorem wa_s {i w : Nat} (h : 0 < ln w) : waN T n f L ln sg i w ||| (hW T n f L ln sg w >>> i &&& 1) * 2 ^ w = waN T n f L ln sg i (w + 1) := by
  rcases b01 (hW T n f L ln sg w) i with h1 | h1
  · rw [h1, Nat.zero_mul, Nat.or_zero, wa_f (fun a => by rw [h1] at a; exact absurd a.2 (by decide))]
  · rw [h1, Nat.one_mul, wa_t h h1]
theorem wa_z {i w : Nat} (h : ln w = 0) : waN T n f L ln sg i w = waN T n f L ln sg i (w + 1) := (wa_f (fun a => absurd a.1 (by omega))).symm
theorem ah_z {w : Nat} (h : ln w = 0) : ahN T n f L ln sg w = ahN T n f L ln sg (w + 1) := by rw [ah_f h, Nat.and_self]
theorem wa_bit {i : Nat} : ∀ m w, (waN T n f L ln sg i m).testBit w = (decide (w < m) && haN T n f L ln sg i w) := by
  intro m
  induction m with
  | zero => intro w; simp [waN]
  | succ m ih =>
    intro w
    rw [waN, Nat.testBit_or, ih]
    by_cases e : w = m
    · subst e
      cases hb : haN T n f L ln sg i w with
      | true => rw [if_pos rfl, Nat.testBit_two_pow_self]; simp
      | false => rw [if_neg (by decide)]; simp
    · have h2 : (if haN T n f L ln sg i m = true then 2 ^ m else 0).testBit w = false := by
        split
        · exact Nat.testBit_two_pow_of_ne (Ne.symm e)
        · exact Nat.zero_testBit w
      rw [h2, Bool.or_false]
      congr 1
      apply decide_eq_decide.mpr
      omega
/-- how many worlds hold the wishes ahead of w, together -/
def hqN (T : Nat → Nat) (n f : Nat) (L : Nat → Nat) (ln : Nat → Nat) (sg : Nat → Nat → Nat) : Nat → Nat
  | 0 => 0
  | w + 1 => hqN T n f L ln sg w + if 0 < ln w then ctN (hW T n f L ln sg w) 10 else 0
theorem hq_su : ∀ m, hqN T n f L ln sg m = suN (fun w => if 0 < ln w then ctN (hW T n f L ln sg w) 10 else 0) m := by
  intro m
  induction m with
  | zero => rfl
  | succ m ih => rw [hqN, suN, ih]
theorem hp_su : ∀ m, hpN T n f L ln sg m = suN (fun i => ctN (waN T n f L ln sg i 4) 10) m := by
  intro m
  induction m with
  | zero => rfl
  | succ m ih => rw [hpN, suN, ih]
theorem hq_hp (hn : n ≤ 10) : hqN T n f L ln sg 4 = hpN T n f L ln sg n := by
  have e1 : hpN T n f L ln sg n = suN (fun i => suN (fun w => if haN T n f L ln sg i w then 1 else 0) 4) n := by
    rw [hp_su]
    refine su_eq n (fun i _ => ?_)
    rw [ct_top (wa_lt i 4) 10 (by decide), ct_su]
    refine su_eq 4 (fun w hw => ?_)
    rw [wa_bit, decide_eq_true hw, Bool.true_and]
  rw [e1, su_swap, hq_su]
  refine su_eq 4 (fun w _ => ?_)
  by_cases h : 0 < ln w
  · rw [if_pos h, ct_top (hW_lt w) 10 hn, ct_su]
    refine su_eq n (fun i _ => ?_)
    have e2 : (hW T n f L ln sg w).testBit i = haN T n f L ln sg i w := by
      rw [haN]
      cases hb : (hW T n f L ln sg w).testBit i with
      | true => exact (decide_eq_true ⟨h, (tb_1 _ _).mpr hb⟩).symm
      | false => exact (decide_eq_false (fun a => by rw [(tb_1 _ _).mp a.2] at hb; cases hb)).symm
    rw [e2]
  · rw [if_neg h]
    refine ((su_eq n (fun i _ => ?_)).trans (su_0 n)).symm
    rw [if_neg (by rw [haN]; intro a; exact h (of_decide_eq_true a).1)]
theorem hq_le (hn : n ≤ 10) : ∀ m, hqN T n f L ln sg m ≤ m * 10 := by
  intro m
  induction m with
  | zero => exact Nat.le_refl _
  | succ m ih =>
    rw [hqN]
    have := ct_le (hW T n f L ln sg m) 10
    split <;> omega
end
theorem cU0 {G : ez_G} {M M' : ez_M} {d na : Nat} {Q : ez_Q} {h : ez_H} {n mc ms pc q idx : Nat} {ls : List (Option Value)} {st st0 as : List Value} (hd : decode M.2.1 pc = .ok (.invokestatic idx, 3)) (hck : ez_kS M.1.cls idx M' na) (hC : Con G M' d as h n 0 0 (PU h n none)) (htab : M'.2.2.2.2 = []) (hst : st0 = as.reverse ++ st) (hna : as.length = na) (hrm : (st.map fun v => v.category).sum ≤ 8) (hq : pc + 3 = q) (K : E G M (d + 1) Q h n mc ms q ls st) : E G M (d + 1) Q h n mc ms pc ls st0 := by
  have h1 := ez_callS (mc := mc) (ms := ms) (q := q) (Q := Q) (ls := ls) hd hck htab hC hst hna hrm hq (fun x g m hx => by cases hx.1) (fun r g m hx => by
    obtain ⟨h1, rfl, rfl⟩ := hx
    cases h1
    exact K)
  rwa [Nat.zero_add, Nat.zero_add] at h1
set_option maxHeartbeats 800000 in
set_option maxRecDepth 100000 in
theorem v_X7_wishesHoldingIn {G : ez_G} {d n : Nat} {h : ez_H} {n' f k t : Nat} {L T ln : Nat → Nat} {sg : Nat → Nat → Nat} {zs : Nat → AS} {b : Nat → Nat} {i : Nat} (hI : CJ h h n' f L T ln sg k zs t b) (ho : OK n' f L T ln sg) (hs : WFS ln sg) (hi : i < n') : Con G mX7_wishesHoldingIn (d + 6) [.ref 1, .int (nI i)] h n 0 0 (PW n (some (.int (nI (waN T n' f L ln sg i 4)))) (fun g => CJ h g n' f L T ln sg k zs t b)) := by
  have hn := ho.1
  refine Con.of [some (.ref 1), some (.int (nI i)), none, none] pl_X7 rfl (Nat.le_of_ble_eq_true rfl) rfl ?_
  have hQ : ∀ g, CJ h g n' f L T ln sg k zs t b → (PW n (some (.int (nI (waN T n' f L ln sg i 4)))) (fun g => CJ h g n' f L T ln sg k zs t b)) (.inl (some (.int (nI (waN T n' f L ln sg i 4))))) g n := fun g h1 => ⟨rfl, h1, rfl⟩
  generalize PW n (some (.int (nI (waN T n' f L ln sg i 4)))) (fun g => CJ h g n' f L T ln sg k zs t b) = Q at hQ ⊢
  refine ez_iconst (v := nI 0) (q := 1) dX7_wishesHoldingIn_0 (by decide) rfl ?_
  refine ez_istore_2 (q := 2) dX7_wishesHoldingIn_1 rfl (by decide) rfl rfl ?_
  refine ez_iconst (v := nI 0) (q := 3) dX7_wishesHoldingIn_2 (by decide) rfl ?_
  refine ez_istore_3 (q := 4) dX7_wishesHoldingIn_3 rfl (by decide) rfl rfl ?_
  refine ez_loop (α := Nat) (fun w => 4 - w) (P := fun w => ∀ (g : ez_H) , CJ h g n' f L T ln sg k zs t b → (w ≤ 4) → E G mX7_wishesHoldingIn (d + 6) Q g n 0 0 4 [some (.ref 1), some (.int (nI i)), some (.int (nI (waN T n' f L ln sg i w))), some (.int (nI w))] []) ?_ 0 h hI (by omega)
  intro w ih4 g  hM hw
  have hI := hM
  refine ez_iload_n (q := 5) 3 dX7_wishesHoldingIn_4 rfl rfl rfl ?_
  refine ez_iconst (v := nI 4) (q := 6) dX7_wishesHoldingIn_5 (by decide) rfl ?_
  refine ez_icmpgeN (q := 9) (tgt := 43) dX7_wishesHoldingIn_6 (by decide) (by omega) (by omega) rfl (fun hc6 => ?_) (fun hc6 => ?_)
  · refine ez_iload_n (q := 44) 2 dX7_wishesHoldingIn_43 rfl rfl rfl ?_
    exact ez_iret dX7_wishesHoldingIn_44 rfl (by rw [show w = 4 from by omega]; exact hQ _ hI)
  · refine ez_aload_n (q := 10) 0 dX7_wishesHoldingIn_9 rfl rfl rfl ?_
    refine ez_getf (q := 13) dX7_wishesHoldingIn_10 fl_X7_10 hI.1.1 rfl rfl ?_
    refine ez_iload_n (q := 14) 3 dX7_wishesHoldingIn_13 rfl rfl rfl ?_
    refine cPv (q := 17) dX7_wishesHoldingIn_14 ck_X7_140 hI.ss.ob (r_X3_lengthOf hI.ss ho (by omega)) rfl ⟨by decide, rfl⟩ rfl rfl rfl (Nat.le_of_ble_eq_true rfl) rfl ?_
    refine ez_ifleN (q := 20) (tgt := 37) dX7_wishesHoldingIn_17 (by decide) (by have := ho.2.2.2.2.1 w (by omega); omega) rfl (fun hc17 => ?_) (fun hc17 => ?_)
    · refine ez_iincN_3 (q := 40) dX7_wishesHoldingIn_37 (by decide) rfl rfl ?_
      refine ez_goto (q := 4) dX7_wishesHoldingIn_40 (by decide) ?_
      exact E.fg (ih4 (w + 1) (by omega) g hI (by omega)) ⟨Or.inr (rfl), Or.inr (rfl), Or.inr (by first | rw [wa_s (by omega)] | rw [← wa_z hc17]), Or.inr (rfl), trivial⟩
    · refine ez_iload_n (q := 21) 2 dX7_wishesHoldingIn_20 rfl rfl rfl ?_
      refine ez_aload_n (q := 22) 0 dX7_wishesHoldingIn_21 rfl rfl rfl ?_
      refine ez_getf (q := 25) dX7_wishesHoldingIn_22 fl_X7_35 hI.1.1 rfl rfl ?_
      refine ez_iload_n (q := 26) 3 dX7_wishesHoldingIn_25 rfl rfl rfl ?_
      refine cXv (q := 29) dX7_wishesHoldingIn_26 ck_X7_178 hI.mx.ob.choose_spec (t_X2_find hI.mx hI.ss ho hs (by omega) (by omega)) rfl ⟨by decide, rfl⟩ rfl rfl rfl (Nat.le_of_ble_eq_true rfl) rfl (fun g hW => ?_)
      have hG := hW
      clear hW
      have hI := hI.find hG
      refine ez_iload_n (q := 30) 1 dX7_wishesHoldingIn_29 rfl rfl rfl ?_
      refine ez_ishrN (q := 31) dX7_wishesHoldingIn_30 (lt31 (hW_lt w) hn) (by omega) rfl ?_
      refine ez_iconst (v := nI 1) (q := 32) dX7_wishesHoldingIn_31 (by decide) rfl ?_
      refine ez_iandN (q := 33) dX7_wishesHoldingIn_32 rfl ?_
      refine ez_iload_n (q := 34) 3 dX7_wishesHoldingIn_33 rfl rfl rfl ?_
      refine ez_ishlN (q := 35) dX7_wishesHoldingIn_34 (by omega) rfl ?_
      refine ez_iorN (q := 36) dX7_wishesHoldingIn_35 rfl ?_
      refine ez_istore_2 (q := 37) dX7_wishesHoldingIn_36 rfl (by decide) rfl rfl ?_
      refine ez_iincN_3 (q := 40) dX7_wishesHoldingIn_37 (by decide) rfl rfl ?_
      refine ez_goto (q := 4) dX7_wishesHoldingIn_40 (by decide) ?_
      exact E.fg (ih4 (w + 1) (by omega) g hI (by omega)) ⟨Or.inr (rfl), Or.inr (rfl), Or.inr (by first | rw [wa_s (by omega)] | rw [← wa_z hc17]), Or.inr (rfl), trivial⟩

set_option maxHeartbeats 800000 in
set_option maxRecDepth 100000 in
theorem v_X7_worldsOfAllWishes {G : ez_G} {d n : Nat} {h : ez_H} {n' f k t : Nat} {L T ln : Nat → Nat} {sg : Nat → Nat → Nat} {zs : Nat → AS} {b : Nat → Nat} (hI : CJ h h n' f L T ln sg k zs t b) (ho : OK n' f L T ln sg) (hs : WFS ln sg) : Con G mX7_worldsOfAllWishes (d + 6) [.ref 1] h n 0 0 (PW n (some (.int (nI (ahN T n' f L ln sg 4)))) (fun g => CJ h g n' f L T ln sg k zs t b)) := by
  have hn := ho.1
  refine Con.of [some (.ref 1), none, none] pl_X7 rfl (Nat.le_of_ble_eq_true rfl) rfl ?_
  have hQ : ∀ g, CJ h g n' f L T ln sg k zs t b → (PW n (some (.int (nI (ahN T n' f L ln sg 4)))) (fun g => CJ h g n' f L T ln sg k zs t b)) (.inl (some (.int (nI (ahN T n' f L ln sg 4))))) g n := fun g h1 => ⟨rfl, h1, rfl⟩
  generalize PW n (some (.int (nI (ahN T n' f L ln sg 4)))) (fun g => CJ h g n' f L T ln sg k zs t b) = Q at hQ ⊢
  refine ez_aload_n (q := 1) 0 dX7_worldsOfAllWishes_0 rfl rfl rfl ?_
  refine ez_getf (q := 4) dX7_worldsOfAllWishes_1 fl_X7_10 hI.1.1 rfl rfl ?_
  refine cPv (q := 7) dX7_worldsOfAllWishes_4 ck_X7_205 hI.ss.ob (t_X3_allWorlds hI.ss ho) rfl ⟨by decide, rfl⟩ rfl rfl rfl (Nat.le_of_ble_eq_true rfl) rfl ?_
  refine ez_istore_1 (q := 8) dX7_worldsOfAllWishes_7 rfl (by decide) rfl rfl ?_
  refine ez_iconst (v := nI 0) (q := 9) dX7_worldsOfAllWishes_8 (by decide) rfl ?_
  refine ez_istore_2 (q := 10) dX7_worldsOfAllWishes_9 rfl (by decide) rfl rfl ?_
  refine ez_loop (α := Nat) (fun w => 4 - w) (P := fun w => ∀ (g : ez_H) , CJ h g n' f L T ln sg k zs t b → (w ≤ 4) → E G mX7_worldsOfAllWishes (d + 6) Q g n 0 0 10 [some (.ref 1), some (.int (nI (ahN T n' f L ln sg w))), some (.int (nI w))] []) ?_ 0 h hI (by omega)
  intro w ih10 g  hM hw
  have hI := hM
  refine ez_iload_n (q := 11) 2 dX7_worldsOfAllWishes_10 rfl rfl rfl ?_
  refine ez_iconst (v := nI 4) (q := 12) dX7_worldsOfAllWishes_11 (by decide) rfl ?_
  refine ez_icmpgeN (q := 15) (tgt := 43) dX7_worldsOfAllWishes_12 (by decide) (by omega) (by omega) rfl (fun hc12 => ?_) (fun hc12 => ?_)
  · refine ez_iload_n (q := 44) 1 dX7_worldsOfAllWishes_43 rfl rfl rfl ?_
    exact ez_iret dX7_worldsOfAllWishes_44 rfl (by rw [show w = 4 from by omega]; exact hQ _ hI)
  · refine ez_aload_n (q := 16) 0 dX7_worldsOfAllWishes_15 rfl rfl rfl ?_
    refine ez_getf (q := 19) dX7_worldsOfAllWishes_16 fl_X7_10 hI.1.1 rfl rfl ?_
    refine ez_iload_n (q := 20) 2 dX7_worldsOfAllWishes_19 rfl rfl rfl ?_
    refine cPv (q := 23) dX7_worldsOfAllWishes_20 ck_X7_140 hI.ss.ob (r_X3_lengthOf hI.ss ho (by omega)) rfl ⟨by decide, rfl⟩ rfl rfl rfl (Nat.le_of_ble_eq_true rfl) rfl ?_
    refine ez_ifleN (q := 26) (tgt := 37) dX7_worldsOfAllWishes_23 (by decide) (by have := ho.2.2.2.2.1 w (by omega); omega) rfl (fun hc23 => ?_) (fun hc23 => ?_)
    · refine ez_iincN_2 (q := 40) dX7_worldsOfAllWishes_37 (by decide) rfl rfl ?_
      refine ez_goto (q := 10) dX7_worldsOfAllWishes_40 (by decide) ?_
      exact E.fg (ih10 (w + 1) (by omega) g hI (by omega)) ⟨Or.inr (rfl), Or.inr (by first | rw [ah_t (by omega)] | rw [← ah_z (by omega)]), Or.inr (rfl), trivial⟩
    · refine ez_iload_n (q := 27) 1 dX7_worldsOfAllWishes_26 rfl rfl rfl ?_
      refine ez_aload_n (q := 28) 0 dX7_worldsOfAllWishes_27 rfl rfl rfl ?_
      refine ez_getf (q := 31) dX7_worldsOfAllWishes_28 fl_X7_35 hI.1.1 rfl rfl ?_
      refine ez_iload_n (q := 32) 2 dX7_worldsOfAllWishes_31 rfl rfl rfl ?_
      refine cXv (q := 35) dX7_worldsOfAllWishes_32 ck_X7_178 hI.mx.ob.choose_spec (t_X2_find hI.mx hI.ss ho hs (by omega) (by omega)) rfl ⟨by decide, rfl⟩ rfl rfl rfl (Nat.le_of_ble_eq_true rfl) rfl (fun g hW => ?_)
      have hG := hW
      clear hW
      have hI := hI.find hG
      refine ez_iandN (q := 36) dX7_worldsOfAllWishes_35 rfl ?_
      refine ez_istore_1 (q := 37) dX7_worldsOfAllWishes_36 rfl (by decide) rfl rfl ?_
      refine ez_iincN_2 (q := 40) dX7_worldsOfAllWishes_37 (by decide) rfl rfl ?_
      refine ez_goto (q := 10) dX7_worldsOfAllWishes_40 (by decide) ?_
      exact E.fg (ih10 (w + 1) (by omega) g hI (by omega)) ⟨Or.inr (rfl), Or.inr (by first | rw [ah_t (by omega)] | rw [← ah_z (by omega)]), Or.inr (rfl), trivial⟩

set_option maxHeartbeats 800000 in
set_option maxRecDepth 100000 in
theorem v_X7_world {G : ez_G} {d n : Nat} {h : ez_H} {n' f k t : Nat} {L T ln : Nat → Nat} {sg : Nat → Nat → Nat} {zs : Nat → AS} {b : Nat → Nat} {i what : Nat} (hI : CJ h h n' f L T ln sg k zs t b) (ho : OK n' f L T ln sg) (hs : WFS ln sg) (hi : i < n') (hwh : what ≤ 4) : Con G mX7_world (d + 7) [.ref 1, .int (nI i), .int (nI what)] h n 0 0 (PW n (some (.int (nI (twN T n' f L ln sg i what)))) (fun g => CJ h g n' f L T ln sg k zs t b)) := by
  have hn := ho.1
  refine Con.of [some (.ref 1), some (.int (nI i)), some (.int (nI what))] pl_X7 rfl (Nat.le_of_ble_eq_true rfl) rfl ?_
  have hQ : ∀ g, CJ h g n' f L T ln sg k zs t b → (PW n (some (.int (nI (twN T n' f L ln sg i what)))) (fun g => CJ h g n' f L T ln sg k zs t b)) (.inl (some (.int (nI (twN T n' f L ln sg i what))))) g n := fun g h1 => ⟨rfl, h1, rfl⟩
  generalize PW n (some (.int (nI (twN T n' f L ln sg i what)))) (fun g => CJ h g n' f L T ln sg k zs t b) = Q at hQ ⊢
  refine ez_aload_n (q := 1) 0 dX7_world_0 rfl rfl rfl ?_
  refine ez_iload_n (q := 2) 1 dX7_world_1 rfl rfl rfl ?_
  refine cP0 (q := 5) dX7_world_2 ck_X7_78 hI.1.1 (v_X7_needWorld hI.rb ho hs (by omega)) rfl ⟨by decide, rfl⟩ rfl rfl rfl (Nat.le_of_ble_eq_true rfl) rfl ?_
  refine ez_iload_n (q := 6) 2 dX7_world_5 rfl rfl rfl ?_
  refine ez_iconst (v := nI 4) (q := 7) dX7_world_6 (by decide) rfl ?_
  refine cU0 (q := 10) dX7_world_7 ck_X7_166 (v_X7_needLook (by omega) (by decide)) rfl rfl rfl (Nat.le_of_ble_eq_true rfl) rfl ?_
  refine ez_iload_n (q := 11) 2 dX7_world_10 rfl rfl rfl ?_
  obtain rfl | rfl | rfl | rfl | rfl : what = 0 ∨ what = 1 ∨ what = 2 ∨ what = 3 ∨ what = 4 := by omega
  · refine ez_tableIn (q := 40) (off := 29) dX7_world_11 (by decide) (by decide) (by decide) (by decide) ?_
    refine ez_aload_n (q := 41) 0 dX7_world_40 rfl rfl rfl ?_
    refine ez_getf (q := 44) dX7_world_41 fl_X7_10 hI.1.1 rfl rfl ?_
    refine ez_iload_n (q := 45) 1 dX7_world_44 rfl rfl rfl ?_
    refine cPv (q := 48) dX7_world_45 ck_X7_97 hI.ss.ob (r_X3_lettersOf hI.ss ho (by omega)) rfl ⟨by decide, rfl⟩ rfl rfl rfl (Nat.le_of_ble_eq_true rfl) rfl ?_
    exact ez_iret dX7_world_48 rfl (hQ _ hI)
  · refine ez_tableIn (q := 49) (off := 38) dX7_world_11 (by decide) (by decide) (by decide) (by decide) ?_
    refine ez_aload_n (q := 50) 0 dX7_world_49 rfl rfl rfl ?_
    refine ez_getf (q := 53) dX7_world_50 fl_X7_10 hI.1.1 rfl rfl ?_
    refine ez_iload_n (q := 54) 1 dX7_world_53 rfl rfl rfl ?_
    refine cPv (q := 57) dX7_world_54 ck_X7_89 hI.ss.ob (r_X3_stepsFrom hI.ss ho (by omega)) rfl ⟨by decide, rfl⟩ rfl rfl rfl (Nat.le_of_ble_eq_true rfl) rfl ?_
    exact ez_iret dX7_world_57 rfl (hQ _ hI)
  · refine ez_tableIn (q := 58) (off := 47) dX7_world_11 (by decide) (by decide) (by decide) (by decide) ?_
    refine ez_aload_n (q := 59) 0 dX7_world_58 rfl rfl rfl ?_
    refine ez_getf (q := 62) dX7_world_59 fl_X7_10 hI.1.1 rfl rfl ?_
    refine ez_iconst (v := nI 1) (q := 63) dX7_world_62 (by decide) rfl ?_
    refine ez_iload_n (q := 64) 1 dX7_world_63 rfl rfl rfl ?_
    refine ez_shl1 (q := 65) dX7_world_64 (by omega) rfl ?_
    refine cPv (q := 68) dX7_world_65 ck_X7_169 hI.ss.ob (t_X3_leadingInto hI.ss ho) rfl ⟨by decide, rfl⟩ rfl rfl rfl (Nat.le_of_ble_eq_true rfl) rfl ?_
    exact ez_iret dX7_world_68 rfl (hQ _ hI)
  · refine ez_tableIn (q := 69) (off := 58) dX7_world_11 (by decide) (by decide) (by decide) (by decide) ?_
    refine ez_aload_n (q := 70) 0 dX7_world_69 rfl rfl rfl ?_
    refine ez_getf (q := 73) dX7_world_70 fl_X7_35 hI.1.1 rfl rfl ?_
    refine cXv (q := 76) dX7_world_73 ck_X7_172 hI.mx.ob.choose_spec (t_X2_live hI.mx hI.ss ho (by omega)) rfl ⟨by decide, rfl⟩ rfl rfl rfl (Nat.le_of_ble_eq_true rfl) rfl (fun g hW => ?_)
    obtain ⟨hX9, hF9⟩ := hW
    have hI := hI.mean hX9 hF9
    refine ez_iload_n (q := 77) 1 dX7_world_76 rfl rfl rfl ?_
    refine ez_ishrN (q := 78) dX7_world_77 (lt31 (lvN_lt _ _ _ _) hn) (by omega) rfl ?_
    refine ez_iconst (v := nI 1) (q := 79) dX7_world_78 (by decide) rfl ?_
    refine ez_iandN (q := 80) dX7_world_79 rfl ?_
    exact ez_iret dX7_world_80 rfl (hQ _ hI)
  · refine ez_tableOut (q := 81) dX7_world_11 (by decide) (by decide) ?_
    refine ez_aload_n (q := 82) 0 dX7_world_81 rfl rfl rfl ?_
    refine ez_iload_n (q := 83) 1 dX7_world_82 rfl rfl rfl ?_
    refine cXv (q := 86) dX7_world_83 ck_X7_175 hI.1.1 (v_X7_wishesHoldingIn hI.rb ho hs (by omega)) rfl ⟨by decide, rfl⟩ rfl rfl rfl (Nat.le_of_ble_eq_true rfl) rfl (fun g hW => ?_)
    have hI := hI.tr hW
    clear hW
    exact ez_iret dX7_world_86 rfl (hQ _ hI)

set_option maxHeartbeats 800000 in
set_option maxRecDepth 100000 in
theorem v_X7_compare {G : ez_G} {d n : Nat} {h : ez_H} {n' f k t : Nat} {L T ln : Nat → Nat} {sg : Nat → Nat → Nat} {zs : Nat → AS} {b : Nat → Nat} {w v : Nat} (hI : CJ h h n' f L T ln sg k zs t b) (ho : OK n' f L T ln sg) (hs : WFS ln sg) (hw : w < 4) (hv : v < 4) : Con G mX7_compare (d + 6) [.ref 1, .int (nI w), .int (nI v)] h n 0 0 (PW n (some (.int (cmI T n' f L ln sg w v))) (fun g => CJ h g n' f L T ln sg k zs t b)) := by
  have hn := ho.1
  refine Con.of [some (.ref 1), some (.int (nI w)), some (.int (nI v)), none, none] pl_X7 rfl (Nat.le_of_ble_eq_true rfl) rfl ?_
  have hQ : ∀ g, CJ h g n' f L T ln sg k zs t b → (PW n (some (.int (cmI T n' f L ln sg w v))) (fun g => CJ h g n' f L T ln sg k zs t b)) (.inl (some (.int (cmI T n' f L ln sg w v)))) g n := fun g h1 => ⟨rfl, h1, rfl⟩
  generalize PW n (some (.int (cmI T n' f L ln sg w v))) (fun g => CJ h g n' f L T ln sg k zs t b) = Q at hQ ⊢
  refine ez_iload_n (q := 1) 1 dX7_compare_0 rfl rfl rfl ?_
  refine cU0 (q := 4) dX7_compare_1 ck_X7_127 (v_X7_needWish (by omega)) rfl rfl rfl (Nat.le_of_ble_eq_true rfl) rfl ?_
  refine ez_iload_n (q := 5) 2 dX7_compare_4 rfl rfl rfl ?_
  refine cU0 (q := 8) dX7_compare_5 ck_X7_127 (v_X7_needWish (by omega)) rfl rfl rfl (Nat.le_of_ble_eq_true rfl) rfl ?_
  refine ez_aload_n (q := 9) 0 dX7_compare_8 rfl rfl rfl ?_
  refine ez_getf (q := 12) dX7_compare_9 fl_X7_10 hI.1.1 rfl rfl ?_
  refine ez_iload_n (q := 13) 1 dX7_compare_12 rfl rfl rfl ?_
  refine cPv (q := 16) dX7_compare_13 ck_X7_140 hI.ss.ob (r_X3_lengthOf hI.ss ho (by omega)) rfl ⟨by decide, rfl⟩ rfl rfl rfl (Nat.le_of_ble_eq_true rfl) rfl ?_
  refine ez_ifeqN (q := 19) (tgt := 30) dX7_compare_16 (by decide) (by have := ho.2.2.2.2.1 w (by omega); omega) rfl (fun hc16 => ?_) (fun hc16 => ?_)
  · rw [cmI, if_pos (Or.inl hc16)] at hQ
    refine ez_iconst (v := -1) (q := 31) dX7_compare_30 (by decide) rfl ?_
    exact ez_iret dX7_compare_31 rfl (hQ _ hI)
  · refine ez_aload_n (q := 20) 0 dX7_compare_19 rfl rfl rfl ?_
    refine ez_getf (q := 23) dX7_compare_20 fl_X7_10 hI.1.1 rfl rfl ?_
    refine ez_iload_n (q := 24) 2 dX7_compare_23 rfl rfl rfl ?_
    refine cPv (q := 27) dX7_compare_24 ck_X7_140 hI.ss.ob (r_X3_lengthOf hI.ss ho (by omega)) rfl ⟨by decide, rfl⟩ rfl rfl rfl (Nat.le_of_ble_eq_true rfl) rfl ?_
    refine ez_ifneN (q := 30) (tgt := 32) dX7_compare_27 (by decide) (by have := ho.2.2.2.2.1 v (by omega); omega) rfl (fun hc27 => ?_) (fun hc27 => ?_)
    · rw [cmI, if_neg (by omega)] at hQ
      refine ez_aload_n (q := 33) 0 dX7_compare_32 rfl rfl rfl ?_
      refine ez_getf (q := 36) dX7_compare_33 fl_X7_35 hI.1.1 rfl rfl ?_
      refine ez_iload_n (q := 37) 1 dX7_compare_36 rfl rfl rfl ?_
      refine cXv (q := 40) dX7_compare_37 ck_X7_178 hI.mx.ob.choose_spec (t_X2_find hI.mx hI.ss ho hs (by omega) (by omega)) rfl ⟨by decide, rfl⟩ rfl rfl rfl (Nat.le_of_ble_eq_true rfl) rfl (fun g hW => ?_)
      have hG := hW
      clear hW
      have hI := hI.find hG
      refine ez_istore_3 (q := 41) dX7_compare_40 rfl (by decide) rfl rfl ?_
      refine ez_aload_n (q := 42) 0 dX7_compare_41 rfl rfl rfl ?_
      refine ez_getf (q := 45) dX7_compare_42 fl_X7_35 hI.1.1 rfl rfl ?_
      refine ez_iload_n (q := 46) 2 dX7_compare_45 rfl rfl rfl ?_
      refine cXv (q := 49) dX7_compare_46 ck_X7_178 hI.mx.ob.choose_spec (t_X2_find hI.mx hI.ss ho hs (by omega) (by omega)) rfl ⟨by decide, rfl⟩ rfl rfl rfl (Nat.le_of_ble_eq_true rfl) rfl (fun g hW => ?_)
      have hG := hW
      clear hW
      have hI := hI.find hG
      refine ez_istore_4 (q := 51) dX7_compare_49 (by decide) rfl rfl ?_
      refine ez_iload_n (q := 52) 3 dX7_compare_51 rfl rfl rfl ?_
      refine ez_iload (q := 54) dX7_compare_52 rfl rfl ?_
      refine ez_icmpneN (q := 57) (tgt := 59) dX7_compare_54 (by decide) (lt31 (hW_lt w) hn) (lt31 (hW_lt v) hn) rfl (fun hc54 => ?_) (fun hc54 => ?_)
      · refine ez_iload_n (q := 60) 3 dX7_compare_59 rfl rfl rfl ?_
        refine ez_iload (q := 62) dX7_compare_60 rfl rfl ?_
        refine ez_iandN (q := 63) dX7_compare_62 rfl ?_
        refine ez_iload_n (q := 64) 3 dX7_compare_63 rfl rfl rfl ?_
        refine ez_icmpneN (q := 67) (tgt := 69) dX7_compare_64 (by decide) (lt31 (and_lt (hW_lt w)) hn) (lt31 (hW_lt w) hn) rfl (fun hc64 => ?_) (fun hc64 => ?_)
        · refine ez_iload_n (q := 70) 3 dX7_compare_69 rfl rfl rfl ?_
          refine ez_iload (q := 72) dX7_compare_70 rfl rfl ?_
          refine ez_iandN (q := 73) dX7_compare_72 rfl ?_
          refine ez_iload (q := 75) dX7_compare_73 rfl rfl ?_
          refine ez_icmpneN (q := 78) (tgt := 82) dX7_compare_75 (by decide) (lt31 (and_lt (hW_lt w)) hn) (lt31 (hW_lt v) hn) rfl (fun hc75 => ?_) (fun hc75 => ?_)
          · rw [cmN_3 hc54 hc64 hc75] at hQ
            refine ez_iconst (v := nI 3) (q := 83) dX7_compare_82 (by decide) rfl ?_
            exact ez_iret dX7_compare_83 rfl (hQ _ hI)
          · rw [cmN_2 hc54 hc64 hc75] at hQ
            refine ez_iconst (v := nI 2) (q := 79) dX7_compare_78 (by decide) rfl ?_
            refine ez_goto (q := 83) dX7_compare_79 (by decide) ?_
            exact ez_iret dX7_compare_83 rfl (hQ _ hI)
        · rw [cmN_1 hc54 hc64] at hQ
          refine ez_iconst (v := nI 1) (q := 68) dX7_compare_67 (by decide) rfl ?_
          exact ez_iret dX7_compare_68 rfl (hQ _ hI)
      · rw [show cmN (hW T n' f L ln sg w) (hW T n' f L ln sg v) = 0 from if_pos hc54] at hQ
        refine ez_iconst (v := nI 0) (q := 58) dX7_compare_57 (by decide) rfl ?_
        exact ez_iret dX7_compare_58 rfl (hQ _ hI)
    · rw [cmI, if_pos (Or.inr hc27)] at hQ
      refine ez_iconst (v := -1) (q := 31) dX7_compare_30 (by decide) rfl ?_
      exact ez_iret dX7_compare_31 rfl (hQ _ hI)

set_option maxHeartbeats 800000 in
set_option maxRecDepth 100000 in
theorem v_X7_count {G : ez_G} {d n : Nat} {h : ez_H} {n' f k t : Nat} {L T ln : Nat → Nat} {sg : Nat → Nat → Nat} {zs : Nat → AS} {b : Nat → Nat} {what : Nat} (hI : CJ h h n' f L T ln sg k zs t b) (ho : OK n' f L T ln sg) (hs : WFS ln sg) (hwh : what ≤ 8) : Con G mX7_count (d + 8) [.ref 1, .int (nI what)] h n 0 0 (PW n (some (.int (couI T n' f L ln sg k what))) (fun g => CJ h g n' f L T ln sg k zs t b)) := by
  have hn := ho.1
  refine Con.of [some (.ref 1), some (.int (nI what))] pl_X7 rfl (Nat.le_of_ble_eq_true rfl) rfl ?_
  have hQ : ∀ g, CJ h g n' f L T ln sg k zs t b → (PW n (some (.int (couI T n' f L ln sg k what))) (fun g => CJ h g n' f L T ln sg k zs t b)) (.inl (some (.int (couI T n' f L ln sg k what)))) g n := fun g h1 => ⟨rfl, h1, rfl⟩
  generalize PW n (some (.int (couI T n' f L ln sg k what))) (fun g => CJ h g n' f L T ln sg k zs t b) = Q at hQ ⊢
  refine ez_iload_n (q := 1) 1 dX7_count_0 rfl rfl rfl ?_
  refine ez_bipush (v := nI 8) (q := 3) dX7_count_1 (by decide) rfl ?_
  refine cU0 (q := 6) dX7_count_3 ck_X7_166 (v_X7_needLook (by omega) (by decide)) rfl rfl rfl (Nat.le_of_ble_eq_true rfl) rfl ?_
  refine ez_iload_n (q := 7) 1 dX7_count_6 rfl rfl rfl ?_
  obtain rfl | rfl | rfl | rfl | rfl | rfl | rfl | rfl | rfl : what = 0 ∨ what = 1 ∨ what = 2 ∨ what = 3 ∨ what = 4 ∨ what = 5 ∨ what = 6 ∨ what = 7 ∨ what = 8 := by omega
  · refine ez_tableIn (q := 52) (off := 45) dX7_count_7 (by decide) (by decide) (by decide) (by decide) ?_
    refine ez_aload_n (q := 53) 0 dX7_count_52 rfl rfl rfl ?_
    refine ez_getf (q := 56) dX7_count_53 fl_X7_10 hI.1.1 rfl rfl ?_
    refine ez_getf (q := 59) dX7_count_56 fl_X7_62 hI.ss.ob rfl rfl ?_
    exact ez_iret dX7_count_59 rfl (hQ _ hI)
  · refine ez_tableIn (q := 60) (off := 53) dX7_count_7 (by decide) (by decide) (by decide) (by decide) ?_
    refine ez_aload_n (q := 61) 0 dX7_count_60 rfl rfl rfl ?_
    refine ez_getf (q := 64) dX7_count_61 fl_X7_10 hI.1.1 rfl rfl ?_
    refine cPv (q := 67) dX7_count_64 ck_X7_109 hI.ss.ob (t_X3_countSteps hI.ss ho) rfl ⟨by decide, rfl⟩ rfl rfl rfl (Nat.le_of_ble_eq_true rfl) rfl ?_
    exact ez_iret dX7_count_67 rfl (hQ _ hI)
  · refine ez_tableIn (q := 68) (off := 61) dX7_count_7 (by decide) (by decide) (by decide) (by decide) ?_
    refine ez_aload_n (q := 69) 0 dX7_count_68 rfl rfl rfl ?_
    refine ez_getf (q := 72) dX7_count_69 fl_X7_35 hI.1.1 rfl rfl ?_
    refine cXv (q := 75) dX7_count_72 ck_X7_172 hI.mx.ob.choose_spec (t_X2_live hI.mx hI.ss ho (by omega)) rfl ⟨by decide, rfl⟩ rfl rfl rfl (Nat.le_of_ble_eq_true rfl) rfl (fun g hW => ?_)
    obtain ⟨hX9, hF9⟩ := hW
    have hI := hI.mean hX9 hF9
    refine cUv (q := 78) dX7_count_75 ck_X7_200 (t_J6_bitCount_0f7a4 (Nat.lt_of_lt_of_le (lvN_lt _ _ _ _) (p10 (Nat.le_refl _) hn))) rfl rfl rfl (Nat.le_of_ble_eq_true rfl) rfl ?_
    exact ez_iret dX7_count_78 rfl (hQ _ hI)
  · refine ez_tableIn (q := 79) (off := 72) dX7_count_7 (by decide) (by decide) (by decide) (by decide) ?_
    refine ez_aload_n (q := 80) 0 dX7_count_79 rfl rfl rfl ?_
    refine ez_getf (q := 83) dX7_count_80 fl_X7_10 hI.1.1 rfl rfl ?_
    refine ez_getf (q := 86) dX7_count_83 fl_X7_62 hI.ss.ob rfl rfl ?_
    refine ez_aload_n (q := 87) 0 dX7_count_86 rfl rfl rfl ?_
    refine ez_getf (q := 90) dX7_count_87 fl_X7_10 hI.1.1 rfl rfl ?_
    refine ez_aload_n (q := 91) 0 dX7_count_90 rfl rfl rfl ?_
    refine ez_getf (q := 94) dX7_count_91 fl_X7_10 hI.1.1 rfl rfl ?_
    refine cPv (q := 97) dX7_count_94 ck_X7_205 hI.ss.ob (t_X3_allWorlds hI.ss ho) rfl ⟨by decide, rfl⟩ rfl rfl rfl (Nat.le_of_ble_eq_true rfl) rfl ?_
    refine cPv (q := 100) dX7_count_97 ck_X7_169 hI.ss.ob (t_X3_leadingInto hI.ss ho) rfl ⟨by decide, rfl⟩ rfl rfl rfl (Nat.le_of_ble_eq_true rfl) rfl ?_
    refine cUv (q := 103) dX7_count_100 ck_X7_200 (t_J6_bitCount_0f7a4 (Nat.lt_of_lt_of_le (inN_lt _ _ _) (p10 (Nat.le_refl _) hn))) rfl rfl rfl (Nat.le_of_ble_eq_true rfl) rfl ?_
    refine ez_isubN (q := 104) dX7_count_103 (sl_eq hn ho.2.2.2.1).1 rfl ?_
    refine ez_top (congrArg nI (sl_eq hn ho.2.2.2.1).2) ?_
    exact ez_iret dX7_count_104 rfl (hQ _ hI)
  · refine ez_tableIn (q := 105) (off := 98) dX7_count_7 (by decide) (by decide) (by decide) (by decide) ?_
    refine ez_aload_n (q := 106) 0 dX7_count_105 rfl rfl rfl ?_
    refine ez_getf (q := 109) dX7_count_106 fl_X7_10 hI.1.1 rfl rfl ?_
    refine ez_getf (q := 112) dX7_count_109 fl_X7_103 hI.ss.ob rfl rfl ?_
    exact ez_iret dX7_count_112 rfl (hQ _ hI)
  · refine ez_tableIn (q := 113) (off := 106) dX7_count_7 (by decide) (by decide) (by decide) (by decide) ?_
    refine ez_aload_n (q := 114) 0 dX7_count_113 rfl rfl rfl ?_
    refine ez_getf (q := 117) dX7_count_114 fl_X7_10 hI.1.1 rfl rfl ?_
    refine cPv (q := 120) dX7_count_117 ck_X7_208 hI.ss.ob (t_X3_countWishes hI.ss ho) rfl ⟨by decide, rfl⟩ rfl rfl rfl (Nat.le_of_ble_eq_true rfl) rfl ?_
    exact ez_iret dX7_count_120 rfl (hQ _ hI)
  · refine ez_tableIn (q := 121) (off := 114) dX7_count_7 (by decide) (by decide) (by decide) (by decide) ?_
    refine ez_aload_n (q := 122) 0 dX7_count_121 rfl rfl rfl ?_
    refine ez_getf (q := 125) dX7_count_122 fl_X7_10 hI.1.1 rfl rfl ?_
    refine cPv (q := 128) dX7_count_125 ck_X7_211 hI.ss.ob (t_X3_countSigns hI.ss ho) rfl ⟨by decide, rfl⟩ rfl rfl rfl (Nat.le_of_ble_eq_true rfl) rfl ?_
    exact ez_iret dX7_count_128 rfl (hQ _ hI)
  · refine ez_tableIn (q := 129) (off := 122) dX7_count_7 (by decide) (by decide) (by decide) (by decide) ?_
    refine ez_aload_n (q := 130) 0 dX7_count_129 rfl rfl rfl ?_
    refine cXv (q := 133) dX7_count_130 ck_X7_214 hI.1.1 (v_X7_worldsOfAllWishes hI.rb ho hs) rfl ⟨by decide, rfl⟩ rfl rfl rfl (Nat.le_of_ble_eq_true rfl) rfl (fun g hW => ?_)
    have hI := hI.tr hW
    clear hW
    refine cUv (q := 136) dX7_count_133 ck_X7_200 (t_J6_bitCount_0f7a4 (Nat.lt_of_lt_of_le (ah_lt 4) (p10 (Nat.le_refl _) hn))) rfl rfl rfl (Nat.le_of_ble_eq_true rfl) rfl ?_
    exact ez_iret dX7_count_136 rfl (hQ _ hI)
  · refine ez_tableOut (q := 137) dX7_count_7 (by decide) (by decide) ?_
    refine ez_aload_n (q := 138) 0 dX7_count_137 rfl rfl rfl ?_
    refine ez_getf (q := 141) dX7_count_138 fl_X7_19 hI.1.1 rfl rfl ?_
    refine ez_getf (q := 144) dX7_count_141 fl_X7_158 hI.hh.choose_spec.1 rfl rfl ?_
    exact ez_iret dX7_count_144 rfl (hQ _ hI)

set_option maxHeartbeats 800000 in
set_option maxRecDepth 100000 in
theorem v_X7_fulfilled {G : ez_G} {d n : Nat} {h : ez_H} {n' f k t : Nat} {L T ln : Nat → Nat} {sg : Nat → Nat → Nat} {zs : Nat → AS} {b : Nat → Nat} (hI : CJ h h n' f L T ln sg k zs t b) (ho : OK n' f L T ln sg) (hs : WFS ln sg) : Con G mX7_fulfilled (d + 6) [.ref 1] h n 0 0 (PW n (some (.double (shV (hpN T n' f L ln sg n') (n' * wmN ln 4)))) (fun g => CJ h g n' f L T ln sg k zs t b)) := by
  have hn := ho.1
  refine Con.of [some (.ref 1), none, none, none] pl_X7 rfl (Nat.le_of_ble_eq_true rfl) rfl ?_
  have hQ : ∀ g, CJ h g n' f L T ln sg k zs t b → (PW n (some (.double (shV (hpN T n' f L ln sg n') (n' * wmN ln 4)))) (fun g => CJ h g n' f L T ln sg k zs t b)) (.inl (some (.double (shV (hpN T n' f L ln sg n') (n' * wmN ln 4))))) g n := fun g h1 => ⟨rfl, h1, rfl⟩
  generalize PW n (some (.double (shV (hpN T n' f L ln sg n') (n' * wmN ln 4)))) (fun g => CJ h g n' f L T ln sg k zs t b) = Q at hQ ⊢
  refine ez_iconst (v := nI 0) (q := 1) dX7_fulfilled_0 (by decide) rfl ?_
  refine ez_istore_1 (q := 2) dX7_fulfilled_1 rfl (by decide) rfl rfl ?_
  refine ez_iconst (v := nI 0) (q := 3) dX7_fulfilled_2 (by decide) rfl ?_
  refine ez_istore_2 (q := 4) dX7_fulfilled_3 rfl (by decide) rfl rfl ?_
  refine ez_iconst (v := nI 0) (q := 5) dX7_fulfilled_4 (by decide) rfl ?_
  refine ez_istore_3 (q := 6) dX7_fulfilled_5 rfl (by decide) rfl rfl ?_
  refine ez_loop (α := Nat) (fun w => 4 - w) (P := fun w => ∀ (g : ez_H) , CJ h g n' f L T ln sg k zs t b → (w ≤ 4) → E G mX7_fulfilled (d + 6) Q g n 0 0 6 [some (.ref 1), some (.int (nI (n' * wmN ln w))), some (.int (nI (hqN T n' f L ln sg w))), some (.int (nI w))] []) ?_ 0 h hI (by omega)
  intro w ih6 g  hM hw
  have hI := hM
  refine ez_iload_n (q := 7) 3 dX7_fulfilled_6 rfl rfl rfl ?_
  refine ez_iconst (v := nI 4) (q := 8) dX7_fulfilled_7 (by decide) rfl ?_
  refine ez_icmpgeN (q := 11) (tgt := 52) dX7_fulfilled_8 (by decide) (by omega) (by omega) rfl (fun hc8 => ?_) (fun hc8 => ?_)
  · obtain rfl : w = 4 := by omega
    rw [hq_hp hn]
    have hh4 := hp_le T n' f L ln sg n'
    have hp4 : n' * wmN ln 4 ≤ 10 * 4 := Nat.mul_le_mul hn (wm_le ln 4)
    refine ez_iload_n (q := 53) 1 dX7_fulfilled_52 rfl rfl rfl ?_
    refine ez_ifneN (q := 56) (tgt := 60) dX7_fulfilled_53 (by decide) (by omega) rfl (fun hc53 => ?_) (fun hc53 => ?_)
    · rw [show ∀ h, shV h (n' * wmN ln 4) = FP.ddiv (FP.i2d (nI h)) (FP.i2d (nI (n' * wmN ln 4))) from fun h => if_neg hc53] at hQ
      refine ez_iload_n (q := 61) 2 dX7_fulfilled_60 rfl rfl rfl ?_
      refine ez_i2d (q := 62) dX7_fulfilled_61 rfl ?_
      refine ez_iload_n (q := 63) 1 dX7_fulfilled_62 rfl rfl rfl ?_
      refine ez_i2d (q := 64) dX7_fulfilled_63 rfl ?_
      refine ez_ddiv (q := 65) dX7_fulfilled_64 (sh_nan _ (by omega) _ (by omega) hc53) rfl ?_
      exact ez_dret dX7_fulfilled_65 rfl (hQ _ hI)
    · rw [show ∀ h, shV h (n' * wmN ln 4) = 0x3ff0000000000000 from fun h => if_pos hc53] at hQ
      refine ez_dconst1 (q := 57) dX7_fulfilled_56 rfl ?_
      refine ez_goto (q := 65) dX7_fulfilled_57 (by decide) ?_
      exact ez_dret dX7_fulfilled_65 rfl (hQ _ hI)
  · refine ez_aload_n (q := 12) 0 dX7_fulfilled_11 rfl rfl rfl ?_
    refine ez_getf (q := 15) dX7_fulfilled_12 fl_X7_10 hI.1.1 rfl rfl ?_
    refine ez_iload_n (q := 16) 3 dX7_fulfilled_15 rfl rfl rfl ?_
    refine cPv (q := 19) dX7_fulfilled_16 ck_X7_140 hI.ss.ob (r_X3_lengthOf hI.ss ho (by omega)) rfl ⟨by decide, rfl⟩ rfl rfl rfl (Nat.le_of_ble_eq_true rfl) rfl ?_
    refine ez_ifleN (q := 22) (tgt := 46) dX7_fulfilled_19 (by decide) (by have := ho.2.2.2.2.1 w (by omega); omega) rfl (fun hc19 => ?_) (fun hc19 => ?_)
    · refine ez_iincN_3 (q := 49) dX7_fulfilled_46 (by decide) rfl rfl ?_
      refine ez_goto (q := 6) dX7_fulfilled_49 (by decide) ?_
      exact E.fg (ih6 (w + 1) (by omega) g hI (by omega)) ⟨Or.inr (rfl), Or.inr (by first | rw [wmN, if_pos (by omega), Nat.mul_add, Nat.mul_one] | rw [wmN, if_neg (by omega), Nat.add_zero]), Or.inr (by first | rw [hqN, if_pos (by omega)] | rw [hqN, if_neg (by omega), Nat.add_zero]), Or.inr (rfl), trivial⟩
    · refine ez_iload_n (q := 23) 1 dX7_fulfilled_22 rfl rfl rfl ?_
      refine ez_aload_n (q := 24) 0 dX7_fulfilled_23 rfl rfl rfl ?_
      refine ez_getf (q := 27) dX7_fulfilled_24 fl_X7_10 hI.1.1 rfl rfl ?_
      refine ez_getf (q := 30) dX7_fulfilled_27 fl_X7_62 hI.ss.ob rfl rfl ?_
      refine ez_iaddN (q := 31) dX7_fulfilled_30 rfl ?_
      refine ez_istore_1 (q := 32) dX7_fulfilled_31 rfl (by decide) rfl rfl ?_
      refine ez_iload_n (q := 33) 2 dX7_fulfilled_32 rfl rfl rfl ?_
      refine ez_aload_n (q := 34) 0 dX7_fulfilled_33 rfl rfl rfl ?_
      refine ez_getf (q := 37) dX7_fulfilled_34 fl_X7_35 hI.1.1 rfl rfl ?_
      refine ez_iload_n (q := 38) 3 dX7_fulfilled_37 rfl rfl rfl ?_
      refine cXv (q := 41) dX7_fulfilled_38 ck_X7_178 hI.mx.ob.choose_spec (t_X2_find hI.mx hI.ss ho hs (by omega) (by omega)) rfl ⟨by decide, rfl⟩ rfl rfl rfl (Nat.le_of_ble_eq_true rfl) rfl (fun g hW => ?_)
      have hG := hW
      clear hW
      have hI := hI.find hG
      refine cUv (q := 44) dX7_fulfilled_41 ck_X7_200 (t_J6_bitCount_0f7a4 (Nat.lt_of_lt_of_le (hW_lt w) (p10 (Nat.le_refl _) hn))) rfl rfl rfl (Nat.le_of_ble_eq_true rfl) rfl ?_
      refine ez_iaddN (q := 45) dX7_fulfilled_44 rfl ?_
      refine ez_istore_2 (q := 46) dX7_fulfilled_45 rfl (by decide) rfl rfl ?_
      refine ez_iincN_3 (q := 49) dX7_fulfilled_46 (by decide) rfl rfl ?_
      refine ez_goto (q := 6) dX7_fulfilled_49 (by decide) ?_
      exact E.fg (ih6 (w + 1) (by omega) g hI (by omega)) ⟨Or.inr (rfl), Or.inr (by first | rw [wmN, if_pos (by omega), Nat.mul_add, Nat.mul_one] | rw [wmN, if_neg (by omega), Nat.add_zero]), Or.inr (by first | rw [hqN, if_pos (by omega)] | rw [hqN, if_neg (by omega), Nat.add_zero]), Or.inr (rfl), trivial⟩

set_option maxHeartbeats 800000 in
set_option maxRecDepth 100000 in
theorem v_X7_ifFair {G : ez_G} {d n : Nat} {h : ez_H} {n' f k t : Nat} {L T ln : Nat → Nat} {sg : Nat → Nat → Nat} {zs : Nat → AS} {b : Nat → Nat} {w u : Nat} (hI : CJ h h n' f L T ln sg k zs t b) (ho : OK n' f L T ln sg) (hs : WFS ln sg) (hw : w < 4) (hu : u ≤ 4) : Con G mX7_ifFair (d + 6) [.ref 1, .int (nI w), .int (fI u)] h n 0 0 (PW n (some (.int (bfI T n' L ln sg w u))) (fun g => CJ h g n' f L T ln sg k zs t b)) := by
  have hn := ho.1
  refine Con.of [some (.ref 1), some (.int (nI w)), some (.int (fI u))] pl_X7 rfl (Nat.le_of_ble_eq_true rfl) rfl ?_
  have hQ : ∀ g, CJ h g n' f L T ln sg k zs t b → (PW n (some (.int (bfI T n' L ln sg w u))) (fun g => CJ h g n' f L T ln sg k zs t b)) (.inl (some (.int (bfI T n' L ln sg w u)))) g n := fun g h1 => ⟨rfl, h1, rfl⟩
  generalize PW n (some (.int (bfI T n' L ln sg w u))) (fun g => CJ h g n' f L T ln sg k zs t b) = Q at hQ ⊢
  refine ez_iload_n (q := 1) 1 dX7_ifFair_0 rfl rfl rfl ?_
  refine cU0 (q := 4) dX7_ifFair_1 ck_X7_127 (v_X7_needWish (by omega)) rfl rfl rfl (Nat.le_of_ble_eq_true rfl) rfl ?_
  refine ez_iload_n (q := 5) 2 dX7_ifFair_4 rfl rfl rfl ?_
  refine cU0 (q := 8) dX7_ifFair_5 ck_X7_100 (v_X7_needLetterOrNone (by omega)) rfl rfl rfl (Nat.le_of_ble_eq_true rfl) rfl ?_
  refine ez_aload_n (q := 9) 0 dX7_ifFair_8 rfl rfl rfl ?_
  refine ez_getf (q := 12) dX7_ifFair_9 fl_X7_51 hI.1.1 rfl rfl ?_
  refine ez_aload_n (q := 13) 0 dX7_ifFair_12 rfl rfl rfl ?_
  refine ez_getf (q := 16) dX7_ifFair_13 fl_X7_10 hI.1.1 rfl rfl ?_
  refine ez_iload_n (q := 17) 1 dX7_ifFair_16 rfl rfl rfl ?_
  refine ez_iload_n (q := 18) 2 dX7_ifFair_17 rfl rfl rfl ?_
  refine cXv (q := 21) dX7_ifFair_18 ck_X7_230 hI.tr9.ob.choose_spec (t_X5_worldsIfFair hI.tr9 hI.ss ho hs (by omega) hu) rfl ⟨by decide, rfl⟩ rfl rfl rfl (Nat.le_of_ble_eq_true rfl) rfl (fun g hW => ?_)
  obtain ⟨hR, hF⟩ := hW
  have hI := hI.trial hR hF
  exact ez_iret dX7_ifFair_21 rfl (hQ _ hI)


