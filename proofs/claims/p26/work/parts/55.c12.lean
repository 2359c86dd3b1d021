/-- the end of a call that may throw: c 0, or X1 or X2 thrown with nothing changed that can be seen -/
def PX (n : Nat) (c : Nat) (v : Option Value) (W WX : ez_H → Prop) (X1 X2 : String) : ez_Q := fun r g m => (c = 0 ∧ r = .inl v ∧ W g ∧ m = n) ∨ (c = 1 ∧ r = .inr X1 ∧ WX g ∧ n ≤ m) ∨ (c = 2 ∧ r = .inr X2 ∧ WX g ∧ n ≤ m)
theorem in3_f {v : Int32} (h : ¬ v < nI 4) : inB v 0 3 = false := in_f3 (k := 3) h (by decide)
theorem in3_t {v : Int32} (h0 : ¬ v < 0) (h : v < nI 4) : inB v 0 3 = true := in_t3 (k := 3) h0 h (by decide)
theorem in15_f {v : Int32} (h : ¬ v ≤ nI 15) : inB v 0 15 = false := in_f2 (k := 15) h (by decide)
theorem in15_t {v : Int32} (h0 : ¬ v < 0) (h : v ≤ nI 15) : inB v 0 15 = true := in_t2 (k := 15) h0 h (by decide)
theorem inc_f1 {v : Int32} (h : v < nI 33) : inB v 33 126 = false := decide_eq_false (by simp only [Int32.lt_iff_toInt_lt, nI_toInt (show 33 < 2 ^ 31 by decide)] at h; omega)
theorem inc_f2 {v : Int32} (h : ¬ v ≤ nI 126) : inB v 33 126 = false := decide_eq_false (by simp only [Int32.le_iff_toInt_le, nI_toInt (show 126 < 2 ^ 31 by decide)] at h; omega)
theorem inc_t {v : Int32} (h0 : ¬ v < nI 33) (h : v ≤ nI 126) : inB v 33 126 = true := decide_eq_true (by simp only [Int32.lt_iff_toInt_lt, Int32.le_iff_toInt_le, nI_toInt (show 33 < 2 ^ 31 by decide), nI_toInt (show 126 < 2 ^ 31 by decide)] at h h0; omega)
theorem i2c_ok : ∀ c, c < 128 → ((nI c).toUInt32 % 65536).toInt32 = nI c := by decide +kernel
theorem BB.put {ch : Nat → Int32} {t c : Nat} {b : Nat → Nat} (hb : BB ch t b) (ht : t < 60) (hc : c < 128) : BB (upd ch t (nI c)) (t + 1) (upN b t c) := ⟨by omega, fun j hj => by
  by_cases e : j = t
  · rw [e, up_eq, upN_eq]; exact ⟨rfl, hc⟩
  · rw [up_ne _ _ e, upN_ne _ _ e]; exact hb.2 j (by omega)⟩
theorem BB.nil {ch : Nat → Int32} {b : Nat → Nat} : BB ch 0 b := ⟨Nat.zero_le _, fun k hk => absurd hk (by omega)⟩
theorem CJ.un {h0 h g : ez_H} {n f k t o : Nat} {L T ln : Nat → Nat} {sg : Nat → Nat → Nat} {zs : Nat → AS} {b : Nat → Nat} {A : AS} (hI : CJ h0 h n f L T ln sg k zs t b) {k2 : Nat} (hS : SSA 2 g A) (hH : HH g k2 o zs) (hg : ∀ j, (j < 2 ∨ 8 ≤ j) → g j = h j) : CJ h0 g A.1 A.2.1 A.2.2.1 A.2.2.2.1 A.2.2.2.2.1 A.2.2.2.2.2 k2 zs t b := ⟨⟨(hg 1 (by omega)).trans hI.1.1, hS, ⟨o, hH⟩, TXB.to hI.tx (hg 39 (by omega)) (hg 40 (by omega)), hI.mx.to (fun j a c => hg j (by omega)), hI.wo.to (fun j a c => hg j (by omega)), hI.tr9.to (fun j a c => hg j (by omega))⟩, fun j hj => (hg j (by omega)).trans (hI.2 j hj)⟩
set_option maxHeartbeats 800000 in
set_option maxRecDepth 100000 in
theorem t_X7_addWorld {G : ez_G} {d n : Nat} {h : ez_H} {n' f k t : Nat} {L T ln : Nat → Nat} {sg : Nat → Nat → Nat} {zs : Nat → AS} {b : Nat → Nat} {l : Int32} (hI : CJ h h n' f L T ln sg k zs t b) (ho : OK n' f L T ln sg) (hs : WFS ln sg) : Con G mX7_addWorld (d + 7) [.ref 1, .int l] h n 3 18 (PX n (cdA n' l) (some (.int (nI n'))) (fun g => CJ h g (n' + 1) f (upN L n' (nn l)) (upN T n' 0) ln sg (svk k) (pushZ zs k ((n', f, L, T, ln, sg) : AS)) t b) (fun g => CJ h g n' f L T ln sg k zs t b) ez_IA ez_IS) := by
  have hn := ho.1
  refine Con.of [some (.ref 1), some (.int l)] pl_X7 rfl (Nat.le_of_ble_eq_true rfl) rfl ?_
  have hQ0 : cdA n' l = 0 → ∀ g, CJ h g (n' + 1) f (upN L n' (nn l)) (upN T n' 0) ln sg (svk k) (pushZ zs k ((n', f, L, T, ln, sg) : AS)) t b → (PX n (cdA n' l) (some (.int (nI n'))) (fun g => CJ h g (n' + 1) f (upN L n' (nn l)) (upN T n' 0) ln sg (svk k) (pushZ zs k ((n', f, L, T, ln, sg) : AS)) t b) (fun g => CJ h g n' f L T ln sg k zs t b) ez_IA ez_IS) (.inl (some (.int (nI n')))) g n := fun e g a => Or.inl ⟨e, rfl, a, rfl⟩
  have hX1 : cdA n' l = 1 → ∀ g, CJ h g n' f L T ln sg k zs t b → ∀ m, n ≤ m → (PX n (cdA n' l) (some (.int (nI n'))) (fun g => CJ h g (n' + 1) f (upN L n' (nn l)) (upN T n' 0) ln sg (svk k) (pushZ zs k ((n', f, L, T, ln, sg) : AS)) t b) (fun g => CJ h g n' f L T ln sg k zs t b) ez_IA ez_IS) (.inr ez_IA) g m := fun e g a m hm => Or.inr (Or.inl ⟨e, rfl, a, hm⟩)
  have hX2 : cdA n' l = 2 → ∀ g, CJ h g n' f L T ln sg k zs t b → ∀ m, n ≤ m → (PX n (cdA n' l) (some (.int (nI n'))) (fun g => CJ h g (n' + 1) f (upN L n' (nn l)) (upN T n' 0) ln sg (svk k) (pushZ zs k ((n', f, L, T, ln, sg) : AS)) t b) (fun g => CJ h g n' f L T ln sg k zs t b) ez_IA ez_IS) (.inr ez_IS) g m := fun e g a m hm => Or.inr (Or.inr ⟨e, rfl, a, hm⟩)
  generalize PX n (cdA n' l) (some (.int (nI n'))) (fun g => CJ h g (n' + 1) f (upN L n' (nn l)) (upN T n' 0) ln sg (svk k) (pushZ zs k ((n', f, L, T, ln, sg) : AS)) t b) (fun g => CJ h g n' f L T ln sg k zs t b) ez_IA ez_IS = Q at hQ0 hX1 hX2 ⊢
  refine ez_iload_n (q := 1) 1 dX7_addWorld_0 rfl rfl rfl ?_
  refine ez_iflt (q := 4) (tgt := 10) dX7_addWorld_1 (by decide) rfl (fun hc1 => ?_) (fun hc1 => ?_)
  · exact ez_throw (is := 57) (text := "letters are a mask from 0 to 15") rfl rfl tx_55_59 (List.mem_of_getElem? (i := 4) rfl) dX7_addWorld_10 dX7_addWorld_13 dX7_addWorld_14 dX7_addWorld_16 dX7_addWorld_19 (Nat.le_of_ble_eq_true rfl) (fun n1 hn1 => hX1 (by first | simp [cdA, in_f1 (m := 15) hc1] | simp [cdA, in15_f hc7]) _ hI n1 hn1)
  · refine ez_iload_n (q := 5) 1 dX7_addWorld_4 rfl rfl rfl ?_
    refine ez_bipush (v := nI 15) (q := 7) dX7_addWorld_5 (by decide) rfl ?_
    refine ez_icmple (q := 10) (tgt := 20) dX7_addWorld_7 (by decide) rfl (fun hc7 => ?_) (fun hc7 => ?_)
    · refine ez_aload_n (q := 21) 0 dX7_addWorld_20 rfl rfl rfl ?_
      refine ez_getf (q := 24) dX7_addWorld_21 fl_X7_10 hI.1.1 rfl rfl ?_
      refine ez_getf (q := 27) dX7_addWorld_24 fl_X7_62 hI.ss.ob rfl rfl ?_
      refine ez_bipush (v := nI 10) (q := 29) dX7_addWorld_27 (by decide) rfl ?_
      refine ez_icmpltN (q := 32) (tgt := 42) dX7_addWorld_29 (by decide) (by omega) (by decide) rfl (fun hc29 => ?_) (fun hc29 => ?_)
      · have hl9 := in15_t hc1 hc7
        have hne : ¬ n' = 10 := by omega
        have hQ := hQ0 (by simp [cdA, hl9, hne])
        clear hQ0 hX1 hX2
        obtain ⟨l, rfl, hl, hl2⟩ := inB_nat hl9
        rw [nn_nI hl2] at hQ
        refine ez_aload_n (q := 43) 0 dX7_addWorld_42 rfl rfl rfl ?_
        refine ez_getf (q := 46) dX7_addWorld_43 fl_X7_19 hI.1.1 rfl rfl ?_
        refine ez_aload_n (q := 47) 0 dX7_addWorld_46 rfl rfl rfl ?_
        refine ez_getf (q := 50) dX7_addWorld_47 fl_X7_10 hI.1.1 rfl rfl ?_
        obtain ⟨o, hH⟩ := hI.hh
        refine cX0 (q := 53) dX7_addWorld_50 ck_X7_71 hI.hh.choose_spec.1 (t_X1_save hH hI.ss ho) rfl ⟨by decide, rfl⟩ rfl rfl rfl (Nat.le_of_ble_eq_true rfl) rfl (fun g hW => ?_)
        obtain ⟨hH2, hF2⟩ := hW
        have hI := hI.sv hH2 hF2
        refine ez_aload_n (q := 54) 0 dX7_addWorld_53 rfl rfl rfl ?_
        refine ez_getf (q := 57) dX7_addWorld_54 fl_X7_10 hI.1.1 rfl rfl ?_
        refine ez_iload_n (q := 58) 1 dX7_addWorld_57 rfl rfl rfl ?_
        refine cXv (q := 61) dX7_addWorld_58 ck_X7_74 hI.ss.ob (t_X3_putWorld hI.ss ho (by omega)) rfl ⟨by decide, rfl⟩ rfl rfl rfl (Nat.le_of_ble_eq_true rfl) rfl (fun g hW => ?_)
        obtain ⟨hS2, hF2⟩ := hW
        have hI := hI.st hS2 hF2
        exact ez_iret dX7_addWorld_61 rfl (hQ _ hI)
      · have hl9 := in15_t hc1 hc7
        have hn10 : n' = 10 := by omega
        exact ez_throw (is := 68) (text := "there are 10 worlds") rfl rfl tx_66_70 (List.mem_of_getElem? (i := 5) rfl) dX7_addWorld_32 dX7_addWorld_35 dX7_addWorld_36 dX7_addWorld_38 dX7_addWorld_41 (Nat.le_of_ble_eq_true rfl) (fun n1 hn1 => hX2 (by first | simp [cdA, hl9, hn10]) _ hI n1 hn1)
    · exact ez_throw (is := 57) (text := "letters are a mask from 0 to 15") rfl rfl tx_55_59 (List.mem_of_getElem? (i := 4) rfl) dX7_addWorld_10 dX7_addWorld_13 dX7_addWorld_14 dX7_addWorld_16 dX7_addWorld_19 (Nat.le_of_ble_eq_true rfl) (fun n1 hn1 => hX1 (by first | simp [cdA, in_f1 (m := 15) hc1] | simp [cdA, in15_f hc7]) _ hI n1 hn1)

set_option maxHeartbeats 800000 in
set_option maxRecDepth 100000 in
theorem t_X7_step {G : ez_G} {d n : Nat} {h : ez_H} {n' f k t : Nat} {L T ln : Nat → Nat} {sg : Nat → Nat → Nat} {zs : Nat → AS} {b : Nat → Nat} {u v : Int32} (hI : CJ h h n' f L T ln sg k zs t b) (ho : OK n' f L T ln sg) (hs : WFS ln sg) : Con G mX7_step (d + 7) [.ref 1, .int u, .int v] h n 3 18 (PX n (cdP n' u v) (some (.int (nI ((T (nn u) ^^^ 2 ^ nn v) >>> nn v &&& 1)))) (fun g => CJ h g n' f L (upN T (nn u) (T (nn u) ^^^ 2 ^ nn v)) ln sg (svk k) (pushZ zs k ((n', f, L, T, ln, sg) : AS)) t b) (fun g => CJ h g n' f L T ln sg k zs t b) ez_IO "") := by
  have hn := ho.1
  refine Con.of [some (.ref 1), some (.int u), some (.int v)] pl_X7 rfl (Nat.le_of_ble_eq_true rfl) rfl ?_
  have hQ0 : cdP n' u v = 0 → ∀ g, CJ h g n' f L (upN T (nn u) (T (nn u) ^^^ 2 ^ nn v)) ln sg (svk k) (pushZ zs k ((n', f, L, T, ln, sg) : AS)) t b → (PX n (cdP n' u v) (some (.int (nI ((T (nn u) ^^^ 2 ^ nn v) >>> nn v &&& 1)))) (fun g => CJ h g n' f L (upN T (nn u) (T (nn u) ^^^ 2 ^ nn v)) ln sg (svk k) (pushZ zs k ((n', f, L, T, ln, sg) : AS)) t b) (fun g => CJ h g n' f L T ln sg k zs t b) ez_IO "") (.inl (some (.int (nI ((T (nn u) ^^^ 2 ^ nn v) >>> nn v &&& 1))))) g n := fun e g a => Or.inl ⟨e, rfl, a, rfl⟩
  have hX1 : cdP n' u v = 1 → ∀ g, CJ h g n' f L T ln sg k zs t b → ∀ m, n ≤ m → (PX n (cdP n' u v) (some (.int (nI ((T (nn u) ^^^ 2 ^ nn v) >>> nn v &&& 1)))) (fun g => CJ h g n' f L (upN T (nn u) (T (nn u) ^^^ 2 ^ nn v)) ln sg (svk k) (pushZ zs k ((n', f, L, T, ln, sg) : AS)) t b) (fun g => CJ h g n' f L T ln sg k zs t b) ez_IO "") (.inr ez_IO) g m := fun e g a m hm => Or.inr (Or.inl ⟨e, rfl, a, hm⟩)
  have hX2 : cdP n' u v = 2 → ∀ g, CJ h g n' f L T ln sg k zs t b → ∀ m, n ≤ m → (PX n (cdP n' u v) (some (.int (nI ((T (nn u) ^^^ 2 ^ nn v) >>> nn v &&& 1)))) (fun g => CJ h g n' f L (upN T (nn u) (T (nn u) ^^^ 2 ^ nn v)) ln sg (svk k) (pushZ zs k ((n', f, L, T, ln, sg) : AS)) t b) (fun g => CJ h g n' f L T ln sg k zs t b) ez_IO "") (.inr "") g m := fun e g a m hm => Or.inr (Or.inr ⟨e, rfl, a, hm⟩)
  generalize PX n (cdP n' u v) (some (.int (nI ((T (nn u) ^^^ 2 ^ nn v) >>> nn v &&& 1)))) (fun g => CJ h g n' f L (upN T (nn u) (T (nn u) ^^^ 2 ^ nn v)) ln sg (svk k) (pushZ zs k ((n', f, L, T, ln, sg) : AS)) t b) (fun g => CJ h g n' f L T ln sg k zs t b) ez_IO "" = Q at hQ0 hX1 hX2 ⊢
  refine ez_aload_n (q := 1) 0 dX7_step_0 rfl rfl rfl ?_
  refine ez_iload_n (q := 2) 1 dX7_step_1 rfl rfl rfl ?_
  refine cNv (q := 5) dX7_step_2 ck_X7_78 hI.1.1 (t_X7_needWorld hI.rb ho hs) rfl ⟨by decide, rfl⟩ rfl rfl rfl (Nat.le_of_ble_eq_true rfl) rfl (fun hN2 m9 hm9 => EX_out rfl (hX1 (by simp [cdP, hN2]) _ hI m9 hm9)) (fun hN2 => ?_)
  refine ez_aload_n (q := 6) 0 dX7_step_5 rfl rfl rfl ?_
  refine ez_iload_n (q := 7) 2 dX7_step_6 rfl rfl rfl ?_
  refine cNv (q := 10) dX7_step_7 ck_X7_78 hI.1.1 (t_X7_needWorld hI.rb ho hs) rfl ⟨by decide, rfl⟩ rfl rfl rfl (Nat.le_of_ble_eq_true rfl) rfl (fun hN7 m9 hm9 => EX_out rfl (hX1 (by simp [cdP, hN2, hN7]) _ hI m9 hm9)) (fun hN7 => ?_)
  have hQ := hQ0 (by simp [cdP, hN2, hN7])
  clear hQ0 hX1 hX2
  obtain ⟨u, rfl, hu, hu2⟩ := inB_nat hN2
  obtain ⟨v, rfl, hv1, hv2⟩ := inB_nat hN7
  rw [nn_nI hu2, nn_nI hv2] at hQ
  have hx := xo_lt (b := v) (ho.2.2.2.1 u (by omega)) (show v < n' by omega)
  refine ez_aload_n (q := 11) 0 dX7_step_10 rfl rfl rfl ?_
  refine ez_getf (q := 14) dX7_step_11 fl_X7_19 hI.1.1 rfl rfl ?_
  refine ez_aload_n (q := 15) 0 dX7_step_14 rfl rfl rfl ?_
  refine ez_getf (q := 18) dX7_step_15 fl_X7_10 hI.1.1 rfl rfl ?_
  obtain ⟨o, hH⟩ := hI.hh
  refine cX0 (q := 21) dX7_step_18 ck_X7_71 hI.hh.choose_spec.1 (t_X1_save hH hI.ss ho) rfl ⟨by decide, rfl⟩ rfl rfl rfl (Nat.le_of_ble_eq_true rfl) rfl (fun g hW => ?_)
  obtain ⟨hH2, hF2⟩ := hW
  have hI := hI.sv hH2 hF2
  refine ez_aload_n (q := 22) 0 dX7_step_21 rfl rfl rfl ?_
  refine ez_getf (q := 25) dX7_step_22 fl_X7_10 hI.1.1 rfl rfl ?_
  refine ez_iload_n (q := 26) 1 dX7_step_25 rfl rfl rfl ?_
  refine ez_iload_n (q := 27) 2 dX7_step_26 rfl rfl rfl ?_
  refine cX0 (q := 30) dX7_step_27 ck_X7_85 hI.ss.ob (t_X3_turnStep hI.ss ho (by omega) (by omega)) rfl ⟨by decide, rfl⟩ rfl rfl rfl (Nat.le_of_ble_eq_true rfl) rfl (fun g hW => ?_)
  obtain ⟨hS2, hF2⟩ := hW
  have hI := hI.st hS2 hF2
  refine ez_aload_n (q := 31) 0 dX7_step_30 rfl rfl rfl ?_
  refine ez_getf (q := 34) dX7_step_31 fl_X7_10 hI.1.1 rfl rfl ?_
  refine ez_iload_n (q := 35) 1 dX7_step_34 rfl rfl rfl ?_
  refine cPv (q := 38) dX7_step_35 ck_X7_89 hI.ss.ob (r_X3_stepsFrom hI.ss (ho.turn u hx) (by omega)) rfl ⟨by decide, rfl⟩ rfl rfl rfl (Nat.le_of_ble_eq_true rfl) rfl ?_
  rw [upN_eq]
  refine ez_iload_n (q := 39) 2 dX7_step_38 rfl rfl rfl ?_
  refine ez_ishrN (q := 40) dX7_step_39 (lt31 hx hn) (by omega) rfl ?_
  refine ez_iconst (v := nI 1) (q := 41) dX7_step_40 (by decide) rfl ?_
  refine ez_iandN (q := 42) dX7_step_41 rfl ?_
  exact ez_iret dX7_step_42 rfl (hQ _ hI)

set_option maxHeartbeats 800000 in
set_option maxRecDepth 100000 in
theorem t_X7_fair {G : ez_G} {d n : Nat} {h : ez_H} {n' f k t : Nat} {L T ln : Nat → Nat} {sg : Nat → Nat → Nat} {zs : Nat → AS} {b : Nat → Nat} {u : Int32} (hI : CJ h h n' f L T ln sg k zs t b) (ho : OK n' f L T ln sg) (hs : WFS ln sg) : Con G mX7_fair (d + 7) [.ref 1, .int u] h n 3 18 (PX n (cdW1 u) (some (.int (fI f))) (fun g => CJ h g n' (lf u) L T ln sg (svk k) (pushZ zs k ((n', f, L, T, ln, sg) : AS)) t b) (fun g => CJ h g n' f L T ln sg k zs t b) ez_IA "") := by
  have hn := ho.1
  refine Con.of [some (.ref 1), some (.int u), none] pl_X7 rfl (Nat.le_of_ble_eq_true rfl) rfl ?_
  have hQ0 : cdW1 u = 0 → ∀ g, CJ h g n' (lf u) L T ln sg (svk k) (pushZ zs k ((n', f, L, T, ln, sg) : AS)) t b → (PX n (cdW1 u) (some (.int (fI f))) (fun g => CJ h g n' (lf u) L T ln sg (svk k) (pushZ zs k ((n', f, L, T, ln, sg) : AS)) t b) (fun g => CJ h g n' f L T ln sg k zs t b) ez_IA "") (.inl (some (.int (fI f)))) g n := fun e g a => Or.inl ⟨e, rfl, a, rfl⟩
  have hX1 : cdW1 u = 1 → ∀ g, CJ h g n' f L T ln sg k zs t b → ∀ m, n ≤ m → (PX n (cdW1 u) (some (.int (fI f))) (fun g => CJ h g n' (lf u) L T ln sg (svk k) (pushZ zs k ((n', f, L, T, ln, sg) : AS)) t b) (fun g => CJ h g n' f L T ln sg k zs t b) ez_IA "") (.inr ez_IA) g m := fun e g a m hm => Or.inr (Or.inl ⟨e, rfl, a, hm⟩)
  have hX2 : cdW1 u = 2 → ∀ g, CJ h g n' f L T ln sg k zs t b → ∀ m, n ≤ m → (PX n (cdW1 u) (some (.int (fI f))) (fun g => CJ h g n' (lf u) L T ln sg (svk k) (pushZ zs k ((n', f, L, T, ln, sg) : AS)) t b) (fun g => CJ h g n' f L T ln sg k zs t b) ez_IA "") (.inr "") g m := fun e g a m hm => Or.inr (Or.inr ⟨e, rfl, a, hm⟩)
  generalize PX n (cdW1 u) (some (.int (fI f))) (fun g => CJ h g n' (lf u) L T ln sg (svk k) (pushZ zs k ((n', f, L, T, ln, sg) : AS)) t b) (fun g => CJ h g n' f L T ln sg k zs t b) ez_IA "" = Q at hQ0 hX1 hX2 ⊢
  refine ez_iload_n (q := 1) 1 dX7_fair_0 rfl rfl rfl ?_
  refine cNs (q := 4) dX7_fair_1 ck_X7_100 (t_X7_needLetterOrNone) rfl rfl rfl (Nat.le_of_ble_eq_true rfl) rfl (fun hN1 m9 hm9 => EX_out rfl (hX1 (by simp [cdW1, hN1]) _ hI m9 hm9)) (fun hN1 => ?_)
  have hQ := hQ0 (by simp [cdW1, hN1])
  clear hQ0 hX1 hX2
  obtain ⟨u, rfl, hu, hu2⟩ := inL_nat hN1
  rw [hu2] at hQ
  refine ez_aload_n (q := 5) 0 dX7_fair_4 rfl rfl rfl ?_
  refine ez_getf (q := 8) dX7_fair_5 fl_X7_19 hI.1.1 rfl rfl ?_
  refine ez_aload_n (q := 9) 0 dX7_fair_8 rfl rfl rfl ?_
  refine ez_getf (q := 12) dX7_fair_9 fl_X7_10 hI.1.1 rfl rfl ?_
  obtain ⟨o, hH⟩ := hI.hh
  refine cX0 (q := 15) dX7_fair_12 ck_X7_71 hI.hh.choose_spec.1 (t_X1_save hH hI.ss ho) rfl ⟨by decide, rfl⟩ rfl rfl rfl (Nat.le_of_ble_eq_true rfl) rfl (fun g hW => ?_)
  obtain ⟨hH2, hF2⟩ := hW
  have hI := hI.sv hH2 hF2
  refine ez_aload_n (q := 16) 0 dX7_fair_15 rfl rfl rfl ?_
  refine ez_getf (q := 19) dX7_fair_16 fl_X7_10 hI.1.1 rfl rfl ?_
  refine ez_getf (q := 22) dX7_fair_19 fl_X7_103 hI.ss.ob rfl rfl ?_
  refine ez_istore_2 (q := 23) dX7_fair_22 rfl (by decide) rfl rfl ?_
  refine ez_aload_n (q := 24) 0 dX7_fair_23 rfl rfl rfl ?_
  refine ez_getf (q := 27) dX7_fair_24 fl_X7_10 hI.1.1 rfl rfl ?_
  refine ez_iload_n (q := 28) 1 dX7_fair_27 rfl rfl rfl ?_
  obtain ⟨lt9, st9, le9, sc9, hw9, hz9⟩ := hI.ss
  refine pSW_ff (q := 31) dX7_fair_28 fl_X7_103 hw9 rfl (fun g hw8 => ?_)
  have hI := hI.st (show SS 2 g n' u L T ln sg from ⟨lt9, st9, le9, sc9, hw8.rb, hz9⟩) hw8.fr
  refine ez_iload_n (q := 32) 2 dX7_fair_31 rfl rfl rfl ?_
  exact ez_iret dX7_fair_32 rfl (hQ _ hI)

set_option maxHeartbeats 800000 in
set_option maxRecDepth 100000 in
theorem t_X7_append {G : ez_G} {d n : Nat} {h : ez_H} {n' f k t : Nat} {L T ln : Nat → Nat} {sg : Nat → Nat → Nat} {zs : Nat → AS} {b : Nat → Nat} {c : Int32} (hI : CJ h h n' f L T ln sg k zs t b) (ho : OK n' f L T ln sg) (hs : WFS ln sg) : Con G mX7_append (d + 7) [.ref 1, .int c] h n 3 18 (PX n (cdB t c) (some (.int (nI (t + 1)))) (fun g => CJ h g n' f L T ln sg k zs (t + 1) (upN b t (nn c))) (fun g => CJ h g n' f L T ln sg k zs t b) ez_IA ez_IS) := by
  have hn := ho.1
  refine Con.of [some (.ref 1), some (.int c)] pl_X7 rfl (Nat.le_of_ble_eq_true rfl) rfl ?_
  have hQ0 : cdB t c = 0 → ∀ g, CJ h g n' f L T ln sg k zs (t + 1) (upN b t (nn c)) → (PX n (cdB t c) (some (.int (nI (t + 1)))) (fun g => CJ h g n' f L T ln sg k zs (t + 1) (upN b t (nn c))) (fun g => CJ h g n' f L T ln sg k zs t b) ez_IA ez_IS) (.inl (some (.int (nI (t + 1))))) g n := fun e g a => Or.inl ⟨e, rfl, a, rfl⟩
  have hX1 : cdB t c = 1 → ∀ g, CJ h g n' f L T ln sg k zs t b → ∀ m, n ≤ m → (PX n (cdB t c) (some (.int (nI (t + 1)))) (fun g => CJ h g n' f L T ln sg k zs (t + 1) (upN b t (nn c))) (fun g => CJ h g n' f L T ln sg k zs t b) ez_IA ez_IS) (.inr ez_IA) g m := fun e g a m hm => Or.inr (Or.inl ⟨e, rfl, a, hm⟩)
  have hX2 : cdB t c = 2 → ∀ g, CJ h g n' f L T ln sg k zs t b → ∀ m, n ≤ m → (PX n (cdB t c) (some (.int (nI (t + 1)))) (fun g => CJ h g n' f L T ln sg k zs (t + 1) (upN b t (nn c))) (fun g => CJ h g n' f L T ln sg k zs t b) ez_IA ez_IS) (.inr ez_IS) g m := fun e g a m hm => Or.inr (Or.inr ⟨e, rfl, a, hm⟩)
  generalize PX n (cdB t c) (some (.int (nI (t + 1)))) (fun g => CJ h g n' f L T ln sg k zs (t + 1) (upN b t (nn c))) (fun g => CJ h g n' f L T ln sg k zs t b) ez_IA ez_IS = Q at hQ0 hX1 hX2 ⊢
  obtain ⟨op, hw9, ch, hT, hb⟩ := hI.tx
  have ht := hb.1
  refine ez_iload_n (q := 1) 1 dX7_append_0 rfl rfl rfl ?_
  refine ez_bipush (v := nI 33) (q := 3) dX7_append_1 (by decide) rfl ?_
  refine ez_icmplt (q := 6) (tgt := 12) dX7_append_3 (by decide) rfl (fun hc3 => ?_) (fun hc3 => ?_)
  · exact ez_throw (is := 113) (text := "a character code is 33 to 126") rfl rfl tx_55_59 (List.mem_of_getElem? (i := 6) rfl) dX7_append_12 dX7_append_15 dX7_append_16 dX7_append_18 dX7_append_21 (Nat.le_of_ble_eq_true rfl) (fun n1 hn1 => hX1 (by first | simp [cdB, inc_f1 hc3] | simp [cdB, inc_f2 hc9]) _ hI n1 hn1)
  · refine ez_iload_n (q := 7) 1 dX7_append_6 rfl rfl rfl ?_
    refine ez_bipush (v := nI 126) (q := 9) dX7_append_7 (by decide) rfl ?_
    refine ez_icmple (q := 12) (tgt := 22) dX7_append_9 (by decide) rfl (fun hc9 => ?_) (fun hc9 => ?_)
    · refine ez_aload_n (q := 23) 0 dX7_append_22 rfl rfl rfl ?_
      refine ez_getf (q := 26) dX7_append_23 fl_X7_26 hI.1.1 rfl rfl ?_
      refine ez_getf (q := 29) dX7_append_26 fl_X7_115 hT.1 rfl rfl ?_
      refine ez_bipush (v := nI 60) (q := 31) dX7_append_29 (by decide) rfl ?_
      refine ez_icmpltN (q := 34) (tgt := 44) dX7_append_31 (by decide) (by omega) (by decide) rfl (fun hc31 => ?_) (fun hc31 => ?_)
      · have hc9 := inc_t hc3 hc9
        have hne : ¬ t = 60 := by omega
        have hQ := hQ0 (by simp [cdB, hc9, hne])
        clear hQ0 hX1 hX2
        obtain ⟨c, rfl, hcn, hc1, hc2⟩ := inB_c hc9
        rw [hcn] at hQ
        refine ez_aload_n (q := 45) 0 dX7_append_44 rfl rfl rfl ?_
        refine ez_getf (q := 48) dX7_append_45 fl_X7_26 hI.1.1 rfl rfl ?_
        refine ez_iload_n (q := 49) 1 dX7_append_48 rfl rfl rfl ?_
        refine ez_i2c (v := nI c) (q := 50) dX7_append_49 (i2c_ok c (by omega)) rfl ?_
        refine cX0 (q := 53) dX7_append_50 ck_X7_120 hT.1 (t_X4_put hT (by omega) (by omega)) rfl ⟨by decide, rfl⟩ rfl rfl rfl (Nat.le_of_ble_eq_true rfl) rfl (fun g hW => ?_)
        have hT := hW
        clear hW
        have hI := hI.bu hT (hb.put (by omega) (show c < 128 by omega))
        refine ez_aload_n (q := 54) 0 dX7_append_53 rfl rfl rfl ?_
        refine ez_getf (q := 57) dX7_append_54 fl_X7_26 hI.1.1 rfl rfl ?_
        refine ez_getf (q := 60) dX7_append_57 fl_X7_115 hT.1 rfl rfl ?_
        exact ez_iret dX7_append_60 rfl (hQ _ hI)
      · have hc9 := inc_t hc3 hc9
        have ht60 : t = 60 := by omega
        exact ez_throw (is := 118) (text := "the buffer has 60 characters") rfl rfl tx_66_70 (List.mem_of_getElem? (i := 7) rfl) dX7_append_34 dX7_append_37 dX7_append_38 dX7_append_40 dX7_append_43 (Nat.le_of_ble_eq_true rfl) (fun n1 hn1 => hX2 (by first | simp [cdB, hc9, ht60]) _ hI n1 hn1)
    · exact ez_throw (is := 113) (text := "a character code is 33 to 126") rfl rfl tx_55_59 (List.mem_of_getElem? (i := 6) rfl) dX7_append_12 dX7_append_15 dX7_append_16 dX7_append_18 dX7_append_21 (Nat.le_of_ble_eq_true rfl) (fun n1 hn1 => hX1 (by first | simp [cdB, inc_f1 hc3] | simp [cdB, inc_f2 hc9]) _ hI n1 hn1)

set_option maxHeartbeats 800000 in
set_option maxRecDepth 100000 in
theorem t_X7_firstError {G : ez_G} {d n : Nat} {h : ez_H} {n' f k t : Nat} {L T ln : Nat → Nat} {sg : Nat → Nat → Nat} {zs : Nat → AS} {b : Nat → Nat} (hI : CJ h h n' f L T ln sg k zs t b) (ho : OK n' f L T ln sg) (hs : WFS ln sg) : Con G mX7_firstError (d + 7) [.ref 1] h n 3 18 (PX n (0) (some (.int (nI (rdR b t).1))) (fun g => CJ h g n' f L T ln sg k zs t b) (fun g => CJ h g n' f L T ln sg k zs t b) "" "") := by
  have hn := ho.1
  refine Con.of [some (.ref 1)] pl_X7 rfl (Nat.le_of_ble_eq_true rfl) rfl ?_
  have hQ0 : 0 = 0 → ∀ g, CJ h g n' f L T ln sg k zs t b → (PX n (0) (some (.int (nI (rdR b t).1))) (fun g => CJ h g n' f L T ln sg k zs t b) (fun g => CJ h g n' f L T ln sg k zs t b) "" "") (.inl (some (.int (nI (rdR b t).1)))) g n := fun e g a => Or.inl ⟨e, rfl, a, rfl⟩
  have hX1 : 0 = 1 → ∀ g, CJ h g n' f L T ln sg k zs t b → ∀ m, n ≤ m → (PX n (0) (some (.int (nI (rdR b t).1))) (fun g => CJ h g n' f L T ln sg k zs t b) (fun g => CJ h g n' f L T ln sg k zs t b) "" "") (.inr "") g m := fun e g a m hm => Or.inr (Or.inl ⟨e, rfl, a, hm⟩)
  have hX2 : 0 = 2 → ∀ g, CJ h g n' f L T ln sg k zs t b → ∀ m, n ≤ m → (PX n (0) (some (.int (nI (rdR b t).1))) (fun g => CJ h g n' f L T ln sg k zs t b) (fun g => CJ h g n' f L T ln sg k zs t b) "" "") (.inr "") g m := fun e g a m hm => Or.inr (Or.inr ⟨e, rfl, a, hm⟩)
  generalize PX n (0) (some (.int (nI (rdR b t).1))) (fun g => CJ h g n' f L T ln sg k zs t b) (fun g => CJ h g n' f L T ln sg k zs t b) "" "" = Q at hQ0 hX1 hX2 ⊢
  obtain ⟨op, hw9, ch, hT, hb⟩ := hI.tx
  have hQ := hQ0 rfl
  clear hQ0 hX1 hX2
  refine ez_aload_n (q := 1) 0 dX7_firstError_0 rfl rfl rfl ?_
  refine ez_getf (q := 4) dX7_firstError_1 fl_X7_26 hI.1.1 rfl rfl ?_
  refine cXv (q := 7) dX7_firstError_4 ck_X7_124 hT.1 (t_X4_firstFault hT hb) rfl ⟨by decide, rfl⟩ rfl rfl rfl (Nat.le_of_ble_eq_true rfl) rfl (fun g hW => ?_)
  obtain ⟨op2, hw2, hT2, hx⟩ := hW
  have hI := hI.bu hT2 hb
  exact ez_iret dX7_firstError_7 rfl (hQ _ hI)

set_option maxHeartbeats 800000 in
set_option maxRecDepth 100000 in
theorem t_X7_read {G : ez_G} {d n : Nat} {h : ez_H} {n' f k t : Nat} {L T ln : Nat → Nat} {sg : Nat → Nat → Nat} {zs : Nat → AS} {b : Nat → Nat} {w : Int32} (hI : CJ h h n' f L T ln sg k zs t b) (ho : OK n' f L T ln sg) (hs : WFS ln sg) : Con G mX7_read (d + 7) [.ref 1, .int w] h n 3 18 (PX n (cdD b t w) (some (.int (nI t))) (fun g => CJ h g n' f L T (upN ln (nn w) t) (sgN sg (nn w) b) (svk k) (pushZ zs k ((n', f, L, T, ln, sg) : AS)) 0 b) (fun g => CJ h g n' f L T ln sg k zs t b) ez_IO ez_IA) := by
  have hn := ho.1
  refine Con.of [some (.ref 1), some (.int w)] pl_X7 rfl (Nat.le_of_ble_eq_true rfl) rfl ?_
  have hQ0 : cdD b t w = 0 → ∀ g, CJ h g n' f L T (upN ln (nn w) t) (sgN sg (nn w) b) (svk k) (pushZ zs k ((n', f, L, T, ln, sg) : AS)) 0 b → (PX n (cdD b t w) (some (.int (nI t))) (fun g => CJ h g n' f L T (upN ln (nn w) t) (sgN sg (nn w) b) (svk k) (pushZ zs k ((n', f, L, T, ln, sg) : AS)) 0 b) (fun g => CJ h g n' f L T ln sg k zs t b) ez_IO ez_IA) (.inl (some (.int (nI t)))) g n := fun e g a => Or.inl ⟨e, rfl, a, rfl⟩
  have hX1 : cdD b t w = 1 → ∀ g, CJ h g n' f L T ln sg k zs t b → ∀ m, n ≤ m → (PX n (cdD b t w) (some (.int (nI t))) (fun g => CJ h g n' f L T (upN ln (nn w) t) (sgN sg (nn w) b) (svk k) (pushZ zs k ((n', f, L, T, ln, sg) : AS)) 0 b) (fun g => CJ h g n' f L T ln sg k zs t b) ez_IO ez_IA) (.inr ez_IO) g m := fun e g a m hm => Or.inr (Or.inl ⟨e, rfl, a, hm⟩)
  have hX2 : cdD b t w = 2 → ∀ g, CJ h g n' f L T ln sg k zs t b → ∀ m, n ≤ m → (PX n (cdD b t w) (some (.int (nI t))) (fun g => CJ h g n' f L T (upN ln (nn w) t) (sgN sg (nn w) b) (svk k) (pushZ zs k ((n', f, L, T, ln, sg) : AS)) 0 b) (fun g => CJ h g n' f L T ln sg k zs t b) ez_IO ez_IA) (.inr ez_IA) g m := fun e g a m hm => Or.inr (Or.inr ⟨e, rfl, a, hm⟩)
  generalize PX n (cdD b t w) (some (.int (nI t))) (fun g => CJ h g n' f L T (upN ln (nn w) t) (sgN sg (nn w) b) (svk k) (pushZ zs k ((n', f, L, T, ln, sg) : AS)) 0 b) (fun g => CJ h g n' f L T ln sg k zs t b) ez_IO ez_IA = Q at hQ0 hX1 hX2 ⊢
  obtain ⟨op, hw9, ch, hT, hb⟩ := hI.tx
  refine ez_iload_n (q := 1) 1 dX7_read_0 rfl rfl rfl ?_
  refine cNs (q := 4) dX7_read_1 ck_X7_127 (t_X7_needWish) rfl rfl rfl (Nat.le_of_ble_eq_true rfl) rfl (fun hN1 m9 hm9 => EX_out rfl (hX1 (by simp [cdD, hN1]) _ hI m9 hm9)) (fun hN1 => ?_)
  obtain ⟨w, rfl, hw, hw2⟩ := inB_nat hN1
  rw [nn_nI hw2] at hQ0
  refine ez_aload_n (q := 5) 0 dX7_read_4 rfl rfl rfl ?_
  refine ez_getf (q := 8) dX7_read_5 fl_X7_26 hI.1.1 rfl rfl ?_
  refine cXv (q := 11) dX7_read_8 ck_X7_130 hT.1 (t_X4_isWish hT hb) rfl ⟨by decide, rfl⟩ rfl rfl rfl (Nat.le_of_ble_eq_true rfl) rfl (fun g hW => ?_)
  obtain ⟨op2, hw2, hT2⟩ := hW
  have hI := hI.bu hT2 hb
  have hT := hT2.rb
  refine ez_ifneB (q := 14) (tgt := 24) dX7_read_11 (by decide) rfl (fun hc11 => ?_) (fun hc11 => ?_)
  · have hQ := hQ0 (by simp [cdD, hN1, hc11])
    clear hQ0 hX1 hX2
    obtain ⟨hwf, ht0, ht4⟩ := who_w hc11
    refine ez_aload_n (q := 25) 0 dX7_read_24 rfl rfl rfl ?_
    refine ez_getf (q := 28) dX7_read_25 fl_X7_19 hI.1.1 rfl rfl ?_
    refine ez_aload_n (q := 29) 0 dX7_read_28 rfl rfl rfl ?_
    refine ez_getf (q := 32) dX7_read_29 fl_X7_10 hI.1.1 rfl rfl ?_
    obtain ⟨o, hH⟩ := hI.hh
    refine cX0 (q := 35) dX7_read_32 ck_X7_71 hI.hh.choose_spec.1 (t_X1_save hH hI.ss ho) rfl ⟨by decide, rfl⟩ rfl rfl rfl (Nat.le_of_ble_eq_true rfl) rfl (fun g hW => ?_)
    obtain ⟨hH2, hF2⟩ := hW
    have hI := hI.sv hH2 hF2
    have hT := hT.to (hF2 39 (by omega)) (hF2 40 (by omega))
    refine ez_aload_n (q := 36) 0 dX7_read_35 rfl rfl rfl ?_
    refine ez_getf (q := 39) dX7_read_36 fl_X7_10 hI.1.1 rfl rfl ?_
    refine ez_iload_n (q := 40) 1 dX7_read_39 rfl rfl rfl ?_
    refine ez_aload_n (q := 41) 0 dX7_read_40 rfl rfl rfl ?_
    refine ez_getf (q := 44) dX7_read_41 fl_X7_26 hI.1.1 rfl rfl ?_
    refine cX0 (q := 47) dX7_read_44 ck_X7_136 hI.ss.ob (t_X3_putWish hI.ss ho hT hb (by omega) (by omega) ht4) rfl ⟨by decide, rfl⟩ rfl rfl rfl (Nat.le_of_ble_eq_true rfl) rfl (fun g hW => ?_)
    obtain ⟨hS2, hF2⟩ := hW
    have hI := hI.st hS2 hF2
    have hT := hT.to (hF2 39 (by omega)) (hF2 40 (by omega))
    refine ez_aload_n (q := 48) 0 dX7_read_47 rfl rfl rfl ?_
    refine ez_getf (q := 51) dX7_read_48 fl_X7_26 hI.1.1 rfl rfl ?_
    refine ez_iconst (v := nI 0) (q := 52) dX7_read_51 (by decide) rfl ?_
    refine pTX_tl (q := 55) dX7_read_52 fl_X7_115 hT rfl (fun g hT => ?_)
    have hI := hI.bu (t2 := 0) hT (BB.nil (b := b))
    refine ez_aload_n (q := 56) 0 dX7_read_55 rfl rfl rfl ?_
    refine ez_getf (q := 59) dX7_read_56 fl_X7_10 hI.1.1 rfl rfl ?_
    refine ez_iload_n (q := 60) 1 dX7_read_59 rfl rfl rfl ?_
    refine cPv (q := 63) dX7_read_60 ck_X7_140 hI.ss.ob (r_X3_lengthOf hI.ss (ho.wish ht4 (fun k hk => (hb.2 k hk).2)) (by omega)) rfl ⟨by decide, rfl⟩ rfl rfl rfl (Nat.le_of_ble_eq_true rfl) rfl ?_
    rw [upN_eq]
    exact ez_iret dX7_read_63 rfl (hQ _ hI)
  · exact ez_throw (is := 134) (text := "the buffer is not a complete wish") rfl rfl tx_55_59 (List.mem_of_getElem? (i := 8) rfl) dX7_read_14 dX7_read_17 dX7_read_18 dX7_read_20 dX7_read_23 (Nat.le_of_ble_eq_true rfl) (fun n1 hn1 => hX2 (by first | simp [cdD, hN1, hc11]) _ hI n1 hn1)

set_option maxHeartbeats 800000 in
set_option maxRecDepth 100000 in
theorem t_X7_negate {G : ez_G} {d n : Nat} {h : ez_H} {n' f k t : Nat} {L T ln : Nat → Nat} {sg : Nat → Nat → Nat} {zs : Nat → AS} {b : Nat → Nat} {w : Int32} (hI : CJ h h n' f L T ln sg k zs t b) (ho : OK n' f L T ln sg) (hs : WFS ln sg) : Con G mX7_negate (d + 7) [.ref 1, .int w] h n 3 18 (PX n (cdN ln sg w) (some (.int (nI (negM ln sg (nn w))))) (fun g => CJ h g n' f L T (upN ln (nn w) (negM ln sg (nn w))) (sgN sg (nn w) (negS sg (nn w))) (svk k) (pushZ zs k ((n', f, L, T, ln, sg) : AS)) t b) (fun g => CJ h g n' f L T ln sg k zs t b) ez_IO ez_IS) := by
  have hn := ho.1
  refine Con.of [some (.ref 1), some (.int w), none, none] pl_X7 rfl (Nat.le_of_ble_eq_true rfl) rfl ?_
  have hQ0 : cdN ln sg w = 0 → ∀ g, CJ h g n' f L T (upN ln (nn w) (negM ln sg (nn w))) (sgN sg (nn w) (negS sg (nn w))) (svk k) (pushZ zs k ((n', f, L, T, ln, sg) : AS)) t b → (PX n (cdN ln sg w) (some (.int (nI (negM ln sg (nn w))))) (fun g => CJ h g n' f L T (upN ln (nn w) (negM ln sg (nn w))) (sgN sg (nn w) (negS sg (nn w))) (svk k) (pushZ zs k ((n', f, L, T, ln, sg) : AS)) t b) (fun g => CJ h g n' f L T ln sg k zs t b) ez_IO ez_IS) (.inl (some (.int (nI (negM ln sg (nn w)))))) g n := fun e g a => Or.inl ⟨e, rfl, a, rfl⟩
  have hX1 : cdN ln sg w = 1 → ∀ g, CJ h g n' f L T ln sg k zs t b → ∀ m, n ≤ m → (PX n (cdN ln sg w) (some (.int (nI (negM ln sg (nn w))))) (fun g => CJ h g n' f L T (upN ln (nn w) (negM ln sg (nn w))) (sgN sg (nn w) (negS sg (nn w))) (svk k) (pushZ zs k ((n', f, L, T, ln, sg) : AS)) t b) (fun g => CJ h g n' f L T ln sg k zs t b) ez_IO ez_IS) (.inr ez_IO) g m := fun e g a m hm => Or.inr (Or.inl ⟨e, rfl, a, hm⟩)
  have hX2 : cdN ln sg w = 2 → ∀ g, CJ h g n' f L T ln sg k zs t b → ∀ m, n ≤ m → (PX n (cdN ln sg w) (some (.int (nI (negM ln sg (nn w))))) (fun g => CJ h g n' f L T (upN ln (nn w) (negM ln sg (nn w))) (sgN sg (nn w) (negS sg (nn w))) (svk k) (pushZ zs k ((n', f, L, T, ln, sg) : AS)) t b) (fun g => CJ h g n' f L T ln sg k zs t b) ez_IO ez_IS) (.inr ez_IS) g m := fun e g a m hm => Or.inr (Or.inr ⟨e, rfl, a, hm⟩)
  generalize PX n (cdN ln sg w) (some (.int (nI (negM ln sg (nn w))))) (fun g => CJ h g n' f L T (upN ln (nn w) (negM ln sg (nn w))) (sgN sg (nn w) (negS sg (nn w))) (svk k) (pushZ zs k ((n', f, L, T, ln, sg) : AS)) t b) (fun g => CJ h g n' f L T ln sg k zs t b) ez_IO ez_IS = Q at hQ0 hX1 hX2 ⊢
  refine ez_iload_n (q := 1) 1 dX7_negate_0 rfl rfl rfl ?_
  refine cNs (q := 4) dX7_negate_1 ck_X7_127 (t_X7_needWish) rfl rfl rfl (Nat.le_of_ble_eq_true rfl) rfl (fun hN1 m9 hm9 => EX_out rfl (hX1 (by simp [cdN, hN1]) _ hI m9 hm9)) (fun hN1 => ?_)
  obtain ⟨w, rfl, hw, hw2⟩ := inB_nat hN1
  have ecd : cdN ln sg (nI w) = (if ln w = 0 ∨ (ln w = 40 ∧ ¬ sg w 0 = 33) then 2 else 0) := by rw [cdN, if_pos hN1, nn_nI hw2]
  rw [ecd] at hQ0 hX2
  rw [nn_nI hw2] at hQ0
  have hl := ho.2.2.2.2.1 w (by omega)
  have hl2 : ∀ j, j < ln w → sg w j < 128 := ho.2.2.2.2.2 w (by omega)
  have hsa := sgA_lt (i := 0) hl2
  refine ez_aload_n (q := 5) 0 dX7_negate_4 rfl rfl rfl ?_
  refine ez_getf (q := 8) dX7_negate_5 fl_X7_10 hI.1.1 rfl rfl ?_
  refine ez_iload_n (q := 9) 1 dX7_negate_8 rfl rfl rfl ?_
  refine ez_iconst (v := nI 0) (q := 10) dX7_negate_9 (by decide) rfl ?_
  refine cPv (q := 13) dX7_negate_10 ck_X7_143 hI.ss.ob (r_X3_signAt hI.ss ho (by omega) (by decide)) rfl ⟨by decide, rfl⟩ rfl rfl rfl (Nat.le_of_ble_eq_true rfl) rfl ?_
  refine ez_bipush (v := nI 33) (q := 15) dX7_negate_13 (by decide) rfl ?_
  refine ez_icmpneN (q := 18) (tgt := 22) dX7_negate_15 (by decide) (by omega) (by decide) rfl (fun hc15 => ?_) (fun hc15 => ?_)
  · have h33 : 0 < ln w → ¬ sg w 0 = 33 := fun a e => hc15 (by rw [sgA, if_pos a]; exact e)
    refine ez_iconst (v := nI 0) (q := 23) dX7_negate_22 (by decide) rfl ?_
    refine ez_istore_2 (q := 24) dX7_negate_23 rfl (by decide) rfl rfl ?_
    refine ez_aload_n (q := 25) 0 dX7_negate_24 rfl rfl rfl ?_
    refine ez_getf (q := 28) dX7_negate_25 fl_X7_10 hI.1.1 rfl rfl ?_
    refine ez_iload_n (q := 29) 1 dX7_negate_28 rfl rfl rfl ?_
    refine cPv (q := 32) dX7_negate_29 ck_X7_140 hI.ss.ob (r_X3_lengthOf hI.ss ho (by omega)) rfl ⟨by decide, rfl⟩ rfl rfl rfl (Nat.le_of_ble_eq_true rfl) rfl ?_
    refine ez_istore_3 (q := 33) dX7_negate_32 rfl (by decide) rfl rfl ?_
    refine ez_iload_n (q := 34) 3 dX7_negate_33 rfl rfl rfl ?_
    refine ez_ifeqN (q := 37) (tgt := 47) dX7_negate_34 (by decide) (by omega) rfl (fun hc34 => ?_) (fun hc34 => ?_)
    · exact ez_throw (is := 147) (text := "there is no such wish at present, or it has 40 signs") rfl rfl tx_66_70 (List.mem_of_getElem? (i := 9) rfl) dX7_negate_47 dX7_negate_50 dX7_negate_51 dX7_negate_53 dX7_negate_56 (Nat.le_of_ble_eq_true rfl) (fun n1 hn1 => hX2 (by first | (rw [if_pos (Or.inl hc34)]) | (rw [if_pos (Or.inr ⟨by omega, h33 (by omega)⟩)])) _ hI n1 hn1)
    · refine ez_iload_n (q := 38) 2 dX7_negate_37 rfl rfl rfl ?_
      refine ez_ifneN (q := 41) (tgt := 57) dX7_negate_38 (by decide) (by decide) rfl (fun hc38 => ?_) (fun hc38 => ?_)
      · first
        | exact absurd hc38 (by decide)
        | skip
          have hQ := hQ0 (if_neg (fun a => a.elim hc34 h4033))
          clear hQ0 hX2
          refine ez_aload_n (q := 58) 0 dX7_negate_57 rfl rfl rfl ?_
          refine ez_getf (q := 61) dX7_negate_58 fl_X7_19 hI.1.1 rfl rfl ?_
          refine ez_aload_n (q := 62) 0 dX7_negate_61 rfl rfl rfl ?_
          refine ez_getf (q := 65) dX7_negate_62 fl_X7_10 hI.1.1 rfl rfl ?_
          obtain ⟨o, hH⟩ := hI.hh
          refine cX0 (q := 68) dX7_negate_65 ck_X7_71 hI.hh.choose_spec.1 (t_X1_save hH hI.ss ho) rfl ⟨by decide, rfl⟩ rfl rfl rfl (Nat.le_of_ble_eq_true rfl) rfl (fun g hW => ?_)
          obtain ⟨hH2, hF2⟩ := hW
          have hI := hI.sv hH2 hF2
          refine ez_iload_n (q := 69) 2 dX7_negate_68 rfl rfl rfl ?_
          refine ez_ifeqN (q := 72) (tgt := 83) dX7_negate_69 (by decide) (by decide) rfl (fun hc69 => ?_) (fun hc69 => ?_)
          · first
            | exact absurd hc69 (by decide)
            | skip
              refine ez_aload_n (q := 84) 0 dX7_negate_83 rfl rfl rfl ?_
              refine ez_getf (q := 87) dX7_negate_84 fl_X7_10 hI.1.1 rfl rfl ?_
              refine ez_iload_n (q := 88) 1 dX7_negate_87 rfl rfl rfl ?_
              have h9 := h33 (by omega)
              rw [negM, if_neg h9, negS, if_neg h9] at hQ
              refine cX0 (q := 91) dX7_negate_88 ck_X7_152 hI.ss.ob (t_X3_putNot hI.ss ho (by omega) (by omega)) rfl ⟨by decide, rfl⟩ rfl rfl rfl (Nat.le_of_ble_eq_true rfl) rfl (fun g hW => ?_)
              obtain ⟨hS2, hF2⟩ := hW
              have hI := hI.st hS2 hF2
              have hok := ho.wish (w := w) (m := ln w + 1) (s := notS (sg w)) (by omega) (fun k hk => by cases k with | zero => exact (show 33 < 128 by decide) | succ k => exact hl2 k (by omega))
              refine ez_aload_n (q := 92) 0 dX7_negate_91 rfl rfl rfl ?_
              refine ez_getf (q := 95) dX7_negate_92 fl_X7_10 hI.1.1 rfl rfl ?_
              refine ez_iload_n (q := 96) 1 dX7_negate_95 rfl rfl rfl ?_
              refine cPv (q := 99) dX7_negate_96 ck_X7_140 hI.ss.ob (r_X3_lengthOf hI.ss hok (by omega)) rfl ⟨by decide, rfl⟩ rfl rfl rfl (Nat.le_of_ble_eq_true rfl) rfl ?_
              rw [upN_eq]
              exact ez_iret dX7_negate_99 rfl (hQ _ hI)
          · first
            | exact absurd hc69 (by decide)
            | skip
              refine ez_aload_n (q := 73) 0 dX7_negate_72 rfl rfl rfl ?_
              refine ez_getf (q := 76) dX7_negate_73 fl_X7_10 hI.1.1 rfl rfl ?_
              refine ez_iload_n (q := 77) 1 dX7_negate_76 rfl rfl rfl ?_
              rw [negM, if_pos h33.2, negS, if_pos h33.2] at hQ
              refine cX0 (q := 80) dX7_negate_77 ck_X7_149 hI.ss.ob (t_X3_dropNot hI.ss ho (by omega) (by omega)) rfl ⟨by decide, rfl⟩ rfl rfl rfl (Nat.le_of_ble_eq_true rfl) rfl (fun g hW => ?_)
              obtain ⟨hS2, hF2⟩ := hW
              have hI := hI.st hS2 hF2
              have hok := ho.wish (w := w) (m := ln w - 1) (s := fun k => sg w (k + 1)) (by omega) (fun k hk => hl2 (k + 1) (by omega))
              refine ez_goto (q := 91) dX7_negate_80 (by decide) ?_
              refine ez_aload_n (q := 92) 0 dX7_negate_91 rfl rfl rfl ?_
              refine ez_getf (q := 95) dX7_negate_92 fl_X7_10 hI.1.1 rfl rfl ?_
              refine ez_iload_n (q := 96) 1 dX7_negate_95 rfl rfl rfl ?_
              refine cPv (q := 99) dX7_negate_96 ck_X7_140 hI.ss.ob (r_X3_lengthOf hI.ss hok (by omega)) rfl ⟨by decide, rfl⟩ rfl rfl rfl (Nat.le_of_ble_eq_true rfl) rfl ?_
              rw [upN_eq]
              exact ez_iret dX7_negate_99 rfl (hQ _ hI)
      · first
        | exact absurd hc38 (by decide)
        | skip
          refine ez_iload_n (q := 42) 3 dX7_negate_41 rfl rfl rfl ?_
          refine ez_bipush (v := nI 40) (q := 44) dX7_negate_42 (by decide) rfl ?_
          refine ez_icmpltN (q := 47) (tgt := 57) dX7_negate_44 (by decide) (by omega) (by decide) rfl (fun hc44 => ?_) (fun hc44 => ?_)
          · have h4033 : ¬ (ln w = 40 ∧ ¬ sg w 0 = 33) := fun e => absurd e.1 (by omega)
            have hQ := hQ0 (if_neg (fun a => a.elim hc34 h4033))
            clear hQ0 hX2
            refine ez_aload_n (q := 58) 0 dX7_negate_57 rfl rfl rfl ?_
            refine ez_getf (q := 61) dX7_negate_58 fl_X7_19 hI.1.1 rfl rfl ?_
            refine ez_aload_n (q := 62) 0 dX7_negate_61 rfl rfl rfl ?_
            refine ez_getf (q := 65) dX7_negate_62 fl_X7_10 hI.1.1 rfl rfl ?_
            obtain ⟨o, hH⟩ := hI.hh
            refine cX0 (q := 68) dX7_negate_65 ck_X7_71 hI.hh.choose_spec.1 (t_X1_save hH hI.ss ho) rfl ⟨by decide, rfl⟩ rfl rfl rfl (Nat.le_of_ble_eq_true rfl) rfl (fun g hW => ?_)
            obtain ⟨hH2, hF2⟩ := hW
            have hI := hI.sv hH2 hF2
            refine ez_iload_n (q := 69) 2 dX7_negate_68 rfl rfl rfl ?_
            refine ez_ifeqN (q := 72) (tgt := 83) dX7_negate_69 (by decide) (by decide) rfl (fun hc69 => ?_) (fun hc69 => ?_)
            · first
              | exact absurd hc69 (by decide)
              | skip
                refine ez_aload_n (q := 84) 0 dX7_negate_83 rfl rfl rfl ?_
                refine ez_getf (q := 87) dX7_negate_84 fl_X7_10 hI.1.1 rfl rfl ?_
                refine ez_iload_n (q := 88) 1 dX7_negate_87 rfl rfl rfl ?_
                have h9 := h33 (by omega)
                rw [negM, if_neg h9, negS, if_neg h9] at hQ
                refine cX0 (q := 91) dX7_negate_88 ck_X7_152 hI.ss.ob (t_X3_putNot hI.ss ho (by omega) (by omega)) rfl ⟨by decide, rfl⟩ rfl rfl rfl (Nat.le_of_ble_eq_true rfl) rfl (fun g hW => ?_)
                obtain ⟨hS2, hF2⟩ := hW
                have hI := hI.st hS2 hF2
                have hok := ho.wish (w := w) (m := ln w + 1) (s := notS (sg w)) (by omega) (fun k hk => by cases k with | zero => exact (show 33 < 128 by decide) | succ k => exact hl2 k (by omega))
                refine ez_aload_n (q := 92) 0 dX7_negate_91 rfl rfl rfl ?_
                refine ez_getf (q := 95) dX7_negate_92 fl_X7_10 hI.1.1 rfl rfl ?_
                refine ez_iload_n (q := 96) 1 dX7_negate_95 rfl rfl rfl ?_
                refine cPv (q := 99) dX7_negate_96 ck_X7_140 hI.ss.ob (r_X3_lengthOf hI.ss hok (by omega)) rfl ⟨by decide, rfl⟩ rfl rfl rfl (Nat.le_of_ble_eq_true rfl) rfl ?_
                rw [upN_eq]
                exact ez_iret dX7_negate_99 rfl (hQ _ hI)
            · first
              | exact absurd hc69 (by decide)
              | skip
                refine ez_aload_n (q := 73) 0 dX7_negate_72 rfl rfl rfl ?_
                refine ez_getf (q := 76) dX7_negate_73 fl_X7_10 hI.1.1 rfl rfl ?_
                refine ez_iload_n (q := 77) 1 dX7_negate_76 rfl rfl rfl ?_
                rw [negM, if_pos h33.2, negS, if_pos h33.2] at hQ
                refine cX0 (q := 80) dX7_negate_77 ck_X7_149 hI.ss.ob (t_X3_dropNot hI.ss ho (by omega) (by omega)) rfl ⟨by decide, rfl⟩ rfl rfl rfl (Nat.le_of_ble_eq_true rfl) rfl (fun g hW => ?_)
                obtain ⟨hS2, hF2⟩ := hW
                have hI := hI.st hS2 hF2
                have hok := ho.wish (w := w) (m := ln w - 1) (s := fun k => sg w (k + 1)) (by omega) (fun k hk => hl2 (k + 1) (by omega))
                refine ez_goto (q := 91) dX7_negate_80 (by decide) ?_
                refine ez_aload_n (q := 92) 0 dX7_negate_91 rfl rfl rfl ?_
                refine ez_getf (q := 95) dX7_negate_92 fl_X7_10 hI.1.1 rfl rfl ?_
                refine ez_iload_n (q := 96) 1 dX7_negate_95 rfl rfl rfl ?_
                refine cPv (q := 99) dX7_negate_96 ck_X7_140 hI.ss.ob (r_X3_lengthOf hI.ss hok (by omega)) rfl ⟨by decide, rfl⟩ rfl rfl rfl (Nat.le_of_ble_eq_true rfl) rfl ?_
                rw [upN_eq]
                exact ez_iret dX7_negate_99 rfl (hQ _ hI)
          · exact ez_throw (is := 147) (text := "there is no such wish at present, or it has 40 signs") rfl rfl tx_66_70 (List.mem_of_getElem? (i := 9) rfl) dX7_negate_47 dX7_negate_50 dX7_negate_51 dX7_negate_53 dX7_negate_56 (Nat.le_of_ble_eq_true rfl) (fun n1 hn1 => hX2 (by first | (rw [if_pos (Or.inl hc34)]) | (rw [if_pos (Or.inr ⟨by omega, h33 (by omega)⟩)])) _ hI n1 hn1)
  · have h33 : 0 < ln w ∧ sg w 0 = 33 := by rw [sgA] at hc15; split at hc15; { exact ⟨by assumption, hc15⟩ }; { cases hc15 }
    have h4033 : ¬ (ln w = 40 ∧ ¬ sg w 0 = 33) := fun e => e.2 h33.2
    refine ez_iconst (v := nI 1) (q := 19) dX7_negate_18 (by decide) rfl ?_
    refine ez_goto (q := 23) dX7_negate_19 (by decide) ?_
    refine ez_istore_2 (q := 24) dX7_negate_23 rfl (by decide) rfl rfl ?_
    refine ez_aload_n (q := 25) 0 dX7_negate_24 rfl rfl rfl ?_
    refine ez_getf (q := 28) dX7_negate_25 fl_X7_10 hI.1.1 rfl rfl ?_
    refine ez_iload_n (q := 29) 1 dX7_negate_28 rfl rfl rfl ?_
    refine cPv (q := 32) dX7_negate_29 ck_X7_140 hI.ss.ob (r_X3_lengthOf hI.ss ho (by omega)) rfl ⟨by decide, rfl⟩ rfl rfl rfl (Nat.le_of_ble_eq_true rfl) rfl ?_
    refine ez_istore_3 (q := 33) dX7_negate_32 rfl (by decide) rfl rfl ?_
    refine ez_iload_n (q := 34) 3 dX7_negate_33 rfl rfl rfl ?_
    refine ez_ifeqN (q := 37) (tgt := 47) dX7_negate_34 (by decide) (by omega) rfl (fun hc34 => ?_) (fun hc34 => ?_)
    · exact ez_throw (is := 147) (text := "there is no such wish at present, or it has 40 signs") rfl rfl tx_66_70 (List.mem_of_getElem? (i := 9) rfl) dX7_negate_47 dX7_negate_50 dX7_negate_51 dX7_negate_53 dX7_negate_56 (Nat.le_of_ble_eq_true rfl) (fun n1 hn1 => hX2 (by first | (rw [if_pos (Or.inl hc34)]) | (rw [if_pos (Or.inr ⟨by omega, h33 (by omega)⟩)])) _ hI n1 hn1)
    · refine ez_iload_n (q := 38) 2 dX7_negate_37 rfl rfl rfl ?_
      refine ez_ifneN (q := 41) (tgt := 57) dX7_negate_38 (by decide) (by decide) rfl (fun hc38 => ?_) (fun hc38 => ?_)
      · first
        | exact absurd hc38 (by decide)
        | skip
          have hQ := hQ0 (if_neg (fun a => a.elim hc34 h4033))
          clear hQ0 hX2
          refine ez_aload_n (q := 58) 0 dX7_negate_57 rfl rfl rfl ?_
          refine ez_getf (q := 61) dX7_negate_58 fl_X7_19 hI.1.1 rfl rfl ?_
          refine ez_aload_n (q := 62) 0 dX7_negate_61 rfl rfl rfl ?_
          refine ez_getf (q := 65) dX7_negate_62 fl_X7_10 hI.1.1 rfl rfl ?_
          obtain ⟨o, hH⟩ := hI.hh
          refine cX0 (q := 68) dX7_negate_65 ck_X7_71 hI.hh.choose_spec.1 (t_X1_save hH hI.ss ho) rfl ⟨by decide, rfl⟩ rfl rfl rfl (Nat.le_of_ble_eq_true rfl) rfl (fun g hW => ?_)
          obtain ⟨hH2, hF2⟩ := hW
          have hI := hI.sv hH2 hF2
          refine ez_iload_n (q := 69) 2 dX7_negate_68 rfl rfl rfl ?_
          refine ez_ifeqN (q := 72) (tgt := 83) dX7_negate_69 (by decide) (by decide) rfl (fun hc69 => ?_) (fun hc69 => ?_)
          · first
            | exact absurd hc69 (by decide)
            | skip
              refine ez_aload_n (q := 84) 0 dX7_negate_83 rfl rfl rfl ?_
              refine ez_getf (q := 87) dX7_negate_84 fl_X7_10 hI.1.1 rfl rfl ?_
              refine ez_iload_n (q := 88) 1 dX7_negate_87 rfl rfl rfl ?_
              have h9 := h33 (by omega)
              rw [negM, if_neg h9, negS, if_neg h9] at hQ
              refine cX0 (q := 91) dX7_negate_88 ck_X7_152 hI.ss.ob (t_X3_putNot hI.ss ho (by omega) (by omega)) rfl ⟨by decide, rfl⟩ rfl rfl rfl (Nat.le_of_ble_eq_true rfl) rfl (fun g hW => ?_)
              obtain ⟨hS2, hF2⟩ := hW
              have hI := hI.st hS2 hF2
              have hok := ho.wish (w := w) (m := ln w + 1) (s := notS (sg w)) (by omega) (fun k hk => by cases k with | zero => exact (show 33 < 128 by decide) | succ k => exact hl2 k (by omega))
              refine ez_aload_n (q := 92) 0 dX7_negate_91 rfl rfl rfl ?_
              refine ez_getf (q := 95) dX7_negate_92 fl_X7_10 hI.1.1 rfl rfl ?_
              refine ez_iload_n (q := 96) 1 dX7_negate_95 rfl rfl rfl ?_
              refine cPv (q := 99) dX7_negate_96 ck_X7_140 hI.ss.ob (r_X3_lengthOf hI.ss hok (by omega)) rfl ⟨by decide, rfl⟩ rfl rfl rfl (Nat.le_of_ble_eq_true rfl) rfl ?_
              rw [upN_eq]
              exact ez_iret dX7_negate_99 rfl (hQ _ hI)
          · first
            | exact absurd hc69 (by decide)
            | skip
              refine ez_aload_n (q := 73) 0 dX7_negate_72 rfl rfl rfl ?_
              refine ez_getf (q := 76) dX7_negate_73 fl_X7_10 hI.1.1 rfl rfl ?_
              refine ez_iload_n (q := 77) 1 dX7_negate_76 rfl rfl rfl ?_
              rw [negM, if_pos h33.2, negS, if_pos h33.2] at hQ
              refine cX0 (q := 80) dX7_negate_77 ck_X7_149 hI.ss.ob (t_X3_dropNot hI.ss ho (by omega) (by omega)) rfl ⟨by decide, rfl⟩ rfl rfl rfl (Nat.le_of_ble_eq_true rfl) rfl (fun g hW => ?_)
              obtain ⟨hS2, hF2⟩ := hW
              have hI := hI.st hS2 hF2
              have hok := ho.wish (w := w) (m := ln w - 1) (s := fun k => sg w (k + 1)) (by omega) (fun k hk => hl2 (k + 1) (by omega))
              refine ez_goto (q := 91) dX7_negate_80 (by decide) ?_
              refine ez_aload_n (q := 92) 0 dX7_negate_91 rfl rfl rfl ?_
              refine ez_getf (q := 95) dX7_negate_92 fl_X7_10 hI.1.1 rfl rfl ?_
              refine ez_iload_n (q := 96) 1 dX7_negate_95 rfl rfl rfl ?_
              refine cPv (q := 99) dX7_negate_96 ck_X7_140 hI.ss.ob (r_X3_lengthOf hI.ss hok (by omega)) rfl ⟨by decide, rfl⟩ rfl rfl rfl (Nat.le_of_ble_eq_true rfl) rfl ?_
              rw [upN_eq]
              exact ez_iret dX7_negate_99 rfl (hQ _ hI)
      · first
        | exact absurd hc38 (by decide)
        | skip
          refine ez_iload_n (q := 42) 3 dX7_negate_41 rfl rfl rfl ?_
          refine ez_bipush (v := nI 40) (q := 44) dX7_negate_42 (by decide) rfl ?_
          refine ez_icmpltN (q := 47) (tgt := 57) dX7_negate_44 (by decide) (by omega) (by decide) rfl (fun hc44 => ?_) (fun hc44 => ?_)
          · have h4033 : ¬ (ln w = 40 ∧ ¬ sg w 0 = 33) := fun e => absurd e.1 (by omega)
            have hQ := hQ0 (if_neg (fun a => a.elim hc34 h4033))
            clear hQ0 hX2
            refine ez_aload_n (q := 58) 0 dX7_negate_57 rfl rfl rfl ?_
            refine ez_getf (q := 61) dX7_negate_58 fl_X7_19 hI.1.1 rfl rfl ?_
            refine ez_aload_n (q := 62) 0 dX7_negate_61 rfl rfl rfl ?_
            refine ez_getf (q := 65) dX7_negate_62 fl_X7_10 hI.1.1 rfl rfl ?_
            obtain ⟨o, hH⟩ := hI.hh
            refine cX0 (q := 68) dX7_negate_65 ck_X7_71 hI.hh.choose_spec.1 (t_X1_save hH hI.ss ho) rfl ⟨by decide, rfl⟩ rfl rfl rfl (Nat.le_of_ble_eq_true rfl) rfl (fun g hW => ?_)
            obtain ⟨hH2, hF2⟩ := hW
            have hI := hI.sv hH2 hF2
            refine ez_iload_n (q := 69) 2 dX7_negate_68 rfl rfl rfl ?_
            refine ez_ifeqN (q := 72) (tgt := 83) dX7_negate_69 (by decide) (by decide) rfl (fun hc69 => ?_) (fun hc69 => ?_)
            · first
              | exact absurd hc69 (by decide)
              | skip
                refine ez_aload_n (q := 84) 0 dX7_negate_83 rfl rfl rfl ?_
                refine ez_getf (q := 87) dX7_negate_84 fl_X7_10 hI.1.1 rfl rfl ?_
                refine ez_iload_n (q := 88) 1 dX7_negate_87 rfl rfl rfl ?_
                have h9 := h33 (by omega)
                rw [negM, if_neg h9, negS, if_neg h9] at hQ
                refine cX0 (q := 91) dX7_negate_88 ck_X7_152 hI.ss.ob (t_X3_putNot hI.ss ho (by omega) (by omega)) rfl ⟨by decide, rfl⟩ rfl rfl rfl (Nat.le_of_ble_eq_true rfl) rfl (fun g hW => ?_)
                obtain ⟨hS2, hF2⟩ := hW
                have hI := hI.st hS2 hF2
                have hok := ho.wish (w := w) (m := ln w + 1) (s := notS (sg w)) (by omega) (fun k hk => by cases k with | zero => exact (show 33 < 128 by decide) | succ k => exact hl2 k (by omega))
                refine ez_aload_n (q := 92) 0 dX7_negate_91 rfl rfl rfl ?_
                refine ez_getf (q := 95) dX7_negate_92 fl_X7_10 hI.1.1 rfl rfl ?_
                refine ez_iload_n (q := 96) 1 dX7_negate_95 rfl rfl rfl ?_
                refine cPv (q := 99) dX7_negate_96 ck_X7_140 hI.ss.ob (r_X3_lengthOf hI.ss hok (by omega)) rfl ⟨by decide, rfl⟩ rfl rfl rfl (Nat.le_of_ble_eq_true rfl) rfl ?_
                rw [upN_eq]
                exact ez_iret dX7_negate_99 rfl (hQ _ hI)
            · first
              | exact absurd hc69 (by decide)
              | skip
                refine ez_aload_n (q := 73) 0 dX7_negate_72 rfl rfl rfl ?_
                refine ez_getf (q := 76) dX7_negate_73 fl_X7_10 hI.1.1 rfl rfl ?_
                refine ez_iload_n (q := 77) 1 dX7_negate_76 rfl rfl rfl ?_
                rw [negM, if_pos h33.2, negS, if_pos h33.2] at hQ
                refine cX0 (q := 80) dX7_negate_77 ck_X7_149 hI.ss.ob (t_X3_dropNot hI.ss ho (by omega) (by omega)) rfl ⟨by decide, rfl⟩ rfl rfl rfl (Nat.le_of_ble_eq_true rfl) rfl (fun g hW => ?_)
                obtain ⟨hS2, hF2⟩ := hW
                have hI := hI.st hS2 hF2
                have hok := ho.wish (w := w) (m := ln w - 1) (s := fun k => sg w (k + 1)) (by omega) (fun k hk => hl2 (k + 1) (by omega))
                refine ez_goto (q := 91) dX7_negate_80 (by decide) ?_
                refine ez_aload_n (q := 92) 0 dX7_negate_91 rfl rfl rfl ?_
                refine ez_getf (q := 95) dX7_negate_92 fl_X7_10 hI.1.1 rfl rfl ?_
                refine ez_iload_n (q := 96) 1 dX7_negate_95 rfl rfl rfl ?_
                refine cPv (q := 99) dX7_negate_96 ck_X7_140 hI.ss.ob (r_X3_lengthOf hI.ss hok (by omega)) rfl ⟨by decide, rfl⟩ rfl rfl rfl (Nat.le_of_ble_eq_true rfl) rfl ?_
                rw [upN_eq]
                exact ez_iret dX7_negate_99 rfl (hQ _ hI)
          · exact ez_throw (is := 147) (text := "there is no such wish at present, or it has 40 signs") rfl rfl tx_66_70 (List.mem_of_getElem? (i := 9) rfl) dX7_negate_47 dX7_negate_50 dX7_negate_51 dX7_negate_53 dX7_negate_56 (Nat.le_of_ble_eq_true rfl) (fun n1 hn1 => hX2 (by first | (rw [if_pos (Or.inl hc34)]) | (rw [if_pos (Or.inr ⟨by omega, h33 (by omega)⟩)])) _ hI n1 hn1)

set_option maxHeartbeats 800000 in
set_option maxRecDepth 100000 in
theorem t_X7_undo {G : ez_G} {d n : Nat} {h : ez_H} {n' f k t : Nat} {L T ln : Nat → Nat} {sg : Nat → Nat → Nat} {zs : Nat → AS} {b : Nat → Nat} (hI : CJ h h n' f L T ln sg k zs t b) (ho : OK n' f L T ln sg) (hs : WFS ln sg) (hz : ∀ i, i < k → OKA (zs i)) : Con G mX7_undo (d + 7) [.ref 1] h n 3 18 (PX n (cdU k) (some (.int (nI (k - 1)))) (fun g => CJ h g (zs (k - 1)).1 (zs (k - 1)).2.1 (zs (k - 1)).2.2.1 (zs (k - 1)).2.2.2.1 (zs (k - 1)).2.2.2.2.1 (zs (k - 1)).2.2.2.2.2 (k - 1) zs t b) (fun g => CJ h g n' f L T ln sg k zs t b) ez_IS "") := by
  have hn := ho.1
  refine Con.of [some (.ref 1)] pl_X7 rfl (Nat.le_of_ble_eq_true rfl) rfl ?_
  have hQ0 : cdU k = 0 → ∀ g, CJ h g (zs (k - 1)).1 (zs (k - 1)).2.1 (zs (k - 1)).2.2.1 (zs (k - 1)).2.2.2.1 (zs (k - 1)).2.2.2.2.1 (zs (k - 1)).2.2.2.2.2 (k - 1) zs t b → (PX n (cdU k) (some (.int (nI (k - 1)))) (fun g => CJ h g (zs (k - 1)).1 (zs (k - 1)).2.1 (zs (k - 1)).2.2.1 (zs (k - 1)).2.2.2.1 (zs (k - 1)).2.2.2.2.1 (zs (k - 1)).2.2.2.2.2 (k - 1) zs t b) (fun g => CJ h g n' f L T ln sg k zs t b) ez_IS "") (.inl (some (.int (nI (k - 1))))) g n := fun e g a => Or.inl ⟨e, rfl, a, rfl⟩
  have hX1 : cdU k = 1 → ∀ g, CJ h g n' f L T ln sg k zs t b → ∀ m, n ≤ m → (PX n (cdU k) (some (.int (nI (k - 1)))) (fun g => CJ h g (zs (k - 1)).1 (zs (k - 1)).2.1 (zs (k - 1)).2.2.1 (zs (k - 1)).2.2.2.1 (zs (k - 1)).2.2.2.2.1 (zs (k - 1)).2.2.2.2.2 (k - 1) zs t b) (fun g => CJ h g n' f L T ln sg k zs t b) ez_IS "") (.inr ez_IS) g m := fun e g a m hm => Or.inr (Or.inl ⟨e, rfl, a, hm⟩)
  have hX2 : cdU k = 2 → ∀ g, CJ h g n' f L T ln sg k zs t b → ∀ m, n ≤ m → (PX n (cdU k) (some (.int (nI (k - 1)))) (fun g => CJ h g (zs (k - 1)).1 (zs (k - 1)).2.1 (zs (k - 1)).2.2.1 (zs (k - 1)).2.2.2.1 (zs (k - 1)).2.2.2.2.1 (zs (k - 1)).2.2.2.2.2 (k - 1) zs t b) (fun g => CJ h g n' f L T ln sg k zs t b) ez_IS "") (.inr "") g m := fun e g a m hm => Or.inr (Or.inr ⟨e, rfl, a, hm⟩)
  generalize PX n (cdU k) (some (.int (nI (k - 1)))) (fun g => CJ h g (zs (k - 1)).1 (zs (k - 1)).2.1 (zs (k - 1)).2.2.1 (zs (k - 1)).2.2.2.1 (zs (k - 1)).2.2.2.2.1 (zs (k - 1)).2.2.2.2.2 (k - 1) zs t b) (fun g => CJ h g n' f L T ln sg k zs t b) ez_IS "" = Q at hQ0 hX1 hX2 ⊢
  obtain ⟨o, hH⟩ := hI.hh
  have hk6 := hH.2.2.1
  refine ez_aload_n (q := 1) 0 dX7_undo_0 rfl rfl rfl ?_
  refine ez_getf (q := 4) dX7_undo_1 fl_X7_19 hI.1.1 rfl rfl ?_
  refine ez_getf (q := 7) dX7_undo_4 fl_X7_158 hI.hh.choose_spec.1 rfl rfl ?_
  refine ez_ifneN (q := 10) (tgt := 20) dX7_undo_7 (by decide) (by omega) rfl (fun hc7 => ?_) (fun hc7 => ?_)
  · have hQ := hQ0 (by simp [cdU, hc7])
    clear hQ0 hX1 hX2
    refine ez_aload_n (q := 21) 0 dX7_undo_20 rfl rfl rfl ?_
    refine ez_getf (q := 24) dX7_undo_21 fl_X7_19 hI.1.1 rfl rfl ?_
    refine ez_aload_n (q := 25) 0 dX7_undo_24 rfl rfl rfl ?_
    refine ez_getf (q := 28) dX7_undo_25 fl_X7_10 hI.1.1 rfl rfl ?_
    refine cX0 (q := 31) dX7_undo_28 ck_X7_163 hI.hh.choose_spec.1 (t_X1_restore hH hI.ss.sr (hz (k - 1) (by omega)).1 (by omega)) rfl ⟨by decide, rfl⟩ rfl rfl rfl (Nat.le_of_ble_eq_true rfl) rfl (fun g hW => ?_)
    obtain ⟨hS2, hH2, hF2⟩ := hW
    have hI := hI.un hS2 hH2 hF2
    refine ez_aload_n (q := 32) 0 dX7_undo_31 rfl rfl rfl ?_
    refine ez_getf (q := 35) dX7_undo_32 fl_X7_19 hI.1.1 rfl rfl ?_
    refine ez_getf (q := 38) dX7_undo_35 fl_X7_158 hI.hh.choose_spec.1 rfl rfl ?_
    exact ez_iret dX7_undo_38 rfl (hQ _ hI)
  · exact ez_throw (is := 161) (text := "there is no saved state") rfl rfl tx_66_70 (List.mem_of_getElem? (i := 10) rfl) dX7_undo_10 dX7_undo_13 dX7_undo_14 dX7_undo_16 dX7_undo_19 (Nat.le_of_ble_eq_true rfl) (fun n1 hn1 => hX1 (by first | simp [cdU, hc7]) _ hI n1 hn1)

set_option maxHeartbeats 800000 in
set_option maxRecDepth 100000 in
theorem t_X7_world {G : ez_G} {d n : Nat} {h : ez_H} {n' f k t : Nat} {L T ln : Nat → Nat} {sg : Nat → Nat → Nat} {zs : Nat → AS} {b : Nat → Nat} {i what : Int32} (hI : CJ h h n' f L T ln sg k zs t b) (ho : OK n' f L T ln sg) (hs : WFS ln sg) : Con G mX7_world (d + 7) [.ref 1, .int i, .int what] h n 3 18 (PX n (cdW n' 4 i what) (some (.int (nI (twN T n' f L ln sg (nn i) (nn what))))) (fun g => CJ h g n' f L T ln sg k zs t b) (fun g => CJ h g n' f L T ln sg k zs t b) ez_IO ez_IA) := by
  have hn := ho.1
  refine Con.of [some (.ref 1), some (.int i), some (.int what)] pl_X7 rfl (Nat.le_of_ble_eq_true rfl) rfl ?_
  have hQ0 : cdW n' 4 i what = 0 → ∀ g, CJ h g n' f L T ln sg k zs t b → (PX n (cdW n' 4 i what) (some (.int (nI (twN T n' f L ln sg (nn i) (nn what))))) (fun g => CJ h g n' f L T ln sg k zs t b) (fun g => CJ h g n' f L T ln sg k zs t b) ez_IO ez_IA) (.inl (some (.int (nI (twN T n' f L ln sg (nn i) (nn what)))))) g n := fun e g a => Or.inl ⟨e, rfl, a, rfl⟩
  have hX1 : cdW n' 4 i what = 1 → ∀ g, CJ h g n' f L T ln sg k zs t b → ∀ m, n ≤ m → (PX n (cdW n' 4 i what) (some (.int (nI (twN T n' f L ln sg (nn i) (nn what))))) (fun g => CJ h g n' f L T ln sg k zs t b) (fun g => CJ h g n' f L T ln sg k zs t b) ez_IO ez_IA) (.inr ez_IO) g m := fun e g a m hm => Or.inr (Or.inl ⟨e, rfl, a, hm⟩)
  have hX2 : cdW n' 4 i what = 2 → ∀ g, CJ h g n' f L T ln sg k zs t b → ∀ m, n ≤ m → (PX n (cdW n' 4 i what) (some (.int (nI (twN T n' f L ln sg (nn i) (nn what))))) (fun g => CJ h g n' f L T ln sg k zs t b) (fun g => CJ h g n' f L T ln sg k zs t b) ez_IO ez_IA) (.inr ez_IA) g m := fun e g a m hm => Or.inr (Or.inr ⟨e, rfl, a, hm⟩)
  generalize PX n (cdW n' 4 i what) (some (.int (nI (twN T n' f L ln sg (nn i) (nn what))))) (fun g => CJ h g n' f L T ln sg k zs t b) (fun g => CJ h g n' f L T ln sg k zs t b) ez_IO ez_IA = Q at hQ0 hX1 hX2 ⊢
  refine ez_aload_n (q := 1) 0 dX7_world_0 rfl rfl rfl ?_
  refine ez_iload_n (q := 2) 1 dX7_world_1 rfl rfl rfl ?_
  refine cNv (q := 5) dX7_world_2 ck_X7_78 hI.1.1 (t_X7_needWorld hI.rb ho hs) rfl ⟨by decide, rfl⟩ rfl rfl rfl (Nat.le_of_ble_eq_true rfl) rfl (fun hN2 m9 hm9 => EX_out rfl (hX1 (by simp [cdW, hN2]) _ hI m9 hm9)) (fun hN2 => ?_)
  refine ez_iload_n (q := 6) 2 dX7_world_5 rfl rfl rfl ?_
  refine ez_iconst (v := nI 4) (q := 7) dX7_world_6 (by decide) rfl ?_
  refine cNs (q := 10) dX7_world_7 ck_X7_166 (t_X7_needLook (a := 4) rfl (by decide)) rfl rfl rfl (Nat.le_of_ble_eq_true rfl) rfl (fun hN7 m9 hm9 => EX_out rfl (hX2 (by simp [cdW, hN2, hN7]) _ hI m9 hm9)) (fun hN7 => ?_)
  have hQ := hQ0 (by simp [cdW, hN2, hN7])
  clear hQ0 hX1 hX2
  obtain ⟨i, rfl, hj, hj2⟩ := inB_nat hN2
  obtain ⟨what, rfl, hk9, hk2⟩ := inB_nat hN7
  rw [nn_nI hj2, nn_nI hk2] at hQ
  refine ez_iload_n (q := 11) 2 dX7_world_10 rfl rfl rfl ?_
  obtain rfl | rfl | rfl | rfl | rfl : what = 0 ∨ what = 1 ∨ what = 2 ∨ what = 3 ∨ what = 4 := by omega
  · refine ez_tableIn (q := 40) (off := 29) dX7_world_11 (by decide) (by decide) (by decide) (by decide) ?_
    refine ez_aload_n (q := 41) 0 dX7_world_40 rfl rfl rfl ?_
    refine ez_getf (q := 44) dX7_world_41 fl_X7_10 hI.1.1 rfl rfl ?_
    refine ez_iload_n (q := 45) 1 dX7_world_44 rfl rfl rfl ?_
    refine cPv (q := 48) dX7_world_45 ck_X7_97 hI.ss.ob (r_X3_lettersOf hI.ss ho (by omega)) rfl ⟨by decide, rfl⟩ rfl rfl rfl (Nat.le_of_ble_eq_true rfl) rfl ?_
    exact ez_iret dX7_world_48 rfl (hQ _ hI)
  · refine ez_tableIn (q := 49) (off := 38) dX7_world_11 (by decide) (by decide) (by decide) (by decide) ?_
    refine ez_aload_n (q := 50) 0 dX7_world_49 rfl rfl rfl ?_
    refine ez_getf (q := 53) dX7_world_50 fl_X7_10 hI.1.1 rfl rfl ?_
    refine ez_iload_n (q := 54) 1 dX7_world_53 rfl rfl rfl ?_
    refine cPv (q := 57) dX7_world_54 ck_X7_89 hI.ss.ob (r_X3_stepsFrom hI.ss ho (by omega)) rfl ⟨by decide, rfl⟩ rfl rfl rfl (Nat.le_of_ble_eq_true rfl) rfl ?_
    exact ez_iret dX7_world_57 rfl (hQ _ hI)
  · refine ez_tableIn (q := 58) (off := 47) dX7_world_11 (by decide) (by decide) (by decide) (by decide) ?_
    refine ez_aload_n (q := 59) 0 dX7_world_58 rfl rfl rfl ?_
    refine ez_getf (q := 62) dX7_world_59 fl_X7_10 hI.1.1 rfl rfl ?_
    refine ez_iconst (v := nI 1) (q := 63) dX7_world_62 (by decide) rfl ?_
    refine ez_iload_n (q := 64) 1 dX7_world_63 rfl rfl rfl ?_
    refine ez_shl1 (q := 65) dX7_world_64 (by omega) rfl ?_
    refine cPv (q := 68) dX7_world_65 ck_X7_169 hI.ss.ob (t_X3_leadingInto hI.ss ho) rfl ⟨by decide, rfl⟩ rfl rfl rfl (Nat.le_of_ble_eq_true rfl) rfl ?_
    exact ez_iret dX7_world_68 rfl (hQ _ hI)
  · refine ez_tableIn (q := 69) (off := 58) dX7_world_11 (by decide) (by decide) (by decide) (by decide) ?_
    refine ez_aload_n (q := 70) 0 dX7_world_69 rfl rfl rfl ?_
    refine ez_getf (q := 73) dX7_world_70 fl_X7_35 hI.1.1 rfl rfl ?_
    refine cXv (q := 76) dX7_world_73 ck_X7_172 hI.mx.ob.choose_spec (t_X2_live hI.mx hI.ss ho (by omega)) rfl ⟨by decide, rfl⟩ rfl rfl rfl (Nat.le_of_ble_eq_true rfl) rfl (fun g hW => ?_)
    obtain ⟨hX9, hF9⟩ := hW
    have hI := hI.mean hX9 hF9
    refine ez_iload_n (q := 77) 1 dX7_world_76 rfl rfl rfl ?_
    refine ez_ishrN (q := 78) dX7_world_77 (lt31 (lvN_lt _ _ _ _) hn) (by omega) rfl ?_
    refine ez_iconst (v := nI 1) (q := 79) dX7_world_78 (by decide) rfl ?_
    refine ez_iandN (q := 80) dX7_world_79 rfl ?_
    exact ez_iret dX7_world_80 rfl (hQ _ hI)
  · refine ez_tableOut (q := 81) dX7_world_11 (by decide) (by decide) ?_
    refine ez_aload_n (q := 82) 0 dX7_world_81 rfl rfl rfl ?_
    refine ez_iload_n (q := 83) 1 dX7_world_82 rfl rfl rfl ?_
    refine cXv (q := 86) dX7_world_83 ck_X7_175 hI.1.1 (v_X7_wishesHoldingIn hI.rb ho hs (by omega)) rfl ⟨by decide, rfl⟩ rfl rfl rfl (Nat.le_of_ble_eq_true rfl) rfl (fun g hW => ?_)
    have hI := hI.tr hW
    clear hW
    exact ez_iret dX7_world_86 rfl (hQ _ hI)

set_option maxHeartbeats 800000 in
set_option maxRecDepth 100000 in
theorem t_X7_wish {G : ez_G} {d n : Nat} {h : ez_H} {n' f k t : Nat} {L T ln : Nat → Nat} {sg : Nat → Nat → Nat} {zs : Nat → AS} {b : Nat → Nat} {w what : Int32} (hI : CJ h h n' f L T ln sg k zs t b) (ho : OK n' f L T ln sg) (hs : WFS ln sg) : Con G mX7_wish (d + 7) [.ref 1, .int w, .int what] h n 3 18 (PX n (cdS 3 w what) (some (.int (tsI T n' f L ln sg (nn w) (nn what)))) (fun g => CJ h g n' f L T ln sg k zs t b) (fun g => CJ h g n' f L T ln sg k zs t b) ez_IO ez_IA) := by
  have hn := ho.1
  refine Con.of [some (.ref 1), some (.int w), some (.int what)] pl_X7 rfl (Nat.le_of_ble_eq_true rfl) rfl ?_
  have hQ0 : cdS 3 w what = 0 → ∀ g, CJ h g n' f L T ln sg k zs t b → (PX n (cdS 3 w what) (some (.int (tsI T n' f L ln sg (nn w) (nn what)))) (fun g => CJ h g n' f L T ln sg k zs t b) (fun g => CJ h g n' f L T ln sg k zs t b) ez_IO ez_IA) (.inl (some (.int (tsI T n' f L ln sg (nn w) (nn what))))) g n := fun e g a => Or.inl ⟨e, rfl, a, rfl⟩
  have hX1 : cdS 3 w what = 1 → ∀ g, CJ h g n' f L T ln sg k zs t b → ∀ m, n ≤ m → (PX n (cdS 3 w what) (some (.int (tsI T n' f L ln sg (nn w) (nn what)))) (fun g => CJ h g n' f L T ln sg k zs t b) (fun g => CJ h g n' f L T ln sg k zs t b) ez_IO ez_IA) (.inr ez_IO) g m := fun e g a m hm => Or.inr (Or.inl ⟨e, rfl, a, hm⟩)
  have hX2 : cdS 3 w what = 2 → ∀ g, CJ h g n' f L T ln sg k zs t b → ∀ m, n ≤ m → (PX n (cdS 3 w what) (some (.int (tsI T n' f L ln sg (nn w) (nn what)))) (fun g => CJ h g n' f L T ln sg k zs t b) (fun g => CJ h g n' f L T ln sg k zs t b) ez_IO ez_IA) (.inr ez_IA) g m := fun e g a m hm => Or.inr (Or.inr ⟨e, rfl, a, hm⟩)
  generalize PX n (cdS 3 w what) (some (.int (tsI T n' f L ln sg (nn w) (nn what)))) (fun g => CJ h g n' f L T ln sg k zs t b) (fun g => CJ h g n' f L T ln sg k zs t b) ez_IO ez_IA = Q at hQ0 hX1 hX2 ⊢
  refine ez_iload_n (q := 1) 1 dX7_wish_0 rfl rfl rfl ?_
  refine cNs (q := 4) dX7_wish_1 ck_X7_127 (t_X7_needWish) rfl rfl rfl (Nat.le_of_ble_eq_true rfl) rfl (fun hN1 m9 hm9 => EX_out rfl (hX1 (by simp [cdS, hN1]) _ hI m9 hm9)) (fun hN1 => ?_)
  refine ez_iload_n (q := 5) 2 dX7_wish_4 rfl rfl rfl ?_
  refine ez_iconst (v := nI 3) (q := 6) dX7_wish_5 (by decide) rfl ?_
  refine cNs (q := 9) dX7_wish_6 ck_X7_166 (t_X7_needLook (a := 3) rfl (by decide)) rfl rfl rfl (Nat.le_of_ble_eq_true rfl) rfl (fun hN6 m9 hm9 => EX_out rfl (hX2 (by simp [cdS, hN1, hN6]) _ hI m9 hm9)) (fun hN6 => ?_)
  have hQ := hQ0 (by simp [cdS, hN1, hN6])
  clear hQ0 hX1 hX2
  obtain ⟨w, rfl, hw, hw2⟩ := inB_nat hN1
  obtain ⟨what, rfl, hk9, hk2⟩ := inB_nat hN6
  rw [nn_nI hw2, nn_nI hk2] at hQ
  refine ez_aload_n (q := 10) 0 dX7_wish_9 rfl rfl rfl ?_
  refine ez_getf (q := 13) dX7_wish_10 fl_X7_35 hI.1.1 rfl rfl ?_
  refine ez_iload_n (q := 14) 1 dX7_wish_13 rfl rfl rfl ?_
  refine cXv (q := 17) dX7_wish_14 ck_X7_178 hI.mx.ob.choose_spec (t_X2_find hI.mx hI.ss ho hs (by omega) (by omega)) rfl ⟨by decide, rfl⟩ rfl rfl rfl (Nat.le_of_ble_eq_true rfl) rfl (fun g hW => ?_)
  have hG := hW
  clear hW
  have hI := hI.find hG
  obtain ⟨mg, me, md, mt, mr, r, hF, hgg, hle, hse⟩ := hG
  have hE := hF.me
  refine ez_pop (q := 18) dX7_wish_17 rfl rfl ?_
  refine ez_aload_n (q := 19) 0 dX7_wish_18 rfl rfl rfl ?_
  refine ez_getf (q := 22) dX7_wish_19 fl_X7_35 hI.1.1 rfl rfl ?_
  refine ez_iload_n (q := 23) 2 dX7_wish_22 rfl rfl rfl ?_
  refine cPv (q := 26) dX7_wish_23 ck_X7_181 hE.2.1 (t_X2_ofWish hE (ho.2.2.2.2.1 w (by omega)) hgg hle hse (fun h9 => by obtain ⟨sc, hwf⟩ := hs w (by omega) h9; exact (wf_w hwf h9).trans (by rw [(wf_0 hwf).2.1])) (by omega)) rfl ⟨by decide, rfl⟩ rfl rfl rfl (Nat.le_of_ble_eq_true rfl) rfl ?_
  exact ez_iret dX7_wish_26 rfl (hQ _ hI)

set_option maxHeartbeats 800000 in
set_option maxRecDepth 100000 in
theorem t_X7_sign {G : ez_G} {d n : Nat} {h : ez_H} {n' f k t : Nat} {L T ln : Nat → Nat} {sg : Nat → Nat → Nat} {zs : Nat → AS} {b : Nat → Nat} {w i what : Int32} (hI : CJ h h n' f L T ln sg k zs t b) (ho : OK n' f L T ln sg) (hs : WFS ln sg) : Con G mX7_sign (d + 7) [.ref 1, .int w, .int i, .int what] h n 3 18 (PX n (cdG ln w i what) (some (.int (tgI T n' f L ln sg (nn w) (nn i) (nn what)))) (fun g => CJ h g n' f L T ln sg k zs t b) (fun g => CJ h g n' f L T ln sg k zs t b) ez_IO ez_IA) := by
  have hn := ho.1
  refine Con.of [some (.ref 1), some (.int w), some (.int i), some (.int what)] pl_X7 rfl (Nat.le_of_ble_eq_true rfl) rfl ?_
  have hQ0 : cdG ln w i what = 0 → ∀ g, CJ h g n' f L T ln sg k zs t b → (PX n (cdG ln w i what) (some (.int (tgI T n' f L ln sg (nn w) (nn i) (nn what)))) (fun g => CJ h g n' f L T ln sg k zs t b) (fun g => CJ h g n' f L T ln sg k zs t b) ez_IO ez_IA) (.inl (some (.int (tgI T n' f L ln sg (nn w) (nn i) (nn what))))) g n := fun e g a => Or.inl ⟨e, rfl, a, rfl⟩
  have hX1 : cdG ln w i what = 1 → ∀ g, CJ h g n' f L T ln sg k zs t b → ∀ m, n ≤ m → (PX n (cdG ln w i what) (some (.int (tgI T n' f L ln sg (nn w) (nn i) (nn what)))) (fun g => CJ h g n' f L T ln sg k zs t b) (fun g => CJ h g n' f L T ln sg k zs t b) ez_IO ez_IA) (.inr ez_IO) g m := fun e g a m hm => Or.inr (Or.inl ⟨e, rfl, a, hm⟩)
  have hX2 : cdG ln w i what = 2 → ∀ g, CJ h g n' f L T ln sg k zs t b → ∀ m, n ≤ m → (PX n (cdG ln w i what) (some (.int (tgI T n' f L ln sg (nn w) (nn i) (nn what)))) (fun g => CJ h g n' f L T ln sg k zs t b) (fun g => CJ h g n' f L T ln sg k zs t b) ez_IO ez_IA) (.inr ez_IA) g m := fun e g a m hm => Or.inr (Or.inr ⟨e, rfl, a, hm⟩)
  generalize PX n (cdG ln w i what) (some (.int (tgI T n' f L ln sg (nn w) (nn i) (nn what)))) (fun g => CJ h g n' f L T ln sg k zs t b) (fun g => CJ h g n' f L T ln sg k zs t b) ez_IO ez_IA = Q at hQ0 hX1 hX2 ⊢
  refine ez_iload_n (q := 1) 1 dX7_sign_0 rfl rfl rfl ?_
  refine cNs (q := 4) dX7_sign_1 ck_X7_127 (t_X7_needWish) rfl rfl rfl (Nat.le_of_ble_eq_true rfl) rfl (fun hN1 m9 hm9 => EX_out rfl (hX1 (by rw [cdG, isS_w (by simpa using hN1)]; rfl) _ hI m9 hm9)) (fun hN1 => ?_)
  obtain ⟨w, rfl, hw, hw2⟩ := inB_nat hN1
  have hl := ho.2.2.2.2.1 w (by omega)
  refine ez_iload_n (q := 5) 2 dX7_sign_4 rfl rfl rfl ?_
  refine ez_iflt (q := 8) (tgt := 20) dX7_sign_5 (by decide) rfl (fun hc5 => ?_) (fun hc5 => ?_)
  · exact ez_throw (is := 186) (text := "the wish has no such sign") rfl rfl tx_184_188 (List.mem_of_getElem? (i := 11) rfl) dX7_sign_20 dX7_sign_23 dX7_sign_24 dX7_sign_26 dX7_sign_29 (Nat.le_of_ble_eq_true rfl) (fun n1 hn1 => hX1 (by first | (rw [cdG, isS_n hc5]; rfl) | (rw [cdG, isS_f (by omega) hi hi2]; rfl)) _ hI n1 hn1)
  · obtain ⟨i, rfl, hi2⟩ := pos_nat hc5
    refine ez_iload_n (q := 9) 2 dX7_sign_8 rfl rfl rfl ?_
    refine ez_aload_n (q := 10) 0 dX7_sign_9 rfl rfl rfl ?_
    refine ez_getf (q := 13) dX7_sign_10 fl_X7_10 hI.1.1 rfl rfl ?_
    refine ez_iload_n (q := 14) 1 dX7_sign_13 rfl rfl rfl ?_
    refine cPv (q := 17) dX7_sign_14 ck_X7_140 hI.ss.ob (r_X3_lengthOf hI.ss ho (by omega)) rfl ⟨by decide, rfl⟩ rfl rfl rfl (Nat.le_of_ble_eq_true rfl) rfl ?_
    refine ez_icmplt (q := 20) (tgt := 30) dX7_sign_17 (by decide) rfl (fun hc17 => ?_) (fun hc17 => ?_)
    · have hi := (nI_ltI hi2 (by omega)).mp hc17
      have hiS := isS_t (show w < 4 by omega) hi hi2
      refine ez_iload_n (q := 31) 3 dX7_sign_30 rfl rfl rfl ?_
      refine ez_iconst (v := nI 3) (q := 32) dX7_sign_31 (by decide) rfl ?_
      refine cNs (q := 35) dX7_sign_32 ck_X7_166 (t_X7_needLook (a := 3) rfl (by decide)) rfl rfl rfl (Nat.le_of_ble_eq_true rfl) rfl (fun hN32 m9 hm9 => EX_out rfl (hX2 (by simp [cdG, hiS, hN32]) _ hI m9 hm9)) (fun hN32 => ?_)
      have hQ := hQ0 (by simp [cdG, hiS, hN32])
      clear hQ0 hX1 hX2
      obtain ⟨what, rfl, hk9, hk2⟩ := inB_nat hN32
      rw [nn_nI hi2, nn_nI hw2, nn_nI hk2] at hQ
      refine ez_aload_n (q := 36) 0 dX7_sign_35 rfl rfl rfl ?_
      refine ez_getf (q := 39) dX7_sign_36 fl_X7_35 hI.1.1 rfl rfl ?_
      refine ez_iload_n (q := 40) 1 dX7_sign_39 rfl rfl rfl ?_
      refine cXv (q := 43) dX7_sign_40 ck_X7_178 hI.mx.ob.choose_spec (t_X2_find hI.mx hI.ss ho hs (by omega) (by omega)) rfl ⟨by decide, rfl⟩ rfl rfl rfl (Nat.le_of_ble_eq_true rfl) rfl (fun g hW => ?_)
      have hG := hW
      clear hW
      have hI := hI.find hG
      obtain ⟨mg, me, md, mt, mr, r, hF, hgg, hle, hse⟩ := hG
      have hE := hF.me
      refine ez_pop (q := 44) dX7_sign_43 rfl rfl ?_
      refine ez_aload_n (q := 45) 0 dX7_sign_44 rfl rfl rfl ?_
      refine ez_getf (q := 48) dX7_sign_45 fl_X7_35 hI.1.1 rfl rfl ?_
      refine ez_iload_n (q := 49) 2 dX7_sign_48 rfl rfl rfl ?_
      refine ez_iload_n (q := 50) 3 dX7_sign_49 rfl rfl rfl ?_
      refine cPv (q := 53) dX7_sign_50 ck_X7_189 hE.2.1 (t_X2_ofSign hE (ho.2.2.2.2.1 w (by omega)) hgg hle hse (by omega) (by omega)) rfl ⟨by decide, rfl⟩ rfl rfl rfl (Nat.le_of_ble_eq_true rfl) rfl ?_
      exact ez_iret dX7_sign_53 rfl (hQ _ hI)
    · have hi : ln w ≤ i := Nat.le_of_not_lt (fun a => hc17 ((nI_ltI hi2 (by omega)).mpr a))
      exact ez_throw (is := 186) (text := "the wish has no such sign") rfl rfl tx_184_188 (List.mem_of_getElem? (i := 11) rfl) dX7_sign_20 dX7_sign_23 dX7_sign_24 dX7_sign_26 dX7_sign_29 (Nat.le_of_ble_eq_true rfl) (fun n1 hn1 => hX1 (by first | (rw [cdG, isS_n hc5]; rfl) | (rw [cdG, isS_f (by omega) hi hi2]; rfl)) _ hI n1 hn1)

set_option maxHeartbeats 800000 in
set_option maxRecDepth 100000 in
theorem t_X7_compare {G : ez_G} {d n : Nat} {h : ez_H} {n' f k t : Nat} {L T ln : Nat → Nat} {sg : Nat → Nat → Nat} {zs : Nat → AS} {b : Nat → Nat} {w v : Int32} (hI : CJ h h n' f L T ln sg k zs t b) (ho : OK n' f L T ln sg) (hs : WFS ln sg) : Con G mX7_compare (d + 7) [.ref 1, .int w, .int v] h n 3 18 (PX n (cd2 w v) (some (.int (cmI T n' f L ln sg (nn w) (nn v)))) (fun g => CJ h g n' f L T ln sg k zs t b) (fun g => CJ h g n' f L T ln sg k zs t b) ez_IO ez_IA) := by
  have hn := ho.1
  refine Con.of [some (.ref 1), some (.int w), some (.int v), none, none] pl_X7 rfl (Nat.le_of_ble_eq_true rfl) rfl ?_
  have hQ0 : cd2 w v = 0 → ∀ g, CJ h g n' f L T ln sg k zs t b → (PX n (cd2 w v) (some (.int (cmI T n' f L ln sg (nn w) (nn v)))) (fun g => CJ h g n' f L T ln sg k zs t b) (fun g => CJ h g n' f L T ln sg k zs t b) ez_IO ez_IA) (.inl (some (.int (cmI T n' f L ln sg (nn w) (nn v))))) g n := fun e g a => Or.inl ⟨e, rfl, a, rfl⟩
  have hX1 : cd2 w v = 1 → ∀ g, CJ h g n' f L T ln sg k zs t b → ∀ m, n ≤ m → (PX n (cd2 w v) (some (.int (cmI T n' f L ln sg (nn w) (nn v)))) (fun g => CJ h g n' f L T ln sg k zs t b) (fun g => CJ h g n' f L T ln sg k zs t b) ez_IO ez_IA) (.inr ez_IO) g m := fun e g a m hm => Or.inr (Or.inl ⟨e, rfl, a, hm⟩)
  have hX2 : cd2 w v = 2 → ∀ g, CJ h g n' f L T ln sg k zs t b → ∀ m, n ≤ m → (PX n (cd2 w v) (some (.int (cmI T n' f L ln sg (nn w) (nn v)))) (fun g => CJ h g n' f L T ln sg k zs t b) (fun g => CJ h g n' f L T ln sg k zs t b) ez_IO ez_IA) (.inr ez_IA) g m := fun e g a m hm => Or.inr (Or.inr ⟨e, rfl, a, hm⟩)
  generalize PX n (cd2 w v) (some (.int (cmI T n' f L ln sg (nn w) (nn v)))) (fun g => CJ h g n' f L T ln sg k zs t b) (fun g => CJ h g n' f L T ln sg k zs t b) ez_IO ez_IA = Q at hQ0 hX1 hX2 ⊢
  refine ez_iload_n (q := 1) 1 dX7_compare_0 rfl rfl rfl ?_
  refine cNs (q := 4) dX7_compare_1 ck_X7_127 (t_X7_needWish) rfl rfl rfl (Nat.le_of_ble_eq_true rfl) rfl (fun hN1 m9 hm9 => EX_out rfl (hX1 (by simp [cd2, hN1]) _ hI m9 hm9)) (fun hN1 => ?_)
  refine ez_iload_n (q := 5) 2 dX7_compare_4 rfl rfl rfl ?_
  refine cNs (q := 8) dX7_compare_5 ck_X7_127 (t_X7_needWish) rfl rfl rfl (Nat.le_of_ble_eq_true rfl) rfl (fun hN5 m9 hm9 => EX_out rfl (hX1 (by simp [cd2, hN1, hN5]) _ hI m9 hm9)) (fun hN5 => ?_)
  have hQ := hQ0 (by simp [cd2, hN1, hN5])
  clear hQ0 hX1 hX2
  obtain ⟨w, rfl, hw, hw2⟩ := inB_nat hN1
  obtain ⟨v, rfl, hv, hv2⟩ := inB_nat hN5
  rw [nn_nI hw2, nn_nI hv2] at hQ
  refine ez_aload_n (q := 9) 0 dX7_compare_8 rfl rfl rfl ?_
  refine ez_getf (q := 12) dX7_compare_9 fl_X7_10 hI.1.1 rfl rfl ?_
  refine ez_iload_n (q := 13) 1 dX7_compare_12 rfl rfl rfl ?_
  refine cPv (q := 16) dX7_compare_13 ck_X7_140 hI.ss.ob (r_X3_lengthOf hI.ss ho (by omega)) rfl ⟨by decide, rfl⟩ rfl rfl rfl (Nat.le_of_ble_eq_true rfl) rfl ?_
  refine ez_ifeqN (q := 19) (tgt := 30) dX7_compare_16 (by decide) (by have := ho.2.2.2.2.1 w (by omega); omega) rfl (fun hc16 => ?_) (fun hc16 => ?_)
  · rw [cmI, if_pos (Or.inl hc16)] at hQ
    refine ez_iconst (v := -1) (q := 31) dX7_compare_30 (by decide) rfl ?_
    exact ez_iret dX7_compare_31 rfl (hQ _ hI)
  · refine ez_aload_n (q := 20) 0 dX7_compare_19 rfl rfl rfl ?_
    refine ez_getf (q := 23) dX7_compare_20 fl_X7_10 hI.1.1 rfl rfl ?_
    refine ez_iload_n (q := 24) 2 dX7_compare_23 rfl rfl rfl ?_
    refine cPv (q := 27) dX7_compare_24 ck_X7_140 hI.ss.ob (r_X3_lengthOf hI.ss ho (by omega)) rfl ⟨by decide, rfl⟩ rfl rfl rfl (Nat.le_of_ble_eq_true rfl) rfl ?_
    refine ez_ifneN (q := 30) (tgt := 32) dX7_compare_27 (by decide) (by have := ho.2.2.2.2.1 v (by omega); omega) rfl (fun hc27 => ?_) (fun hc27 => ?_)
    · rw [cmI, if_neg (by omega)] at hQ
      refine ez_aload_n (q := 33) 0 dX7_compare_32 rfl rfl rfl ?_
      refine ez_getf (q := 36) dX7_compare_33 fl_X7_35 hI.1.1 rfl rfl ?_
      refine ez_iload_n (q := 37) 1 dX7_compare_36 rfl rfl rfl ?_
      refine cXv (q := 40) dX7_compare_37 ck_X7_178 hI.mx.ob.choose_spec (t_X2_find hI.mx hI.ss ho hs (by omega) (by omega)) rfl ⟨by decide, rfl⟩ rfl rfl rfl (Nat.le_of_ble_eq_true rfl) rfl (fun g hW => ?_)
      have hG := hW
      clear hW
      have hI := hI.find hG
      refine ez_istore_3 (q := 41) dX7_compare_40 rfl (by decide) rfl rfl ?_
      refine ez_aload_n (q := 42) 0 dX7_compare_41 rfl rfl rfl ?_
      refine ez_getf (q := 45) dX7_compare_42 fl_X7_35 hI.1.1 rfl rfl ?_
      refine ez_iload_n (q := 46) 2 dX7_compare_45 rfl rfl rfl ?_
      refine cXv (q := 49) dX7_compare_46 ck_X7_178 hI.mx.ob.choose_spec (t_X2_find hI.mx hI.ss ho hs (by omega) (by omega)) rfl ⟨by decide, rfl⟩ rfl rfl rfl (Nat.le_of_ble_eq_true rfl) rfl (fun g hW => ?_)
      have hG := hW
      clear hW
      have hI := hI.find hG
      refine ez_istore_4 (q := 51) dX7_compare_49 (by decide) rfl rfl ?_
      refine ez_iload_n (q := 52) 3 dX7_compare_51 rfl rfl rfl ?_
      refine ez_iload (q := 54) dX7_compare_52 rfl rfl ?_
      refine ez_icmpneN (q := 57) (tgt := 59) dX7_compare_54 (by decide) (lt31 (hW_lt w) hn) (lt31 (hW_lt v) hn) rfl (fun hc54 => ?_) (fun hc54 => ?_)
      · refine ez_iload_n (q := 60) 3 dX7_compare_59 rfl rfl rfl ?_
        refine ez_iload (q := 62) dX7_compare_60 rfl rfl ?_
        refine ez_iandN (q := 63) dX7_compare_62 rfl ?_
        refine ez_iload_n (q := 64) 3 dX7_compare_63 rfl rfl rfl ?_
        refine ez_icmpneN (q := 67) (tgt := 69) dX7_compare_64 (by decide) (lt31 (and_lt (hW_lt w)) hn) (lt31 (hW_lt w) hn) rfl (fun hc64 => ?_) (fun hc64 => ?_)
        · refine ez_iload_n (q := 70) 3 dX7_compare_69 rfl rfl rfl ?_
          refine ez_iload (q := 72) dX7_compare_70 rfl rfl ?_
          refine ez_iandN (q := 73) dX7_compare_72 rfl ?_
          refine ez_iload (q := 75) dX7_compare_73 rfl rfl ?_
          refine ez_icmpneN (q := 78) (tgt := 82) dX7_compare_75 (by decide) (lt31 (and_lt (hW_lt w)) hn) (lt31 (hW_lt v) hn) rfl (fun hc75 => ?_) (fun hc75 => ?_)
          · rw [cmN_3 hc54 hc64 hc75] at hQ
            refine ez_iconst (v := nI 3) (q := 83) dX7_compare_82 (by decide) rfl ?_
            exact ez_iret dX7_compare_83 rfl (hQ _ hI)
          · rw [cmN_2 hc54 hc64 hc75] at hQ
            refine ez_iconst (v := nI 2) (q := 79) dX7_compare_78 (by decide) rfl ?_
            refine ez_goto (q := 83) dX7_compare_79 (by decide) ?_
            exact ez_iret dX7_compare_83 rfl (hQ _ hI)
        · rw [cmN_1 hc54 hc64] at hQ
          refine ez_iconst (v := nI 1) (q := 68) dX7_compare_67 (by decide) rfl ?_
          exact ez_iret dX7_compare_68 rfl (hQ _ hI)
      · rw [show cmN (hW T n' f L ln sg w) (hW T n' f L ln sg v) = 0 from if_pos hc54] at hQ
        refine ez_iconst (v := nI 0) (q := 58) dX7_compare_57 (by decide) rfl ?_
        exact ez_iret dX7_compare_58 rfl (hQ _ hI)
    · rw [cmI, if_pos (Or.inr hc27)] at hQ
      refine ez_iconst (v := -1) (q := 31) dX7_compare_30 (by decide) rfl ?_
      exact ez_iret dX7_compare_31 rfl (hQ _ hI)

set_option maxHeartbeats 800000 in
set_option maxRecDepth 100000 in
theorem t_X7_count {G : ez_G} {d n : Nat} {h : ez_H} {n' f k t : Nat} {L T ln : Nat → Nat} {sg : Nat → Nat → Nat} {zs : Nat → AS} {b : Nat → Nat} {what : Int32} (hI : CJ h h n' f L T ln sg k zs t b) (ho : OK n' f L T ln sg) (hs : WFS ln sg) : Con G mX7_count (d + 7) [.ref 1, .int what] h n 3 18 (PX n (cdC what) (some (.int (couI T n' f L ln sg k (nn what)))) (fun g => CJ h g n' f L T ln sg k zs t b) (fun g => CJ h g n' f L T ln sg k zs t b) ez_IA "") := by
  have hn := ho.1
  refine Con.of [some (.ref 1), some (.int what)] pl_X7 rfl (Nat.le_of_ble_eq_true rfl) rfl ?_
  have hQ0 : cdC what = 0 → ∀ g, CJ h g n' f L T ln sg k zs t b → (PX n (cdC what) (some (.int (couI T n' f L ln sg k (nn what)))) (fun g => CJ h g n' f L T ln sg k zs t b) (fun g => CJ h g n' f L T ln sg k zs t b) ez_IA "") (.inl (some (.int (couI T n' f L ln sg k (nn what))))) g n := fun e g a => Or.inl ⟨e, rfl, a, rfl⟩
  have hX1 : cdC what = 1 → ∀ g, CJ h g n' f L T ln sg k zs t b → ∀ m, n ≤ m → (PX n (cdC what) (some (.int (couI T n' f L ln sg k (nn what)))) (fun g => CJ h g n' f L T ln sg k zs t b) (fun g => CJ h g n' f L T ln sg k zs t b) ez_IA "") (.inr ez_IA) g m := fun e g a m hm => Or.inr (Or.inl ⟨e, rfl, a, hm⟩)
  have hX2 : cdC what = 2 → ∀ g, CJ h g n' f L T ln sg k zs t b → ∀ m, n ≤ m → (PX n (cdC what) (some (.int (couI T n' f L ln sg k (nn what)))) (fun g => CJ h g n' f L T ln sg k zs t b) (fun g => CJ h g n' f L T ln sg k zs t b) ez_IA "") (.inr "") g m := fun e g a m hm => Or.inr (Or.inr ⟨e, rfl, a, hm⟩)
  generalize PX n (cdC what) (some (.int (couI T n' f L ln sg k (nn what)))) (fun g => CJ h g n' f L T ln sg k zs t b) (fun g => CJ h g n' f L T ln sg k zs t b) ez_IA "" = Q at hQ0 hX1 hX2 ⊢
  refine ez_iload_n (q := 1) 1 dX7_count_0 rfl rfl rfl ?_
  refine ez_bipush (v := nI 8) (q := 3) dX7_count_1 (by decide) rfl ?_
  refine cNs (q := 6) dX7_count_3 ck_X7_166 (t_X7_needLook (a := 8) rfl (by decide)) rfl rfl rfl (Nat.le_of_ble_eq_true rfl) rfl (fun hN3 m9 hm9 => EX_out rfl (hX1 (by simp [cdC, hN3]) _ hI m9 hm9)) (fun hN3 => ?_)
  have hQ := hQ0 (by simp [cdC, hN3])
  clear hQ0 hX1 hX2
  obtain ⟨what, rfl, hk9, hk2⟩ := inB_nat hN3
  rw [nn_nI hk2] at hQ
  refine ez_iload_n (q := 7) 1 dX7_count_6 rfl rfl rfl ?_
  obtain rfl | rfl | rfl | rfl | rfl | rfl | rfl | rfl | rfl : what = 0 ∨ what = 1 ∨ what = 2 ∨ what = 3 ∨ what = 4 ∨ what = 5 ∨ what = 6 ∨ what = 7 ∨ what = 8 := by omega
  · refine ez_tableIn (q := 52) (off := 45) dX7_count_7 (by decide) (by decide) (by decide) (by decide) ?_
    refine ez_aload_n (q := 53) 0 dX7_count_52 rfl rfl rfl ?_
    refine ez_getf (q := 56) dX7_count_53 fl_X7_10 hI.1.1 rfl rfl ?_
    refine ez_getf (q := 59) dX7_count_56 fl_X7_62 hI.ss.ob rfl rfl ?_
    exact ez_iret dX7_count_59 rfl (hQ _ hI)
  · refine ez_tableIn (q := 60) (off := 53) dX7_count_7 (by decide) (by decide) (by decide) (by decide) ?_
    refine ez_aload_n (q := 61) 0 dX7_count_60 rfl rfl rfl ?_
    refine ez_getf (q := 64) dX7_count_61 fl_X7_10 hI.1.1 rfl rfl ?_
    refine cPv (q := 67) dX7_count_64 ck_X7_109 hI.ss.ob (t_X3_countSteps hI.ss ho) rfl ⟨by decide, rfl⟩ rfl rfl rfl (Nat.le_of_ble_eq_true rfl) rfl ?_
    exact ez_iret dX7_count_67 rfl (hQ _ hI)
  · refine ez_tableIn (q := 68) (off := 61) dX7_count_7 (by decide) (by decide) (by decide) (by decide) ?_
    refine ez_aload_n (q := 69) 0 dX7_count_68 rfl rfl rfl ?_
    refine ez_getf (q := 72) dX7_count_69 fl_X7_35 hI.1.1 rfl rfl ?_
    refine cXv (q := 75) dX7_count_72 ck_X7_172 hI.mx.ob.choose_spec (t_X2_live hI.mx hI.ss ho (by omega)) rfl ⟨by decide, rfl⟩ rfl rfl rfl (Nat.le_of_ble_eq_true rfl) rfl (fun g hW => ?_)
    obtain ⟨hX9, hF9⟩ := hW
    have hI := hI.mean hX9 hF9
    refine cUv (q := 78) dX7_count_75 ck_X7_200 (t_J6_bitCount_0f7a4 (Nat.lt_of_lt_of_le (lvN_lt _ _ _ _) (p10 (Nat.le_refl _) hn))) rfl rfl rfl (Nat.le_of_ble_eq_true rfl) rfl ?_
    exact ez_iret dX7_count_78 rfl (hQ _ hI)
  · refine ez_tableIn (q := 79) (off := 72) dX7_count_7 (by decide) (by decide) (by decide) (by decide) ?_
    refine ez_aload_n (q := 80) 0 dX7_count_79 rfl rfl rfl ?_
    refine ez_getf (q := 83) dX7_count_80 fl_X7_10 hI.1.1 rfl rfl ?_
    refine ez_getf (q := 86) dX7_count_83 fl_X7_62 hI.ss.ob rfl rfl ?_
    refine ez_aload_n (q := 87) 0 dX7_count_86 rfl rfl rfl ?_
    refine ez_getf (q := 90) dX7_count_87 fl_X7_10 hI.1.1 rfl rfl ?_
    refine ez_aload_n (q := 91) 0 dX7_count_90 rfl rfl rfl ?_
    refine ez_getf (q := 94) dX7_count_91 fl_X7_10 hI.1.1 rfl rfl ?_
    refine cPv (q := 97) dX7_count_94 ck_X7_205 hI.ss.ob (t_X3_allWorlds hI.ss ho) rfl ⟨by decide, rfl⟩ rfl rfl rfl (Nat.le_of_ble_eq_true rfl) rfl ?_
    refine cPv (q := 100) dX7_count_97 ck_X7_169 hI.ss.ob (t_X3_leadingInto hI.ss ho) rfl ⟨by decide, rfl⟩ rfl rfl rfl (Nat.le_of_ble_eq_true rfl) rfl ?_
    refine cUv (q := 103) dX7_count_100 ck_X7_200 (t_J6_bitCount_0f7a4 (Nat.lt_of_lt_of_le (inN_lt _ _ _) (p10 (Nat.le_refl _) hn))) rfl rfl rfl (Nat.le_of_ble_eq_true rfl) rfl ?_
    refine ez_isubN (q := 104) dX7_count_103 (sl_eq hn ho.2.2.2.1).1 rfl ?_
    refine ez_top (congrArg nI (sl_eq hn ho.2.2.2.1).2) ?_
    exact ez_iret dX7_count_104 rfl (hQ _ hI)
  · refine ez_tableIn (q := 105) (off := 98) dX7_count_7 (by decide) (by decide) (by decide) (by decide) ?_
    refine ez_aload_n (q := 106) 0 dX7_count_105 rfl rfl rfl ?_
    refine ez_getf (q := 109) dX7_count_106 fl_X7_10 hI.1.1 rfl rfl ?_
    refine ez_getf (q := 112) dX7_count_109 fl_X7_103 hI.ss.ob rfl rfl ?_
    exact ez_iret dX7_count_112 rfl (hQ _ hI)
  · refine ez_tableIn (q := 113) (off := 106) dX7_count_7 (by decide) (by decide) (by decide) (by decide) ?_
    refine ez_aload_n (q := 114) 0 dX7_count_113 rfl rfl rfl ?_
    refine ez_getf (q := 117) dX7_count_114 fl_X7_10 hI.1.1 rfl rfl ?_
    refine cPv (q := 120) dX7_count_117 ck_X7_208 hI.ss.ob (t_X3_countWishes hI.ss ho) rfl ⟨by decide, rfl⟩ rfl rfl rfl (Nat.le_of_ble_eq_true rfl) rfl ?_
    exact ez_iret dX7_count_120 rfl (hQ _ hI)
  · refine ez_tableIn (q := 121) (off := 114) dX7_count_7 (by decide) (by decide) (by decide) (by decide) ?_
    refine ez_aload_n (q := 122) 0 dX7_count_121 rfl rfl rfl ?_
    refine ez_getf (q := 125) dX7_count_122 fl_X7_10 hI.1.1 rfl rfl ?_
    refine cPv (q := 128) dX7_count_125 ck_X7_211 hI.ss.ob (t_X3_countSigns hI.ss ho) rfl ⟨by decide, rfl⟩ rfl rfl rfl (Nat.le_of_ble_eq_true rfl) rfl ?_
    exact ez_iret dX7_count_128 rfl (hQ _ hI)
  · refine ez_tableIn (q := 129) (off := 122) dX7_count_7 (by decide) (by decide) (by decide) (by decide) ?_
    refine ez_aload_n (q := 130) 0 dX7_count_129 rfl rfl rfl ?_
    refine cXv (q := 133) dX7_count_130 ck_X7_214 hI.1.1 (v_X7_worldsOfAllWishes hI.rb ho hs) rfl ⟨by decide, rfl⟩ rfl rfl rfl (Nat.le_of_ble_eq_true rfl) rfl (fun g hW => ?_)
    have hI := hI.tr hW
    clear hW
    refine cUv (q := 136) dX7_count_133 ck_X7_200 (t_J6_bitCount_0f7a4 (Nat.lt_of_lt_of_le (ah_lt 4) (p10 (Nat.le_refl _) hn))) rfl rfl rfl (Nat.le_of_ble_eq_true rfl) rfl ?_
    exact ez_iret dX7_count_136 rfl (hQ _ hI)
  · refine ez_tableOut (q := 137) dX7_count_7 (by decide) (by decide) ?_
    refine ez_aload_n (q := 138) 0 dX7_count_137 rfl rfl rfl ?_
    refine ez_getf (q := 141) dX7_count_138 fl_X7_19 hI.1.1 rfl rfl ?_
    refine ez_getf (q := 144) dX7_count_141 fl_X7_158 hI.hh.choose_spec.1 rfl rfl ?_
    exact ez_iret dX7_count_144 rfl (hQ _ hI)

set_option maxHeartbeats 800000 in
set_option maxRecDepth 100000 in
theorem t_X7_ifFair {G : ez_G} {d n : Nat} {h : ez_H} {n' f k t : Nat} {L T ln : Nat → Nat} {sg : Nat → Nat → Nat} {zs : Nat → AS} {b : Nat → Nat} {w u : Int32} (hI : CJ h h n' f L T ln sg k zs t b) (ho : OK n' f L T ln sg) (hs : WFS ln sg) : Con G mX7_ifFair (d + 7) [.ref 1, .int w, .int u] h n 3 18 (PX n (cdL w u) (some (.int (bfI T n' L ln sg (nn w) (lf u)))) (fun g => CJ h g n' f L T ln sg k zs t b) (fun g => CJ h g n' f L T ln sg k zs t b) ez_IO ez_IA) := by
  have hn := ho.1
  refine Con.of [some (.ref 1), some (.int w), some (.int u)] pl_X7 rfl (Nat.le_of_ble_eq_true rfl) rfl ?_
  have hQ0 : cdL w u = 0 → ∀ g, CJ h g n' f L T ln sg k zs t b → (PX n (cdL w u) (some (.int (bfI T n' L ln sg (nn w) (lf u)))) (fun g => CJ h g n' f L T ln sg k zs t b) (fun g => CJ h g n' f L T ln sg k zs t b) ez_IO ez_IA) (.inl (some (.int (bfI T n' L ln sg (nn w) (lf u))))) g n := fun e g a => Or.inl ⟨e, rfl, a, rfl⟩
  have hX1 : cdL w u = 1 → ∀ g, CJ h g n' f L T ln sg k zs t b → ∀ m, n ≤ m → (PX n (cdL w u) (some (.int (bfI T n' L ln sg (nn w) (lf u)))) (fun g => CJ h g n' f L T ln sg k zs t b) (fun g => CJ h g n' f L T ln sg k zs t b) ez_IO ez_IA) (.inr ez_IO) g m := fun e g a m hm => Or.inr (Or.inl ⟨e, rfl, a, hm⟩)
  have hX2 : cdL w u = 2 → ∀ g, CJ h g n' f L T ln sg k zs t b → ∀ m, n ≤ m → (PX n (cdL w u) (some (.int (bfI T n' L ln sg (nn w) (lf u)))) (fun g => CJ h g n' f L T ln sg k zs t b) (fun g => CJ h g n' f L T ln sg k zs t b) ez_IO ez_IA) (.inr ez_IA) g m := fun e g a m hm => Or.inr (Or.inr ⟨e, rfl, a, hm⟩)
  generalize PX n (cdL w u) (some (.int (bfI T n' L ln sg (nn w) (lf u)))) (fun g => CJ h g n' f L T ln sg k zs t b) (fun g => CJ h g n' f L T ln sg k zs t b) ez_IO ez_IA = Q at hQ0 hX1 hX2 ⊢
  refine ez_iload_n (q := 1) 1 dX7_ifFair_0 rfl rfl rfl ?_
  refine cNs (q := 4) dX7_ifFair_1 ck_X7_127 (t_X7_needWish) rfl rfl rfl (Nat.le_of_ble_eq_true rfl) rfl (fun hN1 m9 hm9 => EX_out rfl (hX1 (by simp [cdL, hN1]) _ hI m9 hm9)) (fun hN1 => ?_)
  refine ez_iload_n (q := 5) 2 dX7_ifFair_4 rfl rfl rfl ?_
  refine cNs (q := 8) dX7_ifFair_5 ck_X7_100 (t_X7_needLetterOrNone) rfl rfl rfl (Nat.le_of_ble_eq_true rfl) rfl (fun hN5 m9 hm9 => EX_out rfl (hX2 (by simp [cdL, hN1, hN5]) _ hI m9 hm9)) (fun hN5 => ?_)
  have hQ := hQ0 (by simp [cdL, hN1, hN5])
  clear hQ0 hX1 hX2
  obtain ⟨w, rfl, hw, hw2⟩ := inB_nat hN1
  obtain ⟨u, rfl, hu, hu2⟩ := inL_nat hN5
  rw [nn_nI hw2, hu2] at hQ
  refine ez_aload_n (q := 9) 0 dX7_ifFair_8 rfl rfl rfl ?_
  refine ez_getf (q := 12) dX7_ifFair_9 fl_X7_51 hI.1.1 rfl rfl ?_
  refine ez_aload_n (q := 13) 0 dX7_ifFair_12 rfl rfl rfl ?_
  refine ez_getf (q := 16) dX7_ifFair_13 fl_X7_10 hI.1.1 rfl rfl ?_
  refine ez_iload_n (q := 17) 1 dX7_ifFair_16 rfl rfl rfl ?_
  refine ez_iload_n (q := 18) 2 dX7_ifFair_17 rfl rfl rfl ?_
  refine cXv (q := 21) dX7_ifFair_18 ck_X7_230 hI.tr9.ob.choose_spec (t_X5_worldsIfFair hI.tr9 hI.ss ho hs (by omega) hu) rfl ⟨by decide, rfl⟩ rfl rfl rfl (Nat.le_of_ble_eq_true rfl) rfl (fun g hW => ?_)
  obtain ⟨hR, hF⟩ := hW
  have hI := hI.trial hR hF
  exact ez_iret dX7_ifFair_21 rfl (hQ _ hI)


