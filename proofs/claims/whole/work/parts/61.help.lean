set_option maxHeartbeats 800000 in
set_option maxRecDepth 100000 in
theorem c_L_addWorld {G : ez_G} {d n : Nat} {h : ez_H} {n' f k t : Nat} {L T ln : Nat → Nat} {sg : Nat → Nat → Nat} {zs : Nat → AS} {b : Nat → Nat} {l : Int32} (hI : CJ h h n' f L T ln sg k zs t b) (ho : OK n' f L T ln sg) (hs : WFS ln sg) {o : Nat → Int64} (hout : h 74 = some (OU o)) : Con G mL_addWorld (d + 8) [.ref 1, .int l, .ref 74] h n 3 18 (PK n (cdA n' l) (nI n') (fun g => CJ h g (n' + 1) f (upN L n' (nn l)) (upN T n' 0) ln sg (svk k) (pushZ zs k ((n', f, L, T, ln, sg) : AS)) t b) (fun g => CJ h g n' f L T ln sg k zs t b)) := by
  refine Con.ofH [some (.ref 1), some (.int l), some (.ref 74), none] pl_L rfl (Nat.le_of_ble_eq_true rfl) rfl ?_
  have hQ0 : (cdA n' l) = 0 → ∀ g0 o', (CJ h g0 (n' + 1) f (upN L n' (nn l)) (upN T n' 0) ln sg (svk k) (pushZ zs k ((n', f, L, T, ln, sg) : AS)) t b) → o' 0 = ((nI n') : Int32).toInt64 → (PK n (cdA n' l) (nI n') (fun g => CJ h g (n' + 1) f (upN L n' (nn l)) (upN T n' 0) ln sg (svk k) (pushZ zs k ((n', f, L, T, ln, sg) : AS)) t b) (fun g => CJ h g n' f L T ln sg k zs t b)) (.inl (some (.int (nI 0)))) (ez_up g0 74 (OU o')) n := fun hc g0 o' hw ho' => ⟨Nat.le_refl _, by rw [hc], Or.inl ⟨hc, g0, o', hw, rfl, ho'⟩⟩
  have hQ1 : (cdA n' l) = 1 → ∀ g m, (CJ h g n' f L T ln sg k zs t b) → n ≤ m → (PK n (cdA n' l) (nI n') (fun g => CJ h g (n' + 1) f (upN L n' (nn l)) (upN T n' 0) ln sg (svk k) (pushZ zs k ((n', f, L, T, ln, sg) : AS)) t b) (fun g => CJ h g n' f L T ln sg k zs t b)) (.inl (some (.int (nI 1)))) g m := fun hc g m hw hm => ⟨hm, by rw [hc], Or.inr ⟨by omega, hw⟩⟩
  have hQ2 : (cdA n' l) = 2 → ∀ g m, (CJ h g n' f L T ln sg k zs t b) → n ≤ m → (PK n (cdA n' l) (nI n') (fun g => CJ h g (n' + 1) f (upN L n' (nn l)) (upN T n' 0) ln sg (svk k) (pushZ zs k ((n', f, L, T, ln, sg) : AS)) t b) (fun g => CJ h g n' f L T ln sg k zs t b)) (.inl (some (.int (nI 2)))) g m := fun hc g m hw hm => ⟨hm, by rw [hc], Or.inr ⟨by omega, hw⟩⟩
  generalize (PK n (cdA n' l) (nI n') (fun g => CJ h g (n' + 1) f (upN L n' (nn l)) (upN T n' 0) ln sg (svk k) (pushZ zs k ((n', f, L, T, ln, sg) : AS)) t b) (fun g => CJ h g n' f L T ln sg k zs t b)) = Q at hQ0 hQ1 hQ2 ⊢
  refine ez_aload_n (q := 1) 2 dL_addWorld_0 rfl rfl rfl ?_
  refine ez_iconst (v := nI 0) (q := 2) dL_addWorld_1 (by decide) rfl ?_
  refine ez_aload_n (q := 3) 0 dL_addWorld_2 rfl rfl rfl ?_
  refine ez_iload_n (q := 4) 1 dL_addWorld_3 rfl rfl rfl ?_
  refine cPX (mc := 0) (ms := 0) (q := 7) dL_addWorld_4 ck_L_7 hI.1.1 (t_X7_addWorld (d := d) hI ho hs) rfl ⟨by decide, rfl⟩ rfl rfl rfl (Nat.le_of_ble_eq_true rfl) rfl ?_ ?_ (fun hc g hW9 => ?_)
  · intro hc g m hW9 hm9
    refine EX_catch (pre := []) (hh := (0, 9, 12, 13)) (suf := [(0, 9, 15, 15)]) (k := 3) (q := 13) rfl (fun z hz => nomatch hz) rfl (by decide) cl_L_13 cs_IA (Or.inl ⟨3, rfl, dL_addWorld_12, rfl⟩) (by decide) rfl (Or.inr ⟨_, rfl, rfl⟩) rfl ?_
    refine ez_iconst (v := nI 1) (q := 14) dL_addWorld_13 (by decide) rfl ?_
    exact ez_iret dL_addWorld_14 rfl (hQ1 hc g m hW9 hm9)
  · intro hc g m hW9 hm9
    refine EX_catch (pre := [(0, 9, 12, 13)]) (hh := (0, 9, 15, 15)) (suf := []) (k := 3) (q := 16) rfl (fun z hz => by
      rw [List.mem_singleton.mp hz]
      exact ⟨by decide, _, cl_L_13, List.mem_of_getElem? (i := 0) rfl⟩) rfl (by decide) cl_L_15 cs_IS (Or.inl ⟨3, rfl, dL_addWorld_15, rfl⟩) (by decide) rfl (Or.inr ⟨_, rfl, rfl⟩) rfl ?_
    refine ez_iconst (v := nI 2) (q := 17) dL_addWorld_16 (by decide) rfl ?_
    exact ez_iret dL_addWorld_17 rfl (hQ2 hc g m hW9 hm9)
  have hout := (hW9.2 74 (Or.inr (by decide))).trans hout
  refine ez_i2l (q := 8) dL_addWorld_7 rfl ?_
  refine ez_last (q := 9) dL_addWorld_8 (by decide) hout rfl (by decide) (by decide) rfl ?_
  refine ez_goto (q := 18) dL_addWorld_9 (by decide) ?_
  refine ez_iconst (v := nI 0) (q := 19) dL_addWorld_18 (by decide) rfl ?_
  exact ez_iret dL_addWorld_19 rfl (hQ0 hc _ _ hW9 rfl)

set_option maxHeartbeats 800000 in
set_option maxRecDepth 100000 in
theorem c_L_removeWorld {G : ez_G} {d n : Nat} {h : ez_H} {n' f k t : Nat} {L T ln : Nat → Nat} {sg : Nat → Nat → Nat} {zs : Nat → AS} {b : Nat → Nat} {w : Int32} (hI : CJ h h n' f L T ln sg k zs t b) (ho : OK n' f L T ln sg) (hs : WFS ln sg) {o : Nat → Int64} (hout : h 74 = some (OU o)) : Con G mL_removeWorld (d + 8) [.ref 1, .int w, .ref 74] h n 3 18 (PK n (cdR n' w) (nI (n' - 1)) (fun g => CJ h g (n' - 1) f (outN L (nn w)) (lesN T (nn w)) ln sg (svk k) (pushZ zs k ((n', f, L, T, ln, sg) : AS)) t b) (fun g => CJ h g n' f L T ln sg k zs t b)) := by
  refine Con.ofH [some (.ref 1), some (.int w), some (.ref 74), none] pl_L rfl (Nat.le_of_ble_eq_true rfl) rfl ?_
  have hQ0 : (cdR n' w) = 0 → ∀ g0 o', (CJ h g0 (n' - 1) f (outN L (nn w)) (lesN T (nn w)) ln sg (svk k) (pushZ zs k ((n', f, L, T, ln, sg) : AS)) t b) → o' 0 = ((nI (n' - 1)) : Int32).toInt64 → (PK n (cdR n' w) (nI (n' - 1)) (fun g => CJ h g (n' - 1) f (outN L (nn w)) (lesN T (nn w)) ln sg (svk k) (pushZ zs k ((n', f, L, T, ln, sg) : AS)) t b) (fun g => CJ h g n' f L T ln sg k zs t b)) (.inl (some (.int (nI 0)))) (ez_up g0 74 (OU o')) n := fun hc g0 o' hw ho' => ⟨Nat.le_refl _, by rw [hc], Or.inl ⟨hc, g0, o', hw, rfl, ho'⟩⟩
  have hQ1 : (cdR n' w) = 1 → ∀ g m, (CJ h g n' f L T ln sg k zs t b) → n ≤ m → (PK n (cdR n' w) (nI (n' - 1)) (fun g => CJ h g (n' - 1) f (outN L (nn w)) (lesN T (nn w)) ln sg (svk k) (pushZ zs k ((n', f, L, T, ln, sg) : AS)) t b) (fun g => CJ h g n' f L T ln sg k zs t b)) (.inl (some (.int (nI 1)))) g m := fun hc g m hw hm => ⟨hm, by rw [hc], Or.inr ⟨by omega, hw⟩⟩
  have hQ2 : (cdR n' w) = 2 → ∀ g m, (CJ h g n' f L T ln sg k zs t b) → n ≤ m → (PK n (cdR n' w) (nI (n' - 1)) (fun g => CJ h g (n' - 1) f (outN L (nn w)) (lesN T (nn w)) ln sg (svk k) (pushZ zs k ((n', f, L, T, ln, sg) : AS)) t b) (fun g => CJ h g n' f L T ln sg k zs t b)) (.inl (some (.int (nI 2)))) g m := fun hc g m hw hm => ⟨hm, by rw [hc], Or.inr ⟨by omega, hw⟩⟩
  generalize (PK n (cdR n' w) (nI (n' - 1)) (fun g => CJ h g (n' - 1) f (outN L (nn w)) (lesN T (nn w)) ln sg (svk k) (pushZ zs k ((n', f, L, T, ln, sg) : AS)) t b) (fun g => CJ h g n' f L T ln sg k zs t b)) = Q at hQ0 hQ1 hQ2 ⊢
  refine ez_aload_n (q := 1) 2 dL_removeWorld_0 rfl rfl rfl ?_
  refine ez_iconst (v := nI 0) (q := 2) dL_removeWorld_1 (by decide) rfl ?_
  refine ez_aload_n (q := 3) 0 dL_removeWorld_2 rfl rfl rfl ?_
  refine ez_iload_n (q := 4) 1 dL_removeWorld_3 rfl rfl rfl ?_
  refine cPX (mc := 0) (ms := 0) (q := 7) dL_removeWorld_4 ck_L_17 hI.1.1 (t_X7_removeWorld (d := d) hI ho hs) rfl ⟨by decide, rfl⟩ rfl rfl rfl (Nat.le_of_ble_eq_true rfl) rfl ?_ ?_ (fun hc g hW9 => ?_)
  · intro hc g m hW9 hm9
    refine EX_catch (pre := []) (hh := (0, 9, 12, 20)) (suf := []) (k := 3) (q := 13) rfl (fun z hz => nomatch hz) rfl (by decide) cl_L_20 cs_IO (Or.inl ⟨3, rfl, dL_removeWorld_12, rfl⟩) (by decide) rfl (Or.inr ⟨_, rfl, rfl⟩) rfl ?_
    refine ez_iconst (v := nI 1) (q := 14) dL_removeWorld_13 (by decide) rfl ?_
    exact ez_iret dL_removeWorld_14 rfl (hQ1 hc g m hW9 hm9)
  · exact fun hc => absurd hc (by unfold cdR; split <;> decide)
  have hout := (hW9.2 74 (Or.inr (by decide))).trans hout
  refine ez_i2l (q := 8) dL_removeWorld_7 rfl ?_
  refine ez_last (q := 9) dL_removeWorld_8 (by decide) hout rfl (by decide) (by decide) rfl ?_
  refine ez_goto (q := 15) dL_removeWorld_9 (by decide) ?_
  refine ez_iconst (v := nI 0) (q := 16) dL_removeWorld_15 (by decide) rfl ?_
  exact ez_iret dL_removeWorld_16 rfl (hQ0 hc _ _ hW9 rfl)

set_option maxHeartbeats 800000 in
set_option maxRecDepth 100000 in
theorem c_L_step {G : ez_G} {d n : Nat} {h : ez_H} {n' f k t : Nat} {L T ln : Nat → Nat} {sg : Nat → Nat → Nat} {zs : Nat → AS} {b : Nat → Nat} {u v : Int32} (hI : CJ h h n' f L T ln sg k zs t b) (ho : OK n' f L T ln sg) (hs : WFS ln sg) {o : Nat → Int64} (hout : h 74 = some (OU o)) : Con G mL_step (d + 8) [.ref 1, .int u, .int v, .ref 74] h n 3 18 (PK n (cdP n' u v) (nI ((T (nn u) ^^^ 2 ^ nn v) >>> nn v &&& 1)) (fun g => CJ h g n' f L (upN T (nn u) (T (nn u) ^^^ 2 ^ nn v)) ln sg (svk k) (pushZ zs k ((n', f, L, T, ln, sg) : AS)) t b) (fun g => CJ h g n' f L T ln sg k zs t b)) := by
  refine Con.ofH [some (.ref 1), some (.int u), some (.int v), some (.ref 74), none] pl_L rfl (Nat.le_of_ble_eq_true rfl) rfl ?_
  have hQ0 : (cdP n' u v) = 0 → ∀ g0 o', (CJ h g0 n' f L (upN T (nn u) (T (nn u) ^^^ 2 ^ nn v)) ln sg (svk k) (pushZ zs k ((n', f, L, T, ln, sg) : AS)) t b) → o' 0 = ((nI ((T (nn u) ^^^ 2 ^ nn v) >>> nn v &&& 1)) : Int32).toInt64 → (PK n (cdP n' u v) (nI ((T (nn u) ^^^ 2 ^ nn v) >>> nn v &&& 1)) (fun g => CJ h g n' f L (upN T (nn u) (T (nn u) ^^^ 2 ^ nn v)) ln sg (svk k) (pushZ zs k ((n', f, L, T, ln, sg) : AS)) t b) (fun g => CJ h g n' f L T ln sg k zs t b)) (.inl (some (.int (nI 0)))) (ez_up g0 74 (OU o')) n := fun hc g0 o' hw ho' => ⟨Nat.le_refl _, by rw [hc], Or.inl ⟨hc, g0, o', hw, rfl, ho'⟩⟩
  have hQ1 : (cdP n' u v) = 1 → ∀ g m, (CJ h g n' f L T ln sg k zs t b) → n ≤ m → (PK n (cdP n' u v) (nI ((T (nn u) ^^^ 2 ^ nn v) >>> nn v &&& 1)) (fun g => CJ h g n' f L (upN T (nn u) (T (nn u) ^^^ 2 ^ nn v)) ln sg (svk k) (pushZ zs k ((n', f, L, T, ln, sg) : AS)) t b) (fun g => CJ h g n' f L T ln sg k zs t b)) (.inl (some (.int (nI 1)))) g m := fun hc g m hw hm => ⟨hm, by rw [hc], Or.inr ⟨by omega, hw⟩⟩
  have hQ2 : (cdP n' u v) = 2 → ∀ g m, (CJ h g n' f L T ln sg k zs t b) → n ≤ m → (PK n (cdP n' u v) (nI ((T (nn u) ^^^ 2 ^ nn v) >>> nn v &&& 1)) (fun g => CJ h g n' f L (upN T (nn u) (T (nn u) ^^^ 2 ^ nn v)) ln sg (svk k) (pushZ zs k ((n', f, L, T, ln, sg) : AS)) t b) (fun g => CJ h g n' f L T ln sg k zs t b)) (.inl (some (.int (nI 2)))) g m := fun hc g m hw hm => ⟨hm, by rw [hc], Or.inr ⟨by omega, hw⟩⟩
  generalize (PK n (cdP n' u v) (nI ((T (nn u) ^^^ 2 ^ nn v) >>> nn v &&& 1)) (fun g => CJ h g n' f L (upN T (nn u) (T (nn u) ^^^ 2 ^ nn v)) ln sg (svk k) (pushZ zs k ((n', f, L, T, ln, sg) : AS)) t b) (fun g => CJ h g n' f L T ln sg k zs t b)) = Q at hQ0 hQ1 hQ2 ⊢
  refine ez_aload_n (q := 1) 3 dL_step_0 rfl rfl rfl ?_
  refine ez_iconst (v := nI 0) (q := 2) dL_step_1 (by decide) rfl ?_
  refine ez_aload_n (q := 3) 0 dL_step_2 rfl rfl rfl ?_
  refine ez_iload_n (q := 4) 1 dL_step_3 rfl rfl rfl ?_
  refine ez_iload_n (q := 5) 2 dL_step_4 rfl rfl rfl ?_
  refine cPX (mc := 0) (ms := 0) (q := 8) dL_step_5 ck_L_22 hI.1.1 (t_X7_step (d := d) hI ho hs) rfl ⟨by decide, rfl⟩ rfl rfl rfl (Nat.le_of_ble_eq_true rfl) rfl ?_ ?_ (fun hc g hW9 => ?_)
  · intro hc g m hW9 hm9
    refine EX_catch (pre := []) (hh := (0, 10, 13, 20)) (suf := []) (k := 4) (q := 15) rfl (fun z hz => nomatch hz) rfl (by decide) cl_L_20 cs_IO (Or.inr ⟨dL_step_13, rfl⟩) (by decide) rfl (Or.inr ⟨_, rfl, rfl⟩) rfl ?_
    refine ez_iconst (v := nI 1) (q := 16) dL_step_15 (by decide) rfl ?_
    exact ez_iret dL_step_16 rfl (hQ1 hc g m hW9 hm9)
  · exact fun hc => absurd hc (by unfold cdP; split <;> decide)
  have hout := (hW9.2 74 (Or.inr (by decide))).trans hout
  refine ez_i2l (q := 9) dL_step_8 rfl ?_
  refine ez_last (q := 10) dL_step_9 (by decide) hout rfl (by decide) (by decide) rfl ?_
  refine ez_goto (q := 17) dL_step_10 (by decide) ?_
  refine ez_iconst (v := nI 0) (q := 18) dL_step_17 (by decide) rfl ?_
  exact ez_iret dL_step_18 rfl (hQ0 hc _ _ hW9 rfl)

set_option maxHeartbeats 800000 in
set_option maxRecDepth 100000 in
theorem c_L_flip {G : ez_G} {d n : Nat} {h : ez_H} {n' f k t : Nat} {L T ln : Nat → Nat} {sg : Nat → Nat → Nat} {zs : Nat → AS} {b : Nat → Nat} {u v : Int32} (hI : CJ h h n' f L T ln sg k zs t b) (ho : OK n' f L T ln sg) (hs : WFS ln sg) {o : Nat → Int64} (hout : h 74 = some (OU o)) : Con G mL_flip (d + 8) [.ref 1, .int u, .int v, .ref 74] h n 3 18 (PK n (cdI n' u v) (nI (L (nn u) ^^^ 2 ^ nn v)) (fun g => CJ h g n' f (upN L (nn u) (L (nn u) ^^^ 2 ^ nn v)) T ln sg (svk k) (pushZ zs k ((n', f, L, T, ln, sg) : AS)) t b) (fun g => CJ h g n' f L T ln sg k zs t b)) := by
  refine Con.ofH [some (.ref 1), some (.int u), some (.int v), some (.ref 74), none] pl_L rfl (Nat.le_of_ble_eq_true rfl) rfl ?_
  have hQ0 : (cdI n' u v) = 0 → ∀ g0 o', (CJ h g0 n' f (upN L (nn u) (L (nn u) ^^^ 2 ^ nn v)) T ln sg (svk k) (pushZ zs k ((n', f, L, T, ln, sg) : AS)) t b) → o' 0 = ((nI (L (nn u) ^^^ 2 ^ nn v)) : Int32).toInt64 → (PK n (cdI n' u v) (nI (L (nn u) ^^^ 2 ^ nn v)) (fun g => CJ h g n' f (upN L (nn u) (L (nn u) ^^^ 2 ^ nn v)) T ln sg (svk k) (pushZ zs k ((n', f, L, T, ln, sg) : AS)) t b) (fun g => CJ h g n' f L T ln sg k zs t b)) (.inl (some (.int (nI 0)))) (ez_up g0 74 (OU o')) n := fun hc g0 o' hw ho' => ⟨Nat.le_refl _, by rw [hc], Or.inl ⟨hc, g0, o', hw, rfl, ho'⟩⟩
  have hQ1 : (cdI n' u v) = 1 → ∀ g m, (CJ h g n' f L T ln sg k zs t b) → n ≤ m → (PK n (cdI n' u v) (nI (L (nn u) ^^^ 2 ^ nn v)) (fun g => CJ h g n' f (upN L (nn u) (L (nn u) ^^^ 2 ^ nn v)) T ln sg (svk k) (pushZ zs k ((n', f, L, T, ln, sg) : AS)) t b) (fun g => CJ h g n' f L T ln sg k zs t b)) (.inl (some (.int (nI 1)))) g m := fun hc g m hw hm => ⟨hm, by rw [hc], Or.inr ⟨by omega, hw⟩⟩
  have hQ2 : (cdI n' u v) = 2 → ∀ g m, (CJ h g n' f L T ln sg k zs t b) → n ≤ m → (PK n (cdI n' u v) (nI (L (nn u) ^^^ 2 ^ nn v)) (fun g => CJ h g n' f (upN L (nn u) (L (nn u) ^^^ 2 ^ nn v)) T ln sg (svk k) (pushZ zs k ((n', f, L, T, ln, sg) : AS)) t b) (fun g => CJ h g n' f L T ln sg k zs t b)) (.inl (some (.int (nI 2)))) g m := fun hc g m hw hm => ⟨hm, by rw [hc], Or.inr ⟨by omega, hw⟩⟩
  generalize (PK n (cdI n' u v) (nI (L (nn u) ^^^ 2 ^ nn v)) (fun g => CJ h g n' f (upN L (nn u) (L (nn u) ^^^ 2 ^ nn v)) T ln sg (svk k) (pushZ zs k ((n', f, L, T, ln, sg) : AS)) t b) (fun g => CJ h g n' f L T ln sg k zs t b)) = Q at hQ0 hQ1 hQ2 ⊢
  refine ez_aload_n (q := 1) 3 dL_flip_0 rfl rfl rfl ?_
  refine ez_iconst (v := nI 0) (q := 2) dL_flip_1 (by decide) rfl ?_
  refine ez_aload_n (q := 3) 0 dL_flip_2 rfl rfl rfl ?_
  refine ez_iload_n (q := 4) 1 dL_flip_3 rfl rfl rfl ?_
  refine ez_iload_n (q := 5) 2 dL_flip_4 rfl rfl rfl ?_
  refine cPX (mc := 0) (ms := 0) (q := 8) dL_flip_5 ck_L_26 hI.1.1 (t_X7_flip (d := d) hI ho hs) rfl ⟨by decide, rfl⟩ rfl rfl rfl (Nat.le_of_ble_eq_true rfl) rfl ?_ ?_ (fun hc g hW9 => ?_)
  · intro hc g m hW9 hm9
    refine EX_catch (pre := []) (hh := (0, 10, 13, 20)) (suf := [(0, 10, 17, 13)]) (k := 4) (q := 15) rfl (fun z hz => nomatch hz) rfl (by decide) cl_L_20 cs_IO (Or.inr ⟨dL_flip_13, rfl⟩) (by decide) rfl (Or.inr ⟨_, rfl, rfl⟩) rfl ?_
    refine ez_iconst (v := nI 1) (q := 16) dL_flip_15 (by decide) rfl ?_
    exact ez_iret dL_flip_16 rfl (hQ1 hc g m hW9 hm9)
  · intro hc g m hW9 hm9
    refine EX_catch (pre := [(0, 10, 13, 20)]) (hh := (0, 10, 17, 13)) (suf := []) (k := 4) (q := 19) rfl (fun z hz => by
      rw [List.mem_singleton.mp hz]
      exact ⟨by decide, _, cl_L_20, List.mem_of_getElem? (i := 1) rfl⟩) rfl (by decide) cl_L_13 cs_IA (Or.inr ⟨dL_flip_17, rfl⟩) (by decide) rfl (Or.inr ⟨_, rfl, rfl⟩) rfl ?_
    refine ez_iconst (v := nI 2) (q := 20) dL_flip_19 (by decide) rfl ?_
    exact ez_iret dL_flip_20 rfl (hQ2 hc g m hW9 hm9)
  have hout := (hW9.2 74 (Or.inr (by decide))).trans hout
  refine ez_i2l (q := 9) dL_flip_8 rfl ?_
  refine ez_last (q := 10) dL_flip_9 (by decide) hout rfl (by decide) (by decide) rfl ?_
  refine ez_goto (q := 21) dL_flip_10 (by decide) ?_
  refine ez_iconst (v := nI 0) (q := 22) dL_flip_21 (by decide) rfl ?_
  exact ez_iret dL_flip_22 rfl (hQ0 hc _ _ hW9 rfl)

set_option maxHeartbeats 800000 in
set_option maxRecDepth 100000 in
theorem c_L_fair {G : ez_G} {d n : Nat} {h : ez_H} {n' f k t : Nat} {L T ln : Nat → Nat} {sg : Nat → Nat → Nat} {zs : Nat → AS} {b : Nat → Nat} {u : Int32} (hI : CJ h h n' f L T ln sg k zs t b) (ho : OK n' f L T ln sg) (hs : WFS ln sg) {o : Nat → Int64} (hout : h 74 = some (OU o)) : Con G mL_fair (d + 8) [.ref 1, .int u, .ref 74] h n 3 18 (PK n (cdW1 u) (fI f) (fun g => CJ h g n' (lf u) L T ln sg (svk k) (pushZ zs k ((n', f, L, T, ln, sg) : AS)) t b) (fun g => CJ h g n' f L T ln sg k zs t b)) := by
  refine Con.ofH [some (.ref 1), some (.int u), some (.ref 74), none] pl_L rfl (Nat.le_of_ble_eq_true rfl) rfl ?_
  have hQ0 : (cdW1 u) = 0 → ∀ g0 o', (CJ h g0 n' (lf u) L T ln sg (svk k) (pushZ zs k ((n', f, L, T, ln, sg) : AS)) t b) → o' 0 = ((fI f) : Int32).toInt64 → (PK n (cdW1 u) (fI f) (fun g => CJ h g n' (lf u) L T ln sg (svk k) (pushZ zs k ((n', f, L, T, ln, sg) : AS)) t b) (fun g => CJ h g n' f L T ln sg k zs t b)) (.inl (some (.int (nI 0)))) (ez_up g0 74 (OU o')) n := fun hc g0 o' hw ho' => ⟨Nat.le_refl _, by rw [hc], Or.inl ⟨hc, g0, o', hw, rfl, ho'⟩⟩
  have hQ1 : (cdW1 u) = 1 → ∀ g m, (CJ h g n' f L T ln sg k zs t b) → n ≤ m → (PK n (cdW1 u) (fI f) (fun g => CJ h g n' (lf u) L T ln sg (svk k) (pushZ zs k ((n', f, L, T, ln, sg) : AS)) t b) (fun g => CJ h g n' f L T ln sg k zs t b)) (.inl (some (.int (nI 1)))) g m := fun hc g m hw hm => ⟨hm, by rw [hc], Or.inr ⟨by omega, hw⟩⟩
  have hQ2 : (cdW1 u) = 2 → ∀ g m, (CJ h g n' f L T ln sg k zs t b) → n ≤ m → (PK n (cdW1 u) (fI f) (fun g => CJ h g n' (lf u) L T ln sg (svk k) (pushZ zs k ((n', f, L, T, ln, sg) : AS)) t b) (fun g => CJ h g n' f L T ln sg k zs t b)) (.inl (some (.int (nI 2)))) g m := fun hc g m hw hm => ⟨hm, by rw [hc], Or.inr ⟨by omega, hw⟩⟩
  generalize (PK n (cdW1 u) (fI f) (fun g => CJ h g n' (lf u) L T ln sg (svk k) (pushZ zs k ((n', f, L, T, ln, sg) : AS)) t b) (fun g => CJ h g n' f L T ln sg k zs t b)) = Q at hQ0 hQ1 hQ2 ⊢
  refine ez_aload_n (q := 1) 2 dL_fair_0 rfl rfl rfl ?_
  refine ez_iconst (v := nI 0) (q := 2) dL_fair_1 (by decide) rfl ?_
  refine ez_aload_n (q := 3) 0 dL_fair_2 rfl rfl rfl ?_
  refine ez_iload_n (q := 4) 1 dL_fair_3 rfl rfl rfl ?_
  refine cPX (mc := 0) (ms := 0) (q := 7) dL_fair_4 ck_L_29 hI.1.1 (t_X7_fair (d := d) hI ho hs) rfl ⟨by decide, rfl⟩ rfl rfl rfl (Nat.le_of_ble_eq_true rfl) rfl ?_ ?_ (fun hc g hW9 => ?_)
  · intro hc g m hW9 hm9
    refine EX_catch (pre := []) (hh := (0, 9, 12, 13)) (suf := []) (k := 3) (q := 13) rfl (fun z hz => nomatch hz) rfl (by decide) cl_L_13 cs_IA (Or.inl ⟨3, rfl, dL_fair_12, rfl⟩) (by decide) rfl (Or.inr ⟨_, rfl, rfl⟩) rfl ?_
    refine ez_iconst (v := nI 1) (q := 14) dL_fair_13 (by decide) rfl ?_
    exact ez_iret dL_fair_14 rfl (hQ1 hc g m hW9 hm9)
  · exact fun hc => absurd hc (by unfold cdW1; split <;> decide)
  have hout := (hW9.2 74 (Or.inr (by decide))).trans hout
  refine ez_i2l (q := 8) dL_fair_7 rfl ?_
  refine ez_last (q := 9) dL_fair_8 (by decide) hout rfl (by decide) (by decide) rfl ?_
  refine ez_goto (q := 15) dL_fair_9 (by decide) ?_
  refine ez_iconst (v := nI 0) (q := 16) dL_fair_15 (by decide) rfl ?_
  exact ez_iret dL_fair_16 rfl (hQ0 hc _ _ hW9 rfl)

set_option maxHeartbeats 800000 in
set_option maxRecDepth 100000 in
theorem c_L_append {G : ez_G} {d n : Nat} {h : ez_H} {n' f k t : Nat} {L T ln : Nat → Nat} {sg : Nat → Nat → Nat} {zs : Nat → AS} {b : Nat → Nat} {c : Int32} (hI : CJ h h n' f L T ln sg k zs t b) (ho : OK n' f L T ln sg) (hs : WFS ln sg) {o : Nat → Int64} (hout : h 74 = some (OU o)) : Con G mL_append (d + 8) [.ref 1, .int c, .ref 74] h n 3 18 (PK n (cdB t c) (nI (t + 1)) (fun g => CJ h g n' f L T ln sg k zs (t + 1) (upN b t (nn c))) (fun g => CJ h g n' f L T ln sg k zs t b)) := by
  refine Con.ofH [some (.ref 1), some (.int c), some (.ref 74), none] pl_L rfl (Nat.le_of_ble_eq_true rfl) rfl ?_
  have hQ0 : (cdB t c) = 0 → ∀ g0 o', (CJ h g0 n' f L T ln sg k zs (t + 1) (upN b t (nn c))) → o' 0 = ((nI (t + 1)) : Int32).toInt64 → (PK n (cdB t c) (nI (t + 1)) (fun g => CJ h g n' f L T ln sg k zs (t + 1) (upN b t (nn c))) (fun g => CJ h g n' f L T ln sg k zs t b)) (.inl (some (.int (nI 0)))) (ez_up g0 74 (OU o')) n := fun hc g0 o' hw ho' => ⟨Nat.le_refl _, by rw [hc], Or.inl ⟨hc, g0, o', hw, rfl, ho'⟩⟩
  have hQ1 : (cdB t c) = 1 → ∀ g m, (CJ h g n' f L T ln sg k zs t b) → n ≤ m → (PK n (cdB t c) (nI (t + 1)) (fun g => CJ h g n' f L T ln sg k zs (t + 1) (upN b t (nn c))) (fun g => CJ h g n' f L T ln sg k zs t b)) (.inl (some (.int (nI 1)))) g m := fun hc g m hw hm => ⟨hm, by rw [hc], Or.inr ⟨by omega, hw⟩⟩
  have hQ2 : (cdB t c) = 2 → ∀ g m, (CJ h g n' f L T ln sg k zs t b) → n ≤ m → (PK n (cdB t c) (nI (t + 1)) (fun g => CJ h g n' f L T ln sg k zs (t + 1) (upN b t (nn c))) (fun g => CJ h g n' f L T ln sg k zs t b)) (.inl (some (.int (nI 2)))) g m := fun hc g m hw hm => ⟨hm, by rw [hc], Or.inr ⟨by omega, hw⟩⟩
  generalize (PK n (cdB t c) (nI (t + 1)) (fun g => CJ h g n' f L T ln sg k zs (t + 1) (upN b t (nn c))) (fun g => CJ h g n' f L T ln sg k zs t b)) = Q at hQ0 hQ1 hQ2 ⊢
  refine ez_aload_n (q := 1) 2 dL_append_0 rfl rfl rfl ?_
  refine ez_iconst (v := nI 0) (q := 2) dL_append_1 (by decide) rfl ?_
  refine ez_aload_n (q := 3) 0 dL_append_2 rfl rfl rfl ?_
  refine ez_iload_n (q := 4) 1 dL_append_3 rfl rfl rfl ?_
  refine cPX (mc := 0) (ms := 0) (q := 7) dL_append_4 ck_L_32 hI.1.1 (t_X7_append (d := d) hI ho hs) rfl ⟨by decide, rfl⟩ rfl rfl rfl (Nat.le_of_ble_eq_true rfl) rfl ?_ ?_ (fun hc g hW9 => ?_)
  · intro hc g m hW9 hm9
    refine EX_catch (pre := []) (hh := (0, 9, 12, 13)) (suf := [(0, 9, 15, 15)]) (k := 3) (q := 13) rfl (fun z hz => nomatch hz) rfl (by decide) cl_L_13 cs_IA (Or.inl ⟨3, rfl, dL_append_12, rfl⟩) (by decide) rfl (Or.inr ⟨_, rfl, rfl⟩) rfl ?_
    refine ez_iconst (v := nI 1) (q := 14) dL_append_13 (by decide) rfl ?_
    exact ez_iret dL_append_14 rfl (hQ1 hc g m hW9 hm9)
  · intro hc g m hW9 hm9
    refine EX_catch (pre := [(0, 9, 12, 13)]) (hh := (0, 9, 15, 15)) (suf := []) (k := 3) (q := 16) rfl (fun z hz => by
      rw [List.mem_singleton.mp hz]
      exact ⟨by decide, _, cl_L_13, List.mem_of_getElem? (i := 0) rfl⟩) rfl (by decide) cl_L_15 cs_IS (Or.inl ⟨3, rfl, dL_append_15, rfl⟩) (by decide) rfl (Or.inr ⟨_, rfl, rfl⟩) rfl ?_
    refine ez_iconst (v := nI 2) (q := 17) dL_append_16 (by decide) rfl ?_
    exact ez_iret dL_append_17 rfl (hQ2 hc g m hW9 hm9)
  have hout := (hW9.2 74 (Or.inr (by decide))).trans hout
  refine ez_i2l (q := 8) dL_append_7 rfl ?_
  refine ez_last (q := 9) dL_append_8 (by decide) hout rfl (by decide) (by decide) rfl ?_
  refine ez_goto (q := 18) dL_append_9 (by decide) ?_
  refine ez_iconst (v := nI 0) (q := 19) dL_append_18 (by decide) rfl ?_
  exact ez_iret dL_append_19 rfl (hQ0 hc _ _ hW9 rfl)

set_option maxHeartbeats 800000 in
set_option maxRecDepth 100000 in
theorem c_L_read {G : ez_G} {d n : Nat} {h : ez_H} {n' f k t : Nat} {L T ln : Nat → Nat} {sg : Nat → Nat → Nat} {zs : Nat → AS} {b : Nat → Nat} {w : Int32} (hI : CJ h h n' f L T ln sg k zs t b) (ho : OK n' f L T ln sg) (hs : WFS ln sg) {o : Nat → Int64} (hout : h 74 = some (OU o)) : Con G mL_read (d + 8) [.ref 1, .int w, .ref 74] h n 3 18 (PK n (cdD b t w) (nI t) (fun g => CJ h g n' f L T (upN ln (nn w) t) (sgN sg (nn w) b) (svk k) (pushZ zs k ((n', f, L, T, ln, sg) : AS)) 0 b) (fun g => CJ h g n' f L T ln sg k zs t b)) := by
  refine Con.ofH [some (.ref 1), some (.int w), some (.ref 74), none] pl_L rfl (Nat.le_of_ble_eq_true rfl) rfl ?_
  have hQ0 : (cdD b t w) = 0 → ∀ g0 o', (CJ h g0 n' f L T (upN ln (nn w) t) (sgN sg (nn w) b) (svk k) (pushZ zs k ((n', f, L, T, ln, sg) : AS)) 0 b) → o' 0 = ((nI t) : Int32).toInt64 → (PK n (cdD b t w) (nI t) (fun g => CJ h g n' f L T (upN ln (nn w) t) (sgN sg (nn w) b) (svk k) (pushZ zs k ((n', f, L, T, ln, sg) : AS)) 0 b) (fun g => CJ h g n' f L T ln sg k zs t b)) (.inl (some (.int (nI 0)))) (ez_up g0 74 (OU o')) n := fun hc g0 o' hw ho' => ⟨Nat.le_refl _, by rw [hc], Or.inl ⟨hc, g0, o', hw, rfl, ho'⟩⟩
  have hQ1 : (cdD b t w) = 1 → ∀ g m, (CJ h g n' f L T ln sg k zs t b) → n ≤ m → (PK n (cdD b t w) (nI t) (fun g => CJ h g n' f L T (upN ln (nn w) t) (sgN sg (nn w) b) (svk k) (pushZ zs k ((n', f, L, T, ln, sg) : AS)) 0 b) (fun g => CJ h g n' f L T ln sg k zs t b)) (.inl (some (.int (nI 1)))) g m := fun hc g m hw hm => ⟨hm, by rw [hc], Or.inr ⟨by omega, hw⟩⟩
  have hQ2 : (cdD b t w) = 2 → ∀ g m, (CJ h g n' f L T ln sg k zs t b) → n ≤ m → (PK n (cdD b t w) (nI t) (fun g => CJ h g n' f L T (upN ln (nn w) t) (sgN sg (nn w) b) (svk k) (pushZ zs k ((n', f, L, T, ln, sg) : AS)) 0 b) (fun g => CJ h g n' f L T ln sg k zs t b)) (.inl (some (.int (nI 2)))) g m := fun hc g m hw hm => ⟨hm, by rw [hc], Or.inr ⟨by omega, hw⟩⟩
  generalize (PK n (cdD b t w) (nI t) (fun g => CJ h g n' f L T (upN ln (nn w) t) (sgN sg (nn w) b) (svk k) (pushZ zs k ((n', f, L, T, ln, sg) : AS)) 0 b) (fun g => CJ h g n' f L T ln sg k zs t b)) = Q at hQ0 hQ1 hQ2 ⊢
  refine ez_aload_n (q := 1) 2 dL_read_0 rfl rfl rfl ?_
  refine ez_iconst (v := nI 0) (q := 2) dL_read_1 (by decide) rfl ?_
  refine ez_aload_n (q := 3) 0 dL_read_2 rfl rfl rfl ?_
  refine ez_iload_n (q := 4) 1 dL_read_3 rfl rfl rfl ?_
  refine cPX (mc := 0) (ms := 0) (q := 7) dL_read_4 ck_L_35 hI.1.1 (t_X7_read (d := d) hI ho hs) rfl ⟨by decide, rfl⟩ rfl rfl rfl (Nat.le_of_ble_eq_true rfl) rfl ?_ ?_ (fun hc g hW9 => ?_)
  · intro hc g m hW9 hm9
    refine EX_catch (pre := []) (hh := (0, 9, 12, 20)) (suf := [(0, 9, 15, 13)]) (k := 3) (q := 13) rfl (fun z hz => nomatch hz) rfl (by decide) cl_L_20 cs_IO (Or.inl ⟨3, rfl, dL_read_12, rfl⟩) (by decide) rfl (Or.inr ⟨_, rfl, rfl⟩) rfl ?_
    refine ez_iconst (v := nI 1) (q := 14) dL_read_13 (by decide) rfl ?_
    exact ez_iret dL_read_14 rfl (hQ1 hc g m hW9 hm9)
  · intro hc g m hW9 hm9
    refine EX_catch (pre := [(0, 9, 12, 20)]) (hh := (0, 9, 15, 13)) (suf := []) (k := 3) (q := 16) rfl (fun z hz => by
      rw [List.mem_singleton.mp hz]
      exact ⟨by decide, _, cl_L_20, List.mem_of_getElem? (i := 1) rfl⟩) rfl (by decide) cl_L_13 cs_IA (Or.inl ⟨3, rfl, dL_read_15, rfl⟩) (by decide) rfl (Or.inr ⟨_, rfl, rfl⟩) rfl ?_
    refine ez_iconst (v := nI 2) (q := 17) dL_read_16 (by decide) rfl ?_
    exact ez_iret dL_read_17 rfl (hQ2 hc g m hW9 hm9)
  have hout := (hW9.2 74 (Or.inr (by decide))).trans hout
  refine ez_i2l (q := 8) dL_read_7 rfl ?_
  refine ez_last (q := 9) dL_read_8 (by decide) hout rfl (by decide) (by decide) rfl ?_
  refine ez_goto (q := 18) dL_read_9 (by decide) ?_
  refine ez_iconst (v := nI 0) (q := 19) dL_read_18 (by decide) rfl ?_
  exact ez_iret dL_read_19 rfl (hQ0 hc _ _ hW9 rfl)

set_option maxHeartbeats 800000 in
set_option maxRecDepth 100000 in
theorem c_L_negate {G : ez_G} {d n : Nat} {h : ez_H} {n' f k t : Nat} {L T ln : Nat → Nat} {sg : Nat → Nat → Nat} {zs : Nat → AS} {b : Nat → Nat} {w : Int32} (hI : CJ h h n' f L T ln sg k zs t b) (ho : OK n' f L T ln sg) (hs : WFS ln sg) {o : Nat → Int64} (hout : h 74 = some (OU o)) : Con G mL_negate (d + 8) [.ref 1, .int w, .ref 74] h n 3 18 (PK n (cdN ln sg w) (nI (negM ln sg (nn w))) (fun g => CJ h g n' f L T (upN ln (nn w) (negM ln sg (nn w))) (sgN sg (nn w) (negS sg (nn w))) (svk k) (pushZ zs k ((n', f, L, T, ln, sg) : AS)) t b) (fun g => CJ h g n' f L T ln sg k zs t b)) := by
  refine Con.ofH [some (.ref 1), some (.int w), some (.ref 74), none] pl_L rfl (Nat.le_of_ble_eq_true rfl) rfl ?_
  have hQ0 : (cdN ln sg w) = 0 → ∀ g0 o', (CJ h g0 n' f L T (upN ln (nn w) (negM ln sg (nn w))) (sgN sg (nn w) (negS sg (nn w))) (svk k) (pushZ zs k ((n', f, L, T, ln, sg) : AS)) t b) → o' 0 = ((nI (negM ln sg (nn w))) : Int32).toInt64 → (PK n (cdN ln sg w) (nI (negM ln sg (nn w))) (fun g => CJ h g n' f L T (upN ln (nn w) (negM ln sg (nn w))) (sgN sg (nn w) (negS sg (nn w))) (svk k) (pushZ zs k ((n', f, L, T, ln, sg) : AS)) t b) (fun g => CJ h g n' f L T ln sg k zs t b)) (.inl (some (.int (nI 0)))) (ez_up g0 74 (OU o')) n := fun hc g0 o' hw ho' => ⟨Nat.le_refl _, by rw [hc], Or.inl ⟨hc, g0, o', hw, rfl, ho'⟩⟩
  have hQ1 : (cdN ln sg w) = 1 → ∀ g m, (CJ h g n' f L T ln sg k zs t b) → n ≤ m → (PK n (cdN ln sg w) (nI (negM ln sg (nn w))) (fun g => CJ h g n' f L T (upN ln (nn w) (negM ln sg (nn w))) (sgN sg (nn w) (negS sg (nn w))) (svk k) (pushZ zs k ((n', f, L, T, ln, sg) : AS)) t b) (fun g => CJ h g n' f L T ln sg k zs t b)) (.inl (some (.int (nI 1)))) g m := fun hc g m hw hm => ⟨hm, by rw [hc], Or.inr ⟨by omega, hw⟩⟩
  have hQ2 : (cdN ln sg w) = 2 → ∀ g m, (CJ h g n' f L T ln sg k zs t b) → n ≤ m → (PK n (cdN ln sg w) (nI (negM ln sg (nn w))) (fun g => CJ h g n' f L T (upN ln (nn w) (negM ln sg (nn w))) (sgN sg (nn w) (negS sg (nn w))) (svk k) (pushZ zs k ((n', f, L, T, ln, sg) : AS)) t b) (fun g => CJ h g n' f L T ln sg k zs t b)) (.inl (some (.int (nI 2)))) g m := fun hc g m hw hm => ⟨hm, by rw [hc], Or.inr ⟨by omega, hw⟩⟩
  generalize (PK n (cdN ln sg w) (nI (negM ln sg (nn w))) (fun g => CJ h g n' f L T (upN ln (nn w) (negM ln sg (nn w))) (sgN sg (nn w) (negS sg (nn w))) (svk k) (pushZ zs k ((n', f, L, T, ln, sg) : AS)) t b) (fun g => CJ h g n' f L T ln sg k zs t b)) = Q at hQ0 hQ1 hQ2 ⊢
  refine ez_aload_n (q := 1) 2 dL_negate_0 rfl rfl rfl ?_
  refine ez_iconst (v := nI 0) (q := 2) dL_negate_1 (by decide) rfl ?_
  refine ez_aload_n (q := 3) 0 dL_negate_2 rfl rfl rfl ?_
  refine ez_iload_n (q := 4) 1 dL_negate_3 rfl rfl rfl ?_
  refine cPX (mc := 0) (ms := 0) (q := 7) dL_negate_4 ck_L_38 hI.1.1 (t_X7_negate (d := d) hI ho hs) rfl ⟨by decide, rfl⟩ rfl rfl rfl (Nat.le_of_ble_eq_true rfl) rfl ?_ ?_ (fun hc g hW9 => ?_)
  · intro hc g m hW9 hm9
    refine EX_catch (pre := []) (hh := (0, 9, 12, 20)) (suf := [(0, 9, 15, 15)]) (k := 3) (q := 13) rfl (fun z hz => nomatch hz) rfl (by decide) cl_L_20 cs_IO (Or.inl ⟨3, rfl, dL_negate_12, rfl⟩) (by decide) rfl (Or.inr ⟨_, rfl, rfl⟩) rfl ?_
    refine ez_iconst (v := nI 1) (q := 14) dL_negate_13 (by decide) rfl ?_
    exact ez_iret dL_negate_14 rfl (hQ1 hc g m hW9 hm9)
  · intro hc g m hW9 hm9
    refine EX_catch (pre := [(0, 9, 12, 20)]) (hh := (0, 9, 15, 15)) (suf := []) (k := 3) (q := 16) rfl (fun z hz => by
      rw [List.mem_singleton.mp hz]
      exact ⟨by decide, _, cl_L_20, List.mem_of_getElem? (i := 2) rfl⟩) rfl (by decide) cl_L_15 cs_IS (Or.inl ⟨3, rfl, dL_negate_15, rfl⟩) (by decide) rfl (Or.inr ⟨_, rfl, rfl⟩) rfl ?_
    refine ez_iconst (v := nI 2) (q := 17) dL_negate_16 (by decide) rfl ?_
    exact ez_iret dL_negate_17 rfl (hQ2 hc g m hW9 hm9)
  have hout := (hW9.2 74 (Or.inr (by decide))).trans hout
  refine ez_i2l (q := 8) dL_negate_7 rfl ?_
  refine ez_last (q := 9) dL_negate_8 (by decide) hout rfl (by decide) (by decide) rfl ?_
  refine ez_goto (q := 18) dL_negate_9 (by decide) ?_
  refine ez_iconst (v := nI 0) (q := 19) dL_negate_18 (by decide) rfl ?_
  exact ez_iret dL_negate_19 rfl (hQ0 hc _ _ hW9 rfl)

set_option maxHeartbeats 800000 in
set_option maxRecDepth 100000 in
theorem c_L_giveUp {G : ez_G} {d n : Nat} {h : ez_H} {n' f k t : Nat} {L T ln : Nat → Nat} {sg : Nat → Nat → Nat} {zs : Nat → AS} {b : Nat → Nat} {w : Int32} (hI : CJ h h n' f L T ln sg k zs t b) (ho : OK n' f L T ln sg) (hs : WFS ln sg) {o : Nat → Int64} (hout : h 74 = some (OU o)) : Con G mL_giveUp (d + 8) [.ref 1, .int w, .ref 74] h n 3 18 (PK n (cdV w) (nI (ln (nn w))) (fun g => CJ h g n' f L T (upN ln (nn w) 0) (sgN sg (nn w) (sg (nn w))) (svk k) (pushZ zs k ((n', f, L, T, ln, sg) : AS)) t b) (fun g => CJ h g n' f L T ln sg k zs t b)) := by
  refine Con.ofH [some (.ref 1), some (.int w), some (.ref 74), none] pl_L rfl (Nat.le_of_ble_eq_true rfl) rfl ?_
  have hQ0 : (cdV w) = 0 → ∀ g0 o', (CJ h g0 n' f L T (upN ln (nn w) 0) (sgN sg (nn w) (sg (nn w))) (svk k) (pushZ zs k ((n', f, L, T, ln, sg) : AS)) t b) → o' 0 = ((nI (ln (nn w))) : Int32).toInt64 → (PK n (cdV w) (nI (ln (nn w))) (fun g => CJ h g n' f L T (upN ln (nn w) 0) (sgN sg (nn w) (sg (nn w))) (svk k) (pushZ zs k ((n', f, L, T, ln, sg) : AS)) t b) (fun g => CJ h g n' f L T ln sg k zs t b)) (.inl (some (.int (nI 0)))) (ez_up g0 74 (OU o')) n := fun hc g0 o' hw ho' => ⟨Nat.le_refl _, by rw [hc], Or.inl ⟨hc, g0, o', hw, rfl, ho'⟩⟩
  have hQ1 : (cdV w) = 1 → ∀ g m, (CJ h g n' f L T ln sg k zs t b) → n ≤ m → (PK n (cdV w) (nI (ln (nn w))) (fun g => CJ h g n' f L T (upN ln (nn w) 0) (sgN sg (nn w) (sg (nn w))) (svk k) (pushZ zs k ((n', f, L, T, ln, sg) : AS)) t b) (fun g => CJ h g n' f L T ln sg k zs t b)) (.inl (some (.int (nI 1)))) g m := fun hc g m hw hm => ⟨hm, by rw [hc], Or.inr ⟨by omega, hw⟩⟩
  have hQ2 : (cdV w) = 2 → ∀ g m, (CJ h g n' f L T ln sg k zs t b) → n ≤ m → (PK n (cdV w) (nI (ln (nn w))) (fun g => CJ h g n' f L T (upN ln (nn w) 0) (sgN sg (nn w) (sg (nn w))) (svk k) (pushZ zs k ((n', f, L, T, ln, sg) : AS)) t b) (fun g => CJ h g n' f L T ln sg k zs t b)) (.inl (some (.int (nI 2)))) g m := fun hc g m hw hm => ⟨hm, by rw [hc], Or.inr ⟨by omega, hw⟩⟩
  generalize (PK n (cdV w) (nI (ln (nn w))) (fun g => CJ h g n' f L T (upN ln (nn w) 0) (sgN sg (nn w) (sg (nn w))) (svk k) (pushZ zs k ((n', f, L, T, ln, sg) : AS)) t b) (fun g => CJ h g n' f L T ln sg k zs t b)) = Q at hQ0 hQ1 hQ2 ⊢
  refine ez_aload_n (q := 1) 2 dL_giveUp_0 rfl rfl rfl ?_
  refine ez_iconst (v := nI 0) (q := 2) dL_giveUp_1 (by decide) rfl ?_
  refine ez_aload_n (q := 3) 0 dL_giveUp_2 rfl rfl rfl ?_
  refine ez_iload_n (q := 4) 1 dL_giveUp_3 rfl rfl rfl ?_
  refine cPX (mc := 0) (ms := 0) (q := 7) dL_giveUp_4 ck_L_41 hI.1.1 (t_X7_giveUp (d := d) hI ho hs) rfl ⟨by decide, rfl⟩ rfl rfl rfl (Nat.le_of_ble_eq_true rfl) rfl ?_ ?_ (fun hc g hW9 => ?_)
  · intro hc g m hW9 hm9
    refine EX_catch (pre := []) (hh := (0, 9, 12, 20)) (suf := []) (k := 3) (q := 13) rfl (fun z hz => nomatch hz) rfl (by decide) cl_L_20 cs_IO (Or.inl ⟨3, rfl, dL_giveUp_12, rfl⟩) (by decide) rfl (Or.inr ⟨_, rfl, rfl⟩) rfl ?_
    refine ez_iconst (v := nI 1) (q := 14) dL_giveUp_13 (by decide) rfl ?_
    exact ez_iret dL_giveUp_14 rfl (hQ1 hc g m hW9 hm9)
  · exact fun hc => absurd hc (by unfold cdV; split <;> decide)
  have hout := (hW9.2 74 (Or.inr (by decide))).trans hout
  refine ez_i2l (q := 8) dL_giveUp_7 rfl ?_
  refine ez_last (q := 9) dL_giveUp_8 (by decide) hout rfl (by decide) (by decide) rfl ?_
  refine ez_goto (q := 15) dL_giveUp_9 (by decide) ?_
  refine ez_iconst (v := nI 0) (q := 16) dL_giveUp_15 (by decide) rfl ?_
  exact ez_iret dL_giveUp_16 rfl (hQ0 hc _ _ hW9 rfl)

set_option maxHeartbeats 800000 in
set_option maxRecDepth 100000 in
theorem c_L_undo {G : ez_G} {d n : Nat} {h : ez_H} {n' f k t : Nat} {L T ln : Nat → Nat} {sg : Nat → Nat → Nat} {zs : Nat → AS} {b : Nat → Nat} (hI : CJ h h n' f L T ln sg k zs t b) (ho : OK n' f L T ln sg) (hs : WFS ln sg) (hz : ∀ i, i < k → OKA (zs i)) {o : Nat → Int64} (hout : h 74 = some (OU o)) : Con G mL_undo (d + 8) [.ref 1, .ref 74] h n 3 18 (PK n (cdU k) (nI (k - 1)) (fun g => CJ h g (zs (k - 1)).1 (zs (k - 1)).2.1 (zs (k - 1)).2.2.1 (zs (k - 1)).2.2.2.1 (zs (k - 1)).2.2.2.2.1 (zs (k - 1)).2.2.2.2.2 (k - 1) zs t b) (fun g => CJ h g n' f L T ln sg k zs t b)) := by
  refine Con.ofH [some (.ref 1), some (.ref 74), none] pl_L rfl (Nat.le_of_ble_eq_true rfl) rfl ?_
  have hQ0 : (cdU k) = 0 → ∀ g0 o', (CJ h g0 (zs (k - 1)).1 (zs (k - 1)).2.1 (zs (k - 1)).2.2.1 (zs (k - 1)).2.2.2.1 (zs (k - 1)).2.2.2.2.1 (zs (k - 1)).2.2.2.2.2 (k - 1) zs t b) → o' 0 = ((nI (k - 1)) : Int32).toInt64 → (PK n (cdU k) (nI (k - 1)) (fun g => CJ h g (zs (k - 1)).1 (zs (k - 1)).2.1 (zs (k - 1)).2.2.1 (zs (k - 1)).2.2.2.1 (zs (k - 1)).2.2.2.2.1 (zs (k - 1)).2.2.2.2.2 (k - 1) zs t b) (fun g => CJ h g n' f L T ln sg k zs t b)) (.inl (some (.int (nI 0)))) (ez_up g0 74 (OU o')) n := fun hc g0 o' hw ho' => ⟨Nat.le_refl _, by rw [hc], Or.inl ⟨hc, g0, o', hw, rfl, ho'⟩⟩
  have hQ1 : (cdU k) = 1 → ∀ g m, (CJ h g n' f L T ln sg k zs t b) → n ≤ m → (PK n (cdU k) (nI (k - 1)) (fun g => CJ h g (zs (k - 1)).1 (zs (k - 1)).2.1 (zs (k - 1)).2.2.1 (zs (k - 1)).2.2.2.1 (zs (k - 1)).2.2.2.2.1 (zs (k - 1)).2.2.2.2.2 (k - 1) zs t b) (fun g => CJ h g n' f L T ln sg k zs t b)) (.inl (some (.int (nI 1)))) g m := fun hc g m hw hm => ⟨hm, by rw [hc], Or.inr ⟨by omega, hw⟩⟩
  have hQ2 : (cdU k) = 2 → ∀ g m, (CJ h g n' f L T ln sg k zs t b) → n ≤ m → (PK n (cdU k) (nI (k - 1)) (fun g => CJ h g (zs (k - 1)).1 (zs (k - 1)).2.1 (zs (k - 1)).2.2.1 (zs (k - 1)).2.2.2.1 (zs (k - 1)).2.2.2.2.1 (zs (k - 1)).2.2.2.2.2 (k - 1) zs t b) (fun g => CJ h g n' f L T ln sg k zs t b)) (.inl (some (.int (nI 2)))) g m := fun hc g m hw hm => ⟨hm, by rw [hc], Or.inr ⟨by omega, hw⟩⟩
  generalize (PK n (cdU k) (nI (k - 1)) (fun g => CJ h g (zs (k - 1)).1 (zs (k - 1)).2.1 (zs (k - 1)).2.2.1 (zs (k - 1)).2.2.2.1 (zs (k - 1)).2.2.2.2.1 (zs (k - 1)).2.2.2.2.2 (k - 1) zs t b) (fun g => CJ h g n' f L T ln sg k zs t b)) = Q at hQ0 hQ1 hQ2 ⊢
  refine ez_aload_n (q := 1) 1 dL_undo_0 rfl rfl rfl ?_
  refine ez_iconst (v := nI 0) (q := 2) dL_undo_1 (by decide) rfl ?_
  refine ez_aload_n (q := 3) 0 dL_undo_2 rfl rfl rfl ?_
  refine cPX (mc := 0) (ms := 0) (q := 6) dL_undo_3 ck_L_44 hI.1.1 (t_X7_undo (d := d) hI ho hs hz) rfl ⟨by decide, rfl⟩ rfl rfl rfl (Nat.le_of_ble_eq_true rfl) rfl ?_ ?_ (fun hc g hW9 => ?_)
  · intro hc g m hW9 hm9
    refine EX_catch (pre := []) (hh := (0, 8, 11, 15)) (suf := []) (k := 2) (q := 12) rfl (fun z hz => nomatch hz) rfl (by decide) cl_L_15 cs_IS (Or.inl ⟨2, rfl, dL_undo_11, rfl⟩) (by decide) rfl (Or.inr ⟨_, rfl, rfl⟩) rfl ?_
    refine ez_iconst (v := nI 1) (q := 13) dL_undo_12 (by decide) rfl ?_
    exact ez_iret dL_undo_13 rfl (hQ1 hc g m hW9 hm9)
  · exact fun hc => absurd hc (by unfold cdU; split <;> decide)
  have hout := (hW9.2 74 (Or.inr (by decide))).trans hout
  refine ez_i2l (q := 7) dL_undo_6 rfl ?_
  refine ez_last (q := 8) dL_undo_7 (by decide) hout rfl (by decide) (by decide) rfl ?_
  refine ez_goto (q := 14) dL_undo_8 (by decide) ?_
  refine ez_iconst (v := nI 0) (q := 15) dL_undo_14 (by decide) rfl ?_
  exact ez_iret dL_undo_15 rfl (hQ0 hc _ _ hW9 rfl)

set_option maxHeartbeats 800000 in
set_option maxRecDepth 100000 in
theorem c_L_world {G : ez_G} {d n : Nat} {h : ez_H} {n' f k t : Nat} {L T ln : Nat → Nat} {sg : Nat → Nat → Nat} {zs : Nat → AS} {b : Nat → Nat} {i what : Int32} (hI : CJ h h n' f L T ln sg k zs t b) (ho : OK n' f L T ln sg) (hs : WFS ln sg) {o : Nat → Int64} (hout : h 74 = some (OU o)) : Con G mL_world (d + 8) [.ref 1, .int i, .int what, .ref 74] h n 3 18 (PK n (cdW n' 4 i what) (nI (twN T n' f L ln sg (nn i) (nn what))) (fun g => CJ h g n' f L T ln sg k zs t b) (fun g => CJ h g n' f L T ln sg k zs t b)) := by
  refine Con.ofH [some (.ref 1), some (.int i), some (.int what), some (.ref 74), none] pl_L rfl (Nat.le_of_ble_eq_true rfl) rfl ?_
  have hQ0 : (cdW n' 4 i what) = 0 → ∀ g0 o', (CJ h g0 n' f L T ln sg k zs t b) → o' 0 = ((nI (twN T n' f L ln sg (nn i) (nn what))) : Int32).toInt64 → (PK n (cdW n' 4 i what) (nI (twN T n' f L ln sg (nn i) (nn what))) (fun g => CJ h g n' f L T ln sg k zs t b) (fun g => CJ h g n' f L T ln sg k zs t b)) (.inl (some (.int (nI 0)))) (ez_up g0 74 (OU o')) n := fun hc g0 o' hw ho' => ⟨Nat.le_refl _, by rw [hc], Or.inl ⟨hc, g0, o', hw, rfl, ho'⟩⟩
  have hQ1 : (cdW n' 4 i what) = 1 → ∀ g m, (CJ h g n' f L T ln sg k zs t b) → n ≤ m → (PK n (cdW n' 4 i what) (nI (twN T n' f L ln sg (nn i) (nn what))) (fun g => CJ h g n' f L T ln sg k zs t b) (fun g => CJ h g n' f L T ln sg k zs t b)) (.inl (some (.int (nI 1)))) g m := fun hc g m hw hm => ⟨hm, by rw [hc], Or.inr ⟨by omega, hw⟩⟩
  have hQ2 : (cdW n' 4 i what) = 2 → ∀ g m, (CJ h g n' f L T ln sg k zs t b) → n ≤ m → (PK n (cdW n' 4 i what) (nI (twN T n' f L ln sg (nn i) (nn what))) (fun g => CJ h g n' f L T ln sg k zs t b) (fun g => CJ h g n' f L T ln sg k zs t b)) (.inl (some (.int (nI 2)))) g m := fun hc g m hw hm => ⟨hm, by rw [hc], Or.inr ⟨by omega, hw⟩⟩
  generalize (PK n (cdW n' 4 i what) (nI (twN T n' f L ln sg (nn i) (nn what))) (fun g => CJ h g n' f L T ln sg k zs t b) (fun g => CJ h g n' f L T ln sg k zs t b)) = Q at hQ0 hQ1 hQ2 ⊢
  refine ez_aload_n (q := 1) 3 dL_world_0 rfl rfl rfl ?_
  refine ez_iconst (v := nI 0) (q := 2) dL_world_1 (by decide) rfl ?_
  refine ez_aload_n (q := 3) 0 dL_world_2 rfl rfl rfl ?_
  refine ez_iload_n (q := 4) 1 dL_world_3 rfl rfl rfl ?_
  refine ez_iload_n (q := 5) 2 dL_world_4 rfl rfl rfl ?_
  refine cPX (mc := 0) (ms := 0) (q := 8) dL_world_5 ck_L_48 hI.1.1 (t_X7_world (d := d) hI ho hs) rfl ⟨by decide, rfl⟩ rfl rfl rfl (Nat.le_of_ble_eq_true rfl) rfl ?_ ?_ (fun hc g hW9 => ?_)
  · intro hc g m hW9 hm9
    refine EX_catch (pre := []) (hh := (0, 10, 13, 20)) (suf := [(0, 10, 17, 13)]) (k := 4) (q := 15) rfl (fun z hz => nomatch hz) rfl (by decide) cl_L_20 cs_IO (Or.inr ⟨dL_world_13, rfl⟩) (by decide) rfl (Or.inr ⟨_, rfl, rfl⟩) rfl ?_
    refine ez_iconst (v := nI 1) (q := 16) dL_world_15 (by decide) rfl ?_
    exact ez_iret dL_world_16 rfl (hQ1 hc g m hW9 hm9)
  · intro hc g m hW9 hm9
    refine EX_catch (pre := [(0, 10, 13, 20)]) (hh := (0, 10, 17, 13)) (suf := []) (k := 4) (q := 19) rfl (fun z hz => by
      rw [List.mem_singleton.mp hz]
      exact ⟨by decide, _, cl_L_20, List.mem_of_getElem? (i := 1) rfl⟩) rfl (by decide) cl_L_13 cs_IA (Or.inr ⟨dL_world_17, rfl⟩) (by decide) rfl (Or.inr ⟨_, rfl, rfl⟩) rfl ?_
    refine ez_iconst (v := nI 2) (q := 20) dL_world_19 (by decide) rfl ?_
    exact ez_iret dL_world_20 rfl (hQ2 hc g m hW9 hm9)
  have hout := (hW9.2 74 (Or.inr (by decide))).trans hout
  refine ez_i2l (q := 9) dL_world_8 rfl ?_
  refine ez_last (q := 10) dL_world_9 (by decide) hout rfl (by decide) (by decide) rfl ?_
  refine ez_goto (q := 21) dL_world_10 (by decide) ?_
  refine ez_iconst (v := nI 0) (q := 22) dL_world_21 (by decide) rfl ?_
  exact ez_iret dL_world_22 rfl (hQ0 hc _ _ hW9 rfl)

set_option maxHeartbeats 800000 in
set_option maxRecDepth 100000 in
theorem c_L_wish {G : ez_G} {d n : Nat} {h : ez_H} {n' f k t : Nat} {L T ln : Nat → Nat} {sg : Nat → Nat → Nat} {zs : Nat → AS} {b : Nat → Nat} {w what : Int32} (hI : CJ h h n' f L T ln sg k zs t b) (ho : OK n' f L T ln sg) (hs : WFS ln sg) {o : Nat → Int64} (hout : h 74 = some (OU o)) : Con G mL_wish (d + 8) [.ref 1, .int w, .int what, .ref 74] h n 3 18 (PK n (cdS 3 w what) (tsI T n' f L ln sg (nn w) (nn what)) (fun g => CJ h g n' f L T ln sg k zs t b) (fun g => CJ h g n' f L T ln sg k zs t b)) := by
  refine Con.ofH [some (.ref 1), some (.int w), some (.int what), some (.ref 74), none] pl_L rfl (Nat.le_of_ble_eq_true rfl) rfl ?_
  have hQ0 : (cdS 3 w what) = 0 → ∀ g0 o', (CJ h g0 n' f L T ln sg k zs t b) → o' 0 = ((tsI T n' f L ln sg (nn w) (nn what)) : Int32).toInt64 → (PK n (cdS 3 w what) (tsI T n' f L ln sg (nn w) (nn what)) (fun g => CJ h g n' f L T ln sg k zs t b) (fun g => CJ h g n' f L T ln sg k zs t b)) (.inl (some (.int (nI 0)))) (ez_up g0 74 (OU o')) n := fun hc g0 o' hw ho' => ⟨Nat.le_refl _, by rw [hc], Or.inl ⟨hc, g0, o', hw, rfl, ho'⟩⟩
  have hQ1 : (cdS 3 w what) = 1 → ∀ g m, (CJ h g n' f L T ln sg k zs t b) → n ≤ m → (PK n (cdS 3 w what) (tsI T n' f L ln sg (nn w) (nn what)) (fun g => CJ h g n' f L T ln sg k zs t b) (fun g => CJ h g n' f L T ln sg k zs t b)) (.inl (some (.int (nI 1)))) g m := fun hc g m hw hm => ⟨hm, by rw [hc], Or.inr ⟨by omega, hw⟩⟩
  have hQ2 : (cdS 3 w what) = 2 → ∀ g m, (CJ h g n' f L T ln sg k zs t b) → n ≤ m → (PK n (cdS 3 w what) (tsI T n' f L ln sg (nn w) (nn what)) (fun g => CJ h g n' f L T ln sg k zs t b) (fun g => CJ h g n' f L T ln sg k zs t b)) (.inl (some (.int (nI 2)))) g m := fun hc g m hw hm => ⟨hm, by rw [hc], Or.inr ⟨by omega, hw⟩⟩
  generalize (PK n (cdS 3 w what) (tsI T n' f L ln sg (nn w) (nn what)) (fun g => CJ h g n' f L T ln sg k zs t b) (fun g => CJ h g n' f L T ln sg k zs t b)) = Q at hQ0 hQ1 hQ2 ⊢
  refine ez_aload_n (q := 1) 3 dL_wish_0 rfl rfl rfl ?_
  refine ez_iconst (v := nI 0) (q := 2) dL_wish_1 (by decide) rfl ?_
  refine ez_aload_n (q := 3) 0 dL_wish_2 rfl rfl rfl ?_
  refine ez_iload_n (q := 4) 1 dL_wish_3 rfl rfl rfl ?_
  refine ez_iload_n (q := 5) 2 dL_wish_4 rfl rfl rfl ?_
  refine cPX (mc := 0) (ms := 0) (q := 8) dL_wish_5 ck_L_51 hI.1.1 (t_X7_wish (d := d) hI ho hs) rfl ⟨by decide, rfl⟩ rfl rfl rfl (Nat.le_of_ble_eq_true rfl) rfl ?_ ?_ (fun hc g hW9 => ?_)
  · intro hc g m hW9 hm9
    refine EX_catch (pre := []) (hh := (0, 10, 13, 20)) (suf := [(0, 10, 17, 13)]) (k := 4) (q := 15) rfl (fun z hz => nomatch hz) rfl (by decide) cl_L_20 cs_IO (Or.inr ⟨dL_wish_13, rfl⟩) (by decide) rfl (Or.inr ⟨_, rfl, rfl⟩) rfl ?_
    refine ez_iconst (v := nI 1) (q := 16) dL_wish_15 (by decide) rfl ?_
    exact ez_iret dL_wish_16 rfl (hQ1 hc g m hW9 hm9)
  · intro hc g m hW9 hm9
    refine EX_catch (pre := [(0, 10, 13, 20)]) (hh := (0, 10, 17, 13)) (suf := []) (k := 4) (q := 19) rfl (fun z hz => by
      rw [List.mem_singleton.mp hz]
      exact ⟨by decide, _, cl_L_20, List.mem_of_getElem? (i := 1) rfl⟩) rfl (by decide) cl_L_13 cs_IA (Or.inr ⟨dL_wish_17, rfl⟩) (by decide) rfl (Or.inr ⟨_, rfl, rfl⟩) rfl ?_
    refine ez_iconst (v := nI 2) (q := 20) dL_wish_19 (by decide) rfl ?_
    exact ez_iret dL_wish_20 rfl (hQ2 hc g m hW9 hm9)
  have hout := (hW9.2 74 (Or.inr (by decide))).trans hout
  refine ez_i2l (q := 9) dL_wish_8 rfl ?_
  refine ez_last (q := 10) dL_wish_9 (by decide) hout rfl (by decide) (by decide) rfl ?_
  refine ez_goto (q := 21) dL_wish_10 (by decide) ?_
  refine ez_iconst (v := nI 0) (q := 22) dL_wish_21 (by decide) rfl ?_
  exact ez_iret dL_wish_22 rfl (hQ0 hc _ _ hW9 rfl)

set_option maxHeartbeats 800000 in
set_option maxRecDepth 100000 in
theorem c_L_sign {G : ez_G} {d n : Nat} {h : ez_H} {n' f k t : Nat} {L T ln : Nat → Nat} {sg : Nat → Nat → Nat} {zs : Nat → AS} {b : Nat → Nat} {w i what : Int32} (hI : CJ h h n' f L T ln sg k zs t b) (ho : OK n' f L T ln sg) (hs : WFS ln sg) {o : Nat → Int64} (hout : h 74 = some (OU o)) : Con G mL_sign (d + 8) [.ref 1, .int w, .int i, .int what, .ref 74] h n 3 18 (PK n (cdG ln w i what) (tgI T n' f L ln sg (nn w) (nn i) (nn what)) (fun g => CJ h g n' f L T ln sg k zs t b) (fun g => CJ h g n' f L T ln sg k zs t b)) := by
  refine Con.ofH [some (.ref 1), some (.int w), some (.int i), some (.int what), some (.ref 74), none] pl_L rfl (Nat.le_of_ble_eq_true rfl) rfl ?_
  have hQ0 : (cdG ln w i what) = 0 → ∀ g0 o', (CJ h g0 n' f L T ln sg k zs t b) → o' 0 = ((tgI T n' f L ln sg (nn w) (nn i) (nn what)) : Int32).toInt64 → (PK n (cdG ln w i what) (tgI T n' f L ln sg (nn w) (nn i) (nn what)) (fun g => CJ h g n' f L T ln sg k zs t b) (fun g => CJ h g n' f L T ln sg k zs t b)) (.inl (some (.int (nI 0)))) (ez_up g0 74 (OU o')) n := fun hc g0 o' hw ho' => ⟨Nat.le_refl _, by rw [hc], Or.inl ⟨hc, g0, o', hw, rfl, ho'⟩⟩
  have hQ1 : (cdG ln w i what) = 1 → ∀ g m, (CJ h g n' f L T ln sg k zs t b) → n ≤ m → (PK n (cdG ln w i what) (tgI T n' f L ln sg (nn w) (nn i) (nn what)) (fun g => CJ h g n' f L T ln sg k zs t b) (fun g => CJ h g n' f L T ln sg k zs t b)) (.inl (some (.int (nI 1)))) g m := fun hc g m hw hm => ⟨hm, by rw [hc], Or.inr ⟨by omega, hw⟩⟩
  have hQ2 : (cdG ln w i what) = 2 → ∀ g m, (CJ h g n' f L T ln sg k zs t b) → n ≤ m → (PK n (cdG ln w i what) (tgI T n' f L ln sg (nn w) (nn i) (nn what)) (fun g => CJ h g n' f L T ln sg k zs t b) (fun g => CJ h g n' f L T ln sg k zs t b)) (.inl (some (.int (nI 2)))) g m := fun hc g m hw hm => ⟨hm, by rw [hc], Or.inr ⟨by omega, hw⟩⟩
  generalize (PK n (cdG ln w i what) (tgI T n' f L ln sg (nn w) (nn i) (nn what)) (fun g => CJ h g n' f L T ln sg k zs t b) (fun g => CJ h g n' f L T ln sg k zs t b)) = Q at hQ0 hQ1 hQ2 ⊢
  refine ez_aload (q := 2) dL_sign_0 rfl rfl ?_
  refine ez_iconst (v := nI 0) (q := 3) dL_sign_2 (by decide) rfl ?_
  refine ez_aload_n (q := 4) 0 dL_sign_3 rfl rfl rfl ?_
  refine ez_iload_n (q := 5) 1 dL_sign_4 rfl rfl rfl ?_
  refine ez_iload_n (q := 6) 2 dL_sign_5 rfl rfl rfl ?_
  refine ez_iload_n (q := 7) 3 dL_sign_6 rfl rfl rfl ?_
  refine cPX (mc := 0) (ms := 0) (q := 10) dL_sign_7 ck_L_54 hI.1.1 (t_X7_sign (d := d) hI ho hs) rfl ⟨by decide, rfl⟩ rfl rfl rfl (Nat.le_of_ble_eq_true rfl) rfl ?_ ?_ (fun hc g hW9 => ?_)
  · intro hc g m hW9 hm9
    refine EX_catch (pre := []) (hh := (0, 12, 15, 20)) (suf := [(0, 12, 19, 13)]) (k := 5) (q := 17) rfl (fun z hz => nomatch hz) rfl (by decide) cl_L_20 cs_IO (Or.inr ⟨dL_sign_15, rfl⟩) (by decide) rfl (Or.inr ⟨_, rfl, rfl⟩) rfl ?_
    refine ez_iconst (v := nI 1) (q := 18) dL_sign_17 (by decide) rfl ?_
    exact ez_iret dL_sign_18 rfl (hQ1 hc g m hW9 hm9)
  · intro hc g m hW9 hm9
    refine EX_catch (pre := [(0, 12, 15, 20)]) (hh := (0, 12, 19, 13)) (suf := []) (k := 5) (q := 21) rfl (fun z hz => by
      rw [List.mem_singleton.mp hz]
      exact ⟨by decide, _, cl_L_20, List.mem_of_getElem? (i := 1) rfl⟩) rfl (by decide) cl_L_13 cs_IA (Or.inr ⟨dL_sign_19, rfl⟩) (by decide) rfl (Or.inr ⟨_, rfl, rfl⟩) rfl ?_
    refine ez_iconst (v := nI 2) (q := 22) dL_sign_21 (by decide) rfl ?_
    exact ez_iret dL_sign_22 rfl (hQ2 hc g m hW9 hm9)
  have hout := (hW9.2 74 (Or.inr (by decide))).trans hout
  refine ez_i2l (q := 11) dL_sign_10 rfl ?_
  refine ez_last (q := 12) dL_sign_11 (by decide) hout rfl (by decide) (by decide) rfl ?_
  refine ez_goto (q := 23) dL_sign_12 (by decide) ?_
  refine ez_iconst (v := nI 0) (q := 24) dL_sign_23 (by decide) rfl ?_
  exact ez_iret dL_sign_24 rfl (hQ0 hc _ _ hW9 rfl)

set_option maxHeartbeats 800000 in
set_option maxRecDepth 100000 in
theorem c_L_witness {G : ez_G} {d n : Nat} {h : ez_H} {n' f k t : Nat} {L T ln : Nat → Nat} {sg : Nat → Nat → Nat} {zs : Nat → AS} {b : Nat → Nat} {w u p : Int32} (hI : CJ h h n' f L T ln sg k zs t b) (ho : OK n' f L T ln sg) (hs : WFS ln sg) {o : Nat → Int64} (hout : h 74 = some (OU o)) : Con G mL_witness (d + 8) [.ref 1, .int w, .int u, .int p, .ref 74] h n 3 18 (PK n (cdY n' w u p) (wtI T n' f L ln sg (nn w) (nn u) (nn p)) (fun g => CJ h g n' f L T ln sg k zs t b) (fun g => CJ h g n' f L T ln sg k zs t b)) := by
  refine Con.ofH [some (.ref 1), some (.int w), some (.int u), some (.int p), some (.ref 74), none] pl_L rfl (Nat.le_of_ble_eq_true rfl) rfl ?_
  have hQ0 : (cdY n' w u p) = 0 → ∀ g0 o', (CJ h g0 n' f L T ln sg k zs t b) → o' 0 = ((wtI T n' f L ln sg (nn w) (nn u) (nn p)) : Int32).toInt64 → (PK n (cdY n' w u p) (wtI T n' f L ln sg (nn w) (nn u) (nn p)) (fun g => CJ h g n' f L T ln sg k zs t b) (fun g => CJ h g n' f L T ln sg k zs t b)) (.inl (some (.int (nI 0)))) (ez_up g0 74 (OU o')) n := fun hc g0 o' hw ho' => ⟨Nat.le_refl _, by rw [hc], Or.inl ⟨hc, g0, o', hw, rfl, ho'⟩⟩
  have hQ1 : (cdY n' w u p) = 1 → ∀ g m, (CJ h g n' f L T ln sg k zs t b) → n ≤ m → (PK n (cdY n' w u p) (wtI T n' f L ln sg (nn w) (nn u) (nn p)) (fun g => CJ h g n' f L T ln sg k zs t b) (fun g => CJ h g n' f L T ln sg k zs t b)) (.inl (some (.int (nI 1)))) g m := fun hc g m hw hm => ⟨hm, by rw [hc], Or.inr ⟨by omega, hw⟩⟩
  have hQ2 : (cdY n' w u p) = 2 → ∀ g m, (CJ h g n' f L T ln sg k zs t b) → n ≤ m → (PK n (cdY n' w u p) (wtI T n' f L ln sg (nn w) (nn u) (nn p)) (fun g => CJ h g n' f L T ln sg k zs t b) (fun g => CJ h g n' f L T ln sg k zs t b)) (.inl (some (.int (nI 2)))) g m := fun hc g m hw hm => ⟨hm, by rw [hc], Or.inr ⟨by omega, hw⟩⟩
  generalize (PK n (cdY n' w u p) (wtI T n' f L ln sg (nn w) (nn u) (nn p)) (fun g => CJ h g n' f L T ln sg k zs t b) (fun g => CJ h g n' f L T ln sg k zs t b)) = Q at hQ0 hQ1 hQ2 ⊢
  refine ez_aload (q := 2) dL_witness_0 rfl rfl ?_
  refine ez_iconst (v := nI 0) (q := 3) dL_witness_2 (by decide) rfl ?_
  refine ez_aload_n (q := 4) 0 dL_witness_3 rfl rfl rfl ?_
  refine ez_iload_n (q := 5) 1 dL_witness_4 rfl rfl rfl ?_
  refine ez_iload_n (q := 6) 2 dL_witness_5 rfl rfl rfl ?_
  refine ez_iload_n (q := 7) 3 dL_witness_6 rfl rfl rfl ?_
  refine cPX (mc := 0) (ms := 0) (q := 10) dL_witness_7 ck_L_58 hI.1.1 (t_X7_witness (d := d) hI ho hs) rfl ⟨by decide, rfl⟩ rfl rfl rfl (Nat.le_of_ble_eq_true rfl) rfl ?_ ?_ (fun hc g hW9 => ?_)
  · intro hc g m hW9 hm9
    refine EX_catch (pre := []) (hh := (0, 12, 15, 20)) (suf := [(0, 12, 19, 13)]) (k := 5) (q := 17) rfl (fun z hz => nomatch hz) rfl (by decide) cl_L_20 cs_IO (Or.inr ⟨dL_witness_15, rfl⟩) (by decide) rfl (Or.inr ⟨_, rfl, rfl⟩) rfl ?_
    refine ez_iconst (v := nI 1) (q := 18) dL_witness_17 (by decide) rfl ?_
    exact ez_iret dL_witness_18 rfl (hQ1 hc g m hW9 hm9)
  · intro hc g m hW9 hm9
    refine EX_catch (pre := [(0, 12, 15, 20)]) (hh := (0, 12, 19, 13)) (suf := []) (k := 5) (q := 21) rfl (fun z hz => by
      rw [List.mem_singleton.mp hz]
      exact ⟨by decide, _, cl_L_20, List.mem_of_getElem? (i := 1) rfl⟩) rfl (by decide) cl_L_13 cs_IA (Or.inr ⟨dL_witness_19, rfl⟩) (by decide) rfl (Or.inr ⟨_, rfl, rfl⟩) rfl ?_
    refine ez_iconst (v := nI 2) (q := 22) dL_witness_21 (by decide) rfl ?_
    exact ez_iret dL_witness_22 rfl (hQ2 hc g m hW9 hm9)
  have hout := (hW9.2 74 (Or.inr (by decide))).trans hout
  refine ez_i2l (q := 11) dL_witness_10 rfl ?_
  refine ez_last (q := 12) dL_witness_11 (by decide) hout rfl (by decide) (by decide) rfl ?_
  refine ez_goto (q := 23) dL_witness_12 (by decide) ?_
  refine ez_iconst (v := nI 0) (q := 24) dL_witness_23 (by decide) rfl ?_
  exact ez_iret dL_witness_24 rfl (hQ0 hc _ _ hW9 rfl)

set_option maxHeartbeats 800000 in
set_option maxRecDepth 100000 in
theorem c_L_compare {G : ez_G} {d n : Nat} {h : ez_H} {n' f k t : Nat} {L T ln : Nat → Nat} {sg : Nat → Nat → Nat} {zs : Nat → AS} {b : Nat → Nat} {w v : Int32} (hI : CJ h h n' f L T ln sg k zs t b) (ho : OK n' f L T ln sg) (hs : WFS ln sg) {o : Nat → Int64} (hout : h 74 = some (OU o)) : Con G mL_compare (d + 8) [.ref 1, .int w, .int v, .ref 74] h n 3 18 (PK n (cd2 w v) (cmI T n' f L ln sg (nn w) (nn v)) (fun g => CJ h g n' f L T ln sg k zs t b) (fun g => CJ h g n' f L T ln sg k zs t b)) := by
  refine Con.ofH [some (.ref 1), some (.int w), some (.int v), some (.ref 74), none] pl_L rfl (Nat.le_of_ble_eq_true rfl) rfl ?_
  have hQ0 : (cd2 w v) = 0 → ∀ g0 o', (CJ h g0 n' f L T ln sg k zs t b) → o' 0 = ((cmI T n' f L ln sg (nn w) (nn v)) : Int32).toInt64 → (PK n (cd2 w v) (cmI T n' f L ln sg (nn w) (nn v)) (fun g => CJ h g n' f L T ln sg k zs t b) (fun g => CJ h g n' f L T ln sg k zs t b)) (.inl (some (.int (nI 0)))) (ez_up g0 74 (OU o')) n := fun hc g0 o' hw ho' => ⟨Nat.le_refl _, by rw [hc], Or.inl ⟨hc, g0, o', hw, rfl, ho'⟩⟩
  have hQ1 : (cd2 w v) = 1 → ∀ g m, (CJ h g n' f L T ln sg k zs t b) → n ≤ m → (PK n (cd2 w v) (cmI T n' f L ln sg (nn w) (nn v)) (fun g => CJ h g n' f L T ln sg k zs t b) (fun g => CJ h g n' f L T ln sg k zs t b)) (.inl (some (.int (nI 1)))) g m := fun hc g m hw hm => ⟨hm, by rw [hc], Or.inr ⟨by omega, hw⟩⟩
  have hQ2 : (cd2 w v) = 2 → ∀ g m, (CJ h g n' f L T ln sg k zs t b) → n ≤ m → (PK n (cd2 w v) (cmI T n' f L ln sg (nn w) (nn v)) (fun g => CJ h g n' f L T ln sg k zs t b) (fun g => CJ h g n' f L T ln sg k zs t b)) (.inl (some (.int (nI 2)))) g m := fun hc g m hw hm => ⟨hm, by rw [hc], Or.inr ⟨by omega, hw⟩⟩
  generalize (PK n (cd2 w v) (cmI T n' f L ln sg (nn w) (nn v)) (fun g => CJ h g n' f L T ln sg k zs t b) (fun g => CJ h g n' f L T ln sg k zs t b)) = Q at hQ0 hQ1 hQ2 ⊢
  refine ez_aload_n (q := 1) 3 dL_compare_0 rfl rfl rfl ?_
  refine ez_iconst (v := nI 0) (q := 2) dL_compare_1 (by decide) rfl ?_
  refine ez_aload_n (q := 3) 0 dL_compare_2 rfl rfl rfl ?_
  refine ez_iload_n (q := 4) 1 dL_compare_3 rfl rfl rfl ?_
  refine ez_iload_n (q := 5) 2 dL_compare_4 rfl rfl rfl ?_
  refine cPX (mc := 0) (ms := 0) (q := 8) dL_compare_5 ck_L_61 hI.1.1 (t_X7_compare (d := d) hI ho hs) rfl ⟨by decide, rfl⟩ rfl rfl rfl (Nat.le_of_ble_eq_true rfl) rfl ?_ ?_ (fun hc g hW9 => ?_)
  · intro hc g m hW9 hm9
    refine EX_catch (pre := []) (hh := (0, 10, 13, 20)) (suf := []) (k := 4) (q := 15) rfl (fun z hz => nomatch hz) rfl (by decide) cl_L_20 cs_IO (Or.inr ⟨dL_compare_13, rfl⟩) (by decide) rfl (Or.inr ⟨_, rfl, rfl⟩) rfl ?_
    refine ez_iconst (v := nI 1) (q := 16) dL_compare_15 (by decide) rfl ?_
    exact ez_iret dL_compare_16 rfl (hQ1 hc g m hW9 hm9)
  · exact fun hc => absurd hc (by unfold cd2; split <;> decide)
  have hout := (hW9.2 74 (Or.inr (by decide))).trans hout
  refine ez_i2l (q := 9) dL_compare_8 rfl ?_
  refine ez_last (q := 10) dL_compare_9 (by decide) hout rfl (by decide) (by decide) rfl ?_
  refine ez_goto (q := 17) dL_compare_10 (by decide) ?_
  refine ez_iconst (v := nI 0) (q := 18) dL_compare_17 (by decide) rfl ?_
  exact ez_iret dL_compare_18 rfl (hQ0 hc _ _ hW9 rfl)

set_option maxHeartbeats 800000 in
set_option maxRecDepth 100000 in
theorem c_L_count {G : ez_G} {d n : Nat} {h : ez_H} {n' f k t : Nat} {L T ln : Nat → Nat} {sg : Nat → Nat → Nat} {zs : Nat → AS} {b : Nat → Nat} {what : Int32} (hI : CJ h h n' f L T ln sg k zs t b) (ho : OK n' f L T ln sg) (hs : WFS ln sg) {o : Nat → Int64} (hout : h 74 = some (OU o)) : Con G mL_count (d + 8) [.ref 1, .int what, .ref 74] h n 3 18 (PK n (cdC what) (couI T n' f L ln sg k (nn what)) (fun g => CJ h g n' f L T ln sg k zs t b) (fun g => CJ h g n' f L T ln sg k zs t b)) := by
  refine Con.ofH [some (.ref 1), some (.int what), some (.ref 74), none] pl_L rfl (Nat.le_of_ble_eq_true rfl) rfl ?_
  have hQ0 : (cdC what) = 0 → ∀ g0 o', (CJ h g0 n' f L T ln sg k zs t b) → o' 0 = ((couI T n' f L ln sg k (nn what)) : Int32).toInt64 → (PK n (cdC what) (couI T n' f L ln sg k (nn what)) (fun g => CJ h g n' f L T ln sg k zs t b) (fun g => CJ h g n' f L T ln sg k zs t b)) (.inl (some (.int (nI 0)))) (ez_up g0 74 (OU o')) n := fun hc g0 o' hw ho' => ⟨Nat.le_refl _, by rw [hc], Or.inl ⟨hc, g0, o', hw, rfl, ho'⟩⟩
  have hQ1 : (cdC what) = 1 → ∀ g m, (CJ h g n' f L T ln sg k zs t b) → n ≤ m → (PK n (cdC what) (couI T n' f L ln sg k (nn what)) (fun g => CJ h g n' f L T ln sg k zs t b) (fun g => CJ h g n' f L T ln sg k zs t b)) (.inl (some (.int (nI 1)))) g m := fun hc g m hw hm => ⟨hm, by rw [hc], Or.inr ⟨by omega, hw⟩⟩
  have hQ2 : (cdC what) = 2 → ∀ g m, (CJ h g n' f L T ln sg k zs t b) → n ≤ m → (PK n (cdC what) (couI T n' f L ln sg k (nn what)) (fun g => CJ h g n' f L T ln sg k zs t b) (fun g => CJ h g n' f L T ln sg k zs t b)) (.inl (some (.int (nI 2)))) g m := fun hc g m hw hm => ⟨hm, by rw [hc], Or.inr ⟨by omega, hw⟩⟩
  generalize (PK n (cdC what) (couI T n' f L ln sg k (nn what)) (fun g => CJ h g n' f L T ln sg k zs t b) (fun g => CJ h g n' f L T ln sg k zs t b)) = Q at hQ0 hQ1 hQ2 ⊢
  refine ez_aload_n (q := 1) 2 dL_count_0 rfl rfl rfl ?_
  refine ez_iconst (v := nI 0) (q := 2) dL_count_1 (by decide) rfl ?_
  refine ez_aload_n (q := 3) 0 dL_count_2 rfl rfl rfl ?_
  refine ez_iload_n (q := 4) 1 dL_count_3 rfl rfl rfl ?_
  refine cPX (mc := 0) (ms := 0) (q := 7) dL_count_4 ck_L_64 hI.1.1 (t_X7_count (d := d) hI ho hs) rfl ⟨by decide, rfl⟩ rfl rfl rfl (Nat.le_of_ble_eq_true rfl) rfl ?_ ?_ (fun hc g hW9 => ?_)
  · intro hc g m hW9 hm9
    refine EX_catch (pre := []) (hh := (0, 9, 12, 13)) (suf := []) (k := 3) (q := 13) rfl (fun z hz => nomatch hz) rfl (by decide) cl_L_13 cs_IA (Or.inl ⟨3, rfl, dL_count_12, rfl⟩) (by decide) rfl (Or.inr ⟨_, rfl, rfl⟩) rfl ?_
    refine ez_iconst (v := nI 1) (q := 14) dL_count_13 (by decide) rfl ?_
    exact ez_iret dL_count_14 rfl (hQ1 hc g m hW9 hm9)
  · exact fun hc => absurd hc (by unfold cdC; split <;> decide)
  have hout := (hW9.2 74 (Or.inr (by decide))).trans hout
  refine ez_i2l (q := 8) dL_count_7 rfl ?_
  refine ez_last (q := 9) dL_count_8 (by decide) hout rfl (by decide) (by decide) rfl ?_
  refine ez_goto (q := 15) dL_count_9 (by decide) ?_
  refine ez_iconst (v := nI 0) (q := 16) dL_count_15 (by decide) rfl ?_
  exact ez_iret dL_count_16 rfl (hQ0 hc _ _ hW9 rfl)

set_option maxHeartbeats 800000 in
set_option maxRecDepth 100000 in
theorem c_L_fixes {G : ez_G} {d n : Nat} {h : ez_H} {n' f k t : Nat} {L T ln : Nat → Nat} {sg : Nat → Nat → Nat} {zs : Nat → AS} {b : Nat → Nat} {w u what : Int32} (hI : CJ h h n' f L T ln sg k zs t b) (ho : OK n' f L T ln sg) (hs : WFS ln sg) {o : Nat → Int64} (hout : h 74 = some (OU o)) : Con G mL_fixes (d + 8) [.ref 1, .int w, .int u, .int what, .ref 74] h n 3 18 (PK n (cdF n' w u what) (fxI T n' f L ln sg (nn w) (nn u) (nn what)) (fun g => CJ h g n' f L T ln sg k zs t b) (fun g => CJ h g n' f L T ln sg k zs t b)) := by
  refine Con.ofH [some (.ref 1), some (.int w), some (.int u), some (.int what), some (.ref 74), none] pl_L rfl (Nat.le_of_ble_eq_true rfl) rfl ?_
  have hQ0 : (cdF n' w u what) = 0 → ∀ g0 o', (CJ h g0 n' f L T ln sg k zs t b) → o' 0 = ((fxI T n' f L ln sg (nn w) (nn u) (nn what)) : Int32).toInt64 → (PK n (cdF n' w u what) (fxI T n' f L ln sg (nn w) (nn u) (nn what)) (fun g => CJ h g n' f L T ln sg k zs t b) (fun g => CJ h g n' f L T ln sg k zs t b)) (.inl (some (.int (nI 0)))) (ez_up g0 74 (OU o')) n := fun hc g0 o' hw ho' => ⟨Nat.le_refl _, by rw [hc], Or.inl ⟨hc, g0, o', hw, rfl, ho'⟩⟩
  have hQ1 : (cdF n' w u what) = 1 → ∀ g m, (CJ h g n' f L T ln sg k zs t b) → n ≤ m → (PK n (cdF n' w u what) (fxI T n' f L ln sg (nn w) (nn u) (nn what)) (fun g => CJ h g n' f L T ln sg k zs t b) (fun g => CJ h g n' f L T ln sg k zs t b)) (.inl (some (.int (nI 1)))) g m := fun hc g m hw hm => ⟨hm, by rw [hc], Or.inr ⟨by omega, hw⟩⟩
  have hQ2 : (cdF n' w u what) = 2 → ∀ g m, (CJ h g n' f L T ln sg k zs t b) → n ≤ m → (PK n (cdF n' w u what) (fxI T n' f L ln sg (nn w) (nn u) (nn what)) (fun g => CJ h g n' f L T ln sg k zs t b) (fun g => CJ h g n' f L T ln sg k zs t b)) (.inl (some (.int (nI 2)))) g m := fun hc g m hw hm => ⟨hm, by rw [hc], Or.inr ⟨by omega, hw⟩⟩
  generalize (PK n (cdF n' w u what) (fxI T n' f L ln sg (nn w) (nn u) (nn what)) (fun g => CJ h g n' f L T ln sg k zs t b) (fun g => CJ h g n' f L T ln sg k zs t b)) = Q at hQ0 hQ1 hQ2 ⊢
  refine ez_aload (q := 2) dL_fixes_0 rfl rfl ?_
  refine ez_iconst (v := nI 0) (q := 3) dL_fixes_2 (by decide) rfl ?_
  refine ez_aload_n (q := 4) 0 dL_fixes_3 rfl rfl rfl ?_
  refine ez_iload_n (q := 5) 1 dL_fixes_4 rfl rfl rfl ?_
  refine ez_iload_n (q := 6) 2 dL_fixes_5 rfl rfl rfl ?_
  refine ez_iload_n (q := 7) 3 dL_fixes_6 rfl rfl rfl ?_
  refine cPX (mc := 0) (ms := 0) (q := 10) dL_fixes_7 ck_L_67 hI.1.1 (t_X7_fixes (d := d) hI ho hs) rfl ⟨by decide, rfl⟩ rfl rfl rfl (Nat.le_of_ble_eq_true rfl) rfl ?_ ?_ (fun hc g hW9 => ?_)
  · intro hc g m hW9 hm9
    refine EX_catch (pre := []) (hh := (0, 12, 15, 20)) (suf := [(0, 12, 19, 13)]) (k := 5) (q := 17) rfl (fun z hz => nomatch hz) rfl (by decide) cl_L_20 cs_IO (Or.inr ⟨dL_fixes_15, rfl⟩) (by decide) rfl (Or.inr ⟨_, rfl, rfl⟩) rfl ?_
    refine ez_iconst (v := nI 1) (q := 18) dL_fixes_17 (by decide) rfl ?_
    exact ez_iret dL_fixes_18 rfl (hQ1 hc g m hW9 hm9)
  · intro hc g m hW9 hm9
    refine EX_catch (pre := [(0, 12, 15, 20)]) (hh := (0, 12, 19, 13)) (suf := []) (k := 5) (q := 21) rfl (fun z hz => by
      rw [List.mem_singleton.mp hz]
      exact ⟨by decide, _, cl_L_20, List.mem_of_getElem? (i := 1) rfl⟩) rfl (by decide) cl_L_13 cs_IA (Or.inr ⟨dL_fixes_19, rfl⟩) (by decide) rfl (Or.inr ⟨_, rfl, rfl⟩) rfl ?_
    refine ez_iconst (v := nI 2) (q := 22) dL_fixes_21 (by decide) rfl ?_
    exact ez_iret dL_fixes_22 rfl (hQ2 hc g m hW9 hm9)
  have hout := (hW9.2 74 (Or.inr (by decide))).trans hout
  refine ez_i2l (q := 11) dL_fixes_10 rfl ?_
  refine ez_last (q := 12) dL_fixes_11 (by decide) hout rfl (by decide) (by decide) rfl ?_
  refine ez_goto (q := 23) dL_fixes_12 (by decide) ?_
  refine ez_iconst (v := nI 0) (q := 24) dL_fixes_23 (by decide) rfl ?_
  exact ez_iret dL_fixes_24 rfl (hQ0 hc _ _ hW9 rfl)

set_option maxHeartbeats 800000 in
set_option maxRecDepth 100000 in
theorem c_L_ifFair {G : ez_G} {d n : Nat} {h : ez_H} {n' f k t : Nat} {L T ln : Nat → Nat} {sg : Nat → Nat → Nat} {zs : Nat → AS} {b : Nat → Nat} {w u : Int32} (hI : CJ h h n' f L T ln sg k zs t b) (ho : OK n' f L T ln sg) (hs : WFS ln sg) {o : Nat → Int64} (hout : h 74 = some (OU o)) : Con G mL_ifFair (d + 8) [.ref 1, .int w, .int u, .ref 74] h n 3 18 (PK n (cdL w u) (bfI T n' L ln sg (nn w) (lf u)) (fun g => CJ h g n' f L T ln sg k zs t b) (fun g => CJ h g n' f L T ln sg k zs t b)) := by
  refine Con.ofH [some (.ref 1), some (.int w), some (.int u), some (.ref 74), none] pl_L rfl (Nat.le_of_ble_eq_true rfl) rfl ?_
  have hQ0 : (cdL w u) = 0 → ∀ g0 o', (CJ h g0 n' f L T ln sg k zs t b) → o' 0 = ((bfI T n' L ln sg (nn w) (lf u)) : Int32).toInt64 → (PK n (cdL w u) (bfI T n' L ln sg (nn w) (lf u)) (fun g => CJ h g n' f L T ln sg k zs t b) (fun g => CJ h g n' f L T ln sg k zs t b)) (.inl (some (.int (nI 0)))) (ez_up g0 74 (OU o')) n := fun hc g0 o' hw ho' => ⟨Nat.le_refl _, by rw [hc], Or.inl ⟨hc, g0, o', hw, rfl, ho'⟩⟩
  have hQ1 : (cdL w u) = 1 → ∀ g m, (CJ h g n' f L T ln sg k zs t b) → n ≤ m → (PK n (cdL w u) (bfI T n' L ln sg (nn w) (lf u)) (fun g => CJ h g n' f L T ln sg k zs t b) (fun g => CJ h g n' f L T ln sg k zs t b)) (.inl (some (.int (nI 1)))) g m := fun hc g m hw hm => ⟨hm, by rw [hc], Or.inr ⟨by omega, hw⟩⟩
  have hQ2 : (cdL w u) = 2 → ∀ g m, (CJ h g n' f L T ln sg k zs t b) → n ≤ m → (PK n (cdL w u) (bfI T n' L ln sg (nn w) (lf u)) (fun g => CJ h g n' f L T ln sg k zs t b) (fun g => CJ h g n' f L T ln sg k zs t b)) (.inl (some (.int (nI 2)))) g m := fun hc g m hw hm => ⟨hm, by rw [hc], Or.inr ⟨by omega, hw⟩⟩
  generalize (PK n (cdL w u) (bfI T n' L ln sg (nn w) (lf u)) (fun g => CJ h g n' f L T ln sg k zs t b) (fun g => CJ h g n' f L T ln sg k zs t b)) = Q at hQ0 hQ1 hQ2 ⊢
  refine ez_aload_n (q := 1) 3 dL_ifFair_0 rfl rfl rfl ?_
  refine ez_iconst (v := nI 0) (q := 2) dL_ifFair_1 (by decide) rfl ?_
  refine ez_aload_n (q := 3) 0 dL_ifFair_2 rfl rfl rfl ?_
  refine ez_iload_n (q := 4) 1 dL_ifFair_3 rfl rfl rfl ?_
  refine ez_iload_n (q := 5) 2 dL_ifFair_4 rfl rfl rfl ?_
  refine cPX (mc := 0) (ms := 0) (q := 8) dL_ifFair_5 ck_L_70 hI.1.1 (t_X7_ifFair (d := d) hI ho hs) rfl ⟨by decide, rfl⟩ rfl rfl rfl (Nat.le_of_ble_eq_true rfl) rfl ?_ ?_ (fun hc g hW9 => ?_)
  · intro hc g m hW9 hm9
    refine EX_catch (pre := []) (hh := (0, 10, 13, 20)) (suf := [(0, 10, 17, 13)]) (k := 4) (q := 15) rfl (fun z hz => nomatch hz) rfl (by decide) cl_L_20 cs_IO (Or.inr ⟨dL_ifFair_13, rfl⟩) (by decide) rfl (Or.inr ⟨_, rfl, rfl⟩) rfl ?_
    refine ez_iconst (v := nI 1) (q := 16) dL_ifFair_15 (by decide) rfl ?_
    exact ez_iret dL_ifFair_16 rfl (hQ1 hc g m hW9 hm9)
  · intro hc g m hW9 hm9
    refine EX_catch (pre := [(0, 10, 13, 20)]) (hh := (0, 10, 17, 13)) (suf := []) (k := 4) (q := 19) rfl (fun z hz => by
      rw [List.mem_singleton.mp hz]
      exact ⟨by decide, _, cl_L_20, List.mem_of_getElem? (i := 1) rfl⟩) rfl (by decide) cl_L_13 cs_IA (Or.inr ⟨dL_ifFair_17, rfl⟩) (by decide) rfl (Or.inr ⟨_, rfl, rfl⟩) rfl ?_
    refine ez_iconst (v := nI 2) (q := 20) dL_ifFair_19 (by decide) rfl ?_
    exact ez_iret dL_ifFair_20 rfl (hQ2 hc g m hW9 hm9)
  have hout := (hW9.2 74 (Or.inr (by decide))).trans hout
  refine ez_i2l (q := 9) dL_ifFair_8 rfl ?_
  refine ez_last (q := 10) dL_ifFair_9 (by decide) hout rfl (by decide) (by decide) rfl ?_
  refine ez_goto (q := 21) dL_ifFair_10 (by decide) ?_
  refine ez_iconst (v := nI 0) (q := 22) dL_ifFair_21 (by decide) rfl ?_
  exact ez_iret dL_ifFair_22 rfl (hQ0 hc _ _ hW9 rfl)
