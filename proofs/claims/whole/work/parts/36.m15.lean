set_option maxHeartbeats 800000 in
set_option maxRecDepth 100000 in
theorem t_X8_layComing {G : ez_G} {d n : Nat} {h : ez_H} {n' f : Nat} {L T ln : Nat → Nat} {sg : Nat → Nat → Nat} {w y s : Nat} {l : List Nat} {th sm ty rd wa fm ff : Int32} {z sv bf se ro le de rw sp : Nat → Int32} {ww : Bool} {ha : Int64} (hM : IM h h th z sv sm bf ty rd se ro le de wa ww rw (nI l.length) sp fm ff ha) (hz : ZZ z n' f L T ln sg) (ho : OK n' f L T ln sg) (hw : w < n') (hs : s < 2 ^ n') (hdw : dsN T n' y s 10 w ≤ 10) (hrw : RW rw l) (hl : l.length ≤ 1) : Con G mX8_layComing (d + 2) [.ref 64, .int (nI w), .int (nI y), .int (nI s)] h n 0 0 (PW n none (fun g => ∃ (rw1 sp1 : Nat → Int32), IM h g th z sv sm bf ty rd se ro le de wa ww rw1 (nI (l ++ waysN T n' y s w).length) sp1 fm ff ha ∧ RW rw1 (l ++ waysN T n' y s w))) := by
  have hn := ho.1
  have hn0 := hz.1
  refine Con.of [some (.ref 64), some (.int (nI w)), some (.int (nI y)), some (.int (nI s)), none] pl_X8 rfl (Nat.le_of_ble_eq_true rfl) rfl ?_
  have hQ : ∀ g (rw1 sp1 : Nat → Int32), IM h g th z sv sm bf ty rd se ro le de wa ww rw1 (nI (l ++ waysN T n' y s w).length) sp1 fm ff ha → RW rw1 (l ++ waysN T n' y s w) → (PW n none (fun g => ∃ (rw1 sp1 : Nat → Int32), IM h g th z sv sm bf ty rd se ro le de wa ww rw1 (nI (l ++ waysN T n' y s w).length) sp1 fm ff ha ∧ RW rw1 (l ++ waysN T n' y s w))) (.inl none) g n := fun g rw1 sp1 h1 h2 => ⟨rfl, ⟨rw1, sp1, h1, h2⟩, rfl⟩
  generalize PW n none (fun g => ∃ (rw1 sp1 : Nat → Int32), IM h g th z sv sm bf ty rd se ro le de wa ww rw1 (nI (l ++ waysN T n' y s w).length) sp1 fm ff ha ∧ RW rw1 (l ++ waysN T n' y s w)) = Q at hQ ⊢
  refine ez_aload_n (q := 1) 0 dX8_layComing_0 rfl rfl rfl ?_
  refine ez_iload_n (q := 2) 2 dX8_layComing_1 rfl rfl rfl ?_
  refine ez_iload_n (q := 3) 3 dX8_layComing_2 rfl rfl rfl ?_
  refine cX0 (q := 6) dX8_layComing_3 ck_X8_165 hM.1 (t_X8_layFar hM.rb hz ho hs) rfl ⟨by decide, rfl⟩ rfl rfl rfl (Nat.le_of_ble_eq_true rfl) rfl (fun g hW => ?_)
  obtain ⟨sp', hM2, hsp⟩ := hW
  have hM := hM.tr hM2
  refine ez_iload_n (q := 7) 1 dX8_layComing_6 rfl rfl rfl ?_
  refine ez_istore_4 (q := 9) dX8_layComing_7 (by decide) rfl rfl ?_
  refine ez_aload_n (q := 10) 0 dX8_layComing_9 rfl rfl rfl ?_
  refine ez_iload (q := 12) dX8_layComing_10 rfl rfl ?_
  refine cM0 (q := 15) dX8_layComing_12 ck_X8_168 hM (t_X8_goesTo hM.rb (by omega)) rfl rfl rfl rfl rfl (Nat.le_of_ble_eq_true rfl) rfl (fun g hM => ?_)
  refine ez_loop (α := Nat × Nat) (fun z99 => match z99 with | (k, u) => k) (P := fun z99 => match z99 with | (k, u) => ∀ (g : ez_H) (rw2 : Nat → Int32) (l2 : List Nat), IM h g th z sv sm bf ty rd se ro le de wa ww rw2 (nI l2.length) sp' fm ff ha → ((dsN T n' y s 10) u = k) → (k ≤ 10) → (u < n') → (RW rw2 l2) → (l2 ++ wyN (nxN T n' (2 ^ n' - 1) (dsN T n' y s 10)) k u = (l ++ waysN T n' y s w)) → (l2.length + k ≤ 100) → E G mX8_layComing (d + 2) Q g n 0 0 15 [some (.ref 64), some (.int (nI w)), some (.int (nI y)), some (.int (nI s)), some (.int (nI u))] []) ?_ ((dsN T n' y s 10) w, w) g _ (l ++ [w]) hM rfl hdw hw (hrw.put w) (by rw [waysN, List.append_assoc]; rfl) (by simp; omega)
  rintro ⟨k, u⟩ ih15
  dsimp only at ih15 ⊢
  obtain ⟨μ15, hμ15⟩ : ∃ y99, y99 = k := ⟨_, rfl⟩
  rw [← hμ15] at ih15
  have ih15 : ∀ (k : Nat) (u : Nat), k < μ15 → ∀ (g : ez_H) (rw2 : Nat → Int32) (l2 : List Nat), IM h g th z sv sm bf ty rd se ro le de wa ww rw2 (nI l2.length) sp' fm ff ha → ((dsN T n' y s 10) u = k) → (k ≤ 10) → (u < n') → (RW rw2 l2) → (l2 ++ wyN (nxN T n' (2 ^ n' - 1) (dsN T n' y s 10)) k u = (l ++ waysN T n' y s w)) → (l2.length + k ≤ 100) → E G mX8_layComing (d + 2) Q g n 0 0 15 [some (.ref 64), some (.int (nI w)), some (.int (nI y)), some (.int (nI s)), some (.int (nI u))] [] := fun k u => ih15 (k, u)
  intro g rw2 l2 hM hdu hk hu hrw ht hlen
  refine ez_aload_n (q := 16) 0 dX8_layComing_15 rfl rfl rfl ?_
  refine ez_getf (q := 19) dX8_layComing_16 fl_X8_34 hM.1 rfl rfl ?_
  refine ez_iload (q := 21) dX8_layComing_19 rfl rfl ?_
  refine ez_iald (q := 22) dX8_layComing_21 hM.2.2.2.2.2.2.2.2.2.1 rfl (by omega) (by decide) rfl ?_
  refine ez_top ((hsp u hu).trans (congrArg nI hdu)) ?_
  refine ez_ifleN (q := 25) (tgt := 46) dX8_layComing_22 (by decide) (by omega) rfl (fun hc22 => ?_) (fun hc22 => ?_)
  · have hk0 := hc22
    exact ez_vret dX8_layComing_46 rfl (by subst hk0; rw [wyN, List.append_nil] at ht; rw [ht] at hM hrw; exact hQ _ _ _ hM hrw)
  · obtain ⟨k, rfl⟩ : ∃ m, k = m + 1 := ⟨k - 1, by omega⟩
    obtain ⟨b, b1, b2, b3, b4, b5, b6⟩ := nx_dn (u := 2 ^ n' - 1) hs (fun j m hj _ => (all_bit (ho.2.2.2.1 u hu) hj).2) hk hdu
    refine ez_aload_n (q := 26) 0 dX8_layComing_25 rfl rfl rfl ?_
    refine ez_iload (q := 28) dX8_layComing_26 rfl rfl ?_
    refine ez_aload_n (q := 29) 0 dX8_layComing_28 rfl rfl rfl ?_
    refine cMv (q := 32) dX8_layComing_29 ck_X8_79 hM (t_X8_all hM.rb hz ho) rfl rfl rfl rfl rfl (Nat.le_of_ble_eq_true rfl) rfl (fun g hM => ?_)
    refine cMv (q := 35) dX8_layComing_32 ck_X8_171 hM (t_X8_nextOf hM.rb hz ho hu (al_lt n') hsp (fun i _ => ds_99 i)) rfl rfl rfl rfl rfl (Nat.le_of_ble_eq_true rfl) rfl (fun g hM => ?_)
    refine ez_top (show bsI _ = nI b by rw [b1]; rfl) ?_
    refine ez_istore_4 (q := 37) dX8_layComing_35 (by decide) rfl rfl ?_
    refine ez_aload_n (q := 38) 0 dX8_layComing_37 rfl rfl rfl ?_
    refine ez_iload (q := 40) dX8_layComing_38 rfl rfl ?_
    refine cM0 (q := 43) dX8_layComing_40 ck_X8_168 hM (t_X8_goesTo hM.rb (by omega)) rfl rfl rfl rfl rfl (Nat.le_of_ble_eq_true rfl) rfl (fun g hM => ?_)
    refine ez_goto (q := 15) dX8_layComing_43 (by decide) ?_
    exact E.fg (ih15 k b (by omega) g _ (l2 ++ [b]) hM b6 (by omega) b3 (hrw.put b) (by rw [← ht, wyN, b2, List.append_assoc]; rfl) (by simp; omega)) ⟨Or.inr (rfl), Or.inr (rfl), Or.inr (rfl), Or.inr (rfl), Or.inr (rfl), trivial⟩

set_option maxHeartbeats 800000 in
set_option maxRecDepth 100000 in
theorem t_X8_layNext {G : ez_G} {d n : Nat} {h : ez_H} {n' f : Nat} {L T ln : Nat → Nat} {sg : Nat → Nat → Nat} {w s : Nat} {l : List Nat} {r : Nat} {th sm ty wa fm ff : Int32} {z sv bf se ro le de rw sp : Nat → Int32} {ww : Bool} {ha : Int64} (hM : IM h h th z sv sm bf ty (nI r) se ro le de wa ww rw (nI l.length) sp fm ff ha) (hz : ZZ z n' f L T ln sg) (ho : OK n' f L T ln sg) (hw : w < n') (hex : ∃ j, j < 10 ∧ (T w &&& lvN T n' f L &&& s).testBit j = true) (hrw : RW rw l) (hl : l.length ≤ 1) : Con G mX8_layNext (d + 5) [.ref 64, .int (nI w), .int (nI s)] h n 0 0 (PW n none (fun g => ∃ (rw1 sp1 : Nat → Int32) (r1 : Nat), IM h g th z sv sm bf ty (nI r1) se ro le de wa ww rw1 (nI (l ++ [w, loN (T w &&& lvN T n' f L &&& s) 0 10]).length) sp1 fm ff ha ∧ RW rw1 (l ++ [w, loN (T w &&& lvN T n' f L &&& s) 0 10]))) := by
  have hn := ho.1
  have hn0 := hz.1
  have hLn : (T w &&& lvN T n' f L &&& s) < 2 ^ n' := and_lt (and_lt (ho.2.2.2.1 w hw))
  refine Con.of [some (.ref 64), some (.int (nI w)), some (.int (nI s)), none, none] pl_X8 rfl (Nat.le_of_ble_eq_true rfl) rfl ?_
  have hQ : ∀ g (rw1 sp1 : Nat → Int32) (r1 : Nat), IM h g th z sv sm bf ty (nI r1) se ro le de wa ww rw1 (nI (l ++ [w, loN (T w &&& lvN T n' f L &&& s) 0 10]).length) sp1 fm ff ha → RW rw1 (l ++ [w, loN (T w &&& lvN T n' f L &&& s) 0 10]) → (PW n none (fun g => ∃ (rw1 sp1 : Nat → Int32) (r1 : Nat), IM h g th z sv sm bf ty (nI r1) se ro le de wa ww rw1 (nI (l ++ [w, loN (T w &&& lvN T n' f L &&& s) 0 10]).length) sp1 fm ff ha ∧ RW rw1 (l ++ [w, loN (T w &&& lvN T n' f L &&& s) 0 10]))) (.inl none) g n := fun g rw1 sp1 r1 h1 h2 => ⟨rfl, ⟨rw1, sp1, r1, h1, h2⟩, rfl⟩
  generalize PW n none (fun g => ∃ (rw1 sp1 : Nat → Int32) (r1 : Nat), IM h g th z sv sm bf ty (nI r1) se ro le de wa ww rw1 (nI (l ++ [w, loN (T w &&& lvN T n' f L &&& s) 0 10]).length) sp1 fm ff ha ∧ RW rw1 (l ++ [w, loN (T w &&& lvN T n' f L &&& s) 0 10])) = Q at hQ ⊢
  refine ez_aload_n (q := 1) 0 dX8_layNext_0 rfl rfl rfl ?_
  refine ez_getf (q := 4) dX8_layNext_1 fl_X8_7 hM.1 rfl rfl ?_
  refine ez_bipush (v := nI 12) (q := 6) dX8_layNext_4 (by decide) rfl ?_
  refine ez_iload_n (q := 7) 1 dX8_layNext_6 rfl rfl rfl ?_
  refine ez_iaddN (q := 8) dX8_layNext_7 rfl ?_
  refine ez_iald (q := 9) dX8_layNext_8 hM.2.1 rfl (by omega) (by decide) rfl ?_
  refine ez_top (hz.2.2.2.1 w hw) ?_
  refine ez_aload_n (q := 10) 0 dX8_layNext_9 rfl rfl rfl ?_
  refine cMv (q := 13) dX8_layNext_10 ck_X8_85 hM (t_X8_live hM.rb hz ho) rfl rfl rfl rfl rfl (Nat.le_of_ble_eq_true rfl) rfl (fun g hM => ?_)
  refine ez_iandN (q := 14) dX8_layNext_13 rfl ?_
  refine ez_iload_n (q := 15) 2 dX8_layNext_14 rfl rfl rfl ?_
  refine ez_iandN (q := 16) dX8_layNext_15 rfl ?_
  refine ez_istore_3 (q := 17) dX8_layNext_16 rfl (by decide) rfl rfl ?_
  refine ez_iconst (v := nI 0) (q := 18) dX8_layNext_17 (by decide) rfl ?_
  refine ez_istore_4 (q := 20) dX8_layNext_18 (by decide) rfl rfl ?_
  refine ez_loop (α := Nat) (fun b => 10 - b) (P := fun b => (∃ j, b ≤ j ∧ j < 10 ∧ (T w &&& lvN T n' f L &&& s).testBit j = true) → (loN (T w &&& lvN T n' f L &&& s) b (10 - b) = loN (T w &&& lvN T n' f L &&& s) 0 10) → E G mX8_layNext (d + 5) Q g n 0 0 20 [some (.ref 64), some (.int (nI w)), some (.int (nI s)), some (.int (nI (T w &&& lvN T n' f L &&& s))), some (.int (nI b))] []) ?_ 0 (by obtain ⟨j, h1, h2⟩ := hex; exact ⟨j, Nat.zero_le j, h1, h2⟩) rfl
  intro b ih20 hj hlo
  obtain ⟨j, hj1, hj2, hj3⟩ := hj
  obtain ⟨v, hv⟩ : ∃ v, 10 - b = v + 1 := ⟨9 - b, by omega⟩
  rw [hv] at hlo
  refine ez_iload_n (q := 21) 3 dX8_layNext_20 rfl rfl rfl ?_
  refine ez_iload (q := 23) dX8_layNext_21 rfl rfl ?_
  refine ez_ishrN (q := 24) dX8_layNext_23 (lt31 hLn hn) (by omega) rfl ?_
  refine ez_iconst (v := nI 1) (q := 25) dX8_layNext_24 (by decide) rfl ?_
  refine ez_iandN (q := 26) dX8_layNext_25 rfl ?_
  refine ez_ifneN (q := 29) (tgt := 35) dX8_layNext_26 (by decide) (Nat.lt_of_le_of_lt Nat.and_le_right (by decide)) rfl (fun hc26 => ?_) (fun hc26 => ?_)
  · have hb1 : loN (T w &&& lvN T n' f L &&& s) 0 10 = b := by rw [← hlo, lo_t]; have := b01 (T w &&& lvN T n' f L &&& s) b; omega
    rw [hb1] at hQ
    refine ez_aload_n (q := 36) 0 dX8_layNext_35 rfl rfl rfl ?_
    refine ez_iload_n (q := 37) 1 dX8_layNext_36 rfl rfl rfl ?_
    refine cM0 (q := 40) dX8_layNext_37 ck_X8_168 hM (t_X8_goesTo hM.rb (by omega)) rfl rfl rfl rfl rfl (Nat.le_of_ble_eq_true rfl) rfl (fun g hM => ?_)
    have hrw := hrw.put w
    refine ez_aload_n (q := 41) 0 dX8_layNext_40 rfl rfl rfl ?_
    refine ez_iload (q := 43) dX8_layNext_41 rfl rfl ?_
    refine cM0 (q := 46) dX8_layNext_43 ck_X8_168 hM (t_X8_goesTo hM.rb (by simp; omega)) rfl rfl rfl rfl rfl (Nat.le_of_ble_eq_true rfl) rfl (fun g hM => ?_)
    have hrw := hrw.put b
    exact ez_vret dX8_layNext_46 rfl (by rw [List.append_assoc] at hM hrw; exact hQ _ _ _ _ hM hrw)
  · refine ez_iincN_4 (q := 32) dX8_layNext_29 (by decide) rfl rfl ?_
    refine ez_goto (q := 20) dX8_layNext_32 (by decide) ?_
    exact E.fg (ih20 (b + 1) (by omega) ⟨j, by by_cases e : j = b; { exfalso; rw [e, ← tb_1] at hj3; omega }; { omega }, hj2, hj3⟩ (by rw [lo_f (by omega)] at hlo; rw [show 10 - (b + 1) = v by omega]; exact hlo)) ⟨Or.inr (rfl), Or.inr (rfl), Or.inr (rfl), Or.inr (rfl), Or.inr (rfl), trivial⟩

set_option maxHeartbeats 800000 in
set_option maxRecDepth 100000 in
theorem t_X8_layStaying {G : ez_G} {d n : Nat} {h : ez_H} {n' f : Nat} {L T ln : Nat → Nat} {sg : Nat → Nat → Nat} {w y : Nat} {l : List Nat} {th sm ty rd wa fm ff : Int32} {z sv bf se ro le de rw sp : Nat → Int32} {ww : Bool} {ha : Int64} (hM : IM h h th z sv sm bf ty rd se ro le de wa ww rw (nI l.length) sp fm ff ha) (hz : ZZ z n' f L T ln sg) (ho : OK n' f L T ln sg) (hw : w < n') (hy : STY T n' y (goN n' f L y)) (hwy : y.testBit w = true) (hrw : RW rw l) (hl : l.length ≤ 1) : Con G mX8_layStaying (d + 2) [.ref 64, .int (nI w), .int (nI y)] h n 0 0 (PW n none (fun g => ∃ (rw1 sp1 : Nat → Int32), IM h g th z sv sm bf ty rd se ro le de wa ww rw1 (nI (l ++ staysL T n' y (goN n' f L y) w).length) sp1 fm ff ha ∧ RW rw1 (l ++ staysL T n' y (goN n' f L y) w))) := by
  have hn := ho.1
  have hn0 := hz.1
  refine Con.of [some (.ref 64), some (.int (nI w)), some (.int (nI y)), none, none, none, none] pl_X8 rfl (Nat.le_of_ble_eq_true rfl) rfl ?_
  have hQ : ∀ g (rw1 sp1 : Nat → Int32), IM h g th z sv sm bf ty rd se ro le de wa ww rw1 (nI (l ++ staysL T n' y (goN n' f L y) w).length) sp1 fm ff ha → RW rw1 (l ++ staysL T n' y (goN n' f L y) w) → (PW n none (fun g => ∃ (rw1 sp1 : Nat → Int32), IM h g th z sv sm bf ty rd se ro le de wa ww rw1 (nI (l ++ staysL T n' y (goN n' f L y) w).length) sp1 fm ff ha ∧ RW rw1 (l ++ staysL T n' y (goN n' f L y) w))) (.inl none) g n := fun g rw1 sp1 h1 h2 => ⟨rfl, ⟨rw1, sp1, h1, h2⟩, rfl⟩
  generalize PW n none (fun g => ∃ (rw1 sp1 : Nat → Int32), IM h g th z sv sm bf ty rd se ro le de wa ww rw1 (nI (l ++ staysL T n' y (goN n' f L y) w).length) sp1 fm ff ha ∧ RW rw1 (l ++ staysL T n' y (goN n' f L y) w)) = Q at hQ ⊢
  refine ez_aload_n (q := 1) 0 dX8_layStaying_0 rfl rfl rfl ?_
  refine ez_iload_n (q := 2) 2 dX8_layStaying_1 rfl rfl rfl ?_
  refine cMv (q := 5) dX8_layStaying_2 ck_X8_70 hM (t_X8_goals hM.rb hz ho) rfl rfl rfl rfl rfl (Nat.le_of_ble_eq_true rfl) rfl (fun g hM => ?_)
  refine ez_istore_3 (q := 6) dX8_layStaying_5 rfl (by decide) rfl rfl ?_
  refine ez_iconst (v := nI 0) (q := 7) dX8_layStaying_6 (by decide) rfl ?_
  refine ez_istore_4 (q := 9) dX8_layStaying_7 (by decide) rfl rfl ?_
  refine ez_iload_n (q := 10) 1 dX8_layStaying_9 rfl rfl rfl ?_
  refine ez_istore_5 (q := 12) dX8_layStaying_10 (by decide) rfl rfl ?_
  refine ez_iconst (v := nI 1) (q := 13) dX8_layStaying_12 (by decide) rfl ?_
  refine ez_top (show nI 1 = bI true from rfl) ?_
  refine ez_istore_6 (q := 15) dX8_layStaying_13 (by decide) rfl rfl ?_
  refine ez_aload_n (q := 16) 0 dX8_layStaying_15 rfl rfl rfl ?_
  refine ez_iload_n (q := 17) 2 dX8_layStaying_16 rfl rfl rfl ?_
  refine ez_iload_n (q := 18) 3 dX8_layStaying_17 rfl rfl rfl ?_
  refine cX0 (q := 21) dX8_layStaying_18 ck_X8_165 hM.1 (t_X8_layFar hM.rb hz ho hy.2.1) rfl ⟨by decide, rfl⟩ rfl rfl rfl (Nat.le_of_ble_eq_true rfl) rfl (fun g hW => ?_)
  obtain ⟨sp', hM2, hsp⟩ := hW
  have hM := hM.tr hM2
  refine ez_aload_n (q := 22) 0 dX8_layStaying_21 rfl rfl rfl ?_
  refine ez_iload (q := 24) dX8_layStaying_22 rfl rfl ?_
  refine cM0 (q := 27) dX8_layStaying_24 ck_X8_168 hM (t_X8_goesTo hM.rb (by omega)) rfl rfl rfl rfl rfl (Nat.le_of_ble_eq_true rfl) rfl (fun g hM => ?_)
  refine ez_loop (α := Nat × Nat × Nat × Bool) (fun z99 => match z99 with | (m, u, mt, fl) => (if fl = true then m * 200 + (dsN T n' y (goN n' f L y) 10) ((nxN T n' y (dsN T n' y (goN n' f L y) 10)) u) + 1 else 0)) (P := fun z99 => match z99 with | (m, u, mt, fl) => ∀ (g : ez_H) (rw2 : Nat → Int32) (l2 : List Nat), IM h g th z sv sm bf ty rd se ro le de wa ww rw2 (nI l2.length) sp' fm ff ha → (y.testBit u = true) → (mt < 2 ^ n') → (fl = true → n' ≤ m + ctN mt n') → (RW rw2 l2) → (l2 ++ (if fl = true then rdL (nxN T n' y (dsN T n' y (goN n' f L y) 10)) (dsN T n' y (goN n' f L y) 10) (m + 1) u mt else []) = (l ++ staysL T n' y (goN n' f L y) w)) → (m ≤ 10) → E G mX8_layStaying (d + 2) Q g n 0 0 27 [some (.ref 64), some (.int (nI w)), some (.int (nI y)), some (.int (nI (goN n' f L y))), some (.int (nI mt)), some (.int (nI u)), some (.int (bI fl))] []) ?_ (10, w, 0, true) g _ (l ++ [w]) hM hwy (Nat.two_pow_pos n') (fun _ => by omega) (hrw.put w) (by rw [staysL, List.append_assoc]; rfl) (Nat.le_refl 10)
  rintro ⟨m, u, mt, fl⟩ ih27
  dsimp only at ih27 ⊢
  obtain ⟨μ27, hμ27⟩ : ∃ y99, y99 = (if fl = true then m * 200 + (dsN T n' y (goN n' f L y) 10) ((nxN T n' y (dsN T n' y (goN n' f L y) 10)) u) + 1 else 0) := ⟨_, rfl⟩
  rw [← hμ27] at ih27
  have ih27 : ∀ (m : Nat) (u : Nat) (mt : Nat) (fl : Bool), (if fl = true then m * 200 + (dsN T n' y (goN n' f L y) 10) ((nxN T n' y (dsN T n' y (goN n' f L y) 10)) u) + 1 else 0) < μ27 → ∀ (g : ez_H) (rw2 : Nat → Int32) (l2 : List Nat), IM h g th z sv sm bf ty rd se ro le de wa ww rw2 (nI l2.length) sp' fm ff ha → (y.testBit u = true) → (mt < 2 ^ n') → (fl = true → n' ≤ m + ctN mt n') → (RW rw2 l2) → (l2 ++ (if fl = true then rdL (nxN T n' y (dsN T n' y (goN n' f L y) 10)) (dsN T n' y (goN n' f L y) 10) (m + 1) u mt else []) = (l ++ staysL T n' y (goN n' f L y) w)) → (m ≤ 10) → E G mX8_layStaying (d + 2) Q g n 0 0 27 [some (.ref 64), some (.int (nI w)), some (.int (nI y)), some (.int (nI (goN n' f L y))), some (.int (nI mt)), some (.int (nI u)), some (.int (bI fl))] [] := fun m u mt fl => ih27 (m, u, mt, fl)
  intro g rw2 l2 hM hu hmt hct hrw ht hm10
  refine ez_iload (q := 29) dX8_layStaying_27 rfl rfl ?_
  refine ez_ifeqB (q := 32) (tgt := 86) dX8_layStaying_29 (by decide) rfl (fun hc29 => ?_) (fun hc29 => ?_)
  · have hc29 : fl = false := hc29
    exact ez_vret dX8_layStaying_86 rfl (by rw [if_neg (by rw [hc29]; decide), List.append_nil] at ht; rw [ht] at hM hrw; exact hQ _ _ _ hM hrw)
  · subst hc29
    obtain ⟨b, b1, b2, b3, b4, b5⟩ := sty_nx hy hu
    have hun := (all_bit hy.1 hu).1
    have hlen := sty_len hy (m + 1) u mt hu
    have hlt : l2.length ≤ 1 + (1 + 110) := by have h3 := congrArg List.length ht; rw [List.length_append, List.length_append, staysL, List.length_cons] at h3; have h4 := sty_len hy 11 w 0 hwy; omega
    refine ez_aload_n (q := 33) 0 dX8_layStaying_32 rfl rfl rfl ?_
    refine ez_iload (q := 35) dX8_layStaying_33 rfl rfl ?_
    refine ez_iload_n (q := 36) 2 dX8_layStaying_35 rfl rfl rfl ?_
    refine cMv (q := 39) dX8_layStaying_36 ck_X8_171 hM (t_X8_nextOf hM.rb hz ho hun hy.1 hsp (fun i _ => ds_99 i)) rfl rfl rfl rfl rfl (Nat.le_of_ble_eq_true rfl) rfl (fun g hM => ?_)
    refine ez_top (show bsI _ = nI b by rw [b1]; rfl) ?_
    refine ez_istore_5 (q := 41) dX8_layStaying_39 (by decide) rfl rfl ?_
    refine ez_aload_n (q := 42) 0 dX8_layStaying_41 rfl rfl rfl ?_
    refine ez_iload (q := 44) dX8_layStaying_42 rfl rfl ?_
    refine cM0 (q := 47) dX8_layStaying_44 ck_X8_168 hM (t_X8_goesTo hM.rb (by omega)) rfl rfl rfl rfl rfl (Nat.le_of_ble_eq_true rfl) rfl (fun g hM => ?_)
    refine ez_iload_n (q := 48) 3 dX8_layStaying_47 rfl rfl rfl ?_
    refine ez_iload (q := 50) dX8_layStaying_48 rfl rfl ?_
    refine ez_ishrN (q := 51) dX8_layStaying_50 (lt31 hy.2.1 hn) (by omega) rfl ?_
    refine ez_iconst (v := nI 1) (q := 52) dX8_layStaying_51 (by decide) rfl ?_
    refine ez_iandN (q := 53) dX8_layStaying_52 rfl ?_
    refine ez_iconst (v := nI 1) (q := 54) dX8_layStaying_53 (by decide) rfl ?_
    refine ez_icmpneN (q := 57) (tgt := 27) dX8_layStaying_54 (by decide) (Nat.lt_of_le_of_lt Nat.and_le_right (by decide)) (by decide) rfl (fun hc54 => ?_) (fun hc54 => ?_)
    · obtain ⟨k, hk⟩ : ∃ k, (dsN T n' y (goN n' f L y) 10) b = k + 1 := by cases hh : (dsN T n' y (goN n' f L y) 10) b with | zero => exact absurd ((tb_1 _ _).mpr ((ds_iff (k := 0) (by decide)).mp (Nat.le_of_eq hh))) hc54 | succ k => exact ⟨k, rfl⟩
      have hdn : (dsN T n' y (goN n' f L y) 10) ((nxN T n' y (dsN T n' y (goN n' f L y) 10)) b) = k := sty_dn hy (by omega) hk
      first
      | exact E.fg (ih27 m b mt true (by rw [if_pos rfl, hμ27, if_pos rfl, b2, hdn]; omega) g _ (l2 ++ [b]) hM b4 hmt (fun _ => hct rfl) (hrw.put b) (by rw [← ht, if_pos rfl, if_pos rfl, rd_more b2 hk hdn, List.append_assoc]; rfl) hm10) ⟨Or.inr (rfl), Or.inr (rfl), Or.inr (rfl), Or.inr (rfl), Or.inr (rfl), Or.inr (rfl), Or.inr (rfl), trivial⟩
      | exact E.fg (ih27 (m - 1) b (mt ||| 2 ^ b) true (by rw [if_pos rfl, hμ27, if_pos rfl]; have := hfin.1; have h9 := ds_99 (T := T) (n := n') (y := y) (g := (goN n' f L y)) ((nxN T n' y (dsN T n' y (goN n' f L y) 10)) b); omega) g _ (l2 ++ [b]) hM b4 hfin.2.2 (fun _ => hfin.2.1) (hrw.put b) (by rw [← ht, if_pos rfl, if_pos rfl, rd_goal b2 hk0, if_neg (by omega), List.append_assoc, Nat.sub_add_cancel hfin.1]) (by omega)) ⟨Or.inr (rfl), Or.inr (rfl), Or.inr (rfl), Or.inr (rfl), Or.inr (rfl), Or.inr (rfl), Or.inr (rfl), trivial⟩
      | exact E.fg (ih27 0 b (mt ||| 2 ^ b) false (by rw [if_neg (by decide), hμ27, if_pos rfl]; omega) g _ (l2 ++ [b]) hM b4 (or_lt hmt (Nat.pow_lt_pow_right (by decide) b3)) (fun a => nomatch a) (hrw.put b) (by rw [← ht, if_pos rfl, if_neg (by decide), rd_goal b2 hk0, if_pos hone, List.append_nil, List.append_nil]) (by omega)) ⟨Or.inr (rfl), Or.inr (rfl), Or.inr (rfl), Or.inr (rfl), Or.inr (rfl), Or.inr (rfl), Or.inr (rfl), trivial⟩
    · have hk0 : (dsN T n' y (goN n' f L y) 10) b = 0 := Nat.le_zero.mp ((ds_iff (k := 0) (by decide)).mpr ((tb_1 _ _).mp hc54))
      refine ez_iload (q := 59) dX8_layStaying_57 rfl rfl ?_
      refine ez_iload (q := 61) dX8_layStaying_59 rfl rfl ?_
      refine ez_ishrN (q := 62) dX8_layStaying_61 (lt31 hmt hn) (by omega) rfl ?_
      refine ez_iconst (v := nI 1) (q := 63) dX8_layStaying_62 (by decide) rfl ?_
      refine ez_iandN (q := 64) dX8_layStaying_63 rfl ?_
      refine ez_ifneN (q := 67) (tgt := 71) dX8_layStaying_64 (by decide) (Nat.lt_of_le_of_lt Nat.and_le_right (by decide)) rfl (fun hc64 => ?_) (fun hc64 => ?_)
      · have hone : (mt >>> b) &&& 1 = 1 := by have := b01 mt b; omega
        refine ez_iconst (v := nI 0) (q := 72) dX8_layStaying_71 (by decide) rfl ?_
        refine ez_top (show nI 0 = bI false from rfl) ?_
        refine ez_istore_6 (q := 74) dX8_layStaying_72 (by decide) rfl rfl ?_
        refine ez_iload (q := 76) dX8_layStaying_74 rfl rfl ?_
        refine ez_iconst (v := nI 1) (q := 77) dX8_layStaying_76 (by decide) rfl ?_
        refine ez_iload (q := 79) dX8_layStaying_77 rfl rfl ?_
        refine ez_shl1 (q := 80) dX8_layStaying_79 (by omega) rfl ?_
        refine ez_iorN (q := 81) dX8_layStaying_80 rfl ?_
        refine ez_istore_4 (q := 83) dX8_layStaying_81 (by decide) rfl rfl ?_
        refine ez_goto (q := 27) dX8_layStaying_83 (by decide) ?_
        first
        | exact E.fg (ih27 m b mt true (by rw [if_pos rfl, hμ27, if_pos rfl, b2, hdn]; omega) g _ (l2 ++ [b]) hM b4 hmt (fun _ => hct rfl) (hrw.put b) (by rw [← ht, if_pos rfl, if_pos rfl, rd_more b2 hk hdn, List.append_assoc]; rfl) hm10) ⟨Or.inr (rfl), Or.inr (rfl), Or.inr (rfl), Or.inr (rfl), Or.inr (rfl), Or.inr (rfl), Or.inr (rfl), trivial⟩
        | exact E.fg (ih27 (m - 1) b (mt ||| 2 ^ b) true (by rw [if_pos rfl, hμ27, if_pos rfl]; have := hfin.1; have h9 := ds_99 (T := T) (n := n') (y := y) (g := (goN n' f L y)) ((nxN T n' y (dsN T n' y (goN n' f L y) 10)) b); omega) g _ (l2 ++ [b]) hM b4 hfin.2.2 (fun _ => hfin.2.1) (hrw.put b) (by rw [← ht, if_pos rfl, if_pos rfl, rd_goal b2 hk0, if_neg (by omega), List.append_assoc, Nat.sub_add_cancel hfin.1]) (by omega)) ⟨Or.inr (rfl), Or.inr (rfl), Or.inr (rfl), Or.inr (rfl), Or.inr (rfl), Or.inr (rfl), Or.inr (rfl), trivial⟩
        | exact E.fg (ih27 0 b (mt ||| 2 ^ b) false (by rw [if_neg (by decide), hμ27, if_pos rfl]; omega) g _ (l2 ++ [b]) hM b4 (or_lt hmt (Nat.pow_lt_pow_right (by decide) b3)) (fun a => nomatch a) (hrw.put b) (by rw [← ht, if_pos rfl, if_neg (by decide), rd_goal b2 hk0, if_pos hone, List.append_nil, List.append_nil]) (by omega)) ⟨Or.inr (rfl), Or.inr (rfl), Or.inr (rfl), Or.inr (rfl), Or.inr (rfl), Or.inr (rfl), Or.inr (rfl), trivial⟩
      · have hfin := rd_fin (T := T) (y := y) (g := 0) (w := 0) hn b3 (hct rfl) hc64 hmt
        refine ez_iconst (v := nI 1) (q := 68) dX8_layStaying_67 (by decide) rfl ?_
        refine ez_top (show nI 1 = bI true from rfl) ?_
        refine ez_goto (q := 72) dX8_layStaying_68 (by decide) ?_
        refine ez_istore_6 (q := 74) dX8_layStaying_72 (by decide) rfl rfl ?_
        refine ez_iload (q := 76) dX8_layStaying_74 rfl rfl ?_
        refine ez_iconst (v := nI 1) (q := 77) dX8_layStaying_76 (by decide) rfl ?_
        refine ez_iload (q := 79) dX8_layStaying_77 rfl rfl ?_
        refine ez_shl1 (q := 80) dX8_layStaying_79 (by omega) rfl ?_
        refine ez_iorN (q := 81) dX8_layStaying_80 rfl ?_
        refine ez_istore_4 (q := 83) dX8_layStaying_81 (by decide) rfl rfl ?_
        refine ez_goto (q := 27) dX8_layStaying_83 (by decide) ?_
        first
        | exact E.fg (ih27 m b mt true (by rw [if_pos rfl, hμ27, if_pos rfl, b2, hdn]; omega) g _ (l2 ++ [b]) hM b4 hmt (fun _ => hct rfl) (hrw.put b) (by rw [← ht, if_pos rfl, if_pos rfl, rd_more b2 hk hdn, List.append_assoc]; rfl) hm10) ⟨Or.inr (rfl), Or.inr (rfl), Or.inr (rfl), Or.inr (rfl), Or.inr (rfl), Or.inr (rfl), Or.inr (rfl), trivial⟩
        | exact E.fg (ih27 (m - 1) b (mt ||| 2 ^ b) true (by rw [if_pos rfl, hμ27, if_pos rfl]; have := hfin.1; have h9 := ds_99 (T := T) (n := n') (y := y) (g := (goN n' f L y)) ((nxN T n' y (dsN T n' y (goN n' f L y) 10)) b); omega) g _ (l2 ++ [b]) hM b4 hfin.2.2 (fun _ => hfin.2.1) (hrw.put b) (by rw [← ht, if_pos rfl, if_pos rfl, rd_goal b2 hk0, if_neg (by omega), List.append_assoc, Nat.sub_add_cancel hfin.1]) (by omega)) ⟨Or.inr (rfl), Or.inr (rfl), Or.inr (rfl), Or.inr (rfl), Or.inr (rfl), Or.inr (rfl), Or.inr (rfl), trivial⟩
        | exact E.fg (ih27 0 b (mt ||| 2 ^ b) false (by rw [if_neg (by decide), hμ27, if_pos rfl]; omega) g _ (l2 ++ [b]) hM b4 (or_lt hmt (Nat.pow_lt_pow_right (by decide) b3)) (fun a => nomatch a) (hrw.put b) (by rw [← ht, if_pos rfl, if_neg (by decide), rd_goal b2 hk0, if_pos hone, List.append_nil, List.append_nil]) (by omega)) ⟨Or.inr (rfl), Or.inr (rfl), Or.inr (rfl), Or.inr (rfl), Or.inr (rfl), Or.inr (rfl), Or.inr (rfl), trivial⟩

