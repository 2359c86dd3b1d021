set_option maxHeartbeats 800000 in
set_option maxRecDepth 100000 in
theorem t_X8_layComing {G : ez_G} {d n : Nat} {h : ez_H} {n' f : Nat} {L T ln : Nat → Nat} {sg : Nat → Nat → Nat} {w y s : Nat} {l : List Nat} {th sm ty rd wa fm ff : Int32} {z sv bf se ro le de rw sp : Nat → Int32} {ww : Bool} {ha : Int64} (hM : IM h h th z sv sm bf ty rd se ro le de wa ww rw (nI l.length) sp fm ff ha) (hz : ZZ z n' f L T ln sg) (ho : OK n' f L T ln sg) (hw : w < n') (hs : s < 2 ^ n') (hdw : dsN T n' y s 10 w ≤ 10) (hrw : RW rw l) (hl : l.length ≤ 1) : Con G mX8_layComing (d + 2) [.ref 64, .int (nI w), .int (nI y), .int (nI s)] h n 0 0 (PW n none (fun g => ∃ (rw1 sp1 : Nat → Int32), IM h g th z sv sm bf ty rd se ro le de wa ww rw1 (nI (l ++ waysN T n' y s w).length) sp1 fm ff ha ∧ RW rw1 (l ++ waysN T n' y s w))) := by
  have hn := ho.1
  have hn0 := hz.1
  refine Con.of [some (.ref 64), some (.int (nI w)), some (.int (nI y)), some (.int (nI s)), none] pl_X8 rfl (Nat.le_of_ble_eq_true rfl) rfl ?_
  have hQ : ∀ g (rw1 sp1 : Nat → Int32), IM h g th z sv sm bf ty rd se ro le de wa ww rw1 (nI (l ++ waysN T n' y s w).length) sp1 fm ff ha → RW rw1 (l ++ waysN T n' y s w) → (PW n none (fun g => ∃ (rw1 sp1 : Nat → Int32), IM h g th z sv sm bf ty rd se ro le de wa ww rw1 (nI (l ++ waysN T n' y s w).length) sp1 fm ff ha ∧ RW rw1 (l ++ waysN T n' y s w))) (.inl none) g n := fun g rw1 sp1 h1 h2 => ⟨rfl, ⟨rw1, sp1, h1, h2⟩, rfl⟩
  generalize PW n none (fun g => ∃ (rw1 sp1 : Nat → Int32), IM h g th z sv sm bf ty rd se ro le de wa ww rw1 (nI (l ++ waysN T n' y s w).length) sp1 fm ff ha ∧ RW rw1 (l ++ waysN T n' y s w)) = Q at hQ ⊢
  refine ez_aload_n (q := 1) 0 dX8_layComing_0 rfl rfl rfl ?_
  refine ez_iload_n (q := 2) 2 dX8_layComing_1 rfl rfl rfl ?_
  refine ez_iload_n (q := 3) 3 dX8_layComing_2 rfl rfl rfl ?_
  refine cX0 (q := 6) dX8_layComing_3 ck_X8_165 hM.1 (t_X8_layFar hM.rb hz ho hs) rfl ⟨by decide, rfl⟩ rfl rfl rfl (Nat.le_of_ble_eq_true rfl) rfl (fun g hW => ?_)
  obtain ⟨sp', hM2, hsp⟩ := hW
  have hM := hM.tr hM2
  refine ez_iload_n (q := 7) 1 dX8_layComing_6 rfl rfl rfl ?_
  refine ez_istore_4 (q := 9) dX8_layComing_7 (by decide) rfl rfl ?_
  refine ez_aload_n (q := 10) 0 dX8_layComing_9 rfl rfl rfl ?_
  refine ez_iload (q := 12) dX8_layComing_10 rfl rfl ?_
  refine cM0 (q := 15) dX8_layComing_12 ck_X8_168 hM (t_X8_goesTo hM.rb (by omega)) rfl rfl rfl rfl rfl (Nat.le_of_ble_eq_true rfl) rfl (fun g hM => ?_)
  refine ez_loop (α := Nat × Nat) (fun z99 => match z99 with | (k, u) => k) (P := fun z99 => match z99 with | (k, u) => ∀ (g : ez_H) (rw2 : Nat → Int32) (l2 : List Nat), IM h g th z sv sm bf ty rd se ro le de wa ww rw2 (nI l2.length) sp' fm ff ha → ((dsN T n' y s 10) u = k) → (k ≤ 10) → (u < n') → (RW rw2 l2) → (l2 ++ wyN (nxN T n' (2 ^ n' - 1) (dsN T n' y s 10)) k u = (l ++ waysN T n' y s w)) → (l2.length + k ≤ 100) → E G mX8_layComing (d + 2) Q g n 0 0 15 [some (.ref 64), some (.int (nI w)), some (.int (nI y)), some (.int (nI s)), some (.int (nI u))] []) ?_ ((dsN T n' y s 10) w, w) g _ (l ++ [w]) hM rfl hdw hw (hrw.put w) (by rw [waysN, List.append_assoc]; rfl) (by simp; omega)
  rintro ⟨k, u⟩ ih15
  dsimp only at ih15 ⊢
  obtain ⟨μ15, hμ15⟩ : ∃ y99, y99 = k := ⟨_, rfl⟩
  rw [← hμ15] at ih15
  have ih15 : ∀ (k : Nat) (u : Nat), k < μ15 → ∀ (g : ez_H) (rw2 : Nat → Int32) (l2 : List Nat), IM h g th z sv sm bf ty rd se ro le de wa ww rw2 (nI l2.length) sp' fm ff ha → ((dsN T n' y s 10) u = k) → (k ≤ 10) → (u < n') → (RW rw2 l2) → (l2 ++ wyN (nxN T n' (2 ^ n' - 1) (dsN T n' y s 10)) k u = (l ++ waysN T n' y s w)) → (l2.length + k ≤ 100) → E G mX8_layComing (d + 2) Q g n 0 0 15 [some (.ref 64), some (.int (nI w)), some (.int (nI y)), some (.int (nI s)), some (.int (nI u))] [] := fun k u => ih15 (k, u)
  intro g rw2 l2 hM hdu hk hu hrw ht hlen
  refine ez_aload_n (q := 16) 0 dX8_layComing_15 rfl rfl rfl ?_
  refine ez_getf (q := 19) dX8_layComing_16 fl_X8_34 hM.1 rfl rfl ?_
  refine ez_iload (q := 21) dX8_layComing_19 rfl rfl ?_
  refine ez_iald (q := 22) dX8_layComing_21 hM.2.2.2.2.2.2.2.2.2.1 rfl (by omega) (by decide) rfl ?_
  refine ez_top ((hsp u hu).trans (congrArg nI hdu)) ?_
  refine ez_ifleN (q := 25) (tgt := 46) dX8_layComing_22 (by decide) (by omega) rfl (fun hc22 => ?_) (fun hc22 => ?_)
  · have hk0 := hc22
    exact ez_vret dX8_layComing_46 rfl (by subst hk0; rw [wyN, List.append_nil] at ht; rw [ht] at hM hrw; exact hQ _ _ _ hM hrw)
  · obtain ⟨k, rfl⟩ : ∃ m, k = m + 1 := ⟨k - 1, by omega⟩
    obtain ⟨b, b1, b2, b3, b4, b5, b6⟩ := nx_dn (u := 2 ^ n' - 1) hs (fun j m hj _ => (all_bit (ho.2.2.2.1 u hu) hj).2) hk hdu
    refine ez_aload_n (q := 26) 0 dX8_layComing_25 rfl rfl rfl ?_
    refine ez_iload (q := 28) dX8_layComing_26 rfl rfl ?_
    refine ez_aload_n (q := 29) 0 dX8_layComing_28 rfl rfl rfl ?_
    refine cMv (q := 32) dX8_layComing_29 ck_X8_79 hM (t_X8_all hM.rb hz ho) rfl rfl rfl rfl rfl (Nat.le_of_ble_eq_true rfl) rfl (fun g hM => ?_)
    refine cMv (q := 35) dX8_layComing_32 ck_X8_171 hM (t_X8_nextOf hM.rb hz ho hu (al_lt n') hsp (fun i _ => ds_99 i)) rfl rfl rfl rfl rfl (Nat.le_of_ble_eq_true rfl) rfl (fun g hM => ?_)
    refine ez_top (show bsI _ = nI b by rw [b1]; rfl) ?_
    refine ez_istore_4 (q := 37) dX8_layComing_35 (by decide) rfl rfl ?_
    refine ez_aload_n (q := 38) 0 dX8_layComing_37 rfl rfl rfl ?_
    refine ez_iload (q := 40) dX8_layComing_38 rfl rfl ?_
    refine cM0 (q := 43) dX8_layComing_40 ck_X8_168 hM (t_X8_goesTo hM.rb (by omega)) rfl rfl rfl rfl rfl (Nat.le_of_ble_eq_true rfl) rfl (fun g hM => ?_)
    refine ez_goto (q := 15) dX8_layComing_43 (by decide) ?_
    exact E.fg (ih15 k b (by omega) g _ (l2 ++ [b]) hM b6 (by omega) b3 (hrw.put b) (by rw [← ht, wyN, b2, List.append_assoc]; rfl) (by simp; omega)) ⟨Or.inr (rfl), Or.inr (rfl), Or.inr (rfl), Or.inr (rfl), Or.inr (rfl), trivial⟩

