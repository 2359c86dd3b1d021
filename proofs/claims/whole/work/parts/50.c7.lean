def WW (h0 h : ez_H) (al : Int32) (li : Int32) (ro : Int32) (go : Int32) (wl : Int32) (rw : Nat → Int32) (la : Nat → Int32) : Prop := h 47 = some (.inr (0, [.ref 2, .int al, .int li, .int ro, .int go])) ∧ h 48 = some (.inr (6, [.ref 41, .ref 47, .ref 49, .int wl, .ref 50])) ∧ h 49 = some (.inl (0, 111, .inl rw)) ∧ h 50 = some (.inl (0, 11, .inl la)) ∧ ∀ j : Nat, (j < 47 ∨ 51 ≤ j) → h j = h0 j
theorem WW.rb {h0 h : ez_H} {al li ro go wl : Int32} {rw la : Nat → Int32} (hM : WW  h0 h al li ro go wl rw la) : WW  h h al li ro go wl rw la := ⟨hM.1, hM.2.1, hM.2.2.1, hM.2.2.2.1, fun _ _ => rfl⟩
theorem WW.tr {h0 h g : ez_H} {al li ro go wl : Int32} {rw la : Nat → Int32} {al' : Int32} {li' : Int32} {ro' : Int32} {go' : Int32} {wl' : Int32} {rw' : Nat → Int32} {la' : Nat → Int32} (hM : WW  h0 h al li ro go wl rw la) (hN : WW  h g al' li' ro' go' wl' rw' la') : WW  h0 g al' li' ro' go' wl' rw' la' := ⟨hN.1, hN.2.1, hN.2.2.1, hN.2.2.2.1, fun j hj => (hN.2.2.2.2 j hj).trans (hM.2.2.2.2 j hj)⟩
theorem WW.fr {h0 h : ez_H} {al li ro go wl : Int32} {rw la : Nat → Int32} (hM : WW  h0 h al li ro go wl rw la) : ∀ j : Nat, (j < 47 ∨ 51 ≤ j) → h j = h0 j := hM.2.2.2.2
theorem pWW_al {G : ez_G} {M : ez_M} {d : Nat} {Q : ez_Q} {h0 h : ez_H} {n mc ms pc q idx : Nat} {ls : List (Option Value)} {st9 : List Value} {al li ro go wl : Int32} {rw la : Nat → Int32} {x : Int32} (hd : decode M.2.1 pc = .ok (.putfield idx, 3)) (hf : ez_fl M.1.cls idx 0 1) (hM : WW  h0 h al li ro go wl rw la) (hq : pc + 3 = q) (K : ∀ g, WW  h0 g x li ro go wl rw la → E G M d Q g n mc ms q ls st9) : E G M d Q h n mc ms pc ls (.int x :: .ref 47 :: st9) := ez_put0 hd hf rfl (fun _ => rfl) (fun _ => rfl) (by decide) hM.1 (by show 1 < 5; decide) hq (K _ ⟨zu_same, zu_keep (by omega) hM.2.1, zu_keep (by omega) hM.2.2.1, zu_keep (by omega) hM.2.2.2.1, fun j hj => zu_fr (by omega) (hM.2.2.2.2 j hj)⟩)
theorem pWW_li {G : ez_G} {M : ez_M} {d : Nat} {Q : ez_Q} {h0 h : ez_H} {n mc ms pc q idx : Nat} {ls : List (Option Value)} {st9 : List Value} {al li ro go wl : Int32} {rw la : Nat → Int32} {x : Int32} (hd : decode M.2.1 pc = .ok (.putfield idx, 3)) (hf : ez_fl M.1.cls idx 0 2) (hM : WW  h0 h al li ro go wl rw la) (hq : pc + 3 = q) (K : ∀ g, WW  h0 g al x ro go wl rw la → E G M d Q g n mc ms q ls st9) : E G M d Q h n mc ms pc ls (.int x :: .ref 47 :: st9) := ez_put0 hd hf rfl (fun _ => rfl) (fun _ => rfl) (by decide) hM.1 (by show 2 < 5; decide) hq (K _ ⟨zu_same, zu_keep (by omega) hM.2.1, zu_keep (by omega) hM.2.2.1, zu_keep (by omega) hM.2.2.2.1, fun j hj => zu_fr (by omega) (hM.2.2.2.2 j hj)⟩)
theorem pWW_ro {G : ez_G} {M : ez_M} {d : Nat} {Q : ez_Q} {h0 h : ez_H} {n mc ms pc q idx : Nat} {ls : List (Option Value)} {st9 : List Value} {al li ro go wl : Int32} {rw la : Nat → Int32} {x : Int32} (hd : decode M.2.1 pc = .ok (.putfield idx, 3)) (hf : ez_fl M.1.cls idx 0 3) (hM : WW  h0 h al li ro go wl rw la) (hq : pc + 3 = q) (K : ∀ g, WW  h0 g al li x go wl rw la → E G M d Q g n mc ms q ls st9) : E G M d Q h n mc ms pc ls (.int x :: .ref 47 :: st9) := ez_put0 hd hf rfl (fun _ => rfl) (fun _ => rfl) (by decide) hM.1 (by show 3 < 5; decide) hq (K _ ⟨zu_same, zu_keep (by omega) hM.2.1, zu_keep (by omega) hM.2.2.1, zu_keep (by omega) hM.2.2.2.1, fun j hj => zu_fr (by omega) (hM.2.2.2.2 j hj)⟩)
theorem pWW_go {G : ez_G} {M : ez_M} {d : Nat} {Q : ez_Q} {h0 h : ez_H} {n mc ms pc q idx : Nat} {ls : List (Option Value)} {st9 : List Value} {al li ro go wl : Int32} {rw la : Nat → Int32} {x : Int32} (hd : decode M.2.1 pc = .ok (.putfield idx, 3)) (hf : ez_fl M.1.cls idx 0 4) (hM : WW  h0 h al li ro go wl rw la) (hq : pc + 3 = q) (K : ∀ g, WW  h0 g al li ro x wl rw la → E G M d Q g n mc ms q ls st9) : E G M d Q h n mc ms pc ls (.int x :: .ref 47 :: st9) := ez_put0 hd hf rfl (fun _ => rfl) (fun _ => rfl) (by decide) hM.1 (by show 4 < 5; decide) hq (K _ ⟨zu_same, zu_keep (by omega) hM.2.1, zu_keep (by omega) hM.2.2.1, zu_keep (by omega) hM.2.2.2.1, fun j hj => zu_fr (by omega) (hM.2.2.2.2 j hj)⟩)
theorem pWW_wl {G : ez_G} {M : ez_M} {d : Nat} {Q : ez_Q} {h0 h : ez_H} {n mc ms pc q idx : Nat} {ls : List (Option Value)} {st9 : List Value} {al li ro go wl : Int32} {rw la : Nat → Int32} {x : Int32} (hd : decode M.2.1 pc = .ok (.putfield idx, 3)) (hf : ez_fl M.1.cls idx 6 3) (hM : WW  h0 h al li ro go wl rw la) (hq : pc + 3 = q) (K : ∀ g, WW  h0 g al li ro go x rw la → E G M d Q g n mc ms q ls st9) : E G M d Q h n mc ms pc ls (.int x :: .ref 48 :: st9) := ez_put0 hd hf rfl (fun _ => rfl) (fun _ => rfl) (by decide) hM.2.1 (by show 3 < 5; decide) hq (K _ ⟨zu_keep (by omega) hM.1, zu_same, zu_keep (by omega) hM.2.2.1, zu_keep (by omega) hM.2.2.2.1, fun j hj => zu_fr (by omega) (hM.2.2.2.2 j hj)⟩)
theorem sWW_rw {G : ez_G} {M : ez_M} {d : Nat} {Q : ez_Q} {h0 h : ez_H} {n mc ms pc q : Nat} {ls : List (Option Value)} {st9 : List Value} {al li ro go wl : Int32} {rw la : Nat → Int32} {j : Nat} {i x : Int32} (hd : decode M.2.1 pc = .ok (.iastore, 1)) (hM : WW  h0 h al li ro go wl rw la) (hi : i = nI j) (hj : j < 111) (hq : pc + 1 = q) (K : ∀ g, WW  h0 g al li ro go wl (upd rw j x) la → E G M d Q g n mc ms q ls st9) : E G M d Q h n mc ms pc ls (.int x :: .int i :: .ref 49 :: st9) := ez_iast hd (by decide) hM.2.2.1 hi hj (by decide) hq (K _ ⟨zu_keep (by omega) hM.1, zu_keep (by omega) hM.2.1, zu_same, zu_keep (by omega) hM.2.2.2.1, fun j hj => zu_fr (by omega) (hM.2.2.2.2 j hj)⟩)
theorem sWW_la {G : ez_G} {M : ez_M} {d : Nat} {Q : ez_Q} {h0 h : ez_H} {n mc ms pc q : Nat} {ls : List (Option Value)} {st9 : List Value} {al li ro go wl : Int32} {rw la : Nat → Int32} {j : Nat} {i x : Int32} (hd : decode M.2.1 pc = .ok (.iastore, 1)) (hM : WW  h0 h al li ro go wl rw la) (hi : i = nI j) (hj : j < 11) (hq : pc + 1 = q) (K : ∀ g, WW  h0 g al li ro go wl rw (upd la j x) → E G M d Q g n mc ms q ls st9) : E G M d Q h n mc ms pc ls (.int x :: .int i :: .ref 50 :: st9) := ez_iast hd (by decide) hM.2.2.2.1 hi hj (by decide) hq (K _ ⟨zu_keep (by omega) hM.1, zu_keep (by omega) hM.2.1, zu_keep (by omega) hM.2.2.1, zu_same, fun j hj => zu_fr (by omega) (hM.2.2.2.2 j hj)⟩)
theorem WW.fw {h0 h : ez_H} {al li ro go wl : Int32} {rw la : Nat → Int32} (hM : WW  h0 h al li ro go wl rw la) : FW 47 2 h h al li ro go := ⟨by decide, hM.1, fun _ _ => rfl⟩
theorem WW.set_fw {h0 h g : ez_H} {al li ro go wl : Int32} {rw la : Nat → Int32} {al' li' ro' go' : Int32} (hM : WW  h0 h al li ro go wl rw la) (hN : FW 47 2 h g al' li' ro' go') : WW  h0 g al' li' ro' go' wl rw la := ⟨hN.2.1, (hN.fr 48 (by omega)).trans hM.2.1, (hN.fr 49 (by omega)).trans hM.2.2.1, (hN.fr 50 (by omega)).trans hM.2.2.2.1, fun j hj => (hN.fr j (by omega)).trans (hM.fr j hj)⟩
theorem lo_ok {s : Nat} : ∀ f i, (∃ j, i ≤ j ∧ j < i + f ∧ s.testBit j = true) → s.testBit (loN s i f) = true ∧ (∀ j, i ≤ j → s.testBit j = true → loN s i f ≤ j) := by
  intro f
  induction f with
  | zero => intro i ⟨j, h1, h2, h3⟩; omega
  | succ f ih =>
    intro i ⟨j, h1, h2, h3⟩
    by_cases hc : (s >>> i) &&& 1 = 1
    · rw [lo_t hc]; exact ⟨(tb_1 _ _).mp hc, fun j hj _ => hj⟩
    · rw [lo_f hc]
      have hi : ¬ s.testBit i = true := fun a => hc ((tb_1 _ _).mpr a)
      obtain ⟨q1, q2⟩ := ih (i + 1) ⟨j, by by_cases e : j = i; { rw [e] at h3; exact absurd h3 hi }; { omega }, by omega, h3⟩
      exact ⟨q1, fun j hj hb => q2 j (by by_cases e : j = i; { rw [e] at hb; exact absurd hb hi }; { omega }) hb⟩
section
variable {T : Nat → Nat} {n y g u w : Nat}
/-- the best next world lies in the nearest layer, as its lowest -/
theorem nx_near (hn : n ≤ 10) (hg : g < 2 ^ n) (hu : ∀ j m, (T w).testBit j = true → (laN T n y g m).testBit j = true → u.testBit j = true) {j k : Nat} (hk : k ≤ 10) (h1 : (T w).testBit j = true) (h2 : (laN T n y g k).testBit j = true) :
    nxN T n u (dsN T n y g 10) w < n ∧ dsN T n y g 10 (nxN T n u (dsN T n y g 10) w) ≤ k ∧ (T w).testBit (nxN T n u (dsN T n y g 10) w) = true ∧ (∀ m, m < dsN T n y g 10 (nxN T n u (dsN T n y g 10) w) → T w &&& laN T n y g m = 0) ∧ ¬ T w &&& laN T n y g (dsN T n y g 10 (nxN T n u (dsN T n y g 10) w)) = 0 ∧ loN (T w &&& laN T n y g (dsN T n y g 10 (nxN T n u (dsN T n y g 10) w))) 0 10 = nxN T n u (dsN T n y g 10) w := by
  have hjn : ∀ i m, (laN T n y g m).testBit i = true → i < n := fun i m hi => (all_bit (la_lt hg m) hi).1
  obtain ⟨b, b1, b2, b3, b4, b5, b6⟩ := nx_ok (u := u) hk (hjn j k h2) h1 (hu j k h1 h2) h2
  rw [b2]
  have hin : (laN T n y g (dsN T n y g 10 b)).testBit b = true := (ds_iff (by omega)).mp (Nat.le_refl _)
  have hmin : ∀ i m, m ≤ 10 → (T w).testBit i = true → (laN T n y g m).testBit i = true → dsN T n y g 10 b ≤ m ∧ (dsN T n y g 10 b = m → b ≤ i) := by
    intro i m hm hi1 hi2
    have hd := (ds_iff (T := T) (n := n) (y := y) (g := g) (i := i) hm).mpr hi2
    obtain ⟨c, hc, hc2⟩ := bs_best (s := T w) (u := u) (d := dsN T n y g 10) n i (hjn i m hi2) ((tb_1 _ _).mpr hi1) ((tb_1 _ _).mpr (hu i m hi1 hi2)) (by omega)
    rw [b1] at hc
    have hcb : b = c := Option.some.inj hc
    subst hcb
    omega
  have hbb : (T w &&& laN T n y g (dsN T n y g 10 b)).testBit b = true := by rw [Nat.testBit_and, b4, hin]; rfl
  have hex : ∀ x, x ≠ 0 → ∃ i, x.testBit i = true := fun x hx => Classical.byContradiction (fun hno => hx (Nat.eq_of_testBit_eq (fun i => by
    rw [Nat.zero_testBit]
    cases hb : x.testBit i with
    | false => rfl
    | true => exact absurd ⟨i, hb⟩ hno)))
  refine ⟨b3, b6, b4, fun m hm => ?_, fun e => ?_, ?_⟩
  · refine Classical.byContradiction (fun hno => ?_)
    obtain ⟨i, hi⟩ := hex _ hno
    rw [Nat.testBit_and, Bool.and_eq_true] at hi
    have := (hmin i m (by omega) hi.1 hi.2).1
    omega
  · rw [e, Nat.zero_testBit] at hbb; cases hbb
  · obtain ⟨q1, q2⟩ := lo_ok (s := T w &&& laN T n y g (dsN T n y g 10 b)) 10 0 ⟨b, Nat.zero_le b, by omega, hbb⟩
    have h3 := q2 b (Nat.zero_le b) hbb
    rw [Nat.testBit_and, Bool.and_eq_true] at q1
    have h4 := (hmin _ _ (by omega) q1.1 q1.2).2 rfl
    omega
end
set_option maxHeartbeats 800000 in
set_option maxRecDepth 100000 in
theorem t_X6_has {G : ez_G} {d n : Nat} {h : ez_H} {s w : Nat} (hs : s < 2 ^ 31) (hw : w < 32) : Con G mX6_has (d) [.int (nI s), .int (nI w)] h n 0 0 (PU h n (some (.int (bI (decide ((s >>> w) &&& 1 = 1)))))) := by
  refine Con.of [some (.int (nI s)), some (.int (nI w))] pl_X6 rfl (Nat.le_of_ble_eq_true rfl) rfl ?_
  have hQ : (PU h n (some (.int (bI (decide ((s >>> w) &&& 1 = 1)))))) (.inl (some (.int (bI (decide ((s >>> w) &&& 1 = 1)))))) h n := ⟨rfl, rfl, rfl⟩
  generalize PU h n (some (.int (bI (decide ((s >>> w) &&& 1 = 1))))) = Q at hQ ⊢
  refine ez_iload_n (q := 1) 1 dX6_has_0 rfl rfl rfl ?_
  refine ez_ifltN (q := 4) (tgt := 17) dX6_has_1 (by decide) (by omega) rfl ?_
  refine ez_iload_n (q := 5) 0 dX6_has_4 rfl rfl rfl ?_
  refine ez_iload_n (q := 6) 1 dX6_has_5 rfl rfl rfl ?_
  refine ez_ishrN (q := 7) dX6_has_6 hs hw rfl ?_
  refine ez_iconst (v := nI 1) (q := 8) dX6_has_7 (by decide) rfl ?_
  refine ez_iandN (q := 9) dX6_has_8 rfl ?_
  refine ez_iconst (v := nI 1) (q := 10) dX6_has_9 (by decide) rfl ?_
  refine ez_icmpneN (q := 13) (tgt := 17) dX6_has_10 (by decide) (Nat.lt_of_le_of_lt Nat.and_le_right (by decide)) (by decide) rfl (fun hc10 => ?_) (fun hc10 => ?_)
  · refine ez_iconst (v := nI 0) (q := 18) dX6_has_17 (by decide) rfl ?_
    refine ez_top (show nI 0 = bI (decide ((s >>> w) &&& 1 = 1)) from bI_df hc10) ?_
    exact ez_zretB dX6_has_18 rfl (hQ)
  · refine ez_iconst (v := nI 1) (q := 14) dX6_has_13 (by decide) rfl ?_
    refine ez_top (show nI 1 = bI (decide ((s >>> w) &&& 1 = 1)) from bI_dt hc10) ?_
    refine ez_goto (q := 18) dX6_has_14 (by decide) ?_
    exact ez_zretB dX6_has_18 rfl (hQ)

set_option maxHeartbeats 800000 in
set_option maxRecDepth 100000 in
theorem t_X6_lowest {G : ez_G} {d n : Nat} {h : ez_H} {s : Nat} (hs : s < 2 ^ 31) (hex : ∃ j, j < 10 ∧ s.testBit j = true) : Con G mX6_lowest (d + 1) [.int (nI s)] h n 0 0 (PU h n (some (.int (nI (loN s 0 10))))) := by
  refine Con.of [some (.int (nI s)), none] pl_X6 rfl (Nat.le_of_ble_eq_true rfl) rfl ?_
  have hQ : (PU h n (some (.int (nI (loN s 0 10))))) (.inl (some (.int (nI (loN s 0 10))))) h n := ⟨rfl, rfl, rfl⟩
  generalize PU h n (some (.int (nI (loN s 0 10)))) = Q at hQ ⊢
  refine ez_iconst (v := nI 0) (q := 1) dX6_lowest_0 (by decide) rfl ?_
  refine ez_istore_1 (q := 2) dX6_lowest_1 rfl (by decide) rfl rfl ?_
  refine ez_loop (α := Nat) (fun b => 10 - b) (P := fun b => (∃ j, b ≤ j ∧ j < 10 ∧ s.testBit j = true) → (loN s b (10 - b) = loN s 0 10) → E G mX6_lowest (d + 1) Q h n 0 0 2 [some (.int (nI s)), some (.int (nI b))] []) ?_ 0 (by obtain ⟨j, h1, h2⟩ := hex; exact ⟨j, Nat.zero_le j, h1, h2⟩) rfl
  intro b ih2 hj hlo
  obtain ⟨j, hj1, hj2, hj3⟩ := hj
  obtain ⟨v, hv⟩ : ∃ v, 10 - b = v + 1 := ⟨9 - b, by omega⟩
  rw [hv] at hlo
  refine ez_iload_n (q := 3) 1 dX6_lowest_2 rfl rfl rfl ?_
  refine ez_bipush (v := nI 10) (q := 5) dX6_lowest_3 (by decide) rfl ?_
  refine ez_icmpgeN (q := 8) (tgt := 24) dX6_lowest_5 (by decide) (by omega) (by omega) rfl (fun hc5 => absurd hc5 (by omega)) (fun hc5 => ?_)
  refine ez_iload_n (q := 9) 0 dX6_lowest_8 rfl rfl rfl ?_
  refine ez_iload_n (q := 10) 1 dX6_lowest_9 rfl rfl rfl ?_
  refine cUv (q := 13) dX6_lowest_10 ck_X6_37 (t_X6_has hs (by omega)) rfl rfl rfl (Nat.le_of_ble_eq_true rfl) rfl ?_
  refine ez_ifeqB (q := 16) (tgt := 18) dX6_lowest_13 (by decide) rfl (fun hc13 => ?_) (fun hc13 => ?_)
  · refine ez_iincN_1 (q := 21) dX6_lowest_18 (by decide) rfl rfl ?_
    refine ez_goto (q := 2) dX6_lowest_21 (by decide) ?_
    exact E.fg (ih2 (b + 1) (by omega) ⟨j, by by_cases e : j = b; { exfalso; rw [e, ← tb_1] at hj3; exact of_decide_eq_false hc13 hj3 }; { omega }, hj2, hj3⟩ (by rw [lo_f (of_decide_eq_false hc13)] at hlo; rw [show 10 - (b + 1) = v by omega]; exact hlo)) ⟨Or.inr (rfl), Or.inr (rfl), trivial⟩
  · refine ez_iload_n (q := 17) 1 dX6_lowest_16 rfl rfl rfl ?_
    exact ez_iret dX6_lowest_17 rfl (by rw [← hlo, lo_t (of_decide_eq_true hc13)] at hQ; exact hQ)

set_option maxHeartbeats 800000 in
set_option maxRecDepth 100000 in
theorem t_X6_put {G : ez_G} {d n : Nat} {h : ez_H} {al li ro go : Int32} {rw la : Nat → Int32} {l : List Nat} {w : Nat} (hM : WW  h h al li ro go (nI l.length) rw la) (hrw : RW rw l) (hl : l.length < 111) (hw : w < 2 ^ 31) : Con G mX6_put (d) [.ref 48, .int (nI w)] h n 0 0 (PW n none (fun g => ∃ rw' : Nat → Int32, WW  h g al li ro go (nI (l ++ [w]).length) rw' la ∧ RW rw' (l ++ [w]))) := by
  refine Con.of [some (.ref 48), some (.int (nI w))] pl_X6 rfl (Nat.le_of_ble_eq_true rfl) rfl ?_
  have hQ : ∀ g (rw' : Nat → Int32), WW  h g al li ro go (nI (l ++ [w]).length) rw' la → RW rw' (l ++ [w]) → (PW n none (fun g => ∃ rw' : Nat → Int32, WW  h g al li ro go (nI (l ++ [w]).length) rw' la ∧ RW rw' (l ++ [w]))) (.inl none) g n := fun g rw' h1 h2 => ⟨rfl, ⟨rw', h1, h2⟩, rfl⟩
  generalize PW n none (fun g => ∃ rw' : Nat → Int32, WW  h g al li ro go (nI (l ++ [w]).length) rw' la ∧ RW rw' (l ++ [w])) = Q at hQ ⊢
  refine ez_iload_n (q := 1) 1 dX6_put_0 rfl rfl rfl ?_
  refine ez_iconst (v := -1) (q := 2) dX6_put_1 (by decide) rfl ?_
  refine ez_icmpeq (q := 5) (tgt := 34) dX6_put_2 (by decide) rfl (fun hc2 => absurd hc2 (nI_m1 hw)) (fun hc2 => ?_)
  refine ez_aload_n (q := 6) 0 dX6_put_5 rfl rfl rfl ?_
  refine ez_getf (q := 9) dX6_put_6 fl_X6_15 hM.2.1 rfl rfl ?_
  refine ez_bipush (v := nI 111) (q := 11) dX6_put_9 (by decide) rfl ?_
  refine ez_icmpgeN (q := 14) (tgt := 34) dX6_put_11 (by decide) (by omega) (by decide) rfl (fun hc11 => absurd hl (by omega)) (fun hc11 => ?_)
  refine ez_aload_n (q := 15) 0 dX6_put_14 rfl rfl rfl ?_
  refine ez_getf (q := 18) dX6_put_15 fl_X6_9 hM.2.1 rfl rfl ?_
  refine ez_aload_n (q := 19) 0 dX6_put_18 rfl rfl rfl ?_
  refine ez_getf (q := 22) dX6_put_19 fl_X6_15 hM.2.1 rfl rfl ?_
  refine ez_iload_n (q := 23) 1 dX6_put_22 rfl rfl rfl ?_
  refine sWW_rw (q := 24) dX6_put_23 hM rfl (by omega) rfl (fun g hM => ?_)
  refine ez_aload_n (q := 25) 0 dX6_put_24 rfl rfl rfl ?_
  refine ez_dup (q := 26) dX6_put_25 rfl rfl ?_
  refine ez_getf (q := 29) dX6_put_26 fl_X6_15 hM.2.1 rfl rfl ?_
  refine ez_iconst (v := nI 1) (q := 30) dX6_put_29 (by decide) rfl ?_
  refine ez_iaddN (q := 31) dX6_put_30 rfl ?_
  refine pWW_wl (q := 34) dX6_put_31 fl_X6_15 hM rfl (fun g hM => ?_)
  exact ez_vret dX6_put_34 rfl (hQ _ _ (by rw [show (l ++ [w]).length = l.length + 1 by simp]; exact hM) (hrw.put w))

set_option maxHeartbeats 800000 in
set_option maxRecDepth 100000 in
theorem t_X6_at {G : ez_G} {d n : Nat} {h : ez_H} {al li ro go : Int32} {rw la : Nat → Int32} {l : List Nat} {p : Nat} (hM : WW  h h al li ro go (nI l.length) rw la) (hrw : RW rw l) (hl : l.length ≤ 111) (hp : p < 2 ^ 31) : Con G mX6_at (d) [.ref 48, .int (nI p)] h n 0 0 (PU h n (some (.int (bsI l[p]?)))) := by
  refine Con.of [some (.ref 48), some (.int (nI p))] pl_X6 rfl (Nat.le_of_ble_eq_true rfl) rfl ?_
  have hQ : (PU h n (some (.int (bsI l[p]?)))) (.inl (some (.int (bsI l[p]?)))) h n := ⟨rfl, rfl, rfl⟩
  generalize PU h n (some (.int (bsI l[p]?))) = Q at hQ ⊢
  refine ez_iload_n (q := 1) 1 dX6_at_0 rfl rfl rfl ?_
  refine ez_ifltN (q := 4) (tgt := 21) dX6_at_1 (by decide) (by omega) rfl ?_
  refine ez_iload_n (q := 5) 1 dX6_at_4 rfl rfl rfl ?_
  refine ez_aload_n (q := 6) 0 dX6_at_5 rfl rfl rfl ?_
  refine ez_getf (q := 9) dX6_at_6 fl_X6_15 hM.2.1 rfl rfl ?_
  refine ez_icmpgeN (q := 12) (tgt := 21) dX6_at_9 (by decide) (by omega) (by omega) rfl (fun hc9 => ?_) (fun hc9 => ?_)
  · rw [List.getElem?_eq_none hc9] at hQ
    refine ez_iconst (v := -1) (q := 22) dX6_at_21 (by decide) rfl ?_
    exact ez_iret dX6_at_22 rfl (hQ)
  · obtain ⟨x, hx⟩ : ∃ x, l[p]? = some x := ⟨l[p], List.getElem?_eq_getElem hc9⟩
    rw [hx] at hQ
    refine ez_aload_n (q := 13) 0 dX6_at_12 rfl rfl rfl ?_
    refine ez_getf (q := 16) dX6_at_13 fl_X6_9 hM.2.1 rfl rfl ?_
    refine ez_iload_n (q := 17) 1 dX6_at_16 rfl rfl rfl ?_
    refine ez_iald (q := 18) dX6_at_17 hM.2.2.1 rfl (by omega) (by decide) rfl ?_
    refine ez_top (hrw p x hx) ?_
    refine ez_goto (q := 22) dX6_at_18 (by decide) ?_
    exact ez_iret dX6_at_22 rfl (hQ)

set_option maxHeartbeats 800000 in
set_option maxRecDepth 100000 in
theorem t_X6_nearestLayer {G : ez_G} {d n : Nat} {h : ez_H} {al li ro go wl : Int32} {rw la : Nat → Int32} {T : Nat → Nat} {n' y s t k0 : Nat} (hM : WW  h h al li ro go wl rw la) (hn : n' ≤ 10) (hs : s < 2 ^ n') (hla : (∀ k, k ≤ 10 → la k = nI (laN T n' y s k))) (hk0 : k0 ≤ 10) (h1 : ¬ t &&& laN T n' y s k0 = 0) (h2 : ∀ m, m < k0 → t &&& laN T n' y s m = 0) : Con G mX6_nearestLayer (d) [.ref 48, .int (nI t)] h n 0 0 (PU h n (some (.int (nI k0)))) := by
  refine Con.of [some (.ref 48), some (.int (nI t)), none] pl_X6 rfl (Nat.le_of_ble_eq_true rfl) rfl ?_
  have hQ : (PU h n (some (.int (nI k0)))) (.inl (some (.int (nI k0)))) h n := ⟨rfl, rfl, rfl⟩
  generalize PU h n (some (.int (nI k0))) = Q at hQ ⊢
  refine ez_iconst (v := nI 0) (q := 1) dX6_nearestLayer_0 (by decide) rfl ?_
  refine ez_istore_2 (q := 2) dX6_nearestLayer_1 rfl (by decide) rfl rfl ?_
  refine ez_loop (α := Nat) (fun k => 11 - k) (P := fun k => (k ≤ k0) → E G mX6_nearestLayer (d) Q h n 0 0 2 [some (.ref 48), some (.int (nI t)), some (.int (nI k))] []) ?_ 0 (Nat.zero_le _)
  intro k ih2 hk
  refine ez_iload_n (q := 3) 2 dX6_nearestLayer_2 rfl rfl rfl ?_
  refine ez_bipush (v := nI 10) (q := 5) dX6_nearestLayer_3 (by decide) rfl ?_
  refine ez_icmpgtN (q := 8) (tgt := 27) dX6_nearestLayer_5 (by decide) (by omega) (by omega) rfl (fun hc5 => absurd hc5 (by omega)) (fun hc5 => ?_)
  refine ez_iload_n (q := 9) 1 dX6_nearestLayer_8 rfl rfl rfl ?_
  refine ez_aload_n (q := 10) 0 dX6_nearestLayer_9 rfl rfl rfl ?_
  refine ez_getf (q := 13) dX6_nearestLayer_10 fl_X6_19 hM.2.1 rfl rfl ?_
  refine ez_iload_n (q := 14) 2 dX6_nearestLayer_13 rfl rfl rfl ?_
  refine ez_iald (q := 15) dX6_nearestLayer_14 hM.2.2.2.1 rfl (by omega) (by decide) rfl ?_
  refine ez_top (hla k (by omega)) ?_
  refine ez_iandN (q := 16) dX6_nearestLayer_15 rfl ?_
  refine ez_ifeqN (q := 19) (tgt := 21) dX6_nearestLayer_16 (by decide) (Nat.lt_of_le_of_lt Nat.and_le_right (lt31 (la_lt hs k) hn)) rfl (fun hc16 => ?_) (fun hc16 => ?_)
  · refine ez_iincN_2 (q := 24) dX6_nearestLayer_21 (by decide) rfl rfl ?_
    refine ez_goto (q := 2) dX6_nearestLayer_24 (by decide) ?_
    exact E.fg (ih2 (k + 1) (by omega) (by by_cases e : k = k0; { rw [e] at hc16; exact absurd hc16 h1 }; { omega })) ⟨Or.inr (rfl), Or.inr (rfl), Or.inr (rfl), trivial⟩
  · refine ez_iload_n (q := 20) 2 dX6_nearestLayer_19 rfl rfl rfl ?_
    exact ez_iret dX6_nearestLayer_20 rfl (by rw [show k0 = k from by by_cases e : k = k0; { exact e.symm }; { exact absurd (h2 k (by omega)) hc16 }] at hQ; exact hQ)

set_option maxHeartbeats 800000 in
set_option maxRecDepth 100000 in
theorem t_X6_layOut {G : ez_G} {d n : Nat} {h : ez_H} {n' f : Nat} {L T ln : Nat → Nat} {sg : Nat → Nat → Nat} {r : Nat} {rw la : Nat → Int32} {wl : Int32} {y s : Nat} (hM : WW  h h (nI (2 ^ n' - 1)) (nI (lvN T n' f L)) (nI r) (nI (goW n' f L)) wl rw la) (hS : SS 2 h n' f L T ln sg) (ho : OK n' f L T ln sg) : Con G mX6_layOut (d + 1) [.ref 48, .int (nI y), .int (nI s)] h n 0 0 (PW n none (fun g => ∃ la : Nat → Int32, WW  h g (nI (2 ^ n' - 1)) (nI (lvN T n' f L)) (nI r) (nI (goW n' f L)) wl rw la ∧ (∀ k, k ≤ 10 → la k = nI (laN T n' y s k)))) := by
  refine Con.of [some (.ref 48), some (.int (nI y)), some (.int (nI s)), none, none] pl_X6 rfl (Nat.le_of_ble_eq_true rfl) rfl ?_
  have hQ : ∀ g (la : Nat → Int32), WW  h g (nI (2 ^ n' - 1)) (nI (lvN T n' f L)) (nI r) (nI (goW n' f L)) wl rw la → (∀ k, k ≤ 10 → la k = nI (laN T n' y s k)) → (PW n none (fun g => ∃ la : Nat → Int32, WW  h g (nI (2 ^ n' - 1)) (nI (lvN T n' f L)) (nI r) (nI (goW n' f L)) wl rw la ∧ (∀ k, k ≤ 10 → la k = nI (laN T n' y s k)))) (.inl none) g n := fun g la h1 h2 => ⟨rfl, ⟨la, h1, h2⟩, rfl⟩
  generalize PW n none (fun g => ∃ la : Nat → Int32, WW  h g (nI (2 ^ n' - 1)) (nI (lvN T n' f L)) (nI r) (nI (goW n' f L)) wl rw la ∧ (∀ k, k ≤ 10 → la k = nI (laN T n' y s k))) = Q at hQ ⊢
  refine ez_iload_n (q := 1) 2 dX6_layOut_0 rfl rfl rfl ?_
  refine ez_istore_3 (q := 2) dX6_layOut_1 rfl (by decide) rfl rfl ?_
  refine ez_iconst (v := nI 0) (q := 3) dX6_layOut_2 (by decide) rfl ?_
  refine ez_istore_4 (q := 5) dX6_layOut_3 (by decide) rfl rfl ?_
  refine ez_loop (α := Nat) (fun k => 11 - k) (P := fun k => ∀ (g : ez_H) (la : Nat → Int32), WW  h g (nI (2 ^ n' - 1)) (nI (lvN T n' f L)) (nI r) (nI (goW n' f L)) wl rw la → (k ≤ 11) → (∀ j, j < k → la j = nI (laN T n' y s j)) → E G mX6_layOut (d + 1) Q g n 0 0 5 [some (.ref 48), some (.int (nI y)), some (.int (nI s)), some (.int (nI (laN T n' y s k))), some (.int (nI k))] []) ?_ 0 h _ hM (by omega) (fun j hj => absurd hj (by omega))
  intro k ih5 g la hM hk hla
  refine ez_iload (q := 7) dX6_layOut_5 rfl rfl ?_
  refine ez_bipush (v := nI 10) (q := 9) dX6_layOut_7 (by decide) rfl ?_
  refine ez_icmpgtN (q := 12) (tgt := 42) dX6_layOut_9 (by decide) (by omega) (by omega) rfl (fun hc9 => ?_) (fun hc9 => ?_)
  · exact ez_vret dX6_layOut_42 rfl (hQ _ _ hM (fun j hj => hla j (by omega)))
  · refine ez_aload_n (q := 13) 0 dX6_layOut_12 rfl rfl rfl ?_
    refine ez_getf (q := 16) dX6_layOut_13 fl_X6_19 hM.2.1 rfl rfl ?_
    refine ez_iload (q := 18) dX6_layOut_16 rfl rfl ?_
    refine ez_iload_n (q := 19) 3 dX6_layOut_18 rfl rfl rfl ?_
    refine sWW_la (q := 20) dX6_layOut_19 hM rfl (by omega) rfl (fun g hM => ?_)
    refine ez_iload_n (q := 21) 3 dX6_layOut_20 rfl rfl rfl ?_
    refine ez_iload_n (q := 22) 1 dX6_layOut_21 rfl rfl rfl ?_
    refine ez_aload_n (q := 23) 0 dX6_layOut_22 rfl rfl rfl ?_
    refine ez_getf (q := 26) dX6_layOut_23 fl_X6_32 hM.2.1 rfl rfl ?_
    refine ez_getf (q := 29) dX6_layOut_26 fl_X6_79 hM.1 rfl rfl ?_
    refine ez_iload_n (q := 30) 3 dX6_layOut_29 rfl rfl rfl ?_
    refine cPv (q := 33) dX6_layOut_30 ck_X6_106 (hS.to (fun j a b => hM.fr j (by omega))).ob (t_X3_leadingInto (hS.to (fun j a b => hM.fr j (by omega))) ho) rfl ⟨by decide, rfl⟩ rfl rfl rfl (Nat.le_of_ble_eq_true rfl) rfl ?_
    refine ez_iandN (q := 34) dX6_layOut_33 rfl ?_
    refine ez_iorN (q := 35) dX6_layOut_34 rfl ?_
    refine ez_istore_3 (q := 36) dX6_layOut_35 rfl (by decide) rfl rfl ?_
    refine ez_iincN_4 (q := 39) dX6_layOut_36 (by decide) rfl rfl ?_
    refine ez_goto (q := 5) dX6_layOut_39 (by decide) ?_
    exact E.fg (ih5 (k + 1) (by omega) g _ hM (by omega) (fun j hj => by by_cases e : j = k; { rw [e, up_eq] }; { rw [up_ne _ _ e]; exact hla j (by omega) })) ⟨Or.inr (rfl), Or.inr (rfl), Or.inr (rfl), Or.inr (rfl), Or.inr (rfl), trivial⟩

set_option maxHeartbeats 800000 in
set_option maxRecDepth 100000 in
theorem t_X6_walk {G : ez_G} {d n : Nat} {h : ez_H} {n' f : Nat} {L T ln : Nat → Nat} {sg : Nat → Nat → Nat} {r : Nat} {rw la : Nat → Int32} {l : List Nat} {y s u w : Nat} (hM : WW  h h (nI (2 ^ n' - 1)) (nI (lvN T n' f L)) (nI r) (nI (goW n' f L)) (nI l.length) rw la) (hrw : RW rw l) (hS : SS 2 h n' f L T ln sg) (ho : OK n' f L T ln sg) (hla : (∀ k, k ≤ 10 → la k = nI (laN T n' y s k))) (hs : s < 2 ^ n') (hu : ∀ v, v < n' → ∀ j m, (T v).testBit j = true → (laN T n' y s m).testBit j = true → u.testBit j = true) (hw : w < n') (hex : ∃ j k, k ≤ 10 ∧ (T w).testBit j = true ∧ (laN T n' y s k).testBit j = true) (hlen : (l ++ wyN (nxN T n' u (dsN T n' y s 10)) ((dsN T n' y s 10) ((nxN T n' u (dsN T n' y s 10)) w) + 1) w).length ≤ 111) : Con G mX6_walk (d + 2) [.ref 48, .int (nI w)] h n 0 0 (PW n (some (.int (nI (itN (nxN T n' u (dsN T n' y s 10)) ((dsN T n' y s 10) ((nxN T n' u (dsN T n' y s 10)) w) + 1) w)))) (fun g => ∃ rw2 : Nat → Int32, WW  h g (nI (2 ^ n' - 1)) (nI (lvN T n' f L)) (nI r) (nI (goW n' f L)) (nI (l ++ wyN (nxN T n' u (dsN T n' y s 10)) ((dsN T n' y s 10) ((nxN T n' u (dsN T n' y s 10)) w) + 1) w).length) rw2 la ∧ RW rw2 (l ++ wyN (nxN T n' u (dsN T n' y s 10)) ((dsN T n' y s 10) ((nxN T n' u (dsN T n' y s 10)) w) + 1) w))) := by
  have hn := ho.1
  obtain ⟨j0, k0, hk0, hj1, hj2⟩ := hex
  obtain ⟨a1, a2, a3, a4, a5, a6⟩ := nx_near hn hs (hu w hw) hk0 hj1 hj2
  have hd10 : (dsN T n' y s 10) ((nxN T n' u (dsN T n' y s 10)) w) ≤ 10 := Nat.le_trans a2 hk0
  refine Con.of [some (.ref 48), some (.int (nI w)), none, none, none] pl_X6 rfl (Nat.le_of_ble_eq_true rfl) rfl ?_
  have hQ : ∀ g (rw2 : Nat → Int32), WW  h g (nI (2 ^ n' - 1)) (nI (lvN T n' f L)) (nI r) (nI (goW n' f L)) (nI (l ++ wyN (nxN T n' u (dsN T n' y s 10)) ((dsN T n' y s 10) ((nxN T n' u (dsN T n' y s 10)) w) + 1) w).length) rw2 la → RW rw2 (l ++ wyN (nxN T n' u (dsN T n' y s 10)) ((dsN T n' y s 10) ((nxN T n' u (dsN T n' y s 10)) w) + 1) w) → (PW n (some (.int (nI (itN (nxN T n' u (dsN T n' y s 10)) ((dsN T n' y s 10) ((nxN T n' u (dsN T n' y s 10)) w) + 1) w)))) (fun g => ∃ rw2 : Nat → Int32, WW  h g (nI (2 ^ n' - 1)) (nI (lvN T n' f L)) (nI r) (nI (goW n' f L)) (nI (l ++ wyN (nxN T n' u (dsN T n' y s 10)) ((dsN T n' y s 10) ((nxN T n' u (dsN T n' y s 10)) w) + 1) w).length) rw2 la ∧ RW rw2 (l ++ wyN (nxN T n' u (dsN T n' y s 10)) ((dsN T n' y s 10) ((nxN T n' u (dsN T n' y s 10)) w) + 1) w))) (.inl (some (.int (nI (itN (nxN T n' u (dsN T n' y s 10)) ((dsN T n' y s 10) ((nxN T n' u (dsN T n' y s 10)) w) + 1) w))))) g n := fun g rw2 h1 h2 => ⟨rfl, ⟨rw2, h1, h2⟩, rfl⟩
  generalize PW n (some (.int (nI (itN (nxN T n' u (dsN T n' y s 10)) ((dsN T n' y s 10) ((nxN T n' u (dsN T n' y s 10)) w) + 1) w)))) (fun g => ∃ rw2 : Nat → Int32, WW  h g (nI (2 ^ n' - 1)) (nI (lvN T n' f L)) (nI r) (nI (goW n' f L)) (nI (l ++ wyN (nxN T n' u (dsN T n' y s 10)) ((dsN T n' y s 10) ((nxN T n' u (dsN T n' y s 10)) w) + 1) w).length) rw2 la ∧ RW rw2 (l ++ wyN (nxN T n' u (dsN T n' y s 10)) ((dsN T n' y s 10) ((nxN T n' u (dsN T n' y s 10)) w) + 1) w)) = Q at hQ ⊢
  refine ez_aload_n (q := 1) 0 dX6_walk_0 rfl rfl rfl ?_
  refine ez_aload_n (q := 2) 0 dX6_walk_1 rfl rfl rfl ?_
  refine ez_getf (q := 5) dX6_walk_2 fl_X6_32 hM.2.1 rfl rfl ?_
  refine ez_getf (q := 8) dX6_walk_5 fl_X6_79 hM.1 rfl rfl ?_
  refine ez_iload_n (q := 9) 1 dX6_walk_8 rfl rfl rfl ?_
  refine cPv (q := 12) dX6_walk_9 ck_X6_83 (hS.to (fun j a b => hM.fr j (by omega))).ob (r_X3_stepsFrom (hS.to (fun j a b => hM.fr j (by omega))) ho hw) rfl ⟨by decide, rfl⟩ rfl rfl rfl (Nat.le_of_ble_eq_true rfl) rfl ?_
  refine cPv (q := 15) dX6_walk_12 ck_X6_109 hM.2.1 (t_X6_nearestLayer hM.rb hn hs hla hd10 a5 a4) rfl ⟨by decide, rfl⟩ rfl rfl rfl (Nat.le_of_ble_eq_true rfl) rfl ?_
  refine ez_istore_2 (q := 16) dX6_walk_15 rfl (by decide) rfl rfl ?_
  refine ez_iload_n (q := 17) 1 dX6_walk_16 rfl rfl rfl ?_
  refine ez_istore_3 (q := 18) dX6_walk_17 rfl (by decide) rfl rfl ?_
  refine ez_iload_n (q := 19) 2 dX6_walk_18 rfl rfl rfl ?_
  skip
  refine ez_istore_4 (q := 21) dX6_walk_19 (by decide) rfl rfl ?_
  refine ez_loop (α := Nat × Nat) (fun z99 => match z99 with | (c, v) => c) (P := fun z99 => match z99 with | (c, v) => ∀ (g : ez_H) (rw2 : Nat → Int32) (l2 : List Nat), WW  h g (nI (2 ^ n' - 1)) (nI (lvN T n' f L)) (nI r) (nI (goW n' f L)) (nI l2.length) rw2 la → (c ≤ 11) → (RW rw2 l2) → (l2 ++ wyN (nxN T n' u (dsN T n' y s 10)) c v = (l ++ wyN (nxN T n' u (dsN T n' y s 10)) ((dsN T n' y s 10) ((nxN T n' u (dsN T n' y s 10)) w) + 1) w)) → (itN (nxN T n' u (dsN T n' y s 10)) c v = itN (nxN T n' u (dsN T n' y s 10)) ((dsN T n' y s 10) ((nxN T n' u (dsN T n' y s 10)) w) + 1) w) → (v < n') → (0 < c → (dsN T n' y s 10) ((nxN T n' u (dsN T n' y s 10)) v) = c - 1 ∧ loN (T v &&& laN T n' y s (c - 1)) 0 10 = (nxN T n' u (dsN T n' y s 10)) v ∧ (T v).testBit ((nxN T n' u (dsN T n' y s 10)) v) = true ∧ (nxN T n' u (dsN T n' y s 10)) v < n') → E G mX6_walk (d + 2) Q g n 0 0 21 [some (.ref 48), some (.int (nI w)), some (.int (nI ((dsN T n' y s 10) ((nxN T n' u (dsN T n' y s 10)) w)))), some (.int (nI v)), some (.int (dI c))] []) ?_ ((dsN T n' y s 10) ((nxN T n' u (dsN T n' y s 10)) w) + 1, w) h _ _ hM (by omega) hrw rfl rfl hw (fun _ => ⟨rfl, a6, a3, a1⟩)
  rintro ⟨c, v⟩ ih21
  dsimp only at ih21 ⊢
  obtain ⟨μ21, hμ21⟩ : ∃ y99, y99 = c := ⟨_, rfl⟩
  rw [← hμ21] at ih21
  have ih21 : ∀ (c : Nat) (v : Nat), c < μ21 → ∀ (g : ez_H) (rw2 : Nat → Int32) (l2 : List Nat), WW  h g (nI (2 ^ n' - 1)) (nI (lvN T n' f L)) (nI r) (nI (goW n' f L)) (nI l2.length) rw2 la → (c ≤ 11) → (RW rw2 l2) → (l2 ++ wyN (nxN T n' u (dsN T n' y s 10)) c v = (l ++ wyN (nxN T n' u (dsN T n' y s 10)) ((dsN T n' y s 10) ((nxN T n' u (dsN T n' y s 10)) w) + 1) w)) → (itN (nxN T n' u (dsN T n' y s 10)) c v = itN (nxN T n' u (dsN T n' y s 10)) ((dsN T n' y s 10) ((nxN T n' u (dsN T n' y s 10)) w) + 1) w) → (v < n') → (0 < c → (dsN T n' y s 10) ((nxN T n' u (dsN T n' y s 10)) v) = c - 1 ∧ loN (T v &&& laN T n' y s (c - 1)) 0 10 = (nxN T n' u (dsN T n' y s 10)) v ∧ (T v).testBit ((nxN T n' u (dsN T n' y s 10)) v) = true ∧ (nxN T n' u (dsN T n' y s 10)) v < n') → E G mX6_walk (d + 2) Q g n 0 0 21 [some (.ref 48), some (.int (nI w)), some (.int (nI ((dsN T n' y s 10) ((nxN T n' u (dsN T n' y s 10)) w)))), some (.int (nI v)), some (.int (dI c))] [] := fun c v => ih21 (c, v)
  intro g rw2 l2 hM hc hrw ht hit hv hst
  rcases c with _ | k
  · change E G mX6_walk _ _ _ _ _ _ 21 [some (.ref 48), some (.int (nI w)), some (.int (nI ((dsN T n' y s 10) ((nxN T n' u (dsN T n' y s 10)) w)))), some (.int (nI v)), some (.int (-1))] []
    refine ez_iload (q := 23) dX6_walk_21 rfl rfl ?_
    refine ez_iflt (q := 26) (tgt := 60) dX6_walk_23 (by decide) rfl (fun hc23 => ?_) (fun hc23 => ?_)
    · refine ez_iload_n (q := 61) 2 dX6_walk_60 rfl rfl rfl ?_
      refine ez_iconst (v := -1) (q := 62) dX6_walk_61 (by decide) rfl ?_
      refine ez_icmpne (q := 65) (tgt := 69) dX6_walk_62 (by decide) rfl (fun hc62 => ?_) (fun hc62 => absurd hc62 (nI_m1 (by omega)))
      refine ez_iload_n (q := 70) 3 dX6_walk_69 rfl rfl rfl ?_
      exact ez_iret dX6_walk_70 rfl (by rw [← hit] at hQ; rw [wyN, List.append_nil] at ht; rw [ht] at hM hrw; exact hQ _ _ hM hrw)
    · first
      | exact absurd (by decide) hc23
      | skip
        refine ez_aload_n (q := 27) 0 dX6_walk_26 rfl rfl rfl ?_
        refine ez_getf (q := 30) dX6_walk_27 fl_X6_32 hM.2.1 rfl rfl ?_
        refine ez_getf (q := 33) dX6_walk_30 fl_X6_79 hM.1 rfl rfl ?_
        refine ez_iload_n (q := 34) 3 dX6_walk_33 rfl rfl rfl ?_
        refine cPv (q := 37) dX6_walk_34 ck_X6_83 (hS.to (fun j a b => hM.fr j (by omega))).ob (r_X3_stepsFrom (hS.to (fun j a b => hM.fr j (by omega))) ho hv) rfl ⟨by decide, rfl⟩ rfl rfl rfl (Nat.le_of_ble_eq_true rfl) rfl ?_
        refine ez_aload_n (q := 38) 0 dX6_walk_37 rfl rfl rfl ?_
        refine ez_getf (q := 41) dX6_walk_38 fl_X6_19 hM.2.1 rfl rfl ?_
        refine ez_iload (q := 43) dX6_walk_41 rfl rfl ?_
        refine ez_iald (q := 44) dX6_walk_43 hM.2.2.2.1 rfl (by omega) (by decide) rfl ?_
        refine ez_top (hla k (by omega)) ?_
        refine ez_iandN (q := 45) dX6_walk_44 rfl ?_
        refine cUv (q := 48) dX6_walk_45 ck_X6_91 (t_X6_lowest (lt31 (and_lt (ho.2.2.2.1 v hv)) hn) ⟨(nxN T n' u (dsN T n' y s 10)) v, by omega, by rw [Nat.testBit_and, hb4, (ds_iff (show k ≤ 10 by omega)).mp (Nat.le_of_eq hb1)]; rfl⟩) rfl rfl rfl (Nat.le_of_ble_eq_true rfl) rfl ?_
        rw [hb2]
        refine ez_istore_3 (q := 49) dX6_walk_48 rfl (by decide) rfl rfl ?_
        refine ez_aload_n (q := 50) 0 dX6_walk_49 rfl rfl rfl ?_
        refine ez_iload_n (q := 51) 3 dX6_walk_50 rfl rfl rfl ?_
        refine cX0 (q := 54) dX6_walk_51 ck_X6_48 hM.2.1 (t_X6_put hM.rb hrw hlt (by omega)) rfl ⟨by decide, rfl⟩ rfl rfl rfl (Nat.le_of_ble_eq_true rfl) rfl (fun g hW => ?_)
        obtain ⟨rw, hM2, hrw⟩ := hW
        have hM := hM.tr hM2
        refine ez_iinc_4 (v := dI k) (q := 57) dX6_walk_54 (dI_dec k) (by decide) rfl rfl ?_
        refine ez_goto (q := 21) dX6_walk_57 (by decide) ?_
        exact E.fg (ih21 k ((nxN T n' u (dsN T n' y s 10)) v) (by omega) g _ _ hM (by omega) hrw (by rw [← ht, List.append_assoc]; rfl) (by rw [← hit]; rfl) hb3 hnext) ⟨Or.inr (rfl), Or.inr (rfl), Or.inr (rfl), Or.inr (rfl), Or.inr (rfl), trivial⟩
  · change E G mX6_walk _ _ _ _ _ _ 21 [some (.ref 48), some (.int (nI w)), some (.int (nI ((dsN T n' y s 10) ((nxN T n' u (dsN T n' y s 10)) w)))), some (.int (nI v)), some (.int (nI k))] []
    obtain ⟨hb1, hb2, hb4, hb3⟩ := hst (Nat.succ_pos k)
    rw [Nat.add_sub_cancel] at hb1 hb2
    have hlt : l2.length < 111 := by have h9 := congrArg List.length ht; rw [List.length_append, wy_len] at h9; omega
    have hnext : 0 < k → (dsN T n' y s 10) ((nxN T n' u (dsN T n' y s 10)) ((nxN T n' u (dsN T n' y s 10)) v)) = k - 1 ∧ loN (T ((nxN T n' u (dsN T n' y s 10)) v) &&& laN T n' y s (k - 1)) 0 10 = (nxN T n' u (dsN T n' y s 10)) ((nxN T n' u (dsN T n' y s 10)) v) ∧ (T ((nxN T n' u (dsN T n' y s 10)) v)).testBit ((nxN T n' u (dsN T n' y s 10)) ((nxN T n' u (dsN T n' y s 10)) v)) = true ∧ (nxN T n' u (dsN T n' y s 10)) ((nxN T n' u (dsN T n' y s 10)) v) < n' := by
      intro hk
      obtain ⟨m, rfl⟩ : ∃ m, k = m + 1 := ⟨k - 1, by omega⟩
      obtain ⟨b, c1, c2, c3, c4, c5, c6⟩ := nx_dn (u := u) hs (hu _ hb3) (by omega) hb1
      obtain ⟨e1, e2, e3, e4, e5, e6⟩ := nx_near (u := u) hn hs (hu _ hb3) (show m ≤ 10 by omega) c4 ((ds_iff (by omega)).mp (Nat.le_of_eq c6))
      have e7 : (dsN T n' y s 10) ((nxN T n' u (dsN T n' y s 10)) ((nxN T n' u (dsN T n' y s 10)) v)) = m := by rw [c2]; exact c6
      rw [e7] at e6
      exact ⟨e7, e6, e3, e1⟩
    refine ez_iload (q := 23) dX6_walk_21 rfl rfl ?_
    refine ez_ifltN (q := 26) (tgt := 60) dX6_walk_23 (by decide) (by omega) rfl ?_
    refine ez_aload_n (q := 27) 0 dX6_walk_26 rfl rfl rfl ?_
    refine ez_getf (q := 30) dX6_walk_27 fl_X6_32 hM.2.1 rfl rfl ?_
    refine ez_getf (q := 33) dX6_walk_30 fl_X6_79 hM.1 rfl rfl ?_
    refine ez_iload_n (q := 34) 3 dX6_walk_33 rfl rfl rfl ?_
    refine cPv (q := 37) dX6_walk_34 ck_X6_83 (hS.to (fun j a b => hM.fr j (by omega))).ob (r_X3_stepsFrom (hS.to (fun j a b => hM.fr j (by omega))) ho hv) rfl ⟨by decide, rfl⟩ rfl rfl rfl (Nat.le_of_ble_eq_true rfl) rfl ?_
    refine ez_aload_n (q := 38) 0 dX6_walk_37 rfl rfl rfl ?_
    refine ez_getf (q := 41) dX6_walk_38 fl_X6_19 hM.2.1 rfl rfl ?_
    refine ez_iload (q := 43) dX6_walk_41 rfl rfl ?_
    refine ez_iald (q := 44) dX6_walk_43 hM.2.2.2.1 rfl (by omega) (by decide) rfl ?_
    refine ez_top (hla k (by omega)) ?_
    refine ez_iandN (q := 45) dX6_walk_44 rfl ?_
    refine cUv (q := 48) dX6_walk_45 ck_X6_91 (t_X6_lowest (lt31 (and_lt (ho.2.2.2.1 v hv)) hn) ⟨(nxN T n' u (dsN T n' y s 10)) v, by omega, by rw [Nat.testBit_and, hb4, (ds_iff (show k ≤ 10 by omega)).mp (Nat.le_of_eq hb1)]; rfl⟩) rfl rfl rfl (Nat.le_of_ble_eq_true rfl) rfl ?_
    rw [hb2]
    refine ez_istore_3 (q := 49) dX6_walk_48 rfl (by decide) rfl rfl ?_
    refine ez_aload_n (q := 50) 0 dX6_walk_49 rfl rfl rfl ?_
    refine ez_iload_n (q := 51) 3 dX6_walk_50 rfl rfl rfl ?_
    refine cX0 (q := 54) dX6_walk_51 ck_X6_48 hM.2.1 (t_X6_put hM.rb hrw hlt (by omega)) rfl ⟨by decide, rfl⟩ rfl rfl rfl (Nat.le_of_ble_eq_true rfl) rfl (fun g hW => ?_)
    obtain ⟨rw, hM2, hrw⟩ := hW
    have hM := hM.tr hM2
    refine ez_iinc_4 (v := dI k) (q := 57) dX6_walk_54 (dI_dec k) (by decide) rfl rfl ?_
    refine ez_goto (q := 21) dX6_walk_57 (by decide) ?_
    exact E.fg (ih21 k ((nxN T n' u (dsN T n' y s 10)) v) (by omega) g _ _ hM (by omega) hrw (by rw [← ht, List.append_assoc]; rfl) (by rw [← hit]; rfl) hb3 hnext) ⟨Or.inr (rfl), Or.inr (rfl), Or.inr (rfl), Or.inr (rfl), Or.inr (rfl), trivial⟩

set_option maxHeartbeats 800000 in
set_option maxRecDepth 100000 in
theorem t_X6_goNext {G : ez_G} {d n : Nat} {h : ez_H} {n' f : Nat} {L T ln : Nat → Nat} {sg : Nat → Nat → Nat} {r : Nat} {rw la : Nat → Int32} {l : List Nat} {w a : Nat} (hM : WW  h h (nI (2 ^ n' - 1)) (nI (lvN T n' f L)) (nI r) (nI (goW n' f L)) (nI l.length) rw la) (hrw : RW rw l) (hS : SS 2 h n' f L T ln sg) (ho : OK n' f L T ln sg) (hw : w < n') (hl : l.length < 111) (hex : ∃ j, j < 10 ∧ (T w &&& a &&& lvN T n' f L).testBit j = true) : Con G mX6_goNext (d + 2) [.ref 48, .int (nI w), .int (nI a)] h n 0 0 (PW n none (fun g => ∃ (rw2 la2 : Nat → Int32) (r2 : Nat), WW  h g (nI (2 ^ n' - 1)) (nI (lvN T n' f L)) (nI r2) (nI (goW n' f L)) (nI (l ++ [loN (T w &&& a &&& lvN T n' f L) 0 10]).length) rw2 la2 ∧ RW rw2 (l ++ [loN (T w &&& a &&& lvN T n' f L) 0 10]))) := by
  have hn := ho.1
  refine Con.of [some (.ref 48), some (.int (nI w)), some (.int (nI a))] pl_X6 rfl (Nat.le_of_ble_eq_true rfl) rfl ?_
  have hQ : ∀ g (rw2 la2 : Nat → Int32) (r2 : Nat), WW  h g (nI (2 ^ n' - 1)) (nI (lvN T n' f L)) (nI r2) (nI (goW n' f L)) (nI (l ++ [loN (T w &&& a &&& lvN T n' f L) 0 10]).length) rw2 la2 → RW rw2 (l ++ [loN (T w &&& a &&& lvN T n' f L) 0 10]) → (PW n none (fun g => ∃ (rw2 la2 : Nat → Int32) (r2 : Nat), WW  h g (nI (2 ^ n' - 1)) (nI (lvN T n' f L)) (nI r2) (nI (goW n' f L)) (nI (l ++ [loN (T w &&& a &&& lvN T n' f L) 0 10]).length) rw2 la2 ∧ RW rw2 (l ++ [loN (T w &&& a &&& lvN T n' f L) 0 10]))) (.inl none) g n := fun g rw2 la2 r2 h1 h2 => ⟨rfl, ⟨rw2, la2, r2, h1, h2⟩, rfl⟩
  generalize PW n none (fun g => ∃ (rw2 la2 : Nat → Int32) (r2 : Nat), WW  h g (nI (2 ^ n' - 1)) (nI (lvN T n' f L)) (nI r2) (nI (goW n' f L)) (nI (l ++ [loN (T w &&& a &&& lvN T n' f L) 0 10]).length) rw2 la2 ∧ RW rw2 (l ++ [loN (T w &&& a &&& lvN T n' f L) 0 10])) = Q at hQ ⊢
  refine ez_aload_n (q := 1) 0 dX6_goNext_0 rfl rfl rfl ?_
  refine ez_aload_n (q := 2) 0 dX6_goNext_1 rfl rfl rfl ?_
  refine ez_getf (q := 5) dX6_goNext_2 fl_X6_32 hM.2.1 rfl rfl ?_
  refine ez_getf (q := 8) dX6_goNext_5 fl_X6_79 hM.1 rfl rfl ?_
  refine ez_iload_n (q := 9) 1 dX6_goNext_8 rfl rfl rfl ?_
  refine cPv (q := 12) dX6_goNext_9 ck_X6_83 (hS.to (fun j a b => hM.fr j (by omega))).ob (r_X3_stepsFrom (hS.to (fun j a b => hM.fr j (by omega))) ho hw) rfl ⟨by decide, rfl⟩ rfl rfl rfl (Nat.le_of_ble_eq_true rfl) rfl ?_
  refine ez_iload_n (q := 13) 2 dX6_goNext_12 rfl rfl rfl ?_
  refine ez_iandN (q := 14) dX6_goNext_13 rfl ?_
  refine ez_aload_n (q := 15) 0 dX6_goNext_14 rfl rfl rfl ?_
  refine ez_getf (q := 18) dX6_goNext_15 fl_X6_32 hM.2.1 rfl rfl ?_
  refine ez_getf (q := 21) dX6_goNext_18 fl_X6_88 hM.1 rfl rfl ?_
  refine ez_iandN (q := 22) dX6_goNext_21 rfl ?_
  refine cUv (q := 25) dX6_goNext_22 ck_X6_91 (t_X6_lowest (lt31 (and_lt (and_lt (ho.2.2.2.1 w hw))) hn) hex) rfl rfl rfl (Nat.le_of_ble_eq_true rfl) rfl ?_
  have hlo : loN (T w &&& a &&& lvN T n' f L) 0 10 < n' := by obtain ⟨q1, q2⟩ := lo_ok 10 0 (by obtain ⟨j, h1, h2⟩ := hex; exact ⟨j, Nat.zero_le j, by omega, h2⟩); exact (all_bit (and_lt (and_lt (ho.2.2.2.1 w hw))) q1).1
  refine cX0 (q := 28) dX6_goNext_25 ck_X6_48 hM.2.1 (t_X6_put hM.rb hrw hl (by omega)) rfl ⟨by decide, rfl⟩ rfl rfl rfl (Nat.le_of_ble_eq_true rfl) rfl (fun g hW => ?_)
  obtain ⟨rw, hM2, hrw⟩ := hW
  have hM := hM.tr hM2
  exact ez_vret dX6_goNext_28 rfl (hQ _ _ _ _ hM hrw)

set_option maxHeartbeats 800000 in
set_option maxRecDepth 100000 in
theorem t_X6_goUntil {G : ez_G} {d n : Nat} {h : ez_H} {n' f : Nat} {L T ln : Nat → Nat} {sg : Nat → Nat → Nat} {r : Nat} {rw la : Nat → Int32} {l : List Nat} {w y s : Nat} (hM : WW  h h (nI (2 ^ n' - 1)) (nI (lvN T n' f L)) (nI r) (nI (goW n' f L)) (nI l.length) rw la) (hrw : RW rw l) (hS : SS 2 h n' f L T ln sg) (ho : OK n' f L T ln sg) (hw : w < n') (hl : l.length ≤ 1) (hdw : (dsN T n' y (s &&& lvN T n' f L) 10) w ≤ 10) : Con G mX6_goUntil (d + 3) [.ref 48, .int (nI w), .int (nI y), .int (nI s)] h n 0 0 (PW n none (fun g => ∃ (rw2 la2 : Nat → Int32) (r2 : Nat), WW  h g (nI (2 ^ n' - 1)) (nI (lvN T n' f L)) (nI r2) (nI (goW n' f L)) (nI (l ++ wyN (nxN T n' (2 ^ n' - 1) (dsN T n' y (s &&& lvN T n' f L) 10)) ((dsN T n' y (s &&& lvN T n' f L) 10) w) w).length) rw2 la2 ∧ RW rw2 (l ++ wyN (nxN T n' (2 ^ n' - 1) (dsN T n' y (s &&& lvN T n' f L) 10)) ((dsN T n' y (s &&& lvN T n' f L) 10) w) w))) := by
  have hn := ho.1
  refine Con.of [some (.ref 48), some (.int (nI w)), some (.int (nI y)), some (.int (nI s)), none] pl_X6 rfl (Nat.le_of_ble_eq_true rfl) rfl ?_
  have hQ : ∀ g (rw2 la2 : Nat → Int32) (r2 : Nat), WW  h g (nI (2 ^ n' - 1)) (nI (lvN T n' f L)) (nI r2) (nI (goW n' f L)) (nI (l ++ wyN (nxN T n' (2 ^ n' - 1) (dsN T n' y (s &&& lvN T n' f L) 10)) ((dsN T n' y (s &&& lvN T n' f L) 10) w) w).length) rw2 la2 → RW rw2 (l ++ wyN (nxN T n' (2 ^ n' - 1) (dsN T n' y (s &&& lvN T n' f L) 10)) ((dsN T n' y (s &&& lvN T n' f L) 10) w) w) → (PW n none (fun g => ∃ (rw2 la2 : Nat → Int32) (r2 : Nat), WW  h g (nI (2 ^ n' - 1)) (nI (lvN T n' f L)) (nI r2) (nI (goW n' f L)) (nI (l ++ wyN (nxN T n' (2 ^ n' - 1) (dsN T n' y (s &&& lvN T n' f L) 10)) ((dsN T n' y (s &&& lvN T n' f L) 10) w) w).length) rw2 la2 ∧ RW rw2 (l ++ wyN (nxN T n' (2 ^ n' - 1) (dsN T n' y (s &&& lvN T n' f L) 10)) ((dsN T n' y (s &&& lvN T n' f L) 10) w) w))) (.inl none) g n := fun g rw2 la2 r2 h1 h2 => ⟨rfl, ⟨rw2, la2, r2, h1, h2⟩, rfl⟩
  generalize PW n none (fun g => ∃ (rw2 la2 : Nat → Int32) (r2 : Nat), WW  h g (nI (2 ^ n' - 1)) (nI (lvN T n' f L)) (nI r2) (nI (goW n' f L)) (nI (l ++ wyN (nxN T n' (2 ^ n' - 1) (dsN T n' y (s &&& lvN T n' f L) 10)) ((dsN T n' y (s &&& lvN T n' f L) 10) w) w).length) rw2 la2 ∧ RW rw2 (l ++ wyN (nxN T n' (2 ^ n' - 1) (dsN T n' y (s &&& lvN T n' f L) 10)) ((dsN T n' y (s &&& lvN T n' f L) 10) w) w)) = Q at hQ ⊢
  refine ez_iload_n (q := 1) 3 dX6_goUntil_0 rfl rfl rfl ?_
  refine ez_aload_n (q := 2) 0 dX6_goUntil_1 rfl rfl rfl ?_
  refine ez_getf (q := 5) dX6_goUntil_2 fl_X6_32 hM.2.1 rfl rfl ?_
  refine ez_getf (q := 8) dX6_goUntil_5 fl_X6_88 hM.1 rfl rfl ?_
  refine ez_iandN (q := 9) dX6_goUntil_8 rfl ?_
  refine ez_istore_4 (q := 11) dX6_goUntil_9 (by decide) rfl rfl ?_
  refine ez_iload (q := 13) dX6_goUntil_11 rfl rfl ?_
  refine ez_iload_n (q := 14) 1 dX6_goUntil_13 rfl rfl rfl ?_
  refine cUv (q := 17) dX6_goUntil_14 ck_X6_37 (t_X6_has (lt31 (Nat.lt_of_le_of_lt Nat.and_le_right (lvN_lt T n' f L)) hn) (by omega)) rfl rfl rfl (Nat.le_of_ble_eq_true rfl) rfl ?_
  refine ez_ifneB (q := 20) (tgt := 33) dX6_goUntil_17 (by decide) rfl (fun hc17 => ?_) (fun hc17 => ?_)
  · have e0 : (dsN T n' y (s &&& lvN T n' f L) 10) w = 0 := Nat.le_zero.mp ((ds_iff (k := 0) (by decide)).mpr ((tb_1 _ _).mp (of_decide_eq_true hc17)))
    rw [e0, wyN, List.append_nil] at hQ
    exact ez_vret dX6_goUntil_33 rfl (hQ _ _ _ _ hM hrw)
  · have hg9 : (s &&& lvN T n' f L) < 2 ^ n' := Nat.lt_of_le_of_lt Nat.and_le_right (lvN_lt T n' f L)
    obtain ⟨k, hk⟩ : ∃ k, (dsN T n' y (s &&& lvN T n' f L) 10) w = k + 1 := by cases hh : (dsN T n' y (s &&& lvN T n' f L) 10) w with | zero => exact absurd ((tb_1 _ _).mpr ((ds_iff (k := 0) (by decide)).mp (Nat.le_of_eq hh))) (of_decide_eq_false hc17) | succ k => exact ⟨k, rfl⟩
    have hu9 : ∀ v, v < n' → ∀ j m, (T v).testBit j = true → (laN T n' y (s &&& lvN T n' f L) m).testBit j = true → (2 ^ n' - 1).testBit j = true := fun v hv j m hj _ => (all_bit (ho.2.2.2.1 v hv) hj).2
    obtain ⟨b, c1, c2, c3, c4, c5, c6⟩ := nx_dn (u := 2 ^ n' - 1) hg9 (hu9 w hw) (by omega) hk
    have e9 : (dsN T n' y (s &&& lvN T n' f L) 10) ((nxN T n' (2 ^ n' - 1) (dsN T n' y (s &&& lvN T n' f L) 10)) w) + 1 = (dsN T n' y (s &&& lvN T n' f L) 10) w := by rw [c2, c6, hk]
    refine ez_aload_n (q := 21) 0 dX6_goUntil_20 rfl rfl rfl ?_
    refine ez_iload_n (q := 22) 2 dX6_goUntil_21 rfl rfl rfl ?_
    refine ez_iload (q := 24) dX6_goUntil_22 rfl rfl ?_
    refine cX0 (q := 27) dX6_goUntil_24 ck_X6_94 hM.2.1 (t_X6_layOut hM.rb (hS.to (fun j a b => hM.fr j (by omega))) ho) rfl ⟨by decide, rfl⟩ rfl rfl rfl (Nat.le_of_ble_eq_true rfl) rfl (fun g hW => ?_)
    obtain ⟨la, hM2, hla⟩ := hW
    have hM := hM.tr hM2
    refine ez_aload_n (q := 28) 0 dX6_goUntil_27 rfl rfl rfl ?_
    refine ez_iload_n (q := 29) 1 dX6_goUntil_28 rfl rfl rfl ?_
    refine cXv (q := 32) dX6_goUntil_29 ck_X6_97 hM.2.1 (t_X6_walk hM.rb hrw (hS.to (fun j a b => hM.fr j (by omega))) ho hla hg9 hu9 hw ⟨b, k, by omega, c4, (ds_iff (by omega)).mp (Nat.le_of_eq c6)⟩ (by rw [List.length_append, wy_len, e9]; omega)) rfl ⟨by decide, rfl⟩ rfl rfl rfl (Nat.le_of_ble_eq_true rfl) rfl (fun g hW => ?_)
    obtain ⟨rw, hM2, hrw⟩ := hW
    have hM := hM.tr hM2
    rw [e9] at hM hrw
    refine ez_pop (q := 33) dX6_goUntil_32 rfl rfl ?_
    exact ez_vret dX6_goUntil_33 rfl (hQ _ _ _ _ hM hrw)

set_option maxHeartbeats 800000 in
set_option maxRecDepth 100000 in
theorem t_X6_goAround {G : ez_G} {d n : Nat} {h : ez_H} {n' f : Nat} {L T ln : Nat → Nat} {sg : Nat → Nat → Nat} {r : Nat} {rw la : Nat → Int32} {l : List Nat} {w a : Nat} (hM : WW  h h (nI (2 ^ n' - 1)) (nI (lvN T n' f L)) (nI r) (nI (goW n' f L)) (nI l.length) rw la) (hrw : RW rw l) (hS : SS 2 h n' f L T ln sg) (ho : OK n' f L T ln sg) (hl : l.length ≤ 1) (ha : a < 2 ^ n') (hwa : (stN T n' f L a).testBit w = true) : Con G mX6_goAround (d + 3) [.ref 48, .int (nI w), .int (nI a)] h n 0 0 (PW n none (fun g => ∃ (rw2 la2 : Nat → Int32) (r2 : Nat), WW  h g (nI (2 ^ n' - 1)) (nI (lvN T n' f L)) (nI r2) (nI (goW n' f L)) (nI (l ++ rdL (nxN T n' (stN T n' f L a) (dsN T n' (stN T n' f L a) (goN n' f L (stN T n' f L a)) 10)) (dsN T n' (stN T n' f L a) (goN n' f L (stN T n' f L a)) 10) 11 w 0).length) rw2 la2 ∧ RW rw2 (l ++ rdL (nxN T n' (stN T n' f L a) (dsN T n' (stN T n' f L a) (goN n' f L (stN T n' f L a)) 10)) (dsN T n' (stN T n' f L a) (goN n' f L (stN T n' f L a)) 10) 11 w 0))) := by
  have hn := ho.1
  refine Con.of [some (.ref 48), some (.int (nI w)), some (.int (nI a)), none, none, none, none] pl_X6 rfl (Nat.le_of_ble_eq_true rfl) rfl ?_
  have hQ : ∀ g (rw2 la2 : Nat → Int32) (r2 : Nat), WW  h g (nI (2 ^ n' - 1)) (nI (lvN T n' f L)) (nI r2) (nI (goW n' f L)) (nI (l ++ rdL (nxN T n' (stN T n' f L a) (dsN T n' (stN T n' f L a) (goN n' f L (stN T n' f L a)) 10)) (dsN T n' (stN T n' f L a) (goN n' f L (stN T n' f L a)) 10) 11 w 0).length) rw2 la2 → RW rw2 (l ++ rdL (nxN T n' (stN T n' f L a) (dsN T n' (stN T n' f L a) (goN n' f L (stN T n' f L a)) 10)) (dsN T n' (stN T n' f L a) (goN n' f L (stN T n' f L a)) 10) 11 w 0) → (PW n none (fun g => ∃ (rw2 la2 : Nat → Int32) (r2 : Nat), WW  h g (nI (2 ^ n' - 1)) (nI (lvN T n' f L)) (nI r2) (nI (goW n' f L)) (nI (l ++ rdL (nxN T n' (stN T n' f L a) (dsN T n' (stN T n' f L a) (goN n' f L (stN T n' f L a)) 10)) (dsN T n' (stN T n' f L a) (goN n' f L (stN T n' f L a)) 10) 11 w 0).length) rw2 la2 ∧ RW rw2 (l ++ rdL (nxN T n' (stN T n' f L a) (dsN T n' (stN T n' f L a) (goN n' f L (stN T n' f L a)) 10)) (dsN T n' (stN T n' f L a) (goN n' f L (stN T n' f L a)) 10) 11 w 0))) (.inl none) g n := fun g rw2 la2 r2 h1 h2 => ⟨rfl, ⟨rw2, la2, r2, h1, h2⟩, rfl⟩
  generalize PW n none (fun g => ∃ (rw2 la2 : Nat → Int32) (r2 : Nat), WW  h g (nI (2 ^ n' - 1)) (nI (lvN T n' f L)) (nI r2) (nI (goW n' f L)) (nI (l ++ rdL (nxN T n' (stN T n' f L a) (dsN T n' (stN T n' f L a) (goN n' f L (stN T n' f L a)) 10)) (dsN T n' (stN T n' f L a) (goN n' f L (stN T n' f L a)) 10) 11 w 0).length) rw2 la2 ∧ RW rw2 (l ++ rdL (nxN T n' (stN T n' f L a) (dsN T n' (stN T n' f L a) (goN n' f L (stN T n' f L a)) 10)) (dsN T n' (stN T n' f L a) (goN n' f L (stN T n' f L a)) 10) 11 w 0)) = Q at hQ ⊢
  refine ez_aload_n (q := 1) 0 dX6_goAround_0 rfl rfl rfl ?_
  refine ez_getf (q := 4) dX6_goAround_1 fl_X6_32 hM.2.1 rfl rfl ?_
  refine ez_iload_n (q := 5) 2 dX6_goAround_4 rfl rfl rfl ?_
  refine cXv (q := 8) dX6_goAround_5 ck_X6_100 hM.1 (t_X0_always hM.fw (hS.to (fun j a b => hM.fr j (by omega))) ho (by omega) ha (fun w hw => go_ok hw)) rfl ⟨by decide, rfl⟩ rfl rfl rfl (Nat.le_of_ble_eq_true rfl) rfl (fun g hW => ?_)
  have hM := hM.set_fw hW
  have hsty := sty_st (f := f) (L := L) (T := T) hn ha
  have hY := st_lt T n' f L ha
  have hu9 : ∀ v, v < n' → ∀ j m, (T v).testBit j = true → (laN T n' (stN T n' f L a) (goN n' f L (stN T n' f L a)) m).testBit j = true → (stN T n' f L a).testBit j = true := fun v _ j m _ hj => la_in hsty m j hj
  refine ez_istore_3 (q := 9) dX6_goAround_8 rfl (by decide) rfl rfl ?_
  refine ez_aload_n (q := 10) 0 dX6_goAround_9 rfl rfl rfl ?_
  refine ez_iload_n (q := 11) 3 dX6_goAround_10 rfl rfl rfl ?_
  refine ez_iload_n (q := 12) 3 dX6_goAround_11 rfl rfl rfl ?_
  refine ez_aload_n (q := 13) 0 dX6_goAround_12 rfl rfl rfl ?_
  refine ez_getf (q := 16) dX6_goAround_13 fl_X6_32 hM.2.1 rfl rfl ?_
  refine ez_getf (q := 19) dX6_goAround_16 fl_X6_103 hM.1 rfl rfl ?_
  refine ez_iandN (q := 20) dX6_goAround_19 rfl ?_
  refine ez_top (congrArg nI (go_ok hY)) ?_
  refine cX0 (q := 23) dX6_goAround_20 ck_X6_94 hM.2.1 (t_X6_layOut hM.rb (hS.to (fun j a b => hM.fr j (by omega))) ho) rfl ⟨by decide, rfl⟩ rfl rfl rfl (Nat.le_of_ble_eq_true rfl) rfl (fun g hW => ?_)
  obtain ⟨la, hM2, hla⟩ := hW
  have hM := hM.tr hM2
  refine ez_iload_n (q := 24) 1 dX6_goAround_23 rfl rfl rfl ?_
  refine ez_istore_4 (q := 26) dX6_goAround_24 (by decide) rfl rfl ?_
  refine ez_iconst (v := nI 0) (q := 27) dX6_goAround_26 (by decide) rfl ?_
  refine ez_istore_5 (q := 29) dX6_goAround_27 (by decide) rfl rfl ?_
  refine ez_iconst (v := nI 0) (q := 30) dX6_goAround_29 (by decide) rfl ?_
  refine ez_istore_6 (q := 32) dX6_goAround_30 (by decide) rfl rfl ?_
  refine ez_loop (α := Nat × Nat × Nat) (fun z99 => match z99 with | (k, v, mt) => 11 - k) (P := fun z99 => match z99 with | (k, v, mt) => ∀ (g : ez_H) (rw2 la2 : Nat → Int32) (l2 : List Nat) (r2 : Nat), WW  h g (nI (2 ^ n' - 1)) (nI (lvN T n' f L)) (nI r2) (nI (goW n' f L)) (nI l2.length) rw2 la2 → (k ≤ 11) → ((stN T n' f L a).testBit v = true) → (mt < 2 ^ n') → (RW rw2 l2) → (l2 ++ rdL (nxN T n' (stN T n' f L a) (dsN T n' (stN T n' f L a) (goN n' f L (stN T n' f L a)) 10)) (dsN T n' (stN T n' f L a) (goN n' f L (stN T n' f L a)) 10) (11 - k) v mt = l ++ rdL (nxN T n' (stN T n' f L a) (dsN T n' (stN T n' f L a) (goN n' f L (stN T n' f L a)) 10)) (dsN T n' (stN T n' f L a) (goN n' f L (stN T n' f L a)) 10) 11 w 0) → (∀ j, j ≤ 10 → la2 j = nI (laN T n' (stN T n' f L a) (goN n' f L (stN T n' f L a)) j)) → E G mX6_goAround (d + 3) Q g n 0 0 32 [some (.ref 48), some (.int (nI w)), some (.int (nI a)), some (.int (nI (stN T n' f L a))), some (.int (nI v)), some (.int (nI mt)), some (.int (nI k))] []) ?_ (0, w, 0) g _ _ _ _ hM (by omega) hwa (Nat.two_pow_pos n') hrw rfl hla
  rintro ⟨k, v, mt⟩ ih32
  dsimp only at ih32 ⊢
  obtain ⟨μ32, hμ32⟩ : ∃ y99, y99 = 11 - k := ⟨_, rfl⟩
  rw [← hμ32] at ih32
  have ih32 : ∀ (k : Nat) (v : Nat) (mt : Nat), 11 - k < μ32 → ∀ (g : ez_H) (rw2 la2 : Nat → Int32) (l2 : List Nat) (r2 : Nat), WW  h g (nI (2 ^ n' - 1)) (nI (lvN T n' f L)) (nI r2) (nI (goW n' f L)) (nI l2.length) rw2 la2 → (k ≤ 11) → ((stN T n' f L a).testBit v = true) → (mt < 2 ^ n') → (RW rw2 l2) → (l2 ++ rdL (nxN T n' (stN T n' f L a) (dsN T n' (stN T n' f L a) (goN n' f L (stN T n' f L a)) 10)) (dsN T n' (stN T n' f L a) (goN n' f L (stN T n' f L a)) 10) (11 - k) v mt = l ++ rdL (nxN T n' (stN T n' f L a) (dsN T n' (stN T n' f L a) (goN n' f L (stN T n' f L a)) 10)) (dsN T n' (stN T n' f L a) (goN n' f L (stN T n' f L a)) 10) 11 w 0) → (∀ j, j ≤ 10 → la2 j = nI (laN T n' (stN T n' f L a) (goN n' f L (stN T n' f L a)) j)) → E G mX6_goAround (d + 3) Q g n 0 0 32 [some (.ref 48), some (.int (nI w)), some (.int (nI a)), some (.int (nI (stN T n' f L a))), some (.int (nI v)), some (.int (nI mt)), some (.int (nI k))] [] := fun k v mt => ih32 (k, v, mt)
  intro g rw2 la2 l2 r2 hM hk hv hmt hrw ht hla
  refine ez_iload (q := 34) dX6_goAround_32 rfl rfl ?_
  refine ez_bipush (v := nI 10) (q := 36) dX6_goAround_34 (by decide) rfl ?_
  refine ez_icmpgtN (q := 39) (tgt := 79) dX6_goAround_36 (by decide) (by omega) (by omega) rfl (fun hc36 => ?_) (fun hc36 => ?_)
  · rw [show 11 - k = 0 by omega, rdL, List.append_nil] at ht
    rw [← ht] at hQ
    exact ez_vret dX6_goAround_79 rfl (hQ _ _ _ _ hM hrw)
  · obtain ⟨m, hm⟩ : ∃ m, 11 - k = m + 1 := ⟨10 - k, by omega⟩
    obtain ⟨b, b1, b2, b3, b4, b5⟩ := sty_nx hsty hv
    have hvn := (all_bit hY hv).1
    have hTb : (T v).testBit b = true := (tb_1 _ _).mp (bs_can _ _ b1).1
    have htl := congrArg List.length ht
    rw [List.length_append, List.length_append] at htl
    have hl11 := sty_len hsty 11 w 0 hwa
    obtain ⟨v2, hve⟩ : ∃ v2, v2 = itN (nxN T n' (stN T n' f L a) (dsN T n' (stN T n' f L a) (goN n' f L (stN T n' f L a)) 10)) ((dsN T n' (stN T n' f L a) (goN n' f L (stN T n' f L a)) 10) ((nxN T n' (stN T n' f L a) (dsN T n' (stN T n' f L a) (goN n' f L (stN T n' f L a)) 10)) v) + 1) v := ⟨_, rfl⟩
    have hrd : rdL (nxN T n' (stN T n' f L a) (dsN T n' (stN T n' f L a) (goN n' f L (stN T n' f L a)) 10)) (dsN T n' (stN T n' f L a) (goN n' f L (stN T n' f L a)) 10) (11 - k) v mt = wyN (nxN T n' (stN T n' f L a) (dsN T n' (stN T n' f L a) (goN n' f L (stN T n' f L a)) 10)) ((dsN T n' (stN T n' f L a) (goN n' f L (stN T n' f L a)) 10) ((nxN T n' (stN T n' f L a) (dsN T n' (stN T n' f L a) (goN n' f L (stN T n' f L a)) 10)) v) + 1) v ++ if (mt >>> v2) &&& 1 = 1 then [] else rdL (nxN T n' (stN T n' f L a) (dsN T n' (stN T n' f L a) (goN n' f L (stN T n' f L a)) 10)) (dsN T n' (stN T n' f L a) (goN n' f L (stN T n' f L a)) 10) (11 - (k + 1)) v2 (mt ||| 2 ^ v2) := by rw [hm, rdL, ← hve, show 11 - (k + 1) = m by omega]
    have hv2 : (stN T n' f L a).testBit v2 = true := by rw [hve]; exact sty_it hsty _ v hv
    have hv2n := (all_bit hY hv2).1
    have hwl : (l2 ++ wyN (nxN T n' (stN T n' f L a) (dsN T n' (stN T n' f L a) (goN n' f L (stN T n' f L a)) 10)) ((dsN T n' (stN T n' f L a) (goN n' f L (stN T n' f L a)) 10) ((nxN T n' (stN T n' f L a) (dsN T n' (stN T n' f L a) (goN n' f L (stN T n' f L a)) 10)) v) + 1) v).length ≤ 111 := by rw [hrd, List.length_append] at htl; rw [List.length_append]; omega
    refine ez_aload_n (q := 40) 0 dX6_goAround_39 rfl rfl rfl ?_
    refine ez_iload (q := 42) dX6_goAround_40 rfl rfl ?_
    refine cXv (q := 45) dX6_goAround_42 ck_X6_97 hM.2.1 (t_X6_walk hM.rb hrw (hS.to (fun j a b => hM.fr j (by omega))) ho hla hsty.2.1 hu9 hvn ⟨b, 9, by decide, hTb, (ds_iff (by decide)).mp b5⟩ hwl) rfl ⟨by decide, rfl⟩ rfl rfl rfl (Nat.le_of_ble_eq_true rfl) rfl (fun g hW => ?_)
    obtain ⟨rw, hM2, hrw⟩ := hW
    have hM := hM.tr hM2
    rw [← hve]
    refine ez_istore_4 (q := 47) dX6_goAround_45 (by decide) rfl rfl ?_
    refine ez_iload (q := 49) dX6_goAround_47 rfl rfl ?_
    refine ez_iconst (v := -1) (q := 50) dX6_goAround_49 (by decide) rfl ?_
    refine ez_icmpeq (q := 53) (tgt := 63) dX6_goAround_50 (by decide) rfl (fun hc50 => absurd hc50 (nI_m1 (by omega))) (fun hc50 => ?_)
    refine ez_iload (q := 55) dX6_goAround_53 rfl rfl ?_
    refine ez_iload (q := 57) dX6_goAround_55 rfl rfl ?_
    refine cUv (q := 60) dX6_goAround_57 ck_X6_37 (t_X6_has (lt31 hmt hn) (by omega)) rfl rfl rfl (Nat.le_of_ble_eq_true rfl) rfl ?_
    refine ez_ifeqB (q := 63) (tgt := 64) dX6_goAround_60 (by decide) rfl (fun hc60 => ?_) (fun hc60 => ?_)
    · refine ez_iload (q := 66) dX6_goAround_64 rfl rfl ?_
      refine ez_iconst (v := nI 1) (q := 67) dX6_goAround_66 (by decide) rfl ?_
      refine ez_iload (q := 69) dX6_goAround_67 rfl rfl ?_
      refine ez_shl1 (q := 70) dX6_goAround_69 (by omega) rfl ?_
      refine ez_iorN (q := 71) dX6_goAround_70 rfl ?_
      refine ez_istore_5 (q := 73) dX6_goAround_71 (by decide) rfl rfl ?_
      refine ez_iincN_6 (q := 76) dX6_goAround_73 (by decide) rfl rfl ?_
      refine ez_goto (q := 32) dX6_goAround_76 (by decide) ?_
      exact E.fg (ih32 (k + 1) v2 (mt ||| 2 ^ v2) (by omega) g _ _ _ _ hM (by omega) hv2 (or_lt hmt (Nat.pow_lt_pow_right (by decide) hv2n)) hrw (by rw [← ht, hrd, if_neg (of_decide_eq_false hc60), List.append_assoc]) hla) ⟨Or.inr (rfl), Or.inr (rfl), Or.inr (rfl), Or.inr (rfl), Or.inr (rfl), Or.inr (rfl), Or.inr (rfl), trivial⟩
    · rw [hrd, if_pos (of_decide_eq_true hc60), List.append_nil] at ht
      rw [← ht] at hQ
      exact ez_vret dX6_goAround_63 rfl (hQ _ _ _ _ hM hrw)

