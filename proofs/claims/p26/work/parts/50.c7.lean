def WW (h0 h : ez_H) (al : Int32) (li : Int32) (ro : Int32) (go : Int32) (wl : Int32) (rw : Nat → Int32) (la : Nat → Int32) : Prop := h 47 = some (.inr (0, [.ref 2, .int al, .int li, .int ro, .int go])) ∧ h 48 = some (.inr (6, [.ref 41, .ref 47, .ref 49, .int wl, .ref 50])) ∧ h 49 = some (.inl (0, 111, .inl rw)) ∧ h 50 = some (.inl (0, 11, .inl la)) ∧ ∀ j : Nat, (j < 47 ∨ 51 ≤ j) → h j = h0 j
theorem WW.rb {h0 h : ez_H} {al li ro go wl : Int32} {rw la : Nat → Int32} (hM : WW  h0 h al li ro go wl rw la) : WW  h h al li ro go wl rw la := ⟨hM.1, hM.2.1, hM.2.2.1, hM.2.2.2.1, fun _ _ => rfl⟩
theorem WW.tr {h0 h g : ez_H} {al li ro go wl : Int32} {rw la : Nat → Int32} {al' : Int32} {li' : Int32} {ro' : Int32} {go' : Int32} {wl' : Int32} {rw' : Nat → Int32} {la' : Nat → Int32} (hM : WW  h0 h al li ro go wl rw la) (hN : WW  h g al' li' ro' go' wl' rw' la') : WW  h0 g al' li' ro' go' wl' rw' la' := ⟨hN.1, hN.2.1, hN.2.2.1, hN.2.2.2.1, fun j hj => (hN.2.2.2.2 j hj).trans (hM.2.2.2.2 j hj)⟩
theorem WW.fr {h0 h : ez_H} {al li ro go wl : Int32} {rw la : Nat → Int32} (hM : WW  h0 h al li ro go wl rw la) : ∀ j : Nat, (j < 47 ∨ 51 ≤ j) → h j = h0 j := hM.2.2.2.2
theorem pWW_al {G : ez_G} {M : ez_M} {d : Nat} {Q : ez_Q} {h0 h : ez_H} {n mc ms pc q idx : Nat} {ls : List (Option Value)} {st9 : List Value} {al li ro go wl : Int32} {rw la : Nat → Int32} {x : Int32} (hd : decode M.2.1 pc = .ok (.putfield idx, 3)) (hf : ez_fl M.1.cls idx 0 1) (hM : WW  h0 h al li ro go wl rw la) (hq : pc + 3 = q) (K : ∀ g, WW  h0 g x li ro go wl rw la → E G M d Q g n mc ms q ls st9) : E G M d Q h n mc ms pc ls (.int x :: .ref 47 :: st9) := ez_put0 hd hf rfl (fun _ => rfl) (fun _ => rfl) (by decide) hM.1 (by show 1 < 5; decide) hq (K _ ⟨zu_same, zu_keep (by omega) hM.2.1, zu_keep (by omega) hM.2.2.1, zu_keep (by omega) hM.2.2.2.1, fun j hj => zu_fr (by omega) (hM.2.2.2.2 j hj)⟩)
theorem pWW_li {G : ez_G} {M : ez_M} {d : Nat} {Q : ez_Q} {h0 h : ez_H} {n mc ms pc q idx : Nat} {ls : List (Option Value)} {st9 : List Value} {al li ro go wl : Int32} {rw la : Nat → Int32} {x : Int32} (hd : decode M.2.1 pc = .ok (.putfield idx, 3)) (hf : ez_fl M.1.cls idx 0 2) (hM : WW  h0 h al li ro go wl rw la) (hq : pc + 3 = q) (K : ∀ g, WW  h0 g al x ro go wl rw la → E G M d Q g n mc ms q ls st9) : E G M d Q h n mc ms pc ls (.int x :: .ref 47 :: st9) := ez_put0 hd hf rfl (fun _ => rfl) (fun _ => rfl) (by decide) hM.1 (by show 2 < 5; decide) hq (K _ ⟨zu_same, zu_keep (by omega) hM.2.1, zu_keep (by omega) hM.2.2.1, zu_keep (by omega) hM.2.2.2.1, fun j hj => zu_fr (by omega) (hM.2.2.2.2 j hj)⟩)
theorem pWW_ro {G : ez_G} {M : ez_M} {d : Nat} {Q : ez_Q} {h0 h : ez_H} {n mc ms pc q idx : Nat} {ls : List (Option Value)} {st9 : List Value} {al li ro go wl : Int32} {rw la : Nat → Int32} {x : Int32} (hd : decode M.2.1 pc = .ok (.putfield idx, 3)) (hf : ez_fl M.1.cls idx 0 3) (hM : WW  h0 h al li ro go wl rw la) (hq : pc + 3 = q) (K : ∀ g, WW  h0 g al li x go wl rw la → E G M d Q g n mc ms q ls st9) : E G M d Q h n mc ms pc ls (.int x :: .ref 47 :: st9) := ez_put0 hd hf rfl (fun _ => rfl) (fun _ => rfl) (by decide) hM.1 (by show 3 < 5; decide) hq (K _ ⟨zu_same, zu_keep (by omega) hM.2.1, zu_keep (by omega) hM.2.2.1, zu_keep (by omega) hM.2.2.2.1, fun j hj => zu_fr (by omega) (hM.2.2.2.2 j hj)⟩)
theorem pWW_go {G : ez_G} {M : ez_M} {d : Nat} {Q : ez_Q} {h0 h : ez_H} {n mc ms pc q idx : Nat} {ls : List (Option Value)} {st9 : List Value} {al li ro go wl : Int32} {rw la : Nat → Int32} {x : Int32} (hd : decode M.2.1 pc = .ok (.putfield idx, 3)) (hf : ez_fl M.1.cls idx 0 4) (hM : WW  h0 h al li ro go wl rw la) (hq : pc + 3 = q) (K : ∀ g, WW  h0 g al li ro x wl rw la → E G M d Q g n mc ms q ls st9) : E G M d Q h n mc ms pc ls (.int x :: .ref 47 :: st9) := ez_put0 hd hf rfl (fun _ => rfl) (fun _ => rfl) (by decide) hM.1 (by show 4 < 5; decide) hq (K _ ⟨zu_same, zu_keep (by omega) hM.2.1, zu_keep (by omega) hM.2.2.1, zu_keep (by omega) hM.2.2.2.1, fun j hj => zu_fr (by omega) (hM.2.2.2.2 j hj)⟩)
theorem pWW_wl {G : ez_G} {M : ez_M} {d : Nat} {Q : ez_Q} {h0 h : ez_H} {n mc ms pc q idx : Nat} {ls : List (Option Value)} {st9 : List Value} {al li ro go wl : Int32} {rw la : Nat → Int32} {x : Int32} (hd : decode M.2.1 pc = .ok (.putfield idx, 3)) (hf : ez_fl M.1.cls idx 6 3) (hM : WW  h0 h al li ro go wl rw la) (hq : pc + 3 = q) (K : ∀ g, WW  h0 g al li ro go x rw la → E G M d Q g n mc ms q ls st9) : E G M d Q h n mc ms pc ls (.int x :: .ref 48 :: st9) := ez_put0 hd hf rfl (fun _ => rfl) (fun _ => rfl) (by decide) hM.2.1 (by show 3 < 5; decide) hq (K _ ⟨zu_keep (by omega) hM.1, zu_same, zu_keep (by omega) hM.2.2.1, zu_keep (by omega) hM.2.2.2.1, fun j hj => zu_fr (by omega) (hM.2.2.2.2 j hj)⟩)
theorem sWW_rw {G : ez_G} {M : ez_M} {d : Nat} {Q : ez_Q} {h0 h : ez_H} {n mc ms pc q : Nat} {ls : List (Option Value)} {st9 : List Value} {al li ro go wl : Int32} {rw la : Nat → Int32} {j : Nat} {i x : Int32} (hd : decode M.2.1 pc = .ok (.iastore, 1)) (hM : WW  h0 h al li ro go wl rw la) (hi : i = nI j) (hj : j < 111) (hq : pc + 1 = q) (K : ∀ g, WW  h0 g al li ro go wl (upd rw j x) la → E G M d Q g n mc ms q ls st9) : E G M d Q h n mc ms pc ls (.int x :: .int i :: .ref 49 :: st9) := ez_iast hd (by decide) hM.2.2.1 hi hj (by decide) hq (K _ ⟨zu_keep (by omega) hM.1, zu_keep (by omega) hM.2.1, zu_same, zu_keep (by omega) hM.2.2.2.1, fun j hj => zu_fr (by omega) (hM.2.2.2.2 j hj)⟩)
theorem sWW_la {G : ez_G} {M : ez_M} {d : Nat} {Q : ez_Q} {h0 h : ez_H} {n mc ms pc q : Nat} {ls : List (Option Value)} {st9 : List Value} {al li ro go wl : Int32} {rw la : Nat → Int32} {j : Nat} {i x : Int32} (hd : decode M.2.1 pc = .ok (.iastore, 1)) (hM : WW  h0 h al li ro go wl rw la) (hi : i = nI j) (hj : j < 11) (hq : pc + 1 = q) (K : ∀ g, WW  h0 g al li ro go wl rw (upd la j x) → E G M d Q g n mc ms q ls st9) : E G M d Q h n mc ms pc ls (.int x :: .int i :: .ref 50 :: st9) := ez_iast hd (by decide) hM.2.2.2.1 hi hj (by decide) hq (K _ ⟨zu_keep (by omega) hM.1, zu_keep (by omega) hM.2.1, zu_keep (by omega) hM.2.2.1, zu_same, fun j hj => zu_fr (by omega) (hM.2.2.2.2 j hj)⟩)
theorem WW.fw {h0 h : ez_H} {al li ro go wl : Int32} {rw la : Nat → Int32} (hM : WW  h0 h al li ro go wl rw la) : FW 47 2 h h al li ro go := ⟨by decide, hM.1, fun _ _ => rfl⟩
theorem WW.set_fw {h0 h g : ez_H} {al li ro go wl : Int32} {rw la : Nat → Int32} {al' li' ro' go' : Int32} (hM : WW  h0 h al li ro go wl rw la) (hN : FW 47 2 h g al' li' ro' go') : WW  h0 g al' li' ro' go' wl rw la := ⟨hN.2.1, (hN.fr 48 (by omega)).trans hM.2.1, (hN.fr 49 (by omega)).trans hM.2.2.1, (hN.fr 50 (by omega)).trans hM.2.2.2.1, fun j hj => (hN.fr j (by omega)).trans (hM.fr j hj)⟩
theorem lo_ok {s : Nat} : ∀ f i, (∃ j, i ≤ j ∧ j < i + f ∧ s.testBit j = true) → s.testBit (loN s i f) = true ∧ (∀ j, i ≤ j → s.testBit j = true → loN s i f ≤ j) := by
  intro f
  induction f with
  | zero => intro i ⟨j, h1, h2, h3⟩; omega
  | succ f ih =>
    intro i ⟨j, h1, h2, h3⟩
    by_cases hc : (s >>> i) &&& 1 = 1
    · rw [lo_t hc]; exact ⟨(tb_1 _ _).mp hc, fun j hj _ => hj⟩
    · rw [lo_f hc]
      have hi : ¬ s.testBit i = true := fun a => hc ((tb_1 _ _).mpr a)
      obtain ⟨q1, q2⟩ := ih (i + 1) ⟨j, by by_cases e : j = i; { rw [e] at h3; exact absurd h3 hi }; { omega }, by omega, h3⟩
      exact ⟨q1, fun j hj hb => q2 j (by by_cases e : j = i; { rw [e] at hb; exact absurd hb hi }; { omega }) hb⟩
section
variable {T : Nat → Nat} {n y g u w : Nat}
/-- the best next world lies in the nearest layer, as its lowest -/
theorem nx_near (hn : n ≤ 10) (hg : g < 2 ^ n) (hu : ∀ j m, (T w).testBit j = true → (laN T n y g m).testBit j = true → u.testBit j = true) {j k : Nat} (hk : k ≤ 10) (h1 : (T w).testBit j = true) (h2 : (laN T n y g k).testBit j = true) :
    nxN T n u (dsN T n y g 10) w < n ∧ dsN T n y g 10 (nxN T n u (dsN T n y g 10) w) ≤ k ∧ (T w).testBit (nxN T n u (dsN T n y g 10) w) = true ∧ (∀ m, m < dsN T n y g 10 (nxN T n u (dsN T n y g 10) w) → T w &&& laN T n y g m = 0) ∧ ¬ T w &&& laN T n y g (dsN T n y g 10 (nxN T n u (dsN T n y g 10) w)) = 0 ∧ loN (T w &&& laN T n y g (dsN T n y g 10 (nxN T n u (dsN T n y g 10) w))) 0 10 = nxN T n u (dsN T n y g 10) w := by
  have hjn : ∀ i m, (laN T n y g m).testBit i = true → i < n := fun i m hi => (all_bit (la_lt hg m) hi).1
  obtain ⟨b, b1, b2, b3, b4, b5, b6⟩ := nx_ok (u := u) hk (hjn j k h2) h1 (hu j k h1 h2) h2
  rw [b2]
  have hin : (laN T n y g (dsN T n y g 10 b)).testBit b = true := (ds_iff (by omega)).mp (Nat.le_refl _)
  have hmin : ∀ i m, m ≤ 10 → (T w).testBit i = true → (laN T n y g m).testBit i = true → dsN T n y g 10 b ≤ m ∧ (dsN T n y g 10 b = m → b ≤ i) := by
    intro i m hm hi1 hi2
    have hd := (ds_iff (T := T) (n := n) (y := y) (g := g) (i := i) hm).mpr hi2
    obtain ⟨c, hc, hc2⟩ := bs_best (s := T w) (u := u) (d := dsN T n y g 10) n i (hjn i m hi2) ((tb_1 _ _).mpr hi1) ((tb_1 _ _).mpr (hu i m hi1 hi2)) (by omega)
    rw [b1] at hc
    have hcb : b = c := Option.some.inj hc
    subst hcb
    omega
  have hbb : (T w &&& laN T n y g (dsN T n y g 10 b)).testBit b = true := by rw [Nat.testBit_and, b4, hin]; rfl
  have hex : ∀ x, x ≠ 0 → ∃ i, x.testBit i = true := fun x hx => Classical.byContradiction (fun hno => hx (Nat.eq_of_testBit_eq (fun i => by
    rw [Nat.zero_testBit]
    cases hb : x.testBit i with
    | false => rfl
    | true => exact absurd ⟨i, hb⟩ hno)))
  refine ⟨b3, b6, b4, fun m hm => ?_, fun e => ?_, ?_⟩
  · refine Classical.byContradiction (fun hno => ?_)
    obtain ⟨i, hi⟩ := hex _ hno
    rw [Nat.testBit_and, Bool.and_eq_true] at hi
    have := (hmin i m (by omega) hi.1 hi.2).1
    omega
  · rw [e, Nat.zero_testBit] at hbb; cases hbb
  · obtain ⟨q1, q2⟩ := lo_ok (s := T w &&& laN T n y g (dsN T n y g 10 b)) 10 0 ⟨b, Nat.zero_le b, by omega, hbb⟩
    have h3 := q2 b (Nat.zero_le b) hbb
    rw [Nat.testBit_and, Bool.and_eq_true] at q1
    have h4 := (hmin _ _ (by omega) q1.1 q1.2).2 rfl
    omega
end
