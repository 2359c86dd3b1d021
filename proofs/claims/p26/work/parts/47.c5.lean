theorem bN_11 {T : Nat → Nat} {n w g : Nat} (hn : n ≤ 10) : bN T n w g 11 = bN T n w g 10 := Classical.byContradiction (fun e => by have := bN_go hn e; omega)
/-- the last number but one, -1 ahead of the first -/
def bpI (T : Nat → Nat) (n w g : Nat) : Nat → Int32
  | 0 => -1
  | j + 1 => nI (bN T n w g j)
/-- the worlds of which one must come without end -/
def goW (n f : Nat) (L : Nat → Nat) : Nat := if f = 4 then 2 ^ n - 1 else wlN L f n
theorem and_all {s n : Nat} (hs : s < 2 ^ n) : s &&& (2 ^ n - 1) = s := by rw [Nat.and_two_pow_sub_one_eq_mod, Nat.mod_eq_of_lt hs]
theorem go_ok {n f s : Nat} {L : Nat → Nat} (hs : s < 2 ^ n) : s &&& goW n f L = goN n f L s := by
  rw [goW, goN]
  split
  · exact and_all hs
  · rfl
theorem goW_lt {n f : Nat} {L : Nat → Nat} : goW n f L < 2 ^ n := by
  rw [goW]; split
  · exact al_lt n
  · exact wlN_lt _ _ _
section
variable {T : Nat → Nat} {n f : Nat} {L : Nat → Nat} {a b : Nat}
theorem someS_88 : someS T n f L 88 a b = inN T (a &&& lvN T n f L) n := by rw [someS, if_pos rfl, Nat.and_comm]
theorem someS_70 : someS T n f L 70 a b = unN T n (2 ^ n - 1) (a &&& lvN T n f L) := by rw [someS, if_neg (by decide), if_pos rfl, Nat.and_comm]
theorem someS_71 : someS T n f L 71 a b = stN T n f L a := by rw [someS, if_neg (by decide), if_neg (by decide), if_pos rfl]
theorem someS_85 : someS T n f L 85 a b = unN T n a (b &&& lvN T n f L) := by rw [someS, if_neg (by decide), if_neg (by decide), if_neg (by decide), Nat.and_comm]
theorem someR_88 : someR T n f L 88 a b = 0 := by rw [someR, if_pos rfl]
theorem someR_70 : someR T n f L 70 a b = urN T n (2 ^ n - 1) (a &&& lvN T n f L) := by rw [someR, if_neg (by decide), if_pos rfl, Nat.and_comm]
theorem someR_71 : someR T n f L 71 a b = srN T n f L a := by rw [someR, if_neg (by decide), if_neg (by decide), if_pos rfl]
theorem someR_85 : someR T n f L 85 a b = urN T n a (b &&& lvN T n f L) := by rw [someR, if_neg (by decide), if_neg (by decide), if_neg (by decide), Nat.and_comm]
/-- where a wish of all ways does not hold -/
def evX (T : Nat → Nat) (n f : Nat) (L : Nat → Nat) (c a b : Nat) : Nat := if c = 88 then inN T (ndN (lvN T n f L) a) n else if c = 70 then stN T n f L (ndN (2 ^ n - 1) a) else if c = 71 then unN T n (2 ^ n - 1) (lvN T n f L &&& ndN (2 ^ n - 1) a) else unN T n (ndN (2 ^ n - 1) b) (lvN T n f L &&& ndN (ndN (2 ^ n - 1) b) a) ||| stN T n f L (ndN (2 ^ n - 1) b)
theorem evX_S (c : Nat) : evryS T n f L c a b = ndN (2 ^ n - 1) (evX T n f L c a b) := rfl
theorem nd_and1 {x : Nat} (hx : x < 2 ^ n) : ndN (2 ^ n - 1) a &&& x = ndN x a := by
  apply Nat.eq_of_testBit_eq
  intro i
  rw [Nat.testBit_and, ndN_bit, ndN_bit]
  cases hi : x.testBit i with
  | false => simp
  | true => rw [(all_bit hx hi).2]; simp
theorem nd_and2 : ndN (2 ^ n - 1) b &&& ndN (2 ^ n - 1) a = ndN (ndN (2 ^ n - 1) b) a := by rw [nd_nd, Nat.and_comm]
theorem evX_88 : evX T n f L 88 a b = inN T (ndN (2 ^ n - 1) a &&& lvN T n f L) n := by rw [evX, if_pos rfl, nd_and1 (lvN_lt T n f L)]
theorem evX_70 : evX T n f L 70 a b = stN T n f L (ndN (2 ^ n - 1) a) := by rw [evX, if_neg (by decide), if_pos rfl]
theorem evX_71 : evX T n f L 71 a b = unN T n (2 ^ n - 1) (ndN (2 ^ n - 1) a &&& lvN T n f L) := by rw [evX, if_neg (by decide), if_neg (by decide), if_pos rfl, Nat.and_comm]
theorem evX_85 : evX T n f L 85 a b = unN T n (ndN (2 ^ n - 1) b) ((ndN (2 ^ n - 1) b &&& ndN (2 ^ n - 1) a) &&& lvN T n f L) ||| stN T n f L (ndN (2 ^ n - 1) b) := by rw [evX, if_neg (by decide), if_neg (by decide), if_neg (by decide), nd_and2, Nat.and_comm]
theorem evR_88 : evryR T n f L 88 a b = 0 := by rw [evryR, if_pos rfl]
theorem evR_70 : evryR T n f L 70 a b = srN T n f L (ndN (2 ^ n - 1) a) := by rw [evryR, if_neg (by decide), if_pos rfl]
theorem evR_71 : evryR T n f L 71 a b = urN T n (2 ^ n - 1) (ndN (2 ^ n - 1) a &&& lvN T n f L) := by rw [evryR, if_neg (by decide), if_neg (by decide), if_pos rfl, Nat.and_comm]
theorem evR_85 : evryR T n f L 85 a b = urN T n (ndN (2 ^ n - 1) b) ((ndN (2 ^ n - 1) b &&& ndN (2 ^ n - 1) a) &&& lvN T n f L) + srN T n f L (ndN (2 ^ n - 1) b) := by rw [evryR, if_neg (by decide), if_neg (by decide), if_neg (by decide), nd_and2, Nat.and_comm]
end
def FW (jf ia : Nat) (h0 h : ez_H) (al : Int32) (li : Int32) (ro : Int32) (go : Int32) : Prop := 0 < jf ∧ h jf = some (.inr (0, [.ref ia, .int al, .int li, .int ro, .int go])) ∧ ∀ j : Nat, (j < jf ∨ jf + 1 ≤ j) → h j = h0 j
theorem FW.rb {jf ia : Nat} {h0 h : ez_H} {al li ro go : Int32} (hM : FW jf ia h0 h al li ro go) : FW jf ia h h al li ro go := ⟨hM.1, hM.2.1, fun _ _ => rfl⟩
theorem FW.tr {jf ia : Nat} {h0 h g : ez_H} {al li ro go : Int32} {al' : Int32} {li' : Int32} {ro' : Int32} {go' : Int32} (hM : FW jf ia h0 h al li ro go) (hN : FW jf ia h g al' li' ro' go') : FW jf ia h0 g al' li' ro' go' := ⟨hN.1, hN.2.1, fun j hj => (hN.2.2 j hj).trans (hM.2.2 j hj)⟩
theorem FW.fr {jf ia : Nat} {h0 h : ez_H} {al li ro go : Int32} (hM : FW jf ia h0 h al li ro go) : ∀ j : Nat, (j < jf ∨ jf + 1 ≤ j) → h j = h0 j := hM.2.2
theorem pFW_al {G : ez_G} {M : ez_M} {d : Nat} {Q : ez_Q} {h0 h : ez_H} {n mc ms pc q idx : Nat} {ls : List (Option Value)} {st9 : List Value} {jf ia : Nat} {al li ro go : Int32} {x : Int32} (hd : decode M.2.1 pc = .ok (.putfield idx, 3)) (hf : ez_fl M.1.cls idx 0 1) (hM : FW jf ia h0 h al li ro go) (hq : pc + 3 = q) (K : ∀ g, FW jf ia h0 g x li ro go → E G M d Q g n mc ms q ls st9) : E G M d Q h n mc ms pc ls (.int x :: .ref jf :: st9) := ez_put0 hd hf rfl (fun _ => rfl) (fun _ => rfl) hM.1 hM.2.1 (by show 1 < 5; decide) hq (K _ ⟨hM.1, zu_same, fun j hj => zu_fr (by omega) (hM.2.2 j hj)⟩)
theorem pFW_li {G : ez_G} {M : ez_M} {d : Nat} {Q : ez_Q} {h0 h : ez_H} {n mc ms pc q idx : Nat} {ls : List (Option Value)} {st9 : List Value} {jf ia : Nat} {al li ro go : Int32} {x : Int32} (hd : decode M.2.1 pc = .ok (.putfield idx, 3)) (hf : ez_fl M.1.cls idx 0 2) (hM : FW jf ia h0 h al li ro go) (hq : pc + 3 = q) (K : ∀ g, FW jf ia h0 g al x ro go → E G M d Q g n mc ms q ls st9) : E G M d Q h n mc ms pc ls (.int x :: .ref jf :: st9) := ez_put0 hd hf rfl (fun _ => rfl) (fun _ => rfl) hM.1 hM.2.1 (by show 2 < 5; decide) hq (K _ ⟨hM.1, zu_same, fun j hj => zu_fr (by omega) (hM.2.2 j hj)⟩)
theorem pFW_ro {G : ez_G} {M : ez_M} {d : Nat} {Q : ez_Q} {h0 h : ez_H} {n mc ms pc q idx : Nat} {ls : List (Option Value)} {st9 : List Value} {jf ia : Nat} {al li ro go : Int32} {x : Int32} (hd : decode M.2.1 pc = .ok (.putfield idx, 3)) (hf : ez_fl M.1.cls idx 0 3) (hM : FW jf ia h0 h al li ro go) (hq : pc + 3 = q) (K : ∀ g, FW jf ia h0 g al li x go → E G M d Q g n mc ms q ls st9) : E G M d Q h n mc ms pc ls (.int x :: .ref jf :: st9) := ez_put0 hd hf rfl (fun _ => rfl) (fun _ => rfl) hM.1 hM.2.1 (by show 3 < 5; decide) hq (K _ ⟨hM.1, zu_same, fun j hj => zu_fr (by omega) (hM.2.2 j hj)⟩)
theorem pFW_go {G : ez_G} {M : ez_M} {d : Nat} {Q : ez_Q} {h0 h : ez_H} {n mc ms pc q idx : Nat} {ls : List (Option Value)} {st9 : List Value} {jf ia : Nat} {al li ro go : Int32} {x : Int32} (hd : decode M.2.1 pc = .ok (.putfield idx, 3)) (hf : ez_fl M.1.cls idx 0 4) (hM : FW jf ia h0 h al li ro go) (hq : pc + 3 = q) (K : ∀ g, FW jf ia h0 g al li ro x → E G M d Q g n mc ms q ls st9) : E G M d Q h n mc ms pc ls (.int x :: .ref jf :: st9) := ez_put0 hd hf rfl (fun _ => rfl) (fun _ => rfl) hM.1 hM.2.1 (by show 4 < 5; decide) hq (K _ ⟨hM.1, zu_same, fun j hj => zu_fr (by omega) (hM.2.2 j hj)⟩)
set_option maxHeartbeats 800000 in
set_option maxRecDepth 100000 in
theorem t_X0_until {G : ez_G} {d n : Nat} {h : ez_H} {jf ia n' f : Nat} {L T ln : Nat → Nat} {sg : Nat → Nat → Nat} {al li ro go : Nat} {y s : Nat} (hM : FW jf ia h h (nI al) (nI li) (nI ro) (nI go)) (hS : SS ia h n' f L T ln sg) (ho : OK n' f L T ln sg) (hj : jf < ia ∨ ia + 5 ≤ jf) (hli : li < 2 ^ n') : Con G mX0_until (d + 1) [.ref jf, .int (nI y), .int (nI s)] h n 0 0 (PW n (some (.int (nI (unN T n' y (s &&& li))))) (fun g => FW jf ia h g (nI al) (nI li) (nI (ro + urN T n' y (s &&& li))) (nI go))) := by
  have hn := ho.1
  refine Con.of [some (.ref jf), some (.int (nI y)), some (.int (nI s)), none, none, none] pl_X0 rfl (Nat.le_of_ble_eq_true rfl) rfl ?_
  have hQ : ∀ g, FW jf ia h g (nI al) (nI li) (nI (ro + urN T n' y (s &&& li))) (nI go) → (PW n (some (.int (nI (unN T n' y (s &&& li))))) (fun g => FW jf ia h g (nI al) (nI li) (nI (ro + urN T n' y (s &&& li))) (nI go))) (.inl (some (.int (nI (unN T n' y (s &&& li)))))) g n := fun g hW => ⟨rfl, hW, rfl⟩
  generalize PW n (some (.int (nI (unN T n' y (s &&& li))))) (fun g => FW jf ia h g (nI al) (nI li) (nI (ro + urN T n' y (s &&& li))) (nI go)) = Q at hQ ⊢
  refine ez_iload_n (q := 1) 2 dX0_until_0 rfl rfl rfl ?_
  refine ez_aload_n (q := 2) 0 dX0_until_1 rfl rfl rfl ?_
  refine ez_getf (q := 5) dX0_until_2 fl_X0_15 hM.2.1 rfl rfl ?_
  refine ez_iandN (q := 6) dX0_until_5 rfl ?_
  refine ez_istore_3 (q := 7) dX0_until_6 rfl (by decide) rfl rfl ?_
  refine ez_iconst (v := nI 0) (q := 8) dX0_until_7 (by decide) rfl ?_
  refine ez_istore_4 (q := 10) dX0_until_8 (by decide) rfl rfl ?_
  refine ez_loop (α := Nat × Nat × Nat) (fun z99 => match z99 with | (w, k, r) => 11 - k) (P := fun z99 => match z99 with | (w, k, r) => ∀ (g : ez_H) , FW jf ia h g (nI al) (nI li) (nI r) (nI go) → (w < 2 ^ n') → (k ≤ 11) → (fxN (uN T n' y) (11 - k) w = unN T n' y (s &&& li)) → (r + frN (uN T n' y) (11 - k) w = ro + urN T n' y (s &&& li)) → E G mX0_until (d + 1) Q g n 0 0 10 [some (.ref jf), some (.int (nI y)), some (.int (nI s)), some (.int (nI w)), some (.int (nI k)), none] []) ?_ ((s &&& li), 0, ro) h hM (Nat.lt_of_le_of_lt Nat.and_le_right hli) (by omega) rfl rfl
  rintro ⟨w, k, r⟩ ih10
  dsimp only at ih10 ⊢
  obtain ⟨μ10, hμ10⟩ : ∃ y99, y99 = 11 - k := ⟨_, rfl⟩
  rw [← hμ10] at ih10
  have ih10 : ∀ (w : Nat) (k : Nat) (r : Nat), 11 - k < μ10 → ∀ (g : ez_H) , FW jf ia h g (nI al) (nI li) (nI r) (nI go) → (w < 2 ^ n') → (k ≤ 11) → (fxN (uN T n' y) (11 - k) w = unN T n' y (s &&& li)) → (r + frN (uN T n' y) (11 - k) w = ro + urN T n' y (s &&& li)) → E G mX0_until (d + 1) Q g n 0 0 10 [some (.ref jf), some (.int (nI y)), some (.int (nI s)), some (.int (nI w)), some (.int (nI k)), none] [] := fun w k r => ih10 (w, k, r)
  intro g  hM hw hk hf hr
  refine ez_iload (q := 12) dX0_until_10 rfl rfl ?_
  refine ez_bipush (v := nI 10) (q := 14) dX0_until_12 (by decide) rfl ?_
  refine ez_icmpgtN (q := 17) (tgt := 58) dX0_until_14 (by decide) (by omega) (by omega) rfl (fun hc14 => ?_) (fun hc14 => ?_)
  · refine ez_iload_n (q := 59) 3 dX0_until_58 rfl rfl rfl ?_
    exact ez_iret dX0_until_59 rfl (by rw [show 11 - k = 0 by omega, fxN] at hf; rw [show 11 - k = 0 by omega, frN] at hr; rw [← hf, ← hr] at hQ; exact hQ _ hM)
  · refine ez_iload_n (q := 18) 3 dX0_until_17 rfl rfl rfl ?_
    refine ez_iload_n (q := 19) 1 dX0_until_18 rfl rfl rfl ?_
    refine ez_aload_n (q := 20) 0 dX0_until_19 rfl rfl rfl ?_
    refine ez_getf (q := 23) dX0_until_20 fl_X0_24 hM.2.1 rfl rfl ?_
    refine ez_iload_n (q := 24) 3 dX0_until_23 rfl rfl rfl ?_
    refine cPv (q := 27) dX0_until_24 ck_X0_44 (hS.to (fun j a b => hM.fr j (by omega))).ob (t_X3_leadingInto (hS.to (fun j a b => hM.fr j (by omega))) ho) rfl ⟨by decide, rfl⟩ rfl rfl rfl (Nat.le_of_ble_eq_true rfl) rfl ?_
    refine ez_iandN (q := 28) dX0_until_27 rfl ?_
    refine ez_iorN (q := 29) dX0_until_28 rfl ?_
    refine ez_top (show nI _ = nI (uN T n' y w) from rfl) ?_
    refine ez_istore_5 (q := 31) dX0_until_29 (by decide) rfl rfl ?_
    refine ez_iload (q := 33) dX0_until_31 rfl rfl ?_
    refine ez_iload_n (q := 34) 3 dX0_until_33 rfl rfl rfl ?_
    refine ez_icmpneN (q := 37) (tgt := 39) dX0_until_34 (by decide) (lt31 (uN_lt T n' y hw) hn) (lt31 hw hn) rfl (fun hc34 => ?_) (fun hc34 => ?_)
    · refine ez_iload (q := 41) dX0_until_39 rfl rfl ?_
      refine ez_istore_3 (q := 42) dX0_until_41 rfl (by decide) rfl rfl ?_
      refine ez_aload_n (q := 43) 0 dX0_until_42 rfl rfl rfl ?_
      refine ez_dup (q := 44) dX0_until_43 rfl rfl ?_
      refine ez_getf (q := 47) dX0_until_44 fl_X0_18 hM.2.1 rfl rfl ?_
      refine ez_iconst (v := nI 1) (q := 48) dX0_until_47 (by decide) rfl ?_
      refine ez_iaddN (q := 49) dX0_until_48 rfl ?_
      refine pFW_ro (q := 52) dX0_until_49 fl_X0_18 hM rfl (fun g hM => ?_)
      refine ez_iincN_4 (q := 55) dX0_until_52 (by decide) rfl rfl ?_
      refine ez_goto (q := 10) dX0_until_55 (by decide) ?_
      exact E.fg (ih10 (uN T n' y w) (k + 1) (r + 1) (by omega) g hM (uN_lt T n' y hw) (by omega) (by rw [show 11 - k = (11 - (k + 1)) + 1 by omega, fxN, if_neg hc34] at hf; exact hf) (by rw [show 11 - k = (11 - (k + 1)) + 1 by omega, frN, if_neg hc34] at hr; omega)) ⟨Or.inr (rfl), Or.inr (rfl), Or.inr (rfl), Or.inr (rfl), Or.inr (rfl), Or.inl rfl, trivial⟩
    · refine ez_iload_n (q := 38) 3 dX0_until_37 rfl rfl rfl ?_
      exact ez_iret dX0_until_38 rfl (by rw [show 11 - k = (10 - k) + 1 by omega, fxN, if_pos hc34] at hf; rw [show 11 - k = (10 - k) + 1 by omega, frN, if_pos hc34] at hr; rw [← hf, ← hr] at hQ; exact hQ _ hM)

set_option maxHeartbeats 800000 in
set_option maxRecDepth 100000 in
theorem t_X0_always {G : ez_G} {d n : Nat} {h : ez_H} {jf ia n' f : Nat} {L T ln : Nat → Nat} {sg : Nat → Nat → Nat} {al li ro go : Nat} {s : Nat} (hM : FW jf ia h h (nI al) (nI li) (nI ro) (nI go)) (hS : SS ia h n' f L T ln sg) (ho : OK n' f L T ln sg) (hj : jf < ia ∨ ia + 5 ≤ jf) (hs : s < 2 ^ n') (hgo : ∀ w, w < 2 ^ n' → w &&& go = goN n' f L w) : Con G mX0_always (d + 1) [.ref jf, .int (nI s)] h n 0 0 (PW n (some (.int (nI (stN T n' f L s)))) (fun g => FW jf ia h g (nI al) (nI li) (nI (ro + srN T n' f L s)) (nI go))) := by
  have hn := ho.1
  refine Con.of [some (.ref jf), some (.int (nI s)), none, none, none, none, none, none] pl_X0 rfl (Nat.le_of_ble_eq_true rfl) rfl ?_
  have hQ : ∀ g, FW jf ia h g (nI al) (nI li) (nI (ro + srN T n' f L s)) (nI go) → (PW n (some (.int (nI (stN T n' f L s)))) (fun g => FW jf ia h g (nI al) (nI li) (nI (ro + srN T n' f L s)) (nI go))) (.inl (some (.int (nI (stN T n' f L s))))) g n := fun g hW => ⟨rfl, hW, rfl⟩
  generalize PW n (some (.int (nI (stN T n' f L s)))) (fun g => FW jf ia h g (nI al) (nI li) (nI (ro + srN T n' f L s)) (nI go)) = Q at hQ ⊢
  refine ez_iload_n (q := 1) 1 dX0_always_0 rfl rfl rfl ?_
  refine ez_istore_2 (q := 2) dX0_always_1 rfl (by decide) rfl rfl ?_
  refine ez_iconst (v := nI 0) (q := 3) dX0_always_2 (by decide) rfl ?_
  refine ez_istore_3 (q := 4) dX0_always_3 rfl (by decide) rfl rfl ?_
  refine ez_loop (α := Nat × Nat × Nat) (fun z99 => match z99 with | (w, k, r) => 11 - k) (P := fun z99 => match z99 with | (w, k, r) => ∀ (g : ez_H) , FW jf ia h g (nI al) (nI li) (nI r) (nI go) → (w < 2 ^ n') → (k ≤ 11) → (fxN (rN T n' f L) (11 - k) w = stN T n' f L s) → (r + frN (rN T n' f L) (11 - k) w = ro + srN T n' f L s) → E G mX0_always (d + 1) Q g n 0 0 4 [some (.ref jf), some (.int (nI s)), some (.int (nI w)), some (.int (nI k)), none, none, none, none] []) ?_ (s, 0, ro) h hM hs (by omega) rfl rfl
  rintro ⟨w, k, r⟩ ih4
  dsimp only at ih4 ⊢
  obtain ⟨μ4, hμ4⟩ : ∃ y99, y99 = 11 - k := ⟨_, rfl⟩
  rw [← hμ4] at ih4
  have ih4 : ∀ (w : Nat) (k : Nat) (r : Nat), 11 - k < μ4 → ∀ (g : ez_H) , FW jf ia h g (nI al) (nI li) (nI r) (nI go) → (w < 2 ^ n') → (k ≤ 11) → (fxN (rN T n' f L) (11 - k) w = stN T n' f L s) → (r + frN (rN T n' f L) (11 - k) w = ro + srN T n' f L s) → E G mX0_always (d + 1) Q g n 0 0 4 [some (.ref jf), some (.int (nI s)), some (.int (nI w)), some (.int (nI k)), none, none, none, none] [] := fun w k r => ih4 (w, k, r)
  intro g  hM hw hk hf hr
  refine ez_iload_n (q := 5) 3 dX0_always_4 rfl rfl rfl ?_
  refine ez_bipush (v := nI 10) (q := 7) dX0_always_5 (by decide) rfl ?_
  refine ez_icmpgtN (q := 10) (tgt := 94) dX0_always_7 (by decide) (by omega) (by omega) rfl (fun hc7 => ?_) (fun hc7 => ?_)
  · refine ez_iload_n (q := 95) 2 dX0_always_94 rfl rfl rfl ?_
    exact ez_iret dX0_always_95 rfl (by rw [show 11 - k = 0 by omega, fxN] at hf; rw [show 11 - k = 0 by omega, frN] at hr; rw [← hf, ← hr] at hQ; exact hQ _ hM)
  · refine ez_iload_n (q := 11) 2 dX0_always_10 rfl rfl rfl ?_
    refine ez_aload_n (q := 12) 0 dX0_always_11 rfl rfl rfl ?_
    refine ez_getf (q := 15) dX0_always_12 fl_X0_21 hM.2.1 rfl rfl ?_
    refine ez_iandN (q := 16) dX0_always_15 rfl ?_
    refine ez_top (congrArg nI (hgo w hw)) ?_
    refine ez_istore_4 (q := 18) dX0_always_16 (by decide) rfl rfl ?_
    refine ez_iconst (v := nI 0) (q := 19) dX0_always_18 (by decide) rfl ?_
    refine ez_istore_5 (q := 21) dX0_always_19 (by decide) rfl rfl ?_
    refine ez_iconst (v := -1) (q := 22) dX0_always_21 (by decide) rfl ?_
    refine ez_istore_6 (q := 24) dX0_always_22 (by decide) rfl rfl ?_
    refine ez_iconst (v := nI 0) (q := 25) dX0_always_24 (by decide) rfl ?_
    refine ez_istore_7 (q := 27) dX0_always_25 (by decide) rfl rfl ?_
    refine ez_loop (α := Nat) (fun j => 11 - j) (P := fun j => (j ≤ 11) → E G mX0_always (d + 1) Q g n 0 0 27 [some (.ref jf), some (.int (nI s)), some (.int (nI w)), some (.int (nI k)), some (.int (nI (goN n' f L w))), some (.int (nI (bN T n' w (goN n' f L w) j))), some (.int (bpI T n' w (goN n' f L w) j)), some (.int (nI j))] []) ?_ 0 (by omega)
    intro j ih27 hj
    rcases j with _ | j
    · change E G mX0_always (d + 1) Q g n 0 0 27 [some (.ref jf), some (.int (nI s)), some (.int (nI w)), some (.int (nI k)), some (.int (nI (goN n' f L w))), some (.int (nI (bN T n' w (goN n' f L w) 0))), some (.int (-1)), some (.int (nI 0))] []
      refine ez_iload (q := 29) dX0_always_27 rfl rfl ?_
      refine ez_bipush (v := nI 10) (q := 31) dX0_always_29 (by decide) rfl ?_
      refine ez_icmpgtN (q := 34) (tgt := 67) dX0_always_31 (by decide) (by omega) (by omega) rfl (fun hc31 => ?_) (fun hc31 => ?_)
      · first
        | exact absurd hc31 (by omega)
        | skip
          have e2 : bN T n' w (goN n' f L w) (j + 1) = (rN T n' f L) w := by rw [show j + 1 = 11 by omega]; exact bN_11 hn
          rw [e2]
          refine ez_iload (q := 69) dX0_always_67 rfl rfl ?_
          refine ez_iload_n (q := 70) 2 dX0_always_69 rfl rfl rfl ?_
          refine ez_icmpneN (q := 73) (tgt := 75) dX0_always_70 (by decide) (lt31 (rN_lt _ _ _ _ _) hn) (lt31 hw hn) rfl (fun hc70 => ?_) (fun hc70 => ?_)
          · refine ez_iload (q := 77) dX0_always_75 rfl rfl ?_
            refine ez_istore_2 (q := 78) dX0_always_77 rfl (by decide) rfl rfl ?_
            refine ez_aload_n (q := 79) 0 dX0_always_78 rfl rfl rfl ?_
            refine ez_dup (q := 80) dX0_always_79 rfl rfl ?_
            refine ez_getf (q := 83) dX0_always_80 fl_X0_18 hM.2.1 rfl rfl ?_
            refine ez_iconst (v := nI 1) (q := 84) dX0_always_83 (by decide) rfl ?_
            refine ez_iaddN (q := 85) dX0_always_84 rfl ?_
            refine pFW_ro (q := 88) dX0_always_85 fl_X0_18 hM rfl (fun g hM => ?_)
            refine ez_iincN_3 (q := 91) dX0_always_88 (by decide) rfl rfl ?_
            refine ez_goto (q := 4) dX0_always_91 (by decide) ?_
            exact E.fg (ih4 (rN T n' f L w) (k + 1) (r + 1) (by omega) g hM (rN_lt T n' f L w) (by omega) (by rw [show 11 - k = (11 - (k + 1)) + 1 by omega, fxN, if_neg hc70] at hf; exact hf) (by rw [show 11 - k = (11 - (k + 1)) + 1 by omega, frN, if_neg hc70] at hr; omega)) ⟨Or.inr (rfl), Or.inr (rfl), Or.inr (rfl), Or.inr (rfl), Or.inl rfl, Or.inl rfl, Or.inl rfl, Or.inl rfl, trivial⟩
          · refine ez_iload_n (q := 74) 2 dX0_always_73 rfl rfl rfl ?_
            exact ez_iret dX0_always_74 rfl (by rw [show 11 - k = (10 - k) + 1 by omega, fxN, if_pos hc70] at hf; rw [show 11 - k = (10 - k) + 1 by omega, frN, if_pos hc70] at hr; rw [← hf, ← hr] at hQ; exact hQ _ hM)
      · refine ez_iload (q := 36) dX0_always_34 rfl rfl ?_
        refine ez_iload (q := 38) dX0_always_36 rfl rfl ?_
        refine ez_icmpeq (q := 41) (tgt := 67) dX0_always_38 (by decide) rfl (fun hc38 => ?_) (fun hc38 => ?_)
        · first
          | exact absurd (show nI 0 = -1 from hc38) (by decide)
          | skip
            have e2 : bN T n' w (goN n' f L w) (j + 1) = (rN T n' f L) w := hc38.trans (bN_10 hn hc38)
            rw [e2]
            refine ez_iload (q := 69) dX0_always_67 rfl rfl ?_
            refine ez_iload_n (q := 70) 2 dX0_always_69 rfl rfl rfl ?_
            refine ez_icmpneN (q := 73) (tgt := 75) dX0_always_70 (by decide) (lt31 (rN_lt _ _ _ _ _) hn) (lt31 hw hn) rfl (fun hc70 => ?_) (fun hc70 => ?_)
            · refine ez_iload (q := 77) dX0_always_75 rfl rfl ?_
              refine ez_istore_2 (q := 78) dX0_always_77 rfl (by decide) rfl rfl ?_
              refine ez_aload_n (q := 79) 0 dX0_always_78 rfl rfl rfl ?_
              refine ez_dup (q := 80) dX0_always_79 rfl rfl ?_
              refine ez_getf (q := 83) dX0_always_80 fl_X0_18 hM.2.1 rfl rfl ?_
              refine ez_iconst (v := nI 1) (q := 84) dX0_always_83 (by decide) rfl ?_
              refine ez_iaddN (q := 85) dX0_always_84 rfl ?_
              refine pFW_ro (q := 88) dX0_always_85 fl_X0_18 hM rfl (fun g hM => ?_)
              refine ez_iincN_3 (q := 91) dX0_always_88 (by decide) rfl rfl ?_
              refine ez_goto (q := 4) dX0_always_91 (by decide) ?_
              exact E.fg (ih4 (rN T n' f L w) (k + 1) (r + 1) (by omega) g hM (rN_lt T n' f L w) (by omega) (by rw [show 11 - k = (11 - (k + 1)) + 1 by omega, fxN, if_neg hc70] at hf; exact hf) (by rw [show 11 - k = (11 - (k + 1)) + 1 by omega, frN, if_neg hc70] at hr; omega)) ⟨Or.inr (rfl), Or.inr (rfl), Or.inr (rfl), Or.inr (rfl), Or.inl rfl, Or.inl rfl, Or.inl rfl, Or.inl rfl, trivial⟩
            · refine ez_iload_n (q := 74) 2 dX0_always_73 rfl rfl rfl ?_
              exact ez_iret dX0_always_74 rfl (by rw [show 11 - k = (10 - k) + 1 by omega, fxN, if_pos hc70] at hf; rw [show 11 - k = (10 - k) + 1 by omega, frN, if_pos hc70] at hr; rw [← hf, ← hr] at hQ; exact hQ _ hM)
        · refine ez_iload (q := 43) dX0_always_41 rfl rfl ?_
          refine ez_istore_6 (q := 45) dX0_always_43 (by decide) rfl rfl ?_
          refine ez_iload_n (q := 46) 2 dX0_always_45 rfl rfl rfl ?_
          refine ez_aload_n (q := 47) 0 dX0_always_46 rfl rfl rfl ?_
          refine ez_getf (q := 50) dX0_always_47 fl_X0_24 hM.2.1 rfl rfl ?_
          refine ez_iload (q := 52) dX0_always_50 rfl rfl ?_
          refine ez_iload (q := 54) dX0_always_52 rfl rfl ?_
          refine ez_iorN (q := 55) dX0_always_54 rfl ?_
          refine cPv (q := 58) dX0_always_55 ck_X0_44 (hS.to (fun j a b => hM.fr j (by omega))).ob (t_X3_leadingInto (hS.to (fun j a b => hM.fr j (by omega))) ho) rfl ⟨by decide, rfl⟩ rfl rfl rfl (Nat.le_of_ble_eq_true rfl) rfl ?_
          refine ez_iandN (q := 59) dX0_always_58 rfl ?_
          first | refine ez_top (show nI _ = nI (bN T n' w (goN n' f L w) (0 + 1)) from rfl) ?_ | refine ez_top (show nI _ = nI (bN T n' w (goN n' f L w) (j + 1 + 1)) from rfl) ?_
          refine ez_istore_5 (q := 61) dX0_always_59 (by decide) rfl rfl ?_
          refine ez_iincN_7 (q := 64) dX0_always_61 (by decide) rfl rfl ?_
          refine ez_goto (q := 27) dX0_always_64 (by decide) ?_
          first
          | exact E.fg (ih27 (0 + 1) (by omega) (by omega)) ⟨Or.inr (rfl), Or.inr (rfl), Or.inr (rfl), Or.inr (rfl), Or.inr (rfl), Or.inr (rfl), Or.inr (rfl), Or.inr (rfl), trivial⟩
          | exact E.fg (ih27 (j + 1 + 1) (by omega) (by omega)) ⟨Or.inr (rfl), Or.inr (rfl), Or.inr (rfl), Or.inr (rfl), Or.inr (rfl), Or.inr (rfl), Or.inr (rfl), Or.inr (rfl), trivial⟩
    · change E G mX0_always (d + 1) Q g n 0 0 27 [some (.ref jf), some (.int (nI s)), some (.int (nI w)), some (.int (nI k)), some (.int (nI (goN n' f L w))), some (.int (nI (bN T n' w (goN n' f L w) (j + 1)))), some (.int (nI (bN T n' w (goN n' f L w) j))), some (.int (nI (j + 1)))] []
      refine ez_iload (q := 29) dX0_always_27 rfl rfl ?_
      refine ez_bipush (v := nI 10) (q := 31) dX0_always_29 (by decide) rfl ?_
      refine ez_icmpgtN (q := 34) (tgt := 67) dX0_always_31 (by decide) (by omega) (by omega) rfl (fun hc31 => ?_) (fun hc31 => ?_)
      · first
        | exact absurd hc31 (by omega)
        | skip
          have e2 : bN T n' w (goN n' f L w) (j + 1) = (rN T n' f L) w := by rw [show j + 1 = 11 by omega]; exact bN_11 hn
          rw [e2]
          refine ez_iload (q := 69) dX0_always_67 rfl rfl ?_
          refine ez_iload_n (q := 70) 2 dX0_always_69 rfl rfl rfl ?_
          refine ez_icmpneN (q := 73) (tgt := 75) dX0_always_70 (by decide) (lt31 (rN_lt _ _ _ _ _) hn) (lt31 hw hn) rfl (fun hc70 => ?_) (fun hc70 => ?_)
          · refine ez_iload (q := 77) dX0_always_75 rfl rfl ?_
            refine ez_istore_2 (q := 78) dX0_always_77 rfl (by decide) rfl rfl ?_
            refine ez_aload_n (q := 79) 0 dX0_always_78 rfl rfl rfl ?_
            refine ez_dup (q := 80) dX0_always_79 rfl rfl ?_
            refine ez_getf (q := 83) dX0_always_80 fl_X0_18 hM.2.1 rfl rfl ?_
            refine ez_iconst (v := nI 1) (q := 84) dX0_always_83 (by decide) rfl ?_
            refine ez_iaddN (q := 85) dX0_always_84 rfl ?_
            refine pFW_ro (q := 88) dX0_always_85 fl_X0_18 hM rfl (fun g hM => ?_)
            refine ez_iincN_3 (q := 91) dX0_always_88 (by decide) rfl rfl ?_
            refine ez_goto (q := 4) dX0_always_91 (by decide) ?_
            exact E.fg (ih4 (rN T n' f L w) (k + 1) (r + 1) (by omega) g hM (rN_lt T n' f L w) (by omega) (by rw [show 11 - k = (11 - (k + 1)) + 1 by omega, fxN, if_neg hc70] at hf; exact hf) (by rw [show 11 - k = (11 - (k + 1)) + 1 by omega, frN, if_neg hc70] at hr; omega)) ⟨Or.inr (rfl), Or.inr (rfl), Or.inr (rfl), Or.inr (rfl), Or.inl rfl, Or.inl rfl, Or.inl rfl, Or.inl rfl, trivial⟩
          · refine ez_iload_n (q := 74) 2 dX0_always_73 rfl rfl rfl ?_
            exact ez_iret dX0_always_74 rfl (by rw [show 11 - k = (10 - k) + 1 by omega, fxN, if_pos hc70] at hf; rw [show 11 - k = (10 - k) + 1 by omega, frN, if_pos hc70] at hr; rw [← hf, ← hr] at hQ; exact hQ _ hM)
      · refine ez_iload (q := 36) dX0_always_34 rfl rfl ?_
        refine ez_iload (q := 38) dX0_always_36 rfl rfl ?_
        refine ez_icmpeqN (q := 41) (tgt := 67) dX0_always_38 (by decide) (lt31 (bN_lt _ _ _ _ _) hn) (lt31 (bN_lt _ _ _ _ _) hn) rfl (fun hc38 => ?_) (fun hc38 => ?_)
        · first
          | exact absurd (show nI 0 = -1 from hc38) (by decide)
          | skip
            have e2 : bN T n' w (goN n' f L w) (j + 1) = (rN T n' f L) w := hc38.trans (bN_10 hn hc38)
            rw [e2]
            refine ez_iload (q := 69) dX0_always_67 rfl rfl ?_
            refine ez_iload_n (q := 70) 2 dX0_always_69 rfl rfl rfl ?_
            refine ez_icmpneN (q := 73) (tgt := 75) dX0_always_70 (by decide) (lt31 (rN_lt _ _ _ _ _) hn) (lt31 hw hn) rfl (fun hc70 => ?_) (fun hc70 => ?_)
            · refine ez_iload (q := 77) dX0_always_75 rfl rfl ?_
              refine ez_istore_2 (q := 78) dX0_always_77 rfl (by decide) rfl rfl ?_
              refine ez_aload_n (q := 79) 0 dX0_always_78 rfl rfl rfl ?_
              refine ez_dup (q := 80) dX0_always_79 rfl rfl ?_
              refine ez_getf (q := 83) dX0_always_80 fl_X0_18 hM.2.1 rfl rfl ?_
              refine ez_iconst (v := nI 1) (q := 84) dX0_always_83 (by decide) rfl ?_
              refine ez_iaddN (q := 85) dX0_always_84 rfl ?_
              refine pFW_ro (q := 88) dX0_always_85 fl_X0_18 hM rfl (fun g hM => ?_)
              refine ez_iincN_3 (q := 91) dX0_always_88 (by decide) rfl rfl ?_
              refine ez_goto (q := 4) dX0_always_91 (by decide) ?_
              exact E.fg (ih4 (rN T n' f L w) (k + 1) (r + 1) (by omega) g hM (rN_lt T n' f L w) (by omega) (by rw [show 11 - k = (11 - (k + 1)) + 1 by omega, fxN, if_neg hc70] at hf; exact hf) (by rw [show 11 - k = (11 - (k + 1)) + 1 by omega, frN, if_neg hc70] at hr; omega)) ⟨Or.inr (rfl), Or.inr (rfl), Or.inr (rfl), Or.inr (rfl), Or.inl rfl, Or.inl rfl, Or.inl rfl, Or.inl rfl, trivial⟩
            · refine ez_iload_n (q := 74) 2 dX0_always_73 rfl rfl rfl ?_
              exact ez_iret dX0_always_74 rfl (by rw [show 11 - k = (10 - k) + 1 by omega, fxN, if_pos hc70] at hf; rw [show 11 - k = (10 - k) + 1 by omega, frN, if_pos hc70] at hr; rw [← hf, ← hr] at hQ; exact hQ _ hM)
        · refine ez_iload (q := 43) dX0_always_41 rfl rfl ?_
          refine ez_istore_6 (q := 45) dX0_always_43 (by decide) rfl rfl ?_
          refine ez_iload_n (q := 46) 2 dX0_always_45 rfl rfl rfl ?_
          refine ez_aload_n (q := 47) 0 dX0_always_46 rfl rfl rfl ?_
          refine ez_getf (q := 50) dX0_always_47 fl_X0_24 hM.2.1 rfl rfl ?_
          refine ez_iload (q := 52) dX0_always_50 rfl rfl ?_
          refine ez_iload (q := 54) dX0_always_52 rfl rfl ?_
          refine ez_iorN (q := 55) dX0_always_54 rfl ?_
          refine cPv (q := 58) dX0_always_55 ck_X0_44 (hS.to (fun j a b => hM.fr j (by omega))).ob (t_X3_leadingInto (hS.to (fun j a b => hM.fr j (by omega))) ho) rfl ⟨by decide, rfl⟩ rfl rfl rfl (Nat.le_of_ble_eq_true rfl) rfl ?_
          refine ez_iandN (q := 59) dX0_always_58 rfl ?_
          first | refine ez_top (show nI _ = nI (bN T n' w (goN n' f L w) (0 + 1)) from rfl) ?_ | refine ez_top (show nI _ = nI (bN T n' w (goN n' f L w) (j + 1 + 1)) from rfl) ?_
          refine ez_istore_5 (q := 61) dX0_always_59 (by decide) rfl rfl ?_
          refine ez_iincN_7 (q := 64) dX0_always_61 (by decide) rfl rfl ?_
          refine ez_goto (q := 27) dX0_always_64 (by decide) ?_
          first
          | exact E.fg (ih27 (0 + 1) (by omega) (by omega)) ⟨Or.inr (rfl), Or.inr (rfl), Or.inr (rfl), Or.inr (rfl), Or.inr (rfl), Or.inr (rfl), Or.inr (rfl), Or.inr (rfl), trivial⟩
          | exact E.fg (ih27 (j + 1 + 1) (by omega) (by omega)) ⟨Or.inr (rfl), Or.inr (rfl), Or.inr (rfl), Or.inr (rfl), Or.inr (rfl), Or.inr (rfl), Or.inr (rfl), Or.inr (rfl), trivial⟩

set_option maxHeartbeats 800000 in
set_option maxRecDepth 100000 in
theorem t_X0_look {G : ez_G} {d n : Nat} {h : ez_H} {jf ia n' f : Nat} {L T ln : Nat → Nat} {sg : Nat → Nat → Nat} {al li ro go : Nat} (hM : FW jf ia h h (nI al) (nI li) (nI ro) (nI go)) (hS : SS ia h n' f L T ln sg) (ho : OK n' f L T ln sg) (hj : jf < ia ∨ ia + 5 ≤ jf) : Con G mX0_look (d + 2) [.ref jf] h n 0 0 (PW n none (fun g => ∃ r : Nat, FW jf ia h g (nI (2 ^ n' - 1)) (nI (lvN T n' f L)) (nI r) (nI (goW n' f L)))) := by
  have hn := ho.1
  have hf4 := ho.2.1
  refine Con.of [some (.ref jf)] pl_X0 rfl (Nat.le_of_ble_eq_true rfl) rfl ?_
  have hQ : ∀ g (r : Nat), FW jf ia h g (nI (2 ^ n' - 1)) (nI (lvN T n' f L)) (nI r) (nI (goW n' f L)) → (PW n none (fun g => ∃ r : Nat, FW jf ia h g (nI (2 ^ n' - 1)) (nI (lvN T n' f L)) (nI r) (nI (goW n' f L)))) (.inl none) g n := fun g r hM => ⟨rfl, ⟨r, hM⟩, rfl⟩
  generalize PW n none (fun g => ∃ r : Nat, FW jf ia h g (nI (2 ^ n' - 1)) (nI (lvN T n' f L)) (nI r) (nI (goW n' f L))) = Q at hQ ⊢
  refine ez_aload_n (q := 1) 0 dX0_look_0 rfl rfl rfl ?_
  refine ez_aload_n (q := 2) 0 dX0_look_1 rfl rfl rfl ?_
  refine ez_getf (q := 5) dX0_look_2 fl_X0_24 hM.2.1 rfl rfl ?_
  refine cPv (q := 8) dX0_look_5 ck_X0_28 (hS.to (fun j a b => hM.fr j (by omega))).ob (t_X3_allWorlds (hS.to (fun j a b => hM.fr j (by omega))) ho) rfl ⟨by decide, rfl⟩ rfl rfl rfl (Nat.le_of_ble_eq_true rfl) rfl ?_
  refine pFW_al (q := 11) dX0_look_8 fl_X0_9 hM rfl (fun g hM => ?_)
  refine ez_aload_n (q := 12) 0 dX0_look_11 rfl rfl rfl ?_
  refine ez_aload_n (q := 13) 0 dX0_look_12 rfl rfl rfl ?_
  refine ez_getf (q := 16) dX0_look_13 fl_X0_24 hM.2.1 rfl rfl ?_
  refine ez_getf (q := 19) dX0_look_16 fl_X0_34 (hS.to (fun j a b => hM.fr j (by omega))).ob rfl rfl ?_
  refine ez_iconst (v := -1) (q := 20) dX0_look_19 (by decide) rfl ?_
  refine ez_icmpne (q := 23) (tgt := 30) dX0_look_20 (by decide) rfl (fun hc20 => ?_) (fun hc20 => ?_)
  · have e4 : f ≠ 4 := fun e => hc20 (by rw [e]; rfl)
    have eg : goW n' f L = wlN L f n' := if_neg e4
    refine ez_aload_n (q := 31) 0 dX0_look_30 rfl rfl rfl ?_
    refine ez_getf (q := 34) dX0_look_31 fl_X0_24 hM.2.1 rfl rfl ?_
    refine ez_aload_n (q := 35) 0 dX0_look_34 rfl rfl rfl ?_
    refine ez_getf (q := 38) dX0_look_35 fl_X0_24 hM.2.1 rfl rfl ?_
    refine ez_getf (q := 41) dX0_look_38 fl_X0_34 (hS.to (fun j a b => hM.fr j (by omega))).ob rfl rfl ?_
    refine ez_top (fI_n e4) ?_
    refine cPv (q := 44) dX0_look_41 ck_X0_37 (hS.to (fun j a b => hM.fr j (by omega))).ob (t_X3_withLetter (hS.to (fun j a b => hM.fr j (by omega))) ho (by omega)) rfl ⟨by decide, rfl⟩ rfl rfl rfl (Nat.le_of_ble_eq_true rfl) rfl ?_
    rw [← eg]
    refine pFW_go (q := 47) dX0_look_44 fl_X0_21 hM rfl (fun g hM => ?_)
    refine ez_aload_n (q := 48) 0 dX0_look_47 rfl rfl rfl ?_
    refine ez_aload_n (q := 49) 0 dX0_look_48 rfl rfl rfl ?_
    refine ez_aload_n (q := 50) 0 dX0_look_49 rfl rfl rfl ?_
    refine ez_getf (q := 53) dX0_look_50 fl_X0_9 hM.2.1 rfl rfl ?_
    refine cXv (q := 56) dX0_look_53 ck_X0_41 hM.2.1 (t_X0_always hM.rb (hS.to (fun j a b => hM.fr j (by omega))) ho hj (al_lt n') (fun w hw => go_ok hw)) rfl ⟨by decide, rfl⟩ rfl rfl rfl (Nat.le_of_ble_eq_true rfl) rfl (fun g hW => ?_)
    have hM := hM.tr hW
    change E G mX0_look _ _ _ _ _ _ _ _ (.int (nI (lvN T n' f L)) :: _)
    refine pFW_li (q := 59) dX0_look_56 fl_X0_15 hM rfl (fun g hM => ?_)
    exact ez_vret dX0_look_59 rfl (hQ _ _ hM)
  · have e4 := fI_m hf4 hc20
    have eg : goW n' f L = 2 ^ n' - 1 := if_pos e4
    refine ez_aload_n (q := 24) 0 dX0_look_23 rfl rfl rfl ?_
    refine ez_getf (q := 27) dX0_look_24 fl_X0_9 hM.2.1 rfl rfl ?_
    refine ez_goto (q := 44) dX0_look_27 (by decide) ?_
    rw [← eg]
    refine pFW_go (q := 47) dX0_look_44 fl_X0_21 hM rfl (fun g hM => ?_)
    refine ez_aload_n (q := 48) 0 dX0_look_47 rfl rfl rfl ?_
    refine ez_aload_n (q := 49) 0 dX0_look_48 rfl rfl rfl ?_
    refine ez_aload_n (q := 50) 0 dX0_look_49 rfl rfl rfl ?_
    refine ez_getf (q := 53) dX0_look_50 fl_X0_9 hM.2.1 rfl rfl ?_
    refine cXv (q := 56) dX0_look_53 ck_X0_41 hM.2.1 (t_X0_always hM.rb (hS.to (fun j a b => hM.fr j (by omega))) ho hj (al_lt n') (fun w hw => go_ok hw)) rfl ⟨by decide, rfl⟩ rfl rfl rfl (Nat.le_of_ble_eq_true rfl) rfl (fun g hW => ?_)
    have hM := hM.tr hW
    change E G mX0_look _ _ _ _ _ _ _ _ (.int (nI (lvN T n' f L)) :: _)
    refine pFW_li (q := 59) dX0_look_56 fl_X0_15 hM rfl (fun g hM => ?_)
    exact ez_vret dX0_look_59 rfl (hQ _ _ hM)

set_option maxHeartbeats 800000 in
set_option maxRecDepth 100000 in
theorem t_X0_onSomeWay {G : ez_G} {d n : Nat} {h : ez_H} {jf ia n' f : Nat} {L T ln : Nat → Nat} {sg : Nat → Nat → Nat} {ro : Nat} {c a b : Nat} (hM : FW jf ia h h (nI (2 ^ n' - 1)) (nI (lvN T n' f L)) (nI ro) (nI (goW n' f L))) (hS : SS ia h n' f L T ln sg) (ho : OK n' f L T ln sg) (hj : jf < ia ∨ ia + 5 ≤ jf) (hk : c = 88 ∨ c = 70 ∨ c = 71 ∨ c = 85) (haa : a < 2 ^ n') : Con G mX0_onSomeWay (d + 2) [.ref jf, .int (nI c), .int (nI a), .int (nI b)] h n 0 0 (PW n (some (.int (nI (someS T n' f L c a b)))) (fun g => FW jf ia h g (nI (2 ^ n' - 1)) (nI (lvN T n' f L)) (nI (ro + someR T n' f L c a b)) (nI (goW n' f L)))) := by
  have hn := ho.1
  refine Con.of [some (.ref jf), some (.int (nI c)), some (.int (nI a)), some (.int (nI b))] pl_X0 rfl (Nat.le_of_ble_eq_true rfl) rfl ?_
  have hQ : ∀ g, FW jf ia h g (nI (2 ^ n' - 1)) (nI (lvN T n' f L)) (nI (ro + someR T n' f L c a b)) (nI (goW n' f L)) → (PW n (some (.int (nI (someS T n' f L c a b)))) (fun g => FW jf ia h g (nI (2 ^ n' - 1)) (nI (lvN T n' f L)) (nI (ro + someR T n' f L c a b)) (nI (goW n' f L)))) (.inl (some (.int (nI (someS T n' f L c a b))))) g n := fun g hW => ⟨rfl, hW, rfl⟩
  generalize PW n (some (.int (nI (someS T n' f L c a b)))) (fun g => FW jf ia h g (nI (2 ^ n' - 1)) (nI (lvN T n' f L)) (nI (ro + someR T n' f L c a b)) (nI (goW n' f L))) = Q at hQ ⊢
  refine ez_iload_n (q := 1) 1 dX0_onSomeWay_0 rfl rfl rfl ?_
  rcases hk with rfl | rfl | rfl | rfl
  · refine ez_lookup (q := 36) (off := 35) dX0_onSomeWay_1 (by decide) (by decide) (by decide) ?_
    refine ez_aload_n (q := 37) 0 dX0_onSomeWay_36 rfl rfl rfl ?_
    refine ez_getf (q := 40) dX0_onSomeWay_37 fl_X0_24 hM.2.1 rfl rfl ?_
    refine ez_iload_n (q := 41) 2 dX0_onSomeWay_40 rfl rfl rfl ?_
    refine ez_aload_n (q := 42) 0 dX0_onSomeWay_41 rfl rfl rfl ?_
    refine ez_getf (q := 45) dX0_onSomeWay_42 fl_X0_15 hM.2.1 rfl rfl ?_
    refine ez_iandN (q := 46) dX0_onSomeWay_45 rfl ?_
    refine cPv (q := 49) dX0_onSomeWay_46 ck_X0_44 (hS.to (fun j a b => hM.fr j (by omega))).ob (t_X3_leadingInto (hS.to (fun j a b => hM.fr j (by omega))) ho) rfl ⟨by decide, rfl⟩ rfl rfl rfl (Nat.le_of_ble_eq_true rfl) rfl ?_
    exact ez_iret dX0_onSomeWay_49 rfl (by rw [someS_88, someR_88] at hQ; exact hQ _ hM)
  · refine ez_lookup (q := 50) (off := 49) dX0_onSomeWay_1 (by decide) (by decide) (by decide) ?_
    refine ez_aload_n (q := 51) 0 dX0_onSomeWay_50 rfl rfl rfl ?_
    refine ez_aload_n (q := 52) 0 dX0_onSomeWay_51 rfl rfl rfl ?_
    refine ez_getf (q := 55) dX0_onSomeWay_52 fl_X0_9 hM.2.1 rfl rfl ?_
    refine ez_iload_n (q := 56) 2 dX0_onSomeWay_55 rfl rfl rfl ?_
    refine cXv (q := 59) dX0_onSomeWay_56 ck_X0_47 hM.2.1 (t_X0_until hM.rb (hS.to (fun j a b => hM.fr j (by omega))) ho hj (lvN_lt T n' f L)) rfl ⟨by decide, rfl⟩ rfl rfl rfl (Nat.le_of_ble_eq_true rfl) rfl (fun g hW => ?_)
    have hM := hM.tr hW
    exact ez_iret dX0_onSomeWay_59 rfl (by rw [someS_70, someR_70] at hQ; exact hQ _ hM)
  · refine ez_lookup (q := 60) (off := 59) dX0_onSomeWay_1 (by decide) (by decide) (by decide) ?_
    refine ez_aload_n (q := 61) 0 dX0_onSomeWay_60 rfl rfl rfl ?_
    refine ez_iload_n (q := 62) 2 dX0_onSomeWay_61 rfl rfl rfl ?_
    refine cXv (q := 65) dX0_onSomeWay_62 ck_X0_41 hM.2.1 (t_X0_always hM.rb (hS.to (fun j a b => hM.fr j (by omega))) ho hj haa (fun w hw => go_ok hw)) rfl ⟨by decide, rfl⟩ rfl rfl rfl (Nat.le_of_ble_eq_true rfl) rfl (fun g hW => ?_)
    have hM := hM.tr hW
    exact ez_iret dX0_onSomeWay_65 rfl (by rw [someS_71, someR_71] at hQ; exact hQ _ hM)
  · refine ez_lookup (q := 66) (off := 65) dX0_onSomeWay_1 (by decide) (by decide) (by decide) ?_
    refine ez_aload_n (q := 67) 0 dX0_onSomeWay_66 rfl rfl rfl ?_
    refine ez_iload_n (q := 68) 2 dX0_onSomeWay_67 rfl rfl rfl ?_
    refine ez_iload_n (q := 69) 3 dX0_onSomeWay_68 rfl rfl rfl ?_
    refine cXv (q := 72) dX0_onSomeWay_69 ck_X0_47 hM.2.1 (t_X0_until hM.rb (hS.to (fun j a b => hM.fr j (by omega))) ho hj (lvN_lt T n' f L)) rfl ⟨by decide, rfl⟩ rfl rfl rfl (Nat.le_of_ble_eq_true rfl) rfl (fun g hW => ?_)
    have hM := hM.tr hW
    exact ez_iret dX0_onSomeWay_72 rfl (by rw [someS_85, someR_85] at hQ; exact hQ _ hM)

set_option maxHeartbeats 800000 in
set_option maxRecDepth 100000 in
theorem t_X0_onSomeWayNot {G : ez_G} {d n : Nat} {h : ez_H} {jf ia n' f : Nat} {L T ln : Nat → Nat} {sg : Nat → Nat → Nat} {ro : Nat} {c a b : Nat} (hM : FW jf ia h h (nI (2 ^ n' - 1)) (nI (lvN T n' f L)) (nI ro) (nI (goW n' f L))) (hS : SS ia h n' f L T ln sg) (ho : OK n' f L T ln sg) (hj : jf < ia ∨ ia + 5 ≤ jf) (hk : c = 88 ∨ c = 70 ∨ c = 71 ∨ c = 85) : Con G mX0_onSomeWayNot (d + 2) [.ref jf, .int (nI c), .int (nI a), .int (nI b)] h n 0 0 (PW n (some (.int (nI (evX T n' f L c a b)))) (fun g => FW jf ia h g (nI (2 ^ n' - 1)) (nI (lvN T n' f L)) (nI (ro + evryR T n' f L c a b)) (nI (goW n' f L)))) := by
  have hn := ho.1
  refine Con.of [some (.ref jf), some (.int (nI c)), some (.int (nI a)), some (.int (nI b)), none, none] pl_X0 rfl (Nat.le_of_ble_eq_true rfl) rfl ?_
  have hQ : ∀ g, FW jf ia h g (nI (2 ^ n' - 1)) (nI (lvN T n' f L)) (nI (ro + evryR T n' f L c a b)) (nI (goW n' f L)) → (PW n (some (.int (nI (evX T n' f L c a b)))) (fun g => FW jf ia h g (nI (2 ^ n' - 1)) (nI (lvN T n' f L)) (nI (ro + evryR T n' f L c a b)) (nI (goW n' f L)))) (.inl (some (.int (nI (evX T n' f L c a b))))) g n := fun g hW => ⟨rfl, hW, rfl⟩
  generalize PW n (some (.int (nI (evX T n' f L c a b)))) (fun g => FW jf ia h g (nI (2 ^ n' - 1)) (nI (lvN T n' f L)) (nI (ro + evryR T n' f L c a b)) (nI (goW n' f L))) = Q at hQ ⊢
  refine ez_aload_n (q := 1) 0 dX0_onSomeWayNot_0 rfl rfl rfl ?_
  refine ez_getf (q := 4) dX0_onSomeWayNot_1 fl_X0_9 hM.2.1 rfl rfl ?_
  refine ez_iload_n (q := 5) 2 dX0_onSomeWayNot_4 rfl rfl rfl ?_
  refine ez_iconst (v := -1) (q := 6) dX0_onSomeWayNot_5 (by decide) rfl ?_
  refine ez_ixor (q := 7) dX0_onSomeWayNot_6 rfl ?_
  refine ez_iandX (q := 8) dX0_onSomeWayNot_7 rfl ?_
  refine ez_istore_4 (q := 10) dX0_onSomeWayNot_8 (by decide) rfl rfl ?_
  refine ez_aload_n (q := 11) 0 dX0_onSomeWayNot_10 rfl rfl rfl ?_
  refine ez_getf (q := 14) dX0_onSomeWayNot_11 fl_X0_9 hM.2.1 rfl rfl ?_
  refine ez_iload_n (q := 15) 3 dX0_onSomeWayNot_14 rfl rfl rfl ?_
  refine ez_iconst (v := -1) (q := 16) dX0_onSomeWayNot_15 (by decide) rfl ?_
  refine ez_ixor (q := 17) dX0_onSomeWayNot_16 rfl ?_
  refine ez_iandX (q := 18) dX0_onSomeWayNot_17 rfl ?_
  refine ez_istore_5 (q := 20) dX0_onSomeWayNot_18 (by decide) rfl rfl ?_
  refine ez_iload_n (q := 21) 1 dX0_onSomeWayNot_20 rfl rfl rfl ?_
  rcases hk with rfl | rfl | rfl | rfl
  · refine ez_lookup (q := 56) (off := 35) dX0_onSomeWayNot_21 (by decide) (by decide) (by decide) ?_
    refine ez_aload_n (q := 57) 0 dX0_onSomeWayNot_56 rfl rfl rfl ?_
    refine ez_getf (q := 60) dX0_onSomeWayNot_57 fl_X0_24 hM.2.1 rfl rfl ?_
    refine ez_iload (q := 62) dX0_onSomeWayNot_60 rfl rfl ?_
    refine ez_aload_n (q := 63) 0 dX0_onSomeWayNot_62 rfl rfl rfl ?_
    refine ez_getf (q := 66) dX0_onSomeWayNot_63 fl_X0_15 hM.2.1 rfl rfl ?_
    refine ez_iandN (q := 67) dX0_onSomeWayNot_66 rfl ?_
    refine cPv (q := 70) dX0_onSomeWayNot_67 ck_X0_44 (hS.to (fun j a b => hM.fr j (by omega))).ob (t_X3_leadingInto (hS.to (fun j a b => hM.fr j (by omega))) ho) rfl ⟨by decide, rfl⟩ rfl rfl rfl (Nat.le_of_ble_eq_true rfl) rfl ?_
    exact ez_iret dX0_onSomeWayNot_70 rfl (by rw [evX_88, evR_88] at hQ; exact hQ _ hM)
  · refine ez_lookup (q := 71) (off := 50) dX0_onSomeWayNot_21 (by decide) (by decide) (by decide) ?_
    refine ez_aload_n (q := 72) 0 dX0_onSomeWayNot_71 rfl rfl rfl ?_
    refine ez_iload (q := 74) dX0_onSomeWayNot_72 rfl rfl ?_
    refine cXv (q := 77) dX0_onSomeWayNot_74 ck_X0_41 hM.2.1 (t_X0_always hM.rb (hS.to (fun j a b => hM.fr j (by omega))) ho hj (nd_lt (al_lt n')) (fun w hw => go_ok hw)) rfl ⟨by decide, rfl⟩ rfl rfl rfl (Nat.le_of_ble_eq_true rfl) rfl (fun g hW => ?_)
    have hM := hM.tr hW
    exact ez_iret dX0_onSomeWayNot_77 rfl (by rw [evX_70, evR_70] at hQ; exact hQ _ hM)
  · refine ez_lookup (q := 78) (off := 57) dX0_onSomeWayNot_21 (by decide) (by decide) (by decide) ?_
    refine ez_aload_n (q := 79) 0 dX0_onSomeWayNot_78 rfl rfl rfl ?_
    refine ez_aload_n (q := 80) 0 dX0_onSomeWayNot_79 rfl rfl rfl ?_
    refine ez_getf (q := 83) dX0_onSomeWayNot_80 fl_X0_9 hM.2.1 rfl rfl ?_
    refine ez_iload (q := 85) dX0_onSomeWayNot_83 rfl rfl ?_
    refine cXv (q := 88) dX0_onSomeWayNot_85 ck_X0_47 hM.2.1 (t_X0_until hM.rb (hS.to (fun j a b => hM.fr j (by omega))) ho hj (lvN_lt T n' f L)) rfl ⟨by decide, rfl⟩ rfl rfl rfl (Nat.le_of_ble_eq_true rfl) rfl (fun g hW => ?_)
    have hM := hM.tr hW
    exact ez_iret dX0_onSomeWayNot_88 rfl (by rw [evX_71, evR_71] at hQ; exact hQ _ hM)
  · refine ez_lookup (q := 89) (off := 68) dX0_onSomeWayNot_21 (by decide) (by decide) (by decide) ?_
    refine ez_aload_n (q := 90) 0 dX0_onSomeWayNot_89 rfl rfl rfl ?_
    refine ez_iload (q := 92) dX0_onSomeWayNot_90 rfl rfl ?_
    refine ez_iload (q := 94) dX0_onSomeWayNot_92 rfl rfl ?_
    refine ez_iload (q := 96) dX0_onSomeWayNot_94 rfl rfl ?_
    refine ez_iandN (q := 97) dX0_onSomeWayNot_96 rfl ?_
    refine cXv (q := 100) dX0_onSomeWayNot_97 ck_X0_47 hM.2.1 (t_X0_until hM.rb (hS.to (fun j a b => hM.fr j (by omega))) ho hj (lvN_lt T n' f L)) rfl ⟨by decide, rfl⟩ rfl rfl rfl (Nat.le_of_ble_eq_true rfl) rfl (fun g hW => ?_)
    have hM := hM.tr hW
    refine ez_aload_n (q := 101) 0 dX0_onSomeWayNot_100 rfl rfl rfl ?_
    refine ez_iload (q := 103) dX0_onSomeWayNot_101 rfl rfl ?_
    refine cXv (q := 106) dX0_onSomeWayNot_103 ck_X0_41 hM.2.1 (t_X0_always hM.rb (hS.to (fun j a b => hM.fr j (by omega))) ho hj (nd_lt (al_lt n')) (fun w hw => go_ok hw)) rfl ⟨by decide, rfl⟩ rfl rfl rfl (Nat.le_of_ble_eq_true rfl) rfl (fun g hW => ?_)
    have hM := hM.tr hW
    refine ez_iorN (q := 107) dX0_onSomeWayNot_106 rfl ?_
    exact ez_iret dX0_onSomeWayNot_107 rfl (by rw [evX_85, evR_85, ← Nat.add_assoc] at hQ; exact hQ _ hM)


