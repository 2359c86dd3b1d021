def TX (h0 h : ez_H) (tl : Int32) (op : Int32) (hw : Bool) (ch : Nat → Int32) : Prop := h 39 = some (.inr (4, [.int tl, .ref 40, .int op, .int (bI hw)])) ∧ h 40 = some (.inl (1, 60, .inl ch)) ∧ ∀ j : Nat, (j < 39 ∨ 41 ≤ j) → h j = h0 j
theorem TX.rb {h0 h : ez_H} {tl op : Int32} {hw : Bool} {ch : Nat → Int32} (hM : TX  h0 h tl op hw ch) : TX  h h tl op hw ch := ⟨hM.1, hM.2.1, fun _ _ => rfl⟩
theorem TX.tr {h0 h g : ez_H} {tl op : Int32} {hw : Bool} {ch : Nat → Int32} {tl' : Int32} {op' : Int32} {hw' : Bool} {ch' : Nat → Int32} (hM : TX  h0 h tl op hw ch) (hN : TX  h g tl' op' hw' ch') : TX  h0 g tl' op' hw' ch' := ⟨hN.1, hN.2.1, fun j hj => (hN.2.2 j hj).trans (hM.2.2 j hj)⟩
theorem TX.fr {h0 h : ez_H} {tl op : Int32} {hw : Bool} {ch : Nat → Int32} (hM : TX  h0 h tl op hw ch) : ∀ j : Nat, (j < 39 ∨ 41 ≤ j) → h j = h0 j := hM.2.2
theorem pTX_tl {G : ez_G} {M : ez_M} {d : Nat} {Q : ez_Q} {h0 h : ez_H} {n mc ms pc q idx : Nat} {ls : List (Option Value)} {st9 : List Value} {tl op : Int32} {hw : Bool} {ch : Nat → Int32} {x : Int32} (hd : decode M.2.1 pc = .ok (.putfield idx, 3)) (hf : ez_fl M.1.cls idx 4 0) (hM : TX  h0 h tl op hw ch) (hq : pc + 3 = q) (K : ∀ g, TX  h0 g x op hw ch → E G M d Q g n mc ms q ls st9) : E G M d Q h n mc ms pc ls (.int x :: .ref 39 :: st9) := ez_put0 hd hf rfl (fun _ => rfl) (fun _ => rfl) (by decide) hM.1 (by show 0 < 4; decide) hq (K _ ⟨zu_same, zu_keep (by omega) hM.2.1, fun j hj => zu_fr (by omega) (hM.2.2 j hj)⟩)
theorem pTX_op {G : ez_G} {M : ez_M} {d : Nat} {Q : ez_Q} {h0 h : ez_H} {n mc ms pc q idx : Nat} {ls : List (Option Value)} {st9 : List Value} {tl op : Int32} {hw : Bool} {ch : Nat → Int32} {x : Int32} (hd : decode M.2.1 pc = .ok (.putfield idx, 3)) (hf : ez_fl M.1.cls idx 4 2) (hM : TX  h0 h tl op hw ch) (hq : pc + 3 = q) (K : ∀ g, TX  h0 g tl x hw ch → E G M d Q g n mc ms q ls st9) : E G M d Q h n mc ms pc ls (.int x :: .ref 39 :: st9) := ez_put0 hd hf rfl (fun _ => rfl) (fun _ => rfl) (by decide) hM.1 (by show 2 < 4; decide) hq (K _ ⟨zu_same, zu_keep (by omega) hM.2.1, fun j hj => zu_fr (by omega) (hM.2.2 j hj)⟩)
theorem pTX_hw {G : ez_G} {M : ez_M} {d : Nat} {Q : ez_Q} {h0 h : ez_H} {n mc ms pc q idx : Nat} {ls : List (Option Value)} {st9 : List Value} {tl op : Int32} {hw : Bool} {ch : Nat → Int32} {x : Bool} (hd : decode M.2.1 pc = .ok (.putfield idx, 3)) (hf : ez_fl M.1.cls idx 4 3) (hM : TX  h0 h tl op hw ch) (hq : pc + 3 = q) (K : ∀ g, TX  h0 g tl op x ch → E G M d Q g n mc ms q ls st9) : E G M d Q h n mc ms pc ls (.int (bI x) :: .ref 39 :: st9) := ez_put0 hd hf rfl (fun _ => bI_nar x) (fun _ => by cases x <;> rfl) (by decide) hM.1 (by show 3 < 4; decide) hq (K _ ⟨zu_same, zu_keep (by omega) hM.2.1, fun j hj => zu_fr (by omega) (hM.2.2 j hj)⟩)
theorem sTX_ch {G : ez_G} {M : ez_M} {d : Nat} {Q : ez_Q} {h0 h : ez_H} {n mc ms pc q : Nat} {ls : List (Option Value)} {st9 : List Value} {tl op : Int32} {hw : Bool} {ch : Nat → Int32} {j c9 : Nat} {i x : Int32} (hd : decode M.2.1 pc = .ok (.castore, 1)) (hM : TX  h0 h tl op hw ch) (hi : i = nI j) (hj : j < 60) (hx : x = nI c9) (hx2 : c9 < 65536) (hq : pc + 1 = q) (K : ∀ g, TX  h0 g tl op hw (upd ch j x) → E G M d Q g n mc ms q ls st9) : E G M d Q h n mc ms pc ls (.int x :: .int i :: .ref 40 :: st9) := ez_cast hd (by decide) hM.2.1 hi hj (by decide) hx hx2 hq (K _ ⟨zu_keep (by omega) hM.1, zu_same, fun j hj => zu_fr (by omega) (hM.2.2 j hj)⟩)
set_option maxHeartbeats 800000 in
set_option maxRecDepth 100000 in
theorem t_X4_put {G : ez_G} {d n : Nat} {h : ez_H} {t : Nat} {op : Int32} {hw : Bool} {ch : Nat → Int32} {c : Nat} (hM : TX  h h (nI t) op hw ch) (ht : t < 60) (hc : c < 65536) : Con G mX4_put (d) [.ref 39, .int (nI c)] h n 0 0 (PW n none (fun g => TX  h g (nI (t + 1)) op hw (upd ch t (nI c)))) := by
  refine Con.of [some (.ref 39), some (.int (nI c))] pl_X4 rfl (Nat.le_of_ble_eq_true rfl) rfl ?_
  have hQ : ∀ g, TX  h g (nI (t + 1)) op hw (upd ch t (nI c)) → (PW n none (fun g => TX  h g (nI (t + 1)) op hw (upd ch t (nI c)))) (.inl none) g n := fun g hW => ⟨rfl, hW, rfl⟩
  generalize PW n none (fun g => TX  h g (nI (t + 1)) op hw (upd ch t (nI c))) = Q at hQ ⊢
  refine ez_aload_n (q := 1) 0 dX4_put_0 rfl rfl rfl ?_
  refine ez_getf (q := 4) dX4_put_1 fl_X4_9 hM.1 rfl rfl ?_
  refine ez_ifltN (q := 7) (tgt := 36) dX4_put_4 (by decide) (by omega) rfl ?_
  refine ez_aload_n (q := 8) 0 dX4_put_7 rfl rfl rfl ?_
  refine ez_getf (q := 11) dX4_put_8 fl_X4_9 hM.1 rfl rfl ?_
  refine ez_bipush (v := nI 60) (q := 13) dX4_put_11 (by decide) rfl ?_
  refine ez_icmpgeN (q := 16) (tgt := 36) dX4_put_13 (by decide) (by omega) (by omega) rfl (fun hc13 => absurd ht (by omega)) (fun hc13 => ?_)
  refine ez_aload_n (q := 17) 0 dX4_put_16 rfl rfl rfl ?_
  refine ez_getf (q := 20) dX4_put_17 fl_X4_15 hM.1 rfl rfl ?_
  refine ez_aload_n (q := 21) 0 dX4_put_20 rfl rfl rfl ?_
  refine ez_getf (q := 24) dX4_put_21 fl_X4_9 hM.1 rfl rfl ?_
  refine ez_iload_n (q := 25) 1 dX4_put_24 rfl rfl rfl ?_
  refine sTX_ch (q := 26) dX4_put_25 hM rfl (by omega) rfl hc rfl (fun g hM => ?_)
  refine ez_aload_n (q := 27) 0 dX4_put_26 rfl rfl rfl ?_
  refine ez_dup (q := 28) dX4_put_27 rfl rfl ?_
  refine ez_getf (q := 31) dX4_put_28 fl_X4_9 hM.1 rfl rfl ?_
  refine ez_iconst (v := nI 1) (q := 32) dX4_put_31 (by decide) rfl ?_
  refine ez_iaddN (q := 33) dX4_put_32 rfl ?_
  refine pTX_tl (q := 36) dX4_put_33 fl_X4_9 hM rfl (fun g hM => ?_)
  exact ez_vret dX4_put_36 rfl (hQ _ hM)

set_option maxHeartbeats 800000 in
set_option maxRecDepth 100000 in
theorem t_X4_at {G : ez_G} {d n : Nat} {h : ez_H} {t : Nat} {op : Int32} {hw : Bool} {ch : Nat → Int32} {b : Nat → Nat} {i : Nat} (hM : TX  h h (nI t) op hw ch) (hb : BB ch t b) (hi : i < t) : Con G mX4_at (d) [.ref 39, .int (nI i)] h n 0 0 (PU h n (some (.int (nI (b i))))) := by
  have ht := hb.1
  have hbi := hb.2 i hi
  refine Con.of [some (.ref 39), some (.int (nI i))] pl_X4 rfl (Nat.le_of_ble_eq_true rfl) rfl ?_
  have hQ : (PU h n (some (.int (nI (b i))))) (.inl (some (.int (nI (b i))))) h n := ⟨rfl, rfl, rfl⟩
  generalize PU h n (some (.int (nI (b i)))) = Q at hQ ⊢
  refine ez_iload_n (q := 1) 1 dX4_at_0 rfl rfl rfl ?_
  refine ez_ifltN (q := 4) (tgt := 21) dX4_at_1 (by decide) (by omega) rfl ?_
  refine ez_iload_n (q := 5) 1 dX4_at_4 rfl rfl rfl ?_
  refine ez_aload_n (q := 6) 0 dX4_at_5 rfl rfl rfl ?_
  refine ez_getf (q := 9) dX4_at_6 fl_X4_9 hM.1 rfl rfl ?_
  refine ez_icmpgeN (q := 12) (tgt := 21) dX4_at_9 (by decide) (by omega) (by omega) rfl (fun hc9 => absurd hi (by omega)) (fun hc9 => ?_)
  refine ez_aload_n (q := 13) 0 dX4_at_12 rfl rfl rfl ?_
  refine ez_getf (q := 16) dX4_at_13 fl_X4_15 hM.1 rfl rfl ?_
  refine ez_iload_n (q := 17) 1 dX4_at_16 rfl rfl rfl ?_
  refine ez_cald (q := 18) dX4_at_17 hM.2.1 rfl (by omega) (by decide) rfl ?_
  refine ez_top (hbi.1) ?_
  refine ez_goto (q := 22) dX4_at_18 (by decide) ?_
  exact ez_zret dX4_at_22 rfl (ez_nar _ (by omega)) (hQ)

set_option maxHeartbeats 800000 in
set_option maxRecDepth 100000 in
theorem t_X4_leastRest {G : ez_G} {d n : Nat} {h : ez_H} {t : Nat} {o : Nat} {hw : Bool} {ch : Nat → Int32} (hM : TX  h h (nI t) (nI o) hw ch) : Con G mX4_leastRest (d) [.ref 39] h n 0 0 (PU h n (some (.int (nI (o + (if hw = true then 1 else 0)))))) := by
  refine Con.of [some (.ref 39)] pl_X4 rfl (Nat.le_of_ble_eq_true rfl) rfl ?_
  have hQ : (PU h n (some (.int (nI (o + (if hw = true then 1 else 0)))))) (.inl (some (.int (nI (o + (if hw = true then 1 else 0)))))) h n := ⟨rfl, rfl, rfl⟩
  generalize PU h n (some (.int (nI (o + (if hw = true then 1 else 0))))) = Q at hQ ⊢
  refine ez_aload_n (q := 1) 0 dX4_leastRest_0 rfl rfl rfl ?_
  refine ez_getf (q := 4) dX4_leastRest_1 fl_X4_19 hM.1 rfl rfl ?_
  refine ez_aload_n (q := 5) 0 dX4_leastRest_4 rfl rfl rfl ?_
  refine ez_getf (q := 8) dX4_leastRest_5 fl_X4_22 hM.1 rfl rfl ?_
  refine ez_ifeqB (q := 11) (tgt := 15) dX4_leastRest_8 (by decide) rfl (fun hc8 => ?_) (fun hc8 => ?_)
  · refine ez_iconst (v := nI 0) (q := 16) dX4_leastRest_15 (by decide) rfl ?_
    refine ez_iaddN (q := 17) dX4_leastRest_16 rfl ?_
    exact ez_iret dX4_leastRest_17 rfl (by first | (rw [if_pos hc8] at hQ; exact hQ) | (rw [if_neg (by rw [hc8]; decide)] at hQ; exact hQ))
  · refine ez_iconst (v := nI 1) (q := 12) dX4_leastRest_11 (by decide) rfl ?_
    refine ez_goto (q := 16) dX4_leastRest_12 (by decide) ?_
    refine ez_iaddN (q := 17) dX4_leastRest_16 rfl ?_
    exact ez_iret dX4_leastRest_17 rfl (by first | (rw [if_pos hc8] at hQ; exact hQ) | (rw [if_neg (by rw [hc8]; decide)] at hQ; exact hQ))

set_option maxHeartbeats 800000 in
set_option maxRecDepth 100000 in
theorem t_X4_takesSecond {G : ez_G} {d n : Nat} {h : ez_H} {t o c : Nat} {hw : Bool} {ch : Nat → Int32} (hM : TX  h h (nI t) (nI o) hw ch) (hc : c < 128) (ho : o < 1000) : Con G mX4_takesSecond (d) [.ref 39, .int (nI c)] h n 0 0 (PW n (some (.int (bI (stp (o, true) c).isSome))) (fun g => ∃ (x : Int32) (y : Bool), TX  h g (nI t) x y ch ∧ ∀ q, stp (o, true) c = some q → x = nI q.1 ∧ y = q.2)) := by
  refine Con.of [some (.ref 39), some (.int (nI c))] pl_X4 rfl (Nat.le_of_ble_eq_true rfl) rfl ?_
  have hQ : ∀ g (x : Int32) (y : Bool) (p : Option (Nat × Bool)), TX  h g (nI t) x y ch → stp (o, true) c = p → (∀ q, p = some q → x = nI q.1 ∧ y = q.2) → ∀ z, p.isSome = z → (PW n (some (.int (bI (stp (o, true) c).isSome))) (fun g => ∃ (x : Int32) (y : Bool), TX  h g (nI t) x y ch ∧ ∀ q, stp (o, true) c = some q → x = nI q.1 ∧ y = q.2)) (.inl (some (.int (bI z)))) g n := fun g x y p h1 h2 h3 z h4 => ⟨by rw [h2, h4], ⟨x, y, h1, by rw [h2]; exact h3⟩, rfl⟩
  generalize PW n (some (.int (bI (stp (o, true) c).isSome))) (fun g => ∃ (x : Int32) (y : Bool), TX  h g (nI t) x y ch ∧ ∀ q, stp (o, true) c = some q → x = nI q.1 ∧ y = q.2) = Q at hQ ⊢
  refine ez_aload_n (q := 1) 0 dX4_takesSecond_0 rfl rfl rfl ?_
  refine ez_iconst (v := nI 0) (q := 2) dX4_takesSecond_1 (by decide) rfl ?_
  refine ez_top (show nI 0 = bI false from rfl) ?_
  refine pTX_hw (q := 5) dX4_takesSecond_2 fl_X4_22 hM rfl (fun g hM => ?_)
  refine ez_iload_n (q := 6) 1 dX4_takesSecond_5 rfl rfl rfl ?_
  rcases (show c = 70 ∨ c = 71 ∨ c = 85 ∨ c = 88 ∨ (¬ c = 70 ∧ ¬ c = 71 ∧ ¬ c = 85 ∧ ¬ c = 88) by omega) with rfl | rfl | rfl | rfl | hno
  · refine ez_lookup (q := 60) (off := 54) dX4_takesSecond_6 (by decide) (by decide) (by decide) ?_
    refine ez_iconst (v := nI 1) (q := 61) dX4_takesSecond_60 (by decide) rfl ?_
    refine ez_top (show nI 1 = bI true from rfl) ?_
    exact ez_zretB dX4_takesSecond_61 rfl (hQ _ _ _ (some (o, false)) hM (by simp [stp]) (fun q hq => by cases hq; exact ⟨rfl, rfl⟩) true rfl)
  · refine ez_lookup (q := 60) (off := 54) dX4_takesSecond_6 (by decide) (by decide) (by decide) ?_
    refine ez_iconst (v := nI 1) (q := 61) dX4_takesSecond_60 (by decide) rfl ?_
    refine ez_top (show nI 1 = bI true from rfl) ?_
    exact ez_zretB dX4_takesSecond_61 rfl (hQ _ _ _ (some (o, false)) hM (by simp [stp]) (fun q hq => by cases hq; exact ⟨rfl, rfl⟩) true rfl)
  · refine ez_lookup (q := 48) (off := 42) dX4_takesSecond_6 (by decide) (by decide) (by decide) ?_
    refine ez_aload_n (q := 49) 0 dX4_takesSecond_48 rfl rfl rfl ?_
    refine ez_dup (q := 50) dX4_takesSecond_49 rfl rfl ?_
    refine ez_getf (q := 53) dX4_takesSecond_50 fl_X4_19 hM.1 rfl rfl ?_
    refine ez_iconst (v := nI 1) (q := 54) dX4_takesSecond_53 (by decide) rfl ?_
    refine ez_iaddN (q := 55) dX4_takesSecond_54 rfl ?_
    refine pTX_op (q := 58) dX4_takesSecond_55 fl_X4_19 hM rfl (fun g hM => ?_)
    refine ez_iconst (v := nI 1) (q := 59) dX4_takesSecond_58 (by decide) rfl ?_
    refine ez_top (show nI 1 = bI true from rfl) ?_
    exact ez_zretB dX4_takesSecond_59 rfl (hQ _ _ _ (some (o + 1, false)) hM (by simp [stp]) (fun q hq => by cases hq; exact ⟨rfl, rfl⟩) true rfl)
  · refine ez_lookup (q := 60) (off := 54) dX4_takesSecond_6 (by decide) (by decide) (by decide) ?_
    refine ez_iconst (v := nI 1) (q := 61) dX4_takesSecond_60 (by decide) rfl ?_
    refine ez_top (show nI 1 = bI true from rfl) ?_
    exact ez_zretB dX4_takesSecond_61 rfl (hQ _ _ _ (some (o, false)) hM (by simp [stp]) (fun q hq => by cases hq; exact ⟨rfl, rfl⟩) true rfl)
  · refine ez_lookup (q := 62) (off := 56) dX4_takesSecond_6 (by decide) (show _ = ((56) : Int) from (show ∀ c, c < 128 → (¬ c = 70 ∧ ¬ c = 71 ∧ ¬ c = 85 ∧ ¬ c = 88) → Op.lookupswitch.offset (#[(70, 54), (71, 54), (85, 42), (88, 54)] : Array (Int × Int)).toList 56 (nI c).toInt = 56 from by decide +kernel) c hc hno) (by decide) ?_
    refine ez_iconst (v := nI 0) (q := 63) dX4_takesSecond_62 (by decide) rfl ?_
    refine ez_top (show nI 0 = bI false from rfl) ?_
    exact ez_zretB dX4_takesSecond_63 rfl (hQ _ _ _ none hM (by simp [stp, hno]) (fun q hq => nomatch hq) false rfl)

set_option maxHeartbeats 800000 in
set_option maxRecDepth 100000 in
theorem t_X4_takesFirst {G : ez_G} {d n : Nat} {h : ez_H} {t o c : Nat} {hw : Bool} {ch : Nat → Int32} (hM : TX  h h (nI t) (nI o) hw ch) (hc : c < 128) (ho : o < 1000) (h0 : 0 < o) (hw0 : hw = false) : Con G mX4_takesFirst (d) [.ref 39, .int (nI c)] h n 0 0 (PW n (some (.int (bI (stp (o, false) c).isSome))) (fun g => ∃ (x : Int32) (y : Bool), TX  h g (nI t) x y ch ∧ ∀ q, stp (o, false) c = some q → x = nI q.1 ∧ y = q.2)) := by
  refine Con.of [some (.ref 39), some (.int (nI c))] pl_X4 rfl (Nat.le_of_ble_eq_true rfl) rfl ?_
  have hQ : ∀ g (x : Int32) (y : Bool) (p : Option (Nat × Bool)), TX  h g (nI t) x y ch → stp (o, false) c = p → (∀ q, p = some q → x = nI q.1 ∧ y = q.2) → ∀ z, p.isSome = z → (PW n (some (.int (bI (stp (o, false) c).isSome))) (fun g => ∃ (x : Int32) (y : Bool), TX  h g (nI t) x y ch ∧ ∀ q, stp (o, false) c = some q → x = nI q.1 ∧ y = q.2)) (.inl (some (.int (bI z)))) g n := fun g x y p h1 h2 h3 z h4 => ⟨by rw [h2, h4], ⟨x, y, h1, by rw [h2]; exact h3⟩, rfl⟩
  generalize PW n (some (.int (bI (stp (o, false) c).isSome))) (fun g => ∃ (x : Int32) (y : Bool), TX  h g (nI t) x y ch ∧ ∀ q, stp (o, false) c = some q → x = nI q.1 ∧ y = q.2) = Q at hQ ⊢
  refine ez_iload_n (q := 1) 1 dX4_takesFirst_0 rfl rfl rfl ?_
  subst hw0
  rcases (show c = 33 ∨ c = 38 ∨ c = 65 ∨ c = 69 ∨ c = 97 ∨ c = 98 ∨ c = 99 ∨ c = 100 ∨ c = 116 ∨ c = 124 ∨ (¬ c = 33 ∧ ¬ c = 38 ∧ ¬ c = 65 ∧ ¬ c = 69 ∧ ¬ c = 97 ∧ ¬ c = 98 ∧ ¬ c = 99 ∧ ¬ c = 100 ∧ ¬ c = 116 ∧ ¬ c = 124) by omega) with rfl | rfl | rfl | rfl | rfl | rfl | rfl | rfl | rfl | rfl | hno
  · refine ez_lookup (q := 104) (off := 103) dX4_takesFirst_1 (by decide) (by decide) (by decide) ?_
    refine ez_iconst (v := nI 1) (q := 105) dX4_takesFirst_104 (by decide) rfl ?_
    refine ez_top (show nI 1 = bI true from rfl) ?_
    exact ez_zretB dX4_takesFirst_105 rfl (hQ _ _ _ (some (o, false)) hM (by simp [stp, show ¬ o = 0 by omega]) (fun q hq => by cases hq; exact ⟨rfl, rfl⟩) true rfl)
  · refine ez_lookup (q := 106) (off := 105) dX4_takesFirst_1 (by decide) (by decide) (by decide) ?_
    refine ez_aload_n (q := 107) 0 dX4_takesFirst_106 rfl rfl rfl ?_
    refine ez_dup (q := 108) dX4_takesFirst_107 rfl rfl ?_
    refine ez_getf (q := 111) dX4_takesFirst_108 fl_X4_19 hM.1 rfl rfl ?_
    refine ez_iconst (v := nI 1) (q := 112) dX4_takesFirst_111 (by decide) rfl ?_
    refine ez_iaddN (q := 113) dX4_takesFirst_112 rfl ?_
    refine pTX_op (q := 116) dX4_takesFirst_113 fl_X4_19 hM rfl (fun g hM => ?_)
    refine ez_iconst (v := nI 1) (q := 117) dX4_takesFirst_116 (by decide) rfl ?_
    refine ez_top (show nI 1 = bI true from rfl) ?_
    exact ez_zretB dX4_takesFirst_117 rfl (hQ _ _ _ (some (o + 1, false)) hM (by simp [stp, show ¬ o = 0 by omega]) (fun q hq => by cases hq; exact ⟨rfl, rfl⟩) true rfl)
  · refine ez_lookup (q := 118) (off := 117) dX4_takesFirst_1 (by decide) (by decide) (by decide) ?_
    refine ez_aload_n (q := 119) 0 dX4_takesFirst_118 rfl rfl rfl ?_
    refine ez_iconst (v := nI 1) (q := 120) dX4_takesFirst_119 (by decide) rfl ?_
    refine ez_top (show nI 1 = bI true from rfl) ?_
    refine pTX_hw (q := 123) dX4_takesFirst_120 fl_X4_22 hM rfl (fun g hM => ?_)
    refine ez_iconst (v := nI 1) (q := 124) dX4_takesFirst_123 (by decide) rfl ?_
    refine ez_top (show nI 1 = bI true from rfl) ?_
    exact ez_zretB dX4_takesFirst_124 rfl (hQ _ _ _ (some (o, true)) hM (by simp [stp, show ¬ o = 0 by omega]) (fun q hq => by cases hq; exact ⟨rfl, rfl⟩) true rfl)
  · refine ez_lookup (q := 118) (off := 117) dX4_takesFirst_1 (by decide) (by decide) (by decide) ?_
    refine ez_aload_n (q := 119) 0 dX4_takesFirst_118 rfl rfl rfl ?_
    refine ez_iconst (v := nI 1) (q := 120) dX4_takesFirst_119 (by decide) rfl ?_
    refine ez_top (show nI 1 = bI true from rfl) ?_
    refine pTX_hw (q := 123) dX4_takesFirst_120 fl_X4_22 hM rfl (fun g hM => ?_)
    refine ez_iconst (v := nI 1) (q := 124) dX4_takesFirst_123 (by decide) rfl ?_
    refine ez_top (show nI 1 = bI true from rfl) ?_
    exact ez_zretB dX4_takesFirst_124 rfl (hQ _ _ _ (some (o, true)) hM (by simp [stp, show ¬ o = 0 by omega]) (fun q hq => by cases hq; exact ⟨rfl, rfl⟩) true rfl)
  · refine ez_lookup (q := 92) (off := 91) dX4_takesFirst_1 (by decide) (by decide) (by decide) ?_
    refine ez_aload_n (q := 93) 0 dX4_takesFirst_92 rfl rfl rfl ?_
    refine ez_dup (q := 94) dX4_takesFirst_93 rfl rfl ?_
    refine ez_getf (q := 97) dX4_takesFirst_94 fl_X4_19 hM.1 rfl rfl ?_
    refine ez_iconst (v := nI 1) (q := 98) dX4_takesFirst_97 (by decide) rfl ?_
    refine ez_isubN (q := 99) dX4_takesFirst_98 (by omega) rfl ?_
    refine pTX_op (q := 102) dX4_takesFirst_99 fl_X4_19 hM rfl (fun g hM => ?_)
    refine ez_iconst (v := nI 1) (q := 103) dX4_takesFirst_102 (by decide) rfl ?_
    refine ez_top (show nI 1 = bI true from rfl) ?_
    exact ez_zretB dX4_takesFirst_103 rfl (hQ _ _ _ (some (o - 1, false)) hM (by simp [stp, show ¬ o = 0 by omega]) (fun q hq => by cases hq; exact ⟨rfl, rfl⟩) true rfl)
  · refine ez_lookup (q := 92) (off := 91) dX4_takesFirst_1 (by decide) (by decide) (by decide) ?_
    refine ez_aload_n (q := 93) 0 dX4_takesFirst_92 rfl rfl rfl ?_
    refine ez_dup (q := 94) dX4_takesFirst_93 rfl rfl ?_
    refine ez_getf (q := 97) dX4_takesFirst_94 fl_X4_19 hM.1 rfl rfl ?_
    refine ez_iconst (v := nI 1) (q := 98) dX4_takesFirst_97 (by decide) rfl ?_
    refine ez_isubN (q := 99) dX4_takesFirst_98 (by omega) rfl ?_
    refine pTX_op (q := 102) dX4_takesFirst_99 fl_X4_19 hM rfl (fun g hM => ?_)
    refine ez_iconst (v := nI 1) (q := 103) dX4_takesFirst_102 (by decide) rfl ?_
    refine ez_top (show nI 1 = bI true from rfl) ?_
    exact ez_zretB dX4_takesFirst_103 rfl (hQ _ _ _ (some (o - 1, false)) hM (by simp [stp, show ¬ o = 0 by omega]) (fun q hq => by cases hq; exact ⟨rfl, rfl⟩) true rfl)
  · refine ez_lookup (q := 92) (off := 91) dX4_takesFirst_1 (by decide) (by decide) (by decide) ?_
    refine ez_aload_n (q := 93) 0 dX4_takesFirst_92 rfl rfl rfl ?_
    refine ez_dup (q := 94) dX4_takesFirst_93 rfl rfl ?_
    refine ez_getf (q := 97) dX4_takesFirst_94 fl_X4_19 hM.1 rfl rfl ?_
    refine ez_iconst (v := nI 1) (q := 98) dX4_takesFirst_97 (by decide) rfl ?_
    refine ez_isubN (q := 99) dX4_takesFirst_98 (by omega) rfl ?_
    refine pTX_op (q := 102) dX4_takesFirst_99 fl_X4_19 hM rfl (fun g hM => ?_)
    refine ez_iconst (v := nI 1) (q := 103) dX4_takesFirst_102 (by decide) rfl ?_
    refine ez_top (show nI 1 = bI true from rfl) ?_
    exact ez_zretB dX4_takesFirst_103 rfl (hQ _ _ _ (some (o - 1, false)) hM (by simp [stp, show ¬ o = 0 by omega]) (fun q hq => by cases hq; exact ⟨rfl, rfl⟩) true rfl)
  · refine ez_lookup (q := 92) (off := 91) dX4_takesFirst_1 (by decide) (by decide) (by decide) ?_
    refine ez_aload_n (q := 93) 0 dX4_takesFirst_92 rfl rfl rfl ?_
    refine ez_dup (q := 94) dX4_takesFirst_93 rfl rfl ?_
    refine ez_getf (q := 97) dX4_takesFirst_94 fl_X4_19 hM.1 rfl rfl ?_
    refine ez_iconst (v := nI 1) (q := 98) dX4_takesFirst_97 (by decide) rfl ?_
    refine ez_isubN (q := 99) dX4_takesFirst_98 (by omega) rfl ?_
    refine pTX_op (q := 102) dX4_takesFirst_99 fl_X4_19 hM rfl (fun g hM => ?_)
    refine ez_iconst (v := nI 1) (q := 103) dX4_takesFirst_102 (by decide) rfl ?_
    refine ez_top (show nI 1 = bI true from rfl) ?_
    exact ez_zretB dX4_takesFirst_103 rfl (hQ _ _ _ (some (o - 1, false)) hM (by simp [stp, show ¬ o = 0 by omega]) (fun q hq => by cases hq; exact ⟨rfl, rfl⟩) true rfl)
  · refine ez_lookup (q := 92) (off := 91) dX4_takesFirst_1 (by decide) (by decide) (by decide) ?_
    refine ez_aload_n (q := 93) 0 dX4_takesFirst_92 rfl rfl rfl ?_
    refine ez_dup (q := 94) dX4_takesFirst_93 rfl rfl ?_
    refine ez_getf (q := 97) dX4_takesFirst_94 fl_X4_19 hM.1 rfl rfl ?_
    refine ez_iconst (v := nI 1) (q := 98) dX4_takesFirst_97 (by decide) rfl ?_
    refine ez_isubN (q := 99) dX4_takesFirst_98 (by omega) rfl ?_
    refine pTX_op (q := 102) dX4_takesFirst_99 fl_X4_19 hM rfl (fun g hM => ?_)
    refine ez_iconst (v := nI 1) (q := 103) dX4_takesFirst_102 (by decide) rfl ?_
    refine ez_top (show nI 1 = bI true from rfl) ?_
    exact ez_zretB dX4_takesFirst_103 rfl (hQ _ _ _ (some (o - 1, false)) hM (by simp [stp, show ¬ o = 0 by omega]) (fun q hq => by cases hq; exact ⟨rfl, rfl⟩) true rfl)
  · refine ez_lookup (q := 106) (off := 105) dX4_takesFirst_1 (by decide) (by decide) (by decide) ?_
    refine ez_aload_n (q := 107) 0 dX4_takesFirst_106 rfl rfl rfl ?_
    refine ez_dup (q := 108) dX4_takesFirst_107 rfl rfl ?_
    refine ez_getf (q := 111) dX4_takesFirst_108 fl_X4_19 hM.1 rfl rfl ?_
    refine ez_iconst (v := nI 1) (q := 112) dX4_takesFirst_111 (by decide) rfl ?_
    refine ez_iaddN (q := 113) dX4_takesFirst_112 rfl ?_
    refine pTX_op (q := 116) dX4_takesFirst_113 fl_X4_19 hM rfl (fun g hM => ?_)
    refine ez_iconst (v := nI 1) (q := 117) dX4_takesFirst_116 (by decide) rfl ?_
    refine ez_top (show nI 1 = bI true from rfl) ?_
    exact ez_zretB dX4_takesFirst_117 rfl (hQ _ _ _ (some (o + 1, false)) hM (by simp [stp, show ¬ o = 0 by omega]) (fun q hq => by cases hq; exact ⟨rfl, rfl⟩) true rfl)
  · refine ez_lookup (q := 125) (off := 124) dX4_takesFirst_1 (by decide) (show _ = ((124) : Int) from (show ∀ c, c < 128 → (¬ c = 33 ∧ ¬ c = 38 ∧ ¬ c = 65 ∧ ¬ c = 69 ∧ ¬ c = 97 ∧ ¬ c = 98 ∧ ¬ c = 99 ∧ ¬ c = 100 ∧ ¬ c = 116 ∧ ¬ c = 124) → Op.lookupswitch.offset (#[(33, 103), (38, 105), (65, 117), (69, 117), (97, 91), (98, 91), (99, 91), (100, 91), (116, 91), (124, 105)] : Array (Int × Int)).toList 124 (nI c).toInt = 124 from by decide +kernel) c hc hno) (by decide) ?_
    refine ez_iconst (v := nI 0) (q := 126) dX4_takesFirst_125 (by decide) rfl ?_
    refine ez_top (show nI 0 = bI false from rfl) ?_
    exact ez_zretB dX4_takesFirst_126 rfl (hQ _ _ _ none hM (by rw [stp_f, isB]; simp [oneB, twoB, eaB]; omega) (fun q hq => nomatch hq) false rfl)

set_option maxHeartbeats 800000 in
set_option maxRecDepth 100000 in
theorem t_X4_takes {G : ez_G} {d n : Nat} {h : ez_H} {t o c : Nat} {hw : Bool} {ch : Nat → Int32} (hM : TX  h h (nI t) (nI o) hw ch) (hc : c < 128) (ho : o < 1000) : Con G mX4_takes (d + 1) [.ref 39, .int (nI c)] h n 0 0 (PW n (some (.int (bI (stp (o, hw) c).isSome))) (fun g => ∃ (x : Int32) (y : Bool), TX  h g (nI t) x y ch ∧ ∀ q, stp (o, hw) c = some q → x = nI q.1 ∧ y = q.2)) := by
  refine Con.of [some (.ref 39), some (.int (nI c))] pl_X4 rfl (Nat.le_of_ble_eq_true rfl) rfl ?_
  have hQ : ∀ g (x : Int32) (y : Bool) (p : Option (Nat × Bool)), TX  h g (nI t) x y ch → stp (o, hw) c = p → (∀ q, p = some q → x = nI q.1 ∧ y = q.2) → ∀ z, p.isSome = z → (PW n (some (.int (bI (stp (o, hw) c).isSome))) (fun g => ∃ (x : Int32) (y : Bool), TX  h g (nI t) x y ch ∧ ∀ q, stp (o, hw) c = some q → x = nI q.1 ∧ y = q.2)) (.inl (some (.int (bI z)))) g n := fun g x y p h1 h2 h3 z h4 => ⟨by rw [h2, h4], ⟨x, y, h1, by rw [h2]; exact h3⟩, rfl⟩
  generalize PW n (some (.int (bI (stp (o, hw) c).isSome))) (fun g => ∃ (x : Int32) (y : Bool), TX  h g (nI t) x y ch ∧ ∀ q, stp (o, hw) c = some q → x = nI q.1 ∧ y = q.2) = Q at hQ ⊢
  refine ez_aload_n (q := 1) 0 dX4_takes_0 rfl rfl rfl ?_
  refine ez_getf (q := 4) dX4_takes_1 fl_X4_22 hM.1 rfl rfl ?_
  refine ez_ifeqB (q := 7) (tgt := 13) dX4_takes_4 (by decide) rfl (fun hc4 => ?_) (fun hc4 => ?_)
  · subst hc4
    refine ez_aload_n (q := 14) 0 dX4_takes_13 rfl rfl rfl ?_
    refine ez_getf (q := 17) dX4_takes_14 fl_X4_19 hM.1 rfl rfl ?_
    refine ez_ifleN (q := 20) (tgt := 32) dX4_takes_17 (by decide) (by omega) rfl (fun hc17 => ?_) (fun hc17 => ?_)
    · refine ez_iconst (v := nI 0) (q := 33) dX4_takes_32 (by decide) rfl ?_
      refine ez_top (show nI 0 = bI false from rfl) ?_
      exact ez_zretB dX4_takes_33 rfl (by first | exact hQ _ _ _ _ hM rfl hx _ (by assumption) | exact hQ _ _ _ none hM (by rw [stp, if_neg Bool.false_ne_true, if_pos hc17]) (fun q hq => nomatch hq) _ rfl)
    · refine ez_aload_n (q := 21) 0 dX4_takes_20 rfl rfl rfl ?_
      refine ez_iload_n (q := 22) 1 dX4_takes_21 rfl rfl rfl ?_
      refine cXv (q := 25) dX4_takes_22 ck_X4_44 hM.1 (t_X4_takesFirst hM.rb hc ho (by omega) rfl) rfl ⟨by decide, rfl⟩ rfl rfl rfl (Nat.le_of_ble_eq_true rfl) rfl (fun g hW => ?_)
      obtain ⟨op2, hw2, hM2, hx⟩ := hW
      have hM := hM.tr hM2
      refine ez_ifeqB (q := 28) (tgt := 32) dX4_takes_25 (by decide) rfl (fun hc25 => ?_) (fun hc25 => ?_)
      · refine ez_iconst (v := nI 0) (q := 33) dX4_takes_32 (by decide) rfl ?_
        refine ez_top (show nI 0 = bI false from rfl) ?_
        exact ez_zretB dX4_takes_33 rfl (by first | exact hQ _ _ _ _ hM rfl hx _ (by assumption) | exact hQ _ _ _ none hM (by rw [stp, if_neg Bool.false_ne_true, if_pos hc17]) (fun q hq => nomatch hq) _ rfl)
      · refine ez_iconst (v := nI 1) (q := 29) dX4_takes_28 (by decide) rfl ?_
        refine ez_top (show nI 1 = bI true from rfl) ?_
        refine ez_goto (q := 33) dX4_takes_29 (by decide) ?_
        exact ez_zretB dX4_takes_33 rfl (by first | exact hQ _ _ _ _ hM rfl hx _ (by assumption) | exact hQ _ _ _ none hM (by rw [stp, if_neg Bool.false_ne_true, if_pos hc17]) (fun q hq => nomatch hq) _ rfl)
  · subst hc4
    refine ez_aload_n (q := 8) 0 dX4_takes_7 rfl rfl rfl ?_
    refine ez_iload_n (q := 9) 1 dX4_takes_8 rfl rfl rfl ?_
    refine cXv (q := 12) dX4_takes_9 ck_X4_41 hM.1 (t_X4_takesSecond hM.rb hc ho) rfl ⟨by decide, rfl⟩ rfl rfl rfl (Nat.le_of_ble_eq_true rfl) rfl (fun g hW => ?_)
    obtain ⟨op2, hw2, hM2, hx⟩ := hW
    have hM := hM.tr hM2
    exact ez_zretB dX4_takes_12 rfl (hQ _ _ _ _ hM rfl hx _ rfl)

set_option maxHeartbeats 800000 in
set_option maxRecDepth 100000 in
theorem t_X4_firstFault {G : ez_G} {d n : Nat} {h : ez_H} {t : Nat} {op : Int32} {hw : Bool} {ch : Nat → Int32} {b : Nat → Nat} (hM : TX  h h (nI t) op hw ch) (hb : BB ch t b) : Con G mX4_firstFault (d + 2) [.ref 39] h n 0 0 (PW n (some (.int (nI (rdR b t).1))) (fun g => ∃ (x : Int32) (y : Bool), TX  h g (nI t) x y ch ∧ ((rdR b t).1 = t → x = nI (rdR b t).2.1 ∧ y = (rdR b t).2.2))) := by
  have ht := hb.1
  refine Con.of [some (.ref 39), none] pl_X4 rfl (Nat.le_of_ble_eq_true rfl) rfl ?_
  have hQ : ∀ g (x : Int32) (y : Bool), TX  h g (nI t) x y ch → ((rdR b t).1 = t → x = nI (rdR b t).2.1 ∧ y = (rdR b t).2.2) → (PW n (some (.int (nI (rdR b t).1))) (fun g => ∃ (x : Int32) (y : Bool), TX  h g (nI t) x y ch ∧ ((rdR b t).1 = t → x = nI (rdR b t).2.1 ∧ y = (rdR b t).2.2))) (.inl (some (.int (nI (rdR b t).1)))) g n := fun g x y hM hx => ⟨rfl, ⟨x, y, hM, hx⟩, rfl⟩
  generalize PW n (some (.int (nI (rdR b t).1))) (fun g => ∃ (x : Int32) (y : Bool), TX  h g (nI t) x y ch ∧ ((rdR b t).1 = t → x = nI (rdR b t).2.1 ∧ y = (rdR b t).2.2)) = Q at hQ ⊢
  refine ez_aload_n (q := 1) 0 dX4_firstFault_0 rfl rfl rfl ?_
  refine ez_iconst (v := nI 1) (q := 2) dX4_firstFault_1 (by decide) rfl ?_
  refine pTX_op (q := 5) dX4_firstFault_2 fl_X4_19 hM rfl (fun g hM => ?_)
  refine ez_aload_n (q := 6) 0 dX4_firstFault_5 rfl rfl rfl ?_
  refine ez_iconst (v := nI 0) (q := 7) dX4_firstFault_6 (by decide) rfl ?_
  refine ez_top (show nI 0 = bI false from rfl) ?_
  refine pTX_hw (q := 10) dX4_firstFault_7 fl_X4_22 hM rfl (fun g hM => ?_)
  refine ez_iconst (v := nI 0) (q := 11) dX4_firstFault_10 (by decide) rfl ?_
  refine ez_istore_1 (q := 12) dX4_firstFault_11 rfl (by decide) rfl rfl ?_
  refine ez_loop (α := Nat) (fun k => t - k) (P := fun k => ∀ (g : ez_H) (o : Nat) (y : Bool), TX  h g (nI t) (nI o) y ch → (k ≤ t) → (rdN b t (t - k) k (o, y) = rdR b t) → (o ≤ k + 1) → E G mX4_firstFault (d + 2) Q g n 0 0 12 [some (.ref 39), some (.int (nI k))] []) ?_ 0 g 1 false hM (Nat.zero_le t) rfl (Nat.le_refl 1)
  intro k ih12 g o y hM hk hr ho
  refine ez_iload_n (q := 13) 1 dX4_firstFault_12 rfl rfl rfl ?_
  refine ez_aload_n (q := 14) 0 dX4_firstFault_13 rfl rfl rfl ?_
  refine ez_getf (q := 17) dX4_firstFault_14 fl_X4_9 hM.1 rfl rfl ?_
  refine ez_icmpgeN (q := 20) (tgt := 53) dX4_firstFault_17 (by decide) (by omega) (by omega) rfl (fun hc17 => ?_) (fun hc17 => ?_)
  · have ek : k = t := by omega
    subst ek
    rw [Nat.sub_self, rdN] at hr
    refine ez_aload_n (q := 54) 0 dX4_firstFault_53 rfl rfl rfl ?_
    refine ez_getf (q := 57) dX4_firstFault_54 fl_X4_9 hM.1 rfl rfl ?_
    exact ez_iret dX4_firstFault_57 rfl (by rw [← hr] at hQ; exact hQ _ _ _ hM (fun _ => ⟨rfl, rfl⟩))
  · refine ez_aload_n (q := 21) 0 dX4_firstFault_20 rfl rfl rfl ?_
    refine ez_aload_n (q := 22) 0 dX4_firstFault_21 rfl rfl rfl ?_
    refine ez_iload_n (q := 23) 1 dX4_firstFault_22 rfl rfl rfl ?_
    refine cPv (q := 26) dX4_firstFault_23 ck_X4_30 hM.1 (t_X4_at hM.rb hb (by omega)) rfl ⟨by decide, rfl⟩ rfl rfl rfl (Nat.le_of_ble_eq_true rfl) rfl ?_
    refine cXv (q := 29) dX4_firstFault_26 ck_X4_34 hM.1 (t_X4_takes hM.rb (hb.2 k (by omega)).2 (by omega)) rfl ⟨by decide, rfl⟩ rfl rfl rfl (Nat.le_of_ble_eq_true rfl) rfl (fun g hW => ?_)
    obtain ⟨op2, hw2, hM2, hx⟩ := hW
    have hM := hM.tr hM2
    refine ez_ifeqB (q := 32) (tgt := 45) dX4_firstFault_29 (by decide) rfl (fun hc29 => ?_) (fun hc29 => ?_)
    · have hno : stp (o, y) (b k) = none := Option.not_isSome_iff_eq_none.mp (by rw [hc29]; exact Bool.false_ne_true)
      refine ez_iload_n (q := 46) 1 dX4_firstFault_45 rfl rfl rfl ?_
      exact ez_iret dX4_firstFault_46 rfl (by have e : rdR b t = (k, (o, y)) := by { rw [← hr, show t - k = (t - (k + 1)) + 1 by omega, rdN]; first | (rw [hno]; first | done | rfl) | (rw [hq3]; dsimp only; rw [if_pos (by omega)]) }; rw [e] at hQ; exact hQ _ _ _ hM (fun h => by dsimp only at h; omega))
    · obtain ⟨⟨o2, y2⟩, hq3⟩ := Option.isSome_iff_exists.mp hc29
      obtain ⟨rfl, rfl⟩ := hx _ hq3
      have ho2 := stp_le hq3
      dsimp only at ho2 hM
      have hr3 := hr
      have hy9 : (if hw2 = true then 1 else 0 : Nat) ≤ 1 := by split <;> omega
      refine ez_iload_n (q := 33) 1 dX4_firstFault_32 rfl rfl rfl ?_
      refine ez_iconst (v := nI 1) (q := 34) dX4_firstFault_33 (by decide) rfl ?_
      refine ez_iaddN (q := 35) dX4_firstFault_34 rfl ?_
      refine ez_aload_n (q := 36) 0 dX4_firstFault_35 rfl rfl rfl ?_
      refine cPv (q := 39) dX4_firstFault_36 ck_X4_38 hM.1 (t_X4_leastRest hM.rb) rfl ⟨by decide, rfl⟩ rfl rfl rfl (Nat.le_of_ble_eq_true rfl) rfl ?_
      refine ez_iaddN (q := 40) dX4_firstFault_39 rfl ?_
      refine ez_bipush (v := nI 40) (q := 42) dX4_firstFault_40 (by decide) rfl ?_
      refine ez_icmpleN (q := 45) (tgt := 47) dX4_firstFault_42 (by decide) (by omega) (by decide) rfl (fun hc42 => ?_) (fun hc42 => ?_)
      · refine ez_iincN_1 (q := 50) dX4_firstFault_47 (by decide) rfl rfl ?_
        refine ez_goto (q := 12) dX4_firstFault_50 (by decide) ?_
        exact E.fg (ih12 (k + 1) (by omega) g _ _ hM (by omega) (by rw [← hr3, show t - k = (t - (k + 1)) + 1 by omega, rdN, hq3]; dsimp only; rw [if_neg (by omega)]) (by omega)) ⟨Or.inr (rfl), Or.inr (rfl), trivial⟩
      · refine ez_iload_n (q := 46) 1 dX4_firstFault_45 rfl rfl rfl ?_
        exact ez_iret dX4_firstFault_46 rfl (by have e : rdR b t = (k, (o, y)) := by { rw [← hr, show t - k = (t - (k + 1)) + 1 by omega, rdN]; first | (rw [hno]; first | done | rfl) | (rw [hq3]; dsimp only; rw [if_pos (by omega)]) }; rw [e] at hQ; exact hQ _ _ _ hM (fun h => by dsimp only at h; omega))

set_option maxHeartbeats 800000 in
set_option maxRecDepth 100000 in
theorem t_X4_isWish {G : ez_G} {d n : Nat} {h : ez_H} {t : Nat} {op : Int32} {hw : Bool} {ch : Nat → Int32} {b : Nat → Nat} (hM : TX  h h (nI t) op hw ch) (hb : BB ch t b) : Con G mX4_isWish (d + 3) [.ref 39] h n 0 0 (PW n (some (.int (bI (whoB b t)))) (fun g => ∃ (x : Int32) (y : Bool), TX  h g (nI t) x y ch)) := by
  have ht := hb.1
  have h1 := rdR_le b t
  have h2 := rdR_b b t
  refine Con.of [some (.ref 39)] pl_X4 rfl (Nat.le_of_ble_eq_true rfl) rfl ?_
  have hQ : ∀ g (x : Int32) (y : Bool), TX  h g (nI t) x y ch → (PW n (some (.int (bI (whoB b t)))) (fun g => ∃ (x : Int32) (y : Bool), TX  h g (nI t) x y ch)) (.inl (some (.int (bI (whoB b t))))) g n := fun g x y hM => ⟨rfl, ⟨x, y, hM⟩, rfl⟩
  generalize PW n (some (.int (bI (whoB b t)))) (fun g => ∃ (x : Int32) (y : Bool), TX  h g (nI t) x y ch) = Q at hQ ⊢
  refine ez_aload_n (q := 1) 0 dX4_isWish_0 rfl rfl rfl ?_
  refine cXv (q := 4) dX4_isWish_1 ck_X4_26 hM.1 (t_X4_firstFault hM.rb hb) rfl ⟨by decide, rfl⟩ rfl rfl rfl (Nat.le_of_ble_eq_true rfl) rfl (fun g hW => ?_)
  obtain ⟨op2, hw2, hM2, hx⟩ := hW
  have hM := hM.tr hM2
  refine ez_aload_n (q := 5) 0 dX4_isWish_4 rfl rfl rfl ?_
  refine ez_getf (q := 8) dX4_isWish_5 fl_X4_9 hM.1 rfl rfl ?_
  refine ez_icmpneN (q := 11) (tgt := 22) dX4_isWish_8 (by decide) (by omega) (by omega) rfl (fun hc8 => ?_) (fun hc8 => ?_)
  · refine ez_iconst (v := nI 0) (q := 23) dX4_isWish_22 (by decide) rfl ?_
    refine ez_top (show nI 0 = bI (whoB b t) from bI_df (by first | (rintro ⟨a, -⟩; exact hc8 a) | (rintro ⟨-, a⟩; exact hc15 a))) ?_
    exact ez_zretB dX4_isWish_23 rfl (hQ _ _ _ hM)
  · refine ez_aload_n (q := 12) 0 dX4_isWish_11 rfl rfl rfl ?_
    refine ez_getf (q := 15) dX4_isWish_12 fl_X4_19 hM.1 rfl rfl ?_
    refine ez_top ((hx (by omega)).1) ?_
    refine ez_ifneN (q := 18) (tgt := 22) dX4_isWish_15 (by decide) (by omega) rfl (fun hc15 => ?_) (fun hc15 => ?_)
    · refine ez_iconst (v := nI 0) (q := 23) dX4_isWish_22 (by decide) rfl ?_
      refine ez_top (show nI 0 = bI (whoB b t) from bI_df (by first | (rintro ⟨a, -⟩; exact hc8 a) | (rintro ⟨-, a⟩; exact hc15 a))) ?_
      exact ez_zretB dX4_isWish_23 rfl (hQ _ _ _ hM)
    · refine ez_iconst (v := nI 1) (q := 19) dX4_isWish_18 (by decide) rfl ?_
      refine ez_top (show nI 1 = bI (whoB b t) from bI_dt ⟨by omega, hc15⟩) ?_
      refine ez_goto (q := 23) dX4_isWish_19 (by decide) ?_
      exact ez_zretB dX4_isWish_23 rfl (hQ _ _ _ hM)


