theorem SS.ob {ia n f : Nat} {L T ln : Nat → Nat} {sg : Nat → Nat → Nat} {h : ez_H} (hS : SS ia h n f L T ln sg) : h ia = some (.inr (3, [.int (nI n), .int (fI f), .ref (ia + 1), .ref (ia + 2), .ref (ia + 3), .ref (ia + 4)])) := by
  obtain ⟨lt, st, le, sc, h1, h2⟩ := hS
  exact h1.2.1
theorem SS.p0 {ia n f : Nat} {L T ln : Nat → Nat} {sg : Nat → Nat → Nat} {h : ez_H} (hS : SS ia h n f L T ln sg) : 0 < ia := by
  obtain ⟨lt, st, le, sc, h1, h2⟩ := hS
  exact h1.1
theorem CH.up {sc : Nat → Int32} (h : CH sc) (k : Nat) {c : Nat} (hc : c < 65536) : CH (upd sc k (nI c)) := fun i => by
  by_cases e : i = k
  · exact ⟨c, hc, by rw [e, up_eq]⟩
  · rw [up_ne _ _ e]; exact h i
section
variable {n : Nat} {L T ln : Nat → Nat} {sg : Nat → Nat → Nat} {lt st le sc : Nat → Int32}
theorem ZC.add (h : ZC n L T ln sg lt st le sc) (l : Nat) : ZC (n + 1) (upN L n l) (upN T n 0) ln sg (upd lt n (nI l)) (upd st n (nI 0)) le sc := by
  obtain ⟨h1, h2, h3⟩ := h
  refine ⟨fun j hj => ?_, fun j hj => ?_, h3⟩
  · by_cases e : j = n
    · rw [e, up_eq, upN_eq]
    · rw [up_ne _ _ e, upN_ne _ _ e]; exact h1 j (by omega)
  · by_cases e : j = n
    · rw [e, up_eq, upN_eq]
    · rw [up_ne _ _ e, upN_ne _ _ e]; exact h2 j (by omega)
theorem ZC.flip (h : ZC n L T ln sg lt st le sc) (i x : Nat) : ZC n (upN L i x) T ln sg (upd lt i (nI x)) st le sc := by
  obtain ⟨h1, h2, h3⟩ := h
  refine ⟨fun j hj => ?_, h2, h3⟩
  by_cases e : j = i
  · rw [e, up_eq, upN_eq]
  · rw [up_ne _ _ e, upN_ne _ _ e]; exact h1 j hj
theorem ZC.turn (h : ZC n L T ln sg lt st le sc) (i x : Nat) : ZC n L (upN T i x) ln sg lt (upd st i (nI x)) le sc := by
  obtain ⟨h1, h2, h3⟩ := h
  refine ⟨h1, fun j hj => ?_, h3⟩
  by_cases e : j = i
  · rw [e, up_eq, upN_eq]
  · rw [up_ne _ _ e, upN_ne _ _ e]; exact h2 j hj
theorem ZC.wish (h : ZC n L T ln sg lt st le sc) {w m : Nat} {s : Nat → Nat} {le' sc' : Nat → Int32} (hl : ∀ v, v < 4 → ln v ≤ 40) (h1 : le' w = nI m) (h2 : ∀ v, v ≠ w → le' v = le v) (h3 : ∀ k, k < m → sc' (w * 40 + k) = nI (s k)) (h4 : ∀ j, j < w * 40 ∨ w * 40 + 40 ≤ j → sc' j = sc j) (h5 : CH sc') : ZC n L T (upN ln w m) (sgN sg w s) lt st le' sc' := by
  obtain ⟨z1, z2, z3, z4, z5⟩ := h
  refine ⟨z1, z2, fun v hv => ?_, fun v hv k hk => ?_, h5⟩
  · by_cases e : v = w
    · rw [e, upN_eq]; exact h1
    · rw [upN_ne _ _ e, h2 v e]; exact z3 v hv
  · by_cases e : v = w
    · rw [e, upN_eq] at hk
      rw [e, sgN, if_pos rfl]; exact h3 k hk
    · rw [upN_ne _ _ e] at hk
      have := hl v hv
      rw [sgN, if_neg e, h4 _ (by omega)]; exact z4 v hv k hk
end
def RC (n w : Nat) (L : Nat → Nat) (x : Nat → Int32) (i : Nat) : Prop := (∀ j, j < i → x j = nI (outN L w j)) ∧ ∀ j, i ≤ j → j < n → x j = nI (L j)
theorem RC.step {n w : Nat} {L : Nat → Nat} {x : Nat → Int32} {i : Nat} (h : RC n w L x i) (hw : w ≤ i) : RC n w L (upd x i (nI (L (i + 1)))) (i + 1) := ⟨fun j hj => by
  by_cases e : j = i
  · rw [e, up_eq, out_ge hw]
  · rw [up_ne _ _ e]; exact h.1 j (by omega), fun j hj hk => by rw [up_ne _ _ (by omega)]; exact h.2 j (by omega) hk⟩
theorem RC.init {n w : Nat} {L : Nat → Nat} {x : Nat → Int32} (h : ∀ j, j < n → x j = nI (L j)) (hw : w < n) : RC n w L x w := ⟨fun j hj => by rw [out_lt hj]; exact h j (by omega), fun j _ hk => h j hk⟩
def RE (n w : Nat) (T : Nat → Nat) (x : Nat → Int32) (i : Nat) : Prop := (∀ j, j < i → x j = nI (lesN T w j)) ∧ ∀ j, i ≤ j → j < n - 1 → x j = nI (outN T w j)
theorem RE.step {n w : Nat} {T : Nat → Nat} {x : Nat → Int32} {i : Nat} (h : RE n w T x i) : RE n w T (upd x i (nI (lessN (outN T w i) w))) (i + 1) := ⟨fun j hj => by
  by_cases e : j = i
  · rw [e, up_eq]; rfl
  · rw [up_ne _ _ e]; exact h.1 j (by omega), fun j hj hk => by rw [up_ne _ _ (by omega)]; exact h.2 j (by omega) hk⟩
theorem TX.to {h g : ez_H} {tl op : Int32} {hw : Bool} {ch : Nat → Int32} (hT : TX h h tl op hw ch) (h1 : g 39 = h 39) (h2 : g 40 = h 40) : TX g g tl op hw ch := ⟨h1.trans hT.1, h2.trans hT.2.1, fun _ _ => rfl⟩
set_option maxHeartbeats 800000 in
set_option maxRecDepth 100000 in
theorem t_X3_putWorld {G : ez_G} {d n : Nat} {h : ez_H} {n' f ia : Nat} {L T ln : Nat → Nat} {sg : Nat → Nat → Nat} {l : Nat} (hS : SS ia h n' f L T ln sg) (ho : OK n' f L T ln sg) (hn10 : n' < 10) : Con G mX3_putWorld (d) [.ref ia, .int (nI l)] h n 0 0 (PW n (some (.int (nI n'))) (fun g => SS ia g (n' + 1) f (upN L n' l) (upN T n' 0) ln sg ∧ ∀ j : Nat, (j < ia ∨ ia + 5 ≤ j) → g j = h j)) := by
  obtain ⟨lt, st, le, sc, hM, hz⟩ := hS
  have hn := ho.1
  refine Con.of [some (.ref ia), some (.int (nI l)), none] pl_X3 rfl (Nat.le_of_ble_eq_true rfl) rfl ?_
  have hQ : ∀ g (lt st le sc : Nat → Int32), SW ia h g (nI (n' + 1)) (fI f) lt st le sc → ZC (n' + 1) (upN L n' l) (upN T n' 0) ln sg lt st le sc → (PW n (some (.int (nI n'))) (fun g => SS ia g (n' + 1) f (upN L n' l) (upN T n' 0) ln sg ∧ ∀ j : Nat, (j < ia ∨ ia + 5 ≤ j) → g j = h j)) (.inl (some (.int (nI n')))) g n := fun g lt st le sc h1 h2 => ⟨rfl, ⟨⟨lt, st, le, sc, h1.rb, h2⟩, h1.fr⟩, rfl⟩
  generalize PW n (some (.int (nI n'))) (fun g => SS ia g (n' + 1) f (upN L n' l) (upN T n' 0) ln sg ∧ ∀ j : Nat, (j < ia ∨ ia + 5 ≤ j) → g j = h j) = Q at hQ ⊢
  refine ez_aload_n (q := 1) 0 dX3_putWorld_0 rfl rfl rfl ?_
  refine ez_getf (q := 4) dX3_putWorld_1 fl_X3_9 hM.2.1 rfl rfl ?_
  refine ez_istore_2 (q := 5) dX3_putWorld_4 rfl (by decide) rfl rfl ?_
  refine ez_iload_n (q := 6) 2 dX3_putWorld_5 rfl rfl rfl ?_
  refine ez_bipush (v := nI 10) (q := 8) dX3_putWorld_6 (by decide) rfl ?_
  refine ez_icmpgeN (q := 11) (tgt := 32) dX3_putWorld_8 (by decide) (by omega) (by omega) rfl (fun hc8 => absurd hn10 (by omega)) (fun hc8 => ?_)
  refine ez_aload_n (q := 12) 0 dX3_putWorld_11 rfl rfl rfl ?_
  refine ez_getf (q := 15) dX3_putWorld_12 fl_X3_18 hM.2.1 rfl rfl ?_
  refine ez_iload_n (q := 16) 2 dX3_putWorld_15 rfl rfl rfl ?_
  refine ez_iload_n (q := 17) 1 dX3_putWorld_16 rfl rfl rfl ?_
  refine sSW_lt (q := 18) dX3_putWorld_17 hM rfl (by omega) rfl (fun g hM => ?_)
  refine ez_aload_n (q := 19) 0 dX3_putWorld_18 rfl rfl rfl ?_
  refine ez_getf (q := 22) dX3_putWorld_19 fl_X3_22 hM.2.1 rfl rfl ?_
  refine ez_iload_n (q := 23) 2 dX3_putWorld_22 rfl rfl rfl ?_
  refine ez_iconst (v := nI 0) (q := 24) dX3_putWorld_23 (by decide) rfl ?_
  refine sSW_st (q := 25) dX3_putWorld_24 hM rfl (by omega) rfl (fun g hM => ?_)
  refine ez_aload_n (q := 26) 0 dX3_putWorld_25 rfl rfl rfl ?_
  refine ez_iload_n (q := 27) 2 dX3_putWorld_26 rfl rfl rfl ?_
  refine ez_iconst (v := nI 1) (q := 28) dX3_putWorld_27 (by decide) rfl ?_
  refine ez_iaddN (q := 29) dX3_putWorld_28 rfl ?_
  refine pSW_wo (q := 32) dX3_putWorld_29 fl_X3_9 hM rfl (fun g hM => ?_)
  refine ez_iload_n (q := 33) 2 dX3_putWorld_32 rfl rfl rfl ?_
  exact ez_iret dX3_putWorld_33 rfl (hQ _ _ _ _ _ hM (hz.add l))

set_option maxHeartbeats 800000 in
set_option maxRecDepth 100000 in
theorem t_X3_turnStep {G : ez_G} {d n : Nat} {h : ez_H} {n' f ia : Nat} {L T ln : Nat → Nat} {sg : Nat → Nat → Nat} {u v : Nat} (hS : SS ia h n' f L T ln sg) (ho : OK n' f L T ln sg) (hu : u < n') (hv : v < n') : Con G mX3_turnStep (d + 1) [.ref ia, .int (nI u), .int (nI v)] h n 0 0 (PW n none (fun g => SS ia g n' f L (upN T u (T u ^^^ 2 ^ v)) ln sg ∧ ∀ j : Nat, (j < ia ∨ ia + 5 ≤ j) → g j = h j)) := by
  obtain ⟨lt, st, le, sc, hM, hz⟩ := hS
  have hn := ho.1
  refine Con.of [some (.ref ia), some (.int (nI u)), some (.int (nI v))] pl_X3 rfl (Nat.le_of_ble_eq_true rfl) rfl ?_
  have hQ : ∀ g (lt st le sc : Nat → Int32), SW ia h g (nI n') (fI f) lt st le sc → ZC n' L (upN T u (T u ^^^ 2 ^ v)) ln sg lt st le sc → (PW n none (fun g => SS ia g n' f L (upN T u (T u ^^^ 2 ^ v)) ln sg ∧ ∀ j : Nat, (j < ia ∨ ia + 5 ≤ j) → g j = h j)) (.inl none) g n := fun g lt st le sc h1 h2 => ⟨rfl, ⟨⟨lt, st, le, sc, h1.rb, h2⟩, h1.fr⟩, rfl⟩
  generalize PW n none (fun g => SS ia g n' f L (upN T u (T u ^^^ 2 ^ v)) ln sg ∧ ∀ j : Nat, (j < ia ∨ ia + 5 ≤ j) → g j = h j) = Q at hQ ⊢
  refine ez_aload_n (q := 1) 0 dX3_turnStep_0 rfl rfl rfl ?_
  refine ez_iload_n (q := 2) 1 dX3_turnStep_1 rfl rfl rfl ?_
  refine cPv (q := 5) dX3_turnStep_2 ck_X3_44 hM.2.1 (t_X3_hasWorld hM.rb hn) rfl ⟨by decide, rfl⟩ rfl rfl rfl (Nat.le_of_ble_eq_true rfl) rfl ?_
  refine ez_top (show bI _ = bI true from by rw [inB_nt (by omega) hn]) ?_
  refine ez_ifeqB (q := 8) (tgt := 28) dX3_turnStep_5 (by decide) rfl (fun hc5 => nomatch hc5) (fun hc5 => ?_)
  refine ez_aload_n (q := 9) 0 dX3_turnStep_8 rfl rfl rfl ?_
  refine ez_iload_n (q := 10) 2 dX3_turnStep_9 rfl rfl rfl ?_
  refine cPv (q := 13) dX3_turnStep_10 ck_X3_44 hM.2.1 (t_X3_hasWorld hM.rb hn) rfl ⟨by decide, rfl⟩ rfl rfl rfl (Nat.le_of_ble_eq_true rfl) rfl ?_
  refine ez_top (show bI _ = bI true from by rw [inB_nt (by omega) hn]) ?_
  refine ez_ifeqB (q := 16) (tgt := 28) dX3_turnStep_13 (by decide) rfl (fun hc13 => nomatch hc13) (fun hc13 => ?_)
  refine ez_aload_n (q := 17) 0 dX3_turnStep_16 rfl rfl rfl ?_
  refine ez_getf (q := 20) dX3_turnStep_17 fl_X3_22 hM.2.1 rfl rfl ?_
  refine ez_iload_n (q := 21) 1 dX3_turnStep_20 rfl rfl rfl ?_
  refine ez_dup2 (q := 22) dX3_turnStep_21 rfl rfl rfl ?_
  refine ez_iald (q := 23) dX3_turnStep_22 hM.2.2.2.1 rfl (by omega) (by decide) rfl ?_
  refine ez_top (hz.2.1 u hu) ?_
  refine ez_iconst (v := nI 1) (q := 24) dX3_turnStep_23 (by decide) rfl ?_
  refine ez_iload_n (q := 25) 2 dX3_turnStep_24 rfl rfl rfl ?_
  refine ez_shl1 (q := 26) dX3_turnStep_25 (by omega) rfl ?_
  refine ez_ixorN (q := 27) dX3_turnStep_26 rfl ?_
  refine sSW_st (q := 28) dX3_turnStep_27 hM rfl (by omega) rfl (fun g hM => ?_)
  exact ez_vret dX3_turnStep_28 rfl (hQ _ _ _ _ _ hM (hz.turn _ _))

set_option maxHeartbeats 800000 in
set_option maxRecDepth 100000 in
theorem t_X3_putSign {G : ez_G} {d n : Nat} {h : ez_H} {ia : Nat} {wo ff : Int32} {lt st le sc : Nat → Int32} {w i c : Nat} (hM : SW ia h h wo ff lt st le sc) (hw : w < 4) (hi : i < 40) (hc : c < 65536) : Con G mX3_putSign (d) [.ref ia, .int (nI w), .int (nI i), .int (nI c)] h n 0 0 (PW n none (fun g => SW ia h g wo ff lt st le (upd sc (w * 40 + i) (nI c)))) := by
  refine Con.of [some (.ref ia), some (.int (nI w)), some (.int (nI i)), some (.int (nI c))] pl_X3 rfl (Nat.le_of_ble_eq_true rfl) rfl ?_
  have hQ : ∀ g, SW ia h g wo ff lt st le (upd sc (w * 40 + i) (nI c)) → (PW n none (fun g => SW ia h g wo ff lt st le (upd sc (w * 40 + i) (nI c)))) (.inl none) g n := fun g hW => ⟨rfl, hW, rfl⟩
  generalize PW n none (fun g => SW ia h g wo ff lt st le (upd sc (w * 40 + i) (nI c))) = Q at hQ ⊢
  refine ez_iload_n (q := 1) 1 dX3_putSign_0 rfl rfl rfl ?_
  refine ez_ifltN (q := 4) (tgt := 31) dX3_putSign_1 (by decide) (by omega) rfl ?_
  refine ez_iload_n (q := 5) 1 dX3_putSign_4 rfl rfl rfl ?_
  refine ez_iconst (v := nI 4) (q := 6) dX3_putSign_5 (by decide) rfl ?_
  refine ez_icmpgeN (q := 9) (tgt := 31) dX3_putSign_6 (by decide) (by omega) (by omega) rfl (fun hc6 => absurd hw (by omega)) (fun hc6 => ?_)
  refine ez_iload_n (q := 10) 2 dX3_putSign_9 rfl rfl rfl ?_
  refine ez_ifltN (q := 13) (tgt := 31) dX3_putSign_10 (by decide) (by omega) rfl ?_
  refine ez_iload_n (q := 14) 2 dX3_putSign_13 rfl rfl rfl ?_
  refine ez_bipush (v := nI 40) (q := 16) dX3_putSign_14 (by decide) rfl ?_
  refine ez_icmpgeN (q := 19) (tgt := 31) dX3_putSign_16 (by decide) (by omega) (by omega) rfl (fun hc16 => absurd hi (by omega)) (fun hc16 => ?_)
  refine ez_aload_n (q := 20) 0 dX3_putSign_19 rfl rfl rfl ?_
  refine ez_getf (q := 23) dX3_putSign_20 fl_X3_28 hM.2.1 rfl rfl ?_
  refine ez_iload_n (q := 24) 1 dX3_putSign_23 rfl rfl rfl ?_
  refine ez_bipush (v := nI 40) (q := 26) dX3_putSign_24 (by decide) rfl ?_
  refine ez_imulN (q := 27) dX3_putSign_26 rfl ?_
  refine ez_iload_n (q := 28) 2 dX3_putSign_27 rfl rfl rfl ?_
  refine ez_iaddN (q := 29) dX3_putSign_28 rfl ?_
  refine ez_iload_n (q := 30) 3 dX3_putSign_29 rfl rfl rfl ?_
  refine sSW_sc (q := 31) dX3_putSign_30 hM rfl (by omega) rfl hc rfl (fun g hM => ?_)
  exact ez_vret dX3_putSign_31 rfl (hQ _ hM)

set_option maxHeartbeats 800000 in
set_option maxRecDepth 100000 in
theorem t_X3_putLength {G : ez_G} {d n : Nat} {h : ez_H} {ia : Nat} {wo ff : Int32} {lt st le sc : Nat → Int32} {w l : Nat} (hM : SW ia h h wo ff lt st le sc) (hw : w < 4) (hl : l ≤ 40) : Con G mX3_putLength (d) [.ref ia, .int (nI w), .int (nI l)] h n 0 0 (PW n none (fun g => SW ia h g wo ff lt st (upd le w (nI l)) sc)) := by
  refine Con.of [some (.ref ia), some (.int (nI w)), some (.int (nI l))] pl_X3 rfl (Nat.le_of_ble_eq_true rfl) rfl ?_
  have hQ : ∀ g, SW ia h g wo ff lt st (upd le w (nI l)) sc → (PW n none (fun g => SW ia h g wo ff lt st (upd le w (nI l)) sc)) (.inl none) g n := fun g hW => ⟨rfl, hW, rfl⟩
  generalize PW n none (fun g => SW ia h g wo ff lt st (upd le w (nI l)) sc) = Q at hQ ⊢
  refine ez_iload_n (q := 1) 1 dX3_putLength_0 rfl rfl rfl ?_
  refine ez_ifltN (q := 4) (tgt := 26) dX3_putLength_1 (by decide) (by omega) rfl ?_
  refine ez_iload_n (q := 5) 1 dX3_putLength_4 rfl rfl rfl ?_
  refine ez_iconst (v := nI 4) (q := 6) dX3_putLength_5 (by decide) rfl ?_
  refine ez_icmpgeN (q := 9) (tgt := 26) dX3_putLength_6 (by decide) (by omega) (by omega) rfl (fun hc6 => absurd hw (by omega)) (fun hc6 => ?_)
  refine ez_iload_n (q := 10) 2 dX3_putLength_9 rfl rfl rfl ?_
  refine ez_ifltN (q := 13) (tgt := 26) dX3_putLength_10 (by decide) (by omega) rfl ?_
  refine ez_iload_n (q := 14) 2 dX3_putLength_13 rfl rfl rfl ?_
  refine ez_bipush (v := nI 40) (q := 16) dX3_putLength_14 (by decide) rfl ?_
  refine ez_icmpgtN (q := 19) (tgt := 26) dX3_putLength_16 (by decide) (by omega) (by omega) rfl (fun hc16 => absurd hl (by omega)) (fun hc16 => ?_)
  refine ez_aload_n (q := 20) 0 dX3_putLength_19 rfl rfl rfl ?_
  refine ez_getf (q := 23) dX3_putLength_20 fl_X3_25 hM.2.1 rfl rfl ?_
  refine ez_iload_n (q := 24) 1 dX3_putLength_23 rfl rfl rfl ?_
  refine ez_iload_n (q := 25) 2 dX3_putLength_24 rfl rfl rfl ?_
  refine sSW_le (q := 26) dX3_putLength_25 hM rfl (by omega) rfl (fun g hM => ?_)
  exact ez_vret dX3_putLength_26 rfl (hQ _ hM)

set_option maxHeartbeats 800000 in
set_option maxRecDepth 100000 in
theorem t_X3_putWish {G : ez_G} {d n : Nat} {h : ez_H} {n' f ia : Nat} {L T ln : Nat → Nat} {sg : Nat → Nat → Nat} {w t : Nat} {b : Nat → Nat} {op : Int32} {hw9 : Bool} {ch : Nat → Int32} (hS : SS ia h n' f L T ln sg) (ho : OK n' f L T ln sg) (hT : TX h h (nI t) op hw9 ch) (hb : BB ch t b) (hia : ia + 5 ≤ 39) (hw : w < 4) (ht4 : t ≤ 40) : Con G mX3_putWish (d + 1) [.ref ia, .int (nI w), .ref 39] h n 0 0 (PW n none (fun g => SS ia g n' f L T (upN ln w t) (sgN sg w b) ∧ ∀ j : Nat, (j < ia ∨ ia + 5 ≤ j) → g j = h j)) := by
  obtain ⟨lt, st, le, sc, hM, hz⟩ := hS
  have hn := ho.1
  refine Con.of [some (.ref ia), some (.int (nI w)), some (.ref 39), none] pl_X3 rfl (Nat.le_of_ble_eq_true rfl) rfl ?_
  have hQ : ∀ g (lt st le sc : Nat → Int32), SW ia h g (nI n') (fI f) lt st le sc → ZC n' L T (upN ln w t) (sgN sg w b) lt st le sc → (PW n none (fun g => SS ia g n' f L T (upN ln w t) (sgN sg w b) ∧ ∀ j : Nat, (j < ia ∨ ia + 5 ≤ j) → g j = h j)) (.inl none) g n := fun g lt st le sc h1 h2 => ⟨rfl, ⟨⟨lt, st, le, sc, h1.rb, h2⟩, h1.fr⟩, rfl⟩
  generalize PW n none (fun g => SS ia g n' f L T (upN ln w t) (sgN sg w b) ∧ ∀ j : Nat, (j < ia ∨ ia + 5 ≤ j) → g j = h j) = Q at hQ ⊢
  refine ez_iconst (v := nI 0) (q := 1) dX3_putWish_0 (by decide) rfl ?_
  refine ez_istore_3 (q := 2) dX3_putWish_1 rfl (by decide) rfl rfl ?_
  refine ez_loop (α := Nat) (fun i => t - i) (P := fun i => ∀ (g : ez_H) (y : Nat → Int32), SW ia h g (nI n') (fI f) lt st le y → (i ≤ t) → (∀ j, j < i → y (w * 40 + j) = nI (b j)) → (∀ j, j < w * 40 ∨ w * 40 + 40 ≤ j → y j = sc j) → (CH y) → E G mX3_putWish (d + 1) Q g n 0 0 2 [some (.ref ia), some (.int (nI w)), some (.ref 39), some (.int (nI i))] []) ?_ 0 h _ hM (Nat.zero_le _) (fun j hj => absurd hj (by omega)) (fun _ _ => rfl) hz.2.2.2.2
  intro i ih2 g y hM hi y1 y2 y3
  refine ez_iload_n (q := 3) 3 dX3_putWish_2 rfl rfl rfl ?_
  refine ez_aload_n (q := 4) 2 dX3_putWish_3 rfl rfl rfl ?_
  refine ez_getf (q := 7) dX3_putWish_4 fl_X3_51 (hT.to (hM.fr 39 (by omega)) (hM.fr 40 (by omega))).1 rfl rfl ?_
  refine ez_icmpgeN (q := 10) (tgt := 27) dX3_putWish_7 (by decide) (by omega) (by omega) rfl (fun hc7 => ?_) (fun hc7 => ?_)
  · refine ez_aload_n (q := 28) 0 dX3_putWish_27 rfl rfl rfl ?_
    refine ez_iload_n (q := 29) 1 dX3_putWish_28 rfl rfl rfl ?_
    refine ez_aload_n (q := 30) 2 dX3_putWish_29 rfl rfl rfl ?_
    refine ez_getf (q := 33) dX3_putWish_30 fl_X3_51 (hT.to (hM.fr 39 (by omega)) (hM.fr 40 (by omega))).1 rfl rfl ?_
    refine cX0 (q := 36) dX3_putWish_33 ck_X3_64 hM.2.1 (t_X3_putLength hM.rb hw ht4) rfl ⟨by decide, rfl⟩ rfl rfl rfl (Nat.le_of_ble_eq_true rfl) rfl (fun g hW => ?_)
    have hM := hM.tr hW
    exact ez_vret dX3_putWish_36 rfl (hQ _ _ _ _ _ hM (hz.wish ho.2.2.2.2.1 (up_eq _ _ _) (fun v hv => up_ne _ _ hv) (fun k hk => y1 k (by omega)) y2 y3))
  · refine ez_aload_n (q := 11) 0 dX3_putWish_10 rfl rfl rfl ?_
    refine ez_iload_n (q := 12) 1 dX3_putWish_11 rfl rfl rfl ?_
    refine ez_iload_n (q := 13) 3 dX3_putWish_12 rfl rfl rfl ?_
    refine ez_aload_n (q := 14) 2 dX3_putWish_13 rfl rfl rfl ?_
    refine ez_iload_n (q := 15) 3 dX3_putWish_14 rfl rfl rfl ?_
    refine cPv (q := 18) dX3_putWish_15 ck_X3_56 (hT.to (hM.fr 39 (by omega)) (hM.fr 40 (by omega))).1 (t_X4_at (hT.to (hM.fr 39 (by omega)) (hM.fr 40 (by omega))) hb (by omega)) rfl ⟨by decide, rfl⟩ rfl rfl rfl (Nat.le_of_ble_eq_true rfl) rfl ?_
    refine cX0 (q := 21) dX3_putWish_18 ck_X3_60 hM.2.1 (t_X3_putSign hM.rb hw (by omega) (by have := (hb.2 i (by omega)).2; omega)) rfl ⟨by decide, rfl⟩ rfl rfl rfl (Nat.le_of_ble_eq_true rfl) rfl (fun g hW => ?_)
    have hM := hM.tr hW
    refine ez_iincN_3 (q := 24) dX3_putWish_21 (by decide) rfl rfl ?_
    refine ez_goto (q := 2) dX3_putWish_24 (by decide) ?_
    exact E.fg (ih2 (i + 1) (by omega) g _ hM (by omega) (fun j hj => by by_cases e : j = i; { rw [e, up_eq] }; { rw [up_ne _ _ (by omega)]; exact y1 j (by omega) }) (fun j hj => by rw [up_ne _ _ (by omega)]; exact y2 j hj) (y3.up _ (by have := (hb.2 i (by omega)).2; omega))) ⟨Or.inr (rfl), Or.inr (rfl), Or.inr (rfl), Or.inr (rfl), trivial⟩

set_option maxHeartbeats 800000 in
set_option maxRecDepth 100000 in
theorem t_X3_putNot {G : ez_G} {d n : Nat} {h : ez_H} {n' f ia : Nat} {L T ln : Nat → Nat} {sg : Nat → Nat → Nat} {w : Nat} (hS : SS ia h n' f L T ln sg) (ho : OK n' f L T ln sg) (hw : w < 4) (hl4 : ln w < 40) : Con G mX3_putNot (d + 2) [.ref ia, .int (nI w)] h n 0 0 (PW n none (fun g => SS ia g n' f L T (upN ln w (ln w + 1)) (sgN sg w (notS (sg w))) ∧ ∀ j : Nat, (j < ia ∨ ia + 5 ≤ j) → g j = h j)) := by
  obtain ⟨lt, st, le, sc, hM, hz⟩ := hS
  have hn := ho.1
  have hl := ho.2.2.2.2.1 w hw
  have hl2 := ho.2.2.2.2.2 w hw
  refine Con.of [some (.ref ia), some (.int (nI w)), none, none] pl_X3 rfl (Nat.le_of_ble_eq_true rfl) rfl ?_
  have hQ : ∀ g (lt st le sc : Nat → Int32), SW ia h g (nI n') (fI f) lt st le sc → ZC n' L T (upN ln w (ln w + 1)) (sgN sg w (notS (sg w))) lt st le sc → (PW n none (fun g => SS ia g n' f L T (upN ln w (ln w + 1)) (sgN sg w (notS (sg w))) ∧ ∀ j : Nat, (j < ia ∨ ia + 5 ≤ j) → g j = h j)) (.inl none) g n := fun g lt st le sc h1 h2 => ⟨rfl, ⟨⟨lt, st, le, sc, h1.rb, h2⟩, h1.fr⟩, rfl⟩
  generalize PW n none (fun g => SS ia g n' f L T (upN ln w (ln w + 1)) (sgN sg w (notS (sg w))) ∧ ∀ j : Nat, (j < ia ∨ ia + 5 ≤ j) → g j = h j) = Q at hQ ⊢
  refine ez_aload_n (q := 1) 0 dX3_putNot_0 rfl rfl rfl ?_
  refine ez_iload_n (q := 2) 1 dX3_putNot_1 rfl rfl rfl ?_
  refine cPv (q := 5) dX3_putNot_2 ck_X3_48 hM.2.1 (t_X3_lengthOf hM.rb hw) rfl ⟨by decide, rfl⟩ rfl rfl rfl (Nat.le_of_ble_eq_true rfl) rfl ?_
  refine ez_top (hz.2.2.1 w hw) ?_
  refine ez_istore_2 (q := 6) dX3_putNot_5 rfl (by decide) rfl rfl ?_
  refine ez_iload_n (q := 7) 2 dX3_putNot_6 rfl rfl rfl ?_
  refine ez_istore_3 (q := 8) dX3_putNot_7 rfl (by decide) rfl rfl ?_
  refine ez_loop (α := Nat) (fun i => i) (P := fun i => ∀ (g : ez_H) (y : Nat → Int32), SW ia h g (nI n') (fI f) lt st le y → (i ≤ ln w) → (∀ j, i < j → j ≤ ln w → y (w * 40 + j) = nI (notS (sg w) j)) → (∀ j, j ≤ i → y (w * 40 + j) = sc (w * 40 + j)) → (∀ j, j < w * 40 ∨ w * 40 + 40 ≤ j → y j = sc j) → (CH y) → E G mX3_putNot (d + 2) Q g n 0 0 8 [some (.ref ia), some (.int (nI w)), some (.int (nI (ln w))), some (.int (nI i))] []) ?_ (ln w) h _ hM (Nat.le_refl _) (fun j hj hj2 => absurd hj (by omega)) (fun _ _ => rfl) (fun _ _ => rfl) hz.2.2.2.2
  intro i ih8 g y hM hi y1 y2 y3 y4
  refine ez_iload_n (q := 9) 3 dX3_putNot_8 rfl rfl rfl ?_
  refine ez_ifleN (q := 12) (tgt := 32) dX3_putNot_9 (by decide) (by omega) rfl (fun hc9 => ?_) (fun hc9 => ?_)
  · refine ez_aload_n (q := 33) 0 dX3_putNot_32 rfl rfl rfl ?_
    refine ez_iload_n (q := 34) 1 dX3_putNot_33 rfl rfl rfl ?_
    refine ez_iconst (v := nI 0) (q := 35) dX3_putNot_34 (by decide) rfl ?_
    refine ez_bipush (v := nI 33) (q := 37) dX3_putNot_35 (by decide) rfl ?_
    refine cX0 (q := 40) dX3_putNot_37 ck_X3_60 hM.2.1 (t_X3_putSign hM.rb hw (by omega) (by decide)) rfl ⟨by decide, rfl⟩ rfl rfl rfl (Nat.le_of_ble_eq_true rfl) rfl (fun g hW => ?_)
    have hM := hM.tr hW
    refine ez_aload_n (q := 41) 0 dX3_putNot_40 rfl rfl rfl ?_
    refine ez_iload_n (q := 42) 1 dX3_putNot_41 rfl rfl rfl ?_
    refine ez_iload_n (q := 43) 2 dX3_putNot_42 rfl rfl rfl ?_
    refine ez_iconst (v := nI 1) (q := 44) dX3_putNot_43 (by decide) rfl ?_
    refine ez_iaddN (q := 45) dX3_putNot_44 rfl ?_
    refine cX0 (q := 48) dX3_putNot_45 ck_X3_64 hM.2.1 (t_X3_putLength hM.rb hw (by omega)) rfl ⟨by decide, rfl⟩ rfl rfl rfl (Nat.le_of_ble_eq_true rfl) rfl (fun g hW => ?_)
    have hM := hM.tr hW
    exact ez_vret dX3_putNot_48 rfl (hQ _ _ _ _ _ hM (hz.wish ho.2.2.2.2.1 (up_eq _ _ _) (fun v hv => up_ne _ _ hv) (fun k hk => by cases k with | zero => exact up_eq _ _ _ | succ k => rw [up_ne _ _ (by omega)]; exact y1 (k + 1) (by omega) (by omega)) (fun j hj => by rw [up_ne _ _ (by omega)]; exact y3 j hj) (y4.up _ (by decide))))
  · refine ez_aload_n (q := 13) 0 dX3_putNot_12 rfl rfl rfl ?_
    refine ez_iload_n (q := 14) 1 dX3_putNot_13 rfl rfl rfl ?_
    refine ez_iload_n (q := 15) 3 dX3_putNot_14 rfl rfl rfl ?_
    refine ez_aload_n (q := 16) 0 dX3_putNot_15 rfl rfl rfl ?_
    refine ez_iload_n (q := 17) 1 dX3_putNot_16 rfl rfl rfl ?_
    refine ez_iload_n (q := 18) 3 dX3_putNot_17 rfl rfl rfl ?_
    refine ez_iconst (v := nI 1) (q := 19) dX3_putNot_18 (by decide) rfl ?_
    refine ez_isubN (q := 20) dX3_putNot_19 (by omega) rfl ?_
    refine cPv (q := 23) dX3_putNot_20 ck_X3_68 hM.2.1 (t_X3_signAt (c := sg w (i - 1)) hM.rb hw (hz.2.2.1 w hw) hl (by omega) (fun h9 => (y2 (i - 1) (by omega)).trans (hz.2.2.2.1 w hw (i - 1) h9)) (by have := hl2 (i - 1) (by omega); omega)) rfl ⟨by decide, rfl⟩ rfl rfl rfl (Nat.le_of_ble_eq_true rfl) rfl ?_
    rw [if_pos (show i - 1 < ln w by omega)]
    refine cX0 (q := 26) dX3_putNot_23 ck_X3_60 hM.2.1 (t_X3_putSign hM.rb hw (by omega) (by have := hl2 (i - 1) (by omega); omega)) rfl ⟨by decide, rfl⟩ rfl rfl rfl (Nat.le_of_ble_eq_true rfl) rfl (fun g hW => ?_)
    have hM := hM.tr hW
    refine ez_idecN_3 (q := 29) dX3_putNot_26 (by omega) (by decide) rfl rfl ?_
    refine ez_goto (q := 8) dX3_putNot_29 (by decide) ?_
    exact E.fg (ih8 (i - 1) (by omega) g _ hM (by omega) (fun j hj hj2 => by by_cases e : j = i; { rw [e, up_eq]; obtain ⟨k, rfl⟩ : ∃ k, i = k + 1 := ⟨i - 1, by omega⟩; rfl }; { rw [up_ne _ _ (by omega)]; exact y1 j (by omega) hj2 }) (fun j hj => by rw [up_ne _ _ (by omega)]; exact y2 j (by omega)) (fun j hj => by rw [up_ne _ _ (by omega)]; exact y3 j hj) (y4.up _ (by have := hl2 (i - 1) (by omega); omega))) ⟨Or.inr (rfl), Or.inr (rfl), Or.inr (rfl), Or.inr (rfl), trivial⟩

set_option maxHeartbeats 800000 in
set_option maxRecDepth 100000 in
theorem t_X3_dropNot {G : ez_G} {d n : Nat} {h : ez_H} {n' f ia : Nat} {L T ln : Nat → Nat} {sg : Nat → Nat → Nat} {w : Nat} (hS : SS ia h n' f L T ln sg) (ho : OK n' f L T ln sg) (hw : w < 4) (hl0 : 0 < ln w) : Con G mX3_dropNot (d + 2) [.ref ia, .int (nI w)] h n 0 0 (PW n none (fun g => SS ia g n' f L T (upN ln w (ln w - 1)) (sgN sg w (fun k => sg w (k + 1))) ∧ ∀ j : Nat, (j < ia ∨ ia + 5 ≤ j) → g j = h j)) := by
  obtain ⟨lt, st, le, sc, hM, hz⟩ := hS
  have hn := ho.1
  have hl := ho.2.2.2.2.1 w hw
  have hl2 := ho.2.2.2.2.2 w hw
  refine Con.of [some (.ref ia), some (.int (nI w)), none, none] pl_X3 rfl (Nat.le_of_ble_eq_true rfl) rfl ?_
  have hQ : ∀ g (lt st le sc : Nat → Int32), SW ia h g (nI n') (fI f) lt st le sc → ZC n' L T (upN ln w (ln w - 1)) (sgN sg w (fun k => sg w (k + 1))) lt st le sc → (PW n none (fun g => SS ia g n' f L T (upN ln w (ln w - 1)) (sgN sg w (fun k => sg w (k + 1))) ∧ ∀ j : Nat, (j < ia ∨ ia + 5 ≤ j) → g j = h j)) (.inl none) g n := fun g lt st le sc h1 h2 => ⟨rfl, ⟨⟨lt, st, le, sc, h1.rb, h2⟩, h1.fr⟩, rfl⟩
  generalize PW n none (fun g => SS ia g n' f L T (upN ln w (ln w - 1)) (sgN sg w (fun k => sg w (k + 1))) ∧ ∀ j : Nat, (j < ia ∨ ia + 5 ≤ j) → g j = h j) = Q at hQ ⊢
  refine ez_aload_n (q := 1) 0 dX3_dropNot_0 rfl rfl rfl ?_
  refine ez_iload_n (q := 2) 1 dX3_dropNot_1 rfl rfl rfl ?_
  refine cPv (q := 5) dX3_dropNot_2 ck_X3_48 hM.2.1 (t_X3_lengthOf hM.rb hw) rfl ⟨by decide, rfl⟩ rfl rfl rfl (Nat.le_of_ble_eq_true rfl) rfl ?_
  refine ez_top (hz.2.2.1 w hw) ?_
  refine ez_istore_2 (q := 6) dX3_dropNot_5 rfl (by decide) rfl rfl ?_
  refine ez_iconst (v := nI 1) (q := 7) dX3_dropNot_6 (by decide) rfl ?_
  refine ez_istore_3 (q := 8) dX3_dropNot_7 rfl (by decide) rfl rfl ?_
  refine ez_loop (α := Nat) (fun i => ln w - i) (P := fun i => ∀ (g : ez_H) (y : Nat → Int32), SW ia h g (nI n') (fI f) lt st le y → (1 ≤ i) → (i ≤ ln w) → (∀ j, j + 1 < i → y (w * 40 + j) = nI (sg w (j + 1))) → (∀ j, i ≤ j → y (w * 40 + j) = sc (w * 40 + j)) → (∀ j, j < w * 40 ∨ w * 40 + 40 ≤ j → y j = sc j) → (CH y) → E G mX3_dropNot (d + 2) Q g n 0 0 8 [some (.ref ia), some (.int (nI w)), some (.int (nI (ln w))), some (.int (nI i))] []) ?_ 1 h _ hM (Nat.le_refl _) hl0 (fun j hj => absurd hj (by omega)) (fun _ _ => rfl) (fun _ _ => rfl) hz.2.2.2.2
  intro i ih8 g y hM hi hi2 y1 y2 y3 y4
  refine ez_iload_n (q := 9) 3 dX3_dropNot_8 rfl rfl rfl ?_
  refine ez_iload_n (q := 10) 2 dX3_dropNot_9 rfl rfl rfl ?_
  refine ez_icmpgeN (q := 13) (tgt := 33) dX3_dropNot_10 (by decide) (by omega) (by omega) rfl (fun hc10 => ?_) (fun hc10 => ?_)
  · refine ez_aload_n (q := 34) 0 dX3_dropNot_33 rfl rfl rfl ?_
    refine ez_iload_n (q := 35) 1 dX3_dropNot_34 rfl rfl rfl ?_
    refine ez_iload_n (q := 36) 2 dX3_dropNot_35 rfl rfl rfl ?_
    refine ez_iconst (v := nI 1) (q := 37) dX3_dropNot_36 (by decide) rfl ?_
    refine ez_isubN (q := 38) dX3_dropNot_37 (by omega) rfl ?_
    refine cX0 (q := 41) dX3_dropNot_38 ck_X3_64 hM.2.1 (t_X3_putLength hM.rb hw (by omega)) rfl ⟨by decide, rfl⟩ rfl rfl rfl (Nat.le_of_ble_eq_true rfl) rfl (fun g hW => ?_)
    have hM := hM.tr hW
    exact ez_vret dX3_dropNot_41 rfl (hQ _ _ _ _ _ hM (hz.wish ho.2.2.2.2.1 (up_eq _ _ _) (fun v hv => up_ne _ _ hv) (fun k hk => y1 k (by omega)) y3 y4))
  · refine ez_aload_n (q := 14) 0 dX3_dropNot_13 rfl rfl rfl ?_
    refine ez_iload_n (q := 15) 1 dX3_dropNot_14 rfl rfl rfl ?_
    refine ez_iload_n (q := 16) 3 dX3_dropNot_15 rfl rfl rfl ?_
    refine ez_iconst (v := nI 1) (q := 17) dX3_dropNot_16 (by decide) rfl ?_
    refine ez_isubN (q := 18) dX3_dropNot_17 (by omega) rfl ?_
    refine ez_aload_n (q := 19) 0 dX3_dropNot_18 rfl rfl rfl ?_
    refine ez_iload_n (q := 20) 1 dX3_dropNot_19 rfl rfl rfl ?_
    refine ez_iload_n (q := 21) 3 dX3_dropNot_20 rfl rfl rfl ?_
    refine cPv (q := 24) dX3_dropNot_21 ck_X3_68 hM.2.1 (t_X3_signAt (c := sg w i) hM.rb hw (hz.2.2.1 w hw) hl (by omega) (fun h9 => (y2 i (by omega)).trans (hz.2.2.2.1 w hw i h9)) (by have := hl2 i (by omega); omega)) rfl ⟨by decide, rfl⟩ rfl rfl rfl (Nat.le_of_ble_eq_true rfl) rfl ?_
    rw [if_pos (show i < ln w by omega)]
    refine cX0 (q := 27) dX3_dropNot_24 ck_X3_60 hM.2.1 (t_X3_putSign hM.rb hw (by omega) (by have := hl2 i (by omega); omega)) rfl ⟨by decide, rfl⟩ rfl rfl rfl (Nat.le_of_ble_eq_true rfl) rfl (fun g hW => ?_)
    have hM := hM.tr hW
    refine ez_iincN_3 (q := 30) dX3_dropNot_27 (by decide) rfl rfl ?_
    refine ez_goto (q := 8) dX3_dropNot_30 (by decide) ?_
    exact E.fg (ih8 (i + 1) (by omega) g _ hM (by omega) (by omega) (fun j hj => by by_cases e : j = i - 1; { rw [e, up_eq]; rw [show i - 1 + 1 = i by omega] }; { rw [up_ne _ _ (by omega)]; exact y1 j (by omega) }) (fun j hj => by rw [up_ne _ _ (by omega)]; exact y2 j (by omega)) (fun j hj => by rw [up_ne _ _ (by omega)]; exact y3 j hj) (y4.up _ (by have := hl2 i (by omega); omega))) ⟨Or.inr (rfl), Or.inr (rfl), Or.inr (rfl), Or.inr (rfl), trivial⟩

