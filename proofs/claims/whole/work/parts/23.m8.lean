def MB (h0 h : ez_H) (th : Int32) (z sv : Nat → Int32) (sm : Int32) (bf : Nat → Int32) (ty : Int32) (ha : Int64) : Prop := ∃ (r : Nat) (se ro le de : Nat → Int32) (wa : Int32) (ww : Bool) (rw : Nat → Int32) (rm : Int32) (sp : Nat → Int32) (fm ff : Int32), IM h0 h th z sv sm bf ty (nI r) se ro le de wa ww rw rm sp fm ff ha
theorem MB.tr {h0 h g : ez_H} {th sm ty th' sm' ty' : Int32} {z sv bf z' sv' bf' : Nat → Int32} {ha ha' : Int64} (hM : MB h0 h th z sv sm bf ty ha) (hN : MB h g th' z' sv' sm' bf' ty' ha') : MB h0 g th' z' sv' sm' bf' ty' ha' := by
  obtain ⟨r1, se1, ro1, le1, de1, wa1, ww1, rw1, rm1, sp1, fm1, ff1, h1⟩ := hM
  obtain ⟨r2, se2, ro2, le2, de2, wa2, ww2, rw2, rm2, sp2, fm2, ff2, h2⟩ := hN
  exact ⟨_, _, _, _, _, _, _, _, _, _, _, _, h1.tr h2⟩
set_option maxHeartbeats 800000 in
set_option maxRecDepth 100000 in
theorem t_X8_wishesAt {G : ez_G} {d n : Nat} {h : ez_H} {n' f : Nat} {L T ln : Nat → Nat} {sg : Nat → Nat → Nat} {i r : Nat} {th sm ty wa rm fm ff : Int32} {z sv bf se ro le de rw sp : Nat → Int32} {ww : Bool} {ha : Int64} (hM : IM h h th z sv sm bf ty (nI r) se ro le de wa ww rw rm sp fm ff ha) (hz : ZZ z n' f L T ln sg) (ho : OK n' f L T ln sg) (hs : WFS ln sg) (hi : i < n') : Con G mX8_wishesAt (d + 10) [.ref 64, .int (nI i)] h n 0 0 (PW n (some (.int (nI (waN T n' f L ln sg i 4)))) (fun g => MB h g th z sv sm bf ty ha)) := by
  have hn := ho.1
  have hn0 := hz.1
  refine Con.of [some (.ref 64), some (.int (nI i)), none, none] pl_X8 rfl (Nat.le_of_ble_eq_true rfl) rfl ?_
  have hQ : ∀ g, MB h g th z sv sm bf ty ha → (PW n (some (.int (nI (waN T n' f L ln sg i 4)))) (fun g => MB h g th z sv sm bf ty ha)) (.inl (some (.int (nI (waN T n' f L ln sg i 4))))) g n := fun g hW => ⟨rfl, hW, rfl⟩
  generalize PW n (some (.int (nI (waN T n' f L ln sg i 4)))) (fun g => MB h g th z sv sm bf ty ha) = Q at hQ ⊢
  refine ez_iconst (v := nI 0) (q := 1) dX8_wishesAt_0 (by decide) rfl ?_
  refine ez_istore_2 (q := 2) dX8_wishesAt_1 rfl (by decide) rfl rfl ?_
  refine ez_iconst (v := nI 0) (q := 3) dX8_wishesAt_2 (by decide) rfl ?_
  refine ez_istore_3 (q := 4) dX8_wishesAt_3 rfl (by decide) rfl rfl ?_
  refine ez_loop (α := Nat) (fun w => 4 - w) (P := fun w => ∀ (g : ez_H) (r : Nat) (se ro le de : Nat → Int32) (wa : Int32) (ww : Bool) (rw : Nat → Int32) (rm : Int32) (sp : Nat → Int32) (fm ff : Int32), IM h g th z sv sm bf ty (nI r) se ro le de wa ww rw rm sp fm ff ha → (w ≤ 4) → E G mX8_wishesAt (d + 10) Q g n 0 0 4 [some (.ref 64), some (.int (nI i)), some (.int (nI (waN T n' f L ln sg i w))), some (.int (nI w))] []) ?_ 0 h _ _ _ _ _ _ _ _ _ _ _ _ hM (by omega)
  intro w ih4 g r se ro le de wa ww rw rm sp fm ff hM hw
  refine ez_iload_n (q := 5) 3 dX8_wishesAt_4 rfl rfl rfl ?_
  refine ez_iconst (v := nI 4) (q := 6) dX8_wishesAt_5 (by decide) rfl ?_
  refine ez_icmpgeN (q := 9) (tgt := 46) dX8_wishesAt_6 (by decide) (by omega) (by omega) rfl (fun hc6 => ?_) (fun hc6 => ?_)
  · refine ez_iload_n (q := 47) 2 dX8_wishesAt_46 rfl rfl rfl ?_
    exact ez_iret dX8_wishesAt_47 rfl (by rw [show w = 4 from by omega]; exact hQ _ ⟨_, _, _, _, _, _, _, _, _, _, _, _, hM⟩)
  · refine ez_iload_n (q := 10) 2 dX8_wishesAt_9 rfl rfl rfl ?_
    refine ez_aload_n (q := 11) 0 dX8_wishesAt_10 rfl rfl rfl ?_
    refine ez_iload_n (q := 12) 3 dX8_wishesAt_11 rfl rfl rfl ?_
    refine cMv (q := 15) dX8_wishesAt_12 ck_X8_101 hM (t_X8_lengthOf hM.rb hz ho (by omega)) rfl rfl rfl rfl rfl (Nat.le_of_ble_eq_true rfl) rfl (fun g hM => ?_)
    refine ez_ifleN (q := 18) (tgt := 37) dX8_wishesAt_15 (by decide) (by have := ho.2.2.2.2.1 w (by omega); omega) rfl (fun hc15 => ?_) (fun hc15 => ?_)
    · refine ez_iconst (v := nI 0) (q := 38) dX8_wishesAt_37 (by decide) rfl ?_
      refine ez_iorN (q := 39) dX8_wishesAt_38 rfl ?_
      refine ez_istore_2 (q := 40) dX8_wishesAt_39 rfl (by decide) rfl rfl ?_
      refine ez_iincN_3 (q := 43) dX8_wishesAt_40 (by decide) rfl rfl ?_
      refine ez_goto (q := 4) dX8_wishesAt_43 (by decide) ?_
      exact E.fg (ih4 (w + 1) (by omega) g _ _ _ _ _ _ _ _ _ _ _ _ hM (by omega)) ⟨Or.inr (rfl), Or.inr (rfl), Or.inr (by first | rw [wa_t hc15 hc28] | rw [Nat.or_zero, wa_f (fun a => absurd a.1 (by omega))] | rw [Nat.or_zero, wa_f (fun a => hc28 a.2)]), Or.inr (rfl), trivial⟩
    · obtain ⟨sc, hwf⟩ := hs w (by omega) (by omega)
      refine ez_aload_n (q := 19) 0 dX8_wishesAt_18 rfl rfl rfl ?_
      refine ez_iload_n (q := 20) 3 dX8_wishesAt_19 rfl rfl rfl ?_
      refine cXv (q := 23) dX8_wishesAt_20 ck_X8_144 hM.1 (t_X8_holds hM.rb hz ho (by omega) hwf) rfl ⟨by decide, rfl⟩ rfl rfl rfl (Nat.le_of_ble_eq_true rfl) rfl (fun g hW => ?_)
      obtain ⟨se, ro, le, de, r, hM2, ht⟩ := hW
      have hM := hM.tr hM2
      change E G mX8_wishesAt (d + 10) Q g n 0 0 23 _ (.int (nI (hW T n' f L ln sg w)) :: _)
      refine ez_iload_n (q := 24) 1 dX8_wishesAt_23 rfl rfl rfl ?_
      refine ez_ishrN (q := 25) dX8_wishesAt_24 (lt31 (hW_lt w) hn) (by omega) rfl ?_
      refine ez_iconst (v := nI 1) (q := 26) dX8_wishesAt_25 (by decide) rfl ?_
      refine ez_iandN (q := 27) dX8_wishesAt_26 rfl ?_
      refine ez_iconst (v := nI 1) (q := 28) dX8_wishesAt_27 (by decide) rfl ?_
      refine ez_icmpneN (q := 31) (tgt := 37) dX8_wishesAt_28 (by decide) (Nat.lt_of_le_of_lt Nat.and_le_right (by decide)) (by decide) rfl (fun hc28 => ?_) (fun hc28 => ?_)
      · refine ez_iconst (v := nI 0) (q := 38) dX8_wishesAt_37 (by decide) rfl ?_
        refine ez_iorN (q := 39) dX8_wishesAt_38 rfl ?_
        refine ez_istore_2 (q := 40) dX8_wishesAt_39 rfl (by decide) rfl rfl ?_
        refine ez_iincN_3 (q := 43) dX8_wishesAt_40 (by decide) rfl rfl ?_
        refine ez_goto (q := 4) dX8_wishesAt_43 (by decide) ?_
        exact E.fg (ih4 (w + 1) (by omega) g _ _ _ _ _ _ _ _ _ _ _ _ hM (by omega)) ⟨Or.inr (rfl), Or.inr (rfl), Or.inr (by first | rw [wa_t hc15 hc28] | rw [Nat.or_zero, wa_f (fun a => absurd a.1 (by omega))] | rw [Nat.or_zero, wa_f (fun a => hc28 a.2)]), Or.inr (rfl), trivial⟩
      · refine ez_iconst (v := nI 1) (q := 32) dX8_wishesAt_31 (by decide) rfl ?_
        refine ez_iload_n (q := 33) 3 dX8_wishesAt_32 rfl rfl rfl ?_
        refine ez_shl1 (q := 34) dX8_wishesAt_33 (by omega) rfl ?_
        refine ez_goto (q := 38) dX8_wishesAt_34 (by decide) ?_
        refine ez_iorN (q := 39) dX8_wishesAt_38 rfl ?_
        refine ez_istore_2 (q := 40) dX8_wishesAt_39 rfl (by decide) rfl rfl ?_
        refine ez_iincN_3 (q := 43) dX8_wishesAt_40 (by decide) rfl rfl ?_
        refine ez_goto (q := 4) dX8_wishesAt_43 (by decide) ?_
        exact E.fg (ih4 (w + 1) (by omega) g _ _ _ _ _ _ _ _ _ _ _ _ hM (by omega)) ⟨Or.inr (rfl), Or.inr (rfl), Or.inr (by first | rw [wa_t hc15 hc28] | rw [Nat.or_zero, wa_f (fun a => absurd a.1 (by omega))] | rw [Nat.or_zero, wa_f (fun a => hc28 a.2)]), Or.inr (rfl), trivial⟩

set_option maxHeartbeats 800000 in
set_option maxRecDepth 100000 in
theorem t_X8_toldWorld {G : ez_G} {d n : Nat} {h : ez_H} {n' f : Nat} {L T ln : Nat → Nat} {sg : Nat → Nat → Nat} {i what r : Nat} {th sm ty wa rm fm ff : Int32} {z sv bf se ro le de rw sp : Nat → Int32} {ww : Bool} {ha : Int64} (hM : IM h h th z sv sm bf ty (nI r) se ro le de wa ww rw rm sp fm ff ha) (hz : ZZ z n' f L T ln sg) (ho : OK n' f L T ln sg) (hs : WFS ln sg) (hi : i < n') (hwh : what ≤ 4) : Con G mX8_toldWorld (d + 11) [.ref 64, .int (nI i), .int (nI what)] h n 0 0 (PW n (some (.int (nI (twN T n' f L ln sg i what)))) (fun g => MB h g th z sv sm bf ty ha)) := by
  have hn := ho.1
  have hn0 := hz.1
  refine Con.of [some (.ref 64), some (.int (nI i)), some (.int (nI what))] pl_X8 rfl (Nat.le_of_ble_eq_true rfl) rfl ?_
  have hQ : ∀ g, MB h g th z sv sm bf ty ha → (PW n (some (.int (nI (twN T n' f L ln sg i what)))) (fun g => MB h g th z sv sm bf ty ha)) (.inl (some (.int (nI (twN T n' f L ln sg i what))))) g n := fun g hW => ⟨rfl, hW, rfl⟩
  generalize PW n (some (.int (nI (twN T n' f L ln sg i what)))) (fun g => MB h g th z sv sm bf ty ha) = Q at hQ ⊢
  refine ez_iload_n (q := 1) 2 dX8_toldWorld_0 rfl rfl rfl ?_
  obtain rfl | rfl | rfl | rfl | rfl : what = 0 ∨ what = 1 ∨ what = 2 ∨ what = 3 ∨ what = 4 := by omega
  · refine ez_tableIn (q := 32) (off := 31) dX8_toldWorld_1 (by decide) (by decide) (by decide) (by decide) ?_
    refine ez_aload_n (q := 33) 0 dX8_toldWorld_32 rfl rfl rfl ?_
    refine ez_getf (q := 36) dX8_toldWorld_33 fl_X8_7 hM.1 rfl rfl ?_
    refine ez_iconst (v := nI 2) (q := 37) dX8_toldWorld_36 (by decide) rfl ?_
    refine ez_iload_n (q := 38) 1 dX8_toldWorld_37 rfl rfl rfl ?_
    refine ez_iaddN (q := 39) dX8_toldWorld_38 rfl ?_
    refine ez_iald (q := 40) dX8_toldWorld_39 hM.2.1 rfl (by omega) (by decide) rfl ?_
    refine ez_top (hz.2.2.1 _ (by omega)) ?_
    exact ez_iret dX8_toldWorld_40 rfl (hQ _ ⟨_, _, _, _, _, _, _, _, _, _, _, _, hM⟩)
  · refine ez_tableIn (q := 41) (off := 40) dX8_toldWorld_1 (by decide) (by decide) (by decide) (by decide) ?_
    refine ez_aload_n (q := 42) 0 dX8_toldWorld_41 rfl rfl rfl ?_
    refine ez_getf (q := 45) dX8_toldWorld_42 fl_X8_7 hM.1 rfl rfl ?_
    refine ez_bipush (v := nI 12) (q := 47) dX8_toldWorld_45 (by decide) rfl ?_
    refine ez_iload_n (q := 48) 1 dX8_toldWorld_47 rfl rfl rfl ?_
    refine ez_iaddN (q := 49) dX8_toldWorld_48 rfl ?_
    refine ez_iald (q := 50) dX8_toldWorld_49 hM.2.1 rfl (by omega) (by decide) rfl ?_
    refine ez_top (hz.2.2.2.1 _ (by omega)) ?_
    exact ez_iret dX8_toldWorld_50 rfl (hQ _ ⟨_, _, _, _, _, _, _, _, _, _, _, _, hM⟩)
  · refine ez_tableIn (q := 51) (off := 50) dX8_toldWorld_1 (by decide) (by decide) (by decide) (by decide) ?_
    refine ez_aload_n (q := 52) 0 dX8_toldWorld_51 rfl rfl rfl ?_
    refine ez_iconst (v := nI 1) (q := 53) dX8_toldWorld_52 (by decide) rfl ?_
    refine ez_iload_n (q := 54) 1 dX8_toldWorld_53 rfl rfl rfl ?_
    refine ez_shl1 (q := 55) dX8_toldWorld_54 (by omega) rfl ?_
    refine cMv (q := 58) dX8_toldWorld_55 ck_X8_73 hM (t_X8_into hM.rb hz ho) rfl rfl rfl rfl rfl (Nat.le_of_ble_eq_true rfl) rfl (fun g hM => ?_)
    exact ez_iret dX8_toldWorld_58 rfl (hQ _ ⟨_, _, _, _, _, _, _, _, _, _, _, _, hM⟩)
  · refine ez_tableIn (q := 59) (off := 58) dX8_toldWorld_1 (by decide) (by decide) (by decide) (by decide) ?_
    refine ez_aload_n (q := 60) 0 dX8_toldWorld_59 rfl rfl rfl ?_
    refine cMv (q := 63) dX8_toldWorld_60 ck_X8_85 hM (t_X8_live hM.rb hz ho) rfl rfl rfl rfl rfl (Nat.le_of_ble_eq_true rfl) rfl (fun g hM => ?_)
    refine ez_iload_n (q := 64) 1 dX8_toldWorld_63 rfl rfl rfl ?_
    refine ez_ishrN (q := 65) dX8_toldWorld_64 (lt31 (lvN_lt _ _ _ _) hn) (by omega) rfl ?_
    refine ez_iconst (v := nI 1) (q := 66) dX8_toldWorld_65 (by decide) rfl ?_
    refine ez_iandN (q := 67) dX8_toldWorld_66 rfl ?_
    exact ez_iret dX8_toldWorld_67 rfl (hQ _ ⟨_, _, _, _, _, _, _, _, _, _, _, _, hM⟩)
  · refine ez_tableOut (q := 68) dX8_toldWorld_1 (by decide) (by decide) ?_
    refine ez_aload_n (q := 69) 0 dX8_toldWorld_68 rfl rfl rfl ?_
    refine ez_iload_n (q := 70) 1 dX8_toldWorld_69 rfl rfl rfl ?_
    refine cXv (q := 73) dX8_toldWorld_70 ck_X8_147 hM.1 (t_X8_wishesAt hM.rb hz ho hs hi) rfl ⟨by decide, rfl⟩ rfl rfl rfl (Nat.le_of_ble_eq_true rfl) rfl (fun g hW => ?_)
    obtain ⟨r, se, ro, le, de, wa, ww, rw, rm, sp, fm, ff, hM2⟩ := hW
    have hM := hM.tr hM2
    exact ez_iret dX8_toldWorld_73 rfl (hQ _ ⟨_, _, _, _, _, _, _, _, _, _, _, _, hM⟩)

def cdW (n : Nat) (m : Int) (i what : Int32) : Nat := if inB i 0 (n - 1) = true then (if inB what 0 m = true then 0 else 2) else 1
set_option maxHeartbeats 800000 in
set_option maxRecDepth 100000 in
theorem t_X8_world {G : ez_G} {d n : Nat} {h : ez_H} {n' f : Nat} {L T ln : Nat → Nat} {sg : Nat → Nat → Nat} {i what : Int32} {r : Nat} {th sm ty wa rm fm ff : Int32} {z sv bf se ro le de rw sp : Nat → Int32} {ww : Bool} {ha : Int64} (hM : IM h h th z sv sm bf ty (nI r) se ro le de wa ww rw rm sp fm ff ha) (hz : ZZ z n' f L T ln sg) (ho : OK n' f L T ln sg) (hs : WFS ln sg) : Con G mX8_world (d + 12) [.ref 64, .int i, .int what] h n 0 0 (PW n (some (.int (aW (cdW n' 4 i what) (nI (twN T n' f L ln sg (nn i) (nn what)))))) (fun g => MB h g (nI (cdW n' 4 i what)) z sv sm bf ty ha)) := by
  have hn := ho.1
  have hn0 := hz.1
  refine Con.of [some (.ref 64), some (.int i), some (.int what)] pl_X8 rfl (Nat.le_of_ble_eq_true rfl) rfl ?_
  have hQ : ∀ g, MB h g (nI (cdW n' 4 i what)) z sv sm bf ty ha → (PW n (some (.int (aW (cdW n' 4 i what) (nI (twN T n' f L ln sg (nn i) (nn what)))))) (fun g => MB h g (nI (cdW n' 4 i what)) z sv sm bf ty ha)) (.inl (some (.int (aW (cdW n' 4 i what) (nI (twN T n' f L ln sg (nn i) (nn what))))))) g n := fun g hW => ⟨rfl, hW, rfl⟩
  generalize PW n (some (.int (aW (cdW n' 4 i what) (nI (twN T n' f L ln sg (nn i) (nn what)))))) (fun g => MB h g (nI (cdW n' 4 i what)) z sv sm bf ty ha) = Q at hQ ⊢
  refine ez_aload_n (q := 1) 0 dX8_world_0 rfl rfl rfl ?_
  refine ez_aload_n (q := 2) 0 dX8_world_1 rfl rfl rfl ?_
  refine ez_iload_n (q := 3) 1 dX8_world_2 rfl rfl rfl ?_
  refine cMv (q := 6) dX8_world_3 ck_X8_51 hM (t_X8_isWorld hM.rb hz ho) rfl rfl rfl rfl rfl (Nat.le_of_ble_eq_true rfl) rfl (fun g hM => ?_)
  refine ez_ifneB (q := 9) (tgt := 13) dX8_world_6 (by decide) rfl (fun hc6 => ?_) (fun hc6 => ?_)
  · refine ez_iload_n (q := 14) 2 dX8_world_13 rfl rfl rfl ?_
    refine ez_iconst (v := nI 0) (q := 15) dX8_world_14 (by decide) rfl ?_
    refine ez_iconst (v := nI 4) (q := 16) dX8_world_15 (by decide) rfl ?_
    refine cUv (q := 19) dX8_world_16 ck_X8_41 (t_X8_in (a := 0) (b := 4) (by decide) (by decide)) rfl rfl rfl (Nat.le_of_ble_eq_true rfl) rfl ?_
    refine ez_ifeqB (q := 22) (tgt := 26) dX8_world_19 (by decide) rfl (fun hc19 => ?_) (fun hc19 => ?_)
    · rw [show cdW n' 4 i what = 2 from by simp [cdW, hc6, hc19]] at hQ
      refine ez_iconst (v := nI 2) (q := 27) dX8_world_26 (by decide) rfl ?_
      refine pM_th (q := 30) dX8_world_27 fl_X8_37 hM rfl (fun g hM => ?_)
      refine ez_aload_n (q := 31) 0 dX8_world_30 rfl rfl rfl ?_
      refine ez_getf (q := 34) dX8_world_31 fl_X8_37 hM.1 rfl rfl ?_
      refine ez_ifleN (q := 37) (tgt := 41) dX8_world_34 (by decide) (by decide) rfl (fun hc34 => ?_) (fun hc34 => ?_)
      · first
        | exact absurd hc34 (by decide)
        | skip
          refine ez_aload_n (q := 42) 0 dX8_world_41 rfl rfl rfl ?_
          refine ez_iload_n (q := 43) 1 dX8_world_42 rfl rfl rfl ?_
          refine ez_iload_n (q := 44) 2 dX8_world_43 rfl rfl rfl ?_
          refine cXv (q := 47) dX8_world_44 ck_X8_150 hM.1 (t_X8_toldWorld hM.rb hz ho hs (by omega) (by omega)) rfl ⟨by decide, rfl⟩ rfl rfl rfl (Nat.le_of_ble_eq_true rfl) rfl (fun g hW => ?_)
          obtain ⟨r, se, ro, le, de, wa, ww, rw, rm, sp, fm, ff, hM2⟩ := hW
          have hM := hM.tr hM2
          exact ez_iret dX8_world_47 rfl (hQ _ ⟨_, _, _, _, _, _, _, _, _, _, _, _, hM⟩)
      · first
        | exact absurd hc34 (by decide)
        | skip
          refine ez_iconst (v := nI 0) (q := 38) dX8_world_37 (by decide) rfl ?_
          refine ez_goto (q := 47) dX8_world_38 (by decide) ?_
          exact ez_iret dX8_world_47 rfl (hQ _ ⟨_, _, _, _, _, _, _, _, _, _, _, _, hM⟩)
    · rw [show cdW n' 4 i what = 0 from by simp [cdW, hc6, hc19]] at hQ
      obtain ⟨j, rfl, hj, hj2⟩ := inB_nat hc6
      obtain ⟨k, rfl, hk, hk2⟩ := inB_nat hc19
      rw [nn_nI hj2, nn_nI hk2] at hQ
      refine ez_iconst (v := nI 0) (q := 23) dX8_world_22 (by decide) rfl ?_
      refine ez_goto (q := 27) dX8_world_23 (by decide) ?_
      refine pM_th (q := 30) dX8_world_27 fl_X8_37 hM rfl (fun g hM => ?_)
      refine ez_aload_n (q := 31) 0 dX8_world_30 rfl rfl rfl ?_
      refine ez_getf (q := 34) dX8_world_31 fl_X8_37 hM.1 rfl rfl ?_
      refine ez_ifleN (q := 37) (tgt := 41) dX8_world_34 (by decide) (by decide) rfl (fun hc34 => ?_) (fun hc34 => ?_)
      · first
        | exact absurd hc34 (by decide)
        | skip
          refine ez_aload_n (q := 42) 0 dX8_world_41 rfl rfl rfl ?_
          refine ez_iload_n (q := 43) 1 dX8_world_42 rfl rfl rfl ?_
          refine ez_iload_n (q := 44) 2 dX8_world_43 rfl rfl rfl ?_
          refine cXv (q := 47) dX8_world_44 ck_X8_150 hM.1 (t_X8_toldWorld hM.rb hz ho hs (by omega) (by omega)) rfl ⟨by decide, rfl⟩ rfl rfl rfl (Nat.le_of_ble_eq_true rfl) rfl (fun g hW => ?_)
          obtain ⟨r, se, ro, le, de, wa, ww, rw, rm, sp, fm, ff, hM2⟩ := hW
          have hM := hM.tr hM2
          exact ez_iret dX8_world_47 rfl (hQ _ ⟨_, _, _, _, _, _, _, _, _, _, _, _, hM⟩)
      · first
        | exact absurd hc34 (by decide)
        | skip
          refine ez_iconst (v := nI 0) (q := 38) dX8_world_37 (by decide) rfl ?_
          refine ez_goto (q := 47) dX8_world_38 (by decide) ?_
          exact ez_iret dX8_world_47 rfl (hQ _ ⟨_, _, _, _, _, _, _, _, _, _, _, _, hM⟩)
  · rw [show cdW n' 4 i what = 1 from by simp [cdW, hc6]] at hQ
    refine ez_iconst (v := nI 1) (q := 10) dX8_world_9 (by decide) rfl ?_
    refine ez_goto (q := 27) dX8_world_10 (by decide) ?_
    refine pM_th (q := 30) dX8_world_27 fl_X8_37 hM rfl (fun g hM => ?_)
    refine ez_aload_n (q := 31) 0 dX8_world_30 rfl rfl rfl ?_
    refine ez_getf (q := 34) dX8_world_31 fl_X8_37 hM.1 rfl rfl ?_
    refine ez_ifleN (q := 37) (tgt := 41) dX8_world_34 (by decide) (by decide) rfl (fun hc34 => ?_) (fun hc34 => ?_)
    · first
      | exact absurd hc34 (by decide)
      | skip
        refine ez_aload_n (q := 42) 0 dX8_world_41 rfl rfl rfl ?_
        refine ez_iload_n (q := 43) 1 dX8_world_42 rfl rfl rfl ?_
        refine ez_iload_n (q := 44) 2 dX8_world_43 rfl rfl rfl ?_
        refine cXv (q := 47) dX8_world_44 ck_X8_150 hM.1 (t_X8_toldWorld hM.rb hz ho hs (by omega) (by omega)) rfl ⟨by decide, rfl⟩ rfl rfl rfl (Nat.le_of_ble_eq_true rfl) rfl (fun g hW => ?_)
        obtain ⟨r, se, ro, le, de, wa, ww, rw, rm, sp, fm, ff, hM2⟩ := hW
        have hM := hM.tr hM2
        exact ez_iret dX8_world_47 rfl (hQ _ ⟨_, _, _, _, _, _, _, _, _, _, _, _, hM⟩)
    · first
      | exact absurd hc34 (by decide)
      | skip
        refine ez_iconst (v := nI 0) (q := 38) dX8_world_37 (by decide) rfl ?_
        refine ez_goto (q := 47) dX8_world_38 (by decide) ?_
        exact ez_iret dX8_world_47 rfl (hQ _ ⟨_, _, _, _, _, _, _, _, _, _, _, _, hM⟩)

set_option maxHeartbeats 800000 in
set_option maxRecDepth 100000 in
theorem t_X8_allRounds {G : ez_G} {d n : Nat} {h : ez_H} {n' f : Nat} {L T ln : Nat → Nat} {sg : Nat → Nat → Nat} {w r : Nat} {th sm ty wa rm fm ff : Int32} {z sv bf se ro le de rw sp : Nat → Int32} {ww : Bool} {ha : Int64} (hM : IM h h th z sv sm bf ty (nI r) se ro le de wa ww rw rm sp fm ff ha) (hz : ZZ z n' f L T ln sg) (ho : OK n' f L T ln sg) (hw : w < 4) (ht : TB T n' f L (ln w) (sg w) 0 se ro le de) : Con G mX8_allRounds (d + 1) [.ref 64, .int (nI w)] h n 0 0 (PW n (some (.int (nI (roN T n' f L (ln w) (sg w) (ln w))))) (fun g => MB h g th z sv sm bf ty ha)) := by
  have hn := ho.1
  have hn0 := hz.1
  have hl := ho.2.2.2.2.1 w hw
  refine Con.of [some (.ref 64), some (.int (nI w)), none, none] pl_X8 rfl (Nat.le_of_ble_eq_true rfl) rfl ?_
  have hQ : ∀ g, MB h g th z sv sm bf ty ha → (PW n (some (.int (nI (roN T n' f L (ln w) (sg w) (ln w))))) (fun g => MB h g th z sv sm bf ty ha)) (.inl (some (.int (nI (roN T n' f L (ln w) (sg w) (ln w)))))) g n := fun g hW => ⟨rfl, hW, rfl⟩
  generalize PW n (some (.int (nI (roN T n' f L (ln w) (sg w) (ln w))))) (fun g => MB h g th z sv sm bf ty ha) = Q at hQ ⊢
  refine ez_iconst (v := nI 0) (q := 1) dX8_allRounds_0 (by decide) rfl ?_
  refine ez_istore_2 (q := 2) dX8_allRounds_1 rfl (by decide) rfl rfl ?_
  refine ez_iconst (v := nI 0) (q := 3) dX8_allRounds_2 (by decide) rfl ?_
  refine ez_istore_3 (q := 4) dX8_allRounds_3 rfl (by decide) rfl rfl ?_
  refine ez_loop (α := Nat) (fun i => ln w - i) (P := fun i => ∀ (g : ez_H) , IM h g th z sv sm bf ty (nI r) se ro le de wa ww rw rm sp fm ff ha → (i ≤ ln w) → E G mX8_allRounds (d + 1) Q g n 0 0 4 [some (.ref 64), some (.int (nI w)), some (.int (nI (roN T n' f L (ln w) (sg w) i))), some (.int (nI i))] []) ?_ 0 h hM (Nat.zero_le _)
  intro i ih4 g  hM hi
  refine ez_iload_n (q := 5) 3 dX8_allRounds_4 rfl rfl rfl ?_
  refine ez_aload_n (q := 6) 0 dX8_allRounds_5 rfl rfl rfl ?_
  refine ez_iload_n (q := 7) 1 dX8_allRounds_6 rfl rfl rfl ?_
  refine cMv (q := 10) dX8_allRounds_7 ck_X8_101 hM (t_X8_lengthOf hM.rb hz ho hw) rfl rfl rfl rfl rfl (Nat.le_of_ble_eq_true rfl) rfl (fun g hM => ?_)
  refine ez_icmpgeN (q := 13) (tgt := 41) dX8_allRounds_10 (by decide) (by omega) (by omega) rfl (fun hc10 => ?_) (fun hc10 => ?_)
  · refine ez_iload_n (q := 42) 2 dX8_allRounds_41 rfl rfl rfl ?_
    exact ez_iret dX8_allRounds_42 rfl (by rw [show i = ln w from by omega]; exact hQ _ ⟨_, _, _, _, _, _, _, _, _, _, _, _, hM⟩)
  · refine ez_iload_n (q := 14) 2 dX8_allRounds_13 rfl rfl rfl ?_
    refine ez_aload_n (q := 15) 0 dX8_allRounds_14 rfl rfl rfl ?_
    refine ez_getf (q := 18) dX8_allRounds_15 fl_X8_22 hM.1 rfl rfl ?_
    refine ez_iload_n (q := 19) 3 dX8_allRounds_18 rfl rfl rfl ?_
    refine ez_iald (q := 20) dX8_allRounds_19 hM.2.2.2.2.2.1 rfl (by omega) (by decide) rfl ?_
    refine ez_top (ht.rwE hc10) ?_
    refine ez_ifle (q := 23) (tgt := 32) dX8_allRounds_20 (by decide) rfl (fun hc20 => ?_) (fun hc20 => ?_)
    · refine ez_iconst (v := nI 0) (q := 33) dX8_allRounds_32 (by decide) rfl ?_
      refine ez_iaddN (q := 34) dX8_allRounds_33 rfl ?_
      refine ez_istore_2 (q := 35) dX8_allRounds_34 rfl (by decide) rfl rfl ?_
      refine ez_iincN_3 (q := 38) dX8_allRounds_35 (by decide) rfl rfl ?_
      refine ez_goto (q := 4) dX8_allRounds_38 (by decide) ?_
      exact E.fg (ih4 (i + 1) (by omega) g hM (by omega)) ⟨Or.inr (rfl), Or.inr (rfl), Or.inr (by first | rw [rw_t hc20] | rw [rw_f hc20]), Or.inr (rfl), trivial⟩
    · refine ez_aload_n (q := 24) 0 dX8_allRounds_23 rfl rfl rfl ?_
      refine ez_getf (q := 27) dX8_allRounds_24 fl_X8_22 hM.1 rfl rfl ?_
      refine ez_iload_n (q := 28) 3 dX8_allRounds_27 rfl rfl rfl ?_
      refine ez_iald (q := 29) dX8_allRounds_28 hM.2.2.2.2.2.1 rfl (by omega) (by decide) rfl ?_
      refine ez_top (ht.rwE hc10) ?_
      refine ez_goto (q := 33) dX8_allRounds_29 (by decide) ?_
      refine ez_iadd (q := 34) dX8_allRounds_33 rfl ?_
      refine ez_istore_2 (q := 35) dX8_allRounds_34 rfl (by decide) rfl rfl ?_
      refine ez_iincN_3 (q := 38) dX8_allRounds_35 (by decide) rfl rfl ?_
      refine ez_goto (q := 4) dX8_allRounds_38 (by decide) ?_
      exact E.fg (ih4 (i + 1) (by omega) g hM (by omega)) ⟨Or.inr (rfl), Or.inr (rfl), Or.inr (by first | rw [rw_t hc20] | rw [rw_f hc20]), Or.inr (rfl), trivial⟩

set_option maxHeartbeats 800000 in
set_option maxRecDepth 100000 in
theorem t_X8_toldWish {G : ez_G} {d n : Nat} {h : ez_H} {n' f : Nat} {L T ln : Nat → Nat} {sg : Nat → Nat → Nat} {w what r : Nat} {th sm ty wa rm fm ff : Int32} {z sv bf se ro le de rw sp : Nat → Int32} {ww : Bool} {ha : Int64} (hM : IM h h th z sv sm bf ty (nI r) se ro le de wa ww rw rm sp fm ff ha) (hz : ZZ z n' f L T ln sg) (ho : OK n' f L T ln sg) (hs : WFS ln sg) (hw : w < 4) (hwh : what ≤ 3) : Con G mX8_toldWish (d + 9) [.ref 64, .int (nI w), .int (nI what)] h n 0 0 (PW n (some (.int (tsI T n' f L ln sg w what))) (fun g => MB h g th z sv sm bf ty ha)) := by
  have hn := ho.1
  have hn0 := hz.1
  have hl := ho.2.2.2.2.1 w hw
  refine Con.of [some (.ref 64), some (.int (nI w)), some (.int (nI what))] pl_X8 rfl (Nat.le_of_ble_eq_true rfl) rfl ?_
  have hQ : ∀ g, MB h g th z sv sm bf ty ha → (PW n (some (.int (tsI T n' f L ln sg w what))) (fun g => MB h g th z sv sm bf ty ha)) (.inl (some (.int (tsI T n' f L ln sg w what)))) g n := fun g hW => ⟨rfl, hW, rfl⟩
  generalize PW n (some (.int (tsI T n' f L ln sg w what))) (fun g => MB h g th z sv sm bf ty ha) = Q at hQ ⊢
  refine ez_aload_n (q := 1) 0 dX8_toldWish_0 rfl rfl rfl ?_
  refine ez_iload_n (q := 2) 1 dX8_toldWish_1 rfl rfl rfl ?_
  refine cMv (q := 5) dX8_toldWish_2 ck_X8_101 hM (t_X8_lengthOf hM.rb hz ho hw) rfl rfl rfl rfl rfl (Nat.le_of_ble_eq_true rfl) rfl (fun g hM => ?_)
  refine ez_ifneN (q := 8) (tgt := 10) dX8_toldWish_5 (by decide) (by omega) rfl (fun hc5 => ?_) (fun hc5 => ?_)
  · rw [tsI, if_neg hc5] at hQ
    obtain ⟨sc, hwf⟩ := hs w hw (by omega)
    refine ez_aload_n (q := 11) 0 dX8_toldWish_10 rfl rfl rfl ?_
    refine ez_iload_n (q := 12) 1 dX8_toldWish_11 rfl rfl rfl ?_
    refine cX0 (q := 15) dX8_toldWish_12 ck_X8_114 hM.1 (t_X8_lay hM.rb hz ho hw hwf) rfl ⟨by decide, rfl⟩ rfl rfl rfl (Nat.le_of_ble_eq_true rfl) rfl (fun g hW => ?_)
    obtain ⟨se, ro, le, de, r, hM2, ht⟩ := hW
    have hM := hM.tr hM2
    have t0 := ht 0 (Nat.le_refl 0) (by omega)
    have t2 := t0.2 ((wf_w hwf (by omega)).trans (by rw [(wf_0 hwf).2.1]))
    refine ez_iload_n (q := 16) 2 dX8_toldWish_15 rfl rfl rfl ?_
    refine ez_ifneN (q := 19) (tgt := 27) dX8_toldWish_16 (by decide) (by omega) rfl (fun hc16 => ?_) (fun hc16 => ?_)
    · refine ez_iload_n (q := 28) 2 dX8_toldWish_27 rfl rfl rfl ?_
      refine ez_iconst (v := nI 1) (q := 29) dX8_toldWish_28 (by decide) rfl ?_
      refine ez_icmpneN (q := 32) (tgt := 41) dX8_toldWish_29 (by decide) (by omega) (by omega) rfl (fun hc29 => ?_) (fun hc29 => ?_)
      · refine ez_iload_n (q := 42) 2 dX8_toldWish_41 rfl rfl rfl ?_
        refine ez_iconst (v := nI 2) (q := 43) dX8_toldWish_42 (by decide) rfl ?_
        refine ez_icmpneN (q := 46) (tgt := 54) dX8_toldWish_43 (by decide) (by omega) (by omega) rfl (fun hc43 => ?_) (fun hc43 => ?_)
        · obtain rfl : what = 3 := by omega
          refine ez_aload_n (q := 55) 0 dX8_toldWish_54 rfl rfl rfl ?_
          refine ez_getf (q := 58) dX8_toldWish_55 fl_X8_28 hM.1 rfl rfl ?_
          refine ez_iconst (v := nI 0) (q := 59) dX8_toldWish_58 (by decide) rfl ?_
          refine ez_iald (q := 60) dX8_toldWish_59 hM.2.2.2.2.2.2.2.1 rfl (by omega) (by decide) rfl ?_
          refine ez_top (t2.2.2.2) ?_
          exact ez_iret dX8_toldWish_60 rfl (hQ _ ⟨_, _, _, _, _, _, _, _, _, _, _, _, hM⟩)
        · subst hc43
          refine ez_aload_n (q := 47) 0 dX8_toldWish_46 rfl rfl rfl ?_
          refine ez_iload_n (q := 48) 1 dX8_toldWish_47 rfl rfl rfl ?_
          refine cXv (q := 51) dX8_toldWish_48 ck_X8_153 hM.1 (t_X8_allRounds hM.rb hz ho hw ht) rfl ⟨by decide, rfl⟩ rfl rfl rfl (Nat.le_of_ble_eq_true rfl) rfl (fun g hW => ?_)
          obtain ⟨r, se, ro, le, de, wa, ww, rw, rm, sp, fm, ff, hM2⟩ := hW
          have hM := hM.tr hM2
          refine ez_goto (q := 60) dX8_toldWish_51 (by decide) ?_
          exact ez_iret dX8_toldWish_60 rfl (hQ _ ⟨_, _, _, _, _, _, _, _, _, _, _, _, hM⟩)
      · subst hc29
        refine ez_aload_n (q := 33) 0 dX8_toldWish_32 rfl rfl rfl ?_
        refine ez_getf (q := 36) dX8_toldWish_33 fl_X8_19 hM.1 rfl rfl ?_
        refine ez_iconst (v := nI 0) (q := 37) dX8_toldWish_36 (by decide) rfl ?_
        refine ez_iald (q := 38) dX8_toldWish_37 hM.2.2.2.2.1 rfl (by omega) (by decide) rfl ?_
        refine ez_top (t2.1) ?_
        refine ez_goto (q := 60) dX8_toldWish_38 (by decide) ?_
        exact ez_iret dX8_toldWish_60 rfl (hQ _ ⟨_, _, _, _, _, _, _, _, _, _, _, _, hM⟩)
    · subst hc16
      refine ez_aload_n (q := 20) 0 dX8_toldWish_19 rfl rfl rfl ?_
      refine ez_iload_n (q := 21) 1 dX8_toldWish_20 rfl rfl rfl ?_
      refine cMv (q := 24) dX8_toldWish_21 ck_X8_101 hM (t_X8_lengthOf hM.rb hz ho hw) rfl rfl rfl rfl rfl (Nat.le_of_ble_eq_true rfl) rfl (fun g hM => ?_)
      refine ez_goto (q := 60) dX8_toldWish_24 (by decide) ?_
      exact ez_iret dX8_toldWish_60 rfl (hQ _ ⟨_, _, _, _, _, _, _, _, _, _, _, _, hM⟩)
  · rw [tsI, if_pos hc5] at hQ
    refine ez_iconst (v := -1) (q := 9) dX8_toldWish_8 (by decide) rfl ?_
    exact ez_iret dX8_toldWish_9 rfl (hQ _ ⟨_, _, _, _, _, _, _, _, _, _, _, _, hM⟩)

def cdS (m : Int) (w what : Int32) : Nat := if inB w 0 3 = true then (if inB what 0 m = true then 0 else 2) else 1
set_option maxHeartbeats 800000 in
set_option maxRecDepth 100000 in
theorem t_X8_wish {G : ez_G} {d n : Nat} {h : ez_H} {n' f : Nat} {L T ln : Nat → Nat} {sg : Nat → Nat → Nat} {w what : Int32} {r : Nat} {th sm ty wa rm fm ff : Int32} {z sv bf se ro le de rw sp : Nat → Int32} {ww : Bool} {ha : Int64} (hM : IM h h th z sv sm bf ty (nI r) se ro le de wa ww rw rm sp fm ff ha) (hz : ZZ z n' f L T ln sg) (ho : OK n' f L T ln sg) (hs : WFS ln sg) : Con G mX8_wish (d + 10) [.ref 64, .int w, .int what] h n 0 0 (PW n (some (.int (aW (cdS 3 w what) (tsI T n' f L ln sg (nn w) (nn what))))) (fun g => MB h g (nI (cdS 3 w what)) z sv sm bf ty ha)) := by
  have hn := ho.1
  have hn0 := hz.1
  refine Con.of [some (.ref 64), some (.int w), some (.int what)] pl_X8 rfl (Nat.le_of_ble_eq_true rfl) rfl ?_
  have hQ : ∀ g, MB h g (nI (cdS 3 w what)) z sv sm bf ty ha → (PW n (some (.int (aW (cdS 3 w what) (tsI T n' f L ln sg (nn w) (nn what))))) (fun g => MB h g (nI (cdS 3 w what)) z sv sm bf ty ha)) (.inl (some (.int (aW (cdS 3 w what) (tsI T n' f L ln sg (nn w) (nn what)))))) g n := fun g hW => ⟨rfl, hW, rfl⟩
  generalize PW n (some (.int (aW (cdS 3 w what) (tsI T n' f L ln sg (nn w) (nn what))))) (fun g => MB h g (nI (cdS 3 w what)) z sv sm bf ty ha) = Q at hQ ⊢
  refine ez_aload_n (q := 1) 0 dX8_wish_0 rfl rfl rfl ?_
  refine ez_iload_n (q := 2) 1 dX8_wish_1 rfl rfl rfl ?_
  refine cUv (q := 5) dX8_wish_2 ck_X8_134 (t_X8_isWish) rfl rfl rfl (Nat.le_of_ble_eq_true rfl) rfl ?_
  refine ez_ifneB (q := 8) (tgt := 12) dX8_wish_5 (by decide) rfl (fun hc5 => ?_) (fun hc5 => ?_)
  · refine ez_iload_n (q := 13) 2 dX8_wish_12 rfl rfl rfl ?_
    refine ez_iconst (v := nI 0) (q := 14) dX8_wish_13 (by decide) rfl ?_
    refine ez_iconst (v := nI 3) (q := 15) dX8_wish_14 (by decide) rfl ?_
    refine cUv (q := 18) dX8_wish_15 ck_X8_41 (t_X8_in (a := 0) (b := 3) (by decide) (by decide)) rfl rfl rfl (Nat.le_of_ble_eq_true rfl) rfl ?_
    refine ez_ifeqB (q := 21) (tgt := 25) dX8_wish_18 (by decide) rfl (fun hc18 => ?_) (fun hc18 => ?_)
    · rw [show cdS 3 w what = 2 from by simp [cdS, hc5, hc18]] at hQ
      refine ez_iconst (v := nI 2) (q := 26) dX8_wish_25 (by decide) rfl ?_
      refine pM_th (q := 29) dX8_wish_26 fl_X8_37 hM rfl (fun g hM => ?_)
      refine ez_aload_n (q := 30) 0 dX8_wish_29 rfl rfl rfl ?_
      refine ez_getf (q := 33) dX8_wish_30 fl_X8_37 hM.1 rfl rfl ?_
      refine ez_ifleN (q := 36) (tgt := 40) dX8_wish_33 (by decide) (by decide) rfl (fun hc33 => ?_) (fun hc33 => ?_)
      · first
        | exact absurd hc33 (by decide)
        | skip
          refine ez_aload_n (q := 41) 0 dX8_wish_40 rfl rfl rfl ?_
          refine ez_iload_n (q := 42) 1 dX8_wish_41 rfl rfl rfl ?_
          refine ez_iload_n (q := 43) 2 dX8_wish_42 rfl rfl rfl ?_
          refine cXv (q := 46) dX8_wish_43 ck_X8_156 hM.1 (t_X8_toldWish hM.rb hz ho hs (by omega) (by omega)) rfl ⟨by decide, rfl⟩ rfl rfl rfl (Nat.le_of_ble_eq_true rfl) rfl (fun g hW => ?_)
          obtain ⟨r, se, ro, le, de, wa, ww, rw, rm, sp, fm, ff, hM2⟩ := hW
          have hM := hM.tr hM2
          exact ez_iret dX8_wish_46 rfl (hQ _ ⟨_, _, _, _, _, _, _, _, _, _, _, _, hM⟩)
      · first
        | exact absurd hc33 (by decide)
        | skip
          refine ez_iconst (v := nI 0) (q := 37) dX8_wish_36 (by decide) rfl ?_
          refine ez_goto (q := 46) dX8_wish_37 (by decide) ?_
          exact ez_iret dX8_wish_46 rfl (hQ _ ⟨_, _, _, _, _, _, _, _, _, _, _, _, hM⟩)
    · rw [show cdS 3 w what = 0 from by simp [cdS, hc5, hc18]] at hQ
      obtain ⟨j, rfl, hj, hj2⟩ := inB_nat hc5
      obtain ⟨k, rfl, hk, hk2⟩ := inB_nat hc18
      rw [nn_nI hj2, nn_nI hk2] at hQ
      refine ez_iconst (v := nI 0) (q := 22) dX8_wish_21 (by decide) rfl ?_
      refine ez_goto (q := 26) dX8_wish_22 (by decide) ?_
      refine pM_th (q := 29) dX8_wish_26 fl_X8_37 hM rfl (fun g hM => ?_)
      refine ez_aload_n (q := 30) 0 dX8_wish_29 rfl rfl rfl ?_
      refine ez_getf (q := 33) dX8_wish_30 fl_X8_37 hM.1 rfl rfl ?_
      refine ez_ifleN (q := 36) (tgt := 40) dX8_wish_33 (by decide) (by decide) rfl (fun hc33 => ?_) (fun hc33 => ?_)
      · first
        | exact absurd hc33 (by decide)
        | skip
          refine ez_aload_n (q := 41) 0 dX8_wish_40 rfl rfl rfl ?_
          refine ez_iload_n (q := 42) 1 dX8_wish_41 rfl rfl rfl ?_
          refine ez_iload_n (q := 43) 2 dX8_wish_42 rfl rfl rfl ?_
          refine cXv (q := 46) dX8_wish_43 ck_X8_156 hM.1 (t_X8_toldWish hM.rb hz ho hs (by omega) (by omega)) rfl ⟨by decide, rfl⟩ rfl rfl rfl (Nat.le_of_ble_eq_true rfl) rfl (fun g hW => ?_)
          obtain ⟨r, se, ro, le, de, wa, ww, rw, rm, sp, fm, ff, hM2⟩ := hW
          have hM := hM.tr hM2
          exact ez_iret dX8_wish_46 rfl (hQ _ ⟨_, _, _, _, _, _, _, _, _, _, _, _, hM⟩)
      · first
        | exact absurd hc33 (by decide)
        | skip
          refine ez_iconst (v := nI 0) (q := 37) dX8_wish_36 (by decide) rfl ?_
          refine ez_goto (q := 46) dX8_wish_37 (by decide) ?_
          exact ez_iret dX8_wish_46 rfl (hQ _ ⟨_, _, _, _, _, _, _, _, _, _, _, _, hM⟩)
  · rw [show cdS 3 w what = 1 from by simp [cdS, hc5]] at hQ
    refine ez_iconst (v := nI 1) (q := 9) dX8_wish_8 (by decide) rfl ?_
    refine ez_goto (q := 26) dX8_wish_9 (by decide) ?_
    refine pM_th (q := 29) dX8_wish_26 fl_X8_37 hM rfl (fun g hM => ?_)
    refine ez_aload_n (q := 30) 0 dX8_wish_29 rfl rfl rfl ?_
    refine ez_getf (q := 33) dX8_wish_30 fl_X8_37 hM.1 rfl rfl ?_
    refine ez_ifleN (q := 36) (tgt := 40) dX8_wish_33 (by decide) (by decide) rfl (fun hc33 => ?_) (fun hc33 => ?_)
    · first
      | exact absurd hc33 (by decide)
      | skip
        refine ez_aload_n (q := 41) 0 dX8_wish_40 rfl rfl rfl ?_
        refine ez_iload_n (q := 42) 1 dX8_wish_41 rfl rfl rfl ?_
        refine ez_iload_n (q := 43) 2 dX8_wish_42 rfl rfl rfl ?_
        refine cXv (q := 46) dX8_wish_43 ck_X8_156 hM.1 (t_X8_toldWish hM.rb hz ho hs (by omega) (by omega)) rfl ⟨by decide, rfl⟩ rfl rfl rfl (Nat.le_of_ble_eq_true rfl) rfl (fun g hW => ?_)
        obtain ⟨r, se, ro, le, de, wa, ww, rw, rm, sp, fm, ff, hM2⟩ := hW
        have hM := hM.tr hM2
        exact ez_iret dX8_wish_46 rfl (hQ _ ⟨_, _, _, _, _, _, _, _, _, _, _, _, hM⟩)
    · first
      | exact absurd hc33 (by decide)
      | skip
        refine ez_iconst (v := nI 0) (q := 37) dX8_wish_36 (by decide) rfl ?_
        refine ez_goto (q := 46) dX8_wish_37 (by decide) ?_
        exact ez_iret dX8_wish_46 rfl (hQ _ ⟨_, _, _, _, _, _, _, _, _, _, _, _, hM⟩)

