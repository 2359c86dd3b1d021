set_option maxHeartbeats 800000 in
set_option maxRecDepth 100000 in
theorem t_X8_nextOf {G : ez_G} {d n : Nat} {h : ez_H} {n' f : Nat} {L T ln : Nat → Nat} {sg : Nat → Nat → Nat} {w u : Nat} {d1 : Nat → Nat} {th sm ty rd wa rm fm ff : Int32} {z sv bf se ro le de rw sp : Nat → Int32} {ww : Bool} {ha : Int64} (hM : IM h h th z sv sm bf ty rd se ro le de wa ww rw rm sp fm ff ha) (hz : ZZ z n' f L T ln sg) (ho : OK n' f L T ln sg) (hw : w < n') (hu : u < 2 ^ n') (hsp : ∀ i, i < n' → sp i = nI (d1 i)) (hd : ∀ i, i < n' → d1 i ≤ 99) : Con G mX8_nextOf (d) [.ref 64, .int (nI w), .int (nI u)] h n 0 0 (PM h n (some (.int (bsI (bsN (T w) u d1 n')))) th z sv sm bf ty rd se ro le de wa ww rw rm sp fm ff ha) := by
  have hn := ho.1
  have hn0 := hz.1
  refine Con.of [some (.ref 64), some (.int (nI w)), some (.int (nI u)), none, none, none] pl_X8 rfl (Nat.le_of_ble_eq_true rfl) rfl ?_
  have hQ : ∀ g, IM h g th z sv sm bf ty rd se ro le de wa ww rw rm sp fm ff ha → (PM h n (some (.int (bsI (bsN (T w) u d1 n')))) th z sv sm bf ty rd se ro le de wa ww rw rm sp fm ff ha) (.inl (some (.int (bsI (bsN (T w) u d1 n'))))) g n := fun g hM => ⟨rfl, hM, rfl⟩
  generalize PM h n (some (.int (bsI (bsN (T w) u d1 n')))) th z sv sm bf ty rd se ro le de wa ww rw rm sp fm ff ha = Q at hQ ⊢
  refine ez_iconst (v := -1) (q := 1) dX8_nextOf_0 (by decide) rfl ?_
  refine ez_istore_3 (q := 2) dX8_nextOf_1 rfl (by decide) rfl rfl ?_
  refine ez_iconst (v := nI 0) (q := 3) dX8_nextOf_2 (by decide) rfl ?_
  refine ez_istore_4 (q := 5) dX8_nextOf_3 (by decide) rfl rfl ?_
  refine ez_loop (α := Nat) (fun i => n' - i) (P := fun i => (i ≤ n') → E G mX8_nextOf (d) Q h n 0 0 5 [some (.ref 64), some (.int (nI w)), some (.int (nI u)), some (.int (bsI (bsN (T w) u d1 i))), some (.int (nI i)), none] []) ?_ 0 (Nat.zero_le _)
  intro i ih5 hi
  refine ez_iload (q := 7) dX8_nextOf_5 rfl rfl ?_
  refine ez_aload_n (q := 8) 0 dX8_nextOf_7 rfl rfl rfl ?_
  refine ez_getf (q := 11) dX8_nextOf_8 fl_X8_7 hM.1 rfl rfl ?_
  refine ez_iconst (v := nI 0) (q := 12) dX8_nextOf_11 (by decide) rfl ?_
  refine ez_iald (q := 13) dX8_nextOf_12 hM.2.1 rfl (by omega) (by decide) rfl ?_
  refine ez_top (hn0) ?_
  refine ez_icmpgeN (q := 16) (tgt := 102) dX8_nextOf_13 (by decide) (by omega) (by omega) rfl (fun hc13 => ?_) (fun hc13 => ?_)
  · refine ez_iload_n (q := 103) 3 dX8_nextOf_102 rfl rfl rfl ?_
    exact ez_iret dX8_nextOf_103 rfl (by rw [show i = n' from by omega]; exact hQ _ hM)
  · refine ez_aload_n (q := 17) 0 dX8_nextOf_16 rfl rfl rfl ?_
    refine ez_getf (q := 20) dX8_nextOf_17 fl_X8_7 hM.1 rfl rfl ?_
    refine ez_bipush (v := nI 12) (q := 22) dX8_nextOf_20 (by decide) rfl ?_
    refine ez_iload_n (q := 23) 1 dX8_nextOf_22 rfl rfl rfl ?_
    refine ez_iaddN (q := 24) dX8_nextOf_23 rfl ?_
    refine ez_iald (q := 25) dX8_nextOf_24 hM.2.1 rfl (by omega) (by decide) rfl ?_
    refine ez_top (hz.2.2.2.1 w hw) ?_
    refine ez_iload (q := 27) dX8_nextOf_25 rfl rfl ?_
    refine ez_ishrN (q := 28) dX8_nextOf_27 (lt31 (ho.2.2.2.1 w hw) hn) (by omega) rfl ?_
    refine ez_iconst (v := nI 1) (q := 29) dX8_nextOf_28 (by decide) rfl ?_
    refine ez_iandN (q := 30) dX8_nextOf_29 rfl ?_
    refine ez_iconst (v := nI 1) (q := 31) dX8_nextOf_30 (by decide) rfl ?_
    refine ez_icmpneN (q := 34) (tgt := 60) dX8_nextOf_31 (by decide) (Nat.lt_of_le_of_lt Nat.and_le_right (by decide)) (by decide) rfl (fun hc31 => ?_) (fun hc31 => ?_)
    · refine ez_iconst (v := nI 0) (q := 61) dX8_nextOf_60 (by decide) rfl ?_
      refine ez_top (show nI 0 = bI false from rfl) ?_
      refine ez_istore_5 (q := 63) dX8_nextOf_61 (by decide) rfl rfl ?_
      refine ez_iload (q := 65) dX8_nextOf_63 rfl rfl ?_
      refine ez_ifeqB (q := 68) (tgt := 94) dX8_nextOf_65 (by decide) rfl (fun hc65 => ?_) (fun hc65 => ?_)
      · first
        | exact absurd hc65 (by decide)
        | skip
          refine ez_iload_n (q := 95) 3 dX8_nextOf_94 rfl rfl rfl ?_
          refine ez_istore_3 (q := 96) dX8_nextOf_95 rfl (by decide) rfl rfl ?_
          refine ez_iincN_4 (q := 99) dX8_nextOf_96 (by decide) rfl rfl ?_
          refine ez_goto (q := 5) dX8_nextOf_99 (by decide) ?_
          exact E.fg (ih5 (i + 1) (by omega) (by omega)) ⟨Or.inr (rfl), Or.inr (rfl), Or.inr (rfl), Or.inr (by first | rw [bs_t ⟨⟨hc31, hc41, hc53⟩, fun b h => by rw [hno] at h; cases h⟩] | rw [bs_t ⟨⟨hc31, hc41, hc53⟩, fun c h => by rw [hb] at h; cases h; exact hc86⟩] | rw [bs_f (fun a => hc31 a.1.1)] | rw [bs_f (fun a => hc41 a.1.2.1)] | rw [bs_f (fun a => absurd a.1.2.2 (by omega))] | rw [bs_f (fun a => absurd (a.2 b hb) (by omega))]), Or.inr (rfl), Or.inl rfl, trivial⟩
      · first
        | exact absurd hc65 (by decide)
        | skip
          refine ez_iload_n (q := 69) 3 dX8_nextOf_68 rfl rfl rfl ?_
          refine ez_iconst (v := -1) (q := 70) dX8_nextOf_69 (by decide) rfl ?_
          refine ez_icmpeq (q := 73) (tgt := 89) dX8_nextOf_70 (by decide) rfl (fun hc70 => ?_) (fun hc70 => ?_)
          · have hno := bs_no (by omega) hc70
            refine ez_iload (q := 91) dX8_nextOf_89 rfl rfl ?_
            refine ez_goto (q := 95) dX8_nextOf_91 (by decide) ?_
            refine ez_istore_3 (q := 96) dX8_nextOf_95 rfl (by decide) rfl rfl ?_
            refine ez_iincN_4 (q := 99) dX8_nextOf_96 (by decide) rfl rfl ?_
            refine ez_goto (q := 5) dX8_nextOf_99 (by decide) ?_
            exact E.fg (ih5 (i + 1) (by omega) (by omega)) ⟨Or.inr (rfl), Or.inr (rfl), Or.inr (rfl), Or.inr (by first | rw [bs_t ⟨⟨hc31, hc41, hc53⟩, fun b h => by rw [hno] at h; cases h⟩] | rw [bs_t ⟨⟨hc31, hc41, hc53⟩, fun c h => by rw [hb] at h; cases h; exact hc86⟩] | rw [bs_f (fun a => hc31 a.1.1)] | rw [bs_f (fun a => hc41 a.1.2.1)] | rw [bs_f (fun a => absurd a.1.2.2 (by omega))] | rw [bs_f (fun a => absurd (a.2 b hb) (by omega))]), Or.inr (rfl), Or.inl rfl, trivial⟩
          · obtain ⟨b, hb⟩ := bs_so hc70
            have hb2 := bs_lt _ _ hb
            refine ez_aload_n (q := 74) 0 dX8_nextOf_73 rfl rfl rfl ?_
            refine ez_getf (q := 77) dX8_nextOf_74 fl_X8_34 hM.1 rfl rfl ?_
            refine ez_iload (q := 79) dX8_nextOf_77 rfl rfl ?_
            refine ez_iald (q := 80) dX8_nextOf_79 hM.2.2.2.2.2.2.2.2.2.1 rfl (by omega) (by decide) rfl ?_
            refine ez_top (hsp i (by assumption)) ?_
            refine ez_aload_n (q := 81) 0 dX8_nextOf_80 rfl rfl rfl ?_
            refine ez_getf (q := 84) dX8_nextOf_81 fl_X8_34 hM.1 rfl rfl ?_
            refine ez_iload_n (q := 85) 3 dX8_nextOf_84 rfl rfl rfl ?_
            refine ez_iald (q := 86) dX8_nextOf_85 hM.2.2.2.2.2.2.2.2.2.1 (by rw [hb]; rfl) (by omega) (by decide) rfl ?_
            refine ez_top (hsp b (by omega)) ?_
            refine ez_icmpgeN (q := 89) (tgt := 94) dX8_nextOf_86 (by decide) (by have := hd i (by assumption); omega) (by have := hd b (by omega); omega) rfl (fun hc86 => ?_) (fun hc86 => ?_)
            · refine ez_iload_n (q := 95) 3 dX8_nextOf_94 rfl rfl rfl ?_
              refine ez_istore_3 (q := 96) dX8_nextOf_95 rfl (by decide) rfl rfl ?_
              refine ez_iincN_4 (q := 99) dX8_nextOf_96 (by decide) rfl rfl ?_
              refine ez_goto (q := 5) dX8_nextOf_99 (by decide) ?_
              exact E.fg (ih5 (i + 1) (by omega) (by omega)) ⟨Or.inr (rfl), Or.inr (rfl), Or.inr (rfl), Or.inr (by first | rw [bs_t ⟨⟨hc31, hc41, hc53⟩, fun b h => by rw [hno] at h; cases h⟩] | rw [bs_t ⟨⟨hc31, hc41, hc53⟩, fun c h => by rw [hb] at h; cases h; exact hc86⟩] | rw [bs_f (fun a => hc31 a.1.1)] | rw [bs_f (fun a => hc41 a.1.2.1)] | rw [bs_f (fun a => absurd a.1.2.2 (by omega))] | rw [bs_f (fun a => absurd (a.2 b hb) (by omega))]), Or.inr (rfl), Or.inl rfl, trivial⟩
            · refine ez_iload (q := 91) dX8_nextOf_89 rfl rfl ?_
              refine ez_goto (q := 95) dX8_nextOf_91 (by decide) ?_
              refine ez_istore_3 (q := 96) dX8_nextOf_95 rfl (by decide) rfl rfl ?_
              refine ez_iincN_4 (q := 99) dX8_nextOf_96 (by decide) rfl rfl ?_
              refine ez_goto (q := 5) dX8_nextOf_99 (by decide) ?_
              exact E.fg (ih5 (i + 1) (by omega) (by omega)) ⟨Or.inr (rfl), Or.inr (rfl), Or.inr (rfl), Or.inr (by first | rw [bs_t ⟨⟨hc31, hc41, hc53⟩, fun b h => by rw [hno] at h; cases h⟩] | rw [bs_t ⟨⟨hc31, hc41, hc53⟩, fun c h => by rw [hb] at h; cases h; exact hc86⟩] | rw [bs_f (fun a => hc31 a.1.1)] | rw [bs_f (fun a => hc41 a.1.2.1)] | rw [bs_f (fun a => absurd a.1.2.2 (by omega))] | rw [bs_f (fun a => absurd (a.2 b hb) (by omega))]), Or.inr (rfl), Or.inl rfl, trivial⟩
    · refine ez_iload_n (q := 35) 2 dX8_nextOf_34 rfl rfl rfl ?_
      refine ez_iload (q := 37) dX8_nextOf_35 rfl rfl ?_
      refine ez_ishrN (q := 38) dX8_nextOf_37 (lt31 hu hn) (by omega) rfl ?_
      refine ez_iconst (v := nI 1) (q := 39) dX8_nextOf_38 (by decide) rfl ?_
      refine ez_iandN (q := 40) dX8_nextOf_39 rfl ?_
      refine ez_iconst (v := nI 1) (q := 41) dX8_nextOf_40 (by decide) rfl ?_
      refine ez_icmpneN (q := 44) (tgt := 60) dX8_nextOf_41 (by decide) (Nat.lt_of_le_of_lt Nat.and_le_right (by decide)) (by decide) rfl (fun hc41 => ?_) (fun hc41 => ?_)
      · refine ez_iconst (v := nI 0) (q := 61) dX8_nextOf_60 (by decide) rfl ?_
        refine ez_top (show nI 0 = bI false from rfl) ?_
        refine ez_istore_5 (q := 63) dX8_nextOf_61 (by decide) rfl rfl ?_
        refine ez_iload (q := 65) dX8_nextOf_63 rfl rfl ?_
        refine ez_ifeqB (q := 68) (tgt := 94) dX8_nextOf_65 (by decide) rfl (fun hc65 => ?_) (fun hc65 => ?_)
        · first
          | exact absurd hc65 (by decide)
          | skip
            refine ez_iload_n (q := 95) 3 dX8_nextOf_94 rfl rfl rfl ?_
            refine ez_istore_3 (q := 96) dX8_nextOf_95 rfl (by decide) rfl rfl ?_
            refine ez_iincN_4 (q := 99) dX8_nextOf_96 (by decide) rfl rfl ?_
            refine ez_goto (q := 5) dX8_nextOf_99 (by decide) ?_
            exact E.fg (ih5 (i + 1) (by omega) (by omega)) ⟨Or.inr (rfl), Or.inr (rfl), Or.inr (rfl), Or.inr (by first | rw [bs_t ⟨⟨hc31, hc41, hc53⟩, fun b h => by rw [hno] at h; cases h⟩] | rw [bs_t ⟨⟨hc31, hc41, hc53⟩, fun c h => by rw [hb] at h; cases h; exact hc86⟩] | rw [bs_f (fun a => hc31 a.1.1)] | rw [bs_f (fun a => hc41 a.1.2.1)] | rw [bs_f (fun a => absurd a.1.2.2 (by omega))] | rw [bs_f (fun a => absurd (a.2 b hb) (by omega))]), Or.inr (rfl), Or.inl rfl, trivial⟩
        · first
          | exact absurd hc65 (by decide)
          | skip
            refine ez_iload_n (q := 69) 3 dX8_nextOf_68 rfl rfl rfl ?_
            refine ez_iconst (v := -1) (q := 70) dX8_nextOf_69 (by decide) rfl ?_
            refine ez_icmpeq (q := 73) (tgt := 89) dX8_nextOf_70 (by decide) rfl (fun hc70 => ?_) (fun hc70 => ?_)
            · have hno := bs_no (by omega) hc70
              refine ez_iload (q := 91) dX8_nextOf_89 rfl rfl ?_
              refine ez_goto (q := 95) dX8_nextOf_91 (by decide) ?_
              refine ez_istore_3 (q := 96) dX8_nextOf_95 rfl (by decide) rfl rfl ?_
              refine ez_iincN_4 (q := 99) dX8_nextOf_96 (by decide) rfl rfl ?_
              refine ez_goto (q := 5) dX8_nextOf_99 (by decide) ?_
              exact E.fg (ih5 (i + 1) (by omega) (by omega)) ⟨Or.inr (rfl), Or.inr (rfl), Or.inr (rfl), Or.inr (by first | rw [bs_t ⟨⟨hc31, hc41, hc53⟩, fun b h => by rw [hno] at h; cases h⟩] | rw [bs_t ⟨⟨hc31, hc41, hc53⟩, fun c h => by rw [hb] at h; cases h; exact hc86⟩] | rw [bs_f (fun a => hc31 a.1.1)] | rw [bs_f (fun a => hc41 a.1.2.1)] | rw [bs_f (fun a => absurd a.1.2.2 (by omega))] | rw [bs_f (fun a => absurd (a.2 b hb) (by omega))]), Or.inr (rfl), Or.inl rfl, trivial⟩
            · obtain ⟨b, hb⟩ := bs_so hc70
              have hb2 := bs_lt _ _ hb
              refine ez_aload_n (q := 74) 0 dX8_nextOf_73 rfl rfl rfl ?_
              refine ez_getf (q := 77) dX8_nextOf_74 fl_X8_34 hM.1 rfl rfl ?_
              refine ez_iload (q := 79) dX8_nextOf_77 rfl rfl ?_
              refine ez_iald (q := 80) dX8_nextOf_79 hM.2.2.2.2.2.2.2.2.2.1 rfl (by omega) (by decide) rfl ?_
              refine ez_top (hsp i (by assumption)) ?_
              refine ez_aload_n (q := 81) 0 dX8_nextOf_80 rfl rfl rfl ?_
              refine ez_getf (q := 84) dX8_nextOf_81 fl_X8_34 hM.1 rfl rfl ?_
              refine ez_iload_n (q := 85) 3 dX8_nextOf_84 rfl rfl rfl ?_
              refine ez_iald (q := 86) dX8_nextOf_85 hM.2.2.2.2.2.2.2.2.2.1 (by rw [hb]; rfl) (by omega) (by decide) rfl ?_
              refine ez_top (hsp b (by omega)) ?_
              refine ez_icmpgeN (q := 89) (tgt := 94) dX8_nextOf_86 (by decide) (by have := hd i (by assumption); omega) (by have := hd b (by omega); omega) rfl (fun hc86 => ?_) (fun hc86 => ?_)
              · refine ez_iload_n (q := 95) 3 dX8_nextOf_94 rfl rfl rfl ?_
                refine ez_istore_3 (q := 96) dX8_nextOf_95 rfl (by decide) rfl rfl ?_
                refine ez_iincN_4 (q := 99) dX8_nextOf_96 (by decide) rfl rfl ?_
                refine ez_goto (q := 5) dX8_nextOf_99 (by decide) ?_
                exact E.fg (ih5 (i + 1) (by omega) (by omega)) ⟨Or.inr (rfl), Or.inr (rfl), Or.inr (rfl), Or.inr (by first | rw [bs_t ⟨⟨hc31, hc41, hc53⟩, fun b h => by rw [hno] at h; cases h⟩] | rw [bs_t ⟨⟨hc31, hc41, hc53⟩, fun c h => by rw [hb] at h; cases h; exact hc86⟩] | rw [bs_f (fun a => hc31 a.1.1)] | rw [bs_f (fun a => hc41 a.1.2.1)] | rw [bs_f (fun a => absurd a.1.2.2 (by omega))] | rw [bs_f (fun a => absurd (a.2 b hb) (by omega))]), Or.inr (rfl), Or.inl rfl, trivial⟩
              · refine ez_iload (q := 91) dX8_nextOf_89 rfl rfl ?_
                refine ez_goto (q := 95) dX8_nextOf_91 (by decide) ?_
                refine ez_istore_3 (q := 96) dX8_nextOf_95 rfl (by decide) rfl rfl ?_
                refine ez_iincN_4 (q := 99) dX8_nextOf_96 (by decide) rfl rfl ?_
                refine ez_goto (q := 5) dX8_nextOf_99 (by decide) ?_
                exact E.fg (ih5 (i + 1) (by omega) (by omega)) ⟨Or.inr (rfl), Or.inr (rfl), Or.inr (rfl), Or.inr (by first | rw [bs_t ⟨⟨hc31, hc41, hc53⟩, fun b h => by rw [hno] at h; cases h⟩] | rw [bs_t ⟨⟨hc31, hc41, hc53⟩, fun c h => by rw [hb] at h; cases h; exact hc86⟩] | rw [bs_f (fun a => hc31 a.1.1)] | rw [bs_f (fun a => hc41 a.1.2.1)] | rw [bs_f (fun a => absurd a.1.2.2 (by omega))] | rw [bs_f (fun a => absurd (a.2 b hb) (by omega))]), Or.inr (rfl), Or.inl rfl, trivial⟩
      · refine ez_aload_n (q := 45) 0 dX8_nextOf_44 rfl rfl rfl ?_
        refine ez_getf (q := 48) dX8_nextOf_45 fl_X8_34 hM.1 rfl rfl ?_
        refine ez_iload (q := 50) dX8_nextOf_48 rfl rfl ?_
        refine ez_iald (q := 51) dX8_nextOf_50 hM.2.2.2.2.2.2.2.2.2.1 rfl (by omega) (by decide) rfl ?_
        refine ez_top (hsp i (by assumption)) ?_
        refine ez_bipush (v := nI 99) (q := 53) dX8_nextOf_51 (by decide) rfl ?_
        refine ez_icmpgeN (q := 56) (tgt := 60) dX8_nextOf_53 (by decide) (by have := hd i (by assumption); omega) (by decide) rfl (fun hc53 => ?_) (fun hc53 => ?_)
        · refine ez_iconst (v := nI 0) (q := 61) dX8_nextOf_60 (by decide) rfl ?_
          refine ez_top (show nI 0 = bI false from rfl) ?_
          refine ez_istore_5 (q := 63) dX8_nextOf_61 (by decide) rfl rfl ?_
          refine ez_iload (q := 65) dX8_nextOf_63 rfl rfl ?_
          refine ez_ifeqB (q := 68) (tgt := 94) dX8_nextOf_65 (by decide) rfl (fun hc65 => ?_) (fun hc65 => ?_)
          · first
            | exact absurd hc65 (by decide)
            | skip
              refine ez_iload_n (q := 95) 3 dX8_nextOf_94 rfl rfl rfl ?_
              refine ez_istore_3 (q := 96) dX8_nextOf_95 rfl (by decide) rfl rfl ?_
              refine ez_iincN_4 (q := 99) dX8_nextOf_96 (by decide) rfl rfl ?_
              refine ez_goto (q := 5) dX8_nextOf_99 (by decide) ?_
              exact E.fg (ih5 (i + 1) (by omega) (by omega)) ⟨Or.inr (rfl), Or.inr (rfl), Or.inr (rfl), Or.inr (by first | rw [bs_t ⟨⟨hc31, hc41, hc53⟩, fun b h => by rw [hno] at h; cases h⟩] | rw [bs_t ⟨⟨hc31, hc41, hc53⟩, fun c h => by rw [hb] at h; cases h; exact hc86⟩] | rw [bs_f (fun a => hc31 a.1.1)] | rw [bs_f (fun a => hc41 a.1.2.1)] | rw [bs_f (fun a => absurd a.1.2.2 (by omega))] | rw [bs_f (fun a => absurd (a.2 b hb) (by omega))]), Or.inr (rfl), Or.inl rfl, trivial⟩
          · first
            | exact absurd hc65 (by decide)
            | skip
              refine ez_iload_n (q := 69) 3 dX8_nextOf_68 rfl rfl rfl ?_
              refine ez_iconst (v := -1) (q := 70) dX8_nextOf_69 (by decide) rfl ?_
              refine ez_icmpeq (q := 73) (tgt := 89) dX8_nextOf_70 (by decide) rfl (fun hc70 => ?_) (fun hc70 => ?_)
              · have hno := bs_no (by omega) hc70
                refine ez_iload (q := 91) dX8_nextOf_89 rfl rfl ?_
                refine ez_goto (q := 95) dX8_nextOf_91 (by decide) ?_
                refine ez_istore_3 (q := 96) dX8_nextOf_95 rfl (by decide) rfl rfl ?_
                refine ez_iincN_4 (q := 99) dX8_nextOf_96 (by decide) rfl rfl ?_
                refine ez_goto (q := 5) dX8_nextOf_99 (by decide) ?_
                exact E.fg (ih5 (i + 1) (by omega) (by omega)) ⟨Or.inr (rfl), Or.inr (rfl), Or.inr (rfl), Or.inr (by first | rw [bs_t ⟨⟨hc31, hc41, hc53⟩, fun b h => by rw [hno] at h; cases h⟩] | rw [bs_t ⟨⟨hc31, hc41, hc53⟩, fun c h => by rw [hb] at h; cases h; exact hc86⟩] | rw [bs_f (fun a => hc31 a.1.1)] | rw [bs_f (fun a => hc41 a.1.2.1)] | rw [bs_f (fun a => absurd a.1.2.2 (by omega))] | rw [bs_f (fun a => absurd (a.2 b hb) (by omega))]), Or.inr (rfl), Or.inl rfl, trivial⟩
              · obtain ⟨b, hb⟩ := bs_so hc70
                have hb2 := bs_lt _ _ hb
                refine ez_aload_n (q := 74) 0 dX8_nextOf_73 rfl rfl rfl ?_
                refine ez_getf (q := 77) dX8_nextOf_74 fl_X8_34 hM.1 rfl rfl ?_
                refine ez_iload (q := 79) dX8_nextOf_77 rfl rfl ?_
                refine ez_iald (q := 80) dX8_nextOf_79 hM.2.2.2.2.2.2.2.2.2.1 rfl (by omega) (by decide) rfl ?_
                refine ez_top (hsp i (by assumption)) ?_
                refine ez_aload_n (q := 81) 0 dX8_nextOf_80 rfl rfl rfl ?_
                refine ez_getf (q := 84) dX8_nextOf_81 fl_X8_34 hM.1 rfl rfl ?_
                refine ez_iload_n (q := 85) 3 dX8_nextOf_84 rfl rfl rfl ?_
                refine ez_iald (q := 86) dX8_nextOf_85 hM.2.2.2.2.2.2.2.2.2.1 (by rw [hb]; rfl) (by omega) (by decide) rfl ?_
                refine ez_top (hsp b (by omega)) ?_
                refine ez_icmpgeN (q := 89) (tgt := 94) dX8_nextOf_86 (by decide) (by have := hd i (by assumption); omega) (by have := hd b (by omega); omega) rfl (fun hc86 => ?_) (fun hc86 => ?_)
                · refine ez_iload_n (q := 95) 3 dX8_nextOf_94 rfl rfl rfl ?_
                  refine ez_istore_3 (q := 96) dX8_nextOf_95 rfl (by decide) rfl rfl ?_
                  refine ez_iincN_4 (q := 99) dX8_nextOf_96 (by decide) rfl rfl ?_
                  refine ez_goto (q := 5) dX8_nextOf_99 (by decide) ?_
                  exact E.fg (ih5 (i + 1) (by omega) (by omega)) ⟨Or.inr (rfl), Or.inr (rfl), Or.inr (rfl), Or.inr (by first | rw [bs_t ⟨⟨hc31, hc41, hc53⟩, fun b h => by rw [hno] at h; cases h⟩] | rw [bs_t ⟨⟨hc31, hc41, hc53⟩, fun c h => by rw [hb] at h; cases h; exact hc86⟩] | rw [bs_f (fun a => hc31 a.1.1)] | rw [bs_f (fun a => hc41 a.1.2.1)] | rw [bs_f (fun a => absurd a.1.2.2 (by omega))] | rw [bs_f (fun a => absurd (a.2 b hb) (by omega))]), Or.inr (rfl), Or.inl rfl, trivial⟩
                · refine ez_iload (q := 91) dX8_nextOf_89 rfl rfl ?_
                  refine ez_goto (q := 95) dX8_nextOf_91 (by decide) ?_
                  refine ez_istore_3 (q := 96) dX8_nextOf_95 rfl (by decide) rfl rfl ?_
                  refine ez_iincN_4 (q := 99) dX8_nextOf_96 (by decide) rfl rfl ?_
                  refine ez_goto (q := 5) dX8_nextOf_99 (by decide) ?_
                  exact E.fg (ih5 (i + 1) (by omega) (by omega)) ⟨Or.inr (rfl), Or.inr (rfl), Or.inr (rfl), Or.inr (by first | rw [bs_t ⟨⟨hc31, hc41, hc53⟩, fun b h => by rw [hno] at h; cases h⟩] | rw [bs_t ⟨⟨hc31, hc41, hc53⟩, fun c h => by rw [hb] at h; cases h; exact hc86⟩] | rw [bs_f (fun a => hc31 a.1.1)] | rw [bs_f (fun a => hc41 a.1.2.1)] | rw [bs_f (fun a => absurd a.1.2.2 (by omega))] | rw [bs_f (fun a => absurd (a.2 b hb) (by omega))]), Or.inr (rfl), Or.inl rfl, trivial⟩
        · refine ez_iconst (v := nI 1) (q := 57) dX8_nextOf_56 (by decide) rfl ?_
          refine ez_goto (q := 61) dX8_nextOf_57 (by decide) ?_
          refine ez_istore_5 (q := 63) dX8_nextOf_61 (by decide) rfl rfl ?_
          refine ez_iload (q := 65) dX8_nextOf_63 rfl rfl ?_
          refine ez_ifeqN (q := 68) (tgt := 94) dX8_nextOf_65 (by decide) (by omega) rfl (fun hc65 => ?_) (fun hc65 => ?_)
          · first
            | exact absurd hc65 (by decide)
            | skip
              refine ez_iload_n (q := 95) 3 dX8_nextOf_94 rfl rfl rfl ?_
              refine ez_istore_3 (q := 96) dX8_nextOf_95 rfl (by decide) rfl rfl ?_
              refine ez_iincN_4 (q := 99) dX8_nextOf_96 (by decide) rfl rfl ?_
              refine ez_goto (q := 5) dX8_nextOf_99 (by decide) ?_
              exact E.fg (ih5 (i + 1) (by omega) (by omega)) ⟨Or.inr (rfl), Or.inr (rfl), Or.inr (rfl), Or.inr (by first | rw [bs_t ⟨⟨hc31, hc41, hc53⟩, fun b h => by rw [hno] at h; cases h⟩] | rw [bs_t ⟨⟨hc31, hc41, hc53⟩, fun c h => by rw [hb] at h; cases h; exact hc86⟩] | rw [bs_f (fun a => hc31 a.1.1)] | rw [bs_f (fun a => hc41 a.1.2.1)] | rw [bs_f (fun a => absurd a.1.2.2 (by omega))] | rw [bs_f (fun a => absurd (a.2 b hb) (by omega))]), Or.inr (rfl), Or.inl rfl, trivial⟩
          · first
            | exact absurd hc65 (by decide)
            | skip
              refine ez_iload_n (q := 69) 3 dX8_nextOf_68 rfl rfl rfl ?_
              refine ez_iconst (v := -1) (q := 70) dX8_nextOf_69 (by decide) rfl ?_
              refine ez_icmpeq (q := 73) (tgt := 89) dX8_nextOf_70 (by decide) rfl (fun hc70 => ?_) (fun hc70 => ?_)
              · have hno := bs_no (by omega) hc70
                refine ez_iload (q := 91) dX8_nextOf_89 rfl rfl ?_
                refine ez_goto (q := 95) dX8_nextOf_91 (by decide) ?_
                refine ez_istore_3 (q := 96) dX8_nextOf_95 rfl (by decide) rfl rfl ?_
                refine ez_iincN_4 (q := 99) dX8_nextOf_96 (by decide) rfl rfl ?_
                refine ez_goto (q := 5) dX8_nextOf_99 (by decide) ?_
                exact E.fg (ih5 (i + 1) (by omega) (by omega)) ⟨Or.inr (rfl), Or.inr (rfl), Or.inr (rfl), Or.inr (by first | rw [bs_t ⟨⟨hc31, hc41, hc53⟩, fun b h => by rw [hno] at h; cases h⟩] | rw [bs_t ⟨⟨hc31, hc41, hc53⟩, fun c h => by rw [hb] at h; cases h; exact hc86⟩] | rw [bs_f (fun a => hc31 a.1.1)] | rw [bs_f (fun a => hc41 a.1.2.1)] | rw [bs_f (fun a => absurd a.1.2.2 (by omega))] | rw [bs_f (fun a => absurd (a.2 b hb) (by omega))]), Or.inr (rfl), Or.inl rfl, trivial⟩
              · obtain ⟨b, hb⟩ := bs_so hc70
                have hb2 := bs_lt _ _ hb
                refine ez_aload_n (q := 74) 0 dX8_nextOf_73 rfl rfl rfl ?_
                refine ez_getf (q := 77) dX8_nextOf_74 fl_X8_34 hM.1 rfl rfl ?_
                refine ez_iload (q := 79) dX8_nextOf_77 rfl rfl ?_
                refine ez_iald (q := 80) dX8_nextOf_79 hM.2.2.2.2.2.2.2.2.2.1 rfl (by omega) (by decide) rfl ?_
                refine ez_top (hsp i (by assumption)) ?_
                refine ez_aload_n (q := 81) 0 dX8_nextOf_80 rfl rfl rfl ?_
                refine ez_getf (q := 84) dX8_nextOf_81 fl_X8_34 hM.1 rfl rfl ?_
                refine ez_iload_n (q := 85) 3 dX8_nextOf_84 rfl rfl rfl ?_
                refine ez_iald (q := 86) dX8_nextOf_85 hM.2.2.2.2.2.2.2.2.2.1 (by rw [hb]; rfl) (by omega) (by decide) rfl ?_
                refine ez_top (hsp b (by omega)) ?_
                refine ez_icmpgeN (q := 89) (tgt := 94) dX8_nextOf_86 (by decide) (by have := hd i (by assumption); omega) (by have := hd b (by omega); omega) rfl (fun hc86 => ?_) (fun hc86 => ?_)
                · refine ez_iload_n (q := 95) 3 dX8_nextOf_94 rfl rfl rfl ?_
                  refine ez_istore_3 (q := 96) dX8_nextOf_95 rfl (by decide) rfl rfl ?_
                  refine ez_iincN_4 (q := 99) dX8_nextOf_96 (by decide) rfl rfl ?_
                  refine ez_goto (q := 5) dX8_nextOf_99 (by decide) ?_
                  exact E.fg (ih5 (i + 1) (by omega) (by omega)) ⟨Or.inr (rfl), Or.inr (rfl), Or.inr (rfl), Or.inr (by first | rw [bs_t ⟨⟨hc31, hc41, hc53⟩, fun b h => by rw [hno] at h; cases h⟩] | rw [bs_t ⟨⟨hc31, hc41, hc53⟩, fun c h => by rw [hb] at h; cases h; exact hc86⟩] | rw [bs_f (fun a => hc31 a.1.1)] | rw [bs_f (fun a => hc41 a.1.2.1)] | rw [bs_f (fun a => absurd a.1.2.2 (by omega))] | rw [bs_f (fun a => absurd (a.2 b hb) (by omega))]), Or.inr (rfl), Or.inl rfl, trivial⟩
                · refine ez_iload (q := 91) dX8_nextOf_89 rfl rfl ?_
                  refine ez_goto (q := 95) dX8_nextOf_91 (by decide) ?_
                  refine ez_istore_3 (q := 96) dX8_nextOf_95 rfl (by decide) rfl rfl ?_
                  refine ez_iincN_4 (q := 99) dX8_nextOf_96 (by decide) rfl rfl ?_
                  refine ez_goto (q := 5) dX8_nextOf_99 (by decide) ?_
                  exact E.fg (ih5 (i + 1) (by omega) (by omega)) ⟨Or.inr (rfl), Or.inr (rfl), Or.inr (rfl), Or.inr (by first | rw [bs_t ⟨⟨hc31, hc41, hc53⟩, fun b h => by rw [hno] at h; cases h⟩] | rw [bs_t ⟨⟨hc31, hc41, hc53⟩, fun c h => by rw [hb] at h; cases h; exact hc86⟩] | rw [bs_f (fun a => hc31 a.1.1)] | rw [bs_f (fun a => hc41 a.1.2.1)] | rw [bs_f (fun a => absurd a.1.2.2 (by omega))] | rw [bs_f (fun a => absurd (a.2 b hb) (by omega))]), Or.inr (rfl), Or.inl rfl, trivial⟩

