set_option maxHeartbeats 800000 in
set_option maxRecDepth 100000 in
theorem op_addWorld {G : ez_G} {N i n mc ms : Nat} {sc : Nat → Int32} {h : ez_H} {Q : ez_Q} (hN : N ≤ 2048) (hi : i + 4 ≤ N) (hL : LI N sc h) (K : ∀ g m, n ≤ m → LI N sc g → E G mL_law 14 Q g m mc ms 1378 [some (.ref 0), some (.ref 1), some (.ref 64), some (.ref 74), some (.int (nI i)), none, none, none, none] []) : E G mL_law 14 Q h n (3 + mc) (18 + ms) 144 [some (.ref 0), some (.ref 1), some (.ref 64), some (.ref 74), some (.int (nI i)), none, none, none, none] [] := by
  obtain ⟨n', f, L, T, ln, sg, k, zs, t, b, h0, hI, ho, hs, hz9, ⟨o, hout⟩, th, z, sv, bf, ha, zr, ⟨r, se, ro, le, de, wa, ww, rw, rm, sp, fm, ff, hM⟩, hz, hv, hzz, hb⟩ := hL
  have hk : k ≤ 6 := hI.2.2.1.elim (fun o ho => ho.2.2.1)
  have hcd : (cdA n' (sc (i + 1))) ≤ 2 := by
    unfold cdA
    repeat' split
    all_goals decide
  by_cases hc : (cdA n' (sc (i + 1))) = 0
  · refine ez_aload_n (q := 145) 1 dL_law_144 rfl rfl rfl ?_
    refine ez_aload_n (q := 146) 0 dL_law_145 rfl rfl rfl ?_
    refine ez_iload (q := 148) dL_law_146 rfl rfl ?_
    refine ez_iconst (v := nI 1) (q := 149) dL_law_148 (by decide) rfl ?_
    refine ez_iaddN (q := 150) dL_law_149 rfl ?_
    refine ez_iald (q := 151) dL_law_150 h0 rfl (by omega) (by omega) rfl ?_
    refine ez_aload_n (q := 152) 3 dL_law_151 rfl rfl rfl ?_
    refine cPK0 (mc := mc) (ms := ms) hc (q := 155) dL_law_152 ck_L_77 (c_L_addWorld (d := 5) ⟨hI, fun _ _ => rfl⟩ ho hs hout) rfl rfl rfl (Nat.le_of_ble_eq_true rfl) rfl (fun g g0 o' m hW hg hout hv' hm => ?_)
    have h0 := (hg 0 (by decide)).trans ((hW.2 0 (Or.inl rfl)).trans h0)
    have hM := hM.to (fun j a c => (hg j (by omega)).trans (hW.2 j (Or.inr a)))
    have hI := hW.1.to (fun j a c => hg j (by omega))
    refine ez_istore_5 (q := 157) dL_law_155 (by decide) rfl rfl ?_
    refine ez_aload_n (q := 158) 2 dL_law_157 rfl rfl rfl ?_
    refine ez_aload_n (q := 159) 0 dL_law_158 rfl rfl rfl ?_
    refine ez_iload (q := 161) dL_law_159 rfl rfl ?_
    refine ez_iconst (v := nI 1) (q := 162) dL_law_161 (by decide) rfl ?_
    refine ez_iaddN (q := 163) dL_law_162 rfl ?_
    refine ez_iald (q := 164) dL_law_163 h0 rfl (by omega) (by omega) rfl ?_
    refine cXv (q := 167) dL_law_164 ck_L_82 hM.1 (t_X8_addWorld (d := 8) hM.rb hz ho hk hv) rfl ⟨by decide, rfl⟩ rfl rfl rfl (Nat.le_of_ble_eq_true rfl) rfl (fun g hW8 => ?_)
    obtain ⟨z', sv', ⟨r', se', ro', le', de', wa', ww', rw', rm', sp', fm', ff', hM⟩, hz', hvv'⟩ := hW8.1 hc
    have h0 := (hM.frm 0 (by decide)).trans h0
    have hout := (hM.frm 74 (by decide)).trans hout
    have hI := hI.to (fun j a c => hM.frm j (by omega))
    have hM := hM.rb
    refine ez_istore_6 (q := 169) dL_law_167 (by decide) rfl rfl ?_
    refine ez_aload_n (q := 170) 2 dL_law_169 rfl rfl rfl ?_
    refine cMv (q := 173) dL_law_170 ck_L_83 hM (t_X8_thrown hM.rb) rfl rfl rfl rfl rfl (Nat.le_of_ble_eq_true rfl) rfl (fun g hM => ?_)
    have h0 := (hM.frm 0 (by decide)).trans h0
    have hout := (hM.frm 74 (by decide)).trans hout
    have hI := hI.to (fun j a c => hM.frm j (by omega))
    have hM := hM.rb
    refine ez_iload (q := 175) dL_law_173 rfl rfl ?_
    refine ez_icmpeq (q := 178) (tgt := 180) dL_law_175 (by decide) rfl (fun hc175 => ?_) (fun hc175 => absurd (by rfl) hc175)
    refine ez_iload (q := 182) dL_law_180 rfl rfl ?_
    refine ez_ifne (q := 185) (tgt := 197) dL_law_182 (by decide) rfl (fun hc182 => absurd rfl hc182) (fun hc182 => ?_)
    refine ez_aload_n (q := 186) 3 dL_law_185 rfl rfl rfl ?_
    refine ez_iconst (v := nI 0) (q := 187) dL_law_186 (by decide) rfl ?_
    refine ez_lald (q := 188) dL_law_187 hout rfl (by omega) (by omega) rfl ?_
    refine ez_iload (q := 190) dL_law_188 rfl rfl ?_
    refine ez_i2l (q := 191) dL_law_190 rfl ?_
    refine ez_lcmp (q := 192) dL_law_191 rfl ?_
    refine ez_top (lg_eq (hv'.trans (by rw [aW, if_pos hc]))) ?_
    refine ez_ifeq (q := 195) (tgt := 197) dL_law_192 (by decide) rfl (fun hc192 => ?_) (fun hc192 => absurd rfl hc192)
    refine ez_goto (q := 1378) dL_law_197 (by decide) ?_
    exact E.fg (K _ _ hm ⟨_, _, _, _, _, _, _, _, _, _, h0, hI, ok_addWorld ho hc, hs, push_all hk (show OKA (n', f, L, T, ln, sg) from ⟨ho, hs⟩) hz9, ⟨_, hout⟩, _, _, _, _, _, _, ⟨_, _, _, _, _, _, _, _, _, _, _, _, hM⟩, hz', hvv', push_two hk (show ZA z (n', f, L, T, ln, sg) from hz) hzz, hb⟩) ⟨Or.inr rfl, Or.inr rfl, Or.inr rfl, Or.inr rfl, Or.inr rfl, Or.inl rfl, Or.inl rfl, Or.inl rfl, Or.inl rfl, trivial⟩
  · refine ez_aload_n (q := 145) 1 dL_law_144 rfl rfl rfl ?_
    refine ez_aload_n (q := 146) 0 dL_law_145 rfl rfl rfl ?_
    refine ez_iload (q := 148) dL_law_146 rfl rfl ?_
    refine ez_iconst (v := nI 1) (q := 149) dL_law_148 (by decide) rfl ?_
    refine ez_iaddN (q := 150) dL_law_149 rfl ?_
    refine ez_iald (q := 151) dL_law_150 h0 rfl (by omega) (by omega) rfl ?_
    refine ez_aload_n (q := 152) 3 dL_law_151 rfl rfl rfl ?_
    refine cPK1 (mc := mc) (ms := ms) hc (q := 155) dL_law_152 ck_L_77 (c_L_addWorld (d := 5) ⟨hI, fun _ _ => rfl⟩ ho hs hout) rfl rfl rfl (Nat.le_of_ble_eq_true rfl) rfl (fun g m hW hm => ?_)
    have h0 := (hW.2 0 (Or.inl rfl)).trans h0
    have hout := (hW.2 74 (Or.inr (by decide))).trans hout
    have hM := hM.to (fun j a c => hW.2 j (Or.inr a))
    have hI := hW.1
    refine ez_istore_5 (q := 157) dL_law_155 (by decide) rfl rfl ?_
    refine ez_aload_n (q := 158) 2 dL_law_157 rfl rfl rfl ?_
    refine ez_aload_n (q := 159) 0 dL_law_158 rfl rfl rfl ?_
    refine ez_iload (q := 161) dL_law_159 rfl rfl ?_
    refine ez_iconst (v := nI 1) (q := 162) dL_law_161 (by decide) rfl ?_
    refine ez_iaddN (q := 163) dL_law_162 rfl ?_
    refine ez_iald (q := 164) dL_law_163 h0 rfl (by omega) (by omega) rfl ?_
    refine cXv (q := 167) dL_law_164 ck_L_82 hM.1 (t_X8_addWorld (d := 8) hM.rb hz ho hk hv) rfl ⟨by decide, rfl⟩ rfl rfl rfl (Nat.le_of_ble_eq_true rfl) rfl (fun g hW8 => ?_)
    obtain ⟨r', se', ro', le', de', wa', ww', rw', rm', sp', fm', ff', hM⟩ := hW8.2 hc
    have h0 := (hM.frm 0 (by decide)).trans h0
    have hout := (hM.frm 74 (by decide)).trans hout
    have hI := hI.to (fun j a c => hM.frm j (by omega))
    have hM := hM.rb
    refine ez_istore_6 (q := 169) dL_law_167 (by decide) rfl rfl ?_
    refine ez_aload_n (q := 170) 2 dL_law_169 rfl rfl rfl ?_
    refine cMv (q := 173) dL_law_170 ck_L_83 hM (t_X8_thrown hM.rb) rfl rfl rfl rfl rfl (Nat.le_of_ble_eq_true rfl) rfl (fun g hM => ?_)
    have h0 := (hM.frm 0 (by decide)).trans h0
    have hout := (hM.frm 74 (by decide)).trans hout
    have hI := hI.to (fun j a c => hM.frm j (by omega))
    have hM := hM.rb
    refine ez_iload (q := 175) dL_law_173 rfl rfl ?_
    refine ez_icmpeq (q := 178) (tgt := 180) dL_law_175 (by decide) rfl (fun hc175 => ?_) (fun hc175 => absurd (by rfl) hc175)
    refine ez_iload (q := 182) dL_law_180 rfl rfl ?_
    refine ez_ifne (q := 185) (tgt := 197) dL_law_182 (by decide) rfl (fun hc182 => ?_) (fun hc182 => absurd hc182 (nI_ne0 (Nat.pos_of_ne_zero hc) (by omega)))
    refine ez_goto (q := 1378) dL_law_197 (by decide) ?_
    exact E.fg (K _ _ hm ⟨_, _, _, _, _, _, _, _, _, _, h0, hI, ho, hs, hz9, ⟨_, hout⟩, _, _, _, _, _, _, ⟨_, _, _, _, _, _, _, _, _, _, _, _, hM⟩, hz, hv, hzz, hb⟩) ⟨Or.inr rfl, Or.inr rfl, Or.inr rfl, Or.inr rfl, Or.inr rfl, Or.inl rfl, Or.inl rfl, Or.inl rfl, Or.inl rfl, trivial⟩

set_option maxHeartbeats 800000 in
set_option maxRecDepth 100000 in
theorem op_undo {G : ez_G} {N i n mc ms : Nat} {sc : Nat → Int32} {h : ez_H} {Q : ez_Q} (hN : N ≤ 2048) (hi : i + 4 ≤ N) (hL : LI N sc h) (K : ∀ g m, n ≤ m → LI N sc g → E G mL_law 14 Q g m mc ms 1378 [some (.ref 0), some (.ref 1), some (.ref 64), some (.ref 74), some (.int (nI i)), none, none, none, none] []) : E G mL_law 14 Q h n (3 + mc) (18 + ms) 711 [some (.ref 0), some (.ref 1), some (.ref 64), some (.ref 74), some (.int (nI i)), none, none, none, none] [] := by
  obtain ⟨n', f, L, T, ln, sg, k, zs, t, b, h0, hI, ho, hs, hz9, ⟨o, hout⟩, th, z, sv, bf, ha, zr, ⟨r, se, ro, le, de, wa, ww, rw, rm, sp, fm, ff, hM⟩, hz, hv, hzz, hb⟩ := hL
  have hk : k ≤ 6 := hI.2.2.1.elim (fun o ho => ho.2.2.1)
  have hcd : (cdU k) ≤ 2 := by
    unfold cdU
    repeat' split
    all_goals decide
  by_cases hc : (cdU k) = 0
  · have hk0 : ¬ k = 0 := fun e => by
      rw [e] at hc
      exact absurd hc (by decide)
    refine ez_aload_n (q := 712) 1 dL_law_711 rfl rfl rfl ?_
    refine ez_aload_n (q := 713) 3 dL_law_712 rfl rfl rfl ?_
    refine cPK0 (mc := mc) (ms := ms) hc (q := 716) dL_law_713 ck_L_123 (c_L_undo (d := 5) ⟨hI, fun _ _ => rfl⟩ ho hs hz9 hout) rfl rfl rfl (Nat.le_of_ble_eq_true rfl) rfl (fun g g0 o' m hW hg hout hv' hm => ?_)
    have h0 := (hg 0 (by decide)).trans ((hW.2 0 (Or.inl rfl)).trans h0)
    have hM := hM.to (fun j a c => (hg j (by omega)).trans (hW.2 j (Or.inr a)))
    have hI := hW.1.to (fun j a c => hg j (by omega))
    refine ez_istore_5 (q := 718) dL_law_716 (by decide) rfl rfl ?_
    refine ez_aload_n (q := 719) 2 dL_law_718 rfl rfl rfl ?_
    refine cXv (q := 722) dL_law_719 ck_L_126 hM.1 (t_X8_undo (d := 13) hM.rb hk hv) rfl ⟨by decide, rfl⟩ rfl rfl rfl (Nat.le_of_ble_eq_true rfl) rfl (fun g hW8 => ?_)
    obtain ⟨z', ⟨r', se', ro', le', de', wa', ww', rw', rm', sp', fm', ff', hM⟩, he'⟩ := hW8.1 hc
    have h0 := (hM.frm 0 (by decide)).trans h0
    have hout := (hM.frm 74 (by decide)).trans hout
    have hI := hI.to (fun j a c => hM.frm j (by omega))
    have hM := hM.rb
    refine ez_istore_6 (q := 724) dL_law_722 (by decide) rfl rfl ?_
    refine ez_aload_n (q := 725) 2 dL_law_724 rfl rfl rfl ?_
    refine cMv (q := 728) dL_law_725 ck_L_83 hM (t_X8_thrown hM.rb) rfl rfl rfl rfl rfl (Nat.le_of_ble_eq_true rfl) rfl (fun g hM => ?_)
    have h0 := (hM.frm 0 (by decide)).trans h0
    have hout := (hM.frm 74 (by decide)).trans hout
    have hI := hI.to (fun j a c => hM.frm j (by omega))
    have hM := hM.rb
    refine ez_iload (q := 730) dL_law_728 rfl rfl ?_
    refine ez_icmpeq (q := 733) (tgt := 735) dL_law_730 (by decide) rfl (fun hc730 => ?_) (fun hc730 => absurd (by rfl) hc730)
    refine ez_iload (q := 737) dL_law_735 rfl rfl ?_
    refine ez_ifne (q := 740) (tgt := 752) dL_law_737 (by decide) rfl (fun hc737 => absurd rfl hc737) (fun hc737 => ?_)
    refine ez_aload_n (q := 741) 3 dL_law_740 rfl rfl rfl ?_
    refine ez_iconst (v := nI 0) (q := 742) dL_law_741 (by decide) rfl ?_
    refine ez_lald (q := 743) dL_law_742 hout rfl (by omega) (by omega) rfl ?_
    refine ez_iload (q := 745) dL_law_743 rfl rfl ?_
    refine ez_i2l (q := 746) dL_law_745 rfl ?_
    refine ez_lcmp (q := 747) dL_law_746 rfl ?_
    refine ez_top (lg_eq (hv'.trans (by rw [aW, if_pos hc]))) ?_
    refine ez_ifeq (q := 750) (tgt := 752) dL_law_747 (by decide) rfl (fun hc747 => ?_) (fun hc747 => absurd rfl hc747)
    refine ez_goto (q := 1378) dL_law_752 (by decide) ?_
    exact E.fg (K _ _ hm ⟨_, _, _, _, _, _, _, _, _, _, h0, hI, (hz9 (k - 1) (by omega)).1, (hz9 (k - 1) (by omega)).2, fun i hi => hz9 i (by omega), ⟨_, hout⟩, _, _, _, _, _, _, ⟨_, _, _, _, _, _, _, _, _, _, _, _, hM⟩, ZA.congr (hzz (k - 1) (by omega)) (hz9 (k - 1) (by omega)) he', fun i hi => hv i (by omega), fun i hi => hzz i (by omega), hb⟩) ⟨Or.inr rfl, Or.inr rfl, Or.inr rfl, Or.inr rfl, Or.inr rfl, Or.inl rfl, Or.inl rfl, Or.inl rfl, Or.inl rfl, trivial⟩
  · refine ez_aload_n (q := 712) 1 dL_law_711 rfl rfl rfl ?_
    refine ez_aload_n (q := 713) 3 dL_law_712 rfl rfl rfl ?_
    refine cPK1 (mc := mc) (ms := ms) hc (q := 716) dL_law_713 ck_L_123 (c_L_undo (d := 5) ⟨hI, fun _ _ => rfl⟩ ho hs hz9 hout) rfl rfl rfl (Nat.le_of_ble_eq_true rfl) rfl (fun g m hW hm => ?_)
    have h0 := (hW.2 0 (Or.inl rfl)).trans h0
    have hout := (hW.2 74 (Or.inr (by decide))).trans hout
    have hM := hM.to (fun j a c => hW.2 j (Or.inr a))
    have hI := hW.1
    refine ez_istore_5 (q := 718) dL_law_716 (by decide) rfl rfl ?_
    refine ez_aload_n (q := 719) 2 dL_law_718 rfl rfl rfl ?_
    refine cXv (q := 722) dL_law_719 ck_L_126 hM.1 (t_X8_undo (d := 13) hM.rb hk hv) rfl ⟨by decide, rfl⟩ rfl rfl rfl (Nat.le_of_ble_eq_true rfl) rfl (fun g hW8 => ?_)
    obtain ⟨r', se', ro', le', de', wa', ww', rw', rm', sp', fm', ff', hM⟩ := hW8.2 hc
    have h0 := (hM.frm 0 (by decide)).trans h0
    have hout := (hM.frm 74 (by decide)).trans hout
    have hI := hI.to (fun j a c => hM.frm j (by omega))
    have hM := hM.rb
    refine ez_istore_6 (q := 724) dL_law_722 (by decide) rfl rfl ?_
    refine ez_aload_n (q := 725) 2 dL_law_724 rfl rfl rfl ?_
    refine cMv (q := 728) dL_law_725 ck_L_83 hM (t_X8_thrown hM.rb) rfl rfl rfl rfl rfl (Nat.le_of_ble_eq_true rfl) rfl (fun g hM => ?_)
    have h0 := (hM.frm 0 (by decide)).trans h0
    have hout := (hM.frm 74 (by decide)).trans hout
    have hI := hI.to (fun j a c => hM.frm j (by omega))
    have hM := hM.rb
    refine ez_iload (q := 730) dL_law_728 rfl rfl ?_
    refine ez_icmpeq (q := 733) (tgt := 735) dL_law_730 (by decide) rfl (fun hc730 => ?_) (fun hc730 => absurd (by rfl) hc730)
    refine ez_iload (q := 737) dL_law_735 rfl rfl ?_
    refine ez_ifne (q := 740) (tgt := 752) dL_law_737 (by decide) rfl (fun hc737 => ?_) (fun hc737 => absurd hc737 (nI_ne0 (Nat.pos_of_ne_zero hc) (by omega)))
    refine ez_goto (q := 1378) dL_law_752 (by decide) ?_
    exact E.fg (K _ _ hm ⟨_, _, _, _, _, _, _, _, _, _, h0, hI, ho, hs, hz9, ⟨_, hout⟩, _, _, _, _, _, _, ⟨_, _, _, _, _, _, _, _, _, _, _, _, hM⟩, hz, hv, hzz, hb⟩) ⟨Or.inr rfl, Or.inr rfl, Or.inr rfl, Or.inr rfl, Or.inr rfl, Or.inl rfl, Or.inl rfl, Or.inl rfl, Or.inl rfl, trivial⟩
