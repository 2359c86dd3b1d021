set_option maxHeartbeats 800000 in
set_option maxRecDepth 100000 in
theorem op_addWorld {G : ez_G} {nm : String} {hh : List (Nat × Nat × Nat × Nat)} {N i n mc ms : Nat} {sc : Nat → Int32} {h : ez_H} {Q : ez_Q} (hN : N ≤ 2048) (hi : i + 4 ≤ N) (hG : ez_N G = N ∧ ez_sc G = sc) (hL : LI h) (K : ∀ g m, n ≤ m → LI g → E G (mLw nm hh) 14 Q g m mc ms 1378 [some (.ref 0), some (.ref 1), some (.ref 64), some (.ref 74), some (.int (nI i)), none, none, none, none] []) : E G (mLw nm hh) 14 Q h n (3 + mc) (18 + ms) 144 [some (.ref 0), some (.ref 1), some (.ref 64), some (.ref 74), some (.int (nI i)), none, none, none, none] [] := by
  obtain ⟨n', f, L, T, ln, sg, k, zs, t, b, hI, ho, hs, hz9, ⟨o, hout⟩, th, z, sv, bf, ha, zr, ⟨r, se, ro, le, de, wa, ww, rw, rm, sp, fm, ff, hM⟩, hz, hv, hzz, hb⟩ := hL
  have hk : k ≤ 6 := hI.2.2.1.elim (fun o ho => ho.2.2.1)
  have hcd : (cdA n' (sc (i + 1))) ≤ 2 := by
    unfold cdA
    repeat' split
    all_goals decide
  by_cases hc : (cdA n' (sc (i + 1))) = 0
  · refine ez_aload_n (q := 145) 1 dL_law_144 rfl rfl rfl ?_
    refine ez_aload_n (q := 146) 0 dL_law_145 rfl rfl rfl ?_
    refine ez_iload (q := 148) dL_law_146 rfl rfl ?_
    refine ez_iconst (v := nI 1) (q := 149) dL_law_148 (by decide) rfl ?_
    refine ez_iaddN (q := 150) dL_law_149 rfl ?_
    refine ez_sald (q := 151) dL_law_150 hG rfl (by omega) (by omega) rfl ?_
    refine ez_aload_n (q := 152) 3 dL_law_151 rfl rfl rfl ?_
    refine cPK0 (mc := mc) (ms := ms) hc (q := 155) dL_law_152 ck_L_77 (c_L_addWorld (d := 5) ⟨hI, fun _ _ => rfl⟩ ho hs hout) rfl rfl rfl (Nat.le_of_ble_eq_true rfl) rfl (fun g g0 o' m hW hg hout hv' hm => ?_)
    have hM := hM.to (fun j a c => (hg j (by omega)).trans (hW.2 j (Or.inr a)))
    have hI := hW.1.to (fun j a c => hg j (by omega))
    refine ez_istore_5 (q := 157) dL_law_155 (Nat.le_of_ble_eq_true rfl) rfl rfl ?_
    refine ez_aload_n (q := 158) 2 dL_law_157 rfl rfl rfl ?_
    refine ez_aload_n (q := 159) 0 dL_law_158 rfl rfl rfl ?_
    refine ez_iload (q := 161) dL_law_159 rfl rfl ?_
    refine ez_iconst (v := nI 1) (q := 162) dL_law_161 (by decide) rfl ?_
    refine ez_iaddN (q := 163) dL_law_162 rfl ?_
    refine ez_sald (q := 164) dL_law_163 hG rfl (by omega) (by omega) rfl ?_
    refine cXv (q := 167) dL_law_164 ck_L_82 hM.1 (t_X8_addWorld (d := 8) hM.rb hz ho hk hv) rfl ⟨by decide, rfl⟩ rfl rfl rfl (Nat.le_of_ble_eq_true rfl) rfl (fun g hW8 => ?_)
    obtain ⟨z', sv', ⟨r', se', ro', le', de', wa', ww', rw', rm', sp', fm', ff', hM⟩, hz', hvv'⟩ := hW8.1 hc
    have hout := (hM.frm 74 (by decide)).trans hout
    have hI := hI.to (fun j a c => hM.frm j (by omega))
    have hM := hM.rb
    refine ez_istore_6 (q := 169) dL_law_167 (Nat.le_of_ble_eq_true rfl) rfl rfl ?_
    refine ez_aload_n (q := 170) 2 dL_law_169 rfl rfl rfl ?_
    refine cMv (q := 173) dL_law_170 ck_L_83 hM (t_X8_thrown hM.rb) rfl rfl rfl rfl rfl (Nat.le_of_ble_eq_true rfl) rfl (fun g hM => ?_)
    have hout := (hM.frm 74 (by decide)).trans hout
    have hI := hI.to (fun j a c => hM.frm j (by omega))
    have hM := hM.rb
    refine ez_iload (q := 175) dL_law_173 rfl rfl ?_
    refine ez_icmpeq (q := 178) (tgt := 180) dL_law_175 (by decide) rfl (fun hc175 => ?_) (fun hc175 => absurd (by rfl) hc175)
    refine ez_iload (q := 182) dL_law_180 rfl rfl ?_
    refine ez_ifne (q := 185) (tgt := 197) dL_law_182 (by decide) rfl (fun hc182 => absurd rfl hc182) (fun hc182 => ?_)
    refine ez_aload_n (q := 186) 3 dL_law_185 rfl rfl rfl ?_
    refine ez_iconst (v := nI 0) (q := 187) dL_law_186 (by decide) rfl ?_
    refine ez_lald (q := 188) dL_law_187 hout rfl (by omega) (by omega) rfl ?_
    refine ez_iload (q := 190) dL_law_188 rfl rfl ?_
    refine ez_i2l (q := 191) dL_law_190 rfl ?_
    refine ez_lcmp (q := 192) dL_law_191 rfl ?_
    refine ez_top (lg_eq (hv'.trans (by rw [aW, if_pos hc]))) ?_
    refine ez_ifeq (q := 195) (tgt := 197) dL_law_192 (by decide) rfl (fun hc192 => ?_) (fun hc192 => absurd rfl hc192)
    refine ez_goto (q := 1378) dL_law_197 (by decide) ?_
    exact E.fg (K _ _ hm ⟨_, _, _, _, _, _, _, _, _, _, hI, ok_addWorld ho hc, hs, push_all hk (show OKA (n', f, L, T, ln, sg) from ⟨ho, hs⟩) hz9, ⟨_, hout⟩, _, _, _, _, _, _, ⟨_, _, _, _, _, _, _, _, _, _, _, _, hM⟩, hz', hvv', push_two hk (show ZA z (n', f, L, T, ln, sg) from hz) hzz, hb⟩) ⟨Or.inr rfl, Or.inr rfl, Or.inr rfl, Or.inr rfl, Or.inr rfl, Or.inl rfl, Or.inl rfl, Or.inl rfl, Or.inl rfl, trivial⟩
  · refine ez_aload_n (q := 145) 1 dL_law_144 rfl rfl rfl ?_
    refine ez_aload_n (q := 146) 0 dL_law_145 rfl rfl rfl ?_
    refine ez_iload (q := 148) dL_law_146 rfl rfl ?_
    refine ez_iconst (v := nI 1) (q := 149) dL_law_148 (by decide) rfl ?_
    refine ez_iaddN (q := 150) dL_law_149 rfl ?_
    refine ez_sald (q := 151) dL_law_150 hG rfl (by omega) (by omega) rfl ?_
    refine ez_aload_n (q := 152) 3 dL_law_151 rfl rfl rfl ?_
    refine cPK1 (mc := mc) (ms := ms) hc (q := 155) dL_law_152 ck_L_77 (c_L_addWorld (d := 5) ⟨hI, fun _ _ => rfl⟩ ho hs hout) rfl rfl rfl (Nat.le_of_ble_eq_true rfl) rfl (fun g m hW hm => ?_)
    have hout := (hW.2 74 (Or.inr (by decide))).trans hout
    have hM := hM.to (fun j a c => hW.2 j (Or.inr a))
    have hI := hW.1
    refine ez_istore_5 (q := 157) dL_law_155 (Nat.le_of_ble_eq_true rfl) rfl rfl ?_
    refine ez_aload_n (q := 158) 2 dL_law_157 rfl rfl rfl ?_
    refine ez_aload_n (q := 159) 0 dL_law_158 rfl rfl rfl ?_
    refine ez_iload (q := 161) dL_law_159 rfl rfl ?_
    refine ez_iconst (v := nI 1) (q := 162) dL_law_161 (by decide) rfl ?_
    refine ez_iaddN (q := 163) dL_law_162 rfl ?_
    refine ez_sald (q := 164) dL_law_163 hG rfl (by omega) (by omega) rfl ?_
    refine cXv (q := 167) dL_law_164 ck_L_82 hM.1 (t_X8_addWorld (d := 8) hM.rb hz ho hk hv) rfl ⟨by decide, rfl⟩ rfl rfl rfl (Nat.le_of_ble_eq_true rfl) rfl (fun g hW8 => ?_)
    obtain ⟨r', se', ro', le', de', wa', ww', rw', rm', sp', fm', ff', hM⟩ := hW8.2 hc
    have hout := (hM.frm 74 (by decide)).trans hout
    have hI := hI.to (fun j a c => hM.frm j (by omega))
    have hM := hM.rb
    refine ez_istore_6 (q := 169) dL_law_167 (Nat.le_of_ble_eq_true rfl) rfl rfl ?_
    refine ez_aload_n (q := 170) 2 dL_law_169 rfl rfl rfl ?_
    refine cMv (q := 173) dL_law_170 ck_L_83 hM (t_X8_thrown hM.rb) rfl rfl rfl rfl rfl (Nat.le_of_ble_eq_true rfl) rfl (fun g hM => ?_)
    have hout := (hM.frm 74 (by decide)).trans hout
    have hI := hI.to (fun j a c => hM.frm j (by omega))
    have hM := hM.rb
    refine ez_iload (q := 175) dL_law_173 rfl rfl ?_
    refine ez_icmpeq (q := 178) (tgt := 180) dL_law_175 (by decide) rfl (fun hc175 => ?_) (fun hc175 => absurd (by rfl) hc175)
    refine ez_iload (q := 182) dL_law_180 rfl rfl ?_
    refine ez_ifne (q := 185) (tgt := 197) dL_law_182 (by decide) rfl (fun hc182 => ?_) (fun hc182 => absurd hc182 (nI_ne0 (Nat.pos_of_ne_zero hc) (by omega)))
    refine ez_goto (q := 1378) dL_law_197 (by decide) ?_
    exact E.fg (K _ _ hm ⟨_, _, _, _, _, _, _, _, _, _, hI, ho, hs, hz9, ⟨_, hout⟩, _, _, _, _, _, _, ⟨_, _, _, _, _, _, _, _, _, _, _, _, hM⟩, hz, hv, hzz, hb⟩) ⟨Or.inr rfl, Or.inr rfl, Or.inr rfl, Or.inr rfl, Or.inr rfl, Or.inl rfl, Or.inl rfl, Or.inl rfl, Or.inl rfl, trivial⟩

set_option maxHeartbeats 800000 in
set_option maxRecDepth 100000 in
theorem op_removeWorld {G : ez_G} {nm : String} {hh : List (Nat × Nat × Nat × Nat)} {N i n mc ms : Nat} {sc : Nat → Int32} {h : ez_H} {Q : ez_Q} (hN : N ≤ 2048) (hi : i + 4 ≤ N) (hG : ez_N G = N ∧ ez_sc G = sc) (hL : LI h) (K : ∀ g m, n ≤ m → LI g → E G (mLw nm hh) 14 Q g m mc ms 1378 [some (.ref 0), some (.ref 1), some (.ref 64), some (.ref 74), some (.int (nI i)), none, none, none, none] []) : E G (mLw nm hh) 14 Q h n (3 + mc) (18 + ms) 200 [some (.ref 0), some (.ref 1), some (.ref 64), some (.ref 74), some (.int (nI i)), none, none, none, none] [] := by
  obtain ⟨n', f, L, T, ln, sg, k, zs, t, b, hI, ho, hs, hz9, ⟨o, hout⟩, th, z, sv, bf, ha, zr, ⟨r, se, ro, le, de, wa, ww, rw, rm, sp, fm, ff, hM⟩, hz, hv, hzz, hb⟩ := hL
  have hk : k ≤ 6 := hI.2.2.1.elim (fun o ho => ho.2.2.1)
  have hcd : (cdR n' (sc (i + 1))) ≤ 2 := by
    unfold cdR
    repeat' split
    all_goals decide
  by_cases hc : (cdR n' (sc (i + 1))) = 0
  · refine ez_aload_n (q := 201) 1 dL_law_200 rfl rfl rfl ?_
    refine ez_aload_n (q := 202) 0 dL_law_201 rfl rfl rfl ?_
    refine ez_iload (q := 204) dL_law_202 rfl rfl ?_
    refine ez_iconst (v := nI 1) (q := 205) dL_law_204 (by decide) rfl ?_
    refine ez_iaddN (q := 206) dL_law_205 rfl ?_
    refine ez_sald (q := 207) dL_law_206 hG rfl (by omega) (by omega) rfl ?_
    refine ez_aload_n (q := 208) 3 dL_law_207 rfl rfl rfl ?_
    refine cPK0 (mc := mc) (ms := ms) hc (q := 211) dL_law_208 ck_L_86 (c_L_removeWorld (d := 5) ⟨hI, fun _ _ => rfl⟩ ho hs hout) rfl rfl rfl (Nat.le_of_ble_eq_true rfl) rfl (fun g g0 o' m hW hg hout hv' hm => ?_)
    have hM := hM.to (fun j a c => (hg j (by omega)).trans (hW.2 j (Or.inr a)))
    have hI := hW.1.to (fun j a c => hg j (by omega))
    refine ez_istore_5 (q := 213) dL_law_211 (Nat.le_of_ble_eq_true rfl) rfl rfl ?_
    refine ez_aload_n (q := 214) 2 dL_law_213 rfl rfl rfl ?_
    refine ez_aload_n (q := 215) 0 dL_law_214 rfl rfl rfl ?_
    refine ez_iload (q := 217) dL_law_215 rfl rfl ?_
    refine ez_iconst (v := nI 1) (q := 218) dL_law_217 (by decide) rfl ?_
    refine ez_iaddN (q := 219) dL_law_218 rfl ?_
    refine ez_sald (q := 220) dL_law_219 hG rfl (by omega) (by omega) rfl ?_
    refine cXv (q := 223) dL_law_220 ck_L_88 hM.1 (t_X8_removeWorld (d := 8) hM.rb hz ho hk hv) rfl ⟨by decide, rfl⟩ rfl rfl rfl (Nat.le_of_ble_eq_true rfl) rfl (fun g hW8 => ?_)
    obtain ⟨z', sv', ⟨r', se', ro', le', de', wa', ww', rw', rm', sp', fm', ff', hM⟩, hz', hvv'⟩ := hW8.1 hc
    have hout := (hM.frm 74 (by decide)).trans hout
    have hI := hI.to (fun j a c => hM.frm j (by omega))
    have hM := hM.rb
    refine ez_istore_6 (q := 225) dL_law_223 (Nat.le_of_ble_eq_true rfl) rfl rfl ?_
    refine ez_aload_n (q := 226) 2 dL_law_225 rfl rfl rfl ?_
    refine cMv (q := 229) dL_law_226 ck_L_83 hM (t_X8_thrown hM.rb) rfl rfl rfl rfl rfl (Nat.le_of_ble_eq_true rfl) rfl (fun g hM => ?_)
    have hout := (hM.frm 74 (by decide)).trans hout
    have hI := hI.to (fun j a c => hM.frm j (by omega))
    have hM := hM.rb
    refine ez_iload (q := 231) dL_law_229 rfl rfl ?_
    refine ez_icmpeq (q := 234) (tgt := 236) dL_law_231 (by decide) rfl (fun hc231 => ?_) (fun hc231 => absurd (by rfl) hc231)
    refine ez_iload (q := 238) dL_law_236 rfl rfl ?_
    refine ez_ifne (q := 241) (tgt := 253) dL_law_238 (by decide) rfl (fun hc238 => absurd rfl hc238) (fun hc238 => ?_)
    refine ez_aload_n (q := 242) 3 dL_law_241 rfl rfl rfl ?_
    refine ez_iconst (v := nI 0) (q := 243) dL_law_242 (by decide) rfl ?_
    refine ez_lald (q := 244) dL_law_243 hout rfl (by omega) (by omega) rfl ?_
    refine ez_iload (q := 246) dL_law_244 rfl rfl ?_
    refine ez_i2l (q := 247) dL_law_246 rfl ?_
    refine ez_lcmp (q := 248) dL_law_247 rfl ?_
    refine ez_top (lg_eq (hv'.trans (by rw [aW, if_pos hc]))) ?_
    refine ez_ifeq (q := 251) (tgt := 253) dL_law_248 (by decide) rfl (fun hc248 => ?_) (fun hc248 => absurd rfl hc248)
    refine ez_goto (q := 1378) dL_law_253 (by decide) ?_
    exact E.fg (K _ _ hm ⟨_, _, _, _, _, _, _, _, _, _, hI, ok_removeWorld ho hc, hs, push_all hk (show OKA (n', f, L, T, ln, sg) from ⟨ho, hs⟩) hz9, ⟨_, hout⟩, _, _, _, _, _, _, ⟨_, _, _, _, _, _, _, _, _, _, _, _, hM⟩, hz', hvv', push_two hk (show ZA z (n', f, L, T, ln, sg) from hz) hzz, hb⟩) ⟨Or.inr rfl, Or.inr rfl, Or.inr rfl, Or.inr rfl, Or.inr rfl, Or.inl rfl, Or.inl rfl, Or.inl rfl, Or.inl rfl, trivial⟩
  · refine ez_aload_n (q := 201) 1 dL_law_200 rfl rfl rfl ?_
    refine ez_aload_n (q := 202) 0 dL_law_201 rfl rfl rfl ?_
    refine ez_iload (q := 204) dL_law_202 rfl rfl ?_
    refine ez_iconst (v := nI 1) (q := 205) dL_law_204 (by decide) rfl ?_
    refine ez_iaddN (q := 206) dL_law_205 rfl ?_
    refine ez_sald (q := 207) dL_law_206 hG rfl (by omega) (by omega) rfl ?_
    refine ez_aload_n (q := 208) 3 dL_law_207 rfl rfl rfl ?_
    refine cPK1 (mc := mc) (ms := ms) hc (q := 211) dL_law_208 ck_L_86 (c_L_removeWorld (d := 5) ⟨hI, fun _ _ => rfl⟩ ho hs hout) rfl rfl rfl (Nat.le_of_ble_eq_true rfl) rfl (fun g m hW hm => ?_)
    have hout := (hW.2 74 (Or.inr (by decide))).trans hout
    have hM := hM.to (fun j a c => hW.2 j (Or.inr a))
    have hI := hW.1
    refine ez_istore_5 (q := 213) dL_law_211 (Nat.le_of_ble_eq_true rfl) rfl rfl ?_
    refine ez_aload_n (q := 214) 2 dL_law_213 rfl rfl rfl ?_
    refine ez_aload_n (q := 215) 0 dL_law_214 rfl rfl rfl ?_
    refine ez_iload (q := 217) dL_law_215 rfl rfl ?_
    refine ez_iconst (v := nI 1) (q := 218) dL_law_217 (by decide) rfl ?_
    refine ez_iaddN (q := 219) dL_law_218 rfl ?_
    refine ez_sald (q := 220) dL_law_219 hG rfl (by omega) (by omega) rfl ?_
    refine cXv (q := 223) dL_law_220 ck_L_88 hM.1 (t_X8_removeWorld (d := 8) hM.rb hz ho hk hv) rfl ⟨by decide, rfl⟩ rfl rfl rfl (Nat.le_of_ble_eq_true rfl) rfl (fun g hW8 => ?_)
    obtain ⟨r', se', ro', le', de', wa', ww', rw', rm', sp', fm', ff', hM⟩ := hW8.2 hc
    have hout := (hM.frm 74 (by decide)).trans hout
    have hI := hI.to (fun j a c => hM.frm j (by omega))
    have hM := hM.rb
    refine ez_istore_6 (q := 225) dL_law_223 (Nat.le_of_ble_eq_true rfl) rfl rfl ?_
    refine ez_aload_n (q := 226) 2 dL_law_225 rfl rfl rfl ?_
    refine cMv (q := 229) dL_law_226 ck_L_83 hM (t_X8_thrown hM.rb) rfl rfl rfl rfl rfl (Nat.le_of_ble_eq_true rfl) rfl (fun g hM => ?_)
    have hout := (hM.frm 74 (by decide)).trans hout
    have hI := hI.to (fun j a c => hM.frm j (by omega))
    have hM := hM.rb
    refine ez_iload (q := 231) dL_law_229 rfl rfl ?_
    refine ez_icmpeq (q := 234) (tgt := 236) dL_law_231 (by decide) rfl (fun hc231 => ?_) (fun hc231 => absurd (by rfl) hc231)
    refine ez_iload (q := 238) dL_law_236 rfl rfl ?_
    refine ez_ifne (q := 241) (tgt := 253) dL_law_238 (by decide) rfl (fun hc238 => ?_) (fun hc238 => absurd hc238 (nI_ne0 (Nat.pos_of_ne_zero hc) (by omega)))
    refine ez_goto (q := 1378) dL_law_253 (by decide) ?_
    exact E.fg (K _ _ hm ⟨_, _, _, _, _, _, _, _, _, _, hI, ho, hs, hz9, ⟨_, hout⟩, _, _, _, _, _, _, ⟨_, _, _, _, _, _, _, _, _, _, _, _, hM⟩, hz, hv, hzz, hb⟩) ⟨Or.inr rfl, Or.inr rfl, Or.inr rfl, Or.inr rfl, Or.inr rfl, Or.inl rfl, Or.inl rfl, Or.inl rfl, Or.inl rfl, trivial⟩

set_option maxHeartbeats 800000 in
set_option maxRecDepth 100000 in
theorem op_step {G : ez_G} {nm : String} {hh : List (Nat × Nat × Nat × Nat)} {N i n mc ms : Nat} {sc : Nat → Int32} {h : ez_H} {Q : ez_Q} (hN : N ≤ 2048) (hi : i + 4 ≤ N) (hG : ez_N G = N ∧ ez_sc G = sc) (hL : LI h) (K : ∀ g m, n ≤ m → LI g → E G (mLw nm hh) 14 Q g m mc ms 1378 [some (.ref 0), some (.ref 1), some (.ref 64), some (.ref 74), some (.int (nI i)), none, none, none, none] []) : E G (mLw nm hh) 14 Q h n (3 + mc) (18 + ms) 256 [some (.ref 0), some (.ref 1), some (.ref 64), some (.ref 74), some (.int (nI i)), none, none, none, none] [] := by
  obtain ⟨n', f, L, T, ln, sg, k, zs, t, b, hI, ho, hs, hz9, ⟨o, hout⟩, th, z, sv, bf, ha, zr, ⟨r, se, ro, le, de, wa, ww, rw, rm, sp, fm, ff, hM⟩, hz, hv, hzz, hb⟩ := hL
  have hk : k ≤ 6 := hI.2.2.1.elim (fun o ho => ho.2.2.1)
  have hcd : (cdP n' (sc (i + 1)) (sc (i + 2))) ≤ 2 := by
    unfold cdP
    repeat' split
    all_goals decide
  by_cases hc : (cdP n' (sc (i + 1)) (sc (i + 2))) = 0
  · refine ez_aload_n (q := 257) 1 dL_law_256 rfl rfl rfl ?_
    refine ez_aload_n (q := 258) 0 dL_law_257 rfl rfl rfl ?_
    refine ez_iload (q := 260) dL_law_258 rfl rfl ?_
    refine ez_iconst (v := nI 1) (q := 261) dL_law_260 (by decide) rfl ?_
    refine ez_iaddN (q := 262) dL_law_261 rfl ?_
    refine ez_sald (q := 263) dL_law_262 hG rfl (by omega) (by omega) rfl ?_
    refine ez_aload_n (q := 264) 0 dL_law_263 rfl rfl rfl ?_
    refine ez_iload (q := 266) dL_law_264 rfl rfl ?_
    refine ez_iconst (v := nI 2) (q := 267) dL_law_266 (by decide) rfl ?_
    refine ez_iaddN (q := 268) dL_law_267 rfl ?_
    refine ez_sald (q := 269) dL_law_268 hG rfl (by omega) (by omega) rfl ?_
    refine ez_aload_n (q := 270) 3 dL_law_269 rfl rfl rfl ?_
    refine cPK0 (mc := mc) (ms := ms) hc (q := 273) dL_law_270 ck_L_89 (c_L_step (d := 5) ⟨hI, fun _ _ => rfl⟩ ho hs hout) rfl rfl rfl (Nat.le_of_ble_eq_true rfl) rfl (fun g g0 o' m hW hg hout hv' hm => ?_)
    have hM := hM.to (fun j a c => (hg j (by omega)).trans (hW.2 j (Or.inr a)))
    have hI := hW.1.to (fun j a c => hg j (by omega))
    refine ez_istore_5 (q := 275) dL_law_273 (Nat.le_of_ble_eq_true rfl) rfl rfl ?_
    refine ez_aload_n (q := 276) 2 dL_law_275 rfl rfl rfl ?_
    refine ez_aload_n (q := 277) 0 dL_law_276 rfl rfl rfl ?_
    refine ez_iload (q := 279) dL_law_277 rfl rfl ?_
    refine ez_iconst (v := nI 1) (q := 280) dL_law_279 (by decide) rfl ?_
    refine ez_iaddN (q := 281) dL_law_280 rfl ?_
    refine ez_sald (q := 282) dL_law_281 hG rfl (by omega) (by omega) rfl ?_
    refine ez_aload_n (q := 283) 0 dL_law_282 rfl rfl rfl ?_
    refine ez_iload (q := 285) dL_law_283 rfl rfl ?_
    refine ez_iconst (v := nI 2) (q := 286) dL_law_285 (by decide) rfl ?_
    refine ez_iaddN (q := 287) dL_law_286 rfl ?_
    refine ez_sald (q := 288) dL_law_287 hG rfl (by omega) (by omega) rfl ?_
    refine cXv (q := 291) dL_law_288 ck_L_92 hM.1 (t_X8_step (d := 8) hM.rb hz ho hk hv) rfl ⟨by decide, rfl⟩ rfl rfl rfl (Nat.le_of_ble_eq_true rfl) rfl (fun g hW8 => ?_)
    obtain ⟨z', sv', ⟨r', se', ro', le', de', wa', ww', rw', rm', sp', fm', ff', hM⟩, hz', hvv'⟩ := hW8.1 hc
    have hout := (hM.frm 74 (by decide)).trans hout
    have hI := hI.to (fun j a c => hM.frm j (by omega))
    have hM := hM.rb
    refine ez_istore_6 (q := 293) dL_law_291 (Nat.le_of_ble_eq_true rfl) rfl rfl ?_
    refine ez_aload_n (q := 294) 2 dL_law_293 rfl rfl rfl ?_
    refine cMv (q := 297) dL_law_294 ck_L_83 hM (t_X8_thrown hM.rb) rfl rfl rfl rfl rfl (Nat.le_of_ble_eq_true rfl) rfl (fun g hM => ?_)
    have hout := (hM.frm 74 (by decide)).trans hout
    have hI := hI.to (fun j a c => hM.frm j (by omega))
    have hM := hM.rb
    refine ez_iload (q := 299) dL_law_297 rfl rfl ?_
    refine ez_icmpeq (q := 302) (tgt := 304) dL_law_299 (by decide) rfl (fun hc299 => ?_) (fun hc299 => absurd (by rfl) hc299)
    refine ez_iload (q := 306) dL_law_304 rfl rfl ?_
    refine ez_ifne (q := 309) (tgt := 321) dL_law_306 (by decide) rfl (fun hc306 => absurd rfl hc306) (fun hc306 => ?_)
    refine ez_aload_n (q := 310) 3 dL_law_309 rfl rfl rfl ?_
    refine ez_iconst (v := nI 0) (q := 311) dL_law_310 (by decide) rfl ?_
    refine ez_lald (q := 312) dL_law_311 hout rfl (by omega) (by omega) rfl ?_
    refine ez_iload (q := 314) dL_law_312 rfl rfl ?_
    refine ez_i2l (q := 315) dL_law_314 rfl ?_
    refine ez_lcmp (q := 316) dL_law_315 rfl ?_
    refine ez_top (lg_eq (hv'.trans (by rw [aW, if_pos hc]))) ?_
    refine ez_ifeq (q := 319) (tgt := 321) dL_law_316 (by decide) rfl (fun hc316 => ?_) (fun hc316 => absurd rfl hc316)
    refine ez_goto (q := 1378) dL_law_321 (by decide) ?_
    exact E.fg (K _ _ hm ⟨_, _, _, _, _, _, _, _, _, _, hI, ok_step ho hc, hs, push_all hk (show OKA (n', f, L, T, ln, sg) from ⟨ho, hs⟩) hz9, ⟨_, hout⟩, _, _, _, _, _, _, ⟨_, _, _, _, _, _, _, _, _, _, _, _, hM⟩, hz', hvv', push_two hk (show ZA z (n', f, L, T, ln, sg) from hz) hzz, hb⟩) ⟨Or.inr rfl, Or.inr rfl, Or.inr rfl, Or.inr rfl, Or.inr rfl, Or.inl rfl, Or.inl rfl, Or.inl rfl, Or.inl rfl, trivial⟩
  · refine ez_aload_n (q := 257) 1 dL_law_256 rfl rfl rfl ?_
    refine ez_aload_n (q := 258) 0 dL_law_257 rfl rfl rfl ?_
    refine ez_iload (q := 260) dL_law_258 rfl rfl ?_
    refine ez_iconst (v := nI 1) (q := 261) dL_law_260 (by decide) rfl ?_
    refine ez_iaddN (q := 262) dL_law_261 rfl ?_
    refine ez_sald (q := 263) dL_law_262 hG rfl (by omega) (by omega) rfl ?_
    refine ez_aload_n (q := 264) 0 dL_law_263 rfl rfl rfl ?_
    refine ez_iload (q := 266) dL_law_264 rfl rfl ?_
    refine ez_iconst (v := nI 2) (q := 267) dL_law_266 (by decide) rfl ?_
    refine ez_iaddN (q := 268) dL_law_267 rfl ?_
    refine ez_sald (q := 269) dL_law_268 hG rfl (by omega) (by omega) rfl ?_
    refine ez_aload_n (q := 270) 3 dL_law_269 rfl rfl rfl ?_
    refine cPK1 (mc := mc) (ms := ms) hc (q := 273) dL_law_270 ck_L_89 (c_L_step (d := 5) ⟨hI, fun _ _ => rfl⟩ ho hs hout) rfl rfl rfl (Nat.le_of_ble_eq_true rfl) rfl (fun g m hW hm => ?_)
    have hout := (hW.2 74 (Or.inr (by decide))).trans hout
    have hM := hM.to (fun j a c => hW.2 j (Or.inr a))
    have hI := hW.1
    refine ez_istore_5 (q := 275) dL_law_273 (Nat.le_of_ble_eq_true rfl) rfl rfl ?_
    refine ez_aload_n (q := 276) 2 dL_law_275 rfl rfl rfl ?_
    refine ez_aload_n (q := 277) 0 dL_law_276 rfl rfl rfl ?_
    refine ez_iload (q := 279) dL_law_277 rfl rfl ?_
    refine ez_iconst (v := nI 1) (q := 280) dL_law_279 (by decide) rfl ?_
    refine ez_iaddN (q := 281) dL_law_280 rfl ?_
    refine ez_sald (q := 282) dL_law_281 hG rfl (by omega) (by omega) rfl ?_
    refine ez_aload_n (q := 283) 0 dL_law_282 rfl rfl rfl ?_
    refine ez_iload (q := 285) dL_law_283 rfl rfl ?_
    refine ez_iconst (v := nI 2) (q := 286) dL_law_285 (by decide) rfl ?_
    refine ez_iaddN (q := 287) dL_law_286 rfl ?_
    refine ez_sald (q := 288) dL_law_287 hG rfl (by omega) (by omega) rfl ?_
    refine cXv (q := 291) dL_law_288 ck_L_92 hM.1 (t_X8_step (d := 8) hM.rb hz ho hk hv) rfl ⟨by decide, rfl⟩ rfl rfl rfl (Nat.le_of_ble_eq_true rfl) rfl (fun g hW8 => ?_)
    obtain ⟨r', se', ro', le', de', wa', ww', rw', rm', sp', fm', ff', hM⟩ := hW8.2 hc
    have hout := (hM.frm 74 (by decide)).trans hout
    have hI := hI.to (fun j a c => hM.frm j (by omega))
    have hM := hM.rb
    refine ez_istore_6 (q := 293) dL_law_291 (Nat.le_of_ble_eq_true rfl) rfl rfl ?_
    refine ez_aload_n (q := 294) 2 dL_law_293 rfl rfl rfl ?_
    refine cMv (q := 297) dL_law_294 ck_L_83 hM (t_X8_thrown hM.rb) rfl rfl rfl rfl rfl (Nat.le_of_ble_eq_true rfl) rfl (fun g hM => ?_)
    have hout := (hM.frm 74 (by decide)).trans hout
    have hI := hI.to (fun j a c => hM.frm j (by omega))
    have hM := hM.rb
    refine ez_iload (q := 299) dL_law_297 rfl rfl ?_
    refine ez_icmpeq (q := 302) (tgt := 304) dL_law_299 (by decide) rfl (fun hc299 => ?_) (fun hc299 => absurd (by rfl) hc299)
    refine ez_iload (q := 306) dL_law_304 rfl rfl ?_
    refine ez_ifne (q := 309) (tgt := 321) dL_law_306 (by decide) rfl (fun hc306 => ?_) (fun hc306 => absurd hc306 (nI_ne0 (Nat.pos_of_ne_zero hc) (by omega)))
    refine ez_goto (q := 1378) dL_law_321 (by decide) ?_
    exact E.fg (K _ _ hm ⟨_, _, _, _, _, _, _, _, _, _, hI, ho, hs, hz9, ⟨_, hout⟩, _, _, _, _, _, _, ⟨_, _, _, _, _, _, _, _, _, _, _, _, hM⟩, hz, hv, hzz, hb⟩) ⟨Or.inr rfl, Or.inr rfl, Or.inr rfl, Or.inr rfl, Or.inr rfl, Or.inl rfl, Or.inl rfl, Or.inl rfl, Or.inl rfl, trivial⟩

set_option maxHeartbeats 800000 in
set_option maxRecDepth 100000 in
theorem op_flip {G : ez_G} {nm : String} {hh : List (Nat × Nat × Nat × Nat)} {N i n mc ms : Nat} {sc : Nat → Int32} {h : ez_H} {Q : ez_Q} (hN : N ≤ 2048) (hi : i + 4 ≤ N) (hG : ez_N G = N ∧ ez_sc G = sc) (hL : LI h) (K : ∀ g m, n ≤ m → LI g → E G (mLw nm hh) 14 Q g m mc ms 1378 [some (.ref 0), some (.ref 1), some (.ref 64), some (.ref 74), some (.int (nI i)), none, none, none, none] []) : E G (mLw nm hh) 14 Q h n (3 + mc) (18 + ms) 324 [some (.ref 0), some (.ref 1), some (.ref 64), some (.ref 74), some (.int (nI i)), none, none, none, none] [] := by
  obtain ⟨n', f, L, T, ln, sg, k, zs, t, b, hI, ho, hs, hz9, ⟨o, hout⟩, th, z, sv, bf, ha, zr, ⟨r, se, ro, le, de, wa, ww, rw, rm, sp, fm, ff, hM⟩, hz, hv, hzz, hb⟩ := hL
  have hk : k ≤ 6 := hI.2.2.1.elim (fun o ho => ho.2.2.1)
  have hcd : (cdI n' (sc (i + 1)) (sc (i + 2))) ≤ 2 := by
    unfold cdI
    repeat' split
    all_goals decide
  by_cases hc : (cdI n' (sc (i + 1)) (sc (i + 2))) = 0
  · refine ez_aload_n (q := 325) 1 dL_law_324 rfl rfl rfl ?_
    refine ez_aload_n (q := 326) 0 dL_law_325 rfl rfl rfl ?_
    refine ez_iload (q := 328) dL_law_326 rfl rfl ?_
    refine ez_iconst (v := nI 1) (q := 329) dL_law_328 (by decide) rfl ?_
    refine ez_iaddN (q := 330) dL_law_329 rfl ?_
    refine ez_sald (q := 331) dL_law_330 hG rfl (by omega) (by omega) rfl ?_
    refine ez_aload_n (q := 332) 0 dL_law_331 rfl rfl rfl ?_
    refine ez_iload (q := 334) dL_law_332 rfl rfl ?_
    refine ez_iconst (v := nI 2) (q := 335) dL_law_334 (by decide) rfl ?_
    refine ez_iaddN (q := 336) dL_law_335 rfl ?_
    refine ez_sald (q := 337) dL_law_336 hG rfl (by omega) (by omega) rfl ?_
    refine ez_aload_n (q := 338) 3 dL_law_337 rfl rfl rfl ?_
    refine cPK0 (mc := mc) (ms := ms) hc (q := 341) dL_law_338 ck_L_93 (c_L_flip (d := 5) ⟨hI, fun _ _ => rfl⟩ ho hs hout) rfl rfl rfl (Nat.le_of_ble_eq_true rfl) rfl (fun g g0 o' m hW hg hout hv' hm => ?_)
    have hM := hM.to (fun j a c => (hg j (by omega)).trans (hW.2 j (Or.inr a)))
    have hI := hW.1.to (fun j a c => hg j (by omega))
    refine ez_istore_5 (q := 343) dL_law_341 (Nat.le_of_ble_eq_true rfl) rfl rfl ?_
    refine ez_aload_n (q := 344) 2 dL_law_343 rfl rfl rfl ?_
    refine ez_aload_n (q := 345) 0 dL_law_344 rfl rfl rfl ?_
    refine ez_iload (q := 347) dL_law_345 rfl rfl ?_
    refine ez_iconst (v := nI 1) (q := 348) dL_law_347 (by decide) rfl ?_
    refine ez_iaddN (q := 349) dL_law_348 rfl ?_
    refine ez_sald (q := 350) dL_law_349 hG rfl (by omega) (by omega) rfl ?_
    refine ez_aload_n (q := 351) 0 dL_law_350 rfl rfl rfl ?_
    refine ez_iload (q := 353) dL_law_351 rfl rfl ?_
    refine ez_iconst (v := nI 2) (q := 354) dL_law_353 (by decide) rfl ?_
    refine ez_iaddN (q := 355) dL_law_354 rfl ?_
    refine ez_sald (q := 356) dL_law_355 hG rfl (by omega) (by omega) rfl ?_
    refine cXv (q := 359) dL_law_356 ck_L_95 hM.1 (t_X8_flip (d := 8) hM.rb hz ho hk hv) rfl ⟨by decide, rfl⟩ rfl rfl rfl (Nat.le_of_ble_eq_true rfl) rfl (fun g hW8 => ?_)
    obtain ⟨z', sv', ⟨r', se', ro', le', de', wa', ww', rw', rm', sp', fm', ff', hM⟩, hz', hvv'⟩ := hW8.1 hc
    have hout := (hM.frm 74 (by decide)).trans hout
    have hI := hI.to (fun j a c => hM.frm j (by omega))
    have hM := hM.rb
    refine ez_istore_6 (q := 361) dL_law_359 (Nat.le_of_ble_eq_true rfl) rfl rfl ?_
    refine ez_aload_n (q := 362) 2 dL_law_361 rfl rfl rfl ?_
    refine cMv (q := 365) dL_law_362 ck_L_83 hM (t_X8_thrown hM.rb) rfl rfl rfl rfl rfl (Nat.le_of_ble_eq_true rfl) rfl (fun g hM => ?_)
    have hout := (hM.frm 74 (by decide)).trans hout
    have hI := hI.to (fun j a c => hM.frm j (by omega))
    have hM := hM.rb
    refine ez_iload (q := 367) dL_law_365 rfl rfl ?_
    refine ez_icmpeq (q := 370) (tgt := 372) dL_law_367 (by decide) rfl (fun hc367 => ?_) (fun hc367 => absurd (by rfl) hc367)
    refine ez_iload (q := 374) dL_law_372 rfl rfl ?_
    refine ez_ifne (q := 377) (tgt := 389) dL_law_374 (by decide) rfl (fun hc374 => absurd rfl hc374) (fun hc374 => ?_)
    refine ez_aload_n (q := 378) 3 dL_law_377 rfl rfl rfl ?_
    refine ez_iconst (v := nI 0) (q := 379) dL_law_378 (by decide) rfl ?_
    refine ez_lald (q := 380) dL_law_379 hout rfl (by omega) (by omega) rfl ?_
    refine ez_iload (q := 382) dL_law_380 rfl rfl ?_
    refine ez_i2l (q := 383) dL_law_382 rfl ?_
    refine ez_lcmp (q := 384) dL_law_383 rfl ?_
    refine ez_top (lg_eq (hv'.trans (by rw [aW, if_pos hc]))) ?_
    refine ez_ifeq (q := 387) (tgt := 389) dL_law_384 (by decide) rfl (fun hc384 => ?_) (fun hc384 => absurd rfl hc384)
    refine ez_goto (q := 1378) dL_law_389 (by decide) ?_
    exact E.fg (K _ _ hm ⟨_, _, _, _, _, _, _, _, _, _, hI, ok_flip ho hc, hs, push_all hk (show OKA (n', f, L, T, ln, sg) from ⟨ho, hs⟩) hz9, ⟨_, hout⟩, _, _, _, _, _, _, ⟨_, _, _, _, _, _, _, _, _, _, _, _, hM⟩, hz', hvv', push_two hk (show ZA z (n', f, L, T, ln, sg) from hz) hzz, hb⟩) ⟨Or.inr rfl, Or.inr rfl, Or.inr rfl, Or.inr rfl, Or.inr rfl, Or.inl rfl, Or.inl rfl, Or.inl rfl, Or.inl rfl, trivial⟩
  · refine ez_aload_n (q := 325) 1 dL_law_324 rfl rfl rfl ?_
    refine ez_aload_n (q := 326) 0 dL_law_325 rfl rfl rfl ?_
    refine ez_iload (q := 328) dL_law_326 rfl rfl ?_
    refine ez_iconst (v := nI 1) (q := 329) dL_law_328 (by decide) rfl ?_
    refine ez_iaddN (q := 330) dL_law_329 rfl ?_
    refine ez_sald (q := 331) dL_law_330 hG rfl (by omega) (by omega) rfl ?_
    refine ez_aload_n (q := 332) 0 dL_law_331 rfl rfl rfl ?_
    refine ez_iload (q := 334) dL_law_332 rfl rfl ?_
    refine ez_iconst (v := nI 2) (q := 335) dL_law_334 (by decide) rfl ?_
    refine ez_iaddN (q := 336) dL_law_335 rfl ?_
    refine ez_sald (q := 337) dL_law_336 hG rfl (by omega) (by omega) rfl ?_
    refine ez_aload_n (q := 338) 3 dL_law_337 rfl rfl rfl ?_
    refine cPK1 (mc := mc) (ms := ms) hc (q := 341) dL_law_338 ck_L_93 (c_L_flip (d := 5) ⟨hI, fun _ _ => rfl⟩ ho hs hout) rfl rfl rfl (Nat.le_of_ble_eq_true rfl) rfl (fun g m hW hm => ?_)
    have hout := (hW.2 74 (Or.inr (by decide))).trans hout
    have hM := hM.to (fun j a c => hW.2 j (Or.inr a))
    have hI := hW.1
    refine ez_istore_5 (q := 343) dL_law_341 (Nat.le_of_ble_eq_true rfl) rfl rfl ?_
    refine ez_aload_n (q := 344) 2 dL_law_343 rfl rfl rfl ?_
    refine ez_aload_n (q := 345) 0 dL_law_344 rfl rfl rfl ?_
    refine ez_iload (q := 347) dL_law_345 rfl rfl ?_
    refine ez_iconst (v := nI 1) (q := 348) dL_law_347 (by decide) rfl ?_
    refine ez_iaddN (q := 349) dL_law_348 rfl ?_
    refine ez_sald (q := 350) dL_law_349 hG rfl (by omega) (by omega) rfl ?_
    refine ez_aload_n (q := 351) 0 dL_law_350 rfl rfl rfl ?_
    refine ez_iload (q := 353) dL_law_351 rfl rfl ?_
    refine ez_iconst (v := nI 2) (q := 354) dL_law_353 (by decide) rfl ?_
    refine ez_iaddN (q := 355) dL_law_354 rfl ?_
    refine ez_sald (q := 356) dL_law_355 hG rfl (by omega) (by omega) rfl ?_
    refine cXv (q := 359) dL_law_356 ck_L_95 hM.1 (t_X8_flip (d := 8) hM.rb hz ho hk hv) rfl ⟨by decide, rfl⟩ rfl rfl rfl (Nat.le_of_ble_eq_true rfl) rfl (fun g hW8 => ?_)
    obtain ⟨r', se', ro', le', de', wa', ww', rw', rm', sp', fm', ff', hM⟩ := hW8.2 hc
    have hout := (hM.frm 74 (by decide)).trans hout
    have hI := hI.to (fun j a c => hM.frm j (by omega))
    have hM := hM.rb
    refine ez_istore_6 (q := 361) dL_law_359 (Nat.le_of_ble_eq_true rfl) rfl rfl ?_
    refine ez_aload_n (q := 362) 2 dL_law_361 rfl rfl rfl ?_
    refine cMv (q := 365) dL_law_362 ck_L_83 hM (t_X8_thrown hM.rb) rfl rfl rfl rfl rfl (Nat.le_of_ble_eq_true rfl) rfl (fun g hM => ?_)
    have hout := (hM.frm 74 (by decide)).trans hout
    have hI := hI.to (fun j a c => hM.frm j (by omega))
    have hM := hM.rb
    refine ez_iload (q := 367) dL_law_365 rfl rfl ?_
    refine ez_icmpeq (q := 370) (tgt := 372) dL_law_367 (by decide) rfl (fun hc367 => ?_) (fun hc367 => absurd (by rfl) hc367)
    refine ez_iload (q := 374) dL_law_372 rfl rfl ?_
    refine ez_ifne (q := 377) (tgt := 389) dL_law_374 (by decide) rfl (fun hc374 => ?_) (fun hc374 => absurd hc374 (nI_ne0 (Nat.pos_of_ne_zero hc) (by omega)))
    refine ez_goto (q := 1378) dL_law_389 (by decide) ?_
    exact E.fg (K _ _ hm ⟨_, _, _, _, _, _, _, _, _, _, hI, ho, hs, hz9, ⟨_, hout⟩, _, _, _, _, _, _, ⟨_, _, _, _, _, _, _, _, _, _, _, _, hM⟩, hz, hv, hzz, hb⟩) ⟨Or.inr rfl, Or.inr rfl, Or.inr rfl, Or.inr rfl, Or.inr rfl, Or.inl rfl, Or.inl rfl, Or.inl rfl, Or.inl rfl, trivial⟩

set_option maxHeartbeats 800000 in
set_option maxRecDepth 100000 in
theorem op_fair {G : ez_G} {nm : String} {hh : List (Nat × Nat × Nat × Nat)} {N i n mc ms : Nat} {sc : Nat → Int32} {h : ez_H} {Q : ez_Q} (hN : N ≤ 2048) (hi : i + 4 ≤ N) (hG : ez_N G = N ∧ ez_sc G = sc) (hL : LI h) (K : ∀ g m, n ≤ m → LI g → E G (mLw nm hh) 14 Q g m mc ms 1378 [some (.ref 0), some (.ref 1), some (.ref 64), some (.ref 74), some (.int (nI i)), none, none, none, none] []) : E G (mLw nm hh) 14 Q h n (3 + mc) (18 + ms) 392 [some (.ref 0), some (.ref 1), some (.ref 64), some (.ref 74), some (.int (nI i)), none, none, none, none] [] := by
  obtain ⟨n', f, L, T, ln, sg, k, zs, t, b, hI, ho, hs, hz9, ⟨o, hout⟩, th, z, sv, bf, ha, zr, ⟨r, se, ro, le, de, wa, ww, rw, rm, sp, fm, ff, hM⟩, hz, hv, hzz, hb⟩ := hL
  have hk : k ≤ 6 := hI.2.2.1.elim (fun o ho => ho.2.2.1)
  have hcd : (cdW1 (sc (i + 1))) ≤ 2 := by
    unfold cdW1
    repeat' split
    all_goals decide
  by_cases hc : (cdW1 (sc (i + 1))) = 0
  · refine ez_aload_n (q := 393) 1 dL_law_392 rfl rfl rfl ?_
    refine ez_aload_n (q := 394) 0 dL_law_393 rfl rfl rfl ?_
    refine ez_iload (q := 396) dL_law_394 rfl rfl ?_
    refine ez_iconst (v := nI 1) (q := 397) dL_law_396 (by decide) rfl ?_
    refine ez_iaddN (q := 398) dL_law_397 rfl ?_
    refine ez_sald (q := 399) dL_law_398 hG rfl (by omega) (by omega) rfl ?_
    refine ez_aload_n (q := 400) 3 dL_law_399 rfl rfl rfl ?_
    refine cPK0 (mc := mc) (ms := ms) hc (q := 403) dL_law_400 ck_L_96 (c_L_fair (d := 5) ⟨hI, fun _ _ => rfl⟩ ho hs hout) rfl rfl rfl (Nat.le_of_ble_eq_true rfl) rfl (fun g g0 o' m hW hg hout hv' hm => ?_)
    have hM := hM.to (fun j a c => (hg j (by omega)).trans (hW.2 j (Or.inr a)))
    have hI := hW.1.to (fun j a c => hg j (by omega))
    refine ez_istore_5 (q := 405) dL_law_403 (Nat.le_of_ble_eq_true rfl) rfl rfl ?_
    refine ez_aload_n (q := 406) 2 dL_law_405 rfl rfl rfl ?_
    refine ez_aload_n (q := 407) 0 dL_law_406 rfl rfl rfl ?_
    refine ez_iload (q := 409) dL_law_407 rfl rfl ?_
    refine ez_iconst (v := nI 1) (q := 410) dL_law_409 (by decide) rfl ?_
    refine ez_iaddN (q := 411) dL_law_410 rfl ?_
    refine ez_sald (q := 412) dL_law_411 hG rfl (by omega) (by omega) rfl ?_
    refine cXv (q := 415) dL_law_412 ck_L_98 hM.1 (t_X8_fair (d := 8) hM.rb hz ho hk hv) rfl ⟨by decide, rfl⟩ rfl rfl rfl (Nat.le_of_ble_eq_true rfl) rfl (fun g hW8 => ?_)
    obtain ⟨z', sv', ⟨r', se', ro', le', de', wa', ww', rw', rm', sp', fm', ff', hM⟩, hz', hvv'⟩ := hW8.1 hc
    have hout := (hM.frm 74 (by decide)).trans hout
    have hI := hI.to (fun j a c => hM.frm j (by omega))
    have hM := hM.rb
    refine ez_istore_6 (q := 417) dL_law_415 (Nat.le_of_ble_eq_true rfl) rfl rfl ?_
    refine ez_aload_n (q := 418) 2 dL_law_417 rfl rfl rfl ?_
    refine cMv (q := 421) dL_law_418 ck_L_83 hM (t_X8_thrown hM.rb) rfl rfl rfl rfl rfl (Nat.le_of_ble_eq_true rfl) rfl (fun g hM => ?_)
    have hout := (hM.frm 74 (by decide)).trans hout
    have hI := hI.to (fun j a c => hM.frm j (by omega))
    have hM := hM.rb
    refine ez_iload (q := 423) dL_law_421 rfl rfl ?_
    refine ez_icmpeq (q := 426) (tgt := 428) dL_law_423 (by decide) rfl (fun hc423 => ?_) (fun hc423 => absurd (by rfl) hc423)
    refine ez_iload (q := 430) dL_law_428 rfl rfl ?_
    refine ez_ifne (q := 433) (tgt := 445) dL_law_430 (by decide) rfl (fun hc430 => absurd rfl hc430) (fun hc430 => ?_)
    refine ez_aload_n (q := 434) 3 dL_law_433 rfl rfl rfl ?_
    refine ez_iconst (v := nI 0) (q := 435) dL_law_434 (by decide) rfl ?_
    refine ez_lald (q := 436) dL_law_435 hout rfl (by omega) (by omega) rfl ?_
    refine ez_iload (q := 438) dL_law_436 rfl rfl ?_
    refine ez_i2l (q := 439) dL_law_438 rfl ?_
    refine ez_lcmp (q := 440) dL_law_439 rfl ?_
    refine ez_top (lg_eq (hv'.trans (by rw [aW, if_pos hc]))) ?_
    refine ez_ifeq (q := 443) (tgt := 445) dL_law_440 (by decide) rfl (fun hc440 => ?_) (fun hc440 => absurd rfl hc440)
    refine ez_goto (q := 1378) dL_law_445 (by decide) ?_
    exact E.fg (K _ _ hm ⟨_, _, _, _, _, _, _, _, _, _, hI, ok_fair ho hc, hs, push_all hk (show OKA (n', f, L, T, ln, sg) from ⟨ho, hs⟩) hz9, ⟨_, hout⟩, _, _, _, _, _, _, ⟨_, _, _, _, _, _, _, _, _, _, _, _, hM⟩, hz', hvv', push_two hk (show ZA z (n', f, L, T, ln, sg) from hz) hzz, hb⟩) ⟨Or.inr rfl, Or.inr rfl, Or.inr rfl, Or.inr rfl, Or.inr rfl, Or.inl rfl, Or.inl rfl, Or.inl rfl, Or.inl rfl, trivial⟩
  · refine ez_aload_n (q := 393) 1 dL_law_392 rfl rfl rfl ?_
    refine ez_aload_n (q := 394) 0 dL_law_393 rfl rfl rfl ?_
    refine ez_iload (q := 396) dL_law_394 rfl rfl ?_
    refine ez_iconst (v := nI 1) (q := 397) dL_law_396 (by decide) rfl ?_
    refine ez_iaddN (q := 398) dL_law_397 rfl ?_
    refine ez_sald (q := 399) dL_law_398 hG rfl (by omega) (by omega) rfl ?_
    refine ez_aload_n (q := 400) 3 dL_law_399 rfl rfl rfl ?_
    refine cPK1 (mc := mc) (ms := ms) hc (q := 403) dL_law_400 ck_L_96 (c_L_fair (d := 5) ⟨hI, fun _ _ => rfl⟩ ho hs hout) rfl rfl rfl (Nat.le_of_ble_eq_true rfl) rfl (fun g m hW hm => ?_)
    have hout := (hW.2 74 (Or.inr (by decide))).trans hout
    have hM := hM.to (fun j a c => hW.2 j (Or.inr a))
    have hI := hW.1
    refine ez_istore_5 (q := 405) dL_law_403 (Nat.le_of_ble_eq_true rfl) rfl rfl ?_
    refine ez_aload_n (q := 406) 2 dL_law_405 rfl rfl rfl ?_
    refine ez_aload_n (q := 407) 0 dL_law_406 rfl rfl rfl ?_
    refine ez_iload (q := 409) dL_law_407 rfl rfl ?_
    refine ez_iconst (v := nI 1) (q := 410) dL_law_409 (by decide) rfl ?_
    refine ez_iaddN (q := 411) dL_law_410 rfl ?_
    refine ez_sald (q := 412) dL_law_411 hG rfl (by omega) (by omega) rfl ?_
    refine cXv (q := 415) dL_law_412 ck_L_98 hM.1 (t_X8_fair (d := 8) hM.rb hz ho hk hv) rfl ⟨by decide, rfl⟩ rfl rfl rfl (Nat.le_of_ble_eq_true rfl) rfl (fun g hW8 => ?_)
    obtain ⟨r', se', ro', le', de', wa', ww', rw', rm', sp', fm', ff', hM⟩ := hW8.2 hc
    have hout := (hM.frm 74 (by decide)).trans hout
    have hI := hI.to (fun j a c => hM.frm j (by omega))
    have hM := hM.rb
    refine ez_istore_6 (q := 417) dL_law_415 (Nat.le_of_ble_eq_true rfl) rfl rfl ?_
    refine ez_aload_n (q := 418) 2 dL_law_417 rfl rfl rfl ?_
    refine cMv (q := 421) dL_law_418 ck_L_83 hM (t_X8_thrown hM.rb) rfl rfl rfl rfl rfl (Nat.le_of_ble_eq_true rfl) rfl (fun g hM => ?_)
    have hout := (hM.frm 74 (by decide)).trans hout
    have hI := hI.to (fun j a c => hM.frm j (by omega))
    have hM := hM.rb
    refine ez_iload (q := 423) dL_law_421 rfl rfl ?_
    refine ez_icmpeq (q := 426) (tgt := 428) dL_law_423 (by decide) rfl (fun hc423 => ?_) (fun hc423 => absurd (by rfl) hc423)
    refine ez_iload (q := 430) dL_law_428 rfl rfl ?_
    refine ez_ifne (q := 433) (tgt := 445) dL_law_430 (by decide) rfl (fun hc430 => ?_) (fun hc430 => absurd hc430 (nI_ne0 (Nat.pos_of_ne_zero hc) (by omega)))
    refine ez_goto (q := 1378) dL_law_445 (by decide) ?_
    exact E.fg (K _ _ hm ⟨_, _, _, _, _, _, _, _, _, _, hI, ho, hs, hz9, ⟨_, hout⟩, _, _, _, _, _, _, ⟨_, _, _, _, _, _, _, _, _, _, _, _, hM⟩, hz, hv, hzz, hb⟩) ⟨Or.inr rfl, Or.inr rfl, Or.inr rfl, Or.inr rfl, Or.inr rfl, Or.inl rfl, Or.inl rfl, Or.inl rfl, Or.inl rfl, trivial⟩

set_option maxHeartbeats 800000 in
set_option maxRecDepth 100000 in
theorem op_ring {G : ez_G} {nm : String} {hh : List (Nat × Nat × Nat × Nat)} {N i n mc ms : Nat} {sc : Nat → Int32} {h : ez_H} {Q : ez_Q} (hN : N ≤ 2048) (hi : i + 4 ≤ N) (hG : ez_N G = N ∧ ez_sc G = sc) (hL : LI h) (K : ∀ g m, n ≤ m → LI g → E G (mLw nm hh) 14 Q g m mc ms 1378 [some (.ref 0), some (.ref 1), some (.ref 64), some (.ref 74), some (.int (nI i)), none, none, none, none] []) : E G (mLw nm hh) 14 Q h n (3 + mc) (18 + ms) 448 [some (.ref 0), some (.ref 1), some (.ref 64), some (.ref 74), some (.int (nI i)), none, none, none, none] [] := by
  obtain ⟨n', f, L, T, ln, sg, k, zs, t, b, hI, ho, hs, hz9, ⟨o, hout⟩, th, z, sv, bf, ha, zr, ⟨r, se, ro, le, de, wa, ww, rw, rm, sp, fm, ff, hM⟩, hz, hv, hzz, hb⟩ := hL
  have hk : k ≤ 6 := hI.2.2.1.elim (fun o ho => ho.2.2.1)
  refine ez_aload_n (q := 449) 1 dL_law_448 rfl rfl rfl ?_
  refine cPX (mc := mc) (ms := ms) (q := 452) dL_law_449 ck_L_99 hI.1 (t_X7_ring (d := 6) ⟨hI, fun _ _ => rfl⟩ ho hs) rfl ⟨by decide, rfl⟩ rfl rfl rfl (Nat.le_of_ble_eq_true rfl) rfl (fun hc => absurd hc (by decide)) (fun hc => absurd hc (by decide)) (fun _ g hW => ?_)
  have hout := (hW.2 74 (Or.inr (by decide))).trans hout
  have hM := hM.to (fun j a c => hW.2 j (Or.inr a))
  have hI := hW.1
  refine ez_aload_n (q := 453) 2 dL_law_452 rfl rfl rfl ?_
  refine cXv (q := 456) dL_law_453 ck_L_102 hM.1 (t_X8_ring (d := 8) hM.rb hz ho hk hv) rfl ⟨by decide, rfl⟩ rfl rfl rfl (Nat.le_of_ble_eq_true rfl) rfl (fun g hW8 => ?_)
  obtain ⟨z', sv', ⟨r', se', ro', le', de', wa', ww', rw', rm', sp', fm', ff', hM⟩, hz', hvv'⟩ := hW8.1 rfl
  have hout := (hM.frm 74 (by decide)).trans hout
  have hI := hI.to (fun j a c => hM.frm j (by omega))
  have hM := hM.rb
  refine ez_icmpeq (q := 459) (tgt := 1378) dL_law_456 (by decide) rfl (fun hc456 => ?_) (fun hc456 => absurd (by rfl) hc456)
  exact E.fg (K _ _ (Nat.le_refl _) ⟨_, _, _, _, _, _, _, _, _, _, hI, ho.ring _, hs, push_all hk (show OKA (n', f, L, T, ln, sg) from ⟨ho, hs⟩) hz9, ⟨_, hout⟩, _, _, _, _, _, _, ⟨_, _, _, _, _, _, _, _, _, _, _, _, hM⟩, hz', hvv', push_two hk (show ZA z (n', f, L, T, ln, sg) from hz) hzz, hb⟩) ⟨Or.inr rfl, Or.inr rfl, Or.inr rfl, Or.inr rfl, Or.inr rfl, Or.inl rfl, Or.inl rfl, Or.inl rfl, Or.inl rfl, trivial⟩

set_option maxHeartbeats 800000 in
set_option maxRecDepth 100000 in
theorem op_append {G : ez_G} {nm : String} {hh : List (Nat × Nat × Nat × Nat)} {N i n mc ms : Nat} {sc : Nat → Int32} {h : ez_H} {Q : ez_Q} (hN : N ≤ 2048) (hi : i + 4 ≤ N) (hG : ez_N G = N ∧ ez_sc G = sc) (hL : LI h) (K : ∀ g m, n ≤ m → LI g → E G (mLw nm hh) 14 Q g m mc ms 1378 [some (.ref 0), some (.ref 1), some (.ref 64), some (.ref 74), some (.int (nI i)), none, none, none, none] []) : E G (mLw nm hh) 14 Q h n (3 + mc) (18 + ms) 461 [some (.ref 0), some (.ref 1), some (.ref 64), some (.ref 74), some (.int (nI i)), none, none, none, none] [] := by
  obtain ⟨n', f, L, T, ln, sg, k, zs, t, b, hI, ho, hs, hz9, ⟨o, hout⟩, th, z, sv, bf, ha, zr, ⟨r, se, ro, le, de, wa, ww, rw, rm, sp, fm, ff, hM⟩, hz, hv, hzz, hb⟩ := hL
  have hk : k ≤ 6 := hI.2.2.1.elim (fun o ho => ho.2.2.1)
  have hcd : (cdB t (sc (i + 1))) ≤ 2 := by
    unfold cdB
    repeat' split
    all_goals decide
  by_cases hc : (cdB t (sc (i + 1))) = 0
  · refine ez_aload_n (q := 462) 1 dL_law_461 rfl rfl rfl ?_
    refine ez_aload_n (q := 463) 0 dL_law_462 rfl rfl rfl ?_
    refine ez_iload (q := 465) dL_law_463 rfl rfl ?_
    refine ez_iconst (v := nI 1) (q := 466) dL_law_465 (by decide) rfl ?_
    refine ez_iaddN (q := 467) dL_law_466 rfl ?_
    refine ez_sald (q := 468) dL_law_467 hG rfl (by omega) (by omega) rfl ?_
    refine ez_aload_n (q := 469) 3 dL_law_468 rfl rfl rfl ?_
    refine cPK0 (mc := mc) (ms := ms) hc (q := 472) dL_law_469 ck_L_103 (c_L_append (d := 5) ⟨hI, fun _ _ => rfl⟩ ho hs hout) rfl rfl rfl (Nat.le_of_ble_eq_true rfl) rfl (fun g g0 o' m hW hg hout hv' hm => ?_)
    have hM := hM.to (fun j a c => (hg j (by omega)).trans (hW.2 j (Or.inr a)))
    have hI := hW.1.to (fun j a c => hg j (by omega))
    refine ez_istore_5 (q := 474) dL_law_472 (Nat.le_of_ble_eq_true rfl) rfl rfl ?_
    refine ez_aload_n (q := 475) 2 dL_law_474 rfl rfl rfl ?_
    refine ez_aload_n (q := 476) 0 dL_law_475 rfl rfl rfl ?_
    refine ez_iload (q := 478) dL_law_476 rfl rfl ?_
    refine ez_iconst (v := nI 1) (q := 479) dL_law_478 (by decide) rfl ?_
    refine ez_iaddN (q := 480) dL_law_479 rfl ?_
    refine ez_sald (q := 481) dL_law_480 hG rfl (by omega) (by omega) rfl ?_
    refine cXv (q := 484) dL_law_481 ck_L_105 hM.1 (t_X8_append (d := 12) hM.rb hb) rfl ⟨by decide, rfl⟩ rfl rfl rfl (Nat.le_of_ble_eq_true rfl) rfl (fun g hW8 => ?_)
    obtain ⟨bf', ⟨r', se', ro', le', de', wa', ww', rw', rm', sp', fm', ff', hM⟩, hb'⟩ := hW8.1 hc
    have hout := (hM.frm 74 (by decide)).trans hout
    have hI := hI.to (fun j a c => hM.frm j (by omega))
    have hM := hM.rb
    refine ez_istore_6 (q := 486) dL_law_484 (Nat.le_of_ble_eq_true rfl) rfl rfl ?_
    refine ez_aload_n (q := 487) 2 dL_law_486 rfl rfl rfl ?_
    refine cMv (q := 490) dL_law_487 ck_L_83 hM (t_X8_thrown hM.rb) rfl rfl rfl rfl rfl (Nat.le_of_ble_eq_true rfl) rfl (fun g hM => ?_)
    have hout := (hM.frm 74 (by decide)).trans hout
    have hI := hI.to (fun j a c => hM.frm j (by omega))
    have hM := hM.rb
    refine ez_iload (q := 492) dL_law_490 rfl rfl ?_
    refine ez_icmpeq (q := 495) (tgt := 497) dL_law_492 (by decide) rfl (fun hc492 => ?_) (fun hc492 => absurd (by rfl) hc492)
    refine ez_iload (q := 499) dL_law_497 rfl rfl ?_
    refine ez_ifne (q := 502) (tgt := 514) dL_law_499 (by decide) rfl (fun hc499 => absurd rfl hc499) (fun hc499 => ?_)
    refine ez_aload_n (q := 503) 3 dL_law_502 rfl rfl rfl ?_
    refine ez_iconst (v := nI 0) (q := 504) dL_law_503 (by decide) rfl ?_
    refine ez_lald (q := 505) dL_law_504 hout rfl (by omega) (by omega) rfl ?_
    refine ez_iload (q := 507) dL_law_505 rfl rfl ?_
    refine ez_i2l (q := 508) dL_law_507 rfl ?_
    refine ez_lcmp (q := 509) dL_law_508 rfl ?_
    refine ez_top (lg_eq (hv'.trans (by rw [aW, if_pos hc]))) ?_
    refine ez_ifeq (q := 512) (tgt := 514) dL_law_509 (by decide) rfl (fun hc509 => ?_) (fun hc509 => absurd rfl hc509)
    refine ez_goto (q := 1378) dL_law_514 (by decide) ?_
    exact E.fg (K _ _ hm ⟨_, _, _, _, _, _, _, _, _, _, hI, ho, hs, hz9, ⟨_, hout⟩, _, _, _, _, _, _, ⟨_, _, _, _, _, _, _, _, _, _, _, _, hM⟩, hz, hv, hzz, hb'⟩) ⟨Or.inr rfl, Or.inr rfl, Or.inr rfl, Or.inr rfl, Or.inr rfl, Or.inl rfl, Or.inl rfl, Or.inl rfl, Or.inl rfl, trivial⟩
  · refine ez_aload_n (q := 462) 1 dL_law_461 rfl rfl rfl ?_
    refine ez_aload_n (q := 463) 0 dL_law_462 rfl rfl rfl ?_
    refine ez_iload (q := 465) dL_law_463 rfl rfl ?_
    refine ez_iconst (v := nI 1) (q := 466) dL_law_465 (by decide) rfl ?_
    refine ez_iaddN (q := 467) dL_law_466 rfl ?_
    refine ez_sald (q := 468) dL_law_467 hG rfl (by omega) (by omega) rfl ?_
    refine ez_aload_n (q := 469) 3 dL_law_468 rfl rfl rfl ?_
    refine cPK1 (mc := mc) (ms := ms) hc (q := 472) dL_law_469 ck_L_103 (c_L_append (d := 5) ⟨hI, fun _ _ => rfl⟩ ho hs hout) rfl rfl rfl (Nat.le_of_ble_eq_true rfl) rfl (fun g m hW hm => ?_)
    have hout := (hW.2 74 (Or.inr (by decide))).trans hout
    have hM := hM.to (fun j a c => hW.2 j (Or.inr a))
    have hI := hW.1
    refine ez_istore_5 (q := 474) dL_law_472 (Nat.le_of_ble_eq_true rfl) rfl rfl ?_
    refine ez_aload_n (q := 475) 2 dL_law_474 rfl rfl rfl ?_
    refine ez_aload_n (q := 476) 0 dL_law_475 rfl rfl rfl ?_
    refine ez_iload (q := 478) dL_law_476 rfl rfl ?_
    refine ez_iconst (v := nI 1) (q := 479) dL_law_478 (by decide) rfl ?_
    refine ez_iaddN (q := 480) dL_law_479 rfl ?_
    refine ez_sald (q := 481) dL_law_480 hG rfl (by omega) (by omega) rfl ?_
    refine cXv (q := 484) dL_law_481 ck_L_105 hM.1 (t_X8_append (d := 12) hM.rb hb) rfl ⟨by decide, rfl⟩ rfl rfl rfl (Nat.le_of_ble_eq_true rfl) rfl (fun g hW8 => ?_)
    obtain ⟨r', se', ro', le', de', wa', ww', rw', rm', sp', fm', ff', hM⟩ := hW8.2 hc
    have hout := (hM.frm 74 (by decide)).trans hout
    have hI := hI.to (fun j a c => hM.frm j (by omega))
    have hM := hM.rb
    refine ez_istore_6 (q := 486) dL_law_484 (Nat.le_of_ble_eq_true rfl) rfl rfl ?_
    refine ez_aload_n (q := 487) 2 dL_law_486 rfl rfl rfl ?_
    refine cMv (q := 490) dL_law_487 ck_L_83 hM (t_X8_thrown hM.rb) rfl rfl rfl rfl rfl (Nat.le_of_ble_eq_true rfl) rfl (fun g hM => ?_)
    have hout := (hM.frm 74 (by decide)).trans hout
    have hI := hI.to (fun j a c => hM.frm j (by omega))
    have hM := hM.rb
    refine ez_iload (q := 492) dL_law_490 rfl rfl ?_
    refine ez_icmpeq (q := 495) (tgt := 497) dL_law_492 (by decide) rfl (fun hc492 => ?_) (fun hc492 => absurd (by rfl) hc492)
    refine ez_iload (q := 499) dL_law_497 rfl rfl ?_
    refine ez_ifne (q := 502) (tgt := 514) dL_law_499 (by decide) rfl (fun hc499 => ?_) (fun hc499 => absurd hc499 (nI_ne0 (Nat.pos_of_ne_zero hc) (by omega)))
    refine ez_goto (q := 1378) dL_law_514 (by decide) ?_
    exact E.fg (K _ _ hm ⟨_, _, _, _, _, _, _, _, _, _, hI, ho, hs, hz9, ⟨_, hout⟩, _, _, _, _, _, _, ⟨_, _, _, _, _, _, _, _, _, _, _, _, hM⟩, hz, hv, hzz, hb⟩) ⟨Or.inr rfl, Or.inr rfl, Or.inr rfl, Or.inr rfl, Or.inr rfl, Or.inl rfl, Or.inl rfl, Or.inl rfl, Or.inl rfl, trivial⟩

set_option maxHeartbeats 800000 in
set_option maxRecDepth 100000 in
theorem op_clearBuffer {G : ez_G} {nm : String} {hh : List (Nat × Nat × Nat × Nat)} {N i n mc ms : Nat} {sc : Nat → Int32} {h : ez_H} {Q : ez_Q} (hN : N ≤ 2048) (hi : i + 4 ≤ N) (hG : ez_N G = N ∧ ez_sc G = sc) (hL : LI h) (K : ∀ g m, n ≤ m → LI g → E G (mLw nm hh) 14 Q g m mc ms 1378 [some (.ref 0), some (.ref 1), some (.ref 64), some (.ref 74), some (.int (nI i)), none, none, none, none] []) : E G (mLw nm hh) 14 Q h n (3 + mc) (18 + ms) 517 [some (.ref 0), some (.ref 1), some (.ref 64), some (.ref 74), some (.int (nI i)), none, none, none, none] [] := by
  obtain ⟨n', f, L, T, ln, sg, k, zs, t, b, hI, ho, hs, hz9, ⟨o, hout⟩, th, z, sv, bf, ha, zr, ⟨r, se, ro, le, de, wa, ww, rw, rm, sp, fm, ff, hM⟩, hz, hv, hzz, hb⟩ := hL
  have hk : k ≤ 6 := hI.2.2.1.elim (fun o ho => ho.2.2.1)
  refine ez_aload_n (q := 518) 1 dL_law_517 rfl rfl rfl ?_
  refine cPX (mc := mc) (ms := ms) (q := 521) dL_law_518 ck_L_106 hI.1 (t_X7_clearBuffer (d := 6) ⟨hI, fun _ _ => rfl⟩ ho hs) rfl ⟨by decide, rfl⟩ rfl rfl rfl (Nat.le_of_ble_eq_true rfl) rfl (fun hc => absurd hc (by decide)) (fun hc => absurd hc (by decide)) (fun _ g hW => ?_)
  have hout := (hW.2 74 (Or.inr (by decide))).trans hout
  have hM := hM.to (fun j a c => hW.2 j (Or.inr a))
  have hI := hW.1
  refine ez_aload_n (q := 522) 2 dL_law_521 rfl rfl rfl ?_
  refine cXv (q := 525) dL_law_522 ck_L_109 hM.1 (t_X8_clearBuffer (d := 13) hM.rb ) rfl ⟨by decide, rfl⟩ rfl rfl rfl (Nat.le_of_ble_eq_true rfl) rfl (fun g hW8 => ?_)
  obtain ⟨r', se', ro', le', de', wa', ww', rw', rm', sp', fm', ff', hM⟩ := hW8
  have hout := (hM.frm 74 (by decide)).trans hout
  have hI := hI.to (fun j a c => hM.frm j (by omega))
  have hM := hM.rb
  refine ez_icmpeq (q := 528) (tgt := 1378) dL_law_525 (by decide) rfl (fun hc525 => ?_) (fun hc525 => absurd (by rfl) hc525)
  exact E.fg (K _ _ (Nat.le_refl _) ⟨_, _, _, _, _, _, _, _, _, _, hI, ho, hs, hz9, ⟨_, hout⟩, _, _, _, _, _, _, ⟨_, _, _, _, _, _, _, _, _, _, _, _, hM⟩, hz, hv, hzz, ⟨Nat.zero_le _, fun k hk => absurd hk (Nat.not_lt_zero k)⟩⟩) ⟨Or.inr rfl, Or.inr rfl, Or.inr rfl, Or.inr rfl, Or.inr rfl, Or.inl rfl, Or.inl rfl, Or.inl rfl, Or.inl rfl, trivial⟩

set_option maxHeartbeats 800000 in
set_option maxRecDepth 100000 in
theorem op_firstError {G : ez_G} {nm : String} {hh : List (Nat × Nat × Nat × Nat)} {N i n mc ms : Nat} {sc : Nat → Int32} {h : ez_H} {Q : ez_Q} (hN : N ≤ 2048) (hi : i + 4 ≤ N) (hG : ez_N G = N ∧ ez_sc G = sc) (hL : LI h) (K : ∀ g m, n ≤ m → LI g → E G (mLw nm hh) 14 Q g m mc ms 1378 [some (.ref 0), some (.ref 1), some (.ref 64), some (.ref 74), some (.int (nI i)), none, none, none, none] []) : E G (mLw nm hh) 14 Q h n (3 + mc) (18 + ms) 530 [some (.ref 0), some (.ref 1), some (.ref 64), some (.ref 74), some (.int (nI i)), none, none, none, none] [] := by
  obtain ⟨n', f, L, T, ln, sg, k, zs, t, b, hI, ho, hs, hz9, ⟨o, hout⟩, th, z, sv, bf, ha, zr, ⟨r, se, ro, le, de, wa, ww, rw, rm, sp, fm, ff, hM⟩, hz, hv, hzz, hb⟩ := hL
  have hk : k ≤ 6 := hI.2.2.1.elim (fun o ho => ho.2.2.1)
  refine ez_aload_n (q := 531) 1 dL_law_530 rfl rfl rfl ?_
  refine cPX (mc := mc) (ms := ms) (q := 534) dL_law_531 ck_L_110 hI.1 (t_X7_firstError (d := 6) ⟨hI, fun _ _ => rfl⟩ ho hs) rfl ⟨by decide, rfl⟩ rfl rfl rfl (Nat.le_of_ble_eq_true rfl) rfl (fun hc => absurd hc (by decide)) (fun hc => absurd hc (by decide)) (fun _ g hW => ?_)
  have hout := (hW.2 74 (Or.inr (by decide))).trans hout
  have hM := hM.to (fun j a c => hW.2 j (Or.inr a))
  have hI := hW.1
  refine ez_aload_n (q := 535) 2 dL_law_534 rfl rfl rfl ?_
  refine cXv (q := 538) dL_law_535 ck_L_113 hM.1 (t_X8_firstError (d := 10) hM.rb hb) rfl ⟨by decide, rfl⟩ rfl rfl rfl (Nat.le_of_ble_eq_true rfl) rfl (fun g hW8 => ?_)
  obtain ⟨x9, y9, hM⟩ := hW8
  have hout := (hM.frm 74 (by decide)).trans hout
  have hI := hI.to (fun j a c => hM.frm j (by omega))
  have hM := hM.rb
  refine ez_icmpeq (q := 541) (tgt := 1378) dL_law_538 (by decide) rfl (fun hc538 => ?_) (fun hc538 => absurd (by rfl) hc538)
  exact E.fg (K _ _ (Nat.le_refl _) ⟨_, _, _, _, _, _, _, _, _, _, hI, ho, hs, hz9, ⟨_, hout⟩, _, _, _, _, _, _, ⟨_, _, _, _, _, _, _, _, _, _, _, _, hM⟩, hz, hv, hzz, hb⟩) ⟨Or.inr rfl, Or.inr rfl, Or.inr rfl, Or.inr rfl, Or.inr rfl, Or.inl rfl, Or.inl rfl, Or.inl rfl, Or.inl rfl, trivial⟩

set_option maxHeartbeats 800000 in
set_option maxRecDepth 100000 in
theorem op_read {G : ez_G} {nm : String} {hh : List (Nat × Nat × Nat × Nat)} {N i n mc ms : Nat} {sc : Nat → Int32} {h : ez_H} {Q : ez_Q} (hN : N ≤ 2048) (hi : i + 4 ≤ N) (hG : ez_N G = N ∧ ez_sc G = sc) (hL : LI h) (K : ∀ g m, n ≤ m → LI g → E G (mLw nm hh) 14 Q g m mc ms 1378 [some (.ref 0), some (.ref 1), some (.ref 64), some (.ref 74), some (.int (nI i)), none, none, none, none] []) : E G (mLw nm hh) 14 Q h n (3 + mc) (18 + ms) 543 [some (.ref 0), some (.ref 1), some (.ref 64), some (.ref 74), some (.int (nI i)), none, none, none, none] [] := by
  obtain ⟨n', f, L, T, ln, sg, k, zs, t, b, hI, ho, hs, hz9, ⟨o, hout⟩, th, z, sv, bf, ha, zr, ⟨r, se, ro, le, de, wa, ww, rw, rm, sp, fm, ff, hM⟩, hz, hv, hzz, hb⟩ := hL
  have hk : k ≤ 6 := hI.2.2.1.elim (fun o ho => ho.2.2.1)
  have hcd : (cdD b t (sc (i + 1))) ≤ 2 := by
    unfold cdD
    repeat' split
    all_goals decide
  by_cases hc : (cdD b t (sc (i + 1))) = 0
  · refine ez_aload_n (q := 544) 1 dL_law_543 rfl rfl rfl ?_
    refine ez_aload_n (q := 545) 0 dL_law_544 rfl rfl rfl ?_
    refine ez_iload (q := 547) dL_law_545 rfl rfl ?_
    refine ez_iconst (v := nI 1) (q := 548) dL_law_547 (by decide) rfl ?_
    refine ez_iaddN (q := 549) dL_law_548 rfl ?_
    refine ez_sald (q := 550) dL_law_549 hG rfl (by omega) (by omega) rfl ?_
    refine ez_aload_n (q := 551) 3 dL_law_550 rfl rfl rfl ?_
    refine cPK0 (mc := mc) (ms := ms) hc (q := 554) dL_law_551 ck_L_114 (c_L_read (d := 5) ⟨hI, fun _ _ => rfl⟩ ho hs hout) rfl rfl rfl (Nat.le_of_ble_eq_true rfl) rfl (fun g g0 o' m hW hg hout hv' hm => ?_)
    have hM := hM.to (fun j a c => (hg j (by omega)).trans (hW.2 j (Or.inr a)))
    have hI := hW.1.to (fun j a c => hg j (by omega))
    refine ez_istore_5 (q := 556) dL_law_554 (Nat.le_of_ble_eq_true rfl) rfl rfl ?_
    refine ez_aload_n (q := 557) 2 dL_law_556 rfl rfl rfl ?_
    refine ez_aload_n (q := 558) 0 dL_law_557 rfl rfl rfl ?_
    refine ez_iload (q := 560) dL_law_558 rfl rfl ?_
    refine ez_iconst (v := nI 1) (q := 561) dL_law_560 (by decide) rfl ?_
    refine ez_iaddN (q := 562) dL_law_561 rfl ?_
    refine ez_sald (q := 563) dL_law_562 hG rfl (by omega) (by omega) rfl ?_
    refine cXv (q := 566) dL_law_563 ck_L_116 hM.1 (t_X8_read (d := 8) hM.rb hz ho hb hk hv) rfl ⟨by decide, rfl⟩ rfl rfl rfl (Nat.le_of_ble_eq_true rfl) rfl (fun g hW8 => ?_)
    obtain ⟨z', sv', ⟨r', se', ro', le', de', wa', ww', rw', rm', sp', fm', ff', hM⟩, hz', hvv'⟩ := hW8.1 hc
    have hout := (hM.frm 74 (by decide)).trans hout
    have hI := hI.to (fun j a c => hM.frm j (by omega))
    have hM := hM.rb
    refine ez_istore_6 (q := 568) dL_law_566 (Nat.le_of_ble_eq_true rfl) rfl rfl ?_
    refine ez_aload_n (q := 569) 2 dL_law_568 rfl rfl rfl ?_
    refine cMv (q := 572) dL_law_569 ck_L_83 hM (t_X8_thrown hM.rb) rfl rfl rfl rfl rfl (Nat.le_of_ble_eq_true rfl) rfl (fun g hM => ?_)
    have hout := (hM.frm 74 (by decide)).trans hout
    have hI := hI.to (fun j a c => hM.frm j (by omega))
    have hM := hM.rb
    refine ez_iload (q := 574) dL_law_572 rfl rfl ?_
    refine ez_icmpeq (q := 577) (tgt := 579) dL_law_574 (by decide) rfl (fun hc574 => ?_) (fun hc574 => absurd (by rfl) hc574)
    refine ez_iload (q := 581) dL_law_579 rfl rfl ?_
    refine ez_ifne (q := 584) (tgt := 596) dL_law_581 (by decide) rfl (fun hc581 => absurd rfl hc581) (fun hc581 => ?_)
    refine ez_aload_n (q := 585) 3 dL_law_584 rfl rfl rfl ?_
    refine ez_iconst (v := nI 0) (q := 586) dL_law_585 (by decide) rfl ?_
    refine ez_lald (q := 587) dL_law_586 hout rfl (by omega) (by omega) rfl ?_
    refine ez_iload (q := 589) dL_law_587 rfl rfl ?_
    refine ez_i2l (q := 590) dL_law_589 rfl ?_
    refine ez_lcmp (q := 591) dL_law_590 rfl ?_
    refine ez_top (lg_eq (hv'.trans (by rw [aW, if_pos hc]))) ?_
    refine ez_ifeq (q := 594) (tgt := 596) dL_law_591 (by decide) rfl (fun hc591 => ?_) (fun hc591 => absurd rfl hc591)
    refine ez_goto (q := 1378) dL_law_596 (by decide) ?_
    exact E.fg (K _ _ hm ⟨_, _, _, _, _, _, _, _, _, _, hI, ok_read ho hc, wf_read hs hc, push_all hk (show OKA (n', f, L, T, ln, sg) from ⟨ho, hs⟩) hz9, ⟨_, hout⟩, _, _, _, _, _, _, ⟨_, _, _, _, _, _, _, _, _, _, _, _, hM⟩, hz', hvv', push_two hk (show ZA z (n', f, L, T, ln, sg) from hz) hzz, ⟨Nat.zero_le _, fun k hk => absurd hk (Nat.not_lt_zero k)⟩⟩) ⟨Or.inr rfl, Or.inr rfl, Or.inr rfl, Or.inr rfl, Or.inr rfl, Or.inl rfl, Or.inl rfl, Or.inl rfl, Or.inl rfl, trivial⟩
  · refine ez_aload_n (q := 544) 1 dL_law_543 rfl rfl rfl ?_
    refine ez_aload_n (q := 545) 0 dL_law_544 rfl rfl rfl ?_
    refine ez_iload (q := 547) dL_law_545 rfl rfl ?_
    refine ez_iconst (v := nI 1) (q := 548) dL_law_547 (by decide) rfl ?_
    refine ez_iaddN (q := 549) dL_law_548 rfl ?_
    refine ez_sald (q := 550) dL_law_549 hG rfl (by omega) (by omega) rfl ?_
    refine ez_aload_n (q := 551) 3 dL_law_550 rfl rfl rfl ?_
    refine cPK1 (mc := mc) (ms := ms) hc (q := 554) dL_law_551 ck_L_114 (c_L_read (d := 5) ⟨hI, fun _ _ => rfl⟩ ho hs hout) rfl rfl rfl (Nat.le_of_ble_eq_true rfl) rfl (fun g m hW hm => ?_)
    have hout := (hW.2 74 (Or.inr (by decide))).trans hout
    have hM := hM.to (fun j a c => hW.2 j (Or.inr a))
    have hI := hW.1
    refine ez_istore_5 (q := 556) dL_law_554 (Nat.le_of_ble_eq_true rfl) rfl rfl ?_
    refine ez_aload_n (q := 557) 2 dL_law_556 rfl rfl rfl ?_
    refine ez_aload_n (q := 558) 0 dL_law_557 rfl rfl rfl ?_
    refine ez_iload (q := 560) dL_law_558 rfl rfl ?_
    refine ez_iconst (v := nI 1) (q := 561) dL_law_560 (by decide) rfl ?_
    refine ez_iaddN (q := 562) dL_law_561 rfl ?_
    refine ez_sald (q := 563) dL_law_562 hG rfl (by omega) (by omega) rfl ?_
    refine cXv (q := 566) dL_law_563 ck_L_116 hM.1 (t_X8_read (d := 8) hM.rb hz ho hb hk hv) rfl ⟨by decide, rfl⟩ rfl rfl rfl (Nat.le_of_ble_eq_true rfl) rfl (fun g hW8 => ?_)
    obtain ⟨r', se', ro', le', de', wa', ww', rw', rm', sp', fm', ff', hM⟩ := hW8.2 hc
    have hout := (hM.frm 74 (by decide)).trans hout
    have hI := hI.to (fun j a c => hM.frm j (by omega))
    have hM := hM.rb
    refine ez_istore_6 (q := 568) dL_law_566 (Nat.le_of_ble_eq_true rfl) rfl rfl ?_
    refine ez_aload_n (q := 569) 2 dL_law_568 rfl rfl rfl ?_
    refine cMv (q := 572) dL_law_569 ck_L_83 hM (t_X8_thrown hM.rb) rfl rfl rfl rfl rfl (Nat.le_of_ble_eq_true rfl) rfl (fun g hM => ?_)
    have hout := (hM.frm 74 (by decide)).trans hout
    have hI := hI.to (fun j a c => hM.frm j (by omega))
    have hM := hM.rb
    refine ez_iload (q := 574) dL_law_572 rfl rfl ?_
    refine ez_icmpeq (q := 577) (tgt := 579) dL_law_574 (by decide) rfl (fun hc574 => ?_) (fun hc574 => absurd (by rfl) hc574)
    refine ez_iload (q := 581) dL_law_579 rfl rfl ?_
    refine ez_ifne (q := 584) (tgt := 596) dL_law_581 (by decide) rfl (fun hc581 => ?_) (fun hc581 => absurd hc581 (nI_ne0 (Nat.pos_of_ne_zero hc) (by omega)))
    refine ez_goto (q := 1378) dL_law_596 (by decide) ?_
    exact E.fg (K _ _ hm ⟨_, _, _, _, _, _, _, _, _, _, hI, ho, hs, hz9, ⟨_, hout⟩, _, _, _, _, _, _, ⟨_, _, _, _, _, _, _, _, _, _, _, _, hM⟩, hz, hv, hzz, hb⟩) ⟨Or.inr rfl, Or.inr rfl, Or.inr rfl, Or.inr rfl, Or.inr rfl, Or.inl rfl, Or.inl rfl, Or.inl rfl, Or.inl rfl, trivial⟩

set_option maxHeartbeats 800000 in
set_option maxRecDepth 100000 in
theorem op_negate {G : ez_G} {nm : String} {hh : List (Nat × Nat × Nat × Nat)} {N i n mc ms : Nat} {sc : Nat → Int32} {h : ez_H} {Q : ez_Q} (hN : N ≤ 2048) (hi : i + 4 ≤ N) (hG : ez_N G = N ∧ ez_sc G = sc) (hL : LI h) (K : ∀ g m, n ≤ m → LI g → E G (mLw nm hh) 14 Q g m mc ms 1378 [some (.ref 0), some (.ref 1), some (.ref 64), some (.ref 74), some (.int (nI i)), none, none, none, none] []) : E G (mLw nm hh) 14 Q h n (3 + mc) (18 + ms) 599 [some (.ref 0), some (.ref 1), some (.ref 64), some (.ref 74), some (.int (nI i)), none, none, none, none] [] := by
  obtain ⟨n', f, L, T, ln, sg, k, zs, t, b, hI, ho, hs, hz9, ⟨o, hout⟩, th, z, sv, bf, ha, zr, ⟨r, se, ro, le, de, wa, ww, rw, rm, sp, fm, ff, hM⟩, hz, hv, hzz, hb⟩ := hL
  have hk : k ≤ 6 := hI.2.2.1.elim (fun o ho => ho.2.2.1)
  have hcd : (cdN ln sg (sc (i + 1))) ≤ 2 := by
    unfold cdN
    repeat' split
    all_goals decide
  by_cases hc : (cdN ln sg (sc (i + 1))) = 0
  · refine ez_aload_n (q := 600) 1 dL_law_599 rfl rfl rfl ?_
    refine ez_aload_n (q := 601) 0 dL_law_600 rfl rfl rfl ?_
    refine ez_iload (q := 603) dL_law_601 rfl rfl ?_
    refine ez_iconst (v := nI 1) (q := 604) dL_law_603 (by decide) rfl ?_
    refine ez_iaddN (q := 605) dL_law_604 rfl ?_
    refine ez_sald (q := 606) dL_law_605 hG rfl (by omega) (by omega) rfl ?_
    refine ez_aload_n (q := 607) 3 dL_law_606 rfl rfl rfl ?_
    refine cPK0 (mc := mc) (ms := ms) hc (q := 610) dL_law_607 ck_L_117 (c_L_negate (d := 5) ⟨hI, fun _ _ => rfl⟩ ho hs hout) rfl rfl rfl (Nat.le_of_ble_eq_true rfl) rfl (fun g g0 o' m hW hg hout hv' hm => ?_)
    have hM := hM.to (fun j a c => (hg j (by omega)).trans (hW.2 j (Or.inr a)))
    have hI := hW.1.to (fun j a c => hg j (by omega))
    refine ez_istore_5 (q := 612) dL_law_610 (Nat.le_of_ble_eq_true rfl) rfl rfl ?_
    refine ez_aload_n (q := 613) 2 dL_law_612 rfl rfl rfl ?_
    refine ez_aload_n (q := 614) 0 dL_law_613 rfl rfl rfl ?_
    refine ez_iload (q := 616) dL_law_614 rfl rfl ?_
    refine ez_iconst (v := nI 1) (q := 617) dL_law_616 (by decide) rfl ?_
    refine ez_iaddN (q := 618) dL_law_617 rfl ?_
    refine ez_sald (q := 619) dL_law_618 hG rfl (by omega) (by omega) rfl ?_
    refine cXv (q := 622) dL_law_619 ck_L_119 hM.1 (t_X8_negate (d := 8) hM.rb hz ho hk hv) rfl ⟨by decide, rfl⟩ rfl rfl rfl (Nat.le_of_ble_eq_true rfl) rfl (fun g hW8 => ?_)
    obtain ⟨z', sv', ⟨r', se', ro', le', de', wa', ww', rw', rm', sp', fm', ff', hM⟩, hz', hvv'⟩ := hW8.1 hc
    have hout := (hM.frm 74 (by decide)).trans hout
    have hI := hI.to (fun j a c => hM.frm j (by omega))
    have hM := hM.rb
    refine ez_istore_6 (q := 624) dL_law_622 (Nat.le_of_ble_eq_true rfl) rfl rfl ?_
    refine ez_aload_n (q := 625) 2 dL_law_624 rfl rfl rfl ?_
    refine cMv (q := 628) dL_law_625 ck_L_83 hM (t_X8_thrown hM.rb) rfl rfl rfl rfl rfl (Nat.le_of_ble_eq_true rfl) rfl (fun g hM => ?_)
    have hout := (hM.frm 74 (by decide)).trans hout
    have hI := hI.to (fun j a c => hM.frm j (by omega))
    have hM := hM.rb
    refine ez_iload (q := 630) dL_law_628 rfl rfl ?_
    refine ez_icmpeq (q := 633) (tgt := 635) dL_law_630 (by decide) rfl (fun hc630 => ?_) (fun hc630 => absurd (by rfl) hc630)
    refine ez_iload (q := 637) dL_law_635 rfl rfl ?_
    refine ez_ifne (q := 640) (tgt := 652) dL_law_637 (by decide) rfl (fun hc637 => absurd rfl hc637) (fun hc637 => ?_)
    refine ez_aload_n (q := 641) 3 dL_law_640 rfl rfl rfl ?_
    refine ez_iconst (v := nI 0) (q := 642) dL_law_641 (by decide) rfl ?_
    refine ez_lald (q := 643) dL_law_642 hout rfl (by omega) (by omega) rfl ?_
    refine ez_iload (q := 645) dL_law_643 rfl rfl ?_
    refine ez_i2l (q := 646) dL_law_645 rfl ?_
    refine ez_lcmp (q := 647) dL_law_646 rfl ?_
    refine ez_top (lg_eq (hv'.trans (by rw [aW, if_pos hc]))) ?_
    refine ez_ifeq (q := 650) (tgt := 652) dL_law_647 (by decide) rfl (fun hc647 => ?_) (fun hc647 => absurd rfl hc647)
    refine ez_goto (q := 1378) dL_law_652 (by decide) ?_
    exact E.fg (K _ _ hm ⟨_, _, _, _, _, _, _, _, _, _, hI, ok_negate ho hs hc, wf_negate ho hs hc, push_all hk (show OKA (n', f, L, T, ln, sg) from ⟨ho, hs⟩) hz9, ⟨_, hout⟩, _, _, _, _, _, _, ⟨_, _, _, _, _, _, _, _, _, _, _, _, hM⟩, hz', hvv', push_two hk (show ZA z (n', f, L, T, ln, sg) from hz) hzz, hb⟩) ⟨Or.inr rfl, Or.inr rfl, Or.inr rfl, Or.inr rfl, Or.inr rfl, Or.inl rfl, Or.inl rfl, Or.inl rfl, Or.inl rfl, trivial⟩
  · refine ez_aload_n (q := 600) 1 dL_law_599 rfl rfl rfl ?_
    refine ez_aload_n (q := 601) 0 dL_law_600 rfl rfl rfl ?_
    refine ez_iload (q := 603) dL_law_601 rfl rfl ?_
    refine ez_iconst (v := nI 1) (q := 604) dL_law_603 (by decide) rfl ?_
    refine ez_iaddN (q := 605) dL_law_604 rfl ?_
    refine ez_sald (q := 606) dL_law_605 hG rfl (by omega) (by omega) rfl ?_
    refine ez_aload_n (q := 607) 3 dL_law_606 rfl rfl rfl ?_
    refine cPK1 (mc := mc) (ms := ms) hc (q := 610) dL_law_607 ck_L_117 (c_L_negate (d := 5) ⟨hI, fun _ _ => rfl⟩ ho hs hout) rfl rfl rfl (Nat.le_of_ble_eq_true rfl) rfl (fun g m hW hm => ?_)
    have hout := (hW.2 74 (Or.inr (by decide))).trans hout
    have hM := hM.to (fun j a c => hW.2 j (Or.inr a))
    have hI := hW.1
    refine ez_istore_5 (q := 612) dL_law_610 (Nat.le_of_ble_eq_true rfl) rfl rfl ?_
    refine ez_aload_n (q := 613) 2 dL_law_612 rfl rfl rfl ?_
    refine ez_aload_n (q := 614) 0 dL_law_613 rfl rfl rfl ?_
    refine ez_iload (q := 616) dL_law_614 rfl rfl ?_
    refine ez_iconst (v := nI 1) (q := 617) dL_law_616 (by decide) rfl ?_
    refine ez_iaddN (q := 618) dL_law_617 rfl ?_
    refine ez_sald (q := 619) dL_law_618 hG rfl (by omega) (by omega) rfl ?_
    refine cXv (q := 622) dL_law_619 ck_L_119 hM.1 (t_X8_negate (d := 8) hM.rb hz ho hk hv) rfl ⟨by decide, rfl⟩ rfl rfl rfl (Nat.le_of_ble_eq_true rfl) rfl (fun g hW8 => ?_)
    obtain ⟨r', se', ro', le', de', wa', ww', rw', rm', sp', fm', ff', hM⟩ := hW8.2 hc
    have hout := (hM.frm 74 (by decide)).trans hout
    have hI := hI.to (fun j a c => hM.frm j (by omega))
    have hM := hM.rb
    refine ez_istore_6 (q := 624) dL_law_622 (Nat.le_of_ble_eq_true rfl) rfl rfl ?_
    refine ez_aload_n (q := 625) 2 dL_law_624 rfl rfl rfl ?_
    refine cMv (q := 628) dL_law_625 ck_L_83 hM (t_X8_thrown hM.rb) rfl rfl rfl rfl rfl (Nat.le_of_ble_eq_true rfl) rfl (fun g hM => ?_)
    have hout := (hM.frm 74 (by decide)).trans hout
    have hI := hI.to (fun j a c => hM.frm j (by omega))
    have hM := hM.rb
    refine ez_iload (q := 630) dL_law_628 rfl rfl ?_
    refine ez_icmpeq (q := 633) (tgt := 635) dL_law_630 (by decide) rfl (fun hc630 => ?_) (fun hc630 => absurd (by rfl) hc630)
    refine ez_iload (q := 637) dL_law_635 rfl rfl ?_
    refine ez_ifne (q := 640) (tgt := 652) dL_law_637 (by decide) rfl (fun hc637 => ?_) (fun hc637 => absurd hc637 (nI_ne0 (Nat.pos_of_ne_zero hc) (by omega)))
    refine ez_goto (q := 1378) dL_law_652 (by decide) ?_
    exact E.fg (K _ _ hm ⟨_, _, _, _, _, _, _, _, _, _, hI, ho, hs, hz9, ⟨_, hout⟩, _, _, _, _, _, _, ⟨_, _, _, _, _, _, _, _, _, _, _, _, hM⟩, hz, hv, hzz, hb⟩) ⟨Or.inr rfl, Or.inr rfl, Or.inr rfl, Or.inr rfl, Or.inr rfl, Or.inl rfl, Or.inl rfl, Or.inl rfl, Or.inl rfl, trivial⟩

set_option maxHeartbeats 800000 in
set_option maxRecDepth 100000 in
theorem op_giveUp {G : ez_G} {nm : String} {hh : List (Nat × Nat × Nat × Nat)} {N i n mc ms : Nat} {sc : Nat → Int32} {h : ez_H} {Q : ez_Q} (hN : N ≤ 2048) (hi : i + 4 ≤ N) (hG : ez_N G = N ∧ ez_sc G = sc) (hL : LI h) (K : ∀ g m, n ≤ m → LI g → E G (mLw nm hh) 14 Q g m mc ms 1378 [some (.ref 0), some (.ref 1), some (.ref 64), some (.ref 74), some (.int (nI i)), none, none, none, none] []) : E G (mLw nm hh) 14 Q h n (3 + mc) (18 + ms) 655 [some (.ref 0), some (.ref 1), some (.ref 64), some (.ref 74), some (.int (nI i)), none, none, none, none] [] := by
  obtain ⟨n', f, L, T, ln, sg, k, zs, t, b, hI, ho, hs, hz9, ⟨o, hout⟩, th, z, sv, bf, ha, zr, ⟨r, se, ro, le, de, wa, ww, rw, rm, sp, fm, ff, hM⟩, hz, hv, hzz, hb⟩ := hL
  have hk : k ≤ 6 := hI.2.2.1.elim (fun o ho => ho.2.2.1)
  have hcd : (cdV (sc (i + 1))) ≤ 2 := by
    unfold cdV
    repeat' split
    all_goals decide
  by_cases hc : (cdV (sc (i + 1))) = 0
  · refine ez_aload_n (q := 656) 1 dL_law_655 rfl rfl rfl ?_
    refine ez_aload_n (q := 657) 0 dL_law_656 rfl rfl rfl ?_
    refine ez_iload (q := 659) dL_law_657 rfl rfl ?_
    refine ez_iconst (v := nI 1) (q := 660) dL_law_659 (by decide) rfl ?_
    refine ez_iaddN (q := 661) dL_law_660 rfl ?_
    refine ez_sald (q := 662) dL_law_661 hG rfl (by omega) (by omega) rfl ?_
    refine ez_aload_n (q := 663) 3 dL_law_662 rfl rfl rfl ?_
    refine cPK0 (mc := mc) (ms := ms) hc (q := 666) dL_law_663 ck_L_120 (c_L_giveUp (d := 5) ⟨hI, fun _ _ => rfl⟩ ho hs hout) rfl rfl rfl (Nat.le_of_ble_eq_true rfl) rfl (fun g g0 o' m hW hg hout hv' hm => ?_)
    have hM := hM.to (fun j a c => (hg j (by omega)).trans (hW.2 j (Or.inr a)))
    have hI := hW.1.to (fun j a c => hg j (by omega))
    refine ez_istore_5 (q := 668) dL_law_666 (Nat.le_of_ble_eq_true rfl) rfl rfl ?_
    refine ez_aload_n (q := 669) 2 dL_law_668 rfl rfl rfl ?_
    refine ez_aload_n (q := 670) 0 dL_law_669 rfl rfl rfl ?_
    refine ez_iload (q := 672) dL_law_670 rfl rfl ?_
    refine ez_iconst (v := nI 1) (q := 673) dL_law_672 (by decide) rfl ?_
    refine ez_iaddN (q := 674) dL_law_673 rfl ?_
    refine ez_sald (q := 675) dL_law_674 hG rfl (by omega) (by omega) rfl ?_
    refine cXv (q := 678) dL_law_675 ck_L_122 hM.1 (t_X8_giveUp (d := 8) hM.rb hz ho hk hv) rfl ⟨by decide, rfl⟩ rfl rfl rfl (Nat.le_of_ble_eq_true rfl) rfl (fun g hW8 => ?_)
    obtain ⟨z', sv', ⟨r', se', ro', le', de', wa', ww', rw', rm', sp', fm', ff', hM⟩, hz', hvv'⟩ := hW8.1 hc
    have hout := (hM.frm 74 (by decide)).trans hout
    have hI := hI.to (fun j a c => hM.frm j (by omega))
    have hM := hM.rb
    refine ez_istore_6 (q := 680) dL_law_678 (Nat.le_of_ble_eq_true rfl) rfl rfl ?_
    refine ez_aload_n (q := 681) 2 dL_law_680 rfl rfl rfl ?_
    refine cMv (q := 684) dL_law_681 ck_L_83 hM (t_X8_thrown hM.rb) rfl rfl rfl rfl rfl (Nat.le_of_ble_eq_true rfl) rfl (fun g hM => ?_)
    have hout := (hM.frm 74 (by decide)).trans hout
    have hI := hI.to (fun j a c => hM.frm j (by omega))
    have hM := hM.rb
    refine ez_iload (q := 686) dL_law_684 rfl rfl ?_
    refine ez_icmpeq (q := 689) (tgt := 691) dL_law_686 (by decide) rfl (fun hc686 => ?_) (fun hc686 => absurd (by rfl) hc686)
    refine ez_iload (q := 693) dL_law_691 rfl rfl ?_
    refine ez_ifne (q := 696) (tgt := 708) dL_law_693 (by decide) rfl (fun hc693 => absurd rfl hc693) (fun hc693 => ?_)
    refine ez_aload_n (q := 697) 3 dL_law_696 rfl rfl rfl ?_
    refine ez_iconst (v := nI 0) (q := 698) dL_law_697 (by decide) rfl ?_
    refine ez_lald (q := 699) dL_law_698 hout rfl (by omega) (by omega) rfl ?_
    refine ez_iload (q := 701) dL_law_699 rfl rfl ?_
    refine ez_i2l (q := 702) dL_law_701 rfl ?_
    refine ez_lcmp (q := 703) dL_law_702 rfl ?_
    refine ez_top (lg_eq (hv'.trans (by rw [aW, if_pos hc]))) ?_
    refine ez_ifeq (q := 706) (tgt := 708) dL_law_703 (by decide) rfl (fun hc703 => ?_) (fun hc703 => absurd rfl hc703)
    refine ez_goto (q := 1378) dL_law_708 (by decide) ?_
    exact E.fg (K _ _ hm ⟨_, _, _, _, _, _, _, _, _, _, hI, ok_giveUp ho, wf_giveUp hs, push_all hk (show OKA (n', f, L, T, ln, sg) from ⟨ho, hs⟩) hz9, ⟨_, hout⟩, _, _, _, _, _, _, ⟨_, _, _, _, _, _, _, _, _, _, _, _, hM⟩, hz', hvv', push_two hk (show ZA z (n', f, L, T, ln, sg) from hz) hzz, hb⟩) ⟨Or.inr rfl, Or.inr rfl, Or.inr rfl, Or.inr rfl, Or.inr rfl, Or.inl rfl, Or.inl rfl, Or.inl rfl, Or.inl rfl, trivial⟩
  · refine ez_aload_n (q := 656) 1 dL_law_655 rfl rfl rfl ?_
    refine ez_aload_n (q := 657) 0 dL_law_656 rfl rfl rfl ?_
    refine ez_iload (q := 659) dL_law_657 rfl rfl ?_
    refine ez_iconst (v := nI 1) (q := 660) dL_law_659 (by decide) rfl ?_
    refine ez_iaddN (q := 661) dL_law_660 rfl ?_
    refine ez_sald (q := 662) dL_law_661 hG rfl (by omega) (by omega) rfl ?_
    refine ez_aload_n (q := 663) 3 dL_law_662 rfl rfl rfl ?_
    refine cPK1 (mc := mc) (ms := ms) hc (q := 666) dL_law_663 ck_L_120 (c_L_giveUp (d := 5) ⟨hI, fun _ _ => rfl⟩ ho hs hout) rfl rfl rfl (Nat.le_of_ble_eq_true rfl) rfl (fun g m hW hm => ?_)
    have hout := (hW.2 74 (Or.inr (by decide))).trans hout
    have hM := hM.to (fun j a c => hW.2 j (Or.inr a))
    have hI := hW.1
    refine ez_istore_5 (q := 668) dL_law_666 (Nat.le_of_ble_eq_true rfl) rfl rfl ?_
    refine ez_aload_n (q := 669) 2 dL_law_668 rfl rfl rfl ?_
    refine ez_aload_n (q := 670) 0 dL_law_669 rfl rfl rfl ?_
    refine ez_iload (q := 672) dL_law_670 rfl rfl ?_
    refine ez_iconst (v := nI 1) (q := 673) dL_law_672 (by decide) rfl ?_
    refine ez_iaddN (q := 674) dL_law_673 rfl ?_
    refine ez_sald (q := 675) dL_law_674 hG rfl (by omega) (by omega) rfl ?_
    refine cXv (q := 678) dL_law_675 ck_L_122 hM.1 (t_X8_giveUp (d := 8) hM.rb hz ho hk hv) rfl ⟨by decide, rfl⟩ rfl rfl rfl (Nat.le_of_ble_eq_true rfl) rfl (fun g hW8 => ?_)
    obtain ⟨r', se', ro', le', de', wa', ww', rw', rm', sp', fm', ff', hM⟩ := hW8.2 hc
    have hout := (hM.frm 74 (by decide)).trans hout
    have hI := hI.to (fun j a c => hM.frm j (by omega))
    have hM := hM.rb
    refine ez_istore_6 (q := 680) dL_law_678 (Nat.le_of_ble_eq_true rfl) rfl rfl ?_
    refine ez_aload_n (q := 681) 2 dL_law_680 rfl rfl rfl ?_
    refine cMv (q := 684) dL_law_681 ck_L_83 hM (t_X8_thrown hM.rb) rfl rfl rfl rfl rfl (Nat.le_of_ble_eq_true rfl) rfl (fun g hM => ?_)
    have hout := (hM.frm 74 (by decide)).trans hout
    have hI := hI.to (fun j a c => hM.frm j (by omega))
    have hM := hM.rb
    refine ez_iload (q := 686) dL_law_684 rfl rfl ?_
    refine ez_icmpeq (q := 689) (tgt := 691) dL_law_686 (by decide) rfl (fun hc686 => ?_) (fun hc686 => absurd (by rfl) hc686)
    refine ez_iload (q := 693) dL_law_691 rfl rfl ?_
    refine ez_ifne (q := 696) (tgt := 708) dL_law_693 (by decide) rfl (fun hc693 => ?_) (fun hc693 => absurd hc693 (nI_ne0 (Nat.pos_of_ne_zero hc) (by omega)))
    refine ez_goto (q := 1378) dL_law_708 (by decide) ?_
    exact E.fg (K _ _ hm ⟨_, _, _, _, _, _, _, _, _, _, hI, ho, hs, hz9, ⟨_, hout⟩, _, _, _, _, _, _, ⟨_, _, _, _, _, _, _, _, _, _, _, _, hM⟩, hz, hv, hzz, hb⟩) ⟨Or.inr rfl, Or.inr rfl, Or.inr rfl, Or.inr rfl, Or.inr rfl, Or.inl rfl, Or.inl rfl, Or.inl rfl, Or.inl rfl, trivial⟩

set_option maxHeartbeats 800000 in
set_option maxRecDepth 100000 in
theorem op_undo {G : ez_G} {nm : String} {hh : List (Nat × Nat × Nat × Nat)} {N i n mc ms : Nat} {sc : Nat → Int32} {h : ez_H} {Q : ez_Q} (hN : N ≤ 2048) (hi : i + 4 ≤ N) (hG : ez_N G = N ∧ ez_sc G = sc) (hL : LI h) (K : ∀ g m, n ≤ m → LI g → E G (mLw nm hh) 14 Q g m mc ms 1378 [some (.ref 0), some (.ref 1), some (.ref 64), some (.ref 74), some (.int (nI i)), none, none, none, none] []) : E G (mLw nm hh) 14 Q h n (3 + mc) (18 + ms) 711 [some (.ref 0), some (.ref 1), some (.ref 64), some (.ref 74), some (.int (nI i)), none, none, none, none] [] := by
  obtain ⟨n', f, L, T, ln, sg, k, zs, t, b, hI, ho, hs, hz9, ⟨o, hout⟩, th, z, sv, bf, ha, zr, ⟨r, se, ro, le, de, wa, ww, rw, rm, sp, fm, ff, hM⟩, hz, hv, hzz, hb⟩ := hL
  have hk : k ≤ 6 := hI.2.2.1.elim (fun o ho => ho.2.2.1)
  have hcd : (cdU k) ≤ 2 := by
    unfold cdU
    repeat' split
    all_goals decide
  by_cases hc : (cdU k) = 0
  · have hk0 : ¬ k = 0 := fun e => by
      rw [e] at hc
      exact absurd hc (by decide)
    refine ez_aload_n (q := 712) 1 dL_law_711 rfl rfl rfl ?_
    refine ez_aload_n (q := 713) 3 dL_law_712 rfl rfl rfl ?_
    refine cPK0 (mc := mc) (ms := ms) hc (q := 716) dL_law_713 ck_L_123 (c_L_undo (d := 5) ⟨hI, fun _ _ => rfl⟩ ho hs hz9 hout) rfl rfl rfl (Nat.le_of_ble_eq_true rfl) rfl (fun g g0 o' m hW hg hout hv' hm => ?_)
    have hM := hM.to (fun j a c => (hg j (by omega)).trans (hW.2 j (Or.inr a)))
    have hI := hW.1.to (fun j a c => hg j (by omega))
    refine ez_istore_5 (q := 718) dL_law_716 (Nat.le_of_ble_eq_true rfl) rfl rfl ?_
    refine ez_aload_n (q := 719) 2 dL_law_718 rfl rfl rfl ?_
    refine cXv (q := 722) dL_law_719 ck_L_126 hM.1 (t_X8_undo (d := 13) hM.rb hk hv) rfl ⟨by decide, rfl⟩ rfl rfl rfl (Nat.le_of_ble_eq_true rfl) rfl (fun g hW8 => ?_)
    obtain ⟨z', ⟨r', se', ro', le', de', wa', ww', rw', rm', sp', fm', ff', hM⟩, he'⟩ := hW8.1 hc
    have hout := (hM.frm 74 (by decide)).trans hout
    have hI := hI.to (fun j a c => hM.frm j (by omega))
    have hM := hM.rb
    refine ez_istore_6 (q := 724) dL_law_722 (Nat.le_of_ble_eq_true rfl) rfl rfl ?_
    refine ez_aload_n (q := 725) 2 dL_law_724 rfl rfl rfl ?_
    refine cMv (q := 728) dL_law_725 ck_L_83 hM (t_X8_thrown hM.rb) rfl rfl rfl rfl rfl (Nat.le_of_ble_eq_true rfl) rfl (fun g hM => ?_)
    have hout := (hM.frm 74 (by decide)).trans hout
    have hI := hI.to (fun j a c => hM.frm j (by omega))
    have hM := hM.rb
    refine ez_iload (q := 730) dL_law_728 rfl rfl ?_
    refine ez_icmpeq (q := 733) (tgt := 735) dL_law_730 (by decide) rfl (fun hc730 => ?_) (fun hc730 => absurd (by rfl) hc730)
    refine ez_iload (q := 737) dL_law_735 rfl rfl ?_
    refine ez_ifne (q := 740) (tgt := 752) dL_law_737 (by decide) rfl (fun hc737 => absurd rfl hc737) (fun hc737 => ?_)
    refine ez_aload_n (q := 741) 3 dL_law_740 rfl rfl rfl ?_
    refine ez_iconst (v := nI 0) (q := 742) dL_law_741 (by decide) rfl ?_
    refine ez_lald (q := 743) dL_law_742 hout rfl (by omega) (by omega) rfl ?_
    refine ez_iload (q := 745) dL_law_743 rfl rfl ?_
    refine ez_i2l (q := 746) dL_law_745 rfl ?_
    refine ez_lcmp (q := 747) dL_law_746 rfl ?_
    refine ez_top (lg_eq (hv'.trans (by rw [aW, if_pos hc]))) ?_
    refine ez_ifeq (q := 750) (tgt := 752) dL_law_747 (by decide) rfl (fun hc747 => ?_) (fun hc747 => absurd rfl hc747)
    refine ez_goto (q := 1378) dL_law_752 (by decide) ?_
    exact E.fg (K _ _ hm ⟨_, _, _, _, _, _, _, _, _, _, hI, (hz9 (k - 1) (by omega)).1, (hz9 (k - 1) (by omega)).2, fun i hi => hz9 i (by omega), ⟨_, hout⟩, _, _, _, _, _, _, ⟨_, _, _, _, _, _, _, _, _, _, _, _, hM⟩, ZA.congr (hzz (k - 1) (by omega)) (hz9 (k - 1) (by omega)) he', fun i hi => hv i (by omega), fun i hi => hzz i (by omega), hb⟩) ⟨Or.inr rfl, Or.inr rfl, Or.inr rfl, Or.inr rfl, Or.inr rfl, Or.inl rfl, Or.inl rfl, Or.inl rfl, Or.inl rfl, trivial⟩
  · refine ez_aload_n (q := 712) 1 dL_law_711 rfl rfl rfl ?_
    refine ez_aload_n (q := 713) 3 dL_law_712 rfl rfl rfl ?_
    refine cPK1 (mc := mc) (ms := ms) hc (q := 716) dL_law_713 ck_L_123 (c_L_undo (d := 5) ⟨hI, fun _ _ => rfl⟩ ho hs hz9 hout) rfl rfl rfl (Nat.le_of_ble_eq_true rfl) rfl (fun g m hW hm => ?_)
    have hout := (hW.2 74 (Or.inr (by decide))).trans hout
    have hM := hM.to (fun j a c => hW.2 j (Or.inr a))
    have hI := hW.1
    refine ez_istore_5 (q := 718) dL_law_716 (Nat.le_of_ble_eq_true rfl) rfl rfl ?_
    refine ez_aload_n (q := 719) 2 dL_law_718 rfl rfl rfl ?_
    refine cXv (q := 722) dL_law_719 ck_L_126 hM.1 (t_X8_undo (d := 13) hM.rb hk hv) rfl ⟨by decide, rfl⟩ rfl rfl rfl (Nat.le_of_ble_eq_true rfl) rfl (fun g hW8 => ?_)
    obtain ⟨r', se', ro', le', de', wa', ww', rw', rm', sp', fm', ff', hM⟩ := hW8.2 hc
    have hout := (hM.frm 74 (by decide)).trans hout
    have hI := hI.to (fun j a c => hM.frm j (by omega))
    have hM := hM.rb
    refine ez_istore_6 (q := 724) dL_law_722 (Nat.le_of_ble_eq_true rfl) rfl rfl ?_
    refine ez_aload_n (q := 725) 2 dL_law_724 rfl rfl rfl ?_
    refine cMv (q := 728) dL_law_725 ck_L_83 hM (t_X8_thrown hM.rb) rfl rfl rfl rfl rfl (Nat.le_of_ble_eq_true rfl) rfl (fun g hM => ?_)
    have hout := (hM.frm 74 (by decide)).trans hout
    have hI := hI.to (fun j a c => hM.frm j (by omega))
    have hM := hM.rb
    refine ez_iload (q := 730) dL_law_728 rfl rfl ?_
    refine ez_icmpeq (q := 733) (tgt := 735) dL_law_730 (by decide) rfl (fun hc730 => ?_) (fun hc730 => absurd (by rfl) hc730)
    refine ez_iload (q := 737) dL_law_735 rfl rfl ?_
    refine ez_ifne (q := 740) (tgt := 752) dL_law_737 (by decide) rfl (fun hc737 => ?_) (fun hc737 => absurd hc737 (nI_ne0 (Nat.pos_of_ne_zero hc) (by omega)))
    refine ez_goto (q := 1378) dL_law_752 (by decide) ?_
    exact E.fg (K _ _ hm ⟨_, _, _, _, _, _, _, _, _, _, hI, ho, hs, hz9, ⟨_, hout⟩, _, _, _, _, _, _, ⟨_, _, _, _, _, _, _, _, _, _, _, _, hM⟩, hz, hv, hzz, hb⟩) ⟨Or.inr rfl, Or.inr rfl, Or.inr rfl, Or.inr rfl, Or.inr rfl, Or.inl rfl, Or.inl rfl, Or.inl rfl, Or.inl rfl, trivial⟩

set_option maxHeartbeats 800000 in
set_option maxRecDepth 100000 in
theorem op_world {G : ez_G} {nm : String} {hh : List (Nat × Nat × Nat × Nat)} {N i n mc ms : Nat} {sc : Nat → Int32} {h : ez_H} {Q : ez_Q} (hN : N ≤ 2048) (hi : i + 4 ≤ N) (hG : ez_N G = N ∧ ez_sc G = sc) (hL : LI h) (K : ∀ g m, n ≤ m → LI g → E G (mLw nm hh) 14 Q g m mc ms 1378 [some (.ref 0), some (.ref 1), some (.ref 64), some (.ref 74), some (.int (nI i)), none, none, none, none] []) : E G (mLw nm hh) 14 Q h n (3 + mc) (18 + ms) 755 [some (.ref 0), some (.ref 1), some (.ref 64), some (.ref 74), some (.int (nI i)), none, none, none, none] [] := by
  obtain ⟨n', f, L, T, ln, sg, k, zs, t, b, hI, ho, hs, hz9, ⟨o, hout⟩, th, z, sv, bf, ha, zr, ⟨r, se, ro, le, de, wa, ww, rw, rm, sp, fm, ff, hM⟩, hz, hv, hzz, hb⟩ := hL
  have hk : k ≤ 6 := hI.2.2.1.elim (fun o ho => ho.2.2.1)
  have hcd : (cdW n' 4 (sc (i + 1)) (sc (i + 2))) ≤ 2 := by
    unfold cdW
    repeat' split
    all_goals decide
  by_cases hc : (cdW n' 4 (sc (i + 1)) (sc (i + 2))) = 0
  · refine ez_aload_n (q := 756) 1 dL_law_755 rfl rfl rfl ?_
    refine ez_aload_n (q := 757) 0 dL_law_756 rfl rfl rfl ?_
    refine ez_iload (q := 759) dL_law_757 rfl rfl ?_
    refine ez_iconst (v := nI 1) (q := 760) dL_law_759 (by decide) rfl ?_
    refine ez_iaddN (q := 761) dL_law_760 rfl ?_
    refine ez_sald (q := 762) dL_law_761 hG rfl (by omega) (by omega) rfl ?_
    refine ez_aload_n (q := 763) 0 dL_law_762 rfl rfl rfl ?_
    refine ez_iload (q := 765) dL_law_763 rfl rfl ?_
    refine ez_iconst (v := nI 2) (q := 766) dL_law_765 (by decide) rfl ?_
    refine ez_iaddN (q := 767) dL_law_766 rfl ?_
    refine ez_sald (q := 768) dL_law_767 hG rfl (by omega) (by omega) rfl ?_
    refine ez_aload_n (q := 769) 3 dL_law_768 rfl rfl rfl ?_
    refine cPK0 (mc := mc) (ms := ms) hc (q := 772) dL_law_769 ck_L_127 (c_L_world (d := 5) ⟨hI, fun _ _ => rfl⟩ ho hs hout) rfl rfl rfl (Nat.le_of_ble_eq_true rfl) rfl (fun g g0 o' m hW hg hout hv' hm => ?_)
    have hM := hM.to (fun j a c => (hg j (by omega)).trans (hW.2 j (Or.inr a)))
    have hI := hW.1.to (fun j a c => hg j (by omega))
    refine ez_istore_5 (q := 774) dL_law_772 (Nat.le_of_ble_eq_true rfl) rfl rfl ?_
    refine ez_aload_n (q := 775) 2 dL_law_774 rfl rfl rfl ?_
    refine ez_aload_n (q := 776) 0 dL_law_775 rfl rfl rfl ?_
    refine ez_iload (q := 778) dL_law_776 rfl rfl ?_
    refine ez_iconst (v := nI 1) (q := 779) dL_law_778 (by decide) rfl ?_
    refine ez_iaddN (q := 780) dL_law_779 rfl ?_
    refine ez_sald (q := 781) dL_law_780 hG rfl (by omega) (by omega) rfl ?_
    refine ez_aload_n (q := 782) 0 dL_law_781 rfl rfl rfl ?_
    refine ez_iload (q := 784) dL_law_782 rfl rfl ?_
    refine ez_iconst (v := nI 2) (q := 785) dL_law_784 (by decide) rfl ?_
    refine ez_iaddN (q := 786) dL_law_785 rfl ?_
    refine ez_sald (q := 787) dL_law_786 hG rfl (by omega) (by omega) rfl ?_
    refine cXv (q := 790) dL_law_787 ck_L_129 hM.1 (t_X8_world (d := 1) hM.rb hz ho hs) rfl ⟨by decide, rfl⟩ rfl rfl rfl (Nat.le_of_ble_eq_true rfl) rfl (fun g hW8 => ?_)
    obtain ⟨r', se', ro', le', de', wa', ww', rw', rm', sp', fm', ff', hM⟩ := hW8
    rw [hc] at hM
    have hout := (hM.frm 74 (by decide)).trans hout
    have hI := hI.to (fun j a c => hM.frm j (by omega))
    have hM := hM.rb
    refine ez_istore_6 (q := 792) dL_law_790 (Nat.le_of_ble_eq_true rfl) rfl rfl ?_
    refine ez_aload_n (q := 793) 2 dL_law_792 rfl rfl rfl ?_
    refine cMv (q := 796) dL_law_793 ck_L_83 hM (t_X8_thrown hM.rb) rfl rfl rfl rfl rfl (Nat.le_of_ble_eq_true rfl) rfl (fun g hM => ?_)
    have hout := (hM.frm 74 (by decide)).trans hout
    have hI := hI.to (fun j a c => hM.frm j (by omega))
    have hM := hM.rb
    refine ez_iload (q := 798) dL_law_796 rfl rfl ?_
    refine ez_icmpeq (q := 801) (tgt := 803) dL_law_798 (by decide) rfl (fun hc798 => ?_) (fun hc798 => absurd (by rfl) hc798)
    refine ez_iload (q := 805) dL_law_803 rfl rfl ?_
    refine ez_ifne (q := 808) (tgt := 820) dL_law_805 (by decide) rfl (fun hc805 => absurd rfl hc805) (fun hc805 => ?_)
    refine ez_aload_n (q := 809) 3 dL_law_808 rfl rfl rfl ?_
    refine ez_iconst (v := nI 0) (q := 810) dL_law_809 (by decide) rfl ?_
    refine ez_lald (q := 811) dL_law_810 hout rfl (by omega) (by omega) rfl ?_
    refine ez_iload (q := 813) dL_law_811 rfl rfl ?_
    refine ez_i2l (q := 814) dL_law_813 rfl ?_
    refine ez_lcmp (q := 815) dL_law_814 rfl ?_
    refine ez_top (lg_eq (hv'.trans (by rw [aW, if_pos hc]))) ?_
    refine ez_ifeq (q := 818) (tgt := 820) dL_law_815 (by decide) rfl (fun hc815 => ?_) (fun hc815 => absurd rfl hc815)
    refine ez_goto (q := 1378) dL_law_820 (by decide) ?_
    exact E.fg (K _ _ hm ⟨_, _, _, _, _, _, _, _, _, _, hI, ho, hs, hz9, ⟨_, hout⟩, _, _, _, _, _, _, ⟨_, _, _, _, _, _, _, _, _, _, _, _, hM⟩, hz, hv, hzz, hb⟩) ⟨Or.inr rfl, Or.inr rfl, Or.inr rfl, Or.inr rfl, Or.inr rfl, Or.inl rfl, Or.inl rfl, Or.inl rfl, Or.inl rfl, trivial⟩
  · refine ez_aload_n (q := 756) 1 dL_law_755 rfl rfl rfl ?_
    refine ez_aload_n (q := 757) 0 dL_law_756 rfl rfl rfl ?_
    refine ez_iload (q := 759) dL_law_757 rfl rfl ?_
    refine ez_iconst (v := nI 1) (q := 760) dL_law_759 (by decide) rfl ?_
    refine ez_iaddN (q := 761) dL_law_760 rfl ?_
    refine ez_sald (q := 762) dL_law_761 hG rfl (by omega) (by omega) rfl ?_
    refine ez_aload_n (q := 763) 0 dL_law_762 rfl rfl rfl ?_
    refine ez_iload (q := 765) dL_law_763 rfl rfl ?_
    refine ez_iconst (v := nI 2) (q := 766) dL_law_765 (by decide) rfl ?_
    refine ez_iaddN (q := 767) dL_law_766 rfl ?_
    refine ez_sald (q := 768) dL_law_767 hG rfl (by omega) (by omega) rfl ?_
    refine ez_aload_n (q := 769) 3 dL_law_768 rfl rfl rfl ?_
    refine cPK1 (mc := mc) (ms := ms) hc (q := 772) dL_law_769 ck_L_127 (c_L_world (d := 5) ⟨hI, fun _ _ => rfl⟩ ho hs hout) rfl rfl rfl (Nat.le_of_ble_eq_true rfl) rfl (fun g m hW hm => ?_)
    have hout := (hW.2 74 (Or.inr (by decide))).trans hout
    have hM := hM.to (fun j a c => hW.2 j (Or.inr a))
    have hI := hW.1
    refine ez_istore_5 (q := 774) dL_law_772 (Nat.le_of_ble_eq_true rfl) rfl rfl ?_
    refine ez_aload_n (q := 775) 2 dL_law_774 rfl rfl rfl ?_
    refine ez_aload_n (q := 776) 0 dL_law_775 rfl rfl rfl ?_
    refine ez_iload (q := 778) dL_law_776 rfl rfl ?_
    refine ez_iconst (v := nI 1) (q := 779) dL_law_778 (by decide) rfl ?_
    refine ez_iaddN (q := 780) dL_law_779 rfl ?_
    refine ez_sald (q := 781) dL_law_780 hG rfl (by omega) (by omega) rfl ?_
    refine ez_aload_n (q := 782) 0 dL_law_781 rfl rfl rfl ?_
    refine ez_iload (q := 784) dL_law_782 rfl rfl ?_
    refine ez_iconst (v := nI 2) (q := 785) dL_law_784 (by decide) rfl ?_
    refine ez_iaddN (q := 786) dL_law_785 rfl ?_
    refine ez_sald (q := 787) dL_law_786 hG rfl (by omega) (by omega) rfl ?_
    refine cXv (q := 790) dL_law_787 ck_L_129 hM.1 (t_X8_world (d := 1) hM.rb hz ho hs) rfl ⟨by decide, rfl⟩ rfl rfl rfl (Nat.le_of_ble_eq_true rfl) rfl (fun g hW8 => ?_)
    obtain ⟨r', se', ro', le', de', wa', ww', rw', rm', sp', fm', ff', hM⟩ := hW8
    have hout := (hM.frm 74 (by decide)).trans hout
    have hI := hI.to (fun j a c => hM.frm j (by omega))
    have hM := hM.rb
    refine ez_istore_6 (q := 792) dL_law_790 (Nat.le_of_ble_eq_true rfl) rfl rfl ?_
    refine ez_aload_n (q := 793) 2 dL_law_792 rfl rfl rfl ?_
    refine cMv (q := 796) dL_law_793 ck_L_83 hM (t_X8_thrown hM.rb) rfl rfl rfl rfl rfl (Nat.le_of_ble_eq_true rfl) rfl (fun g hM => ?_)
    have hout := (hM.frm 74 (by decide)).trans hout
    have hI := hI.to (fun j a c => hM.frm j (by omega))
    have hM := hM.rb
    refine ez_iload (q := 798) dL_law_796 rfl rfl ?_
    refine ez_icmpeq (q := 801) (tgt := 803) dL_law_798 (by decide) rfl (fun hc798 => ?_) (fun hc798 => absurd (by rfl) hc798)
    refine ez_iload (q := 805) dL_law_803 rfl rfl ?_
    refine ez_ifne (q := 808) (tgt := 820) dL_law_805 (by decide) rfl (fun hc805 => ?_) (fun hc805 => absurd hc805 (nI_ne0 (Nat.pos_of_ne_zero hc) (by omega)))
    refine ez_goto (q := 1378) dL_law_820 (by decide) ?_
    exact E.fg (K _ _ hm ⟨_, _, _, _, _, _, _, _, _, _, hI, ho, hs, hz9, ⟨_, hout⟩, _, _, _, _, _, _, ⟨_, _, _, _, _, _, _, _, _, _, _, _, hM⟩, hz, hv, hzz, hb⟩) ⟨Or.inr rfl, Or.inr rfl, Or.inr rfl, Or.inr rfl, Or.inr rfl, Or.inl rfl, Or.inl rfl, Or.inl rfl, Or.inl rfl, trivial⟩

set_option maxHeartbeats 800000 in
set_option maxRecDepth 100000 in
theorem op_wish {G : ez_G} {nm : String} {hh : List (Nat × Nat × Nat × Nat)} {N i n mc ms : Nat} {sc : Nat → Int32} {h : ez_H} {Q : ez_Q} (hN : N ≤ 2048) (hi : i + 4 ≤ N) (hG : ez_N G = N ∧ ez_sc G = sc) (hL : LI h) (K : ∀ g m, n ≤ m → LI g → E G (mLw nm hh) 14 Q g m mc ms 1378 [some (.ref 0), some (.ref 1), some (.ref 64), some (.ref 74), some (.int (nI i)), none, none, none, none] []) : E G (mLw nm hh) 14 Q h n (3 + mc) (18 + ms) 823 [some (.ref 0), some (.ref 1), some (.ref 64), some (.ref 74), some (.int (nI i)), none, none, none, none] [] := by
  obtain ⟨n', f, L, T, ln, sg, k, zs, t, b, hI, ho, hs, hz9, ⟨o, hout⟩, th, z, sv, bf, ha, zr, ⟨r, se, ro, le, de, wa, ww, rw, rm, sp, fm, ff, hM⟩, hz, hv, hzz, hb⟩ := hL
  have hk : k ≤ 6 := hI.2.2.1.elim (fun o ho => ho.2.2.1)
  have hcd : (cdS 3 (sc (i + 1)) (sc (i + 2))) ≤ 2 := by
    unfold cdS
    repeat' split
    all_goals decide
  by_cases hc : (cdS 3 (sc (i + 1)) (sc (i + 2))) = 0
  · refine ez_aload_n (q := 824) 1 dL_law_823 rfl rfl rfl ?_
    refine ez_aload_n (q := 825) 0 dL_law_824 rfl rfl rfl ?_
    refine ez_iload (q := 827) dL_law_825 rfl rfl ?_
    refine ez_iconst (v := nI 1) (q := 828) dL_law_827 (by decide) rfl ?_
    refine ez_iaddN (q := 829) dL_law_828 rfl ?_
    refine ez_sald (q := 830) dL_law_829 hG rfl (by omega) (by omega) rfl ?_
    refine ez_aload_n (q := 831) 0 dL_law_830 rfl rfl rfl ?_
    refine ez_iload (q := 833) dL_law_831 rfl rfl ?_
    refine ez_iconst (v := nI 2) (q := 834) dL_law_833 (by decide) rfl ?_
    refine ez_iaddN (q := 835) dL_law_834 rfl ?_
    refine ez_sald (q := 836) dL_law_835 hG rfl (by omega) (by omega) rfl ?_
    refine ez_aload_n (q := 837) 3 dL_law_836 rfl rfl rfl ?_
    refine cPK0 (mc := mc) (ms := ms) hc (q := 840) dL_law_837 ck_L_130 (c_L_wish (d := 5) ⟨hI, fun _ _ => rfl⟩ ho hs hout) rfl rfl rfl (Nat.le_of_ble_eq_true rfl) rfl (fun g g0 o' m hW hg hout hv' hm => ?_)
    have hM := hM.to (fun j a c => (hg j (by omega)).trans (hW.2 j (Or.inr a)))
    have hI := hW.1.to (fun j a c => hg j (by omega))
    refine ez_istore_5 (q := 842) dL_law_840 (Nat.le_of_ble_eq_true rfl) rfl rfl ?_
    refine ez_aload_n (q := 843) 2 dL_law_842 rfl rfl rfl ?_
    refine ez_aload_n (q := 844) 0 dL_law_843 rfl rfl rfl ?_
    refine ez_iload (q := 846) dL_law_844 rfl rfl ?_
    refine ez_iconst (v := nI 1) (q := 847) dL_law_846 (by decide) rfl ?_
    refine ez_iaddN (q := 848) dL_law_847 rfl ?_
    refine ez_sald (q := 849) dL_law_848 hG rfl (by omega) (by omega) rfl ?_
    refine ez_aload_n (q := 850) 0 dL_law_849 rfl rfl rfl ?_
    refine ez_iload (q := 852) dL_law_850 rfl rfl ?_
    refine ez_iconst (v := nI 2) (q := 853) dL_law_852 (by decide) rfl ?_
    refine ez_iaddN (q := 854) dL_law_853 rfl ?_
    refine ez_sald (q := 855) dL_law_854 hG rfl (by omega) (by omega) rfl ?_
    refine cXv (q := 858) dL_law_855 ck_L_132 hM.1 (t_X8_wish (d := 3) hM.rb hz ho hs) rfl ⟨by decide, rfl⟩ rfl rfl rfl (Nat.le_of_ble_eq_true rfl) rfl (fun g hW8 => ?_)
    obtain ⟨r', se', ro', le', de', wa', ww', rw', rm', sp', fm', ff', hM⟩ := hW8
    rw [hc] at hM
    have hout := (hM.frm 74 (by decide)).trans hout
    have hI := hI.to (fun j a c => hM.frm j (by omega))
    have hM := hM.rb
    refine ez_istore_6 (q := 860) dL_law_858 (Nat.le_of_ble_eq_true rfl) rfl rfl ?_
    refine ez_aload_n (q := 861) 2 dL_law_860 rfl rfl rfl ?_
    refine cMv (q := 864) dL_law_861 ck_L_83 hM (t_X8_thrown hM.rb) rfl rfl rfl rfl rfl (Nat.le_of_ble_eq_true rfl) rfl (fun g hM => ?_)
    have hout := (hM.frm 74 (by decide)).trans hout
    have hI := hI.to (fun j a c => hM.frm j (by omega))
    have hM := hM.rb
    refine ez_iload (q := 866) dL_law_864 rfl rfl ?_
    refine ez_icmpeq (q := 869) (tgt := 871) dL_law_866 (by decide) rfl (fun hc866 => ?_) (fun hc866 => absurd (by rfl) hc866)
    refine ez_iload (q := 873) dL_law_871 rfl rfl ?_
    refine ez_ifne (q := 876) (tgt := 888) dL_law_873 (by decide) rfl (fun hc873 => absurd rfl hc873) (fun hc873 => ?_)
    refine ez_aload_n (q := 877) 3 dL_law_876 rfl rfl rfl ?_
    refine ez_iconst (v := nI 0) (q := 878) dL_law_877 (by decide) rfl ?_
    refine ez_lald (q := 879) dL_law_878 hout rfl (by omega) (by omega) rfl ?_
    refine ez_iload (q := 881) dL_law_879 rfl rfl ?_
    refine ez_i2l (q := 882) dL_law_881 rfl ?_
    refine ez_lcmp (q := 883) dL_law_882 rfl ?_
    refine ez_top (lg_eq (hv'.trans (by rw [aW, if_pos hc]))) ?_
    refine ez_ifeq (q := 886) (tgt := 888) dL_law_883 (by decide) rfl (fun hc883 => ?_) (fun hc883 => absurd rfl hc883)
    refine ez_goto (q := 1378) dL_law_888 (by decide) ?_
    exact E.fg (K _ _ hm ⟨_, _, _, _, _, _, _, _, _, _, hI, ho, hs, hz9, ⟨_, hout⟩, _, _, _, _, _, _, ⟨_, _, _, _, _, _, _, _, _, _, _, _, hM⟩, hz, hv, hzz, hb⟩) ⟨Or.inr rfl, Or.inr rfl, Or.inr rfl, Or.inr rfl, Or.inr rfl, Or.inl rfl, Or.inl rfl, Or.inl rfl, Or.inl rfl, trivial⟩
  · refine ez_aload_n (q := 824) 1 dL_law_823 rfl rfl rfl ?_
    refine ez_aload_n (q := 825) 0 dL_law_824 rfl rfl rfl ?_
    refine ez_iload (q := 827) dL_law_825 rfl rfl ?_
    refine ez_iconst (v := nI 1) (q := 828) dL_law_827 (by decide) rfl ?_
    refine ez_iaddN (q := 829) dL_law_828 rfl ?_
    refine ez_sald (q := 830) dL_law_829 hG rfl (by omega) (by omega) rfl ?_
    refine ez_aload_n (q := 831) 0 dL_law_830 rfl rfl rfl ?_
    refine ez_iload (q := 833) dL_law_831 rfl rfl ?_
    refine ez_iconst (v := nI 2) (q := 834) dL_law_833 (by decide) rfl ?_
    refine ez_iaddN (q := 835) dL_law_834 rfl ?_
    refine ez_sald (q := 836) dL_law_835 hG rfl (by omega) (by omega) rfl ?_
    refine ez_aload_n (q := 837) 3 dL_law_836 rfl rfl rfl ?_
    refine cPK1 (mc := mc) (ms := ms) hc (q := 840) dL_law_837 ck_L_130 (c_L_wish (d := 5) ⟨hI, fun _ _ => rfl⟩ ho hs hout) rfl rfl rfl (Nat.le_of_ble_eq_true rfl) rfl (fun g m hW hm => ?_)
    have hout := (hW.2 74 (Or.inr (by decide))).trans hout
    have hM := hM.to (fun j a c => hW.2 j (Or.inr a))
    have hI := hW.1
    refine ez_istore_5 (q := 842) dL_law_840 (Nat.le_of_ble_eq_true rfl) rfl rfl ?_
    refine ez_aload_n (q := 843) 2 dL_law_842 rfl rfl rfl ?_
    refine ez_aload_n (q := 844) 0 dL_law_843 rfl rfl rfl ?_
    refine ez_iload (q := 846) dL_law_844 rfl rfl ?_
    refine ez_iconst (v := nI 1) (q := 847) dL_law_846 (by decide) rfl ?_
    refine ez_iaddN (q := 848) dL_law_847 rfl ?_
    refine ez_sald (q := 849) dL_law_848 hG rfl (by omega) (by omega) rfl ?_
    refine ez_aload_n (q := 850) 0 dL_law_849 rfl rfl rfl ?_
    refine ez_iload (q := 852) dL_law_850 rfl rfl ?_
    refine ez_iconst (v := nI 2) (q := 853) dL_law_852 (by decide) rfl ?_
    refine ez_iaddN (q := 854) dL_law_853 rfl ?_
    refine ez_sald (q := 855) dL_law_854 hG rfl (by omega) (by omega) rfl ?_
    refine cXv (q := 858) dL_law_855 ck_L_132 hM.1 (t_X8_wish (d := 3) hM.rb hz ho hs) rfl ⟨by decide, rfl⟩ rfl rfl rfl (Nat.le_of_ble_eq_true rfl) rfl (fun g hW8 => ?_)
    obtain ⟨r', se', ro', le', de', wa', ww', rw', rm', sp', fm', ff', hM⟩ := hW8
    have hout := (hM.frm 74 (by decide)).trans hout
    have hI := hI.to (fun j a c => hM.frm j (by omega))
    have hM := hM.rb
    refine ez_istore_6 (q := 860) dL_law_858 (Nat.le_of_ble_eq_true rfl) rfl rfl ?_
    refine ez_aload_n (q := 861) 2 dL_law_860 rfl rfl rfl ?_
    refine cMv (q := 864) dL_law_861 ck_L_83 hM (t_X8_thrown hM.rb) rfl rfl rfl rfl rfl (Nat.le_of_ble_eq_true rfl) rfl (fun g hM => ?_)
    have hout := (hM.frm 74 (by decide)).trans hout
    have hI := hI.to (fun j a c => hM.frm j (by omega))
    have hM := hM.rb
    refine ez_iload (q := 866) dL_law_864 rfl rfl ?_
    refine ez_icmpeq (q := 869) (tgt := 871) dL_law_866 (by decide) rfl (fun hc866 => ?_) (fun hc866 => absurd (by rfl) hc866)
    refine ez_iload (q := 873) dL_law_871 rfl rfl ?_
    refine ez_ifne (q := 876) (tgt := 888) dL_law_873 (by decide) rfl (fun hc873 => ?_) (fun hc873 => absurd hc873 (nI_ne0 (Nat.pos_of_ne_zero hc) (by omega)))
    refine ez_goto (q := 1378) dL_law_888 (by decide) ?_
    exact E.fg (K _ _ hm ⟨_, _, _, _, _, _, _, _, _, _, hI, ho, hs, hz9, ⟨_, hout⟩, _, _, _, _, _, _, ⟨_, _, _, _, _, _, _, _, _, _, _, _, hM⟩, hz, hv, hzz, hb⟩) ⟨Or.inr rfl, Or.inr rfl, Or.inr rfl, Or.inr rfl, Or.inr rfl, Or.inl rfl, Or.inl rfl, Or.inl rfl, Or.inl rfl, trivial⟩

set_option maxHeartbeats 800000 in
set_option maxRecDepth 100000 in
theorem op_sign {G : ez_G} {nm : String} {hh : List (Nat × Nat × Nat × Nat)} {N i n mc ms : Nat} {sc : Nat → Int32} {h : ez_H} {Q : ez_Q} (hN : N ≤ 2048) (hi : i + 4 ≤ N) (hG : ez_N G = N ∧ ez_sc G = sc) (hL : LI h) (K : ∀ g m, n ≤ m → LI g → E G (mLw nm hh) 14 Q g m mc ms 1378 [some (.ref 0), some (.ref 1), some (.ref 64), some (.ref 74), some (.int (nI i)), none, none, none, none] []) : E G (mLw nm hh) 14 Q h n (3 + mc) (18 + ms) 891 [some (.ref 0), some (.ref 1), some (.ref 64), some (.ref 74), some (.int (nI i)), none, none, none, none] [] := by
  obtain ⟨n', f, L, T, ln, sg, k, zs, t, b, hI, ho, hs, hz9, ⟨o, hout⟩, th, z, sv, bf, ha, zr, ⟨r, se, ro, le, de, wa, ww, rw, rm, sp, fm, ff, hM⟩, hz, hv, hzz, hb⟩ := hL
  have hk : k ≤ 6 := hI.2.2.1.elim (fun o ho => ho.2.2.1)
  have hcd : (cdG ln (sc (i + 1)) (sc (i + 2)) (sc (i + 3))) ≤ 2 := by
    unfold cdG
    repeat' split
    all_goals decide
  by_cases hc : (cdG ln (sc (i + 1)) (sc (i + 2)) (sc (i + 3))) = 0
  · refine ez_aload_n (q := 892) 1 dL_law_891 rfl rfl rfl ?_
    refine ez_aload_n (q := 893) 0 dL_law_892 rfl rfl rfl ?_
    refine ez_iload (q := 895) dL_law_893 rfl rfl ?_
    refine ez_iconst (v := nI 1) (q := 896) dL_law_895 (by decide) rfl ?_
    refine ez_iaddN (q := 897) dL_law_896 rfl ?_
    refine ez_sald (q := 898) dL_law_897 hG rfl (by omega) (by omega) rfl ?_
    refine ez_aload_n (q := 899) 0 dL_law_898 rfl rfl rfl ?_
    refine ez_iload (q := 901) dL_law_899 rfl rfl ?_
    refine ez_iconst (v := nI 2) (q := 902) dL_law_901 (by decide) rfl ?_
    refine ez_iaddN (q := 903) dL_law_902 rfl ?_
    refine ez_sald (q := 904) dL_law_903 hG rfl (by omega) (by omega) rfl ?_
    refine ez_aload_n (q := 905) 0 dL_law_904 rfl rfl rfl ?_
    refine ez_iload (q := 907) dL_law_905 rfl rfl ?_
    refine ez_iconst (v := nI 3) (q := 908) dL_law_907 (by decide) rfl ?_
    refine ez_iaddN (q := 909) dL_law_908 rfl ?_
    refine ez_sald (q := 910) dL_law_909 hG rfl (by omega) (by omega) rfl ?_
    refine ez_aload_n (q := 911) 3 dL_law_910 rfl rfl rfl ?_
    refine cPK0 (mc := mc) (ms := ms) hc (q := 914) dL_law_911 ck_L_133 (c_L_sign (d := 5) ⟨hI, fun _ _ => rfl⟩ ho hs hout) rfl rfl rfl (Nat.le_of_ble_eq_true rfl) rfl (fun g g0 o' m hW hg hout hv' hm => ?_)
    have hM := hM.to (fun j a c => (hg j (by omega)).trans (hW.2 j (Or.inr a)))
    have hI := hW.1.to (fun j a c => hg j (by omega))
    refine ez_istore_5 (q := 916) dL_law_914 (Nat.le_of_ble_eq_true rfl) rfl rfl ?_
    refine ez_aload_n (q := 917) 2 dL_law_916 rfl rfl rfl ?_
    refine ez_aload_n (q := 918) 0 dL_law_917 rfl rfl rfl ?_
    refine ez_iload (q := 920) dL_law_918 rfl rfl ?_
    refine ez_iconst (v := nI 1) (q := 921) dL_law_920 (by decide) rfl ?_
    refine ez_iaddN (q := 922) dL_law_921 rfl ?_
    refine ez_sald (q := 923) dL_law_922 hG rfl (by omega) (by omega) rfl ?_
    refine ez_aload_n (q := 924) 0 dL_law_923 rfl rfl rfl ?_
    refine ez_iload (q := 926) dL_law_924 rfl rfl ?_
    refine ez_iconst (v := nI 2) (q := 927) dL_law_926 (by decide) rfl ?_
    refine ez_iaddN (q := 928) dL_law_927 rfl ?_
    refine ez_sald (q := 929) dL_law_928 hG rfl (by omega) (by omega) rfl ?_
    refine ez_aload_n (q := 930) 0 dL_law_929 rfl rfl rfl ?_
    refine ez_iload (q := 932) dL_law_930 rfl rfl ?_
    refine ez_iconst (v := nI 3) (q := 933) dL_law_932 (by decide) rfl ?_
    refine ez_iaddN (q := 934) dL_law_933 rfl ?_
    refine ez_sald (q := 935) dL_law_934 hG rfl (by omega) (by omega) rfl ?_
    refine cXv (q := 938) dL_law_935 ck_L_136 hM.1 (t_X8_sign (d := 3) hM.rb hz ho hs) rfl ⟨by decide, rfl⟩ rfl rfl rfl (Nat.le_of_ble_eq_true rfl) rfl (fun g hW8 => ?_)
    obtain ⟨r', se', ro', le', de', wa', ww', rw', rm', sp', fm', ff', hM⟩ := hW8
    rw [hc] at hM
    have hout := (hM.frm 74 (by decide)).trans hout
    have hI := hI.to (fun j a c => hM.frm j (by omega))
    have hM := hM.rb
    refine ez_istore_6 (q := 940) dL_law_938 (Nat.le_of_ble_eq_true rfl) rfl rfl ?_
    refine ez_aload_n (q := 941) 2 dL_law_940 rfl rfl rfl ?_
    refine cMv (q := 944) dL_law_941 ck_L_83 hM (t_X8_thrown hM.rb) rfl rfl rfl rfl rfl (Nat.le_of_ble_eq_true rfl) rfl (fun g hM => ?_)
    have hout := (hM.frm 74 (by decide)).trans hout
    have hI := hI.to (fun j a c => hM.frm j (by omega))
    have hM := hM.rb
    refine ez_iload (q := 946) dL_law_944 rfl rfl ?_
    refine ez_icmpeq (q := 949) (tgt := 951) dL_law_946 (by decide) rfl (fun hc946 => ?_) (fun hc946 => absurd (by rfl) hc946)
    refine ez_iload (q := 953) dL_law_951 rfl rfl ?_
    refine ez_ifne (q := 956) (tgt := 968) dL_law_953 (by decide) rfl (fun hc953 => absurd rfl hc953) (fun hc953 => ?_)
    refine ez_aload_n (q := 957) 3 dL_law_956 rfl rfl rfl ?_
    refine ez_iconst (v := nI 0) (q := 958) dL_law_957 (by decide) rfl ?_
    refine ez_lald (q := 959) dL_law_958 hout rfl (by omega) (by omega) rfl ?_
    refine ez_iload (q := 961) dL_law_959 rfl rfl ?_
    refine ez_i2l (q := 962) dL_law_961 rfl ?_
    refine ez_lcmp (q := 963) dL_law_962 rfl ?_
    refine ez_top (lg_eq (hv'.trans (by rw [aW, if_pos hc]))) ?_
    refine ez_ifeq (q := 966) (tgt := 968) dL_law_963 (by decide) rfl (fun hc963 => ?_) (fun hc963 => absurd rfl hc963)
    refine ez_goto (q := 1378) dL_law_968 (by decide) ?_
    exact E.fg (K _ _ hm ⟨_, _, _, _, _, _, _, _, _, _, hI, ho, hs, hz9, ⟨_, hout⟩, _, _, _, _, _, _, ⟨_, _, _, _, _, _, _, _, _, _, _, _, hM⟩, hz, hv, hzz, hb⟩) ⟨Or.inr rfl, Or.inr rfl, Or.inr rfl, Or.inr rfl, Or.inr rfl, Or.inl rfl, Or.inl rfl, Or.inl rfl, Or.inl rfl, trivial⟩
  · refine ez_aload_n (q := 892) 1 dL_law_891 rfl rfl rfl ?_
    refine ez_aload_n (q := 893) 0 dL_law_892 rfl rfl rfl ?_
    refine ez_iload (q := 895) dL_law_893 rfl rfl ?_
    refine ez_iconst (v := nI 1) (q := 896) dL_law_895 (by decide) rfl ?_
    refine ez_iaddN (q := 897) dL_law_896 rfl ?_
    refine ez_sald (q := 898) dL_law_897 hG rfl (by omega) (by omega) rfl ?_
    refine ez_aload_n (q := 899) 0 dL_law_898 rfl rfl rfl ?_
    refine ez_iload (q := 901) dL_law_899 rfl rfl ?_
    refine ez_iconst (v := nI 2) (q := 902) dL_law_901 (by decide) rfl ?_
    refine ez_iaddN (q := 903) dL_law_902 rfl ?_
    refine ez_sald (q := 904) dL_law_903 hG rfl (by omega) (by omega) rfl ?_
    refine ez_aload_n (q := 905) 0 dL_law_904 rfl rfl rfl ?_
    refine ez_iload (q := 907) dL_law_905 rfl rfl ?_
    refine ez_iconst (v := nI 3) (q := 908) dL_law_907 (by decide) rfl ?_
    refine ez_iaddN (q := 909) dL_law_908 rfl ?_
    refine ez_sald (q := 910) dL_law_909 hG rfl (by omega) (by omega) rfl ?_
    refine ez_aload_n (q := 911) 3 dL_law_910 rfl rfl rfl ?_
    refine cPK1 (mc := mc) (ms := ms) hc (q := 914) dL_law_911 ck_L_133 (c_L_sign (d := 5) ⟨hI, fun _ _ => rfl⟩ ho hs hout) rfl rfl rfl (Nat.le_of_ble_eq_true rfl) rfl (fun g m hW hm => ?_)
    have hout := (hW.2 74 (Or.inr (by decide))).trans hout
    have hM := hM.to (fun j a c => hW.2 j (Or.inr a))
    have hI := hW.1
    refine ez_istore_5 (q := 916) dL_law_914 (Nat.le_of_ble_eq_true rfl) rfl rfl ?_
    refine ez_aload_n (q := 917) 2 dL_law_916 rfl rfl rfl ?_
    refine ez_aload_n (q := 918) 0 dL_law_917 rfl rfl rfl ?_
    refine ez_iload (q := 920) dL_law_918 rfl rfl ?_
    refine ez_iconst (v := nI 1) (q := 921) dL_law_920 (by decide) rfl ?_
    refine ez_iaddN (q := 922) dL_law_921 rfl ?_
    refine ez_sald (q := 923) dL_law_922 hG rfl (by omega) (by omega) rfl ?_
    refine ez_aload_n (q := 924) 0 dL_law_923 rfl rfl rfl ?_
    refine ez_iload (q := 926) dL_law_924 rfl rfl ?_
    refine ez_iconst (v := nI 2) (q := 927) dL_law_926 (by decide) rfl ?_
    refine ez_iaddN (q := 928) dL_law_927 rfl ?_
    refine ez_sald (q := 929) dL_law_928 hG rfl (by omega) (by omega) rfl ?_
    refine ez_aload_n (q := 930) 0 dL_law_929 rfl rfl rfl ?_
    refine ez_iload (q := 932) dL_law_930 rfl rfl ?_
    refine ez_iconst (v := nI 3) (q := 933) dL_law_932 (by decide) rfl ?_
    refine ez_iaddN (q := 934) dL_law_933 rfl ?_
    refine ez_sald (q := 935) dL_law_934 hG rfl (by omega) (by omega) rfl ?_
    refine cXv (q := 938) dL_law_935 ck_L_136 hM.1 (t_X8_sign (d := 3) hM.rb hz ho hs) rfl ⟨by decide, rfl⟩ rfl rfl rfl (Nat.le_of_ble_eq_true rfl) rfl (fun g hW8 => ?_)
    obtain ⟨r', se', ro', le', de', wa', ww', rw', rm', sp', fm', ff', hM⟩ := hW8
    have hout := (hM.frm 74 (by decide)).trans hout
    have hI := hI.to (fun j a c => hM.frm j (by omega))
    have hM := hM.rb
    refine ez_istore_6 (q := 940) dL_law_938 (Nat.le_of_ble_eq_true rfl) rfl rfl ?_
    refine ez_aload_n (q := 941) 2 dL_law_940 rfl rfl rfl ?_
    refine cMv (q := 944) dL_law_941 ck_L_83 hM (t_X8_thrown hM.rb) rfl rfl rfl rfl rfl (Nat.le_of_ble_eq_true rfl) rfl (fun g hM => ?_)
    have hout := (hM.frm 74 (by decide)).trans hout
    have hI := hI.to (fun j a c => hM.frm j (by omega))
    have hM := hM.rb
    refine ez_iload (q := 946) dL_law_944 rfl rfl ?_
    refine ez_icmpeq (q := 949) (tgt := 951) dL_law_946 (by decide) rfl (fun hc946 => ?_) (fun hc946 => absurd (by rfl) hc946)
    refine ez_iload (q := 953) dL_law_951 rfl rfl ?_
    refine ez_ifne (q := 956) (tgt := 968) dL_law_953 (by decide) rfl (fun hc953 => ?_) (fun hc953 => absurd hc953 (nI_ne0 (Nat.pos_of_ne_zero hc) (by omega)))
    refine ez_goto (q := 1378) dL_law_968 (by decide) ?_
    exact E.fg (K _ _ hm ⟨_, _, _, _, _, _, _, _, _, _, hI, ho, hs, hz9, ⟨_, hout⟩, _, _, _, _, _, _, ⟨_, _, _, _, _, _, _, _, _, _, _, _, hM⟩, hz, hv, hzz, hb⟩) ⟨Or.inr rfl, Or.inr rfl, Or.inr rfl, Or.inr rfl, Or.inr rfl, Or.inl rfl, Or.inl rfl, Or.inl rfl, Or.inl rfl, trivial⟩

set_option maxHeartbeats 800000 in
set_option maxRecDepth 100000 in
theorem op_witness {G : ez_G} {nm : String} {hh : List (Nat × Nat × Nat × Nat)} {N i n mc ms : Nat} {sc : Nat → Int32} {h : ez_H} {Q : ez_Q} (hN : N ≤ 2048) (hi : i + 4 ≤ N) (hG : ez_N G = N ∧ ez_sc G = sc) (hL : LI h) (K : ∀ g m, n ≤ m → LI g → E G (mLw nm hh) 14 Q g m mc ms 1378 [some (.ref 0), some (.ref 1), some (.ref 64), some (.ref 74), some (.int (nI i)), none, none, none, none] []) : E G (mLw nm hh) 14 Q h n (3 + mc) (18 + ms) 971 [some (.ref 0), some (.ref 1), some (.ref 64), some (.ref 74), some (.int (nI i)), none, none, none, none] [] := by
  obtain ⟨n', f, L, T, ln, sg, k, zs, t, b, hI, ho, hs, hz9, ⟨o, hout⟩, th, z, sv, bf, ha, zr, ⟨r, se, ro, le, de, wa, ww, rw, rm, sp, fm, ff, hM⟩, hz, hv, hzz, hb⟩ := hL
  have hk : k ≤ 6 := hI.2.2.1.elim (fun o ho => ho.2.2.1)
  have hcd : (cdY n' (sc (i + 1)) (sc (i + 2)) (sc (i + 3))) ≤ 2 := by
    unfold cdY
    repeat' split
    all_goals decide
  by_cases hc : (cdY n' (sc (i + 1)) (sc (i + 2)) (sc (i + 3))) = 0
  · refine ez_aload_n (q := 972) 1 dL_law_971 rfl rfl rfl ?_
    refine ez_aload_n (q := 973) 0 dL_law_972 rfl rfl rfl ?_
    refine ez_iload (q := 975) dL_law_973 rfl rfl ?_
    refine ez_iconst (v := nI 1) (q := 976) dL_law_975 (by decide) rfl ?_
    refine ez_iaddN (q := 977) dL_law_976 rfl ?_
    refine ez_sald (q := 978) dL_law_977 hG rfl (by omega) (by omega) rfl ?_
    refine ez_aload_n (q := 979) 0 dL_law_978 rfl rfl rfl ?_
    refine ez_iload (q := 981) dL_law_979 rfl rfl ?_
    refine ez_iconst (v := nI 2) (q := 982) dL_law_981 (by decide) rfl ?_
    refine ez_iaddN (q := 983) dL_law_982 rfl ?_
    refine ez_sald (q := 984) dL_law_983 hG rfl (by omega) (by omega) rfl ?_
    refine ez_aload_n (q := 985) 0 dL_law_984 rfl rfl rfl ?_
    refine ez_iload (q := 987) dL_law_985 rfl rfl ?_
    refine ez_iconst (v := nI 3) (q := 988) dL_law_987 (by decide) rfl ?_
    refine ez_iaddN (q := 989) dL_law_988 rfl ?_
    refine ez_sald (q := 990) dL_law_989 hG rfl (by omega) (by omega) rfl ?_
    refine ez_aload_n (q := 991) 3 dL_law_990 rfl rfl rfl ?_
    refine cPK0 (mc := mc) (ms := ms) hc (q := 994) dL_law_991 ck_L_137 (c_L_witness (d := 5) ⟨hI, fun _ _ => rfl⟩ ho hs hout) rfl rfl rfl (Nat.le_of_ble_eq_true rfl) rfl (fun g g0 o' m hW hg hout hv' hm => ?_)
    have hM := hM.to (fun j a c => (hg j (by omega)).trans (hW.2 j (Or.inr a)))
    have hI := hW.1.to (fun j a c => hg j (by omega))
    refine ez_istore_5 (q := 996) dL_law_994 (Nat.le_of_ble_eq_true rfl) rfl rfl ?_
    refine ez_aload_n (q := 997) 2 dL_law_996 rfl rfl rfl ?_
    refine ez_aload_n (q := 998) 0 dL_law_997 rfl rfl rfl ?_
    refine ez_iload (q := 1000) dL_law_998 rfl rfl ?_
    refine ez_iconst (v := nI 1) (q := 1001) dL_law_1000 (by decide) rfl ?_
    refine ez_iaddN (q := 1002) dL_law_1001 rfl ?_
    refine ez_sald (q := 1003) dL_law_1002 hG rfl (by omega) (by omega) rfl ?_
    refine ez_aload_n (q := 1004) 0 dL_law_1003 rfl rfl rfl ?_
    refine ez_iload (q := 1006) dL_law_1004 rfl rfl ?_
    refine ez_iconst (v := nI 2) (q := 1007) dL_law_1006 (by decide) rfl ?_
    refine ez_iaddN (q := 1008) dL_law_1007 rfl ?_
    refine ez_sald (q := 1009) dL_law_1008 hG rfl (by omega) (by omega) rfl ?_
    refine ez_aload_n (q := 1010) 0 dL_law_1009 rfl rfl rfl ?_
    refine ez_iload (q := 1012) dL_law_1010 rfl rfl ?_
    refine ez_iconst (v := nI 3) (q := 1013) dL_law_1012 (by decide) rfl ?_
    refine ez_iaddN (q := 1014) dL_law_1013 rfl ?_
    refine ez_sald (q := 1015) dL_law_1014 hG rfl (by omega) (by omega) rfl ?_
    refine cXv (q := 1018) dL_law_1015 ck_L_139 hM.1 (t_X8_witness (d := 1) hM.rb hz ho hs) rfl ⟨by decide, rfl⟩ rfl rfl rfl (Nat.le_of_ble_eq_true rfl) rfl (fun g hW8 => ?_)
    obtain ⟨r', se', ro', le', de', wa', ww', rw', rm', sp', fm', ff', hM⟩ := hW8
    rw [hc] at hM
    have hout := (hM.frm 74 (by decide)).trans hout
    have hI := hI.to (fun j a c => hM.frm j (by omega))
    have hM := hM.rb
    refine ez_istore_6 (q := 1020) dL_law_1018 (Nat.le_of_ble_eq_true rfl) rfl rfl ?_
    refine ez_aload_n (q := 1021) 2 dL_law_1020 rfl rfl rfl ?_
    refine cMv (q := 1024) dL_law_1021 ck_L_83 hM (t_X8_thrown hM.rb) rfl rfl rfl rfl rfl (Nat.le_of_ble_eq_true rfl) rfl (fun g hM => ?_)
    have hout := (hM.frm 74 (by decide)).trans hout
    have hI := hI.to (fun j a c => hM.frm j (by omega))
    have hM := hM.rb
    refine ez_iload (q := 1026) dL_law_1024 rfl rfl ?_
    refine ez_icmpeq (q := 1029) (tgt := 1031) dL_law_1026 (by decide) rfl (fun hc1026 => ?_) (fun hc1026 => absurd (by rfl) hc1026)
    refine ez_iload (q := 1033) dL_law_1031 rfl rfl ?_
    refine ez_ifne (q := 1036) (tgt := 1048) dL_law_1033 (by decide) rfl (fun hc1033 => absurd rfl hc1033) (fun hc1033 => ?_)
    refine ez_aload_n (q := 1037) 3 dL_law_1036 rfl rfl rfl ?_
    refine ez_iconst (v := nI 0) (q := 1038) dL_law_1037 (by decide) rfl ?_
    refine ez_lald (q := 1039) dL_law_1038 hout rfl (by omega) (by omega) rfl ?_
    refine ez_iload (q := 1041) dL_law_1039 rfl rfl ?_
    refine ez_i2l (q := 1042) dL_law_1041 rfl ?_
    refine ez_lcmp (q := 1043) dL_law_1042 rfl ?_
    refine ez_top (lg_eq (hv'.trans (by rw [aW, if_pos hc]))) ?_
    refine ez_ifeq (q := 1046) (tgt := 1048) dL_law_1043 (by decide) rfl (fun hc1043 => ?_) (fun hc1043 => absurd rfl hc1043)
    refine ez_goto (q := 1378) dL_law_1048 (by decide) ?_
    exact E.fg (K _ _ hm ⟨_, _, _, _, _, _, _, _, _, _, hI, ho, hs, hz9, ⟨_, hout⟩, _, _, _, _, _, _, ⟨_, _, _, _, _, _, _, _, _, _, _, _, hM⟩, hz, hv, hzz, hb⟩) ⟨Or.inr rfl, Or.inr rfl, Or.inr rfl, Or.inr rfl, Or.inr rfl, Or.inl rfl, Or.inl rfl, Or.inl rfl, Or.inl rfl, trivial⟩
  · refine ez_aload_n (q := 972) 1 dL_law_971 rfl rfl rfl ?_
    refine ez_aload_n (q := 973) 0 dL_law_972 rfl rfl rfl ?_
    refine ez_iload (q := 975) dL_law_973 rfl rfl ?_
    refine ez_iconst (v := nI 1) (q := 976) dL_law_975 (by decide) rfl ?_
    refine ez_iaddN (q := 977) dL_law_976 rfl ?_
    refine ez_sald (q := 978) dL_law_977 hG rfl (by omega) (by omega) rfl ?_
    refine ez_aload_n (q := 979) 0 dL_law_978 rfl rfl rfl ?_
    refine ez_iload (q := 981) dL_law_979 rfl rfl ?_
    refine ez_iconst (v := nI 2) (q := 982) dL_law_981 (by decide) rfl ?_
    refine ez_iaddN (q := 983) dL_law_982 rfl ?_
    refine ez_sald (q := 984) dL_law_983 hG rfl (by omega) (by omega) rfl ?_
    refine ez_aload_n (q := 985) 0 dL_law_984 rfl rfl rfl ?_
    refine ez_iload (q := 987) dL_law_985 rfl rfl ?_
    refine ez_iconst (v := nI 3) (q := 988) dL_law_987 (by decide) rfl ?_
    refine ez_iaddN (q := 989) dL_law_988 rfl ?_
    refine ez_sald (q := 990) dL_law_989 hG rfl (by omega) (by omega) rfl ?_
    refine ez_aload_n (q := 991) 3 dL_law_990 rfl rfl rfl ?_
    refine cPK1 (mc := mc) (ms := ms) hc (q := 994) dL_law_991 ck_L_137 (c_L_witness (d := 5) ⟨hI, fun _ _ => rfl⟩ ho hs hout) rfl rfl rfl (Nat.le_of_ble_eq_true rfl) rfl (fun g m hW hm => ?_)
    have hout := (hW.2 74 (Or.inr (by decide))).trans hout
    have hM := hM.to (fun j a c => hW.2 j (Or.inr a))
    have hI := hW.1
    refine ez_istore_5 (q := 996) dL_law_994 (Nat.le_of_ble_eq_true rfl) rfl rfl ?_
    refine ez_aload_n (q := 997) 2 dL_law_996 rfl rfl rfl ?_
    refine ez_aload_n (q := 998) 0 dL_law_997 rfl rfl rfl ?_
    refine ez_iload (q := 1000) dL_law_998 rfl rfl ?_
    refine ez_iconst (v := nI 1) (q := 1001) dL_law_1000 (by decide) rfl ?_
    refine ez_iaddN (q := 1002) dL_law_1001 rfl ?_
    refine ez_sald (q := 1003) dL_law_1002 hG rfl (by omega) (by omega) rfl ?_
    refine ez_aload_n (q := 1004) 0 dL_law_1003 rfl rfl rfl ?_
    refine ez_iload (q := 1006) dL_law_1004 rfl rfl ?_
    refine ez_iconst (v := nI 2) (q := 1007) dL_law_1006 (by decide) rfl ?_
    refine ez_iaddN (q := 1008) dL_law_1007 rfl ?_
    refine ez_sald (q := 1009) dL_law_1008 hG rfl (by omega) (by omega) rfl ?_
    refine ez_aload_n (q := 1010) 0 dL_law_1009 rfl rfl rfl ?_
    refine ez_iload (q := 1012) dL_law_1010 rfl rfl ?_
    refine ez_iconst (v := nI 3) (q := 1013) dL_law_1012 (by decide) rfl ?_
    refine ez_iaddN (q := 1014) dL_law_1013 rfl ?_
    refine ez_sald (q := 1015) dL_law_1014 hG rfl (by omega) (by omega) rfl ?_
    refine cXv (q := 1018) dL_law_1015 ck_L_139 hM.1 (t_X8_witness (d := 1) hM.rb hz ho hs) rfl ⟨by decide, rfl⟩ rfl rfl rfl (Nat.le_of_ble_eq_true rfl) rfl (fun g hW8 => ?_)
    obtain ⟨r', se', ro', le', de', wa', ww', rw', rm', sp', fm', ff', hM⟩ := hW8
    have hout := (hM.frm 74 (by decide)).trans hout
    have hI := hI.to (fun j a c => hM.frm j (by omega))
    have hM := hM.rb
    refine ez_istore_6 (q := 1020) dL_law_1018 (Nat.le_of_ble_eq_true rfl) rfl rfl ?_
    refine ez_aload_n (q := 1021) 2 dL_law_1020 rfl rfl rfl ?_
    refine cMv (q := 1024) dL_law_1021 ck_L_83 hM (t_X8_thrown hM.rb) rfl rfl rfl rfl rfl (Nat.le_of_ble_eq_true rfl) rfl (fun g hM => ?_)
    have hout := (hM.frm 74 (by decide)).trans hout
    have hI := hI.to (fun j a c => hM.frm j (by omega))
    have hM := hM.rb
    refine ez_iload (q := 1026) dL_law_1024 rfl rfl ?_
    refine ez_icmpeq (q := 1029) (tgt := 1031) dL_law_1026 (by decide) rfl (fun hc1026 => ?_) (fun hc1026 => absurd (by rfl) hc1026)
    refine ez_iload (q := 1033) dL_law_1031 rfl rfl ?_
    refine ez_ifne (q := 1036) (tgt := 1048) dL_law_1033 (by decide) rfl (fun hc1033 => ?_) (fun hc1033 => absurd hc1033 (nI_ne0 (Nat.pos_of_ne_zero hc) (by omega)))
    refine ez_goto (q := 1378) dL_law_1048 (by decide) ?_
    exact E.fg (K _ _ hm ⟨_, _, _, _, _, _, _, _, _, _, hI, ho, hs, hz9, ⟨_, hout⟩, _, _, _, _, _, _, ⟨_, _, _, _, _, _, _, _, _, _, _, _, hM⟩, hz, hv, hzz, hb⟩) ⟨Or.inr rfl, Or.inr rfl, Or.inr rfl, Or.inr rfl, Or.inr rfl, Or.inl rfl, Or.inl rfl, Or.inl rfl, Or.inl rfl, trivial⟩

set_option maxHeartbeats 800000 in
set_option maxRecDepth 100000 in
theorem op_compare {G : ez_G} {nm : String} {hh : List (Nat × Nat × Nat × Nat)} {N i n mc ms : Nat} {sc : Nat → Int32} {h : ez_H} {Q : ez_Q} (hN : N ≤ 2048) (hi : i + 4 ≤ N) (hG : ez_N G = N ∧ ez_sc G = sc) (hL : LI h) (K : ∀ g m, n ≤ m → LI g → E G (mLw nm hh) 14 Q g m mc ms 1378 [some (.ref 0), some (.ref 1), some (.ref 64), some (.ref 74), some (.int (nI i)), none, none, none, none] []) : E G (mLw nm hh) 14 Q h n (3 + mc) (18 + ms) 1051 [some (.ref 0), some (.ref 1), some (.ref 64), some (.ref 74), some (.int (nI i)), none, none, none, none] [] := by
  obtain ⟨n', f, L, T, ln, sg, k, zs, t, b, hI, ho, hs, hz9, ⟨o, hout⟩, th, z, sv, bf, ha, zr, ⟨r, se, ro, le, de, wa, ww, rw, rm, sp, fm, ff, hM⟩, hz, hv, hzz, hb⟩ := hL
  have hk : k ≤ 6 := hI.2.2.1.elim (fun o ho => ho.2.2.1)
  have hcd : (cd2 (sc (i + 1)) (sc (i + 2))) ≤ 2 := by
    unfold cd2
    repeat' split
    all_goals decide
  by_cases hc : (cd2 (sc (i + 1)) (sc (i + 2))) = 0
  · refine ez_aload_n (q := 1052) 1 dL_law_1051 rfl rfl rfl ?_
    refine ez_aload_n (q := 1053) 0 dL_law_1052 rfl rfl rfl ?_
    refine ez_iload (q := 1055) dL_law_1053 rfl rfl ?_
    refine ez_iconst (v := nI 1) (q := 1056) dL_law_1055 (by decide) rfl ?_
    refine ez_iaddN (q := 1057) dL_law_1056 rfl ?_
    refine ez_sald (q := 1058) dL_law_1057 hG rfl (by omega) (by omega) rfl ?_
    refine ez_aload_n (q := 1059) 0 dL_law_1058 rfl rfl rfl ?_
    refine ez_iload (q := 1061) dL_law_1059 rfl rfl ?_
    refine ez_iconst (v := nI 2) (q := 1062) dL_law_1061 (by decide) rfl ?_
    refine ez_iaddN (q := 1063) dL_law_1062 rfl ?_
    refine ez_sald (q := 1064) dL_law_1063 hG rfl (by omega) (by omega) rfl ?_
    refine ez_aload_n (q := 1065) 3 dL_law_1064 rfl rfl rfl ?_
    refine cPK0 (mc := mc) (ms := ms) hc (q := 1068) dL_law_1065 ck_L_140 (c_L_compare (d := 5) ⟨hI, fun _ _ => rfl⟩ ho hs hout) rfl rfl rfl (Nat.le_of_ble_eq_true rfl) rfl (fun g g0 o' m hW hg hout hv' hm => ?_)
    have hM := hM.to (fun j a c => (hg j (by omega)).trans (hW.2 j (Or.inr a)))
    have hI := hW.1.to (fun j a c => hg j (by omega))
    refine ez_istore_5 (q := 1070) dL_law_1068 (Nat.le_of_ble_eq_true rfl) rfl rfl ?_
    refine ez_aload_n (q := 1071) 2 dL_law_1070 rfl rfl rfl ?_
    refine ez_aload_n (q := 1072) 0 dL_law_1071 rfl rfl rfl ?_
    refine ez_iload (q := 1074) dL_law_1072 rfl rfl ?_
    refine ez_iconst (v := nI 1) (q := 1075) dL_law_1074 (by decide) rfl ?_
    refine ez_iaddN (q := 1076) dL_law_1075 rfl ?_
    refine ez_sald (q := 1077) dL_law_1076 hG rfl (by omega) (by omega) rfl ?_
    refine ez_aload_n (q := 1078) 0 dL_law_1077 rfl rfl rfl ?_
    refine ez_iload (q := 1080) dL_law_1078 rfl rfl ?_
    refine ez_iconst (v := nI 2) (q := 1081) dL_law_1080 (by decide) rfl ?_
    refine ez_iaddN (q := 1082) dL_law_1081 rfl ?_
    refine ez_sald (q := 1083) dL_law_1082 hG rfl (by omega) (by omega) rfl ?_
    refine cXv (q := 1086) dL_law_1083 ck_L_142 hM.1 (t_X8_compare (d := 2) hM.rb hz ho hs) rfl ⟨by decide, rfl⟩ rfl rfl rfl (Nat.le_of_ble_eq_true rfl) rfl (fun g hW8 => ?_)
    obtain ⟨r', se', ro', le', de', wa', ww', rw', rm', sp', fm', ff', hM⟩ := hW8
    rw [hc] at hM
    have hout := (hM.frm 74 (by decide)).trans hout
    have hI := hI.to (fun j a c => hM.frm j (by omega))
    have hM := hM.rb
    refine ez_istore_6 (q := 1088) dL_law_1086 (Nat.le_of_ble_eq_true rfl) rfl rfl ?_
    refine ez_aload_n (q := 1089) 2 dL_law_1088 rfl rfl rfl ?_
    refine cMv (q := 1092) dL_law_1089 ck_L_83 hM (t_X8_thrown hM.rb) rfl rfl rfl rfl rfl (Nat.le_of_ble_eq_true rfl) rfl (fun g hM => ?_)
    have hout := (hM.frm 74 (by decide)).trans hout
    have hI := hI.to (fun j a c => hM.frm j (by omega))
    have hM := hM.rb
    refine ez_iload (q := 1094) dL_law_1092 rfl rfl ?_
    refine ez_icmpeq (q := 1097) (tgt := 1099) dL_law_1094 (by decide) rfl (fun hc1094 => ?_) (fun hc1094 => absurd (by rfl) hc1094)
    refine ez_iload (q := 1101) dL_law_1099 rfl rfl ?_
    refine ez_ifne (q := 1104) (tgt := 1116) dL_law_1101 (by decide) rfl (fun hc1101 => absurd rfl hc1101) (fun hc1101 => ?_)
    refine ez_aload_n (q := 1105) 3 dL_law_1104 rfl rfl rfl ?_
    refine ez_iconst (v := nI 0) (q := 1106) dL_law_1105 (by decide) rfl ?_
    refine ez_lald (q := 1107) dL_law_1106 hout rfl (by omega) (by omega) rfl ?_
    refine ez_iload (q := 1109) dL_law_1107 rfl rfl ?_
    refine ez_i2l (q := 1110) dL_law_1109 rfl ?_
    refine ez_lcmp (q := 1111) dL_law_1110 rfl ?_
    refine ez_top (lg_eq (hv'.trans (by rw [aW, if_pos hc]))) ?_
    refine ez_ifeq (q := 1114) (tgt := 1116) dL_law_1111 (by decide) rfl (fun hc1111 => ?_) (fun hc1111 => absurd rfl hc1111)
    refine ez_goto (q := 1378) dL_law_1116 (by decide) ?_
    exact E.fg (K _ _ hm ⟨_, _, _, _, _, _, _, _, _, _, hI, ho, hs, hz9, ⟨_, hout⟩, _, _, _, _, _, _, ⟨_, _, _, _, _, _, _, _, _, _, _, _, hM⟩, hz, hv, hzz, hb⟩) ⟨Or.inr rfl, Or.inr rfl, Or.inr rfl, Or.inr rfl, Or.inr rfl, Or.inl rfl, Or.inl rfl, Or.inl rfl, Or.inl rfl, trivial⟩
  · refine ez_aload_n (q := 1052) 1 dL_law_1051 rfl rfl rfl ?_
    refine ez_aload_n (q := 1053) 0 dL_law_1052 rfl rfl rfl ?_
    refine ez_iload (q := 1055) dL_law_1053 rfl rfl ?_
    refine ez_iconst (v := nI 1) (q := 1056) dL_law_1055 (by decide) rfl ?_
    refine ez_iaddN (q := 1057) dL_law_1056 rfl ?_
    refine ez_sald (q := 1058) dL_law_1057 hG rfl (by omega) (by omega) rfl ?_
    refine ez_aload_n (q := 1059) 0 dL_law_1058 rfl rfl rfl ?_
    refine ez_iload (q := 1061) dL_law_1059 rfl rfl ?_
    refine ez_iconst (v := nI 2) (q := 1062) dL_law_1061 (by decide) rfl ?_
    refine ez_iaddN (q := 1063) dL_law_1062 rfl ?_
    refine ez_sald (q := 1064) dL_law_1063 hG rfl (by omega) (by omega) rfl ?_
    refine ez_aload_n (q := 1065) 3 dL_law_1064 rfl rfl rfl ?_
    refine cPK1 (mc := mc) (ms := ms) hc (q := 1068) dL_law_1065 ck_L_140 (c_L_compare (d := 5) ⟨hI, fun _ _ => rfl⟩ ho hs hout) rfl rfl rfl (Nat.le_of_ble_eq_true rfl) rfl (fun g m hW hm => ?_)
    have hout := (hW.2 74 (Or.inr (by decide))).trans hout
    have hM := hM.to (fun j a c => hW.2 j (Or.inr a))
    have hI := hW.1
    refine ez_istore_5 (q := 1070) dL_law_1068 (Nat.le_of_ble_eq_true rfl) rfl rfl ?_
    refine ez_aload_n (q := 1071) 2 dL_law_1070 rfl rfl rfl ?_
    refine ez_aload_n (q := 1072) 0 dL_law_1071 rfl rfl rfl ?_
    refine ez_iload (q := 1074) dL_law_1072 rfl rfl ?_
    refine ez_iconst (v := nI 1) (q := 1075) dL_law_1074 (by decide) rfl ?_
    refine ez_iaddN (q := 1076) dL_law_1075 rfl ?_
    refine ez_sald (q := 1077) dL_law_1076 hG rfl (by omega) (by omega) rfl ?_
    refine ez_aload_n (q := 1078) 0 dL_law_1077 rfl rfl rfl ?_
    refine ez_iload (q := 1080) dL_law_1078 rfl rfl ?_
    refine ez_iconst (v := nI 2) (q := 1081) dL_law_1080 (by decide) rfl ?_
    refine ez_iaddN (q := 1082) dL_law_1081 rfl ?_
    refine ez_sald (q := 1083) dL_law_1082 hG rfl (by omega) (by omega) rfl ?_
    refine cXv (q := 1086) dL_law_1083 ck_L_142 hM.1 (t_X8_compare (d := 2) hM.rb hz ho hs) rfl ⟨by decide, rfl⟩ rfl rfl rfl (Nat.le_of_ble_eq_true rfl) rfl (fun g hW8 => ?_)
    obtain ⟨r', se', ro', le', de', wa', ww', rw', rm', sp', fm', ff', hM⟩ := hW8
    have hout := (hM.frm 74 (by decide)).trans hout
    have hI := hI.to (fun j a c => hM.frm j (by omega))
    have hM := hM.rb
    refine ez_istore_6 (q := 1088) dL_law_1086 (Nat.le_of_ble_eq_true rfl) rfl rfl ?_
    refine ez_aload_n (q := 1089) 2 dL_law_1088 rfl rfl rfl ?_
    refine cMv (q := 1092) dL_law_1089 ck_L_83 hM (t_X8_thrown hM.rb) rfl rfl rfl rfl rfl (Nat.le_of_ble_eq_true rfl) rfl (fun g hM => ?_)
    have hout := (hM.frm 74 (by decide)).trans hout
    have hI := hI.to (fun j a c => hM.frm j (by omega))
    have hM := hM.rb
    refine ez_iload (q := 1094) dL_law_1092 rfl rfl ?_
    refine ez_icmpeq (q := 1097) (tgt := 1099) dL_law_1094 (by decide) rfl (fun hc1094 => ?_) (fun hc1094 => absurd (by rfl) hc1094)
    refine ez_iload (q := 1101) dL_law_1099 rfl rfl ?_
    refine ez_ifne (q := 1104) (tgt := 1116) dL_law_1101 (by decide) rfl (fun hc1101 => ?_) (fun hc1101 => absurd hc1101 (nI_ne0 (Nat.pos_of_ne_zero hc) (by omega)))
    refine ez_goto (q := 1378) dL_law_1116 (by decide) ?_
    exact E.fg (K _ _ hm ⟨_, _, _, _, _, _, _, _, _, _, hI, ho, hs, hz9, ⟨_, hout⟩, _, _, _, _, _, _, ⟨_, _, _, _, _, _, _, _, _, _, _, _, hM⟩, hz, hv, hzz, hb⟩) ⟨Or.inr rfl, Or.inr rfl, Or.inr rfl, Or.inr rfl, Or.inr rfl, Or.inl rfl, Or.inl rfl, Or.inl rfl, Or.inl rfl, trivial⟩

set_option maxHeartbeats 800000 in
set_option maxRecDepth 100000 in
theorem op_count {G : ez_G} {nm : String} {hh : List (Nat × Nat × Nat × Nat)} {N i n mc ms : Nat} {sc : Nat → Int32} {h : ez_H} {Q : ez_Q} (hN : N ≤ 2048) (hi : i + 4 ≤ N) (hG : ez_N G = N ∧ ez_sc G = sc) (hL : LI h) (K : ∀ g m, n ≤ m → LI g → E G (mLw nm hh) 14 Q g m mc ms 1378 [some (.ref 0), some (.ref 1), some (.ref 64), some (.ref 74), some (.int (nI i)), none, none, none, none] []) : E G (mLw nm hh) 14 Q h n (3 + mc) (18 + ms) 1119 [some (.ref 0), some (.ref 1), some (.ref 64), some (.ref 74), some (.int (nI i)), none, none, none, none] [] := by
  obtain ⟨n', f, L, T, ln, sg, k, zs, t, b, hI, ho, hs, hz9, ⟨o, hout⟩, th, z, sv, bf, ha, zr, ⟨r, se, ro, le, de, wa, ww, rw, rm, sp, fm, ff, hM⟩, hz, hv, hzz, hb⟩ := hL
  have hk : k ≤ 6 := hI.2.2.1.elim (fun o ho => ho.2.2.1)
  have hcd : (cdC (sc (i + 1))) ≤ 2 := by
    unfold cdC
    repeat' split
    all_goals decide
  by_cases hc : (cdC (sc (i + 1))) = 0
  · refine ez_aload_n (q := 1120) 1 dL_law_1119 rfl rfl rfl ?_
    refine ez_aload_n (q := 1121) 0 dL_law_1120 rfl rfl rfl ?_
    refine ez_iload (q := 1123) dL_law_1121 rfl rfl ?_
    refine ez_iconst (v := nI 1) (q := 1124) dL_law_1123 (by decide) rfl ?_
    refine ez_iaddN (q := 1125) dL_law_1124 rfl ?_
    refine ez_sald (q := 1126) dL_law_1125 hG rfl (by omega) (by omega) rfl ?_
    refine ez_aload_n (q := 1127) 3 dL_law_1126 rfl rfl rfl ?_
    refine cPK0 (mc := mc) (ms := ms) hc (q := 1130) dL_law_1127 ck_L_143 (c_L_count (d := 5) ⟨hI, fun _ _ => rfl⟩ ho hs hout) rfl rfl rfl (Nat.le_of_ble_eq_true rfl) rfl (fun g g0 o' m hW hg hout hv' hm => ?_)
    have hM := hM.to (fun j a c => (hg j (by omega)).trans (hW.2 j (Or.inr a)))
    have hI := hW.1.to (fun j a c => hg j (by omega))
    refine ez_istore_5 (q := 1132) dL_law_1130 (Nat.le_of_ble_eq_true rfl) rfl rfl ?_
    refine ez_aload_n (q := 1133) 2 dL_law_1132 rfl rfl rfl ?_
    refine ez_aload_n (q := 1134) 0 dL_law_1133 rfl rfl rfl ?_
    refine ez_iload (q := 1136) dL_law_1134 rfl rfl ?_
    refine ez_iconst (v := nI 1) (q := 1137) dL_law_1136 (by decide) rfl ?_
    refine ez_iaddN (q := 1138) dL_law_1137 rfl ?_
    refine ez_sald (q := 1139) dL_law_1138 hG rfl (by omega) (by omega) rfl ?_
    refine cXv (q := 1142) dL_law_1139 ck_L_145 hM.1 (t_X8_count (d := 1) hM.rb hz ho hs) rfl ⟨by decide, rfl⟩ rfl rfl rfl (Nat.le_of_ble_eq_true rfl) rfl (fun g hW8 => ?_)
    obtain ⟨r', se', ro', le', de', wa', ww', rw', rm', sp', fm', ff', hM⟩ := hW8
    rw [hc] at hM
    have hout := (hM.frm 74 (by decide)).trans hout
    have hI := hI.to (fun j a c => hM.frm j (by omega))
    have hM := hM.rb
    refine ez_istore_6 (q := 1144) dL_law_1142 (Nat.le_of_ble_eq_true rfl) rfl rfl ?_
    refine ez_aload_n (q := 1145) 2 dL_law_1144 rfl rfl rfl ?_
    refine cMv (q := 1148) dL_law_1145 ck_L_83 hM (t_X8_thrown hM.rb) rfl rfl rfl rfl rfl (Nat.le_of_ble_eq_true rfl) rfl (fun g hM => ?_)
    have hout := (hM.frm 74 (by decide)).trans hout
    have hI := hI.to (fun j a c => hM.frm j (by omega))
    have hM := hM.rb
    refine ez_iload (q := 1150) dL_law_1148 rfl rfl ?_
    refine ez_icmpeq (q := 1153) (tgt := 1155) dL_law_1150 (by decide) rfl (fun hc1150 => ?_) (fun hc1150 => absurd (by rfl) hc1150)
    refine ez_iload (q := 1157) dL_law_1155 rfl rfl ?_
    refine ez_ifne (q := 1160) (tgt := 1172) dL_law_1157 (by decide) rfl (fun hc1157 => absurd rfl hc1157) (fun hc1157 => ?_)
    refine ez_aload_n (q := 1161) 3 dL_law_1160 rfl rfl rfl ?_
    refine ez_iconst (v := nI 0) (q := 1162) dL_law_1161 (by decide) rfl ?_
    refine ez_lald (q := 1163) dL_law_1162 hout rfl (by omega) (by omega) rfl ?_
    refine ez_iload (q := 1165) dL_law_1163 rfl rfl ?_
    refine ez_i2l (q := 1166) dL_law_1165 rfl ?_
    refine ez_lcmp (q := 1167) dL_law_1166 rfl ?_
    refine ez_top (lg_eq (hv'.trans (by rw [aW, if_pos hc]))) ?_
    refine ez_ifeq (q := 1170) (tgt := 1172) dL_law_1167 (by decide) rfl (fun hc1167 => ?_) (fun hc1167 => absurd rfl hc1167)
    refine ez_goto (q := 1378) dL_law_1172 (by decide) ?_
    exact E.fg (K _ _ hm ⟨_, _, _, _, _, _, _, _, _, _, hI, ho, hs, hz9, ⟨_, hout⟩, _, _, _, _, _, _, ⟨_, _, _, _, _, _, _, _, _, _, _, _, hM⟩, hz, hv, hzz, hb⟩) ⟨Or.inr rfl, Or.inr rfl, Or.inr rfl, Or.inr rfl, Or.inr rfl, Or.inl rfl, Or.inl rfl, Or.inl rfl, Or.inl rfl, trivial⟩
  · refine ez_aload_n (q := 1120) 1 dL_law_1119 rfl rfl rfl ?_
    refine ez_aload_n (q := 1121) 0 dL_law_1120 rfl rfl rfl ?_
    refine ez_iload (q := 1123) dL_law_1121 rfl rfl ?_
    refine ez_iconst (v := nI 1) (q := 1124) dL_law_1123 (by decide) rfl ?_
    refine ez_iaddN (q := 1125) dL_law_1124 rfl ?_
    refine ez_sald (q := 1126) dL_law_1125 hG rfl (by omega) (by omega) rfl ?_
    refine ez_aload_n (q := 1127) 3 dL_law_1126 rfl rfl rfl ?_
    refine cPK1 (mc := mc) (ms := ms) hc (q := 1130) dL_law_1127 ck_L_143 (c_L_count (d := 5) ⟨hI, fun _ _ => rfl⟩ ho hs hout) rfl rfl rfl (Nat.le_of_ble_eq_true rfl) rfl (fun g m hW hm => ?_)
    have hout := (hW.2 74 (Or.inr (by decide))).trans hout
    have hM := hM.to (fun j a c => hW.2 j (Or.inr a))
    have hI := hW.1
    refine ez_istore_5 (q := 1132) dL_law_1130 (Nat.le_of_ble_eq_true rfl) rfl rfl ?_
    refine ez_aload_n (q := 1133) 2 dL_law_1132 rfl rfl rfl ?_
    refine ez_aload_n (q := 1134) 0 dL_law_1133 rfl rfl rfl ?_
    refine ez_iload (q := 1136) dL_law_1134 rfl rfl ?_
    refine ez_iconst (v := nI 1) (q := 1137) dL_law_1136 (by decide) rfl ?_
    refine ez_iaddN (q := 1138) dL_law_1137 rfl ?_
    refine ez_sald (q := 1139) dL_law_1138 hG rfl (by omega) (by omega) rfl ?_
    refine cXv (q := 1142) dL_law_1139 ck_L_145 hM.1 (t_X8_count (d := 1) hM.rb hz ho hs) rfl ⟨by decide, rfl⟩ rfl rfl rfl (Nat.le_of_ble_eq_true rfl) rfl (fun g hW8 => ?_)
    obtain ⟨r', se', ro', le', de', wa', ww', rw', rm', sp', fm', ff', hM⟩ := hW8
    have hout := (hM.frm 74 (by decide)).trans hout
    have hI := hI.to (fun j a c => hM.frm j (by omega))
    have hM := hM.rb
    refine ez_istore_6 (q := 1144) dL_law_1142 (Nat.le_of_ble_eq_true rfl) rfl rfl ?_
    refine ez_aload_n (q := 1145) 2 dL_law_1144 rfl rfl rfl ?_
    refine cMv (q := 1148) dL_law_1145 ck_L_83 hM (t_X8_thrown hM.rb) rfl rfl rfl rfl rfl (Nat.le_of_ble_eq_true rfl) rfl (fun g hM => ?_)
    have hout := (hM.frm 74 (by decide)).trans hout
    have hI := hI.to (fun j a c => hM.frm j (by omega))
    have hM := hM.rb
    refine ez_iload (q := 1150) dL_law_1148 rfl rfl ?_
    refine ez_icmpeq (q := 1153) (tgt := 1155) dL_law_1150 (by decide) rfl (fun hc1150 => ?_) (fun hc1150 => absurd (by rfl) hc1150)
    refine ez_iload (q := 1157) dL_law_1155 rfl rfl ?_
    refine ez_ifne (q := 1160) (tgt := 1172) dL_law_1157 (by decide) rfl (fun hc1157 => ?_) (fun hc1157 => absurd hc1157 (nI_ne0 (Nat.pos_of_ne_zero hc) (by omega)))
    refine ez_goto (q := 1378) dL_law_1172 (by decide) ?_
    exact E.fg (K _ _ hm ⟨_, _, _, _, _, _, _, _, _, _, hI, ho, hs, hz9, ⟨_, hout⟩, _, _, _, _, _, _, ⟨_, _, _, _, _, _, _, _, _, _, _, _, hM⟩, hz, hv, hzz, hb⟩) ⟨Or.inr rfl, Or.inr rfl, Or.inr rfl, Or.inr rfl, Or.inr rfl, Or.inl rfl, Or.inl rfl, Or.inl rfl, Or.inl rfl, trivial⟩

set_option maxHeartbeats 800000 in
set_option maxRecDepth 100000 in
theorem op_fixes {G : ez_G} {nm : String} {hh : List (Nat × Nat × Nat × Nat)} {N i n mc ms : Nat} {sc : Nat → Int32} {h : ez_H} {Q : ez_Q} (hN : N ≤ 2048) (hi : i + 4 ≤ N) (hG : ez_N G = N ∧ ez_sc G = sc) (hL : LI h) (K : ∀ g m, n ≤ m → LI g → E G (mLw nm hh) 14 Q g m mc ms 1378 [some (.ref 0), some (.ref 1), some (.ref 64), some (.ref 74), some (.int (nI i)), none, none, none, none] []) : E G (mLw nm hh) 14 Q h n (3 + mc) (18 + ms) 1175 [some (.ref 0), some (.ref 1), some (.ref 64), some (.ref 74), some (.int (nI i)), none, none, none, none] [] := by
  obtain ⟨n', f, L, T, ln, sg, k, zs, t, b, hI, ho, hs, hz9, ⟨o, hout⟩, th, z, sv, bf, ha, zr, ⟨r, se, ro, le, de, wa, ww, rw, rm, sp, fm, ff, hM⟩, hz, hv, hzz, hb⟩ := hL
  have hk : k ≤ 6 := hI.2.2.1.elim (fun o ho => ho.2.2.1)
  have hcd : (cdF n' (sc (i + 1)) (sc (i + 2)) (sc (i + 3))) ≤ 2 := by
    unfold cdF
    repeat' split
    all_goals decide
  by_cases hc : (cdF n' (sc (i + 1)) (sc (i + 2)) (sc (i + 3))) = 0
  · refine ez_aload_n (q := 1176) 1 dL_law_1175 rfl rfl rfl ?_
    refine ez_aload_n (q := 1177) 0 dL_law_1176 rfl rfl rfl ?_
    refine ez_iload (q := 1179) dL_law_1177 rfl rfl ?_
    refine ez_iconst (v := nI 1) (q := 1180) dL_law_1179 (by decide) rfl ?_
    refine ez_iaddN (q := 1181) dL_law_1180 rfl ?_
    refine ez_sald (q := 1182) dL_law_1181 hG rfl (by omega) (by omega) rfl ?_
    refine ez_aload_n (q := 1183) 0 dL_law_1182 rfl rfl rfl ?_
    refine ez_iload (q := 1185) dL_law_1183 rfl rfl ?_
    refine ez_iconst (v := nI 2) (q := 1186) dL_law_1185 (by decide) rfl ?_
    refine ez_iaddN (q := 1187) dL_law_1186 rfl ?_
    refine ez_sald (q := 1188) dL_law_1187 hG rfl (by omega) (by omega) rfl ?_
    refine ez_aload_n (q := 1189) 0 dL_law_1188 rfl rfl rfl ?_
    refine ez_iload (q := 1191) dL_law_1189 rfl rfl ?_
    refine ez_iconst (v := nI 3) (q := 1192) dL_law_1191 (by decide) rfl ?_
    refine ez_iaddN (q := 1193) dL_law_1192 rfl ?_
    refine ez_sald (q := 1194) dL_law_1193 hG rfl (by omega) (by omega) rfl ?_
    refine ez_aload_n (q := 1195) 3 dL_law_1194 rfl rfl rfl ?_
    refine cPK0 (mc := mc) (ms := ms) hc (q := 1198) dL_law_1195 ck_L_146 (c_L_fixes (d := 5) ⟨hI, fun _ _ => rfl⟩ ho hs hout) rfl rfl rfl (Nat.le_of_ble_eq_true rfl) rfl (fun g g0 o' m hW hg hout hv' hm => ?_)
    have hM := hM.to (fun j a c => (hg j (by omega)).trans (hW.2 j (Or.inr a)))
    have hI := hW.1.to (fun j a c => hg j (by omega))
    refine ez_istore_5 (q := 1200) dL_law_1198 (Nat.le_of_ble_eq_true rfl) rfl rfl ?_
    refine ez_aload_n (q := 1201) 2 dL_law_1200 rfl rfl rfl ?_
    refine ez_aload_n (q := 1202) 0 dL_law_1201 rfl rfl rfl ?_
    refine ez_iload (q := 1204) dL_law_1202 rfl rfl ?_
    refine ez_iconst (v := nI 1) (q := 1205) dL_law_1204 (by decide) rfl ?_
    refine ez_iaddN (q := 1206) dL_law_1205 rfl ?_
    refine ez_sald (q := 1207) dL_law_1206 hG rfl (by omega) (by omega) rfl ?_
    refine ez_aload_n (q := 1208) 0 dL_law_1207 rfl rfl rfl ?_
    refine ez_iload (q := 1210) dL_law_1208 rfl rfl ?_
    refine ez_iconst (v := nI 2) (q := 1211) dL_law_1210 (by decide) rfl ?_
    refine ez_iaddN (q := 1212) dL_law_1211 rfl ?_
    refine ez_sald (q := 1213) dL_law_1212 hG rfl (by omega) (by omega) rfl ?_
    refine ez_aload_n (q := 1214) 0 dL_law_1213 rfl rfl rfl ?_
    refine ez_iload (q := 1216) dL_law_1214 rfl rfl ?_
    refine ez_iconst (v := nI 3) (q := 1217) dL_law_1216 (by decide) rfl ?_
    refine ez_iaddN (q := 1218) dL_law_1217 rfl ?_
    refine ez_sald (q := 1219) dL_law_1218 hG rfl (by omega) (by omega) rfl ?_
    refine cXv (q := 1222) dL_law_1219 ck_L_148 hM.1 (t_X8_fixes (d := 1) hM.rb hz ho hs) rfl ⟨by decide, rfl⟩ rfl rfl rfl (Nat.le_of_ble_eq_true rfl) rfl (fun g hW8 => ?_)
    obtain ⟨r', se', ro', le', de', wa', ww', rw', rm', sp', fm', ff', hM⟩ := hW8
    rw [hc] at hM
    have hout := (hM.frm 74 (by decide)).trans hout
    have hI := hI.to (fun j a c => hM.frm j (by omega))
    have hM := hM.rb
    refine ez_istore_6 (q := 1224) dL_law_1222 (Nat.le_of_ble_eq_true rfl) rfl rfl ?_
    refine ez_aload_n (q := 1225) 2 dL_law_1224 rfl rfl rfl ?_
    refine cMv (q := 1228) dL_law_1225 ck_L_83 hM (t_X8_thrown hM.rb) rfl rfl rfl rfl rfl (Nat.le_of_ble_eq_true rfl) rfl (fun g hM => ?_)
    have hout := (hM.frm 74 (by decide)).trans hout
    have hI := hI.to (fun j a c => hM.frm j (by omega))
    have hM := hM.rb
    refine ez_iload (q := 1230) dL_law_1228 rfl rfl ?_
    refine ez_icmpeq (q := 1233) (tgt := 1235) dL_law_1230 (by decide) rfl (fun hc1230 => ?_) (fun hc1230 => absurd (by rfl) hc1230)
    refine ez_iload (q := 1237) dL_law_1235 rfl rfl ?_
    refine ez_ifne (q := 1240) (tgt := 1252) dL_law_1237 (by decide) rfl (fun hc1237 => absurd rfl hc1237) (fun hc1237 => ?_)
    refine ez_aload_n (q := 1241) 3 dL_law_1240 rfl rfl rfl ?_
    refine ez_iconst (v := nI 0) (q := 1242) dL_law_1241 (by decide) rfl ?_
    refine ez_lald (q := 1243) dL_law_1242 hout rfl (by omega) (by omega) rfl ?_
    refine ez_iload (q := 1245) dL_law_1243 rfl rfl ?_
    refine ez_i2l (q := 1246) dL_law_1245 rfl ?_
    refine ez_lcmp (q := 1247) dL_law_1246 rfl ?_
    refine ez_top (lg_eq (hv'.trans (by rw [aW, if_pos hc]))) ?_
    refine ez_ifeq (q := 1250) (tgt := 1252) dL_law_1247 (by decide) rfl (fun hc1247 => ?_) (fun hc1247 => absurd rfl hc1247)
    refine ez_goto (q := 1378) dL_law_1252 (by decide) ?_
    exact E.fg (K _ _ hm ⟨_, _, _, _, _, _, _, _, _, _, hI, ho, hs, hz9, ⟨_, hout⟩, _, _, _, _, _, _, ⟨_, _, _, _, _, _, _, _, _, _, _, _, hM⟩, hz, hv, hzz, hb⟩) ⟨Or.inr rfl, Or.inr rfl, Or.inr rfl, Or.inr rfl, Or.inr rfl, Or.inl rfl, Or.inl rfl, Or.inl rfl, Or.inl rfl, trivial⟩
  · refine ez_aload_n (q := 1176) 1 dL_law_1175 rfl rfl rfl ?_
    refine ez_aload_n (q := 1177) 0 dL_law_1176 rfl rfl rfl ?_
    refine ez_iload (q := 1179) dL_law_1177 rfl rfl ?_
    refine ez_iconst (v := nI 1) (q := 1180) dL_law_1179 (by decide) rfl ?_
    refine ez_iaddN (q := 1181) dL_law_1180 rfl ?_
    refine ez_sald (q := 1182) dL_law_1181 hG rfl (by omega) (by omega) rfl ?_
    refine ez_aload_n (q := 1183) 0 dL_law_1182 rfl rfl rfl ?_
    refine ez_iload (q := 1185) dL_law_1183 rfl rfl ?_
    refine ez_iconst (v := nI 2) (q := 1186) dL_law_1185 (by decide) rfl ?_
    refine ez_iaddN (q := 1187) dL_law_1186 rfl ?_
    refine ez_sald (q := 1188) dL_law_1187 hG rfl (by omega) (by omega) rfl ?_
    refine ez_aload_n (q := 1189) 0 dL_law_1188 rfl rfl rfl ?_
    refine ez_iload (q := 1191) dL_law_1189 rfl rfl ?_
    refine ez_iconst (v := nI 3) (q := 1192) dL_law_1191 (by decide) rfl ?_
    refine ez_iaddN (q := 1193) dL_law_1192 rfl ?_
    refine ez_sald (q := 1194) dL_law_1193 hG rfl (by omega) (by omega) rfl ?_
    refine ez_aload_n (q := 1195) 3 dL_law_1194 rfl rfl rfl ?_
    refine cPK1 (mc := mc) (ms := ms) hc (q := 1198) dL_law_1195 ck_L_146 (c_L_fixes (d := 5) ⟨hI, fun _ _ => rfl⟩ ho hs hout) rfl rfl rfl (Nat.le_of_ble_eq_true rfl) rfl (fun g m hW hm => ?_)
    have hout := (hW.2 74 (Or.inr (by decide))).trans hout
    have hM := hM.to (fun j a c => hW.2 j (Or.inr a))
    have hI := hW.1
    refine ez_istore_5 (q := 1200) dL_law_1198 (Nat.le_of_ble_eq_true rfl) rfl rfl ?_
    refine ez_aload_n (q := 1201) 2 dL_law_1200 rfl rfl rfl ?_
    refine ez_aload_n (q := 1202) 0 dL_law_1201 rfl rfl rfl ?_
    refine ez_iload (q := 1204) dL_law_1202 rfl rfl ?_
    refine ez_iconst (v := nI 1) (q := 1205) dL_law_1204 (by decide) rfl ?_
    refine ez_iaddN (q := 1206) dL_law_1205 rfl ?_
    refine ez_sald (q := 1207) dL_law_1206 hG rfl (by omega) (by omega) rfl ?_
    refine ez_aload_n (q := 1208) 0 dL_law_1207 rfl rfl rfl ?_
    refine ez_iload (q := 1210) dL_law_1208 rfl rfl ?_
    refine ez_iconst (v := nI 2) (q := 1211) dL_law_1210 (by decide) rfl ?_
    refine ez_iaddN (q := 1212) dL_law_1211 rfl ?_
    refine ez_sald (q := 1213) dL_law_1212 hG rfl (by omega) (by omega) rfl ?_
    refine ez_aload_n (q := 1214) 0 dL_law_1213 rfl rfl rfl ?_
    refine ez_iload (q := 1216) dL_law_1214 rfl rfl ?_
    refine ez_iconst (v := nI 3) (q := 1217) dL_law_1216 (by decide) rfl ?_
    refine ez_iaddN (q := 1218) dL_law_1217 rfl ?_
    refine ez_sald (q := 1219) dL_law_1218 hG rfl (by omega) (by omega) rfl ?_
    refine cXv (q := 1222) dL_law_1219 ck_L_148 hM.1 (t_X8_fixes (d := 1) hM.rb hz ho hs) rfl ⟨by decide, rfl⟩ rfl rfl rfl (Nat.le_of_ble_eq_true rfl) rfl (fun g hW8 => ?_)
    obtain ⟨r', se', ro', le', de', wa', ww', rw', rm', sp', fm', ff', hM⟩ := hW8
    have hout := (hM.frm 74 (by decide)).trans hout
    have hI := hI.to (fun j a c => hM.frm j (by omega))
    have hM := hM.rb
    refine ez_istore_6 (q := 1224) dL_law_1222 (Nat.le_of_ble_eq_true rfl) rfl rfl ?_
    refine ez_aload_n (q := 1225) 2 dL_law_1224 rfl rfl rfl ?_
    refine cMv (q := 1228) dL_law_1225 ck_L_83 hM (t_X8_thrown hM.rb) rfl rfl rfl rfl rfl (Nat.le_of_ble_eq_true rfl) rfl (fun g hM => ?_)
    have hout := (hM.frm 74 (by decide)).trans hout
    have hI := hI.to (fun j a c => hM.frm j (by omega))
    have hM := hM.rb
    refine ez_iload (q := 1230) dL_law_1228 rfl rfl ?_
    refine ez_icmpeq (q := 1233) (tgt := 1235) dL_law_1230 (by decide) rfl (fun hc1230 => ?_) (fun hc1230 => absurd (by rfl) hc1230)
    refine ez_iload (q := 1237) dL_law_1235 rfl rfl ?_
    refine ez_ifne (q := 1240) (tgt := 1252) dL_law_1237 (by decide) rfl (fun hc1237 => ?_) (fun hc1237 => absurd hc1237 (nI_ne0 (Nat.pos_of_ne_zero hc) (by omega)))
    refine ez_goto (q := 1378) dL_law_1252 (by decide) ?_
    exact E.fg (K _ _ hm ⟨_, _, _, _, _, _, _, _, _, _, hI, ho, hs, hz9, ⟨_, hout⟩, _, _, _, _, _, _, ⟨_, _, _, _, _, _, _, _, _, _, _, _, hM⟩, hz, hv, hzz, hb⟩) ⟨Or.inr rfl, Or.inr rfl, Or.inr rfl, Or.inr rfl, Or.inr rfl, Or.inl rfl, Or.inl rfl, Or.inl rfl, Or.inl rfl, trivial⟩

set_option maxHeartbeats 800000 in
set_option maxRecDepth 100000 in
theorem op_ifFair {G : ez_G} {nm : String} {hh : List (Nat × Nat × Nat × Nat)} {N i n mc ms : Nat} {sc : Nat → Int32} {h : ez_H} {Q : ez_Q} (hN : N ≤ 2048) (hi : i + 4 ≤ N) (hG : ez_N G = N ∧ ez_sc G = sc) (hL : LI h) (K : ∀ g m, n ≤ m → LI g → E G (mLw nm hh) 14 Q g m mc ms 1378 [some (.ref 0), some (.ref 1), some (.ref 64), some (.ref 74), some (.int (nI i)), none, none, none, none] []) : E G (mLw nm hh) 14 Q h n (3 + mc) (18 + ms) 1255 [some (.ref 0), some (.ref 1), some (.ref 64), some (.ref 74), some (.int (nI i)), none, none, none, none] [] := by
  obtain ⟨n', f, L, T, ln, sg, k, zs, t, b, hI, ho, hs, hz9, ⟨o, hout⟩, th, z, sv, bf, ha, zr, ⟨r, se, ro, le, de, wa, ww, rw, rm, sp, fm, ff, hM⟩, hz, hv, hzz, hb⟩ := hL
  have hk : k ≤ 6 := hI.2.2.1.elim (fun o ho => ho.2.2.1)
  have hcd : (cdL (sc (i + 1)) (sc (i + 2))) ≤ 2 := by
    unfold cdL
    repeat' split
    all_goals decide
  by_cases hc : (cdL (sc (i + 1)) (sc (i + 2))) = 0
  · refine ez_aload_n (q := 1256) 1 dL_law_1255 rfl rfl rfl ?_
    refine ez_aload_n (q := 1257) 0 dL_law_1256 rfl rfl rfl ?_
    refine ez_iload (q := 1259) dL_law_1257 rfl rfl ?_
    refine ez_iconst (v := nI 1) (q := 1260) dL_law_1259 (by decide) rfl ?_
    refine ez_iaddN (q := 1261) dL_law_1260 rfl ?_
    refine ez_sald (q := 1262) dL_law_1261 hG rfl (by omega) (by omega) rfl ?_
    refine ez_aload_n (q := 1263) 0 dL_law_1262 rfl rfl rfl ?_
    refine ez_iload (q := 1265) dL_law_1263 rfl rfl ?_
    refine ez_iconst (v := nI 2) (q := 1266) dL_law_1265 (by decide) rfl ?_
    refine ez_iaddN (q := 1267) dL_law_1266 rfl ?_
    refine ez_sald (q := 1268) dL_law_1267 hG rfl (by omega) (by omega) rfl ?_
    refine ez_aload_n (q := 1269) 3 dL_law_1268 rfl rfl rfl ?_
    refine cPK0 (mc := mc) (ms := ms) hc (q := 1272) dL_law_1269 ck_L_149 (c_L_ifFair (d := 5) ⟨hI, fun _ _ => rfl⟩ ho hs hout) rfl rfl rfl (Nat.le_of_ble_eq_true rfl) rfl (fun g g0 o' m hW hg hout hv' hm => ?_)
    have hM := hM.to (fun j a c => (hg j (by omega)).trans (hW.2 j (Or.inr a)))
    have hI := hW.1.to (fun j a c => hg j (by omega))
    refine ez_istore_5 (q := 1274) dL_law_1272 (Nat.le_of_ble_eq_true rfl) rfl rfl ?_
    refine ez_aload_n (q := 1275) 2 dL_law_1274 rfl rfl rfl ?_
    refine ez_aload_n (q := 1276) 0 dL_law_1275 rfl rfl rfl ?_
    refine ez_iload (q := 1278) dL_law_1276 rfl rfl ?_
    refine ez_iconst (v := nI 1) (q := 1279) dL_law_1278 (by decide) rfl ?_
    refine ez_iaddN (q := 1280) dL_law_1279 rfl ?_
    refine ez_sald (q := 1281) dL_law_1280 hG rfl (by omega) (by omega) rfl ?_
    refine ez_aload_n (q := 1282) 0 dL_law_1281 rfl rfl rfl ?_
    refine ez_iload (q := 1284) dL_law_1282 rfl rfl ?_
    refine ez_iconst (v := nI 2) (q := 1285) dL_law_1284 (by decide) rfl ?_
    refine ez_iaddN (q := 1286) dL_law_1285 rfl ?_
    refine ez_sald (q := 1287) dL_law_1286 hG rfl (by omega) (by omega) rfl ?_
    refine cXv (q := 1290) dL_law_1287 ck_L_151 hM.1 (t_X8_ifFair (d := 2) hM.rb hz ho hs) rfl ⟨by decide, rfl⟩ rfl rfl rfl (Nat.le_of_ble_eq_true rfl) rfl (fun g hW8 => ?_)
    obtain ⟨r', se', ro', le', de', wa', ww', rw', rm', sp', fm', ff', hM⟩ := hW8
    rw [hc] at hM
    have hout := (hM.frm 74 (by decide)).trans hout
    have hI := hI.to (fun j a c => hM.frm j (by omega))
    have hM := hM.rb
    refine ez_istore_6 (q := 1292) dL_law_1290 (Nat.le_of_ble_eq_true rfl) rfl rfl ?_
    refine ez_aload_n (q := 1293) 2 dL_law_1292 rfl rfl rfl ?_
    refine cMv (q := 1296) dL_law_1293 ck_L_83 hM (t_X8_thrown hM.rb) rfl rfl rfl rfl rfl (Nat.le_of_ble_eq_true rfl) rfl (fun g hM => ?_)
    have hout := (hM.frm 74 (by decide)).trans hout
    have hI := hI.to (fun j a c => hM.frm j (by omega))
    have hM := hM.rb
    refine ez_iload (q := 1298) dL_law_1296 rfl rfl ?_
    refine ez_icmpeq (q := 1301) (tgt := 1303) dL_law_1298 (by decide) rfl (fun hc1298 => ?_) (fun hc1298 => absurd (by rfl) hc1298)
    refine ez_iload (q := 1305) dL_law_1303 rfl rfl ?_
    refine ez_ifne (q := 1308) (tgt := 1320) dL_law_1305 (by decide) rfl (fun hc1305 => absurd rfl hc1305) (fun hc1305 => ?_)
    refine ez_aload_n (q := 1309) 3 dL_law_1308 rfl rfl rfl ?_
    refine ez_iconst (v := nI 0) (q := 1310) dL_law_1309 (by decide) rfl ?_
    refine ez_lald (q := 1311) dL_law_1310 hout rfl (by omega) (by omega) rfl ?_
    refine ez_iload (q := 1313) dL_law_1311 rfl rfl ?_
    refine ez_i2l (q := 1314) dL_law_1313 rfl ?_
    refine ez_lcmp (q := 1315) dL_law_1314 rfl ?_
    refine ez_top (lg_eq (hv'.trans (by rw [aW, if_pos hc]))) ?_
    refine ez_ifeq (q := 1318) (tgt := 1320) dL_law_1315 (by decide) rfl (fun hc1315 => ?_) (fun hc1315 => absurd rfl hc1315)
    refine ez_goto (q := 1378) dL_law_1320 (by decide) ?_
    exact E.fg (K _ _ hm ⟨_, _, _, _, _, _, _, _, _, _, hI, ho, hs, hz9, ⟨_, hout⟩, _, _, _, _, _, _, ⟨_, _, _, _, _, _, _, _, _, _, _, _, hM⟩, hz, hv, hzz, hb⟩) ⟨Or.inr rfl, Or.inr rfl, Or.inr rfl, Or.inr rfl, Or.inr rfl, Or.inl rfl, Or.inl rfl, Or.inl rfl, Or.inl rfl, trivial⟩
  · refine ez_aload_n (q := 1256) 1 dL_law_1255 rfl rfl rfl ?_
    refine ez_aload_n (q := 1257) 0 dL_law_1256 rfl rfl rfl ?_
    refine ez_iload (q := 1259) dL_law_1257 rfl rfl ?_
    refine ez_iconst (v := nI 1) (q := 1260) dL_law_1259 (by decide) rfl ?_
    refine ez_iaddN (q := 1261) dL_law_1260 rfl ?_
    refine ez_sald (q := 1262) dL_law_1261 hG rfl (by omega) (by omega) rfl ?_
    refine ez_aload_n (q := 1263) 0 dL_law_1262 rfl rfl rfl ?_
    refine ez_iload (q := 1265) dL_law_1263 rfl rfl ?_
    refine ez_iconst (v := nI 2) (q := 1266) dL_law_1265 (by decide) rfl ?_
    refine ez_iaddN (q := 1267) dL_law_1266 rfl ?_
    refine ez_sald (q := 1268) dL_law_1267 hG rfl (by omega) (by omega) rfl ?_
    refine ez_aload_n (q := 1269) 3 dL_law_1268 rfl rfl rfl ?_
    refine cPK1 (mc := mc) (ms := ms) hc (q := 1272) dL_law_1269 ck_L_149 (c_L_ifFair (d := 5) ⟨hI, fun _ _ => rfl⟩ ho hs hout) rfl rfl rfl (Nat.le_of_ble_eq_true rfl) rfl (fun g m hW hm => ?_)
    have hout := (hW.2 74 (Or.inr (by decide))).trans hout
    have hM := hM.to (fun j a c => hW.2 j (Or.inr a))
    have hI := hW.1
    refine ez_istore_5 (q := 1274) dL_law_1272 (Nat.le_of_ble_eq_true rfl) rfl rfl ?_
    refine ez_aload_n (q := 1275) 2 dL_law_1274 rfl rfl rfl ?_
    refine ez_aload_n (q := 1276) 0 dL_law_1275 rfl rfl rfl ?_
    refine ez_iload (q := 1278) dL_law_1276 rfl rfl ?_
    refine ez_iconst (v := nI 1) (q := 1279) dL_law_1278 (by decide) rfl ?_
    refine ez_iaddN (q := 1280) dL_law_1279 rfl ?_
    refine ez_sald (q := 1281) dL_law_1280 hG rfl (by omega) (by omega) rfl ?_
    refine ez_aload_n (q := 1282) 0 dL_law_1281 rfl rfl rfl ?_
    refine ez_iload (q := 1284) dL_law_1282 rfl rfl ?_
    refine ez_iconst (v := nI 2) (q := 1285) dL_law_1284 (by decide) rfl ?_
    refine ez_iaddN (q := 1286) dL_law_1285 rfl ?_
    refine ez_sald (q := 1287) dL_law_1286 hG rfl (by omega) (by omega) rfl ?_
    refine cXv (q := 1290) dL_law_1287 ck_L_151 hM.1 (t_X8_ifFair (d := 2) hM.rb hz ho hs) rfl ⟨by decide, rfl⟩ rfl rfl rfl (Nat.le_of_ble_eq_true rfl) rfl (fun g hW8 => ?_)
    obtain ⟨r', se', ro', le', de', wa', ww', rw', rm', sp', fm', ff', hM⟩ := hW8
    have hout := (hM.frm 74 (by decide)).trans hout
    have hI := hI.to (fun j a c => hM.frm j (by omega))
    have hM := hM.rb
    refine ez_istore_6 (q := 1292) dL_law_1290 (Nat.le_of_ble_eq_true rfl) rfl rfl ?_
    refine ez_aload_n (q := 1293) 2 dL_law_1292 rfl rfl rfl ?_
    refine cMv (q := 1296) dL_law_1293 ck_L_83 hM (t_X8_thrown hM.rb) rfl rfl rfl rfl rfl (Nat.le_of_ble_eq_true rfl) rfl (fun g hM => ?_)
    have hout := (hM.frm 74 (by decide)).trans hout
    have hI := hI.to (fun j a c => hM.frm j (by omega))
    have hM := hM.rb
    refine ez_iload (q := 1298) dL_law_1296 rfl rfl ?_
    refine ez_icmpeq (q := 1301) (tgt := 1303) dL_law_1298 (by decide) rfl (fun hc1298 => ?_) (fun hc1298 => absurd (by rfl) hc1298)
    refine ez_iload (q := 1305) dL_law_1303 rfl rfl ?_
    refine ez_ifne (q := 1308) (tgt := 1320) dL_law_1305 (by decide) rfl (fun hc1305 => ?_) (fun hc1305 => absurd hc1305 (nI_ne0 (Nat.pos_of_ne_zero hc) (by omega)))
    refine ez_goto (q := 1378) dL_law_1320 (by decide) ?_
    exact E.fg (K _ _ hm ⟨_, _, _, _, _, _, _, _, _, _, hI, ho, hs, hz9, ⟨_, hout⟩, _, _, _, _, _, _, ⟨_, _, _, _, _, _, _, _, _, _, _, _, hM⟩, hz, hv, hzz, hb⟩) ⟨Or.inr rfl, Or.inr rfl, Or.inr rfl, Or.inr rfl, Or.inr rfl, Or.inl rfl, Or.inl rfl, Or.inl rfl, Or.inl rfl, trivial⟩

set_option maxHeartbeats 800000 in
set_option maxRecDepth 100000 in
theorem op_fulfilled {G : ez_G} {nm : String} {hh : List (Nat × Nat × Nat × Nat)} {N i n mc ms : Nat} {sc : Nat → Int32} {h : ez_H} {Q : ez_Q} (hN : N ≤ 2048) (hi : i + 4 ≤ N) (hG : ez_N G = N ∧ ez_sc G = sc) (hL : LI h) (K : ∀ g m, n ≤ m → LI g → E G (mLw nm hh) 14 Q g m mc ms 1378 [some (.ref 0), some (.ref 1), some (.ref 64), some (.ref 74), some (.int (nI i)), none, none, none, none] []) : E G (mLw nm hh) 14 Q h n mc ms 1323 [some (.ref 0), some (.ref 1), some (.ref 64), some (.ref 74), some (.int (nI i)), none, none, none, none] [] := by
  obtain ⟨n', f, L, T, ln, sg, k, zs, t, b, hI, ho, hs, hz9, ⟨o, hout⟩, th, z, sv, bf, ha, zr, ⟨r, se, ro, le, de, wa, ww, rw, rm, sp, fm, ff, hM⟩, hz, hv, hzz, hb⟩ := hL
  have hk : k ≤ 6 := hI.2.2.1.elim (fun o ho => ho.2.2.1)
  refine ez_aload_n (q := 1324) 1 dL_law_1323 rfl rfl rfl ?_
  refine cXv (q := 1327) dL_law_1324 ck_L_152 hI.1 (v_X7_fulfilled (d := 7) ⟨hI, fun _ _ => rfl⟩ ho hs) rfl ⟨by decide, rfl⟩ rfl rfl rfl (Nat.le_of_ble_eq_true rfl) rfl (fun g hW => ?_)
  have hout := (hW.2 74 (Or.inr (by decide))).trans hout
  have hM := hM.to (fun j a c => hW.2 j (Or.inr a))
  have hI := hW.1
  refine ez_dstore_5 (q := 1329) dL_law_1327 (Nat.le_of_ble_eq_true rfl) rfl rfl ?_
  refine ez_aload_n (q := 1330) 2 dL_law_1329 rfl rfl rfl ?_
  refine cXv (q := 1333) dL_law_1330 ck_L_156 hM.1 (t_X8_fulfilled (d := 1) hM.rb hz ho hs) rfl ⟨by decide, rfl⟩ rfl rfl rfl (Nat.le_of_ble_eq_true rfl) rfl (fun g hW8 => ?_)
  obtain ⟨r', se', ro', le', de', wa', ww', rw', rm', sp', fm', ff', hM⟩ := hW8
  have hout := (hM.frm 74 (by decide)).trans hout
  have hI := hI.to (fun j a c => hM.frm j (by omega))
  have hM := hM.rb
  refine ez_dstore_7 (q := 1335) dL_law_1333 (Nat.le_of_ble_eq_true rfl) rfl rfl ?_
  refine ez_dload (q := 1337) dL_law_1335 rfl rfl ?_
  refine ez_dload (q := 1339) dL_law_1337 rfl rfl ?_
  refine ez_dcmp (q := 1340) dL_law_1339 rfl ?_
  refine ez_ifeq (q := 1343) (tgt := 1361) dL_law_1340 (by decide) rfl (fun hc1340 => ?_) (fun hc1340 => ?_)
  · refine ez_goto (q := 1378) dL_law_1361 (by decide) ?_
    exact E.fg (K _ _ (Nat.le_refl _) ⟨_, _, _, _, _, _, _, _, _, _, hI, ho, hs, hz9, ⟨_, hout⟩, _, _, _, _, _, _, ⟨_, _, _, _, _, _, _, _, _, _, _, _, hM⟩, hz, hv, hzz, hb⟩) ⟨Or.inr rfl, Or.inr rfl, Or.inr rfl, Or.inr rfl, Or.inr rfl, Or.inl rfl, Or.inl rfl, Or.inl rfl, Or.inl rfl, trivial⟩
  · refine ez_dload (q := 1345) dL_law_1343 rfl rfl ?_
    refine ez_dload (q := 1347) dL_law_1345 rfl rfl ?_
    refine ez_dcmp (q := 1348) dL_law_1347 rfl ?_
    refine ez_ifeq (q := 1351) (tgt := 1359) dL_law_1348 (by decide) rfl (fun hc1348 => absurd hc1348 hc1340) (fun hc1348 => ?_)
    refine ez_dload (q := 1353) dL_law_1351 rfl rfl ?_
    refine ez_dload (q := 1355) dL_law_1353 rfl rfl ?_
    refine ez_dcmp (q := 1356) dL_law_1355 rfl ?_
    refine ez_ifne (q := 1359) (tgt := 1361) dL_law_1356 (by decide) rfl (fun hc1356 => ?_) (fun hc1356 => absurd hc1356 hc1340)
    refine ez_goto (q := 1378) dL_law_1361 (by decide) ?_
    exact E.fg (K _ _ (Nat.le_refl _) ⟨_, _, _, _, _, _, _, _, _, _, hI, ho, hs, hz9, ⟨_, hout⟩, _, _, _, _, _, _, ⟨_, _, _, _, _, _, _, _, _, _, _, _, hM⟩, hz, hv, hzz, hb⟩) ⟨Or.inr rfl, Or.inr rfl, Or.inr rfl, Or.inr rfl, Or.inr rfl, Or.inl rfl, Or.inl rfl, Or.inl rfl, Or.inl rfl, trivial⟩

set_option maxHeartbeats 800000 in
set_option maxRecDepth 100000 in
theorem op_digest {G : ez_G} {nm : String} {hh : List (Nat × Nat × Nat × Nat)} {N i n mc ms : Nat} {sc : Nat → Int32} {h : ez_H} {Q : ez_Q} (hN : N ≤ 2048) (hi : i + 4 ≤ N) (hG : ez_N G = N ∧ ez_sc G = sc) (hL : LI h) (K : ∀ g m, n ≤ m → LI g → E G (mLw nm hh) 14 Q g m mc ms 1378 [some (.ref 0), some (.ref 1), some (.ref 64), some (.ref 74), some (.int (nI i)), none, none, none, none] []) : E G (mLw nm hh) 14 Q h n mc ms 1364 [some (.ref 0), some (.ref 1), some (.ref 64), some (.ref 74), some (.int (nI i)), none, none, none, none] [] := by
  obtain ⟨n', f, L, T, ln, sg, k, zs, t, b, hI, ho, hs, hz9, ⟨o, hout⟩, th, z, sv, bf, ha, zr, ⟨r, se, ro, le, de, wa, ww, rw, rm, sp, fm, ff, hM⟩, hz, hv, hzz, hb⟩ := hL
  have hk : k ≤ 6 := hI.2.2.1.elim (fun o ho => ho.2.2.1)
  refine ez_aload_n (q := 1365) 1 dL_law_1364 rfl rfl rfl ?_
  refine cXv (q := 1368) dL_law_1365 ck_L_157 hI.1 (t_X7_digest (d := 4) ⟨hI, fun _ _ => rfl⟩ ho hs (mx := fun a b => 31 * a + b) (fun _ _ => rfl)) rfl ⟨by decide, rfl⟩ rfl rfl rfl (Nat.le_of_ble_eq_true rfl) rfl (fun g hW => ?_)
  have hout := (hW.2 74 (Or.inr (by decide))).trans hout
  have hM := hM.to (fun j a c => hW.2 j (Or.inr a))
  have hI := hW.1
  refine ez_aload_n (q := 1369) 2 dL_law_1368 rfl rfl rfl ?_
  refine cXv (q := 1372) dL_law_1369 ck_L_161 hM.1 (t_X8_digest (d := 0) hM.rb hz ho hs (mx := fun a b => 31 * a + b) (fun _ _ => rfl) hb) rfl ⟨by decide, rfl⟩ rfl rfl rfl (Nat.le_of_ble_eq_true rfl) rfl (fun g hW8 => ?_)
  obtain ⟨r', se', ro', le', de', wa', ww', rw', rm', sp', fm', ff', hM⟩ := hW8
  have hout := (hM.frm 74 (by decide)).trans hout
  have hI := hI.to (fun j a c => hM.frm j (by omega))
  have hM := hM.rb
  refine ez_lcmp (q := 1373) dL_law_1372 rfl ?_
  refine ez_top (lg_eq rfl) ?_
  refine ez_ifeq (q := 1376) (tgt := 1378) dL_law_1373 (by decide) rfl (fun hc1373 => ?_) (fun hc1373 => absurd rfl hc1373)
  exact E.fg (K _ _ (Nat.le_refl _) ⟨_, _, _, _, _, _, _, _, _, _, hI, ho, hs, hz9, ⟨_, hout⟩, _, _, _, _, _, _, ⟨_, _, _, _, _, _, _, _, _, _, _, _, hM⟩, hz, hv, hzz, hb⟩) ⟨Or.inr rfl, Or.inr rfl, Or.inr rfl, Or.inr rfl, Or.inr rfl, Or.inl rfl, Or.inl rfl, Or.inl rfl, Or.inl rfl, trivial⟩
