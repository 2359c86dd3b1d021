set_option maxHeartbeats 800000 in
set_option maxRecDepth 100000 in
theorem law_C {G : ez_G} {nm : String} {hh : List (Nat × Nat × Nat × Nat)} {n N : Nat} {sc : Nat → Int32} {Q : ez_Q} {h : ez_H} {n' f k t : Nat} {L T ln : Nat → Nat} {sg : Nat → Nat → Nat} {zs : Nat → AS} {b : Nat → Nat} (hI : CJ h h n' f L T ln sg k zs t b) (ho : OK n' f L T ln sg) (hs : WFS ln sg) (hG : ez_N G = N ∧ ez_sc G = sc) (hN : N ≤ 260) (hQ : ∀ g m, Q (.inl (some (.int (nI 1)))) g m) (hn8 : n' ≤ 8) (h1n : 1 ≤ n') (hz : ∀ i, i < k → OKA (zs i)) (ht0 : t = 0) (hlz0 : ∀ v, ln v = 0) : E G (mLw nm hh) 14 Q h n 0 0 113 [some (.ref 0), some (.ref 1), some (.int (nI n')), some (.int (nI (2 ^ n' - 1))), some (.int (nI (lvN T n' f L))), none, none, none, none, none, none, none, none, none, none, none] [] := by
  have hn := ho.1
  subst ht0
  refine ez_iconst (v := nI 0) (q := 114) dL_law_113 (by decide) rfl ?_
  refine ez_istore_6 (q := 116) dL_law_114 (Nat.le_of_ble_eq_true rfl) rfl rfl ?_
  refine ez_loop (α := Nat × (Nat → Nat) × (Nat → Nat → Nat) × Nat × (Nat → AS) × (Nat → Nat)) (fun z99 => match z99 with | (w, ln, sg, k, zs, b) => 3 - w) (P := fun z99 => match z99 with | (w, ln, sg, k, zs, b) => ∀ (g : ez_H) , CJ h g n' f L T ln sg k zs 0 b → (w ≤ 3) → (OK n' f L T ln sg) → (WFS ln sg) → (∀ i, i < k → OKA (zs i)) → (∀ v, v < w → 0 < ln v) → (∀ v, w ≤ v → ln v = 0) → E G (mLw nm hh) 14 Q g n 0 0 116 [some (.ref 0), some (.ref 1), some (.int (nI n')), some (.int (nI (2 ^ n' - 1))), some (.int (nI (lvN T n' f L))), none, some (.int (nI w)), none, none, none, none, none, none, none, none, none] []) ?_ (0, ln, sg, k, zs, b) h hI (by omega) ho hs hz (fun v hv => absurd hv (Nat.not_lt_zero v)) (fun v _ => hlz0 v)
  rintro ⟨w, ln, sg, k, zs, b⟩ ih116
  dsimp only at ih116 ⊢
  obtain ⟨μ116, hμ116⟩ : ∃ y99, y99 = 3 - w := ⟨_, rfl⟩
  rw [← hμ116] at ih116
  have ih116 : ∀ (w : Nat) (ln : (Nat → Nat)) (sg : (Nat → Nat → Nat)) (k : Nat) (zs : (Nat → AS)) (b : (Nat → Nat)), 3 - w < μ116 → ∀ (g : ez_H) , CJ h g n' f L T ln sg k zs 0 b → (w ≤ 3) → (OK n' f L T ln sg) → (WFS ln sg) → (∀ i, i < k → OKA (zs i)) → (∀ v, v < w → 0 < ln v) → (∀ v, w ≤ v → ln v = 0) → E G (mLw nm hh) 14 Q g n 0 0 116 [some (.ref 0), some (.ref 1), some (.int (nI n')), some (.int (nI (2 ^ n' - 1))), some (.int (nI (lvN T n' f L))), none, some (.int (nI w)), none, none, none, none, none, none, none, none, none] [] := fun w ln sg k zs b => ih116 (w, ln, sg, k, zs, b)
  intro g  hM hw ho hs hz hl hlz
  have hI := hM
  refine ez_iload (q := 118) dL_law_116 rfl rfl ?_
  refine ez_iconst (v := nI 3) (q := 119) dL_law_118 (by decide) rfl ?_
  refine ez_icmpgeN (q := 122) (tgt := 317) dL_law_119 (by decide) (by omega) (by omega) rfl (fun hc119 => ?_) (fun hc119 => ?_)
  · obtain rfl : w = 3 := by omega
    exact E.fg (law_D (hI.rb) ho hs hG hN hQ hn8 h1n hl (hlz 3 (by omega)) hz) ⟨Or.inr (rfl), Or.inr (rfl), Or.inr (rfl), Or.inr (rfl), Or.inl rfl, Or.inl rfl, Or.inl rfl, Or.inl rfl, Or.inl rfl, Or.inl rfl, Or.inl rfl, Or.inl rfl, Or.inl rfl, Or.inl rfl, Or.inl rfl, Or.inl rfl, trivial⟩
  · refine ez_aload_n (q := 123) 1 dL_law_122 rfl rfl rfl ?_
    refine ez_aload_n (q := 124) 0 dL_law_123 rfl rfl rfl ?_
    refine ez_bipush (v := nI 12) (q := 126) dL_law_124 (by decide) rfl ?_
    refine ez_bipush (v := nI 12) (q := 128) dL_law_126 (by decide) rfl ?_
    refine ez_iload (q := 130) dL_law_128 rfl rfl ?_
    refine ez_imulN (q := 131) dL_law_130 rfl ?_
    refine ez_iaddN (q := 132) dL_law_131 rfl ?_
    refine ez_iconst (v := nI 3) (q := 133) dL_law_132 (by decide) rfl ?_
    refine ez_aload_n (q := 134) 0 dL_law_133 rfl rfl rfl ?_
    refine ez_bipush (v := nI 10) (q := 136) dL_law_134 (by decide) rfl ?_
    refine ez_iload (q := 138) dL_law_136 rfl rfl ?_
    refine ez_iaddN (q := 139) dL_law_138 rfl ?_
    refine cUv (q := 142) dL_law_139 ck_L_16 (c_L_cell hG hN (by omega)) rfl rfl rfl (Nat.le_of_ble_eq_true rfl) rfl ?_
    refine ez_bipush (v := nI 14) (q := 144) dL_law_142 (by decide) rfl ?_
    refine cUv (q := 147) dL_law_144 ck_L_10 (c_L_low (by decide) (by decide)) rfl rfl rfl (Nat.le_of_ble_eq_true rfl) rfl ?_
    have hx := lwN_lt (clV N sc (10 + w)) (m := 14) (by decide)
    generalize lwN (clV N sc (10 + w)) 14 = x at hx ⊢
    refine ez_iaddN (q := 148) dL_law_147 rfl ?_
    refine cSE (q := 151) dL_law_148 ck_L_80 (c_L_write hI.rb ho hs hG hN rfl (by omega) (by omega) (by omega)) rfl rfl rfl (Nat.le_of_ble_eq_true rfl) rfl (fun tb g hW => ?_)
    obtain ⟨t2, b2⟩ := tb
    obtain ⟨hI2, hwho, hrd, ht0, ht16⟩ := hW
    have hI := hI.tr hI2
    clear hI2
    refine ez_top (show nI ((t2, b2) : Nat × (Nat → Nat)).1 = nI t2 from rfl) ?_
    change CJ h g n' f L T ln sg k zs t2 b2 at hI
    change whoB b2 t2 = true at hwho
    change (rdR b2 t2).1 = t2 at hrd
    change 0 < t2 at ht0
    change t2 ≤ 16 at ht16
    obtain ⟨hwf, -, -⟩ := who_w hwho
    refine ez_istore_7 (q := 153) dL_law_151 (Nat.le_of_ble_eq_true rfl) rfl rfl ?_
    refine ez_iload (q := 155) dL_law_153 rfl rfl ?_
    refine ez_bipush (v := nI 40) (q := 157) dL_law_155 (by decide) rfl ?_
    refine ez_icmpgtN (q := 160) (tgt := 203) dL_law_157 (by decide) (by omega) (by omega) rfl (fun hc157 => absurd ht16 (by omega)) (fun hc157 => ?_)
    refine ez_aload_n (q := 161) 1 dL_law_160 rfl rfl rfl ?_
    refine cXv (q := 164) dL_law_161 ck_L_84 hI.1.1 (v_X7_firstError hI.rb ho hs) rfl ⟨by decide, rfl⟩ rfl rfl rfl (Nat.le_of_ble_eq_true rfl) rfl (fun g hW => ?_)
    have hI := hI.tr hW
    clear hW
    refine ez_top (congrArg nI hrd) ?_
    refine ez_iload (q := 166) dL_law_164 rfl rfl ?_
    refine ez_icmpne (q := 169) (tgt := 203) dL_law_166 (by decide) rfl (fun hc166 => absurd (rfl) hc166) (fun hc166 => ?_)
    refine ez_aload_n (q := 170) 1 dL_law_169 rfl rfl rfl ?_
    refine ez_iload (q := 172) dL_law_170 rfl rfl ?_
    refine cXv (q := 175) dL_law_172 ck_L_88 hI.1.1 (v_X7_read hI.rb ho hs (by omega) hwho) rfl ⟨by decide, rfl⟩ rfl rfl rfl (Nat.le_of_ble_eq_true rfl) rfl (fun g hW => ?_)
    have hk6 := hI.hh.choose_spec.2.2.1
    have hz := push_all (p := OKA) (z := ((n', f, L, T, ln, sg) : AS)) hI.hh.choose_spec.2.2.1 ⟨ho, hs⟩ hz
    have hI := hI.tr hW
    clear hW
    have ho := ho.wish (w := w) (m := t2) (s := b2) (by omega) (fun k hk => wf_c hwf hk)
    have hs := hs.wish (w := w) (m := t2) (s := b2) (fun _ => ⟨_, hwf⟩)
    have hlw : upN ln w t2 w = t2 := upN_eq ln w t2
    have hl := up_pos hl ht0
    have hlz := up_zero (t := t2) hlz
    have hwf2 : WF (upN ln w t2 w) (sgN sg w b2 w) (scN b2) := by rw [hlw, sgN, if_pos rfl]; exact hwf
    obtain ⟨zs2, e5⟩ : ∃ x, x = pushZ zs k ((n', f, L, T, ln, sg) : AS) := ⟨_, rfl⟩
    rw [← e5] at hI hz
    obtain ⟨k2, e4⟩ : ∃ x, x = svk k := ⟨_, rfl⟩
    rw [← e4] at hI hz
    obtain ⟨ln2, e6⟩ : ∃ x, x = upN ln w t2 := ⟨_, rfl⟩
    rw [← e6] at hI ho hs hlw hl hlz hwf2
    obtain ⟨sg2, e7⟩ : ∃ x, x = sgN sg w b2 := ⟨_, rfl⟩
    rw [← e7] at hI ho hs hwf2
    clear e4 e5 e6 e7
    skip
    have hl0 : 0 < ln2 w := by rw [hlw]; exact ht0
    skip
    refine ez_iload (q := 177) dL_law_175 rfl rfl ?_
    refine ez_icmpne (q := 180) (tgt := 203) dL_law_177 (by decide) rfl (fun hc177 => absurd (rfl) hc177) (fun hc177 => ?_)
    refine ez_aload_n (q := 181) 1 dL_law_180 rfl rfl rfl ?_
    refine ez_iload (q := 183) dL_law_181 rfl rfl ?_
    refine ez_iconst (v := nI 0) (q := 184) dL_law_183 (by decide) rfl ?_
    refine cXv (q := 187) dL_law_184 ck_L_68 hI.1.1 (v_X7_wish (what := 0) hI.rb ho hs (by omega) (by decide)) rfl ⟨by decide, rfl⟩ rfl rfl rfl (Nat.le_of_ble_eq_true rfl) rfl (fun g hW => ?_)
    have hI := hI.tr hW
    clear hW
    refine ez_top ((ts_w hl0).trans (show nI (tsN T n' f L ln2 sg2 w 0) = nI t2 from congrArg nI hlw)) ?_
    refine ez_iload (q := 189) dL_law_187 rfl rfl ?_
    refine ez_icmpne (q := 192) (tgt := 203) dL_law_189 (by decide) rfl (fun hc189 => absurd (rfl) hc189) (fun hc189 => ?_)
    refine ez_aload_n (q := 193) 1 dL_law_192 rfl rfl rfl ?_
    refine ez_iload (q := 195) dL_law_193 rfl rfl ?_
    refine ez_iload (q := 197) dL_law_195 rfl rfl ?_
    refine cSw (q := 200) dL_law_197 ck_L_91 (c_L_isWish hI.rb ho hs hn8 (by omega) hl0) rfl rfl rfl (Nat.le_of_ble_eq_true rfl) rfl (fun g hW => ?_)
    have hI := hI.tr hW
    clear hW
    refine ez_ifneN (q := 203) (tgt := 205) dL_law_200 (by decide) (by decide) rfl (fun hc200 => ?_) (fun hc200 => ?_)
    · first
      | exact absurd hc200 (by decide)
      | skip
        refine ez_aload_n (q := 206) 1 dL_law_205 rfl rfl rfl ?_
        refine ez_iload (q := 208) dL_law_206 rfl rfl ?_
        refine ez_iconst (v := nI 1) (q := 209) dL_law_208 (by decide) rfl ?_
        refine cXv (q := 212) dL_law_209 ck_L_68 hI.1.1 (v_X7_wish (what := 1) hI.rb ho hs (by omega) (by decide)) rfl ⟨by decide, rfl⟩ rfl rfl rfl (Nat.le_of_ble_eq_true rfl) rfl (fun g hW => ?_)
        have hI := hI.tr hW
        clear hW
        refine ez_top ((ts_w hl0).trans (show nI (tsN T n' f L ln2 sg2 w 1) = nI (hW T n' f L ln2 sg2 w) from rfl)) ?_
        refine ez_istore_8 (q := 214) dL_law_212 (Nat.le_of_ble_eq_true rfl) rfl rfl ?_
        refine ez_aload_n (q := 215) 1 dL_law_214 rfl rfl rfl ?_
        refine ez_iload (q := 217) dL_law_215 rfl rfl ?_
        refine ez_iconst (v := nI 0) (q := 218) dL_law_217 (by decide) rfl ?_
        refine ez_iconst (v := nI 0) (q := 219) dL_law_218 (by decide) rfl ?_
        refine cXv (q := 222) dL_law_219 ck_L_63 hI.1.1 (v_X7_sign (what := 0) hI.rb ho hs (by omega) hl0 (by decide)) rfl ⟨by decide, rfl⟩ rfl rfl rfl (Nat.le_of_ble_eq_true rfl) rfl (fun g hW => ?_)
        have hI := hI.tr hW
        clear hW
        refine ez_top (show tgI T n' f L ln2 sg2 w 0 0 = nI (sg2 w 0) from if_pos rfl) ?_
        refine ez_bipush (v := nI 33) (q := 224) dL_law_222 (by decide) rfl ?_
        refine ez_icmpneN (q := 227) (tgt := 231) dL_law_224 (by decide) (by have := wf_c hwf2 hl0; omega) (by decide) rfl (fun hc224 => ?_) (fun hc224 => ?_)
        · refine ez_iconst (v := nI 0) (q := 232) dL_law_231 (by decide) rfl ?_
          refine ez_istore_9 (q := 234) dL_law_232 (Nat.le_of_ble_eq_true rfl) rfl rfl ?_
          refine ez_aload_n (q := 235) 1 dL_law_234 rfl rfl rfl ?_
          refine ez_iload (q := 237) dL_law_235 rfl rfl ?_
          refine cXv (q := 240) dL_law_237 ck_L_95 hI.1.1 (v_X7_negate hI.rb ho hs (by omega) hl0 (by omega)) rfl ⟨by decide, rfl⟩ rfl rfl rfl (Nat.le_of_ble_eq_true rfl) rfl (fun g hW => ?_)
          obtain ⟨hnm, hnp, sc3, hwf3⟩ := neg_K hs (show w < 4 by omega) hl0 (by omega)
          have hz3 := push_all (p := OKA) (z := ((n', f, L, T, ln2, sg2) : AS)) hI.hh.choose_spec.2.2.1 ⟨ho, hs⟩ hz
          have hk6 := svk_le hI.hh.choose_spec.2.2.1
          have hI := hI.tr hW
          clear hW
          have ho3 := ho.wish (w := w) (m := negM ln2 sg2 w) (s := negS sg2 w) hnm (fun k hk => wf_c hwf3 hk)
          have hs3 := hs.wish (w := w) (m := negM ln2 sg2 w) (s := negS sg2 w) (fun _ => ⟨_, hwf3⟩)
          have hlq : 0 < upN ln2 w (negM ln2 sg2 w) w := by rw [upN_eq]; exact hnp
          refine ez_istore_10 (q := 242) dL_law_240 (Nat.le_of_ble_eq_true rfl) rfl rfl ?_
          refine ez_iload (q := 244) dL_law_242 rfl rfl ?_
          refine ez_iload (q := 246) dL_law_244 rfl rfl ?_
          refine ez_ifeqN (q := 249) (tgt := 256) dL_law_246 (by decide) (by decide) rfl (fun hc246 => ?_) (fun hc246 => ?_)
          · first
            | exact absurd hc246 (by decide)
            | skip
              refine ez_iload (q := 258) dL_law_256 rfl rfl ?_
              refine ez_iconst (v := nI 1) (q := 259) dL_law_258 (by decide) rfl ?_
              refine ez_iaddN (q := 260) dL_law_259 rfl ?_
              refine ez_icmpne (q := 263) (tgt := 309) dL_law_260 (by decide) rfl (fun hc260 => absurd (congrArg nI (by first | exact neg_t hc224 hlw | exact neg_f hc224 hlw)) hc260) (fun hc260 => ?_)
              refine ez_aload_n (q := 264) 1 dL_law_263 rfl rfl rfl ?_
              refine ez_iload (q := 266) dL_law_264 rfl rfl ?_
              refine ez_iconst (v := nI 1) (q := 267) dL_law_266 (by decide) rfl ?_
              refine cXv (q := 270) dL_law_267 ck_L_68 hI.1.1 (v_X7_wish (what := 1) hI.rb ho3 hs3 (by omega) (by decide)) rfl ⟨by decide, rfl⟩ rfl rfl rfl (Nat.le_of_ble_eq_true rfl) rfl (fun g hW => ?_)
              have hI := hI.tr hW
              clear hW
              refine ez_top ((ts_w hlq).trans (show nI (tsN T n' f L (upN ln2 w (negM ln2 sg2 w)) (sgN sg2 w (negS sg2 w)) w 1) = nI (ndN (2 ^ n' - 1) (hW T n' f L ln2 sg2 w)) from congrArg nI (neg_hW hl0))) ?_
              refine ez_iload_n (q := 271) 3 dL_law_270 rfl rfl rfl ?_
              refine ez_iload (q := 273) dL_law_271 rfl rfl ?_
              refine ez_iconst (v := -1) (q := 274) dL_law_273 (by decide) rfl ?_
              refine ez_ixor (q := 275) dL_law_274 rfl ?_
              refine ez_iandX (q := 276) dL_law_275 rfl ?_
              refine ez_icmpne (q := 279) (tgt := 309) dL_law_276 (by decide) rfl (fun hc276 => absurd (rfl) hc276) (fun hc276 => ?_)
              refine ez_aload_n (q := 280) 1 dL_law_279 rfl rfl rfl ?_
              refine ez_iload (q := 282) dL_law_280 rfl rfl ?_
              refine ez_iload (q := 284) dL_law_282 rfl rfl ?_
              refine cSw (q := 287) dL_law_284 ck_L_91 (c_L_isWish hI.rb ho3 hs3 hn8 (by omega) hlq) rfl rfl rfl (Nat.le_of_ble_eq_true rfl) rfl (fun g hW => ?_)
              have hI := hI.tr hW
              clear hW
              refine ez_ifeqN (q := 290) (tgt := 309) dL_law_287 (by decide) (by decide) rfl (fun hc287 => ?_) (fun hc287 => ?_)
              · first
                | exact absurd hc287 (by decide)
                | skip
                  refine ez_iconst (v := nI 0) (q := 310) dL_law_309 (by decide) rfl ?_
                  exact ez_zret dL_law_310 rfl rfl (hQ _ _)
              · first
                | exact absurd hc287 (by decide)
                | skip
                  refine ez_aload_n (q := 291) 1 dL_law_290 rfl rfl rfl ?_
                  refine cXv (q := 294) dL_law_291 ck_L_98 hI.1.1 (v_X7_undo hI.rb ho3 hs3 hz3 (svk_pos k2)) rfl ⟨by decide, rfl⟩ rfl rfl rfl (Nat.le_of_ble_eq_true rfl) rfl (fun g hW => ?_)
                  rw [push_top] at hW
                  have hI : CJ h g n' f L T ln2 sg2 (svk k2 - 1) (pushZ zs2 k2 ((n', f, L, T, ln2, sg2) : AS)) 0 b2 := hI.tr hW
                  clear hW
                  refine ez_ifltN (q := 297) (tgt := 309) dL_law_294 (by decide) (by omega) rfl ?_
                  refine ez_aload_n (q := 298) 1 dL_law_297 rfl rfl rfl ?_
                  refine ez_iload (q := 300) dL_law_298 rfl rfl ?_
                  refine ez_iconst (v := nI 1) (q := 301) dL_law_300 (by decide) rfl ?_
                  refine cXv (q := 304) dL_law_301 ck_L_68 hI.1.1 (v_X7_wish (what := 1) hI.rb ho hs (by omega) (by decide)) rfl ⟨by decide, rfl⟩ rfl rfl rfl (Nat.le_of_ble_eq_true rfl) rfl (fun g hW => ?_)
                  have hI := hI.tr hW
                  clear hW
                  refine ez_top ((ts_w hl0).trans (show nI (tsN T n' f L ln2 sg2 w 1) = nI (hW T n' f L ln2 sg2 w) from rfl)) ?_
                  refine ez_iload (q := 306) dL_law_304 rfl rfl ?_
                  refine ez_icmpeq (q := 309) (tgt := 311) dL_law_306 (by decide) rfl (fun hc306 => ?_) (fun hc306 => absurd (rfl) hc306)
                  refine ez_iincN_6 (q := 314) dL_law_311 (Nat.le_of_ble_eq_true rfl) rfl rfl ?_
                  refine ez_goto (q := 116) dL_law_314 (by decide) ?_
                  exact E.fg (ih116 (w + 1) ln2 sg2 (svk k2 - 1) (pushZ zs2 k2 ((n', f, L, T, ln2, sg2) : AS)) b2 (by omega) g hI (by omega) ho hs (fun i hi => hz3 i (by omega)) hl hlz) ⟨Or.inr (rfl), Or.inr (rfl), Or.inr (rfl), Or.inr (rfl), Or.inr (rfl), Or.inl rfl, Or.inr (rfl), Or.inl rfl, Or.inl rfl, Or.inl rfl, Or.inl rfl, Or.inl rfl, Or.inl rfl, Or.inl rfl, Or.inl rfl, Or.inl rfl, trivial⟩
          · first
            | exact absurd hc246 (by decide)
            | skip
              refine ez_iload (q := 251) dL_law_249 rfl rfl ?_
              refine ez_iconst (v := nI 1) (q := 252) dL_law_251 (by decide) rfl ?_
              refine ez_isubN (q := 253) dL_law_252 (by omega) rfl ?_
              refine ez_goto (q := 260) dL_law_253 (by decide) ?_
              refine ez_icmpne (q := 263) (tgt := 309) dL_law_260 (by decide) rfl (fun hc260 => absurd (congrArg nI (by first | exact neg_t hc224 hlw | exact neg_f hc224 hlw)) hc260) (fun hc260 => ?_)
              refine ez_aload_n (q := 264) 1 dL_law_263 rfl rfl rfl ?_
              refine ez_iload (q := 266) dL_law_264 rfl rfl ?_
              refine ez_iconst (v := nI 1) (q := 267) dL_law_266 (by decide) rfl ?_
              refine cXv (q := 270) dL_law_267 ck_L_68 hI.1.1 (v_X7_wish (what := 1) hI.rb ho3 hs3 (by omega) (by decide)) rfl ⟨by decide, rfl⟩ rfl rfl rfl (Nat.le_of_ble_eq_true rfl) rfl (fun g hW => ?_)
              have hI := hI.tr hW
              clear hW
              refine ez_top ((ts_w hlq).trans (show nI (tsN T n' f L (upN ln2 w (negM ln2 sg2 w)) (sgN sg2 w (negS sg2 w)) w 1) = nI (ndN (2 ^ n' - 1) (hW T n' f L ln2 sg2 w)) from congrArg nI (neg_hW hl0))) ?_
              refine ez_iload_n (q := 271) 3 dL_law_270 rfl rfl rfl ?_
              refine ez_iload (q := 273) dL_law_271 rfl rfl ?_
              refine ez_iconst (v := -1) (q := 274) dL_law_273 (by decide) rfl ?_
              refine ez_ixor (q := 275) dL_law_274 rfl ?_
              refine ez_iandX (q := 276) dL_law_275 rfl ?_
              refine ez_icmpne (q := 279) (tgt := 309) dL_law_276 (by decide) rfl (fun hc276 => absurd (rfl) hc276) (fun hc276 => ?_)
              refine ez_aload_n (q := 280) 1 dL_law_279 rfl rfl rfl ?_
              refine ez_iload (q := 282) dL_law_280 rfl rfl ?_
              refine ez_iload (q := 284) dL_law_282 rfl rfl ?_
              refine cSw (q := 287) dL_law_284 ck_L_91 (c_L_isWish hI.rb ho3 hs3 hn8 (by omega) hlq) rfl rfl rfl (Nat.le_of_ble_eq_true rfl) rfl (fun g hW => ?_)
              have hI := hI.tr hW
              clear hW
              refine ez_ifeqN (q := 290) (tgt := 309) dL_law_287 (by decide) (by decide) rfl (fun hc287 => ?_) (fun hc287 => ?_)
              · first
                | exact absurd hc287 (by decide)
                | skip
                  refine ez_iconst (v := nI 0) (q := 310) dL_law_309 (by decide) rfl ?_
                  exact ez_zret dL_law_310 rfl rfl (hQ _ _)
              · first
                | exact absurd hc287 (by decide)
                | skip
                  refine ez_aload_n (q := 291) 1 dL_law_290 rfl rfl rfl ?_
                  refine cXv (q := 294) dL_law_291 ck_L_98 hI.1.1 (v_X7_undo hI.rb ho3 hs3 hz3 (svk_pos k2)) rfl ⟨by decide, rfl⟩ rfl rfl rfl (Nat.le_of_ble_eq_true rfl) rfl (fun g hW => ?_)
                  rw [push_top] at hW
                  have hI : CJ h g n' f L T ln2 sg2 (svk k2 - 1) (pushZ zs2 k2 ((n', f, L, T, ln2, sg2) : AS)) 0 b2 := hI.tr hW
                  clear hW
                  refine ez_ifltN (q := 297) (tgt := 309) dL_law_294 (by decide) (by omega) rfl ?_
                  refine ez_aload_n (q := 298) 1 dL_law_297 rfl rfl rfl ?_
                  refine ez_iload (q := 300) dL_law_298 rfl rfl ?_
                  refine ez_iconst (v := nI 1) (q := 301) dL_law_300 (by decide) rfl ?_
                  refine cXv (q := 304) dL_law_301 ck_L_68 hI.1.1 (v_X7_wish (what := 1) hI.rb ho hs (by omega) (by decide)) rfl ⟨by decide, rfl⟩ rfl rfl rfl (Nat.le_of_ble_eq_true rfl) rfl (fun g hW => ?_)
                  have hI := hI.tr hW
                  clear hW
                  refine ez_top ((ts_w hl0).trans (show nI (tsN T n' f L ln2 sg2 w 1) = nI (hW T n' f L ln2 sg2 w) from rfl)) ?_
                  refine ez_iload (q := 306) dL_law_304 rfl rfl ?_
                  refine ez_icmpeq (q := 309) (tgt := 311) dL_law_306 (by decide) rfl (fun hc306 => ?_) (fun hc306 => absurd (rfl) hc306)
                  refine ez_iincN_6 (q := 314) dL_law_311 (Nat.le_of_ble_eq_true rfl) rfl rfl ?_
                  refine ez_goto (q := 116) dL_law_314 (by decide) ?_
                  exact E.fg (ih116 (w + 1) ln2 sg2 (svk k2 - 1) (pushZ zs2 k2 ((n', f, L, T, ln2, sg2) : AS)) b2 (by omega) g hI (by omega) ho hs (fun i hi => hz3 i (by omega)) hl hlz) ⟨Or.inr (rfl), Or.inr (rfl), Or.inr (rfl), Or.inr (rfl), Or.inr (rfl), Or.inl rfl, Or.inr (rfl), Or.inl rfl, Or.inl rfl, Or.inl rfl, Or.inl rfl, Or.inl rfl, Or.inl rfl, Or.inl rfl, Or.inl rfl, Or.inl rfl, trivial⟩
        · refine ez_iconst (v := nI 1) (q := 228) dL_law_227 (by decide) rfl ?_
          refine ez_goto (q := 232) dL_law_228 (by decide) ?_
          refine ez_istore_9 (q := 234) dL_law_232 (Nat.le_of_ble_eq_true rfl) rfl rfl ?_
          refine ez_aload_n (q := 235) 1 dL_law_234 rfl rfl rfl ?_
          refine ez_iload (q := 237) dL_law_235 rfl rfl ?_
          refine cXv (q := 240) dL_law_237 ck_L_95 hI.1.1 (v_X7_negate hI.rb ho hs (by omega) hl0 (by omega)) rfl ⟨by decide, rfl⟩ rfl rfl rfl (Nat.le_of_ble_eq_true rfl) rfl (fun g hW => ?_)
          obtain ⟨hnm, hnp, sc3, hwf3⟩ := neg_K hs (show w < 4 by omega) hl0 (by omega)
          have hz3 := push_all (p := OKA) (z := ((n', f, L, T, ln2, sg2) : AS)) hI.hh.choose_spec.2.2.1 ⟨ho, hs⟩ hz
          have hk6 := svk_le hI.hh.choose_spec.2.2.1
          have hI := hI.tr hW
          clear hW
          have ho3 := ho.wish (w := w) (m := negM ln2 sg2 w) (s := negS sg2 w) hnm (fun k hk => wf_c hwf3 hk)
          have hs3 := hs.wish (w := w) (m := negM ln2 sg2 w) (s := negS sg2 w) (fun _ => ⟨_, hwf3⟩)
          have hlq : 0 < upN ln2 w (negM ln2 sg2 w) w := by rw [upN_eq]; exact hnp
          refine ez_istore_10 (q := 242) dL_law_240 (Nat.le_of_ble_eq_true rfl) rfl rfl ?_
          refine ez_iload (q := 244) dL_law_242 rfl rfl ?_
          refine ez_iload (q := 246) dL_law_244 rfl rfl ?_
          refine ez_ifeqN (q := 249) (tgt := 256) dL_law_246 (by decide) (by decide) rfl (fun hc246 => ?_) (fun hc246 => ?_)
          · first
            | exact absurd hc246 (by decide)
            | skip
              refine ez_iload (q := 258) dL_law_256 rfl rfl ?_
              refine ez_iconst (v := nI 1) (q := 259) dL_law_258 (by decide) rfl ?_
              refine ez_iaddN (q := 260) dL_law_259 rfl ?_
              refine ez_icmpne (q := 263) (tgt := 309) dL_law_260 (by decide) rfl (fun hc260 => absurd (congrArg nI (by first | exact neg_t hc224 hlw | exact neg_f hc224 hlw)) hc260) (fun hc260 => ?_)
              refine ez_aload_n (q := 264) 1 dL_law_263 rfl rfl rfl ?_
              refine ez_iload (q := 266) dL_law_264 rfl rfl ?_
              refine ez_iconst (v := nI 1) (q := 267) dL_law_266 (by decide) rfl ?_
              refine cXv (q := 270) dL_law_267 ck_L_68 hI.1.1 (v_X7_wish (what := 1) hI.rb ho3 hs3 (by omega) (by decide)) rfl ⟨by decide, rfl⟩ rfl rfl rfl (Nat.le_of_ble_eq_true rfl) rfl (fun g hW => ?_)
              have hI := hI.tr hW
              clear hW
              refine ez_top ((ts_w hlq).trans (show nI (tsN T n' f L (upN ln2 w (negM ln2 sg2 w)) (sgN sg2 w (negS sg2 w)) w 1) = nI (ndN (2 ^ n' - 1) (hW T n' f L ln2 sg2 w)) from congrArg nI (neg_hW hl0))) ?_
              refine ez_iload_n (q := 271) 3 dL_law_270 rfl rfl rfl ?_
              refine ez_iload (q := 273) dL_law_271 rfl rfl ?_
              refine ez_iconst (v := -1) (q := 274) dL_law_273 (by decide) rfl ?_
              refine ez_ixor (q := 275) dL_law_274 rfl ?_
              refine ez_iandX (q := 276) dL_law_275 rfl ?_
              refine ez_icmpne (q := 279) (tgt := 309) dL_law_276 (by decide) rfl (fun hc276 => absurd (rfl) hc276) (fun hc276 => ?_)
              refine ez_aload_n (q := 280) 1 dL_law_279 rfl rfl rfl ?_
              refine ez_iload (q := 282) dL_law_280 rfl rfl ?_
              refine ez_iload (q := 284) dL_law_282 rfl rfl ?_
              refine cSw (q := 287) dL_law_284 ck_L_91 (c_L_isWish hI.rb ho3 hs3 hn8 (by omega) hlq) rfl rfl rfl (Nat.le_of_ble_eq_true rfl) rfl (fun g hW => ?_)
              have hI := hI.tr hW
              clear hW
              refine ez_ifeqN (q := 290) (tgt := 309) dL_law_287 (by decide) (by decide) rfl (fun hc287 => ?_) (fun hc287 => ?_)
              · first
                | exact absurd hc287 (by decide)
                | skip
                  refine ez_iconst (v := nI 0) (q := 310) dL_law_309 (by decide) rfl ?_
                  exact ez_zret dL_law_310 rfl rfl (hQ _ _)
              · first
                | exact absurd hc287 (by decide)
                | skip
                  refine ez_aload_n (q := 291) 1 dL_law_290 rfl rfl rfl ?_
                  refine cXv (q := 294) dL_law_291 ck_L_98 hI.1.1 (v_X7_undo hI.rb ho3 hs3 hz3 (svk_pos k2)) rfl ⟨by decide, rfl⟩ rfl rfl rfl (Nat.le_of_ble_eq_true rfl) rfl (fun g hW => ?_)
                  rw [push_top] at hW
                  have hI : CJ h g n' f L T ln2 sg2 (svk k2 - 1) (pushZ zs2 k2 ((n', f, L, T, ln2, sg2) : AS)) 0 b2 := hI.tr hW
                  clear hW
                  refine ez_ifltN (q := 297) (tgt := 309) dL_law_294 (by decide) (by omega) rfl ?_
                  refine ez_aload_n (q := 298) 1 dL_law_297 rfl rfl rfl ?_
                  refine ez_iload (q := 300) dL_law_298 rfl rfl ?_
                  refine ez_iconst (v := nI 1) (q := 301) dL_law_300 (by decide) rfl ?_
                  refine cXv (q := 304) dL_law_301 ck_L_68 hI.1.1 (v_X7_wish (what := 1) hI.rb ho hs (by omega) (by decide)) rfl ⟨by decide, rfl⟩ rfl rfl rfl (Nat.le_of_ble_eq_true rfl) rfl (fun g hW => ?_)
                  have hI := hI.tr hW
                  clear hW
                  refine ez_top ((ts_w hl0).trans (show nI (tsN T n' f L ln2 sg2 w 1) = nI (hW T n' f L ln2 sg2 w) from rfl)) ?_
                  refine ez_iload (q := 306) dL_law_304 rfl rfl ?_
                  refine ez_icmpeq (q := 309) (tgt := 311) dL_law_306 (by decide) rfl (fun hc306 => ?_) (fun hc306 => absurd (rfl) hc306)
                  refine ez_iincN_6 (q := 314) dL_law_311 (Nat.le_of_ble_eq_true rfl) rfl rfl ?_
                  refine ez_goto (q := 116) dL_law_314 (by decide) ?_
                  exact E.fg (ih116 (w + 1) ln2 sg2 (svk k2 - 1) (pushZ zs2 k2 ((n', f, L, T, ln2, sg2) : AS)) b2 (by omega) g hI (by omega) ho hs (fun i hi => hz3 i (by omega)) hl hlz) ⟨Or.inr (rfl), Or.inr (rfl), Or.inr (rfl), Or.inr (rfl), Or.inr (rfl), Or.inl rfl, Or.inr (rfl), Or.inl rfl, Or.inl rfl, Or.inl rfl, Or.inl rfl, Or.inl rfl, Or.inl rfl, Or.inl rfl, Or.inl rfl, Or.inl rfl, trivial⟩
          · first
            | exact absurd hc246 (by decide)
            | skip
              refine ez_iload (q := 251) dL_law_249 rfl rfl ?_
              refine ez_iconst (v := nI 1) (q := 252) dL_law_251 (by decide) rfl ?_
              refine ez_isubN (q := 253) dL_law_252 (by omega) rfl ?_
              refine ez_goto (q := 260) dL_law_253 (by decide) ?_
              refine ez_icmpne (q := 263) (tgt := 309) dL_law_260 (by decide) rfl (fun hc260 => absurd (congrArg nI (by first | exact neg_t hc224 hlw | exact neg_f hc224 hlw)) hc260) (fun hc260 => ?_)
              refine ez_aload_n (q := 264) 1 dL_law_263 rfl rfl rfl ?_
              refine ez_iload (q := 266) dL_law_264 rfl rfl ?_
              refine ez_iconst (v := nI 1) (q := 267) dL_law_266 (by decide) rfl ?_
              refine cXv (q := 270) dL_law_267 ck_L_68 hI.1.1 (v_X7_wish (what := 1) hI.rb ho3 hs3 (by omega) (by decide)) rfl ⟨by decide, rfl⟩ rfl rfl rfl (Nat.le_of_ble_eq_true rfl) rfl (fun g hW => ?_)
              have hI := hI.tr hW
              clear hW
              refine ez_top ((ts_w hlq).trans (show nI (tsN T n' f L (upN ln2 w (negM ln2 sg2 w)) (sgN sg2 w (negS sg2 w)) w 1) = nI (ndN (2 ^ n' - 1) (hW T n' f L ln2 sg2 w)) from congrArg nI (neg_hW hl0))) ?_
              refine ez_iload_n (q := 271) 3 dL_law_270 rfl rfl rfl ?_
              refine ez_iload (q := 273) dL_law_271 rfl rfl ?_
              refine ez_iconst (v := -1) (q := 274) dL_law_273 (by decide) rfl ?_
              refine ez_ixor (q := 275) dL_law_274 rfl ?_
              refine ez_iandX (q := 276) dL_law_275 rfl ?_
              refine ez_icmpne (q := 279) (tgt := 309) dL_law_276 (by decide) rfl (fun hc276 => absurd (rfl) hc276) (fun hc276 => ?_)
              refine ez_aload_n (q := 280) 1 dL_law_279 rfl rfl rfl ?_
              refine ez_iload (q := 282) dL_law_280 rfl rfl ?_
              refine ez_iload (q := 284) dL_law_282 rfl rfl ?_
              refine cSw (q := 287) dL_law_284 ck_L_91 (c_L_isWish hI.rb ho3 hs3 hn8 (by omega) hlq) rfl rfl rfl (Nat.le_of_ble_eq_true rfl) rfl (fun g hW => ?_)
              have hI := hI.tr hW
              clear hW
              refine ez_ifeqN (q := 290) (tgt := 309) dL_law_287 (by decide) (by decide) rfl (fun hc287 => ?_) (fun hc287 => ?_)
              · first
                | exact absurd hc287 (by decide)
                | skip
                  refine ez_iconst (v := nI 0) (q := 310) dL_law_309 (by decide) rfl ?_
                  exact ez_zret dL_law_310 rfl rfl (hQ _ _)
              · first
                | exact absurd hc287 (by decide)
                | skip
                  refine ez_aload_n (q := 291) 1 dL_law_290 rfl rfl rfl ?_
                  refine cXv (q := 294) dL_law_291 ck_L_98 hI.1.1 (v_X7_undo hI.rb ho3 hs3 hz3 (svk_pos k2)) rfl ⟨by decide, rfl⟩ rfl rfl rfl (Nat.le_of_ble_eq_true rfl) rfl (fun g hW => ?_)
                  rw [push_top] at hW
                  have hI : CJ h g n' f L T ln2 sg2 (svk k2 - 1) (pushZ zs2 k2 ((n', f, L, T, ln2, sg2) : AS)) 0 b2 := hI.tr hW
                  clear hW
                  refine ez_ifltN (q := 297) (tgt := 309) dL_law_294 (by decide) (by omega) rfl ?_
                  refine ez_aload_n (q := 298) 1 dL_law_297 rfl rfl rfl ?_
                  refine ez_iload (q := 300) dL_law_298 rfl rfl ?_
                  refine ez_iconst (v := nI 1) (q := 301) dL_law_300 (by decide) rfl ?_
                  refine cXv (q := 304) dL_law_301 ck_L_68 hI.1.1 (v_X7_wish (what := 1) hI.rb ho hs (by omega) (by decide)) rfl ⟨by decide, rfl⟩ rfl rfl rfl (Nat.le_of_ble_eq_true rfl) rfl (fun g hW => ?_)
                  have hI := hI.tr hW
                  clear hW
                  refine ez_top ((ts_w hl0).trans (show nI (tsN T n' f L ln2 sg2 w 1) = nI (hW T n' f L ln2 sg2 w) from rfl)) ?_
                  refine ez_iload (q := 306) dL_law_304 rfl rfl ?_
                  refine ez_icmpeq (q := 309) (tgt := 311) dL_law_306 (by decide) rfl (fun hc306 => ?_) (fun hc306 => absurd (rfl) hc306)
                  refine ez_iincN_6 (q := 314) dL_law_311 (Nat.le_of_ble_eq_true rfl) rfl rfl ?_
                  refine ez_goto (q := 116) dL_law_314 (by decide) ?_
                  exact E.fg (ih116 (w + 1) ln2 sg2 (svk k2 - 1) (pushZ zs2 k2 ((n', f, L, T, ln2, sg2) : AS)) b2 (by omega) g hI (by omega) ho hs (fun i hi => hz3 i (by omega)) hl hlz) ⟨Or.inr (rfl), Or.inr (rfl), Or.inr (rfl), Or.inr (rfl), Or.inr (rfl), Or.inl rfl, Or.inr (rfl), Or.inl rfl, Or.inl rfl, Or.inl rfl, Or.inl rfl, Or.inl rfl, Or.inl rfl, Or.inl rfl, Or.inl rfl, Or.inl rfl, trivial⟩
    · first
      | exact absurd hc200 (by decide)
      | skip
        refine ez_iconst (v := nI 0) (q := 204) dL_law_203 (by decide) rfl ?_
        exact ez_zret dL_law_204 rfl rfl (hQ _ _)
