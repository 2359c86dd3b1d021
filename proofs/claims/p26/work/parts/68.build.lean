set_option maxHeartbeats 800000 in
set_option maxRecDepth 100000 in
theorem c_L_build {G : ez_G} {d n : Nat} {h : ez_H} {n' f k t : Nat} {L T ln : Nat → Nat} {sg : Nat → Nat → Nat} {zs : Nat → AS} {b : Nat → Nat} {N : Nat} {sc : Nat → Int32} {u : Nat} (hI : CJ h h n' f L T ln sg k zs t b) (ho : OK n' f L T ln sg) (hs : WFS ln sg) (hG : ez_N G = N ∧ ez_sc G = sc) (hN : N ≤ 260) (hn0 : n' = 0) (hf0 : f = 4) (hz : ∀ i, i < k → OKA (zs i)) (hu : u < 1000) : Con G mL_build (d + 8) [.ref 1, .ref 0, .int (nI u)] h n 0 0 (PE n nI (fun n2 g => ∃ (f2 : Nat) (L2 T2 : Nat → Nat) (k2 : Nat) (zs2 : Nat → AS), CJ h g n2 f2 L2 T2 ln sg k2 zs2 t b ∧ OK n2 f2 L2 T2 ln sg ∧ (∀ i, i < k2 → OKA (zs2 i)) ∧ 1 ≤ n2 ∧ n2 ≤ 8)) := by
  have hn := ho.1
  subst hn0; subst hf0
  refine Con.of [some (.ref 1), some (.ref 0), some (.int (nI u)), none, none, none, none, none, none] pl_L rfl (Nat.le_of_ble_eq_true rfl) rfl ?_
  have hQ : ∀ (n2 f2 : Nat) (L2 T2 : Nat → Nat) (k2 : Nat) (zs2 : Nat → AS) g, CJ h g n2 f2 L2 T2 ln sg k2 zs2 t b → OK n2 f2 L2 T2 ln sg → (∀ i, i < k2 → OKA (zs2 i)) → 1 ≤ n2 → n2 ≤ 8 → (PE n nI (fun n2 g => ∃ (f2 : Nat) (L2 T2 : Nat → Nat) (k2 : Nat) (zs2 : Nat → AS), CJ h g n2 f2 L2 T2 ln sg k2 zs2 t b ∧ OK n2 f2 L2 T2 ln sg ∧ (∀ i, i < k2 → OKA (zs2 i)) ∧ 1 ≤ n2 ∧ n2 ≤ 8)) (.inl (some (.int (nI n2)))) g n := fun n2 f2 L2 T2 k2 zs2 g h1 h2 h3 h4 h5 => ⟨n2, rfl, ⟨f2, L2, T2, k2, zs2, h1, h2, h3, h4, h5⟩, rfl⟩
  generalize PE n nI (fun n2 g => ∃ (f2 : Nat) (L2 T2 : Nat → Nat) (k2 : Nat) (zs2 : Nat → AS), CJ h g n2 f2 L2 T2 ln sg k2 zs2 t b ∧ OK n2 f2 L2 T2 ln sg ∧ (∀ i, i < k2 → OKA (zs2 i)) ∧ 1 ≤ n2 ∧ n2 ≤ 8) = Q at hQ ⊢
  refine ez_iconst (v := nI 1) (q := 1) dL_build_0 (by decide) rfl ?_
  refine ez_aload_n (q := 2) 1 dL_build_1 rfl rfl rfl ?_
  refine ez_iload_n (q := 3) 2 dL_build_2 rfl rfl rfl ?_
  refine cUv (q := 6) dL_build_3 ck_L_16 (c_L_cell hG hN (by omega)) rfl rfl rfl (Nat.le_of_ble_eq_true rfl) rfl ?_
  refine ez_bipush (v := nI 8) (q := 8) dL_build_6 (by decide) rfl ?_
  refine cUv (q := 11) dL_build_8 ck_L_10 (c_L_low (by decide) (by decide)) rfl rfl rfl (Nat.le_of_ble_eq_true rfl) rfl ?_
  refine ez_iaddN (q := 12) dL_build_11 rfl ?_
  have hm9 := lwN_lt (clV N sc u) (m := 8) (by decide)
  obtain ⟨mm, emm⟩ : ∃ mm, 1 + lwN (clV N sc u) 8 = mm := ⟨_, rfl⟩
  rw [emm]
  have hm1 : 1 ≤ mm ∧ mm ≤ 8 := by omega
  clear hm9
  refine ez_istore_3 (q := 13) dL_build_12 rfl (by decide) rfl rfl ?_
  refine ez_iconst (v := nI 0) (q := 14) dL_build_13 (by decide) rfl ?_
  refine ez_istore_4 (q := 16) dL_build_14 (by decide) rfl rfl ?_
  refine ez_loop (α := Nat × (Nat → Nat) × (Nat → Nat) × Nat × (Nat → AS)) (fun z99 => match z99 with | (i, L2, T2, k2, zs2) => mm - i) (P := fun z99 => match z99 with | (i, L2, T2, k2, zs2) => ∀ (g : ez_H) , CJ h g i 4 L2 T2 ln sg k2 zs2 t b → (i ≤ mm) → (OK i 4 L2 T2 ln sg) → (∀ i, i < k2 → OKA (zs2 i)) → E G mL_build (d + 8) Q g n 0 0 16 [some (.ref 1), some (.ref 0), some (.int (nI u)), some (.int (nI mm)), some (.int (nI i)), none, none, none, none] []) ?_ (0, L, T, k, zs) h hI (by omega) ho hz
  rintro ⟨i, L2, T2, k2, zs2⟩ ih16
  dsimp only at ih16 ⊢
  obtain ⟨μ16, hμ16⟩ : ∃ y99, y99 = mm - i := ⟨_, rfl⟩
  rw [← hμ16] at ih16
  have ih16 : ∀ (i : Nat) (L2 : (Nat → Nat)) (T2 : (Nat → Nat)) (k2 : Nat) (zs2 : (Nat → AS)), mm - i < μ16 → ∀ (g : ez_H) , CJ h g i 4 L2 T2 ln sg k2 zs2 t b → (i ≤ mm) → (OK i 4 L2 T2 ln sg) → (∀ i, i < k2 → OKA (zs2 i)) → E G mL_build (d + 8) Q g n 0 0 16 [some (.ref 1), some (.ref 0), some (.int (nI u)), some (.int (nI mm)), some (.int (nI i)), none, none, none, none] [] := fun i L2 T2 k2 zs2 => ih16 (i, L2, T2, k2, zs2)
  intro g  hM hi ho hz
  have hI := hM
  refine ez_iload (q := 18) dL_build_16 rfl rfl ?_
  refine ez_iload_n (q := 19) 3 dL_build_18 rfl rfl rfl ?_
  refine ez_icmpgeN (q := 22) (tgt := 58) dL_build_19 (by decide) (by omega) (by omega) rfl (fun hc19 => ?_) (fun hc19 => ?_)
  · obtain rfl : mm = i := by omega
    refine ez_iconst (v := nI 0) (q := 59) dL_build_58 (by decide) rfl ?_
    refine ez_istore_4 (q := 61) dL_build_59 (by decide) rfl rfl ?_
    refine ez_loop (α := Nat × (Nat → Nat) × Nat × (Nat → AS)) (fun z99 => match z99 with | (i, T2, k2, zs2) => mm - i) (P := fun z99 => match z99 with | (i, T2, k2, zs2) => ∀ (g : ez_H) , CJ h g mm 4 L2 T2 ln sg k2 zs2 t b → (i ≤ mm) → (OK mm 4 L2 T2 ln sg) → (∀ i, i < k2 → OKA (zs2 i)) → E G mL_build (d + 8) Q g n 0 0 61 [some (.ref 1), some (.ref 0), some (.int (nI u)), some (.int (nI mm)), some (.int (nI i)), none, none, none, none] []) ?_ (0, T2, k2, zs2) g hI (by omega) ho hz
    rintro ⟨i, T2, k2, zs2⟩ ih61
    dsimp only at ih61 ⊢
    obtain ⟨μ61, hμ61⟩ : ∃ y99, y99 = mm - i := ⟨_, rfl⟩
    rw [← hμ61] at ih61
    have ih61 : ∀ (i : Nat) (T2 : (Nat → Nat)) (k2 : Nat) (zs2 : (Nat → AS)), mm - i < μ61 → ∀ (g : ez_H) , CJ h g mm 4 L2 T2 ln sg k2 zs2 t b → (i ≤ mm) → (OK mm 4 L2 T2 ln sg) → (∀ i, i < k2 → OKA (zs2 i)) → E G mL_build (d + 8) Q g n 0 0 61 [some (.ref 1), some (.ref 0), some (.int (nI u)), some (.int (nI mm)), some (.int (nI i)), none, none, none, none] [] := fun i T2 k2 zs2 => ih61 (i, T2, k2, zs2)
    intro g  hM hi ho hz
    have hI := hM
    refine ez_iload (q := 63) dL_build_61 rfl rfl ?_
    refine ez_iload_n (q := 64) 3 dL_build_63 rfl rfl rfl ?_
    refine ez_icmpgeN (q := 67) (tgt := 156) dL_build_64 (by decide) (by omega) (by omega) rfl (fun hc64 => ?_) (fun hc64 => ?_)
    · clear ih61
      refine ez_aload_n (q := 157) 1 dL_build_156 rfl rfl rfl ?_
      refine ez_iload_n (q := 158) 2 dL_build_157 rfl rfl rfl ?_
      refine ez_bipush (v := nI 9) (q := 160) dL_build_158 (by decide) rfl ?_
      refine ez_iaddN (q := 161) dL_build_160 rfl ?_
      refine cUv (q := 164) dL_build_161 ck_L_16 (c_L_cell hG hN (by omega)) rfl rfl rfl (Nat.le_of_ble_eq_true rfl) rfl ?_
      refine ez_bipush (v := nI 8) (q := 166) dL_build_164 (by decide) rfl ?_
      refine cUv (q := 169) dL_build_166 ck_L_10 (c_L_low (by decide) (by decide)) rfl rfl rfl (Nat.le_of_ble_eq_true rfl) rfl ?_
      have hx := lwN_lt (clV N sc (u + 9)) (m := 8) (by decide)
      generalize lwN (clV N sc (u + 9)) 8 = x at hx ⊢
      rcases (by omega : x = 0 ∨ x = 1 ∨ x = 2 ∨ x = 3 ∨ x = 4 ∨ x = 5 ∨ x = 6 ∨ x = 7) with rfl | rfl | rfl | rfl | rfl | rfl | rfl | rfl
      · skip
        refine ez_iconst (v := nI 1) (q := 170) dL_build_169 (by decide) rfl ?_
        refine ez_isub (q := 171) dL_build_170 rfl ?_
        refine ez_top ((by decide : nI 0 - nI 1 = fI 4)) ?_
        refine ez_istore_4 (q := 173) dL_build_171 (by decide) rfl rfl ?_
        refine ez_aload_n (q := 174) 0 dL_build_173 rfl rfl rfl ?_
        refine ez_iload (q := 176) dL_build_174 rfl rfl ?_
        refine ez_iconst (v := nI 3) (q := 177) dL_build_176 (by decide) rfl ?_
        refine ez_icmple (q := 180) (tgt := 184) dL_build_177 (by decide) rfl (fun hc177 => ?_) (fun hc177 => absurd (by decide) hc177)
        refine ez_iload (q := 186) dL_build_184 rfl rfl ?_
        refine cXv (q := 189) dL_build_186 ck_L_42 hI.1.1 (v_X7_fair hI.rb ho hs (by decide)) rfl ⟨by decide, rfl⟩ rfl rfl rfl (Nat.le_of_ble_eq_true rfl) rfl (fun g hW => ?_)
        have hz := push_all (p := OKA) (z := ((mm, 4, L2, T2, ln, sg) : AS)) hI.hh.choose_spec.2.2.1 ⟨ho, hs⟩ hz
        have hI := hI.tr hW
        clear hW
        have ho := ho.fair (g := 4) (by decide)
        refine ez_iconst (v := -1) (q := 190) dL_build_189 (by decide) rfl ?_
        refine ez_icmpne (q := 193) (tgt := 197) dL_build_190 (by decide) rfl (fun hc190 => absurd fI_4 hc190) (fun hc190 => ?_)
        refine ez_iload_n (q := 194) 3 dL_build_193 rfl rfl rfl ?_
        refine ez_goto (q := 198) dL_build_194 (by decide) ?_
        exact ez_iret dL_build_198 rfl (hQ _ _ _ _ _ _ _ hI ho hz hm1.1 hm1.2)
      · skip
        refine ez_iconst (v := nI 1) (q := 170) dL_build_169 (by decide) rfl ?_
        refine ez_isub (q := 171) dL_build_170 rfl ?_
        refine ez_top ((by decide : nI 1 - nI 1 = fI 0)) ?_
        refine ez_istore_4 (q := 173) dL_build_171 (by decide) rfl rfl ?_
        refine ez_aload_n (q := 174) 0 dL_build_173 rfl rfl rfl ?_
        refine ez_iload (q := 176) dL_build_174 rfl rfl ?_
        refine ez_iconst (v := nI 3) (q := 177) dL_build_176 (by decide) rfl ?_
        refine ez_icmple (q := 180) (tgt := 184) dL_build_177 (by decide) rfl (fun hc177 => ?_) (fun hc177 => absurd (by decide) hc177)
        refine ez_iload (q := 186) dL_build_184 rfl rfl ?_
        refine cXv (q := 189) dL_build_186 ck_L_42 hI.1.1 (v_X7_fair hI.rb ho hs (by decide)) rfl ⟨by decide, rfl⟩ rfl rfl rfl (Nat.le_of_ble_eq_true rfl) rfl (fun g hW => ?_)
        have hz := push_all (p := OKA) (z := ((mm, 4, L2, T2, ln, sg) : AS)) hI.hh.choose_spec.2.2.1 ⟨ho, hs⟩ hz
        have hI := hI.tr hW
        clear hW
        have ho := ho.fair (g := 0) (by decide)
        refine ez_iconst (v := -1) (q := 190) dL_build_189 (by decide) rfl ?_
        refine ez_icmpne (q := 193) (tgt := 197) dL_build_190 (by decide) rfl (fun hc190 => absurd fI_4 hc190) (fun hc190 => ?_)
        refine ez_iload_n (q := 194) 3 dL_build_193 rfl rfl rfl ?_
        refine ez_goto (q := 198) dL_build_194 (by decide) ?_
        exact ez_iret dL_build_198 rfl (hQ _ _ _ _ _ _ _ hI ho hz hm1.1 hm1.2)
      · skip
        refine ez_iconst (v := nI 1) (q := 170) dL_build_169 (by decide) rfl ?_
        refine ez_isub (q := 171) dL_build_170 rfl ?_
        refine ez_top ((by decide : nI 2 - nI 1 = fI 1)) ?_
        refine ez_istore_4 (q := 173) dL_build_171 (by decide) rfl rfl ?_
        refine ez_aload_n (q := 174) 0 dL_build_173 rfl rfl rfl ?_
        refine ez_iload (q := 176) dL_build_174 rfl rfl ?_
        refine ez_iconst (v := nI 3) (q := 177) dL_build_176 (by decide) rfl ?_
        refine ez_icmple (q := 180) (tgt := 184) dL_build_177 (by decide) rfl (fun hc177 => ?_) (fun hc177 => absurd (by decide) hc177)
        refine ez_iload (q := 186) dL_build_184 rfl rfl ?_
        refine cXv (q := 189) dL_build_186 ck_L_42 hI.1.1 (v_X7_fair hI.rb ho hs (by decide)) rfl ⟨by decide, rfl⟩ rfl rfl rfl (Nat.le_of_ble_eq_true rfl) rfl (fun g hW => ?_)
        have hz := push_all (p := OKA) (z := ((mm, 4, L2, T2, ln, sg) : AS)) hI.hh.choose_spec.2.2.1 ⟨ho, hs⟩ hz
        have hI := hI.tr hW
        clear hW
        have ho := ho.fair (g := 1) (by decide)
        refine ez_iconst (v := -1) (q := 190) dL_build_189 (by decide) rfl ?_
        refine ez_icmpne (q := 193) (tgt := 197) dL_build_190 (by decide) rfl (fun hc190 => absurd fI_4 hc190) (fun hc190 => ?_)
        refine ez_iload_n (q := 194) 3 dL_build_193 rfl rfl rfl ?_
        refine ez_goto (q := 198) dL_build_194 (by decide) ?_
        exact ez_iret dL_build_198 rfl (hQ _ _ _ _ _ _ _ hI ho hz hm1.1 hm1.2)
      · skip
        refine ez_iconst (v := nI 1) (q := 170) dL_build_169 (by decide) rfl ?_
        refine ez_isub (q := 171) dL_build_170 rfl ?_
        refine ez_top ((by decide : nI 3 - nI 1 = fI 2)) ?_
        refine ez_istore_4 (q := 173) dL_build_171 (by decide) rfl rfl ?_
        refine ez_aload_n (q := 174) 0 dL_build_173 rfl rfl rfl ?_
        refine ez_iload (q := 176) dL_build_174 rfl rfl ?_
        refine ez_iconst (v := nI 3) (q := 177) dL_build_176 (by decide) rfl ?_
        refine ez_icmple (q := 180) (tgt := 184) dL_build_177 (by decide) rfl (fun hc177 => ?_) (fun hc177 => absurd (by decide) hc177)
        refine ez_iload (q := 186) dL_build_184 rfl rfl ?_
        refine cXv (q := 189) dL_build_186 ck_L_42 hI.1.1 (v_X7_fair hI.rb ho hs (by decide)) rfl ⟨by decide, rfl⟩ rfl rfl rfl (Nat.le_of_ble_eq_true rfl) rfl (fun g hW => ?_)
        have hz := push_all (p := OKA) (z := ((mm, 4, L2, T2, ln, sg) : AS)) hI.hh.choose_spec.2.2.1 ⟨ho, hs⟩ hz
        have hI := hI.tr hW
        clear hW
        have ho := ho.fair (g := 2) (by decide)
        refine ez_iconst (v := -1) (q := 190) dL_build_189 (by decide) rfl ?_
        refine ez_icmpne (q := 193) (tgt := 197) dL_build_190 (by decide) rfl (fun hc190 => absurd fI_4 hc190) (fun hc190 => ?_)
        refine ez_iload_n (q := 194) 3 dL_build_193 rfl rfl rfl ?_
        refine ez_goto (q := 198) dL_build_194 (by decide) ?_
        exact ez_iret dL_build_198 rfl (hQ _ _ _ _ _ _ _ hI ho hz hm1.1 hm1.2)
      · skip
        refine ez_iconst (v := nI 1) (q := 170) dL_build_169 (by decide) rfl ?_
        refine ez_isub (q := 171) dL_build_170 rfl ?_
        refine ez_top ((by decide : nI 4 - nI 1 = fI 3)) ?_
        refine ez_istore_4 (q := 173) dL_build_171 (by decide) rfl rfl ?_
        refine ez_aload_n (q := 174) 0 dL_build_173 rfl rfl rfl ?_
        refine ez_iload (q := 176) dL_build_174 rfl rfl ?_
        refine ez_iconst (v := nI 3) (q := 177) dL_build_176 (by decide) rfl ?_
        refine ez_icmple (q := 180) (tgt := 184) dL_build_177 (by decide) rfl (fun hc177 => ?_) (fun hc177 => absurd (by decide) hc177)
        refine ez_iload (q := 186) dL_build_184 rfl rfl ?_
        refine cXv (q := 189) dL_build_186 ck_L_42 hI.1.1 (v_X7_fair hI.rb ho hs (by decide)) rfl ⟨by decide, rfl⟩ rfl rfl rfl (Nat.le_of_ble_eq_true rfl) rfl (fun g hW => ?_)
        have hz := push_all (p := OKA) (z := ((mm, 4, L2, T2, ln, sg) : AS)) hI.hh.choose_spec.2.2.1 ⟨ho, hs⟩ hz
        have hI := hI.tr hW
        clear hW
        have ho := ho.fair (g := 3) (by decide)
        refine ez_iconst (v := -1) (q := 190) dL_build_189 (by decide) rfl ?_
        refine ez_icmpne (q := 193) (tgt := 197) dL_build_190 (by decide) rfl (fun hc190 => absurd fI_4 hc190) (fun hc190 => ?_)
        refine ez_iload_n (q := 194) 3 dL_build_193 rfl rfl rfl ?_
        refine ez_goto (q := 198) dL_build_194 (by decide) ?_
        exact ez_iret dL_build_198 rfl (hQ _ _ _ _ _ _ _ hI ho hz hm1.1 hm1.2)
      · skip
        refine ez_iconst (v := nI 1) (q := 170) dL_build_169 (by decide) rfl ?_
        refine ez_isub (q := 171) dL_build_170 rfl ?_
        refine ez_top ((by decide : nI 5 - nI 1 = nI 4)) ?_
        refine ez_istore_4 (q := 173) dL_build_171 (by decide) rfl rfl ?_
        refine ez_aload_n (q := 174) 0 dL_build_173 rfl rfl rfl ?_
        refine ez_iload (q := 176) dL_build_174 rfl rfl ?_
        refine ez_iconst (v := nI 3) (q := 177) dL_build_176 (by decide) rfl ?_
        refine ez_icmple (q := 180) (tgt := 184) dL_build_177 (by decide) rfl (fun hc177 => absurd hc177 (by decide)) (fun hc177 => ?_)
        refine ez_iconst (v := -1) (q := 181) dL_build_180 (by decide) rfl ?_
        refine ez_top (fI_4.symm) ?_
        refine ez_goto (q := 186) dL_build_181 (by decide) ?_
        refine cXv (q := 189) dL_build_186 ck_L_42 hI.1.1 (v_X7_fair hI.rb ho hs (by decide)) rfl ⟨by decide, rfl⟩ rfl rfl rfl (Nat.le_of_ble_eq_true rfl) rfl (fun g hW => ?_)
        have hz := push_all (p := OKA) (z := ((mm, 4, L2, T2, ln, sg) : AS)) hI.hh.choose_spec.2.2.1 ⟨ho, hs⟩ hz
        have hI := hI.tr hW
        clear hW
        have ho := ho.fair (g := 4) (by decide)
        refine ez_iconst (v := -1) (q := 190) dL_build_189 (by decide) rfl ?_
        refine ez_icmpne (q := 193) (tgt := 197) dL_build_190 (by decide) rfl (fun hc190 => absurd fI_4 hc190) (fun hc190 => ?_)
        refine ez_iload_n (q := 194) 3 dL_build_193 rfl rfl rfl ?_
        refine ez_goto (q := 198) dL_build_194 (by decide) ?_
        exact ez_iret dL_build_198 rfl (hQ _ _ _ _ _ _ _ hI ho hz hm1.1 hm1.2)
      · skip
        refine ez_iconst (v := nI 1) (q := 170) dL_build_169 (by decide) rfl ?_
        refine ez_isub (q := 171) dL_build_170 rfl ?_
        refine ez_top ((by decide : nI 6 - nI 1 = nI 5)) ?_
        refine ez_istore_4 (q := 173) dL_build_171 (by decide) rfl rfl ?_
        refine ez_aload_n (q := 174) 0 dL_build_173 rfl rfl rfl ?_
        refine ez_iload (q := 176) dL_build_174 rfl rfl ?_
        refine ez_iconst (v := nI 3) (q := 177) dL_build_176 (by decide) rfl ?_
        refine ez_icmple (q := 180) (tgt := 184) dL_build_177 (by decide) rfl (fun hc177 => absurd hc177 (by decide)) (fun hc177 => ?_)
        refine ez_iconst (v := -1) (q := 181) dL_build_180 (by decide) rfl ?_
        refine ez_top (fI_4.symm) ?_
        refine ez_goto (q := 186) dL_build_181 (by decide) ?_
        refine cXv (q := 189) dL_build_186 ck_L_42 hI.1.1 (v_X7_fair hI.rb ho hs (by decide)) rfl ⟨by decide, rfl⟩ rfl rfl rfl (Nat.le_of_ble_eq_true rfl) rfl (fun g hW => ?_)
        have hz := push_all (p := OKA) (z := ((mm, 4, L2, T2, ln, sg) : AS)) hI.hh.choose_spec.2.2.1 ⟨ho, hs⟩ hz
        have hI := hI.tr hW
        clear hW
        have ho := ho.fair (g := 4) (by decide)
        refine ez_iconst (v := -1) (q := 190) dL_build_189 (by decide) rfl ?_
        refine ez_icmpne (q := 193) (tgt := 197) dL_build_190 (by decide) rfl (fun hc190 => absurd fI_4 hc190) (fun hc190 => ?_)
        refine ez_iload_n (q := 194) 3 dL_build_193 rfl rfl rfl ?_
        refine ez_goto (q := 198) dL_build_194 (by decide) ?_
        exact ez_iret dL_build_198 rfl (hQ _ _ _ _ _ _ _ hI ho hz hm1.1 hm1.2)
      · skip
        refine ez_iconst (v := nI 1) (q := 170) dL_build_169 (by decide) rfl ?_
        refine ez_isub (q := 171) dL_build_170 rfl ?_
        refine ez_top ((by decide : nI 7 - nI 1 = nI 6)) ?_
        refine ez_istore_4 (q := 173) dL_build_171 (by decide) rfl rfl ?_
        refine ez_aload_n (q := 174) 0 dL_build_173 rfl rfl rfl ?_
        refine ez_iload (q := 176) dL_build_174 rfl rfl ?_
        refine ez_iconst (v := nI 3) (q := 177) dL_build_176 (by decide) rfl ?_
        refine ez_icmple (q := 180) (tgt := 184) dL_build_177 (by decide) rfl (fun hc177 => absurd hc177 (by decide)) (fun hc177 => ?_)
        refine ez_iconst (v := -1) (q := 181) dL_build_180 (by decide) rfl ?_
        refine ez_top (fI_4.symm) ?_
        refine ez_goto (q := 186) dL_build_181 (by decide) ?_
        refine cXv (q := 189) dL_build_186 ck_L_42 hI.1.1 (v_X7_fair hI.rb ho hs (by decide)) rfl ⟨by decide, rfl⟩ rfl rfl rfl (Nat.le_of_ble_eq_true rfl) rfl (fun g hW => ?_)
        have hz := push_all (p := OKA) (z := ((mm, 4, L2, T2, ln, sg) : AS)) hI.hh.choose_spec.2.2.1 ⟨ho, hs⟩ hz
        have hI := hI.tr hW
        clear hW
        have ho := ho.fair (g := 4) (by decide)
        refine ez_iconst (v := -1) (q := 190) dL_build_189 (by decide) rfl ?_
        refine ez_icmpne (q := 193) (tgt := 197) dL_build_190 (by decide) rfl (fun hc190 => absurd fI_4 hc190) (fun hc190 => ?_)
        refine ez_iload_n (q := 194) 3 dL_build_193 rfl rfl rfl ?_
        refine ez_goto (q := 198) dL_build_194 (by decide) ?_
        exact ez_iret dL_build_198 rfl (hQ _ _ _ _ _ _ _ hI ho hz hm1.1 hm1.2)
    · refine ez_aload_n (q := 68) 1 dL_build_67 rfl rfl rfl ?_
      refine ez_iload_n (q := 69) 2 dL_build_68 rfl rfl rfl ?_
      refine ez_iconst (v := nI 1) (q := 70) dL_build_69 (by decide) rfl ?_
      refine ez_iaddN (q := 71) dL_build_70 rfl ?_
      refine ez_iload (q := 73) dL_build_71 rfl rfl ?_
      refine ez_iaddN (q := 74) dL_build_73 rfl ?_
      refine cUv (q := 77) dL_build_74 ck_L_16 (c_L_cell hG hN (by omega)) rfl rfl rfl (Nat.le_of_ble_eq_true rfl) rfl ?_
      refine ez_istore_5 (q := 79) dL_build_77 (by decide) rfl rfl ?_
      refine ez_iload (q := 81) dL_build_79 rfl rfl ?_
      refine ez_iconst (v := nI 4) (q := 82) dL_build_81 (by decide) rfl ?_
      refine ez_ishr (q := 83) dL_build_82 rfl ?_
      refine ez_iconst (v := nI 4) (q := 84) dL_build_83 (by decide) rfl ?_
      refine cUv (q := 87) dL_build_84 ck_L_10 (c_L_low (by decide) (by decide)) rfl rfl rfl (Nat.le_of_ble_eq_true rfl) rfl ?_
      have hmany := lwN_lt (clV N sc (u + 1 + i) >>> (nI 4 &&& 31)) (m := 4) (by decide)
      generalize lwN (clV N sc (u + 1 + i) >>> (nI 4 &&& 31)) 4 = many at hmany ⊢
      refine ez_istore_6 (q := 89) dL_build_87 (by decide) rfl rfl ?_
      refine ez_iconst (v := nI 0) (q := 90) dL_build_89 (by decide) rfl ?_
      refine ez_istore_7 (q := 92) dL_build_90 (by decide) rfl rfl ?_
      refine ez_loop (α := Nat × (Nat → Nat) × Nat × (Nat → AS)) (fun z99 => match z99 with | (kk, T2, k2, zs2) => many - kk) (P := fun z99 => match z99 with | (kk, T2, k2, zs2) => ∀ (g : ez_H) , CJ h g mm 4 L2 T2 ln sg k2 zs2 t b → (kk ≤ many) → (OK mm 4 L2 T2 ln sg) → (∀ i, i < k2 → OKA (zs2 i)) → E G mL_build (d + 8) Q g n 0 0 92 [some (.ref 1), some (.ref 0), some (.int (nI u)), some (.int (nI mm)), some (.int (nI i)), some (.int ((clV N sc (u + 1 + i)))), some (.int (nI many)), some (.int (nI kk)), none] []) ?_ (0, T2, k2, zs2) g hI (by omega) ho hz
      rintro ⟨kk, T2, k2, zs2⟩ ih92
      dsimp only at ih92 ⊢
      obtain ⟨μ92, hμ92⟩ : ∃ y99, y99 = many - kk := ⟨_, rfl⟩
      rw [← hμ92] at ih92
      have ih92 : ∀ (kk : Nat) (T2 : (Nat → Nat)) (k2 : Nat) (zs2 : (Nat → AS)), many - kk < μ92 → ∀ (g : ez_H) , CJ h g mm 4 L2 T2 ln sg k2 zs2 t b → (kk ≤ many) → (OK mm 4 L2 T2 ln sg) → (∀ i, i < k2 → OKA (zs2 i)) → E G mL_build (d + 8) Q g n 0 0 92 [some (.ref 1), some (.ref 0), some (.int (nI u)), some (.int (nI mm)), some (.int (nI i)), some (.int ((clV N sc (u + 1 + i)))), some (.int (nI many)), some (.int (nI kk)), none] [] := fun kk T2 k2 zs2 => ih92 (kk, T2, k2, zs2)
      intro g  hM hkk ho hz
      have hI := hM
      refine ez_iload (q := 94) dL_build_92 rfl rfl ?_
      refine ez_iload (q := 96) dL_build_94 rfl rfl ?_
      refine ez_icmpgeN (q := 99) (tgt := 150) dL_build_96 (by decide) (by omega) (by omega) rfl (fun hc96 => ?_) (fun hc96 => ?_)
      · refine ez_iincN_4 (q := 153) dL_build_150 (by decide) rfl rfl ?_
        refine ez_goto (q := 61) dL_build_153 (by decide) ?_
        exact E.fg (ih61 (i + 1) T2 k2 zs2 (by omega) g hI (by omega) ho hz) ⟨Or.inr (rfl), Or.inr (rfl), Or.inr (rfl), Or.inr (rfl), Or.inr (rfl), Or.inl rfl, Or.inl rfl, Or.inl rfl, Or.inl rfl, trivial⟩
      · refine ez_iload (q := 101) dL_build_99 rfl rfl ?_
        refine ez_bipush (v := nI 6) (q := 103) dL_build_101 (by decide) rfl ?_
        refine ez_iconst (v := nI 4) (q := 104) dL_build_103 (by decide) rfl ?_
        refine ez_iload (q := 106) dL_build_104 rfl rfl ?_
        refine ez_imulN (q := 107) dL_build_106 rfl ?_
        refine ez_iaddN (q := 108) dL_build_107 rfl ?_
        refine ez_ishr (q := 109) dL_build_108 rfl ?_
        refine ez_iload_n (q := 110) 3 dL_build_109 rfl rfl rfl ?_
        refine cUv (q := 113) dL_build_110 ck_L_10 (c_L_low (by omega) (by omega)) rfl rfl rfl (Nat.le_of_ble_eq_true rfl) rfl ?_
        have hto := lwN_lt (clV N sc (u + 1 + i) >>> (nI (6 + 4 * kk) &&& 31)) (m := mm) (by omega)
        generalize lwN (clV N sc (u + 1 + i) >>> (nI (6 + 4 * kk) &&& 31)) mm = to at hto ⊢
        refine ez_istore_8 (q := 115) dL_build_113 (by decide) rfl rfl ?_
        refine ez_aload_n (q := 116) 0 dL_build_115 rfl rfl rfl ?_
        refine ez_iload (q := 118) dL_build_116 rfl rfl ?_
        refine ez_iconst (v := nI 1) (q := 119) dL_build_118 (by decide) rfl ?_
        refine cXv (q := 122) dL_build_119 ck_L_36 hI.1.1 (v_X7_world (what := 1) hI.rb ho hs (by omega) (by decide)) rfl ⟨by decide, rfl⟩ rfl rfl rfl (Nat.le_of_ble_eq_true rfl) rfl (fun g hW => ?_)
        have hI := hI.tr hW
        clear hW
        refine ez_top (show nI (twN T2 mm 4 L2 ln sg i 1) = nI (T2 i) from rfl) ?_
        refine ez_iload (q := 124) dL_build_122 rfl rfl ?_
        refine ez_ishrN (q := 125) dL_build_124 (lt31 (ho.2.2.2.1 i (by omega)) ho.1) (by omega) rfl ?_
        refine ez_iconst (v := nI 1) (q := 126) dL_build_125 (by decide) rfl ?_
        refine ez_iandN (q := 127) dL_build_126 rfl ?_
        refine ez_ifneN (q := 130) (tgt := 144) dL_build_127 (by decide) (Nat.lt_of_le_of_lt Nat.and_le_right (by decide)) rfl (fun hc127 => ?_) (fun hc127 => ?_)
        · refine ez_iincN_7 (q := 147) dL_build_144 (by decide) rfl rfl ?_
          refine ez_goto (q := 92) dL_build_147 (by decide) ?_
          first
          | exact E.fg (ih92 (kk + 1) T2 k2 zs2 (by omega) g hI (by omega) ho hz) ⟨Or.inr (rfl), Or.inr (rfl), Or.inr (rfl), Or.inr (rfl), Or.inr (rfl), Or.inr (rfl), Or.inr (rfl), Or.inr (rfl), Or.inl rfl, trivial⟩
          | exact E.fg (ih92 (kk + 1) (upN T2 i (T2 i ^^^ 2 ^ to)) (svk k2) (pushZ zs2 k2 ((mm, 4, L2, T2, ln, sg) : AS)) (by omega) g hI (by omega) ho hz) ⟨Or.inr (rfl), Or.inr (rfl), Or.inr (rfl), Or.inr (rfl), Or.inr (rfl), Or.inr (rfl), Or.inr (rfl), Or.inr (rfl), Or.inl rfl, trivial⟩
        · refine ez_aload_n (q := 131) 0 dL_build_130 rfl rfl rfl ?_
          refine ez_iload (q := 133) dL_build_131 rfl rfl ?_
          refine ez_iload (q := 135) dL_build_133 rfl rfl ?_
          refine cXv (q := 138) dL_build_135 ck_L_39 hI.1.1 (v_X7_step hI.rb ho hs (by omega) (by omega)) rfl ⟨by decide, rfl⟩ rfl rfl rfl (Nat.le_of_ble_eq_true rfl) rfl (fun g hW => ?_)
          have hz := push_all (p := OKA) (z := ((mm, 4, L2, T2, ln, sg) : AS)) hI.hh.choose_spec.2.2.1 ⟨ho, hs⟩ hz
          have hI := hI.tr hW
          clear hW
          have ho := ho.turn i (xo_lt (b := to) (ho.2.2.2.1 i (by omega)) hto)
          refine ez_top (xo_set (by omega)) ?_
          refine ez_iconst (v := nI 1) (q := 139) dL_build_138 (by decide) rfl ?_
          refine ez_icmpeqN (q := 142) (tgt := 144) dL_build_139 (by decide) (by decide) (by decide) rfl (fun hc139 => ?_) (fun hc139 => absurd rfl hc139)
          refine ez_iincN_7 (q := 147) dL_build_144 (by decide) rfl rfl ?_
          refine ez_goto (q := 92) dL_build_147 (by decide) ?_
          first
          | exact E.fg (ih92 (kk + 1) T2 k2 zs2 (by omega) g hI (by omega) ho hz) ⟨Or.inr (rfl), Or.inr (rfl), Or.inr (rfl), Or.inr (rfl), Or.inr (rfl), Or.inr (rfl), Or.inr (rfl), Or.inr (rfl), Or.inl rfl, trivial⟩
          | exact E.fg (ih92 (kk + 1) (upN T2 i (T2 i ^^^ 2 ^ to)) (svk k2) (pushZ zs2 k2 ((mm, 4, L2, T2, ln, sg) : AS)) (by omega) g hI (by omega) ho hz) ⟨Or.inr (rfl), Or.inr (rfl), Or.inr (rfl), Or.inr (rfl), Or.inr (rfl), Or.inr (rfl), Or.inr (rfl), Or.inr (rfl), Or.inl rfl, trivial⟩
  · refine ez_aload_n (q := 23) 1 dL_build_22 rfl rfl rfl ?_
    refine ez_iload_n (q := 24) 2 dL_build_23 rfl rfl rfl ?_
    refine ez_iconst (v := nI 1) (q := 25) dL_build_24 (by decide) rfl ?_
    refine ez_iaddN (q := 26) dL_build_25 rfl ?_
    refine ez_iload (q := 28) dL_build_26 rfl rfl ?_
    refine ez_iaddN (q := 29) dL_build_28 rfl ?_
    refine cUv (q := 32) dL_build_29 ck_L_16 (c_L_cell hG hN (by omega)) rfl rfl rfl (Nat.le_of_ble_eq_true rfl) rfl ?_
    refine ez_istore_5 (q := 34) dL_build_32 (by decide) rfl rfl ?_
    refine ez_aload_n (q := 35) 0 dL_build_34 rfl rfl rfl ?_
    refine ez_iload (q := 37) dL_build_35 rfl rfl ?_
    refine ez_bipush (v := nI 16) (q := 39) dL_build_37 (by decide) rfl ?_
    refine cUv (q := 42) dL_build_39 ck_L_10 (c_L_low (by decide) (by decide)) rfl rfl rfl (Nat.le_of_ble_eq_true rfl) rfl ?_
    refine cXv (q := 45) dL_build_42 ck_L_33 hI.1.1 (v_X7_addWorld hI.rb ho hs (by omega) (lwN_lt _ (by decide))) rfl ⟨by decide, rfl⟩ rfl rfl rfl (Nat.le_of_ble_eq_true rfl) rfl (fun g hW => ?_)
    have hk6 := hI.hh.choose_spec.2.2.1
    have hz := push_all (p := OKA) (z := ((i, 4, L2, T2, ln, sg) : AS)) hI.hh.choose_spec.2.2.1 ⟨ho, hs⟩ hz
    have hI := hI.tr hW
    clear hW
    have ho := ho.add (by omega) (lwN_lt (clV N sc (u + 1 + i)) (m := 16) (by decide))
    refine ez_iload (q := 47) dL_build_45 rfl rfl ?_
    refine ez_icmpeqN (q := 50) (tgt := 52) dL_build_47 (by decide) (by omega) (by omega) rfl (fun hc47 => ?_) (fun hc47 => absurd rfl hc47)
    refine ez_iincN_4 (q := 55) dL_build_52 (by decide) rfl rfl ?_
    refine ez_goto (q := 16) dL_build_55 (by decide) ?_
    exact E.fg (ih16 (i + 1) (upN L2 i (lwN (clV N sc (u + 1 + i)) 16)) (upN T2 i 0) (svk k2) (pushZ zs2 k2 ((i, 4, L2, T2, ln, sg) : AS)) (by omega) g hI (by omega) ho hz) ⟨Or.inr (rfl), Or.inr (rfl), Or.inr (rfl), Or.inr (rfl), Or.inr (rfl), Or.inl rfl, Or.inl rfl, Or.inl rfl, Or.inl rfl, trivial⟩
