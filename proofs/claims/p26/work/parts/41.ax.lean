theorem tw_cpn : ez_T (Jvm.Cond.native ({ cls := "java/lang/System", name := "arraycopy", desc := "(Ljava/lang/Object;ILjava/lang/Object;II)V" } : Jvm.MethodName)) := ⟨(List.mem_append_right _ (List.mem_append_right _ (List.mem_append_left _ (List.mem_of_getElem? (i := 65) rfl)))), by rfl⟩
theorem ez_copy {G : ez_G} {M : ez_M} {d : Nat} {Q : ez_Q} {h : ez_H} {n mc ms pc q : Nat} {ls : List (Option Value)} {st : List Value} {cA idx len0 len1 k a0 a1 : Nat} {f g : Nat → Int32} {ty : FieldType} (hd : decode M.2.1 pc = .ok (.invokestatic idx, 3)) (hlk : ez_T (.methodLink M.1.cls idx arraycopyName)) (hnat : ez_T (.native arraycopyName)) (hst : ez_T (.static arraycopyName)) (hin : ez_T (.initialized "java/lang/System"))
    (hA : ∀ G, (ez_tys G)[cA]? = some (ez_ca G cA, ty)) (hpr : refKind ty = false) (hc0 : h a0 = some (.inl (cA, len0, .inl f))) (hc1 : h a1 = some (.inl (cA, len1, .inl g))) (ha : 0 < a1) (hk0 : k ≤ len0) (hk1 : k ≤ len1) (hk31 : k < 2 ^ 31) (hfit : ∀ i, i < k → fits ty (.int (f i)) = true) (hrm : (st.map fun v => v.category).sum ≤ 8) (hq : pc + 3 = q)
    (K : E G M (d + 1) Q (ez_up h a1 (.inl (cA, len1, .inl (va_cpy f g 0 0 k)))) n mc ms q ls st) : E G M (d + 1) Q h n mc ms pc ls (.int (nI k) :: .int (nI 0) :: .ref a1 :: .int (nI 0) :: .ref a0 :: st) := by
  subst hq
  intro p e R s m args below meth c H locs cells slots mt mS la X hR hS hL hc hs
  intro T hT XT
  have r0 : H[ez_ad G a0]? = some (vp_cell (ez_ca G cA) (len0, .inl f)) := ez_one hR hc0 0 _ rfl
  have r1 : H[ez_ad G a1]? = some (vp_cell (ez_ca G cA) (len1, .inl g)) := ez_one hR hc1 0 _ rfl
  obtain ⟨-, k0, e0, cm0, f0⟩ := (X.2.2.2.2.2.2.2.2.1.2.1.2 cA _ (hA G)).1 len0 (fun j => .int (f j))
  obtain ⟨-, k1, e1, cm1, f1⟩ := (X.2.2.2.2.2.2.2.2.1.2.1.2 cA _ (hA G)).1 len1 (fun j => .int (g j))
  have hkc : (nI k).toNatClampNeg = k := nI_clamp (by omega)
  have hz : (nI 0).toNatClampNeg = 0 := rfl
  have hzi : (nI 0).toInt = 0 := rfl
  have hki := nI_toInt hk31
  have hfr := X.2.2.2.2.2.2.2.2.2.1
  have hlo := X.2.2.2.2.2.2.2.2.2.2.1
  have hcat := ez_st_cat G st
  have hnw : nativeFrameWords "java/lang/System" "arraycopy" 5 ≤ 20 := by decide +kernel
  obtain ⟨vm', X', step⟩ := XT.arraycopy X.1 X.2.2.2.1 (X.2.2.2.2.2.2.2.2.1.w hlk args) (X.2.2.2.2.2.2.2.2.1.w hnat args) (X.2.2.2.2.2.2.2.2.1.w hst args) (X.2.2.2.2.2.2.2.2.1.w hin args) (src := ez_ad G a0) (dst := ez_ad G a1) (cs := vp_cell (ez_ca G cA) (len0, .inl f)) (cd := vp_cell (ez_ca G cA) (len1, .inl g)) (srcPos := nI 0) (destPos := nI 0) (n := nI k) (by rw [hT]; exact r0) (by rw [hT]; exact r1) (fun _ h => by cases h) (fun _ h => by cases h) (fun h => by cases h) (fun h => by cases h) e0 e1 f0 f1 (by simp [hpr]) (by decide) (by decide) (nI_pos hk31)
    (by rw [hzi, hki]; show ¬ _ > ((arrV (ez_ca G cA) len0 (fun j => .int (f j))).slots.size : Int); rw [arrV_size]; omega)
    (by rw [hzi, hki]; show ¬ _ > ((arrV (ez_ca G cA) len1 (fun j => .int (g j))).slots.size : Int); rw [arrV_size]; omega)
    (fun vm1 _ i hi => by
      rw [hkc] at hi
      have e9 : (vp_cell (ez_ca G cA) (len0, .inl f)).slots.getD ((nI 0).toNatClampNeg + i) .null = .int (f i) := by
        rw [hz, Nat.zero_add]
        show (arrV (ez_ca G cA) len0 (fun j => .int (f j))).slots.getD _ _ = _
        rw [Array.getD_eq_getD_getElem?, arrV_read _ _ (by omega)]
        rfl
      rw [e9]
      exact ⟨hfit i hi, trivial⟩)
    (g := F0 m pc la ((.int (nI k) :: .int (nI 0) :: .ref a1 :: .int (nI 0) :: .ref a0 :: st).map (ez_v G))) rfl (hL.1.trans X.2.2.2.2.2.1.symm) (rest := st.map (ez_v G)) rfl (by rw [X.2.1]; exact hd) (by omega) (by show 2 * 0 + _ + _ ≤ _; omega)
  have ec : copied (vp_cell (ez_ca G cA) (len0, .inl f)) (vp_cell (ez_ca G cA) (len1, .inl g)) (nI 0) (nI 0) (nI k) = vp_cell (ez_ca G cA) (len1, .inl (va_cpy f g 0 0 k)) := by
    have h9 := va_copied (fun z => Value.int z) (ez_ca G cA) (ez_ca G cA) (n0 := len0) (n1 := len1) (sp := 0) (dp := 0) (n := k) f g (by omega)
    rw [← hkc] at h9 ⊢
    rw [hkc]
    rw [hkc] at h9
    show Cell.storeRun _ (nI 0).toNatClampNeg (Cell.stretch _ (nI 0).toNatClampNeg (nI k).toNatClampNeg) = _
    rw [hkc]
    exact h9
  rw [ec] at X' step
  have hl : ez_ad G a1 < H.size := (Array.getElem?_eq_some_iff.mp r1).1
  have oq : ∀ y : Nat, y ≠ ez_ad G a1 → (H.setIfInBounds (ez_ad G a1) (vp_cell (ez_ca G cA) (len1, .inl (va_cpy f g 0 0 k))))[y]? = H[y]? := fun y hy => by simp [Array.getElem?_setIfInBounds, Ne.symm hy]
  have hh : ((T.setVm vm').setCell (ez_ad G a1) (vp_cell (ez_ca G cA) (len1, .inl (va_cpy f g 0 0 k)))).heap = H.setIfInBounds (ez_ad G a1) (vp_cell (ez_ca G cA) (len1, .inl (va_cpy f g 0 0 k))) := by rw [← hT]; rfl
  obtain ⟨t, b1, b2⟩ := K p e R s m args below meth c _ _ cells slots mt mS la X (hR.set hc1 (show (H.setIfInBounds (ez_ad G a1) _)[ez_ad G a1]? = some _ by simp [Array.getElem?_setIfInBounds, hl]) (by simp) oq) ⟨by simp; exact hS.1, fun y g1 g2 => by
      rw [oq y (fun e => g2 (by rw [e]; exact ez_ad_A ha))]
      exact hS.2.1 y g1 g2, fun y hy => by
      rcases List.mem_append.mp hy with h | h
      · exact hS.2.2 y h
      · obtain ⟨z, -, hz⟩ := List.mem_map.mp h
        rw [← hz]
        exact ez_ad_A ha⟩ hL hc hs _ hh X'
  exact ⟨t, step t b1, b2⟩
theorem ez_max {G : ez_G} {M : ez_M} {d : Nat} {Q : ez_Q} {h : ez_H} {n mc ms pc q : Nat} {ls : List (Option Value)} {st : List Value} {idx : Nat} {x y : Int32} (hd : decode M.2.1 pc = .ok (.invokestatic idx, 3)) (hlk : ez_T (.methodLink M.1.cls idx Lib.Math.max.name)) (hst : ez_T (.static Lib.Math.max.name)) (hin : ez_T (.initialized "java/lang/Math")) (hcd : ez_T (.code Lib.Math.max.name Lib.Math.max.code 2 (some .int))) (hrm : (st.map fun v => v.category).sum ≤ 8) (hq : pc + 3 = q) (K : E G M (d + 1) Q h n mc ms q ls (.int (if x < y then y else x) :: st)) : E G M (d + 1) Q h n mc ms pc ls (.int y :: .int x :: st) := by
  subst hq
  intro p e R s m args below meth c H locs cells slots mt mS la X hR hS hL hc hs
  have hfr := X.2.2.2.2.2.2.2.2.2.1
  have hlo := X.2.2.2.2.2.2.2.2.2.2.1
  have hcat := ez_st_cat G st
  exact va_mmax X.1 X.2.1 (hL.1.trans X.2.2.2.2.2.1.symm).symm X.2.2.2.1 (X.2.2.2.2.2.2.2.2.1.w hlk args) (X.2.2.2.2.2.2.2.2.1.w hst args) (X.2.2.2.2.2.2.2.2.1.w hin args) (X.2.2.2.2.2.2.2.2.1.w hcd args) (by omega) (by omega) (by omega) (by omega) hd (K p e R s m args below meth c H locs cells slots mt mS la X hR hS hL hc hs)
theorem cpy_w : ez_T (.methodLink RX3 32 arraycopyName) ∧ ez_T (.static arraycopyName) ∧ ez_T (.initialized "java/lang/System") := ⟨tw_2_63, tw_2_64, tw_1_14⟩
theorem mx_X2_81 : ez_T (.methodLink RX2 81 Lib.Math.max.name) := tw_3_15
theorem mx_s : ez_T (.static Lib.Math.max.name) := tw_3_16
theorem mx_i : ez_T (.initialized "java/lang/Math") := tw_1_16
theorem mx_c : ez_T (.code Lib.Math.max.name Lib.Math.max.code 2 (some .int)) := tw_3_17
