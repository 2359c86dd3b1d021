theorem push_all {α : Type} {p : α → Prop} {zs : Nat → α} {k : Nat} {z : α} (hk : k ≤ 6) (hz : p z) (h : ∀ i, i < k → p (zs i)) : ∀ i, i < svk k → p (pushZ zs k z i) := by
  intro i hi
  unfold svk at hi
  unfold pushZ putZ
  by_cases h6 : k = 6
  · rw [if_pos h6] at hi ⊢
    show p (if i = 5 then z else zs (i + 1))
    split
    · exact hz
    · exact h _ (by omega)
  · rw [if_neg h6] at hi ⊢
    show p (if i = k then z else zs i)
    split
    · exact hz
    · exact h _ (by omega)
theorem push_top {α : Type} {zs : Nat → α} {k : Nat} {z : α} : pushZ zs k z (svk k - 1) = z := by
  unfold svk pushZ putZ
  by_cases h6 : k = 6
  · rw [if_pos h6, if_pos h6]; rfl
  · rw [if_neg h6, if_neg h6]
    show (if k + 1 - 1 = k then z else zs _) = z
    rw [if_pos (by omega)]
theorem svk_pos (k : Nat) : 0 < svk k := by unfold svk; split <;> omega
-- what the law writes
def WRI (b : Nat → Nat) (m wd : Nat) (wy : Bool) (most : Nat) : Prop := scN b m = (wd, wy) ∧ (∀ j, j < m → stp (scN b j) (b j) = some (scN b (j + 1)) ∧ j + 1 + (scN b (j + 1)).1 + (if (scN b (j + 1)).2 = true then 1 else 0) ≤ 40) ∧ m + wd + (if wy = true then 1 else 0) ≤ most ∧ (wy = true → 0 < wd)
theorem sc_up {b : Nat → Nat} {m c : Nat} : ∀ j, j ≤ m → scN (upN b m c) j = scN b j := by
  intro j
  induction j with
  | zero => intro _; rfl
  | succ j ih =>
    intro hj
    rw [scN, scN, ih (by omega), upN_ne _ _ (by omega)]
theorem wr_0 (b : Nat → Nat) {most : Nat} (h : 1 ≤ most) : WRI b 0 1 false most := ⟨rfl, fun j hj => absurd hj (Nat.not_lt_zero j), by simpa using h, fun e => by cases e⟩
theorem wr_put {b : Nat → Nat} {m wd wd' most c : Nat} {wy wy' : Bool} (h : WRI b m wd wy most) (hm : most ≤ 16) (hs : stp (wd, wy) c = some (wd', wy')) (hr : m + 1 + wd' + (if wy' = true then 1 else 0) ≤ most) (hp : wy' = true → 0 < wd') : WRI (upN b m c) (m + 1) wd' wy' most := by
  obtain ⟨h1, h2, h3, h4⟩ := h
  have e1 : scN (upN b m c) (m + 1) = (wd', wy') := by rw [scN, sc_up m (Nat.le_refl m), upN_eq, h1, hs]
  refine ⟨e1, fun j hj => ?_, hr, hp⟩
  by_cases e : j = m
  · subst e
    rw [e1, sc_up j (Nat.le_refl j), upN_eq, h1]
    refine ⟨hs, ?_⟩
    show j + 1 + wd' + (if wy' = true then 1 else 0) ≤ 40
    omega
  · rw [sc_up j (by omega), sc_up (j + 1) (by omega), upN_ne _ _ e]
    exact h2 j (by omega)
theorem rd_good {b : Nat → Nat} {t : Nat} (h : ∀ j, j < t → stp (scN b j) (b j) = some (scN b (j + 1)) ∧ j + 1 + (scN b (j + 1)).1 + (if (scN b (j + 1)).2 = true then 1 else 0) ≤ 40) : ∀ u k, k + u = t → rdN b t u k (scN b k) = (t, scN b t) := by
  intro u
  induction u with
  | zero => intro k hk; rw [rdN, show k = t by omega]
  | succ u ih =>
    intro k hk
    obtain ⟨h1, h2⟩ := h k (by omega)
    rw [rdN, h1]
    show (if 40 < k + 1 + (scN b (k + 1)).1 + (if (scN b (k + 1)).2 = true then 1 else 0) then _ else _) = _
    rw [if_neg (by omega)]
    exact ih (k + 1) (by omega)
theorem wr_end {b : Nat → Nat} {m most : Nat} {wy : Bool} (h : WRI b m 0 wy most) : whoB b m = true ∧ (rdR b m).1 = m ∧ 0 < m ∧ m ≤ most := by
  obtain ⟨h1, h2, h3, h4⟩ := h
  have hwy : wy = false := by
    cases wy with
    | false => rfl
    | true => exact absurd (h4 rfl) (Nat.lt_irrefl 0)
  have e1 : rdR b m = (m, scN b m) := rd_good h2 m 0 (Nat.zero_add m)
  refine ⟨decide_eq_true ?_, by rw [e1], ?_, by omega⟩
  · rw [e1, h1]; exact ⟨rfl, rfl⟩
  · cases m with
    | zero => rw [show scN b 0 = (1, false) from rfl] at h1; cases h1
    | succ m => exact Nat.succ_pos m
theorem wr_leaf {b : Nat → Nat} {m wd most c : Nat} (h : WRI b m wd false most) (hm : most ≤ 16) (hw : ¬ wd = 0) (hc : (97 ≤ c ∧ c ≤ 100) ∨ c = 116) : WRI (upN b m c) (m + 1) (wd - 1) false most := by
  refine wr_put h hm ?_ ?_ (fun e => by cases e)
  · rw [stp, if_neg (show ¬ ((wd, false) : Nat × Bool).2 = true from Bool.false_ne_true), if_neg (show ¬ ((wd, false) : Nat × Bool).1 = 0 from hw), if_pos hc]
  · have h3 := h.2.2.1
    simp only [if_neg Bool.false_ne_true] at h3 ⊢
    omega
theorem wr_not {b : Nat → Nat} {m wd most c : Nat} (h : WRI b m wd false most) (hm : most ≤ 16) (hw : ¬ wd = 0) (hr : 2 ≤ most - m - wd) (hc : c = 33) : WRI (upN b m c) (m + 1) wd false most := by
  subst hc
  refine wr_put h hm ?_ ?_ (fun e => by cases e)
  · simp [stp, hw]
  · simp only [if_neg Bool.false_ne_true]
    omega
theorem wr_two {b : Nat → Nat} {m wd most c : Nat} (h : WRI b m wd false most) (hm : most ≤ 16) (hw : ¬ wd = 0) (hr : 2 ≤ most - m - wd) (hc : c = 38 ∨ c = 124) : WRI (upN b m c) (m + 1) (wd + 1) false most := by
  refine wr_put h hm ?_ ?_ (fun e => by cases e)
  · rcases hc with rfl | rfl <;> simp [stp, hw]
  · simp only [if_neg Bool.false_ne_true]
    omega
theorem wr_ways {b : Nat → Nat} {m wd most c : Nat} (h : WRI b m wd false most) (hm : most ≤ 16) (hw : ¬ wd = 0) (hr : 2 ≤ most - m - wd) (hc : c = 69 ∨ c = 65) : WRI (upN b m c) (m + 1) wd true most := by
  refine wr_put h hm ?_ ?_ (fun _ => by omega)
  · rcases hc with rfl | rfl <;> simp [stp, hw]
  · simp only [if_pos]
    omega
theorem wr_U {b : Nat → Nat} {m wd most c : Nat} (h : WRI b m wd true most) (hm : most ≤ 16) (hr : 2 ≤ most - m - wd) (hc : c = 85) : WRI (upN b m c) (m + 1) (wd + 1) false most := by
  subst hc
  refine wr_put h hm ?_ ?_ (fun e => by cases e)
  · simp [stp]
  · simp only [if_neg Bool.false_ne_true]
    omega
theorem wr_W {b : Nat → Nat} {m wd most c : Nat} (h : WRI b m wd true most) (hm : most ≤ 16) (hc : c = 88 ∨ c = 70 ∨ c = 71) : WRI (upN b m c) (m + 1) wd false most := by
  refine wr_put h hm ?_ ?_ (fun e => by cases e)
  · rcases hc with rfl | rfl | rfl <;> simp [stp]
  · have h3 := h.2.2.1
    simp only [if_pos, if_neg Bool.false_ne_true] at h3 ⊢
    omega
theorem wr_le {b : Nat → Nat} {m wd most : Nat} {wy : Bool} (h : WRI b m wd wy most) : m + wd + (if wy = true then 1 else 0) ≤ most := h.2.2.1
theorem xo_set {a i : Nat} (h : a >>> i &&& 1 = 0) : nI ((a ^^^ 2 ^ i) >>> i &&& 1) = nI 1 := by
  congr 1
  rw [tb_1, Nat.testBit_xor, Nat.testBit_two_pow_self]
  cases hb : a.testBit i with
  | false => rfl
  | true => rw [(tb_1 _ _).mpr hb] at h; cases h
set_option maxHeartbeats 800000 in
set_option maxRecDepth 100000 in
theorem c_L_write {G : ez_G} {d n : Nat} {h : ez_H} {n' f k t : Nat} {L T ln : Nat → Nat} {sg : Nat → Nat → Nat} {zs : Nat → AS} {b : Nat → Nat} {N : Nat} {sc : Nat → Int32} {u most : Nat} (hI : CJ h h n' f L T ln sg k zs t b) (ho : OK n' f L T ln sg) (hs : WFS ln sg) (hG : ez_N G = N ∧ ez_sc G = sc) (hN : N ≤ 260) (ht0 : t = 0) (hu : u < 1000) (hmost0 : 3 ≤ most) (hmost : most ≤ 16) : Con G mL_write (d + 9) [.ref 1, .ref 0, .int (nI u), .int (nI most)] h n 0 0 (PE n (fun a => nI a.1) (fun (a : Nat × (Nat → Nat)) g => CJ h g n' f L T ln sg k zs a.1 a.2 ∧ whoB a.2 a.1 = true ∧ (rdR a.2 a.1).1 = a.1 ∧ 0 < a.1 ∧ a.1 ≤ 16)) := by
  have hn := ho.1
  subst ht0
  refine Con.of [some (.ref 1), some (.ref 0), some (.int (nI u)), some (.int (nI most)), none, none, none, none, none] pl_L rfl (Nat.le_of_ble_eq_true rfl) rfl ?_
  have hQ : ∀ (t2 : Nat) (b2 : Nat → Nat) g, CJ h g n' f L T ln sg k zs t2 b2 → whoB b2 t2 = true → (rdR b2 t2).1 = t2 → 0 < t2 → t2 ≤ 16 → (PE n (fun a => nI a.1) (fun (a : Nat × (Nat → Nat)) g => CJ h g n' f L T ln sg k zs a.1 a.2 ∧ whoB a.2 a.1 = true ∧ (rdR a.2 a.1).1 = a.1 ∧ 0 < a.1 ∧ a.1 ≤ 16)) (.inl (some (.int (nI t2)))) g n := fun t2 b2 g h1 h2 h3 h4 h5 => ⟨(t2, b2), rfl, ⟨h1, h2, h3, h4, h5⟩, rfl⟩
  generalize PE n (fun a => nI a.1) (fun (a : Nat × (Nat → Nat)) g => CJ h g n' f L T ln sg k zs a.1 a.2 ∧ whoB a.2 a.1 = true ∧ (rdR a.2 a.1).1 = a.1 ∧ 0 < a.1 ∧ a.1 ≤ 16) = Q at hQ ⊢
  refine ez_iconst (v := nI 0) (q := 1) dL_write_0 (by decide) rfl ?_
  refine ez_istore_4 (q := 3) dL_write_1 (by decide) rfl rfl ?_
  refine ez_iconst (v := nI 1) (q := 4) dL_write_3 (by decide) rfl ?_
  refine ez_istore_5 (q := 6) dL_write_4 (by decide) rfl rfl ?_
  refine ez_iconst (v := nI 0) (q := 7) dL_write_6 (by decide) rfl ?_
  refine ez_top (bI_f.symm) ?_
  refine ez_istore_6 (q := 9) dL_write_7 (by decide) rfl rfl ?_
  refine ez_loop (α := Nat × Nat × Bool × (Nat → Nat)) (fun z99 => match z99 with | (m, wd, wy, b2) => most - m) (P := fun z99 => match z99 with | (m, wd, wy, b2) => ∀ (g : ez_H) , CJ h g n' f L T ln sg k zs m b2 → (WRI b2 m wd wy most) → E G mL_write (d + 9) Q g n 0 0 9 [some (.ref 1), some (.ref 0), some (.int (nI u)), some (.int (nI most)), some (.int (nI m)), some (.int (nI wd)), some (.int (bI wy)), none, none] []) ?_ (0, 1, false, b) h hI (wr_0 b (by omega))
  rintro ⟨m, wd, wy, b2⟩ ih9
  dsimp only at ih9 ⊢
  obtain ⟨μ9, hμ9⟩ : ∃ y99, y99 = most - m := ⟨_, rfl⟩
  rw [← hμ9] at ih9
  have ih9 : ∀ (m : Nat) (wd : Nat) (wy : Bool) (b2 : (Nat → Nat)), most - m < μ9 → ∀ (g : ez_H) , CJ h g n' f L T ln sg k zs m b2 → (WRI b2 m wd wy most) → E G mL_write (d + 9) Q g n 0 0 9 [some (.ref 1), some (.ref 0), some (.int (nI u)), some (.int (nI most)), some (.int (nI m)), some (.int (nI wd)), some (.int (bI wy)), none, none] [] := fun m wd wy b2 => ih9 (m, wd, wy, b2)
  intro g  hM hW9
  have hI := hM
  have hle8 := wr_le hW9
  refine ez_iload (q := 11) dL_write_9 rfl rfl ?_
  refine ez_ifleN (q := 14) (tgt := 179) dL_write_11 (by decide) (by omega) rfl (fun hc11 => ?_) (fun hc11 => ?_)
  · subst hc11
    obtain ⟨hwho, hrd, hm0, hmm⟩ := wr_end hW9
    refine ez_iload (q := 181) dL_write_179 rfl rfl ?_
    exact ez_iret dL_write_181 rfl (hQ _ _ _ hI hwho hrd hm0 (by omega))
  · refine ez_aload_n (q := 15) 1 dL_write_14 rfl rfl rfl ?_
    refine ez_iload_n (q := 16) 2 dL_write_15 rfl rfl rfl ?_
    refine ez_iload (q := 18) dL_write_16 rfl rfl ?_
    refine ez_iaddN (q := 19) dL_write_18 rfl ?_
    refine cUv (q := 22) dL_write_19 ck_L_16 (c_L_cell hG hN (by omega)) rfl rfl rfl (Nat.le_of_ble_eq_true rfl) rfl ?_
    refine ez_istore_7 (q := 24) dL_write_22 (by decide) rfl rfl ?_
    cases wy
    · have hle9 := wr_le hW9
      simp only [if_neg Bool.false_ne_true] at hle9
      refine ez_iload (q := 26) dL_write_24 rfl rfl ?_
      refine ez_ifeqB (q := 29) (tgt := 43) dL_write_26 (by decide) rfl (fun hc26 => ?_) (fun hc26 => nomatch hc26)
      refine ez_iload (q := 45) dL_write_43 rfl rfl ?_
      refine ez_iload_n (q := 46) 3 dL_write_45 rfl rfl rfl ?_
      refine ez_iload (q := 48) dL_write_46 rfl rfl ?_
      refine ez_isubN (q := 49) dL_write_48 (by omega) rfl ?_
      refine ez_iload (q := 51) dL_write_49 rfl rfl ?_
      refine cSE (q := 54) dL_write_51 ck_L_24 (c_L_sign (by omega) (by omega)) rfl rfl rfl (Nat.le_of_ble_eq_true rfl) rfl (fun c g hW => ?_)
      obtain ⟨rfl, hcc⟩ := hW
      rcases (show ((97 ≤ c ∧ c ≤ 100) ∨ c = 116) ∨ c = 33 ∨ c = 38 ∨ c = 124 ∨ c = 69 ∨ c = 65 by omega) with hcl | hcl | hcl | hcl | hcl | hcl
      · skip
        refine ez_istore_8 (q := 56) dL_write_54 (by decide) rfl rfl ?_
        refine ez_iload (q := 58) dL_write_56 rfl rfl ?_
        refine ez_iload (q := 60) dL_write_58 rfl rfl ?_
        refine ez_ifeqB (q := 63) (tgt := 78) dL_write_60 (by decide) rfl (fun hc60 => ?_) (fun hc60 => nomatch hc60)
        refine ez_iload (q := 80) dL_write_78 rfl rfl ?_
        refine ez_bipush (v := nI 38) (q := 82) dL_write_80 (by decide) rfl ?_
        refine ez_icmpeqN (q := 85) (tgt := 92) dL_write_82 (by decide) (by omega) (by omega) rfl (fun hc82 => False.elim (by omega)) (fun hc82 => ?_)
        refine ez_iload (q := 87) dL_write_85 rfl rfl ?_
        refine ez_bipush (v := nI 124) (q := 89) dL_write_87 (by decide) rfl ?_
        refine ez_icmpneN (q := 92) (tgt := 96) dL_write_89 (by decide) (by omega) (by omega) rfl (fun hc89 => ?_) (fun hc89 => False.elim (by omega))
        refine ez_iload (q := 98) dL_write_96 rfl rfl ?_
        refine ez_bipush (v := nI 33) (q := 100) dL_write_98 (by decide) rfl ?_
        refine ez_icmpeqN (q := 103) (tgt := 117) dL_write_100 (by decide) (by omega) (by omega) rfl (fun hc100 => False.elim (by omega)) (fun hc100 => ?_)
        refine ez_iload (q := 105) dL_write_103 rfl rfl ?_
        refine ez_bipush (v := nI 69) (q := 107) dL_write_105 (by decide) rfl ?_
        refine ez_icmpeqN (q := 110) (tgt := 117) dL_write_107 (by decide) (by omega) (by omega) rfl (fun hc107 => False.elim (by omega)) (fun hc107 => ?_)
        refine ez_iload (q := 112) dL_write_110 rfl rfl ?_
        refine ez_bipush (v := nI 65) (q := 114) dL_write_112 (by decide) rfl ?_
        refine ez_icmpneN (q := 117) (tgt := 121) dL_write_114 (by decide) (by omega) (by omega) rfl (fun hc114 => ?_) (fun hc114 => False.elim (by omega))
        refine ez_iconst (v := -1) (q := 122) dL_write_121 (by decide) rfl ?_
        refine ez_iadd (q := 123) dL_write_122 rfl ?_
        refine ez_top (nI_dec (by omega)) ?_
        refine ez_istore_5 (q := 125) dL_write_123 (by decide) rfl rfl ?_
        refine ez_iload (q := 127) dL_write_125 rfl rfl ?_
        refine ez_ifneB (q := 130) (tgt := 148) dL_write_127 (by decide) rfl (fun hc127 => nomatch hc127) (fun hc127 => ?_)
        refine ez_iload (q := 132) dL_write_130 rfl rfl ?_
        refine ez_bipush (v := nI 69) (q := 134) dL_write_132 (by decide) rfl ?_
        refine ez_icmpeqN (q := 137) (tgt := 144) dL_write_134 (by decide) (by omega) (by omega) rfl (fun hc134 => False.elim (by omega)) (fun hc134 => ?_)
        refine ez_iload (q := 139) dL_write_137 rfl rfl ?_
        refine ez_bipush (v := nI 65) (q := 141) dL_write_139 (by decide) rfl ?_
        refine ez_icmpneN (q := 144) (tgt := 148) dL_write_141 (by decide) (by omega) (by omega) rfl (fun hc141 => ?_) (fun hc141 => False.elim (by omega))
        refine ez_iconst (v := nI 0) (q := 149) dL_write_148 (by decide) rfl ?_
        refine ez_top (bI_f.symm) ?_
        refine ez_istore_6 (q := 151) dL_write_149 (by decide) rfl rfl ?_
        refine ez_aload_n (q := 152) 0 dL_write_151 rfl rfl rfl ?_
        refine ez_iload (q := 154) dL_write_152 rfl rfl ?_
        refine cXv (q := 157) dL_write_154 ck_L_27 hI.1.1 (v_X7_append hI.rb ho hs (by omega) (by omega) (by omega)) rfl ⟨by decide, rfl⟩ rfl rfl rfl (Nat.le_of_ble_eq_true rfl) rfl (fun g hW => ?_)
        have hI := hI.tr hW
        clear hW
        refine ez_iload (q := 159) dL_write_157 rfl rfl ?_
        refine ez_iconst (v := nI 1) (q := 160) dL_write_159 (by decide) rfl ?_
        refine ez_iaddN (q := 161) dL_write_160 rfl ?_
        refine ez_icmpne (q := 164) (tgt := 171) dL_write_161 (by decide) rfl (fun hc161 => absurd rfl hc161) (fun hc161 => ?_)
        refine ez_iload (q := 166) dL_write_164 rfl rfl ?_
        refine ez_iconst (v := nI 1) (q := 167) dL_write_166 (by decide) rfl ?_
        refine ez_iaddN (q := 168) dL_write_167 rfl ?_
        refine ez_goto (q := 174) dL_write_168 (by decide) ?_
        refine ez_istore_4 (q := 176) dL_write_174 (by decide) rfl rfl ?_
        refine ez_goto (q := 9) dL_write_176 (by decide) ?_
        exact E.fg (ih9 (m + 1) (wd - 1) false (upN b2 m c) (by omega) g hI (wr_leaf hW9 hmost (by omega) (by omega))) ⟨Or.inr rfl, Or.inr rfl, Or.inr rfl, Or.inr rfl, Or.inr rfl, Or.inr rfl, Or.inr rfl, Or.inl rfl, Or.inl rfl, trivial⟩
      · skip
        refine ez_istore_8 (q := 56) dL_write_54 (by decide) rfl rfl ?_
        refine ez_iload (q := 58) dL_write_56 rfl rfl ?_
        refine ez_iload (q := 60) dL_write_58 rfl rfl ?_
        refine ez_ifeqB (q := 63) (tgt := 78) dL_write_60 (by decide) rfl (fun hc60 => ?_) (fun hc60 => nomatch hc60)
        refine ez_iload (q := 80) dL_write_78 rfl rfl ?_
        refine ez_bipush (v := nI 38) (q := 82) dL_write_80 (by decide) rfl ?_
        refine ez_icmpeqN (q := 85) (tgt := 92) dL_write_82 (by decide) (by omega) (by omega) rfl (fun hc82 => False.elim (by omega)) (fun hc82 => ?_)
        refine ez_iload (q := 87) dL_write_85 rfl rfl ?_
        refine ez_bipush (v := nI 124) (q := 89) dL_write_87 (by decide) rfl ?_
        refine ez_icmpneN (q := 92) (tgt := 96) dL_write_89 (by decide) (by omega) (by omega) rfl (fun hc89 => ?_) (fun hc89 => False.elim (by omega))
        refine ez_iload (q := 98) dL_write_96 rfl rfl ?_
        refine ez_bipush (v := nI 33) (q := 100) dL_write_98 (by decide) rfl ?_
        refine ez_icmpeqN (q := 103) (tgt := 117) dL_write_100 (by decide) (by omega) (by omega) rfl (fun hc100 => ?_) (fun hc100 => False.elim (by omega))
        refine ez_iconst (v := nI 0) (q := 118) dL_write_117 (by decide) rfl ?_
        refine ez_goto (q := 122) dL_write_118 (by decide) ?_
        refine ez_iaddN (q := 123) dL_write_122 rfl ?_
        refine ez_istore_5 (q := 125) dL_write_123 (by decide) rfl rfl ?_
        refine ez_iload (q := 127) dL_write_125 rfl rfl ?_
        refine ez_ifneB (q := 130) (tgt := 148) dL_write_127 (by decide) rfl (fun hc127 => nomatch hc127) (fun hc127 => ?_)
        refine ez_iload (q := 132) dL_write_130 rfl rfl ?_
        refine ez_bipush (v := nI 69) (q := 134) dL_write_132 (by decide) rfl ?_
        refine ez_icmpeqN (q := 137) (tgt := 144) dL_write_134 (by decide) (by omega) (by omega) rfl (fun hc134 => False.elim (by omega)) (fun hc134 => ?_)
        refine ez_iload (q := 139) dL_write_137 rfl rfl ?_
        refine ez_bipush (v := nI 65) (q := 141) dL_write_139 (by decide) rfl ?_
        refine ez_icmpneN (q := 144) (tgt := 148) dL_write_141 (by decide) (by omega) (by omega) rfl (fun hc141 => ?_) (fun hc141 => False.elim (by omega))
        refine ez_iconst (v := nI 0) (q := 149) dL_write_148 (by decide) rfl ?_
        refine ez_top (bI_f.symm) ?_
        refine ez_istore_6 (q := 151) dL_write_149 (by decide) rfl rfl ?_
        refine ez_aload_n (q := 152) 0 dL_write_151 rfl rfl rfl ?_
        refine ez_iload (q := 154) dL_write_152 rfl rfl ?_
        refine cXv (q := 157) dL_write_154 ck_L_27 hI.1.1 (v_X7_append hI.rb ho hs (by omega) (by omega) (by omega)) rfl ⟨by decide, rfl⟩ rfl rfl rfl (Nat.le_of_ble_eq_true rfl) rfl (fun g hW => ?_)
        have hI := hI.tr hW
        clear hW
        refine ez_iload (q := 159) dL_write_157 rfl rfl ?_
        refine ez_iconst (v := nI 1) (q := 160) dL_write_159 (by decide) rfl ?_
        refine ez_iaddN (q := 161) dL_write_160 rfl ?_
        refine ez_icmpne (q := 164) (tgt := 171) dL_write_161 (by decide) rfl (fun hc161 => absurd rfl hc161) (fun hc161 => ?_)
        refine ez_iload (q := 166) dL_write_164 rfl rfl ?_
        refine ez_iconst (v := nI 1) (q := 167) dL_write_166 (by decide) rfl ?_
        refine ez_iaddN (q := 168) dL_write_167 rfl ?_
        refine ez_goto (q := 174) dL_write_168 (by decide) ?_
        refine ez_istore_4 (q := 176) dL_write_174 (by decide) rfl rfl ?_
        refine ez_goto (q := 9) dL_write_176 (by decide) ?_
        exact E.fg (ih9 (m + 1) (wd) false (upN b2 m c) (by omega) g hI (wr_not hW9 hmost (by omega) (by omega) hcl)) ⟨Or.inr rfl, Or.inr rfl, Or.inr rfl, Or.inr rfl, Or.inr rfl, Or.inr rfl, Or.inr rfl, Or.inl rfl, Or.inl rfl, trivial⟩
      · skip
        refine ez_istore_8 (q := 56) dL_write_54 (by decide) rfl rfl ?_
        refine ez_iload (q := 58) dL_write_56 rfl rfl ?_
        refine ez_iload (q := 60) dL_write_58 rfl rfl ?_
        refine ez_ifeqB (q := 63) (tgt := 78) dL_write_60 (by decide) rfl (fun hc60 => ?_) (fun hc60 => nomatch hc60)
        refine ez_iload (q := 80) dL_write_78 rfl rfl ?_
        refine ez_bipush (v := nI 38) (q := 82) dL_write_80 (by decide) rfl ?_
        refine ez_icmpeqN (q := 85) (tgt := 92) dL_write_82 (by decide) (by omega) (by omega) rfl (fun hc82 => ?_) (fun hc82 => False.elim (by omega))
        refine ez_iconst (v := nI 1) (q := 93) dL_write_92 (by decide) rfl ?_
        refine ez_goto (q := 122) dL_write_93 (by decide) ?_
        refine ez_iaddN (q := 123) dL_write_122 rfl ?_
        refine ez_istore_5 (q := 125) dL_write_123 (by decide) rfl rfl ?_
        refine ez_iload (q := 127) dL_write_125 rfl rfl ?_
        refine ez_ifneB (q := 130) (tgt := 148) dL_write_127 (by decide) rfl (fun hc127 => nomatch hc127) (fun hc127 => ?_)
        refine ez_iload (q := 132) dL_write_130 rfl rfl ?_
        refine ez_bipush (v := nI 69) (q := 134) dL_write_132 (by decide) rfl ?_
        refine ez_icmpeqN (q := 137) (tgt := 144) dL_write_134 (by decide) (by omega) (by omega) rfl (fun hc134 => False.elim (by omega)) (fun hc134 => ?_)
        refine ez_iload (q := 139) dL_write_137 rfl rfl ?_
        refine ez_bipush (v := nI 65) (q := 141) dL_write_139 (by decide) rfl ?_
        refine ez_icmpneN (q := 144) (tgt := 148) dL_write_141 (by decide) (by omega) (by omega) rfl (fun hc141 => ?_) (fun hc141 => False.elim (by omega))
        refine ez_iconst (v := nI 0) (q := 149) dL_write_148 (by decide) rfl ?_
        refine ez_top (bI_f.symm) ?_
        refine ez_istore_6 (q := 151) dL_write_149 (by decide) rfl rfl ?_
        refine ez_aload_n (q := 152) 0 dL_write_151 rfl rfl rfl ?_
        refine ez_iload (q := 154) dL_write_152 rfl rfl ?_
        refine cXv (q := 157) dL_write_154 ck_L_27 hI.1.1 (v_X7_append hI.rb ho hs (by omega) (by omega) (by omega)) rfl ⟨by decide, rfl⟩ rfl rfl rfl (Nat.le_of_ble_eq_true rfl) rfl (fun g hW => ?_)
        have hI := hI.tr hW
        clear hW
        refine ez_iload (q := 159) dL_write_157 rfl rfl ?_
        refine ez_iconst (v := nI 1) (q := 160) dL_write_159 (by decide) rfl ?_
        refine ez_iaddN (q := 161) dL_write_160 rfl ?_
        refine ez_icmpne (q := 164) (tgt := 171) dL_write_161 (by decide) rfl (fun hc161 => absurd rfl hc161) (fun hc161 => ?_)
        refine ez_iload (q := 166) dL_write_164 rfl rfl ?_
        refine ez_iconst (v := nI 1) (q := 167) dL_write_166 (by decide) rfl ?_
        refine ez_iaddN (q := 168) dL_write_167 rfl ?_
        refine ez_goto (q := 174) dL_write_168 (by decide) ?_
        refine ez_istore_4 (q := 176) dL_write_174 (by decide) rfl rfl ?_
        refine ez_goto (q := 9) dL_write_176 (by decide) ?_
        exact E.fg (ih9 (m + 1) (wd + 1) false (upN b2 m c) (by omega) g hI (wr_two hW9 hmost (by omega) (by omega) (Or.inl hcl))) ⟨Or.inr rfl, Or.inr rfl, Or.inr rfl, Or.inr rfl, Or.inr rfl, Or.inr rfl, Or.inr rfl, Or.inl rfl, Or.inl rfl, trivial⟩
      · skip
        refine ez_istore_8 (q := 56) dL_write_54 (by decide) rfl rfl ?_
        refine ez_iload (q := 58) dL_write_56 rfl rfl ?_
        refine ez_iload (q := 60) dL_write_58 rfl rfl ?_
        refine ez_ifeqB (q := 63) (tgt := 78) dL_write_60 (by decide) rfl (fun hc60 => ?_) (fun hc60 => nomatch hc60)
        refine ez_iload (q := 80) dL_write_78 rfl rfl ?_
        refine ez_bipush (v := nI 38) (q := 82) dL_write_80 (by decide) rfl ?_
        refine ez_icmpeqN (q := 85) (tgt := 92) dL_write_82 (by decide) (by omega) (by omega) rfl (fun hc82 => False.elim (by omega)) (fun hc82 => ?_)
        refine ez_iload (q := 87) dL_write_85 rfl rfl ?_
        refine ez_bipush (v := nI 124) (q := 89) dL_write_87 (by decide) rfl ?_
        refine ez_icmpneN (q := 92) (tgt := 96) dL_write_89 (by decide) (by omega) (by omega) rfl (fun hc89 => False.elim (by omega)) (fun hc89 => ?_)
        refine ez_iconst (v := nI 1) (q := 93) dL_write_92 (by decide) rfl ?_
        refine ez_goto (q := 122) dL_write_93 (by decide) ?_
        refine ez_iaddN (q := 123) dL_write_122 rfl ?_
        refine ez_istore_5 (q := 125) dL_write_123 (by decide) rfl rfl ?_
        refine ez_iload (q := 127) dL_write_125 rfl rfl ?_
        refine ez_ifneB (q := 130) (tgt := 148) dL_write_127 (by decide) rfl (fun hc127 => nomatch hc127) (fun hc127 => ?_)
        refine ez_iload (q := 132) dL_write_130 rfl rfl ?_
        refine ez_bipush (v := nI 69) (q := 134) dL_write_132 (by decide) rfl ?_
        refine ez_icmpeqN (q := 137) (tgt := 144) dL_write_134 (by decide) (by omega) (by omega) rfl (fun hc134 => False.elim (by omega)) (fun hc134 => ?_)
        refine ez_iload (q := 139) dL_write_137 rfl rfl ?_
        refine ez_bipush (v := nI 65) (q := 141) dL_write_139 (by decide) rfl ?_
        refine ez_icmpneN (q := 144) (tgt := 148) dL_write_141 (by decide) (by omega) (by omega) rfl (fun hc141 => ?_) (fun hc141 => False.elim (by omega))
        refine ez_iconst (v := nI 0) (q := 149) dL_write_148 (by decide) rfl ?_
        refine ez_top (bI_f.symm) ?_
        refine ez_istore_6 (q := 151) dL_write_149 (by decide) rfl rfl ?_
        refine ez_aload_n (q := 152) 0 dL_write_151 rfl rfl rfl ?_
        refine ez_iload (q := 154) dL_write_152 rfl rfl ?_
        refine cXv (q := 157) dL_write_154 ck_L_27 hI.1.1 (v_X7_append hI.rb ho hs (by omega) (by omega) (by omega)) rfl ⟨by decide, rfl⟩ rfl rfl rfl (Nat.le_of_ble_eq_true rfl) rfl (fun g hW => ?_)
        have hI := hI.tr hW
        clear hW
        refine ez_iload (q := 159) dL_write_157 rfl rfl ?_
        refine ez_iconst (v := nI 1) (q := 160) dL_write_159 (by decide) rfl ?_
        refine ez_iaddN (q := 161) dL_write_160 rfl ?_
        refine ez_icmpne (q := 164) (tgt := 171) dL_write_161 (by decide) rfl (fun hc161 => absurd rfl hc161) (fun hc161 => ?_)
        refine ez_iload (q := 166) dL_write_164 rfl rfl ?_
        refine ez_iconst (v := nI 1) (q := 167) dL_write_166 (by decide) rfl ?_
        refine ez_iaddN (q := 168) dL_write_167 rfl ?_
        refine ez_goto (q := 174) dL_write_168 (by decide) ?_
        refine ez_istore_4 (q := 176) dL_write_174 (by decide) rfl rfl ?_
        refine ez_goto (q := 9) dL_write_176 (by decide) ?_
        exact E.fg (ih9 (m + 1) (wd + 1) false (upN b2 m c) (by omega) g hI (wr_two hW9 hmost (by omega) (by omega) (Or.inr hcl))) ⟨Or.inr rfl, Or.inr rfl, Or.inr rfl, Or.inr rfl, Or.inr rfl, Or.inr rfl, Or.inr rfl, Or.inl rfl, Or.inl rfl, trivial⟩
      · skip
        refine ez_istore_8 (q := 56) dL_write_54 (by decide) rfl rfl ?_
        refine ez_iload (q := 58) dL_write_56 rfl rfl ?_
        refine ez_iload (q := 60) dL_write_58 rfl rfl ?_
        refine ez_ifeqB (q := 63) (tgt := 78) dL_write_60 (by decide) rfl (fun hc60 => ?_) (fun hc60 => nomatch hc60)
        refine ez_iload (q := 80) dL_write_78 rfl rfl ?_
        refine ez_bipush (v := nI 38) (q := 82) dL_write_80 (by decide) rfl ?_
        refine ez_icmpeqN (q := 85) (tgt := 92) dL_write_82 (by decide) (by omega) (by omega) rfl (fun hc82 => False.elim (by omega)) (fun hc82 => ?_)
        refine ez_iload (q := 87) dL_write_85 rfl rfl ?_
        refine ez_bipush (v := nI 124) (q := 89) dL_write_87 (by decide) rfl ?_
        refine ez_icmpneN (q := 92) (tgt := 96) dL_write_89 (by decide) (by omega) (by omega) rfl (fun hc89 => ?_) (fun hc89 => False.elim (by omega))
        refine ez_iload (q := 98) dL_write_96 rfl rfl ?_
        refine ez_bipush (v := nI 33) (q := 100) dL_write_98 (by decide) rfl ?_
        refine ez_icmpeqN (q := 103) (tgt := 117) dL_write_100 (by decide) (by omega) (by omega) rfl (fun hc100 => False.elim (by omega)) (fun hc100 => ?_)
        refine ez_iload (q := 105) dL_write_103 rfl rfl ?_
        refine ez_bipush (v := nI 69) (q := 107) dL_write_105 (by decide) rfl ?_
        refine ez_icmpeqN (q := 110) (tgt := 117) dL_write_107 (by decide) (by omega) (by omega) rfl (fun hc107 => ?_) (fun hc107 => False.elim (by omega))
        refine ez_iconst (v := nI 0) (q := 118) dL_write_117 (by decide) rfl ?_
        refine ez_goto (q := 122) dL_write_118 (by decide) ?_
        refine ez_iaddN (q := 123) dL_write_122 rfl ?_
        refine ez_istore_5 (q := 125) dL_write_123 (by decide) rfl rfl ?_
        refine ez_iload (q := 127) dL_write_125 rfl rfl ?_
        refine ez_ifneB (q := 130) (tgt := 148) dL_write_127 (by decide) rfl (fun hc127 => nomatch hc127) (fun hc127 => ?_)
        refine ez_iload (q := 132) dL_write_130 rfl rfl ?_
        refine ez_bipush (v := nI 69) (q := 134) dL_write_132 (by decide) rfl ?_
        refine ez_icmpeqN (q := 137) (tgt := 144) dL_write_134 (by decide) (by omega) (by omega) rfl (fun hc134 => ?_) (fun hc134 => False.elim (by omega))
        refine ez_iconst (v := nI 1) (q := 145) dL_write_144 (by decide) rfl ?_
        refine ez_top (bI_t.symm) ?_
        refine ez_goto (q := 149) dL_write_145 (by decide) ?_
        refine ez_istore_6 (q := 151) dL_write_149 (by decide) rfl rfl ?_
        refine ez_aload_n (q := 152) 0 dL_write_151 rfl rfl rfl ?_
        refine ez_iload (q := 154) dL_write_152 rfl rfl ?_
        refine cXv (q := 157) dL_write_154 ck_L_27 hI.1.1 (v_X7_append hI.rb ho hs (by omega) (by omega) (by omega)) rfl ⟨by decide, rfl⟩ rfl rfl rfl (Nat.le_of_ble_eq_true rfl) rfl (fun g hW => ?_)
        have hI := hI.tr hW
        clear hW
        refine ez_iload (q := 159) dL_write_157 rfl rfl ?_
        refine ez_iconst (v := nI 1) (q := 160) dL_write_159 (by decide) rfl ?_
        refine ez_iaddN (q := 161) dL_write_160 rfl ?_
        refine ez_icmpne (q := 164) (tgt := 171) dL_write_161 (by decide) rfl (fun hc161 => absurd rfl hc161) (fun hc161 => ?_)
        refine ez_iload (q := 166) dL_write_164 rfl rfl ?_
        refine ez_iconst (v := nI 1) (q := 167) dL_write_166 (by decide) rfl ?_
        refine ez_iaddN (q := 168) dL_write_167 rfl ?_
        refine ez_goto (q := 174) dL_write_168 (by decide) ?_
        refine ez_istore_4 (q := 176) dL_write_174 (by decide) rfl rfl ?_
        refine ez_goto (q := 9) dL_write_176 (by decide) ?_
        exact E.fg (ih9 (m + 1) (wd) true (upN b2 m c) (by omega) g hI (wr_ways hW9 hmost (by omega) (by omega) (Or.inl hcl))) ⟨Or.inr rfl, Or.inr rfl, Or.inr rfl, Or.inr rfl, Or.inr rfl, Or.inr rfl, Or.inr rfl, Or.inl rfl, Or.inl rfl, trivial⟩
      · skip
        refine ez_istore_8 (q := 56) dL_write_54 (by decide) rfl rfl ?_
        refine ez_iload (q := 58) dL_write_56 rfl rfl ?_
        refine ez_iload (q := 60) dL_write_58 rfl rfl ?_
        refine ez_ifeqB (q := 63) (tgt := 78) dL_write_60 (by decide) rfl (fun hc60 => ?_) (fun hc60 => nomatch hc60)
        refine ez_iload (q := 80) dL_write_78 rfl rfl ?_
        refine ez_bipush (v := nI 38) (q := 82) dL_write_80 (by decide) rfl ?_
        refine ez_icmpeqN (q := 85) (tgt := 92) dL_write_82 (by decide) (by omega) (by omega) rfl (fun hc82 => False.elim (by omega)) (fun hc82 => ?_)
        refine ez_iload (q := 87) dL_write_85 rfl rfl ?_
        refine ez_bipush (v := nI 124) (q := 89) dL_write_87 (by decide) rfl ?_
        refine ez_icmpneN (q := 92) (tgt := 96) dL_write_89 (by decide) (by omega) (by omega) rfl (fun hc89 => ?_) (fun hc89 => False.elim (by omega))
        refine ez_iload (q := 98) dL_write_96 rfl rfl ?_
        refine ez_bipush (v := nI 33) (q := 100) dL_write_98 (by decide) rfl ?_
        refine ez_icmpeqN (q := 103) (tgt := 117) dL_write_100 (by decide) (by omega) (by omega) rfl (fun hc100 => False.elim (by omega)) (fun hc100 => ?_)
        refine ez_iload (q := 105) dL_write_103 rfl rfl ?_
        refine ez_bipush (v := nI 69) (q := 107) dL_write_105 (by decide) rfl ?_
        refine ez_icmpeqN (q := 110) (tgt := 117) dL_write_107 (by decide) (by omega) (by omega) rfl (fun hc107 => False.elim (by omega)) (fun hc107 => ?_)
        refine ez_iload (q := 112) dL_write_110 rfl rfl ?_
        refine ez_bipush (v := nI 65) (q := 114) dL_write_112 (by decide) rfl ?_
        refine ez_icmpneN (q := 117) (tgt := 121) dL_write_114 (by decide) (by omega) (by omega) rfl (fun hc114 => False.elim (by omega)) (fun hc114 => ?_)
        refine ez_iconst (v := nI 0) (q := 118) dL_write_117 (by decide) rfl ?_
        refine ez_goto (q := 122) dL_write_118 (by decide) ?_
        refine ez_iaddN (q := 123) dL_write_122 rfl ?_
        refine ez_istore_5 (q := 125) dL_write_123 (by decide) rfl rfl ?_
        refine ez_iload (q := 127) dL_write_125 rfl rfl ?_
        refine ez_ifneB (q := 130) (tgt := 148) dL_write_127 (by decide) rfl (fun hc127 => nomatch hc127) (fun hc127 => ?_)
        refine ez_iload (q := 132) dL_write_130 rfl rfl ?_
        refine ez_bipush (v := nI 69) (q := 134) dL_write_132 (by decide) rfl ?_
        refine ez_icmpeqN (q := 137) (tgt := 144) dL_write_134 (by decide) (by omega) (by omega) rfl (fun hc134 => False.elim (by omega)) (fun hc134 => ?_)
        refine ez_iload (q := 139) dL_write_137 rfl rfl ?_
        refine ez_bipush (v := nI 65) (q := 141) dL_write_139 (by decide) rfl ?_
        refine ez_icmpneN (q := 144) (tgt := 148) dL_write_141 (by decide) (by omega) (by omega) rfl (fun hc141 => False.elim (by omega)) (fun hc141 => ?_)
        refine ez_iconst (v := nI 1) (q := 145) dL_write_144 (by decide) rfl ?_
        refine ez_top (bI_t.symm) ?_
        refine ez_goto (q := 149) dL_write_145 (by decide) ?_
        refine ez_istore_6 (q := 151) dL_write_149 (by decide) rfl rfl ?_
        refine ez_aload_n (q := 152) 0 dL_write_151 rfl rfl rfl ?_
        refine ez_iload (q := 154) dL_write_152 rfl rfl ?_
        refine cXv (q := 157) dL_write_154 ck_L_27 hI.1.1 (v_X7_append hI.rb ho hs (by omega) (by omega) (by omega)) rfl ⟨by decide, rfl⟩ rfl rfl rfl (Nat.le_of_ble_eq_true rfl) rfl (fun g hW => ?_)
        have hI := hI.tr hW
        clear hW
        refine ez_iload (q := 159) dL_write_157 rfl rfl ?_
        refine ez_iconst (v := nI 1) (q := 160) dL_write_159 (by decide) rfl ?_
        refine ez_iaddN (q := 161) dL_write_160 rfl ?_
        refine ez_icmpne (q := 164) (tgt := 171) dL_write_161 (by decide) rfl (fun hc161 => absurd rfl hc161) (fun hc161 => ?_)
        refine ez_iload (q := 166) dL_write_164 rfl rfl ?_
        refine ez_iconst (v := nI 1) (q := 167) dL_write_166 (by decide) rfl ?_
        refine ez_iaddN (q := 168) dL_write_167 rfl ?_
        refine ez_goto (q := 174) dL_write_168 (by decide) ?_
        refine ez_istore_4 (q := 176) dL_write_174 (by decide) rfl rfl ?_
        refine ez_goto (q := 9) dL_write_176 (by decide) ?_
        exact E.fg (ih9 (m + 1) (wd) true (upN b2 m c) (by omega) g hI (wr_ways hW9 hmost (by omega) (by omega) (Or.inr hcl))) ⟨Or.inr rfl, Or.inr rfl, Or.inr rfl, Or.inr rfl, Or.inr rfl, Or.inr rfl, Or.inr rfl, Or.inl rfl, Or.inl rfl, trivial⟩
    · have hle9 := wr_le hW9
      simp only [if_pos] at hle9
      refine ez_iload (q := 26) dL_write_24 rfl rfl ?_
      refine ez_ifeqB (q := 29) (tgt := 43) dL_write_26 (by decide) rfl (fun hc26 => nomatch hc26) (fun hc26 => ?_)
      refine ez_iload (q := 31) dL_write_29 rfl rfl ?_
      refine ez_iload_n (q := 32) 3 dL_write_31 rfl rfl rfl ?_
      refine ez_iload (q := 34) dL_write_32 rfl rfl ?_
      refine ez_isubN (q := 35) dL_write_34 (by omega) rfl ?_
      refine ez_iload (q := 37) dL_write_35 rfl rfl ?_
      refine cSE (q := 40) dL_write_37 ck_L_20 (c_L_way (by omega) (by omega)) rfl rfl rfl (Nat.le_of_ble_eq_true rfl) rfl (fun c g hW => ?_)
      obtain ⟨rfl, hcc⟩ := hW
      refine ez_goto (q := 54) dL_write_40 (by decide) ?_
      rcases (show (c = 85 ∧ 2 ≤ most - m - wd) ∨ c = 88 ∨ c = 70 ∨ c = 71 by omega) with hcl | hcl
      · skip
        refine ez_istore_8 (q := 56) dL_write_54 (by decide) rfl rfl ?_
        refine ez_iload (q := 58) dL_write_56 rfl rfl ?_
        refine ez_iload (q := 60) dL_write_58 rfl rfl ?_
        refine ez_ifeqB (q := 63) (tgt := 78) dL_write_60 (by decide) rfl (fun hc60 => nomatch hc60) (fun hc60 => ?_)
        refine ez_iload (q := 65) dL_write_63 rfl rfl ?_
        refine ez_bipush (v := nI 85) (q := 67) dL_write_65 (by decide) rfl ?_
        refine ez_icmpneN (q := 70) (tgt := 74) dL_write_67 (by decide) (by omega) (by omega) rfl (fun hc67 => False.elim (by omega)) (fun hc67 => ?_)
        refine ez_iconst (v := nI 1) (q := 71) dL_write_70 (by decide) rfl ?_
        refine ez_goto (q := 122) dL_write_71 (by decide) ?_
        refine ez_iaddN (q := 123) dL_write_122 rfl ?_
        refine ez_istore_5 (q := 125) dL_write_123 (by decide) rfl rfl ?_
        refine ez_iload (q := 127) dL_write_125 rfl rfl ?_
        refine ez_ifneB (q := 130) (tgt := 148) dL_write_127 (by decide) rfl (fun hc127 => ?_) (fun hc127 => nomatch hc127)
        refine ez_iconst (v := nI 0) (q := 149) dL_write_148 (by decide) rfl ?_
        refine ez_top (bI_f.symm) ?_
        refine ez_istore_6 (q := 151) dL_write_149 (by decide) rfl rfl ?_
        refine ez_aload_n (q := 152) 0 dL_write_151 rfl rfl rfl ?_
        refine ez_iload (q := 154) dL_write_152 rfl rfl ?_
        refine cXv (q := 157) dL_write_154 ck_L_27 hI.1.1 (v_X7_append hI.rb ho hs (by omega) (by omega) (by omega)) rfl ⟨by decide, rfl⟩ rfl rfl rfl (Nat.le_of_ble_eq_true rfl) rfl (fun g hW => ?_)
        have hI := hI.tr hW
        clear hW
        refine ez_iload (q := 159) dL_write_157 rfl rfl ?_
        refine ez_iconst (v := nI 1) (q := 160) dL_write_159 (by decide) rfl ?_
        refine ez_iaddN (q := 161) dL_write_160 rfl ?_
        refine ez_icmpne (q := 164) (tgt := 171) dL_write_161 (by decide) rfl (fun hc161 => absurd rfl hc161) (fun hc161 => ?_)
        refine ez_iload (q := 166) dL_write_164 rfl rfl ?_
        refine ez_iconst (v := nI 1) (q := 167) dL_write_166 (by decide) rfl ?_
        refine ez_iaddN (q := 168) dL_write_167 rfl ?_
        refine ez_goto (q := 174) dL_write_168 (by decide) ?_
        refine ez_istore_4 (q := 176) dL_write_174 (by decide) rfl rfl ?_
        refine ez_goto (q := 9) dL_write_176 (by decide) ?_
        exact E.fg (ih9 (m + 1) (wd + 1) false (upN b2 m c) (by omega) g hI (wr_U hW9 hmost hcl.2 hcl.1)) ⟨Or.inr rfl, Or.inr rfl, Or.inr rfl, Or.inr rfl, Or.inr rfl, Or.inr rfl, Or.inr rfl, Or.inl rfl, Or.inl rfl, trivial⟩
      · skip
        refine ez_istore_8 (q := 56) dL_write_54 (by decide) rfl rfl ?_
        refine ez_iload (q := 58) dL_write_56 rfl rfl ?_
        refine ez_iload (q := 60) dL_write_58 rfl rfl ?_
        refine ez_ifeqB (q := 63) (tgt := 78) dL_write_60 (by decide) rfl (fun hc60 => nomatch hc60) (fun hc60 => ?_)
        refine ez_iload (q := 65) dL_write_63 rfl rfl ?_
        refine ez_bipush (v := nI 85) (q := 67) dL_write_65 (by decide) rfl ?_
        refine ez_icmpneN (q := 70) (tgt := 74) dL_write_67 (by decide) (by omega) (by omega) rfl (fun hc67 => ?_) (fun hc67 => False.elim (by omega))
        refine ez_iconst (v := nI 0) (q := 75) dL_write_74 (by decide) rfl ?_
        refine ez_goto (q := 122) dL_write_75 (by decide) ?_
        refine ez_iaddN (q := 123) dL_write_122 rfl ?_
        refine ez_istore_5 (q := 125) dL_write_123 (by decide) rfl rfl ?_
        refine ez_iload (q := 127) dL_write_125 rfl rfl ?_
        refine ez_ifneB (q := 130) (tgt := 148) dL_write_127 (by decide) rfl (fun hc127 => ?_) (fun hc127 => nomatch hc127)
        refine ez_iconst (v := nI 0) (q := 149) dL_write_148 (by decide) rfl ?_
        refine ez_top (bI_f.symm) ?_
        refine ez_istore_6 (q := 151) dL_write_149 (by decide) rfl rfl ?_
        refine ez_aload_n (q := 152) 0 dL_write_151 rfl rfl rfl ?_
        refine ez_iload (q := 154) dL_write_152 rfl rfl ?_
        refine cXv (q := 157) dL_write_154 ck_L_27 hI.1.1 (v_X7_append hI.rb ho hs (by omega) (by omega) (by omega)) rfl ⟨by decide, rfl⟩ rfl rfl rfl (Nat.le_of_ble_eq_true rfl) rfl (fun g hW => ?_)
        have hI := hI.tr hW
        clear hW
        refine ez_iload (q := 159) dL_write_157 rfl rfl ?_
        refine ez_iconst (v := nI 1) (q := 160) dL_write_159 (by decide) rfl ?_
        refine ez_iaddN (q := 161) dL_write_160 rfl ?_
        refine ez_icmpne (q := 164) (tgt := 171) dL_write_161 (by decide) rfl (fun hc161 => absurd rfl hc161) (fun hc161 => ?_)
        refine ez_iload (q := 166) dL_write_164 rfl rfl ?_
        refine ez_iconst (v := nI 1) (q := 167) dL_write_166 (by decide) rfl ?_
        refine ez_iaddN (q := 168) dL_write_167 rfl ?_
        refine ez_goto (q := 174) dL_write_168 (by decide) ?_
        refine ez_istore_4 (q := 176) dL_write_174 (by decide) rfl rfl ?_
        refine ez_goto (q := 9) dL_write_176 (by decide) ?_
        exact E.fg (ih9 (m + 1) (wd) false (upN b2 m c) (by omega) g hI (wr_W hW9 hmost hcl)) ⟨Or.inr rfl, Or.inr rfl, Or.inr rfl, Or.inr rfl, Or.inr rfl, Or.inr rfl, Or.inr rfl, Or.inl rfl, Or.inl rfl, trivial⟩
