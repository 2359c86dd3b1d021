theorem fits_ch {c : Nat} (h : c < 65536) : fits .char (.int (nI c)) = true := by
  have h1 : (nI c).toInt = (c : Int) := nI_toInt (by omega)
  show (decide ((0 : Int32) ≤ nI c) && decide (nI c ≤ (65535 : Int32))) = true
  rw [Bool.and_eq_true]
  refine ⟨decide_eq_true ?_, decide_eq_true ?_⟩
  · rw [Int32.le_iff_toInt_le, h1]; show (0 : Int) ≤ _; omega
  · rw [Int32.le_iff_toInt_le, h1]; show (c : Int) ≤ 65535; omega
theorem cSW_lt {G : ez_G} {M : ez_M} {d : Nat} {Q : ez_Q} {h0 h : ez_H} {n mc ms pc q idx a0 : Nat} {ls : List (Option Value)} {st9 : List Value} {ia : Nat} {wo ff : Int32} {lt st le sc : Nat → Int32} {f : Nat → Int32} (hd : decode M.2.1 pc = .ok (.invokestatic idx, 3)) (hlk : ez_T (.methodLink M.1.cls idx arraycopyName)) (hM : SW ia h0 h wo ff lt st le sc) (hc0 : h a0 = some (.inl (0, 10, .inl f))) (hrm : (st9.map fun v => v.category).sum ≤ 8) (hq : pc + 3 = q) (K : ∀ g, SW ia h0 g wo ff (va_cpy f lt 0 0 10) st le sc → E G M (d + 1) Q g n mc ms q ls st9) : E G M (d + 1) Q h n mc ms pc ls (.int (nI 10) :: .int (nI 0) :: .ref (ia + 1) :: .int (nI 0) :: .ref a0 :: st9) := ez_copy (cA := 0) (ty := .int) hd hlk tw_cpn cpy_w.2.1 cpy_w.2.2 (fun _ => rfl) rfl hc0 hM.2.2.1 (by have := hM.1; omega) (Nat.le_refl _) (Nat.le_refl _) (by decide) (fun _ _ => rfl) hrm hq (K _ ⟨hM.1, zu_keep (by omega) hM.2.1, zu_same, zu_keep (by omega) hM.2.2.2.1, zu_keep (by omega) hM.2.2.2.2.1, zu_keep (by omega) hM.2.2.2.2.2.1, fun j hj => zu_fr (by omega) (hM.2.2.2.2.2.2 j hj)⟩)
theorem cSW_st {G : ez_G} {M : ez_M} {d : Nat} {Q : ez_Q} {h0 h : ez_H} {n mc ms pc q idx a0 : Nat} {ls : List (Option Value)} {st9 : List Value} {ia : Nat} {wo ff : Int32} {lt st le sc : Nat → Int32} {f : Nat → Int32} (hd : decode M.2.1 pc = .ok (.invokestatic idx, 3)) (hlk : ez_T (.methodLink M.1.cls idx arraycopyName)) (hM : SW ia h0 h wo ff lt st le sc) (hc0 : h a0 = some (.inl (0, 10, .inl f))) (hrm : (st9.map fun v => v.category).sum ≤ 8) (hq : pc + 3 = q) (K : ∀ g, SW ia h0 g wo ff lt (va_cpy f st 0 0 10) le sc → E G M (d + 1) Q g n mc ms q ls st9) : E G M (d + 1) Q h n mc ms pc ls (.int (nI 10) :: .int (nI 0) :: .ref (ia + 2) :: .int (nI 0) :: .ref a0 :: st9) := ez_copy (cA := 0) (ty := .int) hd hlk tw_cpn cpy_w.2.1 cpy_w.2.2 (fun _ => rfl) rfl hc0 hM.2.2.2.1 (by have := hM.1; omega) (Nat.le_refl _) (Nat.le_refl _) (by decide) (fun _ _ => rfl) hrm hq (K _ ⟨hM.1, zu_keep (by omega) hM.2.1, zu_keep (by omega) hM.2.2.1, zu_same, zu_keep (by omega) hM.2.2.2.2.1, zu_keep (by omega) hM.2.2.2.2.2.1, fun j hj => zu_fr (by omega) (hM.2.2.2.2.2.2 j hj)⟩)
theorem cSW_le {G : ez_G} {M : ez_M} {d : Nat} {Q : ez_Q} {h0 h : ez_H} {n mc ms pc q idx a0 : Nat} {ls : List (Option Value)} {st9 : List Value} {ia : Nat} {wo ff : Int32} {lt st le sc : Nat → Int32} {f : Nat → Int32} (hd : decode M.2.1 pc = .ok (.invokestatic idx, 3)) (hlk : ez_T (.methodLink M.1.cls idx arraycopyName)) (hM : SW ia h0 h wo ff lt st le sc) (hc0 : h a0 = some (.inl (0, 4, .inl f))) (hrm : (st9.map fun v => v.category).sum ≤ 8) (hq : pc + 3 = q) (K : ∀ g, SW ia h0 g wo ff lt st (va_cpy f le 0 0 4) sc → E G M (d + 1) Q g n mc ms q ls st9) : E G M (d + 1) Q h n mc ms pc ls (.int (nI 4) :: .int (nI 0) :: .ref (ia + 3) :: .int (nI 0) :: .ref a0 :: st9) := ez_copy (cA := 0) (ty := .int) hd hlk tw_cpn cpy_w.2.1 cpy_w.2.2 (fun _ => rfl) rfl hc0 hM.2.2.2.2.1 (by have := hM.1; omega) (Nat.le_refl _) (Nat.le_refl _) (by decide) (fun _ _ => rfl) hrm hq (K _ ⟨hM.1, zu_keep (by omega) hM.2.1, zu_keep (by omega) hM.2.2.1, zu_keep (by omega) hM.2.2.2.1, zu_same, zu_keep (by omega) hM.2.2.2.2.2.1, fun j hj => zu_fr (by omega) (hM.2.2.2.2.2.2 j hj)⟩)
theorem cSW_sc {G : ez_G} {M : ez_M} {d : Nat} {Q : ez_Q} {h0 h : ez_H} {n mc ms pc q idx a0 : Nat} {ls : List (Option Value)} {st9 : List Value} {ia : Nat} {wo ff : Int32} {lt st le sc : Nat → Int32} {f : Nat → Int32} (hd : decode M.2.1 pc = .ok (.invokestatic idx, 3)) (hlk : ez_T (.methodLink M.1.cls idx arraycopyName)) (hM : SW ia h0 h wo ff lt st le sc) (hc0 : h a0 = some (.inl (1, 160, .inl f))) (hC : CH f) (hrm : (st9.map fun v => v.category).sum ≤ 8) (hq : pc + 3 = q) (K : ∀ g, SW ia h0 g wo ff lt st le (va_cpy f sc 0 0 160) → E G M (d + 1) Q g n mc ms q ls st9) : E G M (d + 1) Q h n mc ms pc ls (.int (nI 160) :: .int (nI 0) :: .ref (ia + 4) :: .int (nI 0) :: .ref a0 :: st9) := ez_copy (cA := 1) (ty := .char) hd hlk tw_cpn cpy_w.2.1 cpy_w.2.2 (fun _ => rfl) rfl hc0 hM.2.2.2.2.2.1 (by have := hM.1; omega) (Nat.le_refl _) (Nat.le_refl _) (by decide) (fun i _ => by obtain ⟨c, h1, h2⟩ := hC i; rw [h2]; exact fits_ch h1) hrm hq (K _ ⟨hM.1, zu_keep (by omega) hM.2.1, zu_keep (by omega) hM.2.2.1, zu_keep (by omega) hM.2.2.2.1, zu_keep (by omega) hM.2.2.2.2.1, zu_same, fun j hj => zu_fr (by omega) (hM.2.2.2.2.2.2 j hj)⟩)
theorem cpy_at {f g : Nat → Int32} {k i : Nat} (h : i < k) : va_cpy f g 0 0 k i = f i := by
  rw [va_cpy, if_pos ⟨Nat.zero_le i, by omega⟩, Nat.zero_add, Nat.sub_zero]
theorem CH.cpy {f g : Nat → Int32} (hf : CH f) (hg : CH g) (k : Nat) : CH (va_cpy f g 0 0 k) := fun i => by
  rw [va_cpy]
  split
  · exact hf _
  · exact hg _
/-- some State at ia -/
def SR (ia : Nat) (h : ez_H) : Prop := ∃ (wo ff : Int32) (lt st le sc : Nat → Int32), SW ia h h wo ff lt st le sc ∧ CH sc
theorem SR.to {ia : Nat} {h g : ez_H} (hS : SR ia h) (hg : ∀ j, ia ≤ j → j < ia + 5 → g j = h j) : SR ia g := by
  obtain ⟨wo, ff, lt, st, le, sc, h1, h2⟩ := hS
  refine ⟨wo, ff, lt, st, le, sc, ⟨h1.1, ?_, ?_, ?_, ?_, ?_, fun _ _ => rfl⟩, h2⟩
  · rw [hg _ (by omega) (by omega)]; exact h1.2.1
  · rw [hg _ (by omega) (by omega)]; exact h1.2.2.1
  · rw [hg _ (by omega) (by omega)]; exact h1.2.2.2.1
  · rw [hg _ (by omega) (by omega)]; exact h1.2.2.2.2.1
  · rw [hg _ (by omega) (by omega)]; exact h1.2.2.2.2.2.1
theorem SS.sr {ia n f : Nat} {L T ln : Nat → Nat} {sg : Nat → Nat → Nat} {h : ez_H} (hS : SS ia h n f L T ln sg) : SR ia h := by
  obtain ⟨lt, st, le, sc, h1, h2⟩ := hS
  exact ⟨_, _, lt, st, le, sc, h1, h2.2.2.2.2⟩
theorem ZC.cpy {n : Nat} {L T ln : Nat → Nat} {sg : Nat → Nat → Nat} {lt st le sc lt2 st2 le2 sc2 : Nat → Int32} (h : ZC n L T ln sg lt st le sc) (hn : n ≤ 10) (hl : ∀ w, w < 4 → ln w ≤ 40) (hC : CH sc2) : ZC n L T ln sg (va_cpy lt lt2 0 0 10) (va_cpy st st2 0 0 10) (va_cpy le le2 0 0 4) (va_cpy sc sc2 0 0 160) := by
  obtain ⟨h1, h2, h3, h4, h5⟩ := h
  refine ⟨fun i hi => ?_, fun i hi => ?_, fun w hw => ?_, fun w hw k hk => ?_, h5.cpy hC 160⟩
  · rw [cpy_at (by omega)]; exact h1 i hi
  · rw [cpy_at (by omega)]; exact h2 i hi
  · rw [cpy_at hw]; exact h3 w hw
  · have := hl w hw
    rw [cpy_at (by omega)]; exact h4 w hw k hk
def SSA (ia : Nat) (h : ez_H) (A : AS) : Prop := SS ia h A.1 A.2.1 A.2.2.1 A.2.2.2.1 A.2.2.2.2.1 A.2.2.2.2.2
/-- the History: k saved states zs, the oldest at place o of the ring -/
def HH (h : ez_H) (k o : Nat) (zs : Nat → AS) : Prop := h 7 = some (.inr (1, [.int (nI k), .int (nI o), .ref 8])) ∧ (∃ f : Nat → Option Nat, h 8 = some (.inl (3, 6, .inr (.inr (.inr (.inr f))))) ∧ ∀ j, j < 6 → f j = some (9 + 5 * j)) ∧ k ≤ 6 ∧ o < 6 ∧ (∀ i, i < 6 → SR (9 + 5 * i) h) ∧ ∀ i, i < k → SSA (9 + 5 * ((o + i) % 6)) h (zs i)
theorem HH.to {h g : ez_H} {k o : Nat} {zs : Nat → AS} (hH : HH h k o zs) (hg : ∀ j, 7 ≤ j → j < 39 → g j = h j) : HH g k o zs := by
  obtain ⟨h1, ⟨f, h2, h3⟩, h4, h5, h6, h7⟩ := hH
  exact ⟨(hg 7 (by omega) (by omega)).trans h1, ⟨f, (hg 8 (by omega) (by omega)).trans h2, h3⟩, h4, h5, fun i hi => (h6 i hi).to (fun j a b => hg j (by omega) (by omega)), fun i hi => (h7 i hi).to (fun j a b => hg j (by omega) (by have := Nat.mod_lt (o + i) (show 0 < 6 by decide); omega))⟩
def shZ (zs : Nat → AS) (k : Nat) : Nat → AS := if k = 6 then fun i => zs (i + 1) else zs
theorem push_sh (zs : Nat → AS) (k : Nat) (A : AS) : pushZ zs k A = putZ (shZ zs k) (if k = 6 then 5 else k) A := by
  rw [pushZ, shZ]
  by_cases h : k = 6
  · rw [if_pos h, if_pos h, if_pos h]
  · rw [if_neg h, if_neg h, if_neg h]
theorem SR.ob {ia : Nat} {h : ez_H} (hS : SR ia h) : ∃ fs, h ia = some (.inr (3, fs)) := by
  obtain ⟨wo, ff, lt, st, le, sc, h1, h2⟩ := hS
  exact ⟨_, h1.2.1⟩
def HW (h0 h : ez_H) (hk : Int32) (hp : Int32) : Prop := h 7 = some (.inr (1, [.int hk, .int hp, .ref 8])) ∧ ∀ j : Nat, (j < 7 ∨ 8 ≤ j) → h j = h0 j
theorem HW.rb {h0 h : ez_H} {hk hp : Int32} (hM : HW  h0 h hk hp) : HW  h h hk hp := ⟨hM.1, fun _ _ => rfl⟩
theorem HW.tr {h0 h g : ez_H} {hk hp : Int32} {hk' : Int32} {hp' : Int32} (hM : HW  h0 h hk hp) (hN : HW  h g hk' hp') : HW  h0 g hk' hp' := ⟨hN.1, fun j hj => (hN.2 j hj).trans (hM.2 j hj)⟩
theorem HW.fr {h0 h : ez_H} {hk hp : Int32} (hM : HW  h0 h hk hp) : ∀ j : Nat, (j < 7 ∨ 8 ≤ j) → h j = h0 j := hM.2
theorem pHW_hk {G : ez_G} {M : ez_M} {d : Nat} {Q : ez_Q} {h0 h : ez_H} {n mc ms pc q idx : Nat} {ls : List (Option Value)} {st9 : List Value} {hk hp : Int32} {x : Int32} (hd : decode M.2.1 pc = .ok (.putfield idx, 3)) (hf : ez_fl M.1.cls idx 1 0) (hM : HW  h0 h hk hp) (hq : pc + 3 = q) (K : ∀ g, HW  h0 g x hp → E G M d Q g n mc ms q ls st9) : E G M d Q h n mc ms pc ls (.int x :: .ref 7 :: st9) := ez_put0 hd hf rfl (fun _ => rfl) (fun _ => rfl) (by decide) hM.1 (by show 0 < 3; decide) hq (K _ ⟨zu_same, fun j hj => zu_fr (by omega) (hM.2 j hj)⟩)
theorem pHW_hp {G : ez_G} {M : ez_M} {d : Nat} {Q : ez_Q} {h0 h : ez_H} {n mc ms pc q idx : Nat} {ls : List (Option Value)} {st9 : List Value} {hk hp : Int32} {x : Int32} (hd : decode M.2.1 pc = .ok (.putfield idx, 3)) (hf : ez_fl M.1.cls idx 1 1) (hM : HW  h0 h hk hp) (hq : pc + 3 = q) (K : ∀ g, HW  h0 g hk x → E G M d Q g n mc ms q ls st9) : E G M d Q h n mc ms pc ls (.int x :: .ref 7 :: st9) := ez_put0 hd hf rfl (fun _ => rfl) (fun _ => rfl) (by decide) hM.1 (by show 1 < 3; decide) hq (K _ ⟨zu_same, fun j hj => zu_fr (by omega) (hM.2 j hj)⟩)
set_option maxHeartbeats 800000 in
set_option maxRecDepth 100000 in
theorem t_X3_copyFrom {G : ez_G} {d n : Nat} {h : ez_H} {ia ib n' f : Nat} {L T ln : Nat → Nat} {sg : Nat → Nat → Nat} (hR : SR ia h) (hS : SS ib h n' f L T ln sg) (ho : OK n' f L T ln sg) (hd : ib + 5 ≤ ia ∨ ia + 5 ≤ ib) : Con G mX3_copyFrom (d + 1) [.ref ia, .ref ib] h n 0 0 (PW n none (fun g => SS ia g n' f L T ln sg ∧ ∀ j : Nat, (j < ia ∨ ia + 5 ≤ j) → g j = h j)) := by
  obtain ⟨wo, ff, lt, st, le, sc, hM, hC⟩ := hR
  obtain ⟨lt2, st2, le2, sc2, hN, hz⟩ := hS
  refine Con.of [some (.ref ia), some (.ref ib)] pl_X3 rfl (Nat.le_of_ble_eq_true rfl) rfl ?_
  have hQ : ∀ g, SW ia h g (nI n') (fI f) (va_cpy lt2 lt 0 0 10) (va_cpy st2 st 0 0 10) (va_cpy le2 le 0 0 4) (va_cpy sc2 sc 0 0 160) → (PW n none (fun g => SS ia g n' f L T ln sg ∧ ∀ j : Nat, (j < ia ∨ ia + 5 ≤ j) → g j = h j)) (.inl none) g n := fun g h1 => ⟨rfl, ⟨⟨_, _, _, _, h1.rb, hz.cpy ho.1 ho.2.2.2.2.1 hC⟩, h1.fr⟩, rfl⟩
  generalize PW n none (fun g => SS ia g n' f L T ln sg ∧ ∀ j : Nat, (j < ia ∨ ia + 5 ≤ j) → g j = h j) = Q at hQ ⊢
  refine ez_aload_n (q := 1) 0 dX3_copyFrom_0 rfl rfl rfl ?_
  refine ez_aload_n (q := 2) 1 dX3_copyFrom_1 rfl rfl rfl ?_
  refine ez_getf (q := 5) dX3_copyFrom_2 fl_X3_9 ((hM.fr (ib) (by omega)).trans hN.2.1) rfl rfl ?_
  refine pSW_wo (q := 8) dX3_copyFrom_5 fl_X3_9 hM rfl (fun g hM => ?_)
  refine ez_aload_n (q := 9) 0 dX3_copyFrom_8 rfl rfl rfl ?_
  refine ez_aload_n (q := 10) 1 dX3_copyFrom_9 rfl rfl rfl ?_
  refine ez_getf (q := 13) dX3_copyFrom_10 fl_X3_15 ((hM.fr (ib) (by omega)).trans hN.2.1) rfl rfl ?_
  refine pSW_ff (q := 16) dX3_copyFrom_13 fl_X3_15 hM rfl (fun g hM => ?_)
  refine ez_aload_n (q := 17) 1 dX3_copyFrom_16 rfl rfl rfl ?_
  refine ez_getf (q := 20) dX3_copyFrom_17 fl_X3_18 ((hM.fr (ib) (by omega)).trans hN.2.1) rfl rfl ?_
  refine ez_iconst (v := nI 0) (q := 21) dX3_copyFrom_20 (by decide) rfl ?_
  refine ez_aload_n (q := 22) 0 dX3_copyFrom_21 rfl rfl rfl ?_
  refine ez_getf (q := 25) dX3_copyFrom_22 fl_X3_18 hM.2.1 rfl rfl ?_
  refine ez_iconst (v := nI 0) (q := 26) dX3_copyFrom_25 (by decide) rfl ?_
  refine ez_bipush (v := nI 10) (q := 28) dX3_copyFrom_26 (by decide) rfl ?_
  refine cSW_lt (q := 31) dX3_copyFrom_28 cpy_w.1 hM ((hM.fr (ib + 1) (by omega)).trans hN.2.2.1) (Nat.le_of_ble_eq_true rfl) rfl (fun g hM => ?_)
  refine ez_aload_n (q := 32) 1 dX3_copyFrom_31 rfl rfl rfl ?_
  refine ez_getf (q := 35) dX3_copyFrom_32 fl_X3_22 ((hM.fr (ib) (by omega)).trans hN.2.1) rfl rfl ?_
  refine ez_iconst (v := nI 0) (q := 36) dX3_copyFrom_35 (by decide) rfl ?_
  refine ez_aload_n (q := 37) 0 dX3_copyFrom_36 rfl rfl rfl ?_
  refine ez_getf (q := 40) dX3_copyFrom_37 fl_X3_22 hM.2.1 rfl rfl ?_
  refine ez_iconst (v := nI 0) (q := 41) dX3_copyFrom_40 (by decide) rfl ?_
  refine ez_bipush (v := nI 10) (q := 43) dX3_copyFrom_41 (by decide) rfl ?_
  refine cSW_st (q := 46) dX3_copyFrom_43 cpy_w.1 hM ((hM.fr (ib + 2) (by omega)).trans hN.2.2.2.1) (Nat.le_of_ble_eq_true rfl) rfl (fun g hM => ?_)
  refine ez_aload_n (q := 47) 1 dX3_copyFrom_46 rfl rfl rfl ?_
  refine ez_getf (q := 50) dX3_copyFrom_47 fl_X3_25 ((hM.fr (ib) (by omega)).trans hN.2.1) rfl rfl ?_
  refine ez_iconst (v := nI 0) (q := 51) dX3_copyFrom_50 (by decide) rfl ?_
  refine ez_aload_n (q := 52) 0 dX3_copyFrom_51 rfl rfl rfl ?_
  refine ez_getf (q := 55) dX3_copyFrom_52 fl_X3_25 hM.2.1 rfl rfl ?_
  refine ez_iconst (v := nI 0) (q := 56) dX3_copyFrom_55 (by decide) rfl ?_
  refine ez_iconst (v := nI 4) (q := 57) dX3_copyFrom_56 (by decide) rfl ?_
  refine cSW_le (q := 60) dX3_copyFrom_57 cpy_w.1 hM ((hM.fr (ib + 3) (by omega)).trans hN.2.2.2.2.1) (Nat.le_of_ble_eq_true rfl) rfl (fun g hM => ?_)
  refine ez_aload_n (q := 61) 1 dX3_copyFrom_60 rfl rfl rfl ?_
  refine ez_getf (q := 64) dX3_copyFrom_61 fl_X3_28 ((hM.fr (ib) (by omega)).trans hN.2.1) rfl rfl ?_
  refine ez_iconst (v := nI 0) (q := 65) dX3_copyFrom_64 (by decide) rfl ?_
  refine ez_aload_n (q := 66) 0 dX3_copyFrom_65 rfl rfl rfl ?_
  refine ez_getf (q := 69) dX3_copyFrom_66 fl_X3_28 hM.2.1 rfl rfl ?_
  refine ez_iconst (v := nI 0) (q := 70) dX3_copyFrom_69 (by decide) rfl ?_
  refine ez_sipush (v := nI 160) (q := 73) dX3_copyFrom_70 (by decide) rfl ?_
  refine cSW_sc (q := 76) dX3_copyFrom_73 cpy_w.1 hM ((hM.fr (ib + 4) (by omega)).trans hN.2.2.2.2.2.1) hz.2.2.2.2 (Nat.le_of_ble_eq_true rfl) rfl (fun g hM => ?_)
  exact ez_vret dX3_copyFrom_76 rfl (hQ _ hM)

set_option maxHeartbeats 800000 in
set_option maxRecDepth 100000 in
theorem t_X1_save {G : ez_G} {d n : Nat} {h : ez_H} {k o n' f : Nat} {L T ln : Nat → Nat} {sg : Nat → Nat → Nat} {zs : Nat → AS} (hH : HH h k o zs) (hS : SS 2 h n' f L T ln sg) (ho : OK n' f L T ln sg) : Con G mX1_save (d + 2) [.ref 7, .ref 2] h n 0 0 (PW n none (fun g => (∃ o', HH g (svk k) o' (pushZ zs k ((n', f, L, T, ln, sg) : AS))) ∧ ∀ j : Nat, (j < 7 ∨ 39 ≤ j) → g j = h j)) := by
  obtain ⟨h7, ⟨hf, h8, hrow⟩, hk, hlo, hsr, hss⟩ := hH
  have hM : HW h h (nI k) (nI o) := ⟨h7, fun _ _ => rfl⟩
  refine Con.of [some (.ref 7), some (.ref 2)] pl_X1 rfl (Nat.le_of_ble_eq_true rfl) rfl ?_
  have hQ : ∀ g (o' : Nat), HH g (svk k) o' (pushZ zs k ((n', f, L, T, ln, sg) : AS)) → (∀ j : Nat, (j < 7 ∨ 39 ≤ j) → g j = h j) → (PW n none (fun g => (∃ o', HH g (svk k) o' (pushZ zs k ((n', f, L, T, ln, sg) : AS))) ∧ ∀ j : Nat, (j < 7 ∨ 39 ≤ j) → g j = h j)) (.inl none) g n := fun g o' h1 h2 => ⟨rfl, ⟨⟨o', h1⟩, h2⟩, rfl⟩
  generalize PW n none (fun g => (∃ o', HH g (svk k) o' (pushZ zs k ((n', f, L, T, ln, sg) : AS))) ∧ ∀ j : Nat, (j < 7 ∨ 39 ≤ j) → g j = h j) = Q at hQ ⊢
  have k32 : ∀ (g : ez_H) (k1 o1 : Nat), HW h g (nI k1) (nI o1) → k1 = (if k = 6 then 5 else k) → o1 < 6 → (∀ i, i < k1 → SSA (9 + 5 * ((o1 + i) % 6)) h (shZ zs k i)) → E G mX1_save (d + 2) Q g n 0 0 32 [some (.ref 7), some (.ref 2)] [] := by
    intro g k1 o1 hM hk1 ho1 hs1
    have hk5 : k1 ≤ 5 := by rw [hk1]; split <;> omega
    refine ez_aload_n (q := 33) 0 dX1_save_32 rfl rfl rfl ?_
    refine ez_getf (q := 36) dX1_save_33 fl_X1_20 hM.1 rfl rfl ?_
    refine ez_aload_n (q := 37) 0 dX1_save_36 rfl rfl rfl ?_
    refine ez_getf (q := 40) dX1_save_37 fl_X1_15 hM.1 rfl rfl ?_
    refine ez_aload_n (q := 41) 0 dX1_save_40 rfl rfl rfl ?_
    refine ez_getf (q := 44) dX1_save_41 fl_X1_9 hM.1 rfl rfl ?_
    refine ez_iaddN (q := 45) dX1_save_44 rfl ?_
    refine ez_bipush (v := nI 6) (q := 47) dX1_save_45 (by decide) rfl ?_
    refine ez_iremN (q := 48) dX1_save_47 (by omega) (by omega) (by omega) rfl ?_
    refine ez_aald (q := 49) dX1_save_48 ((hM.fr 8 (by omega)).trans h8) rfl (Nat.mod_lt _ (by decide)) (by decide) (hrow _ (Nat.mod_lt _ (by decide))) rfl ?_
    have hp := Nat.mod_lt (o1 + k1) (show 0 < 6 by decide)
    generalize hpe : (o1 + k1) % 6 = p at hp ⊢
    have hsp := (hsr p hp).to (fun j a b => hM.fr j (by omega))
    refine ez_aload_n (q := 50) 1 dX1_save_49 rfl rfl rfl ?_
    refine cX0 (q := 53) dX1_save_50 ck_X1_25 hsp.ob.choose_spec (t_X3_copyFrom hsp (hS.to (fun j a b => hM.fr j (by omega))) ho (by omega)) rfl ⟨by decide, rfl⟩ rfl rfl rfl (Nat.le_of_ble_eq_true rfl) rfl (fun g hW => ?_)
    obtain ⟨hS2, hF⟩ := hW
    have hM0 := hM
    have hM : HW g g (nI k1) (nI o1) := ⟨(hF 7 (by omega)).trans hM0.1, fun _ _ => rfl⟩
    have hg : ∀ j, (j < 9 + 5 * p ∨ 9 + 5 * p + 5 ≤ j) → j ≠ 7 → g j = h j := fun j a b => (hF j a).trans (hM0.fr j (by omega))
    refine ez_aload_n (q := 54) 0 dX1_save_53 rfl rfl rfl ?_
    refine ez_dup (q := 55) dX1_save_54 rfl rfl ?_
    refine ez_getf (q := 58) dX1_save_55 fl_X1_9 hM.1 rfl rfl ?_
    refine ez_iconst (v := nI 1) (q := 59) dX1_save_58 (by decide) rfl ?_
    refine ez_iaddN (q := 60) dX1_save_59 rfl ?_
    refine pHW_hk (q := 63) dX1_save_60 fl_X1_9 hM rfl (fun g hM => ?_)
    exact ez_vret dX1_save_63 rfl (hQ _ o1 ⟨by rw [show svk k = k1 + 1 by rw [hk1, svk]; split <;> rfl]; exact hM.1, ⟨hf, (hM.fr 8 (by omega)).trans ((hg 8 (by omega) (by omega)).trans h8), hrow⟩, by rw [svk]; split <;> omega, ho1, fun i hi => by
      by_cases e : i = p
      · rw [e]; exact hS2.sr.to (fun j a b => hM.fr j (by omega))
      · exact (hsr i hi).to (fun j a b => (hM.fr j (by omega)).trans (hg j (by omega) (by omega))), fun i hi => by
      have hi2 : i < k1 + 1 := by rw [svk] at hi; rw [hk1]; split <;> (split at hi <;> omega)
      rw [push_sh, ← hk1]
      by_cases e : i = k1
      · rw [e, putZ, if_pos rfl, hpe]; exact hS2.to (fun j a b => hM.fr j (by omega))
      · rw [putZ, if_neg e]; exact (hs1 i (by omega)).to (fun j a b => (hM.fr j (by omega)).trans (hg j (by omega) (by omega)))⟩ (fun j hj => (hM.fr j (by omega)).trans (hg j (by omega) (by omega))))
  refine ez_aload_n (q := 1) 0 dX1_save_0 rfl rfl rfl ?_
  refine ez_getf (q := 4) dX1_save_1 fl_X1_9 hM.1 rfl rfl ?_
  refine ez_bipush (v := nI 6) (q := 6) dX1_save_4 (by decide) rfl ?_
  refine ez_icmpneN (q := 9) (tgt := 32) dX1_save_6 (by decide) (by omega) (by omega) rfl (fun hc6 => ?_) (fun hc6 => ?_)
  · first | exact E.fg (k32 _ k o hM (if_neg hc6).symm hlo (fun i hi => by rw [shZ, if_neg hc6]; exact hss i hi)) ⟨Or.inr (rfl), Or.inr (rfl), trivial⟩ | exact E.fg (k32 _ 5 ((o + 1) % 6) hM (if_pos rfl).symm (Nat.mod_lt _ (by decide)) (fun i hi => by rw [shZ, if_pos rfl]; show SSA _ h (zs (i + 1)); rw [show ((o + 1) % 6 + i) % 6 = (o + (i + 1)) % 6 by omega]; exact hss (i + 1) (by omega))) ⟨Or.inr (rfl), Or.inr (rfl), trivial⟩
  · subst hc6
    refine ez_aload_n (q := 10) 0 dX1_save_9 rfl rfl rfl ?_
    refine ez_aload_n (q := 11) 0 dX1_save_10 rfl rfl rfl ?_
    refine ez_getf (q := 14) dX1_save_11 fl_X1_15 hM.1 rfl rfl ?_
    refine ez_iconst (v := nI 1) (q := 15) dX1_save_14 (by decide) rfl ?_
    refine ez_iaddN (q := 16) dX1_save_15 rfl ?_
    refine ez_bipush (v := nI 6) (q := 18) dX1_save_16 (by decide) rfl ?_
    refine ez_iremN (q := 19) dX1_save_18 (by omega) (by omega) (by omega) rfl ?_
    refine pHW_hp (q := 22) dX1_save_19 fl_X1_15 hM rfl (fun g hM => ?_)
    refine ez_aload_n (q := 23) 0 dX1_save_22 rfl rfl rfl ?_
    refine ez_dup (q := 24) dX1_save_23 rfl rfl ?_
    refine ez_getf (q := 27) dX1_save_24 fl_X1_9 hM.1 rfl rfl ?_
    refine ez_iconst (v := nI 1) (q := 28) dX1_save_27 (by decide) rfl ?_
    refine ez_isubN (q := 29) dX1_save_28 (by omega) rfl ?_
    refine pHW_hk (q := 32) dX1_save_29 fl_X1_9 hM rfl (fun g hM => ?_)
    first | exact E.fg (k32 _ k o hM (if_neg hc6).symm hlo (fun i hi => by rw [shZ, if_neg hc6]; exact hss i hi)) ⟨Or.inr (rfl), Or.inr (rfl), trivial⟩ | exact E.fg (k32 _ 5 ((o + 1) % 6) hM (if_pos rfl).symm (Nat.mod_lt _ (by decide)) (fun i hi => by rw [shZ, if_pos rfl]; show SSA _ h (zs (i + 1)); rw [show ((o + 1) % 6 + i) % 6 = (o + (i + 1)) % 6 by omega]; exact hss (i + 1) (by omega))) ⟨Or.inr (rfl), Or.inr (rfl), trivial⟩

set_option maxHeartbeats 800000 in
set_option maxRecDepth 100000 in
theorem t_X1_restore {G : ez_G} {d n : Nat} {h : ez_H} {k o : Nat} {zs : Nat → AS} (hH : HH h k o zs) (hS : SR 2 h) (ho : OK (zs (k - 1)).1 (zs (k - 1)).2.1 (zs (k - 1)).2.2.1 (zs (k - 1)).2.2.2.1 (zs (k - 1)).2.2.2.2.1 (zs (k - 1)).2.2.2.2.2) (hk0 : 0 < k) : Con G mX1_restore (d + 2) [.ref 7, .ref 2] h n 0 0 (PW n none (fun g => SSA 2 g (zs (k - 1)) ∧ HH g (k - 1) o zs ∧ ∀ j : Nat, (j < 2 ∨ 8 ≤ j) → g j = h j)) := by
  obtain ⟨h7, ⟨hf, h8, hrow⟩, hk, hlo, hsr, hss⟩ := hH
  have hM : HW h h (nI k) (nI o) := ⟨h7, fun _ _ => rfl⟩
  refine Con.of [some (.ref 7), some (.ref 2)] pl_X1 rfl (Nat.le_of_ble_eq_true rfl) rfl ?_
  have hQ : ∀ g, SSA 2 g (zs (k - 1)) → HH g (k - 1) o zs → (∀ j : Nat, (j < 2 ∨ 8 ≤ j) → g j = h j) → (PW n none (fun g => SSA 2 g (zs (k - 1)) ∧ HH g (k - 1) o zs ∧ ∀ j : Nat, (j < 2 ∨ 8 ≤ j) → g j = h j)) (.inl none) g n := fun g h1 h2 h3 => ⟨rfl, ⟨h1, h2, h3⟩, rfl⟩
  generalize PW n none (fun g => SSA 2 g (zs (k - 1)) ∧ HH g (k - 1) o zs ∧ ∀ j : Nat, (j < 2 ∨ 8 ≤ j) → g j = h j) = Q at hQ ⊢
  refine ez_aload_n (q := 1) 0 dX1_restore_0 rfl rfl rfl ?_
  refine ez_getf (q := 4) dX1_restore_1 fl_X1_9 hM.1 rfl rfl ?_
  refine ez_ifleN (q := 7) (tgt := 38) dX1_restore_4 (by decide) (by omega) rfl (fun hc4 => absurd hk0 (by omega)) (fun hc4 => ?_)
  refine ez_aload_n (q := 8) 0 dX1_restore_7 rfl rfl rfl ?_
  refine ez_dup (q := 9) dX1_restore_8 rfl rfl ?_
  refine ez_getf (q := 12) dX1_restore_9 fl_X1_9 hM.1 rfl rfl ?_
  refine ez_iconst (v := nI 1) (q := 13) dX1_restore_12 (by decide) rfl ?_
  refine ez_isubN (q := 14) dX1_restore_13 (by omega) rfl ?_
  refine pHW_hk (q := 17) dX1_restore_14 fl_X1_9 hM rfl (fun g hM => ?_)
  refine ez_aload_n (q := 18) 1 dX1_restore_17 rfl rfl rfl ?_
  refine ez_aload_n (q := 19) 0 dX1_restore_18 rfl rfl rfl ?_
  refine ez_getf (q := 22) dX1_restore_19 fl_X1_20 hM.1 rfl rfl ?_
  refine ez_aload_n (q := 23) 0 dX1_restore_22 rfl rfl rfl ?_
  refine ez_getf (q := 26) dX1_restore_23 fl_X1_15 hM.1 rfl rfl ?_
  refine ez_aload_n (q := 27) 0 dX1_restore_26 rfl rfl rfl ?_
  refine ez_getf (q := 30) dX1_restore_27 fl_X1_9 hM.1 rfl rfl ?_
  refine ez_iaddN (q := 31) dX1_restore_30 rfl ?_
  refine ez_bipush (v := nI 6) (q := 33) dX1_restore_31 (by decide) rfl ?_
  refine ez_iremN (q := 34) dX1_restore_33 (by omega) (by omega) (by omega) rfl ?_
  refine ez_aald (q := 35) dX1_restore_34 ((hM.fr 8 (by omega)).trans h8) rfl (Nat.mod_lt _ (by decide)) (by decide) (hrow _ (Nat.mod_lt _ (by decide))) rfl ?_
  have hp := Nat.mod_lt (o + (k - 1)) (show 0 < 6 by decide)
  have hs9 := hss (k - 1) (by omega)
  have hsp := hS.to (g := g) (fun j a b => hM.fr j (by omega))
  refine cX0 (q := 38) dX1_restore_35 ck_X1_25 hsp.ob.choose_spec (t_X3_copyFrom hsp (hs9.to (fun j a b => hM.fr j (by omega))) ho (by omega)) rfl ⟨by decide, rfl⟩ rfl rfl rfl (Nat.le_of_ble_eq_true rfl) rfl (fun g hW => ?_)
  obtain ⟨hS2, hF⟩ := hW
  have hg : ∀ j, (j < 2 ∨ 8 ≤ j) → g j = h j := fun j a => (hF j (by omega)).trans (hM.fr j (by omega))
  exact ez_vret dX1_restore_38 rfl (hQ _ hS2 ⟨(hF 7 (by omega)).trans hM.1, ⟨hf, (hg 8 (by omega)).trans h8, hrow⟩, by omega, hlo, fun i hi => (hsr i hi).to (fun j a b => hg j (by omega)), fun i hi => (hss i (by omega)).to (fun j a b => hg j (by omega))⟩ hg)


