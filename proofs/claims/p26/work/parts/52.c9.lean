def TO (h0 h : ez_H) (nu : Int32) (fi : Int32) : Prop := h 51 = some (.inr (5, [.int nu, .int fi, .ref 52, .ref 57])) ∧ ∀ j : Nat, (j < 51 ∨ 52 ≤ j) → h j = h0 j
theorem TO.rb {h0 h : ez_H} {nu fi : Int32} (hM : TO  h0 h nu fi) : TO  h h nu fi := ⟨hM.1, fun _ _ => rfl⟩
theorem TO.tr {h0 h g : ez_H} {nu fi : Int32} {nu' : Int32} {fi' : Int32} (hM : TO  h0 h nu fi) (hN : TO  h g nu' fi') : TO  h0 g nu' fi' := ⟨hN.1, fun j hj => (hN.2 j hj).trans (hM.2 j hj)⟩
theorem TO.fr {h0 h : ez_H} {nu fi : Int32} (hM : TO  h0 h nu fi) : ∀ j : Nat, (j < 51 ∨ 52 ≤ j) → h j = h0 j := hM.2
theorem pTO_nu {G : ez_G} {M : ez_M} {d : Nat} {Q : ez_Q} {h0 h : ez_H} {n mc ms pc q idx : Nat} {ls : List (Option Value)} {st9 : List Value} {nu fi : Int32} {x : Int32} (hd : decode M.2.1 pc = .ok (.putfield idx, 3)) (hf : ez_fl M.1.cls idx 5 0) (hM : TO  h0 h nu fi) (hq : pc + 3 = q) (K : ∀ g, TO  h0 g x fi → E G M d Q g n mc ms q ls st9) : E G M d Q h n mc ms pc ls (.int x :: .ref 51 :: st9) := ez_put0 hd hf rfl (fun _ => rfl) (fun _ => rfl) (by decide) hM.1 (by show 0 < 4; decide) hq (K _ ⟨zu_same, fun j hj => zu_fr (by omega) (hM.2 j hj)⟩)
theorem pTO_fi {G : ez_G} {M : ez_M} {d : Nat} {Q : ez_Q} {h0 h : ez_H} {n mc ms pc q idx : Nat} {ls : List (Option Value)} {st9 : List Value} {nu fi : Int32} {x : Int32} (hd : decode M.2.1 pc = .ok (.putfield idx, 3)) (hf : ez_fl M.1.cls idx 5 1) (hM : TO  h0 h nu fi) (hq : pc + 3 = q) (K : ∀ g, TO  h0 g nu x → E G M d Q g n mc ms q ls st9) : E G M d Q h n mc ms pc ls (.int x :: .ref 51 :: st9) := ez_put0 hd hf rfl (fun _ => rfl) (fun _ => rfl) (by decide) hM.1 (by show 1 < 4; decide) hq (K _ ⟨zu_same, fun j hj => zu_fr (by omega) (hM.2 j hj)⟩)
/-- some Trial -/
def TRX (h : ez_H) : Prop := (∃ nu fi : Int32, h 51 = some (.inr (5, [.int nu, .int fi, .ref 52, .ref 57]))) ∧ SR 52 h ∧ MX 57 52 h
/-- the wish w tried: its signs are read -/
def TGr (h : ez_H) (ln : Nat → Nat) (sg : Nat → Nat → Nat) (w : Nat) : Prop := ∃ (mg me md mt mr : Nat → Int32) (al li ro go : Nat), MF 57 52 h h (nI (ln w)) mg me md mt mr (nI al) (nI li) (nI ro) (nI go) ∧ SGm (ln w) (sg w) 0 mg ∧ TLD (ln w) (sg w) 0 me md
def TG (h0 h : ez_H) (nu fi : Int32) (n f : Nat) (L T ln : Nat → Nat) (sg : Nat → Nat → Nat) (w : Nat) : Prop := h 51 = some (.inr (5, [.int nu, .int fi, .ref 52, .ref 57])) ∧ SS 52 h n f L T ln sg ∧ TGr h ln sg w ∧ ∀ j, (j < 51 ∨ 64 ≤ j) → h j = h0 j
/-- and its sets are found -/
def TGs (h0 h : ez_H) (nu fi : Int32) (n f : Nat) (L T ln : Nat → Nat) (sg : Nat → Nat → Nat) (w : Nat) : Prop := h 51 = some (.inr (5, [.int nu, .int fi, .ref 52, .ref 57])) ∧ SS 52 h n f L T ln sg ∧ MG 57 52 h h T n f L ln sg w ∧ ∀ j, (j < 51 ∨ 64 ≤ j) → h j = h0 j
section
variable {h0 h g : ez_H} {nu fi : Int32} {n f n2 f2 : Nat} {L T ln L2 T2 : Nat → Nat} {sg : Nat → Nat → Nat} {w : Nat}
theorem TGr.to (hG : TGr h ln sg w) (hg : ∀ j, 57 ≤ j → j < 64 → g j = h j) : TGr g ln sg w := by
  obtain ⟨mg, me, md, mt, mr, al, li, ro, go, h1, h2⟩ := hG
  exact ⟨mg, me, md, mt, mr, al, li, ro, go, h1.to hg, h2⟩
theorem MG.tr (hG : MG 57 52 h0 h T n f L ln sg w) : TGr h ln sg w := by
  obtain ⟨mg, me, md, mt, mr, r, h1, h2, h3, h4⟩ := hG
  exact ⟨mg, me, md, mt, mr, _, _, _, _, h1.rb, h2, h3⟩
theorem TGs.tg (hM : TGs h0 h nu fi n f L T ln sg w) : TG h0 h nu fi n f L T ln sg w := ⟨hM.1, hM.2.1, hM.2.2.1.tr, hM.2.2.2⟩
theorem TGr.mo (hG : TGr h ln sg w) : h 57 = some (.inr (2, [.ref 52, .ref 63, .int (nI (ln w)), .ref 58, .ref 59, .ref 60, .ref 61, .ref 62])) := by
  obtain ⟨mg, me, md, mt, mr, al, li, ro, go, h1, h2⟩ := hG
  exact h1.2.1
theorem TG.ss (hM : TG h0 h nu fi n f L T ln sg w) (hS : SS 52 g n2 f2 L2 T2 ln sg) (hg : ∀ j, (j < 52 ∨ 52 + 5 ≤ j) → g j = h j) : TG h0 g nu fi n2 f2 L2 T2 ln sg w := ⟨(hg 51 (by omega)).trans hM.1, hS, hM.2.2.1.to (fun j a b => hg j (by omega)), fun j hj => (hg j (by omega)).trans (hM.2.2.2 j hj)⟩
theorem TG.ob (hM : TG h0 h nu fi n f L T ln sg w) {nu2 fi2 : Int32} (hN : TO h g nu2 fi2) : TG h0 g nu2 fi2 n f L T ln sg w := ⟨hN.1, hM.2.1.to (fun j a b => hN.fr j (by omega)), hM.2.2.1.to (fun j a b => hN.fr j (by omega)), fun j hj => (hN.fr j (by omega)).trans (hM.2.2.2 j hj)⟩
theorem TGs.ob (hM : TGs h0 h nu fi n f L T ln sg w) {nu2 fi2 : Int32} (hN : TO h g nu2 fi2) : TGs h0 g nu2 fi2 n f L T ln sg w := ⟨hN.1, hM.2.1.to (fun j a b => hN.fr j (by omega)), hM.2.2.1.to (fun j a b => hN.fr j (by omega)), fun j hj => (hN.fr j (by omega)).trans (hM.2.2.2 j hj)⟩
theorem TG.mg (hM : TG h0 h nu fi n f L T ln sg w) (hN : MG 57 52 h g T n f L ln sg w) : TGs h0 g nu fi n f L T ln sg w := ⟨(hN.fr 51 (by omega)).trans hM.1, hM.2.1.to (fun j a b => hN.fr j (by omega)), hN.to (fun _ _ _ => rfl), fun j hj => (hN.fr j (by omega)).trans (hM.2.2.2 j hj)⟩
theorem TG.x (hM : TG h0 h nu fi n f L T ln sg w) : TRX h := ⟨⟨nu, fi, hM.1⟩, hM.2.1.sr, by
  obtain ⟨mg, me, md, mt, mr, al, li, ro, go, h1, h2⟩ := hM.2.2.1
  exact ⟨_, mg, me, md, mt, mr, al, li, ro, go, h1⟩⟩
theorem TG.rb (hM : TG h0 h nu fi n f L T ln sg w) : TG h h nu fi n f L T ln sg w := ⟨hM.1, hM.2.1, hM.2.2.1, fun _ _ => rfl⟩
theorem TG.tr (hM : TG h0 h nu fi n f L T ln sg w) {nu2 fi2 : Int32} (hN : TG h g nu2 fi2 n2 f2 L2 T2 ln sg w) : TG h0 g nu2 fi2 n2 f2 L2 T2 ln sg w := ⟨hN.1, hN.2.1, hN.2.2.1, fun j hj => (hN.2.2.2 j hj).trans (hM.2.2.2 j hj)⟩
theorem TGs.rb (hM : TGs h0 h nu fi n f L T ln sg w) : TGs h h nu fi n f L T ln sg w := ⟨hM.1, hM.2.1, hM.2.2.1, fun _ _ => rfl⟩
theorem TGs.tr (hM : TGs h0 h nu fi n f L T ln sg w) {nu2 fi2 : Int32} (hN : TGs h g nu2 fi2 n2 f2 L2 T2 ln sg w) : TGs h0 g nu2 fi2 n2 f2 L2 T2 ln sg w := ⟨hN.1, hN.2.1, hN.2.2.1, fun j hj => (hN.2.2.2 j hj).trans (hM.2.2.2 j hj)⟩
theorem TRX.to (hM : TRX h) (hg : ∀ j, 51 ≤ j → j < 64 → g j = h j) : TRX g := by
  obtain ⟨⟨nu, fi, h1⟩, h2, h3⟩ := hM
  exact ⟨⟨nu, fi, (hg _ (by decide) (by decide)).trans h1⟩, h2.to (fun j a b => hg j (by omega) (by omega)), h3.to (fun j a b => hg j (by omega) (by omega))⟩
/-- the set of the wish, as it stands at place 0 -/
theorem MG.set0 {im ia : Nat} (hG : MG im ia h0 h T n f L ln sg w) (hs : 0 < ln w → ∃ sc, WF (ln w) (sg w) sc) : ∃ mg me md mt mr : Nat → Int32, ME im ia h h (nI (ln w)) mg me md mt mr ∧ (if 0 < ln w then mt 0 else nI 0) = nI (hW T n f L ln sg w) := by
  obtain ⟨mg, me, md, mt, mr, r, h1, h2, h3, h4⟩ := hG
  refine ⟨mg, me, md, mt, mr, h1.me, ?_⟩
  by_cases h9 : 0 < ln w
  · rw [if_pos h9]
    obtain ⟨sc, hwf⟩ := hs h9
    exact ((h4 0 (Nat.le_refl 0) h9).2 ((wf_w hwf h9).trans (by rw [(wf_0 hwf).2.1]))).1
  · rw [if_neg h9, hW, seW, if_neg h9]
end
def fxv (p : Nat × Int32) : Prop := p.1 = 0 ↔ p.2 = -1
theorem fxo_v {b : Bool} {nm : Nat} {p : Nat × Int32} (h : fxv p) (hn : nm < 2 ^ 31) : fxv (fxo b nm p) := by
  rw [fxv] at h
  rw [fxv, fxo]
  cases b with
  | false => rw [if_neg (by decide), if_neg (by intro a; cases a.1)]; exact h
  | true =>
    rw [if_pos rfl]
    by_cases h0 : p.1 = 0
    · rw [if_pos ⟨rfl, h0⟩]; exact ⟨fun a => absurd a (by dsimp only; omega), fun a => absurd a (nI_m1 hn)⟩
    · rw [if_neg (fun a => h0 a.2)]; exact ⟨fun a => absurd a (by dsimp only; omega), fun a => absurd (h.mpr a) h0⟩
theorem fxs_v {is : Nat → Nat → Bool} {c i : Nat} {p : Nat × Int32} (h : fxv p) (hc : c ≤ 10) (hi : i ≤ 10) : ∀ k, k ≤ 10 → fxv (fxs is c i p k) := by
  intro k
  induction k with
  | zero => intro _; exact h
  | succ k ih =>
    intro hk
    have h1 : c * i ≤ 10 * 10 := Nat.mul_le_mul hc hi
    exact fxo_v (ih (by omega)) (by omega)
theorem fxt_v {is : Nat → Nat → Bool} {c m : Nat} (hc : c ≤ 10) (hm : m ≤ 10) : ∀ i, i ≤ 10 → fxv (fxt is c m i) := by
  intro i
  induction i with
  | zero => intro _; exact ⟨fun _ => rfl, fun _ => rfl⟩
  | succ i ih =>
    intro hi
    exact fxs_v (ih (by omega)) hc (by omega) m hm
theorem upN_back (L : Nat → Nat) (i k : Nat) : upN (upN L i (L i ^^^ 2 ^ k)) i (upN L i (L i ^^^ 2 ^ k) i ^^^ 2 ^ k) = L := by
  funext j
  by_cases e : j = i
  · rw [e, upN_eq, upN_eq, xo_back]
  · rw [upN_ne _ _ e, upN_ne _ _ e]
section
variable {T : Nat → Nat} {n f : Nat} {L ln : Nat → Nat} {sg : Nat → Nat → Nat} {w u : Nat}
theorem fxI_z (h : ln w = 0) (what : Nat) : fxI T n f L ln sg w u what = -1 := by rw [fxI, if_pos h]
theorem fxI_0 (h : ¬ ln w = 0) : fxI T n f L ln sg w u 0 = nI (fxP T n f L ln sg true w u).1 := by rw [fxI, if_neg h]; rfl
theorem fxI_1 (h : ¬ ln w = 0) : fxI T n f L ln sg w u 1 = (fxP T n f L ln sg true w u).2 := by rw [fxI, if_neg h]; rfl
theorem fxI_2 (h : ¬ ln w = 0) : fxI T n f L ln sg w u 2 = nI (fxP T n f L ln sg false w u).1 := by rw [fxI, if_neg h]; rfl
theorem fxI_3 (h : ¬ ln w = 0) : fxI T n f L ln sg w u 3 = (fxP T n f L ln sg false w u).2 := by rw [fxI, if_neg h]; rfl
end
set_option maxHeartbeats 800000 in
set_option maxRecDepth 100000 in
theorem t_X5_begin {G : ez_G} {d n : Nat} {h : ez_H} {n' f : Nat} {L T ln : Nat → Nat} {sg : Nat → Nat → Nat} {w : Nat} (hR : TRX h) (hS : SS 2 h n' f L T ln sg) (ho : OK n' f L T ln sg) (hs : WFS ln sg) (hw : w < 4) : Con G mX5_begin (d + 4) [.ref 51, .ref 2, .int (nI w)] h n 0 0 (PW n none (fun g => TG h g (if ln w = 0 then -1 else nI 0) (-1) n' f L T ln sg w)) := by
  obtain ⟨⟨nu, fi, h51⟩, hsr, hmx⟩ := hR
  have hl := ho.2.2.2.2.1 w hw
  refine Con.of [some (.ref 51), some (.ref 2), some (.int (nI w))] pl_X5 rfl (Nat.le_of_ble_eq_true rfl) rfl ?_
  have hQ : ∀ g, TG h g (if ln w = 0 then -1 else nI 0) (-1) n' f L T ln sg w → (PW n none (fun g => TG h g (if ln w = 0 then -1 else nI 0) (-1) n' f L T ln sg w)) (.inl none) g n := fun g h1 => ⟨rfl, h1, rfl⟩
  generalize PW n none (fun g => TG h g (if ln w = 0 then -1 else nI 0) (-1) n' f L T ln sg w) = Q at hQ ⊢
  have hM : TO h h nu fi := ⟨h51, fun _ _ => rfl⟩
  refine ez_aload_n (q := 1) 0 dX5_begin_0 rfl rfl rfl ?_
  refine ez_getf (q := 4) dX5_begin_1 fl_X5_21 hM.1 rfl rfl ?_
  refine ez_aload_n (q := 5) 1 dX5_begin_4 rfl rfl rfl ?_
  refine cX0 (q := 8) dX5_begin_5 ck_X5_64 hsr.ob.choose_spec (t_X3_copyFrom hsr hS ho (by omega)) rfl ⟨by decide, rfl⟩ rfl rfl rfl (Nat.le_of_ble_eq_true rfl) rfl (fun g hW => ?_)
  obtain ⟨hS2, hF⟩ := hW
  have hM : TO g g nu fi := ⟨(hF 51 (by omega)).trans h51, fun _ _ => rfl⟩
  obtain ⟨ml, mg, me, md, mt, mr, al, li, ro, go, hmf⟩ := hmx.to (g := g) (fun j a b => hF j (by omega))
  refine ez_aload_n (q := 9) 0 dX5_begin_8 rfl rfl rfl ?_
  refine ez_getf (q := 12) dX5_begin_9 fl_X5_30 hM.1 rfl rfl ?_
  refine ez_iload_n (q := 13) 2 dX5_begin_12 rfl rfl rfl ?_
  refine cX0 (q := 16) dX5_begin_13 ck_X5_67 hmf.2.1 (t_X2_readSigns hmf.me hS2 ho hs (by omega) hw) rfl ⟨by decide, rfl⟩ rfl rfl rfl (Nat.le_of_ble_eq_true rfl) rfl (fun g hW => ?_)
  obtain ⟨mg, me, md, hM2, hgg, hle⟩ := hW
  have hM : TG h g nu fi n' f L T ln sg w := ⟨(hM2.fr 51 (by omega)).trans hM.1, hS2.to (fun j a b => hM2.fr j (by omega)), ⟨mg, me, md, mt, mr, al, li, ro, go, (hmf.set_me hM2).rb, hgg, hle⟩, fun j hj => (hM2.fr j (by omega)).trans (hF j (by omega))⟩
  refine ez_aload_n (q := 17) 0 dX5_begin_16 rfl rfl rfl ?_
  refine ez_aload_n (q := 18) 0 dX5_begin_17 rfl rfl rfl ?_
  refine ez_getf (q := 21) dX5_begin_18 fl_X5_30 hM.1 rfl rfl ?_
  refine ez_getf (q := 24) dX5_begin_21 fl_X5_38 hM.2.2.1.mo rfl rfl ?_
  refine ez_ifneN (q := 27) (tgt := 31) dX5_begin_24 (by decide) (by omega) rfl (fun hc24 => ?_) (fun hc24 => ?_)
  · rw [if_neg hc24] at hQ
    refine ez_iconst (v := nI 0) (q := 32) dX5_begin_31 (by decide) rfl ?_
    refine pTO_nu (q := 35) dX5_begin_32 fl_X5_9 (show TO g g nu fi from ⟨hM.1, fun _ _ => rfl⟩) rfl (fun g hO => ?_)
    have hM := hM.ob hO
    refine ez_aload_n (q := 36) 0 dX5_begin_35 rfl rfl rfl ?_
    refine ez_iconst (v := -1) (q := 37) dX5_begin_36 (by decide) rfl ?_
    refine pTO_fi (q := 40) dX5_begin_37 fl_X5_15 (show TO g g _ fi from ⟨hM.1, fun _ _ => rfl⟩) rfl (fun g hO => ?_)
    have hM := hM.ob hO
    exact ez_vret dX5_begin_40 rfl (hQ _ hM)
  · rw [if_pos hc24] at hQ
    refine ez_iconst (v := -1) (q := 28) dX5_begin_27 (by decide) rfl ?_
    refine ez_goto (q := 32) dX5_begin_28 (by decide) ?_
    refine pTO_nu (q := 35) dX5_begin_32 fl_X5_9 (show TO g g nu fi from ⟨hM.1, fun _ _ => rfl⟩) rfl (fun g hO => ?_)
    have hM := hM.ob hO
    refine ez_aload_n (q := 36) 0 dX5_begin_35 rfl rfl rfl ?_
    refine ez_iconst (v := -1) (q := 37) dX5_begin_36 (by decide) rfl ?_
    refine pTO_fi (q := 40) dX5_begin_37 fl_X5_15 (show TO g g _ fi from ⟨hM.1, fun _ _ => rfl⟩) rfl (fun g hO => ?_)
    have hM := hM.ob hO
    exact ez_vret dX5_begin_40 rfl (hQ _ hM)

theorem tg_findSets {G : ez_G} {d n0 : Nat} {h0 h : ez_H} {nu fi : Int32} {n f : Nat} {L T ln : Nat → Nat} {sg : Nat → Nat → Nat} {w : Nat} (hM : TG h0 h nu fi n f L T ln sg w) (ho : OK n f L T ln sg) (hs : WFS ln sg) (hw : w < 4) : Con G mX2_findSets (d + 4) [.ref 57] h n0 0 0 (PW n0 none (fun g => TGs h0 g nu fi n f L T ln sg w)) := by
  obtain ⟨mg, me, md, mt, mr, al, li, ro, go, h1, h2, h3⟩ := hM.2.2.1
  refine (t_X2_findSets h1 (ho.2.2.2.2.1 w hw) h2 h3 (hs w hw) hM.2.1 ho (by omega)).weaken (fun r g k hq => ?_)
  obtain ⟨e1, ⟨mt2, mr2, r2, h4, h5⟩, e2⟩ := hq
  exact ⟨e1, hM.mg ⟨mg, me, md, mt2, mr2, r2, h4, h2, h3, h5⟩, e2⟩
set_option maxHeartbeats 800000 in
set_option maxRecDepth 100000 in
theorem t_X5_worldsIfFair {G : ez_G} {d n : Nat} {h : ez_H} {n' f : Nat} {L T ln : Nat → Nat} {sg : Nat → Nat → Nat} {w : Nat} {u : Nat} (hR : TRX h) (hS : SS 2 h n' f L T ln sg) (ho : OK n' f L T ln sg) (hs : WFS ln sg) (hw : w < 4) (hu : u ≤ 4) : Con G mX5_worldsIfFair (d + 5) [.ref 51, .ref 2, .int (nI w), .int (fI u)] h n 0 0 (PW n (some (.int (bfI T n' L ln sg w u))) (fun g => TRX g ∧ ∀ j : Nat, (j < 51 ∨ 64 ≤ j) → g j = h j)) := by
  have hR0 := hR
  obtain ⟨⟨nu, fi, h51⟩, hsr, hmx⟩ := hR
  have hn := ho.1
  have hl := ho.2.2.2.2.1 w hw
  have ho2 := ho.fair hu
  refine Con.of [some (.ref 51), some (.ref 2), some (.int (nI w)), some (.int (fI u))] pl_X5 rfl (Nat.le_of_ble_eq_true rfl) rfl ?_
  have hQ : ∀ g, (TRX g ∧ ∀ j : Nat, (j < 51 ∨ 64 ≤ j) → g j = h j) → (PW n (some (.int (bfI T n' L ln sg w u))) (fun g => TRX g ∧ ∀ j : Nat, (j < 51 ∨ 64 ≤ j) → g j = h j)) (.inl (some (.int (bfI T n' L ln sg w u)))) g n := fun g h1 => ⟨rfl, h1, rfl⟩
  generalize PW n (some (.int (bfI T n' L ln sg w u))) (fun g => TRX g ∧ ∀ j : Nat, (j < 51 ∨ 64 ≤ j) → g j = h j) = Q at hQ ⊢
  refine ez_aload_n (q := 1) 0 dX5_worldsIfFair_0 rfl rfl rfl ?_
  refine ez_aload_n (q := 2) 1 dX5_worldsIfFair_1 rfl rfl rfl ?_
  refine ez_iload_n (q := 3) 2 dX5_worldsIfFair_2 rfl rfl rfl ?_
  refine cX0 (q := 6) dX5_worldsIfFair_3 ck_X5_34 h51 (t_X5_begin hR0 hS ho hs hw) rfl ⟨by decide, rfl⟩ rfl rfl rfl (Nat.le_of_ble_eq_true rfl) rfl (fun g hW => ?_)
  have hM := hW
  refine ez_aload_n (q := 7) 0 dX5_worldsIfFair_6 rfl rfl rfl ?_
  refine ez_getf (q := 10) dX5_worldsIfFair_7 fl_X5_21 hM.1 rfl rfl ?_
  refine ez_iload_n (q := 11) 3 dX5_worldsIfFair_10 rfl rfl rfl ?_
  obtain ⟨lt9, st9, le9, sc9, hw9, hz9⟩ := hM.2.1
  refine pSW_ff (q := 14) dX5_worldsIfFair_11 fl_X5_57 hw9 rfl (fun g hw8 => ?_)
  have hM := hM.ss ⟨lt9, st9, le9, sc9, hw8.rb, hz9⟩ hw8.fr
  refine ez_aload_n (q := 15) 0 dX5_worldsIfFair_14 rfl rfl rfl ?_
  refine ez_getf (q := 18) dX5_worldsIfFair_15 fl_X5_30 hM.1 rfl rfl ?_
  refine cX0 (q := 21) dX5_worldsIfFair_18 ck_X5_48 hM.2.2.1.mo (tg_findSets hM ho2 hs hw) rfl ⟨by decide, rfl⟩ rfl rfl rfl (Nat.le_of_ble_eq_true rfl) rfl (fun g hW => ?_)
  have hM9 := hW
  have hM := hM9.tg
  refine ez_aload_n (q := 22) 0 dX5_worldsIfFair_21 rfl rfl rfl ?_
  refine ez_getf (q := 25) dX5_worldsIfFair_22 fl_X5_30 hM.1 rfl rfl ?_
  refine ez_getf (q := 28) dX5_worldsIfFair_25 fl_X5_38 hM.2.2.1.mo rfl rfl ?_
  refine ez_ifneN (q := 31) (tgt := 35) dX5_worldsIfFair_28 (by decide) (by omega) rfl (fun hc28 => ?_) (fun hc28 => ?_)
  · rw [bfI, if_neg hc28] at hQ
    obtain ⟨mg, me, md, mt, mr, hE, h0⟩ := hM9.2.2.1.set0 (hs w hw)
    refine ez_aload_n (q := 36) 0 dX5_worldsIfFair_35 rfl rfl rfl ?_
    refine ez_getf (q := 39) dX5_worldsIfFair_36 fl_X5_30 hM.1 rfl rfl ?_
    refine ez_iconst (v := nI 0) (q := 40) dX5_worldsIfFair_39 (by decide) rfl ?_
    refine cPv (q := 43) dX5_worldsIfFair_40 ck_X5_60 hM.2.2.1.mo (t_X2_setAt hE hl (by decide)) rfl ⟨by decide, rfl⟩ rfl rfl rfl (Nat.le_of_ble_eq_true rfl) rfl ?_
    refine ez_top h0 ?_
    exact ez_iret dX5_worldsIfFair_43 rfl (hQ _ ⟨hM.x, hM.2.2.2⟩)
  · rw [bfI, if_pos hc28] at hQ
    refine ez_iconst (v := -1) (q := 32) dX5_worldsIfFair_31 (by decide) rfl ?_
    refine ez_goto (q := 43) dX5_worldsIfFair_32 (by decide) ?_
    exact ez_iret dX5_worldsIfFair_43 rfl (hQ _ ⟨hM.x, hM.2.2.2⟩)


