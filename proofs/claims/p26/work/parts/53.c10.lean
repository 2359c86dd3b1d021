/-- the whole object: its parts, the state's numbers, k saved states zs, a buffer of t characters b -/
def CI (h : ez_H) (n f : Nat) (L T ln : Nat → Nat) (sg : Nat → Nat → Nat) (k : Nat) (zs : Nat → AS) (t : Nat) (b : Nat → Nat) : Prop := h 1 = some (.inr (7, [.ref 2, .ref 7, .ref 39, .ref 41, .ref 48, .ref 51])) ∧ SS 2 h n f L T ln sg ∧ (∃ o, HH h k o zs) ∧ (∃ (op : Int32) (hw : Bool) (ch : Nat → Int32), TX h h (nI t) op hw ch ∧ BB ch t b) ∧ MX 41 2 h ∧ WO h ∧ TRX h
def CJ (h0 h : ez_H) (n f : Nat) (L T ln : Nat → Nat) (sg : Nat → Nat → Nat) (k : Nat) (zs : Nat → AS) (t : Nat) (b : Nat → Nat) : Prop := CI h n f L T ln sg k zs t b ∧ ∀ j, (j = 0 ∨ 64 ≤ j) → h j = h0 j
section
variable {h0 h g : ez_H} {n f n2 f2 k k2 t t2 : Nat} {L T ln L2 T2 ln2 : Nat → Nat} {sg sg2 : Nat → Nat → Nat} {zs zs2 : Nat → AS} {b b2 : Nat → Nat} {w : Nat}
theorem CJ.rb (hI : CJ h0 h n f L T ln sg k zs t b) : CJ h h n f L T ln sg k zs t b := ⟨hI.1, fun _ _ => rfl⟩
theorem CJ.tr (hI : CJ h0 h n f L T ln sg k zs t b) (hN : CJ h g n2 f2 L2 T2 ln2 sg2 k2 zs2 t2 b2) : CJ h0 g n2 f2 L2 T2 ln2 sg2 k2 zs2 t2 b2 := ⟨hN.1, fun j hj => (hN.2 j hj).trans (hI.2 j hj)⟩
theorem CJ.ss (hI : CJ h0 h n f L T ln sg k zs t b) : SS 2 h n f L T ln sg := hI.1.2.1
theorem CJ.mx (hI : CJ h0 h n f L T ln sg k zs t b) : MX 41 2 h := hI.1.2.2.2.2.1
theorem CJ.wo (hI : CJ h0 h n f L T ln sg k zs t b) : WO h := hI.1.2.2.2.2.2.1
theorem CJ.tr9 (hI : CJ h0 h n f L T ln sg k zs t b) : TRX h := hI.1.2.2.2.2.2.2
theorem CJ.hh (hI : CJ h0 h n f L T ln sg k zs t b) : ∃ o, HH h k o zs := hI.1.2.2.1
theorem CJ.tx (hI : CJ h0 h n f L T ln sg k zs t b) : ∃ (op : Int32) (hw : Bool) (ch : Nat → Int32), TX h h (nI t) op hw ch ∧ BB ch t b := hI.1.2.2.2.1
theorem TXB.to (hT : ∃ (op : Int32) (hw : Bool) (ch : Nat → Int32), TX h h (nI t) op hw ch ∧ BB ch t b) (h1 : g 39 = h 39) (h2 : g 40 = h 40) : ∃ (op : Int32) (hw : Bool) (ch : Nat → Int32), TX g g (nI t) op hw ch ∧ BB ch t b := by
  obtain ⟨op, hw, ch, a, c⟩ := hT
  exact ⟨op, hw, ch, a.to h1 h2, c⟩
theorem HHB.to (hH : ∃ o, HH h k o zs) (hg : ∀ j, 7 ≤ j → j < 39 → g j = h j) : ∃ o, HH g k o zs := by
  obtain ⟨o, a⟩ := hH
  exact ⟨o, a.to hg⟩
/-- the scratch alone has changed -/
theorem CJ.scr (hI : CJ h0 h n f L T ln sg k zs t b) (hm : MX 41 2 g) (hw : WO g) (hr : TRX g) (hg : ∀ j, (j < 41 ∨ 64 ≤ j) → g j = h j) : CJ h0 g n f L T ln sg k zs t b := ⟨⟨(hg 1 (by omega)).trans hI.1.1, hI.ss.to (fun j a c => hg j (by omega)), HHB.to hI.hh (fun j a c => hg j (by omega)), TXB.to hI.tx (hg 39 (by omega)) (hg 40 (by omega)), hm, hw, hr⟩, fun j hj => (hg j (by omega)).trans (hI.2 j hj)⟩
theorem CJ.mean (hI : CJ h0 h n f L T ln sg k zs t b) (hm : MX 41 2 g) (hg : ∀ j, (j < 41 ∨ 41 + 7 ≤ j) → g j = h j) : CJ h0 g n f L T ln sg k zs t b := hI.scr hm (hI.wo.to (fun j a c => hg j (by omega))) (hI.tr9.to (fun j a c => hg j (by omega))) (fun j hj => hg j (by omega))
theorem CJ.find (hI : CJ h0 h n f L T ln sg k zs t b) (hG : MG 41 2 h g T n f L ln sg w) : CJ h0 g n f L T ln sg k zs t b := hI.mean hG.x hG.fr
theorem CJ.trial (hI : CJ h0 h n f L T ln sg k zs t b) (hr : TRX g) (hg : ∀ j, (j < 51 ∨ 64 ≤ j) → g j = h j) : CJ h0 g n f L T ln sg k zs t b := hI.scr (hI.mx.to (fun j a c => hg j (by omega))) (hI.wo.to (fun j a c => hg j (by omega))) hr (fun j hj => hg j (by omega))
/-- the state has changed -/
theorem CJ.st (hI : CJ h0 h n f L T ln sg k zs t b) (hS : SS 2 g n2 f2 L2 T2 ln2 sg2) (hg : ∀ j, (j < 2 ∨ 2 + 5 ≤ j) → g j = h j) : CJ h0 g n2 f2 L2 T2 ln2 sg2 k zs t b := ⟨⟨(hg 1 (by omega)).trans hI.1.1, hS, HHB.to hI.hh (fun j a c => hg j (by omega)), TXB.to hI.tx (hg 39 (by omega)) (hg 40 (by omega)), hI.mx.to (fun j a c => hg j (by omega)), hI.wo.to (fun j a c => hg j (by omega)), hI.tr9.to (fun j a c => hg j (by omega))⟩, fun j hj => (hg j (by omega)).trans (hI.2 j hj)⟩
theorem CJ.sv (hI : CJ h0 h n f L T ln sg k zs t b) (hH : ∃ o, HH g k2 o zs2) (hg : ∀ j, (j < 7 ∨ 39 ≤ j) → g j = h j) : CJ h0 g n f L T ln sg k2 zs2 t b := ⟨⟨(hg 1 (by omega)).trans hI.1.1, hI.ss.to (fun j a c => hg j (by omega)), hH, TXB.to hI.tx (hg 39 (by omega)) (hg 40 (by omega)), hI.mx.to (fun j a c => hg j (by omega)), hI.wo.to (fun j a c => hg j (by omega)), hI.tr9.to (fun j a c => hg j (by omega))⟩, fun j hj => (hg j (by omega)).trans (hI.2 j hj)⟩
theorem CJ.bu (hI : CJ h0 h n f L T ln sg k zs t b) {op : Int32} {hw : Bool} {ch : Nat → Int32} (hT : TX h g (nI t2) op hw ch) (hb : BB ch t2 b2) : CJ h0 g n f L T ln sg k zs t2 b2 := ⟨⟨(hT.fr 1 (by omega)).trans hI.1.1, hI.ss.to (fun j a c => hT.fr j (by omega)), HHB.to hI.hh (fun j a c => hT.fr j (by omega)), ⟨op, hw, ch, hT.rb, hb⟩, hI.mx.to (fun j a c => hT.fr j (by omega)), hI.wo.to (fun j a c => hT.fr j (by omega)), hI.tr9.to (fun j a c => hT.fr j (by omega))⟩, fun j hj => (hT.fr j (by omega)).trans (hI.2 j hj)⟩
theorem MX.ob {im ia : Nat} (hX : MX im ia h) : ∃ fs, h im = some (.inr (2, fs)) := by
  obtain ⟨ml, mg, me, md, mt, mr, al, li, ro, go, hM⟩ := hX
  exact ⟨_, hM.2.1⟩
theorem WO.ob (hX : WO h) : ∃ fs, h 48 = some (.inr (6, fs)) := by
  obtain ⟨wl, rw, la, h1, h2, h3⟩ := hX
  exact ⟨_, h1⟩
theorem TRX.ob (hX : TRX h) : ∃ fs, h 51 = some (.inr (5, fs)) := by
  obtain ⟨⟨nu, fi, h1⟩, h2, h3⟩ := hX
  exact ⟨_, h1⟩
end


theorem in_f1 {v : Int32} {m : Int} (h : v < 0) : inB v 0 m = false := decide_eq_false (by simp only [Int32.lt_iff_toInt_lt, Int32.toInt_zero] at h; omega)
theorem in_f2 {v : Int32} {k : Nat} (h : ¬ v ≤ nI k) (hk : k < 2 ^ 31) : inB v 0 k = false := decide_eq_false (by simp only [Int32.le_iff_toInt_le, nI_toInt hk] at h; omega)
theorem in_f3 {v : Int32} {k : Nat} (h : ¬ v < nI (k + 1)) (hk : k + 1 < 2 ^ 31) : inB v 0 k = false := decide_eq_false (by simp only [Int32.lt_iff_toInt_lt, nI_toInt hk] at h; omega)
theorem in_t2 {v : Int32} {k : Nat} (h0 : ¬ v < 0) (h : v ≤ nI k) (hk : k < 2 ^ 31) : inB v 0 k = true := decide_eq_true (by simp only [Int32.le_iff_toInt_le, Int32.lt_iff_toInt_lt, Int32.toInt_zero, nI_toInt hk] at h h0; omega)
theorem in_t3 {v : Int32} {k : Nat} (h0 : ¬ v < 0) (h : v < nI (k + 1)) (hk : k + 1 < 2 ^ 31) : inB v 0 k = true := decide_eq_true (by simp only [Int32.lt_iff_toInt_lt, Int32.toInt_zero, nI_toInt hk] at h h0; omega)
theorem r_X3_hasWorld {G : ez_G} {d n : Nat} {h : ez_H} {ia n' f : Nat} {L T ln : Nat → Nat} {sg : Nat → Nat → Nat} {i : Int32} (hS : SS ia h n' f L T ln sg) (ho : OK n' f L T ln sg) : Con G mX3_hasWorld d [.ref ia, .int i] h n 0 0 (PU h n (some (.int (bI (inB i 0 (n' - 1)))))) := by
  obtain ⟨lt, st, le, sc, hM, hz⟩ := hS
  exact t_X3_hasWorld hM ho.1
theorem inl_m1 : inL (-1) = true := by decide
theorem inl_t {v : Int32} (h0 : ¬ v < 0) (h : v < nI 4) : inL v = true := decide_eq_true (by simp only [Int32.lt_iff_toInt_lt, Int32.toInt_zero, nI_toInt (show 4 < 2 ^ 31 by decide)] at h h0; omega)
theorem inl_f1 {v : Int32} (hm : ¬ v = -1) (h0 : v < 0) : inL v = false := decide_eq_false (by
  have h1 : v.toInt ≠ -1 := fun a => hm (Int32.toInt_inj.mp (by rw [a]; rfl))
  simp only [Int32.lt_iff_toInt_lt, Int32.toInt_zero] at h0
  omega)
theorem inl_f2 {v : Int32} (h : ¬ v < nI 4) : inL v = false := decide_eq_false (by simp only [Int32.lt_iff_toInt_lt, nI_toInt (show 4 < 2 ^ 31 by decide)] at h; omega)
set_option maxHeartbeats 800000 in
set_option maxRecDepth 100000 in
theorem t_X7_needWorld {G : ez_G} {d n : Nat} {h : ez_H} {n' f k t : Nat} {L T ln : Nat → Nat} {sg : Nat → Nat → Nat} {zs : Nat → AS} {b : Nat → Nat} {i : Int32} (hI : CJ h h n' f L T ln sg k zs t b) (ho : OK n' f L T ln sg) (hs : WFS ln sg) : Con G mX7_needWorld (d + 6) [.ref 1, .int i] h n 1 6 (PN h n (inB i 0 (n' - 1) = true) ez_IO) := by
  refine Con.of [some (.ref 1), some (.int i)] pl_X7 rfl (Nat.le_of_ble_eq_true rfl) rfl ?_
  have hQ : (inB i 0 (n' - 1) = true) → (PN h n (inB i 0 (n' - 1) = true) ez_IO) (.inl none) h n := fun e => Or.inl ⟨e, rfl, rfl, rfl⟩
  have hX : ¬ (inB i 0 (n' - 1) = true) → ∀ m, n ≤ m → (PN h n (inB i 0 (n' - 1) = true) ez_IO) (.inr ez_IO) h m := fun e m hm => Or.inr ⟨e, rfl, rfl, hm⟩
  generalize PN h n (inB i 0 (n' - 1) = true) ez_IO = Q at hQ hX ⊢
  refine ez_aload_n (q := 1) 0 dX7_needWorld_0 rfl rfl rfl ?_
  refine ez_getf (q := 4) dX7_needWorld_1 fl_X7_10 hI.1.1 rfl rfl ?_
  refine ez_iload_n (q := 5) 1 dX7_needWorld_4 rfl rfl rfl ?_
  refine cPv (q := 8) dX7_needWorld_5 ck_X7_274 hI.ss.ob (r_X3_hasWorld hI.ss ho) rfl ⟨by decide, rfl⟩ rfl rfl rfl (Nat.le_of_ble_eq_true rfl) rfl ?_
  refine ez_ifneB (q := 11) (tgt := 22) dX7_needWorld_8 (by decide) rfl (fun hc8 => ?_) (fun hc8 => ?_)
  · exact ez_vret dX7_needWorld_22 rfl (hQ hc8)
  · exact ez_throwW (is := 278) (text := "there is no such world") rfl rfl tx_184_188 (List.mem_of_getElem? (i := 1) rfl) dX7_needWorld_11 dX7_needWorld_14 dX7_needWorld_15 dX7_needWorld_18 dX7_needWorld_21 (Nat.le_of_ble_eq_true rfl) (fun n1 hn1 => hX (by rw [hc8]; decide) n1 hn1)

set_option maxHeartbeats 800000 in
set_option maxRecDepth 100000 in
theorem t_X7_needWish {G : ez_G} {d n : Nat} {h : ez_H} {w : Int32}  : Con G mX7_needWish (d + 6) [.int w] h n 1 6 (PN h n (inB w 0 3 = true) ez_IO) := by
  refine Con.of [some (.int w)] pl_X7 rfl (Nat.le_of_ble_eq_true rfl) rfl ?_
  have hQ : (inB w 0 3 = true) → (PN h n (inB w 0 3 = true) ez_IO) (.inl none) h n := fun e => Or.inl ⟨e, rfl, rfl, rfl⟩
  have hX : ¬ (inB w 0 3 = true) → ∀ m, n ≤ m → (PN h n (inB w 0 3 = true) ez_IO) (.inr ez_IO) h m := fun e m hm => Or.inr ⟨e, rfl, rfl, hm⟩
  generalize PN h n (inB w 0 3 = true) ez_IO = Q at hQ hX ⊢
  refine ez_iload_n (q := 1) 0 dX7_needWish_0 rfl rfl rfl ?_
  refine ez_iflt (q := 4) (tgt := 9) dX7_needWish_1 (by decide) rfl (fun hc1 => ?_) (fun hc1 => ?_)
  · exact ez_throwW (is := 280) (text := "a wish is 0 to 3") rfl rfl tx_184_188 (List.mem_of_getElem? (i := 2) rfl) dX7_needWish_9 dX7_needWish_12 dX7_needWish_13 dX7_needWish_16 dX7_needWish_19 (Nat.le_of_ble_eq_true rfl) (fun n1 hn1 => hX (by first | (rw [in_f1 (m := 3) hc1]; decide) | (rw [show ((3 : Int)) = ((3 : Nat) : Int) from rfl, in_f3 hc6 (by decide)]; decide)) n1 hn1)
  · refine ez_iload_n (q := 5) 0 dX7_needWish_4 rfl rfl rfl ?_
    refine ez_iconst (v := nI 4) (q := 6) dX7_needWish_5 (by decide) rfl ?_
    refine ez_icmplt (q := 9) (tgt := 20) dX7_needWish_6 (by decide) rfl (fun hc6 => ?_) (fun hc6 => ?_)
    · exact ez_vret dX7_needWish_20 rfl (hQ (in_t3 (k := 3) hc1 hc6 (by decide)))
    · exact ez_throwW (is := 280) (text := "a wish is 0 to 3") rfl rfl tx_184_188 (List.mem_of_getElem? (i := 2) rfl) dX7_needWish_9 dX7_needWish_12 dX7_needWish_13 dX7_needWish_16 dX7_needWish_19 (Nat.le_of_ble_eq_true rfl) (fun n1 hn1 => hX (by first | (rw [in_f1 (m := 3) hc1]; decide) | (rw [show ((3 : Int)) = ((3 : Nat) : Int) from rfl, in_f3 hc6 (by decide)]; decide)) n1 hn1)

set_option maxHeartbeats 800000 in
set_option maxRecDepth 100000 in
theorem t_X7_needLetterOrNone {G : ez_G} {d n : Nat} {h : ez_H} {u : Int32}  : Con G mX7_needLetterOrNone (d + 6) [.int u] h n 1 6 (PN h n (inL u = true) ez_IA) := by
  refine Con.of [some (.int u)] pl_X7 rfl (Nat.le_of_ble_eq_true rfl) rfl ?_
  have hQ : (inL u = true) → (PN h n (inL u = true) ez_IA) (.inl none) h n := fun e => Or.inl ⟨e, rfl, rfl, rfl⟩
  have hX : ¬ (inL u = true) → ∀ m, n ≤ m → (PN h n (inL u = true) ez_IA) (.inr ez_IA) h m := fun e m hm => Or.inr ⟨e, rfl, rfl, hm⟩
  generalize PN h n (inL u = true) ez_IA = Q at hQ hX ⊢
  refine ez_iload_n (q := 1) 0 dX7_needLetterOrNone_0 rfl rfl rfl ?_
  refine ez_iconst (v := -1) (q := 2) dX7_needLetterOrNone_1 (by decide) rfl ?_
  refine ez_icmpeq (q := 5) (tgt := 25) dX7_needLetterOrNone_2 (by decide) rfl (fun hc2 => ?_) (fun hc2 => ?_)
  · exact ez_vret dX7_needLetterOrNone_25 rfl (hQ (by first | exact inl_t hc6 hc11 | (rw [hc2]; exact inl_m1)))
  · refine ez_iload_n (q := 6) 0 dX7_needLetterOrNone_5 rfl rfl rfl ?_
    refine ez_iflt (q := 9) (tgt := 14) dX7_needLetterOrNone_6 (by decide) rfl (fun hc6 => ?_) (fun hc6 => ?_)
    · exact ez_throwW (is := 282) (text := "a letter is 0 to 3, or NONE") rfl rfl tx_55_59 (List.mem_of_getElem? (i := 3) rfl) dX7_needLetterOrNone_14 dX7_needLetterOrNone_17 dX7_needLetterOrNone_18 dX7_needLetterOrNone_21 dX7_needLetterOrNone_24 (Nat.le_of_ble_eq_true rfl) (fun n1 hn1 => hX (by first | (rw [inl_f1 hc2 hc6]; decide) | (rw [inl_f2 hc11]; decide)) n1 hn1)
    · refine ez_iload_n (q := 10) 0 dX7_needLetterOrNone_9 rfl rfl rfl ?_
      refine ez_iconst (v := nI 4) (q := 11) dX7_needLetterOrNone_10 (by decide) rfl ?_
      refine ez_icmplt (q := 14) (tgt := 25) dX7_needLetterOrNone_11 (by decide) rfl (fun hc11 => ?_) (fun hc11 => ?_)
      · exact ez_vret dX7_needLetterOrNone_25 rfl (hQ (by first | exact inl_t hc6 hc11 | (rw [hc2]; exact inl_m1)))
      · exact ez_throwW (is := 282) (text := "a letter is 0 to 3, or NONE") rfl rfl tx_55_59 (List.mem_of_getElem? (i := 3) rfl) dX7_needLetterOrNone_14 dX7_needLetterOrNone_17 dX7_needLetterOrNone_18 dX7_needLetterOrNone_21 dX7_needLetterOrNone_24 (Nat.le_of_ble_eq_true rfl) (fun n1 hn1 => hX (by first | (rw [inl_f1 hc2 hc6]; decide) | (rw [inl_f2 hc11]; decide)) n1 hn1)

set_option maxHeartbeats 800000 in
set_option maxRecDepth 100000 in
theorem t_X7_needLook {G : ez_G} {d n : Nat} {h : ez_H} {w : Int32} {mx : Nat} {a : Int} (ha : (mx : Int) = a) (hm : mx < 100) : Con G mX7_needLook (d + 6) [.int w, .int (nI mx)] h n 1 6 (PN h n (inB w 0 a = true) ez_IA) := by
  refine Con.of [some (.int w), some (.int (nI mx))] pl_X7 rfl (Nat.le_of_ble_eq_true rfl) rfl ?_
  have hQ : (inB w 0 a = true) → (PN h n (inB w 0 a = true) ez_IA) (.inl none) h n := fun e => Or.inl ⟨e, rfl, rfl, rfl⟩
  have hX : ¬ (inB w 0 a = true) → ∀ m, n ≤ m → (PN h n (inB w 0 a = true) ez_IA) (.inr ez_IA) h m := fun e m hm => Or.inr ⟨e, rfl, rfl, hm⟩
  generalize PN h n (inB w 0 a = true) ez_IA = Q at hQ hX ⊢
  refine ez_iload_n (q := 1) 0 dX7_needLook_0 rfl rfl rfl ?_
  refine ez_iflt (q := 4) (tgt := 9) dX7_needLook_1 (by decide) rfl (fun hc1 => ?_) (fun hc1 => ?_)
  · exact ez_throwW (is := 284) (text := "there is no such property") rfl rfl tx_55_59 (List.mem_of_getElem? (i := 0) rfl) dX7_needLook_9 dX7_needLook_12 dX7_needLook_13 dX7_needLook_16 dX7_needLook_19 (Nat.le_of_ble_eq_true rfl) (fun n1 hn1 => hX (by rw [← ha]; first | (rw [in_f1 (m := mx) hc1]; decide) | (rw [in_f2 hc6 (by omega)]; decide)) n1 hn1)
  · refine ez_iload_n (q := 5) 0 dX7_needLook_4 rfl rfl rfl ?_
    refine ez_iload_n (q := 6) 1 dX7_needLook_5 rfl rfl rfl ?_
    refine ez_icmple (q := 9) (tgt := 20) dX7_needLook_6 (by decide) rfl (fun hc6 => ?_) (fun hc6 => ?_)
    · exact ez_vret dX7_needLook_20 rfl (hQ (by rw [← ha]; exact in_t2 hc1 hc6 (by omega)))
    · exact ez_throwW (is := 284) (text := "there is no such property") rfl rfl tx_55_59 (List.mem_of_getElem? (i := 0) rfl) dX7_needLook_9 dX7_needLook_12 dX7_needLook_13 dX7_needLook_16 dX7_needLook_19 (Nat.le_of_ble_eq_true rfl) (fun n1 hn1 => hX (by rw [← ha]; first | (rw [in_f1 (m := mx) hc1]; decide) | (rw [in_f2 hc6 (by omega)]; decide)) n1 hn1)

set_option maxHeartbeats 800000 in
set_option maxRecDepth 100000 in
theorem v_X7_needWorld {G : ez_G} {d n : Nat} {h : ez_H} {n' f k t : Nat} {L T ln : Nat → Nat} {sg : Nat → Nat → Nat} {zs : Nat → AS} {b : Nat → Nat} {i : Nat} (hI : CJ h h n' f L T ln sg k zs t b) (ho : OK n' f L T ln sg) (hs : WFS ln sg) (hi : i < n') : Con G mX7_needWorld (d + 1) [.ref 1, .int (nI i)] h n 0 0 (PU h n none) := by
  refine Con.of [some (.ref 1), some (.int (nI i))] pl_X7 rfl (Nat.le_of_ble_eq_true rfl) rfl ?_
  have hQ : (PU h n none) (.inl none) h n := ⟨rfl, rfl, rfl⟩
  generalize PU h n none = Q at hQ ⊢
  refine ez_aload_n (q := 1) 0 dX7_needWorld_0 rfl rfl rfl ?_
  refine ez_getf (q := 4) dX7_needWorld_1 fl_X7_10 hI.1.1 rfl rfl ?_
  refine ez_iload_n (q := 5) 1 dX7_needWorld_4 rfl rfl rfl ?_
  refine cPv (q := 8) dX7_needWorld_5 ck_X7_274 hI.ss.ob (r_X3_hasWorld (i := nI i) hI.ss ho) rfl ⟨by decide, rfl⟩ rfl rfl rfl (Nat.le_of_ble_eq_true rfl) rfl ?_
  refine ez_top (show bI _ = bI true from by rw [inB_nt hi ho.1]) ?_
  refine ez_ifneB (q := 11) (tgt := 22) dX7_needWorld_8 (by decide) rfl (fun hc8 => ?_) (fun hc8 => nomatch hc8)
  exact ez_vret dX7_needWorld_22 rfl (hQ)

set_option maxHeartbeats 800000 in
set_option maxRecDepth 100000 in
theorem v_X7_needWish {G : ez_G} {d n : Nat} {h : ez_H} {w : Nat} (hw : w < 4) : Con G mX7_needWish (d) [.int (nI w)] h n 0 0 (PU h n none) := by
  refine Con.of [some (.int (nI w))] pl_X7 rfl (Nat.le_of_ble_eq_true rfl) rfl ?_
  have hQ : (PU h n none) (.inl none) h n := ⟨rfl, rfl, rfl⟩
  generalize PU h n none = Q at hQ ⊢
  refine ez_iload_n (q := 1) 0 dX7_needWish_0 rfl rfl rfl ?_
  refine ez_ifltN (q := 4) (tgt := 9) dX7_needWish_1 (by decide) (by omega) rfl ?_
  refine ez_iload_n (q := 5) 0 dX7_needWish_4 rfl rfl rfl ?_
  refine ez_iconst (v := nI 4) (q := 6) dX7_needWish_5 (by decide) rfl ?_
  refine ez_icmpltN (q := 9) (tgt := 20) dX7_needWish_6 (by decide) (by omega) (by decide) rfl (fun hc6 => ?_) (fun hc6 => absurd hw (by omega))
  exact ez_vret dX7_needWish_20 rfl (hQ)

set_option maxHeartbeats 800000 in
set_option maxRecDepth 100000 in
theorem v_X7_needLetterOrNone {G : ez_G} {d n : Nat} {h : ez_H} {u : Nat} (hu : u ≤ 4) : Con G mX7_needLetterOrNone (d) [.int (fI u)] h n 0 0 (PU h n none) := by
  refine Con.of [some (.int (fI u))] pl_X7 rfl (Nat.le_of_ble_eq_true rfl) rfl ?_
  have hQ : (PU h n none) (.inl none) h n := ⟨rfl, rfl, rfl⟩
  generalize PU h n none = Q at hQ ⊢
  by_cases e4 : u = 4
  · have hfi : fI u = -1 := if_pos e4
    refine ez_iload_n (q := 1) 0 dX7_needLetterOrNone_0 rfl rfl rfl ?_
    refine ez_iconst (v := -1) (q := 2) dX7_needLetterOrNone_1 (by decide) rfl ?_
    refine ez_icmpeq (q := 5) (tgt := 25) dX7_needLetterOrNone_2 (by decide) rfl (fun hc2 => ?_) (fun hc2 => ?_)
    · exact ez_vret dX7_needLetterOrNone_25 rfl (hQ)
    · refine ez_iload_n (q := 6) 0 dX7_needLetterOrNone_5 rfl rfl rfl ?_
      refine ez_iflt (q := 9) (tgt := 14) dX7_needLetterOrNone_6 (by decide) rfl (fun hc6 => ?_) (fun hc6 => ?_)
      · first
        | exact absurd (hfi ▸ hc6) (nI_pos (by omega))
        | skip
          exact absurd hfi hc2
      · refine ez_iload_n (q := 10) 0 dX7_needLetterOrNone_9 rfl rfl rfl ?_
        refine ez_iconst (v := nI 4) (q := 11) dX7_needLetterOrNone_10 (by decide) rfl ?_
        refine ez_icmplt (q := 14) (tgt := 25) dX7_needLetterOrNone_11 (by decide) rfl (fun hc11 => ?_) (fun hc11 => ?_)
        · exact ez_vret dX7_needLetterOrNone_25 rfl (hQ)
        · first
          | exact absurd ((nI_ltI (by omega) (by decide)).mpr (by omega)) (hfi ▸ hc11)
          | skip
            exact absurd hfi hc2
  · have hfi : fI u = nI u := if_neg e4
    refine ez_iload_n (q := 1) 0 dX7_needLetterOrNone_0 rfl rfl rfl ?_
    refine ez_iconst (v := -1) (q := 2) dX7_needLetterOrNone_1 (by decide) rfl ?_
    refine ez_icmpeq (q := 5) (tgt := 25) dX7_needLetterOrNone_2 (by decide) rfl (fun hc2 => ?_) (fun hc2 => ?_)
    · exact ez_vret dX7_needLetterOrNone_25 rfl (hQ)
    · refine ez_iload_n (q := 6) 0 dX7_needLetterOrNone_5 rfl rfl rfl ?_
      refine ez_iflt (q := 9) (tgt := 14) dX7_needLetterOrNone_6 (by decide) rfl (fun hc6 => ?_) (fun hc6 => ?_)
      · first
        | exact absurd (hfi ▸ hc6) (nI_pos (by omega))
        | skip
          exact absurd hfi hc2
      · refine ez_iload_n (q := 10) 0 dX7_needLetterOrNone_9 rfl rfl rfl ?_
        refine ez_iconst (v := nI 4) (q := 11) dX7_needLetterOrNone_10 (by decide) rfl ?_
        refine ez_icmplt (q := 14) (tgt := 25) dX7_needLetterOrNone_11 (by decide) rfl (fun hc11 => ?_) (fun hc11 => ?_)
        · exact ez_vret dX7_needLetterOrNone_25 rfl (hQ)
        · first
          | exact absurd ((nI_ltI (by omega) (by decide)).mpr (by omega)) (hfi ▸ hc11)
          | skip
            exact absurd hfi hc2

set_option maxHeartbeats 800000 in
set_option maxRecDepth 100000 in
theorem v_X7_needLook {G : ez_G} {d n : Nat} {h : ez_H} {w m : Nat} (hw : w ≤ m) (hm : m < 100) : Con G mX7_needLook (d) [.int (nI w), .int (nI m)] h n 0 0 (PU h n none) := by
  refine Con.of [some (.int (nI w)), some (.int (nI m))] pl_X7 rfl (Nat.le_of_ble_eq_true rfl) rfl ?_
  have hQ : (PU h n none) (.inl none) h n := ⟨rfl, rfl, rfl⟩
  generalize PU h n none = Q at hQ ⊢
  refine ez_iload_n (q := 1) 0 dX7_needLook_0 rfl rfl rfl ?_
  refine ez_ifltN (q := 4) (tgt := 9) dX7_needLook_1 (by decide) (by omega) rfl ?_
  refine ez_iload_n (q := 5) 0 dX7_needLook_4 rfl rfl rfl ?_
  refine ez_iload_n (q := 6) 1 dX7_needLook_5 rfl rfl rfl ?_
  refine ez_icmpleN (q := 9) (tgt := 20) dX7_needLook_6 (by decide) (by omega) (by omega) rfl (fun hc6 => ?_) (fun hc6 => absurd hw (by omega))
  exact ez_vret dX7_needLook_20 rfl (hQ)


