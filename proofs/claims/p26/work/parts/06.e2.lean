def ez_cl (ci : Nat) : vw_C := vwCl.getD ci (RX0, TX0, 5)
def ez_tyf (ci : Nat) : Nat → FieldType := match ci with
  | 0 => tyX0
  | 1 => tyX1
  | 2 => tyX2
  | 3 => tyX3
  | 4 => tyX4
  | 5 => tyX5
  | 6 => tyX6
  | _ => tyX7
theorem ez_cl_get {ci : Nat} (h : ci < 8) : vwCl[ci]? = some (ez_cl ci) := by
  have h2 : ci < vwCl.length := h
  rw [ez_cl, List.getD_eq_getElem?_getD, List.getElem?_eq_getElem h2]
  rfl
theorem ez_ty_ok {ci : Nat} (h : ci < 8) : ∀ k, k < (ez_cl ci).2.2 → parseFieldDescriptor ((ez_cl ci).2.1 k).2.2.1 = some (ez_tyf ci k) := by
  rcases (show ci = 0 ∨ ci = 1 ∨ ci = 2 ∨ ci = 3 ∨ ci = 4 ∨ ci = 5 ∨ ci = 6 ∨ ci = 7 by omega) with rfl | rfl | rfl | rfl | rfl | rfl | rfl | rfl
  · exact tyX0_ok
  · exact tyX1_ok
  · exact tyX2_ok
  · exact tyX3_ok
  · exact tyX4_ok
  · exact tyX5_ok
  · exact tyX6_ok
  · exact tyX7_ok
theorem ez_nm {ci : Nat} (h : ci < 8) : ∀ a, a < (ez_cl ci).2.2 → ∀ b, b < (ez_cl ci).2.2 → a ≠ b → ((ez_cl ci).2.1 a).2.1 ≠ ((ez_cl ci).2.1 b).2.1 := by
  rcases (show ci = 0 ∨ ci = 1 ∨ ci = 2 ∨ ci = 3 ∨ ci = 4 ∨ ci = 5 ∨ ci = 6 ∨ ci = 7 by omega) with rfl | rfl | rfl | rfl | rfl | rfl | rfl | rfl
  · exact nmX0
  · exact nmX1
  · exact nmX2
  · exact nmX3
  · exact nmX4
  · exact nmX5
  · exact nmX6
  · exact nmX7
theorem ez_lay0 : ∀ ci, ci < 8 → (u_ws (ez_cl ci).1 (ez_cl ci).2.1 (ez_cl ci).2.2).all (fun w => decide (w ∈ lw_tbl) && goodWord w) = true := by decide +kernel
theorem ez_lay {ci : Nat} (h : ci < 8) {w : Cond} (hw : w ∈ u_ws (ez_cl ci).1 (ez_cl ci).2.1 (ez_cl ci).2.2) : ez_T w := by
  have h1 := List.all_eq_true.mp (ez_lay0 ci h) w hw
  simp only [Bool.and_eq_true, decide_eq_true_eq] at h1
  exact h1
/-- entry idx of class own's pool is the field k of the class number ci -/
def ez_fl (own : String) (idx ci k : Nat) : Prop := ci < 8 ∧ k < (ez_cl ci).2.2 ∧ ez_T (.fieldLink own idx ((ez_cl ci).2.1 k).1 ((ez_cl ci).2.1 k).2.1 ((ez_cl ci).2.1 k).2.2.1)
theorem ez_one {G : ez_G} {h : ez_H} {n a : Nat} {H : Heap} {e : va_E} (hR : ez_R G h n H) (hc : h a = some e) : va_P (ez_D G) vwCl [(ez_ad G a, ez_e G e)] H := by
  intro k q hq
  cases k with
  | zero => cases hq; exact (hR.2.2.2 a e hc).2
  | succ j => simp at hq
theorem ez_getf {G : ez_G} {M : ez_M} {d : Nat} {Q : ez_Q} {h : ez_H} {n mc ms pc q : Nat} {ls : List (Option Value)} {st : List Value} {a idx ci k : Nat} {fs : List Value} {v : Value} (hd : decode M.2.1 pc = .ok (.getfield idx, 3)) (hf : ez_fl M.1.cls idx ci k) (hc0 : h a = some (.inr (ci, fs))) (hv : fs[k]? = some v) (hq : pc + 3 = q) (K : E G M d Q h n mc ms q ls (v :: st)) : E G M d Q h n mc ms pc ls (.ref a :: st) := by
  subst hq
  intro p e R s m args below meth c H locs cells slots mt mS la X hR hS hL hc hs
  obtain ⟨h1, h2, h3⟩ := hf
  exact va_get X.1 X.2.1 (Ts := u_ws (ez_cl ci).1 (ez_cl ci).2.1 (ez_cl ci).2.2) (fun w hw => X.2.2.2.2.2.2.2.2.1.w (ez_lay h1 hw) args) (fun _ h9 => h9) X.2.2.2.1 X.2.2.2.2.2.2.2.2.1.2.1 (ez_one hR hc0) 0 (fs := fs.map (ez_v G)) rfl (ez_cl_get h1) k h2 (X.2.2.2.2.2.2.2.2.1.w h3 args) (fun _ h9 => h9) (by rw [List.getElem?_map, hv]; rfl) hd (K p e R s m args below meth c H locs cells slots mt mS la X hR hS hL hc hs)
theorem ez_put0 {G : ez_G} {M : ez_M} {d : Nat} {Q : ez_Q} {h : ez_H} {n mc ms pc q : Nat} {ls : List (Option Value)} {st : List Value} {a idx ci k : Nat} {fs : List Value} {v : Value} (hd : decode M.2.1 pc = .ok (.putfield idx, 3)) (hf : ez_fl M.1.cls idx ci k) (hfin : ((ez_cl ci).2.1 k).2.2.2 = false) (hn : ∀ G, narrow (ez_tyf ci k) (ez_v G v) = ez_v G v) (hfit : ∀ G, fits (ez_tyf ci k) (ez_v G v) = true) (ha : 0 < a) (hc0 : h a = some (.inr (ci, fs))) (hl : k < fs.length) (hq : pc + 3 = q) (K : E G M d Q (ez_up h a (.inr (ci, fs.set k v))) n mc ms q ls st) : E G M d Q h n mc ms pc ls (v :: .ref a :: st) := by
  subst hq
  intro p e R s m args below meth c H locs cells slots mt mS la X hR hS hL hc hs
  obtain ⟨h1, h2, h3⟩ := hf
  have hts : ∀ w ∈ u_ws (ez_cl ci).1 (ez_cl ci).2.1 (ez_cl ci).2.2, w.before args s = true := fun w hw => X.2.2.2.2.2.2.2.2.1.w (ez_lay h1 hw) args
  have hap := va_apart (D := ez_D G) (own := M.1.cls) hts (fun _ h9 => h9) (ez_tyf ci) (ez_ty_ok h1) (ez_nm h1) X.2.2.2.2.2.2.2.2.1.2.1 (ez_cl_get h1)
  obtain ⟨r, hr1, cell, q1, q2, q3, q4⟩ := (hR.2.2.2 a _ hc0).2
  have hr : r = ez_cl ci := Option.some.inj (hr1.symm.trans (ez_cl_get h1))
  subst hr
  obtain ⟨hSl, hfc, kC, hkC, hkind⟩ := X.2.2.2.2.2.2.2.2.1.2.1.1 ci _ (ez_cl_get h1)
  obtain ⟨cf, kf, fi, f, hi, hsl⟩ := hSl k h2
  have hlay := hts _ (u_in_lay h2)
  unfold u_lay at hlay
  rw [if_neg (by rw [hfin]; decide)] at hlay
  have hst := (u_facts hfc hkC (u_lays hts (fun _ h9 => h9) h2) hi).1
  have h6 := u_store hfc hkC hkind hlay hi (ez_ty_ok h1 k h2) (hn G) (hfit G)
  refine W.putK X.1 X.2.1 (f := f) ⟨X.2.2.2.1, X.2.2.2.2.2.2.2.2.1.w h3 args, ⟨_, _, _, hi⟩, hst⟩ (by rw [q2]; exact h6) q1 q3 (by rw [hsl]; exact k2_hasslot (q4 k h2)) rfl rfl hd fun H' e1 e2 e3 => ?_
  rw [hsl] at e1 ⊢
  refine K p e R s m args below meth c H' _ cells slots mt mS la X (hR.set hc0 (⟨_, ez_cl_get h1, t_OB.to (V := updV (vp_V (fs.map (ez_v G))) k (ez_v G v)) ⟨_, e1, q2, q3, t_set q4 hap h2 _⟩ (fun j _ => ?_)⟩) e2 e3) (hS.put e2 e3 (ez_ad_A ha)) hL hc hs
  show updV (vp_V (fs.map (ez_v G))) k (ez_v G v) j = vp_V ((fs.set k v).map (ez_v G)) j
  rw [vp_updV_set (by simpa using hl), List.map_set]
theorem ez_putF0 {G : ez_G} {M : ez_M} {d : Nat} {Q : ez_Q} {h : ez_H} {n mc ms pc q : Nat} {ls : List (Option Value)} {st : List Value} {a idx ci k : Nat} {fs : List Value} {v : Value} (hd : decode M.2.1 pc = .ok (.putfield idx, 3)) (hf : ez_fl M.1.cls idx ci k) (hfin : ((ez_cl ci).2.1 k).2.2.2 = true) (hini : M.1.name = "<init>") (hdecl : ((ez_cl ci).2.1 k).1 = M.1.cls) (hn : ∀ G, narrow (ez_tyf ci k) (ez_v G v) = ez_v G v) (hfit : ∀ G, fits (ez_tyf ci k) (ez_v G v) = true) (ha : 0 < a) (hc0 : h a = some (.inr (ci, fs))) (hl : k < fs.length) (hq : pc + 3 = q) (K : E G M d Q (ez_up h a (.inr (ci, fs.set k v))) n mc ms q ls st) : E G M d Q h n mc ms pc ls (v :: .ref a :: st) := by
  subst hq
  intro p e R s m args below meth c H locs cells slots mt mS la X hR hS hL hc hs
  obtain ⟨h1, h2, h3⟩ := hf
  have hts : ∀ w ∈ u_ws (ez_cl ci).1 (ez_cl ci).2.1 (ez_cl ci).2.2, w.before args s = true := fun w hw => X.2.2.2.2.2.2.2.2.1.w (ez_lay h1 hw) args
  have hap := va_apart (D := ez_D G) (own := M.1.cls) hts (fun _ h9 => h9) (ez_tyf ci) (ez_ty_ok h1) (ez_nm h1) X.2.2.2.2.2.2.2.2.1.2.1 (ez_cl_get h1)
  obtain ⟨r, hr1, cell, q1, q2, q3, q4⟩ := (hR.2.2.2 a _ hc0).2
  have hr : r = ez_cl ci := Option.some.inj (hr1.symm.trans (ez_cl_get h1))
  subst hr
  obtain ⟨hSl, hfc, kC, hkC, hkind⟩ := X.2.2.2.2.2.2.2.2.1.2.1.1 ci _ (ez_cl_get h1)
  obtain ⟨cf, kf, fi, f, hi, hsl⟩ := hSl k h2
  have hlay := hts _ (u_in_lay h2)
  unfold u_lay at hlay
  rw [if_pos hfin] at hlay
  have hst := (u_facts hfc hkC (u_lays hts (fun _ h9 => h9) h2) hi).1
  have hcf : m.cls = cf := by
    obtain ⟨_, _, c', _, _, _, -, -, hf', -, -, -, hown2, -⟩ := Cond.laysFinal_spec hlay
    have e1 : c' = cf := by have := hi.symm.trans hf'; simp at this; exact this.1.symm
    rw [hdecl] at hown2
    rw [← e1]; exact Option.some.inj (X.2.2.2.1.symm.trans hown2)
  have h6 := u_fits hfc hkC hkind (Or.inr hlay) hi (ez_ty_ok h1 k h2) (hn G) (hfit G)
  refine W.putFinK X.1 X.2.1 X.2.2.2.1 (X.2.2.2.2.2.2.2.2.1.w h3 args) hi hst hcf (X.2.2.2.2.2.2.1.trans hini) (by rw [q2]; exact h6) q1 q3 (by rw [hsl]; exact k2_hasslot (q4 k h2)) rfl rfl hd fun H' e1 e2 e3 => ?_
  rw [hsl] at e1 ⊢
  refine K p e R s m args below meth c H' _ cells slots mt mS la X (hR.set hc0 (⟨_, ez_cl_get h1, t_OB.to (V := updV (vp_V (fs.map (ez_v G))) k (ez_v G v)) ⟨_, e1, q2, q3, t_set q4 hap h2 _⟩ (fun j _ => ?_)⟩) e2 e3) (hS.put e2 e3 (ez_ad_A ha)) hL hc hs
  show updV (vp_V (fs.map (ez_v G))) k (ez_v G v) j = vp_V ((fs.set k v).map (ez_v G)) j
  rw [vp_updV_set (by simpa using hl), List.map_set]
theorem ez_iald {G : ez_G} {M : ez_M} {d : Nat} {Q : ez_Q} {h : ez_H} {n mc ms pc q : Nat} {ls : List (Option Value)} {st : List Value} {a len j : Nat} {f : Nat → Int32} {i : Int32} (hd : decode M.2.1 pc = .ok (.iaload, 1)) (hc0 : h a = some (.inl (0, len, .inl f))) (hi : i = nI j) (hj : j < len) (hlen : len < 2 ^ 31) (hq : pc + 1 = q) (K : E G M d Q h n mc ms q ls (.int (f j) :: st)) : E G M d Q h n mc ms pc ls (.int i :: .ref a :: st) := by
  subst hq; subst hi
  intro p e R s m args below meth c H locs cells slots mt mS la X hR hS hL hc hs
  refine va_iald X.1 X.2.1 X.2.2.2.2.2.2.2.2.1.2.1 (ez_one hR hc0) 0 0 (cA := ez_ca G 0) (n := len) (f := f) rfl rfl (vp_in_nI hj hlen) hd ?_
  rw [nI_clamp (by omega)]
  exact K p e R s m args below meth c H locs cells slots mt mS la X hR hS hL hc hs
theorem ez_cald {G : ez_G} {M : ez_M} {d : Nat} {Q : ez_Q} {h : ez_H} {n mc ms pc q : Nat} {ls : List (Option Value)} {st : List Value} {a len j : Nat} {f : Nat → Int32} {i : Int32} (hd : decode M.2.1 pc = .ok (.caload, 1)) (hc0 : h a = some (.inl (1, len, .inl f))) (hi : i = nI j) (hj : j < len) (hlen : len < 2 ^ 31) (hq : pc + 1 = q) (K : E G M d Q h n mc ms q ls (.int (f j) :: st)) : E G M d Q h n mc ms pc ls (.int i :: .ref a :: st) := by
  subst hq; subst hi
  intro p e R s m args below meth c H locs cells slots mt mS la X hR hS hL hc hs
  refine va_cald X.1 X.2.1 X.2.2.2.2.2.2.2.2.1.2.1 (ez_one hR hc0) 0 1 (cA := ez_ca G 1) (n := len) (f := f) rfl rfl (vp_in_nI hj hlen) hd ?_
  rw [nI_clamp (by omega)]
  exact K p e R s m args below meth c H locs cells slots mt mS la X hR hS hL hc hs
theorem ez_aald {G : ez_G} {M : ez_M} {d : Nat} {Q : ez_Q} {h : ez_H} {n mc ms pc q : Nat} {ls : List (Option Value)} {st : List Value} {a len j r : Nat} {f : Nat → Option Nat} {i : Int32} (hd : decode M.2.1 pc = .ok (.aaload, 1)) (hc0 : h a = some (.inl (3, len, .inr (.inr (.inr (.inr f)))))) (hi : i = nI j) (hj : j < len) (hlen : len < 2 ^ 31) (hr : f j = some r) (hq : pc + 1 = q) (K : E G M d Q h n mc ms q ls (.ref r :: st)) : E G M d Q h n mc ms pc ls (.int i :: .ref a :: st) := by
  subst hq; subst hi
  intro p e R s m args below meth c H locs cells slots mt mS la X hR hS hL hc hs
  refine va_aldq X.1 X.2.1 X.2.2.2.2.2.2.2.2.1.2.1 (ez_one hR hc0) 0 3 (cA := ez_ca G 3) (n := len) (f := fun j => (f j).map (ez_ad G)) rfl rfl (vp_in_nI hj hlen) hd ?_
  rw [nI_clamp (by omega), hr]
  exact K p e R s m args below meth c H locs cells slots mt mS la X hR hS hL hc hs
theorem ez_alen {G : ez_G} {M : ez_M} {d : Nat} {Q : ez_Q} {h : ez_H} {n mc ms pc q : Nat} {ls : List (Option Value)} {st : List Value} {a len : Nat} {f : Nat → Int32} (hd : decode M.2.1 pc = .ok (.arraylength, 1)) (hc0 : h a = some (.inl (0, len, .inl f))) (hq : pc + 1 = q) (K : E G M d Q h n mc ms q ls (.int (nI len) :: st)) : E G M d Q h n mc ms pc ls (.ref a :: st) := by
  subst hq
  intro p e R s m args below meth c H locs cells slots mt mS la X hR hS hL hc hs
  refine W.alen (n := nI len) X.1 X.2.1 (ez_one hR hc0 0 _ rfl) ((X.2.2.2.2.2.2.2.2.1.2.1.2 0 _ rfl).1 len (fun j => .int (f j))) (by show (arrV _ _ _).slots.size.toInt32 = _; rw [arrV_size]; rfl) rfl rfl hd ?_
  exact K p e R s m args below meth c H locs cells slots mt mS la X hR hS hL hc hs
theorem ez_iast {G : ez_G} {M : ez_M} {d : Nat} {Q : ez_Q} {h : ez_H} {n mc ms pc q : Nat} {ls : List (Option Value)} {st : List Value} {a len j : Nat} {f : Nat → Int32} {i : Int32} {x : Int32} (hd : decode M.2.1 pc = .ok (.iastore, 1)) (ha : 0 < a) (hc0 : h a = some (.inl (0, len, .inl f))) (hi : i = nI j) (hj : j < len) (hlen : len < 2 ^ 31) (hq : pc + 1 = q) (K : E G M d Q (ez_up h a (.inl (0, len, .inl (upd f j x)))) n mc ms q ls st) : E G M d Q h n mc ms pc ls (.int x :: .int i :: .ref a :: st) := by
  subst hq; subst hi
  intro p e R s m args below meth c H locs cells slots mt mS la X hR hS hL hc hs
  have hk := nI_clamp (n := j) (by omega)
  refine W.iast X.1 X.2.1 (ez_one hR hc0 0 _ rfl) ((X.2.2.2.2.2.2.2.2.1.2.1.2 0 _ rfl).1 len (fun j => .int (f j))) (fun q => by cases q) (by show ¬ (nI j < 0 ∨ (arrV _ _ _).slots.size ≤ _); rw [arrV_size]; exact vp_in_nI hj hlen) rfl rfl hd fun H1 e1 z oq => ?_
  refine K p e R s m args below meth c H1 _ cells slots mt mS la X (hR.set hc0 ?_ z oq) (hS.put z oq (ez_ad_A ha)) hL hc hs
  show H1[ez_ad G a]? = some (vp_cell _ _)
  rw [e1]
  show some ((vp_cell (ez_ca G 0) (len, .inl f)).setSlot _ _) = _
  rw [vp_cell_i, vp_cell_i, arrV_store, hk]
  congr 2
  funext y
  by_cases hy : y = j
  · subst hy
    simp [updV, upd]
  · simp [updV, upd, hy]
theorem ez_nar (c : Nat) (h : c < 65536) : narrow .char (.int (nI c)) = .int (nI c) := by
  show Value.int ((nI c).toUInt32.toUInt16.toUInt32.toInt32) = .int (nI c)
  congr 1
  apply Int32.toBitVec_inj.mp
  show ((BitVec.ofNat 32 c).setWidth 16).setWidth 32 = BitVec.ofNat 32 c
  apply BitVec.eq_of_toNat_eq
  simp only [BitVec.toNat_setWidth, BitVec.toNat_ofNat]
  omega
theorem ez_cast {G : ez_G} {M : ez_M} {d : Nat} {Q : ez_Q} {h : ez_H} {n mc ms pc q : Nat} {ls : List (Option Value)} {st : List Value} {a len j c0 : Nat} {f : Nat → Int32} {i x : Int32} (hd : decode M.2.1 pc = .ok (.castore, 1)) (ha : 0 < a) (hc0 : h a = some (.inl (1, len, .inl f))) (hi : i = nI j) (hj : j < len) (hlen : len < 2 ^ 31) (hx : x = nI c0) (hx2 : c0 < 65536) (hq : pc + 1 = q) (K : E G M d Q (ez_up h a (.inl (1, len, .inl (upd f j x)))) n mc ms q ls st) : E G M d Q h n mc ms pc ls (.int x :: .int i :: .ref a :: st) := by
  subst hq; subst hi; subst hx
  intro p e R s m args below meth c H locs cells slots mt mS la X hR hS hL hc hs
  have hk := nI_clamp (n := j) (by omega)
  refine W.cast X.1 X.2.1 (ez_one hR hc0 0 _ rfl) ((X.2.2.2.2.2.2.2.2.1.2.1.2 1 _ rfl).1 len (fun j => .int (f j))) (fun q => by cases q) (by show ¬ (nI j < 0 ∨ (arrV _ _ _).slots.size ≤ _); rw [arrV_size]; exact vp_in_nI hj hlen) rfl rfl hd fun H1 e1 z oq => ?_
  refine K p e R s m args below meth c H1 _ cells slots mt mS la X (hR.set hc0 ?_ z oq) (hS.put z oq (ez_ad_A ha)) hL hc hs
  show H1[ez_ad G a]? = some (vp_cell _ _)
  rw [e1, ez_nar c0 hx2]
  show some ((vp_cell (ez_ca G 1) (len, .inl f)).setSlot _ _) = _
  rw [vp_cell_i, vp_cell_i, arrV_store, hk]
  congr 2
  funext y
  by_cases hy : y = j
  · subst hy
    simp [updV, upd]
  · simp [updV, upd, hy]
theorem ez_aast {G : ez_G} {M : ez_M} {d : Nat} {Q : ez_Q} {h : ez_H} {n mc ms pc q : Nat} {ls : List (Option Value)} {st : List Value} {a len j v : Nat} {f : Nat → Option Nat} {fs : List Value} {i : Int32} (hd : decode M.2.1 pc = .ok (.aastore, 1)) (ha : 0 < a) (hc0 : h a = some (.inl (3, len, .inr (.inr (.inr (.inr f)))))) (hv : h v = some (.inr (3, fs))) (hi : i = nI j) (hj : j < len) (hlen : len < 2 ^ 31) (hq : pc + 1 = q) (K : E G M d Q (ez_up h a (.inl (3, len, .inr (.inr (.inr (.inr (va_up f j (some v)))))))) n mc ms q ls st) : E G M d Q h n mc ms pc ls (.ref v :: .int i :: .ref a :: st) := by
  subst hq; subst hi
  intro p e R s m args below meth c H locs cells slots mt mS la X hR hS hL hc hs
  have hk := nI_clamp (n := j) (by omega)
  have hin := vp_in_nI hj hlen
  obtain ⟨r', hr', cellV, g1, g2, g3, -⟩ := ez_one hR hv 0 _ rfl
  have hcls := (X.2.2.2.2.2.2.2.2.1.2.1.1 3 (ez_cl 3) (ez_cl_get (by decide))).2
  obtain ⟨kA, comp, k1, k2, k3, -⟩ := (X.2.2.2.2.2.2.2.2.1.2.1.2 3 _ rfl).2
  have hcomp : comp = (ez_D G).1 3 := Option.some.inj (k3.symm.trans hcls.1)
  subst hcomp
  obtain ⟨kC, hkC, -⟩ := hcls.2
  refine W.aast X.1 X.2.1 (ez_one hR hc0 0 _ rfl) (fun q h => by cases h) (fun h => by cases h) k1 k2 rfl hkC ⟨fun q => hin (Or.inl q), by show _ < (arrV _ _ _).slots.size; rw [arrV_size, hk]; exact hj⟩ g1 (fun q h => by rw [g3] at h; cases h) (by rw [g2]; exact hkC) (by rw [g2]; exact va_assign hcls) rfl rfl hd fun H1 e1 z oq => ?_
  refine K p e R s m args below meth c H1 _ cells slots mt mS la X (hR.set hc0 ?_ z oq) (hS.put z oq (ez_ad_A ha)) hL hc hs
  show H1[ez_ad G a]? = some (vp_cell _ _)
  rw [e1]
  show some ((vp_cell (ez_ca G 3) (len, .inr (.inr (.inr (.inr (fun j => (f j).map (ez_ad G))))))).setSlot _ _) = some (vp_cell (ez_ca G 3) (len, .inr (.inr (.inr (.inr (fun z => (va_up f j (some v) z).map (ez_ad G)))))))
  rw [vp_cell_q, vp_cell_q, arrV_store, hk]
  congr 2
  funext y
  by_cases hy : y = j
  · subst hy
    simp [updV, va_up, va_rf]
  · simp [updV, va_up, hy]
theorem ez_new {G : ez_G} {M : ez_M} {d : Nat} {Q : ez_Q} {h : ez_H} {n mc ms pc q : Nat} {ls : List (Option Value)} {st : List Value} {idx ci N : Nat} {fs : List Value} (hd : decode M.2.1 pc = .ok (.new idx, 3)) (hci : ci < 8) (hk : ez_T (.classLink M.1.cls idx (ez_cl ci).1)) (hi : ez_T (.instantiable (ez_cl ci).1 (ez_cl ci).2.2)) (hini : ez_T (.initialized (ez_cl ci).1)) (hN : (ez_cl ci).2.2 = N) (hfs : ∀ G, ∀ j, j < (ez_cl ci).2.2 → defaultValue (ez_tyf ci j) = vp_V (fs.map (ez_v G)) j) (hq : pc + 3 = q) (K : E G M d Q (ez_up h n (.inr (ci, fs))) (n + 1) mc ms q ls (.ref n :: st)) : E G M d Q h n (mc + 1) (ms + N) pc ls st := by
  subst hq; subst hN
  intro p e R s m args below meth c H locs cells slots mt mS la X hR hS hL hc hs
  have hts : ∀ w ∈ u_ws (ez_cl ci).1 (ez_cl ci).2.1 (ez_cl ci).2.2, w.before args s = true := fun w hw => X.2.2.2.2.2.2.2.2.1.w (ez_lay hci hw) args
  have hKn := X.2.2.2.2.2.2.2.2.1.2.1.1 ci _ (ez_cl_get hci)
  have hsz := hR.size
  refine W.newcK X.1 X.2.1 X.2.2.2.1 (X.2.2.2.2.2.2.2.2.1.w hk args) (X.2.2.2.2.2.2.2.2.1.w hi args) (X.2.2.2.2.2.2.2.2.1.w hini args) rfl hd (by omega) (by omega) hKn.2.1 hsz fun H1 kC hkC e1 z1 o1 => ?_
  refine K p e R s m args below meth c H1 locs (cells + 1) (slots + _) mt mS la X (hR.push ?_ (by rw [z1, hsz]) (fun y hy => o1 y (by rw [← hsz]; exact hy))) ⟨Nat.le_trans hS.1 (by omega), fun x h1 h2 => (o1 x (by have := hS.1; omega)).trans (hS.2.1 x h1 h2), hS.2.2⟩ hL (by omega) (by omega)
  exact ⟨_, ez_cl_get hci, (u_born (ez_tyf ci) hts (fun _ h9 => h9) hKn hkC e1 (ez_ty_ok hci)).to (hfs G)⟩
theorem ez_newc {G : ez_G} {M : ez_M} {d : Nat} {Q : ez_Q} {h : ez_H} {n mc ms pc q : Nat} {ls : List (Option Value)} {st : List Value} {at_ : ArrayType} {len cA : Nat} {ty : FieldType} {i : Int32} {x : va_E} (hd : decode M.2.1 pc = .ok (.newarray at_, 2)) (hty : newarray.typeOf at_ = ty) (harr : ez_T (.arrayClass ty)) (hA : ∀ G, (ez_ca G cA, ty) ∈ ez_tys G) (hx : ∀ G H, H[ez_ad G n]? = some (arrV (ez_ca G cA) len (fun _ => defaultValue ty)) → va_at (ez_D G) vwCl (ez_ad G n, ez_e G x) H) (hprim : ty.isReference = false) (hi : i = nI len) (hlen : len < 100000) (hb : componentBytes ty ≤ 8) (hq : pc + 2 = q) (K : E G M d Q (ez_up h n x) (n + 1) mc ms q ls (.ref n :: st)) : E G M d Q h n (mc + 1) (ms + len) pc ls (.int i :: st) := by
  subst hq; subst hi; subst hty
  intro p e R s m args below meth c H locs cells slots mt mS la X hR hS hL hc hs
  have hsz := hR.size
  refine va_newaK X.1 X.2.1 (X.2.2.2.2.2.2.2.2.1.w harr args) rfl hd rfl (nI_pos (by omega)) (nI_clamp (by omega)) (by have := Nat.mul_le_mul (Nat.le_of_lt hlen) hb; omega) (by omega) (by omega) hsz fun H1 cB e1 z1 o1 hAr hNm => ?_
  obtain ⟨kk, hkk⟩ := List.getElem?_of_mem (hA G)
  have hB : cB = ez_ca G cA := by
    have h2 := (X.2.2.2.2.2.2.2.2.1.2.1.2 kk _ hkk).2
    have h3 : s.vm.findClass ("[" ++ (newarray.typeOf at_).toString) = some (ez_ca G cA) := by
      cases at_ <;> exact h2
    exact Option.some.inj (hNm.symm.trans h3)
  subst hB
  refine K p e R s m args below meth c H1 locs (cells + 1) (slots + _) mt mS la X (hR.push (hx G H1 e1) (by rw [z1, hsz]) (fun y hy => o1 y (by rw [← hsz]; exact hy))) ⟨Nat.le_trans hS.1 (by omega), fun x h1 h2 => (o1 x (by have := hS.1; omega)).trans (hS.2.1 x h1 h2), hS.2.2⟩ hL (by omega) (by omega)
theorem ez_newi {G : ez_G} {M : ez_M} {d : Nat} {Q : ez_Q} {h : ez_H} {n mc ms pc q : Nat} {ls : List (Option Value)} {st : List Value} {len : Nat} {i : Int32} (hd : decode M.2.1 pc = .ok (.newarray .int, 2)) (harr : ez_T (.arrayClass .int)) (hi : i = nI len) (hlen : len < 100000) (hq : pc + 2 = q) (K : E G M d Q (ez_up h n (.inl (0, len, .inl (fun _ => 0)))) (n + 1) mc ms q ls (.ref n :: st)) : E G M d Q h n (mc + 1) (ms + len) pc ls (.int i :: st) :=
  ez_newc (x := .inl (0, len, .inl (fun _ => 0))) (ty := .int) (cA := 0) hd rfl harr (fun _ => List.mem_cons_self) (fun _ _ h => h) rfl hi hlen (by decide) hq K
theorem ez_newch {G : ez_G} {M : ez_M} {d : Nat} {Q : ez_Q} {h : ez_H} {n mc ms pc q : Nat} {ls : List (Option Value)} {st : List Value} {len : Nat} {i : Int32} (hd : decode M.2.1 pc = .ok (.newarray .char, 2)) (harr : ez_T (.arrayClass .char)) (hi : i = nI len) (hlen : len < 100000) (hq : pc + 2 = q) (K : E G M d Q (ez_up h n (.inl (1, len, .inl (fun _ => 0)))) (n + 1) mc ms q ls (.ref n :: st)) : E G M d Q h n (mc + 1) (ms + len) pc ls (.int i :: st) :=
  ez_newc (x := .inl (1, len, .inl (fun _ => 0))) (ty := .char) (cA := 1) hd rfl harr (fun _ => List.mem_cons_of_mem _ List.mem_cons_self) (fun _ _ h => h) rfl hi hlen (by decide) hq K
theorem ez_anew {G : ez_G} {M : ez_M} {d : Nat} {Q : ez_Q} {h : ez_H} {n mc ms pc q : Nat} {ls : List (Option Value)} {st : List Value} {idx len : Nat} {i : Int32} (hd : decode M.2.1 pc = .ok (.anewarray idx, 3)) (hk : ez_T (.classLink M.1.cls idx "FutureWishes$State")) (hover : Cond.arrayOver (.object "FutureWishes$State") ∈ lw_tbl) (hi : i = nI len) (hlen : len < 100000) (hq : pc + 3 = q) (K : E G M d Q (ez_up h n (.inl (3, len, .inr (.inr (.inr (.inr (fun _ => none))))))) (n + 1) mc ms q ls (.ref n :: st)) : E G M d Q h n (mc + 1) (ms + len) pc ls (.int i :: st) := by
  subst hq; subst hi
  intro p e R s m args below meth c H locs cells slots mt mS la X hR hS hL hc hs
  have hsz := hR.size
  have hcl := nI_clamp (n := len) (by omega)
  refine W.anew X.1 X.2.1 X.2.2.2.1 (X.2.2.2.2.2.2.2.2.1.w hk args) (va_AO.use (X.2.2.2.2.2.2.2.2.1.n hover rfl)) rfl hd rfl (nI_pos (by omega)) (by rw [hcl]; omega) (by omega) (by rw [hcl]; omega) fun cA kA comp f1 f2 f3 f4 => ?_
  rw [hcl]
  have hB : cA = ez_ca G 3 := by
    obtain ⟨_, _, -, -, -, h4⟩ := (X.2.2.2.2.2.2.2.2.1.2.1.2 3 _ rfl).2
    exact Option.some.inj (f1.symm.trans h4)
  subst hB
  have z1 : (H.push ({ cls := ez_ca G 3, slots := Array.replicate len .null, vm := .none } : Cell)).size = H.size + 1 := Array.size_push ..
  have e1 : (H.push ({ cls := ez_ca G 3, slots := Array.replicate len .null, vm := .none } : Cell))[H.size]? = some (arrV (ez_ca G 3) len (fun _ => .null)) := by rw [Array.getElem?_push_size, ← arrV_new]
  have o1 : ∀ y : Nat, y < H.size → (H.push ({ cls := ez_ca G 3, slots := Array.replicate len .null, vm := .none } : Cell))[y]? = H[y]? := fun y hy => by rw [Array.getElem?_push, if_neg (Nat.ne_of_lt hy)]
  rw [hsz] at e1 ⊢
  refine K p e R s m args below meth c _ locs (cells + 1) (slots + _) mt mS la X (hR.push e1 z1 o1) ⟨Nat.le_trans hS.1 (by omega), fun x h1 h2 => (o1 x (by have := hS.1; omega)).trans (hS.2.1 x h1 h2), hS.2.2⟩ hL (by omega) (by omega)
theorem ez_ldc {G : ez_G} {M : ez_M} {d : Nat} {Q : ez_Q} {h : ez_H} {n mc ms pc q : Nat} {ls : List (Option Value)} {st : List Value} {idx : Nat} {v : Int32} (hd : decode M.2.1 pc = .ok (.ldc idx, 2)) (hk : ez_T (.constant M.1.cls idx v)) (hq : pc + 2 = q) (K : E G M d Q h n mc ms q ls (.int v :: st)) : E G M d Q h n mc ms pc ls st := by
  subst hq
  intro p e R s m args below meth c H locs cells slots mt mS la X hR hS hL hc hs
  exact lv_ldc X.1 X.2.1 X.2.2.2.1 (X.2.2.2.2.2.2.2.2.1.w hk args) hd (K p e R s m args below meth c H locs cells slots mt mS la X hR hS hL hc hs)
theorem ez_ldcw {G : ez_G} {M : ez_M} {d : Nat} {Q : ez_Q} {h : ez_H} {n mc ms pc q : Nat} {ls : List (Option Value)} {st : List Value} {idx : Nat} {v : Int32} (hd : decode M.2.1 pc = .ok (.ldc_w idx, 3)) (hk : ez_T (.constant M.1.cls idx v)) (hq : pc + 3 = q) (K : E G M d Q h n mc ms q ls (.int v :: st)) : E G M d Q h n mc ms pc ls st := by
  subst hq
  intro p e R s m args below meth c H locs cells slots mt mS la X hR hS hL hc hs
  exact lv_ldcw X.1 X.2.1 X.2.2.2.1 (X.2.2.2.2.2.2.2.2.1.w hk args) hd (K p e R s m args below meth c H locs cells slots mt mS la X hR hS hL hc hs)
theorem ez_ldc2 {G : ez_G} {M : ez_M} {d : Nat} {Q : ez_Q} {h : ez_H} {n mc ms pc q : Nat} {ls : List (Option Value)} {st : List Value} {idx : Nat} {v : Int64} (hd : decode M.2.1 pc = .ok (.ldc2_w idx, 3)) (hk : ez_T (.constantLong M.1.cls idx v)) (hq : pc + 3 = q) (K : E G M d Q h n mc ms q ls (.long v :: st)) : E G M d Q h n mc ms pc ls st := by
  subst hq
  intro p e R s m args below meth c H locs cells slots mt mS la X hR hS hL hc hs
  exact lv_ldc2 X.1 X.2.1 X.2.2.2.1 (X.2.2.2.2.2.2.2.2.1.w hk args) hd (K p e R s m args below meth c H locs cells slots mt mS la X hR hS hL hc hs)
theorem ez_ldc2d {G : ez_G} {M : ez_M} {d : Nat} {Q : ez_Q} {h : ez_H} {n mc ms pc q : Nat} {ls : List (Option Value)} {st : List Value} {idx : Nat} {v : UInt64} (hd : decode M.2.1 pc = .ok (.ldc2_w idx, 3)) (hk : ez_T (.constantDouble M.1.cls idx v)) (hq : pc + 3 = q) (K : E G M d Q h n mc ms q ls (.double v :: st)) : E G M d Q h n mc ms pc ls st := by
  subst hq
  intro p e R s m args below meth c H locs cells slots mt mS la X hR hS hL hc hs
  exact lv_ldc2d X.1 X.2.1 X.2.2.2.1 (X.2.2.2.2.2.2.2.2.1.w hk args) hd (K p e R s m args below meth c H locs cells slots mt mS la X hR hS hL hc hs)
theorem ez_objInit {G : ez_G} {M : ez_M} {d : Nat} {Q : ez_Q} {h : ez_H} {n mc ms pc q : Nat} {ls : List (Option Value)} {st : List Value} {idx a : Nat} (hd : decode M.2.1 pc = .ok (.invokespecial idx, 3)) (hk : ez_T (.methodLink M.1.cls idx objectInit)) (hk2 : ez_T (.instanceMethod objectInit)) (hk3 : ez_T (.code objectInit ⟨#[0xb1]⟩ 1 none)) (hrm : (st.map fun v => v.category).sum ≤ 8) (hq : pc + 3 = q) (K : E G M (d + 1) Q h n mc ms q ls st) : E G M (d + 1) Q h n mc ms pc ls (.ref a :: st) := by
  subst hq
  intro p e R s m args below meth c H locs cells slots mt mS la X hR hS hL hc hs
  refine W.objInit X.1 X.2.1 X.2.2.2.1 (X.2.2.2.2.2.2.2.2.1.w hk args) (X.2.2.2.2.2.2.2.2.1.w hk2 args) (X.2.2.2.2.2.2.2.2.1.w hk3 args) rfl (hL.1.trans X.2.2.2.2.2.1.symm) rfl hd (by have := X.2.2.2.2.2.2.2.2.2.1; omega) ?_ (W.eq rfl (K p e R s m args below meth c H locs cells slots mt mS la X hR hS hL hc hs))
  have := X.2.2.2.2.2.2.2.2.2.2.1
  have h9 := ez_st_cat G st
  show 2 * 0 + ((st.map (ez_v G)).map fun v => v.category).sum + 12 ≤ _
  omega
theorem ez_iret {G : ez_G} {M : ez_M} {d : Nat} {Q : ez_Q} {h : ez_H} {n mc ms pc : Nat} {ls : List (Option Value)} {x : Int32} (hd : decode M.2.1 pc = .ok (.ireturn, 1)) (hr : M.2.2.2.1 = some .int) (hQ : Q (.inl (some (.int x))) h n) : E G M d Q h n mc ms pc ls [.int x] := by
  intro p e R s m args below meth c H locs cells slots mt mS la X hR hS hL hc hs
  have hlocks : meth.locks = false := X.2.2.2.2.1
  refine vx_ret (W.widen (k := mt) (n := mS) (by omega) (by omega) ?_)
  exact W.iret (v := x) X.1 X.2.1 (X.2.2.1.trans hr) (fun t ht hW => ⟨⟨some (.int x), h, n, rfl, hQ, by rw [ht]; exact hR⟩, hS.F ht⟩) hS.2.2 hd hlocks
theorem ez_lret {G : ez_G} {M : ez_M} {d : Nat} {Q : ez_Q} {h : ez_H} {n mc ms pc : Nat} {ls : List (Option Value)} {x : Int64} (hd : decode M.2.1 pc = .ok (.lreturn, 1)) (hr : M.2.2.2.1 = some .long) (hQ : Q (.inl (some (.long x))) h n) : E G M d Q h n mc ms pc ls [.long x] := by
  intro p e R s m args below meth c H locs cells slots mt mS la X hR hS hL hc hs
  have hlocks : meth.locks = false := X.2.2.2.2.1
  refine vx_ret (W.widen (k := mt) (n := mS) (by omega) (by omega) ?_)
  exact W.lret (v := x) X.1 X.2.1 (X.2.2.1.trans hr) (fun t ht hW => ⟨⟨some (.long x), h, n, rfl, hQ, by rw [ht]; exact hR⟩, hS.F ht⟩) hS.2.2 hd hlocks
theorem ez_dret {G : ez_G} {M : ez_M} {d : Nat} {Q : ez_Q} {h : ez_H} {n mc ms pc : Nat} {ls : List (Option Value)} {x : UInt64} (hd : decode M.2.1 pc = .ok (.dreturn, 1)) (hr : M.2.2.2.1 = some .double) (hQ : Q (.inl (some (.double x))) h n) : E G M d Q h n mc ms pc ls [.double x] := by
  intro p e R s m args below meth c H locs cells slots mt mS la X hR hS hL hc hs
  have hlocks : meth.locks = false := X.2.2.2.2.1
  refine vx_ret (W.widen (k := mt) (n := mS) (by omega) (by omega) ?_)
  exact W.dret (v := x) X.1 X.2.1 (X.2.2.1.trans hr) (fun t ht hW => ⟨⟨some (.double x), h, n, rfl, hQ, by rw [ht]; exact hR⟩, hS.F ht⟩) hS.2.2 hd hlocks
theorem ez_zret {G : ez_G} {M : ez_M} {d : Nat} {Q : ez_Q} {h : ez_H} {n mc ms pc : Nat} {ls : List (Option Value)} {x : Int32} {ty : FieldType} (hd : decode M.2.1 pc = .ok (.ireturn, 1)) (hr : M.2.2.2.1 = some ty) (hn : narrow ty (.int x) = .int x) (hQ : Q (.inl (some (.int x))) h n) : E G M d Q h n mc ms pc ls [.int x] := by
  intro p e R s m args below meth c H locs cells slots mt mS la X hR hS hL hc hs
  have hlocks : meth.locks = false := X.2.2.2.2.1
  refine vx_ret (W.widen (k := mt) (n := mS) (by omega) (by omega) ?_)
  exact W.zret (v := x) X.1 X.2.1 (X.2.2.1.trans hr) hn (fun t ht hW => ⟨⟨some (.int x), h, n, rfl, hQ, by rw [ht]; exact hR⟩, hS.F ht⟩) hS.2.2 hd hlocks
theorem ez_vret {G : ez_G} {M : ez_M} {d : Nat} {Q : ez_Q} {h : ez_H} {n mc ms pc : Nat} {ls : List (Option Value)} (hd : decode M.2.1 pc = .ok (.return_, 1)) (hr : M.2.2.2.1 = none) (hQ : Q (.inl none) h n) : E G M d Q h n mc ms pc ls [] := by
  intro p e R s m args below meth c H locs cells slots mt mS la X hR hS hL hc hs
  have hlocks : meth.locks = false := X.2.2.2.2.1
  refine vx_ret (W.widen (k := mt) (n := mS) (by omega) (by omega) ?_)
  exact W.vret X.1 X.2.1 (X.2.2.1.trans hr) (fun t ht hW => ⟨⟨none, h, n, rfl, hQ, by rw [ht]; exact hR⟩, hS.F ht⟩) hS.2.2 hd hlocks
def ez_tw (own cls : String) (ik ic : Nat) : Bool := (Cond.classLink own ik cls :: Cond.initialized cls :: vx_atS own ic cls ["java/lang/RuntimeException", "java/lang/Exception"]).all (fun w => decide (w ∈ lw_tbl) && (goodWord w || ez_isn w) && vx_ot w) && Bundle.fit cls
theorem ez_throw {G : ez_G} {M : ez_M} {d : Nat} {Q : ez_Q} {h : ez_H} {n mc ms pc : Nat} {ls : List (Option Value)} {st : List Value} {ik is ic : Nat} {cls text : String} (hown : M.1.cls = RX7) (htab : M.2.2.2.2 = []) (hck : ez_tw M.1.cls cls ik ic = true) (hstr : (is, text) ∈ ez_strs)
    (d0 : decode M.2.1 pc = .ok (.new ik, 3)) (d3 : decode M.2.1 (pc + 3) = .ok (.dup, 1)) (d4 : decode M.2.1 (pc + 4) = .ok (.ldc is, 2)) (d6 : decode M.2.1 (pc + 6) = .ok (.invokespecial ic, 3)) (d9 : decode M.2.1 (pc + 9) = .ok (.athrow, 1))
    (hrm : (st.map fun v => v.category).sum ≤ 8) (hQ : ∀ n', n ≤ n' → Q (.inr cls) h n') : E G M (d + 6) Q h n (mc + 1) (ms + 6) pc ls st := by
  intro p e R s m args below meth c H locs cells slots mt mS la X hR hS hL hc hs
  have hfr := X.2.2.2.2.2.2.2.2.2.1
  have hlo := X.2.2.2.2.2.2.2.2.2.2.1
  have h9 := ez_st_cat G st
  unfold ez_tw at hck
  rw [Bool.and_eq_true] at hck
  have hall := List.all_eq_true.mp hck.1
  have hw : ∀ w ∈ Cond.classLink M.1.cls ik cls :: Cond.initialized cls :: vx_atS M.1.cls ic cls ["java/lang/RuntimeException", "java/lang/Exception"], w.before args s = true ∧ vx_ot w = true := by
    intro w hw
    have h1 := hall w hw
    simp only [Bool.and_eq_true, decide_eq_true_eq] at h1
    have h2 := X.2.2.2.2.2.2.2.2.1.2.2.2.2.2.2.1 w h1.1.1 h1.1.2
    refine ⟨?_, h1.2⟩
    exact vx_ot_at (State.WarmedH.refl s) rfl h1.2 h2
  obtain ⟨sa, hsa⟩ := X.2.2.2.2.2.2.2.2.1.2.2.2.2.1 _ hstr
  refine vx_throwS X.1 X.2.1 X.2.2.2.2.2.2.2.2.1.1 X.2.2.2.1 (names := ["java/lang/RuntimeException", "java/lang/Exception"]) (cls := cls) (ik := ik) (is := is) (ic := ic) hck.2 (by decide +kernel) (hw _ List.mem_cons_self).1 (hw _ (List.mem_cons_of_mem _ List.mem_cons_self)).1 (by rw [hown]; exact hsa) (fun w h => (hw w (List.mem_cons_of_mem _ (List.mem_cons_of_mem _ h))).1) (fun w h => (hw w h).2) X.2.2.2.2.2.2.2.2.1.2.2.1 X.2.2.2.2.2.2.2.2.1.2.2.2.1 hS (hL.1.trans X.2.2.2.2.2.1.symm) d0 d3 d4 d6 d9 (by rw [X.2.2.2.2.2.2.2.1, htab]; intro x hx; cases hx) (by show 2 + 3 < _; omega) (by show _ + (13 * 3 + 43) ≤ _; omega) (by omega) (by omega) X.2.2.2.2.1 (fun t ht hz hk => ?_) hS.2.2 (by omega) (by omega)
  have hz1 := hR.1
  refine ⟨⟨h, t.heap.size + 1 - ez_o G, hQ _ (by omega), hR.kept (by omega) (by omega) hk⟩, ⟨Nat.le_trans hS.1 hz, fun y h1 h2 => (hk y (by have := hS.1; omega)).trans (hS.2.1 y h1 h2)⟩⟩
theorem ez_throwW {G : ez_G} {M : ez_M} {d : Nat} {Q : ez_Q} {h : ez_H} {n mc ms pc : Nat} {ls : List (Option Value)} {st : List Value} {ik is ic : Nat} {cls text : String} (hown : M.1.cls = RX7) (htab : M.2.2.2.2 = []) (hck : ez_tw M.1.cls cls ik ic = true) (hstr : (is, text) ∈ ez_strs)
    (d0 : decode M.2.1 pc = .ok (.new ik, 3)) (d3 : decode M.2.1 (pc + 3) = .ok (.dup, 1)) (d4 : decode M.2.1 (pc + 4) = .ok (.ldc_w is, 3)) (d6 : decode M.2.1 (pc + 7) = .ok (.invokespecial ic, 3)) (d9 : decode M.2.1 (pc + 10) = .ok (.athrow, 1))
    (hrm : (st.map fun v => v.category).sum ≤ 8) (hQ : ∀ n', n ≤ n' → Q (.inr cls) h n') : E G M (d + 6) Q h n (mc + 1) (ms + 6) pc ls st := by
  intro p e R s m args below meth c H locs cells slots mt mS la X hR hS hL hc hs
  have hfr := X.2.2.2.2.2.2.2.2.2.1
  have hlo := X.2.2.2.2.2.2.2.2.2.2.1
  have h9 := ez_st_cat G st
  unfold ez_tw at hck
  rw [Bool.and_eq_true] at hck
  have hall := List.all_eq_true.mp hck.1
  have hw : ∀ w ∈ Cond.classLink M.1.cls ik cls :: Cond.initialized cls :: vx_atS M.1.cls ic cls ["java/lang/RuntimeException", "java/lang/Exception"], w.before args s = true ∧ vx_ot w = true := by
    intro w hw
    have h1 := hall w hw
    simp only [Bool.and_eq_true, decide_eq_true_eq] at h1
    have h2 := X.2.2.2.2.2.2.2.2.1.2.2.2.2.2.2.1 w h1.1.1 h1.1.2
    refine ⟨?_, h1.2⟩
    exact vx_ot_at (State.WarmedH.refl s) rfl h1.2 h2
  obtain ⟨sa, hsa⟩ := X.2.2.2.2.2.2.2.2.1.2.2.2.2.1 _ hstr
  refine vx_throwSW X.1 X.2.1 X.2.2.2.2.2.2.2.2.1.1 X.2.2.2.1 (names := ["java/lang/RuntimeException", "java/lang/Exception"]) (cls := cls) (ik := ik) (is := is) (ic := ic) hck.2 (by decide +kernel) (hw _ List.mem_cons_self).1 (hw _ (List.mem_cons_of_mem _ List.mem_cons_self)).1 (by rw [hown]; exact hsa) (fun w h => (hw w (List.mem_cons_of_mem _ (List.mem_cons_of_mem _ h))).1) (fun w h => (hw w h).2) X.2.2.2.2.2.2.2.2.1.2.2.1 X.2.2.2.2.2.2.2.2.1.2.2.2.1 hS (hL.1.trans X.2.2.2.2.2.1.symm) d0 d3 d4 d6 d9 (by rw [X.2.2.2.2.2.2.2.1, htab]; intro x hx; cases hx) (by show 2 + 3 < _; omega) (by show _ + (13 * 3 + 43) ≤ _; omega) (by omega) (by omega) X.2.2.2.2.1 (fun t ht hz hk => ?_) hS.2.2 (by omega) (by omega)
  have hz1 := hR.1
  refine ⟨⟨h, t.heap.size + 1 - ez_o G, hQ _ (by omega), hR.kept (by omega) (by omega) hk⟩, ⟨Nat.le_trans hS.1 hz, fun y h1 h2 => (hk y (by have := hS.1; omega)).trans (hS.2.1 y h1 h2)⟩⟩
