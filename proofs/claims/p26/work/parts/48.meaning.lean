def ME (im ia : Nat) (h0 h : ez_H) (ml : Int32) (mg : Nat → Int32) (me : Nat → Int32) (md : Nat → Int32) (mt : Nat → Int32) (mr : Nat → Int32) : Prop := 0 < im ∧ h im = some (.inr (2, [.ref ia, .ref (im + 6), .int ml, .ref (im + 1), .ref (im + 2), .ref (im + 3), .ref (im + 4), .ref (im + 5)])) ∧ h (im + 1) = some (.inl (1, 40, .inl mg)) ∧ h (im + 2) = some (.inl (0, 40, .inl me)) ∧ h (im + 3) = some (.inl (0, 40, .inl md)) ∧ h (im + 4) = some (.inl (0, 40, .inl mt)) ∧ h (im + 5) = some (.inl (0, 40, .inl mr)) ∧ ∀ j : Nat, (j < im ∨ im + 6 ≤ j) → h j = h0 j
theorem ME.rb {im ia : Nat} {h0 h : ez_H} {ml : Int32} {mg me md mt mr : Nat → Int32} (hM : ME im ia h0 h ml mg me md mt mr) : ME im ia h h ml mg me md mt mr := ⟨hM.1, hM.2.1, hM.2.2.1, hM.2.2.2.1, hM.2.2.2.2.1, hM.2.2.2.2.2.1, hM.2.2.2.2.2.2.1, fun _ _ => rfl⟩
theorem ME.tr {im ia : Nat} {h0 h g : ez_H} {ml : Int32} {mg me md mt mr : Nat → Int32} {ml' : Int32} {mg' : Nat → Int32} {me' : Nat → Int32} {md' : Nat → Int32} {mt' : Nat → Int32} {mr' : Nat → Int32} (hM : ME im ia h0 h ml mg me md mt mr) (hN : ME im ia h g ml' mg' me' md' mt' mr') : ME im ia h0 g ml' mg' me' md' mt' mr' := ⟨hN.1, hN.2.1, hN.2.2.1, hN.2.2.2.1, hN.2.2.2.2.1, hN.2.2.2.2.2.1, hN.2.2.2.2.2.2.1, fun j hj => (hN.2.2.2.2.2.2.2 j hj).trans (hM.2.2.2.2.2.2.2 j hj)⟩
theorem ME.fr {im ia : Nat} {h0 h : ez_H} {ml : Int32} {mg me md mt mr : Nat → Int32} (hM : ME im ia h0 h ml mg me md mt mr) : ∀ j : Nat, (j < im ∨ im + 6 ≤ j) → h j = h0 j := hM.2.2.2.2.2.2.2
theorem pME_ml {G : ez_G} {M : ez_M} {d : Nat} {Q : ez_Q} {h0 h : ez_H} {n mc ms pc q idx : Nat} {ls : List (Option Value)} {st9 : List Value} {im ia : Nat} {ml : Int32} {mg me md mt mr : Nat → Int32} {x : Int32} (hd : decode M.2.1 pc = .ok (.putfield idx, 3)) (hf : ez_fl M.1.cls idx 2 2) (hM : ME im ia h0 h ml mg me md mt mr) (hq : pc + 3 = q) (K : ∀ g, ME im ia h0 g x mg me md mt mr → E G M d Q g n mc ms q ls st9) : E G M d Q h n mc ms pc ls (.int x :: .ref im :: st9) := ez_put0 hd hf rfl (fun _ => rfl) (fun _ => rfl) hM.1 hM.2.1 (by show 2 < 8; decide) hq (K _ ⟨hM.1, zu_same, zu_keep (by omega) hM.2.2.1, zu_keep (by omega) hM.2.2.2.1, zu_keep (by omega) hM.2.2.2.2.1, zu_keep (by omega) hM.2.2.2.2.2.1, zu_keep (by omega) hM.2.2.2.2.2.2.1, fun j hj => zu_fr (by omega) (hM.2.2.2.2.2.2.2 j hj)⟩)
theorem sME_mg {G : ez_G} {M : ez_M} {d : Nat} {Q : ez_Q} {h0 h : ez_H} {n mc ms pc q : Nat} {ls : List (Option Value)} {st9 : List Value} {im ia : Nat} {ml : Int32} {mg me md mt mr : Nat → Int32} {j c9 : Nat} {i x : Int32} (hd : decode M.2.1 pc = .ok (.castore, 1)) (hM : ME im ia h0 h ml mg me md mt mr) (hi : i = nI j) (hj : j < 40) (hx : x = nI c9) (hx2 : c9 < 65536) (hq : pc + 1 = q) (K : ∀ g, ME im ia h0 g ml (upd mg j x) me md mt mr → E G M d Q g n mc ms q ls st9) : E G M d Q h n mc ms pc ls (.int x :: .int i :: .ref (im + 1) :: st9) := ez_cast hd (by have := hM.1; omega) hM.2.2.1 hi hj (by decide) hx hx2 hq (K _ ⟨hM.1, zu_keep (by omega) hM.2.1, zu_same, zu_keep (by omega) hM.2.2.2.1, zu_keep (by omega) hM.2.2.2.2.1, zu_keep (by omega) hM.2.2.2.2.2.1, zu_keep (by omega) hM.2.2.2.2.2.2.1, fun j hj => zu_fr (by omega) (hM.2.2.2.2.2.2.2 j hj)⟩)
theorem sME_me {G : ez_G} {M : ez_M} {d : Nat} {Q : ez_Q} {h0 h : ez_H} {n mc ms pc q : Nat} {ls : List (Option Value)} {st9 : List Value} {im ia : Nat} {ml : Int32} {mg me md mt mr : Nat → Int32} {j : Nat} {i x : Int32} (hd : decode M.2.1 pc = .ok (.iastore, 1)) (hM : ME im ia h0 h ml mg me md mt mr) (hi : i = nI j) (hj : j < 40) (hq : pc + 1 = q) (K : ∀ g, ME im ia h0 g ml mg (upd me j x) md mt mr → E G M d Q g n mc ms q ls st9) : E G M d Q h n mc ms pc ls (.int x :: .int i :: .ref (im + 2) :: st9) := ez_iast hd (by have := hM.1; omega) hM.2.2.2.1 hi hj (by decide) hq (K _ ⟨hM.1, zu_keep (by omega) hM.2.1, zu_keep (by omega) hM.2.2.1, zu_same, zu_keep (by omega) hM.2.2.2.2.1, zu_keep (by omega) hM.2.2.2.2.2.1, zu_keep (by omega) hM.2.2.2.2.2.2.1, fun j hj => zu_fr (by omega) (hM.2.2.2.2.2.2.2 j hj)⟩)
theorem sME_md {G : ez_G} {M : ez_M} {d : Nat} {Q : ez_Q} {h0 h : ez_H} {n mc ms pc q : Nat} {ls : List (Option Value)} {st9 : List Value} {im ia : Nat} {ml : Int32} {mg me md mt mr : Nat → Int32} {j : Nat} {i x : Int32} (hd : decode M.2.1 pc = .ok (.iastore, 1)) (hM : ME im ia h0 h ml mg me md mt mr) (hi : i = nI j) (hj : j < 40) (hq : pc + 1 = q) (K : ∀ g, ME im ia h0 g ml mg me (upd md j x) mt mr → E G M d Q g n mc ms q ls st9) : E G M d Q h n mc ms pc ls (.int x :: .int i :: .ref (im + 3) :: st9) := ez_iast hd (by have := hM.1; omega) hM.2.2.2.2.1 hi hj (by decide) hq (K _ ⟨hM.1, zu_keep (by omega) hM.2.1, zu_keep (by omega) hM.2.2.1, zu_keep (by omega) hM.2.2.2.1, zu_same, zu_keep (by omega) hM.2.2.2.2.2.1, zu_keep (by omega) hM.2.2.2.2.2.2.1, fun j hj => zu_fr (by omega) (hM.2.2.2.2.2.2.2 j hj)⟩)
theorem sME_mt {G : ez_G} {M : ez_M} {d : Nat} {Q : ez_Q} {h0 h : ez_H} {n mc ms pc q : Nat} {ls : List (Option Value)} {st9 : List Value} {im ia : Nat} {ml : Int32} {mg me md mt mr : Nat → Int32} {j : Nat} {i x : Int32} (hd : decode M.2.1 pc = .ok (.iastore, 1)) (hM : ME im ia h0 h ml mg me md mt mr) (hi : i = nI j) (hj : j < 40) (hq : pc + 1 = q) (K : ∀ g, ME im ia h0 g ml mg me md (upd mt j x) mr → E G M d Q g n mc ms q ls st9) : E G M d Q h n mc ms pc ls (.int x :: .int i :: .ref (im + 4) :: st9) := ez_iast hd (by have := hM.1; omega) hM.2.2.2.2.2.1 hi hj (by decide) hq (K _ ⟨hM.1, zu_keep (by omega) hM.2.1, zu_keep (by omega) hM.2.2.1, zu_keep (by omega) hM.2.2.2.1, zu_keep (by omega) hM.2.2.2.2.1, zu_same, zu_keep (by omega) hM.2.2.2.2.2.2.1, fun j hj => zu_fr (by omega) (hM.2.2.2.2.2.2.2 j hj)⟩)
theorem sME_mr {G : ez_G} {M : ez_M} {d : Nat} {Q : ez_Q} {h0 h : ez_H} {n mc ms pc q : Nat} {ls : List (Option Value)} {st9 : List Value} {im ia : Nat} {ml : Int32} {mg me md mt mr : Nat → Int32} {j : Nat} {i x : Int32} (hd : decode M.2.1 pc = .ok (.iastore, 1)) (hM : ME im ia h0 h ml mg me md mt mr) (hi : i = nI j) (hj : j < 40) (hq : pc + 1 = q) (K : ∀ g, ME im ia h0 g ml mg me md mt (upd mr j x) → E G M d Q g n mc ms q ls st9) : E G M d Q h n mc ms pc ls (.int x :: .int i :: .ref (im + 5) :: st9) := ez_iast hd (by have := hM.1; omega) hM.2.2.2.2.2.2.1 hi hj (by decide) hq (K _ ⟨hM.1, zu_keep (by omega) hM.2.1, zu_keep (by omega) hM.2.2.1, zu_keep (by omega) hM.2.2.2.1, zu_keep (by omega) hM.2.2.2.2.1, zu_keep (by omega) hM.2.2.2.2.2.1, zu_same, fun j hj => zu_fr (by omega) (hM.2.2.2.2.2.2.2 j hj)⟩)
def MF (im ia : Nat) (h0 h : ez_H) (ml : Int32) (mg : Nat → Int32) (me : Nat → Int32) (md : Nat → Int32) (mt : Nat → Int32) (mr : Nat → Int32) (al : Int32) (li : Int32) (ro : Int32) (go : Int32) : Prop := 0 < im ∧ h im = some (.inr (2, [.ref ia, .ref (im + 6), .int ml, .ref (im + 1), .ref (im + 2), .ref (im + 3), .ref (im + 4), .ref (im + 5)])) ∧ h (im + 1) = some (.inl (1, 40, .inl mg)) ∧ h (im + 2) = some (.inl (0, 40, .inl me)) ∧ h (im + 3) = some (.inl (0, 40, .inl md)) ∧ h (im + 4) = some (.inl (0, 40, .inl mt)) ∧ h (im + 5) = some (.inl (0, 40, .inl mr)) ∧ h (im + 6) = some (.inr (0, [.ref ia, .int al, .int li, .int ro, .int go])) ∧ ∀ j : Nat, (j < im ∨ im + 7 ≤ j) → h j = h0 j
theorem MF.rb {im ia : Nat} {h0 h : ez_H} {ml al li ro go : Int32} {mg me md mt mr : Nat → Int32} (hM : MF im ia h0 h ml mg me md mt mr al li ro go) : MF im ia h h ml mg me md mt mr al li ro go := ⟨hM.1, hM.2.1, hM.2.2.1, hM.2.2.2.1, hM.2.2.2.2.1, hM.2.2.2.2.2.1, hM.2.2.2.2.2.2.1, hM.2.2.2.2.2.2.2.1, fun _ _ => rfl⟩
theorem MF.tr {im ia : Nat} {h0 h g : ez_H} {ml al li ro go : Int32} {mg me md mt mr : Nat → Int32} {ml' : Int32} {mg' : Nat → Int32} {me' : Nat → Int32} {md' : Nat → Int32} {mt' : Nat → Int32} {mr' : Nat → Int32} {al' : Int32} {li' : Int32} {ro' : Int32} {go' : Int32} (hM : MF im ia h0 h ml mg me md mt mr al li ro go) (hN : MF im ia h g ml' mg' me' md' mt' mr' al' li' ro' go') : MF im ia h0 g ml' mg' me' md' mt' mr' al' li' ro' go' := ⟨hN.1, hN.2.1, hN.2.2.1, hN.2.2.2.1, hN.2.2.2.2.1, hN.2.2.2.2.2.1, hN.2.2.2.2.2.2.1, hN.2.2.2.2.2.2.2.1, fun j hj => (hN.2.2.2.2.2.2.2.2 j hj).trans (hM.2.2.2.2.2.2.2.2 j hj)⟩
theorem MF.fr {im ia : Nat} {h0 h : ez_H} {ml al li ro go : Int32} {mg me md mt mr : Nat → Int32} (hM : MF im ia h0 h ml mg me md mt mr al li ro go) : ∀ j : Nat, (j < im ∨ im + 7 ≤ j) → h j = h0 j := hM.2.2.2.2.2.2.2.2
theorem pMF_ml {G : ez_G} {M : ez_M} {d : Nat} {Q : ez_Q} {h0 h : ez_H} {n mc ms pc q idx : Nat} {ls : List (Option Value)} {st9 : List Value} {im ia : Nat} {ml al li ro go : Int32} {mg me md mt mr : Nat → Int32} {x : Int32} (hd : decode M.2.1 pc = .ok (.putfield idx, 3)) (hf : ez_fl M.1.cls idx 2 2) (hM : MF im ia h0 h ml mg me md mt mr al li ro go) (hq : pc + 3 = q) (K : ∀ g, MF im ia h0 g x mg me md mt mr al li ro go → E G M d Q g n mc ms q ls st9) : E G M d Q h n mc ms pc ls (.int x :: .ref im :: st9) := ez_put0 hd hf rfl (fun _ => rfl) (fun _ => rfl) hM.1 hM.2.1 (by show 2 < 8; decide) hq (K _ ⟨hM.1, zu_same, zu_keep (by omega) hM.2.2.1, zu_keep (by omega) hM.2.2.2.1, zu_keep (by omega) hM.2.2.2.2.1, zu_keep (by omega) hM.2.2.2.2.2.1, zu_keep (by omega) hM.2.2.2.2.2.2.1, zu_keep (by omega) hM.2.2.2.2.2.2.2.1, fun j hj => zu_fr (by omega) (hM.2.2.2.2.2.2.2.2 j hj)⟩)
theorem sMF_mg {G : ez_G} {M : ez_M} {d : Nat} {Q : ez_Q} {h0 h : ez_H} {n mc ms pc q : Nat} {ls : List (Option Value)} {st9 : List Value} {im ia : Nat} {ml al li ro go : Int32} {mg me md mt mr : Nat → Int32} {j c9 : Nat} {i x : Int32} (hd : decode M.2.1 pc = .ok (.castore, 1)) (hM : MF im ia h0 h ml mg me md mt mr al li ro go) (hi : i = nI j) (hj : j < 40) (hx : x = nI c9) (hx2 : c9 < 65536) (hq : pc + 1 = q) (K : ∀ g, MF im ia h0 g ml (upd mg j x) me md mt mr al li ro go → E G M d Q g n mc ms q ls st9) : E G M d Q h n mc ms pc ls (.int x :: .int i :: .ref (im + 1) :: st9) := ez_cast hd (by have := hM.1; omega) hM.2.2.1 hi hj (by decide) hx hx2 hq (K _ ⟨hM.1, zu_keep (by omega) hM.2.1, zu_same, zu_keep (by omega) hM.2.2.2.1, zu_keep (by omega) hM.2.2.2.2.1, zu_keep (by omega) hM.2.2.2.2.2.1, zu_keep (by omega) hM.2.2.2.2.2.2.1, zu_keep (by omega) hM.2.2.2.2.2.2.2.1, fun j hj => zu_fr (by omega) (hM.2.2.2.2.2.2.2.2 j hj)⟩)
theorem sMF_me {G : ez_G} {M : ez_M} {d : Nat} {Q : ez_Q} {h0 h : ez_H} {n mc ms pc q : Nat} {ls : List (Option Value)} {st9 : List Value} {im ia : Nat} {ml al li ro go : Int32} {mg me md mt mr : Nat → Int32} {j : Nat} {i x : Int32} (hd : decode M.2.1 pc = .ok (.iastore, 1)) (hM : MF im ia h0 h ml mg me md mt mr al li ro go) (hi : i = nI j) (hj : j < 40) (hq : pc + 1 = q) (K : ∀ g, MF im ia h0 g ml mg (upd me j x) md mt mr al li ro go → E G M d Q g n mc ms q ls st9) : E G M d Q h n mc ms pc ls (.int x :: .int i :: .ref (im + 2) :: st9) := ez_iast hd (by have := hM.1; omega) hM.2.2.2.1 hi hj (by decide) hq (K _ ⟨hM.1, zu_keep (by omega) hM.2.1, zu_keep (by omega) hM.2.2.1, zu_same, zu_keep (by omega) hM.2.2.2.2.1, zu_keep (by omega) hM.2.2.2.2.2.1, zu_keep (by omega) hM.2.2.2.2.2.2.1, zu_keep (by omega) hM.2.2.2.2.2.2.2.1, fun j hj => zu_fr (by omega) (hM.2.2.2.2.2.2.2.2 j hj)⟩)
theorem sMF_md {G : ez_G} {M : ez_M} {d : Nat} {Q : ez_Q} {h0 h : ez_H} {n mc ms pc q : Nat} {ls : List (Option Value)} {st9 : List Value} {im ia : Nat} {ml al li ro go : Int32} {mg me md mt mr : Nat → Int32} {j : Nat} {i x : Int32} (hd : decode M.2.1 pc = .ok (.iastore, 1)) (hM : MF im ia h0 h ml mg me md mt mr al li ro go) (hi : i = nI j) (hj : j < 40) (hq : pc + 1 = q) (K : ∀ g, MF im ia h0 g ml mg me (upd md j x) mt mr al li ro go → E G M d Q g n mc ms q ls st9) : E G M d Q h n mc ms pc ls (.int x :: .int i :: .ref (im + 3) :: st9) := ez_iast hd (by have := hM.1; omega) hM.2.2.2.2.1 hi hj (by decide) hq (K _ ⟨hM.1, zu_keep (by omega) hM.2.1, zu_keep (by omega) hM.2.2.1, zu_keep (by omega) hM.2.2.2.1, zu_same, zu_keep (by omega) hM.2.2.2.2.2.1, zu_keep (by omega) hM.2.2.2.2.2.2.1, zu_keep (by omega) hM.2.2.2.2.2.2.2.1, fun j hj => zu_fr (by omega) (hM.2.2.2.2.2.2.2.2 j hj)⟩)
theorem sMF_mt {G : ez_G} {M : ez_M} {d : Nat} {Q : ez_Q} {h0 h : ez_H} {n mc ms pc q : Nat} {ls : List (Option Value)} {st9 : List Value} {im ia : Nat} {ml al li ro go : Int32} {mg me md mt mr : Nat → Int32} {j : Nat} {i x : Int32} (hd : decode M.2.1 pc = .ok (.iastore, 1)) (hM : MF im ia h0 h ml mg me md mt mr al li ro go) (hi : i = nI j) (hj : j < 40) (hq : pc + 1 = q) (K : ∀ g, MF im ia h0 g ml mg me md (upd mt j x) mr al li ro go → E G M d Q g n mc ms q ls st9) : E G M d Q h n mc ms pc ls (.int x :: .int i :: .ref (im + 4) :: st9) := ez_iast hd (by have := hM.1; omega) hM.2.2.2.2.2.1 hi hj (by decide) hq (K _ ⟨hM.1, zu_keep (by omega) hM.2.1, zu_keep (by omega) hM.2.2.1, zu_keep (by omega) hM.2.2.2.1, zu_keep (by omega) hM.2.2.2.2.1, zu_same, zu_keep (by omega) hM.2.2.2.2.2.2.1, zu_keep (by omega) hM.2.2.2.2.2.2.2.1, fun j hj => zu_fr (by omega) (hM.2.2.2.2.2.2.2.2 j hj)⟩)
theorem sMF_mr {G : ez_G} {M : ez_M} {d : Nat} {Q : ez_Q} {h0 h : ez_H} {n mc ms pc q : Nat} {ls : List (Option Value)} {st9 : List Value} {im ia : Nat} {ml al li ro go : Int32} {mg me md mt mr : Nat → Int32} {j : Nat} {i x : Int32} (hd : decode M.2.1 pc = .ok (.iastore, 1)) (hM : MF im ia h0 h ml mg me md mt mr al li ro go) (hi : i = nI j) (hj : j < 40) (hq : pc + 1 = q) (K : ∀ g, MF im ia h0 g ml mg me md mt (upd mr j x) al li ro go → E G M d Q g n mc ms q ls st9) : E G M d Q h n mc ms pc ls (.int x :: .int i :: .ref (im + 5) :: st9) := ez_iast hd (by have := hM.1; omega) hM.2.2.2.2.2.2.1 hi hj (by decide) hq (K _ ⟨hM.1, zu_keep (by omega) hM.2.1, zu_keep (by omega) hM.2.2.1, zu_keep (by omega) hM.2.2.2.1, zu_keep (by omega) hM.2.2.2.2.1, zu_keep (by omega) hM.2.2.2.2.2.1, zu_same, zu_keep (by omega) hM.2.2.2.2.2.2.2.1, fun j hj => zu_fr (by omega) (hM.2.2.2.2.2.2.2.2 j hj)⟩)
theorem pMF_al {G : ez_G} {M : ez_M} {d : Nat} {Q : ez_Q} {h0 h : ez_H} {n mc ms pc q idx : Nat} {ls : List (Option Value)} {st9 : List Value} {im ia : Nat} {ml al li ro go : Int32} {mg me md mt mr : Nat → Int32} {x : Int32} (hd : decode M.2.1 pc = .ok (.putfield idx, 3)) (hf : ez_fl M.1.cls idx 0 1) (hM : MF im ia h0 h ml mg me md mt mr al li ro go) (hq : pc + 3 = q) (K : ∀ g, MF im ia h0 g ml mg me md mt mr x li ro go → E G M d Q g n mc ms q ls st9) : E G M d Q h n mc ms pc ls (.int x :: .ref (im + 6) :: st9) := ez_put0 hd hf rfl (fun _ => rfl) (fun _ => rfl) (by have := hM.1; omega) hM.2.2.2.2.2.2.2.1 (by show 1 < 5; decide) hq (K _ ⟨hM.1, zu_keep (by omega) hM.2.1, zu_keep (by omega) hM.2.2.1, zu_keep (by omega) hM.2.2.2.1, zu_keep (by omega) hM.2.2.2.2.1, zu_keep (by omega) hM.2.2.2.2.2.1, zu_keep (by omega) hM.2.2.2.2.2.2.1, zu_same, fun j hj => zu_fr (by omega) (hM.2.2.2.2.2.2.2.2 j hj)⟩)
theorem pMF_li {G : ez_G} {M : ez_M} {d : Nat} {Q : ez_Q} {h0 h : ez_H} {n mc ms pc q idx : Nat} {ls : List (Option Value)} {st9 : List Value} {im ia : Nat} {ml al li ro go : Int32} {mg me md mt mr : Nat → Int32} {x : Int32} (hd : decode M.2.1 pc = .ok (.putfield idx, 3)) (hf : ez_fl M.1.cls idx 0 2) (hM : MF im ia h0 h ml mg me md mt mr al li ro go) (hq : pc + 3 = q) (K : ∀ g, MF im ia h0 g ml mg me md mt mr al x ro go → E G M d Q g n mc ms q ls st9) : E G M d Q h n mc ms pc ls (.int x :: .ref (im + 6) :: st9) := ez_put0 hd hf rfl (fun _ => rfl) (fun _ => rfl) (by have := hM.1; omega) hM.2.2.2.2.2.2.2.1 (by show 2 < 5; decide) hq (K _ ⟨hM.1, zu_keep (by omega) hM.2.1, zu_keep (by omega) hM.2.2.1, zu_keep (by omega) hM.2.2.2.1, zu_keep (by omega) hM.2.2.2.2.1, zu_keep (by omega) hM.2.2.2.2.2.1, zu_keep (by omega) hM.2.2.2.2.2.2.1, zu_same, fun j hj => zu_fr (by omega) (hM.2.2.2.2.2.2.2.2 j hj)⟩)
theorem pMF_ro {G : ez_G} {M : ez_M} {d : Nat} {Q : ez_Q} {h0 h : ez_H} {n mc ms pc q idx : Nat} {ls : List (Option Value)} {st9 : List Value} {im ia : Nat} {ml al li ro go : Int32} {mg me md mt mr : Nat → Int32} {x : Int32} (hd : decode M.2.1 pc = .ok (.putfield idx, 3)) (hf : ez_fl M.1.cls idx 0 3) (hM : MF im ia h0 h ml mg me md mt mr al li ro go) (hq : pc + 3 = q) (K : ∀ g, MF im ia h0 g ml mg me md mt mr al li x go → E G M d Q g n mc ms q ls st9) : E G M d Q h n mc ms pc ls (.int x :: .ref (im + 6) :: st9) := ez_put0 hd hf rfl (fun _ => rfl) (fun _ => rfl) (by have := hM.1; omega) hM.2.2.2.2.2.2.2.1 (by show 3 < 5; decide) hq (K _ ⟨hM.1, zu_keep (by omega) hM.2.1, zu_keep (by omega) hM.2.2.1, zu_keep (by omega) hM.2.2.2.1, zu_keep (by omega) hM.2.2.2.2.1, zu_keep (by omega) hM.2.2.2.2.2.1, zu_keep (by omega) hM.2.2.2.2.2.2.1, zu_same, fun j hj => zu_fr (by omega) (hM.2.2.2.2.2.2.2.2 j hj)⟩)
theorem pMF_go {G : ez_G} {M : ez_M} {d : Nat} {Q : ez_Q} {h0 h : ez_H} {n mc ms pc q idx : Nat} {ls : List (Option Value)} {st9 : List Value} {im ia : Nat} {ml al li ro go : Int32} {mg me md mt mr : Nat → Int32} {x : Int32} (hd : decode M.2.1 pc = .ok (.putfield idx, 3)) (hf : ez_fl M.1.cls idx 0 4) (hM : MF im ia h0 h ml mg me md mt mr al li ro go) (hq : pc + 3 = q) (K : ∀ g, MF im ia h0 g ml mg me md mt mr al li ro x → E G M d Q g n mc ms q ls st9) : E G M d Q h n mc ms pc ls (.int x :: .ref (im + 6) :: st9) := ez_put0 hd hf rfl (fun _ => rfl) (fun _ => rfl) (by have := hM.1; omega) hM.2.2.2.2.2.2.2.1 (by show 4 < 5; decide) hq (K _ ⟨hM.1, zu_keep (by omega) hM.2.1, zu_keep (by omega) hM.2.2.1, zu_keep (by omega) hM.2.2.2.1, zu_keep (by omega) hM.2.2.2.2.1, zu_keep (by omega) hM.2.2.2.2.2.1, zu_keep (by omega) hM.2.2.2.2.2.2.1, zu_same, fun j hj => zu_fr (by omega) (hM.2.2.2.2.2.2.2.2 j hj)⟩)
theorem MF.me {im ia : Nat} {h0 h : ez_H} {ml al li ro go : Int32} {mg me md mt mr : Nat → Int32} (hM : MF im ia h0 h ml mg me md mt mr al li ro go) : ME im ia h h ml mg me md mt mr := ⟨hM.1, hM.2.1, hM.2.2.1, hM.2.2.2.1, hM.2.2.2.2.1, hM.2.2.2.2.2.1, hM.2.2.2.2.2.2.1, fun _ _ => rfl⟩
theorem MF.fw {im ia : Nat} {h0 h : ez_H} {ml al li ro go : Int32} {mg me md mt mr : Nat → Int32} (hM : MF im ia h0 h ml mg me md mt mr al li ro go) : FW (im + 6) ia h h al li ro go := ⟨Nat.succ_pos _, hM.2.2.2.2.2.2.2.1, fun _ _ => rfl⟩
theorem MF.set_me {im ia : Nat} {h0 h g : ez_H} {ml al li ro go : Int32} {mg me md mt mr : Nat → Int32} {ml' : Int32} {mg' : Nat → Int32} {me' : Nat → Int32} {md' : Nat → Int32} {mt' : Nat → Int32} {mr' : Nat → Int32} (hM : MF im ia h0 h ml mg me md mt mr al li ro go) (hN : ME im ia h g ml' mg' me' md' mt' mr') : MF im ia h0 g ml' mg' me' md' mt' mr' al li ro go := ⟨hN.1, hN.2.1, hN.2.2.1, hN.2.2.2.1, hN.2.2.2.2.1, hN.2.2.2.2.2.1, hN.2.2.2.2.2.2.1, (hN.fr _ (by omega)).trans hM.2.2.2.2.2.2.2.1, fun j hj => (hN.fr j (by omega)).trans (hM.fr j hj)⟩
theorem MF.set_fw {im ia : Nat} {h0 h g : ez_H} {ml al li ro go : Int32} {mg me md mt mr : Nat → Int32} {al' li' ro' go' : Int32} (hM : MF im ia h0 h ml mg me md mt mr al li ro go) (hN : FW (im + 6) ia h g al' li' ro' go') : MF im ia h0 g ml mg me md mt mr al' li' ro' go' := ⟨hM.1, (hN.fr _ (by omega)).trans hM.2.1, (hN.fr _ (by omega)).trans hM.2.2.1, (hN.fr _ (by omega)).trans hM.2.2.2.1, (hN.fr _ (by omega)).trans hM.2.2.2.2.1, (hN.fr _ (by omega)).trans hM.2.2.2.2.2.1, (hN.fr _ (by omega)).trans hM.2.2.2.2.2.2.1, hN.2.1, fun j hj => (hN.fr j (by omega)).trans (hM.fr j hj)⟩
theorem ME.to {im ia : Nat} {h0 h g : ez_H} {ml : Int32} {mg me md mt mr : Nat → Int32} (hM : ME im ia h0 h ml mg me md mt mr) (hg : ∀ j, im ≤ j → j < im + 6 → g j = h j) : ME im ia g g ml mg me md mt mr := ⟨hM.1, (hg _ (by omega) (by omega)).trans hM.2.1, (hg _ (by omega) (by omega)).trans hM.2.2.1, (hg _ (by omega) (by omega)).trans hM.2.2.2.1, (hg _ (by omega) (by omega)).trans hM.2.2.2.2.1, (hg _ (by omega) (by omega)).trans hM.2.2.2.2.2.1, (hg _ (by omega) (by omega)).trans hM.2.2.2.2.2.2.1, fun _ _ => rfl⟩
theorem MF.to {im ia : Nat} {h0 h g : ez_H} {ml al li ro go : Int32} {mg me md mt mr : Nat → Int32} (hM : MF im ia h0 h ml mg me md mt mr al li ro go) (hg : ∀ j, im ≤ j → j < im + 7 → g j = h j) : MF im ia g g ml mg me md mt mr al li ro go := ⟨hM.1, (hg _ (by omega) (by omega)).trans hM.2.1, (hg _ (by omega) (by omega)).trans hM.2.2.1, (hg _ (by omega) (by omega)).trans hM.2.2.2.1, (hg _ (by omega) (by omega)).trans hM.2.2.2.2.1, (hg _ (by omega) (by omega)).trans hM.2.2.2.2.2.1, (hg _ (by omega) (by omega)).trans hM.2.2.2.2.2.2.1, (hg _ (by omega) (by omega)).trans hM.2.2.2.2.2.2.2.1, fun _ _ => rfl⟩
def SGm (m : Nat) (s : Nat → Nat) (k : Nat) (mg : Nat → Int32) : Prop := ∀ j, k ≤ j → j < m → mg j = nI (s j)
def TLD (m : Nat) (s : Nat → Nat) (k : Nat) (me md : Nat → Int32) : Prop := ∀ j, k ≤ j → j < m → (wayB (s j) = true → me j = -1) ∧ (wayB (s j) = false → me j = nI (leW m s j) ∧ md j = nI (deW m s j))
def TSR (T : Nat → Nat) (n f : Nat) (L : Nat → Nat) (m : Nat) (s : Nat → Nat) (k : Nat) (mt mr : Nat → Int32) : Prop := ∀ j, k ≤ j → j < m → (wayB (s j) = true → mt j = -1 ∧ mr j = -1) ∧ (wayB (s j) = false → mt j = nI (seW T n f L m s j) ∧ mr j = nI (roW T n f L m s j))
section
variable {T : Nat → Nat} {n f : Nat} {L : Nat → Nat} {m : Nat} {s : Nat → Nat} {k : Nat} {mg me md mt mr : Nat → Int32}
theorem SGm.up (h : SGm m s (k + 1) mg) : SGm m s k (upd mg k (nI (s k))) := fun j h1 h2 => by
  by_cases e : j = k
  · rw [e, up_eq]
  · rw [up_ne _ _ e]; exact h j (by omega) h2
theorem TLD.up (h : TLD m s (k + 1) me md) : TLD m s k (upd me k (nI (leW m s k))) (upd md k (nI (deW m s k))) ∨ wayB (s k) = true := by
  cases hw : wayB (s k) with
  | true => exact Or.inr rfl
  | false =>
    refine Or.inl (fun j h1 h2 => ?_)
    by_cases e : j = k
    · subst e
      exact ⟨fun a => absurd (hw.symm.trans a) (by decide), fun _ => ⟨up_eq _ _ _, up_eq _ _ _⟩⟩
    · rw [up_ne _ _ e, up_ne _ _ e]; exact h j (by omega) h2
theorem TLD.upn (h : TLD m s (k + 1) me md) (hw : wayB (s k) = false) : TLD m s k (upd me k (nI (leW m s k))) (upd md k (nI (deW m s k))) := h.up.resolve_right (by rw [hw]; decide)
theorem TLD.upw (h : TLD m s (k + 1) me md) (hw : wayB (s k) = true) (x : Int32) : TLD m s k (upd me k (-1)) (upd md k x) := fun j h1 h2 => by
  by_cases e : j = k
  · subst e
    exact ⟨fun _ => up_eq _ _ _, fun a => absurd (hw.symm.trans a) (by decide)⟩
  · rw [up_ne _ _ e, up_ne _ _ e]; exact h j (by omega) h2
theorem TSR.up (h : TSR T n f L m s (k + 1) mt mr) (hw : wayB (s k) = false) : TSR T n f L m s k (upd mt k (nI (seW T n f L m s k))) (upd mr k (nI (roW T n f L m s k))) := fun j h1 h2 => by
  by_cases e : j = k
  · subst e
    exact ⟨fun a => absurd (hw.symm.trans a) (by decide), fun _ => ⟨up_eq _ _ _, up_eq _ _ _⟩⟩
  · rw [up_ne _ _ e, up_ne _ _ e]; exact h j (by omega) h2
theorem TSR.upw (h : TSR T n f L m s (k + 1) mt mr) (hw : wayB (s k) = true) : TSR T n f L m s k (upd mt k (-1)) (upd mr k (-1)) := fun j h1 h2 => by
  by_cases e : j = k
  · subst e
    exact ⟨fun _ => ⟨up_eq _ _ _, up_eq _ _ _⟩, fun a => absurd (hw.symm.trans a) (by decide)⟩
  · rw [up_ne _ _ e, up_ne _ _ e]; exact h j (by omega) h2
theorem TSR.rwE (h : TSR T n f L m s 0 mt mr) {i : Nat} (hi : i < m) : mr i = rwI T n f L m s i := by
  cases hw : wayB (s i) with
  | true => rw [rwI, if_pos hw]; exact ((h i (Nat.zero_le i) hi).1 hw).2
  | false => rw [rwI, if_neg (by rw [hw]; decide)]; exact ((h i (Nat.zero_le i) hi).2 hw).2
theorem rw_max {i : Nat} : nI (roN T n f L m s i) + (if nI 0 < rwI T n f L m s i then rwI T n f L m s i else nI 0) = nI (roN T n f L m s (i + 1)) := by
  by_cases h : nI 0 < rwI T n f L m s i
  · rw [if_pos h]
    refine rw_t (fun a => ?_)
    simp only [Int32.le_iff_toInt_le, Int32.lt_iff_toInt_lt] at h a
    have : (nI 0).toInt = (0 : Int32).toInt := rfl
    omega
  · rw [if_neg h]
    have h2 : rwI T n f L m s i ≤ 0 := by
      simp only [Int32.le_iff_toInt_le, Int32.lt_iff_toInt_lt] at h ⊢
      have : (nI 0).toInt = (0 : Int32).toInt := rfl
      omega
    rw [nI_add]
    exact congrArg nI (rw_f h2)
end
def e3 {α : Type} (a b c : α) : Nat → α
  | 0 => a
  | 1 => b
  | _ => c
def dmx (F : Nat → Nat) : Nat → Nat
  | 0 => 0
  | k + 1 => if dmx F k < F k then F k else dmx F k
theorem dmx_1 (F : Nat → Nat) : dmx F 1 = F 0 := by
  show (if 0 < F 0 then F 0 else 0) = F 0
  split <;> omega
theorem dmx_2 (F : Nat → Nat) : dmx F 2 = if F 0 < F 1 then F 1 else F 0 := by
  show (if dmx F 1 < F 1 then F 1 else dmx F 1) = _
  rw [dmx_1]
theorem dmx_le {F : Nat → Nat} {p : Nat} (h : ∀ k, k < p → F k ≤ 40) : ∀ k, k ≤ p → dmx F k ≤ 40 := by
  intro k
  induction k with
  | zero => intro _; exact Nat.zero_le _
  | succ k ih =>
    intro hk
    rw [dmx]
    split
    · exact h k (by omega)
    · exact ih (by omega)
theorem dmx_s {F : Nat → Nat} {k : Nat} (h1 : dmx F k ≤ 40) (h2 : F k ≤ 40) : (if nI (dmx F k) < nI (F k) then nI (F k) else nI (dmx F k)) = nI (dmx F (k + 1)) := by
  rw [dmx]
  by_cases h : dmx F k < F k
  · rw [if_pos ((nI_ltI (by omega) (by omega)).mpr h), if_pos h]
  · rw [if_neg (fun a => h ((nI_ltI (by omega) (by omega)).mp a)), if_neg h]
theorem nI_m1 {x : Nat} (h : x < 2 ^ 31) : ¬ nI x = -1 := fun e => by
  have h1 := congrArg Int32.toInt e
  rw [nI_toInt h] at h1
  have h2 : (-1 : Int32).toInt = -1 := by decide
  omega
section
variable {T : Nat → Nat} {n f : Nat} {L : Nat → Nat} {a b c : Nat}
theorem someS_i (hk : c = 88 ∨ c = 70 ∨ c = 71 ∨ c = 85) : someS T n f L c a (if c = 85 then b else 0) = someS T n f L c a b := by
  rcases hk with rfl | rfl | rfl | rfl
  · rw [someS_88, someS_88]
  · rw [someS_70, someS_70]
  · rw [someS_71, someS_71]
  · rw [if_pos rfl]
theorem someR_i (hk : c = 88 ∨ c = 70 ∨ c = 71 ∨ c = 85) : someR T n f L c a (if c = 85 then b else 0) = someR T n f L c a b := by
  rcases hk with rfl | rfl | rfl | rfl
  · rw [someR_88, someR_88]
  · rw [someR_70, someR_70]
  · rw [someR_71, someR_71]
  · rw [if_pos rfl]
theorem evS_i (hk : c = 88 ∨ c = 70 ∨ c = 71 ∨ c = 85) : evryS T n f L c a (if c = 85 then b else 0) = ndN (2 ^ n - 1) (evX T n f L c a b) := by
  rw [evX_S]
  rcases hk with rfl | rfl | rfl | rfl
  · rw [evX_88, evX_88]
  · rw [evX_70, evX_70]
  · rw [evX_71, evX_71]
  · rw [if_pos rfl]
theorem evR_i (hk : c = 88 ∨ c = 70 ∨ c = 71 ∨ c = 85) : evryR T n f L c a (if c = 85 then b else 0) = evryR T n f L c a b := by
  rcases hk with rfl | rfl | rfl | rfl
  · rw [evR_88, evR_88]
  · rw [evR_70, evR_70]
  · rw [evR_71, evR_71]
  · rw [if_pos rfl]
end
/-- what the Meaning at im knows: the wish w in a state -/
def MG (im ia : Nat) (h0 h : ez_H) (T : Nat → Nat) (n f : Nat) (L ln : Nat → Nat) (sg : Nat → Nat → Nat) (w : Nat) : Prop := ∃ (mg me md mt mr : Nat → Int32) (r : Nat), MF im ia h0 h (nI (ln w)) mg me md mt mr (nI (2 ^ n - 1)) (nI (lvN T n f L)) (nI r) (nI (goW n f L)) ∧ SGm (ln w) (sg w) 0 mg ∧ TLD (ln w) (sg w) 0 me md ∧ TSR T n f L (ln w) (sg w) 0 mt mr
/-- some Meaning at im -/
def MX (im ia : Nat) (h : ez_H) : Prop := ∃ (ml : Int32) (mg me md mt mr : Nat → Int32) (al li ro go : Nat), MF im ia h h ml mg me md mt mr (nI al) (nI li) (nI ro) (nI go)
theorem MG.x {im ia : Nat} {h0 h : ez_H} {T : Nat → Nat} {n f : Nat} {L ln : Nat → Nat} {sg : Nat → Nat → Nat} {w : Nat} (hG : MG im ia h0 h T n f L ln sg w) : MX im ia h := by
  obtain ⟨mg, me, md, mt, mr, r, hM, -⟩ := hG
  exact ⟨_, _, _, _, _, _, _, _, _, _, hM.rb⟩
theorem MG.fr {im ia : Nat} {h0 h : ez_H} {T : Nat → Nat} {n f : Nat} {L ln : Nat → Nat} {sg : Nat → Nat → Nat} {w : Nat} (hG : MG im ia h0 h T n f L ln sg w) : ∀ j, (j < im ∨ im + 7 ≤ j) → h j = h0 j := by
  obtain ⟨mg, me, md, mt, mr, r, hM, -⟩ := hG
  exact hM.fr
theorem MX.to {im ia : Nat} {h g : ez_H} (hX : MX im ia h) (hg : ∀ j, im ≤ j → j < im + 7 → g j = h j) : MX im ia g := by
  obtain ⟨ml, mg, me, md, mt, mr, al, li, ro, go, hM⟩ := hX
  exact ⟨ml, mg, me, md, mt, mr, al, li, ro, go, hM.to hg⟩
theorem MG.to {im ia : Nat} {h0 h g : ez_H} {T : Nat → Nat} {n f : Nat} {L ln : Nat → Nat} {sg : Nat → Nat → Nat} {w : Nat} (hG : MG im ia h0 h T n f L ln sg w) (hg : ∀ j, im ≤ j → j < im + 7 → g j = h j) : MG im ia g g T n f L ln sg w := by
  obtain ⟨mg, me, md, mt, mr, r, hM, h1⟩ := hG
  exact ⟨mg, me, md, mt, mr, r, hM.to hg, h1⟩

