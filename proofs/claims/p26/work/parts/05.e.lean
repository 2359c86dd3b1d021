/-! THE THIN LAYER. A cell has a number (id): 0 the script, 1, 2 .. what the run makes, in the order of making. A heap is a function from ids to contents. E speaks of one method's frame at a depth d (frames left: d, words of locals left: 44 * d), with mc cells of ms slots left to make. -/
abbrev ez_G : Type := Launch × (Nat → ClassId) × (Nat → Nat → Nat) × (Nat → ClassId) × Nat × Nat × Nat × (Nat → Int32)
abbrev ez_M : Type := MethodName × ByteArray × Nat × Option FieldType × List (Nat × Nat × Nat × Nat)
abbrev ez_H : Type := Nat → Option va_E
abbrev ez_Q : Type := (Option Value ⊕ String) → ez_H → Nat → Prop
def ez_l (G : ez_G) : Launch := G.1
def ez_D (G : ez_G) : va_G := (G.2.1, G.2.2.1)
def ez_ca (G : ez_G) : Nat → ClassId := G.2.2.2.1
def ez_b (G : ez_G) : Nat := G.2.2.2.2.1
def ez_o (G : ez_G) : Nat := G.2.2.2.2.2.1
def ez_N (G : ez_G) : Nat := G.2.2.2.2.2.2.1
def ez_sc (G : ez_G) : Nat → Int32 := G.2.2.2.2.2.2.2
def ez_ad (G : ez_G) (k : Nat) : Nat := match k with
  | 0 => ez_b G
  | j + 1 => ez_o G + j
def ez_v (G : ez_G) (v : Value) : Value := match v with
  | .ref a => .ref (ez_ad G a)
  | x => x
def ez_e (G : ez_G) (e : va_E) : va_E := match e with
  | .inl (c, n, .inr (.inr (.inr (.inr f)))) => .inl (ez_ca G c, n, .inr (.inr (.inr (.inr (fun j => (f j).map (ez_ad G))))))
  | .inl (c, a) => .inl (ez_ca G c, a)
  | .inr (ci, fs) => .inr (ci, fs.map (ez_v G))
def ez_A (G : ez_G) : Nat → Prop := fun q => ez_o G ≤ q
def ez_tys (G : ez_G) : List (ClassId × FieldType) := [(ez_ca G 0, .int), (ez_ca G 1, .char), (ez_ca G 2, .byte), (ez_ca G 3, .object "FutureWishes$State")]
def ez_up (h : ez_H) (a : Nat) (e : va_E) : ez_H := fun j => if j = a then some e else h j
def ez_R (G : ez_G) (h : ez_H) (n : Nat) (H : Heap) : Prop := H.size + 1 = ez_o G + n ∧ 0 < n ∧ ez_b G < ez_o G ∧ ∀ i e, h i = some e → i < n ∧ va_at (ez_D G) vwCl (ez_ad G i, ez_e G e) H
def ez_strs : List (Nat × String) := [(284, "there is no such property"), (278, "there is no such world"), (280, "a wish is 0 to 3"), (282, "a letter is 0 to 3, or NONE"), (57, "letters are a mask from 0 to 15"), (68, "there are 10 worlds"), (113, "a character code is 33 to 126"), (118, "the buffer has 60 characters"), (134, "the buffer is not a complete wish"), (147, "there is no such wish at present, or it has 40 signs"), (161, "there is no saved state"), (186, "the wish has no such sign")]
abbrev ez_IA : String := "java/lang/IllegalArgumentException"
abbrev ez_IS : String := "java/lang/IllegalStateException"
abbrev ez_IO : String := "java/lang/IndexOutOfBoundsException"
def ez_ncs : List (String × String) := []
def ez_isn (w : Cond) : Bool := match w with
  | .castable _ _ => true
  | .declares _ => true
  | .methodLinkNest _ _ _ _ => true
  | .arrayOver (.object _) => true
  | _ => false
def ez_K (G : ez_G) (U : State) : Prop := (ez_l G).stackTraces = false ∧ va_K (ez_D G) vwCl (ez_tys G) U ∧ vx_Zq Bundle.tN "UNASSIGNED_STACK" Bundle.steD (ez_A G) U U.heap ∧ vx_Zq Bundle.tN "SUPPRESSED_SENTINEL" Bundle.listD (ez_A G) U U.heap ∧ (∀ q ∈ ez_strs, ∃ sa, vk_R RX7 q.1 q.2 sa U) ∧ (∀ q ∈ ez_ncs, va_Nc q.1 q.2 U) ∧ (∀ w ∈ lw_tbl, (goodWord w || ez_isn w) = true → va_Nw w U) ∧ va_X (ez_b G) (ez_N G) (ez_sc G) U U.heap ∧ ez_b G < ez_o G
theorem ez_isn_warm {s U : State} (hW : s.WarmedH U.vm) {w : Cond} (h : ez_isn w = true) (hz : va_Nw w s) : va_Nw w U := by
  cases w with
  | castable a b => exact va_Nw.warmC hW hz
  | declares x => exact va_Nw.warmD hW hz
  | methodLinkNest a i x b => exact va_Nw.warmM hW hz
  | arrayOver ty =>
    cases ty with
    | object C => exact va_AO.moved hW.alike hz
    | _ => exact absurd h (by simp [ez_isn])
  | _ => exact absurd h (by simp [ez_isn])
theorem va_X.lt {b L : Nat} {xs : Nat → Int32} {U : State} {H : Heap} (h : va_X b L xs U H) : b < H.size := by
  obtain ⟨scr, h1, -⟩ := h
  exact (Array.getElem?_eq_some_iff.mp h1).1
theorem ez_K.warm {G : ez_G} {s U : State} (hW : s.WarmedH U.vm) (hh : ∀ a : Nat, a < s.heap.size → ¬ ez_A G a → U.heap[a]? = s.heap[a]?) (h : ez_K G s) : ez_K G U := by
  obtain ⟨h0, h1, h2, h3, h4, h5, h6, h7, h8⟩ := h
  refine ⟨h0, va_K.moved hW.alike h1, vx_Zq.moved hW.alike (h2.kept hh), vx_Zq.moved hW.alike (h3.kept hh), fun q hq => ?_, fun q hq => va_Nc.moved hW.alike (h5 q hq), fun w hw hg => ?_, va_X.moved hW.alike (h7.kept (hh _ h7.lt (Nat.not_le.mpr h8))), h8⟩
  · obtain ⟨sa, h⟩ := h4 q hq
    exact ⟨sa, vk_R.warm hW h⟩
  · rcases Bool.or_eq_true_iff.mp hg with g | g
    · exact word_at hW (good_of_word g) (h6 w hw hg)
    · exact ez_isn_warm hW g (h6 w hw hg)
/-- a word of the tables that stays true -/
def ez_T (w : Cond) : Prop := w ∈ lw_tbl ∧ goodWord w = true
theorem ez_K.w {G : ez_G} {s : State} (h : ez_K G s) {w : Cond} (hw : ez_T w) (args : Array Value) : w.before args s = true := word_at (State.WarmedH.refl s) (good_of_word hw.2) (h.2.2.2.2.2.2.1 w hw.1 (by rw [hw.2]; rfl))
theorem ez_K.n {G : ez_G} {s : State} (h : ez_K G s) {w : Cond} (hw : w ∈ lw_tbl) (hg : ez_isn w = true) : va_Nw w s := h.2.2.2.2.2.2.1 w hw (by rw [hg]; simp)
theorem ez_T.at {w : Cond} (k : Nat) (h : lw_tbl[k]? = some w) (hg : goodWord w = true) : ez_T w := ⟨List.mem_of_getElem? h, hg⟩
-- heaps
theorem ez_ad_inj {G : ez_G} (hb : ez_b G < ez_o G) {i j : Nat} (h : ez_ad G i = ez_ad G j) : i = j := by
  cases i <;> cases j <;> simp only [ez_ad] at h <;> omega
theorem ez_ad_A {G : ez_G} {i : Nat} (h : 0 < i) : ez_A G (ez_ad G i) := by
  cases i with
  | zero => exact absurd h (Nat.lt_irrefl 0)
  | succ j => exact Nat.le_add_right _ _
theorem ez_R.set {G : ez_G} {h : ez_H} {n i : Nat} {H H1 : Heap} {e0 e : va_E} (hR : ez_R G h n H) (hi : h i = some e0) (he : va_at (ez_D G) vwCl (ez_ad G i, ez_e G e) H1) (hz : H1.size = H.size) (oq : ∀ q : Nat, q ≠ ez_ad G i → H1[q]? = H[q]?) : ez_R G (ez_up h i e) n H1 := by
  obtain ⟨h1, h2, h3, h4⟩ := hR
  refine ⟨by rw [hz]; exact h1, h2, h3, fun j x hx => ?_⟩
  by_cases hj : j = i
  · subst hj
    rw [ez_up, if_pos rfl] at hx
    cases hx
    exact ⟨(h4 j e0 hi).1, he⟩
  · rw [ez_up, if_neg hj] at hx
    exact ⟨(h4 j x hx).1, (h4 j x hx).2.kept (oq _ (fun q => hj (ez_ad_inj h3 q)))⟩
theorem ez_R.push {G : ez_G} {h : ez_H} {n : Nat} {H H1 : Heap} {e : va_E} (hR : ez_R G h n H) (he : va_at (ez_D G) vwCl (ez_ad G n, ez_e G e) H1) (hz : H1.size = H.size + 1) (oq : ∀ q : Nat, q < H.size → H1[q]? = H[q]?) : ez_R G (ez_up h n e) (n + 1) H1 := by
  obtain ⟨h1, h2, h3, h4⟩ := hR
  refine ⟨by rw [hz]; omega, by omega, h3, fun j x hx => ?_⟩
  by_cases hj : j = n
  · subst hj
    rw [ez_up, if_pos rfl] at hx
    cases hx
    exact ⟨by omega, he⟩
  · rw [ez_up, if_neg hj] at hx
    have q := (h4 j x hx)
    exact ⟨by omega, q.2.kept (oq _ q.2.lt)⟩
theorem ez_R.size {G : ez_G} {h : ez_H} {n : Nat} {H : Heap} (hR : ez_R G h n H) : H.size = ez_ad G n := by
  obtain ⟨h1, h2, -⟩ := hR
  cases n with
  | zero => omega
  | succ k => show H.size = ez_o G + k; omega
theorem ez_R.kept {G : ez_G} {h : ez_H} {n n' : Nat} {H H1 : Heap} (hR : ez_R G h n H) (hz : H1.size + 1 = ez_o G + n') (hn : n ≤ n') (oq : ∀ q : Nat, q < H.size → H1[q]? = H[q]?) : ez_R G h n' H1 := by
  obtain ⟨h1, h2, h3, h4⟩ := hR
  exact ⟨hz, by omega, h3, fun j x hx => ⟨by have := (h4 j x hx).1; omega, (h4 j x hx).2.kept (oq _ (h4 j x hx).2.lt)⟩⟩
/-- fewer cells said -/
theorem ez_R.sub {G : ez_G} {h h' : ez_H} {n : Nat} {H : Heap} (hR : ez_R G h n H) (hs : ∀ i e, h' i = some e → h i = some e) : ez_R G h' n H := ⟨hR.1, hR.2.1, hR.2.2.1, fun i e he => hR.2.2.2 i e (hs i e he)⟩
-- locals: a list of what is known at each place
def ez_L (G : ez_G) (la : Array Slot) (nL : Nat) (ls : List (Option Value)) : Prop := la.size = nL ∧ lv_wf la ∧ ∀ (j : Nat) (x : Value), ls[j]? = some (some x) → la[j]? = some (.val (ez_v G x))
def ez_c1 (x : Option Value) : Bool := match x with
  | some v => !(v.category == 2)
  | none => true
theorem ez_v_cat (G : ez_G) (v : Value) : (ez_v G v).category = v.category := by cases v <;> rfl
theorem ez_st_cat (G : ez_G) (st : List Value) : ((st.map (ez_v G)).map fun v => v.category).sum = (st.map fun v => v.category).sum := by
  rw [List.map_map]
  congr 1
  exact List.map_congr_left (fun v _ => ez_v_cat G v)
def ez_prs (G : ez_G) : Nat → List (Option Value) → List (Nat × Value)
  | _, [] => []
  | k, none :: r => ez_prs G (k + 1) r
  | k, some v :: r => (k, ez_v G v) :: ez_prs G (k + 1) r
theorem ez_prs_mem {G : ez_G} {q : Nat × Value} : ∀ {k : Nat} {ls : List (Option Value)}, q ∈ ez_prs G k ls → ∃ (j : Nat) (x : Value), ls[j]? = some (some x) ∧ q = (k + j, ez_v G x) := by
  intro k ls
  induction ls generalizing k with
  | nil => intro h; cases h
  | cons y r ih =>
    intro h
    cases y with
    | none =>
      obtain ⟨j, x, h1, h2⟩ := ih (show q ∈ ez_prs G (k + 1) r from h)
      exact ⟨j + 1, x, by simpa using h1, by rw [h2]; congr 1; omega⟩
    | some v =>
      rcases List.mem_cons.mp (show q ∈ (k, ez_v G v) :: ez_prs G (k + 1) r from h) with h | h
      · exact ⟨0, v, rfl, by rw [h]; rfl⟩
      · obtain ⟨j, x, h1, h2⟩ := ih h
        exact ⟨j + 1, x, by simpa using h1, by rw [h2]; congr 1; omega⟩
theorem ez_prs_of {G : ez_G} {x : Value} : ∀ {k : Nat} {ls : List (Option Value)} {j : Nat}, ls[j]? = some (some x) → (k + j, ez_v G x) ∈ ez_prs G k ls := by
  intro k ls
  induction ls generalizing k with
  | nil => intro j h; simp at h
  | cons y r ih =>
    intro j h
    cases j with
    | zero =>
      have hy : y = some x := by simpa using h
      subst hy
      exact List.mem_cons_self
    | succ i =>
      have h2 := ih (k := k + 1) (j := i) (by simpa using h)
      rw [show k + (i + 1) = k + 1 + i by omega]
      cases y with
      | none => exact h2
      | some v => exact List.mem_cons_of_mem _ h2
theorem ez_L.has {G : ez_G} {la : Array Slot} {nL : Nat} {ls : List (Option Value)} (h : ez_L G la nL ls) : lv_has la nL (ez_prs G 0 ls) := by
  refine ⟨h.1, h.2.1, fun q hq => ?_⟩
  obtain ⟨j, x, h1, h2⟩ := ez_prs_mem hq
  subst h2
  rw [Nat.zero_add]
  exact h.2.2 j x h1
theorem ez_L.of {G : ez_G} {la : Array Slot} {nL : Nat} {ls : List (Option Value)} {l : List (Nat × Value)} (h : lv_has la nL l) (hs : ∀ (j : Nat) (x : Value), ls[j]? = some (some x) → (j, ez_v G x) ∈ l) : ez_L G la nL ls := ⟨h.1, h.2.1, fun j x hx => h.2.2 (j, ez_v G x) (hs j x hx)⟩
/-- fewer known -/
theorem ez_L.sub {G : ez_G} {la : Array Slot} {nL : Nat} {ls ls' : List (Option Value)} (h : ez_L G la nL ls) (hs : ∀ (j : Nat) (x : Value), ls'[j]? = some (some x) → ls[j]? = some (some x)) : ez_L G la nL ls' := ⟨h.1, h.2.1, fun j x hx => h.2.2 j x (hs j x hx)⟩
theorem ez_L.st1 {G : ez_G} {la : Array Slot} {nL i : Nat} {ls ls' : List (Option Value)} {v : Value} (h : lv_has la nL ((i, ez_v G v) :: (ez_prs G 0 ls).filter (fun q => !(q.1 == i) && !(q.1 + 1 == i && q.2.category == 2)))) (hs : ls.set i (some v) = ls') (hc : i = 0 ∨ ∃ x, ls[i - 1]? = some x ∧ ez_c1 x = true) : ez_L G la nL ls' := by
  subst hs
  refine ez_L.of h (fun j x hx => ?_)
  by_cases hj : j = i
  · subst hj
    have hl : j < ls.length := by
      have := (List.getElem?_eq_some_iff.mp hx).1
      simpa using this
    rw [List.getElem?_set_self hl] at hx
    cases hx
    exact List.mem_cons_self
  · rw [List.getElem?_set_ne (Ne.symm hj)] at hx
    refine List.mem_cons_of_mem _ (List.mem_filter.mpr ⟨by have := ez_prs_of (G := G) (k := 0) hx; rwa [Nat.zero_add] at this, ?_⟩)
    have h1 : (j == i) = false := by simpa using hj
    simp only [h1, Bool.not_false, Bool.true_and, Bool.not_eq_true', Bool.and_eq_false_iff]
    by_cases h2 : j + 1 = i
    · right
      rcases hc with hc | ⟨y, hy, hc⟩
      · omega
      · rw [show i - 1 = j by omega, hx] at hy
        cases hy
        simp only [ez_c1, Bool.not_eq_true'] at hc
        rw [ez_v_cat]
        exact hc
    · left
      simpa using h2
theorem ez_L.st2 {G : ez_G} {la : Array Slot} {nL i : Nat} {ls ls' : List (Option Value)} {v : Value} (h : lv_has la nL ((i, ez_v G v) :: (ez_prs G 0 ls).filter (fun q => !(q.1 == i) && (!(q.1 == i + 1) && !(q.1 + 1 == i && q.2.category == 2))))) (hs : (ls.set i (some v)).set (i + 1) none = ls') (hc : i = 0 ∨ ∃ x, ls[i - 1]? = some x ∧ ez_c1 x = true) : ez_L G la nL ls' := by
  subst hs
  refine ez_L.of h (fun j x hx => ?_)
  by_cases hj2 : j = i + 1
  · subst hj2
    rw [List.getElem?_set] at hx
    simp only [if_pos] at hx
    split at hx <;> cases hx
  · rw [List.getElem?_set_ne (Ne.symm hj2)] at hx
    by_cases hj : j = i
    · subst hj
      have hl : j < ls.length := by
        have := (List.getElem?_eq_some_iff.mp hx).1
        simpa using this
      rw [List.getElem?_set_self hl] at hx
      cases hx
      exact List.mem_cons_self
    · rw [List.getElem?_set_ne (Ne.symm hj)] at hx
      refine List.mem_cons_of_mem _ (List.mem_filter.mpr ⟨by have := ez_prs_of (G := G) (k := 0) hx; rwa [Nat.zero_add] at this, ?_⟩)
      have h1 : (j == i) = false := by simpa using hj
      have h3 : (j == i + 1) = false := by simpa using hj2
      simp only [h1, h3, Bool.not_false, Bool.true_and, Bool.not_eq_true', Bool.and_eq_false_iff]
      by_cases h2 : j + 1 = i
      · right
        rcases hc with hc | ⟨y, hy, hc⟩
        · omega
        · rw [show i - 1 = j by omega, hx] at hy
          cases hy
          simp only [ez_c1, Bool.not_eq_true'] at hc
          rw [ez_v_cat]
          exact hc
      · left
        simpa using h2
-- contracts and the judgement
def ez_Qc (G : ez_G) (Q : ez_Q) : Array Value → State → Outcome → State → Prop := fun _ st oc t => (∃ (r : Option Value) (h : ez_H) (n : Nat), oc = .returned (r.map (ez_v G)) ∧ Q (.inl r) h n ∧ ez_R G h n t.heap) ∧ va_F (ez_A G) st t
def ez_Xc (G : ez_G) (Q : ez_Q) : String → State → State → Prop := fun E st t => (∃ (h : ez_H) (n : Nat), Q (.inr E) h n ∧ ez_R G h n t.heap) ∧ va_F (ez_A G) st t
def ez_w (M : ez_M) : Cond := match M.2.2.2.2 with
  | [] => .code M.1 M.2.1 M.2.2.1 M.2.2.2.1
  | hh => .codeWith M.1 M.2.1 M.2.2.1 M.2.2.2.1 hh
def ez_rm (d mc ms : Nat) : Room := { frames := d, cells := mc, slots := ms, locals := 44 * d }
def ez_Pc (G : ez_G) (as : List Value) (h : ez_H) (n : Nat) : Array Value → State → Prop := va_Pc (as.map (ez_v G)) (fun U => ez_R G h n U.heap ∧ ez_K G U)
/-- THE CONTRACT: method M, called at depth d on the arguments as over the heap h of n cells, makes at most mc cells of ms slots and ends in Q -/
def Con (G : ez_G) (M : ez_M) (d : Nat) (as : List Value) (h : ez_H) (n mc ms : Nat) (Q : ez_Q) : Prop := vx_Met (ez_l G) M.1 [ez_w M] (ez_rm d mc ms) (ez_Pc G as h n) (ez_Qc G Q) (ez_Xc G Q) mc ms (ez_A G)
def ez_X (G : ez_G) (M : ez_M) (d : Nat) (p : Program) (R : Room) (s : State) (m : MethodId) (meth : Method) (c : Code) : Prop :=
  p.tables.exec = Jvm.exec ∧ c.code = M.2.1 ∧ meth.sig.returnType = M.2.2.2.1 ∧ s.vm.findClass M.1.cls = some m.cls ∧ meth.locks = false ∧ c.maxLocals = M.2.2.1 ∧ meth.name = M.1.name ∧ c.exceptionTable.toList = tableOf M.2.2.2.2 ∧ ez_K G s ∧ d ≤ R.frames ∧ 44 * d ≤ R.locals ∧ ez_o G ≤ s.heap.size
def E (G : ez_G) (M : ez_M) (d : Nat) (Q : ez_Q) (h : ez_H) (n mc ms pc : Nat) (ls : List (Option Value)) (st : List Value) : Prop :=
  ∀ (p : Program) (e : Env) (R : Room) (s : State) (m : MethodId) (args : Array Value) (below : List Frame) (meth : Method) (c : Code) (H : Heap) (locs : List Loc) (cells slots mt mS : Nat) (la : Array Slot),
    ez_X G M d p R s m meth c → ez_R G h n H → va_S (ez_A G) s.heap H locs → ez_L G la M.2.2.1 ls → (cells + mc ≤ mt ∧ mt ≤ R.cells) → (slots + ms ≤ mS ∧ mS ≤ R.slots) →
    W p (ez_l G) e R s m args below meth c H locs cells slots (vx_MQ below (ez_Qc G Q) (ez_Xc G Q) args s mt mS (ez_A G)) (F0 m pc la (st.map (ez_v G)))

theorem ez_iconst {G : ez_G} {M : ez_M} {d : Nat} {Q : ez_Q} {h : ez_H} {n mc ms pc q : Nat} {ls : List (Option Value)} {st : List Value} {z : Int} {v : Int32} (hd : decode M.2.1 pc = .ok (.iconst z, 1)) (hv : Int32.ofInt z = v) (hq : pc + 1 = q) (k : E G M d Q h n mc ms q ls (.int v :: st)) : E G M d Q h n mc ms pc ls st := by
  subst hq
  intro p e R s m args below meth c H locs cells slots mt mS la X hR hS hL hc hs
  exact lv_iconst X.1 X.2.1 hd hv (k p e R s m args below meth c H locs cells slots mt mS la X hR hS hL hc hs)
theorem ez_bipush {G : ez_G} {M : ez_M} {d : Nat} {Q : ez_Q} {h : ez_H} {n mc ms pc q : Nat} {ls : List (Option Value)} {st : List Value} {z : Int} {v : Int32} (hd : decode M.2.1 pc = .ok (.bipush z, 2)) (hv : (Int8.ofInt z).toInt32 = v) (hq : pc + 2 = q) (k : E G M d Q h n mc ms q ls (.int v :: st)) : E G M d Q h n mc ms pc ls st := by
  subst hq
  intro p e R s m args below meth c H locs cells slots mt mS la X hR hS hL hc hs
  exact lv_bipush X.1 X.2.1 hd hv (k p e R s m args below meth c H locs cells slots mt mS la X hR hS hL hc hs)
theorem ez_sipush {G : ez_G} {M : ez_M} {d : Nat} {Q : ez_Q} {h : ez_H} {n mc ms pc q : Nat} {ls : List (Option Value)} {st : List Value} {z : Int} {v : Int32} (hd : decode M.2.1 pc = .ok (.sipush z, 3)) (hv : (Int16.ofInt z).toInt32 = v) (hq : pc + 3 = q) (k : E G M d Q h n mc ms q ls (.int v :: st)) : E G M d Q h n mc ms pc ls st := by
  subst hq
  intro p e R s m args below meth c H locs cells slots mt mS la X hR hS hL hc hs
  exact lv_sipush X.1 X.2.1 hd hv (k p e R s m args below meth c H locs cells slots mt mS la X hR hS hL hc hs)
theorem ez_lconst {G : ez_G} {M : ez_M} {d : Nat} {Q : ez_Q} {h : ez_H} {n mc ms pc q : Nat} {ls : List (Option Value)} {st : List Value} {z : Fin 2} {v : Int64} (hd : decode M.2.1 pc = .ok (.lconst z, 1)) (hv : Int64.ofNat (z : Nat) = v) (hq : pc + 1 = q) (k : E G M d Q h n mc ms q ls (.long v :: st)) : E G M d Q h n mc ms pc ls st := by
  subst hq
  intro p e R s m args below meth c H locs cells slots mt mS la X hR hS hL hc hs
  exact lv_lconst X.1 X.2.1 hd hv (k p e R s m args below meth c H locs cells slots mt mS la X hR hS hL hc hs)
theorem ez_dconst0 {G : ez_G} {M : ez_M} {d : Nat} {Q : ez_Q} {h : ez_H} {n mc ms pc q : Nat} {ls : List (Option Value)} {st : List Value}  (hd : decode M.2.1 pc = .ok (.dconst 0, 1))  (hq : pc + 1 = q) (k : E G M d Q h n mc ms q ls (.double 0 :: st)) : E G M d Q h n mc ms pc ls st := by
  subst hq
  intro p e R s m args below meth c H locs cells slots mt mS la X hR hS hL hc hs
  exact lv_dconst0 X.1 X.2.1 hd (k p e R s m args below meth c H locs cells slots mt mS la X hR hS hL hc hs)
theorem ez_dconst1 {G : ez_G} {M : ez_M} {d : Nat} {Q : ez_Q} {h : ez_H} {n mc ms pc q : Nat} {ls : List (Option Value)} {st : List Value}  (hd : decode M.2.1 pc = .ok (.dconst 1, 1))  (hq : pc + 1 = q) (k : E G M d Q h n mc ms q ls (.double 0x3ff0000000000000 :: st)) : E G M d Q h n mc ms pc ls st := by
  subst hq
  intro p e R s m args below meth c H locs cells slots mt mS la X hR hS hL hc hs
  exact lv_dconst1 X.1 X.2.1 hd (k p e R s m args below meth c H locs cells slots mt mS la X hR hS hL hc hs)
theorem ez_iload_n {G : ez_G} {M : ez_M} {d : Nat} {Q : ez_Q} {h : ez_H} {n mc ms pc q : Nat} {ls : List (Option Value)} {st : List Value} {f : Fin 4} {x : Int32} (i : Nat) (hd : decode M.2.1 pc = .ok (.iload_n f, 1)) (hi : (f : Nat) = i) (hl : ls[i]? = some (some (.int x))) (hq : pc + 1 = q) (k : E G M d Q h n mc ms q ls (.int x :: st)) : E G M d Q h n mc ms pc ls st := by
  subst hq
  intro p e R s m args below meth c H locs cells slots mt mS la X hR hS hL hc hs
  exact lv_iload_n X.1 X.2.1 hd hi (hL.2.2 i _ hl) (k p e R s m args below meth c H locs cells slots mt mS la X hR hS hL hc hs)
theorem ez_iload {G : ez_G} {M : ez_M} {d : Nat} {Q : ez_Q} {h : ez_H} {n mc ms pc q : Nat} {ls : List (Option Value)} {st : List Value} {i : Nat} {x : Int32} (hd : decode M.2.1 pc = .ok (.iload i, 2)) (hl : ls[i]? = some (some (.int x))) (hq : pc + 2 = q) (k : E G M d Q h n mc ms q ls (.int x :: st)) : E G M d Q h n mc ms pc ls st := by
  subst hq
  intro p e R s m args below meth c H locs cells slots mt mS la X hR hS hL hc hs
  exact lv_iload X.1 X.2.1 hd (hL.2.2 i _ hl) (k p e R s m args below meth c H locs cells slots mt mS la X hR hS hL hc hs)
theorem ez_aload_n {G : ez_G} {M : ez_M} {d : Nat} {Q : ez_Q} {h : ez_H} {n mc ms pc q : Nat} {ls : List (Option Value)} {st : List Value} {f : Fin 4} {x : Nat} (i : Nat) (hd : decode M.2.1 pc = .ok (.aload_n f, 1)) (hi : (f : Nat) = i) (hl : ls[i]? = some (some (.ref x))) (hq : pc + 1 = q) (k : E G M d Q h n mc ms q ls (.ref x :: st)) : E G M d Q h n mc ms pc ls st := by
  subst hq
  intro p e R s m args below meth c H locs cells slots mt mS la X hR hS hL hc hs
  exact lv_aload_n X.1 X.2.1 hd hi (hL.2.2 i _ hl) (k p e R s m args below meth c H locs cells slots mt mS la X hR hS hL hc hs)
theorem ez_aload {G : ez_G} {M : ez_M} {d : Nat} {Q : ez_Q} {h : ez_H} {n mc ms pc q : Nat} {ls : List (Option Value)} {st : List Value} {i : Nat} {x : Nat} (hd : decode M.2.1 pc = .ok (.aload i, 2)) (hl : ls[i]? = some (some (.ref x))) (hq : pc + 2 = q) (k : E G M d Q h n mc ms q ls (.ref x :: st)) : E G M d Q h n mc ms pc ls st := by
  subst hq
  intro p e R s m args below meth c H locs cells slots mt mS la X hR hS hL hc hs
  exact lv_aload X.1 X.2.1 hd (hL.2.2 i _ hl) (k p e R s m args below meth c H locs cells slots mt mS la X hR hS hL hc hs)
theorem ez_lload_n {G : ez_G} {M : ez_M} {d : Nat} {Q : ez_Q} {h : ez_H} {n mc ms pc q : Nat} {ls : List (Option Value)} {st : List Value} {f : Fin 4} {x : Int64} (i : Nat) (hd : decode M.2.1 pc = .ok (.lload_n f, 1)) (hi : (f : Nat) = i) (hl : ls[i]? = some (some (.long x))) (hq : pc + 1 = q) (k : E G M d Q h n mc ms q ls (.long x :: st)) : E G M d Q h n mc ms pc ls st := by
  subst hq
  intro p e R s m args below meth c H locs cells slots mt mS la X hR hS hL hc hs
  exact lv_lload_n X.1 X.2.1 hd hi (hL.2.2 i _ hl) (k p e R s m args below meth c H locs cells slots mt mS la X hR hS hL hc hs)
theorem ez_lload {G : ez_G} {M : ez_M} {d : Nat} {Q : ez_Q} {h : ez_H} {n mc ms pc q : Nat} {ls : List (Option Value)} {st : List Value} {i : Nat} {x : Int64} (hd : decode M.2.1 pc = .ok (.lload i, 2)) (hl : ls[i]? = some (some (.long x))) (hq : pc + 2 = q) (k : E G M d Q h n mc ms q ls (.long x :: st)) : E G M d Q h n mc ms pc ls st := by
  subst hq
  intro p e R s m args below meth c H locs cells slots mt mS la X hR hS hL hc hs
  exact lv_lload X.1 X.2.1 hd (hL.2.2 i _ hl) (k p e R s m args below meth c H locs cells slots mt mS la X hR hS hL hc hs)
theorem ez_dload_n {G : ez_G} {M : ez_M} {d : Nat} {Q : ez_Q} {h : ez_H} {n mc ms pc q : Nat} {ls : List (Option Value)} {st : List Value} {f : Fin 4} {x : UInt64} (i : Nat) (hd : decode M.2.1 pc = .ok (.dload_n f, 1)) (hi : (f : Nat) = i) (hl : ls[i]? = some (some (.double x))) (hq : pc + 1 = q) (k : E G M d Q h n mc ms q ls (.double x :: st)) : E G M d Q h n mc ms pc ls st := by
  subst hq
  intro p e R s m args below meth c H locs cells slots mt mS la X hR hS hL hc hs
  exact lv_dload_n X.1 X.2.1 hd hi (hL.2.2 i _ hl) (k p e R s m args below meth c H locs cells slots mt mS la X hR hS hL hc hs)
theorem ez_dload {G : ez_G} {M : ez_M} {d : Nat} {Q : ez_Q} {h : ez_H} {n mc ms pc q : Nat} {ls : List (Option Value)} {st : List Value} {i : Nat} {x : UInt64} (hd : decode M.2.1 pc = .ok (.dload i, 2)) (hl : ls[i]? = some (some (.double x))) (hq : pc + 2 = q) (k : E G M d Q h n mc ms q ls (.double x :: st)) : E G M d Q h n mc ms pc ls st := by
  subst hq
  intro p e R s m args below meth c H locs cells slots mt mS la X hR hS hL hc hs
  exact lv_dload X.1 X.2.1 hd (hL.2.2 i _ hl) (k p e R s m args below meth c H locs cells slots mt mS la X hR hS hL hc hs)
theorem ez_istore_n' {G : ez_G} {M : ez_M} {d : Nat} {Q : ez_Q} {h : ez_H} {n mc ms pc q : Nat} {ls : List (Option Value)} {st : List Value} {f : Fin 4} (i : Nat) {x : Int32} {ls' : List (Option Value)} (hd : decode M.2.1 pc = .ok (.istore_n f, 1)) (hi : (f : Nat) = i) (hn : i < M.2.2.1) (hs' : ls.set i (some (.int x)) = ls') (hc' : i = 0 ∨ ∃ x, ls[i - 1]? = some x ∧ ez_c1 x = true) (hq : pc + 1 = q) (k : E G M d Q h n mc ms q ls' st) : E G M d Q h n mc ms pc ls (.int x :: st) := by
  subst hq
  intro p e R s m args below meth c H locs cells slots mt mS la X hR hS hL hc hs
  exact lv_istore_n X.1 X.2.1 hd hi hL.has hn rfl (fun la' hl' => k p e R s m args below meth c H locs cells slots mt mS la' X hR hS (ez_L.st1 hl' hs' hc') hc hs)
theorem ez_istore' {G : ez_G} {M : ez_M} {d : Nat} {Q : ez_Q} {h : ez_H} {n mc ms pc q : Nat} {ls : List (Option Value)} {st : List Value} {i : Nat} {x : Int32} {ls' : List (Option Value)} (hd : decode M.2.1 pc = .ok (.istore i, 2)) (hn : i < M.2.2.1) (hs' : ls.set i (some (.int x)) = ls') (hc' : i = 0 ∨ ∃ x, ls[i - 1]? = some x ∧ ez_c1 x = true) (hq : pc + 2 = q) (k : E G M d Q h n mc ms q ls' st) : E G M d Q h n mc ms pc ls (.int x :: st) := by
  subst hq
  intro p e R s m args below meth c H locs cells slots mt mS la X hR hS hL hc hs
  exact lv_istore X.1 X.2.1 hd hL.has hn rfl (fun la' hl' => k p e R s m args below meth c H locs cells slots mt mS la' X hR hS (ez_L.st1 hl' hs' hc') hc hs)
theorem ez_astore_n' {G : ez_G} {M : ez_M} {d : Nat} {Q : ez_Q} {h : ez_H} {n mc ms pc q : Nat} {ls : List (Option Value)} {st : List Value} {f : Fin 4} (i : Nat) {x : Nat} {ls' : List (Option Value)} (hd : decode M.2.1 pc = .ok (.astore_n f, 1)) (hi : (f : Nat) = i) (hn : i < M.2.2.1) (hs' : ls.set i (some (.ref x)) = ls') (hc' : i = 0 ∨ ∃ x, ls[i - 1]? = some x ∧ ez_c1 x = true) (hq : pc + 1 = q) (k : E G M d Q h n mc ms q ls' st) : E G M d Q h n mc ms pc ls (.ref x :: st) := by
  subst hq
  intro p e R s m args below meth c H locs cells slots mt mS la X hR hS hL hc hs
  exact lv_astore_n X.1 X.2.1 hd hi hL.has hn rfl (fun la' hl' => k p e R s m args below meth c H locs cells slots mt mS la' X hR hS (ez_L.st1 hl' hs' hc') hc hs)
theorem ez_astore' {G : ez_G} {M : ez_M} {d : Nat} {Q : ez_Q} {h : ez_H} {n mc ms pc q : Nat} {ls : List (Option Value)} {st : List Value} {i : Nat} {x : Nat} {ls' : List (Option Value)} (hd : decode M.2.1 pc = .ok (.astore i, 2)) (hn : i < M.2.2.1) (hs' : ls.set i (some (.ref x)) = ls') (hc' : i = 0 ∨ ∃ x, ls[i - 1]? = some x ∧ ez_c1 x = true) (hq : pc + 2 = q) (k : E G M d Q h n mc ms q ls' st) : E G M d Q h n mc ms pc ls (.ref x :: st) := by
  subst hq
  intro p e R s m args below meth c H locs cells slots mt mS la X hR hS hL hc hs
  exact lv_astore X.1 X.2.1 hd hL.has hn rfl (fun la' hl' => k p e R s m args below meth c H locs cells slots mt mS la' X hR hS (ez_L.st1 hl' hs' hc') hc hs)
theorem ez_lstore_n' {G : ez_G} {M : ez_M} {d : Nat} {Q : ez_Q} {h : ez_H} {n mc ms pc q : Nat} {ls : List (Option Value)} {st : List Value} {f : Fin 4} (i : Nat) {x : Int64} {ls' : List (Option Value)} (hd : decode M.2.1 pc = .ok (.lstore_n f, 1)) (hi : (f : Nat) = i) (hn : i + 1 < M.2.2.1) (hs' : (ls.set i (some (.long x))).set (i + 1) none = ls') (hc' : i = 0 ∨ ∃ x, ls[i - 1]? = some x ∧ ez_c1 x = true) (hq : pc + 1 = q) (k : E G M d Q h n mc ms q ls' st) : E G M d Q h n mc ms pc ls (.long x :: st) := by
  subst hq
  intro p e R s m args below meth c H locs cells slots mt mS la X hR hS hL hc hs
  exact lv_lstore_n X.1 X.2.1 hd hi hL.has hn rfl (fun la' hl' => k p e R s m args below meth c H locs cells slots mt mS la' X hR hS (ez_L.st2 hl' hs' hc') hc hs)
theorem ez_lstore' {G : ez_G} {M : ez_M} {d : Nat} {Q : ez_Q} {h : ez_H} {n mc ms pc q : Nat} {ls : List (Option Value)} {st : List Value} {i : Nat} {x : Int64} {ls' : List (Option Value)} (hd : decode M.2.1 pc = .ok (.lstore i, 2)) (hn : i + 1 < M.2.2.1) (hs' : (ls.set i (some (.long x))).set (i + 1) none = ls') (hc' : i = 0 ∨ ∃ x, ls[i - 1]? = some x ∧ ez_c1 x = true) (hq : pc + 2 = q) (k : E G M d Q h n mc ms q ls' st) : E G M d Q h n mc ms pc ls (.long x :: st) := by
  subst hq
  intro p e R s m args below meth c H locs cells slots mt mS la X hR hS hL hc hs
  exact lv_lstore X.1 X.2.1 hd hL.has hn rfl (fun la' hl' => k p e R s m args below meth c H locs cells slots mt mS la' X hR hS (ez_L.st2 hl' hs' hc') hc hs)
theorem ez_dstore_n' {G : ez_G} {M : ez_M} {d : Nat} {Q : ez_Q} {h : ez_H} {n mc ms pc q : Nat} {ls : List (Option Value)} {st : List Value} {f : Fin 4} (i : Nat) {x : UInt64} {ls' : List (Option Value)} (hd : decode M.2.1 pc = .ok (.dstore_n f, 1)) (hi : (f : Nat) = i) (hn : i + 1 < M.2.2.1) (hs' : (ls.set i (some (.double x))).set (i + 1) none = ls') (hc' : i = 0 ∨ ∃ x, ls[i - 1]? = some x ∧ ez_c1 x = true) (hq : pc + 1 = q) (k : E G M d Q h n mc ms q ls' st) : E G M d Q h n mc ms pc ls (.double x :: st) := by
  subst hq
  intro p e R s m args below meth c H locs cells slots mt mS la X hR hS hL hc hs
  exact lv_dstore_n X.1 X.2.1 hd hi hL.has hn rfl (fun la' hl' => k p e R s m args below meth c H locs cells slots mt mS la' X hR hS (ez_L.st2 hl' hs' hc') hc hs)
theorem ez_dstore' {G : ez_G} {M : ez_M} {d : Nat} {Q : ez_Q} {h : ez_H} {n mc ms pc q : Nat} {ls : List (Option Value)} {st : List Value} {i : Nat} {x : UInt64} {ls' : List (Option Value)} (hd : decode M.2.1 pc = .ok (.dstore i, 2)) (hn : i + 1 < M.2.2.1) (hs' : (ls.set i (some (.double x))).set (i + 1) none = ls') (hc' : i = 0 ∨ ∃ x, ls[i - 1]? = some x ∧ ez_c1 x = true) (hq : pc + 2 = q) (k : E G M d Q h n mc ms q ls' st) : E G M d Q h n mc ms pc ls (.double x :: st) := by
  subst hq
  intro p e R s m args below meth c H locs cells slots mt mS la X hR hS hL hc hs
  exact lv_dstore X.1 X.2.1 hd hL.has hn rfl (fun la' hl' => k p e R s m args below meth c H locs cells slots mt mS la' X hR hS (ez_L.st2 hl' hs' hc') hc hs)
theorem ez_lk {G : ez_G} {ls : List (Option Value)} {i : Nat} {x : Value} (h : ls[i]? = some (some x)) : ∃ k : Nat, (ez_prs G 0 ls)[k]? = some (i, ez_v G x) := by
  have h2 := ez_prs_of (G := G) (k := 0) h
  rw [Nat.zero_add] at h2
  exact List.getElem?_of_mem h2
theorem ez_iinc' {G : ez_G} {M : ez_M} {d : Nat} {Q : ez_Q} {h : ez_H} {n mc ms pc q : Nat} {ls : List (Option Value)} {st : List Value} {i : Nat} {z : Int} {x v : Int32} {ls' : List (Option Value)} (hd : decode M.2.1 pc = .ok (.iinc i z, 3)) (hl : ls[i]? = some (some (.int x))) (hv : x + Int32.ofInt z = v) (hn : i < M.2.2.1) (hs' : ls.set i (some (.int v)) = ls') (hc' : i = 0 ∨ ∃ x, ls[i - 1]? = some x ∧ ez_c1 x = true) (hq : pc + 3 = q) (k : E G M d Q h n mc ms q ls' st) : E G M d Q h n mc ms pc ls st := by
  subst hq
  intro p e R s m args below meth c H locs cells slots mt mS la X hR hS hL hc hs
  obtain ⟨kk, hk⟩ := ez_lk (G := G) hl
  exact lv_iinc X.1 X.2.1 hd hL.has hk hv hn rfl (fun la' hl' => k p e R s m args below meth c H locs cells slots mt mS la' X hR hS (ez_L.st1 hl' hs' hc') hc hs)
theorem ez_istore_0 {G : ez_G} {M : ez_M} {d : Nat} {Q : ez_Q} {h : ez_H} {n mc ms pc q : Nat} {st : List Value} {x0 : Option Value} {r : List (Option Value)} {x : Int32} {f : Fin 4} (hd : decode M.2.1 pc = .ok (.istore_n f, 1)) (hi : (f : Nat) = 0) (hn : 0 < M.2.2.1) (hq : pc + 1 = q) (k : E G M d Q h n mc ms q (some (.int x) :: r) st) : E G M d Q h n mc ms pc (x0 :: r) (.int x :: st) := ez_istore_n' 0 hd hi hn rfl (Or.inl rfl) hq k
theorem ez_istore_1 {G : ez_G} {M : ez_M} {d : Nat} {Q : ez_Q} {h : ez_H} {n mc ms pc q : Nat} {st : List Value} {x0 x1 : Option Value} {r : List (Option Value)} {x : Int32} {f : Fin 4} (hd : decode M.2.1 pc = .ok (.istore_n f, 1)) (hi : (f : Nat) = 1) (hn : 1 < M.2.2.1) (hc1 : ez_c1 x0 = true) (hq : pc + 1 = q) (k : E G M d Q h n mc ms q (x0 :: some (.int x) :: r) st) : E G M d Q h n mc ms pc (x0 :: x1 :: r) (.int x :: st) := ez_istore_n' 1 hd hi hn rfl (Or.inr ⟨x0, rfl, hc1⟩) hq k
theorem ez_istore_2 {G : ez_G} {M : ez_M} {d : Nat} {Q : ez_Q} {h : ez_H} {n mc ms pc q : Nat} {st : List Value} {x0 x1 x2 : Option Value} {r : List (Option Value)} {x : Int32} {f : Fin 4} (hd : decode M.2.1 pc = .ok (.istore_n f, 1)) (hi : (f : Nat) = 2) (hn : 2 < M.2.2.1) (hc1 : ez_c1 x1 = true) (hq : pc + 1 = q) (k : E G M d Q h n mc ms q (x0 :: x1 :: some (.int x) :: r) st) : E G M d Q h n mc ms pc (x0 :: x1 :: x2 :: r) (.int x :: st) := ez_istore_n' 2 hd hi hn rfl (Or.inr ⟨x1, rfl, hc1⟩) hq k
theorem ez_istore_3 {G : ez_G} {M : ez_M} {d : Nat} {Q : ez_Q} {h : ez_H} {n mc ms pc q : Nat} {st : List Value} {x0 x1 x2 x3 : Option Value} {r : List (Option Value)} {x : Int32} {f : Fin 4} (hd : decode M.2.1 pc = .ok (.istore_n f, 1)) (hi : (f : Nat) = 3) (hn : 3 < M.2.2.1) (hc1 : ez_c1 x2 = true) (hq : pc + 1 = q) (k : E G M d Q h n mc ms q (x0 :: x1 :: x2 :: some (.int x) :: r) st) : E G M d Q h n mc ms pc (x0 :: x1 :: x2 :: x3 :: r) (.int x :: st) := ez_istore_n' 3 hd hi hn rfl (Or.inr ⟨x2, rfl, hc1⟩) hq k
theorem ez_istore_4 {G : ez_G} {M : ez_M} {d : Nat} {Q : ez_Q} {h : ez_H} {n mc ms pc q : Nat} {st : List Value} {x0 x1 x2 x3 x4 : Option Value} {r : List (Option Value)} {x : Int32} (hd : decode M.2.1 pc = .ok (.istore 4, 2)) (hn : 4 < M.2.2.1) (hc1 : ez_c1 x3 = true) (hq : pc + 2 = q) (k : E G M d Q h n mc ms q (x0 :: x1 :: x2 :: x3 :: some (.int x) :: r) st) : E G M d Q h n mc ms pc (x0 :: x1 :: x2 :: x3 :: x4 :: r) (.int x :: st) := ez_istore' hd hn rfl (Or.inr ⟨x3, rfl, hc1⟩) hq k
theorem ez_istore_5 {G : ez_G} {M : ez_M} {d : Nat} {Q : ez_Q} {h : ez_H} {n mc ms pc q : Nat} {st : List Value} {x0 x1 x2 x3 x4 x5 : Option Value} {r : List (Option Value)} {x : Int32} (hd : decode M.2.1 pc = .ok (.istore 5, 2)) (hn : 5 < M.2.2.1) (hc1 : ez_c1 x4 = true) (hq : pc + 2 = q) (k : E G M d Q h n mc ms q (x0 :: x1 :: x2 :: x3 :: x4 :: some (.int x) :: r) st) : E G M d Q h n mc ms pc (x0 :: x1 :: x2 :: x3 :: x4 :: x5 :: r) (.int x :: st) := ez_istore' hd hn rfl (Or.inr ⟨x4, rfl, hc1⟩) hq k
theorem ez_istore_6 {G : ez_G} {M : ez_M} {d : Nat} {Q : ez_Q} {h : ez_H} {n mc ms pc q : Nat} {st : List Value} {x0 x1 x2 x3 x4 x5 x6 : Option Value} {r : List (Option Value)} {x : Int32} (hd : decode M.2.1 pc = .ok (.istore 6, 2)) (hn : 6 < M.2.2.1) (hc1 : ez_c1 x5 = true) (hq : pc + 2 = q) (k : E G M d Q h n mc ms q (x0 :: x1 :: x2 :: x3 :: x4 :: x5 :: some (.int x) :: r) st) : E G M d Q h n mc ms pc (x0 :: x1 :: x2 :: x3 :: x4 :: x5 :: x6 :: r) (.int x :: st) := ez_istore' hd hn rfl (Or.inr ⟨x5, rfl, hc1⟩) hq k
theorem ez_istore_7 {G : ez_G} {M : ez_M} {d : Nat} {Q : ez_Q} {h : ez_H} {n mc ms pc q : Nat} {st : List Value} {x0 x1 x2 x3 x4 x5 x6 x7 : Option Value} {r : List (Option Value)} {x : Int32} (hd : decode M.2.1 pc = .ok (.istore 7, 2)) (hn : 7 < M.2.2.1) (hc1 : ez_c1 x6 = true) (hq : pc + 2 = q) (k : E G M d Q h n mc ms q (x0 :: x1 :: x2 :: x3 :: x4 :: x5 :: x6 :: some (.int x) :: r) st) : E G M d Q h n mc ms pc (x0 :: x1 :: x2 :: x3 :: x4 :: x5 :: x6 :: x7 :: r) (.int x :: st) := ez_istore' hd hn rfl (Or.inr ⟨x6, rfl, hc1⟩) hq k
theorem ez_istore_8 {G : ez_G} {M : ez_M} {d : Nat} {Q : ez_Q} {h : ez_H} {n mc ms pc q : Nat} {st : List Value} {x0 x1 x2 x3 x4 x5 x6 x7 x8 : Option Value} {r : List (Option Value)} {x : Int32} (hd : decode M.2.1 pc = .ok (.istore 8, 2)) (hn : 8 < M.2.2.1) (hc1 : ez_c1 x7 = true) (hq : pc + 2 = q) (k : E G M d Q h n mc ms q (x0 :: x1 :: x2 :: x3 :: x4 :: x5 :: x6 :: x7 :: some (.int x) :: r) st) : E G M d Q h n mc ms pc (x0 :: x1 :: x2 :: x3 :: x4 :: x5 :: x6 :: x7 :: x8 :: r) (.int x :: st) := ez_istore' hd hn rfl (Or.inr ⟨x7, rfl, hc1⟩) hq k
theorem ez_istore_9 {G : ez_G} {M : ez_M} {d : Nat} {Q : ez_Q} {h : ez_H} {n mc ms pc q : Nat} {st : List Value} {x0 x1 x2 x3 x4 x5 x6 x7 x8 x9 : Option Value} {r : List (Option Value)} {x : Int32} (hd : decode M.2.1 pc = .ok (.istore 9, 2)) (hn : 9 < M.2.2.1) (hc1 : ez_c1 x8 = true) (hq : pc + 2 = q) (k : E G M d Q h n mc ms q (x0 :: x1 :: x2 :: x3 :: x4 :: x5 :: x6 :: x7 :: x8 :: some (.int x) :: r) st) : E G M d Q h n mc ms pc (x0 :: x1 :: x2 :: x3 :: x4 :: x5 :: x6 :: x7 :: x8 :: x9 :: r) (.int x :: st) := ez_istore' hd hn rfl (Or.inr ⟨x8, rfl, hc1⟩) hq k
theorem ez_istore_10 {G : ez_G} {M : ez_M} {d : Nat} {Q : ez_Q} {h : ez_H} {n mc ms pc q : Nat} {st : List Value} {x0 x1 x2 x3 x4 x5 x6 x7 x8 x9 x10 : Option Value} {r : List (Option Value)} {x : Int32} (hd : decode M.2.1 pc = .ok (.istore 10, 2)) (hn : 10 < M.2.2.1) (hc1 : ez_c1 x9 = true) (hq : pc + 2 = q) (k : E G M d Q h n mc ms q (x0 :: x1 :: x2 :: x3 :: x4 :: x5 :: x6 :: x7 :: x8 :: x9 :: some (.int x) :: r) st) : E G M d Q h n mc ms pc (x0 :: x1 :: x2 :: x3 :: x4 :: x5 :: x6 :: x7 :: x8 :: x9 :: x10 :: r) (.int x :: st) := ez_istore' hd hn rfl (Or.inr ⟨x9, rfl, hc1⟩) hq k
theorem ez_istore_11 {G : ez_G} {M : ez_M} {d : Nat} {Q : ez_Q} {h : ez_H} {n mc ms pc q : Nat} {st : List Value} {x0 x1 x2 x3 x4 x5 x6 x7 x8 x9 x10 x11 : Option Value} {r : List (Option Value)} {x : Int32} (hd : decode M.2.1 pc = .ok (.istore 11, 2)) (hn : 11 < M.2.2.1) (hc1 : ez_c1 x10 = true) (hq : pc + 2 = q) (k : E G M d Q h n mc ms q (x0 :: x1 :: x2 :: x3 :: x4 :: x5 :: x6 :: x7 :: x8 :: x9 :: x10 :: some (.int x) :: r) st) : E G M d Q h n mc ms pc (x0 :: x1 :: x2 :: x3 :: x4 :: x5 :: x6 :: x7 :: x8 :: x9 :: x10 :: x11 :: r) (.int x :: st) := ez_istore' hd hn rfl (Or.inr ⟨x10, rfl, hc1⟩) hq k
theorem ez_istore_12 {G : ez_G} {M : ez_M} {d : Nat} {Q : ez_Q} {h : ez_H} {n mc ms pc q : Nat} {st : List Value} {x0 x1 x2 x3 x4 x5 x6 x7 x8 x9 x10 x11 x12 : Option Value} {r : List (Option Value)} {x : Int32} (hd : decode M.2.1 pc = .ok (.istore 12, 2)) (hn : 12 < M.2.2.1) (hc1 : ez_c1 x11 = true) (hq : pc + 2 = q) (k : E G M d Q h n mc ms q (x0 :: x1 :: x2 :: x3 :: x4 :: x5 :: x6 :: x7 :: x8 :: x9 :: x10 :: x11 :: some (.int x) :: r) st) : E G M d Q h n mc ms pc (x0 :: x1 :: x2 :: x3 :: x4 :: x5 :: x6 :: x7 :: x8 :: x9 :: x10 :: x11 :: x12 :: r) (.int x :: st) := ez_istore' hd hn rfl (Or.inr ⟨x11, rfl, hc1⟩) hq k
theorem ez_istore_13 {G : ez_G} {M : ez_M} {d : Nat} {Q : ez_Q} {h : ez_H} {n mc ms pc q : Nat} {st : List Value} {x0 x1 x2 x3 x4 x5 x6 x7 x8 x9 x10 x11 x12 x13 : Option Value} {r : List (Option Value)} {x : Int32} (hd : decode M.2.1 pc = .ok (.istore 13, 2)) (hn : 13 < M.2.2.1) (hc1 : ez_c1 x12 = true) (hq : pc + 2 = q) (k : E G M d Q h n mc ms q (x0 :: x1 :: x2 :: x3 :: x4 :: x5 :: x6 :: x7 :: x8 :: x9 :: x10 :: x11 :: x12 :: some (.int x) :: r) st) : E G M d Q h n mc ms pc (x0 :: x1 :: x2 :: x3 :: x4 :: x5 :: x6 :: x7 :: x8 :: x9 :: x10 :: x11 :: x12 :: x13 :: r) (.int x :: st) := ez_istore' hd hn rfl (Or.inr ⟨x12, rfl, hc1⟩) hq k
theorem ez_istore_14 {G : ez_G} {M : ez_M} {d : Nat} {Q : ez_Q} {h : ez_H} {n mc ms pc q : Nat} {st : List Value} {x0 x1 x2 x3 x4 x5 x6 x7 x8 x9 x10 x11 x12 x13 x14 : Option Value} {r : List (Option Value)} {x : Int32} (hd : decode M.2.1 pc = .ok (.istore 14, 2)) (hn : 14 < M.2.2.1) (hc1 : ez_c1 x13 = true) (hq : pc + 2 = q) (k : E G M d Q h n mc ms q (x0 :: x1 :: x2 :: x3 :: x4 :: x5 :: x6 :: x7 :: x8 :: x9 :: x10 :: x11 :: x12 :: x13 :: some (.int x) :: r) st) : E G M d Q h n mc ms pc (x0 :: x1 :: x2 :: x3 :: x4 :: x5 :: x6 :: x7 :: x8 :: x9 :: x10 :: x11 :: x12 :: x13 :: x14 :: r) (.int x :: st) := ez_istore' hd hn rfl (Or.inr ⟨x13, rfl, hc1⟩) hq k
theorem ez_istore_15 {G : ez_G} {M : ez_M} {d : Nat} {Q : ez_Q} {h : ez_H} {n mc ms pc q : Nat} {st : List Value} {x0 x1 x2 x3 x4 x5 x6 x7 x8 x9 x10 x11 x12 x13 x14 x15 : Option Value} {r : List (Option Value)} {x : Int32} (hd : decode M.2.1 pc = .ok (.istore 15, 2)) (hn : 15 < M.2.2.1) (hc1 : ez_c1 x14 = true) (hq : pc + 2 = q) (k : E G M d Q h n mc ms q (x0 :: x1 :: x2 :: x3 :: x4 :: x5 :: x6 :: x7 :: x8 :: x9 :: x10 :: x11 :: x12 :: x13 :: x14 :: some (.int x) :: r) st) : E G M d Q h n mc ms pc (x0 :: x1 :: x2 :: x3 :: x4 :: x5 :: x6 :: x7 :: x8 :: x9 :: x10 :: x11 :: x12 :: x13 :: x14 :: x15 :: r) (.int x :: st) := ez_istore' hd hn rfl (Or.inr ⟨x14, rfl, hc1⟩) hq k
theorem ez_istore_16 {G : ez_G} {M : ez_M} {d : Nat} {Q : ez_Q} {h : ez_H} {n mc ms pc q : Nat} {st : List Value} {x0 x1 x2 x3 x4 x5 x6 x7 x8 x9 x10 x11 x12 x13 x14 x15 x16 : Option Value} {r : List (Option Value)} {x : Int32} (hd : decode M.2.1 pc = .ok (.istore 16, 2)) (hn : 16 < M.2.2.1) (hc1 : ez_c1 x15 = true) (hq : pc + 2 = q) (k : E G M d Q h n mc ms q (x0 :: x1 :: x2 :: x3 :: x4 :: x5 :: x6 :: x7 :: x8 :: x9 :: x10 :: x11 :: x12 :: x13 :: x14 :: x15 :: some (.int x) :: r) st) : E G M d Q h n mc ms pc (x0 :: x1 :: x2 :: x3 :: x4 :: x5 :: x6 :: x7 :: x8 :: x9 :: x10 :: x11 :: x12 :: x13 :: x14 :: x15 :: x16 :: r) (.int x :: st) := ez_istore' hd hn rfl (Or.inr ⟨x15, rfl, hc1⟩) hq k
theorem ez_istore_17 {G : ez_G} {M : ez_M} {d : Nat} {Q : ez_Q} {h : ez_H} {n mc ms pc q : Nat} {st : List Value} {x0 x1 x2 x3 x4 x5 x6 x7 x8 x9 x10 x11 x12 x13 x14 x15 x16 x17 : Option Value} {r : List (Option Value)} {x : Int32} (hd : decode M.2.1 pc = .ok (.istore 17, 2)) (hn : 17 < M.2.2.1) (hc1 : ez_c1 x16 = true) (hq : pc + 2 = q) (k : E G M d Q h n mc ms q (x0 :: x1 :: x2 :: x3 :: x4 :: x5 :: x6 :: x7 :: x8 :: x9 :: x10 :: x11 :: x12 :: x13 :: x14 :: x15 :: x16 :: some (.int x) :: r) st) : E G M d Q h n mc ms pc (x0 :: x1 :: x2 :: x3 :: x4 :: x5 :: x6 :: x7 :: x8 :: x9 :: x10 :: x11 :: x12 :: x13 :: x14 :: x15 :: x16 :: x17 :: r) (.int x :: st) := ez_istore' hd hn rfl (Or.inr ⟨x16, rfl, hc1⟩) hq k
theorem ez_istore_18 {G : ez_G} {M : ez_M} {d : Nat} {Q : ez_Q} {h : ez_H} {n mc ms pc q : Nat} {st : List Value} {x0 x1 x2 x3 x4 x5 x6 x7 x8 x9 x10 x11 x12 x13 x14 x15 x16 x17 x18 : Option Value} {r : List (Option Value)} {x : Int32} (hd : decode M.2.1 pc = .ok (.istore 18, 2)) (hn : 18 < M.2.2.1) (hc1 : ez_c1 x17 = true) (hq : pc + 2 = q) (k : E G M d Q h n mc ms q (x0 :: x1 :: x2 :: x3 :: x4 :: x5 :: x6 :: x7 :: x8 :: x9 :: x10 :: x11 :: x12 :: x13 :: x14 :: x15 :: x16 :: x17 :: some (.int x) :: r) st) : E G M d Q h n mc ms pc (x0 :: x1 :: x2 :: x3 :: x4 :: x5 :: x6 :: x7 :: x8 :: x9 :: x10 :: x11 :: x12 :: x13 :: x14 :: x15 :: x16 :: x17 :: x18 :: r) (.int x :: st) := ez_istore' hd hn rfl (Or.inr ⟨x17, rfl, hc1⟩) hq k
theorem ez_istore_19 {G : ez_G} {M : ez_M} {d : Nat} {Q : ez_Q} {h : ez_H} {n mc ms pc q : Nat} {st : List Value} {x0 x1 x2 x3 x4 x5 x6 x7 x8 x9 x10 x11 x12 x13 x14 x15 x16 x17 x18 x19 : Option Value} {r : List (Option Value)} {x : Int32} (hd : decode M.2.1 pc = .ok (.istore 19, 2)) (hn : 19 < M.2.2.1) (hc1 : ez_c1 x18 = true) (hq : pc + 2 = q) (k : E G M d Q h n mc ms q (x0 :: x1 :: x2 :: x3 :: x4 :: x5 :: x6 :: x7 :: x8 :: x9 :: x10 :: x11 :: x12 :: x13 :: x14 :: x15 :: x16 :: x17 :: x18 :: some (.int x) :: r) st) : E G M d Q h n mc ms pc (x0 :: x1 :: x2 :: x3 :: x4 :: x5 :: x6 :: x7 :: x8 :: x9 :: x10 :: x11 :: x12 :: x13 :: x14 :: x15 :: x16 :: x17 :: x18 :: x19 :: r) (.int x :: st) := ez_istore' hd hn rfl (Or.inr ⟨x18, rfl, hc1⟩) hq k
theorem ez_astore_0 {G : ez_G} {M : ez_M} {d : Nat} {Q : ez_Q} {h : ez_H} {n mc ms pc q : Nat} {st : List Value} {x0 : Option Value} {r : List (Option Value)} {x : Nat} {f : Fin 4} (hd : decode M.2.1 pc = .ok (.astore_n f, 1)) (hi : (f : Nat) = 0) (hn : 0 < M.2.2.1) (hq : pc + 1 = q) (k : E G M d Q h n mc ms q (some (.ref x) :: r) st) : E G M d Q h n mc ms pc (x0 :: r) (.ref x :: st) := ez_astore_n' 0 hd hi hn rfl (Or.inl rfl) hq k
theorem ez_astore_1 {G : ez_G} {M : ez_M} {d : Nat} {Q : ez_Q} {h : ez_H} {n mc ms pc q : Nat} {st : List Value} {x0 x1 : Option Value} {r : List (Option Value)} {x : Nat} {f : Fin 4} (hd : decode M.2.1 pc = .ok (.astore_n f, 1)) (hi : (f : Nat) = 1) (hn : 1 < M.2.2.1) (hc1 : ez_c1 x0 = true) (hq : pc + 1 = q) (k : E G M d Q h n mc ms q (x0 :: some (.ref x) :: r) st) : E G M d Q h n mc ms pc (x0 :: x1 :: r) (.ref x :: st) := ez_astore_n' 1 hd hi hn rfl (Or.inr ⟨x0, rfl, hc1⟩) hq k
theorem ez_astore_2 {G : ez_G} {M : ez_M} {d : Nat} {Q : ez_Q} {h : ez_H} {n mc ms pc q : Nat} {st : List Value} {x0 x1 x2 : Option Value} {r : List (Option Value)} {x : Nat} {f : Fin 4} (hd : decode M.2.1 pc = .ok (.astore_n f, 1)) (hi : (f : Nat) = 2) (hn : 2 < M.2.2.1) (hc1 : ez_c1 x1 = true) (hq : pc + 1 = q) (k : E G M d Q h n mc ms q (x0 :: x1 :: some (.ref x) :: r) st) : E G M d Q h n mc ms pc (x0 :: x1 :: x2 :: r) (.ref x :: st) := ez_astore_n' 2 hd hi hn rfl (Or.inr ⟨x1, rfl, hc1⟩) hq k
theorem ez_astore_3 {G : ez_G} {M : ez_M} {d : Nat} {Q : ez_Q} {h : ez_H} {n mc ms pc q : Nat} {st : List Value} {x0 x1 x2 x3 : Option Value} {r : List (Option Value)} {x : Nat} {f : Fin 4} (hd : decode M.2.1 pc = .ok (.astore_n f, 1)) (hi : (f : Nat) = 3) (hn : 3 < M.2.2.1) (hc1 : ez_c1 x2 = true) (hq : pc + 1 = q) (k : E G M d Q h n mc ms q (x0 :: x1 :: x2 :: some (.ref x) :: r) st) : E G M d Q h n mc ms pc (x0 :: x1 :: x2 :: x3 :: r) (.ref x :: st) := ez_astore_n' 3 hd hi hn rfl (Or.inr ⟨x2, rfl, hc1⟩) hq k
theorem ez_astore_4 {G : ez_G} {M : ez_M} {d : Nat} {Q : ez_Q} {h : ez_H} {n mc ms pc q : Nat} {st : List Value} {x0 x1 x2 x3 x4 : Option Value} {r : List (Option Value)} {x : Nat} (hd : decode M.2.1 pc = .ok (.astore 4, 2)) (hn : 4 < M.2.2.1) (hc1 : ez_c1 x3 = true) (hq : pc + 2 = q) (k : E G M d Q h n mc ms q (x0 :: x1 :: x2 :: x3 :: some (.ref x) :: r) st) : E G M d Q h n mc ms pc (x0 :: x1 :: x2 :: x3 :: x4 :: r) (.ref x :: st) := ez_astore' hd hn rfl (Or.inr ⟨x3, rfl, hc1⟩) hq k
theorem ez_astore_5 {G : ez_G} {M : ez_M} {d : Nat} {Q : ez_Q} {h : ez_H} {n mc ms pc q : Nat} {st : List Value} {x0 x1 x2 x3 x4 x5 : Option Value} {r : List (Option Value)} {x : Nat} (hd : decode M.2.1 pc = .ok (.astore 5, 2)) (hn : 5 < M.2.2.1) (hc1 : ez_c1 x4 = true) (hq : pc + 2 = q) (k : E G M d Q h n mc ms q (x0 :: x1 :: x2 :: x3 :: x4 :: some (.ref x) :: r) st) : E G M d Q h n mc ms pc (x0 :: x1 :: x2 :: x3 :: x4 :: x5 :: r) (.ref x :: st) := ez_astore' hd hn rfl (Or.inr ⟨x4, rfl, hc1⟩) hq k
theorem ez_astore_6 {G : ez_G} {M : ez_M} {d : Nat} {Q : ez_Q} {h : ez_H} {n mc ms pc q : Nat} {st : List Value} {x0 x1 x2 x3 x4 x5 x6 : Option Value} {r : List (Option Value)} {x : Nat} (hd : decode M.2.1 pc = .ok (.astore 6, 2)) (hn : 6 < M.2.2.1) (hc1 : ez_c1 x5 = true) (hq : pc + 2 = q) (k : E G M d Q h n mc ms q (x0 :: x1 :: x2 :: x3 :: x4 :: x5 :: some (.ref x) :: r) st) : E G M d Q h n mc ms pc (x0 :: x1 :: x2 :: x3 :: x4 :: x5 :: x6 :: r) (.ref x :: st) := ez_astore' hd hn rfl (Or.inr ⟨x5, rfl, hc1⟩) hq k
theorem ez_astore_7 {G : ez_G} {M : ez_M} {d : Nat} {Q : ez_Q} {h : ez_H} {n mc ms pc q : Nat} {st : List Value} {x0 x1 x2 x3 x4 x5 x6 x7 : Option Value} {r : List (Option Value)} {x : Nat} (hd : decode M.2.1 pc = .ok (.astore 7, 2)) (hn : 7 < M.2.2.1) (hc1 : ez_c1 x6 = true) (hq : pc + 2 = q) (k : E G M d Q h n mc ms q (x0 :: x1 :: x2 :: x3 :: x4 :: x5 :: x6 :: some (.ref x) :: r) st) : E G M d Q h n mc ms pc (x0 :: x1 :: x2 :: x3 :: x4 :: x5 :: x6 :: x7 :: r) (.ref x :: st) := ez_astore' hd hn rfl (Or.inr ⟨x6, rfl, hc1⟩) hq k
theorem ez_astore_8 {G : ez_G} {M : ez_M} {d : Nat} {Q : ez_Q} {h : ez_H} {n mc ms pc q : Nat} {st : List Value} {x0 x1 x2 x3 x4 x5 x6 x7 x8 : Option Value} {r : List (Option Value)} {x : Nat} (hd : decode M.2.1 pc = .ok (.astore 8, 2)) (hn : 8 < M.2.2.1) (hc1 : ez_c1 x7 = true) (hq : pc + 2 = q) (k : E G M d Q h n mc ms q (x0 :: x1 :: x2 :: x3 :: x4 :: x5 :: x6 :: x7 :: some (.ref x) :: r) st) : E G M d Q h n mc ms pc (x0 :: x1 :: x2 :: x3 :: x4 :: x5 :: x6 :: x7 :: x8 :: r) (.ref x :: st) := ez_astore' hd hn rfl (Or.inr ⟨x7, rfl, hc1⟩) hq k
theorem ez_astore_9 {G : ez_G} {M : ez_M} {d : Nat} {Q : ez_Q} {h : ez_H} {n mc ms pc q : Nat} {st : List Value} {x0 x1 x2 x3 x4 x5 x6 x7 x8 x9 : Option Value} {r : List (Option Value)} {x : Nat} (hd : decode M.2.1 pc = .ok (.astore 9, 2)) (hn : 9 < M.2.2.1) (hc1 : ez_c1 x8 = true) (hq : pc + 2 = q) (k : E G M d Q h n mc ms q (x0 :: x1 :: x2 :: x3 :: x4 :: x5 :: x6 :: x7 :: x8 :: some (.ref x) :: r) st) : E G M d Q h n mc ms pc (x0 :: x1 :: x2 :: x3 :: x4 :: x5 :: x6 :: x7 :: x8 :: x9 :: r) (.ref x :: st) := ez_astore' hd hn rfl (Or.inr ⟨x8, rfl, hc1⟩) hq k
theorem ez_astore_10 {G : ez_G} {M : ez_M} {d : Nat} {Q : ez_Q} {h : ez_H} {n mc ms pc q : Nat} {st : List Value} {x0 x1 x2 x3 x4 x5 x6 x7 x8 x9 x10 : Option Value} {r : List (Option Value)} {x : Nat} (hd : decode M.2.1 pc = .ok (.astore 10, 2)) (hn : 10 < M.2.2.1) (hc1 : ez_c1 x9 = true) (hq : pc + 2 = q) (k : E G M d Q h n mc ms q (x0 :: x1 :: x2 :: x3 :: x4 :: x5 :: x6 :: x7 :: x8 :: x9 :: some (.ref x) :: r) st) : E G M d Q h n mc ms pc (x0 :: x1 :: x2 :: x3 :: x4 :: x5 :: x6 :: x7 :: x8 :: x9 :: x10 :: r) (.ref x :: st) := ez_astore' hd hn rfl (Or.inr ⟨x9, rfl, hc1⟩) hq k
theorem ez_astore_11 {G : ez_G} {M : ez_M} {d : Nat} {Q : ez_Q} {h : ez_H} {n mc ms pc q : Nat} {st : List Value} {x0 x1 x2 x3 x4 x5 x6 x7 x8 x9 x10 x11 : Option Value} {r : List (Option Value)} {x : Nat} (hd : decode M.2.1 pc = .ok (.astore 11, 2)) (hn : 11 < M.2.2.1) (hc1 : ez_c1 x10 = true) (hq : pc + 2 = q) (k : E G M d Q h n mc ms q (x0 :: x1 :: x2 :: x3 :: x4 :: x5 :: x6 :: x7 :: x8 :: x9 :: x10 :: some (.ref x) :: r) st) : E G M d Q h n mc ms pc (x0 :: x1 :: x2 :: x3 :: x4 :: x5 :: x6 :: x7 :: x8 :: x9 :: x10 :: x11 :: r) (.ref x :: st) := ez_astore' hd hn rfl (Or.inr ⟨x10, rfl, hc1⟩) hq k
theorem ez_astore_12 {G : ez_G} {M : ez_M} {d : Nat} {Q : ez_Q} {h : ez_H} {n mc ms pc q : Nat} {st : List Value} {x0 x1 x2 x3 x4 x5 x6 x7 x8 x9 x10 x11 x12 : Option Value} {r : List (Option Value)} {x : Nat} (hd : decode M.2.1 pc = .ok (.astore 12, 2)) (hn : 12 < M.2.2.1) (hc1 : ez_c1 x11 = true) (hq : pc + 2 = q) (k : E G M d Q h n mc ms q (x0 :: x1 :: x2 :: x3 :: x4 :: x5 :: x6 :: x7 :: x8 :: x9 :: x10 :: x11 :: some (.ref x) :: r) st) : E G M d Q h n mc ms pc (x0 :: x1 :: x2 :: x3 :: x4 :: x5 :: x6 :: x7 :: x8 :: x9 :: x10 :: x11 :: x12 :: r) (.ref x :: st) := ez_astore' hd hn rfl (Or.inr ⟨x11, rfl, hc1⟩) hq k
theorem ez_astore_13 {G : ez_G} {M : ez_M} {d : Nat} {Q : ez_Q} {h : ez_H} {n mc ms pc q : Nat} {st : List Value} {x0 x1 x2 x3 x4 x5 x6 x7 x8 x9 x10 x11 x12 x13 : Option Value} {r : List (Option Value)} {x : Nat} (hd : decode M.2.1 pc = .ok (.astore 13, 2)) (hn : 13 < M.2.2.1) (hc1 : ez_c1 x12 = true) (hq : pc + 2 = q) (k : E G M d Q h n mc ms q (x0 :: x1 :: x2 :: x3 :: x4 :: x5 :: x6 :: x7 :: x8 :: x9 :: x10 :: x11 :: x12 :: some (.ref x) :: r) st) : E G M d Q h n mc ms pc (x0 :: x1 :: x2 :: x3 :: x4 :: x5 :: x6 :: x7 :: x8 :: x9 :: x10 :: x11 :: x12 :: x13 :: r) (.ref x :: st) := ez_astore' hd hn rfl (Or.inr ⟨x12, rfl, hc1⟩) hq k
theorem ez_astore_14 {G : ez_G} {M : ez_M} {d : Nat} {Q : ez_Q} {h : ez_H} {n mc ms pc q : Nat} {st : List Value} {x0 x1 x2 x3 x4 x5 x6 x7 x8 x9 x10 x11 x12 x13 x14 : Option Value} {r : List (Option Value)} {x : Nat} (hd : decode M.2.1 pc = .ok (.astore 14, 2)) (hn : 14 < M.2.2.1) (hc1 : ez_c1 x13 = true) (hq : pc + 2 = q) (k : E G M d Q h n mc ms q (x0 :: x1 :: x2 :: x3 :: x4 :: x5 :: x6 :: x7 :: x8 :: x9 :: x10 :: x11 :: x12 :: x13 :: some (.ref x) :: r) st) : E G M d Q h n mc ms pc (x0 :: x1 :: x2 :: x3 :: x4 :: x5 :: x6 :: x7 :: x8 :: x9 :: x10 :: x11 :: x12 :: x13 :: x14 :: r) (.ref x :: st) := ez_astore' hd hn rfl (Or.inr ⟨x13, rfl, hc1⟩) hq k
theorem ez_astore_15 {G : ez_G} {M : ez_M} {d : Nat} {Q : ez_Q} {h : ez_H} {n mc ms pc q : Nat} {st : List Value} {x0 x1 x2 x3 x4 x5 x6 x7 x8 x9 x10 x11 x12 x13 x14 x15 : Option Value} {r : List (Option Value)} {x : Nat} (hd : decode M.2.1 pc = .ok (.astore 15, 2)) (hn : 15 < M.2.2.1) (hc1 : ez_c1 x14 = true) (hq : pc + 2 = q) (k : E G M d Q h n mc ms q (x0 :: x1 :: x2 :: x3 :: x4 :: x5 :: x6 :: x7 :: x8 :: x9 :: x10 :: x11 :: x12 :: x13 :: x14 :: some (.ref x) :: r) st) : E G M d Q h n mc ms pc (x0 :: x1 :: x2 :: x3 :: x4 :: x5 :: x6 :: x7 :: x8 :: x9 :: x10 :: x11 :: x12 :: x13 :: x14 :: x15 :: r) (.ref x :: st) := ez_astore' hd hn rfl (Or.inr ⟨x14, rfl, hc1⟩) hq k
theorem ez_astore_16 {G : ez_G} {M : ez_M} {d : Nat} {Q : ez_Q} {h : ez_H} {n mc ms pc q : Nat} {st : List Value} {x0 x1 x2 x3 x4 x5 x6 x7 x8 x9 x10 x11 x12 x13 x14 x15 x16 : Option Value} {r : List (Option Value)} {x : Nat} (hd : decode M.2.1 pc = .ok (.astore 16, 2)) (hn : 16 < M.2.2.1) (hc1 : ez_c1 x15 = true) (hq : pc + 2 = q) (k : E G M d Q h n mc ms q (x0 :: x1 :: x2 :: x3 :: x4 :: x5 :: x6 :: x7 :: x8 :: x9 :: x10 :: x11 :: x12 :: x13 :: x14 :: x15 :: some (.ref x) :: r) st) : E G M d Q h n mc ms pc (x0 :: x1 :: x2 :: x3 :: x4 :: x5 :: x6 :: x7 :: x8 :: x9 :: x10 :: x11 :: x12 :: x13 :: x14 :: x15 :: x16 :: r) (.ref x :: st) := ez_astore' hd hn rfl (Or.inr ⟨x15, rfl, hc1⟩) hq k
theorem ez_astore_17 {G : ez_G} {M : ez_M} {d : Nat} {Q : ez_Q} {h : ez_H} {n mc ms pc q : Nat} {st : List Value} {x0 x1 x2 x3 x4 x5 x6 x7 x8 x9 x10 x11 x12 x13 x14 x15 x16 x17 : Option Value} {r : List (Option Value)} {x : Nat} (hd : decode M.2.1 pc = .ok (.astore 17, 2)) (hn : 17 < M.2.2.1) (hc1 : ez_c1 x16 = true) (hq : pc + 2 = q) (k : E G M d Q h n mc ms q (x0 :: x1 :: x2 :: x3 :: x4 :: x5 :: x6 :: x7 :: x8 :: x9 :: x10 :: x11 :: x12 :: x13 :: x14 :: x15 :: x16 :: some (.ref x) :: r) st) : E G M d Q h n mc ms pc (x0 :: x1 :: x2 :: x3 :: x4 :: x5 :: x6 :: x7 :: x8 :: x9 :: x10 :: x11 :: x12 :: x13 :: x14 :: x15 :: x16 :: x17 :: r) (.ref x :: st) := ez_astore' hd hn rfl (Or.inr ⟨x16, rfl, hc1⟩) hq k
theorem ez_astore_18 {G : ez_G} {M : ez_M} {d : Nat} {Q : ez_Q} {h : ez_H} {n mc ms pc q : Nat} {st : List Value} {x0 x1 x2 x3 x4 x5 x6 x7 x8 x9 x10 x11 x12 x13 x14 x15 x16 x17 x18 : Option Value} {r : List (Option Value)} {x : Nat} (hd : decode M.2.1 pc = .ok (.astore 18, 2)) (hn : 18 < M.2.2.1) (hc1 : ez_c1 x17 = true) (hq : pc + 2 = q) (k : E G M d Q h n mc ms q (x0 :: x1 :: x2 :: x3 :: x4 :: x5 :: x6 :: x7 :: x8 :: x9 :: x10 :: x11 :: x12 :: x13 :: x14 :: x15 :: x16 :: x17 :: some (.ref x) :: r) st) : E G M d Q h n mc ms pc (x0 :: x1 :: x2 :: x3 :: x4 :: x5 :: x6 :: x7 :: x8 :: x9 :: x10 :: x11 :: x12 :: x13 :: x14 :: x15 :: x16 :: x17 :: x18 :: r) (.ref x :: st) := ez_astore' hd hn rfl (Or.inr ⟨x17, rfl, hc1⟩) hq k
theorem ez_astore_19 {G : ez_G} {M : ez_M} {d : Nat} {Q : ez_Q} {h : ez_H} {n mc ms pc q : Nat} {st : List Value} {x0 x1 x2 x3 x4 x5 x6 x7 x8 x9 x10 x11 x12 x13 x14 x15 x16 x17 x18 x19 : Option Value} {r : List (Option Value)} {x : Nat} (hd : decode M.2.1 pc = .ok (.astore 19, 2)) (hn : 19 < M.2.2.1) (hc1 : ez_c1 x18 = true) (hq : pc + 2 = q) (k : E G M d Q h n mc ms q (x0 :: x1 :: x2 :: x3 :: x4 :: x5 :: x6 :: x7 :: x8 :: x9 :: x10 :: x11 :: x12 :: x13 :: x14 :: x15 :: x16 :: x17 :: x18 :: some (.ref x) :: r) st) : E G M d Q h n mc ms pc (x0 :: x1 :: x2 :: x3 :: x4 :: x5 :: x6 :: x7 :: x8 :: x9 :: x10 :: x11 :: x12 :: x13 :: x14 :: x15 :: x16 :: x17 :: x18 :: x19 :: r) (.ref x :: st) := ez_astore' hd hn rfl (Or.inr ⟨x18, rfl, hc1⟩) hq k
theorem ez_lstore_0 {G : ez_G} {M : ez_M} {d : Nat} {Q : ez_Q} {h : ez_H} {n mc ms pc q : Nat} {st : List Value} {x0 x1 : Option Value} {r : List (Option Value)} {x : Int64} {f : Fin 4} (hd : decode M.2.1 pc = .ok (.lstore_n f, 1)) (hi : (f : Nat) = 0) (hn : 0 + 1 < M.2.2.1) (hq : pc + 1 = q) (k : E G M d Q h n mc ms q (some (.long x) :: none :: r) st) : E G M d Q h n mc ms pc (x0 :: x1 :: r) (.long x :: st) := ez_lstore_n' 0 hd hi hn rfl (Or.inl rfl) hq k
theorem ez_lstore_1 {G : ez_G} {M : ez_M} {d : Nat} {Q : ez_Q} {h : ez_H} {n mc ms pc q : Nat} {st : List Value} {x0 x1 x2 : Option Value} {r : List (Option Value)} {x : Int64} {f : Fin 4} (hd : decode M.2.1 pc = .ok (.lstore_n f, 1)) (hi : (f : Nat) = 1) (hn : 1 + 1 < M.2.2.1) (hc1 : ez_c1 x0 = true) (hq : pc + 1 = q) (k : E G M d Q h n mc ms q (x0 :: some (.long x) :: none :: r) st) : E G M d Q h n mc ms pc (x0 :: x1 :: x2 :: r) (.long x :: st) := ez_lstore_n' 1 hd hi hn rfl (Or.inr ⟨x0, rfl, hc1⟩) hq k
theorem ez_lstore_2 {G : ez_G} {M : ez_M} {d : Nat} {Q : ez_Q} {h : ez_H} {n mc ms pc q : Nat} {st : List Value} {x0 x1 x2 x3 : Option Value} {r : List (Option Value)} {x : Int64} {f : Fin 4} (hd : decode M.2.1 pc = .ok (.lstore_n f, 1)) (hi : (f : Nat) = 2) (hn : 2 + 1 < M.2.2.1) (hc1 : ez_c1 x1 = true) (hq : pc + 1 = q) (k : E G M d Q h n mc ms q (x0 :: x1 :: some (.long x) :: none :: r) st) : E G M d Q h n mc ms pc (x0 :: x1 :: x2 :: x3 :: r) (.long x :: st) := ez_lstore_n' 2 hd hi hn rfl (Or.inr ⟨x1, rfl, hc1⟩) hq k
theorem ez_lstore_3 {G : ez_G} {M : ez_M} {d : Nat} {Q : ez_Q} {h : ez_H} {n mc ms pc q : Nat} {st : List Value} {x0 x1 x2 x3 x4 : Option Value} {r : List (Option Value)} {x : Int64} {f : Fin 4} (hd : decode M.2.1 pc = .ok (.lstore_n f, 1)) (hi : (f : Nat) = 3) (hn : 3 + 1 < M.2.2.1) (hc1 : ez_c1 x2 = true) (hq : pc + 1 = q) (k : E G M d Q h n mc ms q (x0 :: x1 :: x2 :: some (.long x) :: none :: r) st) : E G M d Q h n mc ms pc (x0 :: x1 :: x2 :: x3 :: x4 :: r) (.long x :: st) := ez_lstore_n' 3 hd hi hn rfl (Or.inr ⟨x2, rfl, hc1⟩) hq k
theorem ez_lstore_4 {G : ez_G} {M : ez_M} {d : Nat} {Q : ez_Q} {h : ez_H} {n mc ms pc q : Nat} {st : List Value} {x0 x1 x2 x3 x4 x5 : Option Value} {r : List (Option Value)} {x : Int64} (hd : decode M.2.1 pc = .ok (.lstore 4, 2)) (hn : 4 + 1 < M.2.2.1) (hc1 : ez_c1 x3 = true) (hq : pc + 2 = q) (k : E G M d Q h n mc ms q (x0 :: x1 :: x2 :: x3 :: some (.long x) :: none :: r) st) : E G M d Q h n mc ms pc (x0 :: x1 :: x2 :: x3 :: x4 :: x5 :: r) (.long x :: st) := ez_lstore' hd hn rfl (Or.inr ⟨x3, rfl, hc1⟩) hq k
theorem ez_lstore_5 {G : ez_G} {M : ez_M} {d : Nat} {Q : ez_Q} {h : ez_H} {n mc ms pc q : Nat} {st : List Value} {x0 x1 x2 x3 x4 x5 x6 : Option Value} {r : List (Option Value)} {x : Int64} (hd : decode M.2.1 pc = .ok (.lstore 5, 2)) (hn : 5 + 1 < M.2.2.1) (hc1 : ez_c1 x4 = true) (hq : pc + 2 = q) (k : E G M d Q h n mc ms q (x0 :: x1 :: x2 :: x3 :: x4 :: some (.long x) :: none :: r) st) : E G M d Q h n mc ms pc (x0 :: x1 :: x2 :: x3 :: x4 :: x5 :: x6 :: r) (.long x :: st) := ez_lstore' hd hn rfl (Or.inr ⟨x4, rfl, hc1⟩) hq k
theorem ez_lstore_6 {G : ez_G} {M : ez_M} {d : Nat} {Q : ez_Q} {h : ez_H} {n mc ms pc q : Nat} {st : List Value} {x0 x1 x2 x3 x4 x5 x6 x7 : Option Value} {r : List (Option Value)} {x : Int64} (hd : decode M.2.1 pc = .ok (.lstore 6, 2)) (hn : 6 + 1 < M.2.2.1) (hc1 : ez_c1 x5 = true) (hq : pc + 2 = q) (k : E G M d Q h n mc ms q (x0 :: x1 :: x2 :: x3 :: x4 :: x5 :: some (.long x) :: none :: r) st) : E G M d Q h n mc ms pc (x0 :: x1 :: x2 :: x3 :: x4 :: x5 :: x6 :: x7 :: r) (.long x :: st) := ez_lstore' hd hn rfl (Or.inr ⟨x5, rfl, hc1⟩) hq k
theorem ez_lstore_7 {G : ez_G} {M : ez_M} {d : Nat} {Q : ez_Q} {h : ez_H} {n mc ms pc q : Nat} {st : List Value} {x0 x1 x2 x3 x4 x5 x6 x7 x8 : Option Value} {r : List (Option Value)} {x : Int64} (hd : decode M.2.1 pc = .ok (.lstore 7, 2)) (hn : 7 + 1 < M.2.2.1) (hc1 : ez_c1 x6 = true) (hq : pc + 2 = q) (k : E G M d Q h n mc ms q (x0 :: x1 :: x2 :: x3 :: x4 :: x5 :: x6 :: some (.long x) :: none :: r) st) : E G M d Q h n mc ms pc (x0 :: x1 :: x2 :: x3 :: x4 :: x5 :: x6 :: x7 :: x8 :: r) (.long x :: st) := ez_lstore' hd hn rfl (Or.inr ⟨x6, rfl, hc1⟩) hq k
theorem ez_lstore_8 {G : ez_G} {M : ez_M} {d : Nat} {Q : ez_Q} {h : ez_H} {n mc ms pc q : Nat} {st : List Value} {x0 x1 x2 x3 x4 x5 x6 x7 x8 x9 : Option Value} {r : List (Option Value)} {x : Int64} (hd : decode M.2.1 pc = .ok (.lstore 8, 2)) (hn : 8 + 1 < M.2.2.1) (hc1 : ez_c1 x7 = true) (hq : pc + 2 = q) (k : E G M d Q h n mc ms q (x0 :: x1 :: x2 :: x3 :: x4 :: x5 :: x6 :: x7 :: some (.long x) :: none :: r) st) : E G M d Q h n mc ms pc (x0 :: x1 :: x2 :: x3 :: x4 :: x5 :: x6 :: x7 :: x8 :: x9 :: r) (.long x :: st) := ez_lstore' hd hn rfl (Or.inr ⟨x7, rfl, hc1⟩) hq k
theorem ez_dstore_0 {G : ez_G} {M : ez_M} {d : Nat} {Q : ez_Q} {h : ez_H} {n mc ms pc q : Nat} {st : List Value} {x0 x1 : Option Value} {r : List (Option Value)} {x : UInt64} {f : Fin 4} (hd : decode M.2.1 pc = .ok (.dstore_n f, 1)) (hi : (f : Nat) = 0) (hn : 0 + 1 < M.2.2.1) (hq : pc + 1 = q) (k : E G M d Q h n mc ms q (some (.double x) :: none :: r) st) : E G M d Q h n mc ms pc (x0 :: x1 :: r) (.double x :: st) := ez_dstore_n' 0 hd hi hn rfl (Or.inl rfl) hq k
theorem ez_dstore_1 {G : ez_G} {M : ez_M} {d : Nat} {Q : ez_Q} {h : ez_H} {n mc ms pc q : Nat} {st : List Value} {x0 x1 x2 : Option Value} {r : List (Option Value)} {x : UInt64} {f : Fin 4} (hd : decode M.2.1 pc = .ok (.dstore_n f, 1)) (hi : (f : Nat) = 1) (hn : 1 + 1 < M.2.2.1) (hc1 : ez_c1 x0 = true) (hq : pc + 1 = q) (k : E G M d Q h n mc ms q (x0 :: some (.double x) :: none :: r) st) : E G M d Q h n mc ms pc (x0 :: x1 :: x2 :: r) (.double x :: st) := ez_dstore_n' 1 hd hi hn rfl (Or.inr ⟨x0, rfl, hc1⟩) hq k
theorem ez_dstore_2 {G : ez_G} {M : ez_M} {d : Nat} {Q : ez_Q} {h : ez_H} {n mc ms pc q : Nat} {st : List Value} {x0 x1 x2 x3 : Option Value} {r : List (Option Value)} {x : UInt64} {f : Fin 4} (hd : decode M.2.1 pc = .ok (.dstore_n f, 1)) (hi : (f : Nat) = 2) (hn : 2 + 1 < M.2.2.1) (hc1 : ez_c1 x1 = true) (hq : pc + 1 = q) (k : E G M d Q h n mc ms q (x0 :: x1 :: some (.double x) :: none :: r) st) : E G M d Q h n mc ms pc (x0 :: x1 :: x2 :: x3 :: r) (.double x :: st) := ez_dstore_n' 2 hd hi hn rfl (Or.inr ⟨x1, rfl, hc1⟩) hq k
theorem ez_dstore_3 {G : ez_G} {M : ez_M} {d : Nat} {Q : ez_Q} {h : ez_H} {n mc ms pc q : Nat} {st : List Value} {x0 x1 x2 x3 x4 : Option Value} {r : List (Option Value)} {x : UInt64} {f : Fin 4} (hd : decode M.2.1 pc = .ok (.dstore_n f, 1)) (hi : (f : Nat) = 3) (hn : 3 + 1 < M.2.2.1) (hc1 : ez_c1 x2 = true) (hq : pc + 1 = q) (k : E G M d Q h n mc ms q (x0 :: x1 :: x2 :: some (.double x) :: none :: r) st) : E G M d Q h n mc ms pc (x0 :: x1 :: x2 :: x3 :: x4 :: r) (.double x :: st) := ez_dstore_n' 3 hd hi hn rfl (Or.inr ⟨x2, rfl, hc1⟩) hq k
theorem ez_dstore_4 {G : ez_G} {M : ez_M} {d : Nat} {Q : ez_Q} {h : ez_H} {n mc ms pc q : Nat} {st : List Value} {x0 x1 x2 x3 x4 x5 : Option Value} {r : List (Option Value)} {x : UInt64} (hd : decode M.2.1 pc = .ok (.dstore 4, 2)) (hn : 4 + 1 < M.2.2.1) (hc1 : ez_c1 x3 = true) (hq : pc + 2 = q) (k : E G M d Q h n mc ms q (x0 :: x1 :: x2 :: x3 :: some (.double x) :: none :: r) st) : E G M d Q h n mc ms pc (x0 :: x1 :: x2 :: x3 :: x4 :: x5 :: r) (.double x :: st) := ez_dstore' hd hn rfl (Or.inr ⟨x3, rfl, hc1⟩) hq k
theorem ez_dstore_5 {G : ez_G} {M : ez_M} {d : Nat} {Q : ez_Q} {h : ez_H} {n mc ms pc q : Nat} {st : List Value} {x0 x1 x2 x3 x4 x5 x6 : Option Value} {r : List (Option Value)} {x : UInt64} (hd : decode M.2.1 pc = .ok (.dstore 5, 2)) (hn : 5 + 1 < M.2.2.1) (hc1 : ez_c1 x4 = true) (hq : pc + 2 = q) (k : E G M d Q h n mc ms q (x0 :: x1 :: x2 :: x3 :: x4 :: some (.double x) :: none :: r) st) : E G M d Q h n mc ms pc (x0 :: x1 :: x2 :: x3 :: x4 :: x5 :: x6 :: r) (.double x :: st) := ez_dstore' hd hn rfl (Or.inr ⟨x4, rfl, hc1⟩) hq k
theorem ez_dstore_6 {G : ez_G} {M : ez_M} {d : Nat} {Q : ez_Q} {h : ez_H} {n mc ms pc q : Nat} {st : List Value} {x0 x1 x2 x3 x4 x5 x6 x7 : Option Value} {r : List (Option Value)} {x : UInt64} (hd : decode M.2.1 pc = .ok (.dstore 6, 2)) (hn : 6 + 1 < M.2.2.1) (hc1 : ez_c1 x5 = true) (hq : pc + 2 = q) (k : E G M d Q h n mc ms q (x0 :: x1 :: x2 :: x3 :: x4 :: x5 :: some (.double x) :: none :: r) st) : E G M d Q h n mc ms pc (x0 :: x1 :: x2 :: x3 :: x4 :: x5 :: x6 :: x7 :: r) (.double x :: st) := ez_dstore' hd hn rfl (Or.inr ⟨x5, rfl, hc1⟩) hq k
theorem ez_dstore_7 {G : ez_G} {M : ez_M} {d : Nat} {Q : ez_Q} {h : ez_H} {n mc ms pc q : Nat} {st : List Value} {x0 x1 x2 x3 x4 x5 x6 x7 x8 : Option Value} {r : List (Option Value)} {x : UInt64} (hd : decode M.2.1 pc = .ok (.dstore 7, 2)) (hn : 7 + 1 < M.2.2.1) (hc1 : ez_c1 x6 = true) (hq : pc + 2 = q) (k : E G M d Q h n mc ms q (x0 :: x1 :: x2 :: x3 :: x4 :: x5 :: x6 :: some (.double x) :: none :: r) st) : E G M d Q h n mc ms pc (x0 :: x1 :: x2 :: x3 :: x4 :: x5 :: x6 :: x7 :: x8 :: r) (.double x :: st) := ez_dstore' hd hn rfl (Or.inr ⟨x6, rfl, hc1⟩) hq k
theorem ez_dstore_8 {G : ez_G} {M : ez_M} {d : Nat} {Q : ez_Q} {h : ez_H} {n mc ms pc q : Nat} {st : List Value} {x0 x1 x2 x3 x4 x5 x6 x7 x8 x9 : Option Value} {r : List (Option Value)} {x : UInt64} (hd : decode M.2.1 pc = .ok (.dstore 8, 2)) (hn : 8 + 1 < M.2.2.1) (hc1 : ez_c1 x7 = true) (hq : pc + 2 = q) (k : E G M d Q h n mc ms q (x0 :: x1 :: x2 :: x3 :: x4 :: x5 :: x6 :: x7 :: some (.double x) :: none :: r) st) : E G M d Q h n mc ms pc (x0 :: x1 :: x2 :: x3 :: x4 :: x5 :: x6 :: x7 :: x8 :: x9 :: r) (.double x :: st) := ez_dstore' hd hn rfl (Or.inr ⟨x7, rfl, hc1⟩) hq k
theorem ez_iinc_0 {G : ez_G} {M : ez_M} {d : Nat} {Q : ez_Q} {h : ez_H} {n mc ms pc q : Nat} {st : List Value} {r : List (Option Value)} {x v : Int32} {z : Int} (hd : decode M.2.1 pc = .ok (.iinc 0 z, 3)) (hv : x + Int32.ofInt z = v) (hn : 0 < M.2.2.1) (hq : pc + 3 = q) (k : E G M d Q h n mc ms q (some (.int v) :: r) st) : E G M d Q h n mc ms pc (some (.int x) :: r) st := ez_iinc' hd rfl hv hn rfl (Or.inl rfl) hq k
theorem ez_iinc_1 {G : ez_G} {M : ez_M} {d : Nat} {Q : ez_Q} {h : ez_H} {n mc ms pc q : Nat} {st : List Value} {x0 : Option Value} {r : List (Option Value)} {x v : Int32} {z : Int} (hd : decode M.2.1 pc = .ok (.iinc 1 z, 3)) (hv : x + Int32.ofInt z = v) (hn : 1 < M.2.2.1) (hc1 : ez_c1 x0 = true) (hq : pc + 3 = q) (k : E G M d Q h n mc ms q (x0 :: some (.int v) :: r) st) : E G M d Q h n mc ms pc (x0 :: some (.int x) :: r) st := ez_iinc' hd rfl hv hn rfl (Or.inr ⟨x0, rfl, hc1⟩) hq k
theorem ez_iinc_2 {G : ez_G} {M : ez_M} {d : Nat} {Q : ez_Q} {h : ez_H} {n mc ms pc q : Nat} {st : List Value} {x0 x1 : Option Value} {r : List (Option Value)} {x v : Int32} {z : Int} (hd : decode M.2.1 pc = .ok (.iinc 2 z, 3)) (hv : x + Int32.ofInt z = v) (hn : 2 < M.2.2.1) (hc1 : ez_c1 x1 = true) (hq : pc + 3 = q) (k : E G M d Q h n mc ms q (x0 :: x1 :: some (.int v) :: r) st) : E G M d Q h n mc ms pc (x0 :: x1 :: some (.int x) :: r) st := ez_iinc' hd rfl hv hn rfl (Or.inr ⟨x1, rfl, hc1⟩) hq k
theorem ez_iinc_3 {G : ez_G} {M : ez_M} {d : Nat} {Q : ez_Q} {h : ez_H} {n mc ms pc q : Nat} {st : List Value} {x0 x1 x2 : Option Value} {r : List (Option Value)} {x v : Int32} {z : Int} (hd : decode M.2.1 pc = .ok (.iinc 3 z, 3)) (hv : x + Int32.ofInt z = v) (hn : 3 < M.2.2.1) (hc1 : ez_c1 x2 = true) (hq : pc + 3 = q) (k : E G M d Q h n mc ms q (x0 :: x1 :: x2 :: some (.int v) :: r) st) : E G M d Q h n mc ms pc (x0 :: x1 :: x2 :: some (.int x) :: r) st := ez_iinc' hd rfl hv hn rfl (Or.inr ⟨x2, rfl, hc1⟩) hq k
theorem ez_iinc_4 {G : ez_G} {M : ez_M} {d : Nat} {Q : ez_Q} {h : ez_H} {n mc ms pc q : Nat} {st : List Value} {x0 x1 x2 x3 : Option Value} {r : List (Option Value)} {x v : Int32} {z : Int} (hd : decode M.2.1 pc = .ok (.iinc 4 z, 3)) (hv : x + Int32.ofInt z = v) (hn : 4 < M.2.2.1) (hc1 : ez_c1 x3 = true) (hq : pc + 3 = q) (k : E G M d Q h n mc ms q (x0 :: x1 :: x2 :: x3 :: some (.int v) :: r) st) : E G M d Q h n mc ms pc (x0 :: x1 :: x2 :: x3 :: some (.int x) :: r) st := ez_iinc' hd rfl hv hn rfl (Or.inr ⟨x3, rfl, hc1⟩) hq k
theorem ez_iinc_5 {G : ez_G} {M : ez_M} {d : Nat} {Q : ez_Q} {h : ez_H} {n mc ms pc q : Nat} {st : List Value} {x0 x1 x2 x3 x4 : Option Value} {r : List (Option Value)} {x v : Int32} {z : Int} (hd : decode M.2.1 pc = .ok (.iinc 5 z, 3)) (hv : x + Int32.ofInt z = v) (hn : 5 < M.2.2.1) (hc1 : ez_c1 x4 = true) (hq : pc + 3 = q) (k : E G M d Q h n mc ms q (x0 :: x1 :: x2 :: x3 :: x4 :: some (.int v) :: r) st) : E G M d Q h n mc ms pc (x0 :: x1 :: x2 :: x3 :: x4 :: some (.int x) :: r) st := ez_iinc' hd rfl hv hn rfl (Or.inr ⟨x4, rfl, hc1⟩) hq k
theorem ez_iinc_6 {G : ez_G} {M : ez_M} {d : Nat} {Q : ez_Q} {h : ez_H} {n mc ms pc q : Nat} {st : List Value} {x0 x1 x2 x3 x4 x5 : Option Value} {r : List (Option Value)} {x v : Int32} {z : Int} (hd : decode M.2.1 pc = .ok (.iinc 6 z, 3)) (hv : x + Int32.ofInt z = v) (hn : 6 < M.2.2.1) (hc1 : ez_c1 x5 = true) (hq : pc + 3 = q) (k : E G M d Q h n mc ms q (x0 :: x1 :: x2 :: x3 :: x4 :: x5 :: some (.int v) :: r) st) : E G M d Q h n mc ms pc (x0 :: x1 :: x2 :: x3 :: x4 :: x5 :: some (.int x) :: r) st := ez_iinc' hd rfl hv hn rfl (Or.inr ⟨x5, rfl, hc1⟩) hq k
theorem ez_iinc_7 {G : ez_G} {M : ez_M} {d : Nat} {Q : ez_Q} {h : ez_H} {n mc ms pc q : Nat} {st : List Value} {x0 x1 x2 x3 x4 x5 x6 : Option Value} {r : List (Option Value)} {x v : Int32} {z : Int} (hd : decode M.2.1 pc = .ok (.iinc 7 z, 3)) (hv : x + Int32.ofInt z = v) (hn : 7 < M.2.2.1) (hc1 : ez_c1 x6 = true) (hq : pc + 3 = q) (k : E G M d Q h n mc ms q (x0 :: x1 :: x2 :: x3 :: x4 :: x5 :: x6 :: some (.int v) :: r) st) : E G M d Q h n mc ms pc (x0 :: x1 :: x2 :: x3 :: x4 :: x5 :: x6 :: some (.int x) :: r) st := ez_iinc' hd rfl hv hn rfl (Or.inr ⟨x6, rfl, hc1⟩) hq k
theorem ez_iinc_8 {G : ez_G} {M : ez_M} {d : Nat} {Q : ez_Q} {h : ez_H} {n mc ms pc q : Nat} {st : List Value} {x0 x1 x2 x3 x4 x5 x6 x7 : Option Value} {r : List (Option Value)} {x v : Int32} {z : Int} (hd : decode M.2.1 pc = .ok (.iinc 8 z, 3)) (hv : x + Int32.ofInt z = v) (hn : 8 < M.2.2.1) (hc1 : ez_c1 x7 = true) (hq : pc + 3 = q) (k : E G M d Q h n mc ms q (x0 :: x1 :: x2 :: x3 :: x4 :: x5 :: x6 :: x7 :: some (.int v) :: r) st) : E G M d Q h n mc ms pc (x0 :: x1 :: x2 :: x3 :: x4 :: x5 :: x6 :: x7 :: some (.int x) :: r) st := ez_iinc' hd rfl hv hn rfl (Or.inr ⟨x7, rfl, hc1⟩) hq k
theorem ez_iinc_9 {G : ez_G} {M : ez_M} {d : Nat} {Q : ez_Q} {h : ez_H} {n mc ms pc q : Nat} {st : List Value} {x0 x1 x2 x3 x4 x5 x6 x7 x8 : Option Value} {r : List (Option Value)} {x v : Int32} {z : Int} (hd : decode M.2.1 pc = .ok (.iinc 9 z, 3)) (hv : x + Int32.ofInt z = v) (hn : 9 < M.2.2.1) (hc1 : ez_c1 x8 = true) (hq : pc + 3 = q) (k : E G M d Q h n mc ms q (x0 :: x1 :: x2 :: x3 :: x4 :: x5 :: x6 :: x7 :: x8 :: some (.int v) :: r) st) : E G M d Q h n mc ms pc (x0 :: x1 :: x2 :: x3 :: x4 :: x5 :: x6 :: x7 :: x8 :: some (.int x) :: r) st := ez_iinc' hd rfl hv hn rfl (Or.inr ⟨x8, rfl, hc1⟩) hq k
theorem ez_iinc_10 {G : ez_G} {M : ez_M} {d : Nat} {Q : ez_Q} {h : ez_H} {n mc ms pc q : Nat} {st : List Value} {x0 x1 x2 x3 x4 x5 x6 x7 x8 x9 : Option Value} {r : List (Option Value)} {x v : Int32} {z : Int} (hd : decode M.2.1 pc = .ok (.iinc 10 z, 3)) (hv : x + Int32.ofInt z = v) (hn : 10 < M.2.2.1) (hc1 : ez_c1 x9 = true) (hq : pc + 3 = q) (k : E G M d Q h n mc ms q (x0 :: x1 :: x2 :: x3 :: x4 :: x5 :: x6 :: x7 :: x8 :: x9 :: some (.int v) :: r) st) : E G M d Q h n mc ms pc (x0 :: x1 :: x2 :: x3 :: x4 :: x5 :: x6 :: x7 :: x8 :: x9 :: some (.int x) :: r) st := ez_iinc' hd rfl hv hn rfl (Or.inr ⟨x9, rfl, hc1⟩) hq k
theorem ez_iinc_11 {G : ez_G} {M : ez_M} {d : Nat} {Q : ez_Q} {h : ez_H} {n mc ms pc q : Nat} {st : List Value} {x0 x1 x2 x3 x4 x5 x6 x7 x8 x9 x10 : Option Value} {r : List (Option Value)} {x v : Int32} {z : Int} (hd : decode M.2.1 pc = .ok (.iinc 11 z, 3)) (hv : x + Int32.ofInt z = v) (hn : 11 < M.2.2.1) (hc1 : ez_c1 x10 = true) (hq : pc + 3 = q) (k : E G M d Q h n mc ms q (x0 :: x1 :: x2 :: x3 :: x4 :: x5 :: x6 :: x7 :: x8 :: x9 :: x10 :: some (.int v) :: r) st) : E G M d Q h n mc ms pc (x0 :: x1 :: x2 :: x3 :: x4 :: x5 :: x6 :: x7 :: x8 :: x9 :: x10 :: some (.int x) :: r) st := ez_iinc' hd rfl hv hn rfl (Or.inr ⟨x10, rfl, hc1⟩) hq k
theorem ez_iinc_12 {G : ez_G} {M : ez_M} {d : Nat} {Q : ez_Q} {h : ez_H} {n mc ms pc q : Nat} {st : List Value} {x0 x1 x2 x3 x4 x5 x6 x7 x8 x9 x10 x11 : Option Value} {r : List (Option Value)} {x v : Int32} {z : Int} (hd : decode M.2.1 pc = .ok (.iinc 12 z, 3)) (hv : x + Int32.ofInt z = v) (hn : 12 < M.2.2.1) (hc1 : ez_c1 x11 = true) (hq : pc + 3 = q) (k : E G M d Q h n mc ms q (x0 :: x1 :: x2 :: x3 :: x4 :: x5 :: x6 :: x7 :: x8 :: x9 :: x10 :: x11 :: some (.int v) :: r) st) : E G M d Q h n mc ms pc (x0 :: x1 :: x2 :: x3 :: x4 :: x5 :: x6 :: x7 :: x8 :: x9 :: x10 :: x11 :: some (.int x) :: r) st := ez_iinc' hd rfl hv hn rfl (Or.inr ⟨x11, rfl, hc1⟩) hq k
theorem ez_iinc_13 {G : ez_G} {M : ez_M} {d : Nat} {Q : ez_Q} {h : ez_H} {n mc ms pc q : Nat} {st : List Value} {x0 x1 x2 x3 x4 x5 x6 x7 x8 x9 x10 x11 x12 : Option Value} {r : List (Option Value)} {x v : Int32} {z : Int} (hd : decode M.2.1 pc = .ok (.iinc 13 z, 3)) (hv : x + Int32.ofInt z = v) (hn : 13 < M.2.2.1) (hc1 : ez_c1 x12 = true) (hq : pc + 3 = q) (k : E G M d Q h n mc ms q (x0 :: x1 :: x2 :: x3 :: x4 :: x5 :: x6 :: x7 :: x8 :: x9 :: x10 :: x11 :: x12 :: some (.int v) :: r) st) : E G M d Q h n mc ms pc (x0 :: x1 :: x2 :: x3 :: x4 :: x5 :: x6 :: x7 :: x8 :: x9 :: x10 :: x11 :: x12 :: some (.int x) :: r) st := ez_iinc' hd rfl hv hn rfl (Or.inr ⟨x12, rfl, hc1⟩) hq k
theorem ez_iinc_14 {G : ez_G} {M : ez_M} {d : Nat} {Q : ez_Q} {h : ez_H} {n mc ms pc q : Nat} {st : List Value} {x0 x1 x2 x3 x4 x5 x6 x7 x8 x9 x10 x11 x12 x13 : Option Value} {r : List (Option Value)} {x v : Int32} {z : Int} (hd : decode M.2.1 pc = .ok (.iinc 14 z, 3)) (hv : x + Int32.ofInt z = v) (hn : 14 < M.2.2.1) (hc1 : ez_c1 x13 = true) (hq : pc + 3 = q) (k : E G M d Q h n mc ms q (x0 :: x1 :: x2 :: x3 :: x4 :: x5 :: x6 :: x7 :: x8 :: x9 :: x10 :: x11 :: x12 :: x13 :: some (.int v) :: r) st) : E G M d Q h n mc ms pc (x0 :: x1 :: x2 :: x3 :: x4 :: x5 :: x6 :: x7 :: x8 :: x9 :: x10 :: x11 :: x12 :: x13 :: some (.int x) :: r) st := ez_iinc' hd rfl hv hn rfl (Or.inr ⟨x13, rfl, hc1⟩) hq k
theorem ez_iinc_15 {G : ez_G} {M : ez_M} {d : Nat} {Q : ez_Q} {h : ez_H} {n mc ms pc q : Nat} {st : List Value} {x0 x1 x2 x3 x4 x5 x6 x7 x8 x9 x10 x11 x12 x13 x14 : Option Value} {r : List (Option Value)} {x v : Int32} {z : Int} (hd : decode M.2.1 pc = .ok (.iinc 15 z, 3)) (hv : x + Int32.ofInt z = v) (hn : 15 < M.2.2.1) (hc1 : ez_c1 x14 = true) (hq : pc + 3 = q) (k : E G M d Q h n mc ms q (x0 :: x1 :: x2 :: x3 :: x4 :: x5 :: x6 :: x7 :: x8 :: x9 :: x10 :: x11 :: x12 :: x13 :: x14 :: some (.int v) :: r) st) : E G M d Q h n mc ms pc (x0 :: x1 :: x2 :: x3 :: x4 :: x5 :: x6 :: x7 :: x8 :: x9 :: x10 :: x11 :: x12 :: x13 :: x14 :: some (.int x) :: r) st := ez_iinc' hd rfl hv hn rfl (Or.inr ⟨x14, rfl, hc1⟩) hq k
theorem ez_iinc_16 {G : ez_G} {M : ez_M} {d : Nat} {Q : ez_Q} {h : ez_H} {n mc ms pc q : Nat} {st : List Value} {x0 x1 x2 x3 x4 x5 x6 x7 x8 x9 x10 x11 x12 x13 x14 x15 : Option Value} {r : List (Option Value)} {x v : Int32} {z : Int} (hd : decode M.2.1 pc = .ok (.iinc 16 z, 3)) (hv : x + Int32.ofInt z = v) (hn : 16 < M.2.2.1) (hc1 : ez_c1 x15 = true) (hq : pc + 3 = q) (k : E G M d Q h n mc ms q (x0 :: x1 :: x2 :: x3 :: x4 :: x5 :: x6 :: x7 :: x8 :: x9 :: x10 :: x11 :: x12 :: x13 :: x14 :: x15 :: some (.int v) :: r) st) : E G M d Q h n mc ms pc (x0 :: x1 :: x2 :: x3 :: x4 :: x5 :: x6 :: x7 :: x8 :: x9 :: x10 :: x11 :: x12 :: x13 :: x14 :: x15 :: some (.int x) :: r) st := ez_iinc' hd rfl hv hn rfl (Or.inr ⟨x15, rfl, hc1⟩) hq k
theorem ez_iinc_17 {G : ez_G} {M : ez_M} {d : Nat} {Q : ez_Q} {h : ez_H} {n mc ms pc q : Nat} {st : List Value} {x0 x1 x2 x3 x4 x5 x6 x7 x8 x9 x10 x11 x12 x13 x14 x15 x16 : Option Value} {r : List (Option Value)} {x v : Int32} {z : Int} (hd : decode M.2.1 pc = .ok (.iinc 17 z, 3)) (hv : x + Int32.ofInt z = v) (hn : 17 < M.2.2.1) (hc1 : ez_c1 x16 = true) (hq : pc + 3 = q) (k : E G M d Q h n mc ms q (x0 :: x1 :: x2 :: x3 :: x4 :: x5 :: x6 :: x7 :: x8 :: x9 :: x10 :: x11 :: x12 :: x13 :: x14 :: x15 :: x16 :: some (.int v) :: r) st) : E G M d Q h n mc ms pc (x0 :: x1 :: x2 :: x3 :: x4 :: x5 :: x6 :: x7 :: x8 :: x9 :: x10 :: x11 :: x12 :: x13 :: x14 :: x15 :: x16 :: some (.int x) :: r) st := ez_iinc' hd rfl hv hn rfl (Or.inr ⟨x16, rfl, hc1⟩) hq k
theorem ez_iinc_18 {G : ez_G} {M : ez_M} {d : Nat} {Q : ez_Q} {h : ez_H} {n mc ms pc q : Nat} {st : List Value} {x0 x1 x2 x3 x4 x5 x6 x7 x8 x9 x10 x11 x12 x13 x14 x15 x16 x17 : Option Value} {r : List (Option Value)} {x v : Int32} {z : Int} (hd : decode M.2.1 pc = .ok (.iinc 18 z, 3)) (hv : x + Int32.ofInt z = v) (hn : 18 < M.2.2.1) (hc1 : ez_c1 x17 = true) (hq : pc + 3 = q) (k : E G M d Q h n mc ms q (x0 :: x1 :: x2 :: x3 :: x4 :: x5 :: x6 :: x7 :: x8 :: x9 :: x10 :: x11 :: x12 :: x13 :: x14 :: x15 :: x16 :: x17 :: some (.int v) :: r) st) : E G M d Q h n mc ms pc (x0 :: x1 :: x2 :: x3 :: x4 :: x5 :: x6 :: x7 :: x8 :: x9 :: x10 :: x11 :: x12 :: x13 :: x14 :: x15 :: x16 :: x17 :: some (.int x) :: r) st := ez_iinc' hd rfl hv hn rfl (Or.inr ⟨x17, rfl, hc1⟩) hq k
theorem ez_iinc_19 {G : ez_G} {M : ez_M} {d : Nat} {Q : ez_Q} {h : ez_H} {n mc ms pc q : Nat} {st : List Value} {x0 x1 x2 x3 x4 x5 x6 x7 x8 x9 x10 x11 x12 x13 x14 x15 x16 x17 x18 : Option Value} {r : List (Option Value)} {x v : Int32} {z : Int} (hd : decode M.2.1 pc = .ok (.iinc 19 z, 3)) (hv : x + Int32.ofInt z = v) (hn : 19 < M.2.2.1) (hc1 : ez_c1 x18 = true) (hq : pc + 3 = q) (k : E G M d Q h n mc ms q (x0 :: x1 :: x2 :: x3 :: x4 :: x5 :: x6 :: x7 :: x8 :: x9 :: x10 :: x11 :: x12 :: x13 :: x14 :: x15 :: x16 :: x17 :: x18 :: some (.int v) :: r) st) : E G M d Q h n mc ms pc (x0 :: x1 :: x2 :: x3 :: x4 :: x5 :: x6 :: x7 :: x8 :: x9 :: x10 :: x11 :: x12 :: x13 :: x14 :: x15 :: x16 :: x17 :: x18 :: some (.int x) :: r) st := ez_iinc' hd rfl hv hn rfl (Or.inr ⟨x18, rfl, hc1⟩) hq k
theorem ez_iadd {G : ez_G} {M : ez_M} {d : Nat} {Q : ez_Q} {h : ez_H} {n mc ms pc q : Nat} {ls : List (Option Value)} {st : List Value} {x y : Int32} (hd : decode M.2.1 pc = .ok (.iadd, 1))  (hq : pc + 1 = q) (k : E G M d Q h n mc ms q ls (.int (x + y) :: st)) : E G M d Q h n mc ms pc ls (.int y :: .int x :: st) := by
  subst hq
  intro p e R s m args below meth c H locs cells slots mt mS la X hR hS hL hc hs
  exact lv_iadd X.1 X.2.1 hd (k p e R s m args below meth c H locs cells slots mt mS la X hR hS hL hc hs)
theorem ez_isub {G : ez_G} {M : ez_M} {d : Nat} {Q : ez_Q} {h : ez_H} {n mc ms pc q : Nat} {ls : List (Option Value)} {st : List Value} {x y : Int32} (hd : decode M.2.1 pc = .ok (.isub, 1))  (hq : pc + 1 = q) (k : E G M d Q h n mc ms q ls (.int (x - y) :: st)) : E G M d Q h n mc ms pc ls (.int y :: .int x :: st) := by
  subst hq
  intro p e R s m args below meth c H locs cells slots mt mS la X hR hS hL hc hs
  exact lv_isub X.1 X.2.1 hd (k p e R s m args below meth c H locs cells slots mt mS la X hR hS hL hc hs)
theorem ez_imul {G : ez_G} {M : ez_M} {d : Nat} {Q : ez_Q} {h : ez_H} {n mc ms pc q : Nat} {ls : List (Option Value)} {st : List Value} {x y : Int32} (hd : decode M.2.1 pc = .ok (.imul, 1))  (hq : pc + 1 = q) (k : E G M d Q h n mc ms q ls (.int (x * y) :: st)) : E G M d Q h n mc ms pc ls (.int y :: .int x :: st) := by
  subst hq
  intro p e R s m args below meth c H locs cells slots mt mS la X hR hS hL hc hs
  exact lv_imul X.1 X.2.1 hd (k p e R s m args below meth c H locs cells slots mt mS la X hR hS hL hc hs)
theorem ez_iand {G : ez_G} {M : ez_M} {d : Nat} {Q : ez_Q} {h : ez_H} {n mc ms pc q : Nat} {ls : List (Option Value)} {st : List Value} {x y : Int32} (hd : decode M.2.1 pc = .ok (.iand, 1))  (hq : pc + 1 = q) (k : E G M d Q h n mc ms q ls (.int (x &&& y) :: st)) : E G M d Q h n mc ms pc ls (.int y :: .int x :: st) := by
  subst hq
  intro p e R s m args below meth c H locs cells slots mt mS la X hR hS hL hc hs
  exact lv_iand X.1 X.2.1 hd (k p e R s m args below meth c H locs cells slots mt mS la X hR hS hL hc hs)
theorem ez_ior {G : ez_G} {M : ez_M} {d : Nat} {Q : ez_Q} {h : ez_H} {n mc ms pc q : Nat} {ls : List (Option Value)} {st : List Value} {x y : Int32} (hd : decode M.2.1 pc = .ok (.ior, 1))  (hq : pc + 1 = q) (k : E G M d Q h n mc ms q ls (.int (x ||| y) :: st)) : E G M d Q h n mc ms pc ls (.int y :: .int x :: st) := by
  subst hq
  intro p e R s m args below meth c H locs cells slots mt mS la X hR hS hL hc hs
  exact lv_ior X.1 X.2.1 hd (k p e R s m args below meth c H locs cells slots mt mS la X hR hS hL hc hs)
theorem ez_ixor {G : ez_G} {M : ez_M} {d : Nat} {Q : ez_Q} {h : ez_H} {n mc ms pc q : Nat} {ls : List (Option Value)} {st : List Value} {x y : Int32} (hd : decode M.2.1 pc = .ok (.ixor, 1))  (hq : pc + 1 = q) (k : E G M d Q h n mc ms q ls (.int (x ^^^ y) :: st)) : E G M d Q h n mc ms pc ls (.int y :: .int x :: st) := by
  subst hq
  intro p e R s m args below meth c H locs cells slots mt mS la X hR hS hL hc hs
  exact lv_ixor X.1 X.2.1 hd (k p e R s m args below meth c H locs cells slots mt mS la X hR hS hL hc hs)
theorem ez_ishl {G : ez_G} {M : ez_M} {d : Nat} {Q : ez_Q} {h : ez_H} {n mc ms pc q : Nat} {ls : List (Option Value)} {st : List Value} {x y : Int32} (hd : decode M.2.1 pc = .ok (.ishl, 1))  (hq : pc + 1 = q) (k : E G M d Q h n mc ms q ls (.int (x <<< (y &&& 31)) :: st)) : E G M d Q h n mc ms pc ls (.int y :: .int x :: st) := by
  subst hq
  intro p e R s m args below meth c H locs cells slots mt mS la X hR hS hL hc hs
  exact lv_ishl X.1 X.2.1 hd (k p e R s m args below meth c H locs cells slots mt mS la X hR hS hL hc hs)
theorem ez_ishr {G : ez_G} {M : ez_M} {d : Nat} {Q : ez_Q} {h : ez_H} {n mc ms pc q : Nat} {ls : List (Option Value)} {st : List Value} {x y : Int32} (hd : decode M.2.1 pc = .ok (.ishr, 1))  (hq : pc + 1 = q) (k : E G M d Q h n mc ms q ls (.int (x >>> (y &&& 31)) :: st)) : E G M d Q h n mc ms pc ls (.int y :: .int x :: st) := by
  subst hq
  intro p e R s m args below meth c H locs cells slots mt mS la X hR hS hL hc hs
  exact lv_ishr X.1 X.2.1 hd (k p e R s m args below meth c H locs cells slots mt mS la X hR hS hL hc hs)
theorem ez_irem {G : ez_G} {M : ez_M} {d : Nat} {Q : ez_Q} {h : ez_H} {n mc ms pc q : Nat} {ls : List (Option Value)} {st : List Value} {x y : Int32} (hd : decode M.2.1 pc = .ok (.irem, 1)) (hne : ¬ y = 0) (hq : pc + 1 = q) (k : E G M d Q h n mc ms q ls (.int (x - x / y * y) :: st)) : E G M d Q h n mc ms pc ls (.int y :: .int x :: st) := by
  subst hq
  intro p e R s m args below meth c H locs cells slots mt mS la X hR hS hL hc hs
  exact lv_irem X.1 X.2.1 hd hne (k p e R s m args below meth c H locs cells slots mt mS la X hR hS hL hc hs)
theorem ez_iushr {G : ez_G} {M : ez_M} {d : Nat} {Q : ez_Q} {h : ez_H} {n mc ms pc q : Nat} {ls : List (Option Value)} {st : List Value} {x y v : Int32} (hd : decode M.2.1 pc = .ok (.iushr, 1)) (hv : (x.toUInt32 >>> (y.toUInt32 &&& Int32.toUInt32 31)).toInt32 = v) (hq : pc + 1 = q) (k : E G M d Q h n mc ms q ls (.int v :: st)) : E G M d Q h n mc ms pc ls (.int y :: .int x :: st) := by
  subst hq
  intro p e R s m args below meth c H locs cells slots mt mS la X hR hS hL hc hs
  exact lv_iushr X.1 X.2.1 hd hv (k p e R s m args below meth c H locs cells slots mt mS la X hR hS hL hc hs)
theorem ez_ladd {G : ez_G} {M : ez_M} {d : Nat} {Q : ez_Q} {h : ez_H} {n mc ms pc q : Nat} {ls : List (Option Value)} {st : List Value} {x y : Int64} (hd : decode M.2.1 pc = .ok (.ladd, 1))  (hq : pc + 1 = q) (k : E G M d Q h n mc ms q ls (.long (x + y) :: st)) : E G M d Q h n mc ms pc ls (.long y :: .long x :: st) := by
  subst hq
  intro p e R s m args below meth c H locs cells slots mt mS la X hR hS hL hc hs
  exact lv_ladd X.1 X.2.1 hd (k p e R s m args below meth c H locs cells slots mt mS la X hR hS hL hc hs)
theorem ez_lsub {G : ez_G} {M : ez_M} {d : Nat} {Q : ez_Q} {h : ez_H} {n mc ms pc q : Nat} {ls : List (Option Value)} {st : List Value} {x y : Int64} (hd : decode M.2.1 pc = .ok (.lsub, 1))  (hq : pc + 1 = q) (k : E G M d Q h n mc ms q ls (.long (x - y) :: st)) : E G M d Q h n mc ms pc ls (.long y :: .long x :: st) := by
  subst hq
  intro p e R s m args below meth c H locs cells slots mt mS la X hR hS hL hc hs
  exact lv_lsub X.1 X.2.1 hd (k p e R s m args below meth c H locs cells slots mt mS la X hR hS hL hc hs)
theorem ez_lmul {G : ez_G} {M : ez_M} {d : Nat} {Q : ez_Q} {h : ez_H} {n mc ms pc q : Nat} {ls : List (Option Value)} {st : List Value} {x y : Int64} (hd : decode M.2.1 pc = .ok (.lmul, 1))  (hq : pc + 1 = q) (k : E G M d Q h n mc ms q ls (.long (x * y) :: st)) : E G M d Q h n mc ms pc ls (.long y :: .long x :: st) := by
  subst hq
  intro p e R s m args below meth c H locs cells slots mt mS la X hR hS hL hc hs
  exact lv_lmul X.1 X.2.1 hd (k p e R s m args below meth c H locs cells slots mt mS la X hR hS hL hc hs)
theorem ez_lshl {G : ez_G} {M : ez_M} {d : Nat} {Q : ez_Q} {h : ez_H} {n mc ms pc q : Nat} {ls : List (Option Value)} {st : List Value} {x : Int64} {y : Int32} (hd : decode M.2.1 pc = .ok (.lshl, 1))  (hq : pc + 1 = q) (k : E G M d Q h n mc ms q ls (.long (x <<< (y.toInt64 &&& 63)) :: st)) : E G M d Q h n mc ms pc ls (.int y :: .long x :: st) := by
  subst hq
  intro p e R s m args below meth c H locs cells slots mt mS la X hR hS hL hc hs
  exact lv_lshl X.1 X.2.1 hd rfl (k p e R s m args below meth c H locs cells slots mt mS la X hR hS hL hc hs)
theorem ez_i2l {G : ez_G} {M : ez_M} {d : Nat} {Q : ez_Q} {h : ez_H} {n mc ms pc q : Nat} {ls : List (Option Value)} {st : List Value} {x : Int32} (hd : decode M.2.1 pc = .ok (.i2l, 1))  (hq : pc + 1 = q) (k : E G M d Q h n mc ms q ls (.long x.toInt64 :: st)) : E G M d Q h n mc ms pc ls (.int x :: st) := by
  subst hq
  intro p e R s m args below meth c H locs cells slots mt mS la X hR hS hL hc hs
  exact lv_i2l X.1 X.2.1 hd rfl (k p e R s m args below meth c H locs cells slots mt mS la X hR hS hL hc hs)
theorem ez_i2d {G : ez_G} {M : ez_M} {d : Nat} {Q : ez_Q} {h : ez_H} {n mc ms pc q : Nat} {ls : List (Option Value)} {st : List Value} {x : Int32} (hd : decode M.2.1 pc = .ok (.i2d, 1))  (hq : pc + 1 = q) (k : E G M d Q h n mc ms q ls (.double (FP.i2d x) :: st)) : E G M d Q h n mc ms pc ls (.int x :: st) := by
  subst hq
  intro p e R s m args below meth c H locs cells slots mt mS la X hR hS hL hc hs
  exact lv_i2d X.1 X.2.1 hd (k p e R s m args below meth c H locs cells slots mt mS la X hR hS hL hc hs)
theorem ez_i2c {G : ez_G} {M : ez_M} {d : Nat} {Q : ez_Q} {h : ez_H} {n mc ms pc q : Nat} {ls : List (Option Value)} {st : List Value} {x v : Int32} (hd : decode M.2.1 pc = .ok (.i2c, 1)) (hv : (x.toUInt32 % 65536).toInt32 = v) (hq : pc + 1 = q) (k : E G M d Q h n mc ms q ls (.int v :: st)) : E G M d Q h n mc ms pc ls (.int x :: st) := by
  subst hq
  intro p e R s m args below meth c H locs cells slots mt mS la X hR hS hL hc hs
  exact lv_i2c X.1 X.2.1 hd hv (k p e R s m args below meth c H locs cells slots mt mS la X hR hS hL hc hs)
theorem ez_d2l {G : ez_G} {M : ez_M} {d : Nat} {Q : ez_Q} {h : ez_H} {n mc ms pc q : Nat} {ls : List (Option Value)} {st : List Value} {x : UInt64} (hd : decode M.2.1 pc = .ok (.d2l, 1))  (hq : pc + 1 = q) (k : E G M d Q h n mc ms q ls (.long (FP.d2l x) :: st)) : E G M d Q h n mc ms pc ls (.double x :: st) := by
  subst hq
  intro p e R s m args below meth c H locs cells slots mt mS la X hR hS hL hc hs
  exact lv_d2l X.1 X.2.1 hd (k p e R s m args below meth c H locs cells slots mt mS la X hR hS hL hc hs)
theorem ez_lcmp {G : ez_G} {M : ez_M} {d : Nat} {Q : ez_Q} {h : ez_H} {n mc ms pc q : Nat} {ls : List (Option Value)} {st : List Value} {x y : Int64} (hd : decode M.2.1 pc = .ok (.lcmp, 1))  (hq : pc + 1 = q) (k : E G M d Q h n mc ms q ls (.int (lg_cmp x y) :: st)) : E G M d Q h n mc ms pc ls (.long y :: .long x :: st) := by
  subst hq
  intro p e R s m args below meth c H locs cells slots mt mS la X hR hS hL hc hs
  exact W.lcmp X.1 X.2.1 hd (k p e R s m args below meth c H locs cells slots mt mS la X hR hS hL hc hs)
theorem ez_dcmp {G : ez_G} {M : ez_M} {d : Nat} {Q : ez_Q} {h : ez_H} {n mc ms pc q : Nat} {ls : List (Option Value)} {st : List Value} {x y : UInt64} {op : CmpOp} (hd : decode M.2.1 pc = .ok (.dcmp op, 1))  (hq : pc + 1 = q) (k : E G M d Q h n mc ms q ls (.int (Op.cmpValue (FP.dcmp x y) op) :: st)) : E G M d Q h n mc ms pc ls (.double y :: .double x :: st) := by
  subst hq
  intro p e R s m args below meth c H locs cells slots mt mS la X hR hS hL hc hs
  exact lv_dcmp X.1 X.2.1 hd (k p e R s m args below meth c H locs cells slots mt mS la X hR hS hL hc hs)
theorem ez_dmul {G : ez_G} {M : ez_M} {d : Nat} {Q : ez_Q} {h : ez_H} {n mc ms pc q : Nat} {ls : List (Option Value)} {st : List Value} {x y : UInt64} (hd : decode M.2.1 pc = .ok (.dmul, 1)) (hne : vf_n64 (FP.dmul x y)) (hq : pc + 1 = q) (k : E G M d Q h n mc ms q ls (.double (FP.dmul x y) :: st)) : E G M d Q h n mc ms pc ls (.double y :: .double x :: st) := by
  subst hq
  intro p e R s m args below meth c H locs cells slots mt mS la X hR hS hL hc hs
  exact lv_dmul X.1 X.2.1 hd hne (k p e R s m args below meth c H locs cells slots mt mS la X hR hS hL hc hs)
theorem ez_ddiv {G : ez_G} {M : ez_M} {d : Nat} {Q : ez_Q} {h : ez_H} {n mc ms pc q : Nat} {ls : List (Option Value)} {st : List Value} {x y : UInt64} (hd : decode M.2.1 pc = .ok (.ddiv, 1)) (hne : vf_n64 (FP.ddiv x y)) (hq : pc + 1 = q) (k : E G M d Q h n mc ms q ls (.double (FP.ddiv x y) :: st)) : E G M d Q h n mc ms pc ls (.double y :: .double x :: st) := by
  subst hq
  intro p e R s m args below meth c H locs cells slots mt mS la X hR hS hL hc hs
  exact lv_ddiv X.1 X.2.1 hd hne (k p e R s m args below meth c H locs cells slots mt mS la X hR hS hL hc hs)
theorem ez_dsub {G : ez_G} {M : ez_M} {d : Nat} {Q : ez_Q} {h : ez_H} {n mc ms pc q : Nat} {ls : List (Option Value)} {st : List Value} {x y : UInt64} (hd : decode M.2.1 pc = .ok (.dsub, 1)) (hne : vf_n64 (FP.dsub x y)) (hq : pc + 1 = q) (k : E G M d Q h n mc ms q ls (.double (FP.dsub x y) :: st)) : E G M d Q h n mc ms pc ls (.double y :: .double x :: st) := by
  subst hq
  intro p e R s m args below meth c H locs cells slots mt mS la X hR hS hL hc hs
  exact lv_dsub X.1 X.2.1 hd hne (k p e R s m args below meth c H locs cells slots mt mS la X hR hS hL hc hs)
theorem ez_dup {G : ez_G} {M : ez_M} {d : Nat} {Q : ez_Q} {h : ez_H} {n mc ms pc q : Nat} {ls : List (Option Value)} {st : List Value} {v : Value} (hd : decode M.2.1 pc = .ok (.dup, 1)) (hv : v.category = 1) (hq : pc + 1 = q) (k : E G M d Q h n mc ms q ls (v :: v :: st)) : E G M d Q h n mc ms pc ls (v :: st) := by
  subst hq
  intro p e R s m args below meth c H locs cells slots mt mS la X hR hS hL hc hs
  exact lv_dup X.1 X.2.1 hd (by rw [ez_v_cat]; exact hv) (k p e R s m args below meth c H locs cells slots mt mS la X hR hS hL hc hs)
theorem ez_pop {G : ez_G} {M : ez_M} {d : Nat} {Q : ez_Q} {h : ez_H} {n mc ms pc q : Nat} {ls : List (Option Value)} {st : List Value} {v : Value} (hd : decode M.2.1 pc = .ok (.pop, 1)) (hv : v.category = 1) (hq : pc + 1 = q) (k : E G M d Q h n mc ms q ls st) : E G M d Q h n mc ms pc ls (v :: st) := by
  subst hq
  intro p e R s m args below meth c H locs cells slots mt mS la X hR hS hL hc hs
  exact lv_pop X.1 X.2.1 hd (by rw [ez_v_cat]; exact hv) (k p e R s m args below meth c H locs cells slots mt mS la X hR hS hL hc hs)
theorem ez_dup2 {G : ez_G} {M : ez_M} {d : Nat} {Q : ez_Q} {h : ez_H} {n mc ms pc q : Nat} {ls : List (Option Value)} {st : List Value} {v u : Value} (hd : decode M.2.1 pc = .ok (.dup2, 1)) (hv : v.category = 1) (hu : u.category = 1) (hq : pc + 1 = q) (k : E G M d Q h n mc ms q ls (v :: u :: v :: u :: st)) : E G M d Q h n mc ms pc ls (v :: u :: st) := by
  subst hq
  intro p e R s m args below meth c H locs cells slots mt mS la X hR hS hL hc hs
  exact lv_dup2_11 X.1 X.2.1 hd (by rw [ez_v_cat]; exact hv) (by rw [ez_v_cat]; exact hu) (k p e R s m args below meth c H locs cells slots mt mS la X hR hS hL hc hs)
theorem ez_ifeq {G : ez_G} {M : ez_M} {d : Nat} {Q : ez_Q} {h : ez_H} {n mc ms pc q : Nat} {ls : List (Option Value)} {st : List Value} {x : Int32} {off : Int} {tgt : Nat} (hd : decode M.2.1 pc = .ok (.ifCond .eq off, 3)) (ht : (pc : Int) + off = (tgt : Int)) (hq : pc + 3 = q) (kt : x = 0 → E G M d Q h n mc ms tgt ls st) (kf : ¬ x = 0 → E G M d Q h n mc ms q ls st) : E G M d Q h n mc ms pc ls (.int x :: st) := by
  subst hq
  intro p e R s m args below meth c H locs cells slots mt mS la X hR hS hL hc hs
  exact lv_if_eq X.1 X.2.1 hd ht (fun z => kt z p e R s m args below meth c H locs cells slots mt mS la X hR hS hL hc hs) (fun z => kf z p e R s m args below meth c H locs cells slots mt mS la X hR hS hL hc hs)
theorem ez_ifne {G : ez_G} {M : ez_M} {d : Nat} {Q : ez_Q} {h : ez_H} {n mc ms pc q : Nat} {ls : List (Option Value)} {st : List Value} {x : Int32} {off : Int} {tgt : Nat} (hd : decode M.2.1 pc = .ok (.ifCond .ne off, 3)) (ht : (pc : Int) + off = (tgt : Int)) (hq : pc + 3 = q) (kt : ¬ x = 0 → E G M d Q h n mc ms tgt ls st) (kf : x = 0 → E G M d Q h n mc ms q ls st) : E G M d Q h n mc ms pc ls (.int x :: st) := by
  subst hq
  intro p e R s m args below meth c H locs cells slots mt mS la X hR hS hL hc hs
  exact lv_if_ne X.1 X.2.1 hd ht (fun z => kt z p e R s m args below meth c H locs cells slots mt mS la X hR hS hL hc hs) (fun z => kf z p e R s m args below meth c H locs cells slots mt mS la X hR hS hL hc hs)
theorem ez_iflt {G : ez_G} {M : ez_M} {d : Nat} {Q : ez_Q} {h : ez_H} {n mc ms pc q : Nat} {ls : List (Option Value)} {st : List Value} {x : Int32} {off : Int} {tgt : Nat} (hd : decode M.2.1 pc = .ok (.ifCond .lt off, 3)) (ht : (pc : Int) + off = (tgt : Int)) (hq : pc + 3 = q) (kt : x < 0 → E G M d Q h n mc ms tgt ls st) (kf : ¬ x < 0 → E G M d Q h n mc ms q ls st) : E G M d Q h n mc ms pc ls (.int x :: st) := by
  subst hq
  intro p e R s m args below meth c H locs cells slots mt mS la X hR hS hL hc hs
  exact lv_if_lt X.1 X.2.1 hd ht (fun z => kt z p e R s m args below meth c H locs cells slots mt mS la X hR hS hL hc hs) (fun z => kf z p e R s m args below meth c H locs cells slots mt mS la X hR hS hL hc hs)
theorem ez_ifge {G : ez_G} {M : ez_M} {d : Nat} {Q : ez_Q} {h : ez_H} {n mc ms pc q : Nat} {ls : List (Option Value)} {st : List Value} {x : Int32} {off : Int} {tgt : Nat} (hd : decode M.2.1 pc = .ok (.ifCond .ge off, 3)) (ht : (pc : Int) + off = (tgt : Int)) (hq : pc + 3 = q) (kt : 0 ≤ x → E G M d Q h n mc ms tgt ls st) (kf : ¬ 0 ≤ x → E G M d Q h n mc ms q ls st) : E G M d Q h n mc ms pc ls (.int x :: st) := by
  subst hq
  intro p e R s m args below meth c H locs cells slots mt mS la X hR hS hL hc hs
  exact lv_if_ge X.1 X.2.1 hd ht (fun z => kt z p e R s m args below meth c H locs cells slots mt mS la X hR hS hL hc hs) (fun z => kf z p e R s m args below meth c H locs cells slots mt mS la X hR hS hL hc hs)
theorem ez_ifgt {G : ez_G} {M : ez_M} {d : Nat} {Q : ez_Q} {h : ez_H} {n mc ms pc q : Nat} {ls : List (Option Value)} {st : List Value} {x : Int32} {off : Int} {tgt : Nat} (hd : decode M.2.1 pc = .ok (.ifCond .gt off, 3)) (ht : (pc : Int) + off = (tgt : Int)) (hq : pc + 3 = q) (kt : 0 < x → E G M d Q h n mc ms tgt ls st) (kf : ¬ 0 < x → E G M d Q h n mc ms q ls st) : E G M d Q h n mc ms pc ls (.int x :: st) := by
  subst hq
  intro p e R s m args below meth c H locs cells slots mt mS la X hR hS hL hc hs
  exact lv_if_gt X.1 X.2.1 hd ht (fun z => kt z p e R s m args below meth c H locs cells slots mt mS la X hR hS hL hc hs) (fun z => kf z p e R s m args below meth c H locs cells slots mt mS la X hR hS hL hc hs)
theorem ez_ifle {G : ez_G} {M : ez_M} {d : Nat} {Q : ez_Q} {h : ez_H} {n mc ms pc q : Nat} {ls : List (Option Value)} {st : List Value} {x : Int32} {off : Int} {tgt : Nat} (hd : decode M.2.1 pc = .ok (.ifCond .le off, 3)) (ht : (pc : Int) + off = (tgt : Int)) (hq : pc + 3 = q) (kt : x ≤ 0 → E G M d Q h n mc ms tgt ls st) (kf : ¬ x ≤ 0 → E G M d Q h n mc ms q ls st) : E G M d Q h n mc ms pc ls (.int x :: st) := by
  subst hq
  intro p e R s m args below meth c H locs cells slots mt mS la X hR hS hL hc hs
  exact lv_if_le X.1 X.2.1 hd ht (fun z => kt z p e R s m args below meth c H locs cells slots mt mS la X hR hS hL hc hs) (fun z => kf z p e R s m args below meth c H locs cells slots mt mS la X hR hS hL hc hs)
theorem ez_icmpeq {G : ez_G} {M : ez_M} {d : Nat} {Q : ez_Q} {h : ez_H} {n mc ms pc q : Nat} {ls : List (Option Value)} {st : List Value} {x y : Int32} {off : Int} {tgt : Nat} (hd : decode M.2.1 pc = .ok (.if_icmp .eq off, 3)) (ht : (pc : Int) + off = (tgt : Int)) (hq : pc + 3 = q) (kt : x = y → E G M d Q h n mc ms tgt ls st) (kf : ¬ x = y → E G M d Q h n mc ms q ls st) : E G M d Q h n mc ms pc ls (.int y :: .int x :: st) := by
  subst hq
  intro p e R s m args below meth c H locs cells slots mt mS la X hR hS hL hc hs
  exact lv_icmp_eq X.1 X.2.1 hd ht (fun z => kt z p e R s m args below meth c H locs cells slots mt mS la X hR hS hL hc hs) (fun z => kf z p e R s m args below meth c H locs cells slots mt mS la X hR hS hL hc hs)
theorem ez_icmpne {G : ez_G} {M : ez_M} {d : Nat} {Q : ez_Q} {h : ez_H} {n mc ms pc q : Nat} {ls : List (Option Value)} {st : List Value} {x y : Int32} {off : Int} {tgt : Nat} (hd : decode M.2.1 pc = .ok (.if_icmp .ne off, 3)) (ht : (pc : Int) + off = (tgt : Int)) (hq : pc + 3 = q) (kt : ¬ x = y → E G M d Q h n mc ms tgt ls st) (kf : x = y → E G M d Q h n mc ms q ls st) : E G M d Q h n mc ms pc ls (.int y :: .int x :: st) := by
  subst hq
  intro p e R s m args below meth c H locs cells slots mt mS la X hR hS hL hc hs
  exact lv_icmp_ne X.1 X.2.1 hd ht (fun z => kt z p e R s m args below meth c H locs cells slots mt mS la X hR hS hL hc hs) (fun z => kf z p e R s m args below meth c H locs cells slots mt mS la X hR hS hL hc hs)
theorem ez_icmplt {G : ez_G} {M : ez_M} {d : Nat} {Q : ez_Q} {h : ez_H} {n mc ms pc q : Nat} {ls : List (Option Value)} {st : List Value} {x y : Int32} {off : Int} {tgt : Nat} (hd : decode M.2.1 pc = .ok (.if_icmp .lt off, 3)) (ht : (pc : Int) + off = (tgt : Int)) (hq : pc + 3 = q) (kt : x < y → E G M d Q h n mc ms tgt ls st) (kf : ¬ x < y → E G M d Q h n mc ms q ls st) : E G M d Q h n mc ms pc ls (.int y :: .int x :: st) := by
  subst hq
  intro p e R s m args below meth c H locs cells slots mt mS la X hR hS hL hc hs
  exact lv_icmp_lt X.1 X.2.1 hd ht (fun z => kt z p e R s m args below meth c H locs cells slots mt mS la X hR hS hL hc hs) (fun z => kf z p e R s m args below meth c H locs cells slots mt mS la X hR hS hL hc hs)
theorem ez_icmpge {G : ez_G} {M : ez_M} {d : Nat} {Q : ez_Q} {h : ez_H} {n mc ms pc q : Nat} {ls : List (Option Value)} {st : List Value} {x y : Int32} {off : Int} {tgt : Nat} (hd : decode M.2.1 pc = .ok (.if_icmp .ge off, 3)) (ht : (pc : Int) + off = (tgt : Int)) (hq : pc + 3 = q) (kt : y ≤ x → E G M d Q h n mc ms tgt ls st) (kf : ¬ y ≤ x → E G M d Q h n mc ms q ls st) : E G M d Q h n mc ms pc ls (.int y :: .int x :: st) := by
  subst hq
  intro p e R s m args below meth c H locs cells slots mt mS la X hR hS hL hc hs
  exact lv_icmp_ge X.1 X.2.1 hd ht (fun z => kt z p e R s m args below meth c H locs cells slots mt mS la X hR hS hL hc hs) (fun z => kf z p e R s m args below meth c H locs cells slots mt mS la X hR hS hL hc hs)
theorem ez_icmpgt {G : ez_G} {M : ez_M} {d : Nat} {Q : ez_Q} {h : ez_H} {n mc ms pc q : Nat} {ls : List (Option Value)} {st : List Value} {x y : Int32} {off : Int} {tgt : Nat} (hd : decode M.2.1 pc = .ok (.if_icmp .gt off, 3)) (ht : (pc : Int) + off = (tgt : Int)) (hq : pc + 3 = q) (kt : y < x → E G M d Q h n mc ms tgt ls st) (kf : ¬ y < x → E G M d Q h n mc ms q ls st) : E G M d Q h n mc ms pc ls (.int y :: .int x :: st) := by
  subst hq
  intro p e R s m args below meth c H locs cells slots mt mS la X hR hS hL hc hs
  exact lv_icmp_gt X.1 X.2.1 hd ht (fun z => kt z p e R s m args below meth c H locs cells slots mt mS la X hR hS hL hc hs) (fun z => kf z p e R s m args below meth c H locs cells slots mt mS la X hR hS hL hc hs)
theorem ez_icmple {G : ez_G} {M : ez_M} {d : Nat} {Q : ez_Q} {h : ez_H} {n mc ms pc q : Nat} {ls : List (Option Value)} {st : List Value} {x y : Int32} {off : Int} {tgt : Nat} (hd : decode M.2.1 pc = .ok (.if_icmp .le off, 3)) (ht : (pc : Int) + off = (tgt : Int)) (hq : pc + 3 = q) (kt : x ≤ y → E G M d Q h n mc ms tgt ls st) (kf : ¬ x ≤ y → E G M d Q h n mc ms q ls st) : E G M d Q h n mc ms pc ls (.int y :: .int x :: st) := by
  subst hq
  intro p e R s m args below meth c H locs cells slots mt mS la X hR hS hL hc hs
  exact lv_icmp_le X.1 X.2.1 hd ht (fun z => kt z p e R s m args below meth c H locs cells slots mt mS la X hR hS hL hc hs) (fun z => kf z p e R s m args below meth c H locs cells slots mt mS la X hR hS hL hc hs)
theorem ez_goto {G : ez_G} {M : ez_M} {d : Nat} {Q : ez_Q} {h : ez_H} {n mc ms pc q : Nat} {ls : List (Option Value)} {st : List Value} {off : Int} (hd : decode M.2.1 pc = .ok (.goto off, 3)) (ht : (pc : Int) + off = (q : Int)) (k : E G M d Q h n mc ms q ls st) : E G M d Q h n mc ms pc ls st := by
  intro p e R s m args below meth c H locs cells slots mt mS la X hR hS hL hc hs
  exact lv_goto X.1 X.2.1 hd ht (k p e R s m args below meth c H locs cells slots mt mS la X hR hS hL hc hs)
theorem ez_tableIn {G : ez_G} {M : ez_M} {d : Nat} {Q : ez_Q} {h : ez_H} {n mc ms pc q : Nat} {ls : List (Option Value)} {st : List Value} {x : Int32} {dflt lo hi : Int} {offs : Array Int} {len : Nat} {off : Int} (hd : decode M.2.1 pc = .ok (.tableswitch dflt lo hi offs, len)) (h1 : ¬ x.toInt < lo) (h2 : ¬ hi < x.toInt) (ho : offs[(x.toInt - lo).toNat]? = some off) (ht : (pc : Int) + off = (q : Int)) (k : E G M d Q h n mc ms q ls st) : E G M d Q h n mc ms pc ls (.int x :: st) := by
  intro p e R s m args below meth c H locs cells slots mt mS la X hR hS hL hc hs
  exact lv_tableIn X.1 X.2.1 hd h1 h2 ho ht (k p e R s m args below meth c H locs cells slots mt mS la X hR hS hL hc hs)
theorem ez_tableOut {G : ez_G} {M : ez_M} {d : Nat} {Q : ez_Q} {h : ez_H} {n mc ms pc q : Nat} {ls : List (Option Value)} {st : List Value} {x : Int32} {dflt lo hi : Int} {offs : Array Int} {len : Nat} (hd : decode M.2.1 pc = .ok (.tableswitch dflt lo hi offs, len)) (h1 : x.toInt < lo ∨ hi < x.toInt) (ht : (pc : Int) + dflt = (q : Int)) (k : E G M d Q h n mc ms q ls st) : E G M d Q h n mc ms pc ls (.int x :: st) := by
  intro p e R s m args below meth c H locs cells slots mt mS la X hR hS hL hc hs
  exact lv_tableOut X.1 X.2.1 hd h1 ht (k p e R s m args below meth c H locs cells slots mt mS la X hR hS hL hc hs)
theorem ez_lookup {G : ez_G} {M : ez_M} {d : Nat} {Q : ez_Q} {h : ez_H} {n mc ms pc q : Nat} {ls : List (Option Value)} {st : List Value} {x : Int32} {dflt : Int} {ps : Array (Int × Int)} {len : Nat} {off : Int} (hd : decode M.2.1 pc = .ok (.lookupswitch dflt ps, len)) (hp : (ps.toList.zip (ps.toList.drop 1)).all (fun (a, next) => a.1 < next.1) = true) (ho : Op.lookupswitch.offset ps.toList dflt x.toInt = off) (ht : (pc : Int) + off = (q : Int)) (k : E G M d Q h n mc ms q ls st) : E G M d Q h n mc ms pc ls (.int x :: st) := by
  intro p e R s m args below meth c H locs cells slots mt mS la X hR hS hL hc hs
  exact lv_lookup X.1 X.2.1 hd hp ho ht (k p e R s m args below meth c H locs cells slots mt mS la X hR hS hL hc hs)
