section
-- ===== PART A: goes FIRST, ahead of the names: the tables' words, and 'selects' of the private methods out of them =====
/-- a private method of a class that the tables say can be made, by its rows of tables_1 -/
def lw_okq (q : MethodName × Nat) : Prop := (q.1.cls ≠ "java/lang/invoke/MethodHandle" ∧ q.1.cls ≠ "java/lang/invoke/VarHandle") ∧ Cond.instantiable q.1.cls q.2 ∈ tables_1 ∧ Cond.privateMethod q.1 ∈ tables_1 ∧ Cond.instanceMethod q.1 ∈ tables_1
theorem lw_p0 : lw_okq (⟨"java/lang/Throwable", "fillInStackTrace", "(I)Ljava/lang/Throwable;"⟩, 6) := ⟨⟨by decide +kernel, by decide +kernel⟩, List.mem_of_getElem? (i := 266) (by decide +kernel), List.mem_of_getElem? (i := 264) (by decide +kernel), List.mem_of_getElem? (i := 265) (by decide +kernel)⟩
theorem lw_p1 : lw_okq (⟨"FutureWishes$Text", "takes", "(C)Z"⟩, 4) := ⟨⟨by decide +kernel, by decide +kernel⟩, List.mem_of_getElem? (i := 78) (by decide +kernel), List.mem_of_getElem? (i := 319) (by decide +kernel), List.mem_of_getElem? (i := 320) (by decide +kernel)⟩
theorem lw_p2 : lw_okq (⟨"FutureWishes$Text", "takesSecond", "(C)Z"⟩, 4) := ⟨⟨by decide +kernel, by decide +kernel⟩, List.mem_of_getElem? (i := 78) (by decide +kernel), List.mem_of_getElem? (i := 323) (by decide +kernel), List.mem_of_getElem? (i := 324) (by decide +kernel)⟩
theorem lw_p3 : lw_okq (⟨"FutureWishes$Text", "takesFirst", "(C)Z"⟩, 4) := ⟨⟨by decide +kernel, by decide +kernel⟩, List.mem_of_getElem? (i := 78) (by decide +kernel), List.mem_of_getElem? (i := 327) (by decide +kernel), List.mem_of_getElem? (i := 328) (by decide +kernel)⟩
theorem lw_p4 : lw_okq (⟨"FutureWishes$Text", "leastRest", "()I"⟩, 4) := ⟨⟨by decide +kernel, by decide +kernel⟩, List.mem_of_getElem? (i := 78) (by decide +kernel), List.mem_of_getElem? (i := 331) (by decide +kernel), List.mem_of_getElem? (i := 332) (by decide +kernel)⟩
theorem lw_p5 : lw_okq (⟨"FutureWishes$State", "putSign", "(IIC)V"⟩, 6) := ⟨⟨by decide +kernel, by decide +kernel⟩, List.mem_of_getElem? (i := 27) (by decide +kernel), List.mem_of_getElem? (i := 369) (by decide +kernel), List.mem_of_getElem? (i := 370) (by decide +kernel)⟩
theorem lw_p6 : lw_okq (⟨"FutureWishes$State", "putLength", "(II)V"⟩, 6) := ⟨⟨by decide +kernel, by decide +kernel⟩, List.mem_of_getElem? (i := 27) (by decide +kernel), List.mem_of_getElem? (i := 373) (by decide +kernel), List.mem_of_getElem? (i := 374) (by decide +kernel)⟩
theorem lw_p7 : lw_okq (⟨"FutureWishes", "needWorld", "(I)V"⟩, 6) := ⟨⟨by decide +kernel, by decide +kernel⟩, List.mem_of_getElem? (i := 19) (by decide +kernel), List.mem_of_getElem? (i := 428) (by decide +kernel), List.mem_of_getElem? (i := 429) (by decide +kernel)⟩
theorem lw_p8 : lw_okq (⟨"FutureWishes", "wishesHoldingIn", "(I)I"⟩, 6) := ⟨⟨by decide +kernel, by decide +kernel⟩, List.mem_of_getElem? (i := 19) (by decide +kernel), List.mem_of_getElem? (i := 474) (by decide +kernel), List.mem_of_getElem? (i := 475) (by decide +kernel)⟩
theorem lw_p9 : lw_okq (⟨"FutureWishes$Meaning", "putShape", "(III)V"⟩, 8) := ⟨⟨by decide +kernel, by decide +kernel⟩, List.mem_of_getElem? (i := 99) (by decide +kernel), List.mem_of_getElem? (i := 488) (by decide +kernel), List.mem_of_getElem? (i := 489) (by decide +kernel)⟩
theorem lw_p10 : lw_okq (⟨"FutureWishes$Meaning", "depthAt", "(I)I"⟩, 8) := ⟨⟨by decide +kernel, by decide +kernel⟩, List.mem_of_getElem? (i := 99) (by decide +kernel), List.mem_of_getElem? (i := 492) (by decide +kernel), List.mem_of_getElem? (i := 493) (by decide +kernel)⟩
theorem lw_p11 : lw_okq (⟨"FutureWishes$Meaning", "allRounds", "()I"⟩, 8) := ⟨⟨by decide +kernel, by decide +kernel⟩, List.mem_of_getElem? (i := 99) (by decide +kernel), List.mem_of_getElem? (i := 536) (by decide +kernel), List.mem_of_getElem? (i := 537) (by decide +kernel)⟩
theorem lw_p12 : lw_okq (⟨"FutureWishes", "worldsOfAllWishes", "()I"⟩, 6) := ⟨⟨by decide +kernel, by decide +kernel⟩, List.mem_of_getElem? (i := 19) (by decide +kernel), List.mem_of_getElem? (i := 577) (by decide +kernel), List.mem_of_getElem? (i := 578) (by decide +kernel)⟩
theorem lw_p13 : lw_okq (⟨"FutureWishes$Trial", "begin", "(LFutureWishes$State;I)V"⟩, 4) := ⟨⟨by decide +kernel, by decide +kernel⟩, List.mem_of_getElem? (i := 179) (by decide +kernel), List.mem_of_getElem? (i := 589) (by decide +kernel), List.mem_of_getElem? (i := 590) (by decide +kernel)⟩
def lw_privs_1 : List (MethodName × Nat) := [(⟨"java/lang/Throwable", "fillInStackTrace", "(I)Ljava/lang/Throwable;"⟩, 6), (⟨"FutureWishes$Text", "takes", "(C)Z"⟩, 4), (⟨"FutureWishes$Text", "takesSecond", "(C)Z"⟩, 4), (⟨"FutureWishes$Text", "takesFirst", "(C)Z"⟩, 4), (⟨"FutureWishes$Text", "leastRest", "()I"⟩, 4), (⟨"FutureWishes$State", "putSign", "(IIC)V"⟩, 6), (⟨"FutureWishes$State", "putLength", "(II)V"⟩, 6), (⟨"FutureWishes", "needWorld", "(I)V"⟩, 6), (⟨"FutureWishes", "wishesHoldingIn", "(I)I"⟩, 6), (⟨"FutureWishes$Meaning", "putShape", "(III)V"⟩, 8), (⟨"FutureWishes$Meaning", "depthAt", "(I)I"⟩, 8), (⟨"FutureWishes$Meaning", "allRounds", "()I"⟩, 8), (⟨"FutureWishes", "worldsOfAllWishes", "()I"⟩, 6), (⟨"FutureWishes$Trial", "begin", "(LFutureWishes$State;I)V"⟩, 4)]
theorem lw_r1 : ∀ q ∈ lw_privs_1, lw_okq q := List.forall_mem_cons.mpr ⟨lw_p0, List.forall_mem_cons.mpr ⟨lw_p1, List.forall_mem_cons.mpr ⟨lw_p2, List.forall_mem_cons.mpr ⟨lw_p3, List.forall_mem_cons.mpr ⟨lw_p4, List.forall_mem_cons.mpr ⟨lw_p5, List.forall_mem_cons.mpr ⟨lw_p6, List.forall_mem_cons.mpr ⟨lw_p7, List.forall_mem_cons.mpr ⟨lw_p8, List.forall_mem_cons.mpr ⟨lw_p9, List.forall_mem_cons.mpr ⟨lw_p10, List.forall_mem_cons.mpr ⟨lw_p11, List.forall_mem_cons.mpr ⟨lw_p12, List.forall_mem_cons.mpr ⟨lw_p13, fun _ h => absurd h List.not_mem_nil⟩⟩⟩⟩⟩⟩⟩⟩⟩⟩⟩⟩⟩⟩
def lw_privs : List (MethodName × Nat) := lw_privs_1
def lw_tbl : List Cond := k2_sels lw_privs ++ tables_1
theorem lw_privs_ok : ∀ q ∈ lw_privs, lw_okq q := lw_r1
/-- the streams that the claim lets the run draw from -/
abbrev lw_cs : List Choice := [Jvm.Choice.named "NaN.bits"]
theorem lw_bits : nanBits ∈ lw_cs := by first | decide | exact List.mem_cons_self | simp [lw_cs, nanBits]
end
section
/-! ===== BEGIN words of one list among another's, by their places ===== -/
theorem goodIn_r {big : List Cond} (ws : List Cond) (ps : List Nat) (hp : ws = ps.filterMap (fun i => big[i]?)) (h : ws.all goodWord = true) : GoodIn big ws := by
  intro w hw
  have h1 := List.all_eq_true.mp h w hw
  rw [hp] at hw
  obtain ⟨i, -, hi⟩ := List.mem_filterMap.mp hw
  have hm : w ∈ big := by first | exact List.mem_of_getElem? hi | exact List.getElem?_mem hi
  exact ⟨hm, good_of_word h1⟩
theorem goodIn_app {big a b : List Cond} (ha : GoodIn big a) (hb : GoodIn big b) : GoodIn big (a ++ b) := fun w h => (List.mem_append.mp h).elim (ha w) (hb w)
theorem goodIn_ca {big a b : List Cond} {c : Cond} (ha : GoodIn big (c :: a)) (hb : GoodIn big b) : GoodIn big (c :: (a ++ b)) := fun w h => (List.mem_cons.mp h).elim (fun e => ha w (List.mem_cons.mpr (Or.inl e))) (fun h => (List.mem_append.mp h).elim (fun h => ha w (List.mem_cons.mpr (Or.inr h))) (hb w))
theorem goodIn_sub {big ws : List Cond} (hm : ∀ w ∈ ws, w ∈ big) (h : ws.all goodWord = true) : GoodIn big ws := fun w hw => ⟨hm w hw, good_of_word (List.all_eq_true.mp h w hw)⟩
/-! ===== END ===== -/

/-! ===== BEGIN exceptions that leave a method, and their catching by the caller (launches without stack traces) ===== -/
section VXA
/-! The laws vx_back, vx_callV, vx_callS, vx_callSW, vx_throw0, vx_throwS follow proofs of the library, with one case more: JvmDerived/Free/Laws.lean (Back.of_free), Shelf42/LK1.lean (callV, callS), Shelf/KitTraced.lean (throwNew0V, throwNewS). -/
/-- where a method has thrown q: the class by its name, the cell, what was written, the world -/
def vx_T (XC : String → State → State → Prop) (st : State) (q : Addr) (t : State) (mc ms : Nat) (free : Addr → Prop) : Prop :=
  ∃ (E : String) (ce : Cell) (L : List Loc), XC E st t ∧ t.heap[q]? = some ce ∧ ce.vm = .none ∧ st.vm.findClass E = some ce.cls ∧ st.WarmedH t.vm ∧ st.sameButNew ({ t with vm := st.vm } : State) L mc ms ∧ ∀ z ∈ L, free z.base
def vx_Q (Qc : Array Value → State → Outcome → State → Prop) (XC : String → State → State → Prop) (mc ms : Nat) (free : Addr → Prop) : Array Value → State → Outcome → State → Prop := fun a st o t =>
  (Qc a st o t ∧ ∃ L, FrameEnd st o t L mc ms ∧ ∀ q ∈ L, free q.base) ∨ ∃ q, o = .threw q ∧ vx_T XC st q t mc ms free
/-- a callee that returns or throws -/
def vx_Met (l : Launch) (y : MethodName) (ws : List Cond) (rm : Room) (Pc : Array Value → State → Prop) (Qc : Array Value → State → Outcome → State → Prop) (XC : String → State → State → Prop) (mc ms : Nat) (free : Addr → Prop) : Prop :=
  MetFree l y (headSpec ws rm) Pc (fun _ _ _ _ _ => True) (vx_Q Qc XC mc ms free)
def vx_Post (XC : String → State → State → Prop) (mc ms : Nat) (free : Addr → Prop) : Pt → Array Value → Addr → Pt → Prop := fun A a q B =>
  ∃ (g : JFrame) (mk : MethodId) (t : State) (L : List Loc) (E : String) (ce : Cell), B.U.heap = t.heap ∧ B.U.vm = t.vm ∧ XC E (A.U.calling g mk a) t ∧ t.heap[q]? = some ce ∧ ce.vm = .none ∧ A.U.vm.findClass E = some ce.cls ∧ B.locs = A.locs ++ L ∧ (∀ z ∈ L, free z.base) ∧ B.cells = A.cells + mc ∧ B.slots = A.slots + ms
def vx_Back (l : Launch) (R : Room) (p : Program) (e : Env) (below : List Frame) (s : State) (sargs : Array Value) (y : MethodName) (len W9 : Nat)
    (Pre : Pt → Array Value → Prop) (Post : Pt → Array Value → Option Value → Pt → Prop) (PostX : Pt → Array Value → Addr → Pt → Prop) : Prop :=
  ∀ (m : MethodId) (meth : Method) (c : Code) (A : Pt) (g : JFrame) (ig : Instr) (mk : MethodId) (a : Array Value),
    Stand p l e R s m sargs below meth c A.U A.locs A.cells A.slots → g.method = m → g.locals.size = c.maxLocals → decode c.code g.pc = .ok (ig, len) →
    2 * g.monitorRoom + (g.stack.map fun v => v.category).sum ≤ W9 → A.U.methodNamed? y = some mk → Pre A a →
    (∃ (v : Option Value) (B : Pt), Stand p l e R s m sargs below meth c B.U B.locs B.cells B.slots ∧ Post A a v B ∧
      Steps p.tables e below (doInvoke e (A.U.setTop g) [] mk a).1 (B.U.setTop { g with pc := g.pc + len, stack := v.toList ++ g.stack })) ∨
    (∃ (q : Addr) (B : Pt), Stand p l e R s m sargs below meth c B.U B.locs B.cells B.slots ∧ PostX A a q B ∧
      Steps p.tables e below (doInvoke e (A.U.setTop g) [] mk a).1 ((B.U.setTop g).pushFrame (.throwing q)))
section Payer
variable {l : Launch} {R : Room} {p : Program} {e : Env} {below : List Frame} {s : State} {sargs : Array Value} {y : MethodName} {len W9 : Nat}
theorem vx_back {ws : List Cond} {rm : Room} {Pc : Array Value → State → Prop} {Qc : Array Value → State → Outcome → State → Prop} {XC : String → State → State → Prop} {mc ms : Nat} {free : Addr → Prop} {bytes : ByteArray} {maxL : Nat} {ret : Option FieldType}
    (hM : vx_Met l y ws rm Pc Qc XC mc ms free) (hblind : FrameBlind Pc) (hrc : rm.cells = mc) (hrs : rm.slots = ms)
    (hframes : rm.frames + 1 ≤ R.frames) (hlocals : W9 + (maxL + 11) + rm.locals ≤ R.locals)
    (hws : ∀ w ∈ ws, ∀ a' U, s.WarmedH U.vm → w.before a' U = true) (hcode : Cond.code y bytes maxL ret ∈ ws) (hinit : ∀ a' U, s.WarmedH U.vm → (Cond.initialized y.cls).before a' U = true) :
    vx_Back l R p e below s sargs y len W9 (PreOf R mc ms Pc) (PostOf Qc mc ms free) (vx_Post XC mc ms free) := by
  intro m meth c A g ig mk a X hg hsize hdg hW hn hp
  have h1 : (headSpec ws rm).pre.before a A.U = true := atoms_intro fun w hw => hws w hw _ _ X.warmed
  have h2 : (Cond.code y bytes maxL ret).before a A.U = true := hws _ hcode _ _ X.warmed
  have h3 : (Cond.initialized y.cls).before a A.U = true := hinit _ _ X.warmed
  have h4 : A.cells + (headSpec ws rm).room.cells ≤ R.cells := by rw [show (headSpec ws rm).room.cells = mc from hrc]; exact hp.1
  have h5 : A.slots + (headSpec ws rm).room.slots ≤ R.slots := by rw [show (headSpec ws rm).room.slots = ms from hrs]; exact hp.2.1
  have hPc : Pc a (A.U.calling g mk a) := hblind _ _ _ _ hp.2.2
  obtain ⟨U, Ls, c0, s0⟩ := A
  dsimp only [Pt.U, Pt.locs, Pt.cells, Pt.slots] at h1 h2 h3 h4 h5 X hn hPc ⊢
  obtain ⟨methY, cY, hmY, hcY, -, hlY, -, -, -, -⟩ := Cond.code_spec hn h2
  obtain ⟨kY, hkY, -⟩ := className_of_methodNamed hn
  have hinitY : kY.init = .initialized := Cond.initialized_spec (findClass_of_methodNamed hn) hkY h3
  have h : At U g.method c below := by rw [hg]; exact X.here
  have hlocals9 : W9 + (maxL + 11) + (headSpec ws rm).room.locals ≤ R.locals := hlocals
  have happ : (headSpec ws rm).appliesLoose y e.platform (U.calling g mk a) = true :=
    Spec.appliesLoose_calling (g := g) h hdg hn hkY hinitY
      (X.room_calling (g := g) (R' := (headSpec ws rm).room) hsize hmY hcY hframes (by rw [hlY]; omega) h4 h5) h1
  obtain ⟨mid, hmid⟩ := h.above
  have hfr : (U.setTop g).frames = (.java g :: mid) ++ below := by rw [State.frames_setTop' g h.top, hmid]; rfl
  obtain ⟨o, s₂, hsteps, -, hend, hq⟩ := Steps.callFree hM p X.admits X.cas X.clock (acts := []) hfr happ hPc trivial
  have hq' : vx_Q Qc XC mc ms free a (U.calling g mk a) o s₂ := hq
  rw [State.frames_setTop' g h.top] at hend
  obtain ⟨g₀, hg0⟩ := Option.isSome_iff_exists.mp h.top
  obtain ⟨r, hr⟩ := State.topJava?_eq_some.mp hg0
  have hr' : (({ U with heap := s₂.heap, slotsUsed := s₂.slotsUsed } : State).setVm s₂.vm).frames = .java g₀ :: r := hr
  rcases hq' with ⟨hqc, L, hfe, hL⟩ | ⟨q, rfl, E, ce, L, hx, hce, hcv, hcl, hW₂, hsm, hL⟩
  · obtain ⟨⟨v, rfl⟩, hW₂, e2, q2, q3, q4, q5, q6⟩ := id hfe
    have e3 : s₂ = ({ (U.calling g mk a).setFrames s₂.frames with heap := s₂.heap, slotsUsed := s₂.slotsUsed } : State).setVm s₂.vm := by
      have : s₂ = ({ s₂ with vm := (U.calling g mk a).vm } : State).setVm s₂.vm := rfl
      rw [e2] at this
      exact this
    obtain ⟨c₂, i₂, len₂, hc₂, hd₂, hf₂⟩ := hend
    have hW' : U.WarmedH s₂.vm := hW₂
    have hcc : c₂ = c := by
      have h1 : s₂.code? g.method = U.code? g.method := by
        rw [State.code?_eq, State.code?_eq, hW'.alike.method?]
      exact Option.some.inj (hc₂.symm.trans (h1.trans h.code))
    subst hcc
    have hlen : len₂ = len := by rw [hdg] at hd₂; cases hd₂; rfl
    subst hlen
    have hs₂ : s₂ = (({ U with heap := s₂.heap, slotsUsed := s₂.slotsUsed } : State).setVm s₂.vm).setTop { g with pc := g.pc + len₂, stack := v.toList ++ g.stack } := by
      refine e3.trans ?_
      rw [hf₂, State.calling_eq h.top, State.setFrames_setFrames, State.setTop_of_frames _ hr', hr]
      rfl
    have hsame : U.sameButNew ({ U with heap := s₂.heap, slotsUsed := s₂.slotsUsed } : State) L mc ms := by
      refine ⟨?_, q2, q3, q4, q5, q6⟩
      obtain ⟨t, ht, -⟩ := State.frames_cons hr
      show ({ U with heap := s₂.heap, slotsUsed := s₂.slotsUsed } : State) = { U.setFrames U.frames with heap := s₂.heap, slotsUsed := s₂.slotsUsed }
      rw [State.setFrames_self ht]
    subst hg
    refine Or.inl ⟨v, ⟨(({ U with heap := s₂.heap, slotsUsed := s₂.slotsUsed } : State).setVm s₂.vm), Ls ++ L, c0 + mc, s0 + ms⟩,
      ⟨X.admits, X.cas, X.clock, X.frames, X.room, X.hears, X.method, X.code, (X.here.setHeapUsed s₂.heap s₂.slotsUsed).setVm hW'.alike, X.tail, State.WarmedH.trans X.warmed hW', X.limits, X.bytes, X.same.trans (hsame.setVm s.vm)⟩,
      ⟨g, mk, s₂, L, rfl, rfl, hqc, rfl, hL, rfl, rfl⟩, ?_⟩
    show Steps p.tables e below _ ((({ U with heap := s₂.heap, slotsUsed := s₂.slotsUsed } : State).setVm s₂.vm).setTop { g with pc := g.pc + len₂, stack := v.toList ++ g.stack })
    rw [← hs₂]
    exact hsteps
  · obtain ⟨e2, q2, q3, q4, q5, q6⟩ := id hsm
    have e3 : s₂ = ({ (U.calling g mk a).setFrames s₂.frames with heap := s₂.heap, slotsUsed := s₂.slotsUsed } : State).setVm s₂.vm := by
      have : s₂ = ({ s₂ with vm := (U.calling g mk a).vm } : State).setVm s₂.vm := rfl
      rw [e2] at this
      exact this
    have hf₂ : s₂.frames = .throwing q :: .java g :: U.frames.tail := hend
    have hW' : U.WarmedH s₂.vm := hW₂
    have hs₂ : s₂ = ((({ U with heap := s₂.heap, slotsUsed := s₂.slotsUsed } : State).setVm s₂.vm).setTop g).pushFrame (.throwing q) := by
      refine e3.trans ?_
      rw [hf₂, State.calling_eq h.top, State.setFrames_setFrames, State.pushFrame, State.frames_setTop _ hr', State.setTop_of_frames _ hr', State.setFrames_setFrames, hr]
      rfl
    have hsame : U.sameButNew ({ U with heap := s₂.heap, slotsUsed := s₂.slotsUsed } : State) L mc ms := by
      refine ⟨?_, q2, q3, q4, q5, q6⟩
      obtain ⟨t, ht, -⟩ := State.frames_cons hr
      show ({ U with heap := s₂.heap, slotsUsed := s₂.slotsUsed } : State) = { U.setFrames U.frames with heap := s₂.heap, slotsUsed := s₂.slotsUsed }
      rw [State.setFrames_self ht]
    subst hg
    refine Or.inr ⟨q, ⟨(({ U with heap := s₂.heap, slotsUsed := s₂.slotsUsed } : State).setVm s₂.vm), Ls ++ L, c0 + mc, s0 + ms⟩,
      ⟨X.admits, X.cas, X.clock, X.frames, X.room, X.hears, X.method, X.code, (X.here.setHeapUsed s₂.heap s₂.slotsUsed).setVm hW'.alike, X.tail, State.WarmedH.trans X.warmed hW', X.limits, X.bytes, X.same.trans (hsame.setVm s.vm)⟩,
      ⟨g, mk, s₂, L, E, ce, rfl, rfl, hx, hce, hcv, hcl, rfl, hL, rfl, rfl⟩, ?_⟩
    show Steps p.tables e below _ (((({ U with heap := s₂.heap, slotsUsed := s₂.slotsUsed } : State).setVm s₂.vm).setTop g).pushFrame (.throwing q))
    rw [← hs₂]
    exact hsteps
end Payer
section Calls
variable {p : Program} {l : Launch} {e : Env} {R : Room} {s : State} {m : MethodId} {args : Array Value} {below : List Frame} {meth : Method} {c : Code} {T : State} {locs : List Loc} {cells slots : Nat}
theorem vx_callV (X : Stand p l e R s m args below meth c T locs cells slots) (hexec : p.tables.exec = Jvm.exec) {own C : String} {index : Nat} {y : MethodName} {bytes : ByteArray} {maxL : Nat} {ret : Option FieldType}
    (hown : s.vm.findClass own = some m.cls) (hlink : (Cond.methodLink own index y).before args s = true) (hinst : (Cond.instanceMethod y).before args s = true) (hsel : (Cond.selects C y y).before args s = true)
    (hcode : (Cond.code y bytes maxL ret).before args s = true) (hy : y.cls ≠ "java/lang/invoke/MethodHandle" ∧ y.cls ≠ "java/lang/invoke/VarHandle")
    {W9 : Nat} {Pre : Pt → Array Value → Prop} {Post : Pt → Array Value → Option Value → Pt → Prop} {PostX : Pt → Array Value → Addr → Pt → Prop} (hK : vx_Back l R p e below s args y 3 W9 Pre Post PostX)
    {b : Addr} {cellB : Cell} (hcell : T.heap[b]? = some cellB) (hobj : cellB.vm.isStatics = false) (hcls : s.vm.findClass C = some cellB.cls)
    {g : JFrame} (hg : g.method = m) (hsize : g.locals.size = c.maxLocals) {argsL rest : List Value} (hlen : ∀ sig, parseMethodDescriptor y.desc = some sig → argsL.length = sig.parameters.length)
    (hstack : g.stack = argsL.reverse ++ .ref b :: rest) (hW : 2 * g.monitorRoom + (rest.map fun v => v.category).sum ≤ W9) (hdg : decode c.code g.pc = .ok (.invokevirtual index, 3))
    (hpre : ∀ vm₁, s.WarmedH vm₁ → Pre ⟨T.setVm vm₁, locs, cells, slots⟩ (Value.ref b :: argsL).toArray) :
    (∃ (v : Option Value) (vm₁ : Vm) (B : Pt), s.WarmedH vm₁ ∧ Stand p l e R s m args below meth c B.U B.locs B.cells B.slots ∧ Post ⟨T.setVm vm₁, locs, cells, slots⟩ (Value.ref b :: argsL).toArray v B ∧
      ∀ target, Steps p.tables e below (B.U.setTop { g with pc := g.pc + 3, stack := v.toList ++ rest }) target → Steps p.tables e below (T.setTop g) target) ∨
    (∃ (q : Addr) (vm₁ : Vm) (B : Pt), s.WarmedH vm₁ ∧ Stand p l e R s m args below meth c B.U B.locs B.cells B.slots ∧ PostX ⟨T.setVm vm₁, locs, cells, slots⟩ (Value.ref b :: argsL).toArray q B ∧
      Steps p.tables e below (T.setTop g) ((B.U.setTop { g with stack := rest }).pushFrame (.throwing q))) := by
  obtain ⟨mk, methM, hnamed, hmethM, hstM, habM⟩ := Cond.instanceMethod_spec hinst
  obtain ⟨methM', cM, hmethM', -, -, -, -, -, -, hsigM⟩ := Cond.code_spec hnamed hcode
  cases hmethM.symm.trans hmethM'
  obtain ⟨c2, r2, m2, q1, q2, q3, q4, kP, hkP, hkPi⟩ := Cond.selects_spec hsel
  cases hcls.symm.trans q1
  cases (State.methodFound?_of_named hnamed hy).symm.trans q2
  cases hnamed.symm.trans q3
  have hselP : selectMethod e.platform s.vm cellB.cls mk = .method mk := by rw [Launch.admits_selectMethod X.admits]; exact q4
  obtain ⟨vm₁, X₁, hstep₁⟩ := X.invokevirtual hexec hown hlink hnamed hmethM hstM hkP hkPi hy (a := b) (cell := cellB) hcell
    (fun z h => by rw [h] at hobj; cases hobj) hselP hmethM habM hkP hkPi (g := g) hg (argsL := argsL) (rest := rest) (hlen _ hsigM) hstack hdg
  rcases hK m meth c ⟨T.setVm vm₁, locs, cells, slots⟩ { g with stack := rest } (.invokevirtual index) mk (Value.ref b :: argsL).toArray X₁ hg hsize hdg hW (X₁.named hnamed) (hpre vm₁ X₁.warmed) with ⟨v, B, X', hpost, hsteps⟩ | ⟨q, B, X', hpost, hsteps⟩
  · exact Or.inl ⟨v, vm₁, B, X₁.warmed, X', hpost, fun target h => hstep₁ _ fun acts => by rw [doInvoke_state]; exact hsteps.trans h⟩
  · exact Or.inr ⟨q, vm₁, B, X₁.warmed, X', hpost, hstep₁ _ fun acts => by rw [doInvoke_state]; exact hsteps⟩
theorem vx_callS (X : Stand p l e R s m args below meth c T locs cells slots) (hexec : p.tables.exec = Jvm.exec) {own : String} {index : Nat} {y : MethodName} {bytes : ByteArray} {maxL : Nat} {ret : Option FieldType}
    (hown : s.vm.findClass own = some m.cls) (hlink : (Cond.methodLink own index y).before args s = true) (hstat : (Cond.static y).before args s = true) (hinit : (Cond.initialized y.cls).before args s = true)
    (hcode : (Cond.code y bytes maxL ret).before args s = true) (hy : y.cls ≠ "java/lang/invoke/MethodHandle" ∧ y.cls ≠ "java/lang/invoke/VarHandle")
    {W9 : Nat} {Pre : Pt → Array Value → Prop} {Post : Pt → Array Value → Option Value → Pt → Prop} {PostX : Pt → Array Value → Addr → Pt → Prop} (hK : vx_Back l R p e below s args y 3 W9 Pre Post PostX)
    {g : JFrame} (hg : g.method = m) (hsize : g.locals.size = c.maxLocals) {argsL rest : List Value} (hlen : ∀ sig, parseMethodDescriptor y.desc = some sig → argsL.length = sig.parameters.length)
    (hstack : g.stack = argsL.reverse ++ rest) (hW : 2 * g.monitorRoom + (rest.map fun v => v.category).sum ≤ W9) (hdg : decode c.code g.pc = .ok (.invokestatic index, 3))
    (hpre : ∀ vm₁, s.WarmedH vm₁ → Pre ⟨T.setVm vm₁, locs, cells, slots⟩ argsL.toArray) :
    (∃ (v : Option Value) (vm₁ : Vm) (B : Pt), s.WarmedH vm₁ ∧ Stand p l e R s m args below meth c B.U B.locs B.cells B.slots ∧ Post ⟨T.setVm vm₁, locs, cells, slots⟩ argsL.toArray v B ∧
      ∀ target, Steps p.tables e below (B.U.setTop { g with pc := g.pc + 3, stack := v.toList ++ rest }) target → Steps p.tables e below (T.setTop g) target) ∨
    (∃ (q : Addr) (vm₁ : Vm) (B : Pt), s.WarmedH vm₁ ∧ Stand p l e R s m args below meth c B.U B.locs B.cells B.slots ∧ PostX ⟨T.setVm vm₁, locs, cells, slots⟩ argsL.toArray q B ∧
      Steps p.tables e below (T.setTop g) ((B.U.setTop { g with stack := rest }).pushFrame (.throwing q))) := by
  obtain ⟨mk, hnamed⟩ := Cond.code_named hcode
  obtain ⟨methM, cM, hmethM, -, -, -, -, -, -, hsigM⟩ := Cond.code_spec hnamed hcode
  have hstatic : methM.isStatic = true := Cond.static_spec hnamed hmethM hstat
  obtain ⟨kP, hkP, -⟩ := className_of_methodNamed hnamed
  have hinitP : kP.init = .initialized := Cond.initialized_spec (findClass_of_methodNamed hnamed) hkP hinit
  obtain ⟨vm₁, X₁, hstep₁⟩ := X.invokestatic hexec hown hlink hnamed hmethM hstatic hkP hinitP hy (g := g) hg (argsL := argsL) (rest := rest) (hlen _ hsigM) hstack hdg
  rcases hK m meth c ⟨T.setVm vm₁, locs, cells, slots⟩ { g with stack := rest } (.invokestatic index) mk argsL.toArray X₁ hg hsize hdg hW (X₁.named hnamed) (hpre vm₁ X₁.warmed) with ⟨v, B, X', hpost, hsteps⟩ | ⟨q, B, X', hpost, hsteps⟩
  · exact Or.inl ⟨v, vm₁, B, X₁.warmed, X', hpost, fun target h => hstep₁ _ fun acts => by rw [doInvoke_state]; exact hsteps.trans h⟩
  · exact Or.inr ⟨q, vm₁, B, X₁.warmed, X', hpost, hstep₁ _ fun acts => by rw [doInvoke_state]; exact hsteps⟩
end Calls
theorem vx_cls {s : State} {T : State} {vm₁ : Vm} {E : String} {k : ClassId} (hW : s.WarmedH vm₁) (h : (T.setVm vm₁).vm.findClass E = some k) : s.vm.findClass E = some k := by
  have h1 : vm₁.findClass E = some k := h
  rw [hW.alike.findClass] at h1
  exact h1
/-- the method's frame g, with q thrown over it -/
def vx_W (p : Program) (l : Launch) (e : Env) (R : Room) (s : State) (m : MethodId) (args : Array Value) (below : List Frame) (meth : Method) (c : Code) (H : Heap) (locs : List Loc) (cells slots : Nat) (Q : State → Prop) (g : JFrame) (q : Addr) : Prop :=
  ∀ T : State, T.heap = H → Stand p l e R s m args below meth c T locs cells slots → ∃ t, Steps p.tables e below ((T.setTop g).pushFrame (.throwing q)) t ∧ Q t
def vx_Run (p : Program) (l : Launch) (e : Env) (R : Room) (s : State) (m : MethodId) (args : Array Value) (below : List Frame) (meth : Method) (c : Code) (H : Heap) (locs : List Loc) (cells slots mc ms : Nat) (g : JFrame) (rest : List Value) (Qa : State → Outcome → State → Prop) (XC : String → State → State → Prop) (free : Addr → Prop) : Prop :=
  ∀ T : State, T.heap = H → Stand p l e R s m args below meth c T locs cells slots →
    (∃ (v : Option Value) (st₀ t T' : State) (L : List Loc), st₀.heap = H ∧ Stand p l e R s m args below meth c T' (locs ++ L) (cells + mc) (slots + ms) ∧ (∀ q ∈ L, free q.base) ∧ T'.heap = t.heap ∧ T'.vm = t.vm ∧ Qa st₀ (.returned v) t ∧
      Goes p e below T g T' { g with pc := g.pc + 3, stack := v.toList ++ rest }) ∨
    (∃ (q : Addr) (st₀ t T' : State) (L : List Loc) (E : String) (ce : Cell), st₀.heap = H ∧ Stand p l e R s m args below meth c T' (locs ++ L) (cells + mc) (slots + ms) ∧ (∀ z ∈ L, free z.base) ∧ T'.heap = t.heap ∧ T'.vm = t.vm ∧ XC E st₀ t ∧ t.heap[q]? = some ce ∧ ce.vm = .none ∧ s.vm.findClass E = some ce.cls ∧
      Steps p.tables e below (T.setTop g) ((T'.setTop { g with stack := rest }).pushFrame (.throwing q)))
def vx_X {S : Type} (px : S → Prop) (B : String → S → State → Prop) (A : Nat → Prop) : String → State → State → Prop := fun E st t => ∃ u : S, px u ∧ B E u t ∧ va_F A st t
section Runs
variable {p : Program} {l : Launch} {e : Env} {R : Room} {s : State} {m : MethodId} {args : Array Value} {below : List Frame} {meth : Method} {c : Code} {H : Heap} {locs : List Loc} {cells slots : Nat}
variable {y : MethodName} {bytes cc : ByteArray} {maxL nL mc ms n index : Nat} {ret : Option FieldType} {ws : List Cond} {rm : Room} {Pc : Array Value → State → Prop} {Qc : Array Value → State → Outcome → State → Prop} {XC : String → State → State → Prop} {free : Addr → Prop} {Ts : List Cond} {own C : String} {b : Addr} {As rest : List Value} {g : JFrame}
theorem vx_callBack (cb : CallB R s args own index y bytes maxL ret ws rm mc ms n) (hM : vx_Met l y ws rm Pc Qc XC mc ms free) (hbl : FrameBlind Pc) : vx_Back l R p e below s args y 3 8 (PreOf R mc ms Pc) (PostOf Qc mc ms free) (vx_Post XC mc ms free) := by
  obtain ⟨hrc, hrs, hfr, hlo, hws, hcw, -, hini, -⟩ := cb
  exact vx_back (bytes := bytes) (maxL := maxL) (ret := ret) hM hbl hrc hrs hfr hlo hws hcw (fun a' U hW => word_at hW (Or.inl (by first | rfl | simp [Cond.onTables, Cond.keeps, Cond.steady])) hini)
theorem vx_runV (S : CallFix p m c cc nL s args Ts own) (hM : vx_Met l y ws rm Pc Qc XC mc ms free) (cw : CallW R s args own C index y bytes maxL ret ws rm mc ms n) (hp : PreV s H C b Pc As)
    (hg : g.method = m) (hn : As.length = n) (hsize : g.locals.size = nL) (hstack : g.stack = As.reverse ++ .ref b :: rest) (hW : 2 * g.monitorRoom + (rest.map fun v => v.category).sum ≤ 8) (hdg : decode cc g.pc = .ok (.invokevirtual index, 3)) (hf : cells + mc ≤ R.cells ∧ slots + ms ≤ R.slots) :
    vx_Run p l e R s m args below meth c H locs cells slots mc ms g rest (Qc (Value.ref b :: As).toArray) XC free := by
  have hK : vx_Back l R p e below s args y 3 8 (PreOf R mc ms Pc) (PostOf Qc mc ms free) (vx_Post XC mc ms free) := vx_callBack cw.1 hM hp.1
  obtain ⟨⟨-, -, -, -, -, -, hcode, -, hy, hlen, hl⟩, hin, hse⟩ := cw
  obtain ⟨hx, hb, hml, ho, -⟩ := S
  obtain ⟨-, ⟨cellB, hcB, hoB, hclB⟩, hPc⟩ := hp
  intro T hT X
  rcases vx_callV X hx (C := C) (bytes := bytes) (maxL := maxL) (ret := ret) ho hl hin hse hcode hy hK (by rw [hT]; exact hcB) hoB hclB hg (hsize.trans hml.symm) (argsL := As) (rest := rest) (fun sig h => hn.trans (hlen sig h)) hstack hW (by rw [hb]; exact hdg)
    (fun vm₁ hW₁ => ⟨hf.1, hf.2, hPc (T.setVm vm₁) hT hW₁⟩) with ⟨v, vm₁, ⟨U', l2, c2, s2⟩, hW₁, X', ⟨g', mk, t, L, e1, e2, hq, h1, hL, h2, h3⟩, st⟩ | ⟨q, vm₁, ⟨U', l2, c2, s2⟩, hW₁, X', ⟨g', mk, t, L, E, ce, e1, e2, hq, hce, hcv, hcl, h1, hL, h2, h3⟩, st⟩
  · dsimp only [Pt.U, Pt.locs, Pt.cells, Pt.slots] at X' e1 e2 h1 h2 h3 st
    subst h1; subst h2; subst h3
    exact Or.inl ⟨v, (T.setVm vm₁).calling g' mk (Value.ref b :: As).toArray, t, U', L, hT, X', hL, e1, e2, hq, st⟩
  · dsimp only [Pt.U, Pt.locs, Pt.cells, Pt.slots] at X' e1 e2 h1 h2 h3 st hcl
    subst h1; subst h2; subst h3
    exact Or.inr ⟨q, (T.setVm vm₁).calling g' mk (Value.ref b :: As).toArray, t, U', L, E, ce, hT, X', hL, e1, e2, hq, hce, hcv, vx_cls hW₁ hcl, st⟩
theorem vx_runS (S : CallFix p m c cc nL s args Ts own) (hM : vx_Met l y ws rm Pc Qc XC mc ms free) (cw : CallB R s args own index y bytes maxL ret ws rm mc ms n ∧ (Cond.static y).before args s = true) (hp : PreS s H Pc As)
    (hg : g.method = m) (hn : As.length = n) (hsize : g.locals.size = nL) (hstack : g.stack = As.reverse ++ rest) (hW : 2 * g.monitorRoom + (rest.map fun v => v.category).sum ≤ 8) (hdg : decode cc g.pc = .ok (.invokestatic index, 3)) (hf : cells + mc ≤ R.cells ∧ slots + ms ≤ R.slots) :
    vx_Run p l e R s m args below meth c H locs cells slots mc ms g rest (Qc As.toArray) XC free := by
  have hK : vx_Back l R p e below s args y 3 8 (PreOf R mc ms Pc) (PostOf Qc mc ms free) (vx_Post XC mc ms free) := vx_callBack cw.1 hM hp.1
  obtain ⟨⟨-, -, -, -, -, -, hcode, hini, hy, hlen, hl⟩, hstt⟩ := cw
  obtain ⟨hx, hb, hml, ho, -⟩ := S
  intro T hT X
  rcases vx_callS X hx (bytes := bytes) (maxL := maxL) (ret := ret) ho hl hstt hini hcode hy hK hg (hsize.trans hml.symm) (argsL := As) (rest := rest) (fun sig h => hn.trans (hlen sig h)) hstack hW (by rw [hb]; exact hdg)
    (fun vm₁ hW₁ => ⟨hf.1, hf.2, hp.2 (T.setVm vm₁) hT hW₁⟩) with ⟨v, vm₁, ⟨U', l2, c2, s2⟩, hW₁, X', ⟨g', mk, t, L, e1, e2, hq, h1, hL, h2, h3⟩, st⟩ | ⟨q, vm₁, ⟨U', l2, c2, s2⟩, hW₁, X', ⟨g', mk, t, L, E, ce, e1, e2, hq, hce, hcv, hcl, h1, hL, h2, h3⟩, st⟩
  · dsimp only [Pt.U, Pt.locs, Pt.cells, Pt.slots] at X' e1 e2 h1 h2 h3 st
    subst h1; subst h2; subst h3
    exact Or.inl ⟨v, (T.setVm vm₁).calling g' mk As.toArray, t, U', L, hT, X', hL, e1, e2, hq, st⟩
  · dsimp only [Pt.U, Pt.locs, Pt.cells, Pt.slots] at X' e1 e2 h1 h2 h3 st hcl
    subst h1; subst h2; subst h3
    exact Or.inr ⟨q, (T.setVm vm₁).calling g' mk As.toArray, t, U', L, E, ce, hT, X', hL, e1, e2, hq, hce, hcv, vx_cls hW₁ hcl, st⟩
end Runs
section Rows
variable {p : Program} {l : Launch} {e : Env} {R : Room} {s : State} {m : MethodId} {args : Array Value} {below : List Frame} {meth : Method} {c : Code} {H : Heap} {locs : List Loc} {cells slots : Nat} {Q : State → Prop}
variable {mc ms : Nat} {free : Addr → Prop} {A0 A1 : Nat → Prop} {H0 : Heap} {a : Array Value} {pc : Nat} {ls : Array Slot} {st0 rest : List Value}
theorem vx_keep {st₀ t T' : State} {L : List Loc} (h0 : st₀.heap = H) (e1 : T'.heap = t.heap) (hS : va_S A0 H0 H locs) (hA : ∀ q, q < H.size → A1 q → A0 q) (hf : ∀ q, free q → A0 q) (hL : ∀ q ∈ L, free q.base) (hF : va_F A1 st₀ t) :
    H.size ≤ T'.heap.size ∧ (∀ q : Nat, q < H.size → ¬ A1 q → T'.heap[q]? = H[q]?) ∧ va_S A0 H0 T'.heap (locs ++ L) := by
  obtain ⟨hz, hk⟩ := hF
  rw [h0] at hz hk
  exact ⟨by rw [e1]; exact hz, fun q h1 h2 => by rw [e1]; exact hk q h1 h2,
    ⟨Nat.le_trans hS.1 (by rw [e1]; exact hz), fun q h1 h2 => by rw [e1, hk q (Nat.lt_of_lt_of_le h1 hS.1) (fun z => h2 (hA q (Nat.lt_of_lt_of_le h1 hS.1) z))]; exact hS.2.1 q h1 h2, fun q hq => by
      rcases List.mem_append.mp hq with h | h
      · exact hS.2.2 q h
      · exact hf _ (hL q h)⟩⟩
theorem vx_calli {S SX : Type} {post : Int32 → S → Prop} {px : SX → Prop} {B : S → State → Prop} {BX : String → SX → State → Prop} {AX : Nat → Prop} (hr : vx_Run p l e R s m args below meth c H locs cells slots mc ms (F0 m pc ls st0) rest (va_Qi post B A1 a) (vx_X px BX AX) free) (hS : va_S A0 H0 H locs) (hA : ∀ q, q < H.size → A1 q → A0 q) (hf : ∀ q, free q → A0 q) (hAX : ∀ q, q < H.size → AX q → A0 q)
    (kx : ∀ (E : String) (ce : Cell) (q9 : Addr) (u : SX) (t : State) (H1 : Heap) (locs1 : List Loc), t.heap = H1 → s.vm.Alike t.vm → px u → BX E u t → H.size ≤ H1.size → (∀ q : Nat, q < H.size → ¬ AX q → H1[q]? = H[q]?) → va_S A0 H0 H1 locs1 → H1[q9]? = some ce → ce.vm = .none → s.vm.findClass E = some ce.cls → vx_W p l e R s m args below meth c H1 locs1 (cells + mc) (slots + ms) Q (F0 m pc ls rest) q9)
    (kk : ∀ (r : Int32) (u : S) (t : State) (H1 : Heap) (locs1 : List Loc), t.heap = H1 → s.vm.Alike t.vm → post r u → B u t → H.size ≤ H1.size → (∀ q : Nat, q < H.size → ¬ A1 q → H1[q]? = H[q]?) → va_S A0 H0 H1 locs1 → W p l e R s m args below meth c H1 locs1 (cells + mc) (slots + ms) Q (F0 m (pc + 3) ls (.int r :: rest))) : W p l e R s m args below meth c H locs cells slots Q (F0 m pc ls st0) := by
  intro T hT X
  rcases hr T hT X with ⟨v, st₀, t, T', L, h0, X', hL, e1, e2, ⟨⟨r, u, hv, hp, hb⟩, hF⟩, st⟩ | ⟨q, st₀, t, T', L, E, ce, h0, X', hL, e1, e2, ⟨u, hp, hb, hF⟩, hce, hcv, hcl, st⟩
  · cases hv
    obtain ⟨k1, k2, k3⟩ := vx_keep h0 e1 hS hA hf hL hF
    obtain ⟨t2, a1, b1⟩ := kk r u t T'.heap (locs ++ L) e1.symm (by rw [← e2]; exact X'.warmed.alike) hp hb k1 k2 k3 T' rfl X'
    exact ⟨t2, st t2 a1, b1⟩
  · obtain ⟨k1, k2, k3⟩ := vx_keep h0 e1 hS hAX hf hL hF
    obtain ⟨t2, a1, b1⟩ := kx E ce q u t T'.heap (locs ++ L) e1.symm (by rw [← e2]; exact X'.warmed.alike) hp hb k1 k2 k3 (by rw [e1]; exact hce) hcv hcl T' rfl X'
    exact ⟨t2, st.trans a1, b1⟩
theorem vx_calll {S SX : Type} {post : Int64 → S → Prop} {px : SX → Prop} {B : S → State → Prop} {BX : String → SX → State → Prop} {AX : Nat → Prop} (hr : vx_Run p l e R s m args below meth c H locs cells slots mc ms (F0 m pc ls st0) rest (va_Ql post B A1 a) (vx_X px BX AX) free) (hS : va_S A0 H0 H locs) (hA : ∀ q, q < H.size → A1 q → A0 q) (hf : ∀ q, free q → A0 q) (hAX : ∀ q, q < H.size → AX q → A0 q)
    (kx : ∀ (E : String) (ce : Cell) (q9 : Addr) (u : SX) (t : State) (H1 : Heap) (locs1 : List Loc), t.heap = H1 → s.vm.Alike t.vm → px u → BX E u t → H.size ≤ H1.size → (∀ q : Nat, q < H.size → ¬ AX q → H1[q]? = H[q]?) → va_S A0 H0 H1 locs1 → H1[q9]? = some ce → ce.vm = .none → s.vm.findClass E = some ce.cls → vx_W p l e R s m args below meth c H1 locs1 (cells + mc) (slots + ms) Q (F0 m pc ls rest) q9)
    (kk : ∀ (r : Int64) (u : S) (t : State) (H1 : Heap) (locs1 : List Loc), t.heap = H1 → s.vm.Alike t.vm → post r u → B u t → H.size ≤ H1.size → (∀ q : Nat, q < H.size → ¬ A1 q → H1[q]? = H[q]?) → va_S A0 H0 H1 locs1 → W p l e R s m args below meth c H1 locs1 (cells + mc) (slots + ms) Q (F0 m (pc + 3) ls (.long r :: rest))) : W p l e R s m args below meth c H locs cells slots Q (F0 m pc ls st0) := by
  intro T hT X
  rcases hr T hT X with ⟨v, st₀, t, T', L, h0, X', hL, e1, e2, ⟨⟨r, u, hv, hp, hb⟩, hF⟩, st⟩ | ⟨q, st₀, t, T', L, E, ce, h0, X', hL, e1, e2, ⟨u, hp, hb, hF⟩, hce, hcv, hcl, st⟩
  · cases hv
    obtain ⟨k1, k2, k3⟩ := vx_keep h0 e1 hS hA hf hL hF
    obtain ⟨t2, a1, b1⟩ := kk r u t T'.heap (locs ++ L) e1.symm (by rw [← e2]; exact X'.warmed.alike) hp hb k1 k2 k3 T' rfl X'
    exact ⟨t2, st t2 a1, b1⟩
  · obtain ⟨k1, k2, k3⟩ := vx_keep h0 e1 hS hAX hf hL hF
    obtain ⟨t2, a1, b1⟩ := kx E ce q u t T'.heap (locs ++ L) e1.symm (by rw [← e2]; exact X'.warmed.alike) hp hb k1 k2 k3 (by rw [e1]; exact hce) hcv hcl T' rfl X'
    exact ⟨t2, st.trans a1, b1⟩
theorem vx_callf {S SX : Type} {post : UInt32 → S → Prop} {px : SX → Prop} {B : S → State → Prop} {BX : String → SX → State → Prop} {AX : Nat → Prop} (hr : vx_Run p l e R s m args below meth c H locs cells slots mc ms (F0 m pc ls st0) rest (va_Qf post B A1 a) (vx_X px BX AX) free) (hS : va_S A0 H0 H locs) (hA : ∀ q, q < H.size → A1 q → A0 q) (hf : ∀ q, free q → A0 q) (hAX : ∀ q, q < H.size → AX q → A0 q)
    (kx : ∀ (E : String) (ce : Cell) (q9 : Addr) (u : SX) (t : State) (H1 : Heap) (locs1 : List Loc), t.heap = H1 → s.vm.Alike t.vm → px u → BX E u t → H.size ≤ H1.size → (∀ q : Nat, q < H.size → ¬ AX q → H1[q]? = H[q]?) → va_S A0 H0 H1 locs1 → H1[q9]? = some ce → ce.vm = .none → s.vm.findClass E = some ce.cls → vx_W p l e R s m args below meth c H1 locs1 (cells + mc) (slots + ms) Q (F0 m pc ls rest) q9)
    (kk : ∀ (r : UInt32) (u : S) (t : State) (H1 : Heap) (locs1 : List Loc), t.heap = H1 → s.vm.Alike t.vm → post r u → B u t → H.size ≤ H1.size → (∀ q : Nat, q < H.size → ¬ A1 q → H1[q]? = H[q]?) → va_S A0 H0 H1 locs1 → W p l e R s m args below meth c H1 locs1 (cells + mc) (slots + ms) Q (F0 m (pc + 3) ls (.float r :: rest))) : W p l e R s m args below meth c H locs cells slots Q (F0 m pc ls st0) := by
  intro T hT X
  rcases hr T hT X with ⟨v, st₀, t, T', L, h0, X', hL, e1, e2, ⟨⟨r, u, hv, hp, hb⟩, hF⟩, st⟩ | ⟨q, st₀, t, T', L, E, ce, h0, X', hL, e1, e2, ⟨u, hp, hb, hF⟩, hce, hcv, hcl, st⟩
  · cases hv
    obtain ⟨k1, k2, k3⟩ := vx_keep h0 e1 hS hA hf hL hF
    obtain ⟨t2, a1, b1⟩ := kk r u t T'.heap (locs ++ L) e1.symm (by rw [← e2]; exact X'.warmed.alike) hp hb k1 k2 k3 T' rfl X'
    exact ⟨t2, st t2 a1, b1⟩
  · obtain ⟨k1, k2, k3⟩ := vx_keep h0 e1 hS hAX hf hL hF
    obtain ⟨t2, a1, b1⟩ := kx E ce q u t T'.heap (locs ++ L) e1.symm (by rw [← e2]; exact X'.warmed.alike) hp hb k1 k2 k3 (by rw [e1]; exact hce) hcv hcl T' rfl X'
    exact ⟨t2, st.trans a1, b1⟩
theorem vx_calld {S SX : Type} {post : UInt64 → S → Prop} {px : SX → Prop} {B : S → State → Prop} {BX : String → SX → State → Prop} {AX : Nat → Prop} (hr : vx_Run p l e R s m args below meth c H locs cells slots mc ms (F0 m pc ls st0) rest (va_Qd post B A1 a) (vx_X px BX AX) free) (hS : va_S A0 H0 H locs) (hA : ∀ q, q < H.size → A1 q → A0 q) (hf : ∀ q, free q → A0 q) (hAX : ∀ q, q < H.size → AX q → A0 q)
    (kx : ∀ (E : String) (ce : Cell) (q9 : Addr) (u : SX) (t : State) (H1 : Heap) (locs1 : List Loc), t.heap = H1 → s.vm.Alike t.vm → px u → BX E u t → H.size ≤ H1.size → (∀ q : Nat, q < H.size → ¬ AX q → H1[q]? = H[q]?) → va_S A0 H0 H1 locs1 → H1[q9]? = some ce → ce.vm = .none → s.vm.findClass E = some ce.cls → vx_W p l e R s m args below meth c H1 locs1 (cells + mc) (slots + ms) Q (F0 m pc ls rest) q9)
    (kk : ∀ (r : UInt64) (u : S) (t : State) (H1 : Heap) (locs1 : List Loc), t.heap = H1 → s.vm.Alike t.vm → post r u → B u t → H.size ≤ H1.size → (∀ q : Nat, q < H.size → ¬ A1 q → H1[q]? = H[q]?) → va_S A0 H0 H1 locs1 → W p l e R s m args below meth c H1 locs1 (cells + mc) (slots + ms) Q (F0 m (pc + 3) ls (.double r :: rest))) : W p l e R s m args below meth c H locs cells slots Q (F0 m pc ls st0) := by
  intro T hT X
  rcases hr T hT X with ⟨v, st₀, t, T', L, h0, X', hL, e1, e2, ⟨⟨r, u, hv, hp, hb⟩, hF⟩, st⟩ | ⟨q, st₀, t, T', L, E, ce, h0, X', hL, e1, e2, ⟨u, hp, hb, hF⟩, hce, hcv, hcl, st⟩
  · cases hv
    obtain ⟨k1, k2, k3⟩ := vx_keep h0 e1 hS hA hf hL hF
    obtain ⟨t2, a1, b1⟩ := kk r u t T'.heap (locs ++ L) e1.symm (by rw [← e2]; exact X'.warmed.alike) hp hb k1 k2 k3 T' rfl X'
    exact ⟨t2, st t2 a1, b1⟩
  · obtain ⟨k1, k2, k3⟩ := vx_keep h0 e1 hS hAX hf hL hF
    obtain ⟨t2, a1, b1⟩ := kx E ce q u t T'.heap (locs ++ L) e1.symm (by rw [← e2]; exact X'.warmed.alike) hp hb k1 k2 k3 (by rw [e1]; exact hce) hcv hcl T' rfl X'
    exact ⟨t2, st.trans a1, b1⟩
theorem vx_callv {S SX : Type} {post : S → Prop} {px : SX → Prop} {B : S → State → Prop} {BX : String → SX → State → Prop} {AX : Nat → Prop} (hr : vx_Run p l e R s m args below meth c H locs cells slots mc ms (F0 m pc ls st0) rest (va_Qv post B A1 a) (vx_X px BX AX) free) (hS : va_S A0 H0 H locs) (hA : ∀ q, q < H.size → A1 q → A0 q) (hf : ∀ q, free q → A0 q) (hAX : ∀ q, q < H.size → AX q → A0 q)
    (kx : ∀ (E : String) (ce : Cell) (q9 : Addr) (u : SX) (t : State) (H1 : Heap) (locs1 : List Loc), t.heap = H1 → s.vm.Alike t.vm → px u → BX E u t → H.size ≤ H1.size → (∀ q : Nat, q < H.size → ¬ AX q → H1[q]? = H[q]?) → va_S A0 H0 H1 locs1 → H1[q9]? = some ce → ce.vm = .none → s.vm.findClass E = some ce.cls → vx_W p l e R s m args below meth c H1 locs1 (cells + mc) (slots + ms) Q (F0 m pc ls rest) q9)
    (kk : ∀ (u : S) (t : State) (H1 : Heap) (locs1 : List Loc), t.heap = H1 → s.vm.Alike t.vm → post u → B u t → H.size ≤ H1.size → (∀ q : Nat, q < H.size → ¬ A1 q → H1[q]? = H[q]?) → va_S A0 H0 H1 locs1 → W p l e R s m args below meth c H1 locs1 (cells + mc) (slots + ms) Q (F0 m (pc + 3) ls (rest))) : W p l e R s m args below meth c H locs cells slots Q (F0 m pc ls st0) := by
  intro T hT X
  rcases hr T hT X with ⟨v, st₀, t, T', L, h0, X', hL, e1, e2, ⟨⟨u, hv, hp, hb⟩, hF⟩, st⟩ | ⟨q, st₀, t, T', L, E, ce, h0, X', hL, e1, e2, ⟨u, hp, hb, hF⟩, hce, hcv, hcl, st⟩
  · cases hv
    obtain ⟨k1, k2, k3⟩ := vx_keep h0 e1 hS hA hf hL hF
    obtain ⟨t2, a1, b1⟩ := kk u t T'.heap (locs ++ L) e1.symm (by rw [← e2]; exact X'.warmed.alike) hp hb k1 k2 k3 T' rfl X'
    exact ⟨t2, st t2 a1, b1⟩
  · obtain ⟨k1, k2, k3⟩ := vx_keep h0 e1 hS hAX hf hL hF
    obtain ⟨t2, a1, b1⟩ := kx E ce q u t T'.heap (locs ++ L) e1.symm (by rw [← e2]; exact X'.warmed.alike) hp hb k1 k2 k3 (by rw [e1]; exact hce) hcv hcl T' rfl X'
    exact ⟨t2, st.trans a1, b1⟩
/-- caught by the row x of this method's table; the rows ahead don't take it -/
theorem vx_catch {own name : String} {E : String} {ce : Cell} {q : Addr} (hown : s.vm.findClass own = some m.cls) (pre : List ExceptionTableEntry) (x : ExceptionTableEntry) (suf : List ExceptionTableEntry) (hsplit : c.exceptionTable.toList = pre ++ x :: suf)
    (hpass : ∀ z ∈ pre, covers z pc = false ∨ (z.catchType ≠ 0 ∧ ∃ nm : String, (Cond.classLink own z.catchType nm).before args s = true ∧ va_Nc E nm s)) (hx : covers x pc = true) (h0 : x.catchType ≠ 0)
    (hlink : (Cond.classLink own x.catchType name).before args s = true) (hcast : (Cond.castable E name).before args s = true) (hcell : H[q]? = some ce) (hv : ce.vm = .none) (hcl : s.vm.findClass E = some ce.cls)
    (kk : W p l e R s m args below meth c H locs cells slots Q (F0 m x.handlerPc ls [.ref q])) : vx_W p l e R s m args below meth c H locs cells slots Q (F0 m pc ls rest) q := by
  intro T hT X
  have hpl : e.platform.magicAccessors = ({} : Platform).magicAccessors := by rw [X.admits.platform]
  obtain ⟨c3, c4, hc3, hc4, hasg⟩ := Cond.castable_spec hcast
  cases Option.some.inj (hc3.symm.trans hcl)
  obtain ⟨c5, hc5, hcl5⟩ := Cond.classLink_spec hown hlink e.platform hpl
  cases Option.some.inj (hc4.symm.trans hc5)
  obtain ⟨vm', X', st⟩ := X.thenCaughtThrough q (g := F0 m pc ls rest) rfl (Steps.refl _) (by rw [hT]; exact hcell) (by rw [hv]; rfl) (by obtain ⟨k9, h9, -⟩ := Vm.findClass_spec hcl; exact ⟨k9, h9⟩) pre x suf hsplit
    (fun z hz => by
      rcases hpass z hz with h | ⟨hz0, nm, hl1, hn1⟩
      · exact Or.inl h
      · obtain ⟨c6, hc6, hcl6⟩ := Cond.classLink_spec hown hl1 e.platform hpl
        obtain ⟨a8, b8, h1, h2, h3⟩ := hn1
        cases Option.some.inj (h1.symm.trans hcl)
        cases Option.some.inj (h2.symm.trans hc6)
        exact Or.inr ⟨hz0, _, hcl6, h3⟩) hx (Or.inr ⟨h0, c4, hcl5, hasg⟩)
  obtain ⟨t, a1, b1⟩ := kk (T.setVm vm') hT X'
  exact ⟨t, st.trans a1, b1⟩
end Rows
section Ends
variable {p : Program} {l : Launch} {e : Env} {R : Room} {s : State} {m : MethodId} {args : Array Value} {below : List Frame} {meth : Method} {c : Code} {H : Heap} {locs : List Loc} {cells slots : Nat} {Q : State → Prop}
variable {mc ms : Nat} {free : Addr → Prop} {A0 A1 : Nat → Prop} {H0 : Heap} {a : Array Value} {ls : Array Slot} {st0 rest : List Value}
variable {Qc : Array Value → State → Outcome → State → Prop} {XC : String → State → State → Prop}
/-- what a body that may throw owes at its end -/
def vx_MQ (below : List Frame) (Qc : Array Value → State → Outcome → State → Prop) (XC : String → State → State → Prop) (a : Array Value) (s : State) (mc ms : Nat) (free : Addr → Prop) : State → Prop := fun t =>
  ∃ o, t.status = .running ∧ Ended t below o ∧ vx_Q Qc XC mc ms free a s o t
theorem vx_ret {g : JFrame} {mc ms : Nat} (k : W p l e R s m args below meth c H locs cells slots (MQ below Qc args s mc ms free) g) : W p l e R s m args below meth c H locs cells slots (vx_MQ below Qc XC args s mc ms free) g := by
  intro T hT X
  obtain ⟨t, a1, o, b1, b2, b3, b4⟩ := k T hT X
  exact ⟨t, a1, o, b1, b2, Or.inl ⟨b3, b4⟩⟩
/-- not caught here: it goes on to the caller -/
theorem vx_widen {g : JFrame} {q : Addr} {k n : Nat} (h1 : cells ≤ k) (h2 : slots ≤ n) (kk : vx_W p l e R s m args below meth c H locs k n Q g q) : vx_W p l e R s m args below meth c H locs cells slots Q g q := fun T hT X => kk T hT (stand_widen X h1 h2)
theorem vx_out {pc : Nat} {E : String} {ce : Cell} {q : Addr} {mc ms : Nat} (hout : ∀ x ∈ c.exceptionTable.toList, covers x pc = false) (hlocks : meth.locks = false) (hcell : H[q]? = some ce) (hv : ce.vm = .none) (hcl : s.vm.findClass E = some ce.cls)
    (hx : ∀ t : State, t.heap = H → s.vm.Alike t.vm → XC E s t) (hf : ∀ z ∈ locs, free z.base) (hc : cells ≤ mc) (hs : slots ≤ ms) :
    vx_W p l e R s m args below meth c H locs cells slots (vx_MQ below Qc XC args s mc ms free) (F0 m pc ls rest) q := by
  intro T hT X
  obtain ⟨st1, hrun, hend, hW, hsm⟩ := X.leaveThrown q (g := F0 m pc ls rest) rfl rfl rfl hout hlocks
  have hcell9 : (T.setFrames (.throwing q :: below)).heap[q]? = some ce := by
    show T.heap[q]? = some ce
    rw [hT]; exact hcell
  exact ⟨_, st1, .threw q, hrun, hend, Or.inr ⟨q, rfl, E, ce, locs, hx _ hT hW.alike, hcell9, hv, hcl, hW, hsm.mono hc hs, hf⟩⟩
theorem vx_frame {U : State} {k n : Nat} (h : s.sameButNew ({ U with vm := s.vm } : State) locs k n) : s.heap.size ≤ U.heap.size ∧ ∀ q : Nat, q < s.heap.size → (∀ z ∈ locs, z.base ≠ q) → U.heap[q]? = s.heap[q]? := by
  obtain ⟨-, h2, -, -, -, h6⟩ := h
  refine ⟨h2, fun q hq hz => ?_⟩
  obtain ⟨c9, e1, e2, e3, e4⟩ := h6 q _ (Array.getElem?_eq_getElem hq)
  have hs : c9.slots = (s.heap[q]).slots := Array.ext_getElem? fun i => e4 i fun hm => hz _ hm rfl
  have h9 : c9 = s.heap[q] := by
    rw [hs] at e2
    exact e2
  have e5 : U.heap[q]? = some c9 := e1
  rw [e5, h9, Array.getElem?_eq_getElem hq]
/-- the words of a throw but the four that speak of the heap -/
def vx_no (w : Cond) : Bool := decide (w ≠ .isRef (.static Bundle.tN "UNASSIGNED_STACK" Bundle.steD)) && decide (w ≠ .isRef (.static Bundle.tN "SUPPRESSED_SENTINEL" Bundle.listD)) && decide (w ≠ .laysStatic Bundle.tN "UNASSIGNED_STACK" Bundle.steD) && decide (w ≠ .laysStatic Bundle.tN "SUPPRESSED_SENTINEL" Bundle.listD)
def vx_at0 (own : String) (ic : Nat) (X : String) (names : List String) : List Cond := (Bundle.ownAtoms0 own ic X names).filter vx_no
def vx_atS (own : String) (ic : Nat) (X : String) (names : List String) : List Cond := (Bundle.ownAtoms own ic X names).filter vx_no
/-- a word that the tables alone decide, or a good one -/
def vx_ot (w : Cond) : Bool := w.onTables || goodWord w
theorem vx_ot_at {args a' : Array Value} {s U : State} {w : Cond} (hW : s.WarmedH U.vm) (hvm : s.vm = U.vm) (hg : vx_ot w = true) (h : w.before args s = true) : w.before a' U = true := by
  simp only [vx_ot, Bool.or_eq_true] at hg
  rcases hg with hg | hg
  · exact va_tabs hg hvm h
  · exact word_at hW (good_of_word hg) h
/-- a list's words: the good ones out of the method's own list, the others by premises of their own -/
theorem vx_hat {args : Array Value} {s : State} {L B : List Cond} (h1 : ∀ w ∈ L.filter goodWord, w.before args s = true) (h2 : ∀ w ∈ L.filter (fun w => !goodWord w), w ∈ B) (h3 : ∀ w ∈ B, w.before args s = true) : ∀ w ∈ L, w.before args s = true := by
  intro w hw
  by_cases g : goodWord w = true
  · exact h1 w (List.mem_filter.mpr ⟨hw, g⟩)
  · refine h3 w (h2 w (List.mem_filter.mpr ⟨hw, ?_⟩))
    show (!goodWord w) = true
    cases hgw : goodWord w
    · rfl
    · exact absurd hgw g
theorem vx_c {args : Array Value} {s : State} {w : Cond} {B : List Cond} (h : w.before args s = true) (t : ∀ w ∈ B, w.before args s = true) : ∀ w' ∈ w :: B, w'.before args s = true := fun w' h' => (List.mem_cons.mp h').elim (fun e => by rw [e]; exact h) (t w')
theorem vx_n {args : Array Value} {s : State} : ∀ w ∈ ([] : List Cond), w.before args s = true := fun _ h => nomatch h
theorem vx_own {args : Array Value} {s : State} {L : List Cond} (h1 : ∀ w ∈ L.filter vx_no, w.before args s = true)
    (hU : (Cond.isRef (.static Bundle.tN "UNASSIGNED_STACK" Bundle.steD)).before args s = true) (hN : (Cond.isRef (.static Bundle.tN "SUPPRESSED_SENTINEL" Bundle.listD)).before args s = true)
    (lU : (Cond.laysStatic Bundle.tN "UNASSIGNED_STACK" Bundle.steD).before args s = true) (lN : (Cond.laysStatic Bundle.tN "SUPPRESSED_SENTINEL" Bundle.listD).before args s = true) : ∀ w ∈ L, w.before args s = true := by
  intro w hw
  by_cases e1 : w = .isRef (.static Bundle.tN "UNASSIGNED_STACK" Bundle.steD)
  · rw [e1]; exact hU
  · by_cases e2 : w = .isRef (.static Bundle.tN "SUPPRESSED_SENTINEL" Bundle.listD)
    · rw [e2]; exact hN
    · by_cases e3 : w = .laysStatic Bundle.tN "UNASSIGNED_STACK" Bundle.steD
      · rw [e3]; exact lU
      · by_cases e4 : w = .laysStatic Bundle.tN "SUPPRESSED_SENTINEL" Bundle.listD
        · rw [e4]; exact lN
        · exact h1 w (List.mem_filter.mpr ⟨hw, by unfold vx_no; rw [decide_eq_true e1, decide_eq_true e2, decide_eq_true e3, decide_eq_true e4]; rfl⟩)
/-- where a static field lies, its class's statics cell in H -/
def vx_L (C n d : String) (A : Nat → Prop) (U : State) (H : Heap) : Prop := ∃ (c : ClassId) (k : Class) (i : Nat) (f : Field) (a : Nat) (cell : Cell), U.vm.findClass C = some c ∧ U.fieldFound? C n d = some (c, k, i, f) ∧ f.isStatic = true ∧ k.statics = some a ∧ H[a]? = some cell ∧ cell.vm.isStatics = true ∧ cell.cls = c ∧ f.slot < cell.slots.size ∧ k.staticTypes[f.slot]? = some f.type ∧ ¬ A a
theorem vx_L.moved {C n d : String} {A : Nat → Prop} {u U : State} {H : Heap} (hvm : u.vm.Alike U.vm) (h : vx_L C n d A u H) : vx_L C n d A U H := by
  obtain ⟨c, k, i, f, a, cell, h1, h2, h3, h4, h5, h6, h7, h8, h9, h10⟩ := h
  obtain ⟨k', hi', he⟩ := State.fieldFound?_setVm hvm h2
  exact ⟨c, k', i, f, a, cell, by rw [hvm.findClass]; exact h1, hi', h3, by rw [he]; exact h4, h5, h6, h7, h8, by rw [he]; exact h9, h10⟩
theorem vx_L.kept {C n d : String} {A : Nat → Prop} {U : State} {H H1 : Heap} (h : vx_L C n d A U H) (hq : ∀ a : Nat, a < H.size → ¬ A a → H1[a]? = H[a]?) : vx_L C n d A U H1 := by
  obtain ⟨c, k, i, f, a, cell, h1, h2, h3, h4, h5, h6, h7, h8, h9, h10⟩ := h
  exact ⟨c, k, i, f, a, cell, h1, h2, h3, h4, by rw [hq a (Array.getElem?_eq_some_iff.mp h5).1 h10]; exact h5, h6, h7, h8, h9, h10⟩
theorem vx_L.narrow {C n d : String} {A B : Nat → Prop} {U : State} {H : Heap} (h : vx_L C n d A U H) (hAB : ∀ q, B q → A q) : vx_L C n d B U H := by
  obtain ⟨c, k, i, f, a, cell, h1, h2, h3, h4, h5, h6, h7, h8, h9, h10⟩ := h
  exact ⟨c, k, i, f, a, cell, h1, h2, h3, h4, h5, h6, h7, h8, h9, fun z => h10 (hAB _ z)⟩
theorem vx_L.word {C n d : String} {A : Nat → Prop} {s : State} {args : Array Value} (h : vx_L C n d A s s.heap) : (Cond.laysStatic C n d).before args s = true := by
  obtain ⟨c, k, i, f, a, cell, h1, h2, h3, h4, h5, h6, h7, h8, h9, -⟩ := h
  show (Cond.laysStatic C n d).holds args s none s [] = true
  exact Cond.laysStatic_of h1 h2 h3 h4 h5 h6 h7 h8 h9
/-- .. and what it holds: null or some reference -/
def vx_Zq (C n d : String) (A : Nat → Prop) (U : State) (H : Heap) : Prop := va_Zq C n d A U H ∧ vx_L C n d A U H
theorem vx_Zq.moved {C n d : String} {A : Nat → Prop} {u U : State} {H : Heap} (hvm : u.vm.Alike U.vm) (h : vx_Zq C n d A u H) : vx_Zq C n d A U H := ⟨va_Zq.moved hvm h.1, vx_L.moved hvm h.2⟩
theorem vx_Zq.kept {C n d : String} {A : Nat → Prop} {U : State} {H H1 : Heap} (h : vx_Zq C n d A U H) (hq : ∀ a : Nat, a < H.size → ¬ A a → H1[a]? = H[a]?) : vx_Zq C n d A U H1 := ⟨va_Zq.kept h.1 hq, vx_L.kept h.2 hq⟩
theorem vx_Zq.narrow {C n d : String} {A B : Nat → Prop} {U : State} {H : Heap} (h : vx_Zq C n d A U H) (hAB : ∀ q, B q → A q) : vx_Zq C n d B U H := ⟨va_Zq.narrow h.1 hAB, vx_L.narrow h.2 hAB⟩
theorem vx_Zqof {args : Array Value} {s : State} {C n d : String} {A : Nat → Prop} (hl : (Cond.laysStatic C n d).before args s = true) (hini : (Cond.initialized C).before args s = true) (h : (Cond.isRef (.static C n d)).before args s = true) (hA : ∀ a : Nat, a < s.heap.size → ¬ A a) : vx_Zq C n d A s s.heap := by
  refine ⟨va_Zqof hl hini h hA, ?_⟩
  obtain ⟨c, k, i, f, a, cell, h1, h2, h3, h4, h5, h6, h7, h8, h9⟩ := Cond.laysStatic_spec hl
  exact ⟨c, k, i, f, a, cell, h1, h2, h3, h4, h5, h6, h7, h8, h9, hA a (Array.getElem?_eq_some_iff.mp h5).1⟩
theorem vx_isRef {C n d : String} {v : Value} {A : Nat → Prop} {s : State} {args : Array Value} (h : va_Z C n d v A s s.heap) (hv : v.isRef = true) : (Cond.isRef (.static C n d)).before args s = true := by
  obtain ⟨cf, kf, fi, f, a, cell, h1, h2, h3, h4, h5, h6, h7, -⟩ := h
  have he : (Term.static C n d).eval args s none [] s = some v := by
    simp [Term.eval, State.fieldNamed?, h1, h2, h4, h5, h6, h7]
  simp only [Cond.before, Cond.holds, Cond.value, he]
  cases v <;> simp_all [Value.isRef]
theorem vx_isRefq {C n d : String} {A : Nat → Prop} {s : State} {args : Array Value} (h : va_Zq C n d A s s.heap) : (Cond.isRef (.static C n d)).before args s = true := by
  rcases h with h | ⟨t, h⟩
  · exact vx_isRef h rfl
  · exact vx_isRef h rfl
/-- the same frame, seen from here: as if the method were called anew in this heap -/
theorem vx_rebase {T : State} (X : Stand p l e R s m args below meth c T locs cells slots) {R' : Room} (hf : R'.frames ≤ R.frames) (hl : R'.locals ≤ R.locals) (hc : cells + R'.cells ≤ R.cells) (hs : slots + R'.slots ≤ R.slots) :
    Stand p l e R' ((T.setVm s.vm).setFrames (.invoking m args :: below)) m args below meth c T [] 0 0 := by
  have htop : (T.setVm s.vm).topJava?.isSome := X.here.top
  have hF : ((T.setVm s.vm).setFrames (.invoking m args :: below)).frames = .invoking m args :: below := State.frames_setFrames _ (State.cur_lt_of_top htop)
  obtain ⟨g₀, hg0⟩ := Option.isSome_iff_exists.mp htop
  obtain ⟨r, hr⟩ := State.topJava?_eq_some.mp hg0
  have hl9 : e.platform.stackLimits (T.setVm s.vm).me = e.platform.stackLimits s.me := X.limits
  have hb9 : (T.setVm s.vm).me.stackBytes = s.me.stackBytes := X.bytes
  refine ⟨X.admits, X.cas, X.clock, hF, ?_, X.hears, X.method, X.code, X.here, X.tail, X.warmed, ?_, ?_, ?_⟩
  · have h := X.room
    have hU : ((T.setVm s.vm).setFrames (.invoking m args :: below)).localsInUse = s.localsInUse := by
      rw [State.localsInUse_invoking hF (meth := meth) (c := c) X.method X.code, State.localsInUse_invoking X.frames X.method X.code]
    simp only [State.hasRoom, Bool.and_eq_true, decide_eq_true_eq] at h ⊢
    obtain ⟨⟨⟨⟨h1, h2, h3, h4, h5, h6⟩, h7⟩, h8⟩, h9⟩ := h
    rw [X.frames, List.length_cons] at h2 h3
    have q1 := X.heapSize
    have q2 := X.used
    simp only [hF, hU, List.length_cons, State.stackLimits_setFrames, State.stackBytes_setFrames, hl9, hb9]
    refine ⟨⟨⟨⟨by omega, by omega, by omega, by omega, by omega, h6⟩, ?_⟩, ?_⟩, X.book⟩
    · show T.heap.size + R'.cells ≤ e.platform.maxCells
      omega
    · show T.slotsUsed + R'.slots ≤ e.platform.maxSlots
      omega
  · rw [State.stackLimits_setFrames]; rfl
  · rw [State.stackBytes_setFrames]; rfl
  · refine ⟨?_, Nat.le_refl _, Nat.le_refl _, ?_, ?_, fun a c9 h9 => ⟨c9, h9, rfl, rfl, fun _ _ => rfl⟩⟩
    · obtain ⟨t, ht, -⟩ := State.frames_cons hr
      show T.setVm s.vm = { ((T.setVm s.vm).setFrames (.invoking m args :: below)).setFrames (T.setVm s.vm).frames with heap := T.heap, slotsUsed := T.slotsUsed }
      rw [State.setFrames_setFrames, State.setFrames_self ht]
      rfl
    · show T.slotsUsed = T.slotsUsed + ((T.heap.toList.drop T.heap.size).map (·.slots.size)).sum
      rw [List.drop_eq_nil_of_le (Nat.le_of_eq Array.length_toList)]
      rfl
    · show ((T.heap.toList.drop T.heap.size).map (·.slots.size)).sum ≤ 0
      rw [List.drop_eq_nil_of_le (Nat.le_of_eq Array.length_toList)]
      exact Nat.le_refl _
/-- 'throw new E()': new; dup; invokespecial; athrow -/
theorem vx_throw0 {cc : ByteArray} {pc : Nat} (hexec : p.tables.exec = Jvm.exec) (hb : c.code = cc) (hl : l.stackTraces = false) {own cls : String} {names : List String} {ik ic mc ms : Nat} {A : Nat → Prop}
    (hown : s.vm.findClass own = some m.cls) (hcls : Bundle.fit cls = true) (hnames : ∀ n ∈ names, Bundle.fit n = true)
    (hk : (Cond.classLink own ik cls).before args s = true) (hini : (Cond.initialized cls).before args s = true) (hat : ∀ w ∈ vx_at0 own ic cls names, w.before args s = true)
    (hgood : ∀ w ∈ Cond.classLink own ik cls :: Cond.initialized cls :: vx_at0 own ic cls names, vx_ot w = true)
    (hU : vx_Zq Bundle.tN "UNASSIGNED_STACK" Bundle.steD A s s.heap) (hN : vx_Zq Bundle.tN "SUPPRESSED_SENTINEL" Bundle.listD A s s.heap) (hS : va_S A s.heap H locs) (hsize : ls.size = c.maxLocals)
    (d0 : decode cc pc = .ok (.new ik, 3)) (d3 : decode cc (pc + 3) = .ok (.dup, 1)) (d4 : decode cc (pc + 4) = .ok (.invokespecial ic, 3)) (d7 : decode cc (pc + 7) = .ok (.athrow, 1))
    (hout : ∀ x ∈ c.exceptionTable.toList, covers x (pc + 7) = false)
    (hRframes : names.length + 3 < R.frames) (hRlocals : (rest.map fun v => v.category).sum + (13 * (names.length + 1) + 42) ≤ R.locals) (hRcells : cells + 1 ≤ R.cells) (hRslots : slots + 6 ≤ R.slots) (hlocks : meth.locks = false)
    (hx : ∀ t : State, s.vm.Alike t.vm → H.size ≤ t.heap.size → (∀ q : Nat, q < H.size → t.heap[q]? = H[q]?) → XC cls s t)
    (hf : ∀ z ∈ locs, free z.base) (hc : cells + 1 ≤ mc) (hs : slots + 6 ≤ ms) :
    W p l e R s m args below meth c H locs cells slots (vx_MQ below Qc XC args s mc ms free) (F0 m pc ls rest) := by
  intro T hT X
  have htr : e.platform.stackTraces = false := (show e.platform.stackTraces = l.stackTraces by rw [X.admits.platform]).trans hl
  have Y := vx_rebase X (R' := { frames := R.frames, locals := R.locals, cells := 1, slots := 6 }) (Nat.le_refl _) (Nat.le_refl _) hRcells hRslots
  obtain ⟨s', hA⟩ : ∃ z, z = (T.setVm s.vm).setFrames (.invoking m args :: below) := ⟨_, rfl⟩
  rw [← hA] at Y
  have hvm : s'.vm = s.vm := by rw [hA]; rfl
  have hhp : s'.heap = H := by rw [hA]; exact hT
  have hW0 : s.WarmedH s'.vm := by rw [hvm]; exact State.WarmedH.refl s
  have hat' : ∀ w ∈ vx_at0 own ic cls names, w.before args s' = true := fun w hw => vx_ot_at hW0 hvm.symm (hgood w (List.mem_cons_of_mem _ (List.mem_cons_of_mem _ hw))) (hat w hw)
  have hk' : (Cond.classLink own ik cls).before args s' = true := vx_ot_at hW0 hvm.symm (hgood _ List.mem_cons_self) hk
  have hini' : (Cond.initialized cls).before args s' = true := vx_ot_at hW0 hvm.symm (hgood _ (List.mem_cons_of_mem _ List.mem_cons_self)) hini
  have hU' : vx_Zq Bundle.tN "UNASSIGNED_STACK" Bundle.steD A s' s'.heap := by rw [hhp]; exact vx_Zq.moved hW0.alike (hU.kept hS.2.1)
  have hN' : vx_Zq Bundle.tN "SUPPRESSED_SENTINEL" Bundle.listD A s' s'.heap := by rw [hhp]; exact vx_Zq.moved hW0.alike (hN.kept hS.2.1)
  have h : ∀ w ∈ Bundle.ownAtoms0 own ic cls names, w.before args s' = true := vx_own hat' (vx_isRefq hU'.1) (vx_isRefq hN'.1) hU'.2.word hN'.2.word
  have hown' : s'.vm.findClass own = some m.cls := by rw [hvm]; exact hown
  have hins : (Cond.instantiable cls 6).before args s' = true := h _ (by simp [Bundle.ownAtoms0])
  obtain ⟨vm₁, cX, kX, hfX, hkX, -, -, X₁, st1⟩ := Y.newCold hexec (own := own) (C := cls) (index := ik) (n := 6) hown' hk' hins hini'
    (g := F0 m pc ls rest) rfl (by rw [hb]; exact d0) (Nat.le_refl _) (Nat.le_refl _)
  generalize hT1 : (T.setVm vm₁).pushCell { cls := cX, slots := kX.instanceTypes.map defaultValue, vm := .none } = T1 at X₁ st1
  have hcat : (Value.ref T.heap.size).category = 1 := rfl
  have hcellA : T1.heap[T.heap.size]? = some (freshCell cX kX) := by rw [← hT1]; exact State.heap_pushCell_size _ _
  have d3' : decode c.code (pc + 3) = .ok (.dup, 1) := by rw [hb]; exact d3
  obtain ⟨U, hsteps, hrun, hend, hW, hsame, ce, hce, hO⟩ := X₁.ctorThrow0 hexec htr (own := own) (cls := cls) (names := names) (ic := ic) hown' hcls hnames h (fun x hx => nomatch hx) hfX hkX hcellA (by rw [hhp, hT]; exact Nat.le_refl _)
    (g := { method := m, pc := pc + 4, locals := ls, stack := .ref T.heap.size :: .ref T.heap.size :: rest, locked := none }) rfl hsize rfl rfl (rest := rest) rfl
    (by rw [hb]; exact d4) (by rw [hb]; exact d7) hout hRframes (by simp only [List.map_cons, List.sum_cons, hcat]; omega) hlocks
  obtain ⟨f1, f2⟩ := vx_frame hsame
  rw [hhp] at f1 f2
  have hWs : s.WarmedH U.vm := State.WarmedH.trans hW0 hW
  have hcl : s.vm.findClass cls = some ce.cls := by
    have h9 := hO.cls
    rw [hvm] at h9
    exact h9
  have hall : s.sameButNew ({ U with vm := s.vm } : State) locs mc ms := by
    subst hA
    obtain ⟨e1, e2⟩ := hsame
    rw [State.setFrames_setFrames] at e1
    have h2 : (T.setVm s.vm).sameButNew ({ U with vm := s.vm } : State) [] (0 + 1) (0 + 6) := ⟨e1, e2⟩
    have h3 := X.same.trans h2
    rw [List.append_nil] at h3
    exact h3.mono hc hs
  refine ⟨U, ?_, .threw T.heap.size, hrun, hend, Or.inr ⟨T.heap.size, rfl, cls, ce, locs, hx U hWs.alike f1 (fun q hq => f2 q hq (fun z hz => nomatch hz)), hce, hO.vm, hcl, hWs, hall, hf⟩⟩
  refine st1 _ ?_
  show Steps p.tables e below (T1.setTop { method := m, pc := pc + 3, locals := ls, stack := .ref T.heap.size :: rest, locked := none }) _
  jvm_step X₁.here [X₁.here.top, hexec, d3', Value.category]
  exact hsteps
/-- 'throw new E("text")': new; dup; ldc; invokespecial; athrow -/
theorem vx_throwS {cc : ByteArray} {pc : Nat} (hexec : p.tables.exec = Jvm.exec) (hb : c.code = cc) (hl : l.stackTraces = false) {own cls text : String} {names : List String} {ik is ic mc ms sa : Nat} {A : Nat → Prop}
    (hown : s.vm.findClass own = some m.cls) (hcls : Bundle.fit cls = true) (hnames : ∀ n ∈ names, Bundle.fit n = true)
    (hk : (Cond.classLink own ik cls).before args s = true) (hini : (Cond.initialized cls).before args s = true) (hstr : vk_R own is text sa s) (hat : ∀ w ∈ vx_atS own ic cls names, w.before args s = true)
    (hgood : ∀ w ∈ Cond.classLink own ik cls :: Cond.initialized cls :: vx_atS own ic cls names, vx_ot w = true)
    (hU : vx_Zq Bundle.tN "UNASSIGNED_STACK" Bundle.steD A s s.heap) (hN : vx_Zq Bundle.tN "SUPPRESSED_SENTINEL" Bundle.listD A s s.heap) (hS : va_S A s.heap H locs) (hsize : ls.size = c.maxLocals)
    (d0 : decode cc pc = .ok (.new ik, 3)) (d3 : decode cc (pc + 3) = .ok (.dup, 1)) (d4 : decode cc (pc + 4) = .ok (.ldc is, 2)) (d6 : decode cc (pc + 6) = .ok (.invokespecial ic, 3)) (d9 : decode cc (pc + 9) = .ok (.athrow, 1))
    (hout : ∀ x ∈ c.exceptionTable.toList, covers x (pc + 9) = false)
    (hRframes : names.length + 3 < R.frames) (hRlocals : (rest.map fun v => v.category).sum + (13 * (names.length + 1) + 43) ≤ R.locals) (hRcells : cells + 1 ≤ R.cells) (hRslots : slots + 6 ≤ R.slots) (hlocks : meth.locks = false)
    (hx : ∀ t : State, s.vm.Alike t.vm → H.size ≤ t.heap.size → (∀ q : Nat, q < H.size → t.heap[q]? = H[q]?) → XC cls s t)
    (hf : ∀ z ∈ locs, free z.base) (hc : cells + 1 ≤ mc) (hs : slots + 6 ≤ ms) :
    W p l e R s m args below meth c H locs cells slots (vx_MQ below Qc XC args s mc ms free) (F0 m pc ls rest) := by
  intro T hT X
  have htr : e.platform.stackTraces = false := (show e.platform.stackTraces = l.stackTraces by rw [X.admits.platform]).trans hl
  have Y := vx_rebase X (R' := { frames := R.frames, locals := R.locals, cells := 1, slots := 6 }) (Nat.le_refl _) (Nat.le_refl _) hRcells hRslots
  obtain ⟨s', hA⟩ : ∃ z, z = (T.setVm s.vm).setFrames (.invoking m args :: below) := ⟨_, rfl⟩
  rw [← hA] at Y
  have hvm : s'.vm = s.vm := by rw [hA]; rfl
  have hhp : s'.heap = H := by rw [hA]; exact hT
  have hW0 : s.WarmedH s'.vm := by rw [hvm]; exact State.WarmedH.refl s
  have hat' : ∀ w ∈ vx_atS own ic cls names, w.before args s' = true := fun w hw => vx_ot_at hW0 hvm.symm (hgood w (List.mem_cons_of_mem _ (List.mem_cons_of_mem _ hw))) (hat w hw)
  have hk' : (Cond.classLink own ik cls).before args s' = true := vx_ot_at hW0 hvm.symm (hgood _ List.mem_cons_self) hk
  have hini' : (Cond.initialized cls).before args s' = true := vx_ot_at hW0 hvm.symm (hgood _ (List.mem_cons_of_mem _ List.mem_cons_self)) hini
  have hU' : vx_Zq Bundle.tN "UNASSIGNED_STACK" Bundle.steD A s' s'.heap := by rw [hhp]; exact vx_Zq.moved hW0.alike (hU.kept hS.2.1)
  have hN' : vx_Zq Bundle.tN "SUPPRESSED_SENTINEL" Bundle.listD A s' s'.heap := by rw [hhp]; exact vx_Zq.moved hW0.alike (hN.kept hS.2.1)
  have h : ∀ w ∈ Bundle.ownAtoms own ic cls names, w.before args s' = true := vx_own hat' (vx_isRefq hU'.1) (vx_isRefq hN'.1) hU'.2.word hN'.2.word
  have hown' : s'.vm.findClass own = some m.cls := by rw [hvm]; exact hown
  have hins : (Cond.instantiable cls 6).before args s' = true := h _ (by simp [Bundle.ownAtoms])
  obtain ⟨vm₁, cX, kX, hfX, hkX, -, -, X₁, st1⟩ := Y.newCold hexec (own := own) (C := cls) (index := ik) (n := 6) hown' hk' hins hini'
    (g := F0 m pc ls rest) rfl (by rw [hb]; exact d0) (Nat.le_refl _) (Nat.le_refl _)
  generalize hT1 : (T.setVm vm₁).pushCell { cls := cX, slots := kX.instanceTypes.map defaultValue, vm := .none } = T1 at X₁ st1
  have hcat : (Value.ref T.heap.size).category = 1 := rfl
  have hcellA : T1.heap[T.heap.size]? = some (freshCell cX kX) := by rw [← hT1]; exact State.heap_pushCell_size _ _
  have d3' : decode c.code (pc + 3) = .ok (.dup, 1) := by rw [hb]; exact d3
  have d4' : decode c.code (pc + 4) = .ok (.ldc is, 2) := by rw [hb]; exact d4
  have hstr' : vk_R own is text sa s' := vk_R.warm hW0 hstr
  obtain ⟨U, hsteps, hrun, hend, hW, hsame, ce, hce, hO⟩ := X₁.ctorThrowS hexec htr (own := own) (cls := cls) (names := names) (ic := ic) hown' hcls hnames h (fun x hx => nomatch hx) hfX hkX hcellA (by rw [hhp, hT]; exact Nat.le_refl _) (msg := .ref sa) rfl
    (g := { method := m, pc := pc + 6, locals := ls, stack := .ref sa :: .ref T.heap.size :: .ref T.heap.size :: rest, locked := none }) rfl hsize rfl rfl (rest := rest) rfl
    (by rw [hb]; exact d6) (by rw [hb]; exact d9) hout hRframes (by simp only [List.map_cons, List.sum_cons, hcat]; omega) hlocks
  obtain ⟨f1, f2⟩ := vx_frame hsame
  rw [hhp] at f1 f2
  have hWs : s.WarmedH U.vm := State.WarmedH.trans hW0 hW
  have hcl : s.vm.findClass cls = some ce.cls := by
    have h9 := hO.cls
    rw [hvm] at h9
    exact h9
  have hall : s.sameButNew ({ U with vm := s.vm } : State) locs mc ms := by
    subst hA
    obtain ⟨e1, e2⟩ := hsame
    rw [State.setFrames_setFrames] at e1
    have h2 : (T.setVm s.vm).sameButNew ({ U with vm := s.vm } : State) [] (0 + 1) (0 + 6) := ⟨e1, e2⟩
    have h3 := X.same.trans h2
    rw [List.append_nil] at h3
    exact h3.mono hc hs
  refine ⟨U, ?_, .threw T.heap.size, hrun, hend, Or.inr ⟨T.heap.size, rfl, cls, ce, locs, hx U hWs.alike f1 (fun q hq => f2 q hq (fun z hz => nomatch hz)), hce, hO.vm, hcl, hWs, hall, hf⟩⟩
  refine st1 _ ?_
  show Steps p.tables e below (T1.setTop { method := m, pc := pc + 3, locals := ls, stack := .ref T.heap.size :: rest, locked := none }) _
  jvm_step X₁.here [X₁.here.top, hexec, d3', Value.category]
  exact X₁.ldcString hexec (own := own) (text := text) (index := is) (a := sa) hown' hstr'.1 hstr'.2
    (g := { method := m, pc := pc + 4, locals := ls, stack := .ref T.heap.size :: .ref T.heap.size :: rest, locked := none }) rfl d4' _ hsteps
/-- 'throw new E("text")', the text by a wide index -/
theorem vx_throwSW {cc : ByteArray} {pc : Nat} (hexec : p.tables.exec = Jvm.exec) (hb : c.code = cc) (hl : l.stackTraces = false) {own cls text : String} {names : List String} {ik is ic mc ms sa : Nat} {A : Nat → Prop}
    (hown : s.vm.findClass own = some m.cls) (hcls : Bundle.fit cls = true) (hnames : ∀ n ∈ names, Bundle.fit n = true)
    (hk : (Cond.classLink own ik cls).before args s = true) (hini : (Cond.initialized cls).before args s = true) (hstr : vk_R own is text sa s) (hat : ∀ w ∈ vx_atS own ic cls names, w.before args s = true)
    (hgood : ∀ w ∈ Cond.classLink own ik cls :: Cond.initialized cls :: vx_atS own ic cls names, vx_ot w = true)
    (hU : vx_Zq Bundle.tN "UNASSIGNED_STACK" Bundle.steD A s s.heap) (hN : vx_Zq Bundle.tN "SUPPRESSED_SENTINEL" Bundle.listD A s s.heap) (hS : va_S A s.heap H locs) (hsize : ls.size = c.maxLocals)
    (d0 : decode cc pc = .ok (.new ik, 3)) (d3 : decode cc (pc + 3) = .ok (.dup, 1)) (d4 : decode cc (pc + 4) = .ok (.ldc_w is, 3)) (d7 : decode cc (pc + 7) = .ok (.invokespecial ic, 3)) (d10 : decode cc (pc + 10) = .ok (.athrow, 1))
    (hout : ∀ x ∈ c.exceptionTable.toList, covers x (pc + 10) = false)
    (hRframes : names.length + 3 < R.frames) (hRlocals : (rest.map fun v => v.category).sum + (13 * (names.length + 1) + 43) ≤ R.locals) (hRcells : cells + 1 ≤ R.cells) (hRslots : slots + 6 ≤ R.slots) (hlocks : meth.locks = false)
    (hx : ∀ t : State, s.vm.Alike t.vm → H.size ≤ t.heap.size → (∀ q : Nat, q < H.size → t.heap[q]? = H[q]?) → XC cls s t)
    (hf : ∀ z ∈ locs, free z.base) (hc : cells + 1 ≤ mc) (hs : slots + 6 ≤ ms) :
    W p l e R s m args below meth c H locs cells slots (vx_MQ below Qc XC args s mc ms free) (F0 m pc ls rest) := by
  intro T hT X
  have htr : e.platform.stackTraces = false := (show e.platform.stackTraces = l.stackTraces by rw [X.admits.platform]).trans hl
  have Y := vx_rebase X (R' := { frames := R.frames, locals := R.locals, cells := 1, slots := 6 }) (Nat.le_refl _) (Nat.le_refl _) hRcells hRslots
  obtain ⟨s', hA⟩ : ∃ z, z = (T.setVm s.vm).setFrames (.invoking m args :: below) := ⟨_, rfl⟩
  rw [← hA] at Y
  have hvm : s'.vm = s.vm := by rw [hA]; rfl
  have hhp : s'.heap = H := by rw [hA]; exact hT
  have hW0 : s.WarmedH s'.vm := by rw [hvm]; exact State.WarmedH.refl s
  have hat' : ∀ w ∈ vx_atS own ic cls names, w.before args s' = true := fun w hw => vx_ot_at hW0 hvm.symm (hgood w (List.mem_cons_of_mem _ (List.mem_cons_of_mem _ hw))) (hat w hw)
  have hk' : (Cond.classLink own ik cls).before args s' = true := vx_ot_at hW0 hvm.symm (hgood _ List.mem_cons_self) hk
  have hini' : (Cond.initialized cls).before args s' = true := vx_ot_at hW0 hvm.symm (hgood _ (List.mem_cons_of_mem _ List.mem_cons_self)) hini
  have hU' : vx_Zq Bundle.tN "UNASSIGNED_STACK" Bundle.steD A s' s'.heap := by rw [hhp]; exact vx_Zq.moved hW0.alike (hU.kept hS.2.1)
  have hN' : vx_Zq Bundle.tN "SUPPRESSED_SENTINEL" Bundle.listD A s' s'.heap := by rw [hhp]; exact vx_Zq.moved hW0.alike (hN.kept hS.2.1)
  have h : ∀ w ∈ Bundle.ownAtoms own ic cls names, w.before args s' = true := vx_own hat' (vx_isRefq hU'.1) (vx_isRefq hN'.1) hU'.2.word hN'.2.word
  have hown' : s'.vm.findClass own = some m.cls := by rw [hvm]; exact hown
  have hins : (Cond.instantiable cls 6).before args s' = true := h _ (by simp [Bundle.ownAtoms])
  obtain ⟨vm₁, cX, kX, hfX, hkX, -, -, X₁, st1⟩ := Y.newCold hexec (own := own) (C := cls) (index := ik) (n := 6) hown' hk' hins hini'
    (g := F0 m pc ls rest) rfl (by rw [hb]; exact d0) (Nat.le_refl _) (Nat.le_refl _)
  generalize hT1 : (T.setVm vm₁).pushCell { cls := cX, slots := kX.instanceTypes.map defaultValue, vm := .none } = T1 at X₁ st1
  have hcat : (Value.ref T.heap.size).category = 1 := rfl
  have hcellA : T1.heap[T.heap.size]? = some (freshCell cX kX) := by rw [← hT1]; exact State.heap_pushCell_size _ _
  have d3' : decode c.code (pc + 3) = .ok (.dup, 1) := by rw [hb]; exact d3
  have d4' : decode c.code (pc + 4) = .ok (.ldc_w is, 3) := by rw [hb]; exact d4
  have hstr' : vk_R own is text sa s' := vk_R.warm hW0 hstr
  obtain ⟨U, hsteps, hrun, hend, hW, hsame, ce, hce, hO⟩ := X₁.ctorThrowS hexec htr (own := own) (cls := cls) (names := names) (ic := ic) hown' hcls hnames h (fun x hx => nomatch hx) hfX hkX hcellA (by rw [hhp, hT]; exact Nat.le_refl _) (msg := .ref sa) rfl
    (g := { method := m, pc := pc + 7, locals := ls, stack := .ref sa :: .ref T.heap.size :: .ref T.heap.size :: rest, locked := none }) rfl hsize rfl rfl (rest := rest) rfl
    (by rw [hb]; exact d7) (by rw [hb]; exact d10) hout hRframes (by simp only [List.map_cons, List.sum_cons, hcat]; omega) hlocks
  obtain ⟨f1, f2⟩ := vx_frame hsame
  rw [hhp] at f1 f2
  have hWs : s.WarmedH U.vm := State.WarmedH.trans hW0 hW
  have hcl : s.vm.findClass cls = some ce.cls := by
    have h9 := hO.cls
    rw [hvm] at h9
    exact h9
  have hall : s.sameButNew ({ U with vm := s.vm } : State) locs mc ms := by
    subst hA
    obtain ⟨e1, e2⟩ := hsame
    rw [State.setFrames_setFrames] at e1
    have h2 : (T.setVm s.vm).sameButNew ({ U with vm := s.vm } : State) [] (0 + 1) (0 + 6) := ⟨e1, e2⟩
    have h3 := X.same.trans h2
    rw [List.append_nil] at h3
    exact h3.mono hc hs
  refine ⟨U, ?_, .threw T.heap.size, hrun, hend, Or.inr ⟨T.heap.size, rfl, cls, ce, locs, hx U hWs.alike f1 (fun q hq => f2 q hq (fun z hz => nomatch hz)), hce, hO.vm, hcl, hWs, hall, hf⟩⟩
  refine st1 _ ?_
  show Steps p.tables e below (T1.setTop { method := m, pc := pc + 3, locals := ls, stack := .ref T.heap.size :: rest, locked := none }) _
  jvm_step X₁.here [X₁.here.top, hexec, d3', Value.category]
  exact X₁.ldcStringW hexec (own := own) (text := text) (index := is) (a := sa) hown' hstr'.1 hstr'.2
    (g := { method := m, pc := pc + 4, locals := ls, stack := .ref T.heap.size :: .ref T.heap.size :: rest, locked := none }) rfl d4' _ hsteps
end Ends
section Bodies
variable {l : Launch}
theorem vx_ofW {y : MethodName} {ws ws' : List Cond} {rm : Room} {Pc : Array Value → State → Prop} {Qc : Array Value → State → Outcome → State → Prop} {XC : String → State → State → Prop} {mc ms : Nat} {free : Addr → Prop} {cc : ByteArray} {maxL : Nat} {ret : Option FieldType}
    (hy : plainName y.cls = true) (hw : ws = Cond.code y cc maxL ret :: ws')
    (body : ∀ p e s m args below meth c s₁, BodyLoose p l y (headSpec ws rm) cc maxL ret e s m args below meth c s₁ → c.maxLocals = maxL → (∀ x ∈ c.exceptionTable.toList, False) → Pc args s →
      W p l e (headSpec ws rm).room s m args below meth c s.heap [] 0 0 (vx_MQ below Qc XC args s mc ms free) (entryFrame m args maxL)) : vx_Met l y ws rm Pc Qc XC mc ms free := by
  refine MetFree.of_bodyS (code := cc) (maxLocals := maxL) (ret := ret) hy ?_ ?_
  · intro args s m h hn
    obtain ⟨meth, c, h1, h2, h3, h4, h5, h6, -, -⟩ := Cond.code_spec hn (atoms_spec (ws := ws) h _ (by rw [hw]; exact List.mem_cons_self))
    exact ⟨meth, c, h1, h2, h3, h4, h5, h6⟩
  · intro p e s m args below meth c s₁ B hml hP _
    have hh0 : s₁.heap = s.heap := by rw [B.state]; rfl
    have ht : ∀ x ∈ c.exceptionTable.toList, False := by
      obtain ⟨meth9, c9, h1, h2, -, -, -, -, h7, -⟩ := Cond.code_spec B.named (atoms_spec (ws := ws) B.pre _ (by rw [hw]; exact List.mem_cons_self))
      cases Option.some.inj (h1.symm.trans B.method)
      cases Option.some.inj (h2.symm.trans (Stand.of_body B).code)
      intro x hx
      rw [Array.isEmpty_iff.mp h7] at hx
      cases hx
    obtain ⟨t, a1, o, b1, b2, b3⟩ := body p e s m args below meth c s₁ B hml ht hP s₁ hh0 (Stand.of_body B)
    exact ⟨t, o, a1, b1, b2, b3⟩
/-- the table of a body with handlers -/
theorem vx_table {p : Program} {x y : MethodName} {S : Spec} {cc bytes : ByteArray} {maxL maxL' : Nat} {ret ret' : Option FieldType} {e : Env} {s s₁ : State} {m : MethodId} {args : Array Value} {below : List Frame} {meth : Method} {c : Code} {hh : List (Nat × Nat × Nat × Nat)}
    (B : BodyLoose p l y S cc maxL ret e s m args below meth c s₁) (h : (Cond.codeWith y bytes maxL' ret' hh).before args s = true) : c.exceptionTable.toList = tableOf hh := by
  obtain ⟨m9, meth9, c9, hn9, h1, h2, -, -, h6, -⟩ := Cond.codeWith_spec h
  cases Option.some.inj (hn9.symm.trans B.named)
  cases Option.some.inj (h1.symm.trans B.method)
  cases Option.some.inj (h2.symm.trans (Stand.of_body B).code)
  rw [← h6, table_eq]
end Bodies
end VXA
/-! ===== END ===== -/
/-! ===== BEGIN a static call of a method with an exception table ===== -/
section VXS
variable {p : Program} {l : Launch} {e : Env} {R : Room} {s : State} {m : MethodId} {args : Array Value} {below : List Frame} {meth : Method} {c : Code} {T : State} {H : Heap} {locs : List Loc} {cells slots : Nat}
abbrev vx_CSW (R : Room) (s : State) (args : Array Value) (own : String) (index : Nat) (y : MethodName) (bytes : ByteArray) (maxL : Nat) (ret : Option FieldType) (hh : List (Nat × Nat × Nat × Nat)) (ws : List Cond) (rm : Room) (mc ms n : Nat) : Prop :=
  (rm.cells = mc ∧ rm.slots = ms ∧ rm.frames + 1 ≤ R.frames ∧ 8 + (maxL + 11) + rm.locals ≤ R.locals ∧ (∀ w ∈ ws, ∀ (a' : Array Value) (U : State), s.WarmedH U.vm → w.before a' U = true) ∧ Cond.codeWith y bytes maxL ret hh ∈ ws) ∧
  (Cond.codeWith y bytes maxL ret hh).before args s = true ∧ (Cond.initialized y.cls).before args s = true ∧ (y.cls ≠ "java/lang/invoke/MethodHandle" ∧ y.cls ≠ "java/lang/invoke/VarHandle") ∧
  (∀ sig, parseMethodDescriptor y.desc = some sig → n = sig.parameters.length) ∧ (Cond.methodLink own index y).before args s = true ∧ (Cond.static y).before args s = true
theorem vx_cwSW {own : String} {index maxL mc ms : Nat} {y : MethodName} {bytes : ByteArray} {ret : Option FieldType} {hh : List (Nat × Nat × Nat × Nat)} {Ts ws ws' : List Cond} {rm : Room} (n : Nat) (ht : ∀ w ∈ Ts, w.before args s = true) (hT : GoodIn Ts (va_wsS own index y ws)) (hw : ws = Cond.codeWith y bytes maxL ret hh :: ws') (hrc : rm.cells = mc) (hrs : rm.slots = ms)
    (hd : y.cls ≠ "java/lang/invoke/MethodHandle" ∧ y.cls ≠ "java/lang/invoke/VarHandle" ∧ (parseMethodDescriptor y.desc).map (fun d => d.parameters.length) = some n) (hR : rm.frames + 1 ≤ R.frames ∧ 8 + (maxL + 11) + rm.locals ≤ R.locals) :
    vx_CSW R s args own index y bytes maxL ret hh ws rm mc ms n := by
  have ok : ∀ w ∈ va_wsS own index y ws, w.before args s = true := fun w h => ht w (hT w h).1
  have hG : GoodIn Ts ws := fun w h => hT w (by unfold va_wsS; exact List.mem_append_right _ h)
  have hc : Cond.codeWith y bytes maxL ret hh ∈ ws := by rw [hw]; exact List.mem_cons_self
  refine ⟨⟨hrc, hrs, hR.1, hR.2, pay_in ht hG, hc⟩, ht _ (hG _ hc).1, ok _ (by simp [va_wsS]), ⟨hd.1, hd.2.1⟩, fun sig h => ?_, ok _ (by simp [va_wsS]), ok _ (by simp [va_wsS])⟩
  have h2 := hd.2.2
  rw [h] at h2
  exact (Option.some.inj h2).symm
theorem vx_callSW (X : Stand p l e R s m args below meth c T locs cells slots) (hexec : p.tables.exec = Jvm.exec) {own : String} {index : Nat} {y : MethodName} {bytes : ByteArray} {maxL : Nat} {ret : Option FieldType} {hh : List (Nat × Nat × Nat × Nat)}
    (hown : s.vm.findClass own = some m.cls) (hlink : (Cond.methodLink own index y).before args s = true) (hstat : (Cond.static y).before args s = true) (hinit : (Cond.initialized y.cls).before args s = true)
    (hcode : (Cond.codeWith y bytes maxL ret hh).before args s = true) (hy : y.cls ≠ "java/lang/invoke/MethodHandle" ∧ y.cls ≠ "java/lang/invoke/VarHandle")
    {W9 : Nat} {Pre : Pt → Array Value → Prop} {Post : Pt → Array Value → Option Value → Pt → Prop} (hK : Back l R p e below s args y 3 W9 Pre Post)
    {g : JFrame} (hg : g.method = m) (hsize : g.locals.size = c.maxLocals) {argsL rest : List Value} (hlen : ∀ sig, parseMethodDescriptor y.desc = some sig → argsL.length = sig.parameters.length)
    (hstack : g.stack = argsL.reverse ++ rest) (hW : 2 * g.monitorRoom + (rest.map fun v => v.category).sum ≤ W9) (hdg : decode c.code g.pc = .ok (.invokestatic index, 3))
    (hpre : ∀ vm₁, s.WarmedH vm₁ → Pre ⟨T.setVm vm₁, locs, cells, slots⟩ argsL.toArray) :
    ∃ (v : Option Value) (vm₁ : Vm) (B : Pt), s.WarmedH vm₁ ∧ Stand p l e R s m args below meth c B.U B.locs B.cells B.slots ∧ Post ⟨T.setVm vm₁, locs, cells, slots⟩ argsL.toArray v B ∧
      ∀ target, Steps p.tables e below (B.U.setTop { g with pc := g.pc + 3, stack := v.toList ++ rest }) target → Steps p.tables e below (T.setTop g) target := by
  obtain ⟨mk, methM, cM, hnamed, hmethM, -, -, -, -, -, -, hsigM⟩ := Cond.codeWith_spec hcode
  have hstatic : methM.isStatic = true := Cond.static_spec hnamed hmethM hstat
  obtain ⟨kP, hkP, -⟩ := className_of_methodNamed hnamed
  have hinitP : kP.init = .initialized := Cond.initialized_spec (findClass_of_methodNamed hnamed) hkP hinit
  obtain ⟨vm₁, X₁, hstep₁⟩ := X.invokestatic hexec hown hlink hnamed hmethM hstatic hkP hinitP hy (g := g) hg (argsL := argsL) (rest := rest) (hlen _ hsigM) hstack hdg
  obtain ⟨v, B, X', hpost, hsteps⟩ := hK m meth c ⟨T.setVm vm₁, locs, cells, slots⟩ { g with stack := rest } (.invokestatic index) mk argsL.toArray X₁ hg hsize hdg hW (X₁.named hnamed) (hpre vm₁ X₁.warmed)
  exact ⟨v, vm₁, B, X₁.warmed, X', hpost, fun target h => hstep₁ _ fun acts => by rw [doInvoke_state]; exact hsteps.trans h⟩
theorem vx_runSW {y : MethodName} {bytes cc : ByteArray} {maxL nL mc ms n index : Nat} {ret : Option FieldType} {hh : List (Nat × Nat × Nat × Nat)} {ws : List Cond} {rm : Room} {Pc : Array Value → State → Prop} {Qc : Array Value → State → Outcome → State → Prop} {free : Addr → Prop} {Ts : List Cond} {own : String} {As rest : List Value} {g : JFrame}
    (S : CallFix p m c cc nL s args Ts own) (hM : Met l y ws rm Pc Qc mc ms free) (cw : vx_CSW R s args own index y bytes maxL ret hh ws rm mc ms n) (hp : PreS s H Pc As)
    (hg : g.method = m) (hn : As.length = n) (hsize : g.locals.size = nL) (hstack : g.stack = As.reverse ++ rest) (hW : 2 * g.monitorRoom + (rest.map fun v => v.category).sum ≤ 8) (hdg : decode cc g.pc = .ok (.invokestatic index, 3)) (hf : cells + mc ≤ R.cells ∧ slots + ms ≤ R.slots) :
    va_Run p l e R s m args below meth c H locs cells slots mc ms g rest (Qc As.toArray) (free) := by
  obtain ⟨⟨hrc, hrs, hfr, hlo, hws, hcw⟩, hcode, hini, hy, hlen, hl, hstt⟩ := cw
  have hK : Back l R p e below s args y 3 8 (PreOf R mc ms Pc) (PostOf Qc mc ms free) := va_backW (hh := hh) (bytes := bytes) (maxL := maxL) (ret := ret) hM hp.1 hrc hrs hfr hlo hws hcw (fun a' U hW => word_at hW (Or.inl (by first | rfl | simp [Cond.onTables, Cond.keeps, Cond.steady])) hini)
  obtain ⟨hx, hb, hml, ho, -⟩ := S
  intro T hT X
  obtain ⟨v, vm₁, ⟨U', l2, c2, s2⟩, hW₁, X', ⟨g', mk, t, L, e1, e2, hq, h1, hL, h2, h3⟩, st⟩ := vx_callSW X hx (hh := hh) (bytes := bytes) (maxL := maxL) (ret := ret) ho hl hstt hini hcode hy hK hg (hsize.trans hml.symm) (argsL := As) (rest := rest) (fun sig h => hn.trans (hlen sig h)) hstack hW (by rw [hb]; exact hdg)
    (fun vm₁ hW₁ => ⟨hf.1, hf.2, hp.2 (T.setVm vm₁) hT hW₁⟩)
  dsimp only [Pt.U, Pt.locs, Pt.cells, Pt.slots] at X' e1 e2 h1 h2 h3 st
  subst h1; subst h2; subst h3
  exact ⟨v, (T.setVm vm₁).calling g' mk As.toArray, t, U', L, hT, X', hL, e1, e2, hq, st⟩
/-- not caught here, past rows that name other classes: it goes on to the caller -/
theorem vx_outP {p : Program} {l : Launch} {e : Env} {R : Room} {s : State} {m : MethodId} {args : Array Value} {below : List Frame} {meth : Method} {c : Code} {H : Heap} {locs : List Loc} {cells slots : Nat} {free : Addr → Prop} {ls : Array Slot} {rest : List Value} {Qc : Array Value → State → Outcome → State → Prop} {XC : String → State → State → Prop}
    {pc : Nat} {own E : String} {ce : Cell} {q : Addr} {mc ms : Nat} (hown : s.vm.findClass own = some m.cls) (hlocks : meth.locks = false)
    (hpass : ∀ z ∈ c.exceptionTable.toList, covers z pc = false ∨ (z.catchType ≠ 0 ∧ ∃ nm : String, (Cond.classLink own z.catchType nm).before args s = true ∧ va_Nc E nm s)) (hcell : H[q]? = some ce) (hv : ce.vm = .none) (hcl : s.vm.findClass E = some ce.cls)
    (hx : ∀ t : State, t.heap = H → s.vm.Alike t.vm → XC E s t) (hf : ∀ z ∈ locs, free z.base) (hc : cells ≤ mc) (hs : slots ≤ ms) :
    vx_W p l e R s m args below meth c H locs cells slots (vx_MQ below Qc XC args s mc ms free) (F0 m pc ls rest) q := by
  intro T hT X
  have hpl : e.platform.magicAccessors = ({} : Platform).magicAccessors := by rw [X.admits.platform]
  obtain ⟨vm', hW', X', st⟩ := X.outThrough hlocks q (g := F0 m pc ls rest) rfl rfl rfl (cell := ce) (by rw [hT]; exact hcell) (by rw [hv]; rfl)
    (by obtain ⟨k9, h9, -⟩ := Vm.findClass_spec hcl; exact ⟨k9, h9⟩) (fun z hz => by
      rcases hpass z hz with h | ⟨hz0, nm, hl1, hn1⟩
      · exact Or.inl h
      · obtain ⟨c6, hc6, hcl6⟩ := Cond.classLink_spec hown hl1 e.platform hpl
        obtain ⟨a8, b8, h1, h2, h3⟩ := hn1
        cases Option.some.inj (h1.symm.trans hcl)
        cases Option.some.inj (h2.symm.trans hc6)
        exact Or.inr ⟨hz0, _, hcl6, h3⟩)
  obtain ⟨g₀, hfr⟩ := X'.frames_eq
  have hcell9 : ((T.setVm vm').setFrames (.throwing q :: below)).heap[q]? = some ce := by
    show T.heap[q]? = some ce
    rw [hT]; exact hcell
  have hend : Ended ((T.setVm vm').setFrames (.throwing q :: below)) below (.threw q) := State.frames_setFrames _ (State.cur_lt_of_frames hfr)
  refine ⟨(T.setVm vm').setFrames (.throwing q :: below), ?_, .threw q, X'.here.running, hend, Or.inr ⟨q, rfl, E, ce, locs, hx _ hT (X'.ends _).1.alike, hcell9, hv, hcl, (X'.ends _).1, (X'.ends _).2.mono hc hs, hf⟩⟩
  rw [X.pushThrowing_eq]
  exact st
/-- a thing of a world lies in the heap -/
theorem vx_lt {D : va_G} {cl : List vw_C} {ws : va_W} {H1 : Heap} (h : va_P D cl ws H1) {k : Nat} {q : Nat × va_E} (hk : ws[k]? = some q) : q.1 < H1.size := (h k q hk).lt
end VXS
/-! ===== END ===== -/
/-! ===== BEGIN methods with a table of their own: called by a name, returning or throwing ===== -/
section VXH
/-! vx_backW, vx_callVX, vx_callSX, vx_callVW, vx_runVW, vx_runVX, vx_runSX, vx_ofWH follow the same proofs as their sisters above (Free/Laws.lean, Shelf42/LK1.lean); vx_outP calls Shelf42/NT130.lean (outThrough). -/
section
variable {l : Launch} {R : Room} {p : Program} {e : Env} {below : List Frame} {s : State} {sargs : Array Value} {y : MethodName} {len W9 : Nat}
theorem vx_backW {ws : List Cond} {rm : Room} {Pc : Array Value → State → Prop} {Qc : Array Value → State → Outcome → State → Prop} {XC : String → State → State → Prop} {mc ms : Nat} {free : Addr → Prop} {bytes : ByteArray} {maxL : Nat} {ret : Option FieldType} {hh : List (Nat × Nat × Nat × Nat)}
    (hM : vx_Met l y ws rm Pc Qc XC mc ms free) (hblind : FrameBlind Pc) (hrc : rm.cells = mc) (hrs : rm.slots = ms)
    (hframes : rm.frames + 1 ≤ R.frames) (hlocals : W9 + (maxL + 11) + rm.locals ≤ R.locals)
    (hws : ∀ w ∈ ws, ∀ a' U, s.WarmedH U.vm → w.before a' U = true) (hcode : Cond.codeWith y bytes maxL ret hh ∈ ws) (hinit : ∀ a' U, s.WarmedH U.vm → (Cond.initialized y.cls).before a' U = true) :
    vx_Back l R p e below s sargs y len W9 (PreOf R mc ms Pc) (PostOf Qc mc ms free) (vx_Post XC mc ms free) := by
  intro m meth c A g ig mk a X hg hsize hdg hW hn hp
  have h1 : (headSpec ws rm).pre.before a A.U = true := atoms_intro fun w hw => hws w hw _ _ X.warmed
  have h2 : (Cond.codeWith y bytes maxL ret hh).before a A.U = true := hws _ hcode _ _ X.warmed
  have h3 : (Cond.initialized y.cls).before a A.U = true := hinit _ _ X.warmed
  have h4 : A.cells + (headSpec ws rm).room.cells ≤ R.cells := by rw [show (headSpec ws rm).room.cells = mc from hrc]; exact hp.1
  have h5 : A.slots + (headSpec ws rm).room.slots ≤ R.slots := by rw [show (headSpec ws rm).room.slots = ms from hrs]; exact hp.2.1
  have hPc : Pc a (A.U.calling g mk a) := hblind _ _ _ _ hp.2.2
  obtain ⟨U, Ls, c0, s0⟩ := A
  dsimp only [Pt.U, Pt.locs, Pt.cells, Pt.slots] at h1 h2 h3 h4 h5 X hn hPc ⊢
  obtain ⟨m9, methY, cY, hn9, hmY, hcY, -, hlY, -⟩ := Cond.codeWith_spec h2
  cases Option.some.inj (hn9.symm.trans hn)
  obtain ⟨kY, hkY, -⟩ := className_of_methodNamed hn
  have hinitY : kY.init = .initialized := Cond.initialized_spec (findClass_of_methodNamed hn) hkY h3
  have h : At U g.method c below := by rw [hg]; exact X.here
  have hlocals9 : W9 + (maxL + 11) + (headSpec ws rm).room.locals ≤ R.locals := hlocals
  have happ : (headSpec ws rm).appliesLoose y e.platform (U.calling g mk a) = true :=
    Spec.appliesLoose_calling (g := g) h hdg hn hkY hinitY
      (X.room_calling (g := g) (R' := (headSpec ws rm).room) hsize hmY hcY hframes (by rw [hlY]; omega) h4 h5) h1
  obtain ⟨mid, hmid⟩ := h.above
  have hfr : (U.setTop g).frames = (.java g :: mid) ++ below := by rw [State.frames_setTop' g h.top, hmid]; rfl
  obtain ⟨o, s₂, hsteps, -, hend, hq⟩ := Steps.callFree hM p X.admits X.cas X.clock (acts := []) hfr happ hPc trivial
  have hq' : vx_Q Qc XC mc ms free a (U.calling g mk a) o s₂ := hq
  rw [State.frames_setTop' g h.top] at hend
  obtain ⟨g₀, hg0⟩ := Option.isSome_iff_exists.mp h.top
  obtain ⟨r, hr⟩ := State.topJava?_eq_some.mp hg0
  have hr' : (({ U with heap := s₂.heap, slotsUsed := s₂.slotsUsed } : State).setVm s₂.vm).frames = .java g₀ :: r := hr
  rcases hq' with ⟨hqc, L, hfe, hL⟩ | ⟨q, rfl, E, ce, L, hx, hce, hcv, hcl, hW₂, hsm, hL⟩
  · obtain ⟨⟨v, rfl⟩, hW₂, e2, q2, q3, q4, q5, q6⟩ := id hfe
    have e3 : s₂ = ({ (U.calling g mk a).setFrames s₂.frames with heap := s₂.heap, slotsUsed := s₂.slotsUsed } : State).setVm s₂.vm := by
      have : s₂ = ({ s₂ with vm := (U.calling g mk a).vm } : State).setVm s₂.vm := rfl
      rw [e2] at this
      exact this
    obtain ⟨c₂, i₂, len₂, hc₂, hd₂, hf₂⟩ := hend
    have hW' : U.WarmedH s₂.vm := hW₂
    have hcc : c₂ = c := by
      have h1 : s₂.code? g.method = U.code? g.method := by
        rw [State.code?_eq, State.code?_eq, hW'.alike.method?]
      exact Option.some.inj (hc₂.symm.trans (h1.trans h.code))
    subst hcc
    have hlen : len₂ = len := by rw [hdg] at hd₂; cases hd₂; rfl
    subst hlen
    have hs₂ : s₂ = (({ U with heap := s₂.heap, slotsUsed := s₂.slotsUsed } : State).setVm s₂.vm).setTop { g with pc := g.pc + len₂, stack := v.toList ++ g.stack } := by
      refine e3.trans ?_
      rw [hf₂, State.calling_eq h.top, State.setFrames_setFrames, State.setTop_of_frames _ hr', hr]
      rfl
    have hsame : U.sameButNew ({ U with heap := s₂.heap, slotsUsed := s₂.slotsUsed } : State) L mc ms := by
      refine ⟨?_, q2, q3, q4, q5, q6⟩
      obtain ⟨t, ht, -⟩ := State.frames_cons hr
      show ({ U with heap := s₂.heap, slotsUsed := s₂.slotsUsed } : State) = { U.setFrames U.frames with heap := s₂.heap, slotsUsed := s₂.slotsUsed }
      rw [State.setFrames_self ht]
    subst hg
    refine Or.inl ⟨v, ⟨(({ U with heap := s₂.heap, slotsUsed := s₂.slotsUsed } : State).setVm s₂.vm), Ls ++ L, c0 + mc, s0 + ms⟩,
      ⟨X.admits, X.cas, X.clock, X.frames, X.room, X.hears, X.method, X.code, (X.here.setHeapUsed s₂.heap s₂.slotsUsed).setVm hW'.alike, X.tail, State.WarmedH.trans X.warmed hW', X.limits, X.bytes, X.same.trans (hsame.setVm s.vm)⟩,
      ⟨g, mk, s₂, L, rfl, rfl, hqc, rfl, hL, rfl, rfl⟩, ?_⟩
    show Steps p.tables e below _ ((({ U with heap := s₂.heap, slotsUsed := s₂.slotsUsed } : State).setVm s₂.vm).setTop { g with pc := g.pc + len₂, stack := v.toList ++ g.stack })
    rw [← hs₂]
    exact hsteps
  · obtain ⟨e2, q2, q3, q4, q5, q6⟩ := id hsm
    have e3 : s₂ = ({ (U.calling g mk a).setFrames s₂.frames with heap := s₂.heap, slotsUsed := s₂.slotsUsed } : State).setVm s₂.vm := by
      have : s₂ = ({ s₂ with vm := (U.calling g mk a).vm } : State).setVm s₂.vm := rfl
      rw [e2] at this
      exact this
    have hf₂ : s₂.frames = .throwing q :: .java g :: U.frames.tail := hend
    have hW' : U.WarmedH s₂.vm := hW₂
    have hs₂ : s₂ = ((({ U with heap := s₂.heap, slotsUsed := s₂.slotsUsed } : State).setVm s₂.vm).setTop g).pushFrame (.throwing q) := by
      refine e3.trans ?_
      rw [hf₂, State.calling_eq h.top, State.setFrames_setFrames, State.pushFrame, State.frames_setTop _ hr', State.setTop_of_frames _ hr', State.setFrames_setFrames, hr]
      rfl
    have hsame : U.sameButNew ({ U with heap := s₂.heap, slotsUsed := s₂.slotsUsed } : State) L mc ms := by
      refine ⟨?_, q2, q3, q4, q5, q6⟩
      obtain ⟨t, ht, -⟩ := State.frames_cons hr
      show ({ U with heap := s₂.heap, slotsUsed := s₂.slotsUsed } : State) = { U.setFrames U.frames with heap := s₂.heap, slotsUsed := s₂.slotsUsed }
      rw [State.setFrames_self ht]
    subst hg
    refine Or.inr ⟨q, ⟨(({ U with heap := s₂.heap, slotsUsed := s₂.slotsUsed } : State).setVm s₂.vm), Ls ++ L, c0 + mc, s0 + ms⟩,
      ⟨X.admits, X.cas, X.clock, X.frames, X.room, X.hears, X.method, X.code, (X.here.setHeapUsed s₂.heap s₂.slotsUsed).setVm hW'.alike, X.tail, State.WarmedH.trans X.warmed hW', X.limits, X.bytes, X.same.trans (hsame.setVm s.vm)⟩,
      ⟨g, mk, s₂, L, E, ce, rfl, rfl, hx, hce, hcv, hcl, rfl, hL, rfl, rfl⟩, ?_⟩
    show Steps p.tables e below _ (((({ U with heap := s₂.heap, slotsUsed := s₂.slotsUsed } : State).setVm s₂.vm).setTop g).pushFrame (.throwing q))
    rw [← hs₂]
    exact hsteps
end
variable {p : Program} {l : Launch} {e : Env} {R : Room} {s : State} {m : MethodId} {args : Array Value} {below : List Frame} {meth : Method} {c : Code} {T : State} {H : Heap} {locs : List Loc} {cells slots : Nat}
theorem vx_callVX (X : Stand p l e R s m args below meth c T locs cells slots) (hexec : p.tables.exec = Jvm.exec) {own C : String} {index : Nat} {y : MethodName} {bytes : ByteArray} {maxL : Nat} {ret : Option FieldType} {hh : List (Nat × Nat × Nat × Nat)}
    (hown : s.vm.findClass own = some m.cls) (hlink : (Cond.methodLink own index y).before args s = true) (hinst : (Cond.instanceMethod y).before args s = true) (hsel : (Cond.selects C y y).before args s = true)
    (hcode : (Cond.codeWith y bytes maxL ret hh).before args s = true) (hy : y.cls ≠ "java/lang/invoke/MethodHandle" ∧ y.cls ≠ "java/lang/invoke/VarHandle")
    {W9 : Nat} {Pre : Pt → Array Value → Prop} {Post : Pt → Array Value → Option Value → Pt → Prop} {PostX : Pt → Array Value → Addr → Pt → Prop} (hK : vx_Back l R p e below s args y 3 W9 Pre Post PostX)
    {b : Addr} {cellB : Cell} (hcell : T.heap[b]? = some cellB) (hobj : cellB.vm.isStatics = false) (hcls : s.vm.findClass C = some cellB.cls)
    {g : JFrame} (hg : g.method = m) (hsize : g.locals.size = c.maxLocals) {argsL rest : List Value} (hlen : ∀ sig, parseMethodDescriptor y.desc = some sig → argsL.length = sig.parameters.length)
    (hstack : g.stack = argsL.reverse ++ .ref b :: rest) (hW : 2 * g.monitorRoom + (rest.map fun v => v.category).sum ≤ W9) (hdg : decode c.code g.pc = .ok (.invokevirtual index, 3))
    (hpre : ∀ vm₁, s.WarmedH vm₁ → Pre ⟨T.setVm vm₁, locs, cells, slots⟩ (Value.ref b :: argsL).toArray) :
    (∃ (v : Option Value) (vm₁ : Vm) (B : Pt), s.WarmedH vm₁ ∧ Stand p l e R s m args below meth c B.U B.locs B.cells B.slots ∧ Post ⟨T.setVm vm₁, locs, cells, slots⟩ (Value.ref b :: argsL).toArray v B ∧
      ∀ target, Steps p.tables e below (B.U.setTop { g with pc := g.pc + 3, stack := v.toList ++ rest }) target → Steps p.tables e below (T.setTop g) target) ∨
    (∃ (q : Addr) (vm₁ : Vm) (B : Pt), s.WarmedH vm₁ ∧ Stand p l e R s m args below meth c B.U B.locs B.cells B.slots ∧ PostX ⟨T.setVm vm₁, locs, cells, slots⟩ (Value.ref b :: argsL).toArray q B ∧
      Steps p.tables e below (T.setTop g) ((B.U.setTop { g with stack := rest }).pushFrame (.throwing q))) := by
  obtain ⟨mk, methM, hnamed, hmethM, hstM, habM⟩ := Cond.instanceMethod_spec hinst
  obtain ⟨m8, methM', cM, hn8, hmethM', -, -, -, -, -, -, hsigM⟩ := Cond.codeWith_spec hcode
  cases Option.some.inj (hn8.symm.trans hnamed)
  cases hmethM.symm.trans hmethM'
  obtain ⟨c2, r2, m2, q1, q2, q3, q4, kP, hkP, hkPi⟩ := Cond.selects_spec hsel
  cases hcls.symm.trans q1
  cases (State.methodFound?_of_named hnamed hy).symm.trans q2
  cases hnamed.symm.trans q3
  have hselP : selectMethod e.platform s.vm cellB.cls mk = .method mk := by rw [Launch.admits_selectMethod X.admits]; exact q4
  obtain ⟨vm₁, X₁, hstep₁⟩ := X.invokevirtual hexec hown hlink hnamed hmethM hstM hkP hkPi hy (a := b) (cell := cellB) hcell
    (fun z h => by rw [h] at hobj; cases hobj) hselP hmethM habM hkP hkPi (g := g) hg (argsL := argsL) (rest := rest) (hlen _ hsigM) hstack hdg
  rcases hK m meth c ⟨T.setVm vm₁, locs, cells, slots⟩ { g with stack := rest } (.invokevirtual index) mk (Value.ref b :: argsL).toArray X₁ hg hsize hdg hW (X₁.named hnamed) (hpre vm₁ X₁.warmed) with ⟨v, B, X', hpost, hsteps⟩ | ⟨q, B, X', hpost, hsteps⟩
  · exact Or.inl ⟨v, vm₁, B, X₁.warmed, X', hpost, fun target h => hstep₁ _ fun acts => by rw [doInvoke_state]; exact hsteps.trans h⟩
  · exact Or.inr ⟨q, vm₁, B, X₁.warmed, X', hpost, hstep₁ _ fun acts => by rw [doInvoke_state]; exact hsteps⟩
theorem vx_callSX (X : Stand p l e R s m args below meth c T locs cells slots) (hexec : p.tables.exec = Jvm.exec) {own : String} {index : Nat} {y : MethodName} {bytes : ByteArray} {maxL : Nat} {ret : Option FieldType} {hh : List (Nat × Nat × Nat × Nat)}
    (hown : s.vm.findClass own = some m.cls) (hlink : (Cond.methodLink own index y).before args s = true) (hstat : (Cond.static y).before args s = true) (hinit : (Cond.initialized y.cls).before args s = true)
    (hcode : (Cond.codeWith y bytes maxL ret hh).before args s = true) (hy : y.cls ≠ "java/lang/invoke/MethodHandle" ∧ y.cls ≠ "java/lang/invoke/VarHandle")
    {W9 : Nat} {Pre : Pt → Array Value → Prop} {Post : Pt → Array Value → Option Value → Pt → Prop} {PostX : Pt → Array Value → Addr → Pt → Prop} (hK : vx_Back l R p e below s args y 3 W9 Pre Post PostX)
    {g : JFrame} (hg : g.method = m) (hsize : g.locals.size = c.maxLocals) {argsL rest : List Value} (hlen : ∀ sig, parseMethodDescriptor y.desc = some sig → argsL.length = sig.parameters.length)
    (hstack : g.stack = argsL.reverse ++ rest) (hW : 2 * g.monitorRoom + (rest.map fun v => v.category).sum ≤ W9) (hdg : decode c.code g.pc = .ok (.invokestatic index, 3))
    (hpre : ∀ vm₁, s.WarmedH vm₁ → Pre ⟨T.setVm vm₁, locs, cells, slots⟩ argsL.toArray) :
    (∃ (v : Option Value) (vm₁ : Vm) (B : Pt), s.WarmedH vm₁ ∧ Stand p l e R s m args below meth c B.U B.locs B.cells B.slots ∧ Post ⟨T.setVm vm₁, locs, cells, slots⟩ argsL.toArray v B ∧
      ∀ target, Steps p.tables e below (B.U.setTop { g with pc := g.pc + 3, stack := v.toList ++ rest }) target → Steps p.tables e below (T.setTop g) target) ∨
    (∃ (q : Addr) (vm₁ : Vm) (B : Pt), s.WarmedH vm₁ ∧ Stand p l e R s m args below meth c B.U B.locs B.cells B.slots ∧ PostX ⟨T.setVm vm₁, locs, cells, slots⟩ argsL.toArray q B ∧
      Steps p.tables e below (T.setTop g) ((B.U.setTop { g with stack := rest }).pushFrame (.throwing q))) := by
  obtain ⟨mk, methM, cM, hnamed, hmethM, -, -, -, -, -, -, hsigM⟩ := Cond.codeWith_spec hcode
  have hstatic : methM.isStatic = true := Cond.static_spec hnamed hmethM hstat
  obtain ⟨kP, hkP, -⟩ := className_of_methodNamed hnamed
  have hinitP : kP.init = .initialized := Cond.initialized_spec (findClass_of_methodNamed hnamed) hkP hinit
  obtain ⟨vm₁, X₁, hstep₁⟩ := X.invokestatic hexec hown hlink hnamed hmethM hstatic hkP hinitP hy (g := g) hg (argsL := argsL) (rest := rest) (hlen _ hsigM) hstack hdg
  rcases hK m meth c ⟨T.setVm vm₁, locs, cells, slots⟩ { g with stack := rest } (.invokestatic index) mk argsL.toArray X₁ hg hsize hdg hW (X₁.named hnamed) (hpre vm₁ X₁.warmed) with ⟨v, B, X', hpost, hsteps⟩ | ⟨q, B, X', hpost, hsteps⟩
  · exact Or.inl ⟨v, vm₁, B, X₁.warmed, X', hpost, fun target h => hstep₁ _ fun acts => by rw [doInvoke_state]; exact hsteps.trans h⟩
  · exact Or.inr ⟨q, vm₁, B, X₁.warmed, X', hpost, hstep₁ _ fun acts => by rw [doInvoke_state]; exact hsteps⟩
theorem vx_callVW (X : Stand p l e R s m args below meth c T locs cells slots) (hexec : p.tables.exec = Jvm.exec) {own C : String} {index : Nat} {y : MethodName} {bytes : ByteArray} {maxL : Nat} {ret : Option FieldType} {hh : List (Nat × Nat × Nat × Nat)}
    (hown : s.vm.findClass own = some m.cls) (hlink : (Cond.methodLink own index y).before args s = true) (hinst : (Cond.instanceMethod y).before args s = true) (hsel : (Cond.selects C y y).before args s = true)
    (hcode : (Cond.codeWith y bytes maxL ret hh).before args s = true) (hy : y.cls ≠ "java/lang/invoke/MethodHandle" ∧ y.cls ≠ "java/lang/invoke/VarHandle")
    {W9 : Nat} {Pre : Pt → Array Value → Prop} {Post : Pt → Array Value → Option Value → Pt → Prop} (hK : Back l R p e below s args y 3 W9 Pre Post)
    {b : Addr} {cellB : Cell} (hcell : T.heap[b]? = some cellB) (hobj : cellB.vm.isStatics = false) (hcls : s.vm.findClass C = some cellB.cls)
    {g : JFrame} (hg : g.method = m) (hsize : g.locals.size = c.maxLocals) {argsL rest : List Value} (hlen : ∀ sig, parseMethodDescriptor y.desc = some sig → argsL.length = sig.parameters.length)
    (hstack : g.stack = argsL.reverse ++ .ref b :: rest) (hW : 2 * g.monitorRoom + (rest.map fun v => v.category).sum ≤ W9) (hdg : decode c.code g.pc = .ok (.invokevirtual index, 3))
    (hpre : ∀ vm₁, s.WarmedH vm₁ → Pre ⟨T.setVm vm₁, locs, cells, slots⟩ (Value.ref b :: argsL).toArray) :
    ∃ (v : Option Value) (vm₁ : Vm) (B : Pt), s.WarmedH vm₁ ∧ Stand p l e R s m args below meth c B.U B.locs B.cells B.slots ∧ Post ⟨T.setVm vm₁, locs, cells, slots⟩ (Value.ref b :: argsL).toArray v B ∧
      ∀ target, Steps p.tables e below (B.U.setTop { g with pc := g.pc + 3, stack := v.toList ++ rest }) target → Steps p.tables e below (T.setTop g) target := by
  obtain ⟨mk, methM, hnamed, hmethM, hstM, habM⟩ := Cond.instanceMethod_spec hinst
  obtain ⟨m8, methM', cM, hn8, hmethM', -, -, -, -, -, -, hsigM⟩ := Cond.codeWith_spec hcode
  cases Option.some.inj (hn8.symm.trans hnamed)
  cases hmethM.symm.trans hmethM'
  obtain ⟨c2, r2, m2, q1, q2, q3, q4, kP, hkP, hkPi⟩ := Cond.selects_spec hsel
  cases hcls.symm.trans q1
  cases (State.methodFound?_of_named hnamed hy).symm.trans q2
  cases hnamed.symm.trans q3
  have hselP : selectMethod e.platform s.vm cellB.cls mk = .method mk := by rw [Launch.admits_selectMethod X.admits]; exact q4
  obtain ⟨vm₁, X₁, hstep₁⟩ := X.invokevirtual hexec hown hlink hnamed hmethM hstM hkP hkPi hy (a := b) (cell := cellB) hcell
    (fun z h => by rw [h] at hobj; cases hobj) hselP hmethM habM hkP hkPi (g := g) hg (argsL := argsL) (rest := rest) (hlen _ hsigM) hstack hdg
  obtain ⟨v, B, X', hpost, hsteps⟩ := hK m meth c ⟨T.setVm vm₁, locs, cells, slots⟩ { g with stack := rest } (.invokevirtual index) mk (Value.ref b :: argsL).toArray X₁ hg hsize hdg hW (X₁.named hnamed) (hpre vm₁ X₁.warmed)
  exact ⟨v, vm₁, B, X₁.warmed, X', hpost, fun target h => hstep₁ _ fun acts => by rw [doInvoke_state]; exact hsteps.trans h⟩
abbrev vx_CVW (R : Room) (s : State) (args : Array Value) (own C : String) (index : Nat) (y : MethodName) (bytes : ByteArray) (maxL : Nat) (ret : Option FieldType) (hh : List (Nat × Nat × Nat × Nat)) (ws : List Cond) (rm : Room) (mc ms n : Nat) : Prop :=
  (rm.cells = mc ∧ rm.slots = ms ∧ rm.frames + 1 ≤ R.frames ∧ 8 + (maxL + 11) + rm.locals ≤ R.locals ∧ (∀ w ∈ ws, ∀ (a' : Array Value) (U : State), s.WarmedH U.vm → w.before a' U = true) ∧ Cond.codeWith y bytes maxL ret hh ∈ ws) ∧
  (Cond.codeWith y bytes maxL ret hh).before args s = true ∧ (Cond.initialized y.cls).before args s = true ∧ (y.cls ≠ "java/lang/invoke/MethodHandle" ∧ y.cls ≠ "java/lang/invoke/VarHandle") ∧
  (∀ sig, parseMethodDescriptor y.desc = some sig → n = sig.parameters.length) ∧ (Cond.methodLink own index y).before args s = true ∧ (Cond.instanceMethod y).before args s = true ∧ (Cond.selects C y y).before args s = true
theorem vx_cwVW {own C : String} {index maxL mc ms : Nat} {y : MethodName} {bytes : ByteArray} {ret : Option FieldType} {hh : List (Nat × Nat × Nat × Nat)} {Ts ws ws' : List Cond} {rm : Room} (n : Nat) (ht : ∀ w ∈ Ts, w.before args s = true) (hT : GoodIn Ts (wsV own index C y ws)) (hw : ws = Cond.codeWith y bytes maxL ret hh :: ws') (hrc : rm.cells = mc) (hrs : rm.slots = ms)
    (hd : y.cls = C ∧ y.cls ≠ "java/lang/invoke/MethodHandle" ∧ y.cls ≠ "java/lang/invoke/VarHandle" ∧ (parseMethodDescriptor y.desc).map (fun d => d.parameters.length) = some n) (hR : rm.frames + 1 ≤ R.frames ∧ 8 + (maxL + 11) + rm.locals ≤ R.locals) :
    vx_CVW R s args own C index y bytes maxL ret hh ws rm mc ms n := by
  obtain ⟨hC, hd⟩ := hd
  subst hC
  have ok : ∀ w ∈ wsV own index y.cls y ws, w.before args s = true := fun w h => ht w (hT w h).1
  have hG : GoodIn Ts ws := fun w h => hT w (by unfold wsV; exact List.mem_append_right _ h)
  have hc : Cond.codeWith y bytes maxL ret hh ∈ ws := by rw [hw]; exact List.mem_cons_self
  refine ⟨⟨hrc, hrs, hR.1, hR.2, pay_in ht hG, hc⟩, ht _ (hG _ hc).1, ok _ (by simp [wsV]), ⟨hd.1, hd.2.1⟩, fun sig h => ?_, ok _ (by simp [wsV]), ok _ (by simp [wsV]), ok _ (by simp [wsV])⟩
  have h2 := hd.2.2
  rw [h] at h2
  exact (Option.some.inj h2).symm
theorem vx_runVW {y : MethodName} {bytes cc : ByteArray} {maxL nL mc ms n index : Nat} {ret : Option FieldType} {hh : List (Nat × Nat × Nat × Nat)} {ws : List Cond} {rm : Room} {Pc : Array Value → State → Prop} {Qc : Array Value → State → Outcome → State → Prop} {free : Addr → Prop} {Ts : List Cond} {own C : String} {b : Addr} {As rest : List Value} {g : JFrame}
    (S : CallFix p m c cc nL s args Ts own) (hM : Met l y ws rm Pc Qc mc ms free) (cw : vx_CVW R s args own C index y bytes maxL ret hh ws rm mc ms n) (hp : PreV s H C b Pc As)
    (hg : g.method = m) (hn : As.length = n) (hsize : g.locals.size = nL) (hstack : g.stack = As.reverse ++ .ref b :: rest) (hW : 2 * g.monitorRoom + (rest.map fun v => v.category).sum ≤ 8) (hdg : decode cc g.pc = .ok (.invokevirtual index, 3)) (hf : cells + mc ≤ R.cells ∧ slots + ms ≤ R.slots) :
    va_Run p l e R s m args below meth c H locs cells slots mc ms g rest (Qc (Value.ref b :: As).toArray) free := by
  obtain ⟨⟨hrc, hrs, hfr, hlo, hws, hcw⟩, hcode, hini, hy, hlen, hl, hin, hse⟩ := cw
  have hK : Back l R p e below s args y 3 8 (PreOf R mc ms Pc) (PostOf Qc mc ms free) := va_backW (hh := hh) (bytes := bytes) (maxL := maxL) (ret := ret) hM hp.1 hrc hrs hfr hlo hws hcw (fun a' U hW => word_at hW (Or.inl (by first | rfl | simp [Cond.onTables, Cond.keeps, Cond.steady])) hini)
  obtain ⟨hx, hb, hml, ho, -⟩ := S
  obtain ⟨-, ⟨cellB, hcB, hoB, hclB⟩, hPc⟩ := hp
  intro T hT X
  obtain ⟨v, vm₁, ⟨U', l2, c2, s2⟩, hW₁, X', ⟨g', mk, t, L, e1, e2, hq, h1, hL, h2, h3⟩, st⟩ := vx_callVW X hx (C := C) (hh := hh) (bytes := bytes) (maxL := maxL) (ret := ret) ho hl hin hse hcode hy hK (by rw [hT]; exact hcB) hoB hclB hg (hsize.trans hml.symm) (argsL := As) (rest := rest) (fun sig h => hn.trans (hlen sig h)) hstack hW (by rw [hb]; exact hdg)
    (fun vm₁ hW₁ => ⟨hf.1, hf.2, hPc (T.setVm vm₁) hT hW₁⟩)
  dsimp only [Pt.U, Pt.locs, Pt.cells, Pt.slots] at X' e1 e2 h1 h2 h3 st
  subst h1; subst h2; subst h3
  exact ⟨v, (T.setVm vm₁).calling g' mk (Value.ref b :: As).toArray, t, U', L, hT, X', hL, e1, e2, hq, st⟩
section
variable {y : MethodName} {bytes cc : ByteArray} {maxL nL mc ms n index : Nat} {ret : Option FieldType} {ws : List Cond} {rm : Room} {Pc : Array Value → State → Prop} {Qc : Array Value → State → Outcome → State → Prop} {XC : String → State → State → Prop} {free : Addr → Prop} {Ts : List Cond} {own C : String} {b : Addr} {As rest : List Value} {g : JFrame}
theorem vx_runVX {hh : List (Nat × Nat × Nat × Nat)} (S : CallFix p m c cc nL s args Ts own) (hM : vx_Met l y ws rm Pc Qc XC mc ms free) (cw : vx_CVW R s args own C index y bytes maxL ret hh ws rm mc ms n) (hp : PreV s H C b Pc As)
    (hg : g.method = m) (hn : As.length = n) (hsize : g.locals.size = nL) (hstack : g.stack = As.reverse ++ .ref b :: rest) (hW : 2 * g.monitorRoom + (rest.map fun v => v.category).sum ≤ 8) (hdg : decode cc g.pc = .ok (.invokevirtual index, 3)) (hf : cells + mc ≤ R.cells ∧ slots + ms ≤ R.slots) :
    vx_Run p l e R s m args below meth c H locs cells slots mc ms g rest (Qc (Value.ref b :: As).toArray) XC free := by
  obtain ⟨⟨hrc, hrs, hfr, hlo, hws, hcw⟩, hcode, hini, hy, hlen, hl, hin, hse⟩ := cw
  have hK : vx_Back l R p e below s args y 3 8 (PreOf R mc ms Pc) (PostOf Qc mc ms free) (vx_Post XC mc ms free) := vx_backW (hh := hh) (bytes := bytes) (maxL := maxL) (ret := ret) hM hp.1 hrc hrs hfr hlo hws hcw (fun a' U hW => word_at hW (Or.inl (by first | rfl | simp [Cond.onTables, Cond.keeps, Cond.steady])) hini)
  obtain ⟨hx, hb, hml, ho, -⟩ := S
  obtain ⟨-, ⟨cellB, hcB, hoB, hclB⟩, hPc⟩ := hp
  intro T hT X
  rcases vx_callVX X hx (C := C) (hh := hh) (bytes := bytes) (maxL := maxL) (ret := ret) ho hl hin hse hcode hy hK (by rw [hT]; exact hcB) hoB hclB hg (hsize.trans hml.symm) (argsL := As) (rest := rest) (fun sig h => hn.trans (hlen sig h)) hstack hW (by rw [hb]; exact hdg)
    (fun vm₁ hW₁ => ⟨hf.1, hf.2, hPc (T.setVm vm₁) hT hW₁⟩) with ⟨v, vm₁, ⟨U', l2, c2, s2⟩, hW₁, X', ⟨g', mk, t, L, e1, e2, hq, h1, hL, h2, h3⟩, st⟩ | ⟨q, vm₁, ⟨U', l2, c2, s2⟩, hW₁, X', ⟨g', mk, t, L, E, ce, e1, e2, hq, hce, hcv, hcl, h1, hL, h2, h3⟩, st⟩
  · dsimp only [Pt.U, Pt.locs, Pt.cells, Pt.slots] at X' e1 e2 h1 h2 h3 st
    subst h1; subst h2; subst h3
    exact Or.inl ⟨v, (T.setVm vm₁).calling g' mk (Value.ref b :: As).toArray, t, U', L, hT, X', hL, e1, e2, hq, st⟩
  · dsimp only [Pt.U, Pt.locs, Pt.cells, Pt.slots] at X' e1 e2 h1 h2 h3 st hcl
    subst h1; subst h2; subst h3
    exact Or.inr ⟨q, (T.setVm vm₁).calling g' mk (Value.ref b :: As).toArray, t, U', L, E, ce, hT, X', hL, e1, e2, hq, hce, hcv, vx_cls hW₁ hcl, st⟩
theorem vx_runSX {hh : List (Nat × Nat × Nat × Nat)} (S : CallFix p m c cc nL s args Ts own) (hM : vx_Met l y ws rm Pc Qc XC mc ms free) (cw : vx_CSW R s args own index y bytes maxL ret hh ws rm mc ms n) (hp : PreS s H Pc As)
    (hg : g.method = m) (hn : As.length = n) (hsize : g.locals.size = nL) (hstack : g.stack = As.reverse ++ rest) (hW : 2 * g.monitorRoom + (rest.map fun v => v.category).sum ≤ 8) (hdg : decode cc g.pc = .ok (.invokestatic index, 3)) (hf : cells + mc ≤ R.cells ∧ slots + ms ≤ R.slots) :
    vx_Run p l e R s m args below meth c H locs cells slots mc ms g rest (Qc As.toArray) XC free := by
  obtain ⟨⟨hrc, hrs, hfr, hlo, hws, hcw⟩, hcode, hini, hy, hlen, hl, hstt⟩ := cw
  have hK : vx_Back l R p e below s args y 3 8 (PreOf R mc ms Pc) (PostOf Qc mc ms free) (vx_Post XC mc ms free) := vx_backW (hh := hh) (bytes := bytes) (maxL := maxL) (ret := ret) hM hp.1 hrc hrs hfr hlo hws hcw (fun a' U hW => word_at hW (Or.inl (by first | rfl | simp [Cond.onTables, Cond.keeps, Cond.steady])) hini)
  obtain ⟨hx, hb, hml, ho, -⟩ := S
  intro T hT X
  rcases vx_callSX X hx (hh := hh) (bytes := bytes) (maxL := maxL) (ret := ret) ho hl hstt hini hcode hy hK hg (hsize.trans hml.symm) (argsL := As) (rest := rest) (fun sig h => hn.trans (hlen sig h)) hstack hW (by rw [hb]; exact hdg)
    (fun vm₁ hW₁ => ⟨hf.1, hf.2, hp.2 (T.setVm vm₁) hT hW₁⟩) with ⟨v, vm₁, ⟨U', l2, c2, s2⟩, hW₁, X', ⟨g', mk, t, L, e1, e2, hq, h1, hL, h2, h3⟩, st⟩ | ⟨q, vm₁, ⟨U', l2, c2, s2⟩, hW₁, X', ⟨g', mk, t, L, E, ce, e1, e2, hq, hce, hcv, hcl, h1, hL, h2, h3⟩, st⟩
  · dsimp only [Pt.U, Pt.locs, Pt.cells, Pt.slots] at X' e1 e2 h1 h2 h3 st
    subst h1; subst h2; subst h3
    exact Or.inl ⟨v, (T.setVm vm₁).calling g' mk As.toArray, t, U', L, hT, X', hL, e1, e2, hq, st⟩
  · dsimp only [Pt.U, Pt.locs, Pt.cells, Pt.slots] at X' e1 e2 h1 h2 h3 st hcl
    subst h1; subst h2; subst h3
    exact Or.inr ⟨q, (T.setVm vm₁).calling g' mk As.toArray, t, U', L, E, ce, hT, X', hL, e1, e2, hq, hce, hcv, vx_cls hW₁ hcl, st⟩
end
end VXH
theorem vx_ofWH {l : Launch} {y : MethodName} {ws ws' : List Cond} {rm : Room} {Pc : Array Value → State → Prop} {Qc : Array Value → State → Outcome → State → Prop} {XC : String → State → State → Prop} {mc ms : Nat} {free : Addr → Prop} {cc : ByteArray} {maxL : Nat} {ret : Option FieldType} {hh : List (Nat × Nat × Nat × Nat)}
    (hy : plainName y.cls = true) (hw : ws = Cond.codeWith y cc maxL ret hh :: ws')
    (body : ∀ p e s m args below meth c s₁, BodyLoose p l y (headSpec ws rm) cc maxL ret e s m args below meth c s₁ → c.maxLocals = maxL → Pc args s →
      W p l e (headSpec ws rm).room s m args below meth c s.heap [] 0 0 (vx_MQ below Qc XC args s mc ms free) (entryFrame m args maxL)) : vx_Met l y ws rm Pc Qc XC mc ms free := by
  refine MetFree.of_bodyS (code := cc) (maxLocals := maxL) (ret := ret) hy ?_ ?_
  · intro args s m h hn
    obtain ⟨m9, meth, c, hn9, h1, h2, h3, h4, -, h5, h6, -⟩ := Cond.codeWith_spec (atoms_spec (ws := ws) h _ (by rw [hw]; exact List.mem_cons_self))
    cases hn.symm.trans hn9
    exact ⟨meth, c, h1, h2, h3, h4, h5, h6⟩
  · intro p e s m args below meth c s₁ B hml hP _
    have hh0 : s₁.heap = s.heap := by rw [B.state]; rfl
    obtain ⟨t, a1, o, b1, b2, b3⟩ := body p e s m args below meth c s₁ B hml hP s₁ hh0 (Stand.of_body B)
    exact ⟨t, o, a1, b1, b2, b3⟩
/-! ===== END ===== -/

/-! THE CLAIM OUT OF ONE WALK OF THE LAW'S BODY. Your part is whole_start (and what it stands on); all else here is the same for every law, but numbers. -/
def R_law : String := "FutureWishesLaw"
def lw_P (b : Addr) (xs : List Int32) (args : Array Value) (s : State) : Prop := args = #[.ref b] ∧ s.IntsAt b xs ∧ xs.length ≤ 260 ∧ (Jvm.Cond.and given_1 narrow_1).before args s = true
/-- what a walk over the start with the record d0 says of its end, said of the start itself -/
theorem lw_closed {s t : State} {o : Outcome} {d0 : Drawn} {L : List Loc} {k n : Nat} (hd0 : s.drawn.sameBut d0 lw_cs) (hv : ∃ v, o = .returned v) (hW : (s.setDrawn d0).WarmedH t.vm) (hs : (s.setDrawn d0).sameButNew ({ t with vm := s.vm } : State) L k n) : State.butDraws s t lw_cs (fun t1 => Framed s o t1 L k n) := by
  have h2 : t.drawn = d0 := congrArg State.drawn hs.1
  refine ⟨⟨hv, hW, State.sameButNew.setDrawn hs s.drawn⟩, ?_, by decide⟩
  rw [h2]
  exact hd0
def lw_Q (_ : Array Value) (s : State) (o : Outcome) (t : State) : Prop := o = .returned (some (.int 1)) ∧ State.butDraws s t lw_cs (fun t1 => Framed s o t1 [] 600130 7301079)
def lw_Z (below : List Frame) (a : Array Value) (s : State) : State → Prop := fun t => ∃ o, t.status = .running ∧ Ended t below o ∧ lw_Q a s o t
/-- the law's own end, with 1 on the stack, nothing written that was there before, its room as the claim has it; d0: the record of draws at this point (at the entry s.drawn: begin with 'refine W.base ?_' and 'have hd0 := Drawn.sameBut.refl s.drawn lw_cs') -/
theorem lw_ret {p : Program} {l : Launch} {e : Env} {s : State} {m : MethodId} {below : List Frame} {meth : Method} {c : Code} {b : Nat} {d0 : Drawn} (hd0 : s.drawn.sameBut d0 lw_cs) (hx : p.tables.exec = Jvm.exec) (hb : c.code = code) (hr : meth.sig.returnType = ret) (hlocks : meth.locks = false) {pc : Nat} {H : Heap} {ls : Array Slot} (hdg : decode code pc = .ok (.ireturn, 1)) : W p l e room_1 (s.setDrawn d0) m #[Value.ref b] below meth c H [] 600130 7301079 (lw_Z below #[Value.ref b] s) (F0 m pc ls [.int 1]) := by
  intro T hT X
  obtain ⟨fs, hret, hrun, hended, hW, hframe⟩ := X.leave (v := some (.int 1)) (hlocks := hlocks) (fun h => by rw [hr] at h; cases h)
  have hmeth' : T.vm.method? m = some meth := X.method'
  refine ⟨T.setFrames fs, ?_, .returned (some (.int 1)), hrun, hended, rfl, lw_closed hd0 ⟨_, rfl⟩ hW hframe⟩
  jvm_step X.here [X.here.top, hx, hb, hdg, hmeth', hr, ret, narrow_b1]
  (try refine ⟨rfl, ?_⟩); (try refine ⟨rfl, ?_⟩)
  first | (intro acts; rw [hret _ acts rfl rfl rfl]) | rw [hret _ _ rfl rfl rfl]
  exact Steps.refl _
/-- what holds at the law's entry: the machine, the code, the tables' words (any of lw_tbl by 'hts w (by decide +kernel)'), the script of L ints xs at the cell b, what the Statement gives of the start (any of its parts by flat_of_before) -/
def lw_At (p : Program) (s : State) (m : MethodId) (meth : Method) (c : Code) (b L : Nat) (xs : Nat → Int32) : Prop :=
  p.tables.exec = Jvm.exec ∧ c.code = code ∧ meth.sig.returnType = ret ∧ c.maxLocals = 16 ∧ s.vm.findClass R_law = some m.cls ∧ (∀ w ∈ lw_tbl, w.before #[Value.ref b] s = true) ∧ va_X b L xs s s.heap ∧ b < s.heap.size ∧ meth.locks = false ∧ (Jvm.Cond.and given_1 narrow_1).before #[Value.ref b] s = true
end
section
def RX0 : String := "FutureWishes$Futures"
def TX0 : u_T := fun k => match k with
  | 0 => ("FutureWishes$Futures", "state", "LFutureWishes$State;", true)
  | 1 => ("FutureWishes$Futures", "all", "I", false)
  | 2 => ("FutureWishes$Futures", "live", "I", false)
  | 3 => ("FutureWishes$Futures", "rounds", "I", false)
  | _ => ("FutureWishes$Futures", "goals", "I", false)
def tyX0 : Nat → FieldType := fun k => match k with
  | 0 => .object "FutureWishes$State"
  | 1 => .int
  | 2 => .int
  | 3 => .int
  | _ => .int
theorem nmX0 : ∀ a, a < 5 → ∀ b, b < 5 → a ≠ b → (TX0 a).2.1 ≠ (TX0 b).2.1 := by decide +kernel
theorem tyX0_ok : ∀ k, k < 5 → parseFieldDescriptor (TX0 k).2.2.1 = some (tyX0 k) := by decide +kernel
abbrev cX0_init : ByteArray := prog_2_method_1_code
def yX0_init : MethodName := ⟨RX0, "<init>", "(LFutureWishes$State;)V"⟩
abbrev cX0_look : ByteArray := prog_2_method_2_code
def yX0_look : MethodName := ⟨RX0, "look", "()V"⟩
abbrev cX0_onSomeWay : ByteArray := prog_2_method_3_code
def yX0_onSomeWay : MethodName := ⟨RX0, "onSomeWay", "(CII)I"⟩
abbrev cX0_onSomeWayNot : ByteArray := prog_2_method_4_code
def yX0_onSomeWayNot : MethodName := ⟨RX0, "onSomeWayNot", "(CII)I"⟩
abbrev cX0_until : ByteArray := prog_2_method_5_code
def yX0_until : MethodName := ⟨RX0, "until", "(II)I"⟩
abbrev cX0_always : ByteArray := prog_2_method_6_code
def yX0_always : MethodName := ⟨RX0, "always", "(I)I"⟩
def RX1 : String := "FutureWishes$History"
def TX1 : u_T := fun k => match k with
  | 0 => ("FutureWishes$History", "size", "I", false)
  | 1 => ("FutureWishes$History", "oldest", "I", false)
  | _ => ("FutureWishes$History", "saved", "[LFutureWishes$State;", true)
def tyX1 : Nat → FieldType := fun k => match k with
  | 0 => .int
  | 1 => .int
  | _ => .array (.object "FutureWishes$State")
theorem nmX1 : ∀ a, a < 3 → ∀ b, b < 3 → a ≠ b → (TX1 a).2.1 ≠ (TX1 b).2.1 := by decide +kernel
theorem tyX1_ok : ∀ k, k < 3 → parseFieldDescriptor (TX1 k).2.2.1 = some (tyX1 k) := by decide +kernel
abbrev cX1_init : ByteArray := prog_3_method_1_code
def yX1_init : MethodName := ⟨RX1, "<init>", "()V"⟩
abbrev cX1_save : ByteArray := prog_3_method_2_code
def yX1_save : MethodName := ⟨RX1, "save", "(LFutureWishes$State;)V"⟩
abbrev cX1_restore : ByteArray := prog_3_method_3_code
def yX1_restore : MethodName := ⟨RX1, "restore", "(LFutureWishes$State;)V"⟩
def RX2 : String := "FutureWishes$Meaning"
def TX2 : u_T := fun k => match k with
  | 0 => ("FutureWishes$Meaning", "state", "LFutureWishes$State;", true)
  | 1 => ("FutureWishes$Meaning", "futures", "LFutureWishes$Futures;", true)
  | 2 => ("FutureWishes$Meaning", "length", "I", false)
  | 3 => ("FutureWishes$Meaning", "signs", "[C", true)
  | 4 => ("FutureWishes$Meaning", "lengths", "[I", true)
  | 5 => ("FutureWishes$Meaning", "depths", "[I", true)
  | 6 => ("FutureWishes$Meaning", "sets", "[I", true)
  | _ => ("FutureWishes$Meaning", "rounds", "[I", true)
def tyX2 : Nat → FieldType := fun k => match k with
  | 0 => .object "FutureWishes$State"
  | 1 => .object "FutureWishes$Futures"
  | 2 => .int
  | 3 => .array .char
  | 4 => .array .int
  | 5 => .array .int
  | 6 => .array .int
  | _ => .array .int
theorem nmX2 : ∀ a, a < 8 → ∀ b, b < 8 → a ≠ b → (TX2 a).2.1 ≠ (TX2 b).2.1 := by decide +kernel
theorem tyX2_ok : ∀ k, k < 8 → parseFieldDescriptor (TX2 k).2.2.1 = some (tyX2 k) := by decide +kernel
abbrev cX2_init : ByteArray := prog_4_method_1_code
def yX2_init : MethodName := ⟨RX2, "<init>", "(LFutureWishes$State;)V"⟩
abbrev cX2_live : ByteArray := prog_4_method_2_code
def yX2_live : MethodName := ⟨RX2, "live", "()I"⟩
abbrev cX2_find : ByteArray := prog_4_method_3_code
def yX2_find : MethodName := ⟨RX2, "find", "(I)I"⟩
abbrev cX2_readSigns : ByteArray := prog_4_method_4_code
def yX2_readSigns : MethodName := ⟨RX2, "readSigns", "(I)V"⟩
abbrev cX2_putShape : ByteArray := prog_4_method_5_code
def yX2_putShape : MethodName := ⟨RX2, "putShape", "(III)V"⟩
abbrev cX2_findSets : ByteArray := prog_4_method_6_code
def yX2_findSets : MethodName := ⟨RX2, "findSets", "()V"⟩
abbrev cX2_ofWish : ByteArray := prog_4_method_7_code
def yX2_ofWish : MethodName := ⟨RX2, "ofWish", "(I)I"⟩
abbrev cX2_ofSign : ByteArray := prog_4_method_8_code
def yX2_ofSign : MethodName := ⟨RX2, "ofSign", "(II)I"⟩
abbrev cX2_signAt : ByteArray := prog_4_method_9_code
def yX2_signAt : MethodName := ⟨RX2, "signAt", "(I)C"⟩
abbrev cX2_setAt : ByteArray := prog_4_method_10_code
def yX2_setAt : MethodName := ⟨RX2, "setAt", "(I)I"⟩
abbrev cX2_behind : ByteArray := prog_4_method_11_code
def yX2_behind : MethodName := ⟨RX2, "behind", "(I)I"⟩
abbrev cX2_depthAt : ByteArray := prog_4_method_12_code
def yX2_depthAt : MethodName := ⟨RX2, "depthAt", "(I)I"⟩
abbrev cX2_allRounds : ByteArray := prog_4_method_13_code
def yX2_allRounds : MethodName := ⟨RX2, "allRounds", "()I"⟩
def RX3 : String := "FutureWishes$State"
def TX3 : u_T := fun k => match k with
  | 0 => ("FutureWishes$State", "worlds", "I", false)
  | 1 => ("FutureWishes$State", "fairLetter", "I", false)
  | 2 => ("FutureWishes$State", "letters", "[I", true)
  | 3 => ("FutureWishes$State", "steps", "[I", true)
  | 4 => ("FutureWishes$State", "lengths", "[I", true)
  | _ => ("FutureWishes$State", "signs", "[C", true)
def tyX3 : Nat → FieldType := fun k => match k with
  | 0 => .int
  | 1 => .int
  | 2 => .array .int
  | 3 => .array .int
  | 4 => .array .int
  | _ => .array .char
theorem nmX3 : ∀ a, a < 6 → ∀ b, b < 6 → a ≠ b → (TX3 a).2.1 ≠ (TX3 b).2.1 := by decide +kernel
theorem tyX3_ok : ∀ k, k < 6 → parseFieldDescriptor (TX3 k).2.2.1 = some (tyX3 k) := by decide +kernel
abbrev cX3_init : ByteArray := prog_5_method_1_code
def yX3_init : MethodName := ⟨RX3, "<init>", "()V"⟩
abbrev cX3_copyFrom : ByteArray := prog_5_method_2_code
def yX3_copyFrom : MethodName := ⟨RX3, "copyFrom", "(LFutureWishes$State;)V"⟩
abbrev cX3_hasWorld : ByteArray := prog_5_method_3_code
def yX3_hasWorld : MethodName := ⟨RX3, "hasWorld", "(I)Z"⟩
abbrev cX3_allWorlds : ByteArray := prog_5_method_4_code
def yX3_allWorlds : MethodName := ⟨RX3, "allWorlds", "()I"⟩
abbrev cX3_lettersOf : ByteArray := prog_5_method_5_code
def yX3_lettersOf : MethodName := ⟨RX3, "lettersOf", "(I)I"⟩
abbrev cX3_stepsFrom : ByteArray := prog_5_method_6_code
def yX3_stepsFrom : MethodName := ⟨RX3, "stepsFrom", "(I)I"⟩
abbrev cX3_withLetter : ByteArray := prog_5_method_7_code
def yX3_withLetter : MethodName := ⟨RX3, "withLetter", "(I)I"⟩
abbrev cX3_leadingInto : ByteArray := prog_5_method_8_code
def yX3_leadingInto : MethodName := ⟨RX3, "leadingInto", "(I)I"⟩
abbrev cX3_countSteps : ByteArray := prog_5_method_9_code
def yX3_countSteps : MethodName := ⟨RX3, "countSteps", "()I"⟩
abbrev cX3_putWorld : ByteArray := prog_5_method_10_code
def yX3_putWorld : MethodName := ⟨RX3, "putWorld", "(I)I"⟩
abbrev cX3_turnStep : ByteArray := prog_5_method_12_code
def yX3_turnStep : MethodName := ⟨RX3, "turnStep", "(II)V"⟩
abbrev cX3_lengthOf : ByteArray := prog_5_method_15_code
def yX3_lengthOf : MethodName := ⟨RX3, "lengthOf", "(I)I"⟩
abbrev cX3_signAt : ByteArray := prog_5_method_16_code
def yX3_signAt : MethodName := ⟨RX3, "signAt", "(II)C"⟩
abbrev cX3_putSign : ByteArray := prog_5_method_17_code
def yX3_putSign : MethodName := ⟨RX3, "putSign", "(IIC)V"⟩
abbrev cX3_putLength : ByteArray := prog_5_method_18_code
def yX3_putLength : MethodName := ⟨RX3, "putLength", "(II)V"⟩
abbrev cX3_putWish : ByteArray := prog_5_method_19_code
def yX3_putWish : MethodName := ⟨RX3, "putWish", "(ILFutureWishes$Text;)V"⟩
abbrev cX3_putNot : ByteArray := prog_5_method_20_code
def yX3_putNot : MethodName := ⟨RX3, "putNot", "(I)V"⟩
abbrev cX3_dropNot : ByteArray := prog_5_method_21_code
def yX3_dropNot : MethodName := ⟨RX3, "dropNot", "(I)V"⟩
abbrev cX3_countWishes : ByteArray := prog_5_method_23_code
def yX3_countWishes : MethodName := ⟨RX3, "countWishes", "()I"⟩
abbrev cX3_countSigns : ByteArray := prog_5_method_24_code
def yX3_countSigns : MethodName := ⟨RX3, "countSigns", "()I"⟩
def RX4 : String := "FutureWishes$Text"
def TX4 : u_T := fun k => match k with
  | 0 => ("FutureWishes$Text", "length", "I", false)
  | 1 => ("FutureWishes$Text", "characters", "[C", true)
  | 2 => ("FutureWishes$Text", "open", "I", false)
  | _ => ("FutureWishes$Text", "halfWay", "Z", false)
def tyX4 : Nat → FieldType := fun k => match k with
  | 0 => .int
  | 1 => .array .char
  | 2 => .int
  | _ => .boolean
theorem nmX4 : ∀ a, a < 4 → ∀ b, b < 4 → a ≠ b → (TX4 a).2.1 ≠ (TX4 b).2.1 := by decide +kernel
theorem tyX4_ok : ∀ k, k < 4 → parseFieldDescriptor (TX4 k).2.2.1 = some (tyX4 k) := by decide +kernel
abbrev cX4_init : ByteArray := prog_6_method_1_code
def yX4_init : MethodName := ⟨RX4, "<init>", "()V"⟩
abbrev cX4_put : ByteArray := prog_6_method_2_code
def yX4_put : MethodName := ⟨RX4, "put", "(C)V"⟩
abbrev cX4_at : ByteArray := prog_6_method_3_code
def yX4_at : MethodName := ⟨RX4, "at", "(I)C"⟩
abbrev cX4_isWish : ByteArray := prog_6_method_4_code
def yX4_isWish : MethodName := ⟨RX4, "isWish", "()Z"⟩
abbrev cX4_firstFault : ByteArray := prog_6_method_5_code
def yX4_firstFault : MethodName := ⟨RX4, "firstFault", "()I"⟩
abbrev cX4_leastRest : ByteArray := prog_6_method_6_code
def yX4_leastRest : MethodName := ⟨RX4, "leastRest", "()I"⟩
abbrev cX4_takes : ByteArray := prog_6_method_7_code
def yX4_takes : MethodName := ⟨RX4, "takes", "(C)Z"⟩
abbrev cX4_takesSecond : ByteArray := prog_6_method_8_code
def yX4_takesSecond : MethodName := ⟨RX4, "takesSecond", "(C)Z"⟩
abbrev cX4_takesFirst : ByteArray := prog_6_method_9_code
def yX4_takesFirst : MethodName := ⟨RX4, "takesFirst", "(C)Z"⟩
def RX5 : String := "FutureWishes$Trial"
def TX5 : u_T := fun k => match k with
  | 0 => ("FutureWishes$Trial", "number", "I", false)
  | 1 => ("FutureWishes$Trial", "first", "I", false)
  | 2 => ("FutureWishes$Trial", "state", "LFutureWishes$State;", true)
  | _ => ("FutureWishes$Trial", "meaning", "LFutureWishes$Meaning;", true)
def tyX5 : Nat → FieldType := fun k => match k with
  | 0 => .int
  | 1 => .int
  | 2 => .object "FutureWishes$State"
  | _ => .object "FutureWishes$Meaning"
theorem nmX5 : ∀ a, a < 4 → ∀ b, b < 4 → a ≠ b → (TX5 a).2.1 ≠ (TX5 b).2.1 := by decide +kernel
theorem tyX5_ok : ∀ k, k < 4 → parseFieldDescriptor (TX5 k).2.2.1 = some (tyX5 k) := by decide +kernel
abbrev cX5_init : ByteArray := prog_7_method_1_code
def yX5_init : MethodName := ⟨RX5, "<init>", "()V"⟩
abbrev cX5_worldsIfFair : ByteArray := prog_7_method_4_code
def yX5_worldsIfFair : MethodName := ⟨RX5, "worldsIfFair", "(LFutureWishes$State;II)I"⟩
abbrev cX5_begin : ByteArray := prog_7_method_5_code
def yX5_begin : MethodName := ⟨RX5, "begin", "(LFutureWishes$State;I)V"⟩
def RX6 : String := "FutureWishes$Witness"
def TX6 : u_T := fun k => match k with
  | 0 => ("FutureWishes$Witness", "meaning", "LFutureWishes$Meaning;", true)
  | 1 => ("FutureWishes$Witness", "futures", "LFutureWishes$Futures;", true)
  | 2 => ("FutureWishes$Witness", "row", "[I", true)
  | 3 => ("FutureWishes$Witness", "length", "I", false)
  | _ => ("FutureWishes$Witness", "layers", "[I", true)
def tyX6 : Nat → FieldType := fun k => match k with
  | 0 => .object "FutureWishes$Meaning"
  | 1 => .object "FutureWishes$Futures"
  | 2 => .array .int
  | 3 => .int
  | _ => .array .int
theorem nmX6 : ∀ a, a < 5 → ∀ b, b < 5 → a ≠ b → (TX6 a).2.1 ≠ (TX6 b).2.1 := by decide +kernel
theorem tyX6_ok : ∀ k, k < 5 → parseFieldDescriptor (TX6 k).2.2.1 = some (tyX6 k) := by decide +kernel
abbrev cX6_init : ByteArray := prog_8_method_1_code
def yX6_init : MethodName := ⟨RX6, "<init>", "(LFutureWishes$Meaning;)V"⟩
def RX7 : String := "FutureWishes"
def TX7 : u_T := fun k => match k with
  | 0 => ("FutureWishes", "state", "LFutureWishes$State;", true)
  | 1 => ("FutureWishes", "history", "LFutureWishes$History;", true)
  | 2 => ("FutureWishes", "text", "LFutureWishes$Text;", true)
  | 3 => ("FutureWishes", "meaning", "LFutureWishes$Meaning;", true)
  | 4 => ("FutureWishes", "way", "LFutureWishes$Witness;", true)
  | _ => ("FutureWishes", "trial", "LFutureWishes$Trial;", true)
def tyX7 : Nat → FieldType := fun k => match k with
  | 0 => .object "FutureWishes$State"
  | 1 => .object "FutureWishes$History"
  | 2 => .object "FutureWishes$Text"
  | 3 => .object "FutureWishes$Meaning"
  | 4 => .object "FutureWishes$Witness"
  | _ => .object "FutureWishes$Trial"
theorem nmX7 : ∀ a, a < 6 → ∀ b, b < 6 → a ≠ b → (TX7 a).2.1 ≠ (TX7 b).2.1 := by decide +kernel
theorem tyX7_ok : ∀ k, k < 6 → parseFieldDescriptor (TX7 k).2.2.1 = some (tyX7 k) := by decide +kernel
abbrev cX7_init : ByteArray := prog_1_method_1_code
def yX7_init : MethodName := ⟨RX7, "<init>", "()V"⟩
abbrev cX7_addWorld : ByteArray := prog_1_method_2_code
def yX7_addWorld : MethodName := ⟨RX7, "addWorld", "(I)I"⟩
abbrev cX7_step : ByteArray := prog_1_method_4_code
def yX7_step : MethodName := ⟨RX7, "step", "(II)I"⟩
abbrev cX7_fair : ByteArray := prog_1_method_6_code
def yX7_fair : MethodName := ⟨RX7, "fair", "(I)I"⟩
abbrev cX7_append : ByteArray := prog_1_method_8_code
def yX7_append : MethodName := ⟨RX7, "append", "(I)I"⟩
abbrev cX7_firstError : ByteArray := prog_1_method_10_code
def yX7_firstError : MethodName := ⟨RX7, "firstError", "()I"⟩
abbrev cX7_read : ByteArray := prog_1_method_11_code
def yX7_read : MethodName := ⟨RX7, "read", "(I)I"⟩
abbrev cX7_negate : ByteArray := prog_1_method_12_code
def yX7_negate : MethodName := ⟨RX7, "negate", "(I)I"⟩
abbrev cX7_undo : ByteArray := prog_1_method_14_code
def yX7_undo : MethodName := ⟨RX7, "undo", "()I"⟩
abbrev cX7_world : ByteArray := prog_1_method_15_code
def yX7_world : MethodName := ⟨RX7, "world", "(II)I"⟩
abbrev cX7_wish : ByteArray := prog_1_method_16_code
def yX7_wish : MethodName := ⟨RX7, "wish", "(II)I"⟩
abbrev cX7_sign : ByteArray := prog_1_method_17_code
def yX7_sign : MethodName := ⟨RX7, "sign", "(III)I"⟩
abbrev cX7_compare : ByteArray := prog_1_method_19_code
def yX7_compare : MethodName := ⟨RX7, "compare", "(II)I"⟩
abbrev cX7_count : ByteArray := prog_1_method_20_code
def yX7_count : MethodName := ⟨RX7, "count", "(I)I"⟩
abbrev cX7_ifFair : ByteArray := prog_1_method_22_code
def yX7_ifFair : MethodName := ⟨RX7, "ifFair", "(II)I"⟩
abbrev cX7_fulfilled : ByteArray := prog_1_method_23_code
def yX7_fulfilled : MethodName := ⟨RX7, "fulfilled", "()D"⟩
abbrev cX7_needWorld : ByteArray := prog_1_method_25_code
def yX7_needWorld : MethodName := ⟨RX7, "needWorld", "(I)V"⟩
abbrev cX7_needWish : ByteArray := prog_1_method_26_code
def yX7_needWish : MethodName := ⟨RX7, "needWish", "(I)V"⟩
abbrev cX7_needLetterOrNone : ByteArray := prog_1_method_27_code
def yX7_needLetterOrNone : MethodName := ⟨RX7, "needLetterOrNone", "(I)V"⟩
abbrev cX7_needLook : ByteArray := prog_1_method_28_code
def yX7_needLook : MethodName := ⟨RX7, "needLook", "(II)V"⟩
abbrev cX7_wishesHoldingIn : ByteArray := prog_1_method_29_code
def yX7_wishesHoldingIn : MethodName := ⟨RX7, "wishesHoldingIn", "(I)I"⟩
abbrev cX7_worldsOfAllWishes : ByteArray := prog_1_method_30_code
def yX7_worldsOfAllWishes : MethodName := ⟨RX7, "worldsOfAllWishes", "()I"⟩
def RX8 : String := "FutureWishesModel"
def TX8 : u_T := fun k => match k with
  | _ => ("", "", "", false)
def tyX8 : Nat → FieldType := fun k => match k with
  | _ => .int
theorem nmX8 : ∀ a, a < 0 → ∀ b, b < 0 → a ≠ b → (TX8 a).2.1 ≠ (TX8 b).2.1 := by decide +kernel
theorem tyX8_ok : ∀ k, k < 0 → parseFieldDescriptor (TX8 k).2.2.1 = some (tyX8 k) := by decide +kernel
def RJ6 : String := "java/lang/Integer"
def TJ6 : u_T := fun k => match k with
  | _ => ("", "", "", false)
def tyJ6 : Nat → FieldType := fun k => match k with
  | _ => .int
theorem nmJ6 : ∀ a, a < 0 → ∀ b, b < 0 → a ≠ b → (TJ6 a).2.1 ≠ (TJ6 b).2.1 := by decide +kernel
theorem tyJ6_ok : ∀ k, k < 0 → parseFieldDescriptor (TJ6 k).2.2.1 = some (tyJ6 k) := by decide +kernel
abbrev cJ6_bitCount_0f7a4 : ByteArray := prog_15_method_49_code
def yJ6_bitCount_0f7a4 : MethodName := ⟨RJ6, "bitCount", "(I)I"⟩
def RJ9 : String := "java/lang/Math"
def TJ9 : u_T := fun k => match k with
  | _ => ("", "", "", false)
def tyJ9 : Nat → FieldType := fun k => match k with
  | _ => .int
theorem nmJ9 : ∀ a, a < 0 → ∀ b, b < 0 → a ≠ b → (TJ9 a).2.1 ≠ (TJ9 b).2.1 := by decide +kernel
theorem tyJ9_ok : ∀ k, k < 0 → parseFieldDescriptor (TJ9 k).2.2.1 = some (tyJ9 k) := by decide +kernel
abbrev cJ9_max_7cf53 : ByteArray := prog_16_method_65_code
def yJ9_max_7cf53 : MethodName := ⟨RJ9, "max", "(II)I"⟩
def RJ0 : String := "java/lang/String"
def TJ0 : u_T := fun k => match k with
  | _ => ("", "", "", false)
def tyJ0 : Nat → FieldType := fun k => match k with
  | _ => .int
theorem nmJ0 : ∀ a, a < 0 → ∀ b, b < 0 → a ≠ b → (TJ0 a).2.1 ≠ (TJ0 b).2.1 := by decide +kernel
theorem tyJ0_ok : ∀ k, k < 0 → parseFieldDescriptor (TJ0 k).2.2.1 = some (tyJ0 k) := by decide +kernel
def RJ10 : String := "java/lang/System"
def TJ10 : u_T := fun k => match k with
  | _ => ("", "", "", false)
def tyJ10 : Nat → FieldType := fun k => match k with
  | _ => .int
theorem nmJ10 : ∀ a, a < 0 → ∀ b, b < 0 → a ≠ b → (TJ10 a).2.1 ≠ (TJ10 b).2.1 := by decide +kernel
theorem tyJ10_ok : ∀ k, k < 0 → parseFieldDescriptor (TJ10 k).2.2.1 = some (tyJ10 k) := by decide +kernel
def RL : String := "FutureWishesLaw"
abbrev cL_cell : ByteArray := method_2_code
def yL_cell : MethodName := ⟨RL, "cell", "([II)I"⟩
abbrev cL_low : ByteArray := method_3_code
def yL_low : MethodName := ⟨RL, "low", "(II)I"⟩
abbrev cL_sign : ByteArray := method_4_code
def yL_sign : MethodName := ⟨RL, "sign", "(III)I"⟩
abbrev cL_way : ByteArray := method_5_code
def yL_way : MethodName := ⟨RL, "way", "(III)I"⟩
abbrev cL_write : ByteArray := method_6_code
def yL_write : MethodName := ⟨RL, "write", "(LFutureWishes;[III)I"⟩
abbrev cL_build : ByteArray := method_7_code
def yL_build : MethodName := ⟨RL, "build", "(LFutureWishes;[II)I"⟩
abbrev cL_into : ByteArray := method_8_code
def yL_into : MethodName := ⟨RL, "into", "(LFutureWishes;I)I"⟩
abbrev cL_reached : ByteArray := method_9_code
def yL_reached : MethodName := ⟨RL, "reached", "(LFutureWishes;II)I"⟩
abbrev cL_stays : ByteArray := method_10_code
def yL_stays : MethodName := ⟨RL, "stays", "(LFutureWishes;I)I"⟩
abbrev cL_comes : ByteArray := method_11_code
def yL_comes : MethodName := ⟨RL, "comes", "(LFutureWishes;III)I"⟩
abbrev cL_due : ByteArray := method_12_code
def yL_due : MethodName := ⟨RL, "due", "(LFutureWishes;IIIII)I"⟩
abbrev cL_isPart : ByteArray := method_13_code
def yL_isPart : MethodName := ⟨RL, "isPart", "(LFutureWishes;III)Z"⟩
abbrev cL_isWish : ByteArray := method_14_code
def yL_isWish : MethodName := ⟨RL, "isWish", "(LFutureWishes;II)Z"⟩
abbrev cL_law : ByteArray := code
def yL_law : MethodName := ⟨RL, "law", "([I)Z"⟩
abbrev vwCl : List vw_C := [(RX0, TX0, 5), (RX1, TX1, 3), (RX2, TX2, 8), (RX3, TX3, 6), (RX4, TX4, 4), (RX5, TX5, 4), (RX6, TX6, 5), (RX7, TX7, 6)]
end
section
theorem dX0_init_0 : decode cX0_init 0 = .ok (.aload_n 0, 1) := by decide +kernel
theorem dX0_init_1 : decode cX0_init 1 = .ok (.invokespecial 3, 3) := by decide +kernel
theorem dX0_init_4 : decode cX0_init 4 = .ok (.aload_n 0, 1) := by decide +kernel
theorem dX0_init_5 : decode cX0_init 5 = .ok (.iconst 0, 1) := by decide +kernel
theorem dX0_init_6 : decode cX0_init 6 = .ok (.putfield 9, 3) := by decide +kernel
theorem dX0_init_9 : decode cX0_init 9 = .ok (.aload_n 0, 1) := by decide +kernel
theorem dX0_init_10 : decode cX0_init 10 = .ok (.iconst 0, 1) := by decide +kernel
theorem dX0_init_11 : decode cX0_init 11 = .ok (.putfield 15, 3) := by decide +kernel
theorem dX0_init_14 : decode cX0_init 14 = .ok (.aload_n 0, 1) := by decide +kernel
theorem dX0_init_15 : decode cX0_init 15 = .ok (.iconst 0, 1) := by decide +kernel
theorem dX0_init_16 : decode cX0_init 16 = .ok (.putfield 18, 3) := by decide +kernel
theorem dX0_init_19 : decode cX0_init 19 = .ok (.aload_n 0, 1) := by decide +kernel
theorem dX0_init_20 : decode cX0_init 20 = .ok (.iconst 0, 1) := by decide +kernel
theorem dX0_init_21 : decode cX0_init 21 = .ok (.putfield 21, 3) := by decide +kernel
theorem dX0_init_24 : decode cX0_init 24 = .ok (.aload_n 0, 1) := by decide +kernel
theorem dX0_init_25 : decode cX0_init 25 = .ok (.aload_n 1, 1) := by decide +kernel
theorem dX0_init_26 : decode cX0_init 26 = .ok (.putfield 24, 3) := by decide +kernel
theorem dX0_init_29 : decode cX0_init 29 = .ok (.return_, 1) := by decide +kernel
theorem dX0_look_0 : decode cX0_look 0 = .ok (.aload_n 0, 1) := by decide +kernel
theorem dX0_look_1 : decode cX0_look 1 = .ok (.aload_n 0, 1) := by decide +kernel
theorem dX0_look_2 : decode cX0_look 2 = .ok (.getfield 24, 3) := by decide +kernel
theorem dX0_look_5 : decode cX0_look 5 = .ok (.invokevirtual 28, 3) := by decide +kernel
theorem dX0_look_8 : decode cX0_look 8 = .ok (.putfield 9, 3) := by decide +kernel
theorem dX0_look_11 : decode cX0_look 11 = .ok (.aload_n 0, 1) := by decide +kernel
theorem dX0_look_12 : decode cX0_look 12 = .ok (.aload_n 0, 1) := by decide +kernel
theorem dX0_look_13 : decode cX0_look 13 = .ok (.getfield 24, 3) := by decide +kernel
theorem dX0_look_16 : decode cX0_look 16 = .ok (.getfield 34, 3) := by decide +kernel
theorem dX0_look_19 : decode cX0_look 19 = .ok (.iconst (-1), 1) := by decide +kernel
theorem dX0_look_20 : decode cX0_look 20 = .ok (.if_icmp .ne 10, 3) := by decide +kernel
theorem dX0_look_23 : decode cX0_look 23 = .ok (.aload_n 0, 1) := by decide +kernel
theorem dX0_look_24 : decode cX0_look 24 = .ok (.getfield 9, 3) := by decide +kernel
theorem dX0_look_27 : decode cX0_look 27 = .ok (.goto 17, 3) := by decide +kernel
theorem dX0_look_30 : decode cX0_look 30 = .ok (.aload_n 0, 1) := by decide +kernel
theorem dX0_look_31 : decode cX0_look 31 = .ok (.getfield 24, 3) := by decide +kernel
theorem dX0_look_34 : decode cX0_look 34 = .ok (.aload_n 0, 1) := by decide +kernel
theorem dX0_look_35 : decode cX0_look 35 = .ok (.getfield 24, 3) := by decide +kernel
theorem dX0_look_38 : decode cX0_look 38 = .ok (.getfield 34, 3) := by decide +kernel
theorem dX0_look_41 : decode cX0_look 41 = .ok (.invokevirtual 37, 3) := by decide +kernel
theorem dX0_look_44 : decode cX0_look 44 = .ok (.putfield 21, 3) := by decide +kernel
theorem dX0_look_47 : decode cX0_look 47 = .ok (.aload_n 0, 1) := by decide +kernel
theorem dX0_look_48 : decode cX0_look 48 = .ok (.aload_n 0, 1) := by decide +kernel
theorem dX0_look_49 : decode cX0_look 49 = .ok (.aload_n 0, 1) := by decide +kernel
theorem dX0_look_50 : decode cX0_look 50 = .ok (.getfield 9, 3) := by decide +kernel
theorem dX0_look_53 : decode cX0_look 53 = .ok (.invokevirtual 41, 3) := by decide +kernel
theorem dX0_look_56 : decode cX0_look 56 = .ok (.putfield 15, 3) := by decide +kernel
theorem dX0_look_59 : decode cX0_look 59 = .ok (.return_, 1) := by decide +kernel
theorem dX0_onSomeWay_0 : decode cX0_onSomeWay 0 = .ok (.iload_n 1, 1) := by decide +kernel
theorem dX0_onSomeWay_1 : decode cX0_onSomeWay 1 = .ok (.lookupswitch 65 #[(70, 49), (71, 59), (88, 35)], 35) := by decide +kernel
theorem dX0_onSomeWay_36 : decode cX0_onSomeWay 36 = .ok (.aload_n 0, 1) := by decide +kernel
theorem dX0_onSomeWay_37 : decode cX0_onSomeWay 37 = .ok (.getfield 24, 3) := by decide +kernel
theorem dX0_onSomeWay_40 : decode cX0_onSomeWay 40 = .ok (.iload_n 2, 1) := by decide +kernel
theorem dX0_onSomeWay_41 : decode cX0_onSomeWay 41 = .ok (.aload_n 0, 1) := by decide +kernel
theorem dX0_onSomeWay_42 : decode cX0_onSomeWay 42 = .ok (.getfield 15, 3) := by decide +kernel
theorem dX0_onSomeWay_45 : decode cX0_onSomeWay 45 = .ok (.iand, 1) := by decide +kernel
theorem dX0_onSomeWay_46 : decode cX0_onSomeWay 46 = .ok (.invokevirtual 44, 3) := by decide +kernel
theorem dX0_onSomeWay_49 : decode cX0_onSomeWay 49 = .ok (.ireturn, 1) := by decide +kernel
theorem dX0_onSomeWay_50 : decode cX0_onSomeWay 50 = .ok (.aload_n 0, 1) := by decide +kernel
theorem dX0_onSomeWay_51 : decode cX0_onSomeWay 51 = .ok (.aload_n 0, 1) := by decide +kernel
theorem dX0_onSomeWay_52 : decode cX0_onSomeWay 52 = .ok (.getfield 9, 3) := by decide +kernel
theorem dX0_onSomeWay_55 : decode cX0_onSomeWay 55 = .ok (.iload_n 2, 1) := by decide +kernel
theorem dX0_onSomeWay_56 : decode cX0_onSomeWay 56 = .ok (.invokevirtual 47, 3) := by decide +kernel
theorem dX0_onSomeWay_59 : decode cX0_onSomeWay 59 = .ok (.ireturn, 1) := by decide +kernel
theorem dX0_onSomeWay_60 : decode cX0_onSomeWay 60 = .ok (.aload_n 0, 1) := by decide +kernel
theorem dX0_onSomeWay_61 : decode cX0_onSomeWay 61 = .ok (.iload_n 2, 1) := by decide +kernel
theorem dX0_onSomeWay_62 : decode cX0_onSomeWay 62 = .ok (.invokevirtual 41, 3) := by decide +kernel
theorem dX0_onSomeWay_65 : decode cX0_onSomeWay 65 = .ok (.ireturn, 1) := by decide +kernel
theorem dX0_onSomeWay_66 : decode cX0_onSomeWay 66 = .ok (.aload_n 0, 1) := by decide +kernel
theorem dX0_onSomeWay_67 : decode cX0_onSomeWay 67 = .ok (.iload_n 2, 1) := by decide +kernel
theorem dX0_onSomeWay_68 : decode cX0_onSomeWay 68 = .ok (.iload_n 3, 1) := by decide +kernel
theorem dX0_onSomeWay_69 : decode cX0_onSomeWay 69 = .ok (.invokevirtual 47, 3) := by decide +kernel
theorem dX0_onSomeWay_72 : decode cX0_onSomeWay 72 = .ok (.ireturn, 1) := by decide +kernel
theorem dX0_onSomeWayNot_0 : decode cX0_onSomeWayNot 0 = .ok (.aload_n 0, 1) := by decide +kernel
theorem dX0_onSomeWayNot_1 : decode cX0_onSomeWayNot 1 = .ok (.getfield 9, 3) := by decide +kernel
theorem dX0_onSomeWayNot_4 : decode cX0_onSomeWayNot 4 = .ok (.iload_n 2, 1) := by decide +kernel
theorem dX0_onSomeWayNot_5 : decode cX0_onSomeWayNot 5 = .ok (.iconst (-1), 1) := by decide +kernel
theorem dX0_onSomeWayNot_6 : decode cX0_onSomeWayNot 6 = .ok (.ixor, 1) := by decide +kernel
theorem dX0_onSomeWayNot_7 : decode cX0_onSomeWayNot 7 = .ok (.iand, 1) := by decide +kernel
theorem dX0_onSomeWayNot_8 : decode cX0_onSomeWayNot 8 = .ok (.istore 4, 2) := by decide +kernel
theorem dX0_onSomeWayNot_10 : decode cX0_onSomeWayNot 10 = .ok (.aload_n 0, 1) := by decide +kernel
theorem dX0_onSomeWayNot_11 : decode cX0_onSomeWayNot 11 = .ok (.getfield 9, 3) := by decide +kernel
theorem dX0_onSomeWayNot_14 : decode cX0_onSomeWayNot 14 = .ok (.iload_n 3, 1) := by decide +kernel
theorem dX0_onSomeWayNot_15 : decode cX0_onSomeWayNot 15 = .ok (.iconst (-1), 1) := by decide +kernel
theorem dX0_onSomeWayNot_16 : decode cX0_onSomeWayNot 16 = .ok (.ixor, 1) := by decide +kernel
theorem dX0_onSomeWayNot_17 : decode cX0_onSomeWayNot 17 = .ok (.iand, 1) := by decide +kernel
theorem dX0_onSomeWayNot_18 : decode cX0_onSomeWayNot 18 = .ok (.istore 5, 2) := by decide +kernel
theorem dX0_onSomeWayNot_20 : decode cX0_onSomeWayNot 20 = .ok (.iload_n 1, 1) := by decide +kernel
theorem dX0_onSomeWayNot_21 : decode cX0_onSomeWayNot 21 = .ok (.lookupswitch 68 #[(70, 50), (71, 57), (88, 35)], 35) := by decide +kernel
theorem dX0_onSomeWayNot_56 : decode cX0_onSomeWayNot 56 = .ok (.aload_n 0, 1) := by decide +kernel
theorem dX0_onSomeWayNot_57 : decode cX0_onSomeWayNot 57 = .ok (.getfield 24, 3) := by decide +kernel
theorem dX0_onSomeWayNot_60 : decode cX0_onSomeWayNot 60 = .ok (.iload 4, 2) := by decide +kernel
theorem dX0_onSomeWayNot_62 : decode cX0_onSomeWayNot 62 = .ok (.aload_n 0, 1) := by decide +kernel
theorem dX0_onSomeWayNot_63 : decode cX0_onSomeWayNot 63 = .ok (.getfield 15, 3) := by decide +kernel
theorem dX0_onSomeWayNot_66 : decode cX0_onSomeWayNot 66 = .ok (.iand, 1) := by decide +kernel
theorem dX0_onSomeWayNot_67 : decode cX0_onSomeWayNot 67 = .ok (.invokevirtual 44, 3) := by decide +kernel
theorem dX0_onSomeWayNot_70 : decode cX0_onSomeWayNot 70 = .ok (.ireturn, 1) := by decide +kernel
theorem dX0_onSomeWayNot_71 : decode cX0_onSomeWayNot 71 = .ok (.aload_n 0, 1) := by decide +kernel
theorem dX0_onSomeWayNot_72 : decode cX0_onSomeWayNot 72 = .ok (.iload 4, 2) := by decide +kernel
theorem dX0_onSomeWayNot_74 : decode cX0_onSomeWayNot 74 = .ok (.invokevirtual 41, 3) := by decide +kernel
theorem dX0_onSomeWayNot_77 : decode cX0_onSomeWayNot 77 = .ok (.ireturn, 1) := by decide +kernel
theorem dX0_onSomeWayNot_78 : decode cX0_onSomeWayNot 78 = .ok (.aload_n 0, 1) := by decide +kernel
theorem dX0_onSomeWayNot_79 : decode cX0_onSomeWayNot 79 = .ok (.aload_n 0, 1) := by decide +kernel
theorem dX0_onSomeWayNot_80 : decode cX0_onSomeWayNot 80 = .ok (.getfield 9, 3) := by decide +kernel
theorem dX0_onSomeWayNot_83 : decode cX0_onSomeWayNot 83 = .ok (.iload 4, 2) := by decide +kernel
theorem dX0_onSomeWayNot_85 : decode cX0_onSomeWayNot 85 = .ok (.invokevirtual 47, 3) := by decide +kernel
theorem dX0_onSomeWayNot_88 : decode cX0_onSomeWayNot 88 = .ok (.ireturn, 1) := by decide +kernel
theorem dX0_onSomeWayNot_89 : decode cX0_onSomeWayNot 89 = .ok (.aload_n 0, 1) := by decide +kernel
theorem dX0_onSomeWayNot_90 : decode cX0_onSomeWayNot 90 = .ok (.iload 5, 2) := by decide +kernel
theorem dX0_onSomeWayNot_92 : decode cX0_onSomeWayNot 92 = .ok (.iload 5, 2) := by decide +kernel
theorem dX0_onSomeWayNot_94 : decode cX0_onSomeWayNot 94 = .ok (.iload 4, 2) := by decide +kernel
theorem dX0_onSomeWayNot_96 : decode cX0_onSomeWayNot 96 = .ok (.iand, 1) := by decide +kernel
theorem dX0_onSomeWayNot_97 : decode cX0_onSomeWayNot 97 = .ok (.invokevirtual 47, 3) := by decide +kernel
theorem dX0_onSomeWayNot_100 : decode cX0_onSomeWayNot 100 = .ok (.aload_n 0, 1) := by decide +kernel
theorem dX0_onSomeWayNot_101 : decode cX0_onSomeWayNot 101 = .ok (.iload 5, 2) := by decide +kernel
theorem dX0_onSomeWayNot_103 : decode cX0_onSomeWayNot 103 = .ok (.invokevirtual 41, 3) := by decide +kernel
theorem dX0_onSomeWayNot_106 : decode cX0_onSomeWayNot 106 = .ok (.ior, 1) := by decide +kernel
theorem dX0_onSomeWayNot_107 : decode cX0_onSomeWayNot 107 = .ok (.ireturn, 1) := by decide +kernel
theorem dX0_until_0 : decode cX0_until 0 = .ok (.iload_n 2, 1) := by decide +kernel
theorem dX0_until_1 : decode cX0_until 1 = .ok (.aload_n 0, 1) := by decide +kernel
theorem dX0_until_2 : decode cX0_until 2 = .ok (.getfield 15, 3) := by decide +kernel
theorem dX0_until_5 : decode cX0_until 5 = .ok (.iand, 1) := by decide +kernel
theorem dX0_until_6 : decode cX0_until 6 = .ok (.istore_n 3, 1) := by decide +kernel
theorem dX0_until_7 : decode cX0_until 7 = .ok (.iconst 0, 1) := by decide +kernel
theorem dX0_until_8 : decode cX0_until 8 = .ok (.istore 4, 2) := by decide +kernel
theorem dX0_until_10 : decode cX0_until 10 = .ok (.iload 4, 2) := by decide +kernel
theorem dX0_until_12 : decode cX0_until 12 = .ok (.bipush 10, 2) := by decide +kernel
theorem dX0_until_14 : decode cX0_until 14 = .ok (.if_icmp .gt 44, 3) := by decide +kernel
theorem dX0_until_17 : decode cX0_until 17 = .ok (.iload_n 3, 1) := by decide +kernel
theorem dX0_until_18 : decode cX0_until 18 = .ok (.iload_n 1, 1) := by decide +kernel
theorem dX0_until_19 : decode cX0_until 19 = .ok (.aload_n 0, 1) := by decide +kernel
theorem dX0_until_20 : decode cX0_until 20 = .ok (.getfield 24, 3) := by decide +kernel
theorem dX0_until_23 : decode cX0_until 23 = .ok (.iload_n 3, 1) := by decide +kernel
theorem dX0_until_24 : decode cX0_until 24 = .ok (.invokevirtual 44, 3) := by decide +kernel
theorem dX0_until_27 : decode cX0_until 27 = .ok (.iand, 1) := by decide +kernel
theorem dX0_until_28 : decode cX0_until 28 = .ok (.ior, 1) := by decide +kernel
theorem dX0_until_29 : decode cX0_until 29 = .ok (.istore 5, 2) := by decide +kernel
theorem dX0_until_31 : decode cX0_until 31 = .ok (.iload 5, 2) := by decide +kernel
theorem dX0_until_33 : decode cX0_until 33 = .ok (.iload_n 3, 1) := by decide +kernel
theorem dX0_until_34 : decode cX0_until 34 = .ok (.if_icmp .ne 5, 3) := by decide +kernel
theorem dX0_until_37 : decode cX0_until 37 = .ok (.iload_n 3, 1) := by decide +kernel
theorem dX0_until_38 : decode cX0_until 38 = .ok (.ireturn, 1) := by decide +kernel
theorem dX0_until_39 : decode cX0_until 39 = .ok (.iload 5, 2) := by decide +kernel
theorem dX0_until_41 : decode cX0_until 41 = .ok (.istore_n 3, 1) := by decide +kernel
theorem dX0_until_42 : decode cX0_until 42 = .ok (.aload_n 0, 1) := by decide +kernel
theorem dX0_until_43 : decode cX0_until 43 = .ok (.dup, 1) := by decide +kernel
theorem dX0_until_44 : decode cX0_until 44 = .ok (.getfield 18, 3) := by decide +kernel
theorem dX0_until_47 : decode cX0_until 47 = .ok (.iconst 1, 1) := by decide +kernel
theorem dX0_until_48 : decode cX0_until 48 = .ok (.iadd, 1) := by decide +kernel
theorem dX0_until_49 : decode cX0_until 49 = .ok (.putfield 18, 3) := by decide +kernel
theorem dX0_until_52 : decode cX0_until 52 = .ok (.iinc 4 1, 3) := by decide +kernel
theorem dX0_until_55 : decode cX0_until 55 = .ok (.goto (-45), 3) := by decide +kernel
theorem dX0_until_58 : decode cX0_until 58 = .ok (.iload_n 3, 1) := by decide +kernel
theorem dX0_until_59 : decode cX0_until 59 = .ok (.ireturn, 1) := by decide +kernel
theorem dX0_always_0 : decode cX0_always 0 = .ok (.iload_n 1, 1) := by decide +kernel
theorem dX0_always_1 : decode cX0_always 1 = .ok (.istore_n 2, 1) := by decide +kernel
theorem dX0_always_2 : decode cX0_always 2 = .ok (.iconst 0, 1) := by decide +kernel
theorem dX0_always_3 : decode cX0_always 3 = .ok (.istore_n 3, 1) := by decide +kernel
theorem dX0_always_4 : decode cX0_always 4 = .ok (.iload_n 3, 1) := by decide +kernel
theorem dX0_always_5 : decode cX0_always 5 = .ok (.bipush 10, 2) := by decide +kernel
theorem dX0_always_7 : decode cX0_always 7 = .ok (.if_icmp .gt 87, 3) := by decide +kernel
theorem dX0_always_10 : decode cX0_always 10 = .ok (.iload_n 2, 1) := by decide +kernel
theorem dX0_always_11 : decode cX0_always 11 = .ok (.aload_n 0, 1) := by decide +kernel
theorem dX0_always_12 : decode cX0_always 12 = .ok (.getfield 21, 3) := by decide +kernel
theorem dX0_always_15 : decode cX0_always 15 = .ok (.iand, 1) := by decide +kernel
theorem dX0_always_16 : decode cX0_always 16 = .ok (.istore 4, 2) := by decide +kernel
theorem dX0_always_18 : decode cX0_always 18 = .ok (.iconst 0, 1) := by decide +kernel
theorem dX0_always_19 : decode cX0_always 19 = .ok (.istore 5, 2) := by decide +kernel
theorem dX0_always_21 : decode cX0_always 21 = .ok (.iconst (-1), 1) := by decide +kernel
theorem dX0_always_22 : decode cX0_always 22 = .ok (.istore 6, 2) := by decide +kernel
theorem dX0_always_24 : decode cX0_always 24 = .ok (.iconst 0, 1) := by decide +kernel
theorem dX0_always_25 : decode cX0_always 25 = .ok (.istore 7, 2) := by decide +kernel
theorem dX0_always_27 : decode cX0_always 27 = .ok (.iload 7, 2) := by decide +kernel
theorem dX0_always_29 : decode cX0_always 29 = .ok (.bipush 10, 2) := by decide +kernel
theorem dX0_always_31 : decode cX0_always 31 = .ok (.if_icmp .gt 36, 3) := by decide +kernel
theorem dX0_always_34 : decode cX0_always 34 = .ok (.iload 5, 2) := by decide +kernel
theorem dX0_always_36 : decode cX0_always 36 = .ok (.iload 6, 2) := by decide +kernel
theorem dX0_always_38 : decode cX0_always 38 = .ok (.if_icmp .eq 29, 3) := by decide +kernel
theorem dX0_always_41 : decode cX0_always 41 = .ok (.iload 5, 2) := by decide +kernel
theorem dX0_always_43 : decode cX0_always 43 = .ok (.istore 6, 2) := by decide +kernel
theorem dX0_always_45 : decode cX0_always 45 = .ok (.iload_n 2, 1) := by decide +kernel
theorem dX0_always_46 : decode cX0_always 46 = .ok (.aload_n 0, 1) := by decide +kernel
theorem dX0_always_47 : decode cX0_always 47 = .ok (.getfield 24, 3) := by decide +kernel
theorem dX0_always_50 : decode cX0_always 50 = .ok (.iload 4, 2) := by decide +kernel
theorem dX0_always_52 : decode cX0_always 52 = .ok (.iload 5, 2) := by decide +kernel
theorem dX0_always_54 : decode cX0_always 54 = .ok (.ior, 1) := by decide +kernel
theorem dX0_always_55 : decode cX0_always 55 = .ok (.invokevirtual 44, 3) := by decide +kernel
theorem dX0_always_58 : decode cX0_always 58 = .ok (.iand, 1) := by decide +kernel
theorem dX0_always_59 : decode cX0_always 59 = .ok (.istore 5, 2) := by decide +kernel
theorem dX0_always_61 : decode cX0_always 61 = .ok (.iinc 7 1, 3) := by decide +kernel
theorem dX0_always_64 : decode cX0_always 64 = .ok (.goto (-37), 3) := by decide +kernel
theorem dX0_always_67 : decode cX0_always 67 = .ok (.iload 5, 2) := by decide +kernel
theorem dX0_always_69 : decode cX0_always 69 = .ok (.iload_n 2, 1) := by decide +kernel
theorem dX0_always_70 : decode cX0_always 70 = .ok (.if_icmp .ne 5, 3) := by decide +kernel
theorem dX0_always_73 : decode cX0_always 73 = .ok (.iload_n 2, 1) := by decide +kernel
theorem dX0_always_74 : decode cX0_always 74 = .ok (.ireturn, 1) := by decide +kernel
theorem dX0_always_75 : decode cX0_always 75 = .ok (.iload 5, 2) := by decide +kernel
theorem dX0_always_77 : decode cX0_always 77 = .ok (.istore_n 2, 1) := by decide +kernel
theorem dX0_always_78 : decode cX0_always 78 = .ok (.aload_n 0, 1) := by decide +kernel
theorem dX0_always_79 : decode cX0_always 79 = .ok (.dup, 1) := by decide +kernel
theorem dX0_always_80 : decode cX0_always 80 = .ok (.getfield 18, 3) := by decide +kernel
theorem dX0_always_83 : decode cX0_always 83 = .ok (.iconst 1, 1) := by decide +kernel
theorem dX0_always_84 : decode cX0_always 84 = .ok (.iadd, 1) := by decide +kernel
theorem dX0_always_85 : decode cX0_always 85 = .ok (.putfield 18, 3) := by decide +kernel
theorem dX0_always_88 : decode cX0_always 88 = .ok (.iinc 3 1, 3) := by decide +kernel
theorem dX0_always_91 : decode cX0_always 91 = .ok (.goto (-87), 3) := by decide +kernel
theorem dX0_always_94 : decode cX0_always 94 = .ok (.iload_n 2, 1) := by decide +kernel
theorem dX0_always_95 : decode cX0_always 95 = .ok (.ireturn, 1) := by decide +kernel
theorem dX1_init_0 : decode cX1_init 0 = .ok (.aload_n 0, 1) := by decide +kernel
theorem dX1_init_1 : decode cX1_init 1 = .ok (.invokespecial 3, 3) := by decide +kernel
theorem dX1_init_4 : decode cX1_init 4 = .ok (.aload_n 0, 1) := by decide +kernel
theorem dX1_init_5 : decode cX1_init 5 = .ok (.iconst 0, 1) := by decide +kernel
theorem dX1_init_6 : decode cX1_init 6 = .ok (.putfield 9, 3) := by decide +kernel
theorem dX1_init_9 : decode cX1_init 9 = .ok (.aload_n 0, 1) := by decide +kernel
theorem dX1_init_10 : decode cX1_init 10 = .ok (.iconst 0, 1) := by decide +kernel
theorem dX1_init_11 : decode cX1_init 11 = .ok (.putfield 15, 3) := by decide +kernel
theorem dX1_init_14 : decode cX1_init 14 = .ok (.aload_n 0, 1) := by decide +kernel
theorem dX1_init_15 : decode cX1_init 15 = .ok (.bipush 6, 2) := by decide +kernel
theorem dX1_init_17 : decode cX1_init 17 = .ok (.anewarray 18, 3) := by decide +kernel
theorem dX1_init_20 : decode cX1_init 20 = .ok (.putfield 20, 3) := by decide +kernel
theorem dX1_init_23 : decode cX1_init 23 = .ok (.iconst 0, 1) := by decide +kernel
theorem dX1_init_24 : decode cX1_init 24 = .ok (.istore_n 1, 1) := by decide +kernel
theorem dX1_init_25 : decode cX1_init 25 = .ok (.iload_n 1, 1) := by decide +kernel
theorem dX1_init_26 : decode cX1_init 26 = .ok (.bipush 6, 2) := by decide +kernel
theorem dX1_init_28 : decode cX1_init 28 = .ok (.if_icmp .ge 22, 3) := by decide +kernel
theorem dX1_init_31 : decode cX1_init 31 = .ok (.aload_n 0, 1) := by decide +kernel
theorem dX1_init_32 : decode cX1_init 32 = .ok (.getfield 20, 3) := by decide +kernel
theorem dX1_init_35 : decode cX1_init 35 = .ok (.iload_n 1, 1) := by decide +kernel
theorem dX1_init_36 : decode cX1_init 36 = .ok (.new 18, 3) := by decide +kernel
theorem dX1_init_39 : decode cX1_init 39 = .ok (.dup, 1) := by decide +kernel
theorem dX1_init_40 : decode cX1_init 40 = .ok (.invokespecial 24, 3) := by decide +kernel
theorem dX1_init_43 : decode cX1_init 43 = .ok (.aastore, 1) := by decide +kernel
theorem dX1_init_44 : decode cX1_init 44 = .ok (.iinc 1 1, 3) := by decide +kernel
theorem dX1_init_47 : decode cX1_init 47 = .ok (.goto (-22), 3) := by decide +kernel
theorem dX1_init_50 : decode cX1_init 50 = .ok (.return_, 1) := by decide +kernel
theorem dX1_save_0 : decode cX1_save 0 = .ok (.aload_n 0, 1) := by decide +kernel
theorem dX1_save_1 : decode cX1_save 1 = .ok (.getfield 9, 3) := by decide +kernel
theorem dX1_save_4 : decode cX1_save 4 = .ok (.bipush 6, 2) := by decide +kernel
theorem dX1_save_6 : decode cX1_save 6 = .ok (.if_icmp .ne 26, 3) := by decide +kernel
theorem dX1_save_9 : decode cX1_save 9 = .ok (.aload_n 0, 1) := by decide +kernel
theorem dX1_save_10 : decode cX1_save 10 = .ok (.aload_n 0, 1) := by decide +kernel
theorem dX1_save_11 : decode cX1_save 11 = .ok (.getfield 15, 3) := by decide +kernel
theorem dX1_save_14 : decode cX1_save 14 = .ok (.iconst 1, 1) := by decide +kernel
theorem dX1_save_15 : decode cX1_save 15 = .ok (.iadd, 1) := by decide +kernel
theorem dX1_save_16 : decode cX1_save 16 = .ok (.bipush 6, 2) := by decide +kernel
theorem dX1_save_18 : decode cX1_save 18 = .ok (.irem, 1) := by decide +kernel
theorem dX1_save_19 : decode cX1_save 19 = .ok (.putfield 15, 3) := by decide +kernel
theorem dX1_save_22 : decode cX1_save 22 = .ok (.aload_n 0, 1) := by decide +kernel
theorem dX1_save_23 : decode cX1_save 23 = .ok (.dup, 1) := by decide +kernel
theorem dX1_save_24 : decode cX1_save 24 = .ok (.getfield 9, 3) := by decide +kernel
theorem dX1_save_27 : decode cX1_save 27 = .ok (.iconst 1, 1) := by decide +kernel
theorem dX1_save_28 : decode cX1_save 28 = .ok (.isub, 1) := by decide +kernel
theorem dX1_save_29 : decode cX1_save 29 = .ok (.putfield 9, 3) := by decide +kernel
theorem dX1_save_32 : decode cX1_save 32 = .ok (.aload_n 0, 1) := by decide +kernel
theorem dX1_save_33 : decode cX1_save 33 = .ok (.getfield 20, 3) := by decide +kernel
theorem dX1_save_36 : decode cX1_save 36 = .ok (.aload_n 0, 1) := by decide +kernel
theorem dX1_save_37 : decode cX1_save 37 = .ok (.getfield 15, 3) := by decide +kernel
theorem dX1_save_40 : decode cX1_save 40 = .ok (.aload_n 0, 1) := by decide +kernel
theorem dX1_save_41 : decode cX1_save 41 = .ok (.getfield 9, 3) := by decide +kernel
theorem dX1_save_44 : decode cX1_save 44 = .ok (.iadd, 1) := by decide +kernel
theorem dX1_save_45 : decode cX1_save 45 = .ok (.bipush 6, 2) := by decide +kernel
theorem dX1_save_47 : decode cX1_save 47 = .ok (.irem, 1) := by decide +kernel
theorem dX1_save_48 : decode cX1_save 48 = .ok (.aaload, 1) := by decide +kernel
theorem dX1_save_49 : decode cX1_save 49 = .ok (.aload_n 1, 1) := by decide +kernel
theorem dX1_save_50 : decode cX1_save 50 = .ok (.invokevirtual 25, 3) := by decide +kernel
theorem dX1_save_53 : decode cX1_save 53 = .ok (.aload_n 0, 1) := by decide +kernel
theorem dX1_save_54 : decode cX1_save 54 = .ok (.dup, 1) := by decide +kernel
theorem dX1_save_55 : decode cX1_save 55 = .ok (.getfield 9, 3) := by decide +kernel
theorem dX1_save_58 : decode cX1_save 58 = .ok (.iconst 1, 1) := by decide +kernel
theorem dX1_save_59 : decode cX1_save 59 = .ok (.iadd, 1) := by decide +kernel
theorem dX1_save_60 : decode cX1_save 60 = .ok (.putfield 9, 3) := by decide +kernel
theorem dX1_save_63 : decode cX1_save 63 = .ok (.return_, 1) := by decide +kernel
theorem dX1_restore_0 : decode cX1_restore 0 = .ok (.aload_n 0, 1) := by decide +kernel
theorem dX1_restore_1 : decode cX1_restore 1 = .ok (.getfield 9, 3) := by decide +kernel
theorem dX1_restore_4 : decode cX1_restore 4 = .ok (.ifCond .le 34, 3) := by decide +kernel
theorem dX1_restore_7 : decode cX1_restore 7 = .ok (.aload_n 0, 1) := by decide +kernel
theorem dX1_restore_8 : decode cX1_restore 8 = .ok (.dup, 1) := by decide +kernel
theorem dX1_restore_9 : decode cX1_restore 9 = .ok (.getfield 9, 3) := by decide +kernel
theorem dX1_restore_12 : decode cX1_restore 12 = .ok (.iconst 1, 1) := by decide +kernel
theorem dX1_restore_13 : decode cX1_restore 13 = .ok (.isub, 1) := by decide +kernel
theorem dX1_restore_14 : decode cX1_restore 14 = .ok (.putfield 9, 3) := by decide +kernel
theorem dX1_restore_17 : decode cX1_restore 17 = .ok (.aload_n 1, 1) := by decide +kernel
theorem dX1_restore_18 : decode cX1_restore 18 = .ok (.aload_n 0, 1) := by decide +kernel
theorem dX1_restore_19 : decode cX1_restore 19 = .ok (.getfield 20, 3) := by decide +kernel
theorem dX1_restore_22 : decode cX1_restore 22 = .ok (.aload_n 0, 1) := by decide +kernel
theorem dX1_restore_23 : decode cX1_restore 23 = .ok (.getfield 15, 3) := by decide +kernel
theorem dX1_restore_26 : decode cX1_restore 26 = .ok (.aload_n 0, 1) := by decide +kernel
theorem dX1_restore_27 : decode cX1_restore 27 = .ok (.getfield 9, 3) := by decide +kernel
theorem dX1_restore_30 : decode cX1_restore 30 = .ok (.iadd, 1) := by decide +kernel
theorem dX1_restore_31 : decode cX1_restore 31 = .ok (.bipush 6, 2) := by decide +kernel
theorem dX1_restore_33 : decode cX1_restore 33 = .ok (.irem, 1) := by decide +kernel
theorem dX1_restore_34 : decode cX1_restore 34 = .ok (.aaload, 1) := by decide +kernel
theorem dX1_restore_35 : decode cX1_restore 35 = .ok (.invokevirtual 25, 3) := by decide +kernel
theorem dX1_restore_38 : decode cX1_restore 38 = .ok (.return_, 1) := by decide +kernel
theorem dX2_init_0 : decode cX2_init 0 = .ok (.aload_n 0, 1) := by decide +kernel
theorem dX2_init_1 : decode cX2_init 1 = .ok (.invokespecial 3, 3) := by decide +kernel
theorem dX2_init_4 : decode cX2_init 4 = .ok (.aload_n 0, 1) := by decide +kernel
theorem dX2_init_5 : decode cX2_init 5 = .ok (.iconst 0, 1) := by decide +kernel
theorem dX2_init_6 : decode cX2_init 6 = .ok (.putfield 9, 3) := by decide +kernel
theorem dX2_init_9 : decode cX2_init 9 = .ok (.aload_n 0, 1) := by decide +kernel
theorem dX2_init_10 : decode cX2_init 10 = .ok (.bipush 40, 2) := by decide +kernel
theorem dX2_init_12 : decode cX2_init 12 = .ok (.newarray .char, 2) := by decide +kernel
theorem dX2_init_14 : decode cX2_init 14 = .ok (.putfield 15, 3) := by decide +kernel
theorem dX2_init_17 : decode cX2_init 17 = .ok (.aload_n 0, 1) := by decide +kernel
theorem dX2_init_18 : decode cX2_init 18 = .ok (.bipush 40, 2) := by decide +kernel
theorem dX2_init_20 : decode cX2_init 20 = .ok (.newarray .int, 2) := by decide +kernel
theorem dX2_init_22 : decode cX2_init 22 = .ok (.putfield 19, 3) := by decide +kernel
theorem dX2_init_25 : decode cX2_init 25 = .ok (.aload_n 0, 1) := by decide +kernel
theorem dX2_init_26 : decode cX2_init 26 = .ok (.bipush 40, 2) := by decide +kernel
theorem dX2_init_28 : decode cX2_init 28 = .ok (.newarray .int, 2) := by decide +kernel
theorem dX2_init_30 : decode cX2_init 30 = .ok (.putfield 23, 3) := by decide +kernel
theorem dX2_init_33 : decode cX2_init 33 = .ok (.aload_n 0, 1) := by decide +kernel
theorem dX2_init_34 : decode cX2_init 34 = .ok (.bipush 40, 2) := by decide +kernel
theorem dX2_init_36 : decode cX2_init 36 = .ok (.newarray .int, 2) := by decide +kernel
theorem dX2_init_38 : decode cX2_init 38 = .ok (.putfield 26, 3) := by decide +kernel
theorem dX2_init_41 : decode cX2_init 41 = .ok (.aload_n 0, 1) := by decide +kernel
theorem dX2_init_42 : decode cX2_init 42 = .ok (.bipush 40, 2) := by decide +kernel
theorem dX2_init_44 : decode cX2_init 44 = .ok (.newarray .int, 2) := by decide +kernel
theorem dX2_init_46 : decode cX2_init 46 = .ok (.putfield 29, 3) := by decide +kernel
theorem dX2_init_49 : decode cX2_init 49 = .ok (.aload_n 0, 1) := by decide +kernel
theorem dX2_init_50 : decode cX2_init 50 = .ok (.aload_n 1, 1) := by decide +kernel
theorem dX2_init_51 : decode cX2_init 51 = .ok (.putfield 32, 3) := by decide +kernel
theorem dX2_init_54 : decode cX2_init 54 = .ok (.aload_n 0, 1) := by decide +kernel
theorem dX2_init_55 : decode cX2_init 55 = .ok (.new 36, 3) := by decide +kernel
theorem dX2_init_58 : decode cX2_init 58 = .ok (.dup, 1) := by decide +kernel
theorem dX2_init_59 : decode cX2_init 59 = .ok (.aload_n 1, 1) := by decide +kernel
theorem dX2_init_60 : decode cX2_init 60 = .ok (.invokespecial 38, 3) := by decide +kernel
theorem dX2_init_63 : decode cX2_init 63 = .ok (.putfield 41, 3) := by decide +kernel
theorem dX2_init_66 : decode cX2_init 66 = .ok (.return_, 1) := by decide +kernel
theorem dX2_live_0 : decode cX2_live 0 = .ok (.aload_n 0, 1) := by decide +kernel
theorem dX2_live_1 : decode cX2_live 1 = .ok (.getfield 41, 3) := by decide +kernel
theorem dX2_live_4 : decode cX2_live 4 = .ok (.invokevirtual 45, 3) := by decide +kernel
theorem dX2_live_7 : decode cX2_live 7 = .ok (.aload_n 0, 1) := by decide +kernel
theorem dX2_live_8 : decode cX2_live 8 = .ok (.getfield 41, 3) := by decide +kernel
theorem dX2_live_11 : decode cX2_live 11 = .ok (.getfield 48, 3) := by decide +kernel
theorem dX2_live_14 : decode cX2_live 14 = .ok (.ireturn, 1) := by decide +kernel
theorem dX2_find_0 : decode cX2_find 0 = .ok (.aload_n 0, 1) := by decide +kernel
theorem dX2_find_1 : decode cX2_find 1 = .ok (.iload_n 1, 1) := by decide +kernel
theorem dX2_find_2 : decode cX2_find 2 = .ok (.invokevirtual 51, 3) := by decide +kernel
theorem dX2_find_5 : decode cX2_find 5 = .ok (.aload_n 0, 1) := by decide +kernel
theorem dX2_find_6 : decode cX2_find 6 = .ok (.invokevirtual 55, 3) := by decide +kernel
theorem dX2_find_9 : decode cX2_find 9 = .ok (.aload_n 0, 1) := by decide +kernel
theorem dX2_find_10 : decode cX2_find 10 = .ok (.iconst 0, 1) := by decide +kernel
theorem dX2_find_11 : decode cX2_find 11 = .ok (.invokevirtual 58, 3) := by decide +kernel
theorem dX2_find_14 : decode cX2_find 14 = .ok (.ireturn, 1) := by decide +kernel
theorem dX2_readSigns_0 : decode cX2_readSigns 0 = .ok (.aload_n 0, 1) := by decide +kernel
theorem dX2_readSigns_1 : decode cX2_readSigns 1 = .ok (.aload_n 0, 1) := by decide +kernel
theorem dX2_readSigns_2 : decode cX2_readSigns 2 = .ok (.getfield 32, 3) := by decide +kernel
theorem dX2_readSigns_5 : decode cX2_readSigns 5 = .ok (.iload_n 1, 1) := by decide +kernel
theorem dX2_readSigns_6 : decode cX2_readSigns 6 = .ok (.invokevirtual 62, 3) := by decide +kernel
theorem dX2_readSigns_9 : decode cX2_readSigns 9 = .ok (.putfield 9, 3) := by decide +kernel
theorem dX2_readSigns_12 : decode cX2_readSigns 12 = .ok (.aload_n 0, 1) := by decide +kernel
theorem dX2_readSigns_13 : decode cX2_readSigns 13 = .ok (.getfield 9, 3) := by decide +kernel
theorem dX2_readSigns_16 : decode cX2_readSigns 16 = .ok (.iconst 1, 1) := by decide +kernel
theorem dX2_readSigns_17 : decode cX2_readSigns 17 = .ok (.isub, 1) := by decide +kernel
theorem dX2_readSigns_18 : decode cX2_readSigns 18 = .ok (.istore_n 2, 1) := by decide +kernel
theorem dX2_readSigns_19 : decode cX2_readSigns 19 = .ok (.iload_n 2, 1) := by decide +kernel
theorem dX2_readSigns_20 : decode cX2_readSigns 20 = .ok (.ifCond .lt 192, 3) := by decide +kernel
theorem dX2_readSigns_23 : decode cX2_readSigns 23 = .ok (.aload_n 0, 1) := by decide +kernel
theorem dX2_readSigns_24 : decode cX2_readSigns 24 = .ok (.getfield 15, 3) := by decide +kernel
theorem dX2_readSigns_27 : decode cX2_readSigns 27 = .ok (.iload_n 2, 1) := by decide +kernel
theorem dX2_readSigns_28 : decode cX2_readSigns 28 = .ok (.aload_n 0, 1) := by decide +kernel
theorem dX2_readSigns_29 : decode cX2_readSigns 29 = .ok (.getfield 32, 3) := by decide +kernel
theorem dX2_readSigns_32 : decode cX2_readSigns 32 = .ok (.iload_n 1, 1) := by decide +kernel
theorem dX2_readSigns_33 : decode cX2_readSigns 33 = .ok (.iload_n 2, 1) := by decide +kernel
theorem dX2_readSigns_34 : decode cX2_readSigns 34 = .ok (.invokevirtual 67, 3) := by decide +kernel
theorem dX2_readSigns_37 : decode cX2_readSigns 37 = .ok (.castore, 1) := by decide +kernel
theorem dX2_readSigns_38 : decode cX2_readSigns 38 = .ok (.aload_n 0, 1) := by decide +kernel
theorem dX2_readSigns_39 : decode cX2_readSigns 39 = .ok (.getfield 15, 3) := by decide +kernel
theorem dX2_readSigns_42 : decode cX2_readSigns 42 = .ok (.iload_n 2, 1) := by decide +kernel
theorem dX2_readSigns_43 : decode cX2_readSigns 43 = .ok (.caload, 1) := by decide +kernel
theorem dX2_readSigns_44 : decode cX2_readSigns 44 = .ok (.lookupswitch 153 #[(33, 101), (38, 113), (65, 125), (69, 125), (70, 84), (71, 84), (85, 84), (88, 84), (124, 113)], 84) := by decide +kernel
theorem dX2_readSigns_128 : decode cX2_readSigns 128 = .ok (.aload_n 0, 1) := by decide +kernel
theorem dX2_readSigns_129 : decode cX2_readSigns 129 = .ok (.getfield 19, 3) := by decide +kernel
theorem dX2_readSigns_132 : decode cX2_readSigns 132 = .ok (.iload_n 2, 1) := by decide +kernel
theorem dX2_readSigns_133 : decode cX2_readSigns 133 = .ok (.iconst (-1), 1) := by decide +kernel
theorem dX2_readSigns_134 : decode cX2_readSigns 134 = .ok (.iastore, 1) := by decide +kernel
theorem dX2_readSigns_135 : decode cX2_readSigns 135 = .ok (.aload_n 0, 1) := by decide +kernel
theorem dX2_readSigns_136 : decode cX2_readSigns 136 = .ok (.getfield 23, 3) := by decide +kernel
theorem dX2_readSigns_139 : decode cX2_readSigns 139 = .ok (.iload_n 2, 1) := by decide +kernel
theorem dX2_readSigns_140 : decode cX2_readSigns 140 = .ok (.iconst 0, 1) := by decide +kernel
theorem dX2_readSigns_141 : decode cX2_readSigns 141 = .ok (.iastore, 1) := by decide +kernel
theorem dX2_readSigns_142 : decode cX2_readSigns 142 = .ok (.goto 64, 3) := by decide +kernel
theorem dX2_readSigns_145 : decode cX2_readSigns 145 = .ok (.aload_n 0, 1) := by decide +kernel
theorem dX2_readSigns_146 : decode cX2_readSigns 146 = .ok (.iload_n 2, 1) := by decide +kernel
theorem dX2_readSigns_147 : decode cX2_readSigns 147 = .ok (.iload_n 2, 1) := by decide +kernel
theorem dX2_readSigns_148 : decode cX2_readSigns 148 = .ok (.iconst 1, 1) := by decide +kernel
theorem dX2_readSigns_149 : decode cX2_readSigns 149 = .ok (.iadd, 1) := by decide +kernel
theorem dX2_readSigns_150 : decode cX2_readSigns 150 = .ok (.iconst 1, 1) := by decide +kernel
theorem dX2_readSigns_151 : decode cX2_readSigns 151 = .ok (.invokevirtual 71, 3) := by decide +kernel
theorem dX2_readSigns_154 : decode cX2_readSigns 154 = .ok (.goto 52, 3) := by decide +kernel
theorem dX2_readSigns_157 : decode cX2_readSigns 157 = .ok (.aload_n 0, 1) := by decide +kernel
theorem dX2_readSigns_158 : decode cX2_readSigns 158 = .ok (.iload_n 2, 1) := by decide +kernel
theorem dX2_readSigns_159 : decode cX2_readSigns 159 = .ok (.iload_n 2, 1) := by decide +kernel
theorem dX2_readSigns_160 : decode cX2_readSigns 160 = .ok (.iconst 1, 1) := by decide +kernel
theorem dX2_readSigns_161 : decode cX2_readSigns 161 = .ok (.iadd, 1) := by decide +kernel
theorem dX2_readSigns_162 : decode cX2_readSigns 162 = .ok (.iconst 2, 1) := by decide +kernel
theorem dX2_readSigns_163 : decode cX2_readSigns 163 = .ok (.invokevirtual 71, 3) := by decide +kernel
theorem dX2_readSigns_166 : decode cX2_readSigns 166 = .ok (.goto 40, 3) := by decide +kernel
theorem dX2_readSigns_169 : decode cX2_readSigns 169 = .ok (.aload_n 0, 1) := by decide +kernel
theorem dX2_readSigns_170 : decode cX2_readSigns 170 = .ok (.iload_n 2, 1) := by decide +kernel
theorem dX2_readSigns_171 : decode cX2_readSigns 171 = .ok (.iload_n 2, 1) := by decide +kernel
theorem dX2_readSigns_172 : decode cX2_readSigns 172 = .ok (.iconst 2, 1) := by decide +kernel
theorem dX2_readSigns_173 : decode cX2_readSigns 173 = .ok (.iadd, 1) := by decide +kernel
theorem dX2_readSigns_174 : decode cX2_readSigns 174 = .ok (.aload_n 0, 1) := by decide +kernel
theorem dX2_readSigns_175 : decode cX2_readSigns 175 = .ok (.iload_n 2, 1) := by decide +kernel
theorem dX2_readSigns_176 : decode cX2_readSigns 176 = .ok (.iconst 1, 1) := by decide +kernel
theorem dX2_readSigns_177 : decode cX2_readSigns 177 = .ok (.iadd, 1) := by decide +kernel
theorem dX2_readSigns_178 : decode cX2_readSigns 178 = .ok (.invokevirtual 75, 3) := by decide +kernel
theorem dX2_readSigns_181 : decode cX2_readSigns 181 = .ok (.bipush 85, 2) := by decide +kernel
theorem dX2_readSigns_183 : decode cX2_readSigns 183 = .ok (.if_icmp .ne 7, 3) := by decide +kernel
theorem dX2_readSigns_186 : decode cX2_readSigns 186 = .ok (.iconst 2, 1) := by decide +kernel
theorem dX2_readSigns_187 : decode cX2_readSigns 187 = .ok (.goto 4, 3) := by decide +kernel
theorem dX2_readSigns_190 : decode cX2_readSigns 190 = .ok (.iconst 1, 1) := by decide +kernel
theorem dX2_readSigns_191 : decode cX2_readSigns 191 = .ok (.invokevirtual 71, 3) := by decide +kernel
theorem dX2_readSigns_194 : decode cX2_readSigns 194 = .ok (.goto 12, 3) := by decide +kernel
theorem dX2_readSigns_197 : decode cX2_readSigns 197 = .ok (.aload_n 0, 1) := by decide +kernel
theorem dX2_readSigns_198 : decode cX2_readSigns 198 = .ok (.iload_n 2, 1) := by decide +kernel
theorem dX2_readSigns_199 : decode cX2_readSigns 199 = .ok (.iload_n 2, 1) := by decide +kernel
theorem dX2_readSigns_200 : decode cX2_readSigns 200 = .ok (.iconst 1, 1) := by decide +kernel
theorem dX2_readSigns_201 : decode cX2_readSigns 201 = .ok (.iadd, 1) := by decide +kernel
theorem dX2_readSigns_202 : decode cX2_readSigns 202 = .ok (.iconst 0, 1) := by decide +kernel
theorem dX2_readSigns_203 : decode cX2_readSigns 203 = .ok (.invokevirtual 71, 3) := by decide +kernel
theorem dX2_readSigns_206 : decode cX2_readSigns 206 = .ok (.iinc 2 (-1), 3) := by decide +kernel
theorem dX2_readSigns_209 : decode cX2_readSigns 209 = .ok (.goto (-190), 3) := by decide +kernel
theorem dX2_readSigns_212 : decode cX2_readSigns 212 = .ok (.return_, 1) := by decide +kernel
theorem dX2_putShape_0 : decode cX2_putShape 0 = .ok (.iload_n 2, 1) := by decide +kernel
theorem dX2_putShape_1 : decode cX2_putShape 1 = .ok (.istore 4, 2) := by decide +kernel
theorem dX2_putShape_3 : decode cX2_putShape 3 = .ok (.iconst 0, 1) := by decide +kernel
theorem dX2_putShape_4 : decode cX2_putShape 4 = .ok (.istore 5, 2) := by decide +kernel
theorem dX2_putShape_6 : decode cX2_putShape 6 = .ok (.iconst 0, 1) := by decide +kernel
theorem dX2_putShape_7 : decode cX2_putShape 7 = .ok (.istore 6, 2) := by decide +kernel
theorem dX2_putShape_9 : decode cX2_putShape 9 = .ok (.iload 6, 2) := by decide +kernel
theorem dX2_putShape_11 : decode cX2_putShape 11 = .ok (.iload_n 3, 1) := by decide +kernel
theorem dX2_putShape_12 : decode cX2_putShape 12 = .ok (.if_icmp .ge 30, 3) := by decide +kernel
theorem dX2_putShape_15 : decode cX2_putShape 15 = .ok (.iload 5, 2) := by decide +kernel
theorem dX2_putShape_17 : decode cX2_putShape 17 = .ok (.aload_n 0, 1) := by decide +kernel
theorem dX2_putShape_18 : decode cX2_putShape 18 = .ok (.iload 4, 2) := by decide +kernel
theorem dX2_putShape_20 : decode cX2_putShape 20 = .ok (.invokevirtual 78, 3) := by decide +kernel
theorem dX2_putShape_23 : decode cX2_putShape 23 = .ok (.invokestatic 81, 3) := by decide +kernel
theorem dX2_putShape_26 : decode cX2_putShape 26 = .ok (.istore 5, 2) := by decide +kernel
theorem dX2_putShape_28 : decode cX2_putShape 28 = .ok (.aload_n 0, 1) := by decide +kernel
theorem dX2_putShape_29 : decode cX2_putShape 29 = .ok (.iload 4, 2) := by decide +kernel
theorem dX2_putShape_31 : decode cX2_putShape 31 = .ok (.invokevirtual 87, 3) := by decide +kernel
theorem dX2_putShape_34 : decode cX2_putShape 34 = .ok (.istore 4, 2) := by decide +kernel
theorem dX2_putShape_36 : decode cX2_putShape 36 = .ok (.iinc 6 1, 3) := by decide +kernel
theorem dX2_putShape_39 : decode cX2_putShape 39 = .ok (.goto (-30), 3) := by decide +kernel
theorem dX2_putShape_42 : decode cX2_putShape 42 = .ok (.aload_n 0, 1) := by decide +kernel
theorem dX2_putShape_43 : decode cX2_putShape 43 = .ok (.getfield 19, 3) := by decide +kernel
theorem dX2_putShape_46 : decode cX2_putShape 46 = .ok (.iload_n 1, 1) := by decide +kernel
theorem dX2_putShape_47 : decode cX2_putShape 47 = .ok (.iload 4, 2) := by decide +kernel
theorem dX2_putShape_49 : decode cX2_putShape 49 = .ok (.iload_n 1, 1) := by decide +kernel
theorem dX2_putShape_50 : decode cX2_putShape 50 = .ok (.isub, 1) := by decide +kernel
theorem dX2_putShape_51 : decode cX2_putShape 51 = .ok (.iastore, 1) := by decide +kernel
theorem dX2_putShape_52 : decode cX2_putShape 52 = .ok (.aload_n 0, 1) := by decide +kernel
theorem dX2_putShape_53 : decode cX2_putShape 53 = .ok (.getfield 23, 3) := by decide +kernel
theorem dX2_putShape_56 : decode cX2_putShape 56 = .ok (.iload_n 1, 1) := by decide +kernel
theorem dX2_putShape_57 : decode cX2_putShape 57 = .ok (.iconst 1, 1) := by decide +kernel
theorem dX2_putShape_58 : decode cX2_putShape 58 = .ok (.iload 5, 2) := by decide +kernel
theorem dX2_putShape_60 : decode cX2_putShape 60 = .ok (.iadd, 1) := by decide +kernel
theorem dX2_putShape_61 : decode cX2_putShape 61 = .ok (.iastore, 1) := by decide +kernel
theorem dX2_putShape_62 : decode cX2_putShape 62 = .ok (.return_, 1) := by decide +kernel
theorem dX2_findSets_0 : decode cX2_findSets 0 = .ok (.aload_n 0, 1) := by decide +kernel
theorem dX2_findSets_1 : decode cX2_findSets 1 = .ok (.getfield 41, 3) := by decide +kernel
theorem dX2_findSets_4 : decode cX2_findSets 4 = .ok (.invokevirtual 45, 3) := by decide +kernel
theorem dX2_findSets_7 : decode cX2_findSets 7 = .ok (.aload_n 0, 1) := by decide +kernel
theorem dX2_findSets_8 : decode cX2_findSets 8 = .ok (.getfield 9, 3) := by decide +kernel
theorem dX2_findSets_11 : decode cX2_findSets 11 = .ok (.iconst 1, 1) := by decide +kernel
theorem dX2_findSets_12 : decode cX2_findSets 12 = .ok (.isub, 1) := by decide +kernel
theorem dX2_findSets_13 : decode cX2_findSets 13 = .ok (.istore_n 1, 1) := by decide +kernel
theorem dX2_findSets_14 : decode cX2_findSets 14 = .ok (.iload_n 1, 1) := by decide +kernel
theorem dX2_findSets_15 : decode cX2_findSets 15 = .ok (.ifCond .lt 354, 3) := by decide +kernel
theorem dX2_findSets_18 : decode cX2_findSets 18 = .ok (.iload_n 1, 1) := by decide +kernel
theorem dX2_findSets_19 : decode cX2_findSets 19 = .ok (.iconst 1, 1) := by decide +kernel
theorem dX2_findSets_20 : decode cX2_findSets 20 = .ok (.iadd, 1) := by decide +kernel
theorem dX2_findSets_21 : decode cX2_findSets 21 = .ok (.istore_n 2, 1) := by decide +kernel
theorem dX2_findSets_22 : decode cX2_findSets 22 = .ok (.aload_n 0, 1) := by decide +kernel
theorem dX2_findSets_23 : decode cX2_findSets 23 = .ok (.getfield 41, 3) := by decide +kernel
theorem dX2_findSets_26 : decode cX2_findSets 26 = .ok (.iconst 0, 1) := by decide +kernel
theorem dX2_findSets_27 : decode cX2_findSets 27 = .ok (.putfield 90, 3) := by decide +kernel
theorem dX2_findSets_30 : decode cX2_findSets 30 = .ok (.aload_n 0, 1) := by decide +kernel
theorem dX2_findSets_31 : decode cX2_findSets 31 = .ok (.getfield 15, 3) := by decide +kernel
theorem dX2_findSets_34 : decode cX2_findSets 34 = .ok (.iload_n 1, 1) := by decide +kernel
theorem dX2_findSets_35 : decode cX2_findSets 35 = .ok (.caload, 1) := by decide +kernel
theorem dX2_findSets_36 : decode cX2_findSets 36 = .ok (.lookupswitch 278 #[(33, 190), (38, 214), (65, 141), (69, 102), (70, 92), (71, 92), (85, 92), (88, 92), (116, 262), (124, 238)], 92) := by decide +kernel
theorem dX2_findSets_128 : decode cX2_findSets 128 = .ok (.aload_n 0, 1) := by decide +kernel
theorem dX2_findSets_129 : decode cX2_findSets 129 = .ok (.getfield 26, 3) := by decide +kernel
theorem dX2_findSets_132 : decode cX2_findSets 132 = .ok (.iload_n 1, 1) := by decide +kernel
theorem dX2_findSets_133 : decode cX2_findSets 133 = .ok (.iconst (-1), 1) := by decide +kernel
theorem dX2_findSets_134 : decode cX2_findSets 134 = .ok (.iastore, 1) := by decide +kernel
theorem dX2_findSets_135 : decode cX2_findSets 135 = .ok (.goto 201, 3) := by decide +kernel
theorem dX2_findSets_138 : decode cX2_findSets 138 = .ok (.aload_n 0, 1) := by decide +kernel
theorem dX2_findSets_139 : decode cX2_findSets 139 = .ok (.getfield 26, 3) := by decide +kernel
theorem dX2_findSets_142 : decode cX2_findSets 142 = .ok (.iload_n 1, 1) := by decide +kernel
theorem dX2_findSets_143 : decode cX2_findSets 143 = .ok (.aload_n 0, 1) := by decide +kernel
theorem dX2_findSets_144 : decode cX2_findSets 144 = .ok (.getfield 41, 3) := by decide +kernel
theorem dX2_findSets_147 : decode cX2_findSets 147 = .ok (.aload_n 0, 1) := by decide +kernel
theorem dX2_findSets_148 : decode cX2_findSets 148 = .ok (.iload_n 2, 1) := by decide +kernel
theorem dX2_findSets_149 : decode cX2_findSets 149 = .ok (.invokevirtual 75, 3) := by decide +kernel
theorem dX2_findSets_152 : decode cX2_findSets 152 = .ok (.aload_n 0, 1) := by decide +kernel
theorem dX2_findSets_153 : decode cX2_findSets 153 = .ok (.iload_n 2, 1) := by decide +kernel
theorem dX2_findSets_154 : decode cX2_findSets 154 = .ok (.iconst 1, 1) := by decide +kernel
theorem dX2_findSets_155 : decode cX2_findSets 155 = .ok (.iadd, 1) := by decide +kernel
theorem dX2_findSets_156 : decode cX2_findSets 156 = .ok (.invokevirtual 58, 3) := by decide +kernel
theorem dX2_findSets_159 : decode cX2_findSets 159 = .ok (.aload_n 0, 1) := by decide +kernel
theorem dX2_findSets_160 : decode cX2_findSets 160 = .ok (.aload_n 0, 1) := by decide +kernel
theorem dX2_findSets_161 : decode cX2_findSets 161 = .ok (.iload_n 2, 1) := by decide +kernel
theorem dX2_findSets_162 : decode cX2_findSets 162 = .ok (.iconst 1, 1) := by decide +kernel
theorem dX2_findSets_163 : decode cX2_findSets 163 = .ok (.iadd, 1) := by decide +kernel
theorem dX2_findSets_164 : decode cX2_findSets 164 = .ok (.invokevirtual 87, 3) := by decide +kernel
theorem dX2_findSets_167 : decode cX2_findSets 167 = .ok (.invokevirtual 58, 3) := by decide +kernel
theorem dX2_findSets_170 : decode cX2_findSets 170 = .ok (.invokevirtual 92, 3) := by decide +kernel
theorem dX2_findSets_173 : decode cX2_findSets 173 = .ok (.iastore, 1) := by decide +kernel
theorem dX2_findSets_174 : decode cX2_findSets 174 = .ok (.goto 162, 3) := by decide +kernel
theorem dX2_findSets_177 : decode cX2_findSets 177 = .ok (.aload_n 0, 1) := by decide +kernel
theorem dX2_findSets_178 : decode cX2_findSets 178 = .ok (.getfield 26, 3) := by decide +kernel
theorem dX2_findSets_181 : decode cX2_findSets 181 = .ok (.iload_n 1, 1) := by decide +kernel
theorem dX2_findSets_182 : decode cX2_findSets 182 = .ok (.aload_n 0, 1) := by decide +kernel
theorem dX2_findSets_183 : decode cX2_findSets 183 = .ok (.getfield 41, 3) := by decide +kernel
theorem dX2_findSets_186 : decode cX2_findSets 186 = .ok (.getfield 96, 3) := by decide +kernel
theorem dX2_findSets_189 : decode cX2_findSets 189 = .ok (.aload_n 0, 1) := by decide +kernel
theorem dX2_findSets_190 : decode cX2_findSets 190 = .ok (.getfield 41, 3) := by decide +kernel
theorem dX2_findSets_193 : decode cX2_findSets 193 = .ok (.aload_n 0, 1) := by decide +kernel
theorem dX2_findSets_194 : decode cX2_findSets 194 = .ok (.iload_n 2, 1) := by decide +kernel
theorem dX2_findSets_195 : decode cX2_findSets 195 = .ok (.invokevirtual 75, 3) := by decide +kernel
theorem dX2_findSets_198 : decode cX2_findSets 198 = .ok (.aload_n 0, 1) := by decide +kernel
theorem dX2_findSets_199 : decode cX2_findSets 199 = .ok (.iload_n 2, 1) := by decide +kernel
theorem dX2_findSets_200 : decode cX2_findSets 200 = .ok (.iconst 1, 1) := by decide +kernel
theorem dX2_findSets_201 : decode cX2_findSets 201 = .ok (.iadd, 1) := by decide +kernel
theorem dX2_findSets_202 : decode cX2_findSets 202 = .ok (.invokevirtual 58, 3) := by decide +kernel
theorem dX2_findSets_205 : decode cX2_findSets 205 = .ok (.aload_n 0, 1) := by decide +kernel
theorem dX2_findSets_206 : decode cX2_findSets 206 = .ok (.aload_n 0, 1) := by decide +kernel
theorem dX2_findSets_207 : decode cX2_findSets 207 = .ok (.iload_n 2, 1) := by decide +kernel
theorem dX2_findSets_208 : decode cX2_findSets 208 = .ok (.iconst 1, 1) := by decide +kernel
theorem dX2_findSets_209 : decode cX2_findSets 209 = .ok (.iadd, 1) := by decide +kernel
theorem dX2_findSets_210 : decode cX2_findSets 210 = .ok (.invokevirtual 87, 3) := by decide +kernel
theorem dX2_findSets_213 : decode cX2_findSets 213 = .ok (.invokevirtual 58, 3) := by decide +kernel
theorem dX2_findSets_216 : decode cX2_findSets 216 = .ok (.invokevirtual 99, 3) := by decide +kernel
theorem dX2_findSets_219 : decode cX2_findSets 219 = .ok (.iconst (-1), 1) := by decide +kernel
theorem dX2_findSets_220 : decode cX2_findSets 220 = .ok (.ixor, 1) := by decide +kernel
theorem dX2_findSets_221 : decode cX2_findSets 221 = .ok (.iand, 1) := by decide +kernel
theorem dX2_findSets_222 : decode cX2_findSets 222 = .ok (.iastore, 1) := by decide +kernel
theorem dX2_findSets_223 : decode cX2_findSets 223 = .ok (.goto 113, 3) := by decide +kernel
theorem dX2_findSets_226 : decode cX2_findSets 226 = .ok (.aload_n 0, 1) := by decide +kernel
theorem dX2_findSets_227 : decode cX2_findSets 227 = .ok (.getfield 26, 3) := by decide +kernel
theorem dX2_findSets_230 : decode cX2_findSets 230 = .ok (.iload_n 1, 1) := by decide +kernel
theorem dX2_findSets_231 : decode cX2_findSets 231 = .ok (.aload_n 0, 1) := by decide +kernel
theorem dX2_findSets_232 : decode cX2_findSets 232 = .ok (.getfield 41, 3) := by decide +kernel
theorem dX2_findSets_235 : decode cX2_findSets 235 = .ok (.getfield 96, 3) := by decide +kernel
theorem dX2_findSets_238 : decode cX2_findSets 238 = .ok (.aload_n 0, 1) := by decide +kernel
theorem dX2_findSets_239 : decode cX2_findSets 239 = .ok (.iload_n 2, 1) := by decide +kernel
theorem dX2_findSets_240 : decode cX2_findSets 240 = .ok (.invokevirtual 58, 3) := by decide +kernel
theorem dX2_findSets_243 : decode cX2_findSets 243 = .ok (.iconst (-1), 1) := by decide +kernel
theorem dX2_findSets_244 : decode cX2_findSets 244 = .ok (.ixor, 1) := by decide +kernel
theorem dX2_findSets_245 : decode cX2_findSets 245 = .ok (.iand, 1) := by decide +kernel
theorem dX2_findSets_246 : decode cX2_findSets 246 = .ok (.iastore, 1) := by decide +kernel
theorem dX2_findSets_247 : decode cX2_findSets 247 = .ok (.goto 89, 3) := by decide +kernel
theorem dX2_findSets_250 : decode cX2_findSets 250 = .ok (.aload_n 0, 1) := by decide +kernel
theorem dX2_findSets_251 : decode cX2_findSets 251 = .ok (.getfield 26, 3) := by decide +kernel
theorem dX2_findSets_254 : decode cX2_findSets 254 = .ok (.iload_n 1, 1) := by decide +kernel
theorem dX2_findSets_255 : decode cX2_findSets 255 = .ok (.aload_n 0, 1) := by decide +kernel
theorem dX2_findSets_256 : decode cX2_findSets 256 = .ok (.iload_n 2, 1) := by decide +kernel
theorem dX2_findSets_257 : decode cX2_findSets 257 = .ok (.invokevirtual 58, 3) := by decide +kernel
theorem dX2_findSets_260 : decode cX2_findSets 260 = .ok (.aload_n 0, 1) := by decide +kernel
theorem dX2_findSets_261 : decode cX2_findSets 261 = .ok (.aload_n 0, 1) := by decide +kernel
theorem dX2_findSets_262 : decode cX2_findSets 262 = .ok (.iload_n 2, 1) := by decide +kernel
theorem dX2_findSets_263 : decode cX2_findSets 263 = .ok (.invokevirtual 87, 3) := by decide +kernel
theorem dX2_findSets_266 : decode cX2_findSets 266 = .ok (.invokevirtual 58, 3) := by decide +kernel
theorem dX2_findSets_269 : decode cX2_findSets 269 = .ok (.iand, 1) := by decide +kernel
theorem dX2_findSets_270 : decode cX2_findSets 270 = .ok (.iastore, 1) := by decide +kernel
theorem dX2_findSets_271 : decode cX2_findSets 271 = .ok (.goto 65, 3) := by decide +kernel
theorem dX2_findSets_274 : decode cX2_findSets 274 = .ok (.aload_n 0, 1) := by decide +kernel
theorem dX2_findSets_275 : decode cX2_findSets 275 = .ok (.getfield 26, 3) := by decide +kernel
theorem dX2_findSets_278 : decode cX2_findSets 278 = .ok (.iload_n 1, 1) := by decide +kernel
theorem dX2_findSets_279 : decode cX2_findSets 279 = .ok (.aload_n 0, 1) := by decide +kernel
theorem dX2_findSets_280 : decode cX2_findSets 280 = .ok (.iload_n 2, 1) := by decide +kernel
theorem dX2_findSets_281 : decode cX2_findSets 281 = .ok (.invokevirtual 58, 3) := by decide +kernel
theorem dX2_findSets_284 : decode cX2_findSets 284 = .ok (.aload_n 0, 1) := by decide +kernel
theorem dX2_findSets_285 : decode cX2_findSets 285 = .ok (.aload_n 0, 1) := by decide +kernel
theorem dX2_findSets_286 : decode cX2_findSets 286 = .ok (.iload_n 2, 1) := by decide +kernel
theorem dX2_findSets_287 : decode cX2_findSets 287 = .ok (.invokevirtual 87, 3) := by decide +kernel
theorem dX2_findSets_290 : decode cX2_findSets 290 = .ok (.invokevirtual 58, 3) := by decide +kernel
theorem dX2_findSets_293 : decode cX2_findSets 293 = .ok (.ior, 1) := by decide +kernel
theorem dX2_findSets_294 : decode cX2_findSets 294 = .ok (.iastore, 1) := by decide +kernel
theorem dX2_findSets_295 : decode cX2_findSets 295 = .ok (.goto 41, 3) := by decide +kernel
theorem dX2_findSets_298 : decode cX2_findSets 298 = .ok (.aload_n 0, 1) := by decide +kernel
theorem dX2_findSets_299 : decode cX2_findSets 299 = .ok (.getfield 26, 3) := by decide +kernel
theorem dX2_findSets_302 : decode cX2_findSets 302 = .ok (.iload_n 1, 1) := by decide +kernel
theorem dX2_findSets_303 : decode cX2_findSets 303 = .ok (.aload_n 0, 1) := by decide +kernel
theorem dX2_findSets_304 : decode cX2_findSets 304 = .ok (.getfield 41, 3) := by decide +kernel
theorem dX2_findSets_307 : decode cX2_findSets 307 = .ok (.getfield 96, 3) := by decide +kernel
theorem dX2_findSets_310 : decode cX2_findSets 310 = .ok (.iastore, 1) := by decide +kernel
theorem dX2_findSets_311 : decode cX2_findSets 311 = .ok (.goto 25, 3) := by decide +kernel
theorem dX2_findSets_314 : decode cX2_findSets 314 = .ok (.aload_n 0, 1) := by decide +kernel
theorem dX2_findSets_315 : decode cX2_findSets 315 = .ok (.getfield 26, 3) := by decide +kernel
theorem dX2_findSets_318 : decode cX2_findSets 318 = .ok (.iload_n 1, 1) := by decide +kernel
theorem dX2_findSets_319 : decode cX2_findSets 319 = .ok (.aload_n 0, 1) := by decide +kernel
theorem dX2_findSets_320 : decode cX2_findSets 320 = .ok (.getfield 32, 3) := by decide +kernel
theorem dX2_findSets_323 : decode cX2_findSets 323 = .ok (.aload_n 0, 1) := by decide +kernel
theorem dX2_findSets_324 : decode cX2_findSets 324 = .ok (.getfield 15, 3) := by decide +kernel
theorem dX2_findSets_327 : decode cX2_findSets 327 = .ok (.iload_n 1, 1) := by decide +kernel
theorem dX2_findSets_328 : decode cX2_findSets 328 = .ok (.caload, 1) := by decide +kernel
theorem dX2_findSets_329 : decode cX2_findSets 329 = .ok (.bipush 97, 2) := by decide +kernel
theorem dX2_findSets_331 : decode cX2_findSets 331 = .ok (.isub, 1) := by decide +kernel
theorem dX2_findSets_332 : decode cX2_findSets 332 = .ok (.invokevirtual 102, 3) := by decide +kernel
theorem dX2_findSets_335 : decode cX2_findSets 335 = .ok (.iastore, 1) := by decide +kernel
theorem dX2_findSets_336 : decode cX2_findSets 336 = .ok (.aload_n 0, 1) := by decide +kernel
theorem dX2_findSets_337 : decode cX2_findSets 337 = .ok (.getfield 29, 3) := by decide +kernel
theorem dX2_findSets_340 : decode cX2_findSets 340 = .ok (.iload_n 1, 1) := by decide +kernel
theorem dX2_findSets_341 : decode cX2_findSets 341 = .ok (.aload_n 0, 1) := by decide +kernel
theorem dX2_findSets_342 : decode cX2_findSets 342 = .ok (.getfield 26, 3) := by decide +kernel
theorem dX2_findSets_345 : decode cX2_findSets 345 = .ok (.iload_n 1, 1) := by decide +kernel
theorem dX2_findSets_346 : decode cX2_findSets 346 = .ok (.iaload, 1) := by decide +kernel
theorem dX2_findSets_347 : decode cX2_findSets 347 = .ok (.iconst (-1), 1) := by decide +kernel
theorem dX2_findSets_348 : decode cX2_findSets 348 = .ok (.if_icmp .ne 7, 3) := by decide +kernel
theorem dX2_findSets_351 : decode cX2_findSets 351 = .ok (.iconst (-1), 1) := by decide +kernel
theorem dX2_findSets_352 : decode cX2_findSets 352 = .ok (.goto 10, 3) := by decide +kernel
theorem dX2_findSets_355 : decode cX2_findSets 355 = .ok (.aload_n 0, 1) := by decide +kernel
theorem dX2_findSets_356 : decode cX2_findSets 356 = .ok (.getfield 41, 3) := by decide +kernel
theorem dX2_findSets_359 : decode cX2_findSets 359 = .ok (.getfield 90, 3) := by decide +kernel
theorem dX2_findSets_362 : decode cX2_findSets 362 = .ok (.iastore, 1) := by decide +kernel
theorem dX2_findSets_363 : decode cX2_findSets 363 = .ok (.iinc 1 (-1), 3) := by decide +kernel
theorem dX2_findSets_366 : decode cX2_findSets 366 = .ok (.goto (-352), 3) := by decide +kernel
theorem dX2_findSets_369 : decode cX2_findSets 369 = .ok (.return_, 1) := by decide +kernel
theorem dX2_ofWish_0 : decode cX2_ofWish 0 = .ok (.aload_n 0, 1) := by decide +kernel
theorem dX2_ofWish_1 : decode cX2_ofWish 1 = .ok (.getfield 9, 3) := by decide +kernel
theorem dX2_ofWish_4 : decode cX2_ofWish 4 = .ok (.ifCond .ne 5, 3) := by decide +kernel
theorem dX2_ofWish_7 : decode cX2_ofWish 7 = .ok (.iconst (-1), 1) := by decide +kernel
theorem dX2_ofWish_8 : decode cX2_ofWish 8 = .ok (.ireturn, 1) := by decide +kernel
theorem dX2_ofWish_9 : decode cX2_ofWish 9 = .ok (.iload_n 1, 1) := by decide +kernel
theorem dX2_ofWish_10 : decode cX2_ofWish 10 = .ok (.tableswitch 42 0 2 #[26, 31, 37], 26) := by decide +kernel
theorem dX2_ofWish_36 : decode cX2_ofWish 36 = .ok (.aload_n 0, 1) := by decide +kernel
theorem dX2_ofWish_37 : decode cX2_ofWish 37 = .ok (.getfield 9, 3) := by decide +kernel
theorem dX2_ofWish_40 : decode cX2_ofWish 40 = .ok (.ireturn, 1) := by decide +kernel
theorem dX2_ofWish_41 : decode cX2_ofWish 41 = .ok (.aload_n 0, 1) := by decide +kernel
theorem dX2_ofWish_42 : decode cX2_ofWish 42 = .ok (.iconst 0, 1) := by decide +kernel
theorem dX2_ofWish_43 : decode cX2_ofWish 43 = .ok (.invokevirtual 58, 3) := by decide +kernel
theorem dX2_ofWish_46 : decode cX2_ofWish 46 = .ok (.ireturn, 1) := by decide +kernel
theorem dX2_ofWish_47 : decode cX2_ofWish 47 = .ok (.aload_n 0, 1) := by decide +kernel
theorem dX2_ofWish_48 : decode cX2_ofWish 48 = .ok (.invokevirtual 105, 3) := by decide +kernel
theorem dX2_ofWish_51 : decode cX2_ofWish 51 = .ok (.ireturn, 1) := by decide +kernel
theorem dX2_ofWish_52 : decode cX2_ofWish 52 = .ok (.aload_n 0, 1) := by decide +kernel
theorem dX2_ofWish_53 : decode cX2_ofWish 53 = .ok (.iconst 0, 1) := by decide +kernel
theorem dX2_ofWish_54 : decode cX2_ofWish 54 = .ok (.invokevirtual 78, 3) := by decide +kernel
theorem dX2_ofWish_57 : decode cX2_ofWish 57 = .ok (.ireturn, 1) := by decide +kernel
theorem dX2_ofSign_0 : decode cX2_ofSign 0 = .ok (.iload_n 1, 1) := by decide +kernel
theorem dX2_ofSign_1 : decode cX2_ofSign 1 = .ok (.ifCond .lt 11, 3) := by decide +kernel
theorem dX2_ofSign_4 : decode cX2_ofSign 4 = .ok (.iload_n 1, 1) := by decide +kernel
theorem dX2_ofSign_5 : decode cX2_ofSign 5 = .ok (.aload_n 0, 1) := by decide +kernel
theorem dX2_ofSign_6 : decode cX2_ofSign 6 = .ok (.getfield 9, 3) := by decide +kernel
theorem dX2_ofSign_9 : decode cX2_ofSign 9 = .ok (.if_icmp .lt 5, 3) := by decide +kernel
theorem dX2_ofSign_12 : decode cX2_ofSign 12 = .ok (.iconst (-1), 1) := by decide +kernel
theorem dX2_ofSign_13 : decode cX2_ofSign 13 = .ok (.ireturn, 1) := by decide +kernel
theorem dX2_ofSign_14 : decode cX2_ofSign 14 = .ok (.iload_n 2, 1) := by decide +kernel
theorem dX2_ofSign_15 : decode cX2_ofSign 15 = .ok (.tableswitch 46 0 2 #[25, 32, 39], 25) := by decide +kernel
theorem dX2_ofSign_40 : decode cX2_ofSign 40 = .ok (.aload_n 0, 1) := by decide +kernel
theorem dX2_ofSign_41 : decode cX2_ofSign 41 = .ok (.getfield 15, 3) := by decide +kernel
theorem dX2_ofSign_44 : decode cX2_ofSign 44 = .ok (.iload_n 1, 1) := by decide +kernel
theorem dX2_ofSign_45 : decode cX2_ofSign 45 = .ok (.caload, 1) := by decide +kernel
theorem dX2_ofSign_46 : decode cX2_ofSign 46 = .ok (.ireturn, 1) := by decide +kernel
theorem dX2_ofSign_47 : decode cX2_ofSign 47 = .ok (.aload_n 0, 1) := by decide +kernel
theorem dX2_ofSign_48 : decode cX2_ofSign 48 = .ok (.getfield 26, 3) := by decide +kernel
theorem dX2_ofSign_51 : decode cX2_ofSign 51 = .ok (.iload_n 1, 1) := by decide +kernel
theorem dX2_ofSign_52 : decode cX2_ofSign 52 = .ok (.iaload, 1) := by decide +kernel
theorem dX2_ofSign_53 : decode cX2_ofSign 53 = .ok (.ireturn, 1) := by decide +kernel
theorem dX2_ofSign_54 : decode cX2_ofSign 54 = .ok (.aload_n 0, 1) := by decide +kernel
theorem dX2_ofSign_55 : decode cX2_ofSign 55 = .ok (.getfield 29, 3) := by decide +kernel
theorem dX2_ofSign_58 : decode cX2_ofSign 58 = .ok (.iload_n 1, 1) := by decide +kernel
theorem dX2_ofSign_59 : decode cX2_ofSign 59 = .ok (.iaload, 1) := by decide +kernel
theorem dX2_ofSign_60 : decode cX2_ofSign 60 = .ok (.ireturn, 1) := by decide +kernel
theorem dX2_ofSign_61 : decode cX2_ofSign 61 = .ok (.aload_n 0, 1) := by decide +kernel
theorem dX2_ofSign_62 : decode cX2_ofSign 62 = .ok (.getfield 19, 3) := by decide +kernel
theorem dX2_ofSign_65 : decode cX2_ofSign 65 = .ok (.iload_n 1, 1) := by decide +kernel
theorem dX2_ofSign_66 : decode cX2_ofSign 66 = .ok (.iaload, 1) := by decide +kernel
theorem dX2_ofSign_67 : decode cX2_ofSign 67 = .ok (.ireturn, 1) := by decide +kernel
theorem dX2_signAt_0 : decode cX2_signAt 0 = .ok (.iload_n 1, 1) := by decide +kernel
theorem dX2_signAt_1 : decode cX2_signAt 1 = .ok (.ifCond .lt 20, 3) := by decide +kernel
theorem dX2_signAt_4 : decode cX2_signAt 4 = .ok (.iload_n 1, 1) := by decide +kernel
theorem dX2_signAt_5 : decode cX2_signAt 5 = .ok (.aload_n 0, 1) := by decide +kernel
theorem dX2_signAt_6 : decode cX2_signAt 6 = .ok (.getfield 9, 3) := by decide +kernel
theorem dX2_signAt_9 : decode cX2_signAt 9 = .ok (.if_icmp .ge 12, 3) := by decide +kernel
theorem dX2_signAt_12 : decode cX2_signAt 12 = .ok (.aload_n 0, 1) := by decide +kernel
theorem dX2_signAt_13 : decode cX2_signAt 13 = .ok (.getfield 15, 3) := by decide +kernel
theorem dX2_signAt_16 : decode cX2_signAt 16 = .ok (.iload_n 1, 1) := by decide +kernel
theorem dX2_signAt_17 : decode cX2_signAt 17 = .ok (.caload, 1) := by decide +kernel
theorem dX2_signAt_18 : decode cX2_signAt 18 = .ok (.goto 4, 3) := by decide +kernel
theorem dX2_signAt_21 : decode cX2_signAt 21 = .ok (.iconst 0, 1) := by decide +kernel
theorem dX2_signAt_22 : decode cX2_signAt 22 = .ok (.ireturn, 1) := by decide +kernel
theorem dX2_setAt_0 : decode cX2_setAt 0 = .ok (.iload_n 1, 1) := by decide +kernel
theorem dX2_setAt_1 : decode cX2_setAt 1 = .ok (.ifCond .lt 20, 3) := by decide +kernel
theorem dX2_setAt_4 : decode cX2_setAt 4 = .ok (.iload_n 1, 1) := by decide +kernel
theorem dX2_setAt_5 : decode cX2_setAt 5 = .ok (.aload_n 0, 1) := by decide +kernel
theorem dX2_setAt_6 : decode cX2_setAt 6 = .ok (.getfield 9, 3) := by decide +kernel
theorem dX2_setAt_9 : decode cX2_setAt 9 = .ok (.if_icmp .ge 12, 3) := by decide +kernel
theorem dX2_setAt_12 : decode cX2_setAt 12 = .ok (.aload_n 0, 1) := by decide +kernel
theorem dX2_setAt_13 : decode cX2_setAt 13 = .ok (.getfield 26, 3) := by decide +kernel
theorem dX2_setAt_16 : decode cX2_setAt 16 = .ok (.iload_n 1, 1) := by decide +kernel
theorem dX2_setAt_17 : decode cX2_setAt 17 = .ok (.iaload, 1) := by decide +kernel
theorem dX2_setAt_18 : decode cX2_setAt 18 = .ok (.goto 4, 3) := by decide +kernel
theorem dX2_setAt_21 : decode cX2_setAt 21 = .ok (.iconst 0, 1) := by decide +kernel
theorem dX2_setAt_22 : decode cX2_setAt 22 = .ok (.ireturn, 1) := by decide +kernel
theorem dX2_behind_0 : decode cX2_behind 0 = .ok (.iload_n 1, 1) := by decide +kernel
theorem dX2_behind_1 : decode cX2_behind 1 = .ok (.ifCond .lt 22, 3) := by decide +kernel
theorem dX2_behind_4 : decode cX2_behind 4 = .ok (.iload_n 1, 1) := by decide +kernel
theorem dX2_behind_5 : decode cX2_behind 5 = .ok (.aload_n 0, 1) := by decide +kernel
theorem dX2_behind_6 : decode cX2_behind 6 = .ok (.getfield 9, 3) := by decide +kernel
theorem dX2_behind_9 : decode cX2_behind 9 = .ok (.if_icmp .ge 14, 3) := by decide +kernel
theorem dX2_behind_12 : decode cX2_behind 12 = .ok (.iload_n 1, 1) := by decide +kernel
theorem dX2_behind_13 : decode cX2_behind 13 = .ok (.aload_n 0, 1) := by decide +kernel
theorem dX2_behind_14 : decode cX2_behind 14 = .ok (.getfield 19, 3) := by decide +kernel
theorem dX2_behind_17 : decode cX2_behind 17 = .ok (.iload_n 1, 1) := by decide +kernel
theorem dX2_behind_18 : decode cX2_behind 18 = .ok (.iaload, 1) := by decide +kernel
theorem dX2_behind_19 : decode cX2_behind 19 = .ok (.iadd, 1) := by decide +kernel
theorem dX2_behind_20 : decode cX2_behind 20 = .ok (.goto 7, 3) := by decide +kernel
theorem dX2_behind_23 : decode cX2_behind 23 = .ok (.aload_n 0, 1) := by decide +kernel
theorem dX2_behind_24 : decode cX2_behind 24 = .ok (.getfield 9, 3) := by decide +kernel
theorem dX2_behind_27 : decode cX2_behind 27 = .ok (.ireturn, 1) := by decide +kernel
theorem dX2_depthAt_0 : decode cX2_depthAt 0 = .ok (.iload_n 1, 1) := by decide +kernel
theorem dX2_depthAt_1 : decode cX2_depthAt 1 = .ok (.ifCond .lt 20, 3) := by decide +kernel
theorem dX2_depthAt_4 : decode cX2_depthAt 4 = .ok (.iload_n 1, 1) := by decide +kernel
theorem dX2_depthAt_5 : decode cX2_depthAt 5 = .ok (.aload_n 0, 1) := by decide +kernel
theorem dX2_depthAt_6 : decode cX2_depthAt 6 = .ok (.getfield 9, 3) := by decide +kernel
theorem dX2_depthAt_9 : decode cX2_depthAt 9 = .ok (.if_icmp .ge 12, 3) := by decide +kernel
theorem dX2_depthAt_12 : decode cX2_depthAt 12 = .ok (.aload_n 0, 1) := by decide +kernel
theorem dX2_depthAt_13 : decode cX2_depthAt 13 = .ok (.getfield 23, 3) := by decide +kernel
theorem dX2_depthAt_16 : decode cX2_depthAt 16 = .ok (.iload_n 1, 1) := by decide +kernel
theorem dX2_depthAt_17 : decode cX2_depthAt 17 = .ok (.iaload, 1) := by decide +kernel
theorem dX2_depthAt_18 : decode cX2_depthAt 18 = .ok (.goto 4, 3) := by decide +kernel
theorem dX2_depthAt_21 : decode cX2_depthAt 21 = .ok (.iconst 0, 1) := by decide +kernel
theorem dX2_depthAt_22 : decode cX2_depthAt 22 = .ok (.ireturn, 1) := by decide +kernel
theorem dX2_allRounds_0 : decode cX2_allRounds 0 = .ok (.iconst 0, 1) := by decide +kernel
theorem dX2_allRounds_1 : decode cX2_allRounds 1 = .ok (.istore_n 1, 1) := by decide +kernel
theorem dX2_allRounds_2 : decode cX2_allRounds 2 = .ok (.iconst 0, 1) := by decide +kernel
theorem dX2_allRounds_3 : decode cX2_allRounds 3 = .ok (.istore_n 2, 1) := by decide +kernel
theorem dX2_allRounds_4 : decode cX2_allRounds 4 = .ok (.iload_n 2, 1) := by decide +kernel
theorem dX2_allRounds_5 : decode cX2_allRounds 5 = .ok (.aload_n 0, 1) := by decide +kernel
theorem dX2_allRounds_6 : decode cX2_allRounds 6 = .ok (.getfield 9, 3) := by decide +kernel
theorem dX2_allRounds_9 : decode cX2_allRounds 9 = .ok (.if_icmp .ge 22, 3) := by decide +kernel
theorem dX2_allRounds_12 : decode cX2_allRounds 12 = .ok (.iload_n 1, 1) := by decide +kernel
theorem dX2_allRounds_13 : decode cX2_allRounds 13 = .ok (.iconst 0, 1) := by decide +kernel
theorem dX2_allRounds_14 : decode cX2_allRounds 14 = .ok (.aload_n 0, 1) := by decide +kernel
theorem dX2_allRounds_15 : decode cX2_allRounds 15 = .ok (.getfield 29, 3) := by decide +kernel
theorem dX2_allRounds_18 : decode cX2_allRounds 18 = .ok (.iload_n 2, 1) := by decide +kernel
theorem dX2_allRounds_19 : decode cX2_allRounds 19 = .ok (.iaload, 1) := by decide +kernel
theorem dX2_allRounds_20 : decode cX2_allRounds 20 = .ok (.invokestatic 81, 3) := by decide +kernel
theorem dX2_allRounds_23 : decode cX2_allRounds 23 = .ok (.iadd, 1) := by decide +kernel
theorem dX2_allRounds_24 : decode cX2_allRounds 24 = .ok (.istore_n 1, 1) := by decide +kernel
theorem dX2_allRounds_25 : decode cX2_allRounds 25 = .ok (.iinc 2 1, 3) := by decide +kernel
theorem dX2_allRounds_28 : decode cX2_allRounds 28 = .ok (.goto (-24), 3) := by decide +kernel
theorem dX2_allRounds_31 : decode cX2_allRounds 31 = .ok (.iload_n 1, 1) := by decide +kernel
theorem dX2_allRounds_32 : decode cX2_allRounds 32 = .ok (.ireturn, 1) := by decide +kernel
theorem dX3_init_0 : decode cX3_init 0 = .ok (.aload_n 0, 1) := by decide +kernel
theorem dX3_init_1 : decode cX3_init 1 = .ok (.invokespecial 3, 3) := by decide +kernel
theorem dX3_init_4 : decode cX3_init 4 = .ok (.aload_n 0, 1) := by decide +kernel
theorem dX3_init_5 : decode cX3_init 5 = .ok (.iconst 0, 1) := by decide +kernel
theorem dX3_init_6 : decode cX3_init 6 = .ok (.putfield 9, 3) := by decide +kernel
theorem dX3_init_9 : decode cX3_init 9 = .ok (.aload_n 0, 1) := by decide +kernel
theorem dX3_init_10 : decode cX3_init 10 = .ok (.iconst (-1), 1) := by decide +kernel
theorem dX3_init_11 : decode cX3_init 11 = .ok (.putfield 15, 3) := by decide +kernel
theorem dX3_init_14 : decode cX3_init 14 = .ok (.aload_n 0, 1) := by decide +kernel
theorem dX3_init_15 : decode cX3_init 15 = .ok (.bipush 10, 2) := by decide +kernel
theorem dX3_init_17 : decode cX3_init 17 = .ok (.newarray .int, 2) := by decide +kernel
theorem dX3_init_19 : decode cX3_init 19 = .ok (.putfield 18, 3) := by decide +kernel
theorem dX3_init_22 : decode cX3_init 22 = .ok (.aload_n 0, 1) := by decide +kernel
theorem dX3_init_23 : decode cX3_init 23 = .ok (.bipush 10, 2) := by decide +kernel
theorem dX3_init_25 : decode cX3_init 25 = .ok (.newarray .int, 2) := by decide +kernel
theorem dX3_init_27 : decode cX3_init 27 = .ok (.putfield 22, 3) := by decide +kernel
theorem dX3_init_30 : decode cX3_init 30 = .ok (.aload_n 0, 1) := by decide +kernel
theorem dX3_init_31 : decode cX3_init 31 = .ok (.iconst 4, 1) := by decide +kernel
theorem dX3_init_32 : decode cX3_init 32 = .ok (.newarray .int, 2) := by decide +kernel
theorem dX3_init_34 : decode cX3_init 34 = .ok (.putfield 25, 3) := by decide +kernel
theorem dX3_init_37 : decode cX3_init 37 = .ok (.aload_n 0, 1) := by decide +kernel
theorem dX3_init_38 : decode cX3_init 38 = .ok (.sipush 160, 3) := by decide +kernel
theorem dX3_init_41 : decode cX3_init 41 = .ok (.newarray .char, 2) := by decide +kernel
theorem dX3_init_43 : decode cX3_init 43 = .ok (.putfield 28, 3) := by decide +kernel
theorem dX3_init_46 : decode cX3_init 46 = .ok (.return_, 1) := by decide +kernel
theorem dX3_copyFrom_0 : decode cX3_copyFrom 0 = .ok (.aload_n 0, 1) := by decide +kernel
theorem dX3_copyFrom_1 : decode cX3_copyFrom 1 = .ok (.aload_n 1, 1) := by decide +kernel
theorem dX3_copyFrom_2 : decode cX3_copyFrom 2 = .ok (.getfield 9, 3) := by decide +kernel
theorem dX3_copyFrom_5 : decode cX3_copyFrom 5 = .ok (.putfield 9, 3) := by decide +kernel
theorem dX3_copyFrom_8 : decode cX3_copyFrom 8 = .ok (.aload_n 0, 1) := by decide +kernel
theorem dX3_copyFrom_9 : decode cX3_copyFrom 9 = .ok (.aload_n 1, 1) := by decide +kernel
theorem dX3_copyFrom_10 : decode cX3_copyFrom 10 = .ok (.getfield 15, 3) := by decide +kernel
theorem dX3_copyFrom_13 : decode cX3_copyFrom 13 = .ok (.putfield 15, 3) := by decide +kernel
theorem dX3_copyFrom_16 : decode cX3_copyFrom 16 = .ok (.aload_n 1, 1) := by decide +kernel
theorem dX3_copyFrom_17 : decode cX3_copyFrom 17 = .ok (.getfield 18, 3) := by decide +kernel
theorem dX3_copyFrom_20 : decode cX3_copyFrom 20 = .ok (.iconst 0, 1) := by decide +kernel
theorem dX3_copyFrom_21 : decode cX3_copyFrom 21 = .ok (.aload_n 0, 1) := by decide +kernel
theorem dX3_copyFrom_22 : decode cX3_copyFrom 22 = .ok (.getfield 18, 3) := by decide +kernel
theorem dX3_copyFrom_25 : decode cX3_copyFrom 25 = .ok (.iconst 0, 1) := by decide +kernel
theorem dX3_copyFrom_26 : decode cX3_copyFrom 26 = .ok (.bipush 10, 2) := by decide +kernel
theorem dX3_copyFrom_28 : decode cX3_copyFrom 28 = .ok (.invokestatic 32, 3) := by decide +kernel
theorem dX3_copyFrom_31 : decode cX3_copyFrom 31 = .ok (.aload_n 1, 1) := by decide +kernel
theorem dX3_copyFrom_32 : decode cX3_copyFrom 32 = .ok (.getfield 22, 3) := by decide +kernel
theorem dX3_copyFrom_35 : decode cX3_copyFrom 35 = .ok (.iconst 0, 1) := by decide +kernel
theorem dX3_copyFrom_36 : decode cX3_copyFrom 36 = .ok (.aload_n 0, 1) := by decide +kernel
theorem dX3_copyFrom_37 : decode cX3_copyFrom 37 = .ok (.getfield 22, 3) := by decide +kernel
theorem dX3_copyFrom_40 : decode cX3_copyFrom 40 = .ok (.iconst 0, 1) := by decide +kernel
theorem dX3_copyFrom_41 : decode cX3_copyFrom 41 = .ok (.bipush 10, 2) := by decide +kernel
theorem dX3_copyFrom_43 : decode cX3_copyFrom 43 = .ok (.invokestatic 32, 3) := by decide +kernel
theorem dX3_copyFrom_46 : decode cX3_copyFrom 46 = .ok (.aload_n 1, 1) := by decide +kernel
theorem dX3_copyFrom_47 : decode cX3_copyFrom 47 = .ok (.getfield 25, 3) := by decide +kernel
theorem dX3_copyFrom_50 : decode cX3_copyFrom 50 = .ok (.iconst 0, 1) := by decide +kernel
theorem dX3_copyFrom_51 : decode cX3_copyFrom 51 = .ok (.aload_n 0, 1) := by decide +kernel
theorem dX3_copyFrom_52 : decode cX3_copyFrom 52 = .ok (.getfield 25, 3) := by decide +kernel
theorem dX3_copyFrom_55 : decode cX3_copyFrom 55 = .ok (.iconst 0, 1) := by decide +kernel
theorem dX3_copyFrom_56 : decode cX3_copyFrom 56 = .ok (.iconst 4, 1) := by decide +kernel
theorem dX3_copyFrom_57 : decode cX3_copyFrom 57 = .ok (.invokestatic 32, 3) := by decide +kernel
theorem dX3_copyFrom_60 : decode cX3_copyFrom 60 = .ok (.aload_n 1, 1) := by decide +kernel
theorem dX3_copyFrom_61 : decode cX3_copyFrom 61 = .ok (.getfield 28, 3) := by decide +kernel
theorem dX3_copyFrom_64 : decode cX3_copyFrom 64 = .ok (.iconst 0, 1) := by decide +kernel
theorem dX3_copyFrom_65 : decode cX3_copyFrom 65 = .ok (.aload_n 0, 1) := by decide +kernel
theorem dX3_copyFrom_66 : decode cX3_copyFrom 66 = .ok (.getfield 28, 3) := by decide +kernel
theorem dX3_copyFrom_69 : decode cX3_copyFrom 69 = .ok (.iconst 0, 1) := by decide +kernel
theorem dX3_copyFrom_70 : decode cX3_copyFrom 70 = .ok (.sipush 160, 3) := by decide +kernel
theorem dX3_copyFrom_73 : decode cX3_copyFrom 73 = .ok (.invokestatic 32, 3) := by decide +kernel
theorem dX3_copyFrom_76 : decode cX3_copyFrom 76 = .ok (.return_, 1) := by decide +kernel
theorem dX3_hasWorld_0 : decode cX3_hasWorld 0 = .ok (.iload_n 1, 1) := by decide +kernel
theorem dX3_hasWorld_1 : decode cX3_hasWorld 1 = .ok (.ifCond .lt 15, 3) := by decide +kernel
theorem dX3_hasWorld_4 : decode cX3_hasWorld 4 = .ok (.iload_n 1, 1) := by decide +kernel
theorem dX3_hasWorld_5 : decode cX3_hasWorld 5 = .ok (.aload_n 0, 1) := by decide +kernel
theorem dX3_hasWorld_6 : decode cX3_hasWorld 6 = .ok (.getfield 9, 3) := by decide +kernel
theorem dX3_hasWorld_9 : decode cX3_hasWorld 9 = .ok (.if_icmp .ge 7, 3) := by decide +kernel
theorem dX3_hasWorld_12 : decode cX3_hasWorld 12 = .ok (.iconst 1, 1) := by decide +kernel
theorem dX3_hasWorld_13 : decode cX3_hasWorld 13 = .ok (.goto 4, 3) := by decide +kernel
theorem dX3_hasWorld_16 : decode cX3_hasWorld 16 = .ok (.iconst 0, 1) := by decide +kernel
theorem dX3_hasWorld_17 : decode cX3_hasWorld 17 = .ok (.ireturn, 1) := by decide +kernel
theorem dX3_allWorlds_0 : decode cX3_allWorlds 0 = .ok (.iconst 1, 1) := by decide +kernel
theorem dX3_allWorlds_1 : decode cX3_allWorlds 1 = .ok (.aload_n 0, 1) := by decide +kernel
theorem dX3_allWorlds_2 : decode cX3_allWorlds 2 = .ok (.getfield 9, 3) := by decide +kernel
theorem dX3_allWorlds_5 : decode cX3_allWorlds 5 = .ok (.ishl, 1) := by decide +kernel
theorem dX3_allWorlds_6 : decode cX3_allWorlds 6 = .ok (.iconst 1, 1) := by decide +kernel
theorem dX3_allWorlds_7 : decode cX3_allWorlds 7 = .ok (.isub, 1) := by decide +kernel
theorem dX3_allWorlds_8 : decode cX3_allWorlds 8 = .ok (.ireturn, 1) := by decide +kernel
theorem dX3_lettersOf_0 : decode cX3_lettersOf 0 = .ok (.iload_n 1, 1) := by decide +kernel
theorem dX3_lettersOf_1 : decode cX3_lettersOf 1 = .ok (.ifCond .lt 20, 3) := by decide +kernel
theorem dX3_lettersOf_4 : decode cX3_lettersOf 4 = .ok (.iload_n 1, 1) := by decide +kernel
theorem dX3_lettersOf_5 : decode cX3_lettersOf 5 = .ok (.aload_n 0, 1) := by decide +kernel
theorem dX3_lettersOf_6 : decode cX3_lettersOf 6 = .ok (.getfield 9, 3) := by decide +kernel
theorem dX3_lettersOf_9 : decode cX3_lettersOf 9 = .ok (.if_icmp .ge 12, 3) := by decide +kernel
theorem dX3_lettersOf_12 : decode cX3_lettersOf 12 = .ok (.aload_n 0, 1) := by decide +kernel
theorem dX3_lettersOf_13 : decode cX3_lettersOf 13 = .ok (.getfield 18, 3) := by decide +kernel
theorem dX3_lettersOf_16 : decode cX3_lettersOf 16 = .ok (.iload_n 1, 1) := by decide +kernel
theorem dX3_lettersOf_17 : decode cX3_lettersOf 17 = .ok (.iaload, 1) := by decide +kernel
theorem dX3_lettersOf_18 : decode cX3_lettersOf 18 = .ok (.goto 4, 3) := by decide +kernel
theorem dX3_lettersOf_21 : decode cX3_lettersOf 21 = .ok (.iconst 0, 1) := by decide +kernel
theorem dX3_lettersOf_22 : decode cX3_lettersOf 22 = .ok (.ireturn, 1) := by decide +kernel
theorem dX3_stepsFrom_0 : decode cX3_stepsFrom 0 = .ok (.iload_n 1, 1) := by decide +kernel
theorem dX3_stepsFrom_1 : decode cX3_stepsFrom 1 = .ok (.ifCond .lt 20, 3) := by decide +kernel
theorem dX3_stepsFrom_4 : decode cX3_stepsFrom 4 = .ok (.iload_n 1, 1) := by decide +kernel
theorem dX3_stepsFrom_5 : decode cX3_stepsFrom 5 = .ok (.aload_n 0, 1) := by decide +kernel
theorem dX3_stepsFrom_6 : decode cX3_stepsFrom 6 = .ok (.getfield 9, 3) := by decide +kernel
theorem dX3_stepsFrom_9 : decode cX3_stepsFrom 9 = .ok (.if_icmp .ge 12, 3) := by decide +kernel
theorem dX3_stepsFrom_12 : decode cX3_stepsFrom 12 = .ok (.aload_n 0, 1) := by decide +kernel
theorem dX3_stepsFrom_13 : decode cX3_stepsFrom 13 = .ok (.getfield 22, 3) := by decide +kernel
theorem dX3_stepsFrom_16 : decode cX3_stepsFrom 16 = .ok (.iload_n 1, 1) := by decide +kernel
theorem dX3_stepsFrom_17 : decode cX3_stepsFrom 17 = .ok (.iaload, 1) := by decide +kernel
theorem dX3_stepsFrom_18 : decode cX3_stepsFrom 18 = .ok (.goto 4, 3) := by decide +kernel
theorem dX3_stepsFrom_21 : decode cX3_stepsFrom 21 = .ok (.iconst 0, 1) := by decide +kernel
theorem dX3_stepsFrom_22 : decode cX3_stepsFrom 22 = .ok (.ireturn, 1) := by decide +kernel
theorem dX3_withLetter_0 : decode cX3_withLetter 0 = .ok (.iconst 0, 1) := by decide +kernel
theorem dX3_withLetter_1 : decode cX3_withLetter 1 = .ok (.istore_n 2, 1) := by decide +kernel
theorem dX3_withLetter_2 : decode cX3_withLetter 2 = .ok (.iconst 0, 1) := by decide +kernel
theorem dX3_withLetter_3 : decode cX3_withLetter 3 = .ok (.istore_n 3, 1) := by decide +kernel
theorem dX3_withLetter_4 : decode cX3_withLetter 4 = .ok (.iload_n 3, 1) := by decide +kernel
theorem dX3_withLetter_5 : decode cX3_withLetter 5 = .ok (.aload_n 0, 1) := by decide +kernel
theorem dX3_withLetter_6 : decode cX3_withLetter 6 = .ok (.getfield 9, 3) := by decide +kernel
theorem dX3_withLetter_9 : decode cX3_withLetter 9 = .ok (.if_icmp .ge 24, 3) := by decide +kernel
theorem dX3_withLetter_12 : decode cX3_withLetter 12 = .ok (.iload_n 2, 1) := by decide +kernel
theorem dX3_withLetter_13 : decode cX3_withLetter 13 = .ok (.aload_n 0, 1) := by decide +kernel
theorem dX3_withLetter_14 : decode cX3_withLetter 14 = .ok (.getfield 18, 3) := by decide +kernel
theorem dX3_withLetter_17 : decode cX3_withLetter 17 = .ok (.iload_n 3, 1) := by decide +kernel
theorem dX3_withLetter_18 : decode cX3_withLetter 18 = .ok (.iaload, 1) := by decide +kernel
theorem dX3_withLetter_19 : decode cX3_withLetter 19 = .ok (.iload_n 1, 1) := by decide +kernel
theorem dX3_withLetter_20 : decode cX3_withLetter 20 = .ok (.ishr, 1) := by decide +kernel
theorem dX3_withLetter_21 : decode cX3_withLetter 21 = .ok (.iconst 1, 1) := by decide +kernel
theorem dX3_withLetter_22 : decode cX3_withLetter 22 = .ok (.iand, 1) := by decide +kernel
theorem dX3_withLetter_23 : decode cX3_withLetter 23 = .ok (.iload_n 3, 1) := by decide +kernel
theorem dX3_withLetter_24 : decode cX3_withLetter 24 = .ok (.ishl, 1) := by decide +kernel
theorem dX3_withLetter_25 : decode cX3_withLetter 25 = .ok (.ior, 1) := by decide +kernel
theorem dX3_withLetter_26 : decode cX3_withLetter 26 = .ok (.istore_n 2, 1) := by decide +kernel
theorem dX3_withLetter_27 : decode cX3_withLetter 27 = .ok (.iinc 3 1, 3) := by decide +kernel
theorem dX3_withLetter_30 : decode cX3_withLetter 30 = .ok (.goto (-26), 3) := by decide +kernel
theorem dX3_withLetter_33 : decode cX3_withLetter 33 = .ok (.iload_n 2, 1) := by decide +kernel
theorem dX3_withLetter_34 : decode cX3_withLetter 34 = .ok (.ireturn, 1) := by decide +kernel
theorem dX3_leadingInto_0 : decode cX3_leadingInto 0 = .ok (.iconst 0, 1) := by decide +kernel
theorem dX3_leadingInto_1 : decode cX3_leadingInto 1 = .ok (.istore_n 2, 1) := by decide +kernel
theorem dX3_leadingInto_2 : decode cX3_leadingInto 2 = .ok (.iconst 0, 1) := by decide +kernel
theorem dX3_leadingInto_3 : decode cX3_leadingInto 3 = .ok (.istore_n 3, 1) := by decide +kernel
theorem dX3_leadingInto_4 : decode cX3_leadingInto 4 = .ok (.iload_n 3, 1) := by decide +kernel
theorem dX3_leadingInto_5 : decode cX3_leadingInto 5 = .ok (.aload_n 0, 1) := by decide +kernel
theorem dX3_leadingInto_6 : decode cX3_leadingInto 6 = .ok (.getfield 9, 3) := by decide +kernel
theorem dX3_leadingInto_9 : decode cX3_leadingInto 9 = .ok (.if_icmp .ge 26, 3) := by decide +kernel
theorem dX3_leadingInto_12 : decode cX3_leadingInto 12 = .ok (.aload_n 0, 1) := by decide +kernel
theorem dX3_leadingInto_13 : decode cX3_leadingInto 13 = .ok (.getfield 22, 3) := by decide +kernel
theorem dX3_leadingInto_16 : decode cX3_leadingInto 16 = .ok (.iload_n 3, 1) := by decide +kernel
theorem dX3_leadingInto_17 : decode cX3_leadingInto 17 = .ok (.iaload, 1) := by decide +kernel
theorem dX3_leadingInto_18 : decode cX3_leadingInto 18 = .ok (.iload_n 1, 1) := by decide +kernel
theorem dX3_leadingInto_19 : decode cX3_leadingInto 19 = .ok (.iand, 1) := by decide +kernel
theorem dX3_leadingInto_20 : decode cX3_leadingInto 20 = .ok (.ifCond .eq 9, 3) := by decide +kernel
theorem dX3_leadingInto_23 : decode cX3_leadingInto 23 = .ok (.iload_n 2, 1) := by decide +kernel
theorem dX3_leadingInto_24 : decode cX3_leadingInto 24 = .ok (.iconst 1, 1) := by decide +kernel
theorem dX3_leadingInto_25 : decode cX3_leadingInto 25 = .ok (.iload_n 3, 1) := by decide +kernel
theorem dX3_leadingInto_26 : decode cX3_leadingInto 26 = .ok (.ishl, 1) := by decide +kernel
theorem dX3_leadingInto_27 : decode cX3_leadingInto 27 = .ok (.ior, 1) := by decide +kernel
theorem dX3_leadingInto_28 : decode cX3_leadingInto 28 = .ok (.istore_n 2, 1) := by decide +kernel
theorem dX3_leadingInto_29 : decode cX3_leadingInto 29 = .ok (.iinc 3 1, 3) := by decide +kernel
theorem dX3_leadingInto_32 : decode cX3_leadingInto 32 = .ok (.goto (-28), 3) := by decide +kernel
theorem dX3_leadingInto_35 : decode cX3_leadingInto 35 = .ok (.iload_n 2, 1) := by decide +kernel
theorem dX3_leadingInto_36 : decode cX3_leadingInto 36 = .ok (.ireturn, 1) := by decide +kernel
theorem dX3_countSteps_0 : decode cX3_countSteps 0 = .ok (.iconst 0, 1) := by decide +kernel
theorem dX3_countSteps_1 : decode cX3_countSteps 1 = .ok (.istore_n 1, 1) := by decide +kernel
theorem dX3_countSteps_2 : decode cX3_countSteps 2 = .ok (.iconst 0, 1) := by decide +kernel
theorem dX3_countSteps_3 : decode cX3_countSteps 3 = .ok (.istore_n 2, 1) := by decide +kernel
theorem dX3_countSteps_4 : decode cX3_countSteps 4 = .ok (.iload_n 2, 1) := by decide +kernel
theorem dX3_countSteps_5 : decode cX3_countSteps 5 = .ok (.aload_n 0, 1) := by decide +kernel
theorem dX3_countSteps_6 : decode cX3_countSteps 6 = .ok (.getfield 9, 3) := by decide +kernel
theorem dX3_countSteps_9 : decode cX3_countSteps 9 = .ok (.if_icmp .ge 21, 3) := by decide +kernel
theorem dX3_countSteps_12 : decode cX3_countSteps 12 = .ok (.iload_n 1, 1) := by decide +kernel
theorem dX3_countSteps_13 : decode cX3_countSteps 13 = .ok (.aload_n 0, 1) := by decide +kernel
theorem dX3_countSteps_14 : decode cX3_countSteps 14 = .ok (.getfield 22, 3) := by decide +kernel
theorem dX3_countSteps_17 : decode cX3_countSteps 17 = .ok (.iload_n 2, 1) := by decide +kernel
theorem dX3_countSteps_18 : decode cX3_countSteps 18 = .ok (.iaload, 1) := by decide +kernel
theorem dX3_countSteps_19 : decode cX3_countSteps 19 = .ok (.invokestatic 38, 3) := by decide +kernel
theorem dX3_countSteps_22 : decode cX3_countSteps 22 = .ok (.iadd, 1) := by decide +kernel
theorem dX3_countSteps_23 : decode cX3_countSteps 23 = .ok (.istore_n 1, 1) := by decide +kernel
theorem dX3_countSteps_24 : decode cX3_countSteps 24 = .ok (.iinc 2 1, 3) := by decide +kernel
theorem dX3_countSteps_27 : decode cX3_countSteps 27 = .ok (.goto (-23), 3) := by decide +kernel
theorem dX3_countSteps_30 : decode cX3_countSteps 30 = .ok (.iload_n 1, 1) := by decide +kernel
theorem dX3_countSteps_31 : decode cX3_countSteps 31 = .ok (.ireturn, 1) := by decide +kernel
theorem dX3_putWorld_0 : decode cX3_putWorld 0 = .ok (.aload_n 0, 1) := by decide +kernel
theorem dX3_putWorld_1 : decode cX3_putWorld 1 = .ok (.getfield 9, 3) := by decide +kernel
theorem dX3_putWorld_4 : decode cX3_putWorld 4 = .ok (.istore_n 2, 1) := by decide +kernel
theorem dX3_putWorld_5 : decode cX3_putWorld 5 = .ok (.iload_n 2, 1) := by decide +kernel
theorem dX3_putWorld_6 : decode cX3_putWorld 6 = .ok (.bipush 10, 2) := by decide +kernel
theorem dX3_putWorld_8 : decode cX3_putWorld 8 = .ok (.if_icmp .ge 24, 3) := by decide +kernel
theorem dX3_putWorld_11 : decode cX3_putWorld 11 = .ok (.aload_n 0, 1) := by decide +kernel
theorem dX3_putWorld_12 : decode cX3_putWorld 12 = .ok (.getfield 18, 3) := by decide +kernel
theorem dX3_putWorld_15 : decode cX3_putWorld 15 = .ok (.iload_n 2, 1) := by decide +kernel
theorem dX3_putWorld_16 : decode cX3_putWorld 16 = .ok (.iload_n 1, 1) := by decide +kernel
theorem dX3_putWorld_17 : decode cX3_putWorld 17 = .ok (.iastore, 1) := by decide +kernel
theorem dX3_putWorld_18 : decode cX3_putWorld 18 = .ok (.aload_n 0, 1) := by decide +kernel
theorem dX3_putWorld_19 : decode cX3_putWorld 19 = .ok (.getfield 22, 3) := by decide +kernel
theorem dX3_putWorld_22 : decode cX3_putWorld 22 = .ok (.iload_n 2, 1) := by decide +kernel
theorem dX3_putWorld_23 : decode cX3_putWorld 23 = .ok (.iconst 0, 1) := by decide +kernel
theorem dX3_putWorld_24 : decode cX3_putWorld 24 = .ok (.iastore, 1) := by decide +kernel
theorem dX3_putWorld_25 : decode cX3_putWorld 25 = .ok (.aload_n 0, 1) := by decide +kernel
theorem dX3_putWorld_26 : decode cX3_putWorld 26 = .ok (.iload_n 2, 1) := by decide +kernel
theorem dX3_putWorld_27 : decode cX3_putWorld 27 = .ok (.iconst 1, 1) := by decide +kernel
theorem dX3_putWorld_28 : decode cX3_putWorld 28 = .ok (.iadd, 1) := by decide +kernel
theorem dX3_putWorld_29 : decode cX3_putWorld 29 = .ok (.putfield 9, 3) := by decide +kernel
theorem dX3_putWorld_32 : decode cX3_putWorld 32 = .ok (.iload_n 2, 1) := by decide +kernel
theorem dX3_putWorld_33 : decode cX3_putWorld 33 = .ok (.ireturn, 1) := by decide +kernel
theorem dX3_turnStep_0 : decode cX3_turnStep 0 = .ok (.aload_n 0, 1) := by decide +kernel
theorem dX3_turnStep_1 : decode cX3_turnStep 1 = .ok (.iload_n 1, 1) := by decide +kernel
theorem dX3_turnStep_2 : decode cX3_turnStep 2 = .ok (.invokevirtual 44, 3) := by decide +kernel
theorem dX3_turnStep_5 : decode cX3_turnStep 5 = .ok (.ifCond .eq 23, 3) := by decide +kernel
theorem dX3_turnStep_8 : decode cX3_turnStep 8 = .ok (.aload_n 0, 1) := by decide +kernel
theorem dX3_turnStep_9 : decode cX3_turnStep 9 = .ok (.iload_n 2, 1) := by decide +kernel
theorem dX3_turnStep_10 : decode cX3_turnStep 10 = .ok (.invokevirtual 44, 3) := by decide +kernel
theorem dX3_turnStep_13 : decode cX3_turnStep 13 = .ok (.ifCond .eq 15, 3) := by decide +kernel
theorem dX3_turnStep_16 : decode cX3_turnStep 16 = .ok (.aload_n 0, 1) := by decide +kernel
theorem dX3_turnStep_17 : decode cX3_turnStep 17 = .ok (.getfield 22, 3) := by decide +kernel
theorem dX3_turnStep_20 : decode cX3_turnStep 20 = .ok (.iload_n 1, 1) := by decide +kernel
theorem dX3_turnStep_21 : decode cX3_turnStep 21 = .ok (.dup2, 1) := by decide +kernel
theorem dX3_turnStep_22 : decode cX3_turnStep 22 = .ok (.iaload, 1) := by decide +kernel
theorem dX3_turnStep_23 : decode cX3_turnStep 23 = .ok (.iconst 1, 1) := by decide +kernel
theorem dX3_turnStep_24 : decode cX3_turnStep 24 = .ok (.iload_n 2, 1) := by decide +kernel
theorem dX3_turnStep_25 : decode cX3_turnStep 25 = .ok (.ishl, 1) := by decide +kernel
theorem dX3_turnStep_26 : decode cX3_turnStep 26 = .ok (.ixor, 1) := by decide +kernel
theorem dX3_turnStep_27 : decode cX3_turnStep 27 = .ok (.iastore, 1) := by decide +kernel
theorem dX3_turnStep_28 : decode cX3_turnStep 28 = .ok (.return_, 1) := by decide +kernel
theorem dX3_lengthOf_0 : decode cX3_lengthOf 0 = .ok (.iload_n 1, 1) := by decide +kernel
theorem dX3_lengthOf_1 : decode cX3_lengthOf 1 = .ok (.ifCond .lt 17, 3) := by decide +kernel
theorem dX3_lengthOf_4 : decode cX3_lengthOf 4 = .ok (.iload_n 1, 1) := by decide +kernel
theorem dX3_lengthOf_5 : decode cX3_lengthOf 5 = .ok (.iconst 4, 1) := by decide +kernel
theorem dX3_lengthOf_6 : decode cX3_lengthOf 6 = .ok (.if_icmp .ge 12, 3) := by decide +kernel
theorem dX3_lengthOf_9 : decode cX3_lengthOf 9 = .ok (.aload_n 0, 1) := by decide +kernel
theorem dX3_lengthOf_10 : decode cX3_lengthOf 10 = .ok (.getfield 25, 3) := by decide +kernel
theorem dX3_lengthOf_13 : decode cX3_lengthOf 13 = .ok (.iload_n 1, 1) := by decide +kernel
theorem dX3_lengthOf_14 : decode cX3_lengthOf 14 = .ok (.iaload, 1) := by decide +kernel
theorem dX3_lengthOf_15 : decode cX3_lengthOf 15 = .ok (.goto 4, 3) := by decide +kernel
theorem dX3_lengthOf_18 : decode cX3_lengthOf 18 = .ok (.iconst 0, 1) := by decide +kernel
theorem dX3_lengthOf_19 : decode cX3_lengthOf 19 = .ok (.ireturn, 1) := by decide +kernel
theorem dX3_signAt_0 : decode cX3_signAt 0 = .ok (.iload_n 2, 1) := by decide +kernel
theorem dX3_signAt_1 : decode cX3_signAt 1 = .ok (.ifCond .lt 26, 3) := by decide +kernel
theorem dX3_signAt_4 : decode cX3_signAt 4 = .ok (.iload_n 2, 1) := by decide +kernel
theorem dX3_signAt_5 : decode cX3_signAt 5 = .ok (.aload_n 0, 1) := by decide +kernel
theorem dX3_signAt_6 : decode cX3_signAt 6 = .ok (.iload_n 1, 1) := by decide +kernel
theorem dX3_signAt_7 : decode cX3_signAt 7 = .ok (.invokevirtual 48, 3) := by decide +kernel
theorem dX3_signAt_10 : decode cX3_signAt 10 = .ok (.if_icmp .ge 17, 3) := by decide +kernel
theorem dX3_signAt_13 : decode cX3_signAt 13 = .ok (.aload_n 0, 1) := by decide +kernel
theorem dX3_signAt_14 : decode cX3_signAt 14 = .ok (.getfield 28, 3) := by decide +kernel
theorem dX3_signAt_17 : decode cX3_signAt 17 = .ok (.iload_n 1, 1) := by decide +kernel
theorem dX3_signAt_18 : decode cX3_signAt 18 = .ok (.bipush 40, 2) := by decide +kernel
theorem dX3_signAt_20 : decode cX3_signAt 20 = .ok (.imul, 1) := by decide +kernel
theorem dX3_signAt_21 : decode cX3_signAt 21 = .ok (.iload_n 2, 1) := by decide +kernel
theorem dX3_signAt_22 : decode cX3_signAt 22 = .ok (.iadd, 1) := by decide +kernel
theorem dX3_signAt_23 : decode cX3_signAt 23 = .ok (.caload, 1) := by decide +kernel
theorem dX3_signAt_24 : decode cX3_signAt 24 = .ok (.goto 4, 3) := by decide +kernel
theorem dX3_signAt_27 : decode cX3_signAt 27 = .ok (.iconst 0, 1) := by decide +kernel
theorem dX3_signAt_28 : decode cX3_signAt 28 = .ok (.ireturn, 1) := by decide +kernel
theorem dX3_putSign_0 : decode cX3_putSign 0 = .ok (.iload_n 1, 1) := by decide +kernel
theorem dX3_putSign_1 : decode cX3_putSign 1 = .ok (.ifCond .lt 30, 3) := by decide +kernel
theorem dX3_putSign_4 : decode cX3_putSign 4 = .ok (.iload_n 1, 1) := by decide +kernel
theorem dX3_putSign_5 : decode cX3_putSign 5 = .ok (.iconst 4, 1) := by decide +kernel
theorem dX3_putSign_6 : decode cX3_putSign 6 = .ok (.if_icmp .ge 25, 3) := by decide +kernel
theorem dX3_putSign_9 : decode cX3_putSign 9 = .ok (.iload_n 2, 1) := by decide +kernel
theorem dX3_putSign_10 : decode cX3_putSign 10 = .ok (.ifCond .lt 21, 3) := by decide +kernel
theorem dX3_putSign_13 : decode cX3_putSign 13 = .ok (.iload_n 2, 1) := by decide +kernel
theorem dX3_putSign_14 : decode cX3_putSign 14 = .ok (.bipush 40, 2) := by decide +kernel
theorem dX3_putSign_16 : decode cX3_putSign 16 = .ok (.if_icmp .ge 15, 3) := by decide +kernel
theorem dX3_putSign_19 : decode cX3_putSign 19 = .ok (.aload_n 0, 1) := by decide +kernel
theorem dX3_putSign_20 : decode cX3_putSign 20 = .ok (.getfield 28, 3) := by decide +kernel
theorem dX3_putSign_23 : decode cX3_putSign 23 = .ok (.iload_n 1, 1) := by decide +kernel
theorem dX3_putSign_24 : decode cX3_putSign 24 = .ok (.bipush 40, 2) := by decide +kernel
theorem dX3_putSign_26 : decode cX3_putSign 26 = .ok (.imul, 1) := by decide +kernel
theorem dX3_putSign_27 : decode cX3_putSign 27 = .ok (.iload_n 2, 1) := by decide +kernel
theorem dX3_putSign_28 : decode cX3_putSign 28 = .ok (.iadd, 1) := by decide +kernel
theorem dX3_putSign_29 : decode cX3_putSign 29 = .ok (.iload_n 3, 1) := by decide +kernel
theorem dX3_putSign_30 : decode cX3_putSign 30 = .ok (.castore, 1) := by decide +kernel
theorem dX3_putSign_31 : decode cX3_putSign 31 = .ok (.return_, 1) := by decide +kernel
theorem dX3_putLength_0 : decode cX3_putLength 0 = .ok (.iload_n 1, 1) := by decide +kernel
theorem dX3_putLength_1 : decode cX3_putLength 1 = .ok (.ifCond .lt 25, 3) := by decide +kernel
theorem dX3_putLength_4 : decode cX3_putLength 4 = .ok (.iload_n 1, 1) := by decide +kernel
theorem dX3_putLength_5 : decode cX3_putLength 5 = .ok (.iconst 4, 1) := by decide +kernel
theorem dX3_putLength_6 : decode cX3_putLength 6 = .ok (.if_icmp .ge 20, 3) := by decide +kernel
theorem dX3_putLength_9 : decode cX3_putLength 9 = .ok (.iload_n 2, 1) := by decide +kernel
theorem dX3_putLength_10 : decode cX3_putLength 10 = .ok (.ifCond .lt 16, 3) := by decide +kernel
theorem dX3_putLength_13 : decode cX3_putLength 13 = .ok (.iload_n 2, 1) := by decide +kernel
theorem dX3_putLength_14 : decode cX3_putLength 14 = .ok (.bipush 40, 2) := by decide +kernel
theorem dX3_putLength_16 : decode cX3_putLength 16 = .ok (.if_icmp .gt 10, 3) := by decide +kernel
theorem dX3_putLength_19 : decode cX3_putLength 19 = .ok (.aload_n 0, 1) := by decide +kernel
theorem dX3_putLength_20 : decode cX3_putLength 20 = .ok (.getfield 25, 3) := by decide +kernel
theorem dX3_putLength_23 : decode cX3_putLength 23 = .ok (.iload_n 1, 1) := by decide +kernel
theorem dX3_putLength_24 : decode cX3_putLength 24 = .ok (.iload_n 2, 1) := by decide +kernel
theorem dX3_putLength_25 : decode cX3_putLength 25 = .ok (.iastore, 1) := by decide +kernel
theorem dX3_putLength_26 : decode cX3_putLength 26 = .ok (.return_, 1) := by decide +kernel
theorem dX3_putWish_0 : decode cX3_putWish 0 = .ok (.iconst 0, 1) := by decide +kernel
theorem dX3_putWish_1 : decode cX3_putWish 1 = .ok (.istore_n 3, 1) := by decide +kernel
theorem dX3_putWish_2 : decode cX3_putWish 2 = .ok (.iload_n 3, 1) := by decide +kernel
theorem dX3_putWish_3 : decode cX3_putWish 3 = .ok (.aload_n 2, 1) := by decide +kernel
theorem dX3_putWish_4 : decode cX3_putWish 4 = .ok (.getfield 51, 3) := by decide +kernel
theorem dX3_putWish_7 : decode cX3_putWish 7 = .ok (.if_icmp .ge 20, 3) := by decide +kernel
theorem dX3_putWish_10 : decode cX3_putWish 10 = .ok (.aload_n 0, 1) := by decide +kernel
theorem dX3_putWish_11 : decode cX3_putWish 11 = .ok (.iload_n 1, 1) := by decide +kernel
theorem dX3_putWish_12 : decode cX3_putWish 12 = .ok (.iload_n 3, 1) := by decide +kernel
theorem dX3_putWish_13 : decode cX3_putWish 13 = .ok (.aload_n 2, 1) := by decide +kernel
theorem dX3_putWish_14 : decode cX3_putWish 14 = .ok (.iload_n 3, 1) := by decide +kernel
theorem dX3_putWish_15 : decode cX3_putWish 15 = .ok (.invokevirtual 56, 3) := by decide +kernel
theorem dX3_putWish_18 : decode cX3_putWish 18 = .ok (.invokevirtual 60, 3) := by decide +kernel
theorem dX3_putWish_21 : decode cX3_putWish 21 = .ok (.iinc 3 1, 3) := by decide +kernel
theorem dX3_putWish_24 : decode cX3_putWish 24 = .ok (.goto (-22), 3) := by decide +kernel
theorem dX3_putWish_27 : decode cX3_putWish 27 = .ok (.aload_n 0, 1) := by decide +kernel
theorem dX3_putWish_28 : decode cX3_putWish 28 = .ok (.iload_n 1, 1) := by decide +kernel
theorem dX3_putWish_29 : decode cX3_putWish 29 = .ok (.aload_n 2, 1) := by decide +kernel
theorem dX3_putWish_30 : decode cX3_putWish 30 = .ok (.getfield 51, 3) := by decide +kernel
theorem dX3_putWish_33 : decode cX3_putWish 33 = .ok (.invokevirtual 64, 3) := by decide +kernel
theorem dX3_putWish_36 : decode cX3_putWish 36 = .ok (.return_, 1) := by decide +kernel
theorem dX3_putNot_0 : decode cX3_putNot 0 = .ok (.aload_n 0, 1) := by decide +kernel
theorem dX3_putNot_1 : decode cX3_putNot 1 = .ok (.iload_n 1, 1) := by decide +kernel
theorem dX3_putNot_2 : decode cX3_putNot 2 = .ok (.invokevirtual 48, 3) := by decide +kernel
theorem dX3_putNot_5 : decode cX3_putNot 5 = .ok (.istore_n 2, 1) := by decide +kernel
theorem dX3_putNot_6 : decode cX3_putNot 6 = .ok (.iload_n 2, 1) := by decide +kernel
theorem dX3_putNot_7 : decode cX3_putNot 7 = .ok (.istore_n 3, 1) := by decide +kernel
theorem dX3_putNot_8 : decode cX3_putNot 8 = .ok (.iload_n 3, 1) := by decide +kernel
theorem dX3_putNot_9 : decode cX3_putNot 9 = .ok (.ifCond .le 23, 3) := by decide +kernel
theorem dX3_putNot_12 : decode cX3_putNot 12 = .ok (.aload_n 0, 1) := by decide +kernel
theorem dX3_putNot_13 : decode cX3_putNot 13 = .ok (.iload_n 1, 1) := by decide +kernel
theorem dX3_putNot_14 : decode cX3_putNot 14 = .ok (.iload_n 3, 1) := by decide +kernel
theorem dX3_putNot_15 : decode cX3_putNot 15 = .ok (.aload_n 0, 1) := by decide +kernel
theorem dX3_putNot_16 : decode cX3_putNot 16 = .ok (.iload_n 1, 1) := by decide +kernel
theorem dX3_putNot_17 : decode cX3_putNot 17 = .ok (.iload_n 3, 1) := by decide +kernel
theorem dX3_putNot_18 : decode cX3_putNot 18 = .ok (.iconst 1, 1) := by decide +kernel
theorem dX3_putNot_19 : decode cX3_putNot 19 = .ok (.isub, 1) := by decide +kernel
theorem dX3_putNot_20 : decode cX3_putNot 20 = .ok (.invokevirtual 68, 3) := by decide +kernel
theorem dX3_putNot_23 : decode cX3_putNot 23 = .ok (.invokevirtual 60, 3) := by decide +kernel
theorem dX3_putNot_26 : decode cX3_putNot 26 = .ok (.iinc 3 (-1), 3) := by decide +kernel
theorem dX3_putNot_29 : decode cX3_putNot 29 = .ok (.goto (-21), 3) := by decide +kernel
theorem dX3_putNot_32 : decode cX3_putNot 32 = .ok (.aload_n 0, 1) := by decide +kernel
theorem dX3_putNot_33 : decode cX3_putNot 33 = .ok (.iload_n 1, 1) := by decide +kernel
theorem dX3_putNot_34 : decode cX3_putNot 34 = .ok (.iconst 0, 1) := by decide +kernel
theorem dX3_putNot_35 : decode cX3_putNot 35 = .ok (.bipush 33, 2) := by decide +kernel
theorem dX3_putNot_37 : decode cX3_putNot 37 = .ok (.invokevirtual 60, 3) := by decide +kernel
theorem dX3_putNot_40 : decode cX3_putNot 40 = .ok (.aload_n 0, 1) := by decide +kernel
theorem dX3_putNot_41 : decode cX3_putNot 41 = .ok (.iload_n 1, 1) := by decide +kernel
theorem dX3_putNot_42 : decode cX3_putNot 42 = .ok (.iload_n 2, 1) := by decide +kernel
theorem dX3_putNot_43 : decode cX3_putNot 43 = .ok (.iconst 1, 1) := by decide +kernel
theorem dX3_putNot_44 : decode cX3_putNot 44 = .ok (.iadd, 1) := by decide +kernel
theorem dX3_putNot_45 : decode cX3_putNot 45 = .ok (.invokevirtual 64, 3) := by decide +kernel
theorem dX3_putNot_48 : decode cX3_putNot 48 = .ok (.return_, 1) := by decide +kernel
theorem dX3_dropNot_0 : decode cX3_dropNot 0 = .ok (.aload_n 0, 1) := by decide +kernel
theorem dX3_dropNot_1 : decode cX3_dropNot 1 = .ok (.iload_n 1, 1) := by decide +kernel
theorem dX3_dropNot_2 : decode cX3_dropNot 2 = .ok (.invokevirtual 48, 3) := by decide +kernel
theorem dX3_dropNot_5 : decode cX3_dropNot 5 = .ok (.istore_n 2, 1) := by decide +kernel
theorem dX3_dropNot_6 : decode cX3_dropNot 6 = .ok (.iconst 1, 1) := by decide +kernel
theorem dX3_dropNot_7 : decode cX3_dropNot 7 = .ok (.istore_n 3, 1) := by decide +kernel
theorem dX3_dropNot_8 : decode cX3_dropNot 8 = .ok (.iload_n 3, 1) := by decide +kernel
theorem dX3_dropNot_9 : decode cX3_dropNot 9 = .ok (.iload_n 2, 1) := by decide +kernel
theorem dX3_dropNot_10 : decode cX3_dropNot 10 = .ok (.if_icmp .ge 23, 3) := by decide +kernel
theorem dX3_dropNot_13 : decode cX3_dropNot 13 = .ok (.aload_n 0, 1) := by decide +kernel
theorem dX3_dropNot_14 : decode cX3_dropNot 14 = .ok (.iload_n 1, 1) := by decide +kernel
theorem dX3_dropNot_15 : decode cX3_dropNot 15 = .ok (.iload_n 3, 1) := by decide +kernel
theorem dX3_dropNot_16 : decode cX3_dropNot 16 = .ok (.iconst 1, 1) := by decide +kernel
theorem dX3_dropNot_17 : decode cX3_dropNot 17 = .ok (.isub, 1) := by decide +kernel
theorem dX3_dropNot_18 : decode cX3_dropNot 18 = .ok (.aload_n 0, 1) := by decide +kernel
theorem dX3_dropNot_19 : decode cX3_dropNot 19 = .ok (.iload_n 1, 1) := by decide +kernel
theorem dX3_dropNot_20 : decode cX3_dropNot 20 = .ok (.iload_n 3, 1) := by decide +kernel
theorem dX3_dropNot_21 : decode cX3_dropNot 21 = .ok (.invokevirtual 68, 3) := by decide +kernel
theorem dX3_dropNot_24 : decode cX3_dropNot 24 = .ok (.invokevirtual 60, 3) := by decide +kernel
theorem dX3_dropNot_27 : decode cX3_dropNot 27 = .ok (.iinc 3 1, 3) := by decide +kernel
theorem dX3_dropNot_30 : decode cX3_dropNot 30 = .ok (.goto (-22), 3) := by decide +kernel
theorem dX3_dropNot_33 : decode cX3_dropNot 33 = .ok (.aload_n 0, 1) := by decide +kernel
theorem dX3_dropNot_34 : decode cX3_dropNot 34 = .ok (.iload_n 1, 1) := by decide +kernel
theorem dX3_dropNot_35 : decode cX3_dropNot 35 = .ok (.iload_n 2, 1) := by decide +kernel
theorem dX3_dropNot_36 : decode cX3_dropNot 36 = .ok (.iconst 1, 1) := by decide +kernel
theorem dX3_dropNot_37 : decode cX3_dropNot 37 = .ok (.isub, 1) := by decide +kernel
theorem dX3_dropNot_38 : decode cX3_dropNot 38 = .ok (.invokevirtual 64, 3) := by decide +kernel
theorem dX3_dropNot_41 : decode cX3_dropNot 41 = .ok (.return_, 1) := by decide +kernel
theorem dX3_countWishes_0 : decode cX3_countWishes 0 = .ok (.iconst 0, 1) := by decide +kernel
theorem dX3_countWishes_1 : decode cX3_countWishes 1 = .ok (.istore_n 1, 1) := by decide +kernel
theorem dX3_countWishes_2 : decode cX3_countWishes 2 = .ok (.iconst 0, 1) := by decide +kernel
theorem dX3_countWishes_3 : decode cX3_countWishes 3 = .ok (.istore_n 2, 1) := by decide +kernel
theorem dX3_countWishes_4 : decode cX3_countWishes 4 = .ok (.iload_n 2, 1) := by decide +kernel
theorem dX3_countWishes_5 : decode cX3_countWishes 5 = .ok (.iconst 4, 1) := by decide +kernel
theorem dX3_countWishes_6 : decode cX3_countWishes 6 = .ok (.if_icmp .ge 25, 3) := by decide +kernel
theorem dX3_countWishes_9 : decode cX3_countWishes 9 = .ok (.iload_n 1, 1) := by decide +kernel
theorem dX3_countWishes_10 : decode cX3_countWishes 10 = .ok (.aload_n 0, 1) := by decide +kernel
theorem dX3_countWishes_11 : decode cX3_countWishes 11 = .ok (.iload_n 2, 1) := by decide +kernel
theorem dX3_countWishes_12 : decode cX3_countWishes 12 = .ok (.invokevirtual 48, 3) := by decide +kernel
theorem dX3_countWishes_15 : decode cX3_countWishes 15 = .ok (.ifCond .le 7, 3) := by decide +kernel
theorem dX3_countWishes_18 : decode cX3_countWishes 18 = .ok (.iconst 1, 1) := by decide +kernel
theorem dX3_countWishes_19 : decode cX3_countWishes 19 = .ok (.goto 4, 3) := by decide +kernel
theorem dX3_countWishes_22 : decode cX3_countWishes 22 = .ok (.iconst 0, 1) := by decide +kernel
theorem dX3_countWishes_23 : decode cX3_countWishes 23 = .ok (.iadd, 1) := by decide +kernel
theorem dX3_countWishes_24 : decode cX3_countWishes 24 = .ok (.istore_n 1, 1) := by decide +kernel
theorem dX3_countWishes_25 : decode cX3_countWishes 25 = .ok (.iinc 2 1, 3) := by decide +kernel
theorem dX3_countWishes_28 : decode cX3_countWishes 28 = .ok (.goto (-24), 3) := by decide +kernel
theorem dX3_countWishes_31 : decode cX3_countWishes 31 = .ok (.iload_n 1, 1) := by decide +kernel
theorem dX3_countWishes_32 : decode cX3_countWishes 32 = .ok (.ireturn, 1) := by decide +kernel
theorem dX3_countSigns_0 : decode cX3_countSigns 0 = .ok (.iconst 0, 1) := by decide +kernel
theorem dX3_countSigns_1 : decode cX3_countSigns 1 = .ok (.istore_n 1, 1) := by decide +kernel
theorem dX3_countSigns_2 : decode cX3_countSigns 2 = .ok (.iconst 0, 1) := by decide +kernel
theorem dX3_countSigns_3 : decode cX3_countSigns 3 = .ok (.istore_n 2, 1) := by decide +kernel
theorem dX3_countSigns_4 : decode cX3_countSigns 4 = .ok (.iload_n 2, 1) := by decide +kernel
theorem dX3_countSigns_5 : decode cX3_countSigns 5 = .ok (.iconst 4, 1) := by decide +kernel
theorem dX3_countSigns_6 : decode cX3_countSigns 6 = .ok (.if_icmp .ge 17, 3) := by decide +kernel
theorem dX3_countSigns_9 : decode cX3_countSigns 9 = .ok (.iload_n 1, 1) := by decide +kernel
theorem dX3_countSigns_10 : decode cX3_countSigns 10 = .ok (.aload_n 0, 1) := by decide +kernel
theorem dX3_countSigns_11 : decode cX3_countSigns 11 = .ok (.iload_n 2, 1) := by decide +kernel
theorem dX3_countSigns_12 : decode cX3_countSigns 12 = .ok (.invokevirtual 48, 3) := by decide +kernel
theorem dX3_countSigns_15 : decode cX3_countSigns 15 = .ok (.iadd, 1) := by decide +kernel
theorem dX3_countSigns_16 : decode cX3_countSigns 16 = .ok (.istore_n 1, 1) := by decide +kernel
theorem dX3_countSigns_17 : decode cX3_countSigns 17 = .ok (.iinc 2 1, 3) := by decide +kernel
theorem dX3_countSigns_20 : decode cX3_countSigns 20 = .ok (.goto (-16), 3) := by decide +kernel
theorem dX3_countSigns_23 : decode cX3_countSigns 23 = .ok (.iload_n 1, 1) := by decide +kernel
theorem dX3_countSigns_24 : decode cX3_countSigns 24 = .ok (.ireturn, 1) := by decide +kernel
theorem dX4_init_0 : decode cX4_init 0 = .ok (.aload_n 0, 1) := by decide +kernel
theorem dX4_init_1 : decode cX4_init 1 = .ok (.invokespecial 3, 3) := by decide +kernel
theorem dX4_init_4 : decode cX4_init 4 = .ok (.aload_n 0, 1) := by decide +kernel
theorem dX4_init_5 : decode cX4_init 5 = .ok (.iconst 0, 1) := by decide +kernel
theorem dX4_init_6 : decode cX4_init 6 = .ok (.putfield 9, 3) := by decide +kernel
theorem dX4_init_9 : decode cX4_init 9 = .ok (.aload_n 0, 1) := by decide +kernel
theorem dX4_init_10 : decode cX4_init 10 = .ok (.bipush 60, 2) := by decide +kernel
theorem dX4_init_12 : decode cX4_init 12 = .ok (.newarray .char, 2) := by decide +kernel
theorem dX4_init_14 : decode cX4_init 14 = .ok (.putfield 15, 3) := by decide +kernel
theorem dX4_init_17 : decode cX4_init 17 = .ok (.aload_n 0, 1) := by decide +kernel
theorem dX4_init_18 : decode cX4_init 18 = .ok (.iconst 1, 1) := by decide +kernel
theorem dX4_init_19 : decode cX4_init 19 = .ok (.putfield 19, 3) := by decide +kernel
theorem dX4_init_22 : decode cX4_init 22 = .ok (.aload_n 0, 1) := by decide +kernel
theorem dX4_init_23 : decode cX4_init 23 = .ok (.iconst 0, 1) := by decide +kernel
theorem dX4_init_24 : decode cX4_init 24 = .ok (.putfield 22, 3) := by decide +kernel
theorem dX4_init_27 : decode cX4_init 27 = .ok (.return_, 1) := by decide +kernel
theorem dX4_put_0 : decode cX4_put 0 = .ok (.aload_n 0, 1) := by decide +kernel
theorem dX4_put_1 : decode cX4_put 1 = .ok (.getfield 9, 3) := by decide +kernel
theorem dX4_put_4 : decode cX4_put 4 = .ok (.ifCond .lt 32, 3) := by decide +kernel
theorem dX4_put_7 : decode cX4_put 7 = .ok (.aload_n 0, 1) := by decide +kernel
theorem dX4_put_8 : decode cX4_put 8 = .ok (.getfield 9, 3) := by decide +kernel
theorem dX4_put_11 : decode cX4_put 11 = .ok (.bipush 60, 2) := by decide +kernel
theorem dX4_put_13 : decode cX4_put 13 = .ok (.if_icmp .ge 23, 3) := by decide +kernel
theorem dX4_put_16 : decode cX4_put 16 = .ok (.aload_n 0, 1) := by decide +kernel
theorem dX4_put_17 : decode cX4_put 17 = .ok (.getfield 15, 3) := by decide +kernel
theorem dX4_put_20 : decode cX4_put 20 = .ok (.aload_n 0, 1) := by decide +kernel
theorem dX4_put_21 : decode cX4_put 21 = .ok (.getfield 9, 3) := by decide +kernel
theorem dX4_put_24 : decode cX4_put 24 = .ok (.iload_n 1, 1) := by decide +kernel
theorem dX4_put_25 : decode cX4_put 25 = .ok (.castore, 1) := by decide +kernel
theorem dX4_put_26 : decode cX4_put 26 = .ok (.aload_n 0, 1) := by decide +kernel
theorem dX4_put_27 : decode cX4_put 27 = .ok (.dup, 1) := by decide +kernel
theorem dX4_put_28 : decode cX4_put 28 = .ok (.getfield 9, 3) := by decide +kernel
theorem dX4_put_31 : decode cX4_put 31 = .ok (.iconst 1, 1) := by decide +kernel
theorem dX4_put_32 : decode cX4_put 32 = .ok (.iadd, 1) := by decide +kernel
theorem dX4_put_33 : decode cX4_put 33 = .ok (.putfield 9, 3) := by decide +kernel
theorem dX4_put_36 : decode cX4_put 36 = .ok (.return_, 1) := by decide +kernel
theorem dX4_at_0 : decode cX4_at 0 = .ok (.iload_n 1, 1) := by decide +kernel
theorem dX4_at_1 : decode cX4_at 1 = .ok (.ifCond .lt 20, 3) := by decide +kernel
theorem dX4_at_4 : decode cX4_at 4 = .ok (.iload_n 1, 1) := by decide +kernel
theorem dX4_at_5 : decode cX4_at 5 = .ok (.aload_n 0, 1) := by decide +kernel
theorem dX4_at_6 : decode cX4_at 6 = .ok (.getfield 9, 3) := by decide +kernel
theorem dX4_at_9 : decode cX4_at 9 = .ok (.if_icmp .ge 12, 3) := by decide +kernel
theorem dX4_at_12 : decode cX4_at 12 = .ok (.aload_n 0, 1) := by decide +kernel
theorem dX4_at_13 : decode cX4_at 13 = .ok (.getfield 15, 3) := by decide +kernel
theorem dX4_at_16 : decode cX4_at 16 = .ok (.iload_n 1, 1) := by decide +kernel
theorem dX4_at_17 : decode cX4_at 17 = .ok (.caload, 1) := by decide +kernel
theorem dX4_at_18 : decode cX4_at 18 = .ok (.goto 4, 3) := by decide +kernel
theorem dX4_at_21 : decode cX4_at 21 = .ok (.iconst 0, 1) := by decide +kernel
theorem dX4_at_22 : decode cX4_at 22 = .ok (.ireturn, 1) := by decide +kernel
theorem dX4_isWish_0 : decode cX4_isWish 0 = .ok (.aload_n 0, 1) := by decide +kernel
theorem dX4_isWish_1 : decode cX4_isWish 1 = .ok (.invokevirtual 26, 3) := by decide +kernel
theorem dX4_isWish_4 : decode cX4_isWish 4 = .ok (.aload_n 0, 1) := by decide +kernel
theorem dX4_isWish_5 : decode cX4_isWish 5 = .ok (.getfield 9, 3) := by decide +kernel
theorem dX4_isWish_8 : decode cX4_isWish 8 = .ok (.if_icmp .ne 14, 3) := by decide +kernel
theorem dX4_isWish_11 : decode cX4_isWish 11 = .ok (.aload_n 0, 1) := by decide +kernel
theorem dX4_isWish_12 : decode cX4_isWish 12 = .ok (.getfield 19, 3) := by decide +kernel
theorem dX4_isWish_15 : decode cX4_isWish 15 = .ok (.ifCond .ne 7, 3) := by decide +kernel
theorem dX4_isWish_18 : decode cX4_isWish 18 = .ok (.iconst 1, 1) := by decide +kernel
theorem dX4_isWish_19 : decode cX4_isWish 19 = .ok (.goto 4, 3) := by decide +kernel
theorem dX4_isWish_22 : decode cX4_isWish 22 = .ok (.iconst 0, 1) := by decide +kernel
theorem dX4_isWish_23 : decode cX4_isWish 23 = .ok (.ireturn, 1) := by decide +kernel
theorem dX4_firstFault_0 : decode cX4_firstFault 0 = .ok (.aload_n 0, 1) := by decide +kernel
theorem dX4_firstFault_1 : decode cX4_firstFault 1 = .ok (.iconst 1, 1) := by decide +kernel
theorem dX4_firstFault_2 : decode cX4_firstFault 2 = .ok (.putfield 19, 3) := by decide +kernel
theorem dX4_firstFault_5 : decode cX4_firstFault 5 = .ok (.aload_n 0, 1) := by decide +kernel
theorem dX4_firstFault_6 : decode cX4_firstFault 6 = .ok (.iconst 0, 1) := by decide +kernel
theorem dX4_firstFault_7 : decode cX4_firstFault 7 = .ok (.putfield 22, 3) := by decide +kernel
theorem dX4_firstFault_10 : decode cX4_firstFault 10 = .ok (.iconst 0, 1) := by decide +kernel
theorem dX4_firstFault_11 : decode cX4_firstFault 11 = .ok (.istore_n 1, 1) := by decide +kernel
theorem dX4_firstFault_12 : decode cX4_firstFault 12 = .ok (.iload_n 1, 1) := by decide +kernel
theorem dX4_firstFault_13 : decode cX4_firstFault 13 = .ok (.aload_n 0, 1) := by decide +kernel
theorem dX4_firstFault_14 : decode cX4_firstFault 14 = .ok (.getfield 9, 3) := by decide +kernel
theorem dX4_firstFault_17 : decode cX4_firstFault 17 = .ok (.if_icmp .ge 36, 3) := by decide +kernel
theorem dX4_firstFault_20 : decode cX4_firstFault 20 = .ok (.aload_n 0, 1) := by decide +kernel
theorem dX4_firstFault_21 : decode cX4_firstFault 21 = .ok (.aload_n 0, 1) := by decide +kernel
theorem dX4_firstFault_22 : decode cX4_firstFault 22 = .ok (.iload_n 1, 1) := by decide +kernel
theorem dX4_firstFault_23 : decode cX4_firstFault 23 = .ok (.invokevirtual 30, 3) := by decide +kernel
theorem dX4_firstFault_26 : decode cX4_firstFault 26 = .ok (.invokevirtual 34, 3) := by decide +kernel
theorem dX4_firstFault_29 : decode cX4_firstFault 29 = .ok (.ifCond .eq 16, 3) := by decide +kernel
theorem dX4_firstFault_32 : decode cX4_firstFault 32 = .ok (.iload_n 1, 1) := by decide +kernel
theorem dX4_firstFault_33 : decode cX4_firstFault 33 = .ok (.iconst 1, 1) := by decide +kernel
theorem dX4_firstFault_34 : decode cX4_firstFault 34 = .ok (.iadd, 1) := by decide +kernel
theorem dX4_firstFault_35 : decode cX4_firstFault 35 = .ok (.aload_n 0, 1) := by decide +kernel
theorem dX4_firstFault_36 : decode cX4_firstFault 36 = .ok (.invokevirtual 38, 3) := by decide +kernel
theorem dX4_firstFault_39 : decode cX4_firstFault 39 = .ok (.iadd, 1) := by decide +kernel
theorem dX4_firstFault_40 : decode cX4_firstFault 40 = .ok (.bipush 40, 2) := by decide +kernel
theorem dX4_firstFault_42 : decode cX4_firstFault 42 = .ok (.if_icmp .le 5, 3) := by decide +kernel
theorem dX4_firstFault_45 : decode cX4_firstFault 45 = .ok (.iload_n 1, 1) := by decide +kernel
theorem dX4_firstFault_46 : decode cX4_firstFault 46 = .ok (.ireturn, 1) := by decide +kernel
theorem dX4_firstFault_47 : decode cX4_firstFault 47 = .ok (.iinc 1 1, 3) := by decide +kernel
theorem dX4_firstFault_50 : decode cX4_firstFault 50 = .ok (.goto (-38), 3) := by decide +kernel
theorem dX4_firstFault_53 : decode cX4_firstFault 53 = .ok (.aload_n 0, 1) := by decide +kernel
theorem dX4_firstFault_54 : decode cX4_firstFault 54 = .ok (.getfield 9, 3) := by decide +kernel
theorem dX4_firstFault_57 : decode cX4_firstFault 57 = .ok (.ireturn, 1) := by decide +kernel
theorem dX4_leastRest_0 : decode cX4_leastRest 0 = .ok (.aload_n 0, 1) := by decide +kernel
theorem dX4_leastRest_1 : decode cX4_leastRest 1 = .ok (.getfield 19, 3) := by decide +kernel
theorem dX4_leastRest_4 : decode cX4_leastRest 4 = .ok (.aload_n 0, 1) := by decide +kernel
theorem dX4_leastRest_5 : decode cX4_leastRest 5 = .ok (.getfield 22, 3) := by decide +kernel
theorem dX4_leastRest_8 : decode cX4_leastRest 8 = .ok (.ifCond .eq 7, 3) := by decide +kernel
theorem dX4_leastRest_11 : decode cX4_leastRest 11 = .ok (.iconst 1, 1) := by decide +kernel
theorem dX4_leastRest_12 : decode cX4_leastRest 12 = .ok (.goto 4, 3) := by decide +kernel
theorem dX4_leastRest_15 : decode cX4_leastRest 15 = .ok (.iconst 0, 1) := by decide +kernel
theorem dX4_leastRest_16 : decode cX4_leastRest 16 = .ok (.iadd, 1) := by decide +kernel
theorem dX4_leastRest_17 : decode cX4_leastRest 17 = .ok (.ireturn, 1) := by decide +kernel
theorem dX4_takes_0 : decode cX4_takes 0 = .ok (.aload_n 0, 1) := by decide +kernel
theorem dX4_takes_1 : decode cX4_takes 1 = .ok (.getfield 22, 3) := by decide +kernel
theorem dX4_takes_4 : decode cX4_takes 4 = .ok (.ifCond .eq 9, 3) := by decide +kernel
theorem dX4_takes_7 : decode cX4_takes 7 = .ok (.aload_n 0, 1) := by decide +kernel
theorem dX4_takes_8 : decode cX4_takes 8 = .ok (.iload_n 1, 1) := by decide +kernel
theorem dX4_takes_9 : decode cX4_takes 9 = .ok (.invokevirtual 41, 3) := by decide +kernel
theorem dX4_takes_12 : decode cX4_takes 12 = .ok (.ireturn, 1) := by decide +kernel
theorem dX4_takes_13 : decode cX4_takes 13 = .ok (.aload_n 0, 1) := by decide +kernel
theorem dX4_takes_14 : decode cX4_takes 14 = .ok (.getfield 19, 3) := by decide +kernel
theorem dX4_takes_17 : decode cX4_takes 17 = .ok (.ifCond .le 15, 3) := by decide +kernel
theorem dX4_takes_20 : decode cX4_takes 20 = .ok (.aload_n 0, 1) := by decide +kernel
theorem dX4_takes_21 : decode cX4_takes 21 = .ok (.iload_n 1, 1) := by decide +kernel
theorem dX4_takes_22 : decode cX4_takes 22 = .ok (.invokevirtual 44, 3) := by decide +kernel
theorem dX4_takes_25 : decode cX4_takes 25 = .ok (.ifCond .eq 7, 3) := by decide +kernel
theorem dX4_takes_28 : decode cX4_takes 28 = .ok (.iconst 1, 1) := by decide +kernel
theorem dX4_takes_29 : decode cX4_takes 29 = .ok (.goto 4, 3) := by decide +kernel
theorem dX4_takes_32 : decode cX4_takes 32 = .ok (.iconst 0, 1) := by decide +kernel
theorem dX4_takes_33 : decode cX4_takes 33 = .ok (.ireturn, 1) := by decide +kernel
theorem dX4_takesSecond_0 : decode cX4_takesSecond 0 = .ok (.aload_n 0, 1) := by decide +kernel
theorem dX4_takesSecond_1 : decode cX4_takesSecond 1 = .ok (.iconst 0, 1) := by decide +kernel
theorem dX4_takesSecond_2 : decode cX4_takesSecond 2 = .ok (.putfield 22, 3) := by decide +kernel
theorem dX4_takesSecond_5 : decode cX4_takesSecond 5 = .ok (.iload_n 1, 1) := by decide +kernel
theorem dX4_takesSecond_6 : decode cX4_takesSecond 6 = .ok (.lookupswitch 56 #[(70, 54), (71, 54), (85, 42), (88, 54)], 42) := by decide +kernel
theorem dX4_takesSecond_48 : decode cX4_takesSecond 48 = .ok (.aload_n 0, 1) := by decide +kernel
theorem dX4_takesSecond_49 : decode cX4_takesSecond 49 = .ok (.dup, 1) := by decide +kernel
theorem dX4_takesSecond_50 : decode cX4_takesSecond 50 = .ok (.getfield 19, 3) := by decide +kernel
theorem dX4_takesSecond_53 : decode cX4_takesSecond 53 = .ok (.iconst 1, 1) := by decide +kernel
theorem dX4_takesSecond_54 : decode cX4_takesSecond 54 = .ok (.iadd, 1) := by decide +kernel
theorem dX4_takesSecond_55 : decode cX4_takesSecond 55 = .ok (.putfield 19, 3) := by decide +kernel
theorem dX4_takesSecond_58 : decode cX4_takesSecond 58 = .ok (.iconst 1, 1) := by decide +kernel
theorem dX4_takesSecond_59 : decode cX4_takesSecond 59 = .ok (.ireturn, 1) := by decide +kernel
theorem dX4_takesSecond_60 : decode cX4_takesSecond 60 = .ok (.iconst 1, 1) := by decide +kernel
theorem dX4_takesSecond_61 : decode cX4_takesSecond 61 = .ok (.ireturn, 1) := by decide +kernel
theorem dX4_takesSecond_62 : decode cX4_takesSecond 62 = .ok (.iconst 0, 1) := by decide +kernel
theorem dX4_takesSecond_63 : decode cX4_takesSecond 63 = .ok (.ireturn, 1) := by decide +kernel
theorem dX4_takesFirst_0 : decode cX4_takesFirst 0 = .ok (.iload_n 1, 1) := by decide +kernel
theorem dX4_takesFirst_1 : decode cX4_takesFirst 1 = .ok (.lookupswitch 124 #[(33, 103), (38, 105), (65, 117), (69, 117), (97, 91), (98, 91), (99, 91), (100, 91), (116, 91), (124, 105)], 91) := by decide +kernel
theorem dX4_takesFirst_92 : decode cX4_takesFirst 92 = .ok (.aload_n 0, 1) := by decide +kernel
theorem dX4_takesFirst_93 : decode cX4_takesFirst 93 = .ok (.dup, 1) := by decide +kernel
theorem dX4_takesFirst_94 : decode cX4_takesFirst 94 = .ok (.getfield 19, 3) := by decide +kernel
theorem dX4_takesFirst_97 : decode cX4_takesFirst 97 = .ok (.iconst 1, 1) := by decide +kernel
theorem dX4_takesFirst_98 : decode cX4_takesFirst 98 = .ok (.isub, 1) := by decide +kernel
theorem dX4_takesFirst_99 : decode cX4_takesFirst 99 = .ok (.putfield 19, 3) := by decide +kernel
theorem dX4_takesFirst_102 : decode cX4_takesFirst 102 = .ok (.iconst 1, 1) := by decide +kernel
theorem dX4_takesFirst_103 : decode cX4_takesFirst 103 = .ok (.ireturn, 1) := by decide +kernel
theorem dX4_takesFirst_104 : decode cX4_takesFirst 104 = .ok (.iconst 1, 1) := by decide +kernel
theorem dX4_takesFirst_105 : decode cX4_takesFirst 105 = .ok (.ireturn, 1) := by decide +kernel
theorem dX4_takesFirst_106 : decode cX4_takesFirst 106 = .ok (.aload_n 0, 1) := by decide +kernel
theorem dX4_takesFirst_107 : decode cX4_takesFirst 107 = .ok (.dup, 1) := by decide +kernel
theorem dX4_takesFirst_108 : decode cX4_takesFirst 108 = .ok (.getfield 19, 3) := by decide +kernel
theorem dX4_takesFirst_111 : decode cX4_takesFirst 111 = .ok (.iconst 1, 1) := by decide +kernel
theorem dX4_takesFirst_112 : decode cX4_takesFirst 112 = .ok (.iadd, 1) := by decide +kernel
theorem dX4_takesFirst_113 : decode cX4_takesFirst 113 = .ok (.putfield 19, 3) := by decide +kernel
theorem dX4_takesFirst_116 : decode cX4_takesFirst 116 = .ok (.iconst 1, 1) := by decide +kernel
theorem dX4_takesFirst_117 : decode cX4_takesFirst 117 = .ok (.ireturn, 1) := by decide +kernel
theorem dX4_takesFirst_118 : decode cX4_takesFirst 118 = .ok (.aload_n 0, 1) := by decide +kernel
theorem dX4_takesFirst_119 : decode cX4_takesFirst 119 = .ok (.iconst 1, 1) := by decide +kernel
theorem dX4_takesFirst_120 : decode cX4_takesFirst 120 = .ok (.putfield 22, 3) := by decide +kernel
theorem dX4_takesFirst_123 : decode cX4_takesFirst 123 = .ok (.iconst 1, 1) := by decide +kernel
theorem dX4_takesFirst_124 : decode cX4_takesFirst 124 = .ok (.ireturn, 1) := by decide +kernel
theorem dX4_takesFirst_125 : decode cX4_takesFirst 125 = .ok (.iconst 0, 1) := by decide +kernel
theorem dX4_takesFirst_126 : decode cX4_takesFirst 126 = .ok (.ireturn, 1) := by decide +kernel
theorem dX5_init_0 : decode cX5_init 0 = .ok (.aload_n 0, 1) := by decide +kernel
theorem dX5_init_1 : decode cX5_init 1 = .ok (.invokespecial 3, 3) := by decide +kernel
theorem dX5_init_4 : decode cX5_init 4 = .ok (.aload_n 0, 1) := by decide +kernel
theorem dX5_init_5 : decode cX5_init 5 = .ok (.iconst (-1), 1) := by decide +kernel
theorem dX5_init_6 : decode cX5_init 6 = .ok (.putfield 9, 3) := by decide +kernel
theorem dX5_init_9 : decode cX5_init 9 = .ok (.aload_n 0, 1) := by decide +kernel
theorem dX5_init_10 : decode cX5_init 10 = .ok (.iconst (-1), 1) := by decide +kernel
theorem dX5_init_11 : decode cX5_init 11 = .ok (.putfield 15, 3) := by decide +kernel
theorem dX5_init_14 : decode cX5_init 14 = .ok (.aload_n 0, 1) := by decide +kernel
theorem dX5_init_15 : decode cX5_init 15 = .ok (.new 18, 3) := by decide +kernel
theorem dX5_init_18 : decode cX5_init 18 = .ok (.dup, 1) := by decide +kernel
theorem dX5_init_19 : decode cX5_init 19 = .ok (.invokespecial 20, 3) := by decide +kernel
theorem dX5_init_22 : decode cX5_init 22 = .ok (.putfield 21, 3) := by decide +kernel
theorem dX5_init_25 : decode cX5_init 25 = .ok (.aload_n 0, 1) := by decide +kernel
theorem dX5_init_26 : decode cX5_init 26 = .ok (.new 25, 3) := by decide +kernel
theorem dX5_init_29 : decode cX5_init 29 = .ok (.dup, 1) := by decide +kernel
theorem dX5_init_30 : decode cX5_init 30 = .ok (.aload_n 0, 1) := by decide +kernel
theorem dX5_init_31 : decode cX5_init 31 = .ok (.getfield 21, 3) := by decide +kernel
theorem dX5_init_34 : decode cX5_init 34 = .ok (.invokespecial 27, 3) := by decide +kernel
theorem dX5_init_37 : decode cX5_init 37 = .ok (.putfield 30, 3) := by decide +kernel
theorem dX5_init_40 : decode cX5_init 40 = .ok (.return_, 1) := by decide +kernel
theorem dX5_worldsIfFair_0 : decode cX5_worldsIfFair 0 = .ok (.aload_n 0, 1) := by decide +kernel
theorem dX5_worldsIfFair_1 : decode cX5_worldsIfFair 1 = .ok (.aload_n 1, 1) := by decide +kernel
theorem dX5_worldsIfFair_2 : decode cX5_worldsIfFair 2 = .ok (.iload_n 2, 1) := by decide +kernel
theorem dX5_worldsIfFair_3 : decode cX5_worldsIfFair 3 = .ok (.invokevirtual 34, 3) := by decide +kernel
theorem dX5_worldsIfFair_6 : decode cX5_worldsIfFair 6 = .ok (.aload_n 0, 1) := by decide +kernel
theorem dX5_worldsIfFair_7 : decode cX5_worldsIfFair 7 = .ok (.getfield 21, 3) := by decide +kernel
theorem dX5_worldsIfFair_10 : decode cX5_worldsIfFair 10 = .ok (.iload_n 3, 1) := by decide +kernel
theorem dX5_worldsIfFair_11 : decode cX5_worldsIfFair 11 = .ok (.putfield 57, 3) := by decide +kernel
theorem dX5_worldsIfFair_14 : decode cX5_worldsIfFair 14 = .ok (.aload_n 0, 1) := by decide +kernel
theorem dX5_worldsIfFair_15 : decode cX5_worldsIfFair 15 = .ok (.getfield 30, 3) := by decide +kernel
theorem dX5_worldsIfFair_18 : decode cX5_worldsIfFair 18 = .ok (.invokevirtual 48, 3) := by decide +kernel
theorem dX5_worldsIfFair_21 : decode cX5_worldsIfFair 21 = .ok (.aload_n 0, 1) := by decide +kernel
theorem dX5_worldsIfFair_22 : decode cX5_worldsIfFair 22 = .ok (.getfield 30, 3) := by decide +kernel
theorem dX5_worldsIfFair_25 : decode cX5_worldsIfFair 25 = .ok (.getfield 38, 3) := by decide +kernel
theorem dX5_worldsIfFair_28 : decode cX5_worldsIfFair 28 = .ok (.ifCond .ne 7, 3) := by decide +kernel
theorem dX5_worldsIfFair_31 : decode cX5_worldsIfFair 31 = .ok (.iconst (-1), 1) := by decide +kernel
theorem dX5_worldsIfFair_32 : decode cX5_worldsIfFair 32 = .ok (.goto 11, 3) := by decide +kernel
theorem dX5_worldsIfFair_35 : decode cX5_worldsIfFair 35 = .ok (.aload_n 0, 1) := by decide +kernel
theorem dX5_worldsIfFair_36 : decode cX5_worldsIfFair 36 = .ok (.getfield 30, 3) := by decide +kernel
theorem dX5_worldsIfFair_39 : decode cX5_worldsIfFair 39 = .ok (.iconst 0, 1) := by decide +kernel
theorem dX5_worldsIfFair_40 : decode cX5_worldsIfFair 40 = .ok (.invokevirtual 60, 3) := by decide +kernel
theorem dX5_worldsIfFair_43 : decode cX5_worldsIfFair 43 = .ok (.ireturn, 1) := by decide +kernel
theorem dX5_begin_0 : decode cX5_begin 0 = .ok (.aload_n 0, 1) := by decide +kernel
theorem dX5_begin_1 : decode cX5_begin 1 = .ok (.getfield 21, 3) := by decide +kernel
theorem dX5_begin_4 : decode cX5_begin 4 = .ok (.aload_n 1, 1) := by decide +kernel
theorem dX5_begin_5 : decode cX5_begin 5 = .ok (.invokevirtual 64, 3) := by decide +kernel
theorem dX5_begin_8 : decode cX5_begin 8 = .ok (.aload_n 0, 1) := by decide +kernel
theorem dX5_begin_9 : decode cX5_begin 9 = .ok (.getfield 30, 3) := by decide +kernel
theorem dX5_begin_12 : decode cX5_begin 12 = .ok (.iload_n 2, 1) := by decide +kernel
theorem dX5_begin_13 : decode cX5_begin 13 = .ok (.invokevirtual 67, 3) := by decide +kernel
theorem dX5_begin_16 : decode cX5_begin 16 = .ok (.aload_n 0, 1) := by decide +kernel
theorem dX5_begin_17 : decode cX5_begin 17 = .ok (.aload_n 0, 1) := by decide +kernel
theorem dX5_begin_18 : decode cX5_begin 18 = .ok (.getfield 30, 3) := by decide +kernel
theorem dX5_begin_21 : decode cX5_begin 21 = .ok (.getfield 38, 3) := by decide +kernel
theorem dX5_begin_24 : decode cX5_begin 24 = .ok (.ifCond .ne 7, 3) := by decide +kernel
theorem dX5_begin_27 : decode cX5_begin 27 = .ok (.iconst (-1), 1) := by decide +kernel
theorem dX5_begin_28 : decode cX5_begin 28 = .ok (.goto 4, 3) := by decide +kernel
theorem dX5_begin_31 : decode cX5_begin 31 = .ok (.iconst 0, 1) := by decide +kernel
theorem dX5_begin_32 : decode cX5_begin 32 = .ok (.putfield 9, 3) := by decide +kernel
theorem dX5_begin_35 : decode cX5_begin 35 = .ok (.aload_n 0, 1) := by decide +kernel
theorem dX5_begin_36 : decode cX5_begin 36 = .ok (.iconst (-1), 1) := by decide +kernel
theorem dX5_begin_37 : decode cX5_begin 37 = .ok (.putfield 15, 3) := by decide +kernel
theorem dX5_begin_40 : decode cX5_begin 40 = .ok (.return_, 1) := by decide +kernel
theorem dX6_init_0 : decode cX6_init 0 = .ok (.aload_n 0, 1) := by decide +kernel
theorem dX6_init_1 : decode cX6_init 1 = .ok (.invokespecial 3, 3) := by decide +kernel
theorem dX6_init_4 : decode cX6_init 4 = .ok (.aload_n 0, 1) := by decide +kernel
theorem dX6_init_5 : decode cX6_init 5 = .ok (.bipush 111, 2) := by decide +kernel
theorem dX6_init_7 : decode cX6_init 7 = .ok (.newarray .int, 2) := by decide +kernel
theorem dX6_init_9 : decode cX6_init 9 = .ok (.putfield 9, 3) := by decide +kernel
theorem dX6_init_12 : decode cX6_init 12 = .ok (.aload_n 0, 1) := by decide +kernel
theorem dX6_init_13 : decode cX6_init 13 = .ok (.iconst 0, 1) := by decide +kernel
theorem dX6_init_14 : decode cX6_init 14 = .ok (.putfield 15, 3) := by decide +kernel
theorem dX6_init_17 : decode cX6_init 17 = .ok (.aload_n 0, 1) := by decide +kernel
theorem dX6_init_18 : decode cX6_init 18 = .ok (.bipush 11, 2) := by decide +kernel
theorem dX6_init_20 : decode cX6_init 20 = .ok (.newarray .int, 2) := by decide +kernel
theorem dX6_init_22 : decode cX6_init 22 = .ok (.putfield 19, 3) := by decide +kernel
theorem dX6_init_25 : decode cX6_init 25 = .ok (.aload_n 0, 1) := by decide +kernel
theorem dX6_init_26 : decode cX6_init 26 = .ok (.aload_n 1, 1) := by decide +kernel
theorem dX6_init_27 : decode cX6_init 27 = .ok (.putfield 22, 3) := by decide +kernel
theorem dX6_init_30 : decode cX6_init 30 = .ok (.aload_n 0, 1) := by decide +kernel
theorem dX6_init_31 : decode cX6_init 31 = .ok (.aload_n 1, 1) := by decide +kernel
theorem dX6_init_32 : decode cX6_init 32 = .ok (.getfield 26, 3) := by decide +kernel
theorem dX6_init_35 : decode cX6_init 35 = .ok (.putfield 32, 3) := by decide +kernel
theorem dX6_init_38 : decode cX6_init 38 = .ok (.return_, 1) := by decide +kernel
theorem dX7_init_0 : decode cX7_init 0 = .ok (.aload_n 0, 1) := by decide +kernel
theorem dX7_init_1 : decode cX7_init 1 = .ok (.invokespecial 1, 3) := by decide +kernel
theorem dX7_init_4 : decode cX7_init 4 = .ok (.aload_n 0, 1) := by decide +kernel
theorem dX7_init_5 : decode cX7_init 5 = .ok (.new 7, 3) := by decide +kernel
theorem dX7_init_8 : decode cX7_init 8 = .ok (.dup, 1) := by decide +kernel
theorem dX7_init_9 : decode cX7_init 9 = .ok (.invokespecial 9, 3) := by decide +kernel
theorem dX7_init_12 : decode cX7_init 12 = .ok (.putfield 10, 3) := by decide +kernel
theorem dX7_init_15 : decode cX7_init 15 = .ok (.aload_n 0, 1) := by decide +kernel
theorem dX7_init_16 : decode cX7_init 16 = .ok (.new 16, 3) := by decide +kernel
theorem dX7_init_19 : decode cX7_init 19 = .ok (.dup, 1) := by decide +kernel
theorem dX7_init_20 : decode cX7_init 20 = .ok (.invokespecial 18, 3) := by decide +kernel
theorem dX7_init_23 : decode cX7_init 23 = .ok (.putfield 19, 3) := by decide +kernel
theorem dX7_init_26 : decode cX7_init 26 = .ok (.aload_n 0, 1) := by decide +kernel
theorem dX7_init_27 : decode cX7_init 27 = .ok (.new 23, 3) := by decide +kernel
theorem dX7_init_30 : decode cX7_init 30 = .ok (.dup, 1) := by decide +kernel
theorem dX7_init_31 : decode cX7_init 31 = .ok (.invokespecial 25, 3) := by decide +kernel
theorem dX7_init_34 : decode cX7_init 34 = .ok (.putfield 26, 3) := by decide +kernel
theorem dX7_init_37 : decode cX7_init 37 = .ok (.aload_n 0, 1) := by decide +kernel
theorem dX7_init_38 : decode cX7_init 38 = .ok (.new 30, 3) := by decide +kernel
theorem dX7_init_41 : decode cX7_init 41 = .ok (.dup, 1) := by decide +kernel
theorem dX7_init_42 : decode cX7_init 42 = .ok (.aload_n 0, 1) := by decide +kernel
theorem dX7_init_43 : decode cX7_init 43 = .ok (.getfield 10, 3) := by decide +kernel
theorem dX7_init_46 : decode cX7_init 46 = .ok (.invokespecial 32, 3) := by decide +kernel
theorem dX7_init_49 : decode cX7_init 49 = .ok (.putfield 35, 3) := by decide +kernel
theorem dX7_init_52 : decode cX7_init 52 = .ok (.aload_n 0, 1) := by decide +kernel
theorem dX7_init_53 : decode cX7_init 53 = .ok (.new 39, 3) := by decide +kernel
theorem dX7_init_56 : decode cX7_init 56 = .ok (.dup, 1) := by decide +kernel
theorem dX7_init_57 : decode cX7_init 57 = .ok (.aload_n 0, 1) := by decide +kernel
theorem dX7_init_58 : decode cX7_init 58 = .ok (.getfield 35, 3) := by decide +kernel
theorem dX7_init_61 : decode cX7_init 61 = .ok (.invokespecial 41, 3) := by decide +kernel
theorem dX7_init_64 : decode cX7_init 64 = .ok (.putfield 44, 3) := by decide +kernel
theorem dX7_init_67 : decode cX7_init 67 = .ok (.aload_n 0, 1) := by decide +kernel
theorem dX7_init_68 : decode cX7_init 68 = .ok (.new 48, 3) := by decide +kernel
theorem dX7_init_71 : decode cX7_init 71 = .ok (.dup, 1) := by decide +kernel
theorem dX7_init_72 : decode cX7_init 72 = .ok (.invokespecial 50, 3) := by decide +kernel
theorem dX7_init_75 : decode cX7_init 75 = .ok (.putfield 51, 3) := by decide +kernel
theorem dX7_init_78 : decode cX7_init 78 = .ok (.return_, 1) := by decide +kernel
theorem dX7_addWorld_0 : decode cX7_addWorld 0 = .ok (.iload_n 1, 1) := by decide +kernel
theorem dX7_addWorld_1 : decode cX7_addWorld 1 = .ok (.ifCond .lt 9, 3) := by decide +kernel
theorem dX7_addWorld_4 : decode cX7_addWorld 4 = .ok (.iload_n 1, 1) := by decide +kernel
theorem dX7_addWorld_5 : decode cX7_addWorld 5 = .ok (.bipush 15, 2) := by decide +kernel
theorem dX7_addWorld_7 : decode cX7_addWorld 7 = .ok (.if_icmp .le 13, 3) := by decide +kernel
theorem dX7_addWorld_10 : decode cX7_addWorld 10 = .ok (.new 55, 3) := by decide +kernel
theorem dX7_addWorld_13 : decode cX7_addWorld 13 = .ok (.dup, 1) := by decide +kernel
theorem dX7_addWorld_14 : decode cX7_addWorld 14 = .ok (.ldc 57, 2) := by decide +kernel
theorem dX7_addWorld_16 : decode cX7_addWorld 16 = .ok (.invokespecial 59, 3) := by decide +kernel
theorem dX7_addWorld_19 : decode cX7_addWorld 19 = .ok (.athrow, 1) := by decide +kernel
theorem dX7_addWorld_20 : decode cX7_addWorld 20 = .ok (.aload_n 0, 1) := by decide +kernel
theorem dX7_addWorld_21 : decode cX7_addWorld 21 = .ok (.getfield 10, 3) := by decide +kernel
theorem dX7_addWorld_24 : decode cX7_addWorld 24 = .ok (.getfield 62, 3) := by decide +kernel
theorem dX7_addWorld_27 : decode cX7_addWorld 27 = .ok (.bipush 10, 2) := by decide +kernel
theorem dX7_addWorld_29 : decode cX7_addWorld 29 = .ok (.if_icmp .lt 13, 3) := by decide +kernel
theorem dX7_addWorld_32 : decode cX7_addWorld 32 = .ok (.new 66, 3) := by decide +kernel
theorem dX7_addWorld_35 : decode cX7_addWorld 35 = .ok (.dup, 1) := by decide +kernel
theorem dX7_addWorld_36 : decode cX7_addWorld 36 = .ok (.ldc 68, 2) := by decide +kernel
theorem dX7_addWorld_38 : decode cX7_addWorld 38 = .ok (.invokespecial 70, 3) := by decide +kernel
theorem dX7_addWorld_41 : decode cX7_addWorld 41 = .ok (.athrow, 1) := by decide +kernel
theorem dX7_addWorld_42 : decode cX7_addWorld 42 = .ok (.aload_n 0, 1) := by decide +kernel
theorem dX7_addWorld_43 : decode cX7_addWorld 43 = .ok (.getfield 19, 3) := by decide +kernel
theorem dX7_addWorld_46 : decode cX7_addWorld 46 = .ok (.aload_n 0, 1) := by decide +kernel
theorem dX7_addWorld_47 : decode cX7_addWorld 47 = .ok (.getfield 10, 3) := by decide +kernel
theorem dX7_addWorld_50 : decode cX7_addWorld 50 = .ok (.invokevirtual 71, 3) := by decide +kernel
theorem dX7_addWorld_53 : decode cX7_addWorld 53 = .ok (.aload_n 0, 1) := by decide +kernel
theorem dX7_addWorld_54 : decode cX7_addWorld 54 = .ok (.getfield 10, 3) := by decide +kernel
theorem dX7_addWorld_57 : decode cX7_addWorld 57 = .ok (.iload_n 1, 1) := by decide +kernel
theorem dX7_addWorld_58 : decode cX7_addWorld 58 = .ok (.invokevirtual 74, 3) := by decide +kernel
theorem dX7_addWorld_61 : decode cX7_addWorld 61 = .ok (.ireturn, 1) := by decide +kernel
theorem dX7_step_0 : decode cX7_step 0 = .ok (.aload_n 0, 1) := by decide +kernel
theorem dX7_step_1 : decode cX7_step 1 = .ok (.iload_n 1, 1) := by decide +kernel
theorem dX7_step_2 : decode cX7_step 2 = .ok (.invokevirtual 78, 3) := by decide +kernel
theorem dX7_step_5 : decode cX7_step 5 = .ok (.aload_n 0, 1) := by decide +kernel
theorem dX7_step_6 : decode cX7_step 6 = .ok (.iload_n 2, 1) := by decide +kernel
theorem dX7_step_7 : decode cX7_step 7 = .ok (.invokevirtual 78, 3) := by decide +kernel
theorem dX7_step_10 : decode cX7_step 10 = .ok (.aload_n 0, 1) := by decide +kernel
theorem dX7_step_11 : decode cX7_step 11 = .ok (.getfield 19, 3) := by decide +kernel
theorem dX7_step_14 : decode cX7_step 14 = .ok (.aload_n 0, 1) := by decide +kernel
theorem dX7_step_15 : decode cX7_step 15 = .ok (.getfield 10, 3) := by decide +kernel
theorem dX7_step_18 : decode cX7_step 18 = .ok (.invokevirtual 71, 3) := by decide +kernel
theorem dX7_step_21 : decode cX7_step 21 = .ok (.aload_n 0, 1) := by decide +kernel
theorem dX7_step_22 : decode cX7_step 22 = .ok (.getfield 10, 3) := by decide +kernel
theorem dX7_step_25 : decode cX7_step 25 = .ok (.iload_n 1, 1) := by decide +kernel
theorem dX7_step_26 : decode cX7_step 26 = .ok (.iload_n 2, 1) := by decide +kernel
theorem dX7_step_27 : decode cX7_step 27 = .ok (.invokevirtual 85, 3) := by decide +kernel
theorem dX7_step_30 : decode cX7_step 30 = .ok (.aload_n 0, 1) := by decide +kernel
theorem dX7_step_31 : decode cX7_step 31 = .ok (.getfield 10, 3) := by decide +kernel
theorem dX7_step_34 : decode cX7_step 34 = .ok (.iload_n 1, 1) := by decide +kernel
theorem dX7_step_35 : decode cX7_step 35 = .ok (.invokevirtual 89, 3) := by decide +kernel
theorem dX7_step_38 : decode cX7_step 38 = .ok (.iload_n 2, 1) := by decide +kernel
theorem dX7_step_39 : decode cX7_step 39 = .ok (.ishr, 1) := by decide +kernel
theorem dX7_step_40 : decode cX7_step 40 = .ok (.iconst 1, 1) := by decide +kernel
theorem dX7_step_41 : decode cX7_step 41 = .ok (.iand, 1) := by decide +kernel
theorem dX7_step_42 : decode cX7_step 42 = .ok (.ireturn, 1) := by decide +kernel
theorem dX7_fair_0 : decode cX7_fair 0 = .ok (.iload_n 1, 1) := by decide +kernel
theorem dX7_fair_1 : decode cX7_fair 1 = .ok (.invokestatic 100, 3) := by decide +kernel
theorem dX7_fair_4 : decode cX7_fair 4 = .ok (.aload_n 0, 1) := by decide +kernel
theorem dX7_fair_5 : decode cX7_fair 5 = .ok (.getfield 19, 3) := by decide +kernel
theorem dX7_fair_8 : decode cX7_fair 8 = .ok (.aload_n 0, 1) := by decide +kernel
theorem dX7_fair_9 : decode cX7_fair 9 = .ok (.getfield 10, 3) := by decide +kernel
theorem dX7_fair_12 : decode cX7_fair 12 = .ok (.invokevirtual 71, 3) := by decide +kernel
theorem dX7_fair_15 : decode cX7_fair 15 = .ok (.aload_n 0, 1) := by decide +kernel
theorem dX7_fair_16 : decode cX7_fair 16 = .ok (.getfield 10, 3) := by decide +kernel
theorem dX7_fair_19 : decode cX7_fair 19 = .ok (.getfield 103, 3) := by decide +kernel
theorem dX7_fair_22 : decode cX7_fair 22 = .ok (.istore_n 2, 1) := by decide +kernel
theorem dX7_fair_23 : decode cX7_fair 23 = .ok (.aload_n 0, 1) := by decide +kernel
theorem dX7_fair_24 : decode cX7_fair 24 = .ok (.getfield 10, 3) := by decide +kernel
theorem dX7_fair_27 : decode cX7_fair 27 = .ok (.iload_n 1, 1) := by decide +kernel
theorem dX7_fair_28 : decode cX7_fair 28 = .ok (.putfield 103, 3) := by decide +kernel
theorem dX7_fair_31 : decode cX7_fair 31 = .ok (.iload_n 2, 1) := by decide +kernel
theorem dX7_fair_32 : decode cX7_fair 32 = .ok (.ireturn, 1) := by decide +kernel
theorem dX7_append_0 : decode cX7_append 0 = .ok (.iload_n 1, 1) := by decide +kernel
theorem dX7_append_1 : decode cX7_append 1 = .ok (.bipush 33, 2) := by decide +kernel
theorem dX7_append_3 : decode cX7_append 3 = .ok (.if_icmp .lt 9, 3) := by decide +kernel
theorem dX7_append_6 : decode cX7_append 6 = .ok (.iload_n 1, 1) := by decide +kernel
theorem dX7_append_7 : decode cX7_append 7 = .ok (.bipush 126, 2) := by decide +kernel
theorem dX7_append_9 : decode cX7_append 9 = .ok (.if_icmp .le 13, 3) := by decide +kernel
theorem dX7_append_12 : decode cX7_append 12 = .ok (.new 55, 3) := by decide +kernel
theorem dX7_append_15 : decode cX7_append 15 = .ok (.dup, 1) := by decide +kernel
theorem dX7_append_16 : decode cX7_append 16 = .ok (.ldc 113, 2) := by decide +kernel
theorem dX7_append_18 : decode cX7_append 18 = .ok (.invokespecial 59, 3) := by decide +kernel
theorem dX7_append_21 : decode cX7_append 21 = .ok (.athrow, 1) := by decide +kernel
theorem dX7_append_22 : decode cX7_append 22 = .ok (.aload_n 0, 1) := by decide +kernel
theorem dX7_append_23 : decode cX7_append 23 = .ok (.getfield 26, 3) := by decide +kernel
theorem dX7_append_26 : decode cX7_append 26 = .ok (.getfield 115, 3) := by decide +kernel
theorem dX7_append_29 : decode cX7_append 29 = .ok (.bipush 60, 2) := by decide +kernel
theorem dX7_append_31 : decode cX7_append 31 = .ok (.if_icmp .lt 13, 3) := by decide +kernel
theorem dX7_append_34 : decode cX7_append 34 = .ok (.new 66, 3) := by decide +kernel
theorem dX7_append_37 : decode cX7_append 37 = .ok (.dup, 1) := by decide +kernel
theorem dX7_append_38 : decode cX7_append 38 = .ok (.ldc 118, 2) := by decide +kernel
theorem dX7_append_40 : decode cX7_append 40 = .ok (.invokespecial 70, 3) := by decide +kernel
theorem dX7_append_43 : decode cX7_append 43 = .ok (.athrow, 1) := by decide +kernel
theorem dX7_append_44 : decode cX7_append 44 = .ok (.aload_n 0, 1) := by decide +kernel
theorem dX7_append_45 : decode cX7_append 45 = .ok (.getfield 26, 3) := by decide +kernel
theorem dX7_append_48 : decode cX7_append 48 = .ok (.iload_n 1, 1) := by decide +kernel
theorem dX7_append_49 : decode cX7_append 49 = .ok (.i2c, 1) := by decide +kernel
theorem dX7_append_50 : decode cX7_append 50 = .ok (.invokevirtual 120, 3) := by decide +kernel
theorem dX7_append_53 : decode cX7_append 53 = .ok (.aload_n 0, 1) := by decide +kernel
theorem dX7_append_54 : decode cX7_append 54 = .ok (.getfield 26, 3) := by decide +kernel
theorem dX7_append_57 : decode cX7_append 57 = .ok (.getfield 115, 3) := by decide +kernel
theorem dX7_append_60 : decode cX7_append 60 = .ok (.ireturn, 1) := by decide +kernel
theorem dX7_firstError_0 : decode cX7_firstError 0 = .ok (.aload_n 0, 1) := by decide +kernel
theorem dX7_firstError_1 : decode cX7_firstError 1 = .ok (.getfield 26, 3) := by decide +kernel
theorem dX7_firstError_4 : decode cX7_firstError 4 = .ok (.invokevirtual 124, 3) := by decide +kernel
theorem dX7_firstError_7 : decode cX7_firstError 7 = .ok (.ireturn, 1) := by decide +kernel
theorem dX7_read_0 : decode cX7_read 0 = .ok (.iload_n 1, 1) := by decide +kernel
theorem dX7_read_1 : decode cX7_read 1 = .ok (.invokestatic 127, 3) := by decide +kernel
theorem dX7_read_4 : decode cX7_read 4 = .ok (.aload_n 0, 1) := by decide +kernel
theorem dX7_read_5 : decode cX7_read 5 = .ok (.getfield 26, 3) := by decide +kernel
theorem dX7_read_8 : decode cX7_read 8 = .ok (.invokevirtual 130, 3) := by decide +kernel
theorem dX7_read_11 : decode cX7_read 11 = .ok (.ifCond .ne 13, 3) := by decide +kernel
theorem dX7_read_14 : decode cX7_read 14 = .ok (.new 55, 3) := by decide +kernel
theorem dX7_read_17 : decode cX7_read 17 = .ok (.dup, 1) := by decide +kernel
theorem dX7_read_18 : decode cX7_read 18 = .ok (.ldc 134, 2) := by decide +kernel
theorem dX7_read_20 : decode cX7_read 20 = .ok (.invokespecial 59, 3) := by decide +kernel
theorem dX7_read_23 : decode cX7_read 23 = .ok (.athrow, 1) := by decide +kernel
theorem dX7_read_24 : decode cX7_read 24 = .ok (.aload_n 0, 1) := by decide +kernel
theorem dX7_read_25 : decode cX7_read 25 = .ok (.getfield 19, 3) := by decide +kernel
theorem dX7_read_28 : decode cX7_read 28 = .ok (.aload_n 0, 1) := by decide +kernel
theorem dX7_read_29 : decode cX7_read 29 = .ok (.getfield 10, 3) := by decide +kernel
theorem dX7_read_32 : decode cX7_read 32 = .ok (.invokevirtual 71, 3) := by decide +kernel
theorem dX7_read_35 : decode cX7_read 35 = .ok (.aload_n 0, 1) := by decide +kernel
theorem dX7_read_36 : decode cX7_read 36 = .ok (.getfield 10, 3) := by decide +kernel
theorem dX7_read_39 : decode cX7_read 39 = .ok (.iload_n 1, 1) := by decide +kernel
theorem dX7_read_40 : decode cX7_read 40 = .ok (.aload_n 0, 1) := by decide +kernel
theorem dX7_read_41 : decode cX7_read 41 = .ok (.getfield 26, 3) := by decide +kernel
theorem dX7_read_44 : decode cX7_read 44 = .ok (.invokevirtual 136, 3) := by decide +kernel
theorem dX7_read_47 : decode cX7_read 47 = .ok (.aload_n 0, 1) := by decide +kernel
theorem dX7_read_48 : decode cX7_read 48 = .ok (.getfield 26, 3) := by decide +kernel
theorem dX7_read_51 : decode cX7_read 51 = .ok (.iconst 0, 1) := by decide +kernel
theorem dX7_read_52 : decode cX7_read 52 = .ok (.putfield 115, 3) := by decide +kernel
theorem dX7_read_55 : decode cX7_read 55 = .ok (.aload_n 0, 1) := by decide +kernel
theorem dX7_read_56 : decode cX7_read 56 = .ok (.getfield 10, 3) := by decide +kernel
theorem dX7_read_59 : decode cX7_read 59 = .ok (.iload_n 1, 1) := by decide +kernel
theorem dX7_read_60 : decode cX7_read 60 = .ok (.invokevirtual 140, 3) := by decide +kernel
theorem dX7_read_63 : decode cX7_read 63 = .ok (.ireturn, 1) := by decide +kernel
theorem dX7_negate_0 : decode cX7_negate 0 = .ok (.iload_n 1, 1) := by decide +kernel
theorem dX7_negate_1 : decode cX7_negate 1 = .ok (.invokestatic 127, 3) := by decide +kernel
theorem dX7_negate_4 : decode cX7_negate 4 = .ok (.aload_n 0, 1) := by decide +kernel
theorem dX7_negate_5 : decode cX7_negate 5 = .ok (.getfield 10, 3) := by decide +kernel
theorem dX7_negate_8 : decode cX7_negate 8 = .ok (.iload_n 1, 1) := by decide +kernel
theorem dX7_negate_9 : decode cX7_negate 9 = .ok (.iconst 0, 1) := by decide +kernel
theorem dX7_negate_10 : decode cX7_negate 10 = .ok (.invokevirtual 143, 3) := by decide +kernel
theorem dX7_negate_13 : decode cX7_negate 13 = .ok (.bipush 33, 2) := by decide +kernel
theorem dX7_negate_15 : decode cX7_negate 15 = .ok (.if_icmp .ne 7, 3) := by decide +kernel
theorem dX7_negate_18 : decode cX7_negate 18 = .ok (.iconst 1, 1) := by decide +kernel
theorem dX7_negate_19 : decode cX7_negate 19 = .ok (.goto 4, 3) := by decide +kernel
theorem dX7_negate_22 : decode cX7_negate 22 = .ok (.iconst 0, 1) := by decide +kernel
theorem dX7_negate_23 : decode cX7_negate 23 = .ok (.istore_n 2, 1) := by decide +kernel
theorem dX7_negate_24 : decode cX7_negate 24 = .ok (.aload_n 0, 1) := by decide +kernel
theorem dX7_negate_25 : decode cX7_negate 25 = .ok (.getfield 10, 3) := by decide +kernel
theorem dX7_negate_28 : decode cX7_negate 28 = .ok (.iload_n 1, 1) := by decide +kernel
theorem dX7_negate_29 : decode cX7_negate 29 = .ok (.invokevirtual 140, 3) := by decide +kernel
theorem dX7_negate_32 : decode cX7_negate 32 = .ok (.istore_n 3, 1) := by decide +kernel
theorem dX7_negate_33 : decode cX7_negate 33 = .ok (.iload_n 3, 1) := by decide +kernel
theorem dX7_negate_34 : decode cX7_negate 34 = .ok (.ifCond .eq 13, 3) := by decide +kernel
theorem dX7_negate_37 : decode cX7_negate 37 = .ok (.iload_n 2, 1) := by decide +kernel
theorem dX7_negate_38 : decode cX7_negate 38 = .ok (.ifCond .ne 19, 3) := by decide +kernel
theorem dX7_negate_41 : decode cX7_negate 41 = .ok (.iload_n 3, 1) := by decide +kernel
theorem dX7_negate_42 : decode cX7_negate 42 = .ok (.bipush 40, 2) := by decide +kernel
theorem dX7_negate_44 : decode cX7_negate 44 = .ok (.if_icmp .lt 13, 3) := by decide +kernel
theorem dX7_negate_47 : decode cX7_negate 47 = .ok (.new 66, 3) := by decide +kernel
theorem dX7_negate_50 : decode cX7_negate 50 = .ok (.dup, 1) := by decide +kernel
theorem dX7_negate_51 : decode cX7_negate 51 = .ok (.ldc 147, 2) := by decide +kernel
theorem dX7_negate_53 : decode cX7_negate 53 = .ok (.invokespecial 70, 3) := by decide +kernel
theorem dX7_negate_56 : decode cX7_negate 56 = .ok (.athrow, 1) := by decide +kernel
theorem dX7_negate_57 : decode cX7_negate 57 = .ok (.aload_n 0, 1) := by decide +kernel
theorem dX7_negate_58 : decode cX7_negate 58 = .ok (.getfield 19, 3) := by decide +kernel
theorem dX7_negate_61 : decode cX7_negate 61 = .ok (.aload_n 0, 1) := by decide +kernel
theorem dX7_negate_62 : decode cX7_negate 62 = .ok (.getfield 10, 3) := by decide +kernel
theorem dX7_negate_65 : decode cX7_negate 65 = .ok (.invokevirtual 71, 3) := by decide +kernel
theorem dX7_negate_68 : decode cX7_negate 68 = .ok (.iload_n 2, 1) := by decide +kernel
theorem dX7_negate_69 : decode cX7_negate 69 = .ok (.ifCond .eq 14, 3) := by decide +kernel
theorem dX7_negate_72 : decode cX7_negate 72 = .ok (.aload_n 0, 1) := by decide +kernel
theorem dX7_negate_73 : decode cX7_negate 73 = .ok (.getfield 10, 3) := by decide +kernel
theorem dX7_negate_76 : decode cX7_negate 76 = .ok (.iload_n 1, 1) := by decide +kernel
theorem dX7_negate_77 : decode cX7_negate 77 = .ok (.invokevirtual 149, 3) := by decide +kernel
theorem dX7_negate_80 : decode cX7_negate 80 = .ok (.goto 11, 3) := by decide +kernel
theorem dX7_negate_83 : decode cX7_negate 83 = .ok (.aload_n 0, 1) := by decide +kernel
theorem dX7_negate_84 : decode cX7_negate 84 = .ok (.getfield 10, 3) := by decide +kernel
theorem dX7_negate_87 : decode cX7_negate 87 = .ok (.iload_n 1, 1) := by decide +kernel
theorem dX7_negate_88 : decode cX7_negate 88 = .ok (.invokevirtual 152, 3) := by decide +kernel
theorem dX7_negate_91 : decode cX7_negate 91 = .ok (.aload_n 0, 1) := by decide +kernel
theorem dX7_negate_92 : decode cX7_negate 92 = .ok (.getfield 10, 3) := by decide +kernel
theorem dX7_negate_95 : decode cX7_negate 95 = .ok (.iload_n 1, 1) := by decide +kernel
theorem dX7_negate_96 : decode cX7_negate 96 = .ok (.invokevirtual 140, 3) := by decide +kernel
theorem dX7_negate_99 : decode cX7_negate 99 = .ok (.ireturn, 1) := by decide +kernel
theorem dX7_undo_0 : decode cX7_undo 0 = .ok (.aload_n 0, 1) := by decide +kernel
theorem dX7_undo_1 : decode cX7_undo 1 = .ok (.getfield 19, 3) := by decide +kernel
theorem dX7_undo_4 : decode cX7_undo 4 = .ok (.getfield 158, 3) := by decide +kernel
theorem dX7_undo_7 : decode cX7_undo 7 = .ok (.ifCond .ne 13, 3) := by decide +kernel
theorem dX7_undo_10 : decode cX7_undo 10 = .ok (.new 66, 3) := by decide +kernel
theorem dX7_undo_13 : decode cX7_undo 13 = .ok (.dup, 1) := by decide +kernel
theorem dX7_undo_14 : decode cX7_undo 14 = .ok (.ldc 161, 2) := by decide +kernel
theorem dX7_undo_16 : decode cX7_undo 16 = .ok (.invokespecial 70, 3) := by decide +kernel
theorem dX7_undo_19 : decode cX7_undo 19 = .ok (.athrow, 1) := by decide +kernel
theorem dX7_undo_20 : decode cX7_undo 20 = .ok (.aload_n 0, 1) := by decide +kernel
theorem dX7_undo_21 : decode cX7_undo 21 = .ok (.getfield 19, 3) := by decide +kernel
theorem dX7_undo_24 : decode cX7_undo 24 = .ok (.aload_n 0, 1) := by decide +kernel
theorem dX7_undo_25 : decode cX7_undo 25 = .ok (.getfield 10, 3) := by decide +kernel
theorem dX7_undo_28 : decode cX7_undo 28 = .ok (.invokevirtual 163, 3) := by decide +kernel
theorem dX7_undo_31 : decode cX7_undo 31 = .ok (.aload_n 0, 1) := by decide +kernel
theorem dX7_undo_32 : decode cX7_undo 32 = .ok (.getfield 19, 3) := by decide +kernel
theorem dX7_undo_35 : decode cX7_undo 35 = .ok (.getfield 158, 3) := by decide +kernel
theorem dX7_undo_38 : decode cX7_undo 38 = .ok (.ireturn, 1) := by decide +kernel
theorem dX7_world_0 : decode cX7_world 0 = .ok (.aload_n 0, 1) := by decide +kernel
theorem dX7_world_1 : decode cX7_world 1 = .ok (.iload_n 1, 1) := by decide +kernel
theorem dX7_world_2 : decode cX7_world 2 = .ok (.invokevirtual 78, 3) := by decide +kernel
theorem dX7_world_5 : decode cX7_world 5 = .ok (.iload_n 2, 1) := by decide +kernel
theorem dX7_world_6 : decode cX7_world 6 = .ok (.iconst 4, 1) := by decide +kernel
theorem dX7_world_7 : decode cX7_world 7 = .ok (.invokestatic 166, 3) := by decide +kernel
theorem dX7_world_10 : decode cX7_world 10 = .ok (.iload_n 2, 1) := by decide +kernel
theorem dX7_world_11 : decode cX7_world 11 = .ok (.tableswitch 70 0 3 #[29, 38, 47, 58], 29) := by decide +kernel
theorem dX7_world_40 : decode cX7_world 40 = .ok (.aload_n 0, 1) := by decide +kernel
theorem dX7_world_41 : decode cX7_world 41 = .ok (.getfield 10, 3) := by decide +kernel
theorem dX7_world_44 : decode cX7_world 44 = .ok (.iload_n 1, 1) := by decide +kernel
theorem dX7_world_45 : decode cX7_world 45 = .ok (.invokevirtual 97, 3) := by decide +kernel
theorem dX7_world_48 : decode cX7_world 48 = .ok (.ireturn, 1) := by decide +kernel
theorem dX7_world_49 : decode cX7_world 49 = .ok (.aload_n 0, 1) := by decide +kernel
theorem dX7_world_50 : decode cX7_world 50 = .ok (.getfield 10, 3) := by decide +kernel
theorem dX7_world_53 : decode cX7_world 53 = .ok (.iload_n 1, 1) := by decide +kernel
theorem dX7_world_54 : decode cX7_world 54 = .ok (.invokevirtual 89, 3) := by decide +kernel
theorem dX7_world_57 : decode cX7_world 57 = .ok (.ireturn, 1) := by decide +kernel
theorem dX7_world_58 : decode cX7_world 58 = .ok (.aload_n 0, 1) := by decide +kernel
theorem dX7_world_59 : decode cX7_world 59 = .ok (.getfield 10, 3) := by decide +kernel
theorem dX7_world_62 : decode cX7_world 62 = .ok (.iconst 1, 1) := by decide +kernel
theorem dX7_world_63 : decode cX7_world 63 = .ok (.iload_n 1, 1) := by decide +kernel
theorem dX7_world_64 : decode cX7_world 64 = .ok (.ishl, 1) := by decide +kernel
theorem dX7_world_65 : decode cX7_world 65 = .ok (.invokevirtual 169, 3) := by decide +kernel
theorem dX7_world_68 : decode cX7_world 68 = .ok (.ireturn, 1) := by decide +kernel
theorem dX7_world_69 : decode cX7_world 69 = .ok (.aload_n 0, 1) := by decide +kernel
theorem dX7_world_70 : decode cX7_world 70 = .ok (.getfield 35, 3) := by decide +kernel
theorem dX7_world_73 : decode cX7_world 73 = .ok (.invokevirtual 172, 3) := by decide +kernel
theorem dX7_world_76 : decode cX7_world 76 = .ok (.iload_n 1, 1) := by decide +kernel
theorem dX7_world_77 : decode cX7_world 77 = .ok (.ishr, 1) := by decide +kernel
theorem dX7_world_78 : decode cX7_world 78 = .ok (.iconst 1, 1) := by decide +kernel
theorem dX7_world_79 : decode cX7_world 79 = .ok (.iand, 1) := by decide +kernel
theorem dX7_world_80 : decode cX7_world 80 = .ok (.ireturn, 1) := by decide +kernel
theorem dX7_world_81 : decode cX7_world 81 = .ok (.aload_n 0, 1) := by decide +kernel
theorem dX7_world_82 : decode cX7_world 82 = .ok (.iload_n 1, 1) := by decide +kernel
theorem dX7_world_83 : decode cX7_world 83 = .ok (.invokevirtual 175, 3) := by decide +kernel
theorem dX7_world_86 : decode cX7_world 86 = .ok (.ireturn, 1) := by decide +kernel
theorem dX7_wish_0 : decode cX7_wish 0 = .ok (.iload_n 1, 1) := by decide +kernel
theorem dX7_wish_1 : decode cX7_wish 1 = .ok (.invokestatic 127, 3) := by decide +kernel
theorem dX7_wish_4 : decode cX7_wish 4 = .ok (.iload_n 2, 1) := by decide +kernel
theorem dX7_wish_5 : decode cX7_wish 5 = .ok (.iconst 3, 1) := by decide +kernel
theorem dX7_wish_6 : decode cX7_wish 6 = .ok (.invokestatic 166, 3) := by decide +kernel
theorem dX7_wish_9 : decode cX7_wish 9 = .ok (.aload_n 0, 1) := by decide +kernel
theorem dX7_wish_10 : decode cX7_wish 10 = .ok (.getfield 35, 3) := by decide +kernel
theorem dX7_wish_13 : decode cX7_wish 13 = .ok (.iload_n 1, 1) := by decide +kernel
theorem dX7_wish_14 : decode cX7_wish 14 = .ok (.invokevirtual 178, 3) := by decide +kernel
theorem dX7_wish_17 : decode cX7_wish 17 = .ok (.pop, 1) := by decide +kernel
theorem dX7_wish_18 : decode cX7_wish 18 = .ok (.aload_n 0, 1) := by decide +kernel
theorem dX7_wish_19 : decode cX7_wish 19 = .ok (.getfield 35, 3) := by decide +kernel
theorem dX7_wish_22 : decode cX7_wish 22 = .ok (.iload_n 2, 1) := by decide +kernel
theorem dX7_wish_23 : decode cX7_wish 23 = .ok (.invokevirtual 181, 3) := by decide +kernel
theorem dX7_wish_26 : decode cX7_wish 26 = .ok (.ireturn, 1) := by decide +kernel
theorem dX7_sign_0 : decode cX7_sign 0 = .ok (.iload_n 1, 1) := by decide +kernel
theorem dX7_sign_1 : decode cX7_sign 1 = .ok (.invokestatic 127, 3) := by decide +kernel
theorem dX7_sign_4 : decode cX7_sign 4 = .ok (.iload_n 2, 1) := by decide +kernel
theorem dX7_sign_5 : decode cX7_sign 5 = .ok (.ifCond .lt 15, 3) := by decide +kernel
theorem dX7_sign_8 : decode cX7_sign 8 = .ok (.iload_n 2, 1) := by decide +kernel
theorem dX7_sign_9 : decode cX7_sign 9 = .ok (.aload_n 0, 1) := by decide +kernel
theorem dX7_sign_10 : decode cX7_sign 10 = .ok (.getfield 10, 3) := by decide +kernel
theorem dX7_sign_13 : decode cX7_sign 13 = .ok (.iload_n 1, 1) := by decide +kernel
theorem dX7_sign_14 : decode cX7_sign 14 = .ok (.invokevirtual 140, 3) := by decide +kernel
theorem dX7_sign_17 : decode cX7_sign 17 = .ok (.if_icmp .lt 13, 3) := by decide +kernel
theorem dX7_sign_20 : decode cX7_sign 20 = .ok (.new 184, 3) := by decide +kernel
theorem dX7_sign_23 : decode cX7_sign 23 = .ok (.dup, 1) := by decide +kernel
theorem dX7_sign_24 : decode cX7_sign 24 = .ok (.ldc 186, 2) := by decide +kernel
theorem dX7_sign_26 : decode cX7_sign 26 = .ok (.invokespecial 188, 3) := by decide +kernel
theorem dX7_sign_29 : decode cX7_sign 29 = .ok (.athrow, 1) := by decide +kernel
theorem dX7_sign_30 : decode cX7_sign 30 = .ok (.iload_n 3, 1) := by decide +kernel
theorem dX7_sign_31 : decode cX7_sign 31 = .ok (.iconst 3, 1) := by decide +kernel
theorem dX7_sign_32 : decode cX7_sign 32 = .ok (.invokestatic 166, 3) := by decide +kernel
theorem dX7_sign_35 : decode cX7_sign 35 = .ok (.aload_n 0, 1) := by decide +kernel
theorem dX7_sign_36 : decode cX7_sign 36 = .ok (.getfield 35, 3) := by decide +kernel
theorem dX7_sign_39 : decode cX7_sign 39 = .ok (.iload_n 1, 1) := by decide +kernel
theorem dX7_sign_40 : decode cX7_sign 40 = .ok (.invokevirtual 178, 3) := by decide +kernel
theorem dX7_sign_43 : decode cX7_sign 43 = .ok (.pop, 1) := by decide +kernel
theorem dX7_sign_44 : decode cX7_sign 44 = .ok (.aload_n 0, 1) := by decide +kernel
theorem dX7_sign_45 : decode cX7_sign 45 = .ok (.getfield 35, 3) := by decide +kernel
theorem dX7_sign_48 : decode cX7_sign 48 = .ok (.iload_n 2, 1) := by decide +kernel
theorem dX7_sign_49 : decode cX7_sign 49 = .ok (.iload_n 3, 1) := by decide +kernel
theorem dX7_sign_50 : decode cX7_sign 50 = .ok (.invokevirtual 189, 3) := by decide +kernel
theorem dX7_sign_53 : decode cX7_sign 53 = .ok (.ireturn, 1) := by decide +kernel
theorem dX7_compare_0 : decode cX7_compare 0 = .ok (.iload_n 1, 1) := by decide +kernel
theorem dX7_compare_1 : decode cX7_compare 1 = .ok (.invokestatic 127, 3) := by decide +kernel
theorem dX7_compare_4 : decode cX7_compare 4 = .ok (.iload_n 2, 1) := by decide +kernel
theorem dX7_compare_5 : decode cX7_compare 5 = .ok (.invokestatic 127, 3) := by decide +kernel
theorem dX7_compare_8 : decode cX7_compare 8 = .ok (.aload_n 0, 1) := by decide +kernel
theorem dX7_compare_9 : decode cX7_compare 9 = .ok (.getfield 10, 3) := by decide +kernel
theorem dX7_compare_12 : decode cX7_compare 12 = .ok (.iload_n 1, 1) := by decide +kernel
theorem dX7_compare_13 : decode cX7_compare 13 = .ok (.invokevirtual 140, 3) := by decide +kernel
theorem dX7_compare_16 : decode cX7_compare 16 = .ok (.ifCond .eq 14, 3) := by decide +kernel
theorem dX7_compare_19 : decode cX7_compare 19 = .ok (.aload_n 0, 1) := by decide +kernel
theorem dX7_compare_20 : decode cX7_compare 20 = .ok (.getfield 10, 3) := by decide +kernel
theorem dX7_compare_23 : decode cX7_compare 23 = .ok (.iload_n 2, 1) := by decide +kernel
theorem dX7_compare_24 : decode cX7_compare 24 = .ok (.invokevirtual 140, 3) := by decide +kernel
theorem dX7_compare_27 : decode cX7_compare 27 = .ok (.ifCond .ne 5, 3) := by decide +kernel
theorem dX7_compare_30 : decode cX7_compare 30 = .ok (.iconst (-1), 1) := by decide +kernel
theorem dX7_compare_31 : decode cX7_compare 31 = .ok (.ireturn, 1) := by decide +kernel
theorem dX7_compare_32 : decode cX7_compare 32 = .ok (.aload_n 0, 1) := by decide +kernel
theorem dX7_compare_33 : decode cX7_compare 33 = .ok (.getfield 35, 3) := by decide +kernel
theorem dX7_compare_36 : decode cX7_compare 36 = .ok (.iload_n 1, 1) := by decide +kernel
theorem dX7_compare_37 : decode cX7_compare 37 = .ok (.invokevirtual 178, 3) := by decide +kernel
theorem dX7_compare_40 : decode cX7_compare 40 = .ok (.istore_n 3, 1) := by decide +kernel
theorem dX7_compare_41 : decode cX7_compare 41 = .ok (.aload_n 0, 1) := by decide +kernel
theorem dX7_compare_42 : decode cX7_compare 42 = .ok (.getfield 35, 3) := by decide +kernel
theorem dX7_compare_45 : decode cX7_compare 45 = .ok (.iload_n 2, 1) := by decide +kernel
theorem dX7_compare_46 : decode cX7_compare 46 = .ok (.invokevirtual 178, 3) := by decide +kernel
theorem dX7_compare_49 : decode cX7_compare 49 = .ok (.istore 4, 2) := by decide +kernel
theorem dX7_compare_51 : decode cX7_compare 51 = .ok (.iload_n 3, 1) := by decide +kernel
theorem dX7_compare_52 : decode cX7_compare 52 = .ok (.iload 4, 2) := by decide +kernel
theorem dX7_compare_54 : decode cX7_compare 54 = .ok (.if_icmp .ne 5, 3) := by decide +kernel
theorem dX7_compare_57 : decode cX7_compare 57 = .ok (.iconst 0, 1) := by decide +kernel
theorem dX7_compare_58 : decode cX7_compare 58 = .ok (.ireturn, 1) := by decide +kernel
theorem dX7_compare_59 : decode cX7_compare 59 = .ok (.iload_n 3, 1) := by decide +kernel
theorem dX7_compare_60 : decode cX7_compare 60 = .ok (.iload 4, 2) := by decide +kernel
theorem dX7_compare_62 : decode cX7_compare 62 = .ok (.iand, 1) := by decide +kernel
theorem dX7_compare_63 : decode cX7_compare 63 = .ok (.iload_n 3, 1) := by decide +kernel
theorem dX7_compare_64 : decode cX7_compare 64 = .ok (.if_icmp .ne 5, 3) := by decide +kernel
theorem dX7_compare_67 : decode cX7_compare 67 = .ok (.iconst 1, 1) := by decide +kernel
theorem dX7_compare_68 : decode cX7_compare 68 = .ok (.ireturn, 1) := by decide +kernel
theorem dX7_compare_69 : decode cX7_compare 69 = .ok (.iload_n 3, 1) := by decide +kernel
theorem dX7_compare_70 : decode cX7_compare 70 = .ok (.iload 4, 2) := by decide +kernel
theorem dX7_compare_72 : decode cX7_compare 72 = .ok (.iand, 1) := by decide +kernel
theorem dX7_compare_73 : decode cX7_compare 73 = .ok (.iload 4, 2) := by decide +kernel
theorem dX7_compare_75 : decode cX7_compare 75 = .ok (.if_icmp .ne 7, 3) := by decide +kernel
theorem dX7_compare_78 : decode cX7_compare 78 = .ok (.iconst 2, 1) := by decide +kernel
theorem dX7_compare_79 : decode cX7_compare 79 = .ok (.goto 4, 3) := by decide +kernel
theorem dX7_compare_82 : decode cX7_compare 82 = .ok (.iconst 3, 1) := by decide +kernel
theorem dX7_compare_83 : decode cX7_compare 83 = .ok (.ireturn, 1) := by decide +kernel
theorem dX7_count_0 : decode cX7_count 0 = .ok (.iload_n 1, 1) := by decide +kernel
theorem dX7_count_1 : decode cX7_count 1 = .ok (.bipush 8, 2) := by decide +kernel
theorem dX7_count_3 : decode cX7_count 3 = .ok (.invokestatic 166, 3) := by decide +kernel
theorem dX7_count_6 : decode cX7_count 6 = .ok (.iload_n 1, 1) := by decide +kernel
theorem dX7_count_7 : decode cX7_count 7 = .ok (.tableswitch 130 0 7 #[45, 53, 61, 72, 98, 106, 114, 122], 45) := by decide +kernel
theorem dX7_count_52 : decode cX7_count 52 = .ok (.aload_n 0, 1) := by decide +kernel
theorem dX7_count_53 : decode cX7_count 53 = .ok (.getfield 10, 3) := by decide +kernel
theorem dX7_count_56 : decode cX7_count 56 = .ok (.getfield 62, 3) := by decide +kernel
theorem dX7_count_59 : decode cX7_count 59 = .ok (.ireturn, 1) := by decide +kernel
theorem dX7_count_60 : decode cX7_count 60 = .ok (.aload_n 0, 1) := by decide +kernel
theorem dX7_count_61 : decode cX7_count 61 = .ok (.getfield 10, 3) := by decide +kernel
theorem dX7_count_64 : decode cX7_count 64 = .ok (.invokevirtual 109, 3) := by decide +kernel
theorem dX7_count_67 : decode cX7_count 67 = .ok (.ireturn, 1) := by decide +kernel
theorem dX7_count_68 : decode cX7_count 68 = .ok (.aload_n 0, 1) := by decide +kernel
theorem dX7_count_69 : decode cX7_count 69 = .ok (.getfield 35, 3) := by decide +kernel
theorem dX7_count_72 : decode cX7_count 72 = .ok (.invokevirtual 172, 3) := by decide +kernel
theorem dX7_count_75 : decode cX7_count 75 = .ok (.invokestatic 200, 3) := by decide +kernel
theorem dX7_count_78 : decode cX7_count 78 = .ok (.ireturn, 1) := by decide +kernel
theorem dX7_count_79 : decode cX7_count 79 = .ok (.aload_n 0, 1) := by decide +kernel
theorem dX7_count_80 : decode cX7_count 80 = .ok (.getfield 10, 3) := by decide +kernel
theorem dX7_count_83 : decode cX7_count 83 = .ok (.getfield 62, 3) := by decide +kernel
theorem dX7_count_86 : decode cX7_count 86 = .ok (.aload_n 0, 1) := by decide +kernel
theorem dX7_count_87 : decode cX7_count 87 = .ok (.getfield 10, 3) := by decide +kernel
theorem dX7_count_90 : decode cX7_count 90 = .ok (.aload_n 0, 1) := by decide +kernel
theorem dX7_count_91 : decode cX7_count 91 = .ok (.getfield 10, 3) := by decide +kernel
theorem dX7_count_94 : decode cX7_count 94 = .ok (.invokevirtual 205, 3) := by decide +kernel
theorem dX7_count_97 : decode cX7_count 97 = .ok (.invokevirtual 169, 3) := by decide +kernel
theorem dX7_count_100 : decode cX7_count 100 = .ok (.invokestatic 200, 3) := by decide +kernel
theorem dX7_count_103 : decode cX7_count 103 = .ok (.isub, 1) := by decide +kernel
theorem dX7_count_104 : decode cX7_count 104 = .ok (.ireturn, 1) := by decide +kernel
theorem dX7_count_105 : decode cX7_count 105 = .ok (.aload_n 0, 1) := by decide +kernel
theorem dX7_count_106 : decode cX7_count 106 = .ok (.getfield 10, 3) := by decide +kernel
theorem dX7_count_109 : decode cX7_count 109 = .ok (.getfield 103, 3) := by decide +kernel
theorem dX7_count_112 : decode cX7_count 112 = .ok (.ireturn, 1) := by decide +kernel
theorem dX7_count_113 : decode cX7_count 113 = .ok (.aload_n 0, 1) := by decide +kernel
theorem dX7_count_114 : decode cX7_count 114 = .ok (.getfield 10, 3) := by decide +kernel
theorem dX7_count_117 : decode cX7_count 117 = .ok (.invokevirtual 208, 3) := by decide +kernel
theorem dX7_count_120 : decode cX7_count 120 = .ok (.ireturn, 1) := by decide +kernel
theorem dX7_count_121 : decode cX7_count 121 = .ok (.aload_n 0, 1) := by decide +kernel
theorem dX7_count_122 : decode cX7_count 122 = .ok (.getfield 10, 3) := by decide +kernel
theorem dX7_count_125 : decode cX7_count 125 = .ok (.invokevirtual 211, 3) := by decide +kernel
theorem dX7_count_128 : decode cX7_count 128 = .ok (.ireturn, 1) := by decide +kernel
theorem dX7_count_129 : decode cX7_count 129 = .ok (.aload_n 0, 1) := by decide +kernel
theorem dX7_count_130 : decode cX7_count 130 = .ok (.invokevirtual 214, 3) := by decide +kernel
theorem dX7_count_133 : decode cX7_count 133 = .ok (.invokestatic 200, 3) := by decide +kernel
theorem dX7_count_136 : decode cX7_count 136 = .ok (.ireturn, 1) := by decide +kernel
theorem dX7_count_137 : decode cX7_count 137 = .ok (.aload_n 0, 1) := by decide +kernel
theorem dX7_count_138 : decode cX7_count 138 = .ok (.getfield 19, 3) := by decide +kernel
theorem dX7_count_141 : decode cX7_count 141 = .ok (.getfield 158, 3) := by decide +kernel
theorem dX7_count_144 : decode cX7_count 144 = .ok (.ireturn, 1) := by decide +kernel
theorem dX7_ifFair_0 : decode cX7_ifFair 0 = .ok (.iload_n 1, 1) := by decide +kernel
theorem dX7_ifFair_1 : decode cX7_ifFair 1 = .ok (.invokestatic 127, 3) := by decide +kernel
theorem dX7_ifFair_4 : decode cX7_ifFair 4 = .ok (.iload_n 2, 1) := by decide +kernel
theorem dX7_ifFair_5 : decode cX7_ifFair 5 = .ok (.invokestatic 100, 3) := by decide +kernel
theorem dX7_ifFair_8 : decode cX7_ifFair 8 = .ok (.aload_n 0, 1) := by decide +kernel
theorem dX7_ifFair_9 : decode cX7_ifFair 9 = .ok (.getfield 51, 3) := by decide +kernel
theorem dX7_ifFair_12 : decode cX7_ifFair 12 = .ok (.aload_n 0, 1) := by decide +kernel
theorem dX7_ifFair_13 : decode cX7_ifFair 13 = .ok (.getfield 10, 3) := by decide +kernel
theorem dX7_ifFair_16 : decode cX7_ifFair 16 = .ok (.iload_n 1, 1) := by decide +kernel
theorem dX7_ifFair_17 : decode cX7_ifFair 17 = .ok (.iload_n 2, 1) := by decide +kernel
theorem dX7_ifFair_18 : decode cX7_ifFair 18 = .ok (.invokevirtual 230, 3) := by decide +kernel
theorem dX7_ifFair_21 : decode cX7_ifFair 21 = .ok (.ireturn, 1) := by decide +kernel
theorem dX7_fulfilled_0 : decode cX7_fulfilled 0 = .ok (.iconst 0, 1) := by decide +kernel
theorem dX7_fulfilled_1 : decode cX7_fulfilled 1 = .ok (.istore_n 1, 1) := by decide +kernel
theorem dX7_fulfilled_2 : decode cX7_fulfilled 2 = .ok (.iconst 0, 1) := by decide +kernel
theorem dX7_fulfilled_3 : decode cX7_fulfilled 3 = .ok (.istore_n 2, 1) := by decide +kernel
theorem dX7_fulfilled_4 : decode cX7_fulfilled 4 = .ok (.iconst 0, 1) := by decide +kernel
theorem dX7_fulfilled_5 : decode cX7_fulfilled 5 = .ok (.istore_n 3, 1) := by decide +kernel
theorem dX7_fulfilled_6 : decode cX7_fulfilled 6 = .ok (.iload_n 3, 1) := by decide +kernel
theorem dX7_fulfilled_7 : decode cX7_fulfilled 7 = .ok (.iconst 4, 1) := by decide +kernel
theorem dX7_fulfilled_8 : decode cX7_fulfilled 8 = .ok (.if_icmp .ge 44, 3) := by decide +kernel
theorem dX7_fulfilled_11 : decode cX7_fulfilled 11 = .ok (.aload_n 0, 1) := by decide +kernel
theorem dX7_fulfilled_12 : decode cX7_fulfilled 12 = .ok (.getfield 10, 3) := by decide +kernel
theorem dX7_fulfilled_15 : decode cX7_fulfilled 15 = .ok (.iload_n 3, 1) := by decide +kernel
theorem dX7_fulfilled_16 : decode cX7_fulfilled 16 = .ok (.invokevirtual 140, 3) := by decide +kernel
theorem dX7_fulfilled_19 : decode cX7_fulfilled 19 = .ok (.ifCond .le 27, 3) := by decide +kernel
theorem dX7_fulfilled_22 : decode cX7_fulfilled 22 = .ok (.iload_n 1, 1) := by decide +kernel
theorem dX7_fulfilled_23 : decode cX7_fulfilled 23 = .ok (.aload_n 0, 1) := by decide +kernel
theorem dX7_fulfilled_24 : decode cX7_fulfilled 24 = .ok (.getfield 10, 3) := by decide +kernel
theorem dX7_fulfilled_27 : decode cX7_fulfilled 27 = .ok (.getfield 62, 3) := by decide +kernel
theorem dX7_fulfilled_30 : decode cX7_fulfilled 30 = .ok (.iadd, 1) := by decide +kernel
theorem dX7_fulfilled_31 : decode cX7_fulfilled 31 = .ok (.istore_n 1, 1) := by decide +kernel
theorem dX7_fulfilled_32 : decode cX7_fulfilled 32 = .ok (.iload_n 2, 1) := by decide +kernel
theorem dX7_fulfilled_33 : decode cX7_fulfilled 33 = .ok (.aload_n 0, 1) := by decide +kernel
theorem dX7_fulfilled_34 : decode cX7_fulfilled 34 = .ok (.getfield 35, 3) := by decide +kernel
theorem dX7_fulfilled_37 : decode cX7_fulfilled 37 = .ok (.iload_n 3, 1) := by decide +kernel
theorem dX7_fulfilled_38 : decode cX7_fulfilled 38 = .ok (.invokevirtual 178, 3) := by decide +kernel
theorem dX7_fulfilled_41 : decode cX7_fulfilled 41 = .ok (.invokestatic 200, 3) := by decide +kernel
theorem dX7_fulfilled_44 : decode cX7_fulfilled 44 = .ok (.iadd, 1) := by decide +kernel
theorem dX7_fulfilled_45 : decode cX7_fulfilled 45 = .ok (.istore_n 2, 1) := by decide +kernel
theorem dX7_fulfilled_46 : decode cX7_fulfilled 46 = .ok (.iinc 3 1, 3) := by decide +kernel
theorem dX7_fulfilled_49 : decode cX7_fulfilled 49 = .ok (.goto (-43), 3) := by decide +kernel
theorem dX7_fulfilled_52 : decode cX7_fulfilled 52 = .ok (.iload_n 1, 1) := by decide +kernel
theorem dX7_fulfilled_53 : decode cX7_fulfilled 53 = .ok (.ifCond .ne 7, 3) := by decide +kernel
theorem dX7_fulfilled_56 : decode cX7_fulfilled 56 = .ok (.dconst 1, 1) := by decide +kernel
theorem dX7_fulfilled_57 : decode cX7_fulfilled 57 = .ok (.goto 8, 3) := by decide +kernel
theorem dX7_fulfilled_60 : decode cX7_fulfilled 60 = .ok (.iload_n 2, 1) := by decide +kernel
theorem dX7_fulfilled_61 : decode cX7_fulfilled 61 = .ok (.i2d, 1) := by decide +kernel
theorem dX7_fulfilled_62 : decode cX7_fulfilled 62 = .ok (.iload_n 1, 1) := by decide +kernel
theorem dX7_fulfilled_63 : decode cX7_fulfilled 63 = .ok (.i2d, 1) := by decide +kernel
theorem dX7_fulfilled_64 : decode cX7_fulfilled 64 = .ok (.ddiv, 1) := by decide +kernel
theorem dX7_fulfilled_65 : decode cX7_fulfilled 65 = .ok (.dreturn, 1) := by decide +kernel
theorem dX7_needWorld_0 : decode cX7_needWorld 0 = .ok (.aload_n 0, 1) := by decide +kernel
theorem dX7_needWorld_1 : decode cX7_needWorld 1 = .ok (.getfield 10, 3) := by decide +kernel
theorem dX7_needWorld_4 : decode cX7_needWorld 4 = .ok (.iload_n 1, 1) := by decide +kernel
theorem dX7_needWorld_5 : decode cX7_needWorld 5 = .ok (.invokevirtual 274, 3) := by decide +kernel
theorem dX7_needWorld_8 : decode cX7_needWorld 8 = .ok (.ifCond .ne 14, 3) := by decide +kernel
theorem dX7_needWorld_11 : decode cX7_needWorld 11 = .ok (.new 184, 3) := by decide +kernel
theorem dX7_needWorld_14 : decode cX7_needWorld 14 = .ok (.dup, 1) := by decide +kernel
theorem dX7_needWorld_15 : decode cX7_needWorld 15 = .ok (.ldc_w 278, 3) := by decide +kernel
theorem dX7_needWorld_18 : decode cX7_needWorld 18 = .ok (.invokespecial 188, 3) := by decide +kernel
theorem dX7_needWorld_21 : decode cX7_needWorld 21 = .ok (.athrow, 1) := by decide +kernel
theorem dX7_needWorld_22 : decode cX7_needWorld 22 = .ok (.return_, 1) := by decide +kernel
theorem dX7_needWish_0 : decode cX7_needWish 0 = .ok (.iload_n 0, 1) := by decide +kernel
theorem dX7_needWish_1 : decode cX7_needWish 1 = .ok (.ifCond .lt 8, 3) := by decide +kernel
theorem dX7_needWish_4 : decode cX7_needWish 4 = .ok (.iload_n 0, 1) := by decide +kernel
theorem dX7_needWish_5 : decode cX7_needWish 5 = .ok (.iconst 4, 1) := by decide +kernel
theorem dX7_needWish_6 : decode cX7_needWish 6 = .ok (.if_icmp .lt 14, 3) := by decide +kernel
theorem dX7_needWish_9 : decode cX7_needWish 9 = .ok (.new 184, 3) := by decide +kernel
theorem dX7_needWish_12 : decode cX7_needWish 12 = .ok (.dup, 1) := by decide +kernel
theorem dX7_needWish_13 : decode cX7_needWish 13 = .ok (.ldc_w 280, 3) := by decide +kernel
theorem dX7_needWish_16 : decode cX7_needWish 16 = .ok (.invokespecial 188, 3) := by decide +kernel
theorem dX7_needWish_19 : decode cX7_needWish 19 = .ok (.athrow, 1) := by decide +kernel
theorem dX7_needWish_20 : decode cX7_needWish 20 = .ok (.return_, 1) := by decide +kernel
theorem dX7_needLetterOrNone_0 : decode cX7_needLetterOrNone 0 = .ok (.iload_n 0, 1) := by decide +kernel
theorem dX7_needLetterOrNone_1 : decode cX7_needLetterOrNone 1 = .ok (.iconst (-1), 1) := by decide +kernel
theorem dX7_needLetterOrNone_2 : decode cX7_needLetterOrNone 2 = .ok (.if_icmp .eq 23, 3) := by decide +kernel
theorem dX7_needLetterOrNone_5 : decode cX7_needLetterOrNone 5 = .ok (.iload_n 0, 1) := by decide +kernel
theorem dX7_needLetterOrNone_6 : decode cX7_needLetterOrNone 6 = .ok (.ifCond .lt 8, 3) := by decide +kernel
theorem dX7_needLetterOrNone_9 : decode cX7_needLetterOrNone 9 = .ok (.iload_n 0, 1) := by decide +kernel
theorem dX7_needLetterOrNone_10 : decode cX7_needLetterOrNone 10 = .ok (.iconst 4, 1) := by decide +kernel
theorem dX7_needLetterOrNone_11 : decode cX7_needLetterOrNone 11 = .ok (.if_icmp .lt 14, 3) := by decide +kernel
theorem dX7_needLetterOrNone_14 : decode cX7_needLetterOrNone 14 = .ok (.new 55, 3) := by decide +kernel
theorem dX7_needLetterOrNone_17 : decode cX7_needLetterOrNone 17 = .ok (.dup, 1) := by decide +kernel
theorem dX7_needLetterOrNone_18 : decode cX7_needLetterOrNone 18 = .ok (.ldc_w 282, 3) := by decide +kernel
theorem dX7_needLetterOrNone_21 : decode cX7_needLetterOrNone 21 = .ok (.invokespecial 59, 3) := by decide +kernel
theorem dX7_needLetterOrNone_24 : decode cX7_needLetterOrNone 24 = .ok (.athrow, 1) := by decide +kernel
theorem dX7_needLetterOrNone_25 : decode cX7_needLetterOrNone 25 = .ok (.return_, 1) := by decide +kernel
theorem dX7_needLook_0 : decode cX7_needLook 0 = .ok (.iload_n 0, 1) := by decide +kernel
theorem dX7_needLook_1 : decode cX7_needLook 1 = .ok (.ifCond .lt 8, 3) := by decide +kernel
theorem dX7_needLook_4 : decode cX7_needLook 4 = .ok (.iload_n 0, 1) := by decide +kernel
theorem dX7_needLook_5 : decode cX7_needLook 5 = .ok (.iload_n 1, 1) := by decide +kernel
theorem dX7_needLook_6 : decode cX7_needLook 6 = .ok (.if_icmp .le 14, 3) := by decide +kernel
theorem dX7_needLook_9 : decode cX7_needLook 9 = .ok (.new 55, 3) := by decide +kernel
theorem dX7_needLook_12 : decode cX7_needLook 12 = .ok (.dup, 1) := by decide +kernel
theorem dX7_needLook_13 : decode cX7_needLook 13 = .ok (.ldc_w 284, 3) := by decide +kernel
theorem dX7_needLook_16 : decode cX7_needLook 16 = .ok (.invokespecial 59, 3) := by decide +kernel
theorem dX7_needLook_19 : decode cX7_needLook 19 = .ok (.athrow, 1) := by decide +kernel
theorem dX7_needLook_20 : decode cX7_needLook 20 = .ok (.return_, 1) := by decide +kernel
theorem dX7_wishesHoldingIn_0 : decode cX7_wishesHoldingIn 0 = .ok (.iconst 0, 1) := by decide +kernel
theorem dX7_wishesHoldingIn_1 : decode cX7_wishesHoldingIn 1 = .ok (.istore_n 2, 1) := by decide +kernel
theorem dX7_wishesHoldingIn_2 : decode cX7_wishesHoldingIn 2 = .ok (.iconst 0, 1) := by decide +kernel
theorem dX7_wishesHoldingIn_3 : decode cX7_wishesHoldingIn 3 = .ok (.istore_n 3, 1) := by decide +kernel
theorem dX7_wishesHoldingIn_4 : decode cX7_wishesHoldingIn 4 = .ok (.iload_n 3, 1) := by decide +kernel
theorem dX7_wishesHoldingIn_5 : decode cX7_wishesHoldingIn 5 = .ok (.iconst 4, 1) := by decide +kernel
theorem dX7_wishesHoldingIn_6 : decode cX7_wishesHoldingIn 6 = .ok (.if_icmp .ge 37, 3) := by decide +kernel
theorem dX7_wishesHoldingIn_9 : decode cX7_wishesHoldingIn 9 = .ok (.aload_n 0, 1) := by decide +kernel
theorem dX7_wishesHoldingIn_10 : decode cX7_wishesHoldingIn 10 = .ok (.getfield 10, 3) := by decide +kernel
theorem dX7_wishesHoldingIn_13 : decode cX7_wishesHoldingIn 13 = .ok (.iload_n 3, 1) := by decide +kernel
theorem dX7_wishesHoldingIn_14 : decode cX7_wishesHoldingIn 14 = .ok (.invokevirtual 140, 3) := by decide +kernel
theorem dX7_wishesHoldingIn_17 : decode cX7_wishesHoldingIn 17 = .ok (.ifCond .le 20, 3) := by decide +kernel
theorem dX7_wishesHoldingIn_20 : decode cX7_wishesHoldingIn 20 = .ok (.iload_n 2, 1) := by decide +kernel
theorem dX7_wishesHoldingIn_21 : decode cX7_wishesHoldingIn 21 = .ok (.aload_n 0, 1) := by decide +kernel
theorem dX7_wishesHoldingIn_22 : decode cX7_wishesHoldingIn 22 = .ok (.getfield 35, 3) := by decide +kernel
theorem dX7_wishesHoldingIn_25 : decode cX7_wishesHoldingIn 25 = .ok (.iload_n 3, 1) := by decide +kernel
theorem dX7_wishesHoldingIn_26 : decode cX7_wishesHoldingIn 26 = .ok (.invokevirtual 178, 3) := by decide +kernel
theorem dX7_wishesHoldingIn_29 : decode cX7_wishesHoldingIn 29 = .ok (.iload_n 1, 1) := by decide +kernel
theorem dX7_wishesHoldingIn_30 : decode cX7_wishesHoldingIn 30 = .ok (.ishr, 1) := by decide +kernel
theorem dX7_wishesHoldingIn_31 : decode cX7_wishesHoldingIn 31 = .ok (.iconst 1, 1) := by decide +kernel
theorem dX7_wishesHoldingIn_32 : decode cX7_wishesHoldingIn 32 = .ok (.iand, 1) := by decide +kernel
theorem dX7_wishesHoldingIn_33 : decode cX7_wishesHoldingIn 33 = .ok (.iload_n 3, 1) := by decide +kernel
theorem dX7_wishesHoldingIn_34 : decode cX7_wishesHoldingIn 34 = .ok (.ishl, 1) := by decide +kernel
theorem dX7_wishesHoldingIn_35 : decode cX7_wishesHoldingIn 35 = .ok (.ior, 1) := by decide +kernel
theorem dX7_wishesHoldingIn_36 : decode cX7_wishesHoldingIn 36 = .ok (.istore_n 2, 1) := by decide +kernel
theorem dX7_wishesHoldingIn_37 : decode cX7_wishesHoldingIn 37 = .ok (.iinc 3 1, 3) := by decide +kernel
theorem dX7_wishesHoldingIn_40 : decode cX7_wishesHoldingIn 40 = .ok (.goto (-36), 3) := by decide +kernel
theorem dX7_wishesHoldingIn_43 : decode cX7_wishesHoldingIn 43 = .ok (.iload_n 2, 1) := by decide +kernel
theorem dX7_wishesHoldingIn_44 : decode cX7_wishesHoldingIn 44 = .ok (.ireturn, 1) := by decide +kernel
theorem dX7_worldsOfAllWishes_0 : decode cX7_worldsOfAllWishes 0 = .ok (.aload_n 0, 1) := by decide +kernel
theorem dX7_worldsOfAllWishes_1 : decode cX7_worldsOfAllWishes 1 = .ok (.getfield 10, 3) := by decide +kernel
theorem dX7_worldsOfAllWishes_4 : decode cX7_worldsOfAllWishes 4 = .ok (.invokevirtual 205, 3) := by decide +kernel
theorem dX7_worldsOfAllWishes_7 : decode cX7_worldsOfAllWishes 7 = .ok (.istore_n 1, 1) := by decide +kernel
theorem dX7_worldsOfAllWishes_8 : decode cX7_worldsOfAllWishes 8 = .ok (.iconst 0, 1) := by decide +kernel
theorem dX7_worldsOfAllWishes_9 : decode cX7_worldsOfAllWishes 9 = .ok (.istore_n 2, 1) := by decide +kernel
theorem dX7_worldsOfAllWishes_10 : decode cX7_worldsOfAllWishes 10 = .ok (.iload_n 2, 1) := by decide +kernel
theorem dX7_worldsOfAllWishes_11 : decode cX7_worldsOfAllWishes 11 = .ok (.iconst 4, 1) := by decide +kernel
theorem dX7_worldsOfAllWishes_12 : decode cX7_worldsOfAllWishes 12 = .ok (.if_icmp .ge 31, 3) := by decide +kernel
theorem dX7_worldsOfAllWishes_15 : decode cX7_worldsOfAllWishes 15 = .ok (.aload_n 0, 1) := by decide +kernel
theorem dX7_worldsOfAllWishes_16 : decode cX7_worldsOfAllWishes 16 = .ok (.getfield 10, 3) := by decide +kernel
theorem dX7_worldsOfAllWishes_19 : decode cX7_worldsOfAllWishes 19 = .ok (.iload_n 2, 1) := by decide +kernel
theorem dX7_worldsOfAllWishes_20 : decode cX7_worldsOfAllWishes 20 = .ok (.invokevirtual 140, 3) := by decide +kernel
theorem dX7_worldsOfAllWishes_23 : decode cX7_worldsOfAllWishes 23 = .ok (.ifCond .le 14, 3) := by decide +kernel
theorem dX7_worldsOfAllWishes_26 : decode cX7_worldsOfAllWishes 26 = .ok (.iload_n 1, 1) := by decide +kernel
theorem dX7_worldsOfAllWishes_27 : decode cX7_worldsOfAllWishes 27 = .ok (.aload_n 0, 1) := by decide +kernel
theorem dX7_worldsOfAllWishes_28 : decode cX7_worldsOfAllWishes 28 = .ok (.getfield 35, 3) := by decide +kernel
theorem dX7_worldsOfAllWishes_31 : decode cX7_worldsOfAllWishes 31 = .ok (.iload_n 2, 1) := by decide +kernel
theorem dX7_worldsOfAllWishes_32 : decode cX7_worldsOfAllWishes 32 = .ok (.invokevirtual 178, 3) := by decide +kernel
theorem dX7_worldsOfAllWishes_35 : decode cX7_worldsOfAllWishes 35 = .ok (.iand, 1) := by decide +kernel
theorem dX7_worldsOfAllWishes_36 : decode cX7_worldsOfAllWishes 36 = .ok (.istore_n 1, 1) := by decide +kernel
theorem dX7_worldsOfAllWishes_37 : decode cX7_worldsOfAllWishes 37 = .ok (.iinc 2 1, 3) := by decide +kernel
theorem dX7_worldsOfAllWishes_40 : decode cX7_worldsOfAllWishes 40 = .ok (.goto (-30), 3) := by decide +kernel
theorem dX7_worldsOfAllWishes_43 : decode cX7_worldsOfAllWishes 43 = .ok (.iload_n 1, 1) := by decide +kernel
theorem dX7_worldsOfAllWishes_44 : decode cX7_worldsOfAllWishes 44 = .ok (.ireturn, 1) := by decide +kernel
theorem dJ6_bitCount_0f7a4_0 : decode cJ6_bitCount_0f7a4 0 = .ok (.iload_n 0, 1) := by decide +kernel
theorem dJ6_bitCount_0f7a4_1 : decode cJ6_bitCount_0f7a4 1 = .ok (.iload_n 0, 1) := by decide +kernel
theorem dJ6_bitCount_0f7a4_2 : decode cJ6_bitCount_0f7a4 2 = .ok (.iconst 1, 1) := by decide +kernel
theorem dJ6_bitCount_0f7a4_3 : decode cJ6_bitCount_0f7a4 3 = .ok (.iushr, 1) := by decide +kernel
theorem dJ6_bitCount_0f7a4_4 : decode cJ6_bitCount_0f7a4 4 = .ok (.ldc_w 265, 3) := by decide +kernel
theorem dJ6_bitCount_0f7a4_7 : decode cJ6_bitCount_0f7a4 7 = .ok (.iand, 1) := by decide +kernel
theorem dJ6_bitCount_0f7a4_8 : decode cJ6_bitCount_0f7a4 8 = .ok (.isub, 1) := by decide +kernel
theorem dJ6_bitCount_0f7a4_9 : decode cJ6_bitCount_0f7a4 9 = .ok (.istore_n 0, 1) := by decide +kernel
theorem dJ6_bitCount_0f7a4_10 : decode cJ6_bitCount_0f7a4 10 = .ok (.iload_n 0, 1) := by decide +kernel
theorem dJ6_bitCount_0f7a4_11 : decode cJ6_bitCount_0f7a4 11 = .ok (.ldc_w 266, 3) := by decide +kernel
theorem dJ6_bitCount_0f7a4_14 : decode cJ6_bitCount_0f7a4 14 = .ok (.iand, 1) := by decide +kernel
theorem dJ6_bitCount_0f7a4_15 : decode cJ6_bitCount_0f7a4 15 = .ok (.iload_n 0, 1) := by decide +kernel
theorem dJ6_bitCount_0f7a4_16 : decode cJ6_bitCount_0f7a4 16 = .ok (.iconst 2, 1) := by decide +kernel
theorem dJ6_bitCount_0f7a4_17 : decode cJ6_bitCount_0f7a4 17 = .ok (.iushr, 1) := by decide +kernel
theorem dJ6_bitCount_0f7a4_18 : decode cJ6_bitCount_0f7a4 18 = .ok (.ldc_w 266, 3) := by decide +kernel
theorem dJ6_bitCount_0f7a4_21 : decode cJ6_bitCount_0f7a4 21 = .ok (.iand, 1) := by decide +kernel
theorem dJ6_bitCount_0f7a4_22 : decode cJ6_bitCount_0f7a4 22 = .ok (.iadd, 1) := by decide +kernel
theorem dJ6_bitCount_0f7a4_23 : decode cJ6_bitCount_0f7a4 23 = .ok (.istore_n 0, 1) := by decide +kernel
theorem dJ6_bitCount_0f7a4_24 : decode cJ6_bitCount_0f7a4 24 = .ok (.iload_n 0, 1) := by decide +kernel
theorem dJ6_bitCount_0f7a4_25 : decode cJ6_bitCount_0f7a4 25 = .ok (.iload_n 0, 1) := by decide +kernel
theorem dJ6_bitCount_0f7a4_26 : decode cJ6_bitCount_0f7a4 26 = .ok (.iconst 4, 1) := by decide +kernel
theorem dJ6_bitCount_0f7a4_27 : decode cJ6_bitCount_0f7a4 27 = .ok (.iushr, 1) := by decide +kernel
theorem dJ6_bitCount_0f7a4_28 : decode cJ6_bitCount_0f7a4 28 = .ok (.iadd, 1) := by decide +kernel
theorem dJ6_bitCount_0f7a4_29 : decode cJ6_bitCount_0f7a4 29 = .ok (.ldc_w 267, 3) := by decide +kernel
theorem dJ6_bitCount_0f7a4_32 : decode cJ6_bitCount_0f7a4 32 = .ok (.iand, 1) := by decide +kernel
theorem dJ6_bitCount_0f7a4_33 : decode cJ6_bitCount_0f7a4 33 = .ok (.istore_n 0, 1) := by decide +kernel
theorem dJ6_bitCount_0f7a4_34 : decode cJ6_bitCount_0f7a4 34 = .ok (.iload_n 0, 1) := by decide +kernel
theorem dJ6_bitCount_0f7a4_35 : decode cJ6_bitCount_0f7a4 35 = .ok (.iload_n 0, 1) := by decide +kernel
theorem dJ6_bitCount_0f7a4_36 : decode cJ6_bitCount_0f7a4 36 = .ok (.bipush 8, 2) := by decide +kernel
theorem dJ6_bitCount_0f7a4_38 : decode cJ6_bitCount_0f7a4 38 = .ok (.iushr, 1) := by decide +kernel
theorem dJ6_bitCount_0f7a4_39 : decode cJ6_bitCount_0f7a4 39 = .ok (.iadd, 1) := by decide +kernel
theorem dJ6_bitCount_0f7a4_40 : decode cJ6_bitCount_0f7a4 40 = .ok (.istore_n 0, 1) := by decide +kernel
theorem dJ6_bitCount_0f7a4_41 : decode cJ6_bitCount_0f7a4 41 = .ok (.iload_n 0, 1) := by decide +kernel
theorem dJ6_bitCount_0f7a4_42 : decode cJ6_bitCount_0f7a4 42 = .ok (.iload_n 0, 1) := by decide +kernel
theorem dJ6_bitCount_0f7a4_43 : decode cJ6_bitCount_0f7a4 43 = .ok (.bipush 16, 2) := by decide +kernel
theorem dJ6_bitCount_0f7a4_45 : decode cJ6_bitCount_0f7a4 45 = .ok (.iushr, 1) := by decide +kernel
theorem dJ6_bitCount_0f7a4_46 : decode cJ6_bitCount_0f7a4 46 = .ok (.iadd, 1) := by decide +kernel
theorem dJ6_bitCount_0f7a4_47 : decode cJ6_bitCount_0f7a4 47 = .ok (.istore_n 0, 1) := by decide +kernel
theorem dJ6_bitCount_0f7a4_48 : decode cJ6_bitCount_0f7a4 48 = .ok (.iload_n 0, 1) := by decide +kernel
theorem dJ6_bitCount_0f7a4_49 : decode cJ6_bitCount_0f7a4 49 = .ok (.bipush 63, 2) := by decide +kernel
theorem dJ6_bitCount_0f7a4_51 : decode cJ6_bitCount_0f7a4 51 = .ok (.iand, 1) := by decide +kernel
theorem dJ6_bitCount_0f7a4_52 : decode cJ6_bitCount_0f7a4 52 = .ok (.ireturn, 1) := by decide +kernel
theorem dJ9_max_7cf53_0 : decode cJ9_max_7cf53 0 = .ok (.iload_n 0, 1) := by decide +kernel
theorem dJ9_max_7cf53_1 : decode cJ9_max_7cf53 1 = .ok (.iload_n 1, 1) := by decide +kernel
theorem dJ9_max_7cf53_2 : decode cJ9_max_7cf53 2 = .ok (.if_icmp .lt 7, 3) := by decide +kernel
theorem dJ9_max_7cf53_5 : decode cJ9_max_7cf53 5 = .ok (.iload_n 0, 1) := by decide +kernel
theorem dJ9_max_7cf53_6 : decode cJ9_max_7cf53 6 = .ok (.goto 4, 3) := by decide +kernel
theorem dJ9_max_7cf53_9 : decode cJ9_max_7cf53 9 = .ok (.iload_n 1, 1) := by decide +kernel
theorem dJ9_max_7cf53_10 : decode cJ9_max_7cf53 10 = .ok (.ireturn, 1) := by decide +kernel
theorem dL_cell_0 : decode cL_cell 0 = .ok (.iload_n 1, 1) := by decide +kernel
theorem dL_cell_1 : decode cL_cell 1 = .ok (.aload_n 0, 1) := by decide +kernel
theorem dL_cell_2 : decode cL_cell 2 = .ok (.arraylength, 1) := by decide +kernel
theorem dL_cell_3 : decode cL_cell 3 = .ok (.if_icmp .ge 9, 3) := by decide +kernel
theorem dL_cell_6 : decode cL_cell 6 = .ok (.aload_n 0, 1) := by decide +kernel
theorem dL_cell_7 : decode cL_cell 7 = .ok (.iload_n 1, 1) := by decide +kernel
theorem dL_cell_8 : decode cL_cell 8 = .ok (.iaload, 1) := by decide +kernel
theorem dL_cell_9 : decode cL_cell 9 = .ok (.goto 10, 3) := by decide +kernel
theorem dL_cell_12 : decode cL_cell 12 = .ok (.ldc 7, 2) := by decide +kernel
theorem dL_cell_14 : decode cL_cell 14 = .ok (.iload_n 1, 1) := by decide +kernel
theorem dL_cell_15 : decode cL_cell 15 = .ok (.imul, 1) := by decide +kernel
theorem dL_cell_16 : decode cL_cell 16 = .ok (.ldc 8, 2) := by decide +kernel
theorem dL_cell_18 : decode cL_cell 18 = .ok (.iadd, 1) := by decide +kernel
theorem dL_cell_19 : decode cL_cell 19 = .ok (.ireturn, 1) := by decide +kernel
theorem dL_low_0 : decode cL_low 0 = .ok (.iload_n 0, 1) := by decide +kernel
theorem dL_low_1 : decode cL_low 1 = .ok (.ldc 9, 2) := by decide +kernel
theorem dL_low_3 : decode cL_low 3 = .ok (.iand, 1) := by decide +kernel
theorem dL_low_4 : decode cL_low 4 = .ok (.iload_n 1, 1) := by decide +kernel
theorem dL_low_5 : decode cL_low 5 = .ok (.irem, 1) := by decide +kernel
theorem dL_low_6 : decode cL_low 6 = .ok (.ireturn, 1) := by decide +kernel
theorem dL_sign_0 : decode cL_sign 0 = .ok (.iload_n 0, 1) := by decide +kernel
theorem dL_sign_1 : decode cL_sign 1 = .ok (.bipush 16, 2) := by decide +kernel
theorem dL_sign_3 : decode cL_sign 3 = .ok (.invokestatic 10, 3) := by decide +kernel
theorem dL_sign_6 : decode cL_sign 6 = .ok (.istore_n 3, 1) := by decide +kernel
theorem dL_sign_7 : decode cL_sign 7 = .ok (.iload_n 1, 1) := by decide +kernel
theorem dL_sign_8 : decode cL_sign 8 = .ok (.iload_n 2, 1) := by decide +kernel
theorem dL_sign_9 : decode cL_sign 9 = .ok (.isub, 1) := by decide +kernel
theorem dL_sign_10 : decode cL_sign 10 = .ok (.istore 4, 2) := by decide +kernel
theorem dL_sign_12 : decode cL_sign 12 = .ok (.iload 4, 2) := by decide +kernel
theorem dL_sign_14 : decode cL_sign 14 = .ok (.iconst 2, 1) := by decide +kernel
theorem dL_sign_15 : decode cL_sign 15 = .ok (.if_icmp .lt 8, 3) := by decide +kernel
theorem dL_sign_18 : decode cL_sign 18 = .ok (.iload_n 3, 1) := by decide +kernel
theorem dL_sign_19 : decode cL_sign 19 = .ok (.iconst 3, 1) := by decide +kernel
theorem dL_sign_20 : decode cL_sign 20 = .ok (.if_icmp .ge 26, 3) := by decide +kernel
theorem dL_sign_23 : decode cL_sign 23 = .ok (.iload_n 3, 1) := by decide +kernel
theorem dL_sign_24 : decode cL_sign 24 = .ok (.iconst 5, 1) := by decide +kernel
theorem dL_sign_25 : decode cL_sign 25 = .ok (.irem, 1) := by decide +kernel
theorem dL_sign_26 : decode cL_sign 26 = .ok (.iconst 4, 1) := by decide +kernel
theorem dL_sign_27 : decode cL_sign 27 = .ok (.if_icmp .ne 8, 3) := by decide +kernel
theorem dL_sign_30 : decode cL_sign 30 = .ok (.bipush 116, 2) := by decide +kernel
theorem dL_sign_32 : decode cL_sign 32 = .ok (.goto 13, 3) := by decide +kernel
theorem dL_sign_35 : decode cL_sign 35 = .ok (.bipush 97, 2) := by decide +kernel
theorem dL_sign_37 : decode cL_sign 37 = .ok (.iload_n 0, 1) := by decide +kernel
theorem dL_sign_38 : decode cL_sign 38 = .ok (.iconst 4, 1) := by decide +kernel
theorem dL_sign_39 : decode cL_sign 39 = .ok (.ishr, 1) := by decide +kernel
theorem dL_sign_40 : decode cL_sign 40 = .ok (.iconst 4, 1) := by decide +kernel
theorem dL_sign_41 : decode cL_sign 41 = .ok (.invokestatic 10, 3) := by decide +kernel
theorem dL_sign_44 : decode cL_sign 44 = .ok (.iadd, 1) := by decide +kernel
theorem dL_sign_45 : decode cL_sign 45 = .ok (.ireturn, 1) := by decide +kernel
theorem dL_sign_46 : decode cL_sign 46 = .ok (.iload_n 3, 1) := by decide +kernel
theorem dL_sign_47 : decode cL_sign 47 = .ok (.bipush 6, 2) := by decide +kernel
theorem dL_sign_49 : decode cL_sign 49 = .ok (.if_icmp .ge 8, 3) := by decide +kernel
theorem dL_sign_52 : decode cL_sign 52 = .ok (.bipush 33, 2) := by decide +kernel
theorem dL_sign_54 : decode cL_sign 54 = .ok (.goto 38, 3) := by decide +kernel
theorem dL_sign_57 : decode cL_sign 57 = .ok (.iload_n 3, 1) := by decide +kernel
theorem dL_sign_58 : decode cL_sign 58 = .ok (.bipush 8, 2) := by decide +kernel
theorem dL_sign_60 : decode cL_sign 60 = .ok (.if_icmp .ge 8, 3) := by decide +kernel
theorem dL_sign_63 : decode cL_sign 63 = .ok (.bipush 38, 2) := by decide +kernel
theorem dL_sign_65 : decode cL_sign 65 = .ok (.goto 27, 3) := by decide +kernel
theorem dL_sign_68 : decode cL_sign 68 = .ok (.iload_n 3, 1) := by decide +kernel
theorem dL_sign_69 : decode cL_sign 69 = .ok (.bipush 9, 2) := by decide +kernel
theorem dL_sign_71 : decode cL_sign 71 = .ok (.if_icmp .ge 8, 3) := by decide +kernel
theorem dL_sign_74 : decode cL_sign 74 = .ok (.bipush 124, 2) := by decide +kernel
theorem dL_sign_76 : decode cL_sign 76 = .ok (.goto 16, 3) := by decide +kernel
theorem dL_sign_79 : decode cL_sign 79 = .ok (.iload_n 3, 1) := by decide +kernel
theorem dL_sign_80 : decode cL_sign 80 = .ok (.bipush 13, 2) := by decide +kernel
theorem dL_sign_82 : decode cL_sign 82 = .ok (.if_icmp .ge 8, 3) := by decide +kernel
theorem dL_sign_85 : decode cL_sign 85 = .ok (.bipush 69, 2) := by decide +kernel
theorem dL_sign_87 : decode cL_sign 87 = .ok (.goto 5, 3) := by decide +kernel
theorem dL_sign_90 : decode cL_sign 90 = .ok (.bipush 65, 2) := by decide +kernel
theorem dL_sign_92 : decode cL_sign 92 = .ok (.ireturn, 1) := by decide +kernel
theorem dL_way_0 : decode cL_way 0 = .ok (.iload_n 0, 1) := by decide +kernel
theorem dL_way_1 : decode cL_way 1 = .ok (.iconst 4, 1) := by decide +kernel
theorem dL_way_2 : decode cL_way 2 = .ok (.invokestatic 10, 3) := by decide +kernel
theorem dL_way_5 : decode cL_way 5 = .ok (.istore_n 3, 1) := by decide +kernel
theorem dL_way_6 : decode cL_way 6 = .ok (.iload_n 3, 1) := by decide +kernel
theorem dL_way_7 : decode cL_way 7 = .ok (.ifCond .ne 8, 3) := by decide +kernel
theorem dL_way_10 : decode cL_way 10 = .ok (.bipush 88, 2) := by decide +kernel
theorem dL_way_12 : decode cL_way 12 = .ok (.goto 37, 3) := by decide +kernel
theorem dL_way_15 : decode cL_way 15 = .ok (.iload_n 3, 1) := by decide +kernel
theorem dL_way_16 : decode cL_way 16 = .ok (.iconst 1, 1) := by decide +kernel
theorem dL_way_17 : decode cL_way 17 = .ok (.if_icmp .ne 8, 3) := by decide +kernel
theorem dL_way_20 : decode cL_way 20 = .ok (.bipush 70, 2) := by decide +kernel
theorem dL_way_22 : decode cL_way 22 = .ok (.goto 27, 3) := by decide +kernel
theorem dL_way_25 : decode cL_way 25 = .ok (.iload_n 3, 1) := by decide +kernel
theorem dL_way_26 : decode cL_way 26 = .ok (.iconst 2, 1) := by decide +kernel
theorem dL_way_27 : decode cL_way 27 = .ok (.if_icmp .ne 8, 3) := by decide +kernel
theorem dL_way_30 : decode cL_way 30 = .ok (.bipush 71, 2) := by decide +kernel
theorem dL_way_32 : decode cL_way 32 = .ok (.goto 17, 3) := by decide +kernel
theorem dL_way_35 : decode cL_way 35 = .ok (.iload_n 1, 1) := by decide +kernel
theorem dL_way_36 : decode cL_way 36 = .ok (.iload_n 2, 1) := by decide +kernel
theorem dL_way_37 : decode cL_way 37 = .ok (.isub, 1) := by decide +kernel
theorem dL_way_38 : decode cL_way 38 = .ok (.iconst 2, 1) := by decide +kernel
theorem dL_way_39 : decode cL_way 39 = .ok (.if_icmp .ge 8, 3) := by decide +kernel
theorem dL_way_42 : decode cL_way 42 = .ok (.bipush 71, 2) := by decide +kernel
theorem dL_way_44 : decode cL_way 44 = .ok (.goto 5, 3) := by decide +kernel
theorem dL_way_47 : decode cL_way 47 = .ok (.bipush 85, 2) := by decide +kernel
theorem dL_way_49 : decode cL_way 49 = .ok (.ireturn, 1) := by decide +kernel
theorem dL_write_0 : decode cL_write 0 = .ok (.iconst 0, 1) := by decide +kernel
theorem dL_write_1 : decode cL_write 1 = .ok (.istore 4, 2) := by decide +kernel
theorem dL_write_3 : decode cL_write 3 = .ok (.iconst 1, 1) := by decide +kernel
theorem dL_write_4 : decode cL_write 4 = .ok (.istore 5, 2) := by decide +kernel
theorem dL_write_6 : decode cL_write 6 = .ok (.iconst 0, 1) := by decide +kernel
theorem dL_write_7 : decode cL_write 7 = .ok (.istore 6, 2) := by decide +kernel
theorem dL_write_9 : decode cL_write 9 = .ok (.iload 5, 2) := by decide +kernel
theorem dL_write_11 : decode cL_write 11 = .ok (.ifCond .le 168, 3) := by decide +kernel
theorem dL_write_14 : decode cL_write 14 = .ok (.aload_n 1, 1) := by decide +kernel
theorem dL_write_15 : decode cL_write 15 = .ok (.iload_n 2, 1) := by decide +kernel
theorem dL_write_16 : decode cL_write 16 = .ok (.iload 4, 2) := by decide +kernel
theorem dL_write_18 : decode cL_write 18 = .ok (.iadd, 1) := by decide +kernel
theorem dL_write_19 : decode cL_write 19 = .ok (.invokestatic 16, 3) := by decide +kernel
theorem dL_write_22 : decode cL_write 22 = .ok (.istore 7, 2) := by decide +kernel
theorem dL_write_24 : decode cL_write 24 = .ok (.iload 6, 2) := by decide +kernel
theorem dL_write_26 : decode cL_write 26 = .ok (.ifCond .eq 17, 3) := by decide +kernel
theorem dL_write_29 : decode cL_write 29 = .ok (.iload 7, 2) := by decide +kernel
theorem dL_write_31 : decode cL_write 31 = .ok (.iload_n 3, 1) := by decide +kernel
theorem dL_write_32 : decode cL_write 32 = .ok (.iload 4, 2) := by decide +kernel
theorem dL_write_34 : decode cL_write 34 = .ok (.isub, 1) := by decide +kernel
theorem dL_write_35 : decode cL_write 35 = .ok (.iload 5, 2) := by decide +kernel
theorem dL_write_37 : decode cL_write 37 = .ok (.invokestatic 20, 3) := by decide +kernel
theorem dL_write_40 : decode cL_write 40 = .ok (.goto 14, 3) := by decide +kernel
theorem dL_write_43 : decode cL_write 43 = .ok (.iload 7, 2) := by decide +kernel
theorem dL_write_45 : decode cL_write 45 = .ok (.iload_n 3, 1) := by decide +kernel
theorem dL_write_46 : decode cL_write 46 = .ok (.iload 4, 2) := by decide +kernel
theorem dL_write_48 : decode cL_write 48 = .ok (.isub, 1) := by decide +kernel
theorem dL_write_49 : decode cL_write 49 = .ok (.iload 5, 2) := by decide +kernel
theorem dL_write_51 : decode cL_write 51 = .ok (.invokestatic 24, 3) := by decide +kernel
theorem dL_write_54 : decode cL_write 54 = .ok (.istore 8, 2) := by decide +kernel
theorem dL_write_56 : decode cL_write 56 = .ok (.iload 5, 2) := by decide +kernel
theorem dL_write_58 : decode cL_write 58 = .ok (.iload 6, 2) := by decide +kernel
theorem dL_write_60 : decode cL_write 60 = .ok (.ifCond .eq 18, 3) := by decide +kernel
theorem dL_write_63 : decode cL_write 63 = .ok (.iload 8, 2) := by decide +kernel
theorem dL_write_65 : decode cL_write 65 = .ok (.bipush 85, 2) := by decide +kernel
theorem dL_write_67 : decode cL_write 67 = .ok (.if_icmp .ne 7, 3) := by decide +kernel
theorem dL_write_70 : decode cL_write 70 = .ok (.iconst 1, 1) := by decide +kernel
theorem dL_write_71 : decode cL_write 71 = .ok (.goto 51, 3) := by decide +kernel
theorem dL_write_74 : decode cL_write 74 = .ok (.iconst 0, 1) := by decide +kernel
theorem dL_write_75 : decode cL_write 75 = .ok (.goto 47, 3) := by decide +kernel
theorem dL_write_78 : decode cL_write 78 = .ok (.iload 8, 2) := by decide +kernel
theorem dL_write_80 : decode cL_write 80 = .ok (.bipush 38, 2) := by decide +kernel
theorem dL_write_82 : decode cL_write 82 = .ok (.if_icmp .eq 10, 3) := by decide +kernel
theorem dL_write_85 : decode cL_write 85 = .ok (.iload 8, 2) := by decide +kernel
theorem dL_write_87 : decode cL_write 87 = .ok (.bipush 124, 2) := by decide +kernel
theorem dL_write_89 : decode cL_write 89 = .ok (.if_icmp .ne 7, 3) := by decide +kernel
theorem dL_write_92 : decode cL_write 92 = .ok (.iconst 1, 1) := by decide +kernel
theorem dL_write_93 : decode cL_write 93 = .ok (.goto 29, 3) := by decide +kernel
theorem dL_write_96 : decode cL_write 96 = .ok (.iload 8, 2) := by decide +kernel
theorem dL_write_98 : decode cL_write 98 = .ok (.bipush 33, 2) := by decide +kernel
theorem dL_write_100 : decode cL_write 100 = .ok (.if_icmp .eq 17, 3) := by decide +kernel
theorem dL_write_103 : decode cL_write 103 = .ok (.iload 8, 2) := by decide +kernel
theorem dL_write_105 : decode cL_write 105 = .ok (.bipush 69, 2) := by decide +kernel
theorem dL_write_107 : decode cL_write 107 = .ok (.if_icmp .eq 10, 3) := by decide +kernel
theorem dL_write_110 : decode cL_write 110 = .ok (.iload 8, 2) := by decide +kernel
theorem dL_write_112 : decode cL_write 112 = .ok (.bipush 65, 2) := by decide +kernel
theorem dL_write_114 : decode cL_write 114 = .ok (.if_icmp .ne 7, 3) := by decide +kernel
theorem dL_write_117 : decode cL_write 117 = .ok (.iconst 0, 1) := by decide +kernel
theorem dL_write_118 : decode cL_write 118 = .ok (.goto 4, 3) := by decide +kernel
theorem dL_write_121 : decode cL_write 121 = .ok (.iconst (-1), 1) := by decide +kernel
theorem dL_write_122 : decode cL_write 122 = .ok (.iadd, 1) := by decide +kernel
theorem dL_write_123 : decode cL_write 123 = .ok (.istore 5, 2) := by decide +kernel
theorem dL_write_125 : decode cL_write 125 = .ok (.iload 6, 2) := by decide +kernel
theorem dL_write_127 : decode cL_write 127 = .ok (.ifCond .ne 21, 3) := by decide +kernel
theorem dL_write_130 : decode cL_write 130 = .ok (.iload 8, 2) := by decide +kernel
theorem dL_write_132 : decode cL_write 132 = .ok (.bipush 69, 2) := by decide +kernel
theorem dL_write_134 : decode cL_write 134 = .ok (.if_icmp .eq 10, 3) := by decide +kernel
theorem dL_write_137 : decode cL_write 137 = .ok (.iload 8, 2) := by decide +kernel
theorem dL_write_139 : decode cL_write 139 = .ok (.bipush 65, 2) := by decide +kernel
theorem dL_write_141 : decode cL_write 141 = .ok (.if_icmp .ne 7, 3) := by decide +kernel
theorem dL_write_144 : decode cL_write 144 = .ok (.iconst 1, 1) := by decide +kernel
theorem dL_write_145 : decode cL_write 145 = .ok (.goto 4, 3) := by decide +kernel
theorem dL_write_148 : decode cL_write 148 = .ok (.iconst 0, 1) := by decide +kernel
theorem dL_write_149 : decode cL_write 149 = .ok (.istore 6, 2) := by decide +kernel
theorem dL_write_151 : decode cL_write 151 = .ok (.aload_n 0, 1) := by decide +kernel
theorem dL_write_152 : decode cL_write 152 = .ok (.iload 8, 2) := by decide +kernel
theorem dL_write_154 : decode cL_write 154 = .ok (.invokevirtual 27, 3) := by decide +kernel
theorem dL_write_157 : decode cL_write 157 = .ok (.iload 4, 2) := by decide +kernel
theorem dL_write_159 : decode cL_write 159 = .ok (.iconst 1, 1) := by decide +kernel
theorem dL_write_160 : decode cL_write 160 = .ok (.iadd, 1) := by decide +kernel
theorem dL_write_161 : decode cL_write 161 = .ok (.if_icmp .ne 10, 3) := by decide +kernel
theorem dL_write_164 : decode cL_write 164 = .ok (.iload 4, 2) := by decide +kernel
theorem dL_write_166 : decode cL_write 166 = .ok (.iconst 1, 1) := by decide +kernel
theorem dL_write_167 : decode cL_write 167 = .ok (.iadd, 1) := by decide +kernel
theorem dL_write_168 : decode cL_write 168 = .ok (.goto 6, 3) := by decide +kernel
theorem dL_write_171 : decode cL_write 171 = .ok (.sipush 1000, 3) := by decide +kernel
theorem dL_write_174 : decode cL_write 174 = .ok (.istore 4, 2) := by decide +kernel
theorem dL_write_176 : decode cL_write 176 = .ok (.goto (-167), 3) := by decide +kernel
theorem dL_write_179 : decode cL_write 179 = .ok (.iload 4, 2) := by decide +kernel
theorem dL_write_181 : decode cL_write 181 = .ok (.ireturn, 1) := by decide +kernel
theorem dL_build_0 : decode cL_build 0 = .ok (.iconst 1, 1) := by decide +kernel
theorem dL_build_1 : decode cL_build 1 = .ok (.aload_n 1, 1) := by decide +kernel
theorem dL_build_2 : decode cL_build 2 = .ok (.iload_n 2, 1) := by decide +kernel
theorem dL_build_3 : decode cL_build 3 = .ok (.invokestatic 16, 3) := by decide +kernel
theorem dL_build_6 : decode cL_build 6 = .ok (.bipush 8, 2) := by decide +kernel
theorem dL_build_8 : decode cL_build 8 = .ok (.invokestatic 10, 3) := by decide +kernel
theorem dL_build_11 : decode cL_build 11 = .ok (.iadd, 1) := by decide +kernel
theorem dL_build_12 : decode cL_build 12 = .ok (.istore_n 3, 1) := by decide +kernel
theorem dL_build_13 : decode cL_build 13 = .ok (.iconst 0, 1) := by decide +kernel
theorem dL_build_14 : decode cL_build 14 = .ok (.istore 4, 2) := by decide +kernel
theorem dL_build_16 : decode cL_build 16 = .ok (.iload 4, 2) := by decide +kernel
theorem dL_build_18 : decode cL_build 18 = .ok (.iload_n 3, 1) := by decide +kernel
theorem dL_build_19 : decode cL_build 19 = .ok (.if_icmp .ge 39, 3) := by decide +kernel
theorem dL_build_22 : decode cL_build 22 = .ok (.aload_n 1, 1) := by decide +kernel
theorem dL_build_23 : decode cL_build 23 = .ok (.iload_n 2, 1) := by decide +kernel
theorem dL_build_24 : decode cL_build 24 = .ok (.iconst 1, 1) := by decide +kernel
theorem dL_build_25 : decode cL_build 25 = .ok (.iadd, 1) := by decide +kernel
theorem dL_build_26 : decode cL_build 26 = .ok (.iload 4, 2) := by decide +kernel
theorem dL_build_28 : decode cL_build 28 = .ok (.iadd, 1) := by decide +kernel
theorem dL_build_29 : decode cL_build 29 = .ok (.invokestatic 16, 3) := by decide +kernel
theorem dL_build_32 : decode cL_build 32 = .ok (.istore 5, 2) := by decide +kernel
theorem dL_build_34 : decode cL_build 34 = .ok (.aload_n 0, 1) := by decide +kernel
theorem dL_build_35 : decode cL_build 35 = .ok (.iload 5, 2) := by decide +kernel
theorem dL_build_37 : decode cL_build 37 = .ok (.bipush 16, 2) := by decide +kernel
theorem dL_build_39 : decode cL_build 39 = .ok (.invokestatic 10, 3) := by decide +kernel
theorem dL_build_42 : decode cL_build 42 = .ok (.invokevirtual 33, 3) := by decide +kernel
theorem dL_build_45 : decode cL_build 45 = .ok (.iload 4, 2) := by decide +kernel
theorem dL_build_47 : decode cL_build 47 = .ok (.if_icmp .eq 5, 3) := by decide +kernel
theorem dL_build_50 : decode cL_build 50 = .ok (.iconst (-1), 1) := by decide +kernel
theorem dL_build_51 : decode cL_build 51 = .ok (.ireturn, 1) := by decide +kernel
theorem dL_build_52 : decode cL_build 52 = .ok (.iinc 4 1, 3) := by decide +kernel
theorem dL_build_55 : decode cL_build 55 = .ok (.goto (-39), 3) := by decide +kernel
theorem dL_build_58 : decode cL_build 58 = .ok (.iconst 0, 1) := by decide +kernel
theorem dL_build_59 : decode cL_build 59 = .ok (.istore 4, 2) := by decide +kernel
theorem dL_build_61 : decode cL_build 61 = .ok (.iload 4, 2) := by decide +kernel
theorem dL_build_63 : decode cL_build 63 = .ok (.iload_n 3, 1) := by decide +kernel
theorem dL_build_64 : decode cL_build 64 = .ok (.if_icmp .ge 92, 3) := by decide +kernel
theorem dL_build_67 : decode cL_build 67 = .ok (.aload_n 1, 1) := by decide +kernel
theorem dL_build_68 : decode cL_build 68 = .ok (.iload_n 2, 1) := by decide +kernel
theorem dL_build_69 : decode cL_build 69 = .ok (.iconst 1, 1) := by decide +kernel
theorem dL_build_70 : decode cL_build 70 = .ok (.iadd, 1) := by decide +kernel
theorem dL_build_71 : decode cL_build 71 = .ok (.iload 4, 2) := by decide +kernel
theorem dL_build_73 : decode cL_build 73 = .ok (.iadd, 1) := by decide +kernel
theorem dL_build_74 : decode cL_build 74 = .ok (.invokestatic 16, 3) := by decide +kernel
theorem dL_build_77 : decode cL_build 77 = .ok (.istore 5, 2) := by decide +kernel
theorem dL_build_79 : decode cL_build 79 = .ok (.iload 5, 2) := by decide +kernel
theorem dL_build_81 : decode cL_build 81 = .ok (.iconst 4, 1) := by decide +kernel
theorem dL_build_82 : decode cL_build 82 = .ok (.ishr, 1) := by decide +kernel
theorem dL_build_83 : decode cL_build 83 = .ok (.iconst 4, 1) := by decide +kernel
theorem dL_build_84 : decode cL_build 84 = .ok (.invokestatic 10, 3) := by decide +kernel
theorem dL_build_87 : decode cL_build 87 = .ok (.istore 6, 2) := by decide +kernel
theorem dL_build_89 : decode cL_build 89 = .ok (.iconst 0, 1) := by decide +kernel
theorem dL_build_90 : decode cL_build 90 = .ok (.istore 7, 2) := by decide +kernel
theorem dL_build_92 : decode cL_build 92 = .ok (.iload 7, 2) := by decide +kernel
theorem dL_build_94 : decode cL_build 94 = .ok (.iload 6, 2) := by decide +kernel
theorem dL_build_96 : decode cL_build 96 = .ok (.if_icmp .ge 54, 3) := by decide +kernel
theorem dL_build_99 : decode cL_build 99 = .ok (.iload 5, 2) := by decide +kernel
theorem dL_build_101 : decode cL_build 101 = .ok (.bipush 6, 2) := by decide +kernel
theorem dL_build_103 : decode cL_build 103 = .ok (.iconst 4, 1) := by decide +kernel
theorem dL_build_104 : decode cL_build 104 = .ok (.iload 7, 2) := by decide +kernel
theorem dL_build_106 : decode cL_build 106 = .ok (.imul, 1) := by decide +kernel
theorem dL_build_107 : decode cL_build 107 = .ok (.iadd, 1) := by decide +kernel
theorem dL_build_108 : decode cL_build 108 = .ok (.ishr, 1) := by decide +kernel
theorem dL_build_109 : decode cL_build 109 = .ok (.iload_n 3, 1) := by decide +kernel
theorem dL_build_110 : decode cL_build 110 = .ok (.invokestatic 10, 3) := by decide +kernel
theorem dL_build_113 : decode cL_build 113 = .ok (.istore 8, 2) := by decide +kernel
theorem dL_build_115 : decode cL_build 115 = .ok (.aload_n 0, 1) := by decide +kernel
theorem dL_build_116 : decode cL_build 116 = .ok (.iload 4, 2) := by decide +kernel
theorem dL_build_118 : decode cL_build 118 = .ok (.iconst 1, 1) := by decide +kernel
theorem dL_build_119 : decode cL_build 119 = .ok (.invokevirtual 36, 3) := by decide +kernel
theorem dL_build_122 : decode cL_build 122 = .ok (.iload 8, 2) := by decide +kernel
theorem dL_build_124 : decode cL_build 124 = .ok (.ishr, 1) := by decide +kernel
theorem dL_build_125 : decode cL_build 125 = .ok (.iconst 1, 1) := by decide +kernel
theorem dL_build_126 : decode cL_build 126 = .ok (.iand, 1) := by decide +kernel
theorem dL_build_127 : decode cL_build 127 = .ok (.ifCond .ne 17, 3) := by decide +kernel
theorem dL_build_130 : decode cL_build 130 = .ok (.aload_n 0, 1) := by decide +kernel
theorem dL_build_131 : decode cL_build 131 = .ok (.iload 4, 2) := by decide +kernel
theorem dL_build_133 : decode cL_build 133 = .ok (.iload 8, 2) := by decide +kernel
theorem dL_build_135 : decode cL_build 135 = .ok (.invokevirtual 39, 3) := by decide +kernel
theorem dL_build_138 : decode cL_build 138 = .ok (.iconst 1, 1) := by decide +kernel
theorem dL_build_139 : decode cL_build 139 = .ok (.if_icmp .eq 5, 3) := by decide +kernel
theorem dL_build_142 : decode cL_build 142 = .ok (.iconst (-1), 1) := by decide +kernel
theorem dL_build_143 : decode cL_build 143 = .ok (.ireturn, 1) := by decide +kernel
theorem dL_build_144 : decode cL_build 144 = .ok (.iinc 7 1, 3) := by decide +kernel
theorem dL_build_147 : decode cL_build 147 = .ok (.goto (-55), 3) := by decide +kernel
theorem dL_build_150 : decode cL_build 150 = .ok (.iinc 4 1, 3) := by decide +kernel
theorem dL_build_153 : decode cL_build 153 = .ok (.goto (-92), 3) := by decide +kernel
theorem dL_build_156 : decode cL_build 156 = .ok (.aload_n 1, 1) := by decide +kernel
theorem dL_build_157 : decode cL_build 157 = .ok (.iload_n 2, 1) := by decide +kernel
theorem dL_build_158 : decode cL_build 158 = .ok (.bipush 9, 2) := by decide +kernel
theorem dL_build_160 : decode cL_build 160 = .ok (.iadd, 1) := by decide +kernel
theorem dL_build_161 : decode cL_build 161 = .ok (.invokestatic 16, 3) := by decide +kernel
theorem dL_build_164 : decode cL_build 164 = .ok (.bipush 8, 2) := by decide +kernel
theorem dL_build_166 : decode cL_build 166 = .ok (.invokestatic 10, 3) := by decide +kernel
theorem dL_build_169 : decode cL_build 169 = .ok (.iconst 1, 1) := by decide +kernel
theorem dL_build_170 : decode cL_build 170 = .ok (.isub, 1) := by decide +kernel
theorem dL_build_171 : decode cL_build 171 = .ok (.istore 4, 2) := by decide +kernel
theorem dL_build_173 : decode cL_build 173 = .ok (.aload_n 0, 1) := by decide +kernel
theorem dL_build_174 : decode cL_build 174 = .ok (.iload 4, 2) := by decide +kernel
theorem dL_build_176 : decode cL_build 176 = .ok (.iconst 3, 1) := by decide +kernel
theorem dL_build_177 : decode cL_build 177 = .ok (.if_icmp .le 7, 3) := by decide +kernel
theorem dL_build_180 : decode cL_build 180 = .ok (.iconst (-1), 1) := by decide +kernel
theorem dL_build_181 : decode cL_build 181 = .ok (.goto 5, 3) := by decide +kernel
theorem dL_build_184 : decode cL_build 184 = .ok (.iload 4, 2) := by decide +kernel
theorem dL_build_186 : decode cL_build 186 = .ok (.invokevirtual 42, 3) := by decide +kernel
theorem dL_build_189 : decode cL_build 189 = .ok (.iconst (-1), 1) := by decide +kernel
theorem dL_build_190 : decode cL_build 190 = .ok (.if_icmp .ne 7, 3) := by decide +kernel
theorem dL_build_193 : decode cL_build 193 = .ok (.iload_n 3, 1) := by decide +kernel
theorem dL_build_194 : decode cL_build 194 = .ok (.goto 4, 3) := by decide +kernel
theorem dL_build_197 : decode cL_build 197 = .ok (.iconst (-1), 1) := by decide +kernel
theorem dL_build_198 : decode cL_build 198 = .ok (.ireturn, 1) := by decide +kernel
theorem dL_into_0 : decode cL_into 0 = .ok (.iconst 0, 1) := by decide +kernel
theorem dL_into_1 : decode cL_into 1 = .ok (.istore_n 2, 1) := by decide +kernel
theorem dL_into_2 : decode cL_into 2 = .ok (.iconst 0, 1) := by decide +kernel
theorem dL_into_3 : decode cL_into 3 = .ok (.istore_n 3, 1) := by decide +kernel
theorem dL_into_4 : decode cL_into 4 = .ok (.iload_n 3, 1) := by decide +kernel
theorem dL_into_5 : decode cL_into 5 = .ok (.aload_n 0, 1) := by decide +kernel
theorem dL_into_6 : decode cL_into 6 = .ok (.iconst 0, 1) := by decide +kernel
theorem dL_into_7 : decode cL_into 7 = .ok (.invokevirtual 45, 3) := by decide +kernel
theorem dL_into_10 : decode cL_into 10 = .ok (.if_icmp .ge 30, 3) := by decide +kernel
theorem dL_into_13 : decode cL_into 13 = .ok (.iload_n 2, 1) := by decide +kernel
theorem dL_into_14 : decode cL_into 14 = .ok (.aload_n 0, 1) := by decide +kernel
theorem dL_into_15 : decode cL_into 15 = .ok (.iload_n 3, 1) := by decide +kernel
theorem dL_into_16 : decode cL_into 16 = .ok (.iconst 1, 1) := by decide +kernel
theorem dL_into_17 : decode cL_into 17 = .ok (.invokevirtual 36, 3) := by decide +kernel
theorem dL_into_20 : decode cL_into 20 = .ok (.iload_n 1, 1) := by decide +kernel
theorem dL_into_21 : decode cL_into 21 = .ok (.iand, 1) := by decide +kernel
theorem dL_into_22 : decode cL_into 22 = .ok (.ifCond .eq 9, 3) := by decide +kernel
theorem dL_into_25 : decode cL_into 25 = .ok (.iconst 1, 1) := by decide +kernel
theorem dL_into_26 : decode cL_into 26 = .ok (.iload_n 3, 1) := by decide +kernel
theorem dL_into_27 : decode cL_into 27 = .ok (.ishl, 1) := by decide +kernel
theorem dL_into_28 : decode cL_into 28 = .ok (.goto 4, 3) := by decide +kernel
theorem dL_into_31 : decode cL_into 31 = .ok (.iconst 0, 1) := by decide +kernel
theorem dL_into_32 : decode cL_into 32 = .ok (.ior, 1) := by decide +kernel
theorem dL_into_33 : decode cL_into 33 = .ok (.istore_n 2, 1) := by decide +kernel
theorem dL_into_34 : decode cL_into 34 = .ok (.iinc 3 1, 3) := by decide +kernel
theorem dL_into_37 : decode cL_into 37 = .ok (.goto (-33), 3) := by decide +kernel
theorem dL_into_40 : decode cL_into 40 = .ok (.iload_n 2, 1) := by decide +kernel
theorem dL_into_41 : decode cL_into 41 = .ok (.ireturn, 1) := by decide +kernel
theorem dL_reached_0 : decode cL_reached 0 = .ok (.aload_n 0, 1) := by decide +kernel
theorem dL_reached_1 : decode cL_reached 1 = .ok (.iload_n 1, 1) := by decide +kernel
theorem dL_reached_2 : decode cL_reached 2 = .ok (.iconst 1, 1) := by decide +kernel
theorem dL_reached_3 : decode cL_reached 3 = .ok (.invokevirtual 36, 3) := by decide +kernel
theorem dL_reached_6 : decode cL_reached 6 = .ok (.iload_n 2, 1) := by decide +kernel
theorem dL_reached_7 : decode cL_reached 7 = .ok (.iand, 1) := by decide +kernel
theorem dL_reached_8 : decode cL_reached 8 = .ok (.istore_n 3, 1) := by decide +kernel
theorem dL_reached_9 : decode cL_reached 9 = .ok (.iload_n 3, 1) := by decide +kernel
theorem dL_reached_10 : decode cL_reached 10 = .ok (.istore 4, 2) := by decide +kernel
theorem dL_reached_12 : decode cL_reached 12 = .ok (.iload 4, 2) := by decide +kernel
theorem dL_reached_14 : decode cL_reached 14 = .ok (.istore_n 3, 1) := by decide +kernel
theorem dL_reached_15 : decode cL_reached 15 = .ok (.iconst 0, 1) := by decide +kernel
theorem dL_reached_16 : decode cL_reached 16 = .ok (.istore 5, 2) := by decide +kernel
theorem dL_reached_18 : decode cL_reached 18 = .ok (.iload 5, 2) := by decide +kernel
theorem dL_reached_20 : decode cL_reached 20 = .ok (.aload_n 0, 1) := by decide +kernel
theorem dL_reached_21 : decode cL_reached 21 = .ok (.iconst 0, 1) := by decide +kernel
theorem dL_reached_22 : decode cL_reached 22 = .ok (.invokevirtual 45, 3) := by decide +kernel
theorem dL_reached_25 : decode cL_reached 25 = .ok (.if_icmp .ge 37, 3) := by decide +kernel
theorem dL_reached_28 : decode cL_reached 28 = .ok (.iload 4, 2) := by decide +kernel
theorem dL_reached_30 : decode cL_reached 30 = .ok (.iload_n 3, 1) := by decide +kernel
theorem dL_reached_31 : decode cL_reached 31 = .ok (.iload 5, 2) := by decide +kernel
theorem dL_reached_33 : decode cL_reached 33 = .ok (.ishr, 1) := by decide +kernel
theorem dL_reached_34 : decode cL_reached 34 = .ok (.iconst 1, 1) := by decide +kernel
theorem dL_reached_35 : decode cL_reached 35 = .ok (.iand, 1) := by decide +kernel
theorem dL_reached_36 : decode cL_reached 36 = .ok (.iconst 1, 1) := by decide +kernel
theorem dL_reached_37 : decode cL_reached 37 = .ok (.if_icmp .ne 15, 3) := by decide +kernel
theorem dL_reached_40 : decode cL_reached 40 = .ok (.aload_n 0, 1) := by decide +kernel
theorem dL_reached_41 : decode cL_reached 41 = .ok (.iload 5, 2) := by decide +kernel
theorem dL_reached_43 : decode cL_reached 43 = .ok (.iconst 1, 1) := by decide +kernel
theorem dL_reached_44 : decode cL_reached 44 = .ok (.invokevirtual 36, 3) := by decide +kernel
theorem dL_reached_47 : decode cL_reached 47 = .ok (.iload_n 2, 1) := by decide +kernel
theorem dL_reached_48 : decode cL_reached 48 = .ok (.iand, 1) := by decide +kernel
theorem dL_reached_49 : decode cL_reached 49 = .ok (.goto 4, 3) := by decide +kernel
theorem dL_reached_52 : decode cL_reached 52 = .ok (.iconst 0, 1) := by decide +kernel
theorem dL_reached_53 : decode cL_reached 53 = .ok (.ior, 1) := by decide +kernel
theorem dL_reached_54 : decode cL_reached 54 = .ok (.istore 4, 2) := by decide +kernel
theorem dL_reached_56 : decode cL_reached 56 = .ok (.iinc 5 1, 3) := by decide +kernel
theorem dL_reached_59 : decode cL_reached 59 = .ok (.goto (-41), 3) := by decide +kernel
theorem dL_reached_62 : decode cL_reached 62 = .ok (.iload 4, 2) := by decide +kernel
theorem dL_reached_64 : decode cL_reached 64 = .ok (.iload_n 3, 1) := by decide +kernel
theorem dL_reached_65 : decode cL_reached 65 = .ok (.if_icmp .ne (-53), 3) := by decide +kernel
theorem dL_reached_68 : decode cL_reached 68 = .ok (.iload_n 3, 1) := by decide +kernel
theorem dL_reached_69 : decode cL_reached 69 = .ok (.ireturn, 1) := by decide +kernel
theorem dL_stays_0 : decode cL_stays 0 = .ok (.iconst 0, 1) := by decide +kernel
theorem dL_stays_1 : decode cL_stays 1 = .ok (.istore_n 2, 1) := by decide +kernel
theorem dL_stays_2 : decode cL_stays 2 = .ok (.aload_n 0, 1) := by decide +kernel
theorem dL_stays_3 : decode cL_stays 3 = .ok (.iconst 4, 1) := by decide +kernel
theorem dL_stays_4 : decode cL_stays 4 = .ok (.invokevirtual 45, 3) := by decide +kernel
theorem dL_stays_7 : decode cL_stays 7 = .ok (.istore_n 3, 1) := by decide +kernel
theorem dL_stays_8 : decode cL_stays 8 = .ok (.iconst 0, 1) := by decide +kernel
theorem dL_stays_9 : decode cL_stays 9 = .ok (.istore 4, 2) := by decide +kernel
theorem dL_stays_11 : decode cL_stays 11 = .ok (.iload 4, 2) := by decide +kernel
theorem dL_stays_13 : decode cL_stays 13 = .ok (.aload_n 0, 1) := by decide +kernel
theorem dL_stays_14 : decode cL_stays 14 = .ok (.iconst 0, 1) := by decide +kernel
theorem dL_stays_15 : decode cL_stays 15 = .ok (.invokevirtual 45, 3) := by decide +kernel
theorem dL_stays_18 : decode cL_stays 18 = .ok (.if_icmp .ge 78, 3) := by decide +kernel
theorem dL_stays_21 : decode cL_stays 21 = .ok (.iload_n 1, 1) := by decide +kernel
theorem dL_stays_22 : decode cL_stays 22 = .ok (.iload 4, 2) := by decide +kernel
theorem dL_stays_24 : decode cL_stays 24 = .ok (.ishr, 1) := by decide +kernel
theorem dL_stays_25 : decode cL_stays 25 = .ok (.iconst 1, 1) := by decide +kernel
theorem dL_stays_26 : decode cL_stays 26 = .ok (.iand, 1) := by decide +kernel
theorem dL_stays_27 : decode cL_stays 27 = .ok (.iconst 1, 1) := by decide +kernel
theorem dL_stays_28 : decode cL_stays 28 = .ok (.if_icmp .ne 27, 3) := by decide +kernel
theorem dL_stays_31 : decode cL_stays 31 = .ok (.iload_n 3, 1) := by decide +kernel
theorem dL_stays_32 : decode cL_stays 32 = .ok (.iconst (-1), 1) := by decide +kernel
theorem dL_stays_33 : decode cL_stays 33 = .ok (.if_icmp .eq 18, 3) := by decide +kernel
theorem dL_stays_36 : decode cL_stays 36 = .ok (.aload_n 0, 1) := by decide +kernel
theorem dL_stays_37 : decode cL_stays 37 = .ok (.iload 4, 2) := by decide +kernel
theorem dL_stays_39 : decode cL_stays 39 = .ok (.iconst 0, 1) := by decide +kernel
theorem dL_stays_40 : decode cL_stays 40 = .ok (.invokevirtual 36, 3) := by decide +kernel
theorem dL_stays_43 : decode cL_stays 43 = .ok (.iload_n 3, 1) := by decide +kernel
theorem dL_stays_44 : decode cL_stays 44 = .ok (.ishr, 1) := by decide +kernel
theorem dL_stays_45 : decode cL_stays 45 = .ok (.iconst 1, 1) := by decide +kernel
theorem dL_stays_46 : decode cL_stays 46 = .ok (.iand, 1) := by decide +kernel
theorem dL_stays_47 : decode cL_stays 47 = .ok (.iconst 1, 1) := by decide +kernel
theorem dL_stays_48 : decode cL_stays 48 = .ok (.if_icmp .ne 7, 3) := by decide +kernel
theorem dL_stays_51 : decode cL_stays 51 = .ok (.iconst 1, 1) := by decide +kernel
theorem dL_stays_52 : decode cL_stays 52 = .ok (.goto 4, 3) := by decide +kernel
theorem dL_stays_55 : decode cL_stays 55 = .ok (.iconst 0, 1) := by decide +kernel
theorem dL_stays_56 : decode cL_stays 56 = .ok (.istore 5, 2) := by decide +kernel
theorem dL_stays_58 : decode cL_stays 58 = .ok (.iload_n 2, 1) := by decide +kernel
theorem dL_stays_59 : decode cL_stays 59 = .ok (.iload 5, 2) := by decide +kernel
theorem dL_stays_61 : decode cL_stays 61 = .ok (.ifCond .eq 26, 3) := by decide +kernel
theorem dL_stays_64 : decode cL_stays 64 = .ok (.aload_n 0, 1) := by decide +kernel
theorem dL_stays_65 : decode cL_stays 65 = .ok (.iload 4, 2) := by decide +kernel
theorem dL_stays_67 : decode cL_stays 67 = .ok (.iload_n 1, 1) := by decide +kernel
theorem dL_stays_68 : decode cL_stays 68 = .ok (.invokestatic 48, 3) := by decide +kernel
theorem dL_stays_71 : decode cL_stays 71 = .ok (.iload 4, 2) := by decide +kernel
theorem dL_stays_73 : decode cL_stays 73 = .ok (.ishr, 1) := by decide +kernel
theorem dL_stays_74 : decode cL_stays 74 = .ok (.iconst 1, 1) := by decide +kernel
theorem dL_stays_75 : decode cL_stays 75 = .ok (.iand, 1) := by decide +kernel
theorem dL_stays_76 : decode cL_stays 76 = .ok (.iconst 1, 1) := by decide +kernel
theorem dL_stays_77 : decode cL_stays 77 = .ok (.if_icmp .ne 10, 3) := by decide +kernel
theorem dL_stays_80 : decode cL_stays 80 = .ok (.iconst 1, 1) := by decide +kernel
theorem dL_stays_81 : decode cL_stays 81 = .ok (.iload 4, 2) := by decide +kernel
theorem dL_stays_83 : decode cL_stays 83 = .ok (.ishl, 1) := by decide +kernel
theorem dL_stays_84 : decode cL_stays 84 = .ok (.goto 4, 3) := by decide +kernel
theorem dL_stays_87 : decode cL_stays 87 = .ok (.iconst 0, 1) := by decide +kernel
theorem dL_stays_88 : decode cL_stays 88 = .ok (.ior, 1) := by decide +kernel
theorem dL_stays_89 : decode cL_stays 89 = .ok (.istore_n 2, 1) := by decide +kernel
theorem dL_stays_90 : decode cL_stays 90 = .ok (.iinc 4 1, 3) := by decide +kernel
theorem dL_stays_93 : decode cL_stays 93 = .ok (.goto (-82), 3) := by decide +kernel
theorem dL_stays_96 : decode cL_stays 96 = .ok (.iconst 0, 1) := by decide +kernel
theorem dL_stays_97 : decode cL_stays 97 = .ok (.istore 4, 2) := by decide +kernel
theorem dL_stays_99 : decode cL_stays 99 = .ok (.iconst 0, 1) := by decide +kernel
theorem dL_stays_100 : decode cL_stays 100 = .ok (.istore 5, 2) := by decide +kernel
theorem dL_stays_102 : decode cL_stays 102 = .ok (.iload 5, 2) := by decide +kernel
theorem dL_stays_104 : decode cL_stays 104 = .ok (.aload_n 0, 1) := by decide +kernel
theorem dL_stays_105 : decode cL_stays 105 = .ok (.iconst 0, 1) := by decide +kernel
theorem dL_stays_106 : decode cL_stays 106 = .ok (.invokevirtual 45, 3) := by decide +kernel
theorem dL_stays_109 : decode cL_stays 109 = .ok (.if_icmp .ge 66, 3) := by decide +kernel
theorem dL_stays_112 : decode cL_stays 112 = .ok (.iload_n 1, 1) := by decide +kernel
theorem dL_stays_113 : decode cL_stays 113 = .ok (.iload 5, 2) := by decide +kernel
theorem dL_stays_115 : decode cL_stays 115 = .ok (.ishr, 1) := by decide +kernel
theorem dL_stays_116 : decode cL_stays 116 = .ok (.iconst 1, 1) := by decide +kernel
theorem dL_stays_117 : decode cL_stays 117 = .ok (.iand, 1) := by decide +kernel
theorem dL_stays_118 : decode cL_stays 118 = .ok (.iconst 1, 1) := by decide +kernel
theorem dL_stays_119 : decode cL_stays 119 = .ok (.if_icmp .ne 29, 3) := by decide +kernel
theorem dL_stays_122 : decode cL_stays 122 = .ok (.iload_n 2, 1) := by decide +kernel
theorem dL_stays_123 : decode cL_stays 123 = .ok (.iload 5, 2) := by decide +kernel
theorem dL_stays_125 : decode cL_stays 125 = .ok (.ishr, 1) := by decide +kernel
theorem dL_stays_126 : decode cL_stays 126 = .ok (.iconst 1, 1) := by decide +kernel
theorem dL_stays_127 : decode cL_stays 127 = .ok (.iand, 1) := by decide +kernel
theorem dL_stays_128 : decode cL_stays 128 = .ok (.iconst 1, 1) := by decide +kernel
theorem dL_stays_129 : decode cL_stays 129 = .ok (.if_icmp .eq 15, 3) := by decide +kernel
theorem dL_stays_132 : decode cL_stays 132 = .ok (.aload_n 0, 1) := by decide +kernel
theorem dL_stays_133 : decode cL_stays 133 = .ok (.iload 5, 2) := by decide +kernel
theorem dL_stays_135 : decode cL_stays 135 = .ok (.iload_n 1, 1) := by decide +kernel
theorem dL_stays_136 : decode cL_stays 136 = .ok (.invokestatic 48, 3) := by decide +kernel
theorem dL_stays_139 : decode cL_stays 139 = .ok (.iload_n 2, 1) := by decide +kernel
theorem dL_stays_140 : decode cL_stays 140 = .ok (.iand, 1) := by decide +kernel
theorem dL_stays_141 : decode cL_stays 141 = .ok (.ifCond .eq 7, 3) := by decide +kernel
theorem dL_stays_144 : decode cL_stays 144 = .ok (.iconst 1, 1) := by decide +kernel
theorem dL_stays_145 : decode cL_stays 145 = .ok (.goto 4, 3) := by decide +kernel
theorem dL_stays_148 : decode cL_stays 148 = .ok (.iconst 0, 1) := by decide +kernel
theorem dL_stays_149 : decode cL_stays 149 = .ok (.istore 6, 2) := by decide +kernel
theorem dL_stays_151 : decode cL_stays 151 = .ok (.iload 4, 2) := by decide +kernel
theorem dL_stays_153 : decode cL_stays 153 = .ok (.iload 6, 2) := by decide +kernel
theorem dL_stays_155 : decode cL_stays 155 = .ok (.ifCond .eq 10, 3) := by decide +kernel
theorem dL_stays_158 : decode cL_stays 158 = .ok (.iconst 1, 1) := by decide +kernel
theorem dL_stays_159 : decode cL_stays 159 = .ok (.iload 5, 2) := by decide +kernel
theorem dL_stays_161 : decode cL_stays 161 = .ok (.ishl, 1) := by decide +kernel
theorem dL_stays_162 : decode cL_stays 162 = .ok (.goto 4, 3) := by decide +kernel
theorem dL_stays_165 : decode cL_stays 165 = .ok (.iconst 0, 1) := by decide +kernel
theorem dL_stays_166 : decode cL_stays 166 = .ok (.ior, 1) := by decide +kernel
theorem dL_stays_167 : decode cL_stays 167 = .ok (.istore 4, 2) := by decide +kernel
theorem dL_stays_169 : decode cL_stays 169 = .ok (.iinc 5 1, 3) := by decide +kernel
theorem dL_stays_172 : decode cL_stays 172 = .ok (.goto (-70), 3) := by decide +kernel
theorem dL_stays_175 : decode cL_stays 175 = .ok (.iload 4, 2) := by decide +kernel
theorem dL_stays_177 : decode cL_stays 177 = .ok (.ireturn, 1) := by decide +kernel
theorem dL_comes_0 : decode cL_comes 0 = .ok (.iload_n 2, 1) := by decide +kernel
theorem dL_comes_1 : decode cL_comes 1 = .ok (.iload_n 3, 1) := by decide +kernel
theorem dL_comes_2 : decode cL_comes 2 = .ok (.iand, 1) := by decide +kernel
theorem dL_comes_3 : decode cL_comes 3 = .ok (.istore 4, 2) := by decide +kernel
theorem dL_comes_5 : decode cL_comes 5 = .ok (.iload 4, 2) := by decide +kernel
theorem dL_comes_7 : decode cL_comes 7 = .ok (.istore 5, 2) := by decide +kernel
theorem dL_comes_9 : decode cL_comes 9 = .ok (.iconst 0, 1) := by decide +kernel
theorem dL_comes_10 : decode cL_comes 10 = .ok (.istore 6, 2) := by decide +kernel
theorem dL_comes_12 : decode cL_comes 12 = .ok (.iload 6, 2) := by decide +kernel
theorem dL_comes_14 : decode cL_comes 14 = .ok (.aload_n 0, 1) := by decide +kernel
theorem dL_comes_15 : decode cL_comes 15 = .ok (.iconst 0, 1) := by decide +kernel
theorem dL_comes_16 : decode cL_comes 16 = .ok (.invokevirtual 45, 3) := by decide +kernel
theorem dL_comes_19 : decode cL_comes 19 = .ok (.if_icmp .ge 35, 3) := by decide +kernel
theorem dL_comes_22 : decode cL_comes 22 = .ok (.iload_n 1, 1) := by decide +kernel
theorem dL_comes_23 : decode cL_comes 23 = .ok (.aload_n 0, 1) := by decide +kernel
theorem dL_comes_24 : decode cL_comes 24 = .ok (.iload 4, 2) := by decide +kernel
theorem dL_comes_26 : decode cL_comes 26 = .ok (.invokestatic 52, 3) := by decide +kernel
theorem dL_comes_29 : decode cL_comes 29 = .ok (.iand, 1) := by decide +kernel
theorem dL_comes_30 : decode cL_comes 30 = .ok (.iload 5, 2) := by decide +kernel
theorem dL_comes_32 : decode cL_comes 32 = .ok (.iconst (-1), 1) := by decide +kernel
theorem dL_comes_33 : decode cL_comes 33 = .ok (.ixor, 1) := by decide +kernel
theorem dL_comes_34 : decode cL_comes 34 = .ok (.iand, 1) := by decide +kernel
theorem dL_comes_35 : decode cL_comes 35 = .ok (.istore 7, 2) := by decide +kernel
theorem dL_comes_37 : decode cL_comes 37 = .ok (.iload 5, 2) := by decide +kernel
theorem dL_comes_39 : decode cL_comes 39 = .ok (.iload 7, 2) := by decide +kernel
theorem dL_comes_41 : decode cL_comes 41 = .ok (.ior, 1) := by decide +kernel
theorem dL_comes_42 : decode cL_comes 42 = .ok (.istore 5, 2) := by decide +kernel
theorem dL_comes_44 : decode cL_comes 44 = .ok (.iload 7, 2) := by decide +kernel
theorem dL_comes_46 : decode cL_comes 46 = .ok (.istore 4, 2) := by decide +kernel
theorem dL_comes_48 : decode cL_comes 48 = .ok (.iinc 6 1, 3) := by decide +kernel
theorem dL_comes_51 : decode cL_comes 51 = .ok (.goto (-39), 3) := by decide +kernel
theorem dL_comes_54 : decode cL_comes 54 = .ok (.iload 5, 2) := by decide +kernel
theorem dL_comes_56 : decode cL_comes 56 = .ok (.ireturn, 1) := by decide +kernel
theorem dL_due_0 : decode cL_due 0 = .ok (.iconst 1, 1) := by decide +kernel
theorem dL_due_1 : decode cL_due 1 = .ok (.aload_n 0, 1) := by decide +kernel
theorem dL_due_2 : decode cL_due 2 = .ok (.iconst 0, 1) := by decide +kernel
theorem dL_due_3 : decode cL_due 3 = .ok (.invokevirtual 45, 3) := by decide +kernel
theorem dL_due_6 : decode cL_due 6 = .ok (.ishl, 1) := by decide +kernel
theorem dL_due_7 : decode cL_due 7 = .ok (.iconst 1, 1) := by decide +kernel
theorem dL_due_8 : decode cL_due 8 = .ok (.isub, 1) := by decide +kernel
theorem dL_due_9 : decode cL_due 9 = .ok (.istore 6, 2) := by decide +kernel
theorem dL_due_11 : decode cL_due 11 = .ok (.iload 6, 2) := by decide +kernel
theorem dL_due_13 : decode cL_due 13 = .ok (.iload_n 3, 1) := by decide +kernel
theorem dL_due_14 : decode cL_due 14 = .ok (.iconst (-1), 1) := by decide +kernel
theorem dL_due_15 : decode cL_due 15 = .ok (.ixor, 1) := by decide +kernel
theorem dL_due_16 : decode cL_due 16 = .ok (.iand, 1) := by decide +kernel
theorem dL_due_17 : decode cL_due 17 = .ok (.istore 7, 2) := by decide +kernel
theorem dL_due_19 : decode cL_due 19 = .ok (.iload 6, 2) := by decide +kernel
theorem dL_due_21 : decode cL_due 21 = .ok (.iload 4, 2) := by decide +kernel
theorem dL_due_23 : decode cL_due 23 = .ok (.iconst (-1), 1) := by decide +kernel
theorem dL_due_24 : decode cL_due 24 = .ok (.ixor, 1) := by decide +kernel
theorem dL_due_25 : decode cL_due 25 = .ok (.iand, 1) := by decide +kernel
theorem dL_due_26 : decode cL_due 26 = .ok (.istore 8, 2) := by decide +kernel
theorem dL_due_28 : decode cL_due 28 = .ok (.iload_n 1, 1) := by decide +kernel
theorem dL_due_29 : decode cL_due 29 = .ok (.bipush 69, 2) := by decide +kernel
theorem dL_due_31 : decode cL_due 31 = .ok (.if_icmp .ne 62, 3) := by decide +kernel
theorem dL_due_34 : decode cL_due 34 = .ok (.iload_n 2, 1) := by decide +kernel
theorem dL_due_35 : decode cL_due 35 = .ok (.bipush 88, 2) := by decide +kernel
theorem dL_due_37 : decode cL_due 37 = .ok (.if_icmp .ne 14, 3) := by decide +kernel
theorem dL_due_40 : decode cL_due 40 = .ok (.aload_n 0, 1) := by decide +kernel
theorem dL_due_41 : decode cL_due 41 = .ok (.iload_n 3, 1) := by decide +kernel
theorem dL_due_42 : decode cL_due 42 = .ok (.iload 5, 2) := by decide +kernel
theorem dL_due_44 : decode cL_due 44 = .ok (.iand, 1) := by decide +kernel
theorem dL_due_45 : decode cL_due 45 = .ok (.invokestatic 52, 3) := by decide +kernel
theorem dL_due_48 : decode cL_due 48 = .ok (.goto 44, 3) := by decide +kernel
theorem dL_due_51 : decode cL_due 51 = .ok (.iload_n 2, 1) := by decide +kernel
theorem dL_due_52 : decode cL_due 52 = .ok (.bipush 70, 2) := by decide +kernel
theorem dL_due_54 : decode cL_due 54 = .ok (.if_icmp .ne 15, 3) := by decide +kernel
theorem dL_due_57 : decode cL_due 57 = .ok (.aload_n 0, 1) := by decide +kernel
theorem dL_due_58 : decode cL_due 58 = .ok (.iload 6, 2) := by decide +kernel
theorem dL_due_60 : decode cL_due 60 = .ok (.iload_n 3, 1) := by decide +kernel
theorem dL_due_61 : decode cL_due 61 = .ok (.iload 5, 2) := by decide +kernel
theorem dL_due_63 : decode cL_due 63 = .ok (.invokestatic 56, 3) := by decide +kernel
theorem dL_due_66 : decode cL_due 66 = .ok (.goto 26, 3) := by decide +kernel
theorem dL_due_69 : decode cL_due 69 = .ok (.iload_n 2, 1) := by decide +kernel
theorem dL_due_70 : decode cL_due 70 = .ok (.bipush 71, 2) := by decide +kernel
theorem dL_due_72 : decode cL_due 72 = .ok (.if_icmp .ne 11, 3) := by decide +kernel
theorem dL_due_75 : decode cL_due 75 = .ok (.aload_n 0, 1) := by decide +kernel
theorem dL_due_76 : decode cL_due 76 = .ok (.iload_n 3, 1) := by decide +kernel
theorem dL_due_77 : decode cL_due 77 = .ok (.invokestatic 60, 3) := by decide +kernel
theorem dL_due_80 : decode cL_due 80 = .ok (.goto 12, 3) := by decide +kernel
theorem dL_due_83 : decode cL_due 83 = .ok (.aload_n 0, 1) := by decide +kernel
theorem dL_due_84 : decode cL_due 84 = .ok (.iload_n 3, 1) := by decide +kernel
theorem dL_due_85 : decode cL_due 85 = .ok (.iload 4, 2) := by decide +kernel
theorem dL_due_87 : decode cL_due 87 = .ok (.iload 5, 2) := by decide +kernel
theorem dL_due_89 : decode cL_due 89 = .ok (.invokestatic 56, 3) := by decide +kernel
theorem dL_due_92 : decode cL_due 92 = .ok (.ireturn, 1) := by decide +kernel
theorem dL_due_93 : decode cL_due 93 = .ok (.iload_n 2, 1) := by decide +kernel
theorem dL_due_94 : decode cL_due 94 = .ok (.bipush 88, 2) := by decide +kernel
theorem dL_due_96 : decode cL_due 96 = .ok (.if_icmp .ne 15, 3) := by decide +kernel
theorem dL_due_99 : decode cL_due 99 = .ok (.aload_n 0, 1) := by decide +kernel
theorem dL_due_100 : decode cL_due 100 = .ok (.iload 7, 2) := by decide +kernel
theorem dL_due_102 : decode cL_due 102 = .ok (.iload 5, 2) := by decide +kernel
theorem dL_due_104 : decode cL_due 104 = .ok (.iand, 1) := by decide +kernel
theorem dL_due_105 : decode cL_due 105 = .ok (.invokestatic 52, 3) := by decide +kernel
theorem dL_due_108 : decode cL_due 108 = .ok (.goto 57, 3) := by decide +kernel
theorem dL_due_111 : decode cL_due 111 = .ok (.iload_n 2, 1) := by decide +kernel
theorem dL_due_112 : decode cL_due 112 = .ok (.bipush 70, 2) := by decide +kernel
theorem dL_due_114 : decode cL_due 114 = .ok (.if_icmp .ne 12, 3) := by decide +kernel
theorem dL_due_117 : decode cL_due 117 = .ok (.aload_n 0, 1) := by decide +kernel
theorem dL_due_118 : decode cL_due 118 = .ok (.iload 7, 2) := by decide +kernel
theorem dL_due_120 : decode cL_due 120 = .ok (.invokestatic 60, 3) := by decide +kernel
theorem dL_due_123 : decode cL_due 123 = .ok (.goto 42, 3) := by decide +kernel
theorem dL_due_126 : decode cL_due 126 = .ok (.iload_n 2, 1) := by decide +kernel
theorem dL_due_127 : decode cL_due 127 = .ok (.bipush 71, 2) := by decide +kernel
theorem dL_due_129 : decode cL_due 129 = .ok (.if_icmp .ne 16, 3) := by decide +kernel
theorem dL_due_132 : decode cL_due 132 = .ok (.aload_n 0, 1) := by decide +kernel
theorem dL_due_133 : decode cL_due 133 = .ok (.iload 6, 2) := by decide +kernel
theorem dL_due_135 : decode cL_due 135 = .ok (.iload 7, 2) := by decide +kernel
theorem dL_due_137 : decode cL_due 137 = .ok (.iload 5, 2) := by decide +kernel
theorem dL_due_139 : decode cL_due 139 = .ok (.invokestatic 56, 3) := by decide +kernel
theorem dL_due_142 : decode cL_due 142 = .ok (.goto 23, 3) := by decide +kernel
theorem dL_due_145 : decode cL_due 145 = .ok (.aload_n 0, 1) := by decide +kernel
theorem dL_due_146 : decode cL_due 146 = .ok (.iload 8, 2) := by decide +kernel
theorem dL_due_148 : decode cL_due 148 = .ok (.iload 7, 2) := by decide +kernel
theorem dL_due_150 : decode cL_due 150 = .ok (.iload 8, 2) := by decide +kernel
theorem dL_due_152 : decode cL_due 152 = .ok (.iand, 1) := by decide +kernel
theorem dL_due_153 : decode cL_due 153 = .ok (.iload 5, 2) := by decide +kernel
theorem dL_due_155 : decode cL_due 155 = .ok (.invokestatic 56, 3) := by decide +kernel
theorem dL_due_158 : decode cL_due 158 = .ok (.aload_n 0, 1) := by decide +kernel
theorem dL_due_159 : decode cL_due 159 = .ok (.iload 8, 2) := by decide +kernel
theorem dL_due_161 : decode cL_due 161 = .ok (.invokestatic 60, 3) := by decide +kernel
theorem dL_due_164 : decode cL_due 164 = .ok (.ior, 1) := by decide +kernel
theorem dL_due_165 : decode cL_due 165 = .ok (.istore 9, 2) := by decide +kernel
theorem dL_due_167 : decode cL_due 167 = .ok (.iload 6, 2) := by decide +kernel
theorem dL_due_169 : decode cL_due 169 = .ok (.iload 9, 2) := by decide +kernel
theorem dL_due_171 : decode cL_due 171 = .ok (.iconst (-1), 1) := by decide +kernel
theorem dL_due_172 : decode cL_due 172 = .ok (.ixor, 1) := by decide +kernel
theorem dL_due_173 : decode cL_due 173 = .ok (.iand, 1) := by decide +kernel
theorem dL_due_174 : decode cL_due 174 = .ok (.ireturn, 1) := by decide +kernel
theorem dL_isPart_0 : decode cL_isPart 0 = .ok (.aload_n 0, 1) := by decide +kernel
theorem dL_isPart_1 : decode cL_isPart 1 = .ok (.iload_n 1, 1) := by decide +kernel
theorem dL_isPart_2 : decode cL_isPart 2 = .ok (.iload_n 2, 1) := by decide +kernel
theorem dL_isPart_3 : decode cL_isPart 3 = .ok (.iconst 0, 1) := by decide +kernel
theorem dL_isPart_4 : decode cL_isPart 4 = .ok (.invokevirtual 63, 3) := by decide +kernel
theorem dL_isPart_7 : decode cL_isPart 7 = .ok (.istore 4, 2) := by decide +kernel
theorem dL_isPart_9 : decode cL_isPart 9 = .ok (.iconst 1, 1) := by decide +kernel
theorem dL_isPart_10 : decode cL_isPart 10 = .ok (.aload_n 0, 1) := by decide +kernel
theorem dL_isPart_11 : decode cL_isPart 11 = .ok (.iconst 0, 1) := by decide +kernel
theorem dL_isPart_12 : decode cL_isPart 12 = .ok (.invokevirtual 45, 3) := by decide +kernel
theorem dL_isPart_15 : decode cL_isPart 15 = .ok (.ishl, 1) := by decide +kernel
theorem dL_isPart_16 : decode cL_isPart 16 = .ok (.iconst 1, 1) := by decide +kernel
theorem dL_isPart_17 : decode cL_isPart 17 = .ok (.isub, 1) := by decide +kernel
theorem dL_isPart_18 : decode cL_isPart 18 = .ok (.istore 5, 2) := by decide +kernel
theorem dL_isPart_20 : decode cL_isPart 20 = .ok (.aload_n 0, 1) := by decide +kernel
theorem dL_isPart_21 : decode cL_isPart 21 = .ok (.iload_n 1, 1) := by decide +kernel
theorem dL_isPart_22 : decode cL_isPart 22 = .ok (.iload_n 2, 1) := by decide +kernel
theorem dL_isPart_23 : decode cL_isPart 23 = .ok (.iconst 1, 1) := by decide +kernel
theorem dL_isPart_24 : decode cL_isPart 24 = .ok (.invokevirtual 63, 3) := by decide +kernel
theorem dL_isPart_27 : decode cL_isPart 27 = .ok (.istore 6, 2) := by decide +kernel
theorem dL_isPart_29 : decode cL_isPart 29 = .ok (.aload_n 0, 1) := by decide +kernel
theorem dL_isPart_30 : decode cL_isPart 30 = .ok (.iload_n 1, 1) := by decide +kernel
theorem dL_isPart_31 : decode cL_isPart 31 = .ok (.iload_n 2, 1) := by decide +kernel
theorem dL_isPart_32 : decode cL_isPart 32 = .ok (.iconst 3, 1) := by decide +kernel
theorem dL_isPart_33 : decode cL_isPart 33 = .ok (.invokevirtual 63, 3) := by decide +kernel
theorem dL_isPart_36 : decode cL_isPart 36 = .ok (.istore 7, 2) := by decide +kernel
theorem dL_isPart_38 : decode cL_isPart 38 = .ok (.iload 4, 2) := by decide +kernel
theorem dL_isPart_40 : decode cL_isPart 40 = .ok (.bipush 88, 2) := by decide +kernel
theorem dL_isPart_42 : decode cL_isPart 42 = .ok (.if_icmp .eq 24, 3) := by decide +kernel
theorem dL_isPart_45 : decode cL_isPart 45 = .ok (.iload 4, 2) := by decide +kernel
theorem dL_isPart_47 : decode cL_isPart 47 = .ok (.bipush 70, 2) := by decide +kernel
theorem dL_isPart_49 : decode cL_isPart 49 = .ok (.if_icmp .eq 17, 3) := by decide +kernel
theorem dL_isPart_52 : decode cL_isPart 52 = .ok (.iload 4, 2) := by decide +kernel
theorem dL_isPart_54 : decode cL_isPart 54 = .ok (.bipush 71, 2) := by decide +kernel
theorem dL_isPart_56 : decode cL_isPart 56 = .ok (.if_icmp .eq 10, 3) := by decide +kernel
theorem dL_isPart_59 : decode cL_isPart 59 = .ok (.iload 4, 2) := by decide +kernel
theorem dL_isPart_61 : decode cL_isPart 61 = .ok (.bipush 85, 2) := by decide +kernel
theorem dL_isPart_63 : decode cL_isPart 63 = .ok (.if_icmp .ne 64, 3) := by decide +kernel
theorem dL_isPart_66 : decode cL_isPart 66 = .ok (.iload 6, 2) := by decide +kernel
theorem dL_isPart_68 : decode cL_isPart 68 = .ok (.iconst (-1), 1) := by decide +kernel
theorem dL_isPart_69 : decode cL_isPart 69 = .ok (.if_icmp .ne 56, 3) := by decide +kernel
theorem dL_isPart_72 : decode cL_isPart 72 = .ok (.iload 7, 2) := by decide +kernel
theorem dL_isPart_74 : decode cL_isPart 74 = .ok (.iconst (-1), 1) := by decide +kernel
theorem dL_isPart_75 : decode cL_isPart 75 = .ok (.if_icmp .ne 50, 3) := by decide +kernel
theorem dL_isPart_78 : decode cL_isPart 78 = .ok (.aload_n 0, 1) := by decide +kernel
theorem dL_isPart_79 : decode cL_isPart 79 = .ok (.iload_n 1, 1) := by decide +kernel
theorem dL_isPart_80 : decode cL_isPart 80 = .ok (.iload_n 2, 1) := by decide +kernel
theorem dL_isPart_81 : decode cL_isPart 81 = .ok (.iconst 2, 1) := by decide +kernel
theorem dL_isPart_82 : decode cL_isPart 82 = .ok (.invokevirtual 63, 3) := by decide +kernel
theorem dL_isPart_85 : decode cL_isPart 85 = .ok (.iconst (-1), 1) := by decide +kernel
theorem dL_isPart_86 : decode cL_isPart 86 = .ok (.if_icmp .ne 39, 3) := by decide +kernel
theorem dL_isPart_89 : decode cL_isPart 89 = .ok (.iload_n 2, 1) := by decide +kernel
theorem dL_isPart_90 : decode cL_isPart 90 = .ok (.ifCond .le 35, 3) := by decide +kernel
theorem dL_isPart_93 : decode cL_isPart 93 = .ok (.aload_n 0, 1) := by decide +kernel
theorem dL_isPart_94 : decode cL_isPart 94 = .ok (.iload_n 1, 1) := by decide +kernel
theorem dL_isPart_95 : decode cL_isPart 95 = .ok (.iload_n 2, 1) := by decide +kernel
theorem dL_isPart_96 : decode cL_isPart 96 = .ok (.iconst 1, 1) := by decide +kernel
theorem dL_isPart_97 : decode cL_isPart 97 = .ok (.isub, 1) := by decide +kernel
theorem dL_isPart_98 : decode cL_isPart 98 = .ok (.iconst 0, 1) := by decide +kernel
theorem dL_isPart_99 : decode cL_isPart 99 = .ok (.invokevirtual 63, 3) := by decide +kernel
theorem dL_isPart_102 : decode cL_isPart 102 = .ok (.bipush 69, 2) := by decide +kernel
theorem dL_isPart_104 : decode cL_isPart 104 = .ok (.if_icmp .eq 17, 3) := by decide +kernel
theorem dL_isPart_107 : decode cL_isPart 107 = .ok (.aload_n 0, 1) := by decide +kernel
theorem dL_isPart_108 : decode cL_isPart 108 = .ok (.iload_n 1, 1) := by decide +kernel
theorem dL_isPart_109 : decode cL_isPart 109 = .ok (.iload_n 2, 1) := by decide +kernel
theorem dL_isPart_110 : decode cL_isPart 110 = .ok (.iconst 1, 1) := by decide +kernel
theorem dL_isPart_111 : decode cL_isPart 111 = .ok (.isub, 1) := by decide +kernel
theorem dL_isPart_112 : decode cL_isPart 112 = .ok (.iconst 0, 1) := by decide +kernel
theorem dL_isPart_113 : decode cL_isPart 113 = .ok (.invokevirtual 63, 3) := by decide +kernel
theorem dL_isPart_116 : decode cL_isPart 116 = .ok (.bipush 65, 2) := by decide +kernel
theorem dL_isPart_118 : decode cL_isPart 118 = .ok (.if_icmp .ne 7, 3) := by decide +kernel
theorem dL_isPart_121 : decode cL_isPart 121 = .ok (.iconst 1, 1) := by decide +kernel
theorem dL_isPart_122 : decode cL_isPart 122 = .ok (.goto 4, 3) := by decide +kernel
theorem dL_isPart_125 : decode cL_isPart 125 = .ok (.iconst 0, 1) := by decide +kernel
theorem dL_isPart_126 : decode cL_isPart 126 = .ok (.ireturn, 1) := by decide +kernel
theorem dL_isPart_127 : decode cL_isPart 127 = .ok (.iload 4, 2) := by decide +kernel
theorem dL_isPart_129 : decode cL_isPart 129 = .ok (.bipush 69, 2) := by decide +kernel
theorem dL_isPart_131 : decode cL_isPart 131 = .ok (.if_icmp .eq 10, 3) := by decide +kernel
theorem dL_isPart_134 : decode cL_isPart 134 = .ok (.iload 4, 2) := by decide +kernel
theorem dL_isPart_136 : decode cL_isPart 136 = .ok (.bipush 65, 2) := by decide +kernel
theorem dL_isPart_138 : decode cL_isPart 138 = .ok (.if_icmp .ne 7, 3) := by decide +kernel
theorem dL_isPart_141 : decode cL_isPart 141 = .ok (.iconst 1, 1) := by decide +kernel
theorem dL_isPart_142 : decode cL_isPart 142 = .ok (.goto 4, 3) := by decide +kernel
theorem dL_isPart_145 : decode cL_isPart 145 = .ok (.iconst 0, 1) := by decide +kernel
theorem dL_isPart_146 : decode cL_isPart 146 = .ok (.istore 8, 2) := by decide +kernel
theorem dL_isPart_148 : decode cL_isPart 148 = .ok (.iload 8, 2) := by decide +kernel
theorem dL_isPart_150 : decode cL_isPart 150 = .ok (.ifCond .eq 15, 3) := by decide +kernel
theorem dL_isPart_153 : decode cL_isPart 153 = .ok (.aload_n 0, 1) := by decide +kernel
theorem dL_isPart_154 : decode cL_isPart 154 = .ok (.iload_n 1, 1) := by decide +kernel
theorem dL_isPart_155 : decode cL_isPart 155 = .ok (.iload_n 2, 1) := by decide +kernel
theorem dL_isPart_156 : decode cL_isPart 156 = .ok (.iconst 1, 1) := by decide +kernel
theorem dL_isPart_157 : decode cL_isPart 157 = .ok (.iadd, 1) := by decide +kernel
theorem dL_isPart_158 : decode cL_isPart 158 = .ok (.iconst 0, 1) := by decide +kernel
theorem dL_isPart_159 : decode cL_isPart 159 = .ok (.invokevirtual 63, 3) := by decide +kernel
theorem dL_isPart_162 : decode cL_isPart 162 = .ok (.goto 4, 3) := by decide +kernel
theorem dL_isPart_165 : decode cL_isPart 165 = .ok (.iconst 0, 1) := by decide +kernel
theorem dL_isPart_166 : decode cL_isPart 166 = .ok (.istore 9, 2) := by decide +kernel
theorem dL_isPart_168 : decode cL_isPart 168 = .ok (.iload 4, 2) := by decide +kernel
theorem dL_isPart_170 : decode cL_isPart 170 = .ok (.bipush 38, 2) := by decide +kernel
theorem dL_isPart_172 : decode cL_isPart 172 = .ok (.if_icmp .eq 17, 3) := by decide +kernel
theorem dL_isPart_175 : decode cL_isPart 175 = .ok (.iload 4, 2) := by decide +kernel
theorem dL_isPart_177 : decode cL_isPart 177 = .ok (.bipush 124, 2) := by decide +kernel
theorem dL_isPart_179 : decode cL_isPart 179 = .ok (.if_icmp .eq 10, 3) := by decide +kernel
theorem dL_isPart_182 : decode cL_isPart 182 = .ok (.iload 9, 2) := by decide +kernel
theorem dL_isPart_184 : decode cL_isPart 184 = .ok (.bipush 85, 2) := by decide +kernel
theorem dL_isPart_186 : decode cL_isPart 186 = .ok (.if_icmp .ne 7, 3) := by decide +kernel
theorem dL_isPart_189 : decode cL_isPart 189 = .ok (.iconst 1, 1) := by decide +kernel
theorem dL_isPart_190 : decode cL_isPart 190 = .ok (.goto 4, 3) := by decide +kernel
theorem dL_isPart_193 : decode cL_isPart 193 = .ok (.iconst 0, 1) := by decide +kernel
theorem dL_isPart_194 : decode cL_isPart 194 = .ok (.istore 10, 2) := by decide +kernel
theorem dL_isPart_196 : decode cL_isPart 196 = .ok (.iload 4, 2) := by decide +kernel
theorem dL_isPart_198 : decode cL_isPart 198 = .ok (.bipush 116, 2) := by decide +kernel
theorem dL_isPart_200 : decode cL_isPart 200 = .ok (.if_icmp .eq 17, 3) := by decide +kernel
theorem dL_isPart_203 : decode cL_isPart 203 = .ok (.iload 4, 2) := by decide +kernel
theorem dL_isPart_205 : decode cL_isPart 205 = .ok (.bipush 97, 2) := by decide +kernel
theorem dL_isPart_207 : decode cL_isPart 207 = .ok (.if_icmp .lt 14, 3) := by decide +kernel
theorem dL_isPart_210 : decode cL_isPart 210 = .ok (.iload 4, 2) := by decide +kernel
theorem dL_isPart_212 : decode cL_isPart 212 = .ok (.bipush 100, 2) := by decide +kernel
theorem dL_isPart_214 : decode cL_isPart 214 = .ok (.if_icmp .gt 7, 3) := by decide +kernel
theorem dL_isPart_217 : decode cL_isPart 217 = .ok (.iconst 1, 1) := by decide +kernel
theorem dL_isPart_218 : decode cL_isPart 218 = .ok (.goto 4, 3) := by decide +kernel
theorem dL_isPart_221 : decode cL_isPart 221 = .ok (.iconst 0, 1) := by decide +kernel
theorem dL_isPart_222 : decode cL_isPart 222 = .ok (.istore 11, 2) := by decide +kernel
theorem dL_isPart_224 : decode cL_isPart 224 = .ok (.iload_n 2, 1) := by decide +kernel
theorem dL_isPart_225 : decode cL_isPart 225 = .ok (.iload 8, 2) := by decide +kernel
theorem dL_isPart_227 : decode cL_isPart 227 = .ok (.ifCond .eq 7, 3) := by decide +kernel
theorem dL_isPart_230 : decode cL_isPart 230 = .ok (.iconst 2, 1) := by decide +kernel
theorem dL_isPart_231 : decode cL_isPart 231 = .ok (.goto 4, 3) := by decide +kernel
theorem dL_isPart_234 : decode cL_isPart 234 = .ok (.iconst 1, 1) := by decide +kernel
theorem dL_isPart_235 : decode cL_isPart 235 = .ok (.iadd, 1) := by decide +kernel
theorem dL_isPart_236 : decode cL_isPart 236 = .ok (.istore 12, 2) := by decide +kernel
theorem dL_isPart_238 : decode cL_isPart 238 = .ok (.iload 11, 2) := by decide +kernel
theorem dL_isPart_240 : decode cL_isPart 240 = .ok (.ifCond .eq 7, 3) := by decide +kernel
theorem dL_isPart_243 : decode cL_isPart 243 = .ok (.iconst 0, 1) := by decide +kernel
theorem dL_isPart_244 : decode cL_isPart 244 = .ok (.goto 11, 3) := by decide +kernel
theorem dL_isPart_247 : decode cL_isPart 247 = .ok (.aload_n 0, 1) := by decide +kernel
theorem dL_isPart_248 : decode cL_isPart 248 = .ok (.iload_n 1, 1) := by decide +kernel
theorem dL_isPart_249 : decode cL_isPart 249 = .ok (.iload 12, 2) := by decide +kernel
theorem dL_isPart_251 : decode cL_isPart 251 = .ok (.iconst 1, 1) := by decide +kernel
theorem dL_isPart_252 : decode cL_isPart 252 = .ok (.invokevirtual 63, 3) := by decide +kernel
theorem dL_isPart_255 : decode cL_isPart 255 = .ok (.istore 13, 2) := by decide +kernel
theorem dL_isPart_257 : decode cL_isPart 257 = .ok (.iload 11, 2) := by decide +kernel
theorem dL_isPart_259 : decode cL_isPart 259 = .ok (.ifCond .eq 7, 3) := by decide +kernel
theorem dL_isPart_262 : decode cL_isPart 262 = .ok (.iconst 0, 1) := by decide +kernel
theorem dL_isPart_263 : decode cL_isPart 263 = .ok (.goto 11, 3) := by decide +kernel
theorem dL_isPart_266 : decode cL_isPart 266 = .ok (.aload_n 0, 1) := by decide +kernel
theorem dL_isPart_267 : decode cL_isPart 267 = .ok (.iload_n 1, 1) := by decide +kernel
theorem dL_isPart_268 : decode cL_isPart 268 = .ok (.iload 12, 2) := by decide +kernel
theorem dL_isPart_270 : decode cL_isPart 270 = .ok (.iconst 3, 1) := by decide +kernel
theorem dL_isPart_271 : decode cL_isPart 271 = .ok (.invokevirtual 63, 3) := by decide +kernel
theorem dL_isPart_274 : decode cL_isPart 274 = .ok (.istore 14, 2) := by decide +kernel
theorem dL_isPart_276 : decode cL_isPart 276 = .ok (.iload 10, 2) := by decide +kernel
theorem dL_isPart_278 : decode cL_isPart 278 = .ok (.ifCond .eq 17, 3) := by decide +kernel
theorem dL_isPart_281 : decode cL_isPart 281 = .ok (.aload_n 0, 1) := by decide +kernel
theorem dL_isPart_282 : decode cL_isPart 282 = .ok (.iload_n 1, 1) := by decide +kernel
theorem dL_isPart_283 : decode cL_isPart 283 = .ok (.iload 12, 2) := by decide +kernel
theorem dL_isPart_285 : decode cL_isPart 285 = .ok (.iload 14, 2) := by decide +kernel
theorem dL_isPart_287 : decode cL_isPart 287 = .ok (.iadd, 1) := by decide +kernel
theorem dL_isPart_288 : decode cL_isPart 288 = .ok (.iconst 1, 1) := by decide +kernel
theorem dL_isPart_289 : decode cL_isPart 289 = .ok (.invokevirtual 63, 3) := by decide +kernel
theorem dL_isPart_292 : decode cL_isPart 292 = .ok (.goto 4, 3) := by decide +kernel
theorem dL_isPart_295 : decode cL_isPart 295 = .ok (.iconst 0, 1) := by decide +kernel
theorem dL_isPart_296 : decode cL_isPart 296 = .ok (.istore 15, 2) := by decide +kernel
theorem dL_isPart_298 : decode cL_isPart 298 = .ok (.iload 8, 2) := by decide +kernel
theorem dL_isPart_300 : decode cL_isPart 300 = .ok (.ifCond .eq 7, 3) := by decide +kernel
theorem dL_isPart_303 : decode cL_isPart 303 = .ok (.iconst 2, 1) := by decide +kernel
theorem dL_isPart_304 : decode cL_isPart 304 = .ok (.goto 4, 3) := by decide +kernel
theorem dL_isPart_307 : decode cL_isPart 307 = .ok (.iconst 1, 1) := by decide +kernel
theorem dL_isPart_308 : decode cL_isPart 308 = .ok (.iload 14, 2) := by decide +kernel
theorem dL_isPart_310 : decode cL_isPart 310 = .ok (.iadd, 1) := by decide +kernel
theorem dL_isPart_311 : decode cL_isPart 311 = .ok (.iload 10, 2) := by decide +kernel
theorem dL_isPart_313 : decode cL_isPart 313 = .ok (.ifCond .eq 17, 3) := by decide +kernel
theorem dL_isPart_316 : decode cL_isPart 316 = .ok (.aload_n 0, 1) := by decide +kernel
theorem dL_isPart_317 : decode cL_isPart 317 = .ok (.iload_n 1, 1) := by decide +kernel
theorem dL_isPart_318 : decode cL_isPart 318 = .ok (.iload 12, 2) := by decide +kernel
theorem dL_isPart_320 : decode cL_isPart 320 = .ok (.iload 14, 2) := by decide +kernel
theorem dL_isPart_322 : decode cL_isPart 322 = .ok (.iadd, 1) := by decide +kernel
theorem dL_isPart_323 : decode cL_isPart 323 = .ok (.iconst 3, 1) := by decide +kernel
theorem dL_isPart_324 : decode cL_isPart 324 = .ok (.invokevirtual 63, 3) := by decide +kernel
theorem dL_isPart_327 : decode cL_isPart 327 = .ok (.goto 4, 3) := by decide +kernel
theorem dL_isPart_330 : decode cL_isPart 330 = .ok (.iconst 0, 1) := by decide +kernel
theorem dL_isPart_331 : decode cL_isPart 331 = .ok (.iadd, 1) := by decide +kernel
theorem dL_isPart_332 : decode cL_isPart 332 = .ok (.istore 16, 2) := by decide +kernel
theorem dL_isPart_334 : decode cL_isPart 334 = .ok (.iload 4, 2) := by decide +kernel
theorem dL_isPart_336 : decode cL_isPart 336 = .ok (.bipush 116, 2) := by decide +kernel
theorem dL_isPart_338 : decode cL_isPart 338 = .ok (.if_icmp .ne 8, 3) := by decide +kernel
theorem dL_isPart_341 : decode cL_isPart 341 = .ok (.iload 5, 2) := by decide +kernel
theorem dL_isPart_343 : decode cL_isPart 343 = .ok (.goto 40, 3) := by decide +kernel
theorem dL_isPart_346 : decode cL_isPart 346 = .ok (.iload 4, 2) := by decide +kernel
theorem dL_isPart_348 : decode cL_isPart 348 = .ok (.bipush 33, 2) := by decide +kernel
theorem dL_isPart_350 : decode cL_isPart 350 = .ok (.if_icmp .ne 13, 3) := by decide +kernel
theorem dL_isPart_353 : decode cL_isPart 353 = .ok (.iload 5, 2) := by decide +kernel
theorem dL_isPart_355 : decode cL_isPart 355 = .ok (.iload 13, 2) := by decide +kernel
theorem dL_isPart_357 : decode cL_isPart 357 = .ok (.iconst (-1), 1) := by decide +kernel
theorem dL_isPart_358 : decode cL_isPart 358 = .ok (.ixor, 1) := by decide +kernel
theorem dL_isPart_359 : decode cL_isPart 359 = .ok (.iand, 1) := by decide +kernel
theorem dL_isPart_360 : decode cL_isPart 360 = .ok (.goto 23, 3) := by decide +kernel
theorem dL_isPart_363 : decode cL_isPart 363 = .ok (.iload 4, 2) := by decide +kernel
theorem dL_isPart_365 : decode cL_isPart 365 = .ok (.bipush 38, 2) := by decide +kernel
theorem dL_isPart_367 : decode cL_isPart 367 = .ok (.if_icmp .ne 11, 3) := by decide +kernel
theorem dL_isPart_370 : decode cL_isPart 370 = .ok (.iload 13, 2) := by decide +kernel
theorem dL_isPart_372 : decode cL_isPart 372 = .ok (.iload 15, 2) := by decide +kernel
theorem dL_isPart_374 : decode cL_isPart 374 = .ok (.iand, 1) := by decide +kernel
theorem dL_isPart_375 : decode cL_isPart 375 = .ok (.goto 8, 3) := by decide +kernel
theorem dL_isPart_378 : decode cL_isPart 378 = .ok (.iload 13, 2) := by decide +kernel
theorem dL_isPart_380 : decode cL_isPart 380 = .ok (.iload 15, 2) := by decide +kernel
theorem dL_isPart_382 : decode cL_isPart 382 = .ok (.ior, 1) := by decide +kernel
theorem dL_isPart_383 : decode cL_isPart 383 = .ok (.istore 17, 2) := by decide +kernel
theorem dL_isPart_385 : decode cL_isPart 385 = .ok (.iload 11, 2) := by decide +kernel
theorem dL_isPart_387 : decode cL_isPart 387 = .ok (.ifCond .eq 55, 3) := by decide +kernel
theorem dL_isPart_390 : decode cL_isPart 390 = .ok (.iload 4, 2) := by decide +kernel
theorem dL_isPart_392 : decode cL_isPart 392 = .ok (.bipush 116, 2) := by decide +kernel
theorem dL_isPart_394 : decode cL_isPart 394 = .ok (.if_icmp .eq 48, 3) := by decide +kernel
theorem dL_isPart_397 : decode cL_isPart 397 = .ok (.iconst 0, 1) := by decide +kernel
theorem dL_isPart_398 : decode cL_isPart 398 = .ok (.istore 17, 2) := by decide +kernel
theorem dL_isPart_400 : decode cL_isPart 400 = .ok (.iconst 0, 1) := by decide +kernel
theorem dL_isPart_401 : decode cL_isPart 401 = .ok (.istore 18, 2) := by decide +kernel
theorem dL_isPart_403 : decode cL_isPart 403 = .ok (.iload 18, 2) := by decide +kernel
theorem dL_isPart_405 : decode cL_isPart 405 = .ok (.aload_n 0, 1) := by decide +kernel
theorem dL_isPart_406 : decode cL_isPart 406 = .ok (.iconst 0, 1) := by decide +kernel
theorem dL_isPart_407 : decode cL_isPart 407 = .ok (.invokevirtual 45, 3) := by decide +kernel
theorem dL_isPart_410 : decode cL_isPart 410 = .ok (.if_icmp .ge 32, 3) := by decide +kernel
theorem dL_isPart_413 : decode cL_isPart 413 = .ok (.iload 17, 2) := by decide +kernel
theorem dL_isPart_415 : decode cL_isPart 415 = .ok (.aload_n 0, 1) := by decide +kernel
theorem dL_isPart_416 : decode cL_isPart 416 = .ok (.iload 18, 2) := by decide +kernel
theorem dL_isPart_418 : decode cL_isPart 418 = .ok (.iconst 0, 1) := by decide +kernel
theorem dL_isPart_419 : decode cL_isPart 419 = .ok (.invokevirtual 36, 3) := by decide +kernel
theorem dL_isPart_422 : decode cL_isPart 422 = .ok (.iload 4, 2) := by decide +kernel
theorem dL_isPart_424 : decode cL_isPart 424 = .ok (.bipush 97, 2) := by decide +kernel
theorem dL_isPart_426 : decode cL_isPart 426 = .ok (.isub, 1) := by decide +kernel
theorem dL_isPart_427 : decode cL_isPart 427 = .ok (.ishr, 1) := by decide +kernel
theorem dL_isPart_428 : decode cL_isPart 428 = .ok (.iconst 1, 1) := by decide +kernel
theorem dL_isPart_429 : decode cL_isPart 429 = .ok (.iand, 1) := by decide +kernel
theorem dL_isPart_430 : decode cL_isPart 430 = .ok (.iload 18, 2) := by decide +kernel
theorem dL_isPart_432 : decode cL_isPart 432 = .ok (.ishl, 1) := by decide +kernel
theorem dL_isPart_433 : decode cL_isPart 433 = .ok (.ior, 1) := by decide +kernel
theorem dL_isPart_434 : decode cL_isPart 434 = .ok (.istore 17, 2) := by decide +kernel
theorem dL_isPart_436 : decode cL_isPart 436 = .ok (.iinc 18 1, 3) := by decide +kernel
theorem dL_isPart_439 : decode cL_isPart 439 = .ok (.goto (-36), 3) := by decide +kernel
theorem dL_isPart_442 : decode cL_isPart 442 = .ok (.iload 8, 2) := by decide +kernel
theorem dL_isPart_444 : decode cL_isPart 444 = .ok (.ifCond .eq 19, 3) := by decide +kernel
theorem dL_isPart_447 : decode cL_isPart 447 = .ok (.aload_n 0, 1) := by decide +kernel
theorem dL_isPart_448 : decode cL_isPart 448 = .ok (.iload 4, 2) := by decide +kernel
theorem dL_isPart_450 : decode cL_isPart 450 = .ok (.iload 9, 2) := by decide +kernel
theorem dL_isPart_452 : decode cL_isPart 452 = .ok (.iload 13, 2) := by decide +kernel
theorem dL_isPart_454 : decode cL_isPart 454 = .ok (.iload 15, 2) := by decide +kernel
theorem dL_isPart_456 : decode cL_isPart 456 = .ok (.iload_n 3, 1) := by decide +kernel
theorem dL_isPart_457 : decode cL_isPart 457 = .ok (.invokestatic 64, 3) := by decide +kernel
theorem dL_isPart_460 : decode cL_isPart 460 = .ok (.goto 5, 3) := by decide +kernel
theorem dL_isPart_463 : decode cL_isPart 463 = .ok (.iload 17, 2) := by decide +kernel
theorem dL_isPart_465 : decode cL_isPart 465 = .ok (.istore 17, 2) := by decide +kernel
theorem dL_isPart_467 : decode cL_isPart 467 = .ok (.aload_n 0, 1) := by decide +kernel
theorem dL_isPart_468 : decode cL_isPart 468 = .ok (.iload_n 1, 1) := by decide +kernel
theorem dL_isPart_469 : decode cL_isPart 469 = .ok (.iload_n 2, 1) := by decide +kernel
theorem dL_isPart_470 : decode cL_isPart 470 = .ok (.iconst 2, 1) := by decide +kernel
theorem dL_isPart_471 : decode cL_isPart 471 = .ok (.invokevirtual 63, 3) := by decide +kernel
theorem dL_isPart_474 : decode cL_isPart 474 = .ok (.istore 18, 2) := by decide +kernel
theorem dL_isPart_476 : decode cL_isPart 476 = .ok (.iload 8, 2) := by decide +kernel
theorem dL_isPart_478 : decode cL_isPart 478 = .ok (.ifCond .eq 14, 3) := by decide +kernel
theorem dL_isPart_481 : decode cL_isPart 481 = .ok (.iload 9, 2) := by decide +kernel
theorem dL_isPart_483 : decode cL_isPart 483 = .ok (.bipush 88, 2) := by decide +kernel
theorem dL_isPart_485 : decode cL_isPart 485 = .ok (.if_icmp .eq 7, 3) := by decide +kernel
theorem dL_isPart_488 : decode cL_isPart 488 = .ok (.iconst 1, 1) := by decide +kernel
theorem dL_isPart_489 : decode cL_isPart 489 = .ok (.goto 4, 3) := by decide +kernel
theorem dL_isPart_492 : decode cL_isPart 492 = .ok (.iconst 0, 1) := by decide +kernel
theorem dL_isPart_493 : decode cL_isPart 493 = .ok (.istore 19, 2) := by decide +kernel
theorem dL_isPart_495 : decode cL_isPart 495 = .ok (.iload 6, 2) := by decide +kernel
theorem dL_isPart_497 : decode cL_isPart 497 = .ok (.iload 17, 2) := by decide +kernel
theorem dL_isPart_499 : decode cL_isPart 499 = .ok (.if_icmp .ne 36, 3) := by decide +kernel
theorem dL_isPart_502 : decode cL_isPart 502 = .ok (.iload 7, 2) := by decide +kernel
theorem dL_isPart_504 : decode cL_isPart 504 = .ok (.iload 16, 2) := by decide +kernel
theorem dL_isPart_506 : decode cL_isPart 506 = .ok (.if_icmp .ne 29, 3) := by decide +kernel
theorem dL_isPart_509 : decode cL_isPart 509 = .ok (.iload 18, 2) := by decide +kernel
theorem dL_isPart_511 : decode cL_isPart 511 = .ok (.ifCond .lt 24, 3) := by decide +kernel
theorem dL_isPart_514 : decode cL_isPart 514 = .ok (.iload 18, 2) := by decide +kernel
theorem dL_isPart_516 : decode cL_isPart 516 = .ok (.bipush 20, 2) := by decide +kernel
theorem dL_isPart_518 : decode cL_isPart 518 = .ok (.if_icmp .gt 17, 3) := by decide +kernel
theorem dL_isPart_521 : decode cL_isPart 521 = .ok (.iload 19, 2) := by decide +kernel
theorem dL_isPart_523 : decode cL_isPart 523 = .ok (.ifCond .ne 8, 3) := by decide +kernel
theorem dL_isPart_526 : decode cL_isPart 526 = .ok (.iload 18, 2) := by decide +kernel
theorem dL_isPart_528 : decode cL_isPart 528 = .ok (.ifCond .ne 7, 3) := by decide +kernel
theorem dL_isPart_531 : decode cL_isPart 531 = .ok (.iconst 1, 1) := by decide +kernel
theorem dL_isPart_532 : decode cL_isPart 532 = .ok (.goto 4, 3) := by decide +kernel
theorem dL_isPart_535 : decode cL_isPart 535 = .ok (.iconst 0, 1) := by decide +kernel
theorem dL_isPart_536 : decode cL_isPart 536 = .ok (.ireturn, 1) := by decide +kernel
theorem dL_isWish_0 : decode cL_isWish 0 = .ok (.iconst 0, 1) := by decide +kernel
theorem dL_isWish_1 : decode cL_isWish 1 = .ok (.istore_n 3, 1) := by decide +kernel
theorem dL_isWish_2 : decode cL_isWish 2 = .ok (.aload_n 0, 1) := by decide +kernel
theorem dL_isWish_3 : decode cL_isWish 3 = .ok (.iload_n 1, 1) := by decide +kernel
theorem dL_isWish_4 : decode cL_isWish 4 = .ok (.iconst 0, 1) := by decide +kernel
theorem dL_isWish_5 : decode cL_isWish 5 = .ok (.invokevirtual 68, 3) := by decide +kernel
theorem dL_isWish_8 : decode cL_isWish 8 = .ok (.istore 4, 2) := by decide +kernel
theorem dL_isWish_10 : decode cL_isWish 10 = .ok (.iconst 0, 1) := by decide +kernel
theorem dL_isWish_11 : decode cL_isWish 11 = .ok (.istore 5, 2) := by decide +kernel
theorem dL_isWish_13 : decode cL_isWish 13 = .ok (.iload 5, 2) := by decide +kernel
theorem dL_isWish_15 : decode cL_isWish 15 = .ok (.iload 4, 2) := by decide +kernel
theorem dL_isWish_17 : decode cL_isWish 17 = .ok (.if_icmp .ge 48, 3) := by decide +kernel
theorem dL_isWish_20 : decode cL_isWish 20 = .ok (.aload_n 0, 1) := by decide +kernel
theorem dL_isWish_21 : decode cL_isWish 21 = .ok (.iload_n 1, 1) := by decide +kernel
theorem dL_isWish_22 : decode cL_isWish 22 = .ok (.iload 5, 2) := by decide +kernel
theorem dL_isWish_24 : decode cL_isWish 24 = .ok (.iload_n 2, 1) := by decide +kernel
theorem dL_isWish_25 : decode cL_isWish 25 = .ok (.invokestatic 71, 3) := by decide +kernel
theorem dL_isWish_28 : decode cL_isWish 28 = .ok (.ifCond .ne 5, 3) := by decide +kernel
theorem dL_isWish_31 : decode cL_isWish 31 = .ok (.iconst 0, 1) := by decide +kernel
theorem dL_isWish_32 : decode cL_isWish 32 = .ok (.ireturn, 1) := by decide +kernel
theorem dL_isWish_33 : decode cL_isWish 33 = .ok (.iload_n 3, 1) := by decide +kernel
theorem dL_isWish_34 : decode cL_isWish 34 = .ok (.aload_n 0, 1) := by decide +kernel
theorem dL_isWish_35 : decode cL_isWish 35 = .ok (.iload_n 1, 1) := by decide +kernel
theorem dL_isWish_36 : decode cL_isWish 36 = .ok (.iload 5, 2) := by decide +kernel
theorem dL_isWish_38 : decode cL_isWish 38 = .ok (.iconst 2, 1) := by decide +kernel
theorem dL_isWish_39 : decode cL_isWish 39 = .ok (.invokevirtual 63, 3) := by decide +kernel
theorem dL_isWish_42 : decode cL_isWish 42 = .ok (.ifCond .le 14, 3) := by decide +kernel
theorem dL_isWish_45 : decode cL_isWish 45 = .ok (.aload_n 0, 1) := by decide +kernel
theorem dL_isWish_46 : decode cL_isWish 46 = .ok (.iload_n 1, 1) := by decide +kernel
theorem dL_isWish_47 : decode cL_isWish 47 = .ok (.iload 5, 2) := by decide +kernel
theorem dL_isWish_49 : decode cL_isWish 49 = .ok (.iconst 2, 1) := by decide +kernel
theorem dL_isWish_50 : decode cL_isWish 50 = .ok (.invokevirtual 63, 3) := by decide +kernel
theorem dL_isWish_53 : decode cL_isWish 53 = .ok (.goto 4, 3) := by decide +kernel
theorem dL_isWish_56 : decode cL_isWish 56 = .ok (.iconst 0, 1) := by decide +kernel
theorem dL_isWish_57 : decode cL_isWish 57 = .ok (.iadd, 1) := by decide +kernel
theorem dL_isWish_58 : decode cL_isWish 58 = .ok (.istore_n 3, 1) := by decide +kernel
theorem dL_isWish_59 : decode cL_isWish 59 = .ok (.iinc 5 1, 3) := by decide +kernel
theorem dL_isWish_62 : decode cL_isWish 62 = .ok (.goto (-49), 3) := by decide +kernel
theorem dL_isWish_65 : decode cL_isWish 65 = .ok (.aload_n 0, 1) := by decide +kernel
theorem dL_isWish_66 : decode cL_isWish 66 = .ok (.iload_n 1, 1) := by decide +kernel
theorem dL_isWish_67 : decode cL_isWish 67 = .ok (.iconst 3, 1) := by decide +kernel
theorem dL_isWish_68 : decode cL_isWish 68 = .ok (.invokevirtual 68, 3) := by decide +kernel
theorem dL_isWish_71 : decode cL_isWish 71 = .ok (.istore 5, 2) := by decide +kernel
theorem dL_isWish_73 : decode cL_isWish 73 = .ok (.iload 4, 2) := by decide +kernel
theorem dL_isWish_75 : decode cL_isWish 75 = .ok (.iconst 1, 1) := by decide +kernel
theorem dL_isWish_76 : decode cL_isWish 76 = .ok (.if_icmp .lt 58, 3) := by decide +kernel
theorem dL_isWish_79 : decode cL_isWish 79 = .ok (.aload_n 0, 1) := by decide +kernel
theorem dL_isWish_80 : decode cL_isWish 80 = .ok (.iload_n 1, 1) := by decide +kernel
theorem dL_isWish_81 : decode cL_isWish 81 = .ok (.iconst 0, 1) := by decide +kernel
theorem dL_isWish_82 : decode cL_isWish 82 = .ok (.iconst 3, 1) := by decide +kernel
theorem dL_isWish_83 : decode cL_isWish 83 = .ok (.invokevirtual 63, 3) := by decide +kernel
theorem dL_isWish_86 : decode cL_isWish 86 = .ok (.iload 4, 2) := by decide +kernel
theorem dL_isWish_88 : decode cL_isWish 88 = .ok (.if_icmp .ne 46, 3) := by decide +kernel
theorem dL_isWish_91 : decode cL_isWish 91 = .ok (.aload_n 0, 1) := by decide +kernel
theorem dL_isWish_92 : decode cL_isWish 92 = .ok (.iload_n 1, 1) := by decide +kernel
theorem dL_isWish_93 : decode cL_isWish 93 = .ok (.iconst 1, 1) := by decide +kernel
theorem dL_isWish_94 : decode cL_isWish 94 = .ok (.invokevirtual 68, 3) := by decide +kernel
theorem dL_isWish_97 : decode cL_isWish 97 = .ok (.aload_n 0, 1) := by decide +kernel
theorem dL_isWish_98 : decode cL_isWish 98 = .ok (.iload_n 1, 1) := by decide +kernel
theorem dL_isWish_99 : decode cL_isWish 99 = .ok (.iconst 0, 1) := by decide +kernel
theorem dL_isWish_100 : decode cL_isWish 100 = .ok (.iconst 1, 1) := by decide +kernel
theorem dL_isWish_101 : decode cL_isWish 101 = .ok (.invokevirtual 63, 3) := by decide +kernel
theorem dL_isWish_104 : decode cL_isWish 104 = .ok (.if_icmp .ne 30, 3) := by decide +kernel
theorem dL_isWish_107 : decode cL_isWish 107 = .ok (.aload_n 0, 1) := by decide +kernel
theorem dL_isWish_108 : decode cL_isWish 108 = .ok (.iload_n 1, 1) := by decide +kernel
theorem dL_isWish_109 : decode cL_isWish 109 = .ok (.iconst 2, 1) := by decide +kernel
theorem dL_isWish_110 : decode cL_isWish 110 = .ok (.invokevirtual 68, 3) := by decide +kernel
theorem dL_isWish_113 : decode cL_isWish 113 = .ok (.iload_n 3, 1) := by decide +kernel
theorem dL_isWish_114 : decode cL_isWish 114 = .ok (.if_icmp .ne 20, 3) := by decide +kernel
theorem dL_isWish_117 : decode cL_isWish 117 = .ok (.iload 5, 2) := by decide +kernel
theorem dL_isWish_119 : decode cL_isWish 119 = .ok (.iconst 1, 1) := by decide +kernel
theorem dL_isWish_120 : decode cL_isWish 120 = .ok (.if_icmp .lt 14, 3) := by decide +kernel
theorem dL_isWish_123 : decode cL_isWish 123 = .ok (.iload 5, 2) := by decide +kernel
theorem dL_isWish_125 : decode cL_isWish 125 = .ok (.iload 4, 2) := by decide +kernel
theorem dL_isWish_127 : decode cL_isWish 127 = .ok (.if_icmp .gt 7, 3) := by decide +kernel
theorem dL_isWish_130 : decode cL_isWish 130 = .ok (.iconst 1, 1) := by decide +kernel
theorem dL_isWish_131 : decode cL_isWish 131 = .ok (.goto 4, 3) := by decide +kernel
theorem dL_isWish_134 : decode cL_isWish 134 = .ok (.iconst 0, 1) := by decide +kernel
theorem dL_isWish_135 : decode cL_isWish 135 = .ok (.ireturn, 1) := by decide +kernel
theorem dL_law_0 : decode cL_law 0 = .ok (.new 28, 3) := by decide +kernel
theorem dL_law_3 : decode cL_law 3 = .ok (.dup, 1) := by decide +kernel
theorem dL_law_4 : decode cL_law 4 = .ok (.invokespecial 75, 3) := by decide +kernel
theorem dL_law_7 : decode cL_law 7 = .ok (.astore_n 1, 1) := by decide +kernel
theorem dL_law_8 : decode cL_law 8 = .ok (.aload_n 1, 1) := by decide +kernel
theorem dL_law_9 : decode cL_law 9 = .ok (.aload_n 0, 1) := by decide +kernel
theorem dL_law_10 : decode cL_law 10 = .ok (.iconst 0, 1) := by decide +kernel
theorem dL_law_11 : decode cL_law 11 = .ok (.invokestatic 76, 3) := by decide +kernel
theorem dL_law_14 : decode cL_law 14 = .ok (.istore_n 2, 1) := by decide +kernel
theorem dL_law_15 : decode cL_law 15 = .ok (.iload_n 2, 1) := by decide +kernel
theorem dL_law_16 : decode cL_law 16 = .ok (.ifCond .ge 5, 3) := by decide +kernel
theorem dL_law_19 : decode cL_law 19 = .ok (.iconst 0, 1) := by decide +kernel
theorem dL_law_20 : decode cL_law 20 = .ok (.ireturn, 1) := by decide +kernel
theorem dL_law_21 : decode cL_law 21 = .ok (.iconst 1, 1) := by decide +kernel
theorem dL_law_22 : decode cL_law 22 = .ok (.iload_n 2, 1) := by decide +kernel
theorem dL_law_23 : decode cL_law 23 = .ok (.ishl, 1) := by decide +kernel
theorem dL_law_24 : decode cL_law 24 = .ok (.iconst 1, 1) := by decide +kernel
theorem dL_law_25 : decode cL_law 25 = .ok (.isub, 1) := by decide +kernel
theorem dL_law_26 : decode cL_law 26 = .ok (.istore_n 3, 1) := by decide +kernel
theorem dL_law_27 : decode cL_law 27 = .ok (.aload_n 1, 1) := by decide +kernel
theorem dL_law_28 : decode cL_law 28 = .ok (.iload_n 3, 1) := by decide +kernel
theorem dL_law_29 : decode cL_law 29 = .ok (.invokestatic 60, 3) := by decide +kernel
theorem dL_law_32 : decode cL_law 32 = .ok (.istore 4, 2) := by decide +kernel
theorem dL_law_34 : decode cL_law 34 = .ok (.iconst 0, 1) := by decide +kernel
theorem dL_law_35 : decode cL_law 35 = .ok (.istore 5, 2) := by decide +kernel
theorem dL_law_37 : decode cL_law 37 = .ok (.iconst 0, 1) := by decide +kernel
theorem dL_law_38 : decode cL_law 38 = .ok (.istore 6, 2) := by decide +kernel
theorem dL_law_40 : decode cL_law 40 = .ok (.iload 6, 2) := by decide +kernel
theorem dL_law_42 : decode cL_law 42 = .ok (.iload_n 2, 1) := by decide +kernel
theorem dL_law_43 : decode cL_law 43 = .ok (.if_icmp .ge 58, 3) := by decide +kernel
theorem dL_law_46 : decode cL_law 46 = .ok (.iload 5, 2) := by decide +kernel
theorem dL_law_48 : decode cL_law 48 = .ok (.iload 4, 2) := by decide +kernel
theorem dL_law_50 : decode cL_law 50 = .ok (.iload 6, 2) := by decide +kernel
theorem dL_law_52 : decode cL_law 52 = .ok (.ishr, 1) := by decide +kernel
theorem dL_law_53 : decode cL_law 53 = .ok (.iconst 1, 1) := by decide +kernel
theorem dL_law_54 : decode cL_law 54 = .ok (.iand, 1) := by decide +kernel
theorem dL_law_55 : decode cL_law 55 = .ok (.iadd, 1) := by decide +kernel
theorem dL_law_56 : decode cL_law 56 = .ok (.istore 5, 2) := by decide +kernel
theorem dL_law_58 : decode cL_law 58 = .ok (.aload_n 1, 1) := by decide +kernel
theorem dL_law_59 : decode cL_law 59 = .ok (.iload 6, 2) := by decide +kernel
theorem dL_law_61 : decode cL_law 61 = .ok (.iconst 3, 1) := by decide +kernel
theorem dL_law_62 : decode cL_law 62 = .ok (.invokevirtual 36, 3) := by decide +kernel
theorem dL_law_65 : decode cL_law 65 = .ok (.iload 4, 2) := by decide +kernel
theorem dL_law_67 : decode cL_law 67 = .ok (.iload 6, 2) := by decide +kernel
theorem dL_law_69 : decode cL_law 69 = .ok (.ishr, 1) := by decide +kernel
theorem dL_law_70 : decode cL_law 70 = .ok (.iconst 1, 1) := by decide +kernel
theorem dL_law_71 : decode cL_law 71 = .ok (.iand, 1) := by decide +kernel
theorem dL_law_72 : decode cL_law 72 = .ok (.if_icmp .ne 21, 3) := by decide +kernel
theorem dL_law_75 : decode cL_law 75 = .ok (.aload_n 1, 1) := by decide +kernel
theorem dL_law_76 : decode cL_law 76 = .ok (.iload 6, 2) := by decide +kernel
theorem dL_law_78 : decode cL_law 78 = .ok (.iconst 2, 1) := by decide +kernel
theorem dL_law_79 : decode cL_law 79 = .ok (.invokevirtual 36, 3) := by decide +kernel
theorem dL_law_82 : decode cL_law 82 = .ok (.aload_n 1, 1) := by decide +kernel
theorem dL_law_83 : decode cL_law 83 = .ok (.iconst 1, 1) := by decide +kernel
theorem dL_law_84 : decode cL_law 84 = .ok (.iload 6, 2) := by decide +kernel
theorem dL_law_86 : decode cL_law 86 = .ok (.ishl, 1) := by decide +kernel
theorem dL_law_87 : decode cL_law 87 = .ok (.invokestatic 52, 3) := by decide +kernel
theorem dL_law_90 : decode cL_law 90 = .ok (.if_icmp .eq 5, 3) := by decide +kernel
theorem dL_law_93 : decode cL_law 93 = .ok (.iconst 0, 1) := by decide +kernel
theorem dL_law_94 : decode cL_law 94 = .ok (.ireturn, 1) := by decide +kernel
theorem dL_law_95 : decode cL_law 95 = .ok (.iinc 6 1, 3) := by decide +kernel
theorem dL_law_98 : decode cL_law 98 = .ok (.goto (-58), 3) := by decide +kernel
theorem dL_law_101 : decode cL_law 101 = .ok (.aload_n 1, 1) := by decide +kernel
theorem dL_law_102 : decode cL_law 102 = .ok (.iconst 2, 1) := by decide +kernel
theorem dL_law_103 : decode cL_law 103 = .ok (.invokevirtual 45, 3) := by decide +kernel
theorem dL_law_106 : decode cL_law 106 = .ok (.iload 5, 2) := by decide +kernel
theorem dL_law_108 : decode cL_law 108 = .ok (.if_icmp .eq 5, 3) := by decide +kernel
theorem dL_law_111 : decode cL_law 111 = .ok (.iconst 0, 1) := by decide +kernel
theorem dL_law_112 : decode cL_law 112 = .ok (.ireturn, 1) := by decide +kernel
theorem dL_law_113 : decode cL_law 113 = .ok (.iconst 0, 1) := by decide +kernel
theorem dL_law_114 : decode cL_law 114 = .ok (.istore 6, 2) := by decide +kernel
theorem dL_law_116 : decode cL_law 116 = .ok (.iload 6, 2) := by decide +kernel
theorem dL_law_118 : decode cL_law 118 = .ok (.iconst 3, 1) := by decide +kernel
theorem dL_law_119 : decode cL_law 119 = .ok (.if_icmp .ge 198, 3) := by decide +kernel
theorem dL_law_122 : decode cL_law 122 = .ok (.aload_n 1, 1) := by decide +kernel
theorem dL_law_123 : decode cL_law 123 = .ok (.aload_n 0, 1) := by decide +kernel
theorem dL_law_124 : decode cL_law 124 = .ok (.bipush 12, 2) := by decide +kernel
theorem dL_law_126 : decode cL_law 126 = .ok (.bipush 12, 2) := by decide +kernel
theorem dL_law_128 : decode cL_law 128 = .ok (.iload 6, 2) := by decide +kernel
theorem dL_law_130 : decode cL_law 130 = .ok (.imul, 1) := by decide +kernel
theorem dL_law_131 : decode cL_law 131 = .ok (.iadd, 1) := by decide +kernel
theorem dL_law_132 : decode cL_law 132 = .ok (.iconst 3, 1) := by decide +kernel
theorem dL_law_133 : decode cL_law 133 = .ok (.aload_n 0, 1) := by decide +kernel
theorem dL_law_134 : decode cL_law 134 = .ok (.bipush 10, 2) := by decide +kernel
theorem dL_law_136 : decode cL_law 136 = .ok (.iload 6, 2) := by decide +kernel
theorem dL_law_138 : decode cL_law 138 = .ok (.iadd, 1) := by decide +kernel
theorem dL_law_139 : decode cL_law 139 = .ok (.invokestatic 16, 3) := by decide +kernel
theorem dL_law_142 : decode cL_law 142 = .ok (.bipush 14, 2) := by decide +kernel
theorem dL_law_144 : decode cL_law 144 = .ok (.invokestatic 10, 3) := by decide +kernel
theorem dL_law_147 : decode cL_law 147 = .ok (.iadd, 1) := by decide +kernel
theorem dL_law_148 : decode cL_law 148 = .ok (.invokestatic 80, 3) := by decide +kernel
theorem dL_law_151 : decode cL_law 151 = .ok (.istore 7, 2) := by decide +kernel
theorem dL_law_153 : decode cL_law 153 = .ok (.iload 7, 2) := by decide +kernel
theorem dL_law_155 : decode cL_law 155 = .ok (.bipush 40, 2) := by decide +kernel
theorem dL_law_157 : decode cL_law 157 = .ok (.if_icmp .gt 46, 3) := by decide +kernel
theorem dL_law_160 : decode cL_law 160 = .ok (.aload_n 1, 1) := by decide +kernel
theorem dL_law_161 : decode cL_law 161 = .ok (.invokevirtual 84, 3) := by decide +kernel
theorem dL_law_164 : decode cL_law 164 = .ok (.iload 7, 2) := by decide +kernel
theorem dL_law_166 : decode cL_law 166 = .ok (.if_icmp .ne 37, 3) := by decide +kernel
theorem dL_law_169 : decode cL_law 169 = .ok (.aload_n 1, 1) := by decide +kernel
theorem dL_law_170 : decode cL_law 170 = .ok (.iload 6, 2) := by decide +kernel
theorem dL_law_172 : decode cL_law 172 = .ok (.invokevirtual 88, 3) := by decide +kernel
theorem dL_law_175 : decode cL_law 175 = .ok (.iload 7, 2) := by decide +kernel
theorem dL_law_177 : decode cL_law 177 = .ok (.if_icmp .ne 26, 3) := by decide +kernel
theorem dL_law_180 : decode cL_law 180 = .ok (.aload_n 1, 1) := by decide +kernel
theorem dL_law_181 : decode cL_law 181 = .ok (.iload 6, 2) := by decide +kernel
theorem dL_law_183 : decode cL_law 183 = .ok (.iconst 0, 1) := by decide +kernel
theorem dL_law_184 : decode cL_law 184 = .ok (.invokevirtual 68, 3) := by decide +kernel
theorem dL_law_187 : decode cL_law 187 = .ok (.iload 7, 2) := by decide +kernel
theorem dL_law_189 : decode cL_law 189 = .ok (.if_icmp .ne 14, 3) := by decide +kernel
theorem dL_law_192 : decode cL_law 192 = .ok (.aload_n 1, 1) := by decide +kernel
theorem dL_law_193 : decode cL_law 193 = .ok (.iload 6, 2) := by decide +kernel
theorem dL_law_195 : decode cL_law 195 = .ok (.iload 4, 2) := by decide +kernel
theorem dL_law_197 : decode cL_law 197 = .ok (.invokestatic 91, 3) := by decide +kernel
theorem dL_law_200 : decode cL_law 200 = .ok (.ifCond .ne 5, 3) := by decide +kernel
theorem dL_law_203 : decode cL_law 203 = .ok (.iconst 0, 1) := by decide +kernel
theorem dL_law_204 : decode cL_law 204 = .ok (.ireturn, 1) := by decide +kernel
theorem dL_law_205 : decode cL_law 205 = .ok (.aload_n 1, 1) := by decide +kernel
theorem dL_law_206 : decode cL_law 206 = .ok (.iload 6, 2) := by decide +kernel
theorem dL_law_208 : decode cL_law 208 = .ok (.iconst 1, 1) := by decide +kernel
theorem dL_law_209 : decode cL_law 209 = .ok (.invokevirtual 68, 3) := by decide +kernel
theorem dL_law_212 : decode cL_law 212 = .ok (.istore 8, 2) := by decide +kernel
theorem dL_law_214 : decode cL_law 214 = .ok (.aload_n 1, 1) := by decide +kernel
theorem dL_law_215 : decode cL_law 215 = .ok (.iload 6, 2) := by decide +kernel
theorem dL_law_217 : decode cL_law 217 = .ok (.iconst 0, 1) := by decide +kernel
theorem dL_law_218 : decode cL_law 218 = .ok (.iconst 0, 1) := by decide +kernel
theorem dL_law_219 : decode cL_law 219 = .ok (.invokevirtual 63, 3) := by decide +kernel
theorem dL_law_222 : decode cL_law 222 = .ok (.bipush 33, 2) := by decide +kernel
theorem dL_law_224 : decode cL_law 224 = .ok (.if_icmp .ne 7, 3) := by decide +kernel
theorem dL_law_227 : decode cL_law 227 = .ok (.iconst 1, 1) := by decide +kernel
theorem dL_law_228 : decode cL_law 228 = .ok (.goto 4, 3) := by decide +kernel
theorem dL_law_231 : decode cL_law 231 = .ok (.iconst 0, 1) := by decide +kernel
theorem dL_law_232 : decode cL_law 232 = .ok (.istore 9, 2) := by decide +kernel
theorem dL_law_234 : decode cL_law 234 = .ok (.aload_n 1, 1) := by decide +kernel
theorem dL_law_235 : decode cL_law 235 = .ok (.iload 6, 2) := by decide +kernel
theorem dL_law_237 : decode cL_law 237 = .ok (.invokevirtual 95, 3) := by decide +kernel
theorem dL_law_240 : decode cL_law 240 = .ok (.istore 10, 2) := by decide +kernel
theorem dL_law_242 : decode cL_law 242 = .ok (.iload 10, 2) := by decide +kernel
theorem dL_law_244 : decode cL_law 244 = .ok (.iload 9, 2) := by decide +kernel
theorem dL_law_246 : decode cL_law 246 = .ok (.ifCond .eq 10, 3) := by decide +kernel
theorem dL_law_249 : decode cL_law 249 = .ok (.iload 7, 2) := by decide +kernel
theorem dL_law_251 : decode cL_law 251 = .ok (.iconst 1, 1) := by decide +kernel
theorem dL_law_252 : decode cL_law 252 = .ok (.isub, 1) := by decide +kernel
theorem dL_law_253 : decode cL_law 253 = .ok (.goto 7, 3) := by decide +kernel
theorem dL_law_256 : decode cL_law 256 = .ok (.iload 7, 2) := by decide +kernel
theorem dL_law_258 : decode cL_law 258 = .ok (.iconst 1, 1) := by decide +kernel
theorem dL_law_259 : decode cL_law 259 = .ok (.iadd, 1) := by decide +kernel
theorem dL_law_260 : decode cL_law 260 = .ok (.if_icmp .ne 49, 3) := by decide +kernel
theorem dL_law_263 : decode cL_law 263 = .ok (.aload_n 1, 1) := by decide +kernel
theorem dL_law_264 : decode cL_law 264 = .ok (.iload 6, 2) := by decide +kernel
theorem dL_law_266 : decode cL_law 266 = .ok (.iconst 1, 1) := by decide +kernel
theorem dL_law_267 : decode cL_law 267 = .ok (.invokevirtual 68, 3) := by decide +kernel
theorem dL_law_270 : decode cL_law 270 = .ok (.iload_n 3, 1) := by decide +kernel
theorem dL_law_271 : decode cL_law 271 = .ok (.iload 8, 2) := by decide +kernel
theorem dL_law_273 : decode cL_law 273 = .ok (.iconst (-1), 1) := by decide +kernel
theorem dL_law_274 : decode cL_law 274 = .ok (.ixor, 1) := by decide +kernel
theorem dL_law_275 : decode cL_law 275 = .ok (.iand, 1) := by decide +kernel
theorem dL_law_276 : decode cL_law 276 = .ok (.if_icmp .ne 33, 3) := by decide +kernel
theorem dL_law_279 : decode cL_law 279 = .ok (.aload_n 1, 1) := by decide +kernel
theorem dL_law_280 : decode cL_law 280 = .ok (.iload 6, 2) := by decide +kernel
theorem dL_law_282 : decode cL_law 282 = .ok (.iload 4, 2) := by decide +kernel
theorem dL_law_284 : decode cL_law 284 = .ok (.invokestatic 91, 3) := by decide +kernel
theorem dL_law_287 : decode cL_law 287 = .ok (.ifCond .eq 22, 3) := by decide +kernel
theorem dL_law_290 : decode cL_law 290 = .ok (.aload_n 1, 1) := by decide +kernel
theorem dL_law_291 : decode cL_law 291 = .ok (.invokevirtual 98, 3) := by decide +kernel
theorem dL_law_294 : decode cL_law 294 = .ok (.ifCond .lt 15, 3) := by decide +kernel
theorem dL_law_297 : decode cL_law 297 = .ok (.aload_n 1, 1) := by decide +kernel
theorem dL_law_298 : decode cL_law 298 = .ok (.iload 6, 2) := by decide +kernel
theorem dL_law_300 : decode cL_law 300 = .ok (.iconst 1, 1) := by decide +kernel
theorem dL_law_301 : decode cL_law 301 = .ok (.invokevirtual 68, 3) := by decide +kernel
theorem dL_law_304 : decode cL_law 304 = .ok (.iload 8, 2) := by decide +kernel
theorem dL_law_306 : decode cL_law 306 = .ok (.if_icmp .eq 5, 3) := by decide +kernel
theorem dL_law_309 : decode cL_law 309 = .ok (.iconst 0, 1) := by decide +kernel
theorem dL_law_310 : decode cL_law 310 = .ok (.ireturn, 1) := by decide +kernel
theorem dL_law_311 : decode cL_law 311 = .ok (.iinc 6 1, 3) := by decide +kernel
theorem dL_law_314 : decode cL_law 314 = .ok (.goto (-198), 3) := by decide +kernel
theorem dL_law_317 : decode cL_law 317 = .ok (.aload_n 0, 1) := by decide +kernel
theorem dL_law_318 : decode cL_law 318 = .ok (.bipush 48, 2) := by decide +kernel
theorem dL_law_320 : decode cL_law 320 = .ok (.invokestatic 16, 3) := by decide +kernel
theorem dL_law_323 : decode cL_law 323 = .ok (.iconst 5, 1) := by decide +kernel
theorem dL_law_324 : decode cL_law 324 = .ok (.invokestatic 10, 3) := by decide +kernel
theorem dL_law_327 : decode cL_law 327 = .ok (.iconst 1, 1) := by decide +kernel
theorem dL_law_328 : decode cL_law 328 = .ok (.isub, 1) := by decide +kernel
theorem dL_law_329 : decode cL_law 329 = .ok (.istore 6, 2) := by decide +kernel
theorem dL_law_331 : decode cL_law 331 = .ok (.aload_n 1, 1) := by decide +kernel
theorem dL_law_332 : decode cL_law 332 = .ok (.iconst 4, 1) := by decide +kernel
theorem dL_law_333 : decode cL_law 333 = .ok (.invokevirtual 45, 3) := by decide +kernel
theorem dL_law_336 : decode cL_law 336 = .ok (.istore 7, 2) := by decide +kernel
theorem dL_law_338 : decode cL_law 338 = .ok (.aload_n 1, 1) := by decide +kernel
theorem dL_law_339 : decode cL_law 339 = .ok (.iconst 1, 1) := by decide +kernel
theorem dL_law_340 : decode cL_law 340 = .ok (.iload 6, 2) := by decide +kernel
theorem dL_law_342 : decode cL_law 342 = .ok (.invokevirtual 101, 3) := by decide +kernel
theorem dL_law_345 : decode cL_law 345 = .ok (.istore 8, 2) := by decide +kernel
theorem dL_law_347 : decode cL_law 347 = .ok (.aload_n 1, 1) := by decide +kernel
theorem dL_law_348 : decode cL_law 348 = .ok (.iload 6, 2) := by decide +kernel
theorem dL_law_350 : decode cL_law 350 = .ok (.invokevirtual 42, 3) := by decide +kernel
theorem dL_law_353 : decode cL_law 353 = .ok (.iload 7, 2) := by decide +kernel
theorem dL_law_355 : decode cL_law 355 = .ok (.if_icmp .ne 44, 3) := by decide +kernel
theorem dL_law_358 : decode cL_law 358 = .ok (.aload_n 1, 1) := by decide +kernel
theorem dL_law_359 : decode cL_law 359 = .ok (.iconst 1, 1) := by decide +kernel
theorem dL_law_360 : decode cL_law 360 = .ok (.iconst 1, 1) := by decide +kernel
theorem dL_law_361 : decode cL_law 361 = .ok (.invokevirtual 68, 3) := by decide +kernel
theorem dL_law_364 : decode cL_law 364 = .ok (.iload 8, 2) := by decide +kernel
theorem dL_law_366 : decode cL_law 366 = .ok (.if_icmp .ne 33, 3) := by decide +kernel
theorem dL_law_369 : decode cL_law 369 = .ok (.aload_n 1, 1) := by decide +kernel
theorem dL_law_370 : decode cL_law 370 = .ok (.iconst 1, 1) := by decide +kernel
theorem dL_law_371 : decode cL_law 371 = .ok (.aload_n 1, 1) := by decide +kernel
theorem dL_law_372 : decode cL_law 372 = .ok (.iload_n 3, 1) := by decide +kernel
theorem dL_law_373 : decode cL_law 373 = .ok (.invokestatic 60, 3) := by decide +kernel
theorem dL_law_376 : decode cL_law 376 = .ok (.invokestatic 91, 3) := by decide +kernel
theorem dL_law_379 : decode cL_law 379 = .ok (.ifCond .eq 20, 3) := by decide +kernel
theorem dL_law_382 : decode cL_law 382 = .ok (.aload_n 1, 1) := by decide +kernel
theorem dL_law_383 : decode cL_law 383 = .ok (.invokevirtual 98, 3) := by decide +kernel
theorem dL_law_386 : decode cL_law 386 = .ok (.ifCond .lt 13, 3) := by decide +kernel
theorem dL_law_389 : decode cL_law 389 = .ok (.aload_n 1, 1) := by decide +kernel
theorem dL_law_390 : decode cL_law 390 = .ok (.iconst 4, 1) := by decide +kernel
theorem dL_law_391 : decode cL_law 391 = .ok (.invokevirtual 45, 3) := by decide +kernel
theorem dL_law_394 : decode cL_law 394 = .ok (.iload 7, 2) := by decide +kernel
theorem dL_law_396 : decode cL_law 396 = .ok (.if_icmp .eq 5, 3) := by decide +kernel
theorem dL_law_399 : decode cL_law 399 = .ok (.iconst 0, 1) := by decide +kernel
theorem dL_law_400 : decode cL_law 400 = .ok (.ireturn, 1) := by decide +kernel
theorem dL_law_401 : decode cL_law 401 = .ok (.iconst 0, 1) := by decide +kernel
theorem dL_law_402 : decode cL_law 402 = .ok (.istore 9, 2) := by decide +kernel
theorem dL_law_404 : decode cL_law 404 = .ok (.iload_n 3, 1) := by decide +kernel
theorem dL_law_405 : decode cL_law 405 = .ok (.istore 10, 2) := by decide +kernel
theorem dL_law_407 : decode cL_law 407 = .ok (.iconst 0, 1) := by decide +kernel
theorem dL_law_408 : decode cL_law 408 = .ok (.istore 11, 2) := by decide +kernel
theorem dL_law_410 : decode cL_law 410 = .ok (.iload 11, 2) := by decide +kernel
theorem dL_law_412 : decode cL_law 412 = .ok (.iconst 3, 1) := by decide +kernel
theorem dL_law_413 : decode cL_law 413 = .ok (.if_icmp .ge 82, 3) := by decide +kernel
theorem dL_law_416 : decode cL_law 416 = .ok (.iload 10, 2) := by decide +kernel
theorem dL_law_418 : decode cL_law 418 = .ok (.aload_n 1, 1) := by decide +kernel
theorem dL_law_419 : decode cL_law 419 = .ok (.iload 11, 2) := by decide +kernel
theorem dL_law_421 : decode cL_law 421 = .ok (.iconst 1, 1) := by decide +kernel
theorem dL_law_422 : decode cL_law 422 = .ok (.invokevirtual 68, 3) := by decide +kernel
theorem dL_law_425 : decode cL_law 425 = .ok (.iand, 1) := by decide +kernel
theorem dL_law_426 : decode cL_law 426 = .ok (.istore 10, 2) := by decide +kernel
theorem dL_law_428 : decode cL_law 428 = .ok (.iconst 0, 1) := by decide +kernel
theorem dL_law_429 : decode cL_law 429 = .ok (.istore 12, 2) := by decide +kernel
theorem dL_law_431 : decode cL_law 431 = .ok (.iload 12, 2) := by decide +kernel
theorem dL_law_433 : decode cL_law 433 = .ok (.iload_n 2, 1) := by decide +kernel
theorem dL_law_434 : decode cL_law 434 = .ok (.if_icmp .ge 55, 3) := by decide +kernel
theorem dL_law_437 : decode cL_law 437 = .ok (.iload 9, 2) := by decide +kernel
theorem dL_law_439 : decode cL_law 439 = .ok (.aload_n 1, 1) := by decide +kernel
theorem dL_law_440 : decode cL_law 440 = .ok (.iload 12, 2) := by decide +kernel
theorem dL_law_442 : decode cL_law 442 = .ok (.iconst 4, 1) := by decide +kernel
theorem dL_law_443 : decode cL_law 443 = .ok (.invokevirtual 36, 3) := by decide +kernel
theorem dL_law_446 : decode cL_law 446 = .ok (.iload 11, 2) := by decide +kernel
theorem dL_law_448 : decode cL_law 448 = .ok (.ishr, 1) := by decide +kernel
theorem dL_law_449 : decode cL_law 449 = .ok (.iconst 1, 1) := by decide +kernel
theorem dL_law_450 : decode cL_law 450 = .ok (.iand, 1) := by decide +kernel
theorem dL_law_451 : decode cL_law 451 = .ok (.iadd, 1) := by decide +kernel
theorem dL_law_452 : decode cL_law 452 = .ok (.istore 9, 2) := by decide +kernel
theorem dL_law_454 : decode cL_law 454 = .ok (.aload_n 1, 1) := by decide +kernel
theorem dL_law_455 : decode cL_law 455 = .ok (.iload 12, 2) := by decide +kernel
theorem dL_law_457 : decode cL_law 457 = .ok (.iconst 4, 1) := by decide +kernel
theorem dL_law_458 : decode cL_law 458 = .ok (.invokevirtual 36, 3) := by decide +kernel
theorem dL_law_461 : decode cL_law 461 = .ok (.iload 11, 2) := by decide +kernel
theorem dL_law_463 : decode cL_law 463 = .ok (.ishr, 1) := by decide +kernel
theorem dL_law_464 : decode cL_law 464 = .ok (.iconst 1, 1) := by decide +kernel
theorem dL_law_465 : decode cL_law 465 = .ok (.iand, 1) := by decide +kernel
theorem dL_law_466 : decode cL_law 466 = .ok (.aload_n 1, 1) := by decide +kernel
theorem dL_law_467 : decode cL_law 467 = .ok (.iload 11, 2) := by decide +kernel
theorem dL_law_469 : decode cL_law 469 = .ok (.iconst 1, 1) := by decide +kernel
theorem dL_law_470 : decode cL_law 470 = .ok (.invokevirtual 68, 3) := by decide +kernel
theorem dL_law_473 : decode cL_law 473 = .ok (.iload 12, 2) := by decide +kernel
theorem dL_law_475 : decode cL_law 475 = .ok (.ishr, 1) := by decide +kernel
theorem dL_law_476 : decode cL_law 476 = .ok (.iconst 1, 1) := by decide +kernel
theorem dL_law_477 : decode cL_law 477 = .ok (.iand, 1) := by decide +kernel
theorem dL_law_478 : decode cL_law 478 = .ok (.if_icmp .eq 5, 3) := by decide +kernel
theorem dL_law_481 : decode cL_law 481 = .ok (.iconst 0, 1) := by decide +kernel
theorem dL_law_482 : decode cL_law 482 = .ok (.ireturn, 1) := by decide +kernel
theorem dL_law_483 : decode cL_law 483 = .ok (.iinc 12 1, 3) := by decide +kernel
theorem dL_law_486 : decode cL_law 486 = .ok (.goto (-55), 3) := by decide +kernel
theorem dL_law_489 : decode cL_law 489 = .ok (.iinc 11 1, 3) := by decide +kernel
theorem dL_law_492 : decode cL_law 492 = .ok (.goto (-82), 3) := by decide +kernel
theorem dL_law_495 : decode cL_law 495 = .ok (.aload_n 1, 1) := by decide +kernel
theorem dL_law_496 : decode cL_law 496 = .ok (.iconst 0, 1) := by decide +kernel
theorem dL_law_497 : decode cL_law 497 = .ok (.iconst 1, 1) := by decide +kernel
theorem dL_law_498 : decode cL_law 498 = .ok (.invokevirtual 68, 3) := by decide +kernel
theorem dL_law_501 : decode cL_law 501 = .ok (.istore 11, 2) := by decide +kernel
theorem dL_law_503 : decode cL_law 503 = .ok (.aload_n 1, 1) := by decide +kernel
theorem dL_law_504 : decode cL_law 504 = .ok (.iconst 1, 1) := by decide +kernel
theorem dL_law_505 : decode cL_law 505 = .ok (.iconst 1, 1) := by decide +kernel
theorem dL_law_506 : decode cL_law 506 = .ok (.invokevirtual 68, 3) := by decide +kernel
theorem dL_law_509 : decode cL_law 509 = .ok (.istore 12, 2) := by decide +kernel
theorem dL_law_511 : decode cL_law 511 = .ok (.iload 11, 2) := by decide +kernel
theorem dL_law_513 : decode cL_law 513 = .ok (.iload 12, 2) := by decide +kernel
theorem dL_law_515 : decode cL_law 515 = .ok (.if_icmp .ne 7, 3) := by decide +kernel
theorem dL_law_518 : decode cL_law 518 = .ok (.iconst 0, 1) := by decide +kernel
theorem dL_law_519 : decode cL_law 519 = .ok (.goto 32, 3) := by decide +kernel
theorem dL_law_522 : decode cL_law 522 = .ok (.iload 11, 2) := by decide +kernel
theorem dL_law_524 : decode cL_law 524 = .ok (.iload 12, 2) := by decide +kernel
theorem dL_law_526 : decode cL_law 526 = .ok (.ior, 1) := by decide +kernel
theorem dL_law_527 : decode cL_law 527 = .ok (.iload 12, 2) := by decide +kernel
theorem dL_law_529 : decode cL_law 529 = .ok (.if_icmp .ne 7, 3) := by decide +kernel
theorem dL_law_532 : decode cL_law 532 = .ok (.iconst 1, 1) := by decide +kernel
theorem dL_law_533 : decode cL_law 533 = .ok (.goto 18, 3) := by decide +kernel
theorem dL_law_536 : decode cL_law 536 = .ok (.iload 11, 2) := by decide +kernel
theorem dL_law_538 : decode cL_law 538 = .ok (.iload 12, 2) := by decide +kernel
theorem dL_law_540 : decode cL_law 540 = .ok (.ior, 1) := by decide +kernel
theorem dL_law_541 : decode cL_law 541 = .ok (.iload 11, 2) := by decide +kernel
theorem dL_law_543 : decode cL_law 543 = .ok (.if_icmp .ne 7, 3) := by decide +kernel
theorem dL_law_546 : decode cL_law 546 = .ok (.iconst 2, 1) := by decide +kernel
theorem dL_law_547 : decode cL_law 547 = .ok (.goto 4, 3) := by decide +kernel
theorem dL_law_550 : decode cL_law 550 = .ok (.iconst 3, 1) := by decide +kernel
theorem dL_law_551 : decode cL_law 551 = .ok (.istore 13, 2) := by decide +kernel
theorem dL_law_553 : decode cL_law 553 = .ok (.iconst 0, 1) := by decide +kernel
theorem dL_law_554 : decode cL_law 554 = .ok (.istore 14, 2) := by decide +kernel
theorem dL_law_556 : decode cL_law 556 = .ok (.iconst 0, 1) := by decide +kernel
theorem dL_law_557 : decode cL_law 557 = .ok (.istore 15, 2) := by decide +kernel
theorem dL_law_559 : decode cL_law 559 = .ok (.iload 15, 2) := by decide +kernel
theorem dL_law_561 : decode cL_law 561 = .ok (.iload_n 2, 1) := by decide +kernel
theorem dL_law_562 : decode cL_law 562 = .ok (.if_icmp .ge 21, 3) := by decide +kernel
theorem dL_law_565 : decode cL_law 565 = .ok (.iload 14, 2) := by decide +kernel
theorem dL_law_567 : decode cL_law 567 = .ok (.iload 10, 2) := by decide +kernel
theorem dL_law_569 : decode cL_law 569 = .ok (.iload 15, 2) := by decide +kernel
theorem dL_law_571 : decode cL_law 571 = .ok (.ishr, 1) := by decide +kernel
theorem dL_law_572 : decode cL_law 572 = .ok (.iconst 1, 1) := by decide +kernel
theorem dL_law_573 : decode cL_law 573 = .ok (.iand, 1) := by decide +kernel
theorem dL_law_574 : decode cL_law 574 = .ok (.iadd, 1) := by decide +kernel
theorem dL_law_575 : decode cL_law 575 = .ok (.istore 14, 2) := by decide +kernel
theorem dL_law_577 : decode cL_law 577 = .ok (.iinc 15 1, 3) := by decide +kernel
theorem dL_law_580 : decode cL_law 580 = .ok (.goto (-21), 3) := by decide +kernel
theorem dL_law_583 : decode cL_law 583 = .ok (.aload_n 1, 1) := by decide +kernel
theorem dL_law_584 : decode cL_law 584 = .ok (.iconst 0, 1) := by decide +kernel
theorem dL_law_585 : decode cL_law 585 = .ok (.iconst 1, 1) := by decide +kernel
theorem dL_law_586 : decode cL_law 586 = .ok (.invokevirtual 104, 3) := by decide +kernel
theorem dL_law_589 : decode cL_law 589 = .ok (.iload 13, 2) := by decide +kernel
theorem dL_law_591 : decode cL_law 591 = .ok (.if_icmp .ne 53, 3) := by decide +kernel
theorem dL_law_594 : decode cL_law 594 = .ok (.aload_n 1, 1) := by decide +kernel
theorem dL_law_595 : decode cL_law 595 = .ok (.iconst 0, 1) := by decide +kernel
theorem dL_law_596 : decode cL_law 596 = .ok (.iconst 3, 1) := by decide +kernel
theorem dL_law_597 : decode cL_law 597 = .ok (.invokevirtual 104, 3) := by decide +kernel
theorem dL_law_600 : decode cL_law 600 = .ok (.iconst (-1), 1) := by decide +kernel
theorem dL_law_601 : decode cL_law 601 = .ok (.if_icmp .ne 43, 3) := by decide +kernel
theorem dL_law_604 : decode cL_law 604 = .ok (.aload_n 1, 1) := by decide +kernel
theorem dL_law_605 : decode cL_law 605 = .ok (.iconst 5, 1) := by decide +kernel
theorem dL_law_606 : decode cL_law 606 = .ok (.invokevirtual 45, 3) := by decide +kernel
theorem dL_law_609 : decode cL_law 609 = .ok (.iconst 3, 1) := by decide +kernel
theorem dL_law_610 : decode cL_law 610 = .ok (.if_icmp .ne 34, 3) := by decide +kernel
theorem dL_law_613 : decode cL_law 613 = .ok (.aload_n 1, 1) := by decide +kernel
theorem dL_law_614 : decode cL_law 614 = .ok (.bipush 7, 2) := by decide +kernel
theorem dL_law_616 : decode cL_law 616 = .ok (.invokevirtual 45, 3) := by decide +kernel
theorem dL_law_619 : decode cL_law 619 = .ok (.iload 14, 2) := by decide +kernel
theorem dL_law_621 : decode cL_law 621 = .ok (.if_icmp .ne 23, 3) := by decide +kernel
theorem dL_law_624 : decode cL_law 624 = .ok (.aload_n 1, 1) := by decide +kernel
theorem dL_law_625 : decode cL_law 625 = .ok (.invokevirtual 107, 3) := by decide +kernel
theorem dL_law_628 : decode cL_law 628 = .ok (.iload 9, 2) := by decide +kernel
theorem dL_law_630 : decode cL_law 630 = .ok (.i2d, 1) := by decide +kernel
theorem dL_law_631 : decode cL_law 631 = .ok (.iconst 3, 1) := by decide +kernel
theorem dL_law_632 : decode cL_law 632 = .ok (.iload_n 2, 1) := by decide +kernel
theorem dL_law_633 : decode cL_law 633 = .ok (.imul, 1) := by decide +kernel
theorem dL_law_634 : decode cL_law 634 = .ok (.i2d, 1) := by decide +kernel
theorem dL_law_635 : decode cL_law 635 = .ok (.ddiv, 1) := by decide +kernel
theorem dL_law_636 : decode cL_law 636 = .ok (.dcmp .l, 1) := by decide +kernel
theorem dL_law_637 : decode cL_law 637 = .ok (.ifCond .ne 7, 3) := by decide +kernel
theorem dL_law_640 : decode cL_law 640 = .ok (.iconst 1, 1) := by decide +kernel
theorem dL_law_641 : decode cL_law 641 = .ok (.goto 4, 3) := by decide +kernel
theorem dL_law_644 : decode cL_law 644 = .ok (.iconst 0, 1) := by decide +kernel
theorem dL_law_645 : decode cL_law 645 = .ok (.ireturn, 1) := by decide +kernel
end
section
/-! THE THIN LAYER. A cell has a number (id): 0 the script, 1, 2 .. what the run makes, in the order of making. A heap is a function from ids to contents. E speaks of one method's frame at a depth d (frames left: d, words of locals left: 44 * d), with mc cells of ms slots left to make. -/
abbrev ez_G : Type := Launch × (Nat → ClassId) × (Nat → Nat → Nat) × (Nat → ClassId) × Nat × Nat × Nat × (Nat → Int32)
abbrev ez_M : Type := MethodName × ByteArray × Nat × Option FieldType × List (Nat × Nat × Nat × Nat)
abbrev ez_H : Type := Nat → Option va_E
abbrev ez_Q : Type := (Option Value ⊕ String) → ez_H → Nat → Prop
def ez_l (G : ez_G) : Launch := G.1
def ez_D (G : ez_G) : va_G := (G.2.1, G.2.2.1)
def ez_ca (G : ez_G) : Nat → ClassId := G.2.2.2.1
def ez_b (G : ez_G) : Nat := G.2.2.2.2.1
def ez_o (G : ez_G) : Nat := G.2.2.2.2.2.1
def ez_N (G : ez_G) : Nat := G.2.2.2.2.2.2.1
def ez_sc (G : ez_G) : Nat → Int32 := G.2.2.2.2.2.2.2
def ez_ad (G : ez_G) (k : Nat) : Nat := match k with
  | 0 => ez_b G
  | j + 1 => ez_o G + j
def ez_v (G : ez_G) (v : Value) : Value := match v with
  | .ref a => .ref (ez_ad G a)
  | x => x
def ez_e (G : ez_G) (e : va_E) : va_E := match e with
  | .inl (c, n, .inr (.inr (.inr (.inr f)))) => .inl (ez_ca G c, n, .inr (.inr (.inr (.inr (fun j => (f j).map (ez_ad G))))))
  | .inl (c, a) => .inl (ez_ca G c, a)
  | .inr (ci, fs) => .inr (ci, fs.map (ez_v G))
def ez_A (G : ez_G) : Nat → Prop := fun q => ez_o G ≤ q
def ez_tys (G : ez_G) : List (ClassId × FieldType) := [(ez_ca G 0, .int), (ez_ca G 1, .char), (ez_ca G 2, .byte), (ez_ca G 3, .object "FutureWishes$State")]
def ez_up (h : ez_H) (a : Nat) (e : va_E) : ez_H := fun j => if j = a then some e else h j
def ez_R (G : ez_G) (h : ez_H) (n : Nat) (H : Heap) : Prop := H.size + 1 = ez_o G + n ∧ 0 < n ∧ ez_b G < ez_o G ∧ ∀ i e, h i = some e → i < n ∧ va_at (ez_D G) vwCl (ez_ad G i, ez_e G e) H
def ez_strs : List (Nat × String) := [(284, "there is no such property"), (278, "there is no such world"), (280, "a wish is 0 to 3"), (282, "a letter is 0 to 3, or NONE"), (57, "letters are a mask from 0 to 15"), (68, "there are 10 worlds"), (113, "a character code is 33 to 126"), (118, "the buffer has 60 characters"), (134, "the buffer is not a complete wish"), (147, "there is no such wish at present, or it has 40 signs"), (161, "there is no saved state"), (186, "the wish has no such sign")]
abbrev ez_IA : String := "java/lang/IllegalArgumentException"
abbrev ez_IS : String := "java/lang/IllegalStateException"
abbrev ez_IO : String := "java/lang/IndexOutOfBoundsException"
def ez_ncs : List (String × String) := []
def ez_isn (w : Cond) : Bool := match w with
  | .castable _ _ => true
  | .declares _ => true
  | .methodLinkNest _ _ _ _ => true
  | .arrayOver (.object _) => true
  | _ => false
def ez_K (G : ez_G) (U : State) : Prop := (ez_l G).stackTraces = false ∧ va_K (ez_D G) vwCl (ez_tys G) U ∧ vx_Zq Bundle.tN "UNASSIGNED_STACK" Bundle.steD (ez_A G) U U.heap ∧ vx_Zq Bundle.tN "SUPPRESSED_SENTINEL" Bundle.listD (ez_A G) U U.heap ∧ (∀ q ∈ ez_strs, ∃ sa, vk_R RX7 q.1 q.2 sa U) ∧ (∀ q ∈ ez_ncs, va_Nc q.1 q.2 U) ∧ (∀ w ∈ lw_tbl, (goodWord w || ez_isn w) = true → va_Nw w U) ∧ va_X (ez_b G) (ez_N G) (ez_sc G) U U.heap ∧ ez_b G < ez_o G
theorem ez_isn_warm {s U : State} (hW : s.WarmedH U.vm) {w : Cond} (h : ez_isn w = true) (hz : va_Nw w s) : va_Nw w U := by
  cases w with
  | castable a b => exact va_Nw.warmC hW hz
  | declares x => exact va_Nw.warmD hW hz
  | methodLinkNest a i x b => exact va_Nw.warmM hW hz
  | arrayOver ty =>
    cases ty with
    | object C => exact va_AO.moved hW.alike hz
    | _ => exact absurd h (by simp [ez_isn])
  | _ => exact absurd h (by simp [ez_isn])
theorem va_X.lt {b L : Nat} {xs : Nat → Int32} {U : State} {H : Heap} (h : va_X b L xs U H) : b < H.size := by
  obtain ⟨scr, h1, -⟩ := h
  exact (Array.getElem?_eq_some_iff.mp h1).1
theorem ez_K.warm {G : ez_G} {s U : State} (hW : s.WarmedH U.vm) (hh : ∀ a : Nat, a < s.heap.size → ¬ ez_A G a → U.heap[a]? = s.heap[a]?) (h : ez_K G s) : ez_K G U := by
  obtain ⟨h0, h1, h2, h3, h4, h5, h6, h7, h8⟩ := h
  refine ⟨h0, va_K.moved hW.alike h1, vx_Zq.moved hW.alike (h2.kept hh), vx_Zq.moved hW.alike (h3.kept hh), fun q hq => ?_, fun q hq => va_Nc.moved hW.alike (h5 q hq), fun w hw hg => ?_, va_X.moved hW.alike (h7.kept (hh _ h7.lt (Nat.not_le.mpr h8))), h8⟩
  · obtain ⟨sa, h⟩ := h4 q hq
    exact ⟨sa, vk_R.warm hW h⟩
  · rcases Bool.or_eq_true_iff.mp hg with g | g
    · exact word_at hW (good_of_word g) (h6 w hw hg)
    · exact ez_isn_warm hW g (h6 w hw hg)
/-- a word of the tables that stays true -/
def ez_T (w : Cond) : Prop := w ∈ lw_tbl ∧ goodWord w = true
theorem ez_K.w {G : ez_G} {s : State} (h : ez_K G s) {w : Cond} (hw : ez_T w) (args : Array Value) : w.before args s = true := word_at (State.WarmedH.refl s) (good_of_word hw.2) (h.2.2.2.2.2.2.1 w hw.1 (by rw [hw.2]; rfl))
theorem ez_K.n {G : ez_G} {s : State} (h : ez_K G s) {w : Cond} (hw : w ∈ lw_tbl) (hg : ez_isn w = true) : va_Nw w s := h.2.2.2.2.2.2.1 w hw (by rw [hg]; simp)
theorem ez_T.at {w : Cond} (k : Nat) (h : lw_tbl[k]? = some w) (hg : goodWord w = true) : ez_T w := ⟨List.mem_of_getElem? h, hg⟩
-- heaps
theorem ez_ad_inj {G : ez_G} (hb : ez_b G < ez_o G) {i j : Nat} (h : ez_ad G i = ez_ad G j) : i = j := by
  cases i <;> cases j <;> simp only [ez_ad] at h <;> omega
theorem ez_ad_A {G : ez_G} {i : Nat} (h : 0 < i) : ez_A G (ez_ad G i) := by
  cases i with
  | zero => exact absurd h (Nat.lt_irrefl 0)
  | succ j => exact Nat.le_add_right _ _
theorem ez_R.set {G : ez_G} {h : ez_H} {n i : Nat} {H H1 : Heap} {e0 e : va_E} (hR : ez_R G h n H) (hi : h i = some e0) (he : va_at (ez_D G) vwCl (ez_ad G i, ez_e G e) H1) (hz : H1.size = H.size) (oq : ∀ q : Nat, q ≠ ez_ad G i → H1[q]? = H[q]?) : ez_R G (ez_up h i e) n H1 := by
  obtain ⟨h1, h2, h3, h4⟩ := hR
  refine ⟨by rw [hz]; exact h1, h2, h3, fun j x hx => ?_⟩
  by_cases hj : j = i
  · subst hj
    rw [ez_up, if_pos rfl] at hx
    cases hx
    exact ⟨(h4 j e0 hi).1, he⟩
  · rw [ez_up, if_neg hj] at hx
    exact ⟨(h4 j x hx).1, (h4 j x hx).2.kept (oq _ (fun q => hj (ez_ad_inj h3 q)))⟩
theorem ez_R.push {G : ez_G} {h : ez_H} {n : Nat} {H H1 : Heap} {e : va_E} (hR : ez_R G h n H) (he : va_at (ez_D G) vwCl (ez_ad G n, ez_e G e) H1) (hz : H1.size = H.size + 1) (oq : ∀ q : Nat, q < H.size → H1[q]? = H[q]?) : ez_R G (ez_up h n e) (n + 1) H1 := by
  obtain ⟨h1, h2, h3, h4⟩ := hR
  refine ⟨by rw [hz]; omega, by omega, h3, fun j x hx => ?_⟩
  by_cases hj : j = n
  · subst hj
    rw [ez_up, if_pos rfl] at hx
    cases hx
    exact ⟨by omega, he⟩
  · rw [ez_up, if_neg hj] at hx
    have q := (h4 j x hx)
    exact ⟨by omega, q.2.kept (oq _ q.2.lt)⟩
theorem ez_R.size {G : ez_G} {h : ez_H} {n : Nat} {H : Heap} (hR : ez_R G h n H) : H.size = ez_ad G n := by
  obtain ⟨h1, h2, -⟩ := hR
  cases n with
  | zero => omega
  | succ k => show H.size = ez_o G + k; omega
theorem ez_R.kept {G : ez_G} {h : ez_H} {n n' : Nat} {H H1 : Heap} (hR : ez_R G h n H) (hz : H1.size + 1 = ez_o G + n') (hn : n ≤ n') (oq : ∀ q : Nat, q < H.size → H1[q]? = H[q]?) : ez_R G h n' H1 := by
  obtain ⟨h1, h2, h3, h4⟩ := hR
  exact ⟨hz, by omega, h3, fun j x hx => ⟨by have := (h4 j x hx).1; omega, (h4 j x hx).2.kept (oq _ (h4 j x hx).2.lt)⟩⟩
/-- fewer cells said -/
theorem ez_R.sub {G : ez_G} {h h' : ez_H} {n : Nat} {H : Heap} (hR : ez_R G h n H) (hs : ∀ i e, h' i = some e → h i = some e) : ez_R G h' n H := ⟨hR.1, hR.2.1, hR.2.2.1, fun i e he => hR.2.2.2 i e (hs i e he)⟩
-- locals: a list of what is known at each place
def ez_L (G : ez_G) (la : Array Slot) (nL : Nat) (ls : List (Option Value)) : Prop := la.size = nL ∧ lv_wf la ∧ ∀ (j : Nat) (x : Value), ls[j]? = some (some x) → la[j]? = some (.val (ez_v G x))
def ez_c1 (x : Option Value) : Bool := match x with
  | some v => !(v.category == 2)
  | none => true
theorem ez_v_cat (G : ez_G) (v : Value) : (ez_v G v).category = v.category := by cases v <;> rfl
theorem ez_st_cat (G : ez_G) (st : List Value) : ((st.map (ez_v G)).map fun v => v.category).sum = (st.map fun v => v.category).sum := by
  rw [List.map_map]
  congr 1
  exact List.map_congr_left (fun v _ => ez_v_cat G v)
def ez_prs (G : ez_G) : Nat → List (Option Value) → List (Nat × Value)
  | _, [] => []
  | k, none :: r => ez_prs G (k + 1) r
  | k, some v :: r => (k, ez_v G v) :: ez_prs G (k + 1) r
theorem ez_prs_mem {G : ez_G} {q : Nat × Value} : ∀ {k : Nat} {ls : List (Option Value)}, q ∈ ez_prs G k ls → ∃ (j : Nat) (x : Value), ls[j]? = some (some x) ∧ q = (k + j, ez_v G x) := by
  intro k ls
  induction ls generalizing k with
  | nil => intro h; cases h
  | cons y r ih =>
    intro h
    cases y with
    | none =>
      obtain ⟨j, x, h1, h2⟩ := ih (show q ∈ ez_prs G (k + 1) r from h)
      exact ⟨j + 1, x, by simpa using h1, by rw [h2]; congr 1; omega⟩
    | some v =>
      rcases List.mem_cons.mp (show q ∈ (k, ez_v G v) :: ez_prs G (k + 1) r from h) with h | h
      · exact ⟨0, v, rfl, by rw [h]; rfl⟩
      · obtain ⟨j, x, h1, h2⟩ := ih h
        exact ⟨j + 1, x, by simpa using h1, by rw [h2]; congr 1; omega⟩
theorem ez_prs_of {G : ez_G} {x : Value} : ∀ {k : Nat} {ls : List (Option Value)} {j : Nat}, ls[j]? = some (some x) → (k + j, ez_v G x) ∈ ez_prs G k ls := by
  intro k ls
  induction ls generalizing k with
  | nil => intro j h; simp at h
  | cons y r ih =>
    intro j h
    cases j with
    | zero =>
      have hy : y = some x := by simpa using h
      subst hy
      exact List.mem_cons_self
    | succ i =>
      have h2 := ih (k := k + 1) (j := i) (by simpa using h)
      rw [show k + (i + 1) = k + 1 + i by omega]
      cases y with
      | none => exact h2
      | some v => exact List.mem_cons_of_mem _ h2
theorem ez_L.has {G : ez_G} {la : Array Slot} {nL : Nat} {ls : List (Option Value)} (h : ez_L G la nL ls) : lv_has la nL (ez_prs G 0 ls) := by
  refine ⟨h.1, h.2.1, fun q hq => ?_⟩
  obtain ⟨j, x, h1, h2⟩ := ez_prs_mem hq
  subst h2
  rw [Nat.zero_add]
  exact h.2.2 j x h1
theorem ez_L.of {G : ez_G} {la : Array Slot} {nL : Nat} {ls : List (Option Value)} {l : List (Nat × Value)} (h : lv_has la nL l) (hs : ∀ (j : Nat) (x : Value), ls[j]? = some (some x) → (j, ez_v G x) ∈ l) : ez_L G la nL ls := ⟨h.1, h.2.1, fun j x hx => h.2.2 (j, ez_v G x) (hs j x hx)⟩
/-- fewer known -/
theorem ez_L.sub {G : ez_G} {la : Array Slot} {nL : Nat} {ls ls' : List (Option Value)} (h : ez_L G la nL ls) (hs : ∀ (j : Nat) (x : Value), ls'[j]? = some (some x) → ls[j]? = some (some x)) : ez_L G la nL ls' := ⟨h.1, h.2.1, fun j x hx => h.2.2 j x (hs j x hx)⟩
theorem ez_L.st1 {G : ez_G} {la : Array Slot} {nL i : Nat} {ls ls' : List (Option Value)} {v : Value} (h : lv_has la nL ((i, ez_v G v) :: (ez_prs G 0 ls).filter (fun q => !(q.1 == i) && !(q.1 + 1 == i && q.2.category == 2)))) (hs : ls.set i (some v) = ls') (hc : i = 0 ∨ ∃ x, ls[i - 1]? = some x ∧ ez_c1 x = true) : ez_L G la nL ls' := by
  subst hs
  refine ez_L.of h (fun j x hx => ?_)
  by_cases hj : j = i
  · subst hj
    have hl : j < ls.length := by
      have := (List.getElem?_eq_some_iff.mp hx).1
      simpa using this
    rw [List.getElem?_set_self hl] at hx
    cases hx
    exact List.mem_cons_self
  · rw [List.getElem?_set_ne (Ne.symm hj)] at hx
    refine List.mem_cons_of_mem _ (List.mem_filter.mpr ⟨by have := ez_prs_of (G := G) (k := 0) hx; rwa [Nat.zero_add] at this, ?_⟩)
    have h1 : (j == i) = false := by simpa using hj
    simp only [h1, Bool.not_false, Bool.true_and, Bool.not_eq_true', Bool.and_eq_false_iff]
    by_cases h2 : j + 1 = i
    · right
      rcases hc with hc | ⟨y, hy, hc⟩
      · omega
      · rw [show i - 1 = j by omega, hx] at hy
        cases hy
        simp only [ez_c1, Bool.not_eq_true'] at hc
        rw [ez_v_cat]
        exact hc
    · left
      simpa using h2
theorem ez_L.st2 {G : ez_G} {la : Array Slot} {nL i : Nat} {ls ls' : List (Option Value)} {v : Value} (h : lv_has la nL ((i, ez_v G v) :: (ez_prs G 0 ls).filter (fun q => !(q.1 == i) && (!(q.1 == i + 1) && !(q.1 + 1 == i && q.2.category == 2))))) (hs : (ls.set i (some v)).set (i + 1) none = ls') (hc : i = 0 ∨ ∃ x, ls[i - 1]? = some x ∧ ez_c1 x = true) : ez_L G la nL ls' := by
  subst hs
  refine ez_L.of h (fun j x hx => ?_)
  by_cases hj2 : j = i + 1
  · subst hj2
    rw [List.getElem?_set] at hx
    simp only [if_pos] at hx
    split at hx <;> cases hx
  · rw [List.getElem?_set_ne (Ne.symm hj2)] at hx
    by_cases hj : j = i
    · subst hj
      have hl : j < ls.length := by
        have := (List.getElem?_eq_some_iff.mp hx).1
        simpa using this
      rw [List.getElem?_set_self hl] at hx
      cases hx
      exact List.mem_cons_self
    · rw [List.getElem?_set_ne (Ne.symm hj)] at hx
      refine List.mem_cons_of_mem _ (List.mem_filter.mpr ⟨by have := ez_prs_of (G := G) (k := 0) hx; rwa [Nat.zero_add] at this, ?_⟩)
      have h1 : (j == i) = false := by simpa using hj
      have h3 : (j == i + 1) = false := by simpa using hj2
      simp only [h1, h3, Bool.not_false, Bool.true_and, Bool.not_eq_true', Bool.and_eq_false_iff]
      by_cases h2 : j + 1 = i
      · right
        rcases hc with hc | ⟨y, hy, hc⟩
        · omega
        · rw [show i - 1 = j by omega, hx] at hy
          cases hy
          simp only [ez_c1, Bool.not_eq_true'] at hc
          rw [ez_v_cat]
          exact hc
      · left
        simpa using h2
-- contracts and the judgement
def ez_Qc (G : ez_G) (Q : ez_Q) : Array Value → State → Outcome → State → Prop := fun _ st oc t => (∃ (r : Option Value) (h : ez_H) (n : Nat), oc = .returned (r.map (ez_v G)) ∧ Q (.inl r) h n ∧ ez_R G h n t.heap) ∧ va_F (ez_A G) st t
def ez_Xc (G : ez_G) (Q : ez_Q) : String → State → State → Prop := fun E st t => (∃ (h : ez_H) (n : Nat), Q (.inr E) h n ∧ ez_R G h n t.heap) ∧ va_F (ez_A G) st t
def ez_w (M : ez_M) : Cond := match M.2.2.2.2 with
  | [] => .code M.1 M.2.1 M.2.2.1 M.2.2.2.1
  | hh => .codeWith M.1 M.2.1 M.2.2.1 M.2.2.2.1 hh
def ez_rm (d mc ms : Nat) : Room := { frames := d, cells := mc, slots := ms, locals := 44 * d }
def ez_Pc (G : ez_G) (as : List Value) (h : ez_H) (n : Nat) : Array Value → State → Prop := va_Pc (as.map (ez_v G)) (fun U => ez_R G h n U.heap ∧ ez_K G U)
/-- THE CONTRACT: method M, called at depth d on the arguments as over the heap h of n cells, makes at most mc cells of ms slots and ends in Q -/
def Con (G : ez_G) (M : ez_M) (d : Nat) (as : List Value) (h : ez_H) (n mc ms : Nat) (Q : ez_Q) : Prop := vx_Met (ez_l G) M.1 [ez_w M] (ez_rm d mc ms) (ez_Pc G as h n) (ez_Qc G Q) (ez_Xc G Q) mc ms (ez_A G)
def ez_X (G : ez_G) (M : ez_M) (d : Nat) (p : Program) (R : Room) (s : State) (m : MethodId) (meth : Method) (c : Code) : Prop :=
  p.tables.exec = Jvm.exec ∧ c.code = M.2.1 ∧ meth.sig.returnType = M.2.2.2.1 ∧ s.vm.findClass M.1.cls = some m.cls ∧ meth.locks = false ∧ c.maxLocals = M.2.2.1 ∧ meth.name = M.1.name ∧ c.exceptionTable.toList = tableOf M.2.2.2.2 ∧ ez_K G s ∧ d ≤ R.frames ∧ 44 * d ≤ R.locals ∧ ez_o G ≤ s.heap.size
def E (G : ez_G) (M : ez_M) (d : Nat) (Q : ez_Q) (h : ez_H) (n mc ms pc : Nat) (ls : List (Option Value)) (st : List Value) : Prop :=
  ∀ (p : Program) (e : Env) (R : Room) (s : State) (m : MethodId) (args : Array Value) (below : List Frame) (meth : Method) (c : Code) (H : Heap) (locs : List Loc) (cells slots mt mS : Nat) (la : Array Slot),
    ez_X G M d p R s m meth c → ez_R G h n H → va_S (ez_A G) s.heap H locs → ez_L G la M.2.2.1 ls → (cells + mc ≤ mt ∧ mt ≤ R.cells) → (slots + ms ≤ mS ∧ mS ≤ R.slots) →
    W p (ez_l G) e R s m args below meth c H locs cells slots (vx_MQ below (ez_Qc G Q) (ez_Xc G Q) args s mt mS (ez_A G)) (F0 m pc la (st.map (ez_v G)))

theorem ez_iconst {G : ez_G} {M : ez_M} {d : Nat} {Q : ez_Q} {h : ez_H} {n mc ms pc q : Nat} {ls : List (Option Value)} {st : List Value} {z : Int} {v : Int32} (hd : decode M.2.1 pc = .ok (.iconst z, 1)) (hv : Int32.ofInt z = v) (hq : pc + 1 = q) (k : E G M d Q h n mc ms q ls (.int v :: st)) : E G M d Q h n mc ms pc ls st := by
  subst hq
  intro p e R s m args below meth c H locs cells slots mt mS la X hR hS hL hc hs
  exact lv_iconst X.1 X.2.1 hd hv (k p e R s m args below meth c H locs cells slots mt mS la X hR hS hL hc hs)
theorem ez_bipush {G : ez_G} {M : ez_M} {d : Nat} {Q : ez_Q} {h : ez_H} {n mc ms pc q : Nat} {ls : List (Option Value)} {st : List Value} {z : Int} {v : Int32} (hd : decode M.2.1 pc = .ok (.bipush z, 2)) (hv : (Int8.ofInt z).toInt32 = v) (hq : pc + 2 = q) (k : E G M d Q h n mc ms q ls (.int v :: st)) : E G M d Q h n mc ms pc ls st := by
  subst hq
  intro p e R s m args below meth c H locs cells slots mt mS la X hR hS hL hc hs
  exact lv_bipush X.1 X.2.1 hd hv (k p e R s m args below meth c H locs cells slots mt mS la X hR hS hL hc hs)
theorem ez_sipush {G : ez_G} {M : ez_M} {d : Nat} {Q : ez_Q} {h : ez_H} {n mc ms pc q : Nat} {ls : List (Option Value)} {st : List Value} {z : Int} {v : Int32} (hd : decode M.2.1 pc = .ok (.sipush z, 3)) (hv : (Int16.ofInt z).toInt32 = v) (hq : pc + 3 = q) (k : E G M d Q h n mc ms q ls (.int v :: st)) : E G M d Q h n mc ms pc ls st := by
  subst hq
  intro p e R s m args below meth c H locs cells slots mt mS la X hR hS hL hc hs
  exact lv_sipush X.1 X.2.1 hd hv (k p e R s m args below meth c H locs cells slots mt mS la X hR hS hL hc hs)
theorem ez_lconst {G : ez_G} {M : ez_M} {d : Nat} {Q : ez_Q} {h : ez_H} {n mc ms pc q : Nat} {ls : List (Option Value)} {st : List Value} {z : Fin 2} {v : Int64} (hd : decode M.2.1 pc = .ok (.lconst z, 1)) (hv : Int64.ofNat (z : Nat) = v) (hq : pc + 1 = q) (k : E G M d Q h n mc ms q ls (.long v :: st)) : E G M d Q h n mc ms pc ls st := by
  subst hq
  intro p e R s m args below meth c H locs cells slots mt mS la X hR hS hL hc hs
  exact lv_lconst X.1 X.2.1 hd hv (k p e R s m args below meth c H locs cells slots mt mS la X hR hS hL hc hs)
theorem ez_dconst0 {G : ez_G} {M : ez_M} {d : Nat} {Q : ez_Q} {h : ez_H} {n mc ms pc q : Nat} {ls : List (Option Value)} {st : List Value}  (hd : decode M.2.1 pc = .ok (.dconst 0, 1))  (hq : pc + 1 = q) (k : E G M d Q h n mc ms q ls (.double 0 :: st)) : E G M d Q h n mc ms pc ls st := by
  subst hq
  intro p e R s m args below meth c H locs cells slots mt mS la X hR hS hL hc hs
  exact lv_dconst0 X.1 X.2.1 hd (k p e R s m args below meth c H locs cells slots mt mS la X hR hS hL hc hs)
theorem ez_dconst1 {G : ez_G} {M : ez_M} {d : Nat} {Q : ez_Q} {h : ez_H} {n mc ms pc q : Nat} {ls : List (Option Value)} {st : List Value}  (hd : decode M.2.1 pc = .ok (.dconst 1, 1))  (hq : pc + 1 = q) (k : E G M d Q h n mc ms q ls (.double 0x3ff0000000000000 :: st)) : E G M d Q h n mc ms pc ls st := by
  subst hq
  intro p e R s m args below meth c H locs cells slots mt mS la X hR hS hL hc hs
  exact lv_dconst1 X.1 X.2.1 hd (k p e R s m args below meth c H locs cells slots mt mS la X hR hS hL hc hs)
theorem ez_iload_n {G : ez_G} {M : ez_M} {d : Nat} {Q : ez_Q} {h : ez_H} {n mc ms pc q : Nat} {ls : List (Option Value)} {st : List Value} {f : Fin 4} {x : Int32} (i : Nat) (hd : decode M.2.1 pc = .ok (.iload_n f, 1)) (hi : (f : Nat) = i) (hl : ls[i]? = some (some (.int x))) (hq : pc + 1 = q) (k : E G M d Q h n mc ms q ls (.int x :: st)) : E G M d Q h n mc ms pc ls st := by
  subst hq
  intro p e R s m args below meth c H locs cells slots mt mS la X hR hS hL hc hs
  exact lv_iload_n X.1 X.2.1 hd hi (hL.2.2 i _ hl) (k p e R s m args below meth c H locs cells slots mt mS la X hR hS hL hc hs)
theorem ez_iload {G : ez_G} {M : ez_M} {d : Nat} {Q : ez_Q} {h : ez_H} {n mc ms pc q : Nat} {ls : List (Option Value)} {st : List Value} {i : Nat} {x : Int32} (hd : decode M.2.1 pc = .ok (.iload i, 2)) (hl : ls[i]? = some (some (.int x))) (hq : pc + 2 = q) (k : E G M d Q h n mc ms q ls (.int x :: st)) : E G M d Q h n mc ms pc ls st := by
  subst hq
  intro p e R s m args below meth c H locs cells slots mt mS la X hR hS hL hc hs
  exact lv_iload X.1 X.2.1 hd (hL.2.2 i _ hl) (k p e R s m args below meth c H locs cells slots mt mS la X hR hS hL hc hs)
theorem ez_aload_n {G : ez_G} {M : ez_M} {d : Nat} {Q : ez_Q} {h : ez_H} {n mc ms pc q : Nat} {ls : List (Option Value)} {st : List Value} {f : Fin 4} {x : Nat} (i : Nat) (hd : decode M.2.1 pc = .ok (.aload_n f, 1)) (hi : (f : Nat) = i) (hl : ls[i]? = some (some (.ref x))) (hq : pc + 1 = q) (k : E G M d Q h n mc ms q ls (.ref x :: st)) : E G M d Q h n mc ms pc ls st := by
  subst hq
  intro p e R s m args below meth c H locs cells slots mt mS la X hR hS hL hc hs
  exact lv_aload_n X.1 X.2.1 hd hi (hL.2.2 i _ hl) (k p e R s m args below meth c H locs cells slots mt mS la X hR hS hL hc hs)
theorem ez_aload {G : ez_G} {M : ez_M} {d : Nat} {Q : ez_Q} {h : ez_H} {n mc ms pc q : Nat} {ls : List (Option Value)} {st : List Value} {i : Nat} {x : Nat} (hd : decode M.2.1 pc = .ok (.aload i, 2)) (hl : ls[i]? = some (some (.ref x))) (hq : pc + 2 = q) (k : E G M d Q h n mc ms q ls (.ref x :: st)) : E G M d Q h n mc ms pc ls st := by
  subst hq
  intro p e R s m args below meth c H locs cells slots mt mS la X hR hS hL hc hs
  exact lv_aload X.1 X.2.1 hd (hL.2.2 i _ hl) (k p e R s m args below meth c H locs cells slots mt mS la X hR hS hL hc hs)
theorem ez_lload_n {G : ez_G} {M : ez_M} {d : Nat} {Q : ez_Q} {h : ez_H} {n mc ms pc q : Nat} {ls : List (Option Value)} {st : List Value} {f : Fin 4} {x : Int64} (i : Nat) (hd : decode M.2.1 pc = .ok (.lload_n f, 1)) (hi : (f : Nat) = i) (hl : ls[i]? = some (some (.long x))) (hq : pc + 1 = q) (k : E G M d Q h n mc ms q ls (.long x :: st)) : E G M d Q h n mc ms pc ls st := by
  subst hq
  intro p e R s m args below meth c H locs cells slots mt mS la X hR hS hL hc hs
  exact lv_lload_n X.1 X.2.1 hd hi (hL.2.2 i _ hl) (k p e R s m args below meth c H locs cells slots mt mS la X hR hS hL hc hs)
theorem ez_lload {G : ez_G} {M : ez_M} {d : Nat} {Q : ez_Q} {h : ez_H} {n mc ms pc q : Nat} {ls : List (Option Value)} {st : List Value} {i : Nat} {x : Int64} (hd : decode M.2.1 pc = .ok (.lload i, 2)) (hl : ls[i]? = some (some (.long x))) (hq : pc + 2 = q) (k : E G M d Q h n mc ms q ls (.long x :: st)) : E G M d Q h n mc ms pc ls st := by
  subst hq
  intro p e R s m args below meth c H locs cells slots mt mS la X hR hS hL hc hs
  exact lv_lload X.1 X.2.1 hd (hL.2.2 i _ hl) (k p e R s m args below meth c H locs cells slots mt mS la X hR hS hL hc hs)
theorem ez_dload_n {G : ez_G} {M : ez_M} {d : Nat} {Q : ez_Q} {h : ez_H} {n mc ms pc q : Nat} {ls : List (Option Value)} {st : List Value} {f : Fin 4} {x : UInt64} (i : Nat) (hd : decode M.2.1 pc = .ok (.dload_n f, 1)) (hi : (f : Nat) = i) (hl : ls[i]? = some (some (.double x))) (hq : pc + 1 = q) (k : E G M d Q h n mc ms q ls (.double x :: st)) : E G M d Q h n mc ms pc ls st := by
  subst hq
  intro p e R s m args below meth c H locs cells slots mt mS la X hR hS hL hc hs
  exact lv_dload_n X.1 X.2.1 hd hi (hL.2.2 i _ hl) (k p e R s m args below meth c H locs cells slots mt mS la X hR hS hL hc hs)
theorem ez_dload {G : ez_G} {M : ez_M} {d : Nat} {Q : ez_Q} {h : ez_H} {n mc ms pc q : Nat} {ls : List (Option Value)} {st : List Value} {i : Nat} {x : UInt64} (hd : decode M.2.1 pc = .ok (.dload i, 2)) (hl : ls[i]? = some (some (.double x))) (hq : pc + 2 = q) (k : E G M d Q h n mc ms q ls (.double x :: st)) : E G M d Q h n mc ms pc ls st := by
  subst hq
  intro p e R s m args below meth c H locs cells slots mt mS la X hR hS hL hc hs
  exact lv_dload X.1 X.2.1 hd (hL.2.2 i _ hl) (k p e R s m args below meth c H locs cells slots mt mS la X hR hS hL hc hs)
theorem ez_istore_n' {G : ez_G} {M : ez_M} {d : Nat} {Q : ez_Q} {h : ez_H} {n mc ms pc q : Nat} {ls : List (Option Value)} {st : List Value} {f : Fin 4} (i : Nat) {x : Int32} {ls' : List (Option Value)} (hd : decode M.2.1 pc = .ok (.istore_n f, 1)) (hi : (f : Nat) = i) (hn : i < M.2.2.1) (hs' : ls.set i (some (.int x)) = ls') (hc' : i = 0 ∨ ∃ x, ls[i - 1]? = some x ∧ ez_c1 x = true) (hq : pc + 1 = q) (k : E G M d Q h n mc ms q ls' st) : E G M d Q h n mc ms pc ls (.int x :: st) := by
  subst hq
  intro p e R s m args below meth c H locs cells slots mt mS la X hR hS hL hc hs
  exact lv_istore_n X.1 X.2.1 hd hi hL.has hn rfl (fun la' hl' => k p e R s m args below meth c H locs cells slots mt mS la' X hR hS (ez_L.st1 hl' hs' hc') hc hs)
theorem ez_istore' {G : ez_G} {M : ez_M} {d : Nat} {Q : ez_Q} {h : ez_H} {n mc ms pc q : Nat} {ls : List (Option Value)} {st : List Value} {i : Nat} {x : Int32} {ls' : List (Option Value)} (hd : decode M.2.1 pc = .ok (.istore i, 2)) (hn : i < M.2.2.1) (hs' : ls.set i (some (.int x)) = ls') (hc' : i = 0 ∨ ∃ x, ls[i - 1]? = some x ∧ ez_c1 x = true) (hq : pc + 2 = q) (k : E G M d Q h n mc ms q ls' st) : E G M d Q h n mc ms pc ls (.int x :: st) := by
  subst hq
  intro p e R s m args below meth c H locs cells slots mt mS la X hR hS hL hc hs
  exact lv_istore X.1 X.2.1 hd hL.has hn rfl (fun la' hl' => k p e R s m args below meth c H locs cells slots mt mS la' X hR hS (ez_L.st1 hl' hs' hc') hc hs)
theorem ez_astore_n' {G : ez_G} {M : ez_M} {d : Nat} {Q : ez_Q} {h : ez_H} {n mc ms pc q : Nat} {ls : List (Option Value)} {st : List Value} {f : Fin 4} (i : Nat) {x : Nat} {ls' : List (Option Value)} (hd : decode M.2.1 pc = .ok (.astore_n f, 1)) (hi : (f : Nat) = i) (hn : i < M.2.2.1) (hs' : ls.set i (some (.ref x)) = ls') (hc' : i = 0 ∨ ∃ x, ls[i - 1]? = some x ∧ ez_c1 x = true) (hq : pc + 1 = q) (k : E G M d Q h n mc ms q ls' st) : E G M d Q h n mc ms pc ls (.ref x :: st) := by
  subst hq
  intro p e R s m args below meth c H locs cells slots mt mS la X hR hS hL hc hs
  exact lv_astore_n X.1 X.2.1 hd hi hL.has hn rfl (fun la' hl' => k p e R s m args below meth c H locs cells slots mt mS la' X hR hS (ez_L.st1 hl' hs' hc') hc hs)
theorem ez_astore' {G : ez_G} {M : ez_M} {d : Nat} {Q : ez_Q} {h : ez_H} {n mc ms pc q : Nat} {ls : List (Option Value)} {st : List Value} {i : Nat} {x : Nat} {ls' : List (Option Value)} (hd : decode M.2.1 pc = .ok (.astore i, 2)) (hn : i < M.2.2.1) (hs' : ls.set i (some (.ref x)) = ls') (hc' : i = 0 ∨ ∃ x, ls[i - 1]? = some x ∧ ez_c1 x = true) (hq : pc + 2 = q) (k : E G M d Q h n mc ms q ls' st) : E G M d Q h n mc ms pc ls (.ref x :: st) := by
  subst hq
  intro p e R s m args below meth c H locs cells slots mt mS la X hR hS hL hc hs
  exact lv_astore X.1 X.2.1 hd hL.has hn rfl (fun la' hl' => k p e R s m args below meth c H locs cells slots mt mS la' X hR hS (ez_L.st1 hl' hs' hc') hc hs)
theorem ez_lstore_n' {G : ez_G} {M : ez_M} {d : Nat} {Q : ez_Q} {h : ez_H} {n mc ms pc q : Nat} {ls : List (Option Value)} {st : List Value} {f : Fin 4} (i : Nat) {x : Int64} {ls' : List (Option Value)} (hd : decode M.2.1 pc = .ok (.lstore_n f, 1)) (hi : (f : Nat) = i) (hn : i + 1 < M.2.2.1) (hs' : (ls.set i (some (.long x))).set (i + 1) none = ls') (hc' : i = 0 ∨ ∃ x, ls[i - 1]? = some x ∧ ez_c1 x = true) (hq : pc + 1 = q) (k : E G M d Q h n mc ms q ls' st) : E G M d Q h n mc ms pc ls (.long x :: st) := by
  subst hq
  intro p e R s m args below meth c H locs cells slots mt mS la X hR hS hL hc hs
  exact lv_lstore_n X.1 X.2.1 hd hi hL.has hn rfl (fun la' hl' => k p e R s m args below meth c H locs cells slots mt mS la' X hR hS (ez_L.st2 hl' hs' hc') hc hs)
theorem ez_lstore' {G : ez_G} {M : ez_M} {d : Nat} {Q : ez_Q} {h : ez_H} {n mc ms pc q : Nat} {ls : List (Option Value)} {st : List Value} {i : Nat} {x : Int64} {ls' : List (Option Value)} (hd : decode M.2.1 pc = .ok (.lstore i, 2)) (hn : i + 1 < M.2.2.1) (hs' : (ls.set i (some (.long x))).set (i + 1) none = ls') (hc' : i = 0 ∨ ∃ x, ls[i - 1]? = some x ∧ ez_c1 x = true) (hq : pc + 2 = q) (k : E G M d Q h n mc ms q ls' st) : E G M d Q h n mc ms pc ls (.long x :: st) := by
  subst hq
  intro p e R s m args below meth c H locs cells slots mt mS la X hR hS hL hc hs
  exact lv_lstore X.1 X.2.1 hd hL.has hn rfl (fun la' hl' => k p e R s m args below meth c H locs cells slots mt mS la' X hR hS (ez_L.st2 hl' hs' hc') hc hs)
theorem ez_dstore_n' {G : ez_G} {M : ez_M} {d : Nat} {Q : ez_Q} {h : ez_H} {n mc ms pc q : Nat} {ls : List (Option Value)} {st : List Value} {f : Fin 4} (i : Nat) {x : UInt64} {ls' : List (Option Value)} (hd : decode M.2.1 pc = .ok (.dstore_n f, 1)) (hi : (f : Nat) = i) (hn : i + 1 < M.2.2.1) (hs' : (ls.set i (some (.double x))).set (i + 1) none = ls') (hc' : i = 0 ∨ ∃ x, ls[i - 1]? = some x ∧ ez_c1 x = true) (hq : pc + 1 = q) (k : E G M d Q h n mc ms q ls' st) : E G M d Q h n mc ms pc ls (.double x :: st) := by
  subst hq
  intro p e R s m args below meth c H locs cells slots mt mS la X hR hS hL hc hs
  exact lv_dstore_n X.1 X.2.1 hd hi hL.has hn rfl (fun la' hl' => k p e R s m args below meth c H locs cells slots mt mS la' X hR hS (ez_L.st2 hl' hs' hc') hc hs)
theorem ez_dstore' {G : ez_G} {M : ez_M} {d : Nat} {Q : ez_Q} {h : ez_H} {n mc ms pc q : Nat} {ls : List (Option Value)} {st : List Value} {i : Nat} {x : UInt64} {ls' : List (Option Value)} (hd : decode M.2.1 pc = .ok (.dstore i, 2)) (hn : i + 1 < M.2.2.1) (hs' : (ls.set i (some (.double x))).set (i + 1) none = ls') (hc' : i = 0 ∨ ∃ x, ls[i - 1]? = some x ∧ ez_c1 x = true) (hq : pc + 2 = q) (k : E G M d Q h n mc ms q ls' st) : E G M d Q h n mc ms pc ls (.double x :: st) := by
  subst hq
  intro p e R s m args below meth c H locs cells slots mt mS la X hR hS hL hc hs
  exact lv_dstore X.1 X.2.1 hd hL.has hn rfl (fun la' hl' => k p e R s m args below meth c H locs cells slots mt mS la' X hR hS (ez_L.st2 hl' hs' hc') hc hs)
theorem ez_lk {G : ez_G} {ls : List (Option Value)} {i : Nat} {x : Value} (h : ls[i]? = some (some x)) : ∃ k : Nat, (ez_prs G 0 ls)[k]? = some (i, ez_v G x) := by
  have h2 := ez_prs_of (G := G) (k := 0) h
  rw [Nat.zero_add] at h2
  exact List.getElem?_of_mem h2
theorem ez_iinc' {G : ez_G} {M : ez_M} {d : Nat} {Q : ez_Q} {h : ez_H} {n mc ms pc q : Nat} {ls : List (Option Value)} {st : List Value} {i : Nat} {z : Int} {x v : Int32} {ls' : List (Option Value)} (hd : decode M.2.1 pc = .ok (.iinc i z, 3)) (hl : ls[i]? = some (some (.int x))) (hv : x + Int32.ofInt z = v) (hn : i < M.2.2.1) (hs' : ls.set i (some (.int v)) = ls') (hc' : i = 0 ∨ ∃ x, ls[i - 1]? = some x ∧ ez_c1 x = true) (hq : pc + 3 = q) (k : E G M d Q h n mc ms q ls' st) : E G M d Q h n mc ms pc ls st := by
  subst hq
  intro p e R s m args below meth c H locs cells slots mt mS la X hR hS hL hc hs
  obtain ⟨kk, hk⟩ := ez_lk (G := G) hl
  exact lv_iinc X.1 X.2.1 hd hL.has hk hv hn rfl (fun la' hl' => k p e R s m args below meth c H locs cells slots mt mS la' X hR hS (ez_L.st1 hl' hs' hc') hc hs)
theorem ez_istore_0 {G : ez_G} {M : ez_M} {d : Nat} {Q : ez_Q} {h : ez_H} {n mc ms pc q : Nat} {st : List Value} {x0 : Option Value} {r : List (Option Value)} {x : Int32} {f : Fin 4} (hd : decode M.2.1 pc = .ok (.istore_n f, 1)) (hi : (f : Nat) = 0) (hn : 0 < M.2.2.1) (hq : pc + 1 = q) (k : E G M d Q h n mc ms q (some (.int x) :: r) st) : E G M d Q h n mc ms pc (x0 :: r) (.int x :: st) := ez_istore_n' 0 hd hi hn rfl (Or.inl rfl) hq k
theorem ez_istore_1 {G : ez_G} {M : ez_M} {d : Nat} {Q : ez_Q} {h : ez_H} {n mc ms pc q : Nat} {st : List Value} {x0 x1 : Option Value} {r : List (Option Value)} {x : Int32} {f : Fin 4} (hd : decode M.2.1 pc = .ok (.istore_n f, 1)) (hi : (f : Nat) = 1) (hn : 1 < M.2.2.1) (hc1 : ez_c1 x0 = true) (hq : pc + 1 = q) (k : E G M d Q h n mc ms q (x0 :: some (.int x) :: r) st) : E G M d Q h n mc ms pc (x0 :: x1 :: r) (.int x :: st) := ez_istore_n' 1 hd hi hn rfl (Or.inr ⟨x0, rfl, hc1⟩) hq k
theorem ez_istore_2 {G : ez_G} {M : ez_M} {d : Nat} {Q : ez_Q} {h : ez_H} {n mc ms pc q : Nat} {st : List Value} {x0 x1 x2 : Option Value} {r : List (Option Value)} {x : Int32} {f : Fin 4} (hd : decode M.2.1 pc = .ok (.istore_n f, 1)) (hi : (f : Nat) = 2) (hn : 2 < M.2.2.1) (hc1 : ez_c1 x1 = true) (hq : pc + 1 = q) (k : E G M d Q h n mc ms q (x0 :: x1 :: some (.int x) :: r) st) : E G M d Q h n mc ms pc (x0 :: x1 :: x2 :: r) (.int x :: st) := ez_istore_n' 2 hd hi hn rfl (Or.inr ⟨x1, rfl, hc1⟩) hq k
theorem ez_istore_3 {G : ez_G} {M : ez_M} {d : Nat} {Q : ez_Q} {h : ez_H} {n mc ms pc q : Nat} {st : List Value} {x0 x1 x2 x3 : Option Value} {r : List (Option Value)} {x : Int32} {f : Fin 4} (hd : decode M.2.1 pc = .ok (.istore_n f, 1)) (hi : (f : Nat) = 3) (hn : 3 < M.2.2.1) (hc1 : ez_c1 x2 = true) (hq : pc + 1 = q) (k : E G M d Q h n mc ms q (x0 :: x1 :: x2 :: some (.int x) :: r) st) : E G M d Q h n mc ms pc (x0 :: x1 :: x2 :: x3 :: r) (.int x :: st) := ez_istore_n' 3 hd hi hn rfl (Or.inr ⟨x2, rfl, hc1⟩) hq k
theorem ez_istore_4 {G : ez_G} {M : ez_M} {d : Nat} {Q : ez_Q} {h : ez_H} {n mc ms pc q : Nat} {st : List Value} {x0 x1 x2 x3 x4 : Option Value} {r : List (Option Value)} {x : Int32} (hd : decode M.2.1 pc = .ok (.istore 4, 2)) (hn : 4 < M.2.2.1) (hc1 : ez_c1 x3 = true) (hq : pc + 2 = q) (k : E G M d Q h n mc ms q (x0 :: x1 :: x2 :: x3 :: some (.int x) :: r) st) : E G M d Q h n mc ms pc (x0 :: x1 :: x2 :: x3 :: x4 :: r) (.int x :: st) := ez_istore' hd hn rfl (Or.inr ⟨x3, rfl, hc1⟩) hq k
theorem ez_istore_5 {G : ez_G} {M : ez_M} {d : Nat} {Q : ez_Q} {h : ez_H} {n mc ms pc q : Nat} {st : List Value} {x0 x1 x2 x3 x4 x5 : Option Value} {r : List (Option Value)} {x : Int32} (hd : decode M.2.1 pc = .ok (.istore 5, 2)) (hn : 5 < M.2.2.1) (hc1 : ez_c1 x4 = true) (hq : pc + 2 = q) (k : E G M d Q h n mc ms q (x0 :: x1 :: x2 :: x3 :: x4 :: some (.int x) :: r) st) : E G M d Q h n mc ms pc (x0 :: x1 :: x2 :: x3 :: x4 :: x5 :: r) (.int x :: st) := ez_istore' hd hn rfl (Or.inr ⟨x4, rfl, hc1⟩) hq k
theorem ez_istore_6 {G : ez_G} {M : ez_M} {d : Nat} {Q : ez_Q} {h : ez_H} {n mc ms pc q : Nat} {st : List Value} {x0 x1 x2 x3 x4 x5 x6 : Option Value} {r : List (Option Value)} {x : Int32} (hd : decode M.2.1 pc = .ok (.istore 6, 2)) (hn : 6 < M.2.2.1) (hc1 : ez_c1 x5 = true) (hq : pc + 2 = q) (k : E G M d Q h n mc ms q (x0 :: x1 :: x2 :: x3 :: x4 :: x5 :: some (.int x) :: r) st) : E G M d Q h n mc ms pc (x0 :: x1 :: x2 :: x3 :: x4 :: x5 :: x6 :: r) (.int x :: st) := ez_istore' hd hn rfl (Or.inr ⟨x5, rfl, hc1⟩) hq k
theorem ez_istore_7 {G : ez_G} {M : ez_M} {d : Nat} {Q : ez_Q} {h : ez_H} {n mc ms pc q : Nat} {st : List Value} {x0 x1 x2 x3 x4 x5 x6 x7 : Option Value} {r : List (Option Value)} {x : Int32} (hd : decode M.2.1 pc = .ok (.istore 7, 2)) (hn : 7 < M.2.2.1) (hc1 : ez_c1 x6 = true) (hq : pc + 2 = q) (k : E G M d Q h n mc ms q (x0 :: x1 :: x2 :: x3 :: x4 :: x5 :: x6 :: some (.int x) :: r) st) : E G M d Q h n mc ms pc (x0 :: x1 :: x2 :: x3 :: x4 :: x5 :: x6 :: x7 :: r) (.int x :: st) := ez_istore' hd hn rfl (Or.inr ⟨x6, rfl, hc1⟩) hq k
theorem ez_istore_8 {G : ez_G} {M : ez_M} {d : Nat} {Q : ez_Q} {h : ez_H} {n mc ms pc q : Nat} {st : List Value} {x0 x1 x2 x3 x4 x5 x6 x7 x8 : Option Value} {r : List (Option Value)} {x : Int32} (hd : decode M.2.1 pc = .ok (.istore 8, 2)) (hn : 8 < M.2.2.1) (hc1 : ez_c1 x7 = true) (hq : pc + 2 = q) (k : E G M d Q h n mc ms q (x0 :: x1 :: x2 :: x3 :: x4 :: x5 :: x6 :: x7 :: some (.int x) :: r) st) : E G M d Q h n mc ms pc (x0 :: x1 :: x2 :: x3 :: x4 :: x5 :: x6 :: x7 :: x8 :: r) (.int x :: st) := ez_istore' hd hn rfl (Or.inr ⟨x7, rfl, hc1⟩) hq k
theorem ez_istore_9 {G : ez_G} {M : ez_M} {d : Nat} {Q : ez_Q} {h : ez_H} {n mc ms pc q : Nat} {st : List Value} {x0 x1 x2 x3 x4 x5 x6 x7 x8 x9 : Option Value} {r : List (Option Value)} {x : Int32} (hd : decode M.2.1 pc = .ok (.istore 9, 2)) (hn : 9 < M.2.2.1) (hc1 : ez_c1 x8 = true) (hq : pc + 2 = q) (k : E G M d Q h n mc ms q (x0 :: x1 :: x2 :: x3 :: x4 :: x5 :: x6 :: x7 :: x8 :: some (.int x) :: r) st) : E G M d Q h n mc ms pc (x0 :: x1 :: x2 :: x3 :: x4 :: x5 :: x6 :: x7 :: x8 :: x9 :: r) (.int x :: st) := ez_istore' hd hn rfl (Or.inr ⟨x8, rfl, hc1⟩) hq k
theorem ez_istore_10 {G : ez_G} {M : ez_M} {d : Nat} {Q : ez_Q} {h : ez_H} {n mc ms pc q : Nat} {st : List Value} {x0 x1 x2 x3 x4 x5 x6 x7 x8 x9 x10 : Option Value} {r : List (Option Value)} {x : Int32} (hd : decode M.2.1 pc = .ok (.istore 10, 2)) (hn : 10 < M.2.2.1) (hc1 : ez_c1 x9 = true) (hq : pc + 2 = q) (k : E G M d Q h n mc ms q (x0 :: x1 :: x2 :: x3 :: x4 :: x5 :: x6 :: x7 :: x8 :: x9 :: some (.int x) :: r) st) : E G M d Q h n mc ms pc (x0 :: x1 :: x2 :: x3 :: x4 :: x5 :: x6 :: x7 :: x8 :: x9 :: x10 :: r) (.int x :: st) := ez_istore' hd hn rfl (Or.inr ⟨x9, rfl, hc1⟩) hq k
theorem ez_istore_11 {G : ez_G} {M : ez_M} {d : Nat} {Q : ez_Q} {h : ez_H} {n mc ms pc q : Nat} {st : List Value} {x0 x1 x2 x3 x4 x5 x6 x7 x8 x9 x10 x11 : Option Value} {r : List (Option Value)} {x : Int32} (hd : decode M.2.1 pc = .ok (.istore 11, 2)) (hn : 11 < M.2.2.1) (hc1 : ez_c1 x10 = true) (hq : pc + 2 = q) (k : E G M d Q h n mc ms q (x0 :: x1 :: x2 :: x3 :: x4 :: x5 :: x6 :: x7 :: x8 :: x9 :: x10 :: some (.int x) :: r) st) : E G M d Q h n mc ms pc (x0 :: x1 :: x2 :: x3 :: x4 :: x5 :: x6 :: x7 :: x8 :: x9 :: x10 :: x11 :: r) (.int x :: st) := ez_istore' hd hn rfl (Or.inr ⟨x10, rfl, hc1⟩) hq k
theorem ez_astore_0 {G : ez_G} {M : ez_M} {d : Nat} {Q : ez_Q} {h : ez_H} {n mc ms pc q : Nat} {st : List Value} {x0 : Option Value} {r : List (Option Value)} {x : Nat} {f : Fin 4} (hd : decode M.2.1 pc = .ok (.astore_n f, 1)) (hi : (f : Nat) = 0) (hn : 0 < M.2.2.1) (hq : pc + 1 = q) (k : E G M d Q h n mc ms q (some (.ref x) :: r) st) : E G M d Q h n mc ms pc (x0 :: r) (.ref x :: st) := ez_astore_n' 0 hd hi hn rfl (Or.inl rfl) hq k
theorem ez_astore_1 {G : ez_G} {M : ez_M} {d : Nat} {Q : ez_Q} {h : ez_H} {n mc ms pc q : Nat} {st : List Value} {x0 x1 : Option Value} {r : List (Option Value)} {x : Nat} {f : Fin 4} (hd : decode M.2.1 pc = .ok (.astore_n f, 1)) (hi : (f : Nat) = 1) (hn : 1 < M.2.2.1) (hc1 : ez_c1 x0 = true) (hq : pc + 1 = q) (k : E G M d Q h n mc ms q (x0 :: some (.ref x) :: r) st) : E G M d Q h n mc ms pc (x0 :: x1 :: r) (.ref x :: st) := ez_astore_n' 1 hd hi hn rfl (Or.inr ⟨x0, rfl, hc1⟩) hq k
theorem ez_astore_2 {G : ez_G} {M : ez_M} {d : Nat} {Q : ez_Q} {h : ez_H} {n mc ms pc q : Nat} {st : List Value} {x0 x1 x2 : Option Value} {r : List (Option Value)} {x : Nat} {f : Fin 4} (hd : decode M.2.1 pc = .ok (.astore_n f, 1)) (hi : (f : Nat) = 2) (hn : 2 < M.2.2.1) (hc1 : ez_c1 x1 = true) (hq : pc + 1 = q) (k : E G M d Q h n mc ms q (x0 :: x1 :: some (.ref x) :: r) st) : E G M d Q h n mc ms pc (x0 :: x1 :: x2 :: r) (.ref x :: st) := ez_astore_n' 2 hd hi hn rfl (Or.inr ⟨x1, rfl, hc1⟩) hq k
theorem ez_astore_3 {G : ez_G} {M : ez_M} {d : Nat} {Q : ez_Q} {h : ez_H} {n mc ms pc q : Nat} {st : List Value} {x0 x1 x2 x3 : Option Value} {r : List (Option Value)} {x : Nat} {f : Fin 4} (hd : decode M.2.1 pc = .ok (.astore_n f, 1)) (hi : (f : Nat) = 3) (hn : 3 < M.2.2.1) (hc1 : ez_c1 x2 = true) (hq : pc + 1 = q) (k : E G M d Q h n mc ms q (x0 :: x1 :: x2 :: some (.ref x) :: r) st) : E G M d Q h n mc ms pc (x0 :: x1 :: x2 :: x3 :: r) (.ref x :: st) := ez_astore_n' 3 hd hi hn rfl (Or.inr ⟨x2, rfl, hc1⟩) hq k
theorem ez_astore_4 {G : ez_G} {M : ez_M} {d : Nat} {Q : ez_Q} {h : ez_H} {n mc ms pc q : Nat} {st : List Value} {x0 x1 x2 x3 x4 : Option Value} {r : List (Option Value)} {x : Nat} (hd : decode M.2.1 pc = .ok (.astore 4, 2)) (hn : 4 < M.2.2.1) (hc1 : ez_c1 x3 = true) (hq : pc + 2 = q) (k : E G M d Q h n mc ms q (x0 :: x1 :: x2 :: x3 :: some (.ref x) :: r) st) : E G M d Q h n mc ms pc (x0 :: x1 :: x2 :: x3 :: x4 :: r) (.ref x :: st) := ez_astore' hd hn rfl (Or.inr ⟨x3, rfl, hc1⟩) hq k
theorem ez_astore_5 {G : ez_G} {M : ez_M} {d : Nat} {Q : ez_Q} {h : ez_H} {n mc ms pc q : Nat} {st : List Value} {x0 x1 x2 x3 x4 x5 : Option Value} {r : List (Option Value)} {x : Nat} (hd : decode M.2.1 pc = .ok (.astore 5, 2)) (hn : 5 < M.2.2.1) (hc1 : ez_c1 x4 = true) (hq : pc + 2 = q) (k : E G M d Q h n mc ms q (x0 :: x1 :: x2 :: x3 :: x4 :: some (.ref x) :: r) st) : E G M d Q h n mc ms pc (x0 :: x1 :: x2 :: x3 :: x4 :: x5 :: r) (.ref x :: st) := ez_astore' hd hn rfl (Or.inr ⟨x4, rfl, hc1⟩) hq k
theorem ez_astore_6 {G : ez_G} {M : ez_M} {d : Nat} {Q : ez_Q} {h : ez_H} {n mc ms pc q : Nat} {st : List Value} {x0 x1 x2 x3 x4 x5 x6 : Option Value} {r : List (Option Value)} {x : Nat} (hd : decode M.2.1 pc = .ok (.astore 6, 2)) (hn : 6 < M.2.2.1) (hc1 : ez_c1 x5 = true) (hq : pc + 2 = q) (k : E G M d Q h n mc ms q (x0 :: x1 :: x2 :: x3 :: x4 :: x5 :: some (.ref x) :: r) st) : E G M d Q h n mc ms pc (x0 :: x1 :: x2 :: x3 :: x4 :: x5 :: x6 :: r) (.ref x :: st) := ez_astore' hd hn rfl (Or.inr ⟨x5, rfl, hc1⟩) hq k
theorem ez_astore_7 {G : ez_G} {M : ez_M} {d : Nat} {Q : ez_Q} {h : ez_H} {n mc ms pc q : Nat} {st : List Value} {x0 x1 x2 x3 x4 x5 x6 x7 : Option Value} {r : List (Option Value)} {x : Nat} (hd : decode M.2.1 pc = .ok (.astore 7, 2)) (hn : 7 < M.2.2.1) (hc1 : ez_c1 x6 = true) (hq : pc + 2 = q) (k : E G M d Q h n mc ms q (x0 :: x1 :: x2 :: x3 :: x4 :: x5 :: x6 :: some (.ref x) :: r) st) : E G M d Q h n mc ms pc (x0 :: x1 :: x2 :: x3 :: x4 :: x5 :: x6 :: x7 :: r) (.ref x :: st) := ez_astore' hd hn rfl (Or.inr ⟨x6, rfl, hc1⟩) hq k
theorem ez_astore_8 {G : ez_G} {M : ez_M} {d : Nat} {Q : ez_Q} {h : ez_H} {n mc ms pc q : Nat} {st : List Value} {x0 x1 x2 x3 x4 x5 x6 x7 x8 : Option Value} {r : List (Option Value)} {x : Nat} (hd : decode M.2.1 pc = .ok (.astore 8, 2)) (hn : 8 < M.2.2.1) (hc1 : ez_c1 x7 = true) (hq : pc + 2 = q) (k : E G M d Q h n mc ms q (x0 :: x1 :: x2 :: x3 :: x4 :: x5 :: x6 :: x7 :: some (.ref x) :: r) st) : E G M d Q h n mc ms pc (x0 :: x1 :: x2 :: x3 :: x4 :: x5 :: x6 :: x7 :: x8 :: r) (.ref x :: st) := ez_astore' hd hn rfl (Or.inr ⟨x7, rfl, hc1⟩) hq k
theorem ez_astore_9 {G : ez_G} {M : ez_M} {d : Nat} {Q : ez_Q} {h : ez_H} {n mc ms pc q : Nat} {st : List Value} {x0 x1 x2 x3 x4 x5 x6 x7 x8 x9 : Option Value} {r : List (Option Value)} {x : Nat} (hd : decode M.2.1 pc = .ok (.astore 9, 2)) (hn : 9 < M.2.2.1) (hc1 : ez_c1 x8 = true) (hq : pc + 2 = q) (k : E G M d Q h n mc ms q (x0 :: x1 :: x2 :: x3 :: x4 :: x5 :: x6 :: x7 :: x8 :: some (.ref x) :: r) st) : E G M d Q h n mc ms pc (x0 :: x1 :: x2 :: x3 :: x4 :: x5 :: x6 :: x7 :: x8 :: x9 :: r) (.ref x :: st) := ez_astore' hd hn rfl (Or.inr ⟨x8, rfl, hc1⟩) hq k
theorem ez_astore_10 {G : ez_G} {M : ez_M} {d : Nat} {Q : ez_Q} {h : ez_H} {n mc ms pc q : Nat} {st : List Value} {x0 x1 x2 x3 x4 x5 x6 x7 x8 x9 x10 : Option Value} {r : List (Option Value)} {x : Nat} (hd : decode M.2.1 pc = .ok (.astore 10, 2)) (hn : 10 < M.2.2.1) (hc1 : ez_c1 x9 = true) (hq : pc + 2 = q) (k : E G M d Q h n mc ms q (x0 :: x1 :: x2 :: x3 :: x4 :: x5 :: x6 :: x7 :: x8 :: x9 :: some (.ref x) :: r) st) : E G M d Q h n mc ms pc (x0 :: x1 :: x2 :: x3 :: x4 :: x5 :: x6 :: x7 :: x8 :: x9 :: x10 :: r) (.ref x :: st) := ez_astore' hd hn rfl (Or.inr ⟨x9, rfl, hc1⟩) hq k
theorem ez_astore_11 {G : ez_G} {M : ez_M} {d : Nat} {Q : ez_Q} {h : ez_H} {n mc ms pc q : Nat} {st : List Value} {x0 x1 x2 x3 x4 x5 x6 x7 x8 x9 x10 x11 : Option Value} {r : List (Option Value)} {x : Nat} (hd : decode M.2.1 pc = .ok (.astore 11, 2)) (hn : 11 < M.2.2.1) (hc1 : ez_c1 x10 = true) (hq : pc + 2 = q) (k : E G M d Q h n mc ms q (x0 :: x1 :: x2 :: x3 :: x4 :: x5 :: x6 :: x7 :: x8 :: x9 :: x10 :: some (.ref x) :: r) st) : E G M d Q h n mc ms pc (x0 :: x1 :: x2 :: x3 :: x4 :: x5 :: x6 :: x7 :: x8 :: x9 :: x10 :: x11 :: r) (.ref x :: st) := ez_astore' hd hn rfl (Or.inr ⟨x10, rfl, hc1⟩) hq k
theorem ez_lstore_0 {G : ez_G} {M : ez_M} {d : Nat} {Q : ez_Q} {h : ez_H} {n mc ms pc q : Nat} {st : List Value} {x0 x1 : Option Value} {r : List (Option Value)} {x : Int64} {f : Fin 4} (hd : decode M.2.1 pc = .ok (.lstore_n f, 1)) (hi : (f : Nat) = 0) (hn : 0 + 1 < M.2.2.1) (hq : pc + 1 = q) (k : E G M d Q h n mc ms q (some (.long x) :: none :: r) st) : E G M d Q h n mc ms pc (x0 :: x1 :: r) (.long x :: st) := ez_lstore_n' 0 hd hi hn rfl (Or.inl rfl) hq k
theorem ez_lstore_1 {G : ez_G} {M : ez_M} {d : Nat} {Q : ez_Q} {h : ez_H} {n mc ms pc q : Nat} {st : List Value} {x0 x1 x2 : Option Value} {r : List (Option Value)} {x : Int64} {f : Fin 4} (hd : decode M.2.1 pc = .ok (.lstore_n f, 1)) (hi : (f : Nat) = 1) (hn : 1 + 1 < M.2.2.1) (hc1 : ez_c1 x0 = true) (hq : pc + 1 = q) (k : E G M d Q h n mc ms q (x0 :: some (.long x) :: none :: r) st) : E G M d Q h n mc ms pc (x0 :: x1 :: x2 :: r) (.long x :: st) := ez_lstore_n' 1 hd hi hn rfl (Or.inr ⟨x0, rfl, hc1⟩) hq k
theorem ez_lstore_2 {G : ez_G} {M : ez_M} {d : Nat} {Q : ez_Q} {h : ez_H} {n mc ms pc q : Nat} {st : List Value} {x0 x1 x2 x3 : Option Value} {r : List (Option Value)} {x : Int64} {f : Fin 4} (hd : decode M.2.1 pc = .ok (.lstore_n f, 1)) (hi : (f : Nat) = 2) (hn : 2 + 1 < M.2.2.1) (hc1 : ez_c1 x1 = true) (hq : pc + 1 = q) (k : E G M d Q h n mc ms q (x0 :: x1 :: some (.long x) :: none :: r) st) : E G M d Q h n mc ms pc (x0 :: x1 :: x2 :: x3 :: r) (.long x :: st) := ez_lstore_n' 2 hd hi hn rfl (Or.inr ⟨x1, rfl, hc1⟩) hq k
theorem ez_lstore_3 {G : ez_G} {M : ez_M} {d : Nat} {Q : ez_Q} {h : ez_H} {n mc ms pc q : Nat} {st : List Value} {x0 x1 x2 x3 x4 : Option Value} {r : List (Option Value)} {x : Int64} {f : Fin 4} (hd : decode M.2.1 pc = .ok (.lstore_n f, 1)) (hi : (f : Nat) = 3) (hn : 3 + 1 < M.2.2.1) (hc1 : ez_c1 x2 = true) (hq : pc + 1 = q) (k : E G M d Q h n mc ms q (x0 :: x1 :: x2 :: some (.long x) :: none :: r) st) : E G M d Q h n mc ms pc (x0 :: x1 :: x2 :: x3 :: x4 :: r) (.long x :: st) := ez_lstore_n' 3 hd hi hn rfl (Or.inr ⟨x2, rfl, hc1⟩) hq k
theorem ez_lstore_4 {G : ez_G} {M : ez_M} {d : Nat} {Q : ez_Q} {h : ez_H} {n mc ms pc q : Nat} {st : List Value} {x0 x1 x2 x3 x4 x5 : Option Value} {r : List (Option Value)} {x : Int64} (hd : decode M.2.1 pc = .ok (.lstore 4, 2)) (hn : 4 + 1 < M.2.2.1) (hc1 : ez_c1 x3 = true) (hq : pc + 2 = q) (k : E G M d Q h n mc ms q (x0 :: x1 :: x2 :: x3 :: some (.long x) :: none :: r) st) : E G M d Q h n mc ms pc (x0 :: x1 :: x2 :: x3 :: x4 :: x5 :: r) (.long x :: st) := ez_lstore' hd hn rfl (Or.inr ⟨x3, rfl, hc1⟩) hq k
theorem ez_lstore_5 {G : ez_G} {M : ez_M} {d : Nat} {Q : ez_Q} {h : ez_H} {n mc ms pc q : Nat} {st : List Value} {x0 x1 x2 x3 x4 x5 x6 : Option Value} {r : List (Option Value)} {x : Int64} (hd : decode M.2.1 pc = .ok (.lstore 5, 2)) (hn : 5 + 1 < M.2.2.1) (hc1 : ez_c1 x4 = true) (hq : pc + 2 = q) (k : E G M d Q h n mc ms q (x0 :: x1 :: x2 :: x3 :: x4 :: some (.long x) :: none :: r) st) : E G M d Q h n mc ms pc (x0 :: x1 :: x2 :: x3 :: x4 :: x5 :: x6 :: r) (.long x :: st) := ez_lstore' hd hn rfl (Or.inr ⟨x4, rfl, hc1⟩) hq k
theorem ez_lstore_6 {G : ez_G} {M : ez_M} {d : Nat} {Q : ez_Q} {h : ez_H} {n mc ms pc q : Nat} {st : List Value} {x0 x1 x2 x3 x4 x5 x6 x7 : Option Value} {r : List (Option Value)} {x : Int64} (hd : decode M.2.1 pc = .ok (.lstore 6, 2)) (hn : 6 + 1 < M.2.2.1) (hc1 : ez_c1 x5 = true) (hq : pc + 2 = q) (k : E G M d Q h n mc ms q (x0 :: x1 :: x2 :: x3 :: x4 :: x5 :: some (.long x) :: none :: r) st) : E G M d Q h n mc ms pc (x0 :: x1 :: x2 :: x3 :: x4 :: x5 :: x6 :: x7 :: r) (.long x :: st) := ez_lstore' hd hn rfl (Or.inr ⟨x5, rfl, hc1⟩) hq k
theorem ez_lstore_7 {G : ez_G} {M : ez_M} {d : Nat} {Q : ez_Q} {h : ez_H} {n mc ms pc q : Nat} {st : List Value} {x0 x1 x2 x3 x4 x5 x6 x7 x8 : Option Value} {r : List (Option Value)} {x : Int64} (hd : decode M.2.1 pc = .ok (.lstore 7, 2)) (hn : 7 + 1 < M.2.2.1) (hc1 : ez_c1 x6 = true) (hq : pc + 2 = q) (k : E G M d Q h n mc ms q (x0 :: x1 :: x2 :: x3 :: x4 :: x5 :: x6 :: some (.long x) :: none :: r) st) : E G M d Q h n mc ms pc (x0 :: x1 :: x2 :: x3 :: x4 :: x5 :: x6 :: x7 :: x8 :: r) (.long x :: st) := ez_lstore' hd hn rfl (Or.inr ⟨x6, rfl, hc1⟩) hq k
theorem ez_lstore_8 {G : ez_G} {M : ez_M} {d : Nat} {Q : ez_Q} {h : ez_H} {n mc ms pc q : Nat} {st : List Value} {x0 x1 x2 x3 x4 x5 x6 x7 x8 x9 : Option Value} {r : List (Option Value)} {x : Int64} (hd : decode M.2.1 pc = .ok (.lstore 8, 2)) (hn : 8 + 1 < M.2.2.1) (hc1 : ez_c1 x7 = true) (hq : pc + 2 = q) (k : E G M d Q h n mc ms q (x0 :: x1 :: x2 :: x3 :: x4 :: x5 :: x6 :: x7 :: some (.long x) :: none :: r) st) : E G M d Q h n mc ms pc (x0 :: x1 :: x2 :: x3 :: x4 :: x5 :: x6 :: x7 :: x8 :: x9 :: r) (.long x :: st) := ez_lstore' hd hn rfl (Or.inr ⟨x7, rfl, hc1⟩) hq k
theorem ez_dstore_0 {G : ez_G} {M : ez_M} {d : Nat} {Q : ez_Q} {h : ez_H} {n mc ms pc q : Nat} {st : List Value} {x0 x1 : Option Value} {r : List (Option Value)} {x : UInt64} {f : Fin 4} (hd : decode M.2.1 pc = .ok (.dstore_n f, 1)) (hi : (f : Nat) = 0) (hn : 0 + 1 < M.2.2.1) (hq : pc + 1 = q) (k : E G M d Q h n mc ms q (some (.double x) :: none :: r) st) : E G M d Q h n mc ms pc (x0 :: x1 :: r) (.double x :: st) := ez_dstore_n' 0 hd hi hn rfl (Or.inl rfl) hq k
theorem ez_dstore_1 {G : ez_G} {M : ez_M} {d : Nat} {Q : ez_Q} {h : ez_H} {n mc ms pc q : Nat} {st : List Value} {x0 x1 x2 : Option Value} {r : List (Option Value)} {x : UInt64} {f : Fin 4} (hd : decode M.2.1 pc = .ok (.dstore_n f, 1)) (hi : (f : Nat) = 1) (hn : 1 + 1 < M.2.2.1) (hc1 : ez_c1 x0 = true) (hq : pc + 1 = q) (k : E G M d Q h n mc ms q (x0 :: some (.double x) :: none :: r) st) : E G M d Q h n mc ms pc (x0 :: x1 :: x2 :: r) (.double x :: st) := ez_dstore_n' 1 hd hi hn rfl (Or.inr ⟨x0, rfl, hc1⟩) hq k
theorem ez_dstore_2 {G : ez_G} {M : ez_M} {d : Nat} {Q : ez_Q} {h : ez_H} {n mc ms pc q : Nat} {st : List Value} {x0 x1 x2 x3 : Option Value} {r : List (Option Value)} {x : UInt64} {f : Fin 4} (hd : decode M.2.1 pc = .ok (.dstore_n f, 1)) (hi : (f : Nat) = 2) (hn : 2 + 1 < M.2.2.1) (hc1 : ez_c1 x1 = true) (hq : pc + 1 = q) (k : E G M d Q h n mc ms q (x0 :: x1 :: some (.double x) :: none :: r) st) : E G M d Q h n mc ms pc (x0 :: x1 :: x2 :: x3 :: r) (.double x :: st) := ez_dstore_n' 2 hd hi hn rfl (Or.inr ⟨x1, rfl, hc1⟩) hq k
theorem ez_dstore_3 {G : ez_G} {M : ez_M} {d : Nat} {Q : ez_Q} {h : ez_H} {n mc ms pc q : Nat} {st : List Value} {x0 x1 x2 x3 x4 : Option Value} {r : List (Option Value)} {x : UInt64} {f : Fin 4} (hd : decode M.2.1 pc = .ok (.dstore_n f, 1)) (hi : (f : Nat) = 3) (hn : 3 + 1 < M.2.2.1) (hc1 : ez_c1 x2 = true) (hq : pc + 1 = q) (k : E G M d Q h n mc ms q (x0 :: x1 :: x2 :: some (.double x) :: none :: r) st) : E G M d Q h n mc ms pc (x0 :: x1 :: x2 :: x3 :: x4 :: r) (.double x :: st) := ez_dstore_n' 3 hd hi hn rfl (Or.inr ⟨x2, rfl, hc1⟩) hq k
theorem ez_dstore_4 {G : ez_G} {M : ez_M} {d : Nat} {Q : ez_Q} {h : ez_H} {n mc ms pc q : Nat} {st : List Value} {x0 x1 x2 x3 x4 x5 : Option Value} {r : List (Option Value)} {x : UInt64} (hd : decode M.2.1 pc = .ok (.dstore 4, 2)) (hn : 4 + 1 < M.2.2.1) (hc1 : ez_c1 x3 = true) (hq : pc + 2 = q) (k : E G M d Q h n mc ms q (x0 :: x1 :: x2 :: x3 :: some (.double x) :: none :: r) st) : E G M d Q h n mc ms pc (x0 :: x1 :: x2 :: x3 :: x4 :: x5 :: r) (.double x :: st) := ez_dstore' hd hn rfl (Or.inr ⟨x3, rfl, hc1⟩) hq k
theorem ez_dstore_5 {G : ez_G} {M : ez_M} {d : Nat} {Q : ez_Q} {h : ez_H} {n mc ms pc q : Nat} {st : List Value} {x0 x1 x2 x3 x4 x5 x6 : Option Value} {r : List (Option Value)} {x : UInt64} (hd : decode M.2.1 pc = .ok (.dstore 5, 2)) (hn : 5 + 1 < M.2.2.1) (hc1 : ez_c1 x4 = true) (hq : pc + 2 = q) (k : E G M d Q h n mc ms q (x0 :: x1 :: x2 :: x3 :: x4 :: some (.double x) :: none :: r) st) : E G M d Q h n mc ms pc (x0 :: x1 :: x2 :: x3 :: x4 :: x5 :: x6 :: r) (.double x :: st) := ez_dstore' hd hn rfl (Or.inr ⟨x4, rfl, hc1⟩) hq k
theorem ez_dstore_6 {G : ez_G} {M : ez_M} {d : Nat} {Q : ez_Q} {h : ez_H} {n mc ms pc q : Nat} {st : List Value} {x0 x1 x2 x3 x4 x5 x6 x7 : Option Value} {r : List (Option Value)} {x : UInt64} (hd : decode M.2.1 pc = .ok (.dstore 6, 2)) (hn : 6 + 1 < M.2.2.1) (hc1 : ez_c1 x5 = true) (hq : pc + 2 = q) (k : E G M d Q h n mc ms q (x0 :: x1 :: x2 :: x3 :: x4 :: x5 :: some (.double x) :: none :: r) st) : E G M d Q h n mc ms pc (x0 :: x1 :: x2 :: x3 :: x4 :: x5 :: x6 :: x7 :: r) (.double x :: st) := ez_dstore' hd hn rfl (Or.inr ⟨x5, rfl, hc1⟩) hq k
theorem ez_dstore_7 {G : ez_G} {M : ez_M} {d : Nat} {Q : ez_Q} {h : ez_H} {n mc ms pc q : Nat} {st : List Value} {x0 x1 x2 x3 x4 x5 x6 x7 x8 : Option Value} {r : List (Option Value)} {x : UInt64} (hd : decode M.2.1 pc = .ok (.dstore 7, 2)) (hn : 7 + 1 < M.2.2.1) (hc1 : ez_c1 x6 = true) (hq : pc + 2 = q) (k : E G M d Q h n mc ms q (x0 :: x1 :: x2 :: x3 :: x4 :: x5 :: x6 :: some (.double x) :: none :: r) st) : E G M d Q h n mc ms pc (x0 :: x1 :: x2 :: x3 :: x4 :: x5 :: x6 :: x7 :: x8 :: r) (.double x :: st) := ez_dstore' hd hn rfl (Or.inr ⟨x6, rfl, hc1⟩) hq k
theorem ez_dstore_8 {G : ez_G} {M : ez_M} {d : Nat} {Q : ez_Q} {h : ez_H} {n mc ms pc q : Nat} {st : List Value} {x0 x1 x2 x3 x4 x5 x6 x7 x8 x9 : Option Value} {r : List (Option Value)} {x : UInt64} (hd : decode M.2.1 pc = .ok (.dstore 8, 2)) (hn : 8 + 1 < M.2.2.1) (hc1 : ez_c1 x7 = true) (hq : pc + 2 = q) (k : E G M d Q h n mc ms q (x0 :: x1 :: x2 :: x3 :: x4 :: x5 :: x6 :: x7 :: some (.double x) :: none :: r) st) : E G M d Q h n mc ms pc (x0 :: x1 :: x2 :: x3 :: x4 :: x5 :: x6 :: x7 :: x8 :: x9 :: r) (.double x :: st) := ez_dstore' hd hn rfl (Or.inr ⟨x7, rfl, hc1⟩) hq k
theorem ez_iinc_0 {G : ez_G} {M : ez_M} {d : Nat} {Q : ez_Q} {h : ez_H} {n mc ms pc q : Nat} {st : List Value} {r : List (Option Value)} {x v : Int32} {z : Int} (hd : decode M.2.1 pc = .ok (.iinc 0 z, 3)) (hv : x + Int32.ofInt z = v) (hn : 0 < M.2.2.1) (hq : pc + 3 = q) (k : E G M d Q h n mc ms q (some (.int v) :: r) st) : E G M d Q h n mc ms pc (some (.int x) :: r) st := ez_iinc' hd rfl hv hn rfl (Or.inl rfl) hq k
theorem ez_iinc_1 {G : ez_G} {M : ez_M} {d : Nat} {Q : ez_Q} {h : ez_H} {n mc ms pc q : Nat} {st : List Value} {x0 : Option Value} {r : List (Option Value)} {x v : Int32} {z : Int} (hd : decode M.2.1 pc = .ok (.iinc 1 z, 3)) (hv : x + Int32.ofInt z = v) (hn : 1 < M.2.2.1) (hc1 : ez_c1 x0 = true) (hq : pc + 3 = q) (k : E G M d Q h n mc ms q (x0 :: some (.int v) :: r) st) : E G M d Q h n mc ms pc (x0 :: some (.int x) :: r) st := ez_iinc' hd rfl hv hn rfl (Or.inr ⟨x0, rfl, hc1⟩) hq k
theorem ez_iinc_2 {G : ez_G} {M : ez_M} {d : Nat} {Q : ez_Q} {h : ez_H} {n mc ms pc q : Nat} {st : List Value} {x0 x1 : Option Value} {r : List (Option Value)} {x v : Int32} {z : Int} (hd : decode M.2.1 pc = .ok (.iinc 2 z, 3)) (hv : x + Int32.ofInt z = v) (hn : 2 < M.2.2.1) (hc1 : ez_c1 x1 = true) (hq : pc + 3 = q) (k : E G M d Q h n mc ms q (x0 :: x1 :: some (.int v) :: r) st) : E G M d Q h n mc ms pc (x0 :: x1 :: some (.int x) :: r) st := ez_iinc' hd rfl hv hn rfl (Or.inr ⟨x1, rfl, hc1⟩) hq k
theorem ez_iinc_3 {G : ez_G} {M : ez_M} {d : Nat} {Q : ez_Q} {h : ez_H} {n mc ms pc q : Nat} {st : List Value} {x0 x1 x2 : Option Value} {r : List (Option Value)} {x v : Int32} {z : Int} (hd : decode M.2.1 pc = .ok (.iinc 3 z, 3)) (hv : x + Int32.ofInt z = v) (hn : 3 < M.2.2.1) (hc1 : ez_c1 x2 = true) (hq : pc + 3 = q) (k : E G M d Q h n mc ms q (x0 :: x1 :: x2 :: some (.int v) :: r) st) : E G M d Q h n mc ms pc (x0 :: x1 :: x2 :: some (.int x) :: r) st := ez_iinc' hd rfl hv hn rfl (Or.inr ⟨x2, rfl, hc1⟩) hq k
theorem ez_iinc_4 {G : ez_G} {M : ez_M} {d : Nat} {Q : ez_Q} {h : ez_H} {n mc ms pc q : Nat} {st : List Value} {x0 x1 x2 x3 : Option Value} {r : List (Option Value)} {x v : Int32} {z : Int} (hd : decode M.2.1 pc = .ok (.iinc 4 z, 3)) (hv : x + Int32.ofInt z = v) (hn : 4 < M.2.2.1) (hc1 : ez_c1 x3 = true) (hq : pc + 3 = q) (k : E G M d Q h n mc ms q (x0 :: x1 :: x2 :: x3 :: some (.int v) :: r) st) : E G M d Q h n mc ms pc (x0 :: x1 :: x2 :: x3 :: some (.int x) :: r) st := ez_iinc' hd rfl hv hn rfl (Or.inr ⟨x3, rfl, hc1⟩) hq k
theorem ez_iinc_5 {G : ez_G} {M : ez_M} {d : Nat} {Q : ez_Q} {h : ez_H} {n mc ms pc q : Nat} {st : List Value} {x0 x1 x2 x3 x4 : Option Value} {r : List (Option Value)} {x v : Int32} {z : Int} (hd : decode M.2.1 pc = .ok (.iinc 5 z, 3)) (hv : x + Int32.ofInt z = v) (hn : 5 < M.2.2.1) (hc1 : ez_c1 x4 = true) (hq : pc + 3 = q) (k : E G M d Q h n mc ms q (x0 :: x1 :: x2 :: x3 :: x4 :: some (.int v) :: r) st) : E G M d Q h n mc ms pc (x0 :: x1 :: x2 :: x3 :: x4 :: some (.int x) :: r) st := ez_iinc' hd rfl hv hn rfl (Or.inr ⟨x4, rfl, hc1⟩) hq k
theorem ez_iinc_6 {G : ez_G} {M : ez_M} {d : Nat} {Q : ez_Q} {h : ez_H} {n mc ms pc q : Nat} {st : List Value} {x0 x1 x2 x3 x4 x5 : Option Value} {r : List (Option Value)} {x v : Int32} {z : Int} (hd : decode M.2.1 pc = .ok (.iinc 6 z, 3)) (hv : x + Int32.ofInt z = v) (hn : 6 < M.2.2.1) (hc1 : ez_c1 x5 = true) (hq : pc + 3 = q) (k : E G M d Q h n mc ms q (x0 :: x1 :: x2 :: x3 :: x4 :: x5 :: some (.int v) :: r) st) : E G M d Q h n mc ms pc (x0 :: x1 :: x2 :: x3 :: x4 :: x5 :: some (.int x) :: r) st := ez_iinc' hd rfl hv hn rfl (Or.inr ⟨x5, rfl, hc1⟩) hq k
theorem ez_iinc_7 {G : ez_G} {M : ez_M} {d : Nat} {Q : ez_Q} {h : ez_H} {n mc ms pc q : Nat} {st : List Value} {x0 x1 x2 x3 x4 x5 x6 : Option Value} {r : List (Option Value)} {x v : Int32} {z : Int} (hd : decode M.2.1 pc = .ok (.iinc 7 z, 3)) (hv : x + Int32.ofInt z = v) (hn : 7 < M.2.2.1) (hc1 : ez_c1 x6 = true) (hq : pc + 3 = q) (k : E G M d Q h n mc ms q (x0 :: x1 :: x2 :: x3 :: x4 :: x5 :: x6 :: some (.int v) :: r) st) : E G M d Q h n mc ms pc (x0 :: x1 :: x2 :: x3 :: x4 :: x5 :: x6 :: some (.int x) :: r) st := ez_iinc' hd rfl hv hn rfl (Or.inr ⟨x6, rfl, hc1⟩) hq k
theorem ez_iinc_8 {G : ez_G} {M : ez_M} {d : Nat} {Q : ez_Q} {h : ez_H} {n mc ms pc q : Nat} {st : List Value} {x0 x1 x2 x3 x4 x5 x6 x7 : Option Value} {r : List (Option Value)} {x v : Int32} {z : Int} (hd : decode M.2.1 pc = .ok (.iinc 8 z, 3)) (hv : x + Int32.ofInt z = v) (hn : 8 < M.2.2.1) (hc1 : ez_c1 x7 = true) (hq : pc + 3 = q) (k : E G M d Q h n mc ms q (x0 :: x1 :: x2 :: x3 :: x4 :: x5 :: x6 :: x7 :: some (.int v) :: r) st) : E G M d Q h n mc ms pc (x0 :: x1 :: x2 :: x3 :: x4 :: x5 :: x6 :: x7 :: some (.int x) :: r) st := ez_iinc' hd rfl hv hn rfl (Or.inr ⟨x7, rfl, hc1⟩) hq k
theorem ez_iinc_9 {G : ez_G} {M : ez_M} {d : Nat} {Q : ez_Q} {h : ez_H} {n mc ms pc q : Nat} {st : List Value} {x0 x1 x2 x3 x4 x5 x6 x7 x8 : Option Value} {r : List (Option Value)} {x v : Int32} {z : Int} (hd : decode M.2.1 pc = .ok (.iinc 9 z, 3)) (hv : x + Int32.ofInt z = v) (hn : 9 < M.2.2.1) (hc1 : ez_c1 x8 = true) (hq : pc + 3 = q) (k : E G M d Q h n mc ms q (x0 :: x1 :: x2 :: x3 :: x4 :: x5 :: x6 :: x7 :: x8 :: some (.int v) :: r) st) : E G M d Q h n mc ms pc (x0 :: x1 :: x2 :: x3 :: x4 :: x5 :: x6 :: x7 :: x8 :: some (.int x) :: r) st := ez_iinc' hd rfl hv hn rfl (Or.inr ⟨x8, rfl, hc1⟩) hq k
theorem ez_iinc_10 {G : ez_G} {M : ez_M} {d : Nat} {Q : ez_Q} {h : ez_H} {n mc ms pc q : Nat} {st : List Value} {x0 x1 x2 x3 x4 x5 x6 x7 x8 x9 : Option Value} {r : List (Option Value)} {x v : Int32} {z : Int} (hd : decode M.2.1 pc = .ok (.iinc 10 z, 3)) (hv : x + Int32.ofInt z = v) (hn : 10 < M.2.2.1) (hc1 : ez_c1 x9 = true) (hq : pc + 3 = q) (k : E G M d Q h n mc ms q (x0 :: x1 :: x2 :: x3 :: x4 :: x5 :: x6 :: x7 :: x8 :: x9 :: some (.int v) :: r) st) : E G M d Q h n mc ms pc (x0 :: x1 :: x2 :: x3 :: x4 :: x5 :: x6 :: x7 :: x8 :: x9 :: some (.int x) :: r) st := ez_iinc' hd rfl hv hn rfl (Or.inr ⟨x9, rfl, hc1⟩) hq k
theorem ez_iinc_11 {G : ez_G} {M : ez_M} {d : Nat} {Q : ez_Q} {h : ez_H} {n mc ms pc q : Nat} {st : List Value} {x0 x1 x2 x3 x4 x5 x6 x7 x8 x9 x10 : Option Value} {r : List (Option Value)} {x v : Int32} {z : Int} (hd : decode M.2.1 pc = .ok (.iinc 11 z, 3)) (hv : x + Int32.ofInt z = v) (hn : 11 < M.2.2.1) (hc1 : ez_c1 x10 = true) (hq : pc + 3 = q) (k : E G M d Q h n mc ms q (x0 :: x1 :: x2 :: x3 :: x4 :: x5 :: x6 :: x7 :: x8 :: x9 :: x10 :: some (.int v) :: r) st) : E G M d Q h n mc ms pc (x0 :: x1 :: x2 :: x3 :: x4 :: x5 :: x6 :: x7 :: x8 :: x9 :: x10 :: some (.int x) :: r) st := ez_iinc' hd rfl hv hn rfl (Or.inr ⟨x10, rfl, hc1⟩) hq k
theorem ez_iadd {G : ez_G} {M : ez_M} {d : Nat} {Q : ez_Q} {h : ez_H} {n mc ms pc q : Nat} {ls : List (Option Value)} {st : List Value} {x y : Int32} (hd : decode M.2.1 pc = .ok (.iadd, 1))  (hq : pc + 1 = q) (k : E G M d Q h n mc ms q ls (.int (x + y) :: st)) : E G M d Q h n mc ms pc ls (.int y :: .int x :: st) := by
  subst hq
  intro p e R s m args below meth c H locs cells slots mt mS la X hR hS hL hc hs
  exact lv_iadd X.1 X.2.1 hd (k p e R s m args below meth c H locs cells slots mt mS la X hR hS hL hc hs)
theorem ez_isub {G : ez_G} {M : ez_M} {d : Nat} {Q : ez_Q} {h : ez_H} {n mc ms pc q : Nat} {ls : List (Option Value)} {st : List Value} {x y : Int32} (hd : decode M.2.1 pc = .ok (.isub, 1))  (hq : pc + 1 = q) (k : E G M d Q h n mc ms q ls (.int (x - y) :: st)) : E G M d Q h n mc ms pc ls (.int y :: .int x :: st) := by
  subst hq
  intro p e R s m args below meth c H locs cells slots mt mS la X hR hS hL hc hs
  exact lv_isub X.1 X.2.1 hd (k p e R s m args below meth c H locs cells slots mt mS la X hR hS hL hc hs)
theorem ez_imul {G : ez_G} {M : ez_M} {d : Nat} {Q : ez_Q} {h : ez_H} {n mc ms pc q : Nat} {ls : List (Option Value)} {st : List Value} {x y : Int32} (hd : decode M.2.1 pc = .ok (.imul, 1))  (hq : pc + 1 = q) (k : E G M d Q h n mc ms q ls (.int (x * y) :: st)) : E G M d Q h n mc ms pc ls (.int y :: .int x :: st) := by
  subst hq
  intro p e R s m args below meth c H locs cells slots mt mS la X hR hS hL hc hs
  exact lv_imul X.1 X.2.1 hd (k p e R s m args below meth c H locs cells slots mt mS la X hR hS hL hc hs)
theorem ez_iand {G : ez_G} {M : ez_M} {d : Nat} {Q : ez_Q} {h : ez_H} {n mc ms pc q : Nat} {ls : List (Option Value)} {st : List Value} {x y : Int32} (hd : decode M.2.1 pc = .ok (.iand, 1))  (hq : pc + 1 = q) (k : E G M d Q h n mc ms q ls (.int (x &&& y) :: st)) : E G M d Q h n mc ms pc ls (.int y :: .int x :: st) := by
  subst hq
  intro p e R s m args below meth c H locs cells slots mt mS la X hR hS hL hc hs
  exact lv_iand X.1 X.2.1 hd (k p e R s m args below meth c H locs cells slots mt mS la X hR hS hL hc hs)
theorem ez_ior {G : ez_G} {M : ez_M} {d : Nat} {Q : ez_Q} {h : ez_H} {n mc ms pc q : Nat} {ls : List (Option Value)} {st : List Value} {x y : Int32} (hd : decode M.2.1 pc = .ok (.ior, 1))  (hq : pc + 1 = q) (k : E G M d Q h n mc ms q ls (.int (x ||| y) :: st)) : E G M d Q h n mc ms pc ls (.int y :: .int x :: st) := by
  subst hq
  intro p e R s m args below meth c H locs cells slots mt mS la X hR hS hL hc hs
  exact lv_ior X.1 X.2.1 hd (k p e R s m args below meth c H locs cells slots mt mS la X hR hS hL hc hs)
theorem ez_ixor {G : ez_G} {M : ez_M} {d : Nat} {Q : ez_Q} {h : ez_H} {n mc ms pc q : Nat} {ls : List (Option Value)} {st : List Value} {x y : Int32} (hd : decode M.2.1 pc = .ok (.ixor, 1))  (hq : pc + 1 = q) (k : E G M d Q h n mc ms q ls (.int (x ^^^ y) :: st)) : E G M d Q h n mc ms pc ls (.int y :: .int x :: st) := by
  subst hq
  intro p e R s m args below meth c H locs cells slots mt mS la X hR hS hL hc hs
  exact lv_ixor X.1 X.2.1 hd (k p e R s m args below meth c H locs cells slots mt mS la X hR hS hL hc hs)
theorem ez_ishl {G : ez_G} {M : ez_M} {d : Nat} {Q : ez_Q} {h : ez_H} {n mc ms pc q : Nat} {ls : List (Option Value)} {st : List Value} {x y : Int32} (hd : decode M.2.1 pc = .ok (.ishl, 1))  (hq : pc + 1 = q) (k : E G M d Q h n mc ms q ls (.int (x <<< (y &&& 31)) :: st)) : E G M d Q h n mc ms pc ls (.int y :: .int x :: st) := by
  subst hq
  intro p e R s m args below meth c H locs cells slots mt mS la X hR hS hL hc hs
  exact lv_ishl X.1 X.2.1 hd (k p e R s m args below meth c H locs cells slots mt mS la X hR hS hL hc hs)
theorem ez_ishr {G : ez_G} {M : ez_M} {d : Nat} {Q : ez_Q} {h : ez_H} {n mc ms pc q : Nat} {ls : List (Option Value)} {st : List Value} {x y : Int32} (hd : decode M.2.1 pc = .ok (.ishr, 1))  (hq : pc + 1 = q) (k : E G M d Q h n mc ms q ls (.int (x >>> (y &&& 31)) :: st)) : E G M d Q h n mc ms pc ls (.int y :: .int x :: st) := by
  subst hq
  intro p e R s m args below meth c H locs cells slots mt mS la X hR hS hL hc hs
  exact lv_ishr X.1 X.2.1 hd (k p e R s m args below meth c H locs cells slots mt mS la X hR hS hL hc hs)
theorem ez_irem {G : ez_G} {M : ez_M} {d : Nat} {Q : ez_Q} {h : ez_H} {n mc ms pc q : Nat} {ls : List (Option Value)} {st : List Value} {x y : Int32} (hd : decode M.2.1 pc = .ok (.irem, 1)) (hne : ¬ y = 0) (hq : pc + 1 = q) (k : E G M d Q h n mc ms q ls (.int (x - x / y * y) :: st)) : E G M d Q h n mc ms pc ls (.int y :: .int x :: st) := by
  subst hq
  intro p e R s m args below meth c H locs cells slots mt mS la X hR hS hL hc hs
  exact lv_irem X.1 X.2.1 hd hne (k p e R s m args below meth c H locs cells slots mt mS la X hR hS hL hc hs)
theorem ez_iushr {G : ez_G} {M : ez_M} {d : Nat} {Q : ez_Q} {h : ez_H} {n mc ms pc q : Nat} {ls : List (Option Value)} {st : List Value} {x y v : Int32} (hd : decode M.2.1 pc = .ok (.iushr, 1)) (hv : (x.toUInt32 >>> (y.toUInt32 &&& Int32.toUInt32 31)).toInt32 = v) (hq : pc + 1 = q) (k : E G M d Q h n mc ms q ls (.int v :: st)) : E G M d Q h n mc ms pc ls (.int y :: .int x :: st) := by
  subst hq
  intro p e R s m args below meth c H locs cells slots mt mS la X hR hS hL hc hs
  exact lv_iushr X.1 X.2.1 hd hv (k p e R s m args below meth c H locs cells slots mt mS la X hR hS hL hc hs)
theorem ez_ladd {G : ez_G} {M : ez_M} {d : Nat} {Q : ez_Q} {h : ez_H} {n mc ms pc q : Nat} {ls : List (Option Value)} {st : List Value} {x y : Int64} (hd : decode M.2.1 pc = .ok (.ladd, 1))  (hq : pc + 1 = q) (k : E G M d Q h n mc ms q ls (.long (x + y) :: st)) : E G M d Q h n mc ms pc ls (.long y :: .long x :: st) := by
  subst hq
  intro p e R s m args below meth c H locs cells slots mt mS la X hR hS hL hc hs
  exact lv_ladd X.1 X.2.1 hd (k p e R s m args below meth c H locs cells slots mt mS la X hR hS hL hc hs)
theorem ez_lsub {G : ez_G} {M : ez_M} {d : Nat} {Q : ez_Q} {h : ez_H} {n mc ms pc q : Nat} {ls : List (Option Value)} {st : List Value} {x y : Int64} (hd : decode M.2.1 pc = .ok (.lsub, 1))  (hq : pc + 1 = q) (k : E G M d Q h n mc ms q ls (.long (x - y) :: st)) : E G M d Q h n mc ms pc ls (.long y :: .long x :: st) := by
  subst hq
  intro p e R s m args below meth c H locs cells slots mt mS la X hR hS hL hc hs
  exact lv_lsub X.1 X.2.1 hd (k p e R s m args below meth c H locs cells slots mt mS la X hR hS hL hc hs)
theorem ez_lmul {G : ez_G} {M : ez_M} {d : Nat} {Q : ez_Q} {h : ez_H} {n mc ms pc q : Nat} {ls : List (Option Value)} {st : List Value} {x y : Int64} (hd : decode M.2.1 pc = .ok (.lmul, 1))  (hq : pc + 1 = q) (k : E G M d Q h n mc ms q ls (.long (x * y) :: st)) : E G M d Q h n mc ms pc ls (.long y :: .long x :: st) := by
  subst hq
  intro p e R s m args below meth c H locs cells slots mt mS la X hR hS hL hc hs
  exact lv_lmul X.1 X.2.1 hd (k p e R s m args below meth c H locs cells slots mt mS la X hR hS hL hc hs)
theorem ez_lshl {G : ez_G} {M : ez_M} {d : Nat} {Q : ez_Q} {h : ez_H} {n mc ms pc q : Nat} {ls : List (Option Value)} {st : List Value} {x : Int64} {y : Int32} (hd : decode M.2.1 pc = .ok (.lshl, 1))  (hq : pc + 1 = q) (k : E G M d Q h n mc ms q ls (.long (x <<< (y.toInt64 &&& 63)) :: st)) : E G M d Q h n mc ms pc ls (.int y :: .long x :: st) := by
  subst hq
  intro p e R s m args below meth c H locs cells slots mt mS la X hR hS hL hc hs
  exact lv_lshl X.1 X.2.1 hd rfl (k p e R s m args below meth c H locs cells slots mt mS la X hR hS hL hc hs)
theorem ez_i2l {G : ez_G} {M : ez_M} {d : Nat} {Q : ez_Q} {h : ez_H} {n mc ms pc q : Nat} {ls : List (Option Value)} {st : List Value} {x : Int32} (hd : decode M.2.1 pc = .ok (.i2l, 1))  (hq : pc + 1 = q) (k : E G M d Q h n mc ms q ls (.long x.toInt64 :: st)) : E G M d Q h n mc ms pc ls (.int x :: st) := by
  subst hq
  intro p e R s m args below meth c H locs cells slots mt mS la X hR hS hL hc hs
  exact lv_i2l X.1 X.2.1 hd rfl (k p e R s m args below meth c H locs cells slots mt mS la X hR hS hL hc hs)
theorem ez_i2d {G : ez_G} {M : ez_M} {d : Nat} {Q : ez_Q} {h : ez_H} {n mc ms pc q : Nat} {ls : List (Option Value)} {st : List Value} {x : Int32} (hd : decode M.2.1 pc = .ok (.i2d, 1))  (hq : pc + 1 = q) (k : E G M d Q h n mc ms q ls (.double (FP.i2d x) :: st)) : E G M d Q h n mc ms pc ls (.int x :: st) := by
  subst hq
  intro p e R s m args below meth c H locs cells slots mt mS la X hR hS hL hc hs
  exact lv_i2d X.1 X.2.1 hd (k p e R s m args below meth c H locs cells slots mt mS la X hR hS hL hc hs)
theorem ez_i2c {G : ez_G} {M : ez_M} {d : Nat} {Q : ez_Q} {h : ez_H} {n mc ms pc q : Nat} {ls : List (Option Value)} {st : List Value} {x v : Int32} (hd : decode M.2.1 pc = .ok (.i2c, 1)) (hv : (x.toUInt32 % 65536).toInt32 = v) (hq : pc + 1 = q) (k : E G M d Q h n mc ms q ls (.int v :: st)) : E G M d Q h n mc ms pc ls (.int x :: st) := by
  subst hq
  intro p e R s m args below meth c H locs cells slots mt mS la X hR hS hL hc hs
  exact lv_i2c X.1 X.2.1 hd hv (k p e R s m args below meth c H locs cells slots mt mS la X hR hS hL hc hs)
theorem ez_d2l {G : ez_G} {M : ez_M} {d : Nat} {Q : ez_Q} {h : ez_H} {n mc ms pc q : Nat} {ls : List (Option Value)} {st : List Value} {x : UInt64} (hd : decode M.2.1 pc = .ok (.d2l, 1))  (hq : pc + 1 = q) (k : E G M d Q h n mc ms q ls (.long (FP.d2l x) :: st)) : E G M d Q h n mc ms pc ls (.double x :: st) := by
  subst hq
  intro p e R s m args below meth c H locs cells slots mt mS la X hR hS hL hc hs
  exact lv_d2l X.1 X.2.1 hd (k p e R s m args below meth c H locs cells slots mt mS la X hR hS hL hc hs)
theorem ez_lcmp {G : ez_G} {M : ez_M} {d : Nat} {Q : ez_Q} {h : ez_H} {n mc ms pc q : Nat} {ls : List (Option Value)} {st : List Value} {x y : Int64} (hd : decode M.2.1 pc = .ok (.lcmp, 1))  (hq : pc + 1 = q) (k : E G M d Q h n mc ms q ls (.int (lg_cmp x y) :: st)) : E G M d Q h n mc ms pc ls (.long y :: .long x :: st) := by
  subst hq
  intro p e R s m args below meth c H locs cells slots mt mS la X hR hS hL hc hs
  exact W.lcmp X.1 X.2.1 hd (k p e R s m args below meth c H locs cells slots mt mS la X hR hS hL hc hs)
theorem ez_dcmp {G : ez_G} {M : ez_M} {d : Nat} {Q : ez_Q} {h : ez_H} {n mc ms pc q : Nat} {ls : List (Option Value)} {st : List Value} {x y : UInt64} {op : CmpOp} (hd : decode M.2.1 pc = .ok (.dcmp op, 1))  (hq : pc + 1 = q) (k : E G M d Q h n mc ms q ls (.int (Op.cmpValue (FP.dcmp x y) op) :: st)) : E G M d Q h n mc ms pc ls (.double y :: .double x :: st) := by
  subst hq
  intro p e R s m args below meth c H locs cells slots mt mS la X hR hS hL hc hs
  exact lv_dcmp X.1 X.2.1 hd (k p e R s m args below meth c H locs cells slots mt mS la X hR hS hL hc hs)
theorem ez_dmul {G : ez_G} {M : ez_M} {d : Nat} {Q : ez_Q} {h : ez_H} {n mc ms pc q : Nat} {ls : List (Option Value)} {st : List Value} {x y : UInt64} (hd : decode M.2.1 pc = .ok (.dmul, 1)) (hne : vf_n64 (FP.dmul x y)) (hq : pc + 1 = q) (k : E G M d Q h n mc ms q ls (.double (FP.dmul x y) :: st)) : E G M d Q h n mc ms pc ls (.double y :: .double x :: st) := by
  subst hq
  intro p e R s m args below meth c H locs cells slots mt mS la X hR hS hL hc hs
  exact lv_dmul X.1 X.2.1 hd hne (k p e R s m args below meth c H locs cells slots mt mS la X hR hS hL hc hs)
theorem ez_ddiv {G : ez_G} {M : ez_M} {d : Nat} {Q : ez_Q} {h : ez_H} {n mc ms pc q : Nat} {ls : List (Option Value)} {st : List Value} {x y : UInt64} (hd : decode M.2.1 pc = .ok (.ddiv, 1)) (hne : vf_n64 (FP.ddiv x y)) (hq : pc + 1 = q) (k : E G M d Q h n mc ms q ls (.double (FP.ddiv x y) :: st)) : E G M d Q h n mc ms pc ls (.double y :: .double x :: st) := by
  subst hq
  intro p e R s m args below meth c H locs cells slots mt mS la X hR hS hL hc hs
  exact lv_ddiv X.1 X.2.1 hd hne (k p e R s m args below meth c H locs cells slots mt mS la X hR hS hL hc hs)
theorem ez_dsub {G : ez_G} {M : ez_M} {d : Nat} {Q : ez_Q} {h : ez_H} {n mc ms pc q : Nat} {ls : List (Option Value)} {st : List Value} {x y : UInt64} (hd : decode M.2.1 pc = .ok (.dsub, 1)) (hne : vf_n64 (FP.dsub x y)) (hq : pc + 1 = q) (k : E G M d Q h n mc ms q ls (.double (FP.dsub x y) :: st)) : E G M d Q h n mc ms pc ls (.double y :: .double x :: st) := by
  subst hq
  intro p e R s m args below meth c H locs cells slots mt mS la X hR hS hL hc hs
  exact lv_dsub X.1 X.2.1 hd hne (k p e R s m args below meth c H locs cells slots mt mS la X hR hS hL hc hs)
theorem ez_dup {G : ez_G} {M : ez_M} {d : Nat} {Q : ez_Q} {h : ez_H} {n mc ms pc q : Nat} {ls : List (Option Value)} {st : List Value} {v : Value} (hd : decode M.2.1 pc = .ok (.dup, 1)) (hv : v.category = 1) (hq : pc + 1 = q) (k : E G M d Q h n mc ms q ls (v :: v :: st)) : E G M d Q h n mc ms pc ls (v :: st) := by
  subst hq
  intro p e R s m args below meth c H locs cells slots mt mS la X hR hS hL hc hs
  exact lv_dup X.1 X.2.1 hd (by rw [ez_v_cat]; exact hv) (k p e R s m args below meth c H locs cells slots mt mS la X hR hS hL hc hs)
theorem ez_pop {G : ez_G} {M : ez_M} {d : Nat} {Q : ez_Q} {h : ez_H} {n mc ms pc q : Nat} {ls : List (Option Value)} {st : List Value} {v : Value} (hd : decode M.2.1 pc = .ok (.pop, 1)) (hv : v.category = 1) (hq : pc + 1 = q) (k : E G M d Q h n mc ms q ls st) : E G M d Q h n mc ms pc ls (v :: st) := by
  subst hq
  intro p e R s m args below meth c H locs cells slots mt mS la X hR hS hL hc hs
  exact lv_pop X.1 X.2.1 hd (by rw [ez_v_cat]; exact hv) (k p e R s m args below meth c H locs cells slots mt mS la X hR hS hL hc hs)
theorem ez_dup2 {G : ez_G} {M : ez_M} {d : Nat} {Q : ez_Q} {h : ez_H} {n mc ms pc q : Nat} {ls : List (Option Value)} {st : List Value} {v u : Value} (hd : decode M.2.1 pc = .ok (.dup2, 1)) (hv : v.category = 1) (hu : u.category = 1) (hq : pc + 1 = q) (k : E G M d Q h n mc ms q ls (v :: u :: v :: u :: st)) : E G M d Q h n mc ms pc ls (v :: u :: st) := by
  subst hq
  intro p e R s m args below meth c H locs cells slots mt mS la X hR hS hL hc hs
  exact lv_dup2_11 X.1 X.2.1 hd (by rw [ez_v_cat]; exact hv) (by rw [ez_v_cat]; exact hu) (k p e R s m args below meth c H locs cells slots mt mS la X hR hS hL hc hs)
theorem ez_ifeq {G : ez_G} {M : ez_M} {d : Nat} {Q : ez_Q} {h : ez_H} {n mc ms pc q : Nat} {ls : List (Option Value)} {st : List Value} {x : Int32} {off : Int} {tgt : Nat} (hd : decode M.2.1 pc = .ok (.ifCond .eq off, 3)) (ht : (pc : Int) + off = (tgt : Int)) (hq : pc + 3 = q) (kt : x = 0 → E G M d Q h n mc ms tgt ls st) (kf : ¬ x = 0 → E G M d Q h n mc ms q ls st) : E G M d Q h n mc ms pc ls (.int x :: st) := by
  subst hq
  intro p e R s m args below meth c H locs cells slots mt mS la X hR hS hL hc hs
  exact lv_if_eq X.1 X.2.1 hd ht (fun z => kt z p e R s m args below meth c H locs cells slots mt mS la X hR hS hL hc hs) (fun z => kf z p e R s m args below meth c H locs cells slots mt mS la X hR hS hL hc hs)
theorem ez_ifne {G : ez_G} {M : ez_M} {d : Nat} {Q : ez_Q} {h : ez_H} {n mc ms pc q : Nat} {ls : List (Option Value)} {st : List Value} {x : Int32} {off : Int} {tgt : Nat} (hd : decode M.2.1 pc = .ok (.ifCond .ne off, 3)) (ht : (pc : Int) + off = (tgt : Int)) (hq : pc + 3 = q) (kt : ¬ x = 0 → E G M d Q h n mc ms tgt ls st) (kf : x = 0 → E G M d Q h n mc ms q ls st) : E G M d Q h n mc ms pc ls (.int x :: st) := by
  subst hq
  intro p e R s m args below meth c H locs cells slots mt mS la X hR hS hL hc hs
  exact lv_if_ne X.1 X.2.1 hd ht (fun z => kt z p e R s m args below meth c H locs cells slots mt mS la X hR hS hL hc hs) (fun z => kf z p e R s m args below meth c H locs cells slots mt mS la X hR hS hL hc hs)
theorem ez_iflt {G : ez_G} {M : ez_M} {d : Nat} {Q : ez_Q} {h : ez_H} {n mc ms pc q : Nat} {ls : List (Option Value)} {st : List Value} {x : Int32} {off : Int} {tgt : Nat} (hd : decode M.2.1 pc = .ok (.ifCond .lt off, 3)) (ht : (pc : Int) + off = (tgt : Int)) (hq : pc + 3 = q) (kt : x < 0 → E G M d Q h n mc ms tgt ls st) (kf : ¬ x < 0 → E G M d Q h n mc ms q ls st) : E G M d Q h n mc ms pc ls (.int x :: st) := by
  subst hq
  intro p e R s m args below meth c H locs cells slots mt mS la X hR hS hL hc hs
  exact lv_if_lt X.1 X.2.1 hd ht (fun z => kt z p e R s m args below meth c H locs cells slots mt mS la X hR hS hL hc hs) (fun z => kf z p e R s m args below meth c H locs cells slots mt mS la X hR hS hL hc hs)
theorem ez_ifge {G : ez_G} {M : ez_M} {d : Nat} {Q : ez_Q} {h : ez_H} {n mc ms pc q : Nat} {ls : List (Option Value)} {st : List Value} {x : Int32} {off : Int} {tgt : Nat} (hd : decode M.2.1 pc = .ok (.ifCond .ge off, 3)) (ht : (pc : Int) + off = (tgt : Int)) (hq : pc + 3 = q) (kt : 0 ≤ x → E G M d Q h n mc ms tgt ls st) (kf : ¬ 0 ≤ x → E G M d Q h n mc ms q ls st) : E G M d Q h n mc ms pc ls (.int x :: st) := by
  subst hq
  intro p e R s m args below meth c H locs cells slots mt mS la X hR hS hL hc hs
  exact lv_if_ge X.1 X.2.1 hd ht (fun z => kt z p e R s m args below meth c H locs cells slots mt mS la X hR hS hL hc hs) (fun z => kf z p e R s m args below meth c H locs cells slots mt mS la X hR hS hL hc hs)
theorem ez_ifgt {G : ez_G} {M : ez_M} {d : Nat} {Q : ez_Q} {h : ez_H} {n mc ms pc q : Nat} {ls : List (Option Value)} {st : List Value} {x : Int32} {off : Int} {tgt : Nat} (hd : decode M.2.1 pc = .ok (.ifCond .gt off, 3)) (ht : (pc : Int) + off = (tgt : Int)) (hq : pc + 3 = q) (kt : 0 < x → E G M d Q h n mc ms tgt ls st) (kf : ¬ 0 < x → E G M d Q h n mc ms q ls st) : E G M d Q h n mc ms pc ls (.int x :: st) := by
  subst hq
  intro p e R s m args below meth c H locs cells slots mt mS la X hR hS hL hc hs
  exact lv_if_gt X.1 X.2.1 hd ht (fun z => kt z p e R s m args below meth c H locs cells slots mt mS la X hR hS hL hc hs) (fun z => kf z p e R s m args below meth c H locs cells slots mt mS la X hR hS hL hc hs)
theorem ez_ifle {G : ez_G} {M : ez_M} {d : Nat} {Q : ez_Q} {h : ez_H} {n mc ms pc q : Nat} {ls : List (Option Value)} {st : List Value} {x : Int32} {off : Int} {tgt : Nat} (hd : decode M.2.1 pc = .ok (.ifCond .le off, 3)) (ht : (pc : Int) + off = (tgt : Int)) (hq : pc + 3 = q) (kt : x ≤ 0 → E G M d Q h n mc ms tgt ls st) (kf : ¬ x ≤ 0 → E G M d Q h n mc ms q ls st) : E G M d Q h n mc ms pc ls (.int x :: st) := by
  subst hq
  intro p e R s m args below meth c H locs cells slots mt mS la X hR hS hL hc hs
  exact lv_if_le X.1 X.2.1 hd ht (fun z => kt z p e R s m args below meth c H locs cells slots mt mS la X hR hS hL hc hs) (fun z => kf z p e R s m args below meth c H locs cells slots mt mS la X hR hS hL hc hs)
theorem ez_icmpeq {G : ez_G} {M : ez_M} {d : Nat} {Q : ez_Q} {h : ez_H} {n mc ms pc q : Nat} {ls : List (Option Value)} {st : List Value} {x y : Int32} {off : Int} {tgt : Nat} (hd : decode M.2.1 pc = .ok (.if_icmp .eq off, 3)) (ht : (pc : Int) + off = (tgt : Int)) (hq : pc + 3 = q) (kt : x = y → E G M d Q h n mc ms tgt ls st) (kf : ¬ x = y → E G M d Q h n mc ms q ls st) : E G M d Q h n mc ms pc ls (.int y :: .int x :: st) := by
  subst hq
  intro p e R s m args below meth c H locs cells slots mt mS la X hR hS hL hc hs
  exact lv_icmp_eq X.1 X.2.1 hd ht (fun z => kt z p e R s m args below meth c H locs cells slots mt mS la X hR hS hL hc hs) (fun z => kf z p e R s m args below meth c H locs cells slots mt mS la X hR hS hL hc hs)
theorem ez_icmpne {G : ez_G} {M : ez_M} {d : Nat} {Q : ez_Q} {h : ez_H} {n mc ms pc q : Nat} {ls : List (Option Value)} {st : List Value} {x y : Int32} {off : Int} {tgt : Nat} (hd : decode M.2.1 pc = .ok (.if_icmp .ne off, 3)) (ht : (pc : Int) + off = (tgt : Int)) (hq : pc + 3 = q) (kt : ¬ x = y → E G M d Q h n mc ms tgt ls st) (kf : x = y → E G M d Q h n mc ms q ls st) : E G M d Q h n mc ms pc ls (.int y :: .int x :: st) := by
  subst hq
  intro p e R s m args below meth c H locs cells slots mt mS la X hR hS hL hc hs
  exact lv_icmp_ne X.1 X.2.1 hd ht (fun z => kt z p e R s m args below meth c H locs cells slots mt mS la X hR hS hL hc hs) (fun z => kf z p e R s m args below meth c H locs cells slots mt mS la X hR hS hL hc hs)
theorem ez_icmplt {G : ez_G} {M : ez_M} {d : Nat} {Q : ez_Q} {h : ez_H} {n mc ms pc q : Nat} {ls : List (Option Value)} {st : List Value} {x y : Int32} {off : Int} {tgt : Nat} (hd : decode M.2.1 pc = .ok (.if_icmp .lt off, 3)) (ht : (pc : Int) + off = (tgt : Int)) (hq : pc + 3 = q) (kt : x < y → E G M d Q h n mc ms tgt ls st) (kf : ¬ x < y → E G M d Q h n mc ms q ls st) : E G M d Q h n mc ms pc ls (.int y :: .int x :: st) := by
  subst hq
  intro p e R s m args below meth c H locs cells slots mt mS la X hR hS hL hc hs
  exact lv_icmp_lt X.1 X.2.1 hd ht (fun z => kt z p e R s m args below meth c H locs cells slots mt mS la X hR hS hL hc hs) (fun z => kf z p e R s m args below meth c H locs cells slots mt mS la X hR hS hL hc hs)
theorem ez_icmpge {G : ez_G} {M : ez_M} {d : Nat} {Q : ez_Q} {h : ez_H} {n mc ms pc q : Nat} {ls : List (Option Value)} {st : List Value} {x y : Int32} {off : Int} {tgt : Nat} (hd : decode M.2.1 pc = .ok (.if_icmp .ge off, 3)) (ht : (pc : Int) + off = (tgt : Int)) (hq : pc + 3 = q) (kt : y ≤ x → E G M d Q h n mc ms tgt ls st) (kf : ¬ y ≤ x → E G M d Q h n mc ms q ls st) : E G M d Q h n mc ms pc ls (.int y :: .int x :: st) := by
  subst hq
  intro p e R s m args below meth c H locs cells slots mt mS la X hR hS hL hc hs
  exact lv_icmp_ge X.1 X.2.1 hd ht (fun z => kt z p e R s m args below meth c H locs cells slots mt mS la X hR hS hL hc hs) (fun z => kf z p e R s m args below meth c H locs cells slots mt mS la X hR hS hL hc hs)
theorem ez_icmpgt {G : ez_G} {M : ez_M} {d : Nat} {Q : ez_Q} {h : ez_H} {n mc ms pc q : Nat} {ls : List (Option Value)} {st : List Value} {x y : Int32} {off : Int} {tgt : Nat} (hd : decode M.2.1 pc = .ok (.if_icmp .gt off, 3)) (ht : (pc : Int) + off = (tgt : Int)) (hq : pc + 3 = q) (kt : y < x → E G M d Q h n mc ms tgt ls st) (kf : ¬ y < x → E G M d Q h n mc ms q ls st) : E G M d Q h n mc ms pc ls (.int y :: .int x :: st) := by
  subst hq
  intro p e R s m args below meth c H locs cells slots mt mS la X hR hS hL hc hs
  exact lv_icmp_gt X.1 X.2.1 hd ht (fun z => kt z p e R s m args below meth c H locs cells slots mt mS la X hR hS hL hc hs) (fun z => kf z p e R s m args below meth c H locs cells slots mt mS la X hR hS hL hc hs)
theorem ez_icmple {G : ez_G} {M : ez_M} {d : Nat} {Q : ez_Q} {h : ez_H} {n mc ms pc q : Nat} {ls : List (Option Value)} {st : List Value} {x y : Int32} {off : Int} {tgt : Nat} (hd : decode M.2.1 pc = .ok (.if_icmp .le off, 3)) (ht : (pc : Int) + off = (tgt : Int)) (hq : pc + 3 = q) (kt : x ≤ y → E G M d Q h n mc ms tgt ls st) (kf : ¬ x ≤ y → E G M d Q h n mc ms q ls st) : E G M d Q h n mc ms pc ls (.int y :: .int x :: st) := by
  subst hq
  intro p e R s m args below meth c H locs cells slots mt mS la X hR hS hL hc hs
  exact lv_icmp_le X.1 X.2.1 hd ht (fun z => kt z p e R s m args below meth c H locs cells slots mt mS la X hR hS hL hc hs) (fun z => kf z p e R s m args below meth c H locs cells slots mt mS la X hR hS hL hc hs)
theorem ez_goto {G : ez_G} {M : ez_M} {d : Nat} {Q : ez_Q} {h : ez_H} {n mc ms pc q : Nat} {ls : List (Option Value)} {st : List Value} {off : Int} (hd : decode M.2.1 pc = .ok (.goto off, 3)) (ht : (pc : Int) + off = (q : Int)) (k : E G M d Q h n mc ms q ls st) : E G M d Q h n mc ms pc ls st := by
  intro p e R s m args below meth c H locs cells slots mt mS la X hR hS hL hc hs
  exact lv_goto X.1 X.2.1 hd ht (k p e R s m args below meth c H locs cells slots mt mS la X hR hS hL hc hs)
theorem ez_tableIn {G : ez_G} {M : ez_M} {d : Nat} {Q : ez_Q} {h : ez_H} {n mc ms pc q : Nat} {ls : List (Option Value)} {st : List Value} {x : Int32} {dflt lo hi : Int} {offs : Array Int} {len : Nat} {off : Int} (hd : decode M.2.1 pc = .ok (.tableswitch dflt lo hi offs, len)) (h1 : ¬ x.toInt < lo) (h2 : ¬ hi < x.toInt) (ho : offs[(x.toInt - lo).toNat]? = some off) (ht : (pc : Int) + off = (q : Int)) (k : E G M d Q h n mc ms q ls st) : E G M d Q h n mc ms pc ls (.int x :: st) := by
  intro p e R s m args below meth c H locs cells slots mt mS la X hR hS hL hc hs
  exact lv_tableIn X.1 X.2.1 hd h1 h2 ho ht (k p e R s m args below meth c H locs cells slots mt mS la X hR hS hL hc hs)
theorem ez_tableOut {G : ez_G} {M : ez_M} {d : Nat} {Q : ez_Q} {h : ez_H} {n mc ms pc q : Nat} {ls : List (Option Value)} {st : List Value} {x : Int32} {dflt lo hi : Int} {offs : Array Int} {len : Nat} (hd : decode M.2.1 pc = .ok (.tableswitch dflt lo hi offs, len)) (h1 : x.toInt < lo ∨ hi < x.toInt) (ht : (pc : Int) + dflt = (q : Int)) (k : E G M d Q h n mc ms q ls st) : E G M d Q h n mc ms pc ls (.int x :: st) := by
  intro p e R s m args below meth c H locs cells slots mt mS la X hR hS hL hc hs
  exact lv_tableOut X.1 X.2.1 hd h1 ht (k p e R s m args below meth c H locs cells slots mt mS la X hR hS hL hc hs)
theorem ez_lookup {G : ez_G} {M : ez_M} {d : Nat} {Q : ez_Q} {h : ez_H} {n mc ms pc q : Nat} {ls : List (Option Value)} {st : List Value} {x : Int32} {dflt : Int} {ps : Array (Int × Int)} {len : Nat} {off : Int} (hd : decode M.2.1 pc = .ok (.lookupswitch dflt ps, len)) (hp : (ps.toList.zip (ps.toList.drop 1)).all (fun (a, next) => a.1 < next.1) = true) (ho : Op.lookupswitch.offset ps.toList dflt x.toInt = off) (ht : (pc : Int) + off = (q : Int)) (k : E G M d Q h n mc ms q ls st) : E G M d Q h n mc ms pc ls (.int x :: st) := by
  intro p e R s m args below meth c H locs cells slots mt mS la X hR hS hL hc hs
  exact lv_lookup X.1 X.2.1 hd hp ho ht (k p e R s m args below meth c H locs cells slots mt mS la X hR hS hL hc hs)
end
section
def ez_cl (ci : Nat) : vw_C := vwCl.getD ci (RX0, TX0, 5)
def ez_tyf (ci : Nat) : Nat → FieldType := match ci with
  | 0 => tyX0
  | 1 => tyX1
  | 2 => tyX2
  | 3 => tyX3
  | 4 => tyX4
  | 5 => tyX5
  | 6 => tyX6
  | _ => tyX7
theorem ez_cl_get {ci : Nat} (h : ci < 8) : vwCl[ci]? = some (ez_cl ci) := by
  have h2 : ci < vwCl.length := h
  rw [ez_cl, List.getD_eq_getElem?_getD, List.getElem?_eq_getElem h2]
  rfl
theorem ez_ty_ok {ci : Nat} (h : ci < 8) : ∀ k, k < (ez_cl ci).2.2 → parseFieldDescriptor ((ez_cl ci).2.1 k).2.2.1 = some (ez_tyf ci k) := by
  rcases (show ci = 0 ∨ ci = 1 ∨ ci = 2 ∨ ci = 3 ∨ ci = 4 ∨ ci = 5 ∨ ci = 6 ∨ ci = 7 by omega) with rfl | rfl | rfl | rfl | rfl | rfl | rfl | rfl
  · exact tyX0_ok
  · exact tyX1_ok
  · exact tyX2_ok
  · exact tyX3_ok
  · exact tyX4_ok
  · exact tyX5_ok
  · exact tyX6_ok
  · exact tyX7_ok
theorem ez_nm {ci : Nat} (h : ci < 8) : ∀ a, a < (ez_cl ci).2.2 → ∀ b, b < (ez_cl ci).2.2 → a ≠ b → ((ez_cl ci).2.1 a).2.1 ≠ ((ez_cl ci).2.1 b).2.1 := by
  rcases (show ci = 0 ∨ ci = 1 ∨ ci = 2 ∨ ci = 3 ∨ ci = 4 ∨ ci = 5 ∨ ci = 6 ∨ ci = 7 by omega) with rfl | rfl | rfl | rfl | rfl | rfl | rfl | rfl
  · exact nmX0
  · exact nmX1
  · exact nmX2
  · exact nmX3
  · exact nmX4
  · exact nmX5
  · exact nmX6
  · exact nmX7
theorem ez_lay0 : ∀ ci, ci < 8 → (u_ws (ez_cl ci).1 (ez_cl ci).2.1 (ez_cl ci).2.2).all (fun w => decide (w ∈ lw_tbl) && goodWord w) = true := by decide +kernel
theorem ez_lay {ci : Nat} (h : ci < 8) {w : Cond} (hw : w ∈ u_ws (ez_cl ci).1 (ez_cl ci).2.1 (ez_cl ci).2.2) : ez_T w := by
  have h1 := List.all_eq_true.mp (ez_lay0 ci h) w hw
  simp only [Bool.and_eq_true, decide_eq_true_eq] at h1
  exact h1
/-- entry idx of class own's pool is the field k of the class number ci -/
def ez_fl (own : String) (idx ci k : Nat) : Prop := ci < 8 ∧ k < (ez_cl ci).2.2 ∧ ez_T (.fieldLink own idx ((ez_cl ci).2.1 k).1 ((ez_cl ci).2.1 k).2.1 ((ez_cl ci).2.1 k).2.2.1)
theorem ez_one {G : ez_G} {h : ez_H} {n a : Nat} {H : Heap} {e : va_E} (hR : ez_R G h n H) (hc : h a = some e) : va_P (ez_D G) vwCl [(ez_ad G a, ez_e G e)] H := by
  intro k q hq
  cases k with
  | zero => cases hq; exact (hR.2.2.2 a e hc).2
  | succ j => simp at hq
theorem ez_getf {G : ez_G} {M : ez_M} {d : Nat} {Q : ez_Q} {h : ez_H} {n mc ms pc q : Nat} {ls : List (Option Value)} {st : List Value} {a idx ci k : Nat} {fs : List Value} {v : Value} (hd : decode M.2.1 pc = .ok (.getfield idx, 3)) (hf : ez_fl M.1.cls idx ci k) (hc0 : h a = some (.inr (ci, fs))) (hv : fs[k]? = some v) (hq : pc + 3 = q) (K : E G M d Q h n mc ms q ls (v :: st)) : E G M d Q h n mc ms pc ls (.ref a :: st) := by
  subst hq
  intro p e R s m args below meth c H locs cells slots mt mS la X hR hS hL hc hs
  obtain ⟨h1, h2, h3⟩ := hf
  exact va_get X.1 X.2.1 (Ts := u_ws (ez_cl ci).1 (ez_cl ci).2.1 (ez_cl ci).2.2) (fun w hw => X.2.2.2.2.2.2.2.2.1.w (ez_lay h1 hw) args) (fun _ h9 => h9) X.2.2.2.1 X.2.2.2.2.2.2.2.2.1.2.1 (ez_one hR hc0) 0 (fs := fs.map (ez_v G)) rfl (ez_cl_get h1) k h2 (X.2.2.2.2.2.2.2.2.1.w h3 args) (fun _ h9 => h9) (by rw [List.getElem?_map, hv]; rfl) hd (K p e R s m args below meth c H locs cells slots mt mS la X hR hS hL hc hs)
theorem ez_put0 {G : ez_G} {M : ez_M} {d : Nat} {Q : ez_Q} {h : ez_H} {n mc ms pc q : Nat} {ls : List (Option Value)} {st : List Value} {a idx ci k : Nat} {fs : List Value} {v : Value} (hd : decode M.2.1 pc = .ok (.putfield idx, 3)) (hf : ez_fl M.1.cls idx ci k) (hfin : ((ez_cl ci).2.1 k).2.2.2 = false) (hn : ∀ G, narrow (ez_tyf ci k) (ez_v G v) = ez_v G v) (hfit : ∀ G, fits (ez_tyf ci k) (ez_v G v) = true) (ha : 0 < a) (hc0 : h a = some (.inr (ci, fs))) (hl : k < fs.length) (hq : pc + 3 = q) (K : E G M d Q (ez_up h a (.inr (ci, fs.set k v))) n mc ms q ls st) : E G M d Q h n mc ms pc ls (v :: .ref a :: st) := by
  subst hq
  intro p e R s m args below meth c H locs cells slots mt mS la X hR hS hL hc hs
  obtain ⟨h1, h2, h3⟩ := hf
  have hts : ∀ w ∈ u_ws (ez_cl ci).1 (ez_cl ci).2.1 (ez_cl ci).2.2, w.before args s = true := fun w hw => X.2.2.2.2.2.2.2.2.1.w (ez_lay h1 hw) args
  have hap := va_apart (D := ez_D G) (own := M.1.cls) hts (fun _ h9 => h9) (ez_tyf ci) (ez_ty_ok h1) (ez_nm h1) X.2.2.2.2.2.2.2.2.1.2.1 (ez_cl_get h1)
  obtain ⟨r, hr1, cell, q1, q2, q3, q4⟩ := (hR.2.2.2 a _ hc0).2
  have hr : r = ez_cl ci := Option.some.inj (hr1.symm.trans (ez_cl_get h1))
  subst hr
  obtain ⟨hSl, hfc, kC, hkC, hkind⟩ := X.2.2.2.2.2.2.2.2.1.2.1.1 ci _ (ez_cl_get h1)
  obtain ⟨cf, kf, fi, f, hi, hsl⟩ := hSl k h2
  have hlay := hts _ (u_in_lay h2)
  unfold u_lay at hlay
  rw [if_neg (by rw [hfin]; decide)] at hlay
  have hst := (u_facts hfc hkC (u_lays hts (fun _ h9 => h9) h2) hi).1
  have h6 := u_store hfc hkC hkind hlay hi (ez_ty_ok h1 k h2) (hn G) (hfit G)
  refine W.putK X.1 X.2.1 (f := f) ⟨X.2.2.2.1, X.2.2.2.2.2.2.2.2.1.w h3 args, ⟨_, _, _, hi⟩, hst⟩ (by rw [q2]; exact h6) q1 q3 (by rw [hsl]; exact k2_hasslot (q4 k h2)) rfl rfl hd fun H' e1 e2 e3 => ?_
  rw [hsl] at e1 ⊢
  refine K p e R s m args below meth c H' _ cells slots mt mS la X (hR.set hc0 (⟨_, ez_cl_get h1, t_OB.to (V := updV (vp_V (fs.map (ez_v G))) k (ez_v G v)) ⟨_, e1, q2, q3, t_set q4 hap h2 _⟩ (fun j _ => ?_)⟩) e2 e3) (hS.put e2 e3 (ez_ad_A ha)) hL hc hs
  show updV (vp_V (fs.map (ez_v G))) k (ez_v G v) j = vp_V ((fs.set k v).map (ez_v G)) j
  rw [vp_updV_set (by simpa using hl), List.map_set]
theorem ez_putF0 {G : ez_G} {M : ez_M} {d : Nat} {Q : ez_Q} {h : ez_H} {n mc ms pc q : Nat} {ls : List (Option Value)} {st : List Value} {a idx ci k : Nat} {fs : List Value} {v : Value} (hd : decode M.2.1 pc = .ok (.putfield idx, 3)) (hf : ez_fl M.1.cls idx ci k) (hfin : ((ez_cl ci).2.1 k).2.2.2 = true) (hini : M.1.name = "<init>") (hdecl : ((ez_cl ci).2.1 k).1 = M.1.cls) (hn : ∀ G, narrow (ez_tyf ci k) (ez_v G v) = ez_v G v) (hfit : ∀ G, fits (ez_tyf ci k) (ez_v G v) = true) (ha : 0 < a) (hc0 : h a = some (.inr (ci, fs))) (hl : k < fs.length) (hq : pc + 3 = q) (K : E G M d Q (ez_up h a (.inr (ci, fs.set k v))) n mc ms q ls st) : E G M d Q h n mc ms pc ls (v :: .ref a :: st) := by
  subst hq
  intro p e R s m args below meth c H locs cells slots mt mS la X hR hS hL hc hs
  obtain ⟨h1, h2, h3⟩ := hf
  have hts : ∀ w ∈ u_ws (ez_cl ci).1 (ez_cl ci).2.1 (ez_cl ci).2.2, w.before args s = true := fun w hw => X.2.2.2.2.2.2.2.2.1.w (ez_lay h1 hw) args
  have hap := va_apart (D := ez_D G) (own := M.1.cls) hts (fun _ h9 => h9) (ez_tyf ci) (ez_ty_ok h1) (ez_nm h1) X.2.2.2.2.2.2.2.2.1.2.1 (ez_cl_get h1)
  obtain ⟨r, hr1, cell, q1, q2, q3, q4⟩ := (hR.2.2.2 a _ hc0).2
  have hr : r = ez_cl ci := Option.some.inj (hr1.symm.trans (ez_cl_get h1))
  subst hr
  obtain ⟨hSl, hfc, kC, hkC, hkind⟩ := X.2.2.2.2.2.2.2.2.1.2.1.1 ci _ (ez_cl_get h1)
  obtain ⟨cf, kf, fi, f, hi, hsl⟩ := hSl k h2
  have hlay := hts _ (u_in_lay h2)
  unfold u_lay at hlay
  rw [if_pos hfin] at hlay
  have hst := (u_facts hfc hkC (u_lays hts (fun _ h9 => h9) h2) hi).1
  have hcf : m.cls = cf := by
    obtain ⟨_, _, c', _, _, _, -, -, hf', -, -, -, hown2, -⟩ := Cond.laysFinal_spec hlay
    have e1 : c' = cf := by have := hi.symm.trans hf'; simp at this; exact this.1.symm
    rw [hdecl] at hown2
    rw [← e1]; exact Option.some.inj (X.2.2.2.1.symm.trans hown2)
  have h6 := u_fits hfc hkC hkind (Or.inr hlay) hi (ez_ty_ok h1 k h2) (hn G) (hfit G)
  refine W.putFinK X.1 X.2.1 X.2.2.2.1 (X.2.2.2.2.2.2.2.2.1.w h3 args) hi hst hcf (X.2.2.2.2.2.2.1.trans hini) (by rw [q2]; exact h6) q1 q3 (by rw [hsl]; exact k2_hasslot (q4 k h2)) rfl rfl hd fun H' e1 e2 e3 => ?_
  rw [hsl] at e1 ⊢
  refine K p e R s m args below meth c H' _ cells slots mt mS la X (hR.set hc0 (⟨_, ez_cl_get h1, t_OB.to (V := updV (vp_V (fs.map (ez_v G))) k (ez_v G v)) ⟨_, e1, q2, q3, t_set q4 hap h2 _⟩ (fun j _ => ?_)⟩) e2 e3) (hS.put e2 e3 (ez_ad_A ha)) hL hc hs
  show updV (vp_V (fs.map (ez_v G))) k (ez_v G v) j = vp_V ((fs.set k v).map (ez_v G)) j
  rw [vp_updV_set (by simpa using hl), List.map_set]
theorem ez_iald {G : ez_G} {M : ez_M} {d : Nat} {Q : ez_Q} {h : ez_H} {n mc ms pc q : Nat} {ls : List (Option Value)} {st : List Value} {a len j : Nat} {f : Nat → Int32} {i : Int32} (hd : decode M.2.1 pc = .ok (.iaload, 1)) (hc0 : h a = some (.inl (0, len, .inl f))) (hi : i = nI j) (hj : j < len) (hlen : len < 2 ^ 31) (hq : pc + 1 = q) (K : E G M d Q h n mc ms q ls (.int (f j) :: st)) : E G M d Q h n mc ms pc ls (.int i :: .ref a :: st) := by
  subst hq; subst hi
  intro p e R s m args below meth c H locs cells slots mt mS la X hR hS hL hc hs
  refine va_iald X.1 X.2.1 X.2.2.2.2.2.2.2.2.1.2.1 (ez_one hR hc0) 0 0 (cA := ez_ca G 0) (n := len) (f := f) rfl rfl (vp_in_nI hj hlen) hd ?_
  rw [nI_clamp (by omega)]
  exact K p e R s m args below meth c H locs cells slots mt mS la X hR hS hL hc hs
theorem ez_cald {G : ez_G} {M : ez_M} {d : Nat} {Q : ez_Q} {h : ez_H} {n mc ms pc q : Nat} {ls : List (Option Value)} {st : List Value} {a len j : Nat} {f : Nat → Int32} {i : Int32} (hd : decode M.2.1 pc = .ok (.caload, 1)) (hc0 : h a = some (.inl (1, len, .inl f))) (hi : i = nI j) (hj : j < len) (hlen : len < 2 ^ 31) (hq : pc + 1 = q) (K : E G M d Q h n mc ms q ls (.int (f j) :: st)) : E G M d Q h n mc ms pc ls (.int i :: .ref a :: st) := by
  subst hq; subst hi
  intro p e R s m args below meth c H locs cells slots mt mS la X hR hS hL hc hs
  refine va_cald X.1 X.2.1 X.2.2.2.2.2.2.2.2.1.2.1 (ez_one hR hc0) 0 1 (cA := ez_ca G 1) (n := len) (f := f) rfl rfl (vp_in_nI hj hlen) hd ?_
  rw [nI_clamp (by omega)]
  exact K p e R s m args below meth c H locs cells slots mt mS la X hR hS hL hc hs
theorem ez_aald {G : ez_G} {M : ez_M} {d : Nat} {Q : ez_Q} {h : ez_H} {n mc ms pc q : Nat} {ls : List (Option Value)} {st : List Value} {a len j r : Nat} {f : Nat → Option Nat} {i : Int32} (hd : decode M.2.1 pc = .ok (.aaload, 1)) (hc0 : h a = some (.inl (3, len, .inr (.inr (.inr (.inr f)))))) (hi : i = nI j) (hj : j < len) (hlen : len < 2 ^ 31) (hr : f j = some r) (hq : pc + 1 = q) (K : E G M d Q h n mc ms q ls (.ref r :: st)) : E G M d Q h n mc ms pc ls (.int i :: .ref a :: st) := by
  subst hq; subst hi
  intro p e R s m args below meth c H locs cells slots mt mS la X hR hS hL hc hs
  refine va_aldq X.1 X.2.1 X.2.2.2.2.2.2.2.2.1.2.1 (ez_one hR hc0) 0 3 (cA := ez_ca G 3) (n := len) (f := fun j => (f j).map (ez_ad G)) rfl rfl (vp_in_nI hj hlen) hd ?_
  rw [nI_clamp (by omega), hr]
  exact K p e R s m args below meth c H locs cells slots mt mS la X hR hS hL hc hs
theorem ez_alen {G : ez_G} {M : ez_M} {d : Nat} {Q : ez_Q} {h : ez_H} {n mc ms pc q : Nat} {ls : List (Option Value)} {st : List Value} {a len : Nat} {f : Nat → Int32} (hd : decode M.2.1 pc = .ok (.arraylength, 1)) (hc0 : h a = some (.inl (0, len, .inl f))) (hq : pc + 1 = q) (K : E G M d Q h n mc ms q ls (.int (nI len) :: st)) : E G M d Q h n mc ms pc ls (.ref a :: st) := by
  subst hq
  intro p e R s m args below meth c H locs cells slots mt mS la X hR hS hL hc hs
  refine W.alen (n := nI len) X.1 X.2.1 (ez_one hR hc0 0 _ rfl) ((X.2.2.2.2.2.2.2.2.1.2.1.2 0 _ rfl).1 len (fun j => .int (f j))) (by show (arrV _ _ _).slots.size.toInt32 = _; rw [arrV_size]; rfl) rfl rfl hd ?_
  exact K p e R s m args below meth c H locs cells slots mt mS la X hR hS hL hc hs
theorem ez_iast {G : ez_G} {M : ez_M} {d : Nat} {Q : ez_Q} {h : ez_H} {n mc ms pc q : Nat} {ls : List (Option Value)} {st : List Value} {a len j : Nat} {f : Nat → Int32} {i : Int32} {x : Int32} (hd : decode M.2.1 pc = .ok (.iastore, 1)) (ha : 0 < a) (hc0 : h a = some (.inl (0, len, .inl f))) (hi : i = nI j) (hj : j < len) (hlen : len < 2 ^ 31) (hq : pc + 1 = q) (K : E G M d Q (ez_up h a (.inl (0, len, .inl (upd f j x)))) n mc ms q ls st) : E G M d Q h n mc ms pc ls (.int x :: .int i :: .ref a :: st) := by
  subst hq; subst hi
  intro p e R s m args below meth c H locs cells slots mt mS la X hR hS hL hc hs
  have hk := nI_clamp (n := j) (by omega)
  refine W.iast X.1 X.2.1 (ez_one hR hc0 0 _ rfl) ((X.2.2.2.2.2.2.2.2.1.2.1.2 0 _ rfl).1 len (fun j => .int (f j))) (fun q => by cases q) (by show ¬ (nI j < 0 ∨ (arrV _ _ _).slots.size ≤ _); rw [arrV_size]; exact vp_in_nI hj hlen) rfl rfl hd fun H1 e1 z oq => ?_
  refine K p e R s m args below meth c H1 _ cells slots mt mS la X (hR.set hc0 ?_ z oq) (hS.put z oq (ez_ad_A ha)) hL hc hs
  show H1[ez_ad G a]? = some (vp_cell _ _)
  rw [e1]
  show some ((vp_cell (ez_ca G 0) (len, .inl f)).setSlot _ _) = _
  rw [vp_cell_i, vp_cell_i, arrV_store, hk]
  congr 2
  funext y
  by_cases hy : y = j
  · subst hy
    simp [updV, upd]
  · simp [updV, upd, hy]
theorem ez_nar (c : Nat) (h : c < 65536) : narrow .char (.int (nI c)) = .int (nI c) := by
  show Value.int ((nI c).toUInt32.toUInt16.toUInt32.toInt32) = .int (nI c)
  congr 1
  apply Int32.toBitVec_inj.mp
  show ((BitVec.ofNat 32 c).setWidth 16).setWidth 32 = BitVec.ofNat 32 c
  apply BitVec.eq_of_toNat_eq
  simp only [BitVec.toNat_setWidth, BitVec.toNat_ofNat]
  omega
theorem ez_cast {G : ez_G} {M : ez_M} {d : Nat} {Q : ez_Q} {h : ez_H} {n mc ms pc q : Nat} {ls : List (Option Value)} {st : List Value} {a len j c0 : Nat} {f : Nat → Int32} {i x : Int32} (hd : decode M.2.1 pc = .ok (.castore, 1)) (ha : 0 < a) (hc0 : h a = some (.inl (1, len, .inl f))) (hi : i = nI j) (hj : j < len) (hlen : len < 2 ^ 31) (hx : x = nI c0) (hx2 : c0 < 65536) (hq : pc + 1 = q) (K : E G M d Q (ez_up h a (.inl (1, len, .inl (upd f j x)))) n mc ms q ls st) : E G M d Q h n mc ms pc ls (.int x :: .int i :: .ref a :: st) := by
  subst hq; subst hi; subst hx
  intro p e R s m args below meth c H locs cells slots mt mS la X hR hS hL hc hs
  have hk := nI_clamp (n := j) (by omega)
  refine W.cast X.1 X.2.1 (ez_one hR hc0 0 _ rfl) ((X.2.2.2.2.2.2.2.2.1.2.1.2 1 _ rfl).1 len (fun j => .int (f j))) (fun q => by cases q) (by show ¬ (nI j < 0 ∨ (arrV _ _ _).slots.size ≤ _); rw [arrV_size]; exact vp_in_nI hj hlen) rfl rfl hd fun H1 e1 z oq => ?_
  refine K p e R s m args below meth c H1 _ cells slots mt mS la X (hR.set hc0 ?_ z oq) (hS.put z oq (ez_ad_A ha)) hL hc hs
  show H1[ez_ad G a]? = some (vp_cell _ _)
  rw [e1, ez_nar c0 hx2]
  show some ((vp_cell (ez_ca G 1) (len, .inl f)).setSlot _ _) = _
  rw [vp_cell_i, vp_cell_i, arrV_store, hk]
  congr 2
  funext y
  by_cases hy : y = j
  · subst hy
    simp [updV, upd]
  · simp [updV, upd, hy]
theorem ez_aast {G : ez_G} {M : ez_M} {d : Nat} {Q : ez_Q} {h : ez_H} {n mc ms pc q : Nat} {ls : List (Option Value)} {st : List Value} {a len j v : Nat} {f : Nat → Option Nat} {fs : List Value} {i : Int32} (hd : decode M.2.1 pc = .ok (.aastore, 1)) (ha : 0 < a) (hc0 : h a = some (.inl (3, len, .inr (.inr (.inr (.inr f)))))) (hv : h v = some (.inr (3, fs))) (hi : i = nI j) (hj : j < len) (hlen : len < 2 ^ 31) (hq : pc + 1 = q) (K : E G M d Q (ez_up h a (.inl (3, len, .inr (.inr (.inr (.inr (va_up f j (some v)))))))) n mc ms q ls st) : E G M d Q h n mc ms pc ls (.ref v :: .int i :: .ref a :: st) := by
  subst hq; subst hi
  intro p e R s m args below meth c H locs cells slots mt mS la X hR hS hL hc hs
  have hk := nI_clamp (n := j) (by omega)
  have hin := vp_in_nI hj hlen
  obtain ⟨r', hr', cellV, g1, g2, g3, -⟩ := ez_one hR hv 0 _ rfl
  have hcls := (X.2.2.2.2.2.2.2.2.1.2.1.1 3 (ez_cl 3) (ez_cl_get (by decide))).2
  obtain ⟨kA, comp, k1, k2, k3, -⟩ := (X.2.2.2.2.2.2.2.2.1.2.1.2 3 _ rfl).2
  have hcomp : comp = (ez_D G).1 3 := Option.some.inj (k3.symm.trans hcls.1)
  subst hcomp
  obtain ⟨kC, hkC, -⟩ := hcls.2
  refine W.aast X.1 X.2.1 (ez_one hR hc0 0 _ rfl) (fun q h => by cases h) (fun h => by cases h) k1 k2 rfl hkC ⟨fun q => hin (Or.inl q), by show _ < (arrV _ _ _).slots.size; rw [arrV_size, hk]; exact hj⟩ g1 (fun q h => by rw [g3] at h; cases h) (by rw [g2]; exact hkC) (by rw [g2]; exact va_assign hcls) rfl rfl hd fun H1 e1 z oq => ?_
  refine K p e R s m args below meth c H1 _ cells slots mt mS la X (hR.set hc0 ?_ z oq) (hS.put z oq (ez_ad_A ha)) hL hc hs
  show H1[ez_ad G a]? = some (vp_cell _ _)
  rw [e1]
  show some ((vp_cell (ez_ca G 3) (len, .inr (.inr (.inr (.inr (fun j => (f j).map (ez_ad G))))))).setSlot _ _) = some (vp_cell (ez_ca G 3) (len, .inr (.inr (.inr (.inr (fun z => (va_up f j (some v) z).map (ez_ad G)))))))
  rw [vp_cell_q, vp_cell_q, arrV_store, hk]
  congr 2
  funext y
  by_cases hy : y = j
  · subst hy
    simp [updV, va_up, va_rf]
  · simp [updV, va_up, hy]
theorem ez_new {G : ez_G} {M : ez_M} {d : Nat} {Q : ez_Q} {h : ez_H} {n mc ms pc q : Nat} {ls : List (Option Value)} {st : List Value} {idx ci N : Nat} {fs : List Value} (hd : decode M.2.1 pc = .ok (.new idx, 3)) (hci : ci < 8) (hk : ez_T (.classLink M.1.cls idx (ez_cl ci).1)) (hi : ez_T (.instantiable (ez_cl ci).1 (ez_cl ci).2.2)) (hini : ez_T (.initialized (ez_cl ci).1)) (hN : (ez_cl ci).2.2 = N) (hfs : ∀ G, ∀ j, j < (ez_cl ci).2.2 → defaultValue (ez_tyf ci j) = vp_V (fs.map (ez_v G)) j) (hq : pc + 3 = q) (K : E G M d Q (ez_up h n (.inr (ci, fs))) (n + 1) mc ms q ls (.ref n :: st)) : E G M d Q h n (mc + 1) (ms + N) pc ls st := by
  subst hq; subst hN
  intro p e R s m args below meth c H locs cells slots mt mS la X hR hS hL hc hs
  have hts : ∀ w ∈ u_ws (ez_cl ci).1 (ez_cl ci).2.1 (ez_cl ci).2.2, w.before args s = true := fun w hw => X.2.2.2.2.2.2.2.2.1.w (ez_lay hci hw) args
  have hKn := X.2.2.2.2.2.2.2.2.1.2.1.1 ci _ (ez_cl_get hci)
  have hsz := hR.size
  refine W.newcK X.1 X.2.1 X.2.2.2.1 (X.2.2.2.2.2.2.2.2.1.w hk args) (X.2.2.2.2.2.2.2.2.1.w hi args) (X.2.2.2.2.2.2.2.2.1.w hini args) rfl hd (by omega) (by omega) hKn.2.1 hsz fun H1 kC hkC e1 z1 o1 => ?_
  refine K p e R s m args below meth c H1 locs (cells + 1) (slots + _) mt mS la X (hR.push ?_ (by rw [z1, hsz]) (fun y hy => o1 y (by rw [← hsz]; exact hy))) ⟨Nat.le_trans hS.1 (by omega), fun x h1 h2 => (o1 x (by have := hS.1; omega)).trans (hS.2.1 x h1 h2), hS.2.2⟩ hL (by omega) (by omega)
  exact ⟨_, ez_cl_get hci, (u_born (ez_tyf ci) hts (fun _ h9 => h9) hKn hkC e1 (ez_ty_ok hci)).to (hfs G)⟩
theorem ez_newc {G : ez_G} {M : ez_M} {d : Nat} {Q : ez_Q} {h : ez_H} {n mc ms pc q : Nat} {ls : List (Option Value)} {st : List Value} {at_ : ArrayType} {len cA : Nat} {ty : FieldType} {i : Int32} {x : va_E} (hd : decode M.2.1 pc = .ok (.newarray at_, 2)) (hty : newarray.typeOf at_ = ty) (harr : ez_T (.arrayClass ty)) (hA : ∀ G, (ez_ca G cA, ty) ∈ ez_tys G) (hx : ∀ G H, H[ez_ad G n]? = some (arrV (ez_ca G cA) len (fun _ => defaultValue ty)) → va_at (ez_D G) vwCl (ez_ad G n, ez_e G x) H) (hprim : ty.isReference = false) (hi : i = nI len) (hlen : len < 100000) (hb : componentBytes ty ≤ 8) (hq : pc + 2 = q) (K : E G M d Q (ez_up h n x) (n + 1) mc ms q ls (.ref n :: st)) : E G M d Q h n (mc + 1) (ms + len) pc ls (.int i :: st) := by
  subst hq; subst hi; subst hty
  intro p e R s m args below meth c H locs cells slots mt mS la X hR hS hL hc hs
  have hsz := hR.size
  refine va_newaK X.1 X.2.1 (X.2.2.2.2.2.2.2.2.1.w harr args) rfl hd rfl (nI_pos (by omega)) (nI_clamp (by omega)) (by have := Nat.mul_le_mul (Nat.le_of_lt hlen) hb; omega) (by omega) (by omega) hsz fun H1 cB e1 z1 o1 hAr hNm => ?_
  obtain ⟨kk, hkk⟩ := List.getElem?_of_mem (hA G)
  have hB : cB = ez_ca G cA := by
    have h2 := (X.2.2.2.2.2.2.2.2.1.2.1.2 kk _ hkk).2
    have h3 : s.vm.findClass ("[" ++ (newarray.typeOf at_).toString) = some (ez_ca G cA) := by
      cases at_ <;> exact h2
    exact Option.some.inj (hNm.symm.trans h3)
  subst hB
  refine K p e R s m args below meth c H1 locs (cells + 1) (slots + _) mt mS la X (hR.push (hx G H1 e1) (by rw [z1, hsz]) (fun y hy => o1 y (by rw [← hsz]; exact hy))) ⟨Nat.le_trans hS.1 (by omega), fun x h1 h2 => (o1 x (by have := hS.1; omega)).trans (hS.2.1 x h1 h2), hS.2.2⟩ hL (by omega) (by omega)
theorem ez_newi {G : ez_G} {M : ez_M} {d : Nat} {Q : ez_Q} {h : ez_H} {n mc ms pc q : Nat} {ls : List (Option Value)} {st : List Value} {len : Nat} {i : Int32} (hd : decode M.2.1 pc = .ok (.newarray .int, 2)) (harr : ez_T (.arrayClass .int)) (hi : i = nI len) (hlen : len < 100000) (hq : pc + 2 = q) (K : E G M d Q (ez_up h n (.inl (0, len, .inl (fun _ => 0)))) (n + 1) mc ms q ls (.ref n :: st)) : E G M d Q h n (mc + 1) (ms + len) pc ls (.int i :: st) :=
  ez_newc (x := .inl (0, len, .inl (fun _ => 0))) (ty := .int) (cA := 0) hd rfl harr (fun _ => List.mem_cons_self) (fun _ _ h => h) rfl hi hlen (by decide) hq K
theorem ez_newch {G : ez_G} {M : ez_M} {d : Nat} {Q : ez_Q} {h : ez_H} {n mc ms pc q : Nat} {ls : List (Option Value)} {st : List Value} {len : Nat} {i : Int32} (hd : decode M.2.1 pc = .ok (.newarray .char, 2)) (harr : ez_T (.arrayClass .char)) (hi : i = nI len) (hlen : len < 100000) (hq : pc + 2 = q) (K : E G M d Q (ez_up h n (.inl (1, len, .inl (fun _ => 0)))) (n + 1) mc ms q ls (.ref n :: st)) : E G M d Q h n (mc + 1) (ms + len) pc ls (.int i :: st) :=
  ez_newc (x := .inl (1, len, .inl (fun _ => 0))) (ty := .char) (cA := 1) hd rfl harr (fun _ => List.mem_cons_of_mem _ List.mem_cons_self) (fun _ _ h => h) rfl hi hlen (by decide) hq K
theorem ez_anew {G : ez_G} {M : ez_M} {d : Nat} {Q : ez_Q} {h : ez_H} {n mc ms pc q : Nat} {ls : List (Option Value)} {st : List Value} {idx len : Nat} {i : Int32} (hd : decode M.2.1 pc = .ok (.anewarray idx, 3)) (hk : ez_T (.classLink M.1.cls idx "FutureWishes$State")) (hover : Cond.arrayOver (.object "FutureWishes$State") ∈ lw_tbl) (hi : i = nI len) (hlen : len < 100000) (hq : pc + 3 = q) (K : E G M d Q (ez_up h n (.inl (3, len, .inr (.inr (.inr (.inr (fun _ => none))))))) (n + 1) mc ms q ls (.ref n :: st)) : E G M d Q h n (mc + 1) (ms + len) pc ls (.int i :: st) := by
  subst hq; subst hi
  intro p e R s m args below meth c H locs cells slots mt mS la X hR hS hL hc hs
  have hsz := hR.size
  have hcl := nI_clamp (n := len) (by omega)
  refine W.anew X.1 X.2.1 X.2.2.2.1 (X.2.2.2.2.2.2.2.2.1.w hk args) (va_AO.use (X.2.2.2.2.2.2.2.2.1.n hover rfl)) rfl hd rfl (nI_pos (by omega)) (by rw [hcl]; omega) (by omega) (by rw [hcl]; omega) fun cA kA comp f1 f2 f3 f4 => ?_
  rw [hcl]
  have hB : cA = ez_ca G 3 := by
    obtain ⟨_, _, -, -, -, h4⟩ := (X.2.2.2.2.2.2.2.2.1.2.1.2 3 _ rfl).2
    exact Option.some.inj (f1.symm.trans h4)
  subst hB
  have z1 : (H.push ({ cls := ez_ca G 3, slots := Array.replicate len .null, vm := .none } : Cell)).size = H.size + 1 := Array.size_push ..
  have e1 : (H.push ({ cls := ez_ca G 3, slots := Array.replicate len .null, vm := .none } : Cell))[H.size]? = some (arrV (ez_ca G 3) len (fun _ => .null)) := by rw [Array.getElem?_push_size, ← arrV_new]
  have o1 : ∀ y : Nat, y < H.size → (H.push ({ cls := ez_ca G 3, slots := Array.replicate len .null, vm := .none } : Cell))[y]? = H[y]? := fun y hy => by rw [Array.getElem?_push, if_neg (Nat.ne_of_lt hy)]
  rw [hsz] at e1 ⊢
  refine K p e R s m args below meth c _ locs (cells + 1) (slots + _) mt mS la X (hR.push e1 z1 o1) ⟨Nat.le_trans hS.1 (by omega), fun x h1 h2 => (o1 x (by have := hS.1; omega)).trans (hS.2.1 x h1 h2), hS.2.2⟩ hL (by omega) (by omega)
theorem ez_ldc {G : ez_G} {M : ez_M} {d : Nat} {Q : ez_Q} {h : ez_H} {n mc ms pc q : Nat} {ls : List (Option Value)} {st : List Value} {idx : Nat} {v : Int32} (hd : decode M.2.1 pc = .ok (.ldc idx, 2)) (hk : ez_T (.constant M.1.cls idx v)) (hq : pc + 2 = q) (K : E G M d Q h n mc ms q ls (.int v :: st)) : E G M d Q h n mc ms pc ls st := by
  subst hq
  intro p e R s m args below meth c H locs cells slots mt mS la X hR hS hL hc hs
  exact lv_ldc X.1 X.2.1 X.2.2.2.1 (X.2.2.2.2.2.2.2.2.1.w hk args) hd (K p e R s m args below meth c H locs cells slots mt mS la X hR hS hL hc hs)
theorem ez_ldcw {G : ez_G} {M : ez_M} {d : Nat} {Q : ez_Q} {h : ez_H} {n mc ms pc q : Nat} {ls : List (Option Value)} {st : List Value} {idx : Nat} {v : Int32} (hd : decode M.2.1 pc = .ok (.ldc_w idx, 3)) (hk : ez_T (.constant M.1.cls idx v)) (hq : pc + 3 = q) (K : E G M d Q h n mc ms q ls (.int v :: st)) : E G M d Q h n mc ms pc ls st := by
  subst hq
  intro p e R s m args below meth c H locs cells slots mt mS la X hR hS hL hc hs
  exact lv_ldcw X.1 X.2.1 X.2.2.2.1 (X.2.2.2.2.2.2.2.2.1.w hk args) hd (K p e R s m args below meth c H locs cells slots mt mS la X hR hS hL hc hs)
theorem ez_ldc2 {G : ez_G} {M : ez_M} {d : Nat} {Q : ez_Q} {h : ez_H} {n mc ms pc q : Nat} {ls : List (Option Value)} {st : List Value} {idx : Nat} {v : Int64} (hd : decode M.2.1 pc = .ok (.ldc2_w idx, 3)) (hk : ez_T (.constantLong M.1.cls idx v)) (hq : pc + 3 = q) (K : E G M d Q h n mc ms q ls (.long v :: st)) : E G M d Q h n mc ms pc ls st := by
  subst hq
  intro p e R s m args below meth c H locs cells slots mt mS la X hR hS hL hc hs
  exact lv_ldc2 X.1 X.2.1 X.2.2.2.1 (X.2.2.2.2.2.2.2.2.1.w hk args) hd (K p e R s m args below meth c H locs cells slots mt mS la X hR hS hL hc hs)
theorem ez_ldc2d {G : ez_G} {M : ez_M} {d : Nat} {Q : ez_Q} {h : ez_H} {n mc ms pc q : Nat} {ls : List (Option Value)} {st : List Value} {idx : Nat} {v : UInt64} (hd : decode M.2.1 pc = .ok (.ldc2_w idx, 3)) (hk : ez_T (.constantDouble M.1.cls idx v)) (hq : pc + 3 = q) (K : E G M d Q h n mc ms q ls (.double v :: st)) : E G M d Q h n mc ms pc ls st := by
  subst hq
  intro p e R s m args below meth c H locs cells slots mt mS la X hR hS hL hc hs
  exact lv_ldc2d X.1 X.2.1 X.2.2.2.1 (X.2.2.2.2.2.2.2.2.1.w hk args) hd (K p e R s m args below meth c H locs cells slots mt mS la X hR hS hL hc hs)
theorem ez_objInit {G : ez_G} {M : ez_M} {d : Nat} {Q : ez_Q} {h : ez_H} {n mc ms pc q : Nat} {ls : List (Option Value)} {st : List Value} {idx a : Nat} (hd : decode M.2.1 pc = .ok (.invokespecial idx, 3)) (hk : ez_T (.methodLink M.1.cls idx objectInit)) (hk2 : ez_T (.instanceMethod objectInit)) (hk3 : ez_T (.code objectInit ⟨#[0xb1]⟩ 1 none)) (hrm : (st.map fun v => v.category).sum ≤ 8) (hq : pc + 3 = q) (K : E G M (d + 1) Q h n mc ms q ls st) : E G M (d + 1) Q h n mc ms pc ls (.ref a :: st) := by
  subst hq
  intro p e R s m args below meth c H locs cells slots mt mS la X hR hS hL hc hs
  refine W.objInit X.1 X.2.1 X.2.2.2.1 (X.2.2.2.2.2.2.2.2.1.w hk args) (X.2.2.2.2.2.2.2.2.1.w hk2 args) (X.2.2.2.2.2.2.2.2.1.w hk3 args) rfl (hL.1.trans X.2.2.2.2.2.1.symm) rfl hd (by have := X.2.2.2.2.2.2.2.2.2.1; omega) ?_ (W.eq rfl (K p e R s m args below meth c H locs cells slots mt mS la X hR hS hL hc hs))
  have := X.2.2.2.2.2.2.2.2.2.2.1
  have h9 := ez_st_cat G st
  show 2 * 0 + ((st.map (ez_v G)).map fun v => v.category).sum + 12 ≤ _
  omega
theorem ez_iret {G : ez_G} {M : ez_M} {d : Nat} {Q : ez_Q} {h : ez_H} {n mc ms pc : Nat} {ls : List (Option Value)} {x : Int32} (hd : decode M.2.1 pc = .ok (.ireturn, 1)) (hr : M.2.2.2.1 = some .int) (hQ : Q (.inl (some (.int x))) h n) : E G M d Q h n mc ms pc ls [.int x] := by
  intro p e R s m args below meth c H locs cells slots mt mS la X hR hS hL hc hs
  have hlocks : meth.locks = false := X.2.2.2.2.1
  refine vx_ret (W.widen (k := mt) (n := mS) (by omega) (by omega) ?_)
  exact W.iret (v := x) X.1 X.2.1 (X.2.2.1.trans hr) (fun t ht hW => ⟨⟨some (.int x), h, n, rfl, hQ, by rw [ht]; exact hR⟩, hS.F ht⟩) hS.2.2 hd hlocks
theorem ez_lret {G : ez_G} {M : ez_M} {d : Nat} {Q : ez_Q} {h : ez_H} {n mc ms pc : Nat} {ls : List (Option Value)} {x : Int64} (hd : decode M.2.1 pc = .ok (.lreturn, 1)) (hr : M.2.2.2.1 = some .long) (hQ : Q (.inl (some (.long x))) h n) : E G M d Q h n mc ms pc ls [.long x] := by
  intro p e R s m args below meth c H locs cells slots mt mS la X hR hS hL hc hs
  have hlocks : meth.locks = false := X.2.2.2.2.1
  refine vx_ret (W.widen (k := mt) (n := mS) (by omega) (by omega) ?_)
  exact W.lret (v := x) X.1 X.2.1 (X.2.2.1.trans hr) (fun t ht hW => ⟨⟨some (.long x), h, n, rfl, hQ, by rw [ht]; exact hR⟩, hS.F ht⟩) hS.2.2 hd hlocks
theorem ez_dret {G : ez_G} {M : ez_M} {d : Nat} {Q : ez_Q} {h : ez_H} {n mc ms pc : Nat} {ls : List (Option Value)} {x : UInt64} (hd : decode M.2.1 pc = .ok (.dreturn, 1)) (hr : M.2.2.2.1 = some .double) (hQ : Q (.inl (some (.double x))) h n) : E G M d Q h n mc ms pc ls [.double x] := by
  intro p e R s m args below meth c H locs cells slots mt mS la X hR hS hL hc hs
  have hlocks : meth.locks = false := X.2.2.2.2.1
  refine vx_ret (W.widen (k := mt) (n := mS) (by omega) (by omega) ?_)
  exact W.dret (v := x) X.1 X.2.1 (X.2.2.1.trans hr) (fun t ht hW => ⟨⟨some (.double x), h, n, rfl, hQ, by rw [ht]; exact hR⟩, hS.F ht⟩) hS.2.2 hd hlocks
theorem ez_zret {G : ez_G} {M : ez_M} {d : Nat} {Q : ez_Q} {h : ez_H} {n mc ms pc : Nat} {ls : List (Option Value)} {x : Int32} {ty : FieldType} (hd : decode M.2.1 pc = .ok (.ireturn, 1)) (hr : M.2.2.2.1 = some ty) (hn : narrow ty (.int x) = .int x) (hQ : Q (.inl (some (.int x))) h n) : E G M d Q h n mc ms pc ls [.int x] := by
  intro p e R s m args below meth c H locs cells slots mt mS la X hR hS hL hc hs
  have hlocks : meth.locks = false := X.2.2.2.2.1
  refine vx_ret (W.widen (k := mt) (n := mS) (by omega) (by omega) ?_)
  exact W.zret (v := x) X.1 X.2.1 (X.2.2.1.trans hr) hn (fun t ht hW => ⟨⟨some (.int x), h, n, rfl, hQ, by rw [ht]; exact hR⟩, hS.F ht⟩) hS.2.2 hd hlocks
theorem ez_vret {G : ez_G} {M : ez_M} {d : Nat} {Q : ez_Q} {h : ez_H} {n mc ms pc : Nat} {ls : List (Option Value)} (hd : decode M.2.1 pc = .ok (.return_, 1)) (hr : M.2.2.2.1 = none) (hQ : Q (.inl none) h n) : E G M d Q h n mc ms pc ls [] := by
  intro p e R s m args below meth c H locs cells slots mt mS la X hR hS hL hc hs
  have hlocks : meth.locks = false := X.2.2.2.2.1
  refine vx_ret (W.widen (k := mt) (n := mS) (by omega) (by omega) ?_)
  exact W.vret X.1 X.2.1 (X.2.2.1.trans hr) (fun t ht hW => ⟨⟨none, h, n, rfl, hQ, by rw [ht]; exact hR⟩, hS.F ht⟩) hS.2.2 hd hlocks
def ez_tw (own cls : String) (ik ic : Nat) : Bool := (Cond.classLink own ik cls :: Cond.initialized cls :: vx_atS own ic cls ["java/lang/RuntimeException", "java/lang/Exception"]).all (fun w => decide (w ∈ lw_tbl) && (goodWord w || ez_isn w) && vx_ot w) && Bundle.fit cls
theorem ez_throw {G : ez_G} {M : ez_M} {d : Nat} {Q : ez_Q} {h : ez_H} {n mc ms pc : Nat} {ls : List (Option Value)} {st : List Value} {ik is ic : Nat} {cls text : String} (hown : M.1.cls = RX7) (htab : M.2.2.2.2 = []) (hck : ez_tw M.1.cls cls ik ic = true) (hstr : (is, text) ∈ ez_strs)
    (d0 : decode M.2.1 pc = .ok (.new ik, 3)) (d3 : decode M.2.1 (pc + 3) = .ok (.dup, 1)) (d4 : decode M.2.1 (pc + 4) = .ok (.ldc is, 2)) (d6 : decode M.2.1 (pc + 6) = .ok (.invokespecial ic, 3)) (d9 : decode M.2.1 (pc + 9) = .ok (.athrow, 1))
    (hrm : (st.map fun v => v.category).sum ≤ 8) (hQ : ∀ n', n ≤ n' → Q (.inr cls) h n') : E G M (d + 6) Q h n (mc + 1) (ms + 6) pc ls st := by
  intro p e R s m args below meth c H locs cells slots mt mS la X hR hS hL hc hs
  have hfr := X.2.2.2.2.2.2.2.2.2.1
  have hlo := X.2.2.2.2.2.2.2.2.2.2.1
  have h9 := ez_st_cat G st
  unfold ez_tw at hck
  rw [Bool.and_eq_true] at hck
  have hall := List.all_eq_true.mp hck.1
  have hw : ∀ w ∈ Cond.classLink M.1.cls ik cls :: Cond.initialized cls :: vx_atS M.1.cls ic cls ["java/lang/RuntimeException", "java/lang/Exception"], w.before args s = true ∧ vx_ot w = true := by
    intro w hw
    have h1 := hall w hw
    simp only [Bool.and_eq_true, decide_eq_true_eq] at h1
    have h2 := X.2.2.2.2.2.2.2.2.1.2.2.2.2.2.2.1 w h1.1.1 h1.1.2
    refine ⟨?_, h1.2⟩
    exact vx_ot_at (State.WarmedH.refl s) rfl h1.2 h2
  obtain ⟨sa, hsa⟩ := X.2.2.2.2.2.2.2.2.1.2.2.2.2.1 _ hstr
  refine vx_throwS X.1 X.2.1 X.2.2.2.2.2.2.2.2.1.1 X.2.2.2.1 (names := ["java/lang/RuntimeException", "java/lang/Exception"]) (cls := cls) (ik := ik) (is := is) (ic := ic) hck.2 (by decide +kernel) (hw _ List.mem_cons_self).1 (hw _ (List.mem_cons_of_mem _ List.mem_cons_self)).1 (by rw [hown]; exact hsa) (fun w h => (hw w (List.mem_cons_of_mem _ (List.mem_cons_of_mem _ h))).1) (fun w h => (hw w h).2) X.2.2.2.2.2.2.2.2.1.2.2.1 X.2.2.2.2.2.2.2.2.1.2.2.2.1 hS (hL.1.trans X.2.2.2.2.2.1.symm) d0 d3 d4 d6 d9 (by rw [X.2.2.2.2.2.2.2.1, htab]; intro x hx; cases hx) (by show 2 + 3 < _; omega) (by show _ + (13 * 3 + 43) ≤ _; omega) (by omega) (by omega) X.2.2.2.2.1 (fun t ht hz hk => ?_) hS.2.2 (by omega) (by omega)
  have hz1 := hR.1
  refine ⟨⟨h, t.heap.size + 1 - ez_o G, hQ _ (by omega), hR.kept (by omega) (by omega) hk⟩, ⟨Nat.le_trans hS.1 hz, fun y h1 h2 => (hk y (by have := hS.1; omega)).trans (hS.2.1 y h1 h2)⟩⟩
theorem ez_throwW {G : ez_G} {M : ez_M} {d : Nat} {Q : ez_Q} {h : ez_H} {n mc ms pc : Nat} {ls : List (Option Value)} {st : List Value} {ik is ic : Nat} {cls text : String} (hown : M.1.cls = RX7) (htab : M.2.2.2.2 = []) (hck : ez_tw M.1.cls cls ik ic = true) (hstr : (is, text) ∈ ez_strs)
    (d0 : decode M.2.1 pc = .ok (.new ik, 3)) (d3 : decode M.2.1 (pc + 3) = .ok (.dup, 1)) (d4 : decode M.2.1 (pc + 4) = .ok (.ldc_w is, 3)) (d6 : decode M.2.1 (pc + 7) = .ok (.invokespecial ic, 3)) (d9 : decode M.2.1 (pc + 10) = .ok (.athrow, 1))
    (hrm : (st.map fun v => v.category).sum ≤ 8) (hQ : ∀ n', n ≤ n' → Q (.inr cls) h n') : E G M (d + 6) Q h n (mc + 1) (ms + 6) pc ls st := by
  intro p e R s m args below meth c H locs cells slots mt mS la X hR hS hL hc hs
  have hfr := X.2.2.2.2.2.2.2.2.2.1
  have hlo := X.2.2.2.2.2.2.2.2.2.2.1
  have h9 := ez_st_cat G st
  unfold ez_tw at hck
  rw [Bool.and_eq_true] at hck
  have hall := List.all_eq_true.mp hck.1
  have hw : ∀ w ∈ Cond.classLink M.1.cls ik cls :: Cond.initialized cls :: vx_atS M.1.cls ic cls ["java/lang/RuntimeException", "java/lang/Exception"], w.before args s = true ∧ vx_ot w = true := by
    intro w hw
    have h1 := hall w hw
    simp only [Bool.and_eq_true, decide_eq_true_eq] at h1
    have h2 := X.2.2.2.2.2.2.2.2.1.2.2.2.2.2.2.1 w h1.1.1 h1.1.2
    refine ⟨?_, h1.2⟩
    exact vx_ot_at (State.WarmedH.refl s) rfl h1.2 h2
  obtain ⟨sa, hsa⟩ := X.2.2.2.2.2.2.2.2.1.2.2.2.2.1 _ hstr
  refine vx_throwSW X.1 X.2.1 X.2.2.2.2.2.2.2.2.1.1 X.2.2.2.1 (names := ["java/lang/RuntimeException", "java/lang/Exception"]) (cls := cls) (ik := ik) (is := is) (ic := ic) hck.2 (by decide +kernel) (hw _ List.mem_cons_self).1 (hw _ (List.mem_cons_of_mem _ List.mem_cons_self)).1 (by rw [hown]; exact hsa) (fun w h => (hw w (List.mem_cons_of_mem _ (List.mem_cons_of_mem _ h))).1) (fun w h => (hw w h).2) X.2.2.2.2.2.2.2.2.1.2.2.1 X.2.2.2.2.2.2.2.2.1.2.2.2.1 hS (hL.1.trans X.2.2.2.2.2.1.symm) d0 d3 d4 d6 d9 (by rw [X.2.2.2.2.2.2.2.1, htab]; intro x hx; cases hx) (by show 2 + 3 < _; omega) (by show _ + (13 * 3 + 43) ≤ _; omega) (by omega) (by omega) X.2.2.2.2.1 (fun t ht hz hk => ?_) hS.2.2 (by omega) (by omega)
  have hz1 := hR.1
  refine ⟨⟨h, t.heap.size + 1 - ez_o G, hQ _ (by omega), hR.kept (by omega) (by omega) hk⟩, ⟨Nat.le_trans hS.1 hz, fun y h1 h2 => (hk y (by have := hS.1; omega)).trans (hS.2.1 y h1 h2)⟩⟩
end
section
/-- an exception of class x flies at pc -/
def EX (G : ez_G) (M : ez_M) (d : Nat) (Q : ez_Q) (h : ez_H) (n mc ms pc : Nat) (ls : List (Option Value)) (x : String) : Prop :=
  ∀ (p : Program) (e : Env) (R : Room) (s : State) (m : MethodId) (args : Array Value) (below : List Frame) (meth : Method) (c : Code) (H : Heap) (locs : List Loc) (cells slots mt mS : Nat) (la : Array Slot) (q9 : Addr) (ce : Cell) (rest : List Value),
    ez_X G M d p R s m meth c → ez_R G h n H → va_S (ez_A G) s.heap H locs → ez_L G la M.2.2.1 ls → (cells + mc ≤ mt ∧ mt ≤ R.cells) → (slots + ms ≤ mS ∧ mS ≤ R.slots) → H[q9]? = some ce → ce.vm = .none → s.vm.findClass x = some ce.cls →
    vx_W p (ez_l G) e R s m args below meth c H locs cells slots (vx_MQ below (ez_Qc G Q) (ez_Xc G Q) args s mt mS (ez_A G)) (F0 m pc la rest) q9
def ez_kB (M' : ez_M) (na : Nat) : Prop := ez_T (.initialized M'.1.cls) ∧ ez_T (ez_w M') ∧ M'.2.2.1 ≤ 25 ∧ (M'.1.cls ≠ "java/lang/invoke/MethodHandle" ∧ M'.1.cls ≠ "java/lang/invoke/VarHandle") ∧ (parseMethodDescriptor M'.1.desc).map (fun d => d.parameters.length) = some na
def ez_kV (own : String) (idx : Nat) (M' : ez_M) (na : Nat) : Prop := ez_kB M' na ∧ ez_T (.methodLink own idx M'.1) ∧ ez_T (.instanceMethod M'.1) ∧ ez_T (.selects M'.1.cls M'.1 M'.1)
def ez_kS (own : String) (idx : Nat) (M' : ez_M) (na : Nat) : Prop := ez_kB M' na ∧ ez_T (.methodLink own idx M'.1) ∧ ez_T (.static M'.1)
def ez_kI (own : String) (idx : Nat) (M' : ez_M) (na : Nat) : Prop := ez_kB M' na ∧ ez_T (.methodLink own idx M'.1) ∧ ez_T (.instanceMethod M'.1) ∧ M'.1.name = "<init>"
def ez_kN (own : String) (idx : Nat) (M' : ez_M) (na : Nat) : Prop := ez_kB M' na ∧ Cond.methodLinkNest own idx M'.1 "FutureWishes" ∈ lw_tbl ∧ ez_T (.instanceMethod M'.1) ∧ M'.1.name = "<init>"
theorem ez_wN {M : ez_M} (h : M.2.2.2.2 = []) : ez_w M = .code M.1 M.2.1 M.2.2.1 M.2.2.2.1 := by rw [ez_w, h]
theorem ez_blind {G : ez_G} {as : List Value} {h : ez_H} {n : Nat} : FrameBlind (ez_Pc G as h n) := fun a U g mk ⟨h1, h2, h3⟩ => ⟨h1, h2, h3.warm (State.WarmedH.refl U) (fun _ _ _ => rfl)⟩
theorem ez_pre {G : ez_G} {M : ez_M} {d : Nat} {as : List Value} {h : ez_H} {n : Nat} {p : Program} {R : Room} {s : State} {m : MethodId} {meth : Method} {c : Code} {H : Heap} {locs : List Loc} (X : ez_X G M d p R s m meth c) (hR : ez_R G h n H) (hS : va_S (ez_A G) s.heap H locs) : ∀ U : State, U.heap = H → s.WarmedH U.vm → ez_Pc G as h n (as.map (ez_v G)).toArray U := fun U hU hW => ⟨rfl, by rw [hU]; exact hR, X.2.2.2.2.2.2.2.2.1.warm hW (fun a h1 h2 => by rw [hU]; exact hS.2.1 a h1 h2)⟩
/-- from the run of a call to the walk behind it -/
theorem ez_back {G : ez_G} {M : ez_M} {d : Nat} {Q Q' : ez_Q} {mc mc' ms ms' pc : Nat} {ls : List (Option Value)} {st0 st : List Value} {a : Array Value}
    {p : Program} {e : Env} {R : Room} {s : State} {m : MethodId} {args : Array Value} {below : List Frame} {meth : Method} {c : Code} {H : Heap} {locs : List Loc} {cells slots mt mS : Nat} {la : Array Slot}
    (hr : vx_Run p (ez_l G) e R s m args below meth c H locs cells slots mc' ms' (F0 m pc la (st0.map (ez_v G))) (st.map (ez_v G)) (ez_Qc G Q' a) (ez_Xc G Q') (ez_A G))
    (KX : ∀ x h' n', Q' (.inr x) h' n' → EX G M d Q h' n' mc ms pc ls x) (K : ∀ r h' n', Q' (.inl r) h' n' → E G M d Q h' n' mc ms (pc + 3) ls (r.toList ++ st))
    (X : ez_X G M d p R s m meth c) (hS : va_S (ez_A G) s.heap H locs) (hL : ez_L G la M.2.2.1 ls) (hc : cells + (mc' + mc) ≤ mt ∧ mt ≤ R.cells) (hs : slots + (ms' + ms) ≤ mS ∧ mS ≤ R.slots) :
    W p (ez_l G) e R s m args below meth c H locs cells slots (vx_MQ below (ez_Qc G Q) (ez_Xc G Q) args s mt mS (ez_A G)) (F0 m pc la (st0.map (ez_v G))) := by
  intro T hT XT
  rcases hr T hT XT with ⟨v, st₀, t, T', L, h0, X2, hL2, e1, e2, ⟨⟨r, h', n', hv, hq, hR'⟩, hF⟩, stp⟩ | ⟨q9, st₀, t, T', L, E9, ce, h0, X2, hL2, e1, e2, ⟨⟨h', n', hq, hR'⟩, hF⟩, hce, hcv, hcl, stp⟩
  · have hv2 : v = r.map (ez_v G) := Outcome.returned.inj hv
    subst hv2
    obtain ⟨k1, k2, k3⟩ := vx_keep h0 e1 hS (fun _ _ h => h) (fun _ h => h) hL2 hF
    obtain ⟨t2, a1, b1⟩ := K r h' n' hq p e R s m args below meth c T'.heap (locs ++ L) (cells + mc') (slots + ms') mt mS la X (by rw [e1]; exact hR') k3 hL (by omega) (by omega) T' rfl X2
    refine ⟨t2, stp t2 ?_, b1⟩
    cases r with
    | none => exact a1
    | some v => exact a1
  · obtain ⟨k1, k2, k3⟩ := vx_keep h0 e1 hS (fun _ _ h => h) (fun _ h => h) hL2 hF
    obtain ⟨t2, a1, b1⟩ := KX E9 h' n' hq p e R s m args below meth c T'.heap (locs ++ L) (cells + mc') (slots + ms') mt mS la q9 ce (st.map (ez_v G)) X (by rw [e1]; exact hR') k3 hL (by omega) (by omega) (by rw [e1]; exact hce) hcv hcl T' rfl X2
    exact ⟨t2, stp.trans a1, b1⟩
theorem ez_callV {G : ez_G} {M : ez_M} {d : Nat} {Q : ez_Q} {h : ez_H} {n mc ms pc q : Nat} {ls : List (Option Value)} {st : List Value} {M' : ez_M} {Q' : ez_Q} {idx na mc' ms' a ci : Nat} {As as st0 : List Value} {fs : List Value} (hd : decode M.2.1 pc = .ok (.invokevirtual idx, 3)) (hck : ez_kV M.1.cls idx M' na) (htab : M'.2.2.2.2 = []) (hC : Con G M' d as h n mc' ms' Q') (hc0 : h a = some (.inr (ci, fs))) (hci : ci < 8 ∧ (ez_cl ci).1 = M'.1.cls) (has : as = .ref a :: As) (hst : st0 = As.reverse ++ .ref a :: st) (hna : As.length = na) (hrm : (st.map fun v => v.category).sum ≤ 8) (hq : pc + 3 = q)
    (KX : ∀ x h' n', Q' (.inr x) h' n' → EX G M (d + 1) Q h' n' mc ms pc ls x) (K : ∀ r h' n', Q' (.inl r) h' n' → E G M (d + 1) Q h' n' mc ms q ls (r.toList ++ st)) : E G M (d + 1) Q h n (mc' + mc) (ms' + ms) pc ls st0 := by
  subst hq; subst has; subst hst
  intro p e R s m args below meth c H locs cells slots mt mS la X hR hS hL hc hs
  obtain ⟨⟨g1, g2, g3, ⟨g4, g5⟩, g6⟩, k1, k2, k3⟩ := hck
  have w1 := X.2.2.2.2.2.2.2.2.1.w k1 args
  have w2 := X.2.2.2.2.2.2.2.2.1.w k2 args
  have w3 := X.2.2.2.2.2.2.2.2.1.w k3 args
  have hcat := ez_st_cat G st
  obtain ⟨cB, c1, c2, c3⟩ := va_recv X.2.2.2.2.2.2.2.2.1.2.1 (ez_one hR hc0) (ci := ci) (q0 := 0) (ez_cl_get hci.1) rfl
  rw [hci.2] at c3
  refine ez_back (a := (Value.ref (ez_ad G a) :: As.map (ez_v G)).toArray) (vx_runV (nL := M.2.2.1) (bytes := M'.2.1) (maxL := M'.2.2.1) (ret := M'.2.2.2.1) (n := na) (C := M'.1.cls) (As := As.map (ez_v G)) (b := ez_ad G a) (Ts := []) ⟨X.1, X.2.1, X.2.2.2.2.2.1, X.2.2.2.1, fun w hw => nomatch hw⟩ hC ⟨⟨rfl, rfl, by have := X.2.2.2.2.2.2.2.2.2.1; show d + 1 ≤ R.frames; omega, by have := X.2.2.2.2.2.2.2.2.2.2.1; show 8 + (M'.2.2.1 + 11) + 44 * d ≤ R.locals; omega, fun w hw a' U hW => (by
    rw [List.mem_singleton.mp hw]
    exact word_at hW (good_of_word g2.2) (X.2.2.2.2.2.2.2.2.1.w g2 args)), by rw [← ez_wN htab]; exact List.mem_cons_self, by rw [← ez_wN htab]; exact X.2.2.2.2.2.2.2.2.1.w g2 args, X.2.2.2.2.2.2.2.2.1.w g1 args, ⟨g4, g5⟩, fun sig hs => by rw [hs] at g6; exact (Option.some.inj g6).symm, w1⟩, w2, w3⟩ ⟨ez_blind, ⟨cB, c1, c2, c3⟩, ez_pre X hR hS⟩ rfl (by rw [List.length_map]; exact hna) hL.1 (by show (List.map (ez_v G) (As.reverse ++ .ref a :: st)) = _; simp [ez_v]) (by show 2 * 0 + _ ≤ 8; omega) hd ⟨by omega, by omega⟩) KX K X hS hL (by omega) (by omega)
theorem ez_callS {G : ez_G} {M : ez_M} {d : Nat} {Q : ez_Q} {h : ez_H} {n mc ms pc q : Nat} {ls : List (Option Value)} {st : List Value} {M' : ez_M} {Q' : ez_Q} {idx na mc' ms' : Nat} {as st0 : List Value} (hd : decode M.2.1 pc = .ok (.invokestatic idx, 3)) (hck : ez_kS M.1.cls idx M' na) (htab : M'.2.2.2.2 = []) (hC : Con G M' d as h n mc' ms' Q') (hst : st0 = as.reverse ++ st) (hna : as.length = na) (hrm : (st.map fun v => v.category).sum ≤ 8) (hq : pc + 3 = q)
    (KX : ∀ x h' n', Q' (.inr x) h' n' → EX G M (d + 1) Q h' n' mc ms pc ls x) (K : ∀ r h' n', Q' (.inl r) h' n' → E G M (d + 1) Q h' n' mc ms q ls (r.toList ++ st)) : E G M (d + 1) Q h n (mc' + mc) (ms' + ms) pc ls st0 := by
  subst hq; subst hst
  intro p e R s m args below meth c H locs cells slots mt mS la X hR hS hL hc hs
  obtain ⟨⟨g1, g2, g3, ⟨g4, g5⟩, g6⟩, k1, k2⟩ := hck
  have w1 := X.2.2.2.2.2.2.2.2.1.w k1 args
  have w2 := X.2.2.2.2.2.2.2.2.1.w k2 args
  have hcat := ez_st_cat G st
  refine ez_back (a := (as.map (ez_v G)).toArray) (vx_runS (nL := M.2.2.1) (bytes := M'.2.1) (maxL := M'.2.2.1) (ret := M'.2.2.2.1) (n := na) (As := as.map (ez_v G)) (Ts := []) ⟨X.1, X.2.1, X.2.2.2.2.2.1, X.2.2.2.1, fun w hw => nomatch hw⟩ hC ⟨⟨rfl, rfl, by have := X.2.2.2.2.2.2.2.2.2.1; show d + 1 ≤ R.frames; omega, by have := X.2.2.2.2.2.2.2.2.2.2.1; show 8 + (M'.2.2.1 + 11) + 44 * d ≤ R.locals; omega, fun w hw a' U hW => (by
    rw [List.mem_singleton.mp hw]
    exact word_at hW (good_of_word g2.2) (X.2.2.2.2.2.2.2.2.1.w g2 args)), by rw [← ez_wN htab]; exact List.mem_cons_self, by rw [← ez_wN htab]; exact X.2.2.2.2.2.2.2.2.1.w g2 args, X.2.2.2.2.2.2.2.2.1.w g1 args, ⟨g4, g5⟩, fun sig hs => by rw [hs] at g6; exact (Option.some.inj g6).symm, w1⟩, w2⟩ ⟨ez_blind, ez_pre X hR hS⟩ rfl (by rw [List.length_map]; exact hna) hL.1 (by show (List.map (ez_v G) (as.reverse ++ st)) = _; simp) (by show 2 * 0 + _ ≤ 8; omega) hd ⟨by omega, by omega⟩) KX K X hS hL (by omega) (by omega)
theorem ez_callSH {G : ez_G} {M : ez_M} {d : Nat} {Q : ez_Q} {h : ez_H} {n mc ms pc q : Nat} {ls : List (Option Value)} {st : List Value} {M' : ez_M} {Q' : ez_Q} {idx na mc' ms' : Nat} {as st0 : List Value} {hh0 : Nat × Nat × Nat × Nat} {hh1 : List (Nat × Nat × Nat × Nat)} (hd : decode M.2.1 pc = .ok (.invokestatic idx, 3)) (hck : ez_kS M.1.cls idx M' na) (htab : M'.2.2.2.2 = hh0 :: hh1) (hC : Con G M' d as h n mc' ms' Q') (hst : st0 = as.reverse ++ st) (hna : as.length = na) (hrm : (st.map fun v => v.category).sum ≤ 8) (hq : pc + 3 = q)
    (KX : ∀ x h' n', Q' (.inr x) h' n' → EX G M (d + 1) Q h' n' mc ms pc ls x) (K : ∀ r h' n', Q' (.inl r) h' n' → E G M (d + 1) Q h' n' mc ms q ls (r.toList ++ st)) : E G M (d + 1) Q h n (mc' + mc) (ms' + ms) pc ls st0 := by
  subst hq; subst hst
  intro p e R s m args below meth c H locs cells slots mt mS la X hR hS hL hc hs
  obtain ⟨⟨g1, g2, g3, ⟨g4, g5⟩, g6⟩, k1, k2⟩ := hck
  have w1 := X.2.2.2.2.2.2.2.2.1.w k1 args
  have w2 := X.2.2.2.2.2.2.2.2.1.w k2 args
  have hcat := ez_st_cat G st
  have hwe : ez_w M' = .codeWith M'.1 M'.2.1 M'.2.2.1 M'.2.2.2.1 (hh0 :: hh1) := by rw [ez_w, htab]
  refine ez_back (a := (as.map (ez_v G)).toArray) (vx_runSX (hh := hh0 :: hh1) (nL := M.2.2.1) (bytes := M'.2.1) (maxL := M'.2.2.1) (ret := M'.2.2.2.1) (n := na) (As := as.map (ez_v G)) (Ts := []) ⟨X.1, X.2.1, X.2.2.2.2.2.1, X.2.2.2.1, fun w hw => nomatch hw⟩ hC ⟨⟨rfl, rfl, by have := X.2.2.2.2.2.2.2.2.2.1; show d + 1 ≤ R.frames; omega, by have := X.2.2.2.2.2.2.2.2.2.2.1; show 8 + (M'.2.2.1 + 11) + 44 * d ≤ R.locals; omega, fun w hw a' U hW => (by
    rw [List.mem_singleton.mp hw]
    exact word_at hW (good_of_word g2.2) (X.2.2.2.2.2.2.2.2.1.w g2 args)), by rw [← hwe]; exact List.mem_cons_self⟩, by rw [← hwe]; exact X.2.2.2.2.2.2.2.2.1.w g2 args, X.2.2.2.2.2.2.2.2.1.w g1 args, ⟨g4, g5⟩, fun sig hs => by rw [hs] at g6; exact (Option.some.inj g6).symm, w1, w2⟩ ⟨ez_blind, ez_pre X hR hS⟩ rfl (by rw [List.length_map]; exact hna) hL.1 (by show (List.map (ez_v G) (as.reverse ++ st)) = _; simp) (by show 2 * 0 + _ ≤ 8; omega) hd ⟨by omega, by omega⟩) KX K X hS hL (by omega) (by omega)
/-- a contract that never throws, as the kit's Met -/
theorem Con.met {G : ez_G} {M : ez_M} {d : Nat} {as : List Value} {h : ez_H} {n mc ms : Nat} {Q : ez_Q} (hC : Con G M d as h n mc ms Q) (hx : ∀ x h' n', ¬ Q (.inr x) h' n') : Met (ez_l G) M.1 [ez_w M] (ez_rm d mc ms) (ez_Pc G as h n) (ez_Qc G Q) mc ms (ez_A G) := by
  intro p e h1 h2 h3 s m args below h4 h5 h6 h7
  obtain ⟨k, o, g1, g2, g3, g4⟩ := hC p e h1 h2 h3 s m args below h4 h5 h6 h7
  refine ⟨k, o, g1, g2, g3, ?_⟩
  rcases g4 with g | ⟨q9, -, E9, ce, L, ⟨⟨h', n', hq, -⟩, -⟩, -⟩
  · exact g
  · exact absurd hq (hx _ _ _)
theorem ez_run_of {G : ez_G} {Q' : ez_Q} {mc' ms' : Nat} {p : Program} {e : Env} {R : Room} {s : State} {m : MethodId} {args a : Array Value} {below : List Frame} {meth : Method} {c : Code} {H : Heap} {locs : List Loc} {cells slots : Nat} {g : JFrame} {rest : List Value}
    (hr : va_Run p (ez_l G) e R s m args below meth c H locs cells slots mc' ms' g rest (ez_Qc G Q' a) (ez_A G)) : vx_Run p (ez_l G) e R s m args below meth c H locs cells slots mc' ms' g rest (ez_Qc G Q' a) (ez_Xc G Q') (ez_A G) := fun T hT X => Or.inl (hr T hT X)
theorem ez_callI {G : ez_G} {M : ez_M} {d : Nat} {Q : ez_Q} {h : ez_H} {n mc ms pc q : Nat} {ls : List (Option Value)} {st : List Value} {M' : ez_M} {Q' : ez_Q} {idx na mc' ms' a : Nat} {As as st0 : List Value} (hd : decode M.2.1 pc = .ok (.invokespecial idx, 3)) (hck : ez_kI M.1.cls idx M' na) (htab : M'.2.2.2.2 = []) (hret : M'.2.2.2.1 = none) (hC : Con G M' d as h n mc' ms' Q') (has : as = .ref a :: As) (hst : st0 = As.reverse ++ .ref a :: st) (hna : As.length = na) (hrm : (st.map fun v => v.category).sum ≤ 8) (hq : pc + 3 = q)
    (KX : ∀ x h' n', ¬ Q' (.inr x) h' n') (K : ∀ r h' n', Q' (.inl r) h' n' → E G M (d + 1) Q h' n' mc ms q ls (r.toList ++ st)) : E G M (d + 1) Q h n (mc' + mc) (ms' + ms) pc ls st0 := by
  subst hq; subst has; subst hst
  intro p e R s m args below meth c H locs cells slots mt mS la X hR hS hL hc hs
  obtain ⟨⟨g1, g2, g3, ⟨g4, g5⟩, g6⟩, k1, k2, k3⟩ := hck
  have w1 := X.2.2.2.2.2.2.2.2.1.w k1 args
  have w2 := X.2.2.2.2.2.2.2.2.1.w k2 args
  have hcat := ez_st_cat G st
  refine ez_back (a := (Value.ref (ez_ad G a) :: As.map (ez_v G)).toArray) (ez_run_of (va_runI (nL := M.2.2.1) (bytes := M'.2.1) (maxL := M'.2.2.1) (n := na) (As := As.map (ez_v G)) (b := ez_ad G a) (Ts := []) ⟨X.1, X.2.1, X.2.2.2.2.2.1, X.2.2.2.1, fun w hw => nomatch hw⟩ (hC.met KX) ⟨⟨rfl, rfl, by have := X.2.2.2.2.2.2.2.2.2.1; show d + 1 ≤ R.frames; omega, by have := X.2.2.2.2.2.2.2.2.2.2.1; show 8 + (M'.2.2.1 + 11) + 44 * d ≤ R.locals; omega, fun w hw a' U hW => (by
    rw [List.mem_singleton.mp hw]
    exact word_at hW (good_of_word g2.2) (X.2.2.2.2.2.2.2.2.1.w g2 args)), by rw [← hret, ← ez_wN htab]; exact List.mem_cons_self, by rw [← hret, ← ez_wN htab]; exact X.2.2.2.2.2.2.2.2.1.w g2 args, X.2.2.2.2.2.2.2.2.1.w g1 args, ⟨g4, g5⟩, fun sig hs => by rw [hs] at g6; exact (Option.some.inj g6).symm, w1⟩, k3, w2⟩ ⟨ez_blind, ez_pre X hR hS⟩ rfl (by rw [List.length_map]; exact hna) hL.1 (by show (List.map (ez_v G) (As.reverse ++ .ref a :: st)) = _; simp [ez_v]) (by show 2 * 0 + _ ≤ 8; omega) hd ⟨by omega, by omega⟩)) (fun x h' n' hq => absurd hq (KX _ _ _)) K X hS hL (by omega) (by omega)
theorem ez_callN {G : ez_G} {M : ez_M} {d : Nat} {Q : ez_Q} {h : ez_H} {n mc ms pc q : Nat} {ls : List (Option Value)} {st : List Value} {M' : ez_M} {Q' : ez_Q} {idx na mc' ms' a : Nat} {As as st0 : List Value} (hd : decode M.2.1 pc = .ok (.invokespecial idx, 3)) (hck : ez_kN M.1.cls idx M' na) (htab : M'.2.2.2.2 = []) (hret : M'.2.2.2.1 = none) (hC : Con G M' d as h n mc' ms' Q') (has : as = .ref a :: As) (hst : st0 = As.reverse ++ .ref a :: st) (hna : As.length = na) (hrm : (st.map fun v => v.category).sum ≤ 8) (hq : pc + 3 = q)
    (KX : ∀ x h' n', ¬ Q' (.inr x) h' n') (K : ∀ r h' n', Q' (.inl r) h' n' → E G M (d + 1) Q h' n' mc ms q ls (r.toList ++ st)) : E G M (d + 1) Q h n (mc' + mc) (ms' + ms) pc ls st0 := by
  subst hq; subst has; subst hst
  intro p e R s m args below meth c H locs cells slots mt mS la X hR hS hL hc hs
  obtain ⟨⟨g1, g2, g3, ⟨g4, g5⟩, g6⟩, k1, k2, k3⟩ := hck
  have w1 := X.2.2.2.2.2.2.2.2.1.n k1 rfl
  have w2 := X.2.2.2.2.2.2.2.2.1.w k2 args
  have hcat := ez_st_cat G st
  refine ez_back (a := (Value.ref (ez_ad G a) :: As.map (ez_v G)).toArray) (ez_run_of (va_runIN (host := "FutureWishes") (nL := M.2.2.1) (bytes := M'.2.1) (maxL := M'.2.2.1) (n := na) (As := As.map (ez_v G)) (b := ez_ad G a) (Ts := []) ⟨X.1, X.2.1, X.2.2.2.2.2.1, X.2.2.2.1, fun w hw => nomatch hw⟩ (hC.met KX) ⟨⟨⟨rfl, rfl, by have := X.2.2.2.2.2.2.2.2.2.1; show d + 1 ≤ R.frames; omega, by have := X.2.2.2.2.2.2.2.2.2.2.1; show 8 + (M'.2.2.1 + 11) + 44 * d ≤ R.locals; omega, fun w hw a' U hW => (by
    rw [List.mem_singleton.mp hw]
    exact word_at hW (good_of_word g2.2) (X.2.2.2.2.2.2.2.2.1.w g2 args)), by rw [← hret, ← ez_wN htab]; exact List.mem_cons_self⟩, by rw [← hret, ← ez_wN htab]; exact X.2.2.2.2.2.2.2.2.1.w g2 args, X.2.2.2.2.2.2.2.2.1.w g1 args, ⟨g4, g5⟩, fun sig hs => by rw [hs] at g6; exact (Option.some.inj g6).symm, va_Nw.use rfl w1⟩, k3, w2⟩ ⟨ez_blind, ez_pre X hR hS⟩ rfl (by rw [List.length_map]; exact hna) hL.1 (by show (List.map (ez_v G) (As.reverse ++ .ref a :: st)) = _; simp [ez_v]) (by show 2 * 0 + _ ≤ 8; omega) hd ⟨by omega, by omega⟩)) (fun x h' n' hq => absurd hq (KX _ _ _)) K X hS hL (by omega) (by omega)
theorem EX_out {G : ez_G} {M : ez_M} {d : Nat} {Q : ez_Q} {h : ez_H} {n mc ms pc : Nat} {ls : List (Option Value)} {x : String} (htab : M.2.2.2.2 = []) (hQ : Q (.inr x) h n) : EX G M d Q h n mc ms pc ls x := by
  intro p e R s m args below meth c H locs cells slots mt mS la q9 ce rest X hR hS hL hc hs hce hcv hcl
  exact vx_out (by rw [X.2.2.2.2.2.2.2.1, htab]; intro x hx; cases hx) X.2.2.2.2.1 hce hcv hcl (fun t ht hA => ⟨⟨h, n, hQ, by rw [ht]; exact hR⟩, hS.F ht⟩) hS.2.2 (by omega) (by omega)
/-- a handler that puts the exception away: its first instruction is the store -/
theorem EX_catch {G : ez_G} {M : ez_M} {d : Nat} {Q : ez_Q} {h : ez_H} {n mc ms pc q : Nat} {ls : List (Option Value)} {x : String} {pre suf : List (Nat × Nat × Nat × Nat)} {hh : Nat × Nat × Nat × Nat} {ls' : List (Option Value)} {k len : Nat} (htab : M.2.2.2.2 = pre ++ hh :: suf) (hpass : ∀ z ∈ pre, z.2.2.2 ≠ 0 ∧ ∃ nm : String, ez_T (.classLink M.1.cls z.2.2.2 nm) ∧ (x, nm) ∈ ez_ncs) (hcov : covers ⟨hh.1, hh.2.1, hh.2.2.1, hh.2.2.2⟩ pc = true) (h0 : hh.2.2.2 ≠ 0) (hlk : ez_T (.classLink M.1.cls hh.2.2.2 x)) (hcs : Cond.castable x x ∈ lw_tbl)
    (hd : (∃ f : Fin 4, (f : Nat) = k ∧ decode M.2.1 hh.2.2.1 = .ok (.astore_n f, 1) ∧ len = 1) ∨ (decode M.2.1 hh.2.2.1 = .ok (.astore k, 2) ∧ len = 2)) (hn : k < M.2.2.1) (hs' : ls.set k none = ls') (hc' : k = 0 ∨ ∃ x, ls[k - 1]? = some x ∧ ez_c1 x = true) (hq : hh.2.2.1 + len = q) (K : E G M d Q h n mc ms q ls' []) : EX G M d Q h n mc ms pc ls x := by
  intro p e R s m args below meth c H locs cells slots mt mS la q9 ce rest X hR hS hL hc hs hce hcv hcl
  have hst : ∀ la' : Array Slot, lv_has la' M.2.2.1 ((k, Value.ref q9) :: (ez_prs G 0 ls).filter (fun q => !(q.1 == k) && !(q.1 + 1 == k && q.2.category == 2))) → ez_L G la' M.2.2.1 ls' := by
    intro la' hl'
    have h1 : lv_has la' M.2.2.1 ((k, ez_v G .null) :: (ez_prs G 0 ls).filter (fun q => !(q.1 == k) && !(q.1 + 1 == k && q.2.category == 2))) → ez_L G la' M.2.2.1 (ls.set k (some .null)) := fun hz => ez_L.st1 hz rfl hc'
    refine ez_L.of hl' (fun j y hy => ?_)
    subst hs'
    by_cases hj : j = k
    · subst hj
      rw [List.getElem?_set] at hy
      simp only [if_pos] at hy
      split at hy <;> cases hy
    · rw [List.getElem?_set_ne (Ne.symm hj)] at hy
      refine List.mem_cons_of_mem _ (List.mem_filter.mpr ⟨by have := ez_prs_of (G := G) (k := 0) hy; rwa [Nat.zero_add] at this, ?_⟩)
      have h1 : (j == k) = false := by simpa using hj
      simp only [h1, Bool.not_false, Bool.true_and, Bool.not_eq_true', Bool.and_eq_false_iff]
      by_cases h2 : j + 1 = k
      · right
        rcases hc' with hc' | ⟨u, hu, hc'⟩
        · omega
        · rw [show k - 1 = j by omega, hy] at hu
          cases hu
          simp only [ez_c1, Bool.not_eq_true'] at hc'
          rw [ez_v_cat]
          exact hc'
      · left
        simpa using h2
  refine vx_catch X.2.2.2.1 (tableOf pre) ⟨hh.1, hh.2.1, hh.2.2.1, hh.2.2.2⟩ (tableOf suf) (by rw [X.2.2.2.2.2.2.2.1, htab]; simp [tableOf]) (fun z hz => Or.inr ?_) hcov h0 (X.2.2.2.2.2.2.2.2.1.w hlk args) (va_Nw.use rfl (X.2.2.2.2.2.2.2.2.1.n hcs rfl)) hce hcv hcl ?_
  · obtain ⟨z0, hz0, rfl⟩ := List.mem_map.mp hz
    obtain ⟨a1, nm, a2, a3⟩ := hpass z0 hz0
    exact ⟨a1, nm, X.2.2.2.2.2.2.2.2.1.w a2 args, X.2.2.2.2.2.2.2.2.1.2.2.2.2.2.1 _ a3⟩
  · rcases hd with ⟨f, hf, hd, rfl⟩ | ⟨hd, rfl⟩
    · subst hq
      exact lv_astore_n X.1 X.2.1 hd hf hL.has hn rfl (fun la' hl' => K p e R s m args below meth c H locs cells slots mt mS la' X hR hS (hst la' hl') hc hs)
    · subst hq
      exact lv_astore X.1 X.2.1 hd hL.has hn rfl (fun la' hl' => K p e R s m args below meth c H locs cells slots mt mS la' X hR hS (hst la' hl') hc hs)
-- a method's start
def ez_sl : List Value → List (Option Value)
  | [] => []
  | v :: r => if v.category = 2 then some v :: none :: ez_sl r else some v :: ez_sl r
theorem ez_sl_len (G : ez_G) (as : List Value) : (lg_sl (as.map (ez_v G))).length = (ez_sl as).length := by
  induction as with
  | nil => rfl
  | cons v r ih =>
    have h1 : lg_sl ((v :: r).map (ez_v G)) = (if (ez_v G v).category = 2 then [.val (ez_v G v), .second] else [.val (ez_v G v)]) ++ lg_sl (r.map (ez_v G)) := by simp [lg_sl]
    rw [h1, ez_v_cat, ez_sl]
    split <;> simp [ih]
theorem ez_sl_args {G : ez_G} {x : Value} : ∀ {as : List Value} {i j : Nat}, (ez_sl as)[j]? = some (some x) → (i + j, ez_v G x) ∈ lv_args i (as.map (ez_v G)) := by
  intro as
  induction as with
  | nil => intro i j h; simp [ez_sl] at h
  | cons v r ih =>
    intro i j h
    show _ ∈ (i, ez_v G v) :: lv_args (if (ez_v G v).category = 2 then i + 2 else i + 1) (r.map (ez_v G))
    rw [ez_v_cat]
    rw [ez_sl] at h
    by_cases hv : v.category = 2
    · rw [if_pos hv] at h ⊢
      match j, h with
      | 0, h => cases h; exact List.mem_cons_self
      | 1, h => cases h
      | j + 2, h =>
        have h2 := ih (i := i + 2) (j := j) (by simpa using h)
        rw [show i + (j + 2) = i + 2 + j by omega]
        exact List.mem_cons_of_mem _ h2
    · rw [if_neg hv] at h ⊢
      match j, h with
      | 0, h => cases h; exact List.mem_cons_self
      | j + 1, h =>
        have h2 := ih (i := i + 1) (j := j) (by simpa using h)
        rw [show i + (j + 1) = i + 1 + j by omega]
        exact List.mem_cons_of_mem _ h2
theorem ez_L.entry {G : ez_G} {as : List Value} {nL : Nat} {ls : List (Option Value)} (hlen : (ez_sl as).length ≤ nL) (hls : ez_sl as ++ List.replicate (nL - (ez_sl as).length) none = ls) : ez_L G ((lg_sl (as.map (ez_v G)) ++ List.replicate (nL - (lg_sl (as.map (ez_v G))).length) Slot.unset).toArray) nL ls := by
  subst hls
  refine ez_L.of (lv_entry (as.map (ez_v G)) (n := nL) (by rw [ez_sl_len]; exact hlen)) (fun j x hx => ?_)
  by_cases hj : j < (ez_sl as).length
  · rw [List.getElem?_append_left hj] at hx
    have := ez_sl_args (G := G) (i := 0) hx
    rwa [Nat.zero_add] at this
  · rw [List.getElem?_append_right (by omega), List.getElem?_replicate] at hx
    split at hx <;> cases hx
theorem Con.of {G : ez_G} {M : ez_M} {d : Nat} {as : List Value} {h : ez_H} {n mc ms : Nat} {Q : ez_Q} (ls : List (Option Value)) (hpl : plainName M.1.cls = true) (htab : M.2.2.2.2 = []) (hlen : (ez_sl as).length ≤ M.2.2.1) (hls : ez_sl as ++ List.replicate (M.2.2.1 - (ez_sl as).length) none = ls) (K : E G M d Q h n mc ms 0 ls []) : Con G M d as h n mc ms Q := by
  refine vx_ofW (cc := M.2.1) (maxL := M.2.2.1) (ret := M.2.2.2.1) hpl (by rw [ez_wN htab]) ?_
  intro p e s m args below meth c s₁ B hml ht hv
  obtain ⟨rfl, hR, hK⟩ := hv
  rw [lg_entry_eq]
  have hz := hR.1
  have hz2 := hR.2.1
  refine K p e _ s m _ below meth c s.heap [] 0 0 mc ms _ ⟨B.exec, B.bytes, B.returns, findClass_of_methodNamed B.named, B.notSynchronized, hml, (name_of_methodNamed B.named B.method).1, ?_, hK, Nat.le_refl _, Nat.le_refl _, by omega⟩ hR va_S.rf (ez_L.entry hlen hls) ⟨by omega, Nat.le_refl _⟩ ⟨by omega, Nat.le_refl _⟩
  rw [htab]
  cases hct : c.exceptionTable.toList with
  | nil => rfl
  | cons x r => exact absurd (by rw [hct]; exact List.mem_cons_self) (ht x)
theorem Con.ofH {G : ez_G} {M : ez_M} {d : Nat} {as : List Value} {h : ez_H} {n mc ms : Nat} {Q : ez_Q} {hh0 : Nat × Nat × Nat × Nat} {hh1 : List (Nat × Nat × Nat × Nat)} (ls : List (Option Value)) (hpl : plainName M.1.cls = true) (htab : M.2.2.2.2 = hh0 :: hh1) (hlen : (ez_sl as).length ≤ M.2.2.1) (hls : ez_sl as ++ List.replicate (M.2.2.1 - (ez_sl as).length) none = ls) (K : E G M d Q h n mc ms 0 ls []) : Con G M d as h n mc ms Q := by
  have hwe : ez_w M = .codeWith M.1 M.2.1 M.2.2.1 M.2.2.2.1 (hh0 :: hh1) := by rw [ez_w, htab]
  refine vx_ofWH (cc := M.2.1) (maxL := M.2.2.1) (ret := M.2.2.2.1) (hh := hh0 :: hh1) hpl (by rw [hwe]) ?_
  intro p e s m args below meth c s₁ B hml hv
  obtain ⟨rfl, hR, hK⟩ := hv
  rw [lg_entry_eq]
  have hz := hR.1
  have hz2 := hR.2.1
  have ht := vx_table (x := M.1) B (by rw [← hwe]; exact atoms_spec (ws := [ez_w M]) B.pre _ List.mem_cons_self)
  exact K p e _ s m _ below meth c s.heap [] 0 0 mc ms _ ⟨B.exec, B.bytes, B.returns, findClass_of_methodNamed B.named, B.notSynchronized, hml, (name_of_methodNamed B.named B.method).1, by rw [ht, htab], hK, Nat.le_refl _, Nat.le_refl _, by omega⟩ hR va_S.rf (ez_L.entry hlen hls) ⟨by omega, Nat.le_refl _⟩ ⟨by omega, Nat.le_refl _⟩
/-- a weaker end -/
theorem Con.weaken {G : ez_G} {M : ez_M} {d : Nat} {as : List Value} {h : ez_H} {n mc ms : Nat} {Q Q' : ez_Q} (hC : Con G M d as h n mc ms Q) (hq : ∀ r h n, Q r h n → Q' r h n) : Con G M d as h n mc ms Q' := by
  intro p e h1 h2 h3 s m args below h4 h5 h6 h7
  obtain ⟨k, o, g1, g2, g3, g4⟩ := hC p e h1 h2 h3 s m args below h4 h5 h6 h7
  refine ⟨k, o, g1, g2, g3, ?_⟩
  rcases g4 with ⟨⟨⟨r, h', n', a1, a2, a3⟩, hF⟩, g⟩ | ⟨q9, a0, E9, ce, L, ⟨⟨h', n', hq9, a3⟩, hF⟩, g⟩
  · exact Or.inl ⟨⟨⟨r, h', n', a1, hq _ _ _ a2, a3⟩, hF⟩, g⟩
  · exact Or.inr ⟨q9, a0, E9, ce, L, ⟨⟨h', n', hq _ _ _ hq9, a3⟩, hF⟩, g⟩
/-- fewer cells said -/
theorem E.sub {G : ez_G} {M : ez_M} {d : Nat} {Q : ez_Q} {h : ez_H} {n mc ms pc : Nat} {ls : List (Option Value)} {st : List Value} {h' : ez_H} (hsb : ∀ i e, h' i = some e → h i = some e) (K : E G M d Q h' n mc ms pc ls st) : E G M d Q h n mc ms pc ls st := by
  intro p e R s m args below meth c H locs cells slots mt mS la X hR hS hL hc hs
  exact K p e R s m args below meth c H locs cells slots mt mS la X (hR.sub hsb) hS hL hc hs
/-- fewer locals known -/
theorem E.lsub {G : ez_G} {M : ez_M} {d : Nat} {Q : ez_Q} {h : ez_H} {n mc ms pc : Nat} {ls : List (Option Value)} {st : List Value} {ls' : List (Option Value)} (hl : ∀ (j : Nat) (x : Value), ls'[j]? = some (some x) → ls[j]? = some (some x)) (K : E G M d Q h n mc ms pc ls' st) : E G M d Q h n mc ms pc ls st := by
  intro p e R s m args below meth c H locs cells slots mt mS la X hR hS hL hc hs
  exact K p e R s m args below meth c H locs cells slots mt mS la X hR hS (hL.sub hl) hc hs
/-- less left to make -/
theorem E.less {G : ez_G} {M : ez_M} {d : Nat} {Q : ez_Q} {h : ez_H} {n mc ms pc : Nat} {ls : List (Option Value)} {st : List Value} {mc' ms' : Nat} (h1 : mc' ≤ mc) (h2 : ms' ≤ ms) (K : E G M d Q h n mc' ms' pc ls st) : E G M d Q h n mc ms pc ls st := by
  intro p e R s m args below meth c H locs cells slots mt mS la X hR hS hL hc hs
  exact K p e R s m args below meth c H locs cells slots mt mS la X hR hS hL (by omega) (by omega)
end
section
theorem tw_1_0 : ez_T (Jvm.Cond.initialized "FutureWishesLaw") := ⟨(List.mem_append_right _ (List.mem_append_left _ (List.mem_of_getElem? (i := 0) rfl))), by rfl⟩
theorem tw_1_1 : ez_T (Jvm.Cond.initialized "FutureWishes") := ⟨(List.mem_append_right _ (List.mem_append_left _ (List.mem_of_getElem? (i := 1) rfl))), by rfl⟩
theorem tw_1_2 : ez_T (Jvm.Cond.initialized "FutureWishes$State") := ⟨(List.mem_append_right _ (List.mem_append_left _ (List.mem_of_getElem? (i := 2) rfl))), by rfl⟩
theorem tw_1_3 : ez_T (Jvm.Cond.initialized "FutureWishes$History") := ⟨(List.mem_append_right _ (List.mem_append_left _ (List.mem_of_getElem? (i := 3) rfl))), by rfl⟩
theorem tw_1_4 : ez_T (Jvm.Cond.initialized "FutureWishes$Text") := ⟨(List.mem_append_right _ (List.mem_append_left _ (List.mem_of_getElem? (i := 4) rfl))), by rfl⟩
theorem tw_1_5 : ez_T (Jvm.Cond.initialized "FutureWishes$Meaning") := ⟨(List.mem_append_right _ (List.mem_append_left _ (List.mem_of_getElem? (i := 5) rfl))), by rfl⟩
theorem tw_1_6 : ez_T (Jvm.Cond.initialized "FutureWishes$Futures") := ⟨(List.mem_append_right _ (List.mem_append_left _ (List.mem_of_getElem? (i := 6) rfl))), by rfl⟩
theorem tw_1_7 : ez_T (Jvm.Cond.initialized "FutureWishes$Witness") := ⟨(List.mem_append_right _ (List.mem_append_left _ (List.mem_of_getElem? (i := 7) rfl))), by rfl⟩
theorem tw_1_8 : ez_T (Jvm.Cond.initialized "FutureWishes$Trial") := ⟨(List.mem_append_right _ (List.mem_append_left _ (List.mem_of_getElem? (i := 8) rfl))), by rfl⟩
theorem tw_1_9 : ez_T (Jvm.Cond.initialized "java/lang/Throwable") := ⟨(List.mem_append_right _ (List.mem_append_left _ (List.mem_of_getElem? (i := 9) rfl))), by rfl⟩
theorem tw_1_10 : ez_T (Jvm.Cond.initialized "java/lang/Exception") := ⟨(List.mem_append_right _ (List.mem_append_left _ (List.mem_of_getElem? (i := 10) rfl))), by rfl⟩
theorem tw_1_11 : ez_T (Jvm.Cond.initialized "java/lang/RuntimeException") := ⟨(List.mem_append_right _ (List.mem_append_left _ (List.mem_of_getElem? (i := 11) rfl))), by rfl⟩
theorem tw_1_12 : ez_T (Jvm.Cond.initialized "java/lang/IllegalArgumentException") := ⟨(List.mem_append_right _ (List.mem_append_left _ (List.mem_of_getElem? (i := 12) rfl))), by rfl⟩
theorem tw_1_13 : ez_T (Jvm.Cond.initialized "java/lang/IllegalStateException") := ⟨(List.mem_append_right _ (List.mem_append_left _ (List.mem_of_getElem? (i := 13) rfl))), by rfl⟩
theorem tw_1_14 : ez_T (Jvm.Cond.initialized "java/lang/System") := ⟨(List.mem_append_right _ (List.mem_append_left _ (List.mem_of_getElem? (i := 14) rfl))), by rfl⟩
theorem tw_1_15 : ez_T (Jvm.Cond.initialized "java/lang/IndexOutOfBoundsException") := ⟨(List.mem_append_right _ (List.mem_append_left _ (List.mem_of_getElem? (i := 15) rfl))), by rfl⟩
theorem tw_1_16 : ez_T (Jvm.Cond.initialized "java/lang/Math") := ⟨(List.mem_append_right _ (List.mem_append_left _ (List.mem_of_getElem? (i := 16) rfl))), by rfl⟩
theorem tw_1_17 : ez_T (Jvm.Cond.initialized "java/lang/Integer") := ⟨(List.mem_append_right _ (List.mem_append_left _ (List.mem_of_getElem? (i := 17) rfl))), by rfl⟩
theorem tw_1_18 : ez_T (Jvm.Cond.classLink "FutureWishesLaw" (28 : Nat) "FutureWishes") := ⟨(List.mem_append_right _ (List.mem_append_left _ (List.mem_of_getElem? (i := 18) rfl))), by rfl⟩
theorem tw_1_19 : ez_T (Jvm.Cond.instantiable "FutureWishes" (6 : Nat)) := ⟨(List.mem_append_right _ (List.mem_append_left _ (List.mem_of_getElem? (i := 19) rfl))), by rfl⟩
theorem tw_1_20 : ez_T (Jvm.Cond.methodLink "FutureWishesLaw" (75 : Nat) ({ cls := "FutureWishes", name := "<init>", desc := "()V" } : Jvm.MethodName)) := ⟨(List.mem_append_right _ (List.mem_append_left _ (List.mem_of_getElem? (i := 20) rfl))), by rfl⟩
theorem tw_1_21 : ez_T (Jvm.Cond.instanceMethod ({ cls := "FutureWishes", name := "<init>", desc := "()V" } : Jvm.MethodName)) := ⟨(List.mem_append_right _ (List.mem_append_left _ (List.mem_of_getElem? (i := 21) rfl))), by rfl⟩
theorem tw_1_22 : ez_T (Jvm.Cond.code ({ cls := "FutureWishes", name := "<init>", desc := "()V" } : Jvm.MethodName) prog_1_method_1_code (1 : Nat) (Option.none : Option Jvm.ClassFile.FieldType)) := ⟨(List.mem_append_right _ (List.mem_append_left _ (List.mem_of_getElem? (i := 22) rfl))), by rfl⟩
theorem tw_1_23 : ez_T (Jvm.Cond.methodLink "FutureWishes" (1 : Nat) ({ cls := "java/lang/Object", name := "<init>", desc := "()V" } : Jvm.MethodName)) := ⟨(List.mem_append_right _ (List.mem_append_left _ (List.mem_of_getElem? (i := 23) rfl))), by rfl⟩
theorem tw_1_24 : ez_T (Jvm.Cond.instanceMethod ({ cls := "java/lang/Object", name := "<init>", desc := "()V" } : Jvm.MethodName)) := ⟨(List.mem_append_right _ (List.mem_append_left _ (List.mem_of_getElem? (i := 24) rfl))), by rfl⟩
theorem tw_1_25 : ez_T (Jvm.Cond.code ({ cls := "java/lang/Object", name := "<init>", desc := "()V" } : Jvm.MethodName) object_method_1_code (1 : Nat) (Option.none : Option Jvm.ClassFile.FieldType)) := ⟨(List.mem_append_right _ (List.mem_append_left _ (List.mem_of_getElem? (i := 25) rfl))), by rfl⟩
theorem tw_1_26 : ez_T (Jvm.Cond.classLink "FutureWishes" (7 : Nat) "FutureWishes$State") := ⟨(List.mem_append_right _ (List.mem_append_left _ (List.mem_of_getElem? (i := 26) rfl))), by rfl⟩
theorem tw_1_27 : ez_T (Jvm.Cond.instantiable "FutureWishes$State" (6 : Nat)) := ⟨(List.mem_append_right _ (List.mem_append_left _ (List.mem_of_getElem? (i := 27) rfl))), by rfl⟩
theorem tw_1_29 : ez_T (Jvm.Cond.instanceMethod ({ cls := "FutureWishes$State", name := "<init>", desc := "()V" } : Jvm.MethodName)) := ⟨(List.mem_append_right _ (List.mem_append_left _ (List.mem_of_getElem? (i := 29) rfl))), by rfl⟩
theorem tw_1_30 : ez_T (Jvm.Cond.code ({ cls := "FutureWishes$State", name := "<init>", desc := "()V" } : Jvm.MethodName) prog_5_method_1_code (1 : Nat) (Option.none : Option Jvm.ClassFile.FieldType)) := ⟨(List.mem_append_right _ (List.mem_append_left _ (List.mem_of_getElem? (i := 30) rfl))), by rfl⟩
theorem tw_1_31 : ez_T (Jvm.Cond.methodLink "FutureWishes$State" (3 : Nat) ({ cls := "java/lang/Object", name := "<init>", desc := "()V" } : Jvm.MethodName)) := ⟨(List.mem_append_right _ (List.mem_append_left _ (List.mem_of_getElem? (i := 31) rfl))), by rfl⟩
theorem tw_1_32 : ez_T (Jvm.Cond.fieldLink "FutureWishes$State" (9 : Nat) "FutureWishes$State" "worlds" "I") := ⟨(List.mem_append_right _ (List.mem_append_left _ (List.mem_of_getElem? (i := 32) rfl))), by rfl⟩
theorem tw_1_33 : ez_T (Jvm.Cond.fieldLink "FutureWishes" (62 : Nat) "FutureWishes$State" "worlds" "I") := ⟨(List.mem_append_right _ (List.mem_append_left _ (List.mem_of_getElem? (i := 33) rfl))), by rfl⟩
theorem tw_1_34 : ez_T (Jvm.Cond.fieldLink "FutureWishes$State" (15 : Nat) "FutureWishes$State" "fairLetter" "I") := ⟨(List.mem_append_right _ (List.mem_append_left _ (List.mem_of_getElem? (i := 34) rfl))), by rfl⟩
theorem tw_1_35 : ez_T (Jvm.Cond.fieldLink "FutureWishes$Futures" (34 : Nat) "FutureWishes$State" "fairLetter" "I") := ⟨(List.mem_append_right _ (List.mem_append_left _ (List.mem_of_getElem? (i := 35) rfl))), by rfl⟩
theorem tw_1_36 : ez_T (Jvm.Cond.fieldLink "FutureWishes$Trial" (57 : Nat) "FutureWishes$State" "fairLetter" "I") := ⟨(List.mem_append_right _ (List.mem_append_left _ (List.mem_of_getElem? (i := 36) rfl))), by rfl⟩
theorem tw_1_37 : ez_T (Jvm.Cond.fieldLink "FutureWishes" (103 : Nat) "FutureWishes$State" "fairLetter" "I") := ⟨(List.mem_append_right _ (List.mem_append_left _ (List.mem_of_getElem? (i := 37) rfl))), by rfl⟩
theorem tw_1_38 : ez_T (Jvm.Cond.fieldLink "FutureWishes$State" (18 : Nat) "FutureWishes$State" "letters" "[I") := ⟨(List.mem_append_right _ (List.mem_append_left _ (List.mem_of_getElem? (i := 38) rfl))), by rfl⟩
theorem tw_1_39 : ez_T (Jvm.Cond.fieldLink "FutureWishes$State" (22 : Nat) "FutureWishes$State" "steps" "[I") := ⟨(List.mem_append_right _ (List.mem_append_left _ (List.mem_of_getElem? (i := 39) rfl))), by rfl⟩
theorem tw_1_40 : ez_T (Jvm.Cond.fieldLink "FutureWishes$State" (25 : Nat) "FutureWishes$State" "lengths" "[I") := ⟨(List.mem_append_right _ (List.mem_append_left _ (List.mem_of_getElem? (i := 40) rfl))), by rfl⟩
theorem tw_1_41 : ez_T (Jvm.Cond.fieldLink "FutureWishes$State" (28 : Nat) "FutureWishes$State" "signs" "[C") := ⟨(List.mem_append_right _ (List.mem_append_left _ (List.mem_of_getElem? (i := 41) rfl))), by rfl⟩
theorem tw_1_55 : ez_T (Jvm.Cond.arrayClass Jvm.ClassFile.FieldType.int) := ⟨(List.mem_append_right _ (List.mem_append_left _ (List.mem_of_getElem? (i := 55) rfl))), by rfl⟩
theorem tw_1_56 : ez_T (Jvm.Cond.arrayClass Jvm.ClassFile.FieldType.char) := ⟨(List.mem_append_right _ (List.mem_append_left _ (List.mem_of_getElem? (i := 56) rfl))), by rfl⟩
theorem tw_1_57 : ez_T (Jvm.Cond.classLink "FutureWishes" (16 : Nat) "FutureWishes$History") := ⟨(List.mem_append_right _ (List.mem_append_left _ (List.mem_of_getElem? (i := 57) rfl))), by rfl⟩
theorem tw_1_58 : ez_T (Jvm.Cond.instantiable "FutureWishes$History" (3 : Nat)) := ⟨(List.mem_append_right _ (List.mem_append_left _ (List.mem_of_getElem? (i := 58) rfl))), by rfl⟩
theorem tw_1_59 : ez_T (Jvm.Cond.methodLink "FutureWishes" (18 : Nat) ({ cls := "FutureWishes$History", name := "<init>", desc := "()V" } : Jvm.MethodName)) := ⟨(List.mem_append_right _ (List.mem_append_left _ (List.mem_of_getElem? (i := 59) rfl))), by rfl⟩
theorem tw_1_60 : ez_T (Jvm.Cond.instanceMethod ({ cls := "FutureWishes$History", name := "<init>", desc := "()V" } : Jvm.MethodName)) := ⟨(List.mem_append_right _ (List.mem_append_left _ (List.mem_of_getElem? (i := 60) rfl))), by rfl⟩
theorem tw_1_61 : ez_T (Jvm.Cond.code ({ cls := "FutureWishes$History", name := "<init>", desc := "()V" } : Jvm.MethodName) prog_3_method_1_code (2 : Nat) (Option.none : Option Jvm.ClassFile.FieldType)) := ⟨(List.mem_append_right _ (List.mem_append_left _ (List.mem_of_getElem? (i := 61) rfl))), by rfl⟩
theorem tw_1_62 : ez_T (Jvm.Cond.methodLink "FutureWishes$History" (3 : Nat) ({ cls := "java/lang/Object", name := "<init>", desc := "()V" } : Jvm.MethodName)) := ⟨(List.mem_append_right _ (List.mem_append_left _ (List.mem_of_getElem? (i := 62) rfl))), by rfl⟩
theorem tw_1_63 : ez_T (Jvm.Cond.classLink "FutureWishes$History" (18 : Nat) "FutureWishes$State") := ⟨(List.mem_append_right _ (List.mem_append_left _ (List.mem_of_getElem? (i := 63) rfl))), by rfl⟩
theorem tw_1_66 : ez_T (Jvm.Cond.fieldLink "FutureWishes$History" (9 : Nat) "FutureWishes$History" "size" "I") := ⟨(List.mem_append_right _ (List.mem_append_left _ (List.mem_of_getElem? (i := 66) rfl))), by rfl⟩
theorem tw_1_67 : ez_T (Jvm.Cond.fieldLink "FutureWishes" (158 : Nat) "FutureWishes$History" "size" "I") := ⟨(List.mem_append_right _ (List.mem_append_left _ (List.mem_of_getElem? (i := 67) rfl))), by rfl⟩
theorem tw_1_68 : ez_T (Jvm.Cond.fieldLink "FutureWishes$History" (15 : Nat) "FutureWishes$History" "oldest" "I") := ⟨(List.mem_append_right _ (List.mem_append_left _ (List.mem_of_getElem? (i := 68) rfl))), by rfl⟩
theorem tw_1_69 : ez_T (Jvm.Cond.fieldLink "FutureWishes$History" (20 : Nat) "FutureWishes$History" "saved" "[LFutureWishes$State;") := ⟨(List.mem_append_right _ (List.mem_append_left _ (List.mem_of_getElem? (i := 69) rfl))), by rfl⟩
theorem tw_1_77 : ez_T (Jvm.Cond.classLink "FutureWishes" (23 : Nat) "FutureWishes$Text") := ⟨(List.mem_append_right _ (List.mem_append_left _ (List.mem_of_getElem? (i := 77) rfl))), by rfl⟩
theorem tw_1_78 : ez_T (Jvm.Cond.instantiable "FutureWishes$Text" (4 : Nat)) := ⟨(List.mem_append_right _ (List.mem_append_left _ (List.mem_of_getElem? (i := 78) rfl))), by rfl⟩
theorem tw_1_80 : ez_T (Jvm.Cond.instanceMethod ({ cls := "FutureWishes$Text", name := "<init>", desc := "()V" } : Jvm.MethodName)) := ⟨(List.mem_append_right _ (List.mem_append_left _ (List.mem_of_getElem? (i := 80) rfl))), by rfl⟩
theorem tw_1_81 : ez_T (Jvm.Cond.code ({ cls := "FutureWishes$Text", name := "<init>", desc := "()V" } : Jvm.MethodName) prog_6_method_1_code (1 : Nat) (Option.none : Option Jvm.ClassFile.FieldType)) := ⟨(List.mem_append_right _ (List.mem_append_left _ (List.mem_of_getElem? (i := 81) rfl))), by rfl⟩
theorem tw_1_82 : ez_T (Jvm.Cond.methodLink "FutureWishes$Text" (3 : Nat) ({ cls := "java/lang/Object", name := "<init>", desc := "()V" } : Jvm.MethodName)) := ⟨(List.mem_append_right _ (List.mem_append_left _ (List.mem_of_getElem? (i := 82) rfl))), by rfl⟩
theorem tw_1_83 : ez_T (Jvm.Cond.fieldLink "FutureWishes$Text" (9 : Nat) "FutureWishes$Text" "length" "I") := ⟨(List.mem_append_right _ (List.mem_append_left _ (List.mem_of_getElem? (i := 83) rfl))), by rfl⟩
theorem tw_1_84 : ez_T (Jvm.Cond.fieldLink "FutureWishes" (115 : Nat) "FutureWishes$Text" "length" "I") := ⟨(List.mem_append_right _ (List.mem_append_left _ (List.mem_of_getElem? (i := 84) rfl))), by rfl⟩
theorem tw_1_85 : ez_T (Jvm.Cond.fieldLink "FutureWishes$State" (51 : Nat) "FutureWishes$Text" "length" "I") := ⟨(List.mem_append_right _ (List.mem_append_left _ (List.mem_of_getElem? (i := 85) rfl))), by rfl⟩
theorem tw_1_86 : ez_T (Jvm.Cond.fieldLink "FutureWishes$Text" (15 : Nat) "FutureWishes$Text" "characters" "[C") := ⟨(List.mem_append_right _ (List.mem_append_left _ (List.mem_of_getElem? (i := 86) rfl))), by rfl⟩
theorem tw_1_87 : ez_T (Jvm.Cond.fieldLink "FutureWishes$Text" (19 : Nat) "FutureWishes$Text" "open" "I") := ⟨(List.mem_append_right _ (List.mem_append_left _ (List.mem_of_getElem? (i := 87) rfl))), by rfl⟩
theorem tw_1_88 : ez_T (Jvm.Cond.fieldLink "FutureWishes$Text" (22 : Nat) "FutureWishes$Text" "halfWay" "Z") := ⟨(List.mem_append_right _ (List.mem_append_left _ (List.mem_of_getElem? (i := 88) rfl))), by rfl⟩
theorem tw_1_98 : ez_T (Jvm.Cond.classLink "FutureWishes" (30 : Nat) "FutureWishes$Meaning") := ⟨(List.mem_append_right _ (List.mem_append_left _ (List.mem_of_getElem? (i := 98) rfl))), by rfl⟩
theorem tw_1_99 : ez_T (Jvm.Cond.instantiable "FutureWishes$Meaning" (8 : Nat)) := ⟨(List.mem_append_right _ (List.mem_append_left _ (List.mem_of_getElem? (i := 99) rfl))), by rfl⟩
theorem tw_1_100 : ez_T (Jvm.Cond.methodLink "FutureWishes" (32 : Nat) ({ cls := "FutureWishes$Meaning", name := "<init>", desc := "(LFutureWishes$State;)V" } : Jvm.MethodName)) := ⟨(List.mem_append_right _ (List.mem_append_left _ (List.mem_of_getElem? (i := 100) rfl))), by rfl⟩
theorem tw_1_101 : ez_T (Jvm.Cond.instanceMethod ({ cls := "FutureWishes$Meaning", name := "<init>", desc := "(LFutureWishes$State;)V" } : Jvm.MethodName)) := ⟨(List.mem_append_right _ (List.mem_append_left _ (List.mem_of_getElem? (i := 101) rfl))), by rfl⟩
theorem tw_1_102 : ez_T (Jvm.Cond.code ({ cls := "FutureWishes$Meaning", name := "<init>", desc := "(LFutureWishes$State;)V" } : Jvm.MethodName) prog_4_method_1_code (2 : Nat) (Option.none : Option Jvm.ClassFile.FieldType)) := ⟨(List.mem_append_right _ (List.mem_append_left _ (List.mem_of_getElem? (i := 102) rfl))), by rfl⟩
theorem tw_1_103 : ez_T (Jvm.Cond.methodLink "FutureWishes$Meaning" (3 : Nat) ({ cls := "java/lang/Object", name := "<init>", desc := "()V" } : Jvm.MethodName)) := ⟨(List.mem_append_right _ (List.mem_append_left _ (List.mem_of_getElem? (i := 103) rfl))), by rfl⟩
theorem tw_1_104 : ez_T (Jvm.Cond.classLink "FutureWishes$Meaning" (36 : Nat) "FutureWishes$Futures") := ⟨(List.mem_append_right _ (List.mem_append_left _ (List.mem_of_getElem? (i := 104) rfl))), by rfl⟩
theorem tw_1_105 : ez_T (Jvm.Cond.instantiable "FutureWishes$Futures" (5 : Nat)) := ⟨(List.mem_append_right _ (List.mem_append_left _ (List.mem_of_getElem? (i := 105) rfl))), by rfl⟩
theorem tw_1_106 : ez_T (Jvm.Cond.methodLink "FutureWishes$Meaning" (38 : Nat) ({ cls := "FutureWishes$Futures", name := "<init>", desc := "(LFutureWishes$State;)V" } : Jvm.MethodName)) := ⟨(List.mem_append_right _ (List.mem_append_left _ (List.mem_of_getElem? (i := 106) rfl))), by rfl⟩
theorem tw_1_107 : ez_T (Jvm.Cond.instanceMethod ({ cls := "FutureWishes$Futures", name := "<init>", desc := "(LFutureWishes$State;)V" } : Jvm.MethodName)) := ⟨(List.mem_append_right _ (List.mem_append_left _ (List.mem_of_getElem? (i := 107) rfl))), by rfl⟩
theorem tw_1_108 : ez_T (Jvm.Cond.code ({ cls := "FutureWishes$Futures", name := "<init>", desc := "(LFutureWishes$State;)V" } : Jvm.MethodName) prog_2_method_1_code (2 : Nat) (Option.none : Option Jvm.ClassFile.FieldType)) := ⟨(List.mem_append_right _ (List.mem_append_left _ (List.mem_of_getElem? (i := 108) rfl))), by rfl⟩
theorem tw_1_109 : ez_T (Jvm.Cond.methodLink "FutureWishes$Futures" (3 : Nat) ({ cls := "java/lang/Object", name := "<init>", desc := "()V" } : Jvm.MethodName)) := ⟨(List.mem_append_right _ (List.mem_append_left _ (List.mem_of_getElem? (i := 109) rfl))), by rfl⟩
theorem tw_1_110 : ez_T (Jvm.Cond.fieldLink "FutureWishes$Futures" (24 : Nat) "FutureWishes$Futures" "state" "LFutureWishes$State;") := ⟨(List.mem_append_right _ (List.mem_append_left _ (List.mem_of_getElem? (i := 110) rfl))), by rfl⟩
theorem tw_1_111 : ez_T (Jvm.Cond.fieldLink "FutureWishes$Futures" (9 : Nat) "FutureWishes$Futures" "all" "I") := ⟨(List.mem_append_right _ (List.mem_append_left _ (List.mem_of_getElem? (i := 111) rfl))), by rfl⟩
theorem tw_1_112 : ez_T (Jvm.Cond.fieldLink "FutureWishes$Meaning" (96 : Nat) "FutureWishes$Futures" "all" "I") := ⟨(List.mem_append_right _ (List.mem_append_left _ (List.mem_of_getElem? (i := 112) rfl))), by rfl⟩
theorem tw_1_113 : ez_T (Jvm.Cond.fieldLink "FutureWishes$Futures" (15 : Nat) "FutureWishes$Futures" "live" "I") := ⟨(List.mem_append_right _ (List.mem_append_left _ (List.mem_of_getElem? (i := 113) rfl))), by rfl⟩
theorem tw_1_114 : ez_T (Jvm.Cond.fieldLink "FutureWishes$Meaning" (48 : Nat) "FutureWishes$Futures" "live" "I") := ⟨(List.mem_append_right _ (List.mem_append_left _ (List.mem_of_getElem? (i := 114) rfl))), by rfl⟩
theorem tw_1_115 : ez_T (Jvm.Cond.fieldLink "FutureWishes$Futures" (18 : Nat) "FutureWishes$Futures" "rounds" "I") := ⟨(List.mem_append_right _ (List.mem_append_left _ (List.mem_of_getElem? (i := 115) rfl))), by rfl⟩
theorem tw_1_116 : ez_T (Jvm.Cond.fieldLink "FutureWishes$Meaning" (90 : Nat) "FutureWishes$Futures" "rounds" "I") := ⟨(List.mem_append_right _ (List.mem_append_left _ (List.mem_of_getElem? (i := 116) rfl))), by rfl⟩
theorem tw_1_117 : ez_T (Jvm.Cond.fieldLink "FutureWishes$Futures" (21 : Nat) "FutureWishes$Futures" "goals" "I") := ⟨(List.mem_append_right _ (List.mem_append_left _ (List.mem_of_getElem? (i := 117) rfl))), by rfl⟩
theorem tw_1_129 : ez_T (Jvm.Cond.fieldLink "FutureWishes$Meaning" (32 : Nat) "FutureWishes$Meaning" "state" "LFutureWishes$State;") := ⟨(List.mem_append_right _ (List.mem_append_left _ (List.mem_of_getElem? (i := 129) rfl))), by rfl⟩
theorem tw_1_130 : ez_T (Jvm.Cond.fieldLink "FutureWishes$Witness" (26 : Nat) "FutureWishes$Meaning" "futures" "LFutureWishes$Futures;") := ⟨(List.mem_append_right _ (List.mem_append_left _ (List.mem_of_getElem? (i := 130) rfl))), by rfl⟩
theorem tw_1_131 : ez_T (Jvm.Cond.fieldLink "FutureWishes$Meaning" (41 : Nat) "FutureWishes$Meaning" "futures" "LFutureWishes$Futures;") := ⟨(List.mem_append_right _ (List.mem_append_left _ (List.mem_of_getElem? (i := 131) rfl))), by rfl⟩
theorem tw_1_132 : ez_T (Jvm.Cond.fieldLink "FutureWishes$Meaning" (9 : Nat) "FutureWishes$Meaning" "length" "I") := ⟨(List.mem_append_right _ (List.mem_append_left _ (List.mem_of_getElem? (i := 132) rfl))), by rfl⟩
theorem tw_1_133 : ez_T (Jvm.Cond.fieldLink "FutureWishes$Trial" (38 : Nat) "FutureWishes$Meaning" "length" "I") := ⟨(List.mem_append_right _ (List.mem_append_left _ (List.mem_of_getElem? (i := 133) rfl))), by rfl⟩
theorem tw_1_134 : ez_T (Jvm.Cond.fieldLink "FutureWishes$Meaning" (15 : Nat) "FutureWishes$Meaning" "signs" "[C") := ⟨(List.mem_append_right _ (List.mem_append_left _ (List.mem_of_getElem? (i := 134) rfl))), by rfl⟩
theorem tw_1_135 : ez_T (Jvm.Cond.fieldLink "FutureWishes$Meaning" (19 : Nat) "FutureWishes$Meaning" "lengths" "[I") := ⟨(List.mem_append_right _ (List.mem_append_left _ (List.mem_of_getElem? (i := 135) rfl))), by rfl⟩
theorem tw_1_136 : ez_T (Jvm.Cond.fieldLink "FutureWishes$Meaning" (23 : Nat) "FutureWishes$Meaning" "depths" "[I") := ⟨(List.mem_append_right _ (List.mem_append_left _ (List.mem_of_getElem? (i := 136) rfl))), by rfl⟩
theorem tw_1_137 : ez_T (Jvm.Cond.fieldLink "FutureWishes$Meaning" (26 : Nat) "FutureWishes$Meaning" "sets" "[I") := ⟨(List.mem_append_right _ (List.mem_append_left _ (List.mem_of_getElem? (i := 137) rfl))), by rfl⟩
theorem tw_1_138 : ez_T (Jvm.Cond.fieldLink "FutureWishes$Meaning" (29 : Nat) "FutureWishes$Meaning" "rounds" "[I") := ⟨(List.mem_append_right _ (List.mem_append_left _ (List.mem_of_getElem? (i := 138) rfl))), by rfl⟩
theorem tw_1_156 : ez_T (Jvm.Cond.classLink "FutureWishes" (39 : Nat) "FutureWishes$Witness") := ⟨(List.mem_append_right _ (List.mem_append_left _ (List.mem_of_getElem? (i := 156) rfl))), by rfl⟩
theorem tw_1_157 : ez_T (Jvm.Cond.instantiable "FutureWishes$Witness" (5 : Nat)) := ⟨(List.mem_append_right _ (List.mem_append_left _ (List.mem_of_getElem? (i := 157) rfl))), by rfl⟩
theorem tw_1_158 : ez_T (Jvm.Cond.methodLink "FutureWishes" (41 : Nat) ({ cls := "FutureWishes$Witness", name := "<init>", desc := "(LFutureWishes$Meaning;)V" } : Jvm.MethodName)) := ⟨(List.mem_append_right _ (List.mem_append_left _ (List.mem_of_getElem? (i := 158) rfl))), by rfl⟩
theorem tw_1_159 : ez_T (Jvm.Cond.instanceMethod ({ cls := "FutureWishes$Witness", name := "<init>", desc := "(LFutureWishes$Meaning;)V" } : Jvm.MethodName)) := ⟨(List.mem_append_right _ (List.mem_append_left _ (List.mem_of_getElem? (i := 159) rfl))), by rfl⟩
theorem tw_1_160 : ez_T (Jvm.Cond.code ({ cls := "FutureWishes$Witness", name := "<init>", desc := "(LFutureWishes$Meaning;)V" } : Jvm.MethodName) prog_8_method_1_code (2 : Nat) (Option.none : Option Jvm.ClassFile.FieldType)) := ⟨(List.mem_append_right _ (List.mem_append_left _ (List.mem_of_getElem? (i := 160) rfl))), by rfl⟩
theorem tw_1_161 : ez_T (Jvm.Cond.methodLink "FutureWishes$Witness" (3 : Nat) ({ cls := "java/lang/Object", name := "<init>", desc := "()V" } : Jvm.MethodName)) := ⟨(List.mem_append_right _ (List.mem_append_left _ (List.mem_of_getElem? (i := 161) rfl))), by rfl⟩
theorem tw_1_162 : ez_T (Jvm.Cond.fieldLink "FutureWishes$Witness" (22 : Nat) "FutureWishes$Witness" "meaning" "LFutureWishes$Meaning;") := ⟨(List.mem_append_right _ (List.mem_append_left _ (List.mem_of_getElem? (i := 162) rfl))), by rfl⟩
theorem tw_1_163 : ez_T (Jvm.Cond.fieldLink "FutureWishes$Witness" (32 : Nat) "FutureWishes$Witness" "futures" "LFutureWishes$Futures;") := ⟨(List.mem_append_right _ (List.mem_append_left _ (List.mem_of_getElem? (i := 163) rfl))), by rfl⟩
theorem tw_1_164 : ez_T (Jvm.Cond.fieldLink "FutureWishes$Witness" (9 : Nat) "FutureWishes$Witness" "row" "[I") := ⟨(List.mem_append_right _ (List.mem_append_left _ (List.mem_of_getElem? (i := 164) rfl))), by rfl⟩
theorem tw_1_165 : ez_T (Jvm.Cond.fieldLink "FutureWishes$Witness" (15 : Nat) "FutureWishes$Witness" "length" "I") := ⟨(List.mem_append_right _ (List.mem_append_left _ (List.mem_of_getElem? (i := 165) rfl))), by rfl⟩
theorem tw_1_166 : ez_T (Jvm.Cond.fieldLink "FutureWishes$Witness" (19 : Nat) "FutureWishes$Witness" "layers" "[I") := ⟨(List.mem_append_right _ (List.mem_append_left _ (List.mem_of_getElem? (i := 166) rfl))), by rfl⟩
theorem tw_1_178 : ez_T (Jvm.Cond.classLink "FutureWishes" (48 : Nat) "FutureWishes$Trial") := ⟨(List.mem_append_right _ (List.mem_append_left _ (List.mem_of_getElem? (i := 178) rfl))), by rfl⟩
theorem tw_1_179 : ez_T (Jvm.Cond.instantiable "FutureWishes$Trial" (4 : Nat)) := ⟨(List.mem_append_right _ (List.mem_append_left _ (List.mem_of_getElem? (i := 179) rfl))), by rfl⟩
theorem tw_1_181 : ez_T (Jvm.Cond.instanceMethod ({ cls := "FutureWishes$Trial", name := "<init>", desc := "()V" } : Jvm.MethodName)) := ⟨(List.mem_append_right _ (List.mem_append_left _ (List.mem_of_getElem? (i := 181) rfl))), by rfl⟩
theorem tw_1_182 : ez_T (Jvm.Cond.code ({ cls := "FutureWishes$Trial", name := "<init>", desc := "()V" } : Jvm.MethodName) prog_7_method_1_code (1 : Nat) (Option.none : Option Jvm.ClassFile.FieldType)) := ⟨(List.mem_append_right _ (List.mem_append_left _ (List.mem_of_getElem? (i := 182) rfl))), by rfl⟩
theorem tw_1_183 : ez_T (Jvm.Cond.methodLink "FutureWishes$Trial" (3 : Nat) ({ cls := "java/lang/Object", name := "<init>", desc := "()V" } : Jvm.MethodName)) := ⟨(List.mem_append_right _ (List.mem_append_left _ (List.mem_of_getElem? (i := 183) rfl))), by rfl⟩
theorem tw_1_184 : ez_T (Jvm.Cond.classLink "FutureWishes$Trial" (18 : Nat) "FutureWishes$State") := ⟨(List.mem_append_right _ (List.mem_append_left _ (List.mem_of_getElem? (i := 184) rfl))), by rfl⟩
theorem tw_1_186 : ez_T (Jvm.Cond.classLink "FutureWishes$Trial" (25 : Nat) "FutureWishes$Meaning") := ⟨(List.mem_append_right _ (List.mem_append_left _ (List.mem_of_getElem? (i := 186) rfl))), by rfl⟩
theorem tw_1_187 : ez_T (Jvm.Cond.methodLink "FutureWishes$Trial" (27 : Nat) ({ cls := "FutureWishes$Meaning", name := "<init>", desc := "(LFutureWishes$State;)V" } : Jvm.MethodName)) := ⟨(List.mem_append_right _ (List.mem_append_left _ (List.mem_of_getElem? (i := 187) rfl))), by rfl⟩
theorem tw_1_188 : ez_T (Jvm.Cond.fieldLink "FutureWishes$Trial" (9 : Nat) "FutureWishes$Trial" "number" "I") := ⟨(List.mem_append_right _ (List.mem_append_left _ (List.mem_of_getElem? (i := 188) rfl))), by rfl⟩
theorem tw_1_189 : ez_T (Jvm.Cond.fieldLink "FutureWishes$Trial" (15 : Nat) "FutureWishes$Trial" "first" "I") := ⟨(List.mem_append_right _ (List.mem_append_left _ (List.mem_of_getElem? (i := 189) rfl))), by rfl⟩
theorem tw_1_190 : ez_T (Jvm.Cond.fieldLink "FutureWishes$Trial" (21 : Nat) "FutureWishes$Trial" "state" "LFutureWishes$State;") := ⟨(List.mem_append_right _ (List.mem_append_left _ (List.mem_of_getElem? (i := 190) rfl))), by rfl⟩
theorem tw_1_191 : ez_T (Jvm.Cond.fieldLink "FutureWishes$Trial" (30 : Nat) "FutureWishes$Trial" "meaning" "LFutureWishes$Meaning;") := ⟨(List.mem_append_right _ (List.mem_append_left _ (List.mem_of_getElem? (i := 191) rfl))), by rfl⟩
theorem tw_1_201 : ez_T (Jvm.Cond.fieldLink "FutureWishes" (10 : Nat) "FutureWishes" "state" "LFutureWishes$State;") := ⟨(List.mem_append_right _ (List.mem_append_left _ (List.mem_of_getElem? (i := 201) rfl))), by rfl⟩
theorem tw_1_202 : ez_T (Jvm.Cond.fieldLink "FutureWishes" (19 : Nat) "FutureWishes" "history" "LFutureWishes$History;") := ⟨(List.mem_append_right _ (List.mem_append_left _ (List.mem_of_getElem? (i := 202) rfl))), by rfl⟩
theorem tw_1_203 : ez_T (Jvm.Cond.fieldLink "FutureWishes" (26 : Nat) "FutureWishes" "text" "LFutureWishes$Text;") := ⟨(List.mem_append_right _ (List.mem_append_left _ (List.mem_of_getElem? (i := 203) rfl))), by rfl⟩
theorem tw_1_204 : ez_T (Jvm.Cond.fieldLink "FutureWishes" (35 : Nat) "FutureWishes" "meaning" "LFutureWishes$Meaning;") := ⟨(List.mem_append_right _ (List.mem_append_left _ (List.mem_of_getElem? (i := 204) rfl))), by rfl⟩
theorem tw_1_205 : ez_T (Jvm.Cond.fieldLink "FutureWishes" (44 : Nat) "FutureWishes" "way" "LFutureWishes$Witness;") := ⟨(List.mem_append_right _ (List.mem_append_left _ (List.mem_of_getElem? (i := 205) rfl))), by rfl⟩
theorem tw_1_206 : ez_T (Jvm.Cond.fieldLink "FutureWishes" (51 : Nat) "FutureWishes" "trial" "LFutureWishes$Trial;") := ⟨(List.mem_append_right _ (List.mem_append_left _ (List.mem_of_getElem? (i := 206) rfl))), by rfl⟩
theorem tw_1_220 : ez_T (Jvm.Cond.methodLink "FutureWishesLaw" (42 : Nat) ({ cls := "FutureWishes", name := "fair", desc := "(I)I" } : Jvm.MethodName)) := ⟨(List.mem_append_right _ (List.mem_append_left _ (List.mem_of_getElem? (i := 220) rfl))), by rfl⟩
theorem tw_1_221 : ez_T (Jvm.Cond.instanceMethod ({ cls := "FutureWishes", name := "fair", desc := "(I)I" } : Jvm.MethodName)) := ⟨(List.mem_append_right _ (List.mem_append_left _ (List.mem_of_getElem? (i := 221) rfl))), by rfl⟩
theorem tw_1_222 : ez_T (Jvm.Cond.selects "FutureWishes" ({ cls := "FutureWishes", name := "fair", desc := "(I)I" } : Jvm.MethodName) ({ cls := "FutureWishes", name := "fair", desc := "(I)I" } : Jvm.MethodName)) := ⟨(List.mem_append_right _ (List.mem_append_left _ (List.mem_of_getElem? (i := 222) rfl))), by rfl⟩
theorem tw_1_223 : ez_T (Jvm.Cond.code ({ cls := "FutureWishes", name := "fair", desc := "(I)I" } : Jvm.MethodName) prog_1_method_6_code (3 : Nat) (Option.some Jvm.ClassFile.FieldType.int)) := ⟨(List.mem_append_right _ (List.mem_append_left _ (List.mem_of_getElem? (i := 223) rfl))), by rfl⟩
theorem tw_1_224 : ez_T (Jvm.Cond.methodLink "FutureWishes" (100 : Nat) ({ cls := "FutureWishes", name := "needLetterOrNone", desc := "(I)V" } : Jvm.MethodName)) := ⟨(List.mem_append_right _ (List.mem_append_left _ (List.mem_of_getElem? (i := 224) rfl))), by rfl⟩
theorem tw_1_225 : ez_T (Jvm.Cond.static ({ cls := "FutureWishes", name := "needLetterOrNone", desc := "(I)V" } : Jvm.MethodName)) := ⟨(List.mem_append_right _ (List.mem_append_left _ (List.mem_of_getElem? (i := 225) rfl))), by rfl⟩
theorem tw_1_226 : ez_T (Jvm.Cond.code ({ cls := "FutureWishes", name := "needLetterOrNone", desc := "(I)V" } : Jvm.MethodName) prog_1_method_27_code (1 : Nat) (Option.none : Option Jvm.ClassFile.FieldType)) := ⟨(List.mem_append_right _ (List.mem_append_left _ (List.mem_of_getElem? (i := 226) rfl))), by rfl⟩
theorem tw_1_227 : ez_T (Jvm.Cond.classLink "FutureWishes" (55 : Nat) "java/lang/IllegalArgumentException") := ⟨(List.mem_append_right _ (List.mem_append_left _ (List.mem_of_getElem? (i := 227) rfl))), by rfl⟩
theorem tw_1_228 : ez_T (Jvm.Cond.instantiable "java/lang/IllegalArgumentException" (6 : Nat)) := ⟨(List.mem_append_right _ (List.mem_append_left _ (List.mem_of_getElem? (i := 228) rfl))), by rfl⟩
theorem tw_1_236 : ez_T (Jvm.Cond.selects "java/lang/IllegalArgumentException" ({ cls := "java/lang/Throwable", name := "fillInStackTrace", desc := "(I)Ljava/lang/Throwable;" } : Jvm.MethodName) ({ cls := "java/lang/Throwable", name := "fillInStackTrace", desc := "(I)Ljava/lang/Throwable;" } : Jvm.MethodName)) := ⟨(List.mem_append_right _ (List.mem_append_left _ (List.mem_of_getElem? (i := 236) rfl))), by rfl⟩
theorem tw_1_237 : ez_T (Jvm.Cond.selects "java/lang/IllegalArgumentException" ({ cls := "java/lang/Throwable", name := "fillInStackTrace", desc := "()Ljava/lang/Throwable;" } : Jvm.MethodName) ({ cls := "java/lang/Throwable", name := "fillInStackTrace", desc := "()Ljava/lang/Throwable;" } : Jvm.MethodName)) := ⟨(List.mem_append_right _ (List.mem_append_left _ (List.mem_of_getElem? (i := 237) rfl))), by rfl⟩
theorem tw_2_8 : ez_T (Jvm.Cond.fieldLink "java/lang/Throwable" (198 : Nat) "java/lang/Throwable" "backtrace" "Ljava/lang/Object;") := ⟨(List.mem_append_right _ (List.mem_append_right _ (List.mem_append_left _ (List.mem_of_getElem? (i := 8) rfl)))), by rfl⟩
theorem tw_2_10 : ez_T (Jvm.Cond.instanceMethod ({ cls := "java/lang/Throwable", name := "<init>", desc := "()V" } : Jvm.MethodName)) := ⟨(List.mem_append_right _ (List.mem_append_right _ (List.mem_append_left _ (List.mem_of_getElem? (i := 10) rfl)))), by rfl⟩
theorem tw_2_11 : ez_T (Jvm.Cond.code ({ cls := "java/lang/Throwable", name := "<init>", desc := "()V" } : Jvm.MethodName) prog_20_method_1_code (1 : Nat) (Option.none : Option Jvm.ClassFile.FieldType)) := ⟨(List.mem_append_right _ (List.mem_append_right _ (List.mem_append_left _ (List.mem_of_getElem? (i := 11) rfl)))), by rfl⟩
theorem tw_2_12 : ez_T (Jvm.Cond.methodLink "java/lang/Throwable" (1 : Nat) ({ cls := "java/lang/Object", name := "<init>", desc := "()V" } : Jvm.MethodName)) := ⟨(List.mem_append_right _ (List.mem_append_right _ (List.mem_append_left _ (List.mem_of_getElem? (i := 12) rfl)))), by rfl⟩
theorem tw_2_13 : ez_T (Jvm.Cond.fieldLink "java/lang/Throwable" (13 : Nat) "java/lang/Throwable" "UNASSIGNED_STACK" "[Ljava/lang/StackTraceElement;") := ⟨(List.mem_append_right _ (List.mem_append_right _ (List.mem_append_left _ (List.mem_of_getElem? (i := 13) rfl)))), by rfl⟩
theorem tw_2_15 : ez_T (Jvm.Cond.fieldLink "java/lang/Throwable" (20 : Nat) "java/lang/Throwable" "SUPPRESSED_SENTINEL" "Ljava/util/List;") := ⟨(List.mem_append_right _ (List.mem_append_right _ (List.mem_append_left _ (List.mem_of_getElem? (i := 15) rfl)))), by rfl⟩
theorem tw_2_17 : ez_T (Jvm.Cond.methodLink "java/lang/Throwable" (27 : Nat) ({ cls := "java/lang/Throwable", name := "fillInStackTrace", desc := "()Ljava/lang/Throwable;" } : Jvm.MethodName)) := ⟨(List.mem_append_right _ (List.mem_append_right _ (List.mem_append_left _ (List.mem_of_getElem? (i := 17) rfl)))), by rfl⟩
theorem tw_2_18 : ez_T (Jvm.Cond.instanceMethod ({ cls := "java/lang/Throwable", name := "fillInStackTrace", desc := "()Ljava/lang/Throwable;" } : Jvm.MethodName)) := ⟨(List.mem_append_right _ (List.mem_append_right _ (List.mem_append_left _ (List.mem_of_getElem? (i := 18) rfl)))), by rfl⟩
theorem tw_2_20 : ez_T (Jvm.Cond.selects "java/lang/IllegalStateException" ({ cls := "java/lang/Throwable", name := "fillInStackTrace", desc := "()Ljava/lang/Throwable;" } : Jvm.MethodName) ({ cls := "java/lang/Throwable", name := "fillInStackTrace", desc := "()Ljava/lang/Throwable;" } : Jvm.MethodName)) := ⟨(List.mem_append_right _ (List.mem_append_right _ (List.mem_append_left _ (List.mem_of_getElem? (i := 20) rfl)))), by rfl⟩
theorem tw_2_21 : ez_T (Jvm.Cond.selects "java/lang/IndexOutOfBoundsException" ({ cls := "java/lang/Throwable", name := "fillInStackTrace", desc := "()Ljava/lang/Throwable;" } : Jvm.MethodName) ({ cls := "java/lang/Throwable", name := "fillInStackTrace", desc := "()Ljava/lang/Throwable;" } : Jvm.MethodName)) := ⟨(List.mem_append_right _ (List.mem_append_right _ (List.mem_append_left _ (List.mem_of_getElem? (i := 21) rfl)))), by rfl⟩
theorem tw_2_23 : ez_T (Jvm.Cond.methodLink "java/lang/Throwable" (202 : Nat) ({ cls := "java/lang/Throwable", name := "fillInStackTrace", desc := "(I)Ljava/lang/Throwable;" } : Jvm.MethodName)) := ⟨(List.mem_append_right _ (List.mem_append_right _ (List.mem_append_left _ (List.mem_of_getElem? (i := 23) rfl)))), by rfl⟩
theorem tw_2_25 : ez_T (Jvm.Cond.instanceMethod ({ cls := "java/lang/Throwable", name := "fillInStackTrace", desc := "(I)Ljava/lang/Throwable;" } : Jvm.MethodName)) := ⟨(List.mem_append_right _ (List.mem_append_right _ (List.mem_append_left _ (List.mem_of_getElem? (i := 25) rfl)))), by rfl⟩
theorem tw_2_26 : ez_T (Jvm.Cond.instantiable "java/lang/Throwable" (6 : Nat)) := ⟨(List.mem_append_right _ (List.mem_append_right _ (List.mem_append_left _ (List.mem_of_getElem? (i := 26) rfl)))), by rfl⟩
theorem tw_2_29 : ez_T (Jvm.Cond.methodLink "FutureWishes" (59 : Nat) ({ cls := "java/lang/IllegalArgumentException", name := "<init>", desc := "(Ljava/lang/String;)V" } : Jvm.MethodName)) := ⟨(List.mem_append_right _ (List.mem_append_right _ (List.mem_append_left _ (List.mem_of_getElem? (i := 29) rfl)))), by rfl⟩
theorem tw_2_30 : ez_T (Jvm.Cond.instanceMethod ({ cls := "java/lang/IllegalArgumentException", name := "<init>", desc := "(Ljava/lang/String;)V" } : Jvm.MethodName)) := ⟨(List.mem_append_right _ (List.mem_append_right _ (List.mem_append_left _ (List.mem_of_getElem? (i := 30) rfl)))), by rfl⟩
theorem tw_2_31 : ez_T (Jvm.Cond.code ({ cls := "java/lang/IllegalArgumentException", name := "<init>", desc := "(Ljava/lang/String;)V" } : Jvm.MethodName) prog_12_method_2_code (2 : Nat) (Option.none : Option Jvm.ClassFile.FieldType)) := ⟨(List.mem_append_right _ (List.mem_append_right _ (List.mem_append_left _ (List.mem_of_getElem? (i := 31) rfl)))), by rfl⟩
theorem tw_2_32 : ez_T (Jvm.Cond.methodLink "java/lang/IllegalArgumentException" (7 : Nat) ({ cls := "java/lang/RuntimeException", name := "<init>", desc := "(Ljava/lang/String;)V" } : Jvm.MethodName)) := ⟨(List.mem_append_right _ (List.mem_append_right _ (List.mem_append_left _ (List.mem_of_getElem? (i := 32) rfl)))), by rfl⟩
theorem tw_2_33 : ez_T (Jvm.Cond.instanceMethod ({ cls := "java/lang/RuntimeException", name := "<init>", desc := "(Ljava/lang/String;)V" } : Jvm.MethodName)) := ⟨(List.mem_append_right _ (List.mem_append_right _ (List.mem_append_left _ (List.mem_of_getElem? (i := 33) rfl)))), by rfl⟩
theorem tw_2_34 : ez_T (Jvm.Cond.code ({ cls := "java/lang/RuntimeException", name := "<init>", desc := "(Ljava/lang/String;)V" } : Jvm.MethodName) prog_17_method_2_code (2 : Nat) (Option.none : Option Jvm.ClassFile.FieldType)) := ⟨(List.mem_append_right _ (List.mem_append_right _ (List.mem_append_left _ (List.mem_of_getElem? (i := 34) rfl)))), by rfl⟩
theorem tw_2_35 : ez_T (Jvm.Cond.methodLink "java/lang/RuntimeException" (7 : Nat) ({ cls := "java/lang/Exception", name := "<init>", desc := "(Ljava/lang/String;)V" } : Jvm.MethodName)) := ⟨(List.mem_append_right _ (List.mem_append_right _ (List.mem_append_left _ (List.mem_of_getElem? (i := 35) rfl)))), by rfl⟩
theorem tw_2_36 : ez_T (Jvm.Cond.instanceMethod ({ cls := "java/lang/Exception", name := "<init>", desc := "(Ljava/lang/String;)V" } : Jvm.MethodName)) := ⟨(List.mem_append_right _ (List.mem_append_right _ (List.mem_append_left _ (List.mem_of_getElem? (i := 36) rfl)))), by rfl⟩
theorem tw_2_37 : ez_T (Jvm.Cond.code ({ cls := "java/lang/Exception", name := "<init>", desc := "(Ljava/lang/String;)V" } : Jvm.MethodName) prog_11_method_2_code (2 : Nat) (Option.none : Option Jvm.ClassFile.FieldType)) := ⟨(List.mem_append_right _ (List.mem_append_right _ (List.mem_append_left _ (List.mem_of_getElem? (i := 37) rfl)))), by rfl⟩
theorem tw_2_38 : ez_T (Jvm.Cond.methodLink "java/lang/Exception" (7 : Nat) ({ cls := "java/lang/Throwable", name := "<init>", desc := "(Ljava/lang/String;)V" } : Jvm.MethodName)) := ⟨(List.mem_append_right _ (List.mem_append_right _ (List.mem_append_left _ (List.mem_of_getElem? (i := 38) rfl)))), by rfl⟩
theorem tw_2_39 : ez_T (Jvm.Cond.instanceMethod ({ cls := "java/lang/Throwable", name := "<init>", desc := "(Ljava/lang/String;)V" } : Jvm.MethodName)) := ⟨(List.mem_append_right _ (List.mem_append_right _ (List.mem_append_left _ (List.mem_of_getElem? (i := 39) rfl)))), by rfl⟩
theorem tw_2_40 : ez_T (Jvm.Cond.code ({ cls := "java/lang/Throwable", name := "<init>", desc := "(Ljava/lang/String;)V" } : Jvm.MethodName) prog_20_method_2_code (2 : Nat) (Option.none : Option Jvm.ClassFile.FieldType)) := ⟨(List.mem_append_right _ (List.mem_append_right _ (List.mem_append_left _ (List.mem_of_getElem? (i := 40) rfl)))), by rfl⟩
theorem tw_2_42 : ez_T (Jvm.Cond.fieldLink "java/lang/Throwable" (31 : Nat) "java/lang/Throwable" "detailMessage" "Ljava/lang/String;") := ⟨(List.mem_append_right _ (List.mem_append_right _ (List.mem_append_left _ (List.mem_of_getElem? (i := 42) rfl)))), by rfl⟩
theorem tw_2_43 : ez_T (Jvm.Cond.fieldLink "java/lang/Throwable" (7 : Nat) "java/lang/Throwable" "cause" "Ljava/lang/Throwable;") := ⟨(List.mem_append_right _ (List.mem_append_right _ (List.mem_append_left _ (List.mem_of_getElem? (i := 43) rfl)))), by rfl⟩
theorem tw_2_44 : ez_T (Jvm.Cond.fieldLink "java/lang/Throwable" (17 : Nat) "java/lang/Throwable" "stackTrace" "[Ljava/lang/StackTraceElement;") := ⟨(List.mem_append_right _ (List.mem_append_right _ (List.mem_append_left _ (List.mem_of_getElem? (i := 44) rfl)))), by rfl⟩
theorem tw_2_45 : ez_T (Jvm.Cond.fieldLink "java/lang/Throwable" (24 : Nat) "java/lang/Throwable" "suppressedExceptions" "Ljava/util/List;") := ⟨(List.mem_append_right _ (List.mem_append_right _ (List.mem_append_left _ (List.mem_of_getElem? (i := 45) rfl)))), by rfl⟩
theorem tw_2_54 : ez_T (Jvm.Cond.arrayClass Jvm.ClassFile.FieldType.byte) := ⟨(List.mem_append_right _ (List.mem_append_right _ (List.mem_append_left _ (List.mem_of_getElem? (i := 54) rfl)))), by rfl⟩
theorem tw_2_55 : ez_T (Jvm.Cond.methodLink "FutureWishes" (71 : Nat) ({ cls := "FutureWishes$History", name := "save", desc := "(LFutureWishes$State;)V" } : Jvm.MethodName)) := ⟨(List.mem_append_right _ (List.mem_append_right _ (List.mem_append_left _ (List.mem_of_getElem? (i := 55) rfl)))), by rfl⟩
theorem tw_2_56 : ez_T (Jvm.Cond.instanceMethod ({ cls := "FutureWishes$History", name := "save", desc := "(LFutureWishes$State;)V" } : Jvm.MethodName)) := ⟨(List.mem_append_right _ (List.mem_append_right _ (List.mem_append_left _ (List.mem_of_getElem? (i := 56) rfl)))), by rfl⟩
theorem tw_2_57 : ez_T (Jvm.Cond.selects "FutureWishes$History" ({ cls := "FutureWishes$History", name := "save", desc := "(LFutureWishes$State;)V" } : Jvm.MethodName) ({ cls := "FutureWishes$History", name := "save", desc := "(LFutureWishes$State;)V" } : Jvm.MethodName)) := ⟨(List.mem_append_right _ (List.mem_append_right _ (List.mem_append_left _ (List.mem_of_getElem? (i := 57) rfl)))), by rfl⟩
theorem tw_2_58 : ez_T (Jvm.Cond.code ({ cls := "FutureWishes$History", name := "save", desc := "(LFutureWishes$State;)V" } : Jvm.MethodName) prog_3_method_2_code (2 : Nat) (Option.none : Option Jvm.ClassFile.FieldType)) := ⟨(List.mem_append_right _ (List.mem_append_right _ (List.mem_append_left _ (List.mem_of_getElem? (i := 58) rfl)))), by rfl⟩
theorem tw_2_59 : ez_T (Jvm.Cond.methodLink "FutureWishes$History" (25 : Nat) ({ cls := "FutureWishes$State", name := "copyFrom", desc := "(LFutureWishes$State;)V" } : Jvm.MethodName)) := ⟨(List.mem_append_right _ (List.mem_append_right _ (List.mem_append_left _ (List.mem_of_getElem? (i := 59) rfl)))), by rfl⟩
theorem tw_2_60 : ez_T (Jvm.Cond.instanceMethod ({ cls := "FutureWishes$State", name := "copyFrom", desc := "(LFutureWishes$State;)V" } : Jvm.MethodName)) := ⟨(List.mem_append_right _ (List.mem_append_right _ (List.mem_append_left _ (List.mem_of_getElem? (i := 60) rfl)))), by rfl⟩
theorem tw_2_61 : ez_T (Jvm.Cond.selects "FutureWishes$State" ({ cls := "FutureWishes$State", name := "copyFrom", desc := "(LFutureWishes$State;)V" } : Jvm.MethodName) ({ cls := "FutureWishes$State", name := "copyFrom", desc := "(LFutureWishes$State;)V" } : Jvm.MethodName)) := ⟨(List.mem_append_right _ (List.mem_append_right _ (List.mem_append_left _ (List.mem_of_getElem? (i := 61) rfl)))), by rfl⟩
theorem tw_2_62 : ez_T (Jvm.Cond.code ({ cls := "FutureWishes$State", name := "copyFrom", desc := "(LFutureWishes$State;)V" } : Jvm.MethodName) prog_5_method_2_code (2 : Nat) (Option.none : Option Jvm.ClassFile.FieldType)) := ⟨(List.mem_append_right _ (List.mem_append_right _ (List.mem_append_left _ (List.mem_of_getElem? (i := 62) rfl)))), by rfl⟩
theorem tw_2_63 : ez_T (Jvm.Cond.methodLink "FutureWishes$State" (32 : Nat) ({ cls := "java/lang/System", name := "arraycopy", desc := "(Ljava/lang/Object;ILjava/lang/Object;II)V" } : Jvm.MethodName)) := ⟨(List.mem_append_right _ (List.mem_append_right _ (List.mem_append_left _ (List.mem_of_getElem? (i := 63) rfl)))), by rfl⟩
theorem tw_2_64 : ez_T (Jvm.Cond.static ({ cls := "java/lang/System", name := "arraycopy", desc := "(Ljava/lang/Object;ILjava/lang/Object;II)V" } : Jvm.MethodName)) := ⟨(List.mem_append_right _ (List.mem_append_right _ (List.mem_append_left _ (List.mem_of_getElem? (i := 64) rfl)))), by rfl⟩
theorem tw_2_66 : ez_T (Jvm.Cond.methodLink "FutureWishesLaw" (84 : Nat) ({ cls := "FutureWishes", name := "firstError", desc := "()I" } : Jvm.MethodName)) := ⟨(List.mem_append_right _ (List.mem_append_right _ (List.mem_append_left _ (List.mem_of_getElem? (i := 66) rfl)))), by rfl⟩
theorem tw_2_67 : ez_T (Jvm.Cond.instanceMethod ({ cls := "FutureWishes", name := "firstError", desc := "()I" } : Jvm.MethodName)) := ⟨(List.mem_append_right _ (List.mem_append_right _ (List.mem_append_left _ (List.mem_of_getElem? (i := 67) rfl)))), by rfl⟩
theorem tw_2_68 : ez_T (Jvm.Cond.selects "FutureWishes" ({ cls := "FutureWishes", name := "firstError", desc := "()I" } : Jvm.MethodName) ({ cls := "FutureWishes", name := "firstError", desc := "()I" } : Jvm.MethodName)) := ⟨(List.mem_append_right _ (List.mem_append_right _ (List.mem_append_left _ (List.mem_of_getElem? (i := 68) rfl)))), by rfl⟩
theorem tw_2_69 : ez_T (Jvm.Cond.code ({ cls := "FutureWishes", name := "firstError", desc := "()I" } : Jvm.MethodName) prog_1_method_10_code (1 : Nat) (Option.some Jvm.ClassFile.FieldType.int)) := ⟨(List.mem_append_right _ (List.mem_append_right _ (List.mem_append_left _ (List.mem_of_getElem? (i := 69) rfl)))), by rfl⟩
theorem tw_2_70 : ez_T (Jvm.Cond.methodLink "FutureWishes" (124 : Nat) ({ cls := "FutureWishes$Text", name := "firstFault", desc := "()I" } : Jvm.MethodName)) := ⟨(List.mem_append_right _ (List.mem_append_right _ (List.mem_append_left _ (List.mem_of_getElem? (i := 70) rfl)))), by rfl⟩
theorem tw_2_71 : ez_T (Jvm.Cond.instanceMethod ({ cls := "FutureWishes$Text", name := "firstFault", desc := "()I" } : Jvm.MethodName)) := ⟨(List.mem_append_right _ (List.mem_append_right _ (List.mem_append_left _ (List.mem_of_getElem? (i := 71) rfl)))), by rfl⟩
theorem tw_2_72 : ez_T (Jvm.Cond.selects "FutureWishes$Text" ({ cls := "FutureWishes$Text", name := "firstFault", desc := "()I" } : Jvm.MethodName) ({ cls := "FutureWishes$Text", name := "firstFault", desc := "()I" } : Jvm.MethodName)) := ⟨(List.mem_append_right _ (List.mem_append_right _ (List.mem_append_left _ (List.mem_of_getElem? (i := 72) rfl)))), by rfl⟩
theorem tw_2_73 : ez_T (Jvm.Cond.code ({ cls := "FutureWishes$Text", name := "firstFault", desc := "()I" } : Jvm.MethodName) prog_6_method_5_code (2 : Nat) (Option.some Jvm.ClassFile.FieldType.int)) := ⟨(List.mem_append_right _ (List.mem_append_right _ (List.mem_append_left _ (List.mem_of_getElem? (i := 73) rfl)))), by rfl⟩
theorem tw_2_74 : ez_T (Jvm.Cond.methodLink "FutureWishes$Text" (30 : Nat) ({ cls := "FutureWishes$Text", name := "at", desc := "(I)C" } : Jvm.MethodName)) := ⟨(List.mem_append_right _ (List.mem_append_right _ (List.mem_append_left _ (List.mem_of_getElem? (i := 74) rfl)))), by rfl⟩
theorem tw_2_75 : ez_T (Jvm.Cond.instanceMethod ({ cls := "FutureWishes$Text", name := "at", desc := "(I)C" } : Jvm.MethodName)) := ⟨(List.mem_append_right _ (List.mem_append_right _ (List.mem_append_left _ (List.mem_of_getElem? (i := 75) rfl)))), by rfl⟩
theorem tw_2_76 : ez_T (Jvm.Cond.selects "FutureWishes$Text" ({ cls := "FutureWishes$Text", name := "at", desc := "(I)C" } : Jvm.MethodName) ({ cls := "FutureWishes$Text", name := "at", desc := "(I)C" } : Jvm.MethodName)) := ⟨(List.mem_append_right _ (List.mem_append_right _ (List.mem_append_left _ (List.mem_of_getElem? (i := 76) rfl)))), by rfl⟩
theorem tw_2_77 : ez_T (Jvm.Cond.code ({ cls := "FutureWishes$Text", name := "at", desc := "(I)C" } : Jvm.MethodName) prog_6_method_3_code (2 : Nat) (Option.some Jvm.ClassFile.FieldType.char)) := ⟨(List.mem_append_right _ (List.mem_append_right _ (List.mem_append_left _ (List.mem_of_getElem? (i := 77) rfl)))), by rfl⟩
theorem tw_2_78 : ez_T (Jvm.Cond.methodLink "FutureWishes$Text" (34 : Nat) ({ cls := "FutureWishes$Text", name := "takes", desc := "(C)Z" } : Jvm.MethodName)) := ⟨(List.mem_append_right _ (List.mem_append_right _ (List.mem_append_left _ (List.mem_of_getElem? (i := 78) rfl)))), by rfl⟩
theorem tw_2_80 : ez_T (Jvm.Cond.instanceMethod ({ cls := "FutureWishes$Text", name := "takes", desc := "(C)Z" } : Jvm.MethodName)) := ⟨(List.mem_append_right _ (List.mem_append_right _ (List.mem_append_left _ (List.mem_of_getElem? (i := 80) rfl)))), by rfl⟩
theorem tw_2_81 : ez_T (Jvm.Cond.code ({ cls := "FutureWishes$Text", name := "takes", desc := "(C)Z" } : Jvm.MethodName) prog_6_method_7_code (2 : Nat) (Option.some Jvm.ClassFile.FieldType.boolean)) := ⟨(List.mem_append_right _ (List.mem_append_right _ (List.mem_append_left _ (List.mem_of_getElem? (i := 81) rfl)))), by rfl⟩
theorem tw_2_82 : ez_T (Jvm.Cond.methodLink "FutureWishes$Text" (41 : Nat) ({ cls := "FutureWishes$Text", name := "takesSecond", desc := "(C)Z" } : Jvm.MethodName)) := ⟨(List.mem_append_right _ (List.mem_append_right _ (List.mem_append_left _ (List.mem_of_getElem? (i := 82) rfl)))), by rfl⟩
theorem tw_2_84 : ez_T (Jvm.Cond.instanceMethod ({ cls := "FutureWishes$Text", name := "takesSecond", desc := "(C)Z" } : Jvm.MethodName)) := ⟨(List.mem_append_right _ (List.mem_append_right _ (List.mem_append_left _ (List.mem_of_getElem? (i := 84) rfl)))), by rfl⟩
theorem tw_2_85 : ez_T (Jvm.Cond.code ({ cls := "FutureWishes$Text", name := "takesSecond", desc := "(C)Z" } : Jvm.MethodName) prog_6_method_8_code (2 : Nat) (Option.some Jvm.ClassFile.FieldType.boolean)) := ⟨(List.mem_append_right _ (List.mem_append_right _ (List.mem_append_left _ (List.mem_of_getElem? (i := 85) rfl)))), by rfl⟩
theorem tw_2_86 : ez_T (Jvm.Cond.methodLink "FutureWishes$Text" (44 : Nat) ({ cls := "FutureWishes$Text", name := "takesFirst", desc := "(C)Z" } : Jvm.MethodName)) := ⟨(List.mem_append_right _ (List.mem_append_right _ (List.mem_append_left _ (List.mem_of_getElem? (i := 86) rfl)))), by rfl⟩
theorem tw_2_88 : ez_T (Jvm.Cond.instanceMethod ({ cls := "FutureWishes$Text", name := "takesFirst", desc := "(C)Z" } : Jvm.MethodName)) := ⟨(List.mem_append_right _ (List.mem_append_right _ (List.mem_append_left _ (List.mem_of_getElem? (i := 88) rfl)))), by rfl⟩
theorem tw_2_89 : ez_T (Jvm.Cond.code ({ cls := "FutureWishes$Text", name := "takesFirst", desc := "(C)Z" } : Jvm.MethodName) prog_6_method_9_code (2 : Nat) (Option.some Jvm.ClassFile.FieldType.boolean)) := ⟨(List.mem_append_right _ (List.mem_append_right _ (List.mem_append_left _ (List.mem_of_getElem? (i := 89) rfl)))), by rfl⟩
theorem tw_2_90 : ez_T (Jvm.Cond.methodLink "FutureWishes$Text" (38 : Nat) ({ cls := "FutureWishes$Text", name := "leastRest", desc := "()I" } : Jvm.MethodName)) := ⟨(List.mem_append_right _ (List.mem_append_right _ (List.mem_append_left _ (List.mem_of_getElem? (i := 90) rfl)))), by rfl⟩
theorem tw_2_92 : ez_T (Jvm.Cond.instanceMethod ({ cls := "FutureWishes$Text", name := "leastRest", desc := "()I" } : Jvm.MethodName)) := ⟨(List.mem_append_right _ (List.mem_append_right _ (List.mem_append_left _ (List.mem_of_getElem? (i := 92) rfl)))), by rfl⟩
theorem tw_2_93 : ez_T (Jvm.Cond.code ({ cls := "FutureWishes$Text", name := "leastRest", desc := "()I" } : Jvm.MethodName) prog_6_method_6_code (1 : Nat) (Option.some Jvm.ClassFile.FieldType.int)) := ⟨(List.mem_append_right _ (List.mem_append_right _ (List.mem_append_left _ (List.mem_of_getElem? (i := 93) rfl)))), by rfl⟩
theorem tw_2_94 : ez_T (Jvm.Cond.methodLink "FutureWishesLaw" (88 : Nat) ({ cls := "FutureWishes", name := "read", desc := "(I)I" } : Jvm.MethodName)) := ⟨(List.mem_append_right _ (List.mem_append_right _ (List.mem_append_left _ (List.mem_of_getElem? (i := 94) rfl)))), by rfl⟩
theorem tw_2_95 : ez_T (Jvm.Cond.instanceMethod ({ cls := "FutureWishes", name := "read", desc := "(I)I" } : Jvm.MethodName)) := ⟨(List.mem_append_right _ (List.mem_append_right _ (List.mem_append_left _ (List.mem_of_getElem? (i := 95) rfl)))), by rfl⟩
theorem tw_2_96 : ez_T (Jvm.Cond.selects "FutureWishes" ({ cls := "FutureWishes", name := "read", desc := "(I)I" } : Jvm.MethodName) ({ cls := "FutureWishes", name := "read", desc := "(I)I" } : Jvm.MethodName)) := ⟨(List.mem_append_right _ (List.mem_append_right _ (List.mem_append_left _ (List.mem_of_getElem? (i := 96) rfl)))), by rfl⟩
theorem tw_2_97 : ez_T (Jvm.Cond.code ({ cls := "FutureWishes", name := "read", desc := "(I)I" } : Jvm.MethodName) prog_1_method_11_code (2 : Nat) (Option.some Jvm.ClassFile.FieldType.int)) := ⟨(List.mem_append_right _ (List.mem_append_right _ (List.mem_append_left _ (List.mem_of_getElem? (i := 97) rfl)))), by rfl⟩
theorem tw_2_98 : ez_T (Jvm.Cond.methodLink "FutureWishes" (127 : Nat) ({ cls := "FutureWishes", name := "needWish", desc := "(I)V" } : Jvm.MethodName)) := ⟨(List.mem_append_right _ (List.mem_append_right _ (List.mem_append_left _ (List.mem_of_getElem? (i := 98) rfl)))), by rfl⟩
theorem tw_2_99 : ez_T (Jvm.Cond.static ({ cls := "FutureWishes", name := "needWish", desc := "(I)V" } : Jvm.MethodName)) := ⟨(List.mem_append_right _ (List.mem_append_right _ (List.mem_append_left _ (List.mem_of_getElem? (i := 99) rfl)))), by rfl⟩
theorem tw_2_100 : ez_T (Jvm.Cond.code ({ cls := "FutureWishes", name := "needWish", desc := "(I)V" } : Jvm.MethodName) prog_1_method_26_code (1 : Nat) (Option.none : Option Jvm.ClassFile.FieldType)) := ⟨(List.mem_append_right _ (List.mem_append_right _ (List.mem_append_left _ (List.mem_of_getElem? (i := 100) rfl)))), by rfl⟩
theorem tw_2_101 : ez_T (Jvm.Cond.classLink "FutureWishes" (184 : Nat) "java/lang/IndexOutOfBoundsException") := ⟨(List.mem_append_right _ (List.mem_append_right _ (List.mem_append_left _ (List.mem_of_getElem? (i := 101) rfl)))), by rfl⟩
theorem tw_2_102 : ez_T (Jvm.Cond.instantiable "java/lang/IndexOutOfBoundsException" (6 : Nat)) := ⟨(List.mem_append_right _ (List.mem_append_right _ (List.mem_append_left _ (List.mem_of_getElem? (i := 102) rfl)))), by rfl⟩
theorem tw_2_104 : ez_T (Jvm.Cond.selects "java/lang/IndexOutOfBoundsException" ({ cls := "java/lang/Throwable", name := "fillInStackTrace", desc := "(I)Ljava/lang/Throwable;" } : Jvm.MethodName) ({ cls := "java/lang/Throwable", name := "fillInStackTrace", desc := "(I)Ljava/lang/Throwable;" } : Jvm.MethodName)) := ⟨(List.mem_append_right _ (List.mem_append_right _ (List.mem_append_left _ (List.mem_of_getElem? (i := 104) rfl)))), by rfl⟩
theorem tw_2_111 : ez_T (Jvm.Cond.methodLink "FutureWishes" (188 : Nat) ({ cls := "java/lang/IndexOutOfBoundsException", name := "<init>", desc := "(Ljava/lang/String;)V" } : Jvm.MethodName)) := ⟨(List.mem_append_right _ (List.mem_append_right _ (List.mem_append_left _ (List.mem_of_getElem? (i := 111) rfl)))), by rfl⟩
theorem tw_2_112 : ez_T (Jvm.Cond.instanceMethod ({ cls := "java/lang/IndexOutOfBoundsException", name := "<init>", desc := "(Ljava/lang/String;)V" } : Jvm.MethodName)) := ⟨(List.mem_append_right _ (List.mem_append_right _ (List.mem_append_left _ (List.mem_of_getElem? (i := 112) rfl)))), by rfl⟩
theorem tw_2_113 : ez_T (Jvm.Cond.code ({ cls := "java/lang/IndexOutOfBoundsException", name := "<init>", desc := "(Ljava/lang/String;)V" } : Jvm.MethodName) prog_14_method_2_code (2 : Nat) (Option.none : Option Jvm.ClassFile.FieldType)) := ⟨(List.mem_append_right _ (List.mem_append_right _ (List.mem_append_left _ (List.mem_of_getElem? (i := 113) rfl)))), by rfl⟩
theorem tw_2_114 : ez_T (Jvm.Cond.methodLink "java/lang/IndexOutOfBoundsException" (7 : Nat) ({ cls := "java/lang/RuntimeException", name := "<init>", desc := "(Ljava/lang/String;)V" } : Jvm.MethodName)) := ⟨(List.mem_append_right _ (List.mem_append_right _ (List.mem_append_left _ (List.mem_of_getElem? (i := 114) rfl)))), by rfl⟩
theorem tw_2_117 : ez_T (Jvm.Cond.methodLink "FutureWishes" (130 : Nat) ({ cls := "FutureWishes$Text", name := "isWish", desc := "()Z" } : Jvm.MethodName)) := ⟨(List.mem_append_right _ (List.mem_append_right _ (List.mem_append_left _ (List.mem_of_getElem? (i := 117) rfl)))), by rfl⟩
theorem tw_2_118 : ez_T (Jvm.Cond.instanceMethod ({ cls := "FutureWishes$Text", name := "isWish", desc := "()Z" } : Jvm.MethodName)) := ⟨(List.mem_append_right _ (List.mem_append_right _ (List.mem_append_left _ (List.mem_of_getElem? (i := 118) rfl)))), by rfl⟩
theorem tw_2_119 : ez_T (Jvm.Cond.selects "FutureWishes$Text" ({ cls := "FutureWishes$Text", name := "isWish", desc := "()Z" } : Jvm.MethodName) ({ cls := "FutureWishes$Text", name := "isWish", desc := "()Z" } : Jvm.MethodName)) := ⟨(List.mem_append_right _ (List.mem_append_right _ (List.mem_append_left _ (List.mem_of_getElem? (i := 119) rfl)))), by rfl⟩
theorem tw_2_120 : ez_T (Jvm.Cond.code ({ cls := "FutureWishes$Text", name := "isWish", desc := "()Z" } : Jvm.MethodName) prog_6_method_4_code (1 : Nat) (Option.some Jvm.ClassFile.FieldType.boolean)) := ⟨(List.mem_append_right _ (List.mem_append_right _ (List.mem_append_left _ (List.mem_of_getElem? (i := 120) rfl)))), by rfl⟩
theorem tw_2_121 : ez_T (Jvm.Cond.methodLink "FutureWishes$Text" (26 : Nat) ({ cls := "FutureWishes$Text", name := "firstFault", desc := "()I" } : Jvm.MethodName)) := ⟨(List.mem_append_right _ (List.mem_append_right _ (List.mem_append_left _ (List.mem_of_getElem? (i := 121) rfl)))), by rfl⟩
theorem tw_2_123 : ez_T (Jvm.Cond.methodLink "FutureWishes" (136 : Nat) ({ cls := "FutureWishes$State", name := "putWish", desc := "(ILFutureWishes$Text;)V" } : Jvm.MethodName)) := ⟨(List.mem_append_right _ (List.mem_append_right _ (List.mem_append_left _ (List.mem_of_getElem? (i := 123) rfl)))), by rfl⟩
theorem tw_2_124 : ez_T (Jvm.Cond.instanceMethod ({ cls := "FutureWishes$State", name := "putWish", desc := "(ILFutureWishes$Text;)V" } : Jvm.MethodName)) := ⟨(List.mem_append_right _ (List.mem_append_right _ (List.mem_append_left _ (List.mem_of_getElem? (i := 124) rfl)))), by rfl⟩
theorem tw_2_125 : ez_T (Jvm.Cond.selects "FutureWishes$State" ({ cls := "FutureWishes$State", name := "putWish", desc := "(ILFutureWishes$Text;)V" } : Jvm.MethodName) ({ cls := "FutureWishes$State", name := "putWish", desc := "(ILFutureWishes$Text;)V" } : Jvm.MethodName)) := ⟨(List.mem_append_right _ (List.mem_append_right _ (List.mem_append_left _ (List.mem_of_getElem? (i := 125) rfl)))), by rfl⟩
theorem tw_2_126 : ez_T (Jvm.Cond.code ({ cls := "FutureWishes$State", name := "putWish", desc := "(ILFutureWishes$Text;)V" } : Jvm.MethodName) prog_5_method_19_code (4 : Nat) (Option.none : Option Jvm.ClassFile.FieldType)) := ⟨(List.mem_append_right _ (List.mem_append_right _ (List.mem_append_left _ (List.mem_of_getElem? (i := 126) rfl)))), by rfl⟩
theorem tw_2_127 : ez_T (Jvm.Cond.methodLink "FutureWishes$State" (56 : Nat) ({ cls := "FutureWishes$Text", name := "at", desc := "(I)C" } : Jvm.MethodName)) := ⟨(List.mem_append_right _ (List.mem_append_right _ (List.mem_append_left _ (List.mem_of_getElem? (i := 127) rfl)))), by rfl⟩
theorem tw_2_128 : ez_T (Jvm.Cond.methodLink "FutureWishes$State" (60 : Nat) ({ cls := "FutureWishes$State", name := "putSign", desc := "(IIC)V" } : Jvm.MethodName)) := ⟨(List.mem_append_right _ (List.mem_append_right _ (List.mem_append_left _ (List.mem_of_getElem? (i := 128) rfl)))), by rfl⟩
theorem tw_2_130 : ez_T (Jvm.Cond.instanceMethod ({ cls := "FutureWishes$State", name := "putSign", desc := "(IIC)V" } : Jvm.MethodName)) := ⟨(List.mem_append_right _ (List.mem_append_right _ (List.mem_append_left _ (List.mem_of_getElem? (i := 130) rfl)))), by rfl⟩
theorem tw_2_131 : ez_T (Jvm.Cond.code ({ cls := "FutureWishes$State", name := "putSign", desc := "(IIC)V" } : Jvm.MethodName) prog_5_method_17_code (4 : Nat) (Option.none : Option Jvm.ClassFile.FieldType)) := ⟨(List.mem_append_right _ (List.mem_append_right _ (List.mem_append_left _ (List.mem_of_getElem? (i := 131) rfl)))), by rfl⟩
theorem tw_2_132 : ez_T (Jvm.Cond.methodLink "FutureWishes$State" (64 : Nat) ({ cls := "FutureWishes$State", name := "putLength", desc := "(II)V" } : Jvm.MethodName)) := ⟨(List.mem_append_right _ (List.mem_append_right _ (List.mem_append_left _ (List.mem_of_getElem? (i := 132) rfl)))), by rfl⟩
theorem tw_2_134 : ez_T (Jvm.Cond.instanceMethod ({ cls := "FutureWishes$State", name := "putLength", desc := "(II)V" } : Jvm.MethodName)) := ⟨(List.mem_append_right _ (List.mem_append_right _ (List.mem_append_left _ (List.mem_of_getElem? (i := 134) rfl)))), by rfl⟩
theorem tw_2_135 : ez_T (Jvm.Cond.code ({ cls := "FutureWishes$State", name := "putLength", desc := "(II)V" } : Jvm.MethodName) prog_5_method_18_code (3 : Nat) (Option.none : Option Jvm.ClassFile.FieldType)) := ⟨(List.mem_append_right _ (List.mem_append_right _ (List.mem_append_left _ (List.mem_of_getElem? (i := 135) rfl)))), by rfl⟩
theorem tw_2_136 : ez_T (Jvm.Cond.methodLink "FutureWishes" (140 : Nat) ({ cls := "FutureWishes$State", name := "lengthOf", desc := "(I)I" } : Jvm.MethodName)) := ⟨(List.mem_append_right _ (List.mem_append_right _ (List.mem_append_left _ (List.mem_of_getElem? (i := 136) rfl)))), by rfl⟩
theorem tw_2_137 : ez_T (Jvm.Cond.instanceMethod ({ cls := "FutureWishes$State", name := "lengthOf", desc := "(I)I" } : Jvm.MethodName)) := ⟨(List.mem_append_right _ (List.mem_append_right _ (List.mem_append_left _ (List.mem_of_getElem? (i := 137) rfl)))), by rfl⟩
theorem tw_2_138 : ez_T (Jvm.Cond.selects "FutureWishes$State" ({ cls := "FutureWishes$State", name := "lengthOf", desc := "(I)I" } : Jvm.MethodName) ({ cls := "FutureWishes$State", name := "lengthOf", desc := "(I)I" } : Jvm.MethodName)) := ⟨(List.mem_append_right _ (List.mem_append_right _ (List.mem_append_left _ (List.mem_of_getElem? (i := 138) rfl)))), by rfl⟩
theorem tw_2_139 : ez_T (Jvm.Cond.code ({ cls := "FutureWishes$State", name := "lengthOf", desc := "(I)I" } : Jvm.MethodName) prog_5_method_15_code (2 : Nat) (Option.some Jvm.ClassFile.FieldType.int)) := ⟨(List.mem_append_right _ (List.mem_append_right _ (List.mem_append_left _ (List.mem_of_getElem? (i := 139) rfl)))), by rfl⟩
theorem tw_2_140 : ez_T (Jvm.Cond.methodLink "FutureWishesLaw" (95 : Nat) ({ cls := "FutureWishes", name := "negate", desc := "(I)I" } : Jvm.MethodName)) := ⟨(List.mem_append_right _ (List.mem_append_right _ (List.mem_append_left _ (List.mem_of_getElem? (i := 140) rfl)))), by rfl⟩
theorem tw_2_141 : ez_T (Jvm.Cond.instanceMethod ({ cls := "FutureWishes", name := "negate", desc := "(I)I" } : Jvm.MethodName)) := ⟨(List.mem_append_right _ (List.mem_append_right _ (List.mem_append_left _ (List.mem_of_getElem? (i := 141) rfl)))), by rfl⟩
theorem tw_2_142 : ez_T (Jvm.Cond.selects "FutureWishes" ({ cls := "FutureWishes", name := "negate", desc := "(I)I" } : Jvm.MethodName) ({ cls := "FutureWishes", name := "negate", desc := "(I)I" } : Jvm.MethodName)) := ⟨(List.mem_append_right _ (List.mem_append_right _ (List.mem_append_left _ (List.mem_of_getElem? (i := 142) rfl)))), by rfl⟩
theorem tw_2_143 : ez_T (Jvm.Cond.code ({ cls := "FutureWishes", name := "negate", desc := "(I)I" } : Jvm.MethodName) prog_1_method_12_code (4 : Nat) (Option.some Jvm.ClassFile.FieldType.int)) := ⟨(List.mem_append_right _ (List.mem_append_right _ (List.mem_append_left _ (List.mem_of_getElem? (i := 143) rfl)))), by rfl⟩
theorem tw_2_144 : ez_T (Jvm.Cond.methodLink "FutureWishes" (143 : Nat) ({ cls := "FutureWishes$State", name := "signAt", desc := "(II)C" } : Jvm.MethodName)) := ⟨(List.mem_append_right _ (List.mem_append_right _ (List.mem_append_left _ (List.mem_of_getElem? (i := 144) rfl)))), by rfl⟩
theorem tw_2_145 : ez_T (Jvm.Cond.instanceMethod ({ cls := "FutureWishes$State", name := "signAt", desc := "(II)C" } : Jvm.MethodName)) := ⟨(List.mem_append_right _ (List.mem_append_right _ (List.mem_append_left _ (List.mem_of_getElem? (i := 145) rfl)))), by rfl⟩
theorem tw_2_146 : ez_T (Jvm.Cond.selects "FutureWishes$State" ({ cls := "FutureWishes$State", name := "signAt", desc := "(II)C" } : Jvm.MethodName) ({ cls := "FutureWishes$State", name := "signAt", desc := "(II)C" } : Jvm.MethodName)) := ⟨(List.mem_append_right _ (List.mem_append_right _ (List.mem_append_left _ (List.mem_of_getElem? (i := 146) rfl)))), by rfl⟩
theorem tw_2_147 : ez_T (Jvm.Cond.code ({ cls := "FutureWishes$State", name := "signAt", desc := "(II)C" } : Jvm.MethodName) prog_5_method_16_code (3 : Nat) (Option.some Jvm.ClassFile.FieldType.char)) := ⟨(List.mem_append_right _ (List.mem_append_right _ (List.mem_append_left _ (List.mem_of_getElem? (i := 147) rfl)))), by rfl⟩
theorem tw_2_148 : ez_T (Jvm.Cond.methodLink "FutureWishes$State" (48 : Nat) ({ cls := "FutureWishes$State", name := "lengthOf", desc := "(I)I" } : Jvm.MethodName)) := ⟨(List.mem_append_right _ (List.mem_append_right _ (List.mem_append_left _ (List.mem_of_getElem? (i := 148) rfl)))), by rfl⟩
theorem tw_2_149 : ez_T (Jvm.Cond.classLink "FutureWishes" (66 : Nat) "java/lang/IllegalStateException") := ⟨(List.mem_append_right _ (List.mem_append_right _ (List.mem_append_left _ (List.mem_of_getElem? (i := 149) rfl)))), by rfl⟩
theorem tw_2_150 : ez_T (Jvm.Cond.instantiable "java/lang/IllegalStateException" (6 : Nat)) := ⟨(List.mem_append_right _ (List.mem_append_right _ (List.mem_append_left _ (List.mem_of_getElem? (i := 150) rfl)))), by rfl⟩
theorem tw_2_152 : ez_T (Jvm.Cond.selects "java/lang/IllegalStateException" ({ cls := "java/lang/Throwable", name := "fillInStackTrace", desc := "(I)Ljava/lang/Throwable;" } : Jvm.MethodName) ({ cls := "java/lang/Throwable", name := "fillInStackTrace", desc := "(I)Ljava/lang/Throwable;" } : Jvm.MethodName)) := ⟨(List.mem_append_right _ (List.mem_append_right _ (List.mem_append_left _ (List.mem_of_getElem? (i := 152) rfl)))), by rfl⟩
theorem tw_2_159 : ez_T (Jvm.Cond.methodLink "FutureWishes" (70 : Nat) ({ cls := "java/lang/IllegalStateException", name := "<init>", desc := "(Ljava/lang/String;)V" } : Jvm.MethodName)) := ⟨(List.mem_append_right _ (List.mem_append_right _ (List.mem_append_left _ (List.mem_of_getElem? (i := 159) rfl)))), by rfl⟩
theorem tw_2_160 : ez_T (Jvm.Cond.instanceMethod ({ cls := "java/lang/IllegalStateException", name := "<init>", desc := "(Ljava/lang/String;)V" } : Jvm.MethodName)) := ⟨(List.mem_append_right _ (List.mem_append_right _ (List.mem_append_left _ (List.mem_of_getElem? (i := 160) rfl)))), by rfl⟩
theorem tw_2_161 : ez_T (Jvm.Cond.code ({ cls := "java/lang/IllegalStateException", name := "<init>", desc := "(Ljava/lang/String;)V" } : Jvm.MethodName) prog_13_method_2_code (2 : Nat) (Option.none : Option Jvm.ClassFile.FieldType)) := ⟨(List.mem_append_right _ (List.mem_append_right _ (List.mem_append_left _ (List.mem_of_getElem? (i := 161) rfl)))), by rfl⟩
theorem tw_2_162 : ez_T (Jvm.Cond.methodLink "java/lang/IllegalStateException" (7 : Nat) ({ cls := "java/lang/RuntimeException", name := "<init>", desc := "(Ljava/lang/String;)V" } : Jvm.MethodName)) := ⟨(List.mem_append_right _ (List.mem_append_right _ (List.mem_append_left _ (List.mem_of_getElem? (i := 162) rfl)))), by rfl⟩
theorem tw_2_165 : ez_T (Jvm.Cond.methodLink "FutureWishes" (149 : Nat) ({ cls := "FutureWishes$State", name := "dropNot", desc := "(I)V" } : Jvm.MethodName)) := ⟨(List.mem_append_right _ (List.mem_append_right _ (List.mem_append_left _ (List.mem_of_getElem? (i := 165) rfl)))), by rfl⟩
theorem tw_2_166 : ez_T (Jvm.Cond.instanceMethod ({ cls := "FutureWishes$State", name := "dropNot", desc := "(I)V" } : Jvm.MethodName)) := ⟨(List.mem_append_right _ (List.mem_append_right _ (List.mem_append_left _ (List.mem_of_getElem? (i := 166) rfl)))), by rfl⟩
theorem tw_2_167 : ez_T (Jvm.Cond.selects "FutureWishes$State" ({ cls := "FutureWishes$State", name := "dropNot", desc := "(I)V" } : Jvm.MethodName) ({ cls := "FutureWishes$State", name := "dropNot", desc := "(I)V" } : Jvm.MethodName)) := ⟨(List.mem_append_right _ (List.mem_append_right _ (List.mem_append_left _ (List.mem_of_getElem? (i := 167) rfl)))), by rfl⟩
theorem tw_2_168 : ez_T (Jvm.Cond.code ({ cls := "FutureWishes$State", name := "dropNot", desc := "(I)V" } : Jvm.MethodName) prog_5_method_21_code (4 : Nat) (Option.none : Option Jvm.ClassFile.FieldType)) := ⟨(List.mem_append_right _ (List.mem_append_right _ (List.mem_append_left _ (List.mem_of_getElem? (i := 168) rfl)))), by rfl⟩
theorem tw_2_169 : ez_T (Jvm.Cond.methodLink "FutureWishes$State" (68 : Nat) ({ cls := "FutureWishes$State", name := "signAt", desc := "(II)C" } : Jvm.MethodName)) := ⟨(List.mem_append_right _ (List.mem_append_right _ (List.mem_append_left _ (List.mem_of_getElem? (i := 169) rfl)))), by rfl⟩
theorem tw_2_170 : ez_T (Jvm.Cond.methodLink "FutureWishes" (152 : Nat) ({ cls := "FutureWishes$State", name := "putNot", desc := "(I)V" } : Jvm.MethodName)) := ⟨(List.mem_append_right _ (List.mem_append_right _ (List.mem_append_left _ (List.mem_of_getElem? (i := 170) rfl)))), by rfl⟩
theorem tw_2_171 : ez_T (Jvm.Cond.instanceMethod ({ cls := "FutureWishes$State", name := "putNot", desc := "(I)V" } : Jvm.MethodName)) := ⟨(List.mem_append_right _ (List.mem_append_right _ (List.mem_append_left _ (List.mem_of_getElem? (i := 171) rfl)))), by rfl⟩
theorem tw_2_172 : ez_T (Jvm.Cond.selects "FutureWishes$State" ({ cls := "FutureWishes$State", name := "putNot", desc := "(I)V" } : Jvm.MethodName) ({ cls := "FutureWishes$State", name := "putNot", desc := "(I)V" } : Jvm.MethodName)) := ⟨(List.mem_append_right _ (List.mem_append_right _ (List.mem_append_left _ (List.mem_of_getElem? (i := 172) rfl)))), by rfl⟩
theorem tw_2_173 : ez_T (Jvm.Cond.code ({ cls := "FutureWishes$State", name := "putNot", desc := "(I)V" } : Jvm.MethodName) prog_5_method_20_code (4 : Nat) (Option.none : Option Jvm.ClassFile.FieldType)) := ⟨(List.mem_append_right _ (List.mem_append_right _ (List.mem_append_left _ (List.mem_of_getElem? (i := 173) rfl)))), by rfl⟩
theorem tw_2_174 : ez_T (Jvm.Cond.methodLink "FutureWishesLaw" (98 : Nat) ({ cls := "FutureWishes", name := "undo", desc := "()I" } : Jvm.MethodName)) := ⟨(List.mem_append_right _ (List.mem_append_right _ (List.mem_append_left _ (List.mem_of_getElem? (i := 174) rfl)))), by rfl⟩
theorem tw_2_175 : ez_T (Jvm.Cond.instanceMethod ({ cls := "FutureWishes", name := "undo", desc := "()I" } : Jvm.MethodName)) := ⟨(List.mem_append_right _ (List.mem_append_right _ (List.mem_append_left _ (List.mem_of_getElem? (i := 175) rfl)))), by rfl⟩
theorem tw_2_176 : ez_T (Jvm.Cond.selects "FutureWishes" ({ cls := "FutureWishes", name := "undo", desc := "()I" } : Jvm.MethodName) ({ cls := "FutureWishes", name := "undo", desc := "()I" } : Jvm.MethodName)) := ⟨(List.mem_append_right _ (List.mem_append_right _ (List.mem_append_left _ (List.mem_of_getElem? (i := 176) rfl)))), by rfl⟩
theorem tw_2_177 : ez_T (Jvm.Cond.code ({ cls := "FutureWishes", name := "undo", desc := "()I" } : Jvm.MethodName) prog_1_method_14_code (1 : Nat) (Option.some Jvm.ClassFile.FieldType.int)) := ⟨(List.mem_append_right _ (List.mem_append_right _ (List.mem_append_left _ (List.mem_of_getElem? (i := 177) rfl)))), by rfl⟩
theorem tw_2_179 : ez_T (Jvm.Cond.methodLink "FutureWishes" (163 : Nat) ({ cls := "FutureWishes$History", name := "restore", desc := "(LFutureWishes$State;)V" } : Jvm.MethodName)) := ⟨(List.mem_append_right _ (List.mem_append_right _ (List.mem_append_left _ (List.mem_of_getElem? (i := 179) rfl)))), by rfl⟩
theorem tw_2_180 : ez_T (Jvm.Cond.instanceMethod ({ cls := "FutureWishes$History", name := "restore", desc := "(LFutureWishes$State;)V" } : Jvm.MethodName)) := ⟨(List.mem_append_right _ (List.mem_append_right _ (List.mem_append_left _ (List.mem_of_getElem? (i := 180) rfl)))), by rfl⟩
theorem tw_2_181 : ez_T (Jvm.Cond.selects "FutureWishes$History" ({ cls := "FutureWishes$History", name := "restore", desc := "(LFutureWishes$State;)V" } : Jvm.MethodName) ({ cls := "FutureWishes$History", name := "restore", desc := "(LFutureWishes$State;)V" } : Jvm.MethodName)) := ⟨(List.mem_append_right _ (List.mem_append_right _ (List.mem_append_left _ (List.mem_of_getElem? (i := 181) rfl)))), by rfl⟩
theorem tw_2_182 : ez_T (Jvm.Cond.code ({ cls := "FutureWishes$History", name := "restore", desc := "(LFutureWishes$State;)V" } : Jvm.MethodName) prog_3_method_3_code (2 : Nat) (Option.none : Option Jvm.ClassFile.FieldType)) := ⟨(List.mem_append_right _ (List.mem_append_right _ (List.mem_append_left _ (List.mem_of_getElem? (i := 182) rfl)))), by rfl⟩
theorem tw_2_183 : ez_T (Jvm.Cond.methodLink "FutureWishesLaw" (36 : Nat) ({ cls := "FutureWishes", name := "world", desc := "(II)I" } : Jvm.MethodName)) := ⟨(List.mem_append_right _ (List.mem_append_right _ (List.mem_append_left _ (List.mem_of_getElem? (i := 183) rfl)))), by rfl⟩
theorem tw_2_184 : ez_T (Jvm.Cond.instanceMethod ({ cls := "FutureWishes", name := "world", desc := "(II)I" } : Jvm.MethodName)) := ⟨(List.mem_append_right _ (List.mem_append_right _ (List.mem_append_left _ (List.mem_of_getElem? (i := 184) rfl)))), by rfl⟩
theorem tw_2_185 : ez_T (Jvm.Cond.selects "FutureWishes" ({ cls := "FutureWishes", name := "world", desc := "(II)I" } : Jvm.MethodName) ({ cls := "FutureWishes", name := "world", desc := "(II)I" } : Jvm.MethodName)) := ⟨(List.mem_append_right _ (List.mem_append_right _ (List.mem_append_left _ (List.mem_of_getElem? (i := 185) rfl)))), by rfl⟩
theorem tw_2_186 : ez_T (Jvm.Cond.code ({ cls := "FutureWishes", name := "world", desc := "(II)I" } : Jvm.MethodName) prog_1_method_15_code (3 : Nat) (Option.some Jvm.ClassFile.FieldType.int)) := ⟨(List.mem_append_right _ (List.mem_append_right _ (List.mem_append_left _ (List.mem_of_getElem? (i := 186) rfl)))), by rfl⟩
theorem tw_2_187 : ez_T (Jvm.Cond.methodLink "FutureWishes" (78 : Nat) ({ cls := "FutureWishes", name := "needWorld", desc := "(I)V" } : Jvm.MethodName)) := ⟨(List.mem_append_right _ (List.mem_append_right _ (List.mem_append_left _ (List.mem_of_getElem? (i := 187) rfl)))), by rfl⟩
theorem tw_2_189 : ez_T (Jvm.Cond.instanceMethod ({ cls := "FutureWishes", name := "needWorld", desc := "(I)V" } : Jvm.MethodName)) := ⟨(List.mem_append_right _ (List.mem_append_right _ (List.mem_append_left _ (List.mem_of_getElem? (i := 189) rfl)))), by rfl⟩
theorem tw_2_190 : ez_T (Jvm.Cond.code ({ cls := "FutureWishes", name := "needWorld", desc := "(I)V" } : Jvm.MethodName) prog_1_method_25_code (2 : Nat) (Option.none : Option Jvm.ClassFile.FieldType)) := ⟨(List.mem_append_right _ (List.mem_append_right _ (List.mem_append_left _ (List.mem_of_getElem? (i := 190) rfl)))), by rfl⟩
theorem tw_2_191 : ez_T (Jvm.Cond.methodLink "FutureWishes" (274 : Nat) ({ cls := "FutureWishes$State", name := "hasWorld", desc := "(I)Z" } : Jvm.MethodName)) := ⟨(List.mem_append_right _ (List.mem_append_right _ (List.mem_append_left _ (List.mem_of_getElem? (i := 191) rfl)))), by rfl⟩
theorem tw_2_192 : ez_T (Jvm.Cond.instanceMethod ({ cls := "FutureWishes$State", name := "hasWorld", desc := "(I)Z" } : Jvm.MethodName)) := ⟨(List.mem_append_right _ (List.mem_append_right _ (List.mem_append_left _ (List.mem_of_getElem? (i := 192) rfl)))), by rfl⟩
theorem tw_2_193 : ez_T (Jvm.Cond.selects "FutureWishes$State" ({ cls := "FutureWishes$State", name := "hasWorld", desc := "(I)Z" } : Jvm.MethodName) ({ cls := "FutureWishes$State", name := "hasWorld", desc := "(I)Z" } : Jvm.MethodName)) := ⟨(List.mem_append_right _ (List.mem_append_right _ (List.mem_append_left _ (List.mem_of_getElem? (i := 193) rfl)))), by rfl⟩
theorem tw_2_194 : ez_T (Jvm.Cond.code ({ cls := "FutureWishes$State", name := "hasWorld", desc := "(I)Z" } : Jvm.MethodName) prog_5_method_3_code (2 : Nat) (Option.some Jvm.ClassFile.FieldType.boolean)) := ⟨(List.mem_append_right _ (List.mem_append_right _ (List.mem_append_left _ (List.mem_of_getElem? (i := 194) rfl)))), by rfl⟩
theorem tw_2_196 : ez_T (Jvm.Cond.methodLink "FutureWishes" (166 : Nat) ({ cls := "FutureWishes", name := "needLook", desc := "(II)V" } : Jvm.MethodName)) := ⟨(List.mem_append_right _ (List.mem_append_right _ (List.mem_append_left _ (List.mem_of_getElem? (i := 196) rfl)))), by rfl⟩
theorem tw_2_197 : ez_T (Jvm.Cond.static ({ cls := "FutureWishes", name := "needLook", desc := "(II)V" } : Jvm.MethodName)) := ⟨(List.mem_append_right _ (List.mem_append_right _ (List.mem_append_left _ (List.mem_of_getElem? (i := 197) rfl)))), by rfl⟩
theorem tw_2_198 : ez_T (Jvm.Cond.code ({ cls := "FutureWishes", name := "needLook", desc := "(II)V" } : Jvm.MethodName) prog_1_method_28_code (2 : Nat) (Option.none : Option Jvm.ClassFile.FieldType)) := ⟨(List.mem_append_right _ (List.mem_append_right _ (List.mem_append_left _ (List.mem_of_getElem? (i := 198) rfl)))), by rfl⟩
theorem tw_2_200 : ez_T (Jvm.Cond.methodLink "FutureWishes" (97 : Nat) ({ cls := "FutureWishes$State", name := "lettersOf", desc := "(I)I" } : Jvm.MethodName)) := ⟨(List.mem_append_right _ (List.mem_append_right _ (List.mem_append_left _ (List.mem_of_getElem? (i := 200) rfl)))), by rfl⟩
theorem tw_2_201 : ez_T (Jvm.Cond.instanceMethod ({ cls := "FutureWishes$State", name := "lettersOf", desc := "(I)I" } : Jvm.MethodName)) := ⟨(List.mem_append_right _ (List.mem_append_right _ (List.mem_append_left _ (List.mem_of_getElem? (i := 201) rfl)))), by rfl⟩
theorem tw_2_202 : ez_T (Jvm.Cond.selects "FutureWishes$State" ({ cls := "FutureWishes$State", name := "lettersOf", desc := "(I)I" } : Jvm.MethodName) ({ cls := "FutureWishes$State", name := "lettersOf", desc := "(I)I" } : Jvm.MethodName)) := ⟨(List.mem_append_right _ (List.mem_append_right _ (List.mem_append_left _ (List.mem_of_getElem? (i := 202) rfl)))), by rfl⟩
theorem tw_2_203 : ez_T (Jvm.Cond.code ({ cls := "FutureWishes$State", name := "lettersOf", desc := "(I)I" } : Jvm.MethodName) prog_5_method_5_code (2 : Nat) (Option.some Jvm.ClassFile.FieldType.int)) := ⟨(List.mem_append_right _ (List.mem_append_right _ (List.mem_append_left _ (List.mem_of_getElem? (i := 203) rfl)))), by rfl⟩
theorem tw_2_204 : ez_T (Jvm.Cond.methodLink "FutureWishes" (89 : Nat) ({ cls := "FutureWishes$State", name := "stepsFrom", desc := "(I)I" } : Jvm.MethodName)) := ⟨(List.mem_append_right _ (List.mem_append_right _ (List.mem_append_left _ (List.mem_of_getElem? (i := 204) rfl)))), by rfl⟩
theorem tw_2_205 : ez_T (Jvm.Cond.instanceMethod ({ cls := "FutureWishes$State", name := "stepsFrom", desc := "(I)I" } : Jvm.MethodName)) := ⟨(List.mem_append_right _ (List.mem_append_right _ (List.mem_append_left _ (List.mem_of_getElem? (i := 205) rfl)))), by rfl⟩
theorem tw_2_206 : ez_T (Jvm.Cond.selects "FutureWishes$State" ({ cls := "FutureWishes$State", name := "stepsFrom", desc := "(I)I" } : Jvm.MethodName) ({ cls := "FutureWishes$State", name := "stepsFrom", desc := "(I)I" } : Jvm.MethodName)) := ⟨(List.mem_append_right _ (List.mem_append_right _ (List.mem_append_left _ (List.mem_of_getElem? (i := 206) rfl)))), by rfl⟩
theorem tw_2_207 : ez_T (Jvm.Cond.code ({ cls := "FutureWishes$State", name := "stepsFrom", desc := "(I)I" } : Jvm.MethodName) prog_5_method_6_code (2 : Nat) (Option.some Jvm.ClassFile.FieldType.int)) := ⟨(List.mem_append_right _ (List.mem_append_right _ (List.mem_append_left _ (List.mem_of_getElem? (i := 207) rfl)))), by rfl⟩
theorem tw_2_208 : ez_T (Jvm.Cond.methodLink "FutureWishes" (169 : Nat) ({ cls := "FutureWishes$State", name := "leadingInto", desc := "(I)I" } : Jvm.MethodName)) := ⟨(List.mem_append_right _ (List.mem_append_right _ (List.mem_append_left _ (List.mem_of_getElem? (i := 208) rfl)))), by rfl⟩
theorem tw_2_209 : ez_T (Jvm.Cond.instanceMethod ({ cls := "FutureWishes$State", name := "leadingInto", desc := "(I)I" } : Jvm.MethodName)) := ⟨(List.mem_append_right _ (List.mem_append_right _ (List.mem_append_left _ (List.mem_of_getElem? (i := 209) rfl)))), by rfl⟩
theorem tw_2_210 : ez_T (Jvm.Cond.selects "FutureWishes$State" ({ cls := "FutureWishes$State", name := "leadingInto", desc := "(I)I" } : Jvm.MethodName) ({ cls := "FutureWishes$State", name := "leadingInto", desc := "(I)I" } : Jvm.MethodName)) := ⟨(List.mem_append_right _ (List.mem_append_right _ (List.mem_append_left _ (List.mem_of_getElem? (i := 210) rfl)))), by rfl⟩
theorem tw_2_211 : ez_T (Jvm.Cond.code ({ cls := "FutureWishes$State", name := "leadingInto", desc := "(I)I" } : Jvm.MethodName) prog_5_method_8_code (4 : Nat) (Option.some Jvm.ClassFile.FieldType.int)) := ⟨(List.mem_append_right _ (List.mem_append_right _ (List.mem_append_left _ (List.mem_of_getElem? (i := 211) rfl)))), by rfl⟩
theorem tw_2_212 : ez_T (Jvm.Cond.methodLink "FutureWishes" (172 : Nat) ({ cls := "FutureWishes$Meaning", name := "live", desc := "()I" } : Jvm.MethodName)) := ⟨(List.mem_append_right _ (List.mem_append_right _ (List.mem_append_left _ (List.mem_of_getElem? (i := 212) rfl)))), by rfl⟩
theorem tw_2_213 : ez_T (Jvm.Cond.instanceMethod ({ cls := "FutureWishes$Meaning", name := "live", desc := "()I" } : Jvm.MethodName)) := ⟨(List.mem_append_right _ (List.mem_append_right _ (List.mem_append_left _ (List.mem_of_getElem? (i := 213) rfl)))), by rfl⟩
theorem tw_2_214 : ez_T (Jvm.Cond.selects "FutureWishes$Meaning" ({ cls := "FutureWishes$Meaning", name := "live", desc := "()I" } : Jvm.MethodName) ({ cls := "FutureWishes$Meaning", name := "live", desc := "()I" } : Jvm.MethodName)) := ⟨(List.mem_append_right _ (List.mem_append_right _ (List.mem_append_left _ (List.mem_of_getElem? (i := 214) rfl)))), by rfl⟩
theorem tw_2_215 : ez_T (Jvm.Cond.code ({ cls := "FutureWishes$Meaning", name := "live", desc := "()I" } : Jvm.MethodName) prog_4_method_2_code (1 : Nat) (Option.some Jvm.ClassFile.FieldType.int)) := ⟨(List.mem_append_right _ (List.mem_append_right _ (List.mem_append_left _ (List.mem_of_getElem? (i := 215) rfl)))), by rfl⟩
theorem tw_2_216 : ez_T (Jvm.Cond.methodLink "FutureWishes$Meaning" (45 : Nat) ({ cls := "FutureWishes$Futures", name := "look", desc := "()V" } : Jvm.MethodName)) := ⟨(List.mem_append_right _ (List.mem_append_right _ (List.mem_append_left _ (List.mem_of_getElem? (i := 216) rfl)))), by rfl⟩
theorem tw_2_217 : ez_T (Jvm.Cond.instanceMethod ({ cls := "FutureWishes$Futures", name := "look", desc := "()V" } : Jvm.MethodName)) := ⟨(List.mem_append_right _ (List.mem_append_right _ (List.mem_append_left _ (List.mem_of_getElem? (i := 217) rfl)))), by rfl⟩
theorem tw_2_218 : ez_T (Jvm.Cond.selects "FutureWishes$Futures" ({ cls := "FutureWishes$Futures", name := "look", desc := "()V" } : Jvm.MethodName) ({ cls := "FutureWishes$Futures", name := "look", desc := "()V" } : Jvm.MethodName)) := ⟨(List.mem_append_right _ (List.mem_append_right _ (List.mem_append_left _ (List.mem_of_getElem? (i := 218) rfl)))), by rfl⟩
theorem tw_2_219 : ez_T (Jvm.Cond.code ({ cls := "FutureWishes$Futures", name := "look", desc := "()V" } : Jvm.MethodName) prog_2_method_2_code (1 : Nat) (Option.none : Option Jvm.ClassFile.FieldType)) := ⟨(List.mem_append_right _ (List.mem_append_right _ (List.mem_append_left _ (List.mem_of_getElem? (i := 219) rfl)))), by rfl⟩
theorem tw_2_220 : ez_T (Jvm.Cond.methodLink "FutureWishes$Futures" (28 : Nat) ({ cls := "FutureWishes$State", name := "allWorlds", desc := "()I" } : Jvm.MethodName)) := ⟨(List.mem_append_right _ (List.mem_append_right _ (List.mem_append_left _ (List.mem_of_getElem? (i := 220) rfl)))), by rfl⟩
theorem tw_2_221 : ez_T (Jvm.Cond.instanceMethod ({ cls := "FutureWishes$State", name := "allWorlds", desc := "()I" } : Jvm.MethodName)) := ⟨(List.mem_append_right _ (List.mem_append_right _ (List.mem_append_left _ (List.mem_of_getElem? (i := 221) rfl)))), by rfl⟩
theorem tw_2_222 : ez_T (Jvm.Cond.selects "FutureWishes$State" ({ cls := "FutureWishes$State", name := "allWorlds", desc := "()I" } : Jvm.MethodName) ({ cls := "FutureWishes$State", name := "allWorlds", desc := "()I" } : Jvm.MethodName)) := ⟨(List.mem_append_right _ (List.mem_append_right _ (List.mem_append_left _ (List.mem_of_getElem? (i := 222) rfl)))), by rfl⟩
theorem tw_2_223 : ez_T (Jvm.Cond.code ({ cls := "FutureWishes$State", name := "allWorlds", desc := "()I" } : Jvm.MethodName) prog_5_method_4_code (1 : Nat) (Option.some Jvm.ClassFile.FieldType.int)) := ⟨(List.mem_append_right _ (List.mem_append_right _ (List.mem_append_left _ (List.mem_of_getElem? (i := 223) rfl)))), by rfl⟩
theorem tw_2_224 : ez_T (Jvm.Cond.methodLink "FutureWishes$Futures" (37 : Nat) ({ cls := "FutureWishes$State", name := "withLetter", desc := "(I)I" } : Jvm.MethodName)) := ⟨(List.mem_append_right _ (List.mem_append_right _ (List.mem_append_left _ (List.mem_of_getElem? (i := 224) rfl)))), by rfl⟩
theorem tw_2_225 : ez_T (Jvm.Cond.instanceMethod ({ cls := "FutureWishes$State", name := "withLetter", desc := "(I)I" } : Jvm.MethodName)) := ⟨(List.mem_append_right _ (List.mem_append_right _ (List.mem_append_left _ (List.mem_of_getElem? (i := 225) rfl)))), by rfl⟩
theorem tw_2_226 : ez_T (Jvm.Cond.selects "FutureWishes$State" ({ cls := "FutureWishes$State", name := "withLetter", desc := "(I)I" } : Jvm.MethodName) ({ cls := "FutureWishes$State", name := "withLetter", desc := "(I)I" } : Jvm.MethodName)) := ⟨(List.mem_append_right _ (List.mem_append_right _ (List.mem_append_left _ (List.mem_of_getElem? (i := 226) rfl)))), by rfl⟩
theorem tw_2_227 : ez_T (Jvm.Cond.code ({ cls := "FutureWishes$State", name := "withLetter", desc := "(I)I" } : Jvm.MethodName) prog_5_method_7_code (4 : Nat) (Option.some Jvm.ClassFile.FieldType.int)) := ⟨(List.mem_append_right _ (List.mem_append_right _ (List.mem_append_left _ (List.mem_of_getElem? (i := 227) rfl)))), by rfl⟩
theorem tw_2_228 : ez_T (Jvm.Cond.methodLink "FutureWishes$Futures" (41 : Nat) ({ cls := "FutureWishes$Futures", name := "always", desc := "(I)I" } : Jvm.MethodName)) := ⟨(List.mem_append_right _ (List.mem_append_right _ (List.mem_append_left _ (List.mem_of_getElem? (i := 228) rfl)))), by rfl⟩
theorem tw_2_229 : ez_T (Jvm.Cond.instanceMethod ({ cls := "FutureWishes$Futures", name := "always", desc := "(I)I" } : Jvm.MethodName)) := ⟨(List.mem_append_right _ (List.mem_append_right _ (List.mem_append_left _ (List.mem_of_getElem? (i := 229) rfl)))), by rfl⟩
theorem tw_2_230 : ez_T (Jvm.Cond.selects "FutureWishes$Futures" ({ cls := "FutureWishes$Futures", name := "always", desc := "(I)I" } : Jvm.MethodName) ({ cls := "FutureWishes$Futures", name := "always", desc := "(I)I" } : Jvm.MethodName)) := ⟨(List.mem_append_right _ (List.mem_append_right _ (List.mem_append_left _ (List.mem_of_getElem? (i := 230) rfl)))), by rfl⟩
theorem tw_2_231 : ez_T (Jvm.Cond.code ({ cls := "FutureWishes$Futures", name := "always", desc := "(I)I" } : Jvm.MethodName) prog_2_method_6_code (8 : Nat) (Option.some Jvm.ClassFile.FieldType.int)) := ⟨(List.mem_append_right _ (List.mem_append_right _ (List.mem_append_left _ (List.mem_of_getElem? (i := 231) rfl)))), by rfl⟩
theorem tw_2_232 : ez_T (Jvm.Cond.methodLink "FutureWishes$Futures" (44 : Nat) ({ cls := "FutureWishes$State", name := "leadingInto", desc := "(I)I" } : Jvm.MethodName)) := ⟨(List.mem_append_right _ (List.mem_append_right _ (List.mem_append_left _ (List.mem_of_getElem? (i := 232) rfl)))), by rfl⟩
theorem tw_2_233 : ez_T (Jvm.Cond.methodLink "FutureWishes" (175 : Nat) ({ cls := "FutureWishes", name := "wishesHoldingIn", desc := "(I)I" } : Jvm.MethodName)) := ⟨(List.mem_append_right _ (List.mem_append_right _ (List.mem_append_left _ (List.mem_of_getElem? (i := 233) rfl)))), by rfl⟩
theorem tw_2_235 : ez_T (Jvm.Cond.instanceMethod ({ cls := "FutureWishes", name := "wishesHoldingIn", desc := "(I)I" } : Jvm.MethodName)) := ⟨(List.mem_append_right _ (List.mem_append_right _ (List.mem_append_left _ (List.mem_of_getElem? (i := 235) rfl)))), by rfl⟩
theorem tw_2_236 : ez_T (Jvm.Cond.code ({ cls := "FutureWishes", name := "wishesHoldingIn", desc := "(I)I" } : Jvm.MethodName) prog_1_method_29_code (4 : Nat) (Option.some Jvm.ClassFile.FieldType.int)) := ⟨(List.mem_append_right _ (List.mem_append_right _ (List.mem_append_left _ (List.mem_of_getElem? (i := 236) rfl)))), by rfl⟩
theorem tw_2_237 : ez_T (Jvm.Cond.methodLink "FutureWishes" (178 : Nat) ({ cls := "FutureWishes$Meaning", name := "find", desc := "(I)I" } : Jvm.MethodName)) := ⟨(List.mem_append_right _ (List.mem_append_right _ (List.mem_append_left _ (List.mem_of_getElem? (i := 237) rfl)))), by rfl⟩
theorem tw_2_238 : ez_T (Jvm.Cond.instanceMethod ({ cls := "FutureWishes$Meaning", name := "find", desc := "(I)I" } : Jvm.MethodName)) := ⟨(List.mem_append_right _ (List.mem_append_right _ (List.mem_append_left _ (List.mem_of_getElem? (i := 238) rfl)))), by rfl⟩
theorem tw_2_239 : ez_T (Jvm.Cond.selects "FutureWishes$Meaning" ({ cls := "FutureWishes$Meaning", name := "find", desc := "(I)I" } : Jvm.MethodName) ({ cls := "FutureWishes$Meaning", name := "find", desc := "(I)I" } : Jvm.MethodName)) := ⟨(List.mem_append_right _ (List.mem_append_right _ (List.mem_append_left _ (List.mem_of_getElem? (i := 239) rfl)))), by rfl⟩
theorem tw_3_0 : ez_T (Jvm.Cond.code ({ cls := "FutureWishes$Meaning", name := "find", desc := "(I)I" } : Jvm.MethodName) prog_4_method_3_code (2 : Nat) (Option.some Jvm.ClassFile.FieldType.int)) := ⟨(List.mem_append_right _ (List.mem_append_right _ (List.mem_append_right _ (List.mem_of_getElem? (i := 0) rfl)))), by rfl⟩
theorem tw_3_1 : ez_T (Jvm.Cond.methodLink "FutureWishes$Meaning" (51 : Nat) ({ cls := "FutureWishes$Meaning", name := "readSigns", desc := "(I)V" } : Jvm.MethodName)) := ⟨(List.mem_append_right _ (List.mem_append_right _ (List.mem_append_right _ (List.mem_of_getElem? (i := 1) rfl)))), by rfl⟩
theorem tw_3_2 : ez_T (Jvm.Cond.instanceMethod ({ cls := "FutureWishes$Meaning", name := "readSigns", desc := "(I)V" } : Jvm.MethodName)) := ⟨(List.mem_append_right _ (List.mem_append_right _ (List.mem_append_right _ (List.mem_of_getElem? (i := 2) rfl)))), by rfl⟩
theorem tw_3_3 : ez_T (Jvm.Cond.selects "FutureWishes$Meaning" ({ cls := "FutureWishes$Meaning", name := "readSigns", desc := "(I)V" } : Jvm.MethodName) ({ cls := "FutureWishes$Meaning", name := "readSigns", desc := "(I)V" } : Jvm.MethodName)) := ⟨(List.mem_append_right _ (List.mem_append_right _ (List.mem_append_right _ (List.mem_of_getElem? (i := 3) rfl)))), by rfl⟩
theorem tw_3_4 : ez_T (Jvm.Cond.code ({ cls := "FutureWishes$Meaning", name := "readSigns", desc := "(I)V" } : Jvm.MethodName) prog_4_method_4_code (3 : Nat) (Option.none : Option Jvm.ClassFile.FieldType)) := ⟨(List.mem_append_right _ (List.mem_append_right _ (List.mem_append_right _ (List.mem_of_getElem? (i := 4) rfl)))), by rfl⟩
theorem tw_3_5 : ez_T (Jvm.Cond.methodLink "FutureWishes$Meaning" (62 : Nat) ({ cls := "FutureWishes$State", name := "lengthOf", desc := "(I)I" } : Jvm.MethodName)) := ⟨(List.mem_append_right _ (List.mem_append_right _ (List.mem_append_right _ (List.mem_of_getElem? (i := 5) rfl)))), by rfl⟩
theorem tw_3_6 : ez_T (Jvm.Cond.methodLink "FutureWishes$Meaning" (67 : Nat) ({ cls := "FutureWishes$State", name := "signAt", desc := "(II)C" } : Jvm.MethodName)) := ⟨(List.mem_append_right _ (List.mem_append_right _ (List.mem_append_right _ (List.mem_of_getElem? (i := 6) rfl)))), by rfl⟩
theorem tw_3_7 : ez_T (Jvm.Cond.methodLink "FutureWishes$Meaning" (71 : Nat) ({ cls := "FutureWishes$Meaning", name := "putShape", desc := "(III)V" } : Jvm.MethodName)) := ⟨(List.mem_append_right _ (List.mem_append_right _ (List.mem_append_right _ (List.mem_of_getElem? (i := 7) rfl)))), by rfl⟩
theorem tw_3_9 : ez_T (Jvm.Cond.instanceMethod ({ cls := "FutureWishes$Meaning", name := "putShape", desc := "(III)V" } : Jvm.MethodName)) := ⟨(List.mem_append_right _ (List.mem_append_right _ (List.mem_append_right _ (List.mem_of_getElem? (i := 9) rfl)))), by rfl⟩
theorem tw_3_10 : ez_T (Jvm.Cond.code ({ cls := "FutureWishes$Meaning", name := "putShape", desc := "(III)V" } : Jvm.MethodName) prog_4_method_5_code (7 : Nat) (Option.none : Option Jvm.ClassFile.FieldType)) := ⟨(List.mem_append_right _ (List.mem_append_right _ (List.mem_append_right _ (List.mem_of_getElem? (i := 10) rfl)))), by rfl⟩
theorem tw_3_11 : ez_T (Jvm.Cond.methodLink "FutureWishes$Meaning" (78 : Nat) ({ cls := "FutureWishes$Meaning", name := "depthAt", desc := "(I)I" } : Jvm.MethodName)) := ⟨(List.mem_append_right _ (List.mem_append_right _ (List.mem_append_right _ (List.mem_of_getElem? (i := 11) rfl)))), by rfl⟩
theorem tw_3_13 : ez_T (Jvm.Cond.instanceMethod ({ cls := "FutureWishes$Meaning", name := "depthAt", desc := "(I)I" } : Jvm.MethodName)) := ⟨(List.mem_append_right _ (List.mem_append_right _ (List.mem_append_right _ (List.mem_of_getElem? (i := 13) rfl)))), by rfl⟩
theorem tw_3_14 : ez_T (Jvm.Cond.code ({ cls := "FutureWishes$Meaning", name := "depthAt", desc := "(I)I" } : Jvm.MethodName) prog_4_method_12_code (2 : Nat) (Option.some Jvm.ClassFile.FieldType.int)) := ⟨(List.mem_append_right _ (List.mem_append_right _ (List.mem_append_right _ (List.mem_of_getElem? (i := 14) rfl)))), by rfl⟩
theorem tw_3_15 : ez_T (Jvm.Cond.methodLink "FutureWishes$Meaning" (81 : Nat) ({ cls := "java/lang/Math", name := "max", desc := "(II)I" } : Jvm.MethodName)) := ⟨(List.mem_append_right _ (List.mem_append_right _ (List.mem_append_right _ (List.mem_of_getElem? (i := 15) rfl)))), by rfl⟩
theorem tw_3_16 : ez_T (Jvm.Cond.static ({ cls := "java/lang/Math", name := "max", desc := "(II)I" } : Jvm.MethodName)) := ⟨(List.mem_append_right _ (List.mem_append_right _ (List.mem_append_right _ (List.mem_of_getElem? (i := 16) rfl)))), by rfl⟩
theorem tw_3_17 : ez_T (Jvm.Cond.code ({ cls := "java/lang/Math", name := "max", desc := "(II)I" } : Jvm.MethodName) prog_16_method_65_code (2 : Nat) (Option.some Jvm.ClassFile.FieldType.int)) := ⟨(List.mem_append_right _ (List.mem_append_right _ (List.mem_append_right _ (List.mem_of_getElem? (i := 17) rfl)))), by rfl⟩
theorem tw_3_18 : ez_T (Jvm.Cond.methodLink "FutureWishes$Meaning" (87 : Nat) ({ cls := "FutureWishes$Meaning", name := "behind", desc := "(I)I" } : Jvm.MethodName)) := ⟨(List.mem_append_right _ (List.mem_append_right _ (List.mem_append_right _ (List.mem_of_getElem? (i := 18) rfl)))), by rfl⟩
theorem tw_3_19 : ez_T (Jvm.Cond.instanceMethod ({ cls := "FutureWishes$Meaning", name := "behind", desc := "(I)I" } : Jvm.MethodName)) := ⟨(List.mem_append_right _ (List.mem_append_right _ (List.mem_append_right _ (List.mem_of_getElem? (i := 19) rfl)))), by rfl⟩
theorem tw_3_20 : ez_T (Jvm.Cond.selects "FutureWishes$Meaning" ({ cls := "FutureWishes$Meaning", name := "behind", desc := "(I)I" } : Jvm.MethodName) ({ cls := "FutureWishes$Meaning", name := "behind", desc := "(I)I" } : Jvm.MethodName)) := ⟨(List.mem_append_right _ (List.mem_append_right _ (List.mem_append_right _ (List.mem_of_getElem? (i := 20) rfl)))), by rfl⟩
theorem tw_3_21 : ez_T (Jvm.Cond.code ({ cls := "FutureWishes$Meaning", name := "behind", desc := "(I)I" } : Jvm.MethodName) prog_4_method_11_code (2 : Nat) (Option.some Jvm.ClassFile.FieldType.int)) := ⟨(List.mem_append_right _ (List.mem_append_right _ (List.mem_append_right _ (List.mem_of_getElem? (i := 21) rfl)))), by rfl⟩
theorem tw_3_22 : ez_T (Jvm.Cond.methodLink "FutureWishes$Meaning" (75 : Nat) ({ cls := "FutureWishes$Meaning", name := "signAt", desc := "(I)C" } : Jvm.MethodName)) := ⟨(List.mem_append_right _ (List.mem_append_right _ (List.mem_append_right _ (List.mem_of_getElem? (i := 22) rfl)))), by rfl⟩
theorem tw_3_23 : ez_T (Jvm.Cond.instanceMethod ({ cls := "FutureWishes$Meaning", name := "signAt", desc := "(I)C" } : Jvm.MethodName)) := ⟨(List.mem_append_right _ (List.mem_append_right _ (List.mem_append_right _ (List.mem_of_getElem? (i := 23) rfl)))), by rfl⟩
theorem tw_3_24 : ez_T (Jvm.Cond.selects "FutureWishes$Meaning" ({ cls := "FutureWishes$Meaning", name := "signAt", desc := "(I)C" } : Jvm.MethodName) ({ cls := "FutureWishes$Meaning", name := "signAt", desc := "(I)C" } : Jvm.MethodName)) := ⟨(List.mem_append_right _ (List.mem_append_right _ (List.mem_append_right _ (List.mem_of_getElem? (i := 24) rfl)))), by rfl⟩
theorem tw_3_25 : ez_T (Jvm.Cond.code ({ cls := "FutureWishes$Meaning", name := "signAt", desc := "(I)C" } : Jvm.MethodName) prog_4_method_9_code (2 : Nat) (Option.some Jvm.ClassFile.FieldType.char)) := ⟨(List.mem_append_right _ (List.mem_append_right _ (List.mem_append_right _ (List.mem_of_getElem? (i := 25) rfl)))), by rfl⟩
theorem tw_3_26 : ez_T (Jvm.Cond.methodLink "FutureWishes$Meaning" (55 : Nat) ({ cls := "FutureWishes$Meaning", name := "findSets", desc := "()V" } : Jvm.MethodName)) := ⟨(List.mem_append_right _ (List.mem_append_right _ (List.mem_append_right _ (List.mem_of_getElem? (i := 26) rfl)))), by rfl⟩
theorem tw_3_27 : ez_T (Jvm.Cond.instanceMethod ({ cls := "FutureWishes$Meaning", name := "findSets", desc := "()V" } : Jvm.MethodName)) := ⟨(List.mem_append_right _ (List.mem_append_right _ (List.mem_append_right _ (List.mem_of_getElem? (i := 27) rfl)))), by rfl⟩
theorem tw_3_28 : ez_T (Jvm.Cond.selects "FutureWishes$Meaning" ({ cls := "FutureWishes$Meaning", name := "findSets", desc := "()V" } : Jvm.MethodName) ({ cls := "FutureWishes$Meaning", name := "findSets", desc := "()V" } : Jvm.MethodName)) := ⟨(List.mem_append_right _ (List.mem_append_right _ (List.mem_append_right _ (List.mem_of_getElem? (i := 28) rfl)))), by rfl⟩
theorem tw_3_29 : ez_T (Jvm.Cond.code ({ cls := "FutureWishes$Meaning", name := "findSets", desc := "()V" } : Jvm.MethodName) prog_4_method_6_code (3 : Nat) (Option.none : Option Jvm.ClassFile.FieldType)) := ⟨(List.mem_append_right _ (List.mem_append_right _ (List.mem_append_right _ (List.mem_of_getElem? (i := 29) rfl)))), by rfl⟩
theorem tw_3_30 : ez_T (Jvm.Cond.methodLink "FutureWishes$Meaning" (58 : Nat) ({ cls := "FutureWishes$Meaning", name := "setAt", desc := "(I)I" } : Jvm.MethodName)) := ⟨(List.mem_append_right _ (List.mem_append_right _ (List.mem_append_right _ (List.mem_of_getElem? (i := 30) rfl)))), by rfl⟩
theorem tw_3_31 : ez_T (Jvm.Cond.instanceMethod ({ cls := "FutureWishes$Meaning", name := "setAt", desc := "(I)I" } : Jvm.MethodName)) := ⟨(List.mem_append_right _ (List.mem_append_right _ (List.mem_append_right _ (List.mem_of_getElem? (i := 31) rfl)))), by rfl⟩
theorem tw_3_32 : ez_T (Jvm.Cond.selects "FutureWishes$Meaning" ({ cls := "FutureWishes$Meaning", name := "setAt", desc := "(I)I" } : Jvm.MethodName) ({ cls := "FutureWishes$Meaning", name := "setAt", desc := "(I)I" } : Jvm.MethodName)) := ⟨(List.mem_append_right _ (List.mem_append_right _ (List.mem_append_right _ (List.mem_of_getElem? (i := 32) rfl)))), by rfl⟩
theorem tw_3_33 : ez_T (Jvm.Cond.code ({ cls := "FutureWishes$Meaning", name := "setAt", desc := "(I)I" } : Jvm.MethodName) prog_4_method_10_code (2 : Nat) (Option.some Jvm.ClassFile.FieldType.int)) := ⟨(List.mem_append_right _ (List.mem_append_right _ (List.mem_append_right _ (List.mem_of_getElem? (i := 33) rfl)))), by rfl⟩
theorem tw_3_34 : ez_T (Jvm.Cond.methodLink "FutureWishes$Meaning" (92 : Nat) ({ cls := "FutureWishes$Futures", name := "onSomeWay", desc := "(CII)I" } : Jvm.MethodName)) := ⟨(List.mem_append_right _ (List.mem_append_right _ (List.mem_append_right _ (List.mem_of_getElem? (i := 34) rfl)))), by rfl⟩
theorem tw_3_35 : ez_T (Jvm.Cond.instanceMethod ({ cls := "FutureWishes$Futures", name := "onSomeWay", desc := "(CII)I" } : Jvm.MethodName)) := ⟨(List.mem_append_right _ (List.mem_append_right _ (List.mem_append_right _ (List.mem_of_getElem? (i := 35) rfl)))), by rfl⟩
theorem tw_3_36 : ez_T (Jvm.Cond.selects "FutureWishes$Futures" ({ cls := "FutureWishes$Futures", name := "onSomeWay", desc := "(CII)I" } : Jvm.MethodName) ({ cls := "FutureWishes$Futures", name := "onSomeWay", desc := "(CII)I" } : Jvm.MethodName)) := ⟨(List.mem_append_right _ (List.mem_append_right _ (List.mem_append_right _ (List.mem_of_getElem? (i := 36) rfl)))), by rfl⟩
theorem tw_3_37 : ez_T (Jvm.Cond.code ({ cls := "FutureWishes$Futures", name := "onSomeWay", desc := "(CII)I" } : Jvm.MethodName) prog_2_method_3_code (4 : Nat) (Option.some Jvm.ClassFile.FieldType.int)) := ⟨(List.mem_append_right _ (List.mem_append_right _ (List.mem_append_right _ (List.mem_of_getElem? (i := 37) rfl)))), by rfl⟩
theorem tw_3_38 : ez_T (Jvm.Cond.methodLink "FutureWishes$Futures" (47 : Nat) ({ cls := "FutureWishes$Futures", name := "until", desc := "(II)I" } : Jvm.MethodName)) := ⟨(List.mem_append_right _ (List.mem_append_right _ (List.mem_append_right _ (List.mem_of_getElem? (i := 38) rfl)))), by rfl⟩
theorem tw_3_39 : ez_T (Jvm.Cond.instanceMethod ({ cls := "FutureWishes$Futures", name := "until", desc := "(II)I" } : Jvm.MethodName)) := ⟨(List.mem_append_right _ (List.mem_append_right _ (List.mem_append_right _ (List.mem_of_getElem? (i := 39) rfl)))), by rfl⟩
theorem tw_3_40 : ez_T (Jvm.Cond.selects "FutureWishes$Futures" ({ cls := "FutureWishes$Futures", name := "until", desc := "(II)I" } : Jvm.MethodName) ({ cls := "FutureWishes$Futures", name := "until", desc := "(II)I" } : Jvm.MethodName)) := ⟨(List.mem_append_right _ (List.mem_append_right _ (List.mem_append_right _ (List.mem_of_getElem? (i := 40) rfl)))), by rfl⟩
theorem tw_3_41 : ez_T (Jvm.Cond.code ({ cls := "FutureWishes$Futures", name := "until", desc := "(II)I" } : Jvm.MethodName) prog_2_method_5_code (6 : Nat) (Option.some Jvm.ClassFile.FieldType.int)) := ⟨(List.mem_append_right _ (List.mem_append_right _ (List.mem_append_right _ (List.mem_of_getElem? (i := 41) rfl)))), by rfl⟩
theorem tw_3_42 : ez_T (Jvm.Cond.methodLink "FutureWishes$Meaning" (99 : Nat) ({ cls := "FutureWishes$Futures", name := "onSomeWayNot", desc := "(CII)I" } : Jvm.MethodName)) := ⟨(List.mem_append_right _ (List.mem_append_right _ (List.mem_append_right _ (List.mem_of_getElem? (i := 42) rfl)))), by rfl⟩
theorem tw_3_43 : ez_T (Jvm.Cond.instanceMethod ({ cls := "FutureWishes$Futures", name := "onSomeWayNot", desc := "(CII)I" } : Jvm.MethodName)) := ⟨(List.mem_append_right _ (List.mem_append_right _ (List.mem_append_right _ (List.mem_of_getElem? (i := 43) rfl)))), by rfl⟩
theorem tw_3_44 : ez_T (Jvm.Cond.selects "FutureWishes$Futures" ({ cls := "FutureWishes$Futures", name := "onSomeWayNot", desc := "(CII)I" } : Jvm.MethodName) ({ cls := "FutureWishes$Futures", name := "onSomeWayNot", desc := "(CII)I" } : Jvm.MethodName)) := ⟨(List.mem_append_right _ (List.mem_append_right _ (List.mem_append_right _ (List.mem_of_getElem? (i := 44) rfl)))), by rfl⟩
theorem tw_3_45 : ez_T (Jvm.Cond.code ({ cls := "FutureWishes$Futures", name := "onSomeWayNot", desc := "(CII)I" } : Jvm.MethodName) prog_2_method_4_code (6 : Nat) (Option.some Jvm.ClassFile.FieldType.int)) := ⟨(List.mem_append_right _ (List.mem_append_right _ (List.mem_append_right _ (List.mem_of_getElem? (i := 45) rfl)))), by rfl⟩
theorem tw_3_46 : ez_T (Jvm.Cond.methodLink "FutureWishes$Meaning" (102 : Nat) ({ cls := "FutureWishes$State", name := "withLetter", desc := "(I)I" } : Jvm.MethodName)) := ⟨(List.mem_append_right _ (List.mem_append_right _ (List.mem_append_right _ (List.mem_of_getElem? (i := 46) rfl)))), by rfl⟩
theorem tw_3_47 : ez_T (Jvm.Cond.methodLink "FutureWishesLaw" (68 : Nat) ({ cls := "FutureWishes", name := "wish", desc := "(II)I" } : Jvm.MethodName)) := ⟨(List.mem_append_right _ (List.mem_append_right _ (List.mem_append_right _ (List.mem_of_getElem? (i := 47) rfl)))), by rfl⟩
theorem tw_3_48 : ez_T (Jvm.Cond.instanceMethod ({ cls := "FutureWishes", name := "wish", desc := "(II)I" } : Jvm.MethodName)) := ⟨(List.mem_append_right _ (List.mem_append_right _ (List.mem_append_right _ (List.mem_of_getElem? (i := 48) rfl)))), by rfl⟩
theorem tw_3_49 : ez_T (Jvm.Cond.selects "FutureWishes" ({ cls := "FutureWishes", name := "wish", desc := "(II)I" } : Jvm.MethodName) ({ cls := "FutureWishes", name := "wish", desc := "(II)I" } : Jvm.MethodName)) := ⟨(List.mem_append_right _ (List.mem_append_right _ (List.mem_append_right _ (List.mem_of_getElem? (i := 49) rfl)))), by rfl⟩
theorem tw_3_50 : ez_T (Jvm.Cond.code ({ cls := "FutureWishes", name := "wish", desc := "(II)I" } : Jvm.MethodName) prog_1_method_16_code (3 : Nat) (Option.some Jvm.ClassFile.FieldType.int)) := ⟨(List.mem_append_right _ (List.mem_append_right _ (List.mem_append_right _ (List.mem_of_getElem? (i := 50) rfl)))), by rfl⟩
theorem tw_3_51 : ez_T (Jvm.Cond.methodLink "FutureWishes" (181 : Nat) ({ cls := "FutureWishes$Meaning", name := "ofWish", desc := "(I)I" } : Jvm.MethodName)) := ⟨(List.mem_append_right _ (List.mem_append_right _ (List.mem_append_right _ (List.mem_of_getElem? (i := 51) rfl)))), by rfl⟩
theorem tw_3_52 : ez_T (Jvm.Cond.instanceMethod ({ cls := "FutureWishes$Meaning", name := "ofWish", desc := "(I)I" } : Jvm.MethodName)) := ⟨(List.mem_append_right _ (List.mem_append_right _ (List.mem_append_right _ (List.mem_of_getElem? (i := 52) rfl)))), by rfl⟩
theorem tw_3_53 : ez_T (Jvm.Cond.selects "FutureWishes$Meaning" ({ cls := "FutureWishes$Meaning", name := "ofWish", desc := "(I)I" } : Jvm.MethodName) ({ cls := "FutureWishes$Meaning", name := "ofWish", desc := "(I)I" } : Jvm.MethodName)) := ⟨(List.mem_append_right _ (List.mem_append_right _ (List.mem_append_right _ (List.mem_of_getElem? (i := 53) rfl)))), by rfl⟩
theorem tw_3_54 : ez_T (Jvm.Cond.code ({ cls := "FutureWishes$Meaning", name := "ofWish", desc := "(I)I" } : Jvm.MethodName) prog_4_method_7_code (2 : Nat) (Option.some Jvm.ClassFile.FieldType.int)) := ⟨(List.mem_append_right _ (List.mem_append_right _ (List.mem_append_right _ (List.mem_of_getElem? (i := 54) rfl)))), by rfl⟩
theorem tw_3_55 : ez_T (Jvm.Cond.methodLink "FutureWishes$Meaning" (105 : Nat) ({ cls := "FutureWishes$Meaning", name := "allRounds", desc := "()I" } : Jvm.MethodName)) := ⟨(List.mem_append_right _ (List.mem_append_right _ (List.mem_append_right _ (List.mem_of_getElem? (i := 55) rfl)))), by rfl⟩
theorem tw_3_57 : ez_T (Jvm.Cond.instanceMethod ({ cls := "FutureWishes$Meaning", name := "allRounds", desc := "()I" } : Jvm.MethodName)) := ⟨(List.mem_append_right _ (List.mem_append_right _ (List.mem_append_right _ (List.mem_of_getElem? (i := 57) rfl)))), by rfl⟩
theorem tw_3_58 : ez_T (Jvm.Cond.code ({ cls := "FutureWishes$Meaning", name := "allRounds", desc := "()I" } : Jvm.MethodName) prog_4_method_13_code (3 : Nat) (Option.some Jvm.ClassFile.FieldType.int)) := ⟨(List.mem_append_right _ (List.mem_append_right _ (List.mem_append_right _ (List.mem_of_getElem? (i := 58) rfl)))), by rfl⟩
theorem tw_3_59 : ez_T (Jvm.Cond.methodLink "FutureWishesLaw" (63 : Nat) ({ cls := "FutureWishes", name := "sign", desc := "(III)I" } : Jvm.MethodName)) := ⟨(List.mem_append_right _ (List.mem_append_right _ (List.mem_append_right _ (List.mem_of_getElem? (i := 59) rfl)))), by rfl⟩
theorem tw_3_60 : ez_T (Jvm.Cond.instanceMethod ({ cls := "FutureWishes", name := "sign", desc := "(III)I" } : Jvm.MethodName)) := ⟨(List.mem_append_right _ (List.mem_append_right _ (List.mem_append_right _ (List.mem_of_getElem? (i := 60) rfl)))), by rfl⟩
theorem tw_3_61 : ez_T (Jvm.Cond.selects "FutureWishes" ({ cls := "FutureWishes", name := "sign", desc := "(III)I" } : Jvm.MethodName) ({ cls := "FutureWishes", name := "sign", desc := "(III)I" } : Jvm.MethodName)) := ⟨(List.mem_append_right _ (List.mem_append_right _ (List.mem_append_right _ (List.mem_of_getElem? (i := 61) rfl)))), by rfl⟩
theorem tw_3_62 : ez_T (Jvm.Cond.code ({ cls := "FutureWishes", name := "sign", desc := "(III)I" } : Jvm.MethodName) prog_1_method_17_code (4 : Nat) (Option.some Jvm.ClassFile.FieldType.int)) := ⟨(List.mem_append_right _ (List.mem_append_right _ (List.mem_append_right _ (List.mem_of_getElem? (i := 62) rfl)))), by rfl⟩
theorem tw_3_64 : ez_T (Jvm.Cond.methodLink "FutureWishes" (189 : Nat) ({ cls := "FutureWishes$Meaning", name := "ofSign", desc := "(II)I" } : Jvm.MethodName)) := ⟨(List.mem_append_right _ (List.mem_append_right _ (List.mem_append_right _ (List.mem_of_getElem? (i := 64) rfl)))), by rfl⟩
theorem tw_3_65 : ez_T (Jvm.Cond.instanceMethod ({ cls := "FutureWishes$Meaning", name := "ofSign", desc := "(II)I" } : Jvm.MethodName)) := ⟨(List.mem_append_right _ (List.mem_append_right _ (List.mem_append_right _ (List.mem_of_getElem? (i := 65) rfl)))), by rfl⟩
theorem tw_3_66 : ez_T (Jvm.Cond.selects "FutureWishes$Meaning" ({ cls := "FutureWishes$Meaning", name := "ofSign", desc := "(II)I" } : Jvm.MethodName) ({ cls := "FutureWishes$Meaning", name := "ofSign", desc := "(II)I" } : Jvm.MethodName)) := ⟨(List.mem_append_right _ (List.mem_append_right _ (List.mem_append_right _ (List.mem_of_getElem? (i := 66) rfl)))), by rfl⟩
theorem tw_3_67 : ez_T (Jvm.Cond.code ({ cls := "FutureWishes$Meaning", name := "ofSign", desc := "(II)I" } : Jvm.MethodName) prog_4_method_8_code (3 : Nat) (Option.some Jvm.ClassFile.FieldType.int)) := ⟨(List.mem_append_right _ (List.mem_append_right _ (List.mem_append_right _ (List.mem_of_getElem? (i := 67) rfl)))), by rfl⟩
theorem tw_3_68 : ez_T (Jvm.Cond.methodLink "FutureWishesLaw" (104 : Nat) ({ cls := "FutureWishes", name := "compare", desc := "(II)I" } : Jvm.MethodName)) := ⟨(List.mem_append_right _ (List.mem_append_right _ (List.mem_append_right _ (List.mem_of_getElem? (i := 68) rfl)))), by rfl⟩
theorem tw_3_69 : ez_T (Jvm.Cond.instanceMethod ({ cls := "FutureWishes", name := "compare", desc := "(II)I" } : Jvm.MethodName)) := ⟨(List.mem_append_right _ (List.mem_append_right _ (List.mem_append_right _ (List.mem_of_getElem? (i := 69) rfl)))), by rfl⟩
theorem tw_3_70 : ez_T (Jvm.Cond.selects "FutureWishes" ({ cls := "FutureWishes", name := "compare", desc := "(II)I" } : Jvm.MethodName) ({ cls := "FutureWishes", name := "compare", desc := "(II)I" } : Jvm.MethodName)) := ⟨(List.mem_append_right _ (List.mem_append_right _ (List.mem_append_right _ (List.mem_of_getElem? (i := 70) rfl)))), by rfl⟩
theorem tw_3_71 : ez_T (Jvm.Cond.code ({ cls := "FutureWishes", name := "compare", desc := "(II)I" } : Jvm.MethodName) prog_1_method_19_code (5 : Nat) (Option.some Jvm.ClassFile.FieldType.int)) := ⟨(List.mem_append_right _ (List.mem_append_right _ (List.mem_append_right _ (List.mem_of_getElem? (i := 71) rfl)))), by rfl⟩
theorem tw_3_72 : ez_T (Jvm.Cond.methodLink "FutureWishesLaw" (45 : Nat) ({ cls := "FutureWishes", name := "count", desc := "(I)I" } : Jvm.MethodName)) := ⟨(List.mem_append_right _ (List.mem_append_right _ (List.mem_append_right _ (List.mem_of_getElem? (i := 72) rfl)))), by rfl⟩
theorem tw_3_73 : ez_T (Jvm.Cond.instanceMethod ({ cls := "FutureWishes", name := "count", desc := "(I)I" } : Jvm.MethodName)) := ⟨(List.mem_append_right _ (List.mem_append_right _ (List.mem_append_right _ (List.mem_of_getElem? (i := 73) rfl)))), by rfl⟩
theorem tw_3_74 : ez_T (Jvm.Cond.selects "FutureWishes" ({ cls := "FutureWishes", name := "count", desc := "(I)I" } : Jvm.MethodName) ({ cls := "FutureWishes", name := "count", desc := "(I)I" } : Jvm.MethodName)) := ⟨(List.mem_append_right _ (List.mem_append_right _ (List.mem_append_right _ (List.mem_of_getElem? (i := 74) rfl)))), by rfl⟩
theorem tw_3_75 : ez_T (Jvm.Cond.code ({ cls := "FutureWishes", name := "count", desc := "(I)I" } : Jvm.MethodName) prog_1_method_20_code (2 : Nat) (Option.some Jvm.ClassFile.FieldType.int)) := ⟨(List.mem_append_right _ (List.mem_append_right _ (List.mem_append_right _ (List.mem_of_getElem? (i := 75) rfl)))), by rfl⟩
theorem tw_3_76 : ez_T (Jvm.Cond.methodLink "FutureWishes" (109 : Nat) ({ cls := "FutureWishes$State", name := "countSteps", desc := "()I" } : Jvm.MethodName)) := ⟨(List.mem_append_right _ (List.mem_append_right _ (List.mem_append_right _ (List.mem_of_getElem? (i := 76) rfl)))), by rfl⟩
theorem tw_3_77 : ez_T (Jvm.Cond.instanceMethod ({ cls := "FutureWishes$State", name := "countSteps", desc := "()I" } : Jvm.MethodName)) := ⟨(List.mem_append_right _ (List.mem_append_right _ (List.mem_append_right _ (List.mem_of_getElem? (i := 77) rfl)))), by rfl⟩
theorem tw_3_78 : ez_T (Jvm.Cond.selects "FutureWishes$State" ({ cls := "FutureWishes$State", name := "countSteps", desc := "()I" } : Jvm.MethodName) ({ cls := "FutureWishes$State", name := "countSteps", desc := "()I" } : Jvm.MethodName)) := ⟨(List.mem_append_right _ (List.mem_append_right _ (List.mem_append_right _ (List.mem_of_getElem? (i := 78) rfl)))), by rfl⟩
theorem tw_3_79 : ez_T (Jvm.Cond.code ({ cls := "FutureWishes$State", name := "countSteps", desc := "()I" } : Jvm.MethodName) prog_5_method_9_code (3 : Nat) (Option.some Jvm.ClassFile.FieldType.int)) := ⟨(List.mem_append_right _ (List.mem_append_right _ (List.mem_append_right _ (List.mem_of_getElem? (i := 79) rfl)))), by rfl⟩
theorem tw_3_80 : ez_T (Jvm.Cond.methodLink "FutureWishes$State" (38 : Nat) ({ cls := "java/lang/Integer", name := "bitCount", desc := "(I)I" } : Jvm.MethodName)) := ⟨(List.mem_append_right _ (List.mem_append_right _ (List.mem_append_right _ (List.mem_of_getElem? (i := 80) rfl)))), by rfl⟩
theorem tw_3_81 : ez_T (Jvm.Cond.static ({ cls := "java/lang/Integer", name := "bitCount", desc := "(I)I" } : Jvm.MethodName)) := ⟨(List.mem_append_right _ (List.mem_append_right _ (List.mem_append_right _ (List.mem_of_getElem? (i := 81) rfl)))), by rfl⟩
theorem tw_3_82 : ez_T (Jvm.Cond.code ({ cls := "java/lang/Integer", name := "bitCount", desc := "(I)I" } : Jvm.MethodName) prog_15_method_49_code (1 : Nat) (Option.some Jvm.ClassFile.FieldType.int)) := ⟨(List.mem_append_right _ (List.mem_append_right _ (List.mem_append_right _ (List.mem_of_getElem? (i := 82) rfl)))), by rfl⟩
theorem tw_3_83 : ez_T (Jvm.Cond.constant "java/lang/Integer" (265 : Nat) (1431655765 : Int32)) := ⟨(List.mem_append_right _ (List.mem_append_right _ (List.mem_append_right _ (List.mem_of_getElem? (i := 83) rfl)))), by rfl⟩
theorem tw_3_84 : ez_T (Jvm.Cond.constant "java/lang/Integer" (266 : Nat) (858993459 : Int32)) := ⟨(List.mem_append_right _ (List.mem_append_right _ (List.mem_append_right _ (List.mem_of_getElem? (i := 84) rfl)))), by rfl⟩
theorem tw_3_85 : ez_T (Jvm.Cond.constant "java/lang/Integer" (267 : Nat) (252645135 : Int32)) := ⟨(List.mem_append_right _ (List.mem_append_right _ (List.mem_append_right _ (List.mem_of_getElem? (i := 85) rfl)))), by rfl⟩
theorem tw_3_86 : ez_T (Jvm.Cond.methodLink "FutureWishes" (200 : Nat) ({ cls := "java/lang/Integer", name := "bitCount", desc := "(I)I" } : Jvm.MethodName)) := ⟨(List.mem_append_right _ (List.mem_append_right _ (List.mem_append_right _ (List.mem_of_getElem? (i := 86) rfl)))), by rfl⟩
theorem tw_3_87 : ez_T (Jvm.Cond.methodLink "FutureWishes" (205 : Nat) ({ cls := "FutureWishes$State", name := "allWorlds", desc := "()I" } : Jvm.MethodName)) := ⟨(List.mem_append_right _ (List.mem_append_right _ (List.mem_append_right _ (List.mem_of_getElem? (i := 87) rfl)))), by rfl⟩
theorem tw_3_88 : ez_T (Jvm.Cond.methodLink "FutureWishes" (208 : Nat) ({ cls := "FutureWishes$State", name := "countWishes", desc := "()I" } : Jvm.MethodName)) := ⟨(List.mem_append_right _ (List.mem_append_right _ (List.mem_append_right _ (List.mem_of_getElem? (i := 88) rfl)))), by rfl⟩
theorem tw_3_89 : ez_T (Jvm.Cond.instanceMethod ({ cls := "FutureWishes$State", name := "countWishes", desc := "()I" } : Jvm.MethodName)) := ⟨(List.mem_append_right _ (List.mem_append_right _ (List.mem_append_right _ (List.mem_of_getElem? (i := 89) rfl)))), by rfl⟩
theorem tw_3_90 : ez_T (Jvm.Cond.selects "FutureWishes$State" ({ cls := "FutureWishes$State", name := "countWishes", desc := "()I" } : Jvm.MethodName) ({ cls := "FutureWishes$State", name := "countWishes", desc := "()I" } : Jvm.MethodName)) := ⟨(List.mem_append_right _ (List.mem_append_right _ (List.mem_append_right _ (List.mem_of_getElem? (i := 90) rfl)))), by rfl⟩
theorem tw_3_91 : ez_T (Jvm.Cond.code ({ cls := "FutureWishes$State", name := "countWishes", desc := "()I" } : Jvm.MethodName) prog_5_method_23_code (3 : Nat) (Option.some Jvm.ClassFile.FieldType.int)) := ⟨(List.mem_append_right _ (List.mem_append_right _ (List.mem_append_right _ (List.mem_of_getElem? (i := 91) rfl)))), by rfl⟩
theorem tw_3_92 : ez_T (Jvm.Cond.methodLink "FutureWishes" (211 : Nat) ({ cls := "FutureWishes$State", name := "countSigns", desc := "()I" } : Jvm.MethodName)) := ⟨(List.mem_append_right _ (List.mem_append_right _ (List.mem_append_right _ (List.mem_of_getElem? (i := 92) rfl)))), by rfl⟩
theorem tw_3_93 : ez_T (Jvm.Cond.instanceMethod ({ cls := "FutureWishes$State", name := "countSigns", desc := "()I" } : Jvm.MethodName)) := ⟨(List.mem_append_right _ (List.mem_append_right _ (List.mem_append_right _ (List.mem_of_getElem? (i := 93) rfl)))), by rfl⟩
theorem tw_3_94 : ez_T (Jvm.Cond.selects "FutureWishes$State" ({ cls := "FutureWishes$State", name := "countSigns", desc := "()I" } : Jvm.MethodName) ({ cls := "FutureWishes$State", name := "countSigns", desc := "()I" } : Jvm.MethodName)) := ⟨(List.mem_append_right _ (List.mem_append_right _ (List.mem_append_right _ (List.mem_of_getElem? (i := 94) rfl)))), by rfl⟩
theorem tw_3_95 : ez_T (Jvm.Cond.code ({ cls := "FutureWishes$State", name := "countSigns", desc := "()I" } : Jvm.MethodName) prog_5_method_24_code (3 : Nat) (Option.some Jvm.ClassFile.FieldType.int)) := ⟨(List.mem_append_right _ (List.mem_append_right _ (List.mem_append_right _ (List.mem_of_getElem? (i := 95) rfl)))), by rfl⟩
theorem tw_3_96 : ez_T (Jvm.Cond.methodLink "FutureWishes" (214 : Nat) ({ cls := "FutureWishes", name := "worldsOfAllWishes", desc := "()I" } : Jvm.MethodName)) := ⟨(List.mem_append_right _ (List.mem_append_right _ (List.mem_append_right _ (List.mem_of_getElem? (i := 96) rfl)))), by rfl⟩
theorem tw_3_98 : ez_T (Jvm.Cond.instanceMethod ({ cls := "FutureWishes", name := "worldsOfAllWishes", desc := "()I" } : Jvm.MethodName)) := ⟨(List.mem_append_right _ (List.mem_append_right _ (List.mem_append_right _ (List.mem_of_getElem? (i := 98) rfl)))), by rfl⟩
theorem tw_3_99 : ez_T (Jvm.Cond.code ({ cls := "FutureWishes", name := "worldsOfAllWishes", desc := "()I" } : Jvm.MethodName) prog_1_method_30_code (3 : Nat) (Option.some Jvm.ClassFile.FieldType.int)) := ⟨(List.mem_append_right _ (List.mem_append_right _ (List.mem_append_right _ (List.mem_of_getElem? (i := 99) rfl)))), by rfl⟩
theorem tw_3_100 : ez_T (Jvm.Cond.methodLink "FutureWishesLaw" (101 : Nat) ({ cls := "FutureWishes", name := "ifFair", desc := "(II)I" } : Jvm.MethodName)) := ⟨(List.mem_append_right _ (List.mem_append_right _ (List.mem_append_right _ (List.mem_of_getElem? (i := 100) rfl)))), by rfl⟩
theorem tw_3_101 : ez_T (Jvm.Cond.instanceMethod ({ cls := "FutureWishes", name := "ifFair", desc := "(II)I" } : Jvm.MethodName)) := ⟨(List.mem_append_right _ (List.mem_append_right _ (List.mem_append_right _ (List.mem_of_getElem? (i := 101) rfl)))), by rfl⟩
theorem tw_3_102 : ez_T (Jvm.Cond.selects "FutureWishes" ({ cls := "FutureWishes", name := "ifFair", desc := "(II)I" } : Jvm.MethodName) ({ cls := "FutureWishes", name := "ifFair", desc := "(II)I" } : Jvm.MethodName)) := ⟨(List.mem_append_right _ (List.mem_append_right _ (List.mem_append_right _ (List.mem_of_getElem? (i := 102) rfl)))), by rfl⟩
theorem tw_3_103 : ez_T (Jvm.Cond.code ({ cls := "FutureWishes", name := "ifFair", desc := "(II)I" } : Jvm.MethodName) prog_1_method_22_code (3 : Nat) (Option.some Jvm.ClassFile.FieldType.int)) := ⟨(List.mem_append_right _ (List.mem_append_right _ (List.mem_append_right _ (List.mem_of_getElem? (i := 103) rfl)))), by rfl⟩
theorem tw_3_104 : ez_T (Jvm.Cond.methodLink "FutureWishes" (230 : Nat) ({ cls := "FutureWishes$Trial", name := "worldsIfFair", desc := "(LFutureWishes$State;II)I" } : Jvm.MethodName)) := ⟨(List.mem_append_right _ (List.mem_append_right _ (List.mem_append_right _ (List.mem_of_getElem? (i := 104) rfl)))), by rfl⟩
theorem tw_3_105 : ez_T (Jvm.Cond.instanceMethod ({ cls := "FutureWishes$Trial", name := "worldsIfFair", desc := "(LFutureWishes$State;II)I" } : Jvm.MethodName)) := ⟨(List.mem_append_right _ (List.mem_append_right _ (List.mem_append_right _ (List.mem_of_getElem? (i := 105) rfl)))), by rfl⟩
theorem tw_3_106 : ez_T (Jvm.Cond.selects "FutureWishes$Trial" ({ cls := "FutureWishes$Trial", name := "worldsIfFair", desc := "(LFutureWishes$State;II)I" } : Jvm.MethodName) ({ cls := "FutureWishes$Trial", name := "worldsIfFair", desc := "(LFutureWishes$State;II)I" } : Jvm.MethodName)) := ⟨(List.mem_append_right _ (List.mem_append_right _ (List.mem_append_right _ (List.mem_of_getElem? (i := 106) rfl)))), by rfl⟩
theorem tw_3_107 : ez_T (Jvm.Cond.code ({ cls := "FutureWishes$Trial", name := "worldsIfFair", desc := "(LFutureWishes$State;II)I" } : Jvm.MethodName) prog_7_method_4_code (4 : Nat) (Option.some Jvm.ClassFile.FieldType.int)) := ⟨(List.mem_append_right _ (List.mem_append_right _ (List.mem_append_right _ (List.mem_of_getElem? (i := 107) rfl)))), by rfl⟩
theorem tw_3_108 : ez_T (Jvm.Cond.methodLink "FutureWishes$Trial" (34 : Nat) ({ cls := "FutureWishes$Trial", name := "begin", desc := "(LFutureWishes$State;I)V" } : Jvm.MethodName)) := ⟨(List.mem_append_right _ (List.mem_append_right _ (List.mem_append_right _ (List.mem_of_getElem? (i := 108) rfl)))), by rfl⟩
theorem tw_3_110 : ez_T (Jvm.Cond.instanceMethod ({ cls := "FutureWishes$Trial", name := "begin", desc := "(LFutureWishes$State;I)V" } : Jvm.MethodName)) := ⟨(List.mem_append_right _ (List.mem_append_right _ (List.mem_append_right _ (List.mem_of_getElem? (i := 110) rfl)))), by rfl⟩
theorem tw_3_111 : ez_T (Jvm.Cond.code ({ cls := "FutureWishes$Trial", name := "begin", desc := "(LFutureWishes$State;I)V" } : Jvm.MethodName) prog_7_method_5_code (3 : Nat) (Option.none : Option Jvm.ClassFile.FieldType)) := ⟨(List.mem_append_right _ (List.mem_append_right _ (List.mem_append_right _ (List.mem_of_getElem? (i := 111) rfl)))), by rfl⟩
theorem tw_3_112 : ez_T (Jvm.Cond.methodLink "FutureWishes$Trial" (64 : Nat) ({ cls := "FutureWishes$State", name := "copyFrom", desc := "(LFutureWishes$State;)V" } : Jvm.MethodName)) := ⟨(List.mem_append_right _ (List.mem_append_right _ (List.mem_append_right _ (List.mem_of_getElem? (i := 112) rfl)))), by rfl⟩
theorem tw_3_113 : ez_T (Jvm.Cond.methodLink "FutureWishes$Trial" (67 : Nat) ({ cls := "FutureWishes$Meaning", name := "readSigns", desc := "(I)V" } : Jvm.MethodName)) := ⟨(List.mem_append_right _ (List.mem_append_right _ (List.mem_append_right _ (List.mem_of_getElem? (i := 113) rfl)))), by rfl⟩
theorem tw_3_114 : ez_T (Jvm.Cond.methodLink "FutureWishes$Trial" (48 : Nat) ({ cls := "FutureWishes$Meaning", name := "findSets", desc := "()V" } : Jvm.MethodName)) := ⟨(List.mem_append_right _ (List.mem_append_right _ (List.mem_append_right _ (List.mem_of_getElem? (i := 114) rfl)))), by rfl⟩
theorem tw_3_115 : ez_T (Jvm.Cond.methodLink "FutureWishes$Trial" (60 : Nat) ({ cls := "FutureWishes$Meaning", name := "setAt", desc := "(I)I" } : Jvm.MethodName)) := ⟨(List.mem_append_right _ (List.mem_append_right _ (List.mem_append_right _ (List.mem_of_getElem? (i := 115) rfl)))), by rfl⟩
theorem tw_3_116 : ez_T (Jvm.Cond.methodLink "FutureWishesLaw" (107 : Nat) ({ cls := "FutureWishes", name := "fulfilled", desc := "()D" } : Jvm.MethodName)) := ⟨(List.mem_append_right _ (List.mem_append_right _ (List.mem_append_right _ (List.mem_of_getElem? (i := 116) rfl)))), by rfl⟩
theorem tw_3_117 : ez_T (Jvm.Cond.instanceMethod ({ cls := "FutureWishes", name := "fulfilled", desc := "()D" } : Jvm.MethodName)) := ⟨(List.mem_append_right _ (List.mem_append_right _ (List.mem_append_right _ (List.mem_of_getElem? (i := 117) rfl)))), by rfl⟩
theorem tw_3_118 : ez_T (Jvm.Cond.selects "FutureWishes" ({ cls := "FutureWishes", name := "fulfilled", desc := "()D" } : Jvm.MethodName) ({ cls := "FutureWishes", name := "fulfilled", desc := "()D" } : Jvm.MethodName)) := ⟨(List.mem_append_right _ (List.mem_append_right _ (List.mem_append_right _ (List.mem_of_getElem? (i := 118) rfl)))), by rfl⟩
theorem tw_3_119 : ez_T (Jvm.Cond.code ({ cls := "FutureWishes", name := "fulfilled", desc := "()D" } : Jvm.MethodName) prog_1_method_23_code (4 : Nat) (Option.some Jvm.ClassFile.FieldType.double)) := ⟨(List.mem_append_right _ (List.mem_append_right _ (List.mem_append_right _ (List.mem_of_getElem? (i := 119) rfl)))), by rfl⟩
theorem tw_3_120 : ez_T (Jvm.Cond.methodLink "FutureWishesLaw" (16 : Nat) ({ cls := "FutureWishesLaw", name := "cell", desc := "([II)I" } : Jvm.MethodName)) := ⟨(List.mem_append_right _ (List.mem_append_right _ (List.mem_append_right _ (List.mem_of_getElem? (i := 120) rfl)))), by rfl⟩
theorem tw_3_121 : ez_T (Jvm.Cond.static ({ cls := "FutureWishesLaw", name := "cell", desc := "([II)I" } : Jvm.MethodName)) := ⟨(List.mem_append_right _ (List.mem_append_right _ (List.mem_append_right _ (List.mem_of_getElem? (i := 121) rfl)))), by rfl⟩
theorem tw_3_122 : ez_T (Jvm.Cond.code ({ cls := "FutureWishesLaw", name := "cell", desc := "([II)I" } : Jvm.MethodName) method_2_code (2 : Nat) (Option.some Jvm.ClassFile.FieldType.int)) := ⟨(List.mem_append_right _ (List.mem_append_right _ (List.mem_append_right _ (List.mem_of_getElem? (i := 122) rfl)))), by rfl⟩
theorem tw_3_123 : ez_T (Jvm.Cond.constant "FutureWishesLaw" (7 : Nat) (32452867 : Int32)) := ⟨(List.mem_append_right _ (List.mem_append_right _ (List.mem_append_right _ (List.mem_of_getElem? (i := 123) rfl)))), by rfl⟩
theorem tw_3_124 : ez_T (Jvm.Cond.constant "FutureWishesLaw" (8 : Nat) (49979687 : Int32)) := ⟨(List.mem_append_right _ (List.mem_append_right _ (List.mem_append_right _ (List.mem_of_getElem? (i := 124) rfl)))), by rfl⟩
theorem tw_3_125 : ez_T (Jvm.Cond.methodLink "FutureWishesLaw" (10 : Nat) ({ cls := "FutureWishesLaw", name := "low", desc := "(II)I" } : Jvm.MethodName)) := ⟨(List.mem_append_right _ (List.mem_append_right _ (List.mem_append_right _ (List.mem_of_getElem? (i := 125) rfl)))), by rfl⟩
theorem tw_3_126 : ez_T (Jvm.Cond.static ({ cls := "FutureWishesLaw", name := "low", desc := "(II)I" } : Jvm.MethodName)) := ⟨(List.mem_append_right _ (List.mem_append_right _ (List.mem_append_right _ (List.mem_of_getElem? (i := 126) rfl)))), by rfl⟩
theorem tw_3_127 : ez_T (Jvm.Cond.code ({ cls := "FutureWishesLaw", name := "low", desc := "(II)I" } : Jvm.MethodName) method_3_code (2 : Nat) (Option.some Jvm.ClassFile.FieldType.int)) := ⟨(List.mem_append_right _ (List.mem_append_right _ (List.mem_append_right _ (List.mem_of_getElem? (i := 127) rfl)))), by rfl⟩
theorem tw_3_128 : ez_T (Jvm.Cond.constant "FutureWishesLaw" (9 : Nat) (2147483647 : Int32)) := ⟨(List.mem_append_right _ (List.mem_append_right _ (List.mem_append_right _ (List.mem_of_getElem? (i := 128) rfl)))), by rfl⟩
theorem tw_3_129 : ez_T (Jvm.Cond.methodLink "FutureWishesLaw" (80 : Nat) ({ cls := "FutureWishesLaw", name := "write", desc := "(LFutureWishes;[III)I" } : Jvm.MethodName)) := ⟨(List.mem_append_right _ (List.mem_append_right _ (List.mem_append_right _ (List.mem_of_getElem? (i := 129) rfl)))), by rfl⟩
theorem tw_3_130 : ez_T (Jvm.Cond.static ({ cls := "FutureWishesLaw", name := "write", desc := "(LFutureWishes;[III)I" } : Jvm.MethodName)) := ⟨(List.mem_append_right _ (List.mem_append_right _ (List.mem_append_right _ (List.mem_of_getElem? (i := 130) rfl)))), by rfl⟩
theorem tw_3_131 : ez_T (Jvm.Cond.code ({ cls := "FutureWishesLaw", name := "write", desc := "(LFutureWishes;[III)I" } : Jvm.MethodName) method_6_code (9 : Nat) (Option.some Jvm.ClassFile.FieldType.int)) := ⟨(List.mem_append_right _ (List.mem_append_right _ (List.mem_append_right _ (List.mem_of_getElem? (i := 131) rfl)))), by rfl⟩
theorem tw_3_132 : ez_T (Jvm.Cond.methodLink "FutureWishesLaw" (20 : Nat) ({ cls := "FutureWishesLaw", name := "way", desc := "(III)I" } : Jvm.MethodName)) := ⟨(List.mem_append_right _ (List.mem_append_right _ (List.mem_append_right _ (List.mem_of_getElem? (i := 132) rfl)))), by rfl⟩
theorem tw_3_133 : ez_T (Jvm.Cond.static ({ cls := "FutureWishesLaw", name := "way", desc := "(III)I" } : Jvm.MethodName)) := ⟨(List.mem_append_right _ (List.mem_append_right _ (List.mem_append_right _ (List.mem_of_getElem? (i := 133) rfl)))), by rfl⟩
theorem tw_3_134 : ez_T (Jvm.Cond.code ({ cls := "FutureWishesLaw", name := "way", desc := "(III)I" } : Jvm.MethodName) method_5_code (4 : Nat) (Option.some Jvm.ClassFile.FieldType.int)) := ⟨(List.mem_append_right _ (List.mem_append_right _ (List.mem_append_right _ (List.mem_of_getElem? (i := 134) rfl)))), by rfl⟩
theorem tw_3_135 : ez_T (Jvm.Cond.methodLink "FutureWishesLaw" (24 : Nat) ({ cls := "FutureWishesLaw", name := "sign", desc := "(III)I" } : Jvm.MethodName)) := ⟨(List.mem_append_right _ (List.mem_append_right _ (List.mem_append_right _ (List.mem_of_getElem? (i := 135) rfl)))), by rfl⟩
theorem tw_3_136 : ez_T (Jvm.Cond.static ({ cls := "FutureWishesLaw", name := "sign", desc := "(III)I" } : Jvm.MethodName)) := ⟨(List.mem_append_right _ (List.mem_append_right _ (List.mem_append_right _ (List.mem_of_getElem? (i := 136) rfl)))), by rfl⟩
theorem tw_3_137 : ez_T (Jvm.Cond.code ({ cls := "FutureWishesLaw", name := "sign", desc := "(III)I" } : Jvm.MethodName) method_4_code (5 : Nat) (Option.some Jvm.ClassFile.FieldType.int)) := ⟨(List.mem_append_right _ (List.mem_append_right _ (List.mem_append_right _ (List.mem_of_getElem? (i := 137) rfl)))), by rfl⟩
theorem tw_3_138 : ez_T (Jvm.Cond.methodLink "FutureWishesLaw" (27 : Nat) ({ cls := "FutureWishes", name := "append", desc := "(I)I" } : Jvm.MethodName)) := ⟨(List.mem_append_right _ (List.mem_append_right _ (List.mem_append_right _ (List.mem_of_getElem? (i := 138) rfl)))), by rfl⟩
theorem tw_3_139 : ez_T (Jvm.Cond.instanceMethod ({ cls := "FutureWishes", name := "append", desc := "(I)I" } : Jvm.MethodName)) := ⟨(List.mem_append_right _ (List.mem_append_right _ (List.mem_append_right _ (List.mem_of_getElem? (i := 139) rfl)))), by rfl⟩
theorem tw_3_140 : ez_T (Jvm.Cond.selects "FutureWishes" ({ cls := "FutureWishes", name := "append", desc := "(I)I" } : Jvm.MethodName) ({ cls := "FutureWishes", name := "append", desc := "(I)I" } : Jvm.MethodName)) := ⟨(List.mem_append_right _ (List.mem_append_right _ (List.mem_append_right _ (List.mem_of_getElem? (i := 140) rfl)))), by rfl⟩
theorem tw_3_141 : ez_T (Jvm.Cond.code ({ cls := "FutureWishes", name := "append", desc := "(I)I" } : Jvm.MethodName) prog_1_method_8_code (2 : Nat) (Option.some Jvm.ClassFile.FieldType.int)) := ⟨(List.mem_append_right _ (List.mem_append_right _ (List.mem_append_right _ (List.mem_of_getElem? (i := 141) rfl)))), by rfl⟩
theorem tw_3_144 : ez_T (Jvm.Cond.methodLink "FutureWishes" (120 : Nat) ({ cls := "FutureWishes$Text", name := "put", desc := "(C)V" } : Jvm.MethodName)) := ⟨(List.mem_append_right _ (List.mem_append_right _ (List.mem_append_right _ (List.mem_of_getElem? (i := 144) rfl)))), by rfl⟩
theorem tw_3_145 : ez_T (Jvm.Cond.instanceMethod ({ cls := "FutureWishes$Text", name := "put", desc := "(C)V" } : Jvm.MethodName)) := ⟨(List.mem_append_right _ (List.mem_append_right _ (List.mem_append_right _ (List.mem_of_getElem? (i := 145) rfl)))), by rfl⟩
theorem tw_3_146 : ez_T (Jvm.Cond.selects "FutureWishes$Text" ({ cls := "FutureWishes$Text", name := "put", desc := "(C)V" } : Jvm.MethodName) ({ cls := "FutureWishes$Text", name := "put", desc := "(C)V" } : Jvm.MethodName)) := ⟨(List.mem_append_right _ (List.mem_append_right _ (List.mem_append_right _ (List.mem_of_getElem? (i := 146) rfl)))), by rfl⟩
theorem tw_3_147 : ez_T (Jvm.Cond.code ({ cls := "FutureWishes$Text", name := "put", desc := "(C)V" } : Jvm.MethodName) prog_6_method_2_code (2 : Nat) (Option.none : Option Jvm.ClassFile.FieldType)) := ⟨(List.mem_append_right _ (List.mem_append_right _ (List.mem_append_right _ (List.mem_of_getElem? (i := 147) rfl)))), by rfl⟩
theorem tw_3_148 : ez_T (Jvm.Cond.methodLink "FutureWishesLaw" (76 : Nat) ({ cls := "FutureWishesLaw", name := "build", desc := "(LFutureWishes;[II)I" } : Jvm.MethodName)) := ⟨(List.mem_append_right _ (List.mem_append_right _ (List.mem_append_right _ (List.mem_of_getElem? (i := 148) rfl)))), by rfl⟩
theorem tw_3_149 : ez_T (Jvm.Cond.static ({ cls := "FutureWishesLaw", name := "build", desc := "(LFutureWishes;[II)I" } : Jvm.MethodName)) := ⟨(List.mem_append_right _ (List.mem_append_right _ (List.mem_append_right _ (List.mem_of_getElem? (i := 149) rfl)))), by rfl⟩
theorem tw_3_150 : ez_T (Jvm.Cond.code ({ cls := "FutureWishesLaw", name := "build", desc := "(LFutureWishes;[II)I" } : Jvm.MethodName) method_7_code (9 : Nat) (Option.some Jvm.ClassFile.FieldType.int)) := ⟨(List.mem_append_right _ (List.mem_append_right _ (List.mem_append_right _ (List.mem_of_getElem? (i := 150) rfl)))), by rfl⟩
theorem tw_3_151 : ez_T (Jvm.Cond.methodLink "FutureWishesLaw" (33 : Nat) ({ cls := "FutureWishes", name := "addWorld", desc := "(I)I" } : Jvm.MethodName)) := ⟨(List.mem_append_right _ (List.mem_append_right _ (List.mem_append_right _ (List.mem_of_getElem? (i := 151) rfl)))), by rfl⟩
theorem tw_3_152 : ez_T (Jvm.Cond.instanceMethod ({ cls := "FutureWishes", name := "addWorld", desc := "(I)I" } : Jvm.MethodName)) := ⟨(List.mem_append_right _ (List.mem_append_right _ (List.mem_append_right _ (List.mem_of_getElem? (i := 152) rfl)))), by rfl⟩
theorem tw_3_153 : ez_T (Jvm.Cond.selects "FutureWishes" ({ cls := "FutureWishes", name := "addWorld", desc := "(I)I" } : Jvm.MethodName) ({ cls := "FutureWishes", name := "addWorld", desc := "(I)I" } : Jvm.MethodName)) := ⟨(List.mem_append_right _ (List.mem_append_right _ (List.mem_append_right _ (List.mem_of_getElem? (i := 153) rfl)))), by rfl⟩
theorem tw_3_154 : ez_T (Jvm.Cond.code ({ cls := "FutureWishes", name := "addWorld", desc := "(I)I" } : Jvm.MethodName) prog_1_method_2_code (2 : Nat) (Option.some Jvm.ClassFile.FieldType.int)) := ⟨(List.mem_append_right _ (List.mem_append_right _ (List.mem_append_right _ (List.mem_of_getElem? (i := 154) rfl)))), by rfl⟩
theorem tw_3_157 : ez_T (Jvm.Cond.methodLink "FutureWishes" (74 : Nat) ({ cls := "FutureWishes$State", name := "putWorld", desc := "(I)I" } : Jvm.MethodName)) := ⟨(List.mem_append_right _ (List.mem_append_right _ (List.mem_append_right _ (List.mem_of_getElem? (i := 157) rfl)))), by rfl⟩
theorem tw_3_158 : ez_T (Jvm.Cond.instanceMethod ({ cls := "FutureWishes$State", name := "putWorld", desc := "(I)I" } : Jvm.MethodName)) := ⟨(List.mem_append_right _ (List.mem_append_right _ (List.mem_append_right _ (List.mem_of_getElem? (i := 158) rfl)))), by rfl⟩
theorem tw_3_159 : ez_T (Jvm.Cond.selects "FutureWishes$State" ({ cls := "FutureWishes$State", name := "putWorld", desc := "(I)I" } : Jvm.MethodName) ({ cls := "FutureWishes$State", name := "putWorld", desc := "(I)I" } : Jvm.MethodName)) := ⟨(List.mem_append_right _ (List.mem_append_right _ (List.mem_append_right _ (List.mem_of_getElem? (i := 159) rfl)))), by rfl⟩
theorem tw_3_160 : ez_T (Jvm.Cond.code ({ cls := "FutureWishes$State", name := "putWorld", desc := "(I)I" } : Jvm.MethodName) prog_5_method_10_code (3 : Nat) (Option.some Jvm.ClassFile.FieldType.int)) := ⟨(List.mem_append_right _ (List.mem_append_right _ (List.mem_append_right _ (List.mem_of_getElem? (i := 160) rfl)))), by rfl⟩
theorem tw_3_161 : ez_T (Jvm.Cond.methodLink "FutureWishesLaw" (39 : Nat) ({ cls := "FutureWishes", name := "step", desc := "(II)I" } : Jvm.MethodName)) := ⟨(List.mem_append_right _ (List.mem_append_right _ (List.mem_append_right _ (List.mem_of_getElem? (i := 161) rfl)))), by rfl⟩
theorem tw_3_162 : ez_T (Jvm.Cond.instanceMethod ({ cls := "FutureWishes", name := "step", desc := "(II)I" } : Jvm.MethodName)) := ⟨(List.mem_append_right _ (List.mem_append_right _ (List.mem_append_right _ (List.mem_of_getElem? (i := 162) rfl)))), by rfl⟩
theorem tw_3_163 : ez_T (Jvm.Cond.selects "FutureWishes" ({ cls := "FutureWishes", name := "step", desc := "(II)I" } : Jvm.MethodName) ({ cls := "FutureWishes", name := "step", desc := "(II)I" } : Jvm.MethodName)) := ⟨(List.mem_append_right _ (List.mem_append_right _ (List.mem_append_right _ (List.mem_of_getElem? (i := 163) rfl)))), by rfl⟩
theorem tw_3_164 : ez_T (Jvm.Cond.code ({ cls := "FutureWishes", name := "step", desc := "(II)I" } : Jvm.MethodName) prog_1_method_4_code (3 : Nat) (Option.some Jvm.ClassFile.FieldType.int)) := ⟨(List.mem_append_right _ (List.mem_append_right _ (List.mem_append_right _ (List.mem_of_getElem? (i := 164) rfl)))), by rfl⟩
theorem tw_3_165 : ez_T (Jvm.Cond.methodLink "FutureWishes" (85 : Nat) ({ cls := "FutureWishes$State", name := "turnStep", desc := "(II)V" } : Jvm.MethodName)) := ⟨(List.mem_append_right _ (List.mem_append_right _ (List.mem_append_right _ (List.mem_of_getElem? (i := 165) rfl)))), by rfl⟩
theorem tw_3_166 : ez_T (Jvm.Cond.instanceMethod ({ cls := "FutureWishes$State", name := "turnStep", desc := "(II)V" } : Jvm.MethodName)) := ⟨(List.mem_append_right _ (List.mem_append_right _ (List.mem_append_right _ (List.mem_of_getElem? (i := 166) rfl)))), by rfl⟩
theorem tw_3_167 : ez_T (Jvm.Cond.selects "FutureWishes$State" ({ cls := "FutureWishes$State", name := "turnStep", desc := "(II)V" } : Jvm.MethodName) ({ cls := "FutureWishes$State", name := "turnStep", desc := "(II)V" } : Jvm.MethodName)) := ⟨(List.mem_append_right _ (List.mem_append_right _ (List.mem_append_right _ (List.mem_of_getElem? (i := 167) rfl)))), by rfl⟩
theorem tw_3_168 : ez_T (Jvm.Cond.code ({ cls := "FutureWishes$State", name := "turnStep", desc := "(II)V" } : Jvm.MethodName) prog_5_method_12_code (3 : Nat) (Option.none : Option Jvm.ClassFile.FieldType)) := ⟨(List.mem_append_right _ (List.mem_append_right _ (List.mem_append_right _ (List.mem_of_getElem? (i := 168) rfl)))), by rfl⟩
theorem tw_3_169 : ez_T (Jvm.Cond.methodLink "FutureWishes$State" (44 : Nat) ({ cls := "FutureWishes$State", name := "hasWorld", desc := "(I)Z" } : Jvm.MethodName)) := ⟨(List.mem_append_right _ (List.mem_append_right _ (List.mem_append_right _ (List.mem_of_getElem? (i := 169) rfl)))), by rfl⟩
theorem tw_3_170 : ez_T (Jvm.Cond.methodLink "FutureWishesLaw" (52 : Nat) ({ cls := "FutureWishesLaw", name := "into", desc := "(LFutureWishes;I)I" } : Jvm.MethodName)) := ⟨(List.mem_append_right _ (List.mem_append_right _ (List.mem_append_right _ (List.mem_of_getElem? (i := 170) rfl)))), by rfl⟩
theorem tw_3_171 : ez_T (Jvm.Cond.static ({ cls := "FutureWishesLaw", name := "into", desc := "(LFutureWishes;I)I" } : Jvm.MethodName)) := ⟨(List.mem_append_right _ (List.mem_append_right _ (List.mem_append_right _ (List.mem_of_getElem? (i := 171) rfl)))), by rfl⟩
theorem tw_3_172 : ez_T (Jvm.Cond.code ({ cls := "FutureWishesLaw", name := "into", desc := "(LFutureWishes;I)I" } : Jvm.MethodName) method_8_code (4 : Nat) (Option.some Jvm.ClassFile.FieldType.int)) := ⟨(List.mem_append_right _ (List.mem_append_right _ (List.mem_append_right _ (List.mem_of_getElem? (i := 172) rfl)))), by rfl⟩
theorem tw_3_173 : ez_T (Jvm.Cond.methodLink "FutureWishesLaw" (60 : Nat) ({ cls := "FutureWishesLaw", name := "stays", desc := "(LFutureWishes;I)I" } : Jvm.MethodName)) := ⟨(List.mem_append_right _ (List.mem_append_right _ (List.mem_append_right _ (List.mem_of_getElem? (i := 173) rfl)))), by rfl⟩
theorem tw_3_174 : ez_T (Jvm.Cond.static ({ cls := "FutureWishesLaw", name := "stays", desc := "(LFutureWishes;I)I" } : Jvm.MethodName)) := ⟨(List.mem_append_right _ (List.mem_append_right _ (List.mem_append_right _ (List.mem_of_getElem? (i := 174) rfl)))), by rfl⟩
theorem tw_3_175 : ez_T (Jvm.Cond.code ({ cls := "FutureWishesLaw", name := "stays", desc := "(LFutureWishes;I)I" } : Jvm.MethodName) method_10_code (7 : Nat) (Option.some Jvm.ClassFile.FieldType.int)) := ⟨(List.mem_append_right _ (List.mem_append_right _ (List.mem_append_right _ (List.mem_of_getElem? (i := 175) rfl)))), by rfl⟩
theorem tw_3_176 : ez_T (Jvm.Cond.methodLink "FutureWishesLaw" (48 : Nat) ({ cls := "FutureWishesLaw", name := "reached", desc := "(LFutureWishes;II)I" } : Jvm.MethodName)) := ⟨(List.mem_append_right _ (List.mem_append_right _ (List.mem_append_right _ (List.mem_of_getElem? (i := 176) rfl)))), by rfl⟩
theorem tw_3_177 : ez_T (Jvm.Cond.static ({ cls := "FutureWishesLaw", name := "reached", desc := "(LFutureWishes;II)I" } : Jvm.MethodName)) := ⟨(List.mem_append_right _ (List.mem_append_right _ (List.mem_append_right _ (List.mem_of_getElem? (i := 177) rfl)))), by rfl⟩
theorem tw_3_178 : ez_T (Jvm.Cond.code ({ cls := "FutureWishesLaw", name := "reached", desc := "(LFutureWishes;II)I" } : Jvm.MethodName) method_9_code (6 : Nat) (Option.some Jvm.ClassFile.FieldType.int)) := ⟨(List.mem_append_right _ (List.mem_append_right _ (List.mem_append_right _ (List.mem_of_getElem? (i := 178) rfl)))), by rfl⟩
theorem tw_3_179 : ez_T (Jvm.Cond.methodLink "FutureWishesLaw" (91 : Nat) ({ cls := "FutureWishesLaw", name := "isWish", desc := "(LFutureWishes;II)Z" } : Jvm.MethodName)) := ⟨(List.mem_append_right _ (List.mem_append_right _ (List.mem_append_right _ (List.mem_of_getElem? (i := 179) rfl)))), by rfl⟩
theorem tw_3_180 : ez_T (Jvm.Cond.static ({ cls := "FutureWishesLaw", name := "isWish", desc := "(LFutureWishes;II)Z" } : Jvm.MethodName)) := ⟨(List.mem_append_right _ (List.mem_append_right _ (List.mem_append_right _ (List.mem_of_getElem? (i := 180) rfl)))), by rfl⟩
theorem tw_3_181 : ez_T (Jvm.Cond.code ({ cls := "FutureWishesLaw", name := "isWish", desc := "(LFutureWishes;II)Z" } : Jvm.MethodName) method_14_code (6 : Nat) (Option.some Jvm.ClassFile.FieldType.boolean)) := ⟨(List.mem_append_right _ (List.mem_append_right _ (List.mem_append_right _ (List.mem_of_getElem? (i := 181) rfl)))), by rfl⟩
theorem tw_3_182 : ez_T (Jvm.Cond.methodLink "FutureWishesLaw" (71 : Nat) ({ cls := "FutureWishesLaw", name := "isPart", desc := "(LFutureWishes;III)Z" } : Jvm.MethodName)) := ⟨(List.mem_append_right _ (List.mem_append_right _ (List.mem_append_right _ (List.mem_of_getElem? (i := 182) rfl)))), by rfl⟩
theorem tw_3_183 : ez_T (Jvm.Cond.static ({ cls := "FutureWishesLaw", name := "isPart", desc := "(LFutureWishes;III)Z" } : Jvm.MethodName)) := ⟨(List.mem_append_right _ (List.mem_append_right _ (List.mem_append_right _ (List.mem_of_getElem? (i := 183) rfl)))), by rfl⟩
theorem tw_3_184 : ez_T (Jvm.Cond.code ({ cls := "FutureWishesLaw", name := "isPart", desc := "(LFutureWishes;III)Z" } : Jvm.MethodName) method_13_code (20 : Nat) (Option.some Jvm.ClassFile.FieldType.boolean)) := ⟨(List.mem_append_right _ (List.mem_append_right _ (List.mem_append_right _ (List.mem_of_getElem? (i := 184) rfl)))), by rfl⟩
theorem tw_3_185 : ez_T (Jvm.Cond.methodLink "FutureWishesLaw" (64 : Nat) ({ cls := "FutureWishesLaw", name := "due", desc := "(LFutureWishes;IIIII)I" } : Jvm.MethodName)) := ⟨(List.mem_append_right _ (List.mem_append_right _ (List.mem_append_right _ (List.mem_of_getElem? (i := 185) rfl)))), by rfl⟩
theorem tw_3_186 : ez_T (Jvm.Cond.static ({ cls := "FutureWishesLaw", name := "due", desc := "(LFutureWishes;IIIII)I" } : Jvm.MethodName)) := ⟨(List.mem_append_right _ (List.mem_append_right _ (List.mem_append_right _ (List.mem_of_getElem? (i := 186) rfl)))), by rfl⟩
theorem tw_3_187 : ez_T (Jvm.Cond.code ({ cls := "FutureWishesLaw", name := "due", desc := "(LFutureWishes;IIIII)I" } : Jvm.MethodName) method_12_code (10 : Nat) (Option.some Jvm.ClassFile.FieldType.int)) := ⟨(List.mem_append_right _ (List.mem_append_right _ (List.mem_append_right _ (List.mem_of_getElem? (i := 187) rfl)))), by rfl⟩
theorem tw_3_188 : ez_T (Jvm.Cond.methodLink "FutureWishesLaw" (56 : Nat) ({ cls := "FutureWishesLaw", name := "comes", desc := "(LFutureWishes;III)I" } : Jvm.MethodName)) := ⟨(List.mem_append_right _ (List.mem_append_right _ (List.mem_append_right _ (List.mem_of_getElem? (i := 188) rfl)))), by rfl⟩
theorem tw_3_189 : ez_T (Jvm.Cond.static ({ cls := "FutureWishesLaw", name := "comes", desc := "(LFutureWishes;III)I" } : Jvm.MethodName)) := ⟨(List.mem_append_right _ (List.mem_append_right _ (List.mem_append_right _ (List.mem_of_getElem? (i := 189) rfl)))), by rfl⟩
theorem tw_3_190 : ez_T (Jvm.Cond.code ({ cls := "FutureWishesLaw", name := "comes", desc := "(LFutureWishes;III)I" } : Jvm.MethodName) method_11_code (8 : Nat) (Option.some Jvm.ClassFile.FieldType.int)) := ⟨(List.mem_append_right _ (List.mem_append_right _ (List.mem_append_right _ (List.mem_of_getElem? (i := 190) rfl)))), by rfl⟩
theorem ez_priv {q : MethodName × Nat} (h : q ∈ lw_privs) : Cond.selects q.1.cls q.1 q.1 ∈ lw_tbl := List.mem_append_left _ (List.mem_map_of_mem (f := fun q => Cond.selects q.1.cls q.1 q.1) h)
theorem ts_1_0 : ez_T (.selects "java/lang/Throwable" ⟨"java/lang/Throwable", "fillInStackTrace", "(I)Ljava/lang/Throwable;"⟩ ⟨"java/lang/Throwable", "fillInStackTrace", "(I)Ljava/lang/Throwable;"⟩) := ⟨ez_priv (q := (⟨"java/lang/Throwable", "fillInStackTrace", "(I)Ljava/lang/Throwable;"⟩, 6)) (List.mem_of_getElem? (i := 0) rfl), by rfl⟩
theorem ts_1_1 : ez_T (.selects "FutureWishes$Text" ⟨"FutureWishes$Text", "takes", "(C)Z"⟩ ⟨"FutureWishes$Text", "takes", "(C)Z"⟩) := ⟨ez_priv (q := (⟨"FutureWishes$Text", "takes", "(C)Z"⟩, 4)) (List.mem_of_getElem? (i := 1) rfl), by rfl⟩
theorem ts_1_2 : ez_T (.selects "FutureWishes$Text" ⟨"FutureWishes$Text", "takesSecond", "(C)Z"⟩ ⟨"FutureWishes$Text", "takesSecond", "(C)Z"⟩) := ⟨ez_priv (q := (⟨"FutureWishes$Text", "takesSecond", "(C)Z"⟩, 4)) (List.mem_of_getElem? (i := 2) rfl), by rfl⟩
theorem ts_1_3 : ez_T (.selects "FutureWishes$Text" ⟨"FutureWishes$Text", "takesFirst", "(C)Z"⟩ ⟨"FutureWishes$Text", "takesFirst", "(C)Z"⟩) := ⟨ez_priv (q := (⟨"FutureWishes$Text", "takesFirst", "(C)Z"⟩, 4)) (List.mem_of_getElem? (i := 3) rfl), by rfl⟩
theorem ts_1_4 : ez_T (.selects "FutureWishes$Text" ⟨"FutureWishes$Text", "leastRest", "()I"⟩ ⟨"FutureWishes$Text", "leastRest", "()I"⟩) := ⟨ez_priv (q := (⟨"FutureWishes$Text", "leastRest", "()I"⟩, 4)) (List.mem_of_getElem? (i := 4) rfl), by rfl⟩
theorem ts_1_5 : ez_T (.selects "FutureWishes$State" ⟨"FutureWishes$State", "putSign", "(IIC)V"⟩ ⟨"FutureWishes$State", "putSign", "(IIC)V"⟩) := ⟨ez_priv (q := (⟨"FutureWishes$State", "putSign", "(IIC)V"⟩, 6)) (List.mem_of_getElem? (i := 5) rfl), by rfl⟩
theorem ts_1_6 : ez_T (.selects "FutureWishes$State" ⟨"FutureWishes$State", "putLength", "(II)V"⟩ ⟨"FutureWishes$State", "putLength", "(II)V"⟩) := ⟨ez_priv (q := (⟨"FutureWishes$State", "putLength", "(II)V"⟩, 6)) (List.mem_of_getElem? (i := 6) rfl), by rfl⟩
theorem ts_1_7 : ez_T (.selects "FutureWishes" ⟨"FutureWishes", "needWorld", "(I)V"⟩ ⟨"FutureWishes", "needWorld", "(I)V"⟩) := ⟨ez_priv (q := (⟨"FutureWishes", "needWorld", "(I)V"⟩, 6)) (List.mem_of_getElem? (i := 7) rfl), by rfl⟩
theorem ts_1_8 : ez_T (.selects "FutureWishes" ⟨"FutureWishes", "wishesHoldingIn", "(I)I"⟩ ⟨"FutureWishes", "wishesHoldingIn", "(I)I"⟩) := ⟨ez_priv (q := (⟨"FutureWishes", "wishesHoldingIn", "(I)I"⟩, 6)) (List.mem_of_getElem? (i := 8) rfl), by rfl⟩
theorem ts_1_9 : ez_T (.selects "FutureWishes$Meaning" ⟨"FutureWishes$Meaning", "putShape", "(III)V"⟩ ⟨"FutureWishes$Meaning", "putShape", "(III)V"⟩) := ⟨ez_priv (q := (⟨"FutureWishes$Meaning", "putShape", "(III)V"⟩, 8)) (List.mem_of_getElem? (i := 9) rfl), by rfl⟩
theorem ts_1_10 : ez_T (.selects "FutureWishes$Meaning" ⟨"FutureWishes$Meaning", "depthAt", "(I)I"⟩ ⟨"FutureWishes$Meaning", "depthAt", "(I)I"⟩) := ⟨ez_priv (q := (⟨"FutureWishes$Meaning", "depthAt", "(I)I"⟩, 8)) (List.mem_of_getElem? (i := 10) rfl), by rfl⟩
theorem ts_1_11 : ez_T (.selects "FutureWishes$Meaning" ⟨"FutureWishes$Meaning", "allRounds", "()I"⟩ ⟨"FutureWishes$Meaning", "allRounds", "()I"⟩) := ⟨ez_priv (q := (⟨"FutureWishes$Meaning", "allRounds", "()I"⟩, 8)) (List.mem_of_getElem? (i := 11) rfl), by rfl⟩
theorem ts_1_12 : ez_T (.selects "FutureWishes" ⟨"FutureWishes", "worldsOfAllWishes", "()I"⟩ ⟨"FutureWishes", "worldsOfAllWishes", "()I"⟩) := ⟨ez_priv (q := (⟨"FutureWishes", "worldsOfAllWishes", "()I"⟩, 6)) (List.mem_of_getElem? (i := 12) rfl), by rfl⟩
theorem ts_1_13 : ez_T (.selects "FutureWishes$Trial" ⟨"FutureWishes$Trial", "begin", "(LFutureWishes$State;I)V"⟩ ⟨"FutureWishes$Trial", "begin", "(LFutureWishes$State;I)V"⟩) := ⟨ez_priv (q := (⟨"FutureWishes$Trial", "begin", "(LFutureWishes$State;I)V"⟩, 4)) (List.mem_of_getElem? (i := 13) rfl), by rfl⟩
end
section
abbrev mX0_init : ez_M := (yX0_init, cX0_init, 2, none, [])
abbrev mX0_look : ez_M := (yX0_look, cX0_look, 1, none, [])
abbrev mX0_onSomeWay : ez_M := (yX0_onSomeWay, cX0_onSomeWay, 4, some .int, [])
abbrev mX0_onSomeWayNot : ez_M := (yX0_onSomeWayNot, cX0_onSomeWayNot, 6, some .int, [])
abbrev mX0_until : ez_M := (yX0_until, cX0_until, 6, some .int, [])
abbrev mX0_always : ez_M := (yX0_always, cX0_always, 8, some .int, [])
abbrev mX1_init : ez_M := (yX1_init, cX1_init, 2, none, [])
abbrev mX1_save : ez_M := (yX1_save, cX1_save, 2, none, [])
abbrev mX1_restore : ez_M := (yX1_restore, cX1_restore, 2, none, [])
abbrev mX2_init : ez_M := (yX2_init, cX2_init, 2, none, [])
abbrev mX2_live : ez_M := (yX2_live, cX2_live, 1, some .int, [])
abbrev mX2_find : ez_M := (yX2_find, cX2_find, 2, some .int, [])
abbrev mX2_readSigns : ez_M := (yX2_readSigns, cX2_readSigns, 3, none, [])
abbrev mX2_putShape : ez_M := (yX2_putShape, cX2_putShape, 7, none, [])
abbrev mX2_findSets : ez_M := (yX2_findSets, cX2_findSets, 3, none, [])
abbrev mX2_ofWish : ez_M := (yX2_ofWish, cX2_ofWish, 2, some .int, [])
abbrev mX2_ofSign : ez_M := (yX2_ofSign, cX2_ofSign, 3, some .int, [])
abbrev mX2_signAt : ez_M := (yX2_signAt, cX2_signAt, 2, some .char, [])
abbrev mX2_setAt : ez_M := (yX2_setAt, cX2_setAt, 2, some .int, [])
abbrev mX2_behind : ez_M := (yX2_behind, cX2_behind, 2, some .int, [])
abbrev mX2_depthAt : ez_M := (yX2_depthAt, cX2_depthAt, 2, some .int, [])
abbrev mX2_allRounds : ez_M := (yX2_allRounds, cX2_allRounds, 3, some .int, [])
abbrev mX3_init : ez_M := (yX3_init, cX3_init, 1, none, [])
abbrev mX3_copyFrom : ez_M := (yX3_copyFrom, cX3_copyFrom, 2, none, [])
abbrev mX3_hasWorld : ez_M := (yX3_hasWorld, cX3_hasWorld, 2, some .boolean, [])
abbrev mX3_allWorlds : ez_M := (yX3_allWorlds, cX3_allWorlds, 1, some .int, [])
abbrev mX3_lettersOf : ez_M := (yX3_lettersOf, cX3_lettersOf, 2, some .int, [])
abbrev mX3_stepsFrom : ez_M := (yX3_stepsFrom, cX3_stepsFrom, 2, some .int, [])
abbrev mX3_withLetter : ez_M := (yX3_withLetter, cX3_withLetter, 4, some .int, [])
abbrev mX3_leadingInto : ez_M := (yX3_leadingInto, cX3_leadingInto, 4, some .int, [])
abbrev mX3_countSteps : ez_M := (yX3_countSteps, cX3_countSteps, 3, some .int, [])
abbrev mX3_putWorld : ez_M := (yX3_putWorld, cX3_putWorld, 3, some .int, [])
abbrev mX3_turnStep : ez_M := (yX3_turnStep, cX3_turnStep, 3, none, [])
abbrev mX3_lengthOf : ez_M := (yX3_lengthOf, cX3_lengthOf, 2, some .int, [])
abbrev mX3_signAt : ez_M := (yX3_signAt, cX3_signAt, 3, some .char, [])
abbrev mX3_putSign : ez_M := (yX3_putSign, cX3_putSign, 4, none, [])
abbrev mX3_putLength : ez_M := (yX3_putLength, cX3_putLength, 3, none, [])
abbrev mX3_putWish : ez_M := (yX3_putWish, cX3_putWish, 4, none, [])
abbrev mX3_putNot : ez_M := (yX3_putNot, cX3_putNot, 4, none, [])
abbrev mX3_dropNot : ez_M := (yX3_dropNot, cX3_dropNot, 4, none, [])
abbrev mX3_countWishes : ez_M := (yX3_countWishes, cX3_countWishes, 3, some .int, [])
abbrev mX3_countSigns : ez_M := (yX3_countSigns, cX3_countSigns, 3, some .int, [])
abbrev mX4_init : ez_M := (yX4_init, cX4_init, 1, none, [])
abbrev mX4_put : ez_M := (yX4_put, cX4_put, 2, none, [])
abbrev mX4_at : ez_M := (yX4_at, cX4_at, 2, some .char, [])
abbrev mX4_isWish : ez_M := (yX4_isWish, cX4_isWish, 1, some .boolean, [])
abbrev mX4_firstFault : ez_M := (yX4_firstFault, cX4_firstFault, 2, some .int, [])
abbrev mX4_leastRest : ez_M := (yX4_leastRest, cX4_leastRest, 1, some .int, [])
abbrev mX4_takes : ez_M := (yX4_takes, cX4_takes, 2, some .boolean, [])
abbrev mX4_takesSecond : ez_M := (yX4_takesSecond, cX4_takesSecond, 2, some .boolean, [])
abbrev mX4_takesFirst : ez_M := (yX4_takesFirst, cX4_takesFirst, 2, some .boolean, [])
abbrev mX5_init : ez_M := (yX5_init, cX5_init, 1, none, [])
abbrev mX5_worldsIfFair : ez_M := (yX5_worldsIfFair, cX5_worldsIfFair, 4, some .int, [])
abbrev mX5_begin : ez_M := (yX5_begin, cX5_begin, 3, none, [])
abbrev mX6_init : ez_M := (yX6_init, cX6_init, 2, none, [])
abbrev mX7_init : ez_M := (yX7_init, cX7_init, 1, none, [])
abbrev mX7_addWorld : ez_M := (yX7_addWorld, cX7_addWorld, 2, some .int, [])
abbrev mX7_step : ez_M := (yX7_step, cX7_step, 3, some .int, [])
abbrev mX7_fair : ez_M := (yX7_fair, cX7_fair, 3, some .int, [])
abbrev mX7_append : ez_M := (yX7_append, cX7_append, 2, some .int, [])
abbrev mX7_firstError : ez_M := (yX7_firstError, cX7_firstError, 1, some .int, [])
abbrev mX7_read : ez_M := (yX7_read, cX7_read, 2, some .int, [])
abbrev mX7_negate : ez_M := (yX7_negate, cX7_negate, 4, some .int, [])
abbrev mX7_undo : ez_M := (yX7_undo, cX7_undo, 1, some .int, [])
abbrev mX7_world : ez_M := (yX7_world, cX7_world, 3, some .int, [])
abbrev mX7_wish : ez_M := (yX7_wish, cX7_wish, 3, some .int, [])
abbrev mX7_sign : ez_M := (yX7_sign, cX7_sign, 4, some .int, [])
abbrev mX7_compare : ez_M := (yX7_compare, cX7_compare, 5, some .int, [])
abbrev mX7_count : ez_M := (yX7_count, cX7_count, 2, some .int, [])
abbrev mX7_ifFair : ez_M := (yX7_ifFair, cX7_ifFair, 3, some .int, [])
abbrev mX7_fulfilled : ez_M := (yX7_fulfilled, cX7_fulfilled, 4, some .double, [])
abbrev mX7_needWorld : ez_M := (yX7_needWorld, cX7_needWorld, 2, none, [])
abbrev mX7_needWish : ez_M := (yX7_needWish, cX7_needWish, 1, none, [])
abbrev mX7_needLetterOrNone : ez_M := (yX7_needLetterOrNone, cX7_needLetterOrNone, 1, none, [])
abbrev mX7_needLook : ez_M := (yX7_needLook, cX7_needLook, 2, none, [])
abbrev mX7_wishesHoldingIn : ez_M := (yX7_wishesHoldingIn, cX7_wishesHoldingIn, 4, some .int, [])
abbrev mX7_worldsOfAllWishes : ez_M := (yX7_worldsOfAllWishes, cX7_worldsOfAllWishes, 3, some .int, [])
abbrev mJ6_bitCount_0f7a4 : ez_M := (yJ6_bitCount_0f7a4, cJ6_bitCount_0f7a4, 1, some .int, [])
abbrev mJ9_max_7cf53 : ez_M := (yJ9_max_7cf53, cJ9_max_7cf53, 2, some .int, [])
abbrev mL_cell : ez_M := (yL_cell, cL_cell, 2, some .int, [])
abbrev mL_low : ez_M := (yL_low, cL_low, 2, some .int, [])
abbrev mL_sign : ez_M := (yL_sign, cL_sign, 5, some .int, [])
abbrev mL_way : ez_M := (yL_way, cL_way, 4, some .int, [])
abbrev mL_write : ez_M := (yL_write, cL_write, 9, some .int, [])
abbrev mL_build : ez_M := (yL_build, cL_build, 9, some .int, [])
abbrev mL_into : ez_M := (yL_into, cL_into, 4, some .int, [])
abbrev mL_reached : ez_M := (yL_reached, cL_reached, 6, some .int, [])
abbrev mL_stays : ez_M := (yL_stays, cL_stays, 7, some .int, [])
abbrev mL_comes : ez_M := (yL_comes, cL_comes, 8, some .int, [])
abbrev mL_due : ez_M := (yL_due, cL_due, 10, some .int, [])
abbrev mL_isPart : ez_M := (yL_isPart, cL_isPart, 20, some .boolean, [])
abbrev mL_isWish : ez_M := (yL_isWish, cL_isWish, 6, some .boolean, [])
abbrev mL_law : ez_M := (yL_law, cL_law, 16, some .boolean, [])
theorem fl_X3_9 : ez_fl RX3 9 3 0 := ⟨by decide, by decide, tw_1_32⟩
theorem fl_X7_62 : ez_fl RX7 62 3 0 := ⟨by decide, by decide, tw_1_33⟩
theorem fl_X3_15 : ez_fl RX3 15 3 1 := ⟨by decide, by decide, tw_1_34⟩
theorem fl_X0_34 : ez_fl RX0 34 3 1 := ⟨by decide, by decide, tw_1_35⟩
theorem fl_X5_57 : ez_fl RX5 57 3 1 := ⟨by decide, by decide, tw_1_36⟩
theorem fl_X7_103 : ez_fl RX7 103 3 1 := ⟨by decide, by decide, tw_1_37⟩
theorem fl_X3_18 : ez_fl RX3 18 3 2 := ⟨by decide, by decide, tw_1_38⟩
theorem fl_X3_22 : ez_fl RX3 22 3 3 := ⟨by decide, by decide, tw_1_39⟩
theorem fl_X3_25 : ez_fl RX3 25 3 4 := ⟨by decide, by decide, tw_1_40⟩
theorem fl_X3_28 : ez_fl RX3 28 3 5 := ⟨by decide, by decide, tw_1_41⟩
theorem fl_X1_9 : ez_fl RX1 9 1 0 := ⟨by decide, by decide, tw_1_66⟩
theorem fl_X7_158 : ez_fl RX7 158 1 0 := ⟨by decide, by decide, tw_1_67⟩
theorem fl_X1_15 : ez_fl RX1 15 1 1 := ⟨by decide, by decide, tw_1_68⟩
theorem fl_X1_20 : ez_fl RX1 20 1 2 := ⟨by decide, by decide, tw_1_69⟩
theorem fl_X4_9 : ez_fl RX4 9 4 0 := ⟨by decide, by decide, tw_1_83⟩
theorem fl_X7_115 : ez_fl RX7 115 4 0 := ⟨by decide, by decide, tw_1_84⟩
theorem fl_X3_51 : ez_fl RX3 51 4 0 := ⟨by decide, by decide, tw_1_85⟩
theorem fl_X4_15 : ez_fl RX4 15 4 1 := ⟨by decide, by decide, tw_1_86⟩
theorem fl_X4_19 : ez_fl RX4 19 4 2 := ⟨by decide, by decide, tw_1_87⟩
theorem fl_X4_22 : ez_fl RX4 22 4 3 := ⟨by decide, by decide, tw_1_88⟩
theorem fl_X0_24 : ez_fl RX0 24 0 0 := ⟨by decide, by decide, tw_1_110⟩
theorem fl_X0_9 : ez_fl RX0 9 0 1 := ⟨by decide, by decide, tw_1_111⟩
theorem fl_X2_96 : ez_fl RX2 96 0 1 := ⟨by decide, by decide, tw_1_112⟩
theorem fl_X0_15 : ez_fl RX0 15 0 2 := ⟨by decide, by decide, tw_1_113⟩
theorem fl_X2_48 : ez_fl RX2 48 0 2 := ⟨by decide, by decide, tw_1_114⟩
theorem fl_X0_18 : ez_fl RX0 18 0 3 := ⟨by decide, by decide, tw_1_115⟩
theorem fl_X2_90 : ez_fl RX2 90 0 3 := ⟨by decide, by decide, tw_1_116⟩
theorem fl_X0_21 : ez_fl RX0 21 0 4 := ⟨by decide, by decide, tw_1_117⟩
theorem fl_X2_32 : ez_fl RX2 32 2 0 := ⟨by decide, by decide, tw_1_129⟩
theorem fl_X6_26 : ez_fl RX6 26 2 1 := ⟨by decide, by decide, tw_1_130⟩
theorem fl_X2_41 : ez_fl RX2 41 2 1 := ⟨by decide, by decide, tw_1_131⟩
theorem fl_X2_9 : ez_fl RX2 9 2 2 := ⟨by decide, by decide, tw_1_132⟩
theorem fl_X5_38 : ez_fl RX5 38 2 2 := ⟨by decide, by decide, tw_1_133⟩
theorem fl_X2_15 : ez_fl RX2 15 2 3 := ⟨by decide, by decide, tw_1_134⟩
theorem fl_X2_19 : ez_fl RX2 19 2 4 := ⟨by decide, by decide, tw_1_135⟩
theorem fl_X2_23 : ez_fl RX2 23 2 5 := ⟨by decide, by decide, tw_1_136⟩
theorem fl_X2_26 : ez_fl RX2 26 2 6 := ⟨by decide, by decide, tw_1_137⟩
theorem fl_X2_29 : ez_fl RX2 29 2 7 := ⟨by decide, by decide, tw_1_138⟩
theorem fl_X6_22 : ez_fl RX6 22 6 0 := ⟨by decide, by decide, tw_1_162⟩
theorem fl_X6_32 : ez_fl RX6 32 6 1 := ⟨by decide, by decide, tw_1_163⟩
theorem fl_X6_9 : ez_fl RX6 9 6 2 := ⟨by decide, by decide, tw_1_164⟩
theorem fl_X6_15 : ez_fl RX6 15 6 3 := ⟨by decide, by decide, tw_1_165⟩
theorem fl_X6_19 : ez_fl RX6 19 6 4 := ⟨by decide, by decide, tw_1_166⟩
theorem fl_X5_9 : ez_fl RX5 9 5 0 := ⟨by decide, by decide, tw_1_188⟩
theorem fl_X5_15 : ez_fl RX5 15 5 1 := ⟨by decide, by decide, tw_1_189⟩
theorem fl_X5_21 : ez_fl RX5 21 5 2 := ⟨by decide, by decide, tw_1_190⟩
theorem fl_X5_30 : ez_fl RX5 30 5 3 := ⟨by decide, by decide, tw_1_191⟩
theorem fl_X7_10 : ez_fl RX7 10 7 0 := ⟨by decide, by decide, tw_1_201⟩
theorem fl_X7_19 : ez_fl RX7 19 7 1 := ⟨by decide, by decide, tw_1_202⟩
theorem fl_X7_26 : ez_fl RX7 26 7 2 := ⟨by decide, by decide, tw_1_203⟩
theorem fl_X7_35 : ez_fl RX7 35 7 3 := ⟨by decide, by decide, tw_1_204⟩
theorem fl_X7_44 : ez_fl RX7 44 7 4 := ⟨by decide, by decide, tw_1_205⟩
theorem fl_X7_51 : ez_fl RX7 51 7 5 := ⟨by decide, by decide, tw_1_206⟩
theorem ck_X0_28 : ez_kV RX0 28 mX3_allWorlds 0 := ⟨⟨tw_1_2, tw_2_223, by decide, by decide, by decide +kernel⟩, tw_2_220, tw_2_221, tw_2_222⟩
theorem ck_X0_37 : ez_kV RX0 37 mX3_withLetter 1 := ⟨⟨tw_1_2, tw_2_227, by decide, by decide, by decide +kernel⟩, tw_2_224, tw_2_225, tw_2_226⟩
theorem ck_X0_41 : ez_kV RX0 41 mX0_always 1 := ⟨⟨tw_1_6, tw_2_231, by decide, by decide, by decide +kernel⟩, tw_2_228, tw_2_229, tw_2_230⟩
theorem ck_X0_44 : ez_kV RX0 44 mX3_leadingInto 1 := ⟨⟨tw_1_2, tw_2_211, by decide, by decide, by decide +kernel⟩, tw_2_232, tw_2_209, tw_2_210⟩
theorem ck_X0_47 : ez_kV RX0 47 mX0_until 2 := ⟨⟨tw_1_6, tw_3_41, by decide, by decide, by decide +kernel⟩, tw_3_38, tw_3_39, tw_3_40⟩
theorem ck_X1_24 : ez_kN RX1 24 mX3_init 0 := ⟨⟨tw_1_2, tw_1_30, by decide, by decide, by decide +kernel⟩, (List.mem_append_right _ (List.mem_append_left _ (List.mem_of_getElem? (i := 65) rfl))), tw_1_29, by rfl⟩
theorem ck_X1_25 : ez_kV RX1 25 mX3_copyFrom 1 := ⟨⟨tw_1_2, tw_2_62, by decide, by decide, by decide +kernel⟩, tw_2_59, tw_2_60, tw_2_61⟩
theorem ck_X2_38 : ez_kI RX2 38 mX0_init 1 := ⟨⟨tw_1_6, tw_1_108, by decide, by decide, by decide +kernel⟩, tw_1_106, tw_1_107, by rfl⟩
theorem ck_X2_45 : ez_kV RX2 45 mX0_look 0 := ⟨⟨tw_1_6, tw_2_219, by decide, by decide, by decide +kernel⟩, tw_2_216, tw_2_217, tw_2_218⟩
theorem ck_X2_51 : ez_kV RX2 51 mX2_readSigns 1 := ⟨⟨tw_1_5, tw_3_4, by decide, by decide, by decide +kernel⟩, tw_3_1, tw_3_2, tw_3_3⟩
theorem ck_X2_55 : ez_kV RX2 55 mX2_findSets 0 := ⟨⟨tw_1_5, tw_3_29, by decide, by decide, by decide +kernel⟩, tw_3_26, tw_3_27, tw_3_28⟩
theorem ck_X2_58 : ez_kV RX2 58 mX2_setAt 1 := ⟨⟨tw_1_5, tw_3_33, by decide, by decide, by decide +kernel⟩, tw_3_30, tw_3_31, tw_3_32⟩
theorem ck_X2_62 : ez_kV RX2 62 mX3_lengthOf 1 := ⟨⟨tw_1_2, tw_2_139, by decide, by decide, by decide +kernel⟩, tw_3_5, tw_2_137, tw_2_138⟩
theorem ck_X2_67 : ez_kV RX2 67 mX3_signAt 2 := ⟨⟨tw_1_2, tw_2_147, by decide, by decide, by decide +kernel⟩, tw_3_6, tw_2_145, tw_2_146⟩
theorem ck_X2_71 : ez_kV RX2 71 mX2_putShape 3 := ⟨⟨tw_1_5, tw_3_10, by decide, by decide, by decide +kernel⟩, tw_3_7, tw_3_9, ts_1_9⟩
theorem ck_X2_75 : ez_kV RX2 75 mX2_signAt 1 := ⟨⟨tw_1_5, tw_3_25, by decide, by decide, by decide +kernel⟩, tw_3_22, tw_3_23, tw_3_24⟩
theorem ck_X2_78 : ez_kV RX2 78 mX2_depthAt 1 := ⟨⟨tw_1_5, tw_3_14, by decide, by decide, by decide +kernel⟩, tw_3_11, tw_3_13, ts_1_10⟩
theorem ck_X2_81 : ez_kS RX2 81 mJ9_max_7cf53 2 := ⟨⟨tw_1_16, tw_3_17, by decide, by decide, by decide +kernel⟩, tw_3_15, tw_3_16⟩
theorem ck_X2_87 : ez_kV RX2 87 mX2_behind 1 := ⟨⟨tw_1_5, tw_3_21, by decide, by decide, by decide +kernel⟩, tw_3_18, tw_3_19, tw_3_20⟩
theorem ck_X2_92 : ez_kV RX2 92 mX0_onSomeWay 3 := ⟨⟨tw_1_6, tw_3_37, by decide, by decide, by decide +kernel⟩, tw_3_34, tw_3_35, tw_3_36⟩
theorem ck_X2_99 : ez_kV RX2 99 mX0_onSomeWayNot 3 := ⟨⟨tw_1_6, tw_3_45, by decide, by decide, by decide +kernel⟩, tw_3_42, tw_3_43, tw_3_44⟩
theorem ck_X2_102 : ez_kV RX2 102 mX3_withLetter 1 := ⟨⟨tw_1_2, tw_2_227, by decide, by decide, by decide +kernel⟩, tw_3_46, tw_2_225, tw_2_226⟩
theorem ck_X2_105 : ez_kV RX2 105 mX2_allRounds 0 := ⟨⟨tw_1_5, tw_3_58, by decide, by decide, by decide +kernel⟩, tw_3_55, tw_3_57, ts_1_11⟩
theorem ck_X3_38 : ez_kS RX3 38 mJ6_bitCount_0f7a4 1 := ⟨⟨tw_1_17, tw_3_82, by decide, by decide, by decide +kernel⟩, tw_3_80, tw_3_81⟩
theorem ck_X3_44 : ez_kV RX3 44 mX3_hasWorld 1 := ⟨⟨tw_1_2, tw_2_194, by decide, by decide, by decide +kernel⟩, tw_3_169, tw_2_192, tw_2_193⟩
theorem ck_X3_48 : ez_kV RX3 48 mX3_lengthOf 1 := ⟨⟨tw_1_2, tw_2_139, by decide, by decide, by decide +kernel⟩, tw_2_148, tw_2_137, tw_2_138⟩
theorem ck_X3_56 : ez_kV RX3 56 mX4_at 1 := ⟨⟨tw_1_4, tw_2_77, by decide, by decide, by decide +kernel⟩, tw_2_127, tw_2_75, tw_2_76⟩
theorem ck_X3_60 : ez_kV RX3 60 mX3_putSign 3 := ⟨⟨tw_1_2, tw_2_131, by decide, by decide, by decide +kernel⟩, tw_2_128, tw_2_130, ts_1_5⟩
theorem ck_X3_64 : ez_kV RX3 64 mX3_putLength 2 := ⟨⟨tw_1_2, tw_2_135, by decide, by decide, by decide +kernel⟩, tw_2_132, tw_2_134, ts_1_6⟩
theorem ck_X3_68 : ez_kV RX3 68 mX3_signAt 2 := ⟨⟨tw_1_2, tw_2_147, by decide, by decide, by decide +kernel⟩, tw_2_169, tw_2_145, tw_2_146⟩
theorem ck_X4_26 : ez_kV RX4 26 mX4_firstFault 0 := ⟨⟨tw_1_4, tw_2_73, by decide, by decide, by decide +kernel⟩, tw_2_121, tw_2_71, tw_2_72⟩
theorem ck_X4_30 : ez_kV RX4 30 mX4_at 1 := ⟨⟨tw_1_4, tw_2_77, by decide, by decide, by decide +kernel⟩, tw_2_74, tw_2_75, tw_2_76⟩
theorem ck_X4_34 : ez_kV RX4 34 mX4_takes 1 := ⟨⟨tw_1_4, tw_2_81, by decide, by decide, by decide +kernel⟩, tw_2_78, tw_2_80, ts_1_1⟩
theorem ck_X4_38 : ez_kV RX4 38 mX4_leastRest 0 := ⟨⟨tw_1_4, tw_2_93, by decide, by decide, by decide +kernel⟩, tw_2_90, tw_2_92, ts_1_4⟩
theorem ck_X4_41 : ez_kV RX4 41 mX4_takesSecond 1 := ⟨⟨tw_1_4, tw_2_85, by decide, by decide, by decide +kernel⟩, tw_2_82, tw_2_84, ts_1_2⟩
theorem ck_X4_44 : ez_kV RX4 44 mX4_takesFirst 1 := ⟨⟨tw_1_4, tw_2_89, by decide, by decide, by decide +kernel⟩, tw_2_86, tw_2_88, ts_1_3⟩
theorem ck_X5_20 : ez_kN RX5 20 mX3_init 0 := ⟨⟨tw_1_2, tw_1_30, by decide, by decide, by decide +kernel⟩, (List.mem_append_right _ (List.mem_append_left _ (List.mem_of_getElem? (i := 185) rfl))), tw_1_29, by rfl⟩
theorem ck_X5_27 : ez_kI RX5 27 mX2_init 1 := ⟨⟨tw_1_5, tw_1_102, by decide, by decide, by decide +kernel⟩, tw_1_187, tw_1_101, by rfl⟩
theorem ck_X5_34 : ez_kV RX5 34 mX5_begin 2 := ⟨⟨tw_1_8, tw_3_111, by decide, by decide, by decide +kernel⟩, tw_3_108, tw_3_110, ts_1_13⟩
theorem ck_X5_48 : ez_kV RX5 48 mX2_findSets 0 := ⟨⟨tw_1_5, tw_3_29, by decide, by decide, by decide +kernel⟩, tw_3_114, tw_3_27, tw_3_28⟩
theorem ck_X5_60 : ez_kV RX5 60 mX2_setAt 1 := ⟨⟨tw_1_5, tw_3_33, by decide, by decide, by decide +kernel⟩, tw_3_115, tw_3_31, tw_3_32⟩
theorem ck_X5_64 : ez_kV RX5 64 mX3_copyFrom 1 := ⟨⟨tw_1_2, tw_2_62, by decide, by decide, by decide +kernel⟩, tw_3_112, tw_2_60, tw_2_61⟩
theorem ck_X5_67 : ez_kV RX5 67 mX2_readSigns 1 := ⟨⟨tw_1_5, tw_3_4, by decide, by decide, by decide +kernel⟩, tw_3_113, tw_3_2, tw_3_3⟩
theorem ck_X7_9 : ez_kN RX7 9 mX3_init 0 := ⟨⟨tw_1_2, tw_1_30, by decide, by decide, by decide +kernel⟩, (List.mem_append_right _ (List.mem_append_left _ (List.mem_of_getElem? (i := 28) rfl))), tw_1_29, by rfl⟩
theorem ck_X7_18 : ez_kI RX7 18 mX1_init 0 := ⟨⟨tw_1_3, tw_1_61, by decide, by decide, by decide +kernel⟩, tw_1_59, tw_1_60, by rfl⟩
theorem ck_X7_25 : ez_kN RX7 25 mX4_init 0 := ⟨⟨tw_1_4, tw_1_81, by decide, by decide, by decide +kernel⟩, (List.mem_append_right _ (List.mem_append_left _ (List.mem_of_getElem? (i := 79) rfl))), tw_1_80, by rfl⟩
theorem ck_X7_32 : ez_kI RX7 32 mX2_init 1 := ⟨⟨tw_1_5, tw_1_102, by decide, by decide, by decide +kernel⟩, tw_1_100, tw_1_101, by rfl⟩
theorem ck_X7_41 : ez_kI RX7 41 mX6_init 1 := ⟨⟨tw_1_7, tw_1_160, by decide, by decide, by decide +kernel⟩, tw_1_158, tw_1_159, by rfl⟩
theorem ck_X7_50 : ez_kN RX7 50 mX5_init 0 := ⟨⟨tw_1_8, tw_1_182, by decide, by decide, by decide +kernel⟩, (List.mem_append_right _ (List.mem_append_left _ (List.mem_of_getElem? (i := 180) rfl))), tw_1_181, by rfl⟩
theorem ck_X7_71 : ez_kV RX7 71 mX1_save 1 := ⟨⟨tw_1_3, tw_2_58, by decide, by decide, by decide +kernel⟩, tw_2_55, tw_2_56, tw_2_57⟩
theorem ck_X7_74 : ez_kV RX7 74 mX3_putWorld 1 := ⟨⟨tw_1_2, tw_3_160, by decide, by decide, by decide +kernel⟩, tw_3_157, tw_3_158, tw_3_159⟩
theorem ck_X7_78 : ez_kV RX7 78 mX7_needWorld 1 := ⟨⟨tw_1_1, tw_2_190, by decide, by decide, by decide +kernel⟩, tw_2_187, tw_2_189, ts_1_7⟩
theorem ck_X7_85 : ez_kV RX7 85 mX3_turnStep 2 := ⟨⟨tw_1_2, tw_3_168, by decide, by decide, by decide +kernel⟩, tw_3_165, tw_3_166, tw_3_167⟩
theorem ck_X7_89 : ez_kV RX7 89 mX3_stepsFrom 1 := ⟨⟨tw_1_2, tw_2_207, by decide, by decide, by decide +kernel⟩, tw_2_204, tw_2_205, tw_2_206⟩
theorem ck_X7_100 : ez_kS RX7 100 mX7_needLetterOrNone 1 := ⟨⟨tw_1_1, tw_1_226, by decide, by decide, by decide +kernel⟩, tw_1_224, tw_1_225⟩
theorem ck_X7_120 : ez_kV RX7 120 mX4_put 1 := ⟨⟨tw_1_4, tw_3_147, by decide, by decide, by decide +kernel⟩, tw_3_144, tw_3_145, tw_3_146⟩
theorem ck_X7_124 : ez_kV RX7 124 mX4_firstFault 0 := ⟨⟨tw_1_4, tw_2_73, by decide, by decide, by decide +kernel⟩, tw_2_70, tw_2_71, tw_2_72⟩
theorem ck_X7_127 : ez_kS RX7 127 mX7_needWish 1 := ⟨⟨tw_1_1, tw_2_100, by decide, by decide, by decide +kernel⟩, tw_2_98, tw_2_99⟩
theorem ck_X7_130 : ez_kV RX7 130 mX4_isWish 0 := ⟨⟨tw_1_4, tw_2_120, by decide, by decide, by decide +kernel⟩, tw_2_117, tw_2_118, tw_2_119⟩
theorem ck_X7_136 : ez_kV RX7 136 mX3_putWish 2 := ⟨⟨tw_1_2, tw_2_126, by decide, by decide, by decide +kernel⟩, tw_2_123, tw_2_124, tw_2_125⟩
theorem ck_X7_140 : ez_kV RX7 140 mX3_lengthOf 1 := ⟨⟨tw_1_2, tw_2_139, by decide, by decide, by decide +kernel⟩, tw_2_136, tw_2_137, tw_2_138⟩
theorem ck_X7_143 : ez_kV RX7 143 mX3_signAt 2 := ⟨⟨tw_1_2, tw_2_147, by decide, by decide, by decide +kernel⟩, tw_2_144, tw_2_145, tw_2_146⟩
theorem ck_X7_149 : ez_kV RX7 149 mX3_dropNot 1 := ⟨⟨tw_1_2, tw_2_168, by decide, by decide, by decide +kernel⟩, tw_2_165, tw_2_166, tw_2_167⟩
theorem ck_X7_152 : ez_kV RX7 152 mX3_putNot 1 := ⟨⟨tw_1_2, tw_2_173, by decide, by decide, by decide +kernel⟩, tw_2_170, tw_2_171, tw_2_172⟩
theorem ck_X7_163 : ez_kV RX7 163 mX1_restore 1 := ⟨⟨tw_1_3, tw_2_182, by decide, by decide, by decide +kernel⟩, tw_2_179, tw_2_180, tw_2_181⟩
theorem ck_X7_166 : ez_kS RX7 166 mX7_needLook 2 := ⟨⟨tw_1_1, tw_2_198, by decide, by decide, by decide +kernel⟩, tw_2_196, tw_2_197⟩
theorem ck_X7_97 : ez_kV RX7 97 mX3_lettersOf 1 := ⟨⟨tw_1_2, tw_2_203, by decide, by decide, by decide +kernel⟩, tw_2_200, tw_2_201, tw_2_202⟩
theorem ck_X7_169 : ez_kV RX7 169 mX3_leadingInto 1 := ⟨⟨tw_1_2, tw_2_211, by decide, by decide, by decide +kernel⟩, tw_2_208, tw_2_209, tw_2_210⟩
theorem ck_X7_172 : ez_kV RX7 172 mX2_live 0 := ⟨⟨tw_1_5, tw_2_215, by decide, by decide, by decide +kernel⟩, tw_2_212, tw_2_213, tw_2_214⟩
theorem ck_X7_175 : ez_kV RX7 175 mX7_wishesHoldingIn 1 := ⟨⟨tw_1_1, tw_2_236, by decide, by decide, by decide +kernel⟩, tw_2_233, tw_2_235, ts_1_8⟩
theorem ck_X7_178 : ez_kV RX7 178 mX2_find 1 := ⟨⟨tw_1_5, tw_3_0, by decide, by decide, by decide +kernel⟩, tw_2_237, tw_2_238, tw_2_239⟩
theorem ck_X7_181 : ez_kV RX7 181 mX2_ofWish 1 := ⟨⟨tw_1_5, tw_3_54, by decide, by decide, by decide +kernel⟩, tw_3_51, tw_3_52, tw_3_53⟩
theorem ck_X7_189 : ez_kV RX7 189 mX2_ofSign 2 := ⟨⟨tw_1_5, tw_3_67, by decide, by decide, by decide +kernel⟩, tw_3_64, tw_3_65, tw_3_66⟩
theorem ck_X7_109 : ez_kV RX7 109 mX3_countSteps 0 := ⟨⟨tw_1_2, tw_3_79, by decide, by decide, by decide +kernel⟩, tw_3_76, tw_3_77, tw_3_78⟩
theorem ck_X7_200 : ez_kS RX7 200 mJ6_bitCount_0f7a4 1 := ⟨⟨tw_1_17, tw_3_82, by decide, by decide, by decide +kernel⟩, tw_3_86, tw_3_81⟩
theorem ck_X7_205 : ez_kV RX7 205 mX3_allWorlds 0 := ⟨⟨tw_1_2, tw_2_223, by decide, by decide, by decide +kernel⟩, tw_3_87, tw_2_221, tw_2_222⟩
theorem ck_X7_208 : ez_kV RX7 208 mX3_countWishes 0 := ⟨⟨tw_1_2, tw_3_91, by decide, by decide, by decide +kernel⟩, tw_3_88, tw_3_89, tw_3_90⟩
theorem ck_X7_211 : ez_kV RX7 211 mX3_countSigns 0 := ⟨⟨tw_1_2, tw_3_95, by decide, by decide, by decide +kernel⟩, tw_3_92, tw_3_93, tw_3_94⟩
theorem ck_X7_214 : ez_kV RX7 214 mX7_worldsOfAllWishes 0 := ⟨⟨tw_1_1, tw_3_99, by decide, by decide, by decide +kernel⟩, tw_3_96, tw_3_98, ts_1_12⟩
theorem ck_X7_230 : ez_kV RX7 230 mX5_worldsIfFair 3 := ⟨⟨tw_1_8, tw_3_107, by decide, by decide, by decide +kernel⟩, tw_3_104, tw_3_105, tw_3_106⟩
theorem ck_X7_274 : ez_kV RX7 274 mX3_hasWorld 1 := ⟨⟨tw_1_2, tw_2_194, by decide, by decide, by decide +kernel⟩, tw_2_191, tw_2_192, tw_2_193⟩
theorem ck_L_10 : ez_kS RL 10 mL_low 2 := ⟨⟨tw_1_0, tw_3_127, by decide, by decide, by decide +kernel⟩, tw_3_125, tw_3_126⟩
theorem ck_L_16 : ez_kS RL 16 mL_cell 2 := ⟨⟨tw_1_0, tw_3_122, by decide, by decide, by decide +kernel⟩, tw_3_120, tw_3_121⟩
theorem ck_L_20 : ez_kS RL 20 mL_way 3 := ⟨⟨tw_1_0, tw_3_134, by decide, by decide, by decide +kernel⟩, tw_3_132, tw_3_133⟩
theorem ck_L_24 : ez_kS RL 24 mL_sign 3 := ⟨⟨tw_1_0, tw_3_137, by decide, by decide, by decide +kernel⟩, tw_3_135, tw_3_136⟩
theorem ck_L_27 : ez_kV RL 27 mX7_append 1 := ⟨⟨tw_1_1, tw_3_141, by decide, by decide, by decide +kernel⟩, tw_3_138, tw_3_139, tw_3_140⟩
theorem ck_L_33 : ez_kV RL 33 mX7_addWorld 1 := ⟨⟨tw_1_1, tw_3_154, by decide, by decide, by decide +kernel⟩, tw_3_151, tw_3_152, tw_3_153⟩
theorem ck_L_36 : ez_kV RL 36 mX7_world 2 := ⟨⟨tw_1_1, tw_2_186, by decide, by decide, by decide +kernel⟩, tw_2_183, tw_2_184, tw_2_185⟩
theorem ck_L_39 : ez_kV RL 39 mX7_step 2 := ⟨⟨tw_1_1, tw_3_164, by decide, by decide, by decide +kernel⟩, tw_3_161, tw_3_162, tw_3_163⟩
theorem ck_L_42 : ez_kV RL 42 mX7_fair 1 := ⟨⟨tw_1_1, tw_1_223, by decide, by decide, by decide +kernel⟩, tw_1_220, tw_1_221, tw_1_222⟩
theorem ck_L_45 : ez_kV RL 45 mX7_count 1 := ⟨⟨tw_1_1, tw_3_75, by decide, by decide, by decide +kernel⟩, tw_3_72, tw_3_73, tw_3_74⟩
theorem ck_L_48 : ez_kS RL 48 mL_reached 3 := ⟨⟨tw_1_0, tw_3_178, by decide, by decide, by decide +kernel⟩, tw_3_176, tw_3_177⟩
theorem ck_L_52 : ez_kS RL 52 mL_into 2 := ⟨⟨tw_1_0, tw_3_172, by decide, by decide, by decide +kernel⟩, tw_3_170, tw_3_171⟩
theorem ck_L_56 : ez_kS RL 56 mL_comes 4 := ⟨⟨tw_1_0, tw_3_190, by decide, by decide, by decide +kernel⟩, tw_3_188, tw_3_189⟩
theorem ck_L_60 : ez_kS RL 60 mL_stays 2 := ⟨⟨tw_1_0, tw_3_175, by decide, by decide, by decide +kernel⟩, tw_3_173, tw_3_174⟩
theorem ck_L_63 : ez_kV RL 63 mX7_sign 3 := ⟨⟨tw_1_1, tw_3_62, by decide, by decide, by decide +kernel⟩, tw_3_59, tw_3_60, tw_3_61⟩
theorem ck_L_64 : ez_kS RL 64 mL_due 6 := ⟨⟨tw_1_0, tw_3_187, by decide, by decide, by decide +kernel⟩, tw_3_185, tw_3_186⟩
theorem ck_L_68 : ez_kV RL 68 mX7_wish 2 := ⟨⟨tw_1_1, tw_3_50, by decide, by decide, by decide +kernel⟩, tw_3_47, tw_3_48, tw_3_49⟩
theorem ck_L_71 : ez_kS RL 71 mL_isPart 4 := ⟨⟨tw_1_0, tw_3_184, by decide, by decide, by decide +kernel⟩, tw_3_182, tw_3_183⟩
theorem ck_L_75 : ez_kI RL 75 mX7_init 0 := ⟨⟨tw_1_1, tw_1_22, by decide, by decide, by decide +kernel⟩, tw_1_20, tw_1_21, by rfl⟩
theorem ck_L_76 : ez_kS RL 76 mL_build 3 := ⟨⟨tw_1_0, tw_3_150, by decide, by decide, by decide +kernel⟩, tw_3_148, tw_3_149⟩
theorem ck_L_80 : ez_kS RL 80 mL_write 4 := ⟨⟨tw_1_0, tw_3_131, by decide, by decide, by decide +kernel⟩, tw_3_129, tw_3_130⟩
theorem ck_L_84 : ez_kV RL 84 mX7_firstError 0 := ⟨⟨tw_1_1, tw_2_69, by decide, by decide, by decide +kernel⟩, tw_2_66, tw_2_67, tw_2_68⟩
theorem ck_L_88 : ez_kV RL 88 mX7_read 1 := ⟨⟨tw_1_1, tw_2_97, by decide, by decide, by decide +kernel⟩, tw_2_94, tw_2_95, tw_2_96⟩
theorem ck_L_91 : ez_kS RL 91 mL_isWish 3 := ⟨⟨tw_1_0, tw_3_181, by decide, by decide, by decide +kernel⟩, tw_3_179, tw_3_180⟩
theorem ck_L_95 : ez_kV RL 95 mX7_negate 1 := ⟨⟨tw_1_1, tw_2_143, by decide, by decide, by decide +kernel⟩, tw_2_140, tw_2_141, tw_2_142⟩
theorem ck_L_98 : ez_kV RL 98 mX7_undo 0 := ⟨⟨tw_1_1, tw_2_177, by decide, by decide, by decide +kernel⟩, tw_2_174, tw_2_175, tw_2_176⟩
theorem ck_L_101 : ez_kV RL 101 mX7_ifFair 2 := ⟨⟨tw_1_1, tw_3_103, by decide, by decide, by decide +kernel⟩, tw_3_100, tw_3_101, tw_3_102⟩
theorem ck_L_104 : ez_kV RL 104 mX7_compare 2 := ⟨⟨tw_1_1, tw_3_71, by decide, by decide, by decide +kernel⟩, tw_3_68, tw_3_69, tw_3_70⟩
theorem ck_L_107 : ez_kV RL 107 mX7_fulfilled 0 := ⟨⟨tw_1_1, tw_3_119, by decide, by decide, by decide +kernel⟩, tw_3_116, tw_3_117, tw_3_118⟩
theorem ez_tI : ez_T (.arrayClass .int) := tw_1_55
theorem ez_tC : ez_T (.arrayClass .char) := tw_1_56
theorem ez_tS : Cond.arrayOver (.object "FutureWishes$State") ∈ lw_tbl := (List.mem_append_right _ (List.mem_append_left _ (List.mem_of_getElem? (i := 64) rfl)))
theorem ez_in0 : ez_T (.instantiable (ez_cl 0).1 (ez_cl 0).2.2) := tw_1_105
theorem ez_ii0 : ez_T (.initialized (ez_cl 0).1) := tw_1_6
theorem ez_in1 : ez_T (.instantiable (ez_cl 1).1 (ez_cl 1).2.2) := tw_1_58
theorem ez_ii1 : ez_T (.initialized (ez_cl 1).1) := tw_1_3
theorem ez_in2 : ez_T (.instantiable (ez_cl 2).1 (ez_cl 2).2.2) := tw_1_99
theorem ez_ii2 : ez_T (.initialized (ez_cl 2).1) := tw_1_5
theorem ez_in3 : ez_T (.instantiable (ez_cl 3).1 (ez_cl 3).2.2) := tw_1_27
theorem ez_ii3 : ez_T (.initialized (ez_cl 3).1) := tw_1_2
theorem ez_in4 : ez_T (.instantiable (ez_cl 4).1 (ez_cl 4).2.2) := tw_1_78
theorem ez_ii4 : ez_T (.initialized (ez_cl 4).1) := tw_1_4
theorem ez_in5 : ez_T (.instantiable (ez_cl 5).1 (ez_cl 5).2.2) := tw_1_179
theorem ez_ii5 : ez_T (.initialized (ez_cl 5).1) := tw_1_8
theorem ez_in6 : ez_T (.instantiable (ez_cl 6).1 (ez_cl 6).2.2) := tw_1_157
theorem ez_ii6 : ez_T (.initialized (ez_cl 6).1) := tw_1_7
theorem ez_in7 : ez_T (.instantiable (ez_cl 7).1 (ez_cl 7).2.2) := tw_1_19
theorem ez_ii7 : ez_T (.initialized (ez_cl 7).1) := tw_1_1
theorem cl_L_28 : ez_T (.classLink RL 28 "FutureWishes") := tw_1_18
theorem oi_X7 : ez_T (.methodLink RX7 1 objectInit) := tw_1_23
theorem oi_i : ez_T (.instanceMethod objectInit) := tw_1_24
theorem oi_c : ez_T (.code objectInit ⟨#[0xb1]⟩ 1 none) := tw_1_25
theorem cl_X7_7 : ez_T (.classLink RX7 7 "FutureWishes$State") := tw_1_26
theorem oi_X3 : ez_T (.methodLink RX3 3 objectInit) := tw_1_31
theorem cl_X7_16 : ez_T (.classLink RX7 16 "FutureWishes$History") := tw_1_57
theorem oi_X1 : ez_T (.methodLink RX1 3 objectInit) := tw_1_62
theorem cl_X1_18 : ez_T (.classLink RX1 18 "FutureWishes$State") := tw_1_63
theorem cl_X7_23 : ez_T (.classLink RX7 23 "FutureWishes$Text") := tw_1_77
theorem oi_X4 : ez_T (.methodLink RX4 3 objectInit) := tw_1_82
theorem cl_X7_30 : ez_T (.classLink RX7 30 "FutureWishes$Meaning") := tw_1_98
theorem oi_X2 : ez_T (.methodLink RX2 3 objectInit) := tw_1_103
theorem cl_X2_36 : ez_T (.classLink RX2 36 "FutureWishes$Futures") := tw_1_104
theorem oi_X0 : ez_T (.methodLink RX0 3 objectInit) := tw_1_109
theorem cl_X7_39 : ez_T (.classLink RX7 39 "FutureWishes$Witness") := tw_1_156
theorem oi_X6 : ez_T (.methodLink RX6 3 objectInit) := tw_1_161
theorem cl_X7_48 : ez_T (.classLink RX7 48 "FutureWishes$Trial") := tw_1_178
theorem oi_X5 : ez_T (.methodLink RX5 3 objectInit) := tw_1_183
theorem cl_X5_18 : ez_T (.classLink RX5 18 "FutureWishes$State") := tw_1_184
theorem cl_X5_25 : ez_T (.classLink RX5 25 "FutureWishes$Meaning") := tw_1_186
theorem cl_X7_55 : ez_T (.classLink RX7 55 "java/lang/IllegalArgumentException") := tw_1_227
theorem cl_X7_184 : ez_T (.classLink RX7 184 "java/lang/IndexOutOfBoundsException") := tw_2_101
theorem cl_X7_66 : ez_T (.classLink RX7 66 "java/lang/IllegalStateException") := tw_2_149
theorem ct_J6_265 : ez_T (.constant RJ6 265 (1431655765 : Int32)) := tw_3_83
theorem ct_J6_266 : ez_T (.constant RJ6 266 (858993459 : Int32)) := tw_3_84
theorem ct_J6_267 : ez_T (.constant RJ6 267 (252645135 : Int32)) := tw_3_85
theorem ct_L_7 : ez_T (.constant RL 7 (32452867 : Int32)) := tw_3_123
theorem ct_L_8 : ez_T (.constant RL 8 (49979687 : Int32)) := tw_3_124
theorem ct_L_9 : ez_T (.constant RL 9 (2147483647 : Int32)) := tw_3_128
theorem cs_IA : Cond.castable ez_IA ez_IA ∈ lw_tbl := (List.mem_append_right _ (List.mem_append_left _ (List.mem_of_getElem? (i := 229) rfl)))
theorem cs_IS : Cond.castable ez_IS ez_IS ∈ lw_tbl := (List.mem_append_right _ (List.mem_append_right _ (List.mem_append_left _ (List.mem_of_getElem? (i := 151) rfl))))
theorem cs_IO : Cond.castable ez_IO ez_IO ∈ lw_tbl := (List.mem_append_right _ (List.mem_append_right _ (List.mem_append_left _ (List.mem_of_getElem? (i := 103) rfl))))
end
section
theorem tx_55_59 : ez_tw RX7 "java/lang/IllegalArgumentException" 55 59 = true := by decide +kernel
theorem tx_66_70 : ez_tw RX7 "java/lang/IllegalStateException" 66 70 = true := by decide +kernel
theorem tx_184_188 : ez_tw RX7 "java/lang/IndexOutOfBoundsException" 184 188 = true := by decide +kernel
end
section
def bI (b : Bool) : Int32 := if b then 1 else 0
theorem bI_t : bI true = nI 1 := by decide
theorem bI_f : bI false = nI 0 := by decide
theorem bI_nar (b : Bool) : narrow .boolean (.int (bI b)) = .int (bI b) := by cases b <;> rfl
theorem bI_0 {b : Bool} : bI b = 0 ↔ b = false := by cases b <;> decide
/-- the bits of a that b has not -/
def ndN (a b : Nat) : Nat := a ^^^ (a &&& b)
theorem ndN_bit (a b i : Nat) : (ndN a b).testBit i = (a.testBit i && !b.testBit i) := by
  rw [ndN, Nat.testBit_xor, Nat.testBit_and]
  cases a.testBit i <;> cases b.testBit i <;> rfl
theorem nI_bv (a : Nat) : (nI a).toBitVec = BitVec.ofNat 32 a := rfl
theorem nI_ext {a b : Int32} (h : a.toBitVec = b.toBitVec) : a = b := Int32.toBitVec_inj.mp h
theorem nI_and (a b : Nat) : nI a &&& nI b = nI (a &&& b) := by
  apply nI_ext
  rw [Int32.toBitVec_and, nI_bv, nI_bv, nI_bv, BitVec.ofNat_and]
theorem nI_or (a b : Nat) : nI a ||| nI b = nI (a ||| b) := by
  apply nI_ext
  rw [Int32.toBitVec_or, nI_bv, nI_bv, nI_bv, BitVec.ofNat_or]
theorem nI_xor (a b : Nat) : nI a ^^^ nI b = nI (a ^^^ b) := by
  apply nI_ext
  rw [Int32.toBitVec_xor, nI_bv, nI_bv, nI_bv, BitVec.ofNat_xor]
theorem nI_nd (a b : Nat) : nI a &&& (nI b ^^^ (-1)) = nI (ndN a b) := by
  apply nI_ext
  have h1 : ((-1 : Int32)).toBitVec = BitVec.allOnes 32 := by decide
  rw [Int32.toBitVec_and, Int32.toBitVec_xor, nI_bv, nI_bv, nI_bv, h1]
  apply BitVec.eq_of_getLsbD_eq
  intro i hi
  simp only [BitVec.getLsbD_and, BitVec.getLsbD_xor, BitVec.getLsbD_ofNat, BitVec.getLsbD_allOnes, ndN_bit, hi, decide_true, Bool.true_and]
  cases a.testBit i <;> cases b.testBit i <;> rfl
theorem nI_mul (a b : Nat) : nI a * nI b = nI (a * b) := by
  apply nI_ext
  rw [Int32.toBitVec_mul, nI_bv, nI_bv, nI_bv, BitVec.ofNat_mul]
theorem nI_sub {a b : Nat} (h : b ≤ a) : nI a - nI b = nI (a - b) := by
  have h1 : nI a = nI (a - b) + nI b := by rw [nI_add]; congr 1; omega
  rw [h1]
  apply nI_ext
  rw [Int32.toBitVec_sub, Int32.toBitVec_add, BitVec.add_sub_cancel]
theorem nI_31 {b : Nat} (h : b < 32) : nI b &&& 31 = nI b := by
  have h1 : (31 : Int32) = nI 31 := by decide
  rw [h1, nI_and]
  congr 1
  have : 31 = 2 ^ 5 - 1 := by decide
  rw [this, Nat.and_two_pow_sub_one_eq_mod]
  omega
theorem nI_shl {a b : Nat} (h : b < 32) : nI a <<< (nI b &&& 31) = nI (a * 2 ^ b) := by
  rw [nI_31 h]
  apply nI_ext
  have e : nI a <<< nI b = (⟨⟨(nI a).toBitVec <<< ((nI b).toBitVec.smod 32)⟩⟩ : Int32) := rfl
  rw [e]
  show (BitVec.ofNat 32 a) <<< ((BitVec.ofNat 32 b).smod 32) = BitVec.ofNat 32 (a * 2 ^ b)
  have h2 : (BitVec.ofNat 32 b).smod 32 = BitVec.ofNat 32 b := by
    have h3 : ∀ b, b < 32 → (BitVec.ofNat 32 b).smod 32 = BitVec.ofNat 32 b := by decide +kernel
    exact h3 b h
  rw [h2]
  apply BitVec.eq_of_toNat_eq
  rw [BitVec.shiftLeft_eq', BitVec.toNat_shiftLeft]
  simp only [BitVec.toNat_ofNat, Nat.shiftLeft_eq]
  rw [Nat.mod_eq_of_lt (show b < 2 ^ 32 by omega)]
  exact Nat.mod_mul_mod a (2 ^ b) (2 ^ 32)
theorem nI_shr {a b : Nat} (ha : a < 2 ^ 31) (h : b < 32) : nI a >>> (nI b &&& 31) = nI (a >>> b) := by
  rw [nI_31 h]
  apply nI_ext
  show (BitVec.ofNat 32 a).sshiftRight' ((BitVec.ofNat 32 b).smod 32) = BitVec.ofNat 32 (a >>> b)
  have h2 : (BitVec.ofNat 32 b).smod 32 = BitVec.ofNat 32 b := by
    have h3 : ∀ b, b < 32 → (BitVec.ofNat 32 b).smod 32 = BitVec.ofNat 32 b := by decide +kernel
    exact h3 b h
  rw [h2]
  have hm : (BitVec.ofNat 32 a).msb = false := by
    rw [BitVec.msb_eq_false_iff_two_mul_lt]
    simp only [BitVec.toNat_ofNat]
    omega
  apply BitVec.eq_of_toNat_eq
  rw [BitVec.sshiftRight', BitVec.sshiftRight_eq_of_msb_false hm]
  simp only [BitVec.toNat_ushiftRight, BitVec.toNat_ofNat]
  rw [Nat.mod_eq_of_lt (show b < 2 ^ 32 by omega), Nat.mod_eq_of_lt (show a < 2 ^ 32 by omega), Nat.mod_eq_of_lt]
  exact Nat.lt_of_le_of_lt (by rw [Nat.shiftRight_eq_div_pow]; exact Nat.div_le_self _ _) (show a < 2 ^ 32 by omega)
theorem nI_div {a b : Nat} (ha : a < 2 ^ 31) (hb : b < 2 ^ 31) : nI a / nI b = nI (a / b) := by
  have h1 : (nI a / nI b).toInt = (nI (a / b)).toInt := by
    rw [Int32.toInt_div_of_ne_left, nI_toInt ha, nI_toInt hb, nI_toInt (Nat.lt_of_le_of_lt (Nat.div_le_self _ _) ha)]
    · rfl
    · intro h
      have h2 := congrArg Int32.toInt h
      rw [nI_toInt ha] at h2
      have h3 : Int32.minValue.toInt = -2147483648 := by decide
      rw [h3] at h2
      omega
  exact Int32.toInt_inj.mp h1
theorem nI_rem {a b : Nat} (ha : a < 2 ^ 31) (hb : b < 2 ^ 31) : nI a - nI a / nI b * nI b = nI (a % b) := by
  have h2 : a / b * b ≤ a := Nat.div_mul_le_self a b
  rw [nI_div ha hb, nI_mul, nI_sub h2]
  congr 1
  have := Nat.div_add_mod a b
  rw [Nat.mul_comm] at this
  omega
theorem ez_top {G : ez_G} {M : ez_M} {d : Nat} {Q : ez_Q} {h : ez_H} {n mc ms pc : Nat} {ls : List (Option Value)} {st : List Value} {x y : Int32} (e : x = y) (k : E G M d Q h n mc ms pc ls (.int y :: st)) : E G M d Q h n mc ms pc ls (.int x :: st) := by subst e; exact k
theorem ez_topl {G : ez_G} {M : ez_M} {d : Nat} {Q : ez_Q} {h : ez_H} {n mc ms pc : Nat} {ls : List (Option Value)} {st : List Value} {x y : Int64} (e : x = y) (k : E G M d Q h n mc ms pc ls (.long y :: st)) : E G M d Q h n mc ms pc ls (.long x :: st) := by subst e; exact k
theorem ez_iaddN {G : ez_G} {M : ez_M} {d : Nat} {Q : ez_Q} {h : ez_H} {n mc ms pc q : Nat} {ls : List (Option Value)} {st : List Value} {a b : Nat} (hd : decode M.2.1 pc = .ok (.iadd, 1)) (hq : pc + 1 = q) (k : E G M d Q h n mc ms q ls (.int (nI (a + b)) :: st)) : E G M d Q h n mc ms pc ls (.int (nI b) :: .int (nI a) :: st) := ez_iadd hd hq (ez_top (nI_add a b) k)
theorem ez_isubN {G : ez_G} {M : ez_M} {d : Nat} {Q : ez_Q} {h : ez_H} {n mc ms pc q : Nat} {ls : List (Option Value)} {st : List Value} {a b : Nat} (hd : decode M.2.1 pc = .ok (.isub, 1)) (h1 : b ≤ a) (hq : pc + 1 = q) (k : E G M d Q h n mc ms q ls (.int (nI (a - b)) :: st)) : E G M d Q h n mc ms pc ls (.int (nI b) :: .int (nI a) :: st) := ez_isub hd hq (ez_top (nI_sub h1) k)
theorem ez_imulN {G : ez_G} {M : ez_M} {d : Nat} {Q : ez_Q} {h : ez_H} {n mc ms pc q : Nat} {ls : List (Option Value)} {st : List Value} {a b : Nat} (hd : decode M.2.1 pc = .ok (.imul, 1)) (hq : pc + 1 = q) (k : E G M d Q h n mc ms q ls (.int (nI (a * b)) :: st)) : E G M d Q h n mc ms pc ls (.int (nI b) :: .int (nI a) :: st) := ez_imul hd hq (ez_top (nI_mul a b) k)
theorem ez_iandN {G : ez_G} {M : ez_M} {d : Nat} {Q : ez_Q} {h : ez_H} {n mc ms pc q : Nat} {ls : List (Option Value)} {st : List Value} {a b : Nat} (hd : decode M.2.1 pc = .ok (.iand, 1)) (hq : pc + 1 = q) (k : E G M d Q h n mc ms q ls (.int (nI (a &&& b)) :: st)) : E G M d Q h n mc ms pc ls (.int (nI b) :: .int (nI a) :: st) := ez_iand hd hq (ez_top (nI_and a b) k)
theorem ez_iorN {G : ez_G} {M : ez_M} {d : Nat} {Q : ez_Q} {h : ez_H} {n mc ms pc q : Nat} {ls : List (Option Value)} {st : List Value} {a b : Nat} (hd : decode M.2.1 pc = .ok (.ior, 1)) (hq : pc + 1 = q) (k : E G M d Q h n mc ms q ls (.int (nI (a ||| b)) :: st)) : E G M d Q h n mc ms pc ls (.int (nI b) :: .int (nI a) :: st) := ez_ior hd hq (ez_top (nI_or a b) k)
theorem ez_ixorN {G : ez_G} {M : ez_M} {d : Nat} {Q : ez_Q} {h : ez_H} {n mc ms pc q : Nat} {ls : List (Option Value)} {st : List Value} {a b : Nat} (hd : decode M.2.1 pc = .ok (.ixor, 1)) (hq : pc + 1 = q) (k : E G M d Q h n mc ms q ls (.int (nI (a ^^^ b)) :: st)) : E G M d Q h n mc ms pc ls (.int (nI b) :: .int (nI a) :: st) := ez_ixor hd hq (ez_top (nI_xor a b) k)
theorem ez_ishlN {G : ez_G} {M : ez_M} {d : Nat} {Q : ez_Q} {h : ez_H} {n mc ms pc q : Nat} {ls : List (Option Value)} {st : List Value} {a b : Nat} (hd : decode M.2.1 pc = .ok (.ishl, 1)) (h1 : b < 32) (hq : pc + 1 = q) (k : E G M d Q h n mc ms q ls (.int (nI (a * 2 ^ b)) :: st)) : E G M d Q h n mc ms pc ls (.int (nI b) :: .int (nI a) :: st) := ez_ishl hd hq (ez_top (nI_shl h1) k)
theorem ez_ishrN {G : ez_G} {M : ez_M} {d : Nat} {Q : ez_Q} {h : ez_H} {n mc ms pc q : Nat} {ls : List (Option Value)} {st : List Value} {a b : Nat} (hd : decode M.2.1 pc = .ok (.ishr, 1)) (h1 : a < 2 ^ 31) (h2 : b < 32) (hq : pc + 1 = q) (k : E G M d Q h n mc ms q ls (.int (nI (a >>> b)) :: st)) : E G M d Q h n mc ms pc ls (.int (nI b) :: .int (nI a) :: st) := ez_ishr hd hq (ez_top (nI_shr h1 h2) k)
theorem ez_iremN {G : ez_G} {M : ez_M} {d : Nat} {Q : ez_Q} {h : ez_H} {n mc ms pc q : Nat} {ls : List (Option Value)} {st : List Value} {a b : Nat} (hd : decode M.2.1 pc = .ok (.irem, 1)) (h1 : a < 2 ^ 31) (h2 : b < 2 ^ 31) (h3 : 0 < b) (hq : pc + 1 = q) (k : E G M d Q h n mc ms q ls (.int (nI (a % b)) :: st)) : E G M d Q h n mc ms pc ls (.int (nI b) :: .int (nI a) :: st) := ez_irem hd (nI_ne0 h3 h2) hq (ez_top (nI_rem h1 h2) k)
theorem ez_shl1 {G : ez_G} {M : ez_M} {d : Nat} {Q : ez_Q} {h : ez_H} {n mc ms pc q : Nat} {ls : List (Option Value)} {st : List Value} {b : Nat} (hd : decode M.2.1 pc = .ok (.ishl, 1)) (h1 : b < 32) (hq : pc + 1 = q) (k : E G M d Q h n mc ms q ls (.int (nI (2 ^ b)) :: st)) : E G M d Q h n mc ms pc ls (.int (nI b) :: .int (nI 1) :: st) := ez_ishl hd hq (ez_top ((nI_shl h1).trans (by rw [Nat.one_mul])) k)
theorem ez_iandX {G : ez_G} {M : ez_M} {d : Nat} {Q : ez_Q} {h : ez_H} {n mc ms pc q : Nat} {ls : List (Option Value)} {st : List Value} {a b : Nat} (hd : decode M.2.1 pc = .ok (.iand, 1)) (hq : pc + 1 = q) (k : E G M d Q h n mc ms q ls (.int (nI (ndN a b)) :: st)) : E G M d Q h n mc ms pc ls (.int (nI b ^^^ (-1)) :: .int (nI a) :: st) := ez_iand hd hq (ez_top (nI_nd a b) k)
theorem ez_iincN_0 {G : ez_G} {M : ez_M} {d : Nat} {Q : ez_Q} {h : ez_H} {n mc ms pc q : Nat} {st : List Value} {r : List (Option Value)} {a : Nat} (hd : decode M.2.1 pc = .ok (.iinc 0 1, 3)) (hn : 0 < M.2.2.1) (hq : pc + 3 = q) (k : E G M d Q h n mc ms q (some (.int (nI (a + 1))) :: r) st) : E G M d Q h n mc ms pc (some (.int (nI a)) :: r) st := ez_iinc_0 hd (nI_1 a) hn hq k
theorem ez_idecN_0 {G : ez_G} {M : ez_M} {d : Nat} {Q : ez_Q} {h : ez_H} {n mc ms pc q : Nat} {st : List Value} {r : List (Option Value)} {a : Nat} (hd : decode M.2.1 pc = .ok (.iinc 0 (-1), 3)) (h1 : 1 ≤ a) (hn : 0 < M.2.2.1) (hq : pc + 3 = q) (k : E G M d Q h n mc ms q (some (.int (nI (a - 1))) :: r) st) : E G M d Q h n mc ms pc (some (.int (nI a)) :: r) st := ez_iinc_0 hd ((show nI a + Int32.ofInt (-1) = nI a - nI 1 from by rw [Int32.sub_eq_add_neg]; rfl).trans (nI_sub h1)) hn hq k
theorem ez_iincN_1 {G : ez_G} {M : ez_M} {d : Nat} {Q : ez_Q} {h : ez_H} {n mc ms pc q : Nat} {st : List Value} {x0 : Option Value} {r : List (Option Value)} {a : Nat} (hd : decode M.2.1 pc = .ok (.iinc 1 1, 3)) (hn : 1 < M.2.2.1) (hc1 : ez_c1 x0 = true) (hq : pc + 3 = q) (k : E G M d Q h n mc ms q (x0 :: some (.int (nI (a + 1))) :: r) st) : E G M d Q h n mc ms pc (x0 :: some (.int (nI a)) :: r) st := ez_iinc_1 hd (nI_1 a) hn hc1 hq k
theorem ez_idecN_1 {G : ez_G} {M : ez_M} {d : Nat} {Q : ez_Q} {h : ez_H} {n mc ms pc q : Nat} {st : List Value} {x0 : Option Value} {r : List (Option Value)} {a : Nat} (hd : decode M.2.1 pc = .ok (.iinc 1 (-1), 3)) (h1 : 1 ≤ a) (hn : 1 < M.2.2.1) (hc1 : ez_c1 x0 = true) (hq : pc + 3 = q) (k : E G M d Q h n mc ms q (x0 :: some (.int (nI (a - 1))) :: r) st) : E G M d Q h n mc ms pc (x0 :: some (.int (nI a)) :: r) st := ez_iinc_1 hd ((show nI a + Int32.ofInt (-1) = nI a - nI 1 from by rw [Int32.sub_eq_add_neg]; rfl).trans (nI_sub h1)) hn hc1 hq k
theorem ez_iincN_2 {G : ez_G} {M : ez_M} {d : Nat} {Q : ez_Q} {h : ez_H} {n mc ms pc q : Nat} {st : List Value} {x0 x1 : Option Value} {r : List (Option Value)} {a : Nat} (hd : decode M.2.1 pc = .ok (.iinc 2 1, 3)) (hn : 2 < M.2.2.1) (hc1 : ez_c1 x1 = true) (hq : pc + 3 = q) (k : E G M d Q h n mc ms q (x0 :: x1 :: some (.int (nI (a + 1))) :: r) st) : E G M d Q h n mc ms pc (x0 :: x1 :: some (.int (nI a)) :: r) st := ez_iinc_2 hd (nI_1 a) hn hc1 hq k
theorem ez_idecN_2 {G : ez_G} {M : ez_M} {d : Nat} {Q : ez_Q} {h : ez_H} {n mc ms pc q : Nat} {st : List Value} {x0 x1 : Option Value} {r : List (Option Value)} {a : Nat} (hd : decode M.2.1 pc = .ok (.iinc 2 (-1), 3)) (h1 : 1 ≤ a) (hn : 2 < M.2.2.1) (hc1 : ez_c1 x1 = true) (hq : pc + 3 = q) (k : E G M d Q h n mc ms q (x0 :: x1 :: some (.int (nI (a - 1))) :: r) st) : E G M d Q h n mc ms pc (x0 :: x1 :: some (.int (nI a)) :: r) st := ez_iinc_2 hd ((show nI a + Int32.ofInt (-1) = nI a - nI 1 from by rw [Int32.sub_eq_add_neg]; rfl).trans (nI_sub h1)) hn hc1 hq k
theorem ez_iincN_3 {G : ez_G} {M : ez_M} {d : Nat} {Q : ez_Q} {h : ez_H} {n mc ms pc q : Nat} {st : List Value} {x0 x1 x2 : Option Value} {r : List (Option Value)} {a : Nat} (hd : decode M.2.1 pc = .ok (.iinc 3 1, 3)) (hn : 3 < M.2.2.1) (hc1 : ez_c1 x2 = true) (hq : pc + 3 = q) (k : E G M d Q h n mc ms q (x0 :: x1 :: x2 :: some (.int (nI (a + 1))) :: r) st) : E G M d Q h n mc ms pc (x0 :: x1 :: x2 :: some (.int (nI a)) :: r) st := ez_iinc_3 hd (nI_1 a) hn hc1 hq k
theorem ez_idecN_3 {G : ez_G} {M : ez_M} {d : Nat} {Q : ez_Q} {h : ez_H} {n mc ms pc q : Nat} {st : List Value} {x0 x1 x2 : Option Value} {r : List (Option Value)} {a : Nat} (hd : decode M.2.1 pc = .ok (.iinc 3 (-1), 3)) (h1 : 1 ≤ a) (hn : 3 < M.2.2.1) (hc1 : ez_c1 x2 = true) (hq : pc + 3 = q) (k : E G M d Q h n mc ms q (x0 :: x1 :: x2 :: some (.int (nI (a - 1))) :: r) st) : E G M d Q h n mc ms pc (x0 :: x1 :: x2 :: some (.int (nI a)) :: r) st := ez_iinc_3 hd ((show nI a + Int32.ofInt (-1) = nI a - nI 1 from by rw [Int32.sub_eq_add_neg]; rfl).trans (nI_sub h1)) hn hc1 hq k
theorem ez_iincN_4 {G : ez_G} {M : ez_M} {d : Nat} {Q : ez_Q} {h : ez_H} {n mc ms pc q : Nat} {st : List Value} {x0 x1 x2 x3 : Option Value} {r : List (Option Value)} {a : Nat} (hd : decode M.2.1 pc = .ok (.iinc 4 1, 3)) (hn : 4 < M.2.2.1) (hc1 : ez_c1 x3 = true) (hq : pc + 3 = q) (k : E G M d Q h n mc ms q (x0 :: x1 :: x2 :: x3 :: some (.int (nI (a + 1))) :: r) st) : E G M d Q h n mc ms pc (x0 :: x1 :: x2 :: x3 :: some (.int (nI a)) :: r) st := ez_iinc_4 hd (nI_1 a) hn hc1 hq k
theorem ez_idecN_4 {G : ez_G} {M : ez_M} {d : Nat} {Q : ez_Q} {h : ez_H} {n mc ms pc q : Nat} {st : List Value} {x0 x1 x2 x3 : Option Value} {r : List (Option Value)} {a : Nat} (hd : decode M.2.1 pc = .ok (.iinc 4 (-1), 3)) (h1 : 1 ≤ a) (hn : 4 < M.2.2.1) (hc1 : ez_c1 x3 = true) (hq : pc + 3 = q) (k : E G M d Q h n mc ms q (x0 :: x1 :: x2 :: x3 :: some (.int (nI (a - 1))) :: r) st) : E G M d Q h n mc ms pc (x0 :: x1 :: x2 :: x3 :: some (.int (nI a)) :: r) st := ez_iinc_4 hd ((show nI a + Int32.ofInt (-1) = nI a - nI 1 from by rw [Int32.sub_eq_add_neg]; rfl).trans (nI_sub h1)) hn hc1 hq k
theorem ez_iincN_5 {G : ez_G} {M : ez_M} {d : Nat} {Q : ez_Q} {h : ez_H} {n mc ms pc q : Nat} {st : List Value} {x0 x1 x2 x3 x4 : Option Value} {r : List (Option Value)} {a : Nat} (hd : decode M.2.1 pc = .ok (.iinc 5 1, 3)) (hn : 5 < M.2.2.1) (hc1 : ez_c1 x4 = true) (hq : pc + 3 = q) (k : E G M d Q h n mc ms q (x0 :: x1 :: x2 :: x3 :: x4 :: some (.int (nI (a + 1))) :: r) st) : E G M d Q h n mc ms pc (x0 :: x1 :: x2 :: x3 :: x4 :: some (.int (nI a)) :: r) st := ez_iinc_5 hd (nI_1 a) hn hc1 hq k
theorem ez_idecN_5 {G : ez_G} {M : ez_M} {d : Nat} {Q : ez_Q} {h : ez_H} {n mc ms pc q : Nat} {st : List Value} {x0 x1 x2 x3 x4 : Option Value} {r : List (Option Value)} {a : Nat} (hd : decode M.2.1 pc = .ok (.iinc 5 (-1), 3)) (h1 : 1 ≤ a) (hn : 5 < M.2.2.1) (hc1 : ez_c1 x4 = true) (hq : pc + 3 = q) (k : E G M d Q h n mc ms q (x0 :: x1 :: x2 :: x3 :: x4 :: some (.int (nI (a - 1))) :: r) st) : E G M d Q h n mc ms pc (x0 :: x1 :: x2 :: x3 :: x4 :: some (.int (nI a)) :: r) st := ez_iinc_5 hd ((show nI a + Int32.ofInt (-1) = nI a - nI 1 from by rw [Int32.sub_eq_add_neg]; rfl).trans (nI_sub h1)) hn hc1 hq k
theorem ez_iincN_6 {G : ez_G} {M : ez_M} {d : Nat} {Q : ez_Q} {h : ez_H} {n mc ms pc q : Nat} {st : List Value} {x0 x1 x2 x3 x4 x5 : Option Value} {r : List (Option Value)} {a : Nat} (hd : decode M.2.1 pc = .ok (.iinc 6 1, 3)) (hn : 6 < M.2.2.1) (hc1 : ez_c1 x5 = true) (hq : pc + 3 = q) (k : E G M d Q h n mc ms q (x0 :: x1 :: x2 :: x3 :: x4 :: x5 :: some (.int (nI (a + 1))) :: r) st) : E G M d Q h n mc ms pc (x0 :: x1 :: x2 :: x3 :: x4 :: x5 :: some (.int (nI a)) :: r) st := ez_iinc_6 hd (nI_1 a) hn hc1 hq k
theorem ez_idecN_6 {G : ez_G} {M : ez_M} {d : Nat} {Q : ez_Q} {h : ez_H} {n mc ms pc q : Nat} {st : List Value} {x0 x1 x2 x3 x4 x5 : Option Value} {r : List (Option Value)} {a : Nat} (hd : decode M.2.1 pc = .ok (.iinc 6 (-1), 3)) (h1 : 1 ≤ a) (hn : 6 < M.2.2.1) (hc1 : ez_c1 x5 = true) (hq : pc + 3 = q) (k : E G M d Q h n mc ms q (x0 :: x1 :: x2 :: x3 :: x4 :: x5 :: some (.int (nI (a - 1))) :: r) st) : E G M d Q h n mc ms pc (x0 :: x1 :: x2 :: x3 :: x4 :: x5 :: some (.int (nI a)) :: r) st := ez_iinc_6 hd ((show nI a + Int32.ofInt (-1) = nI a - nI 1 from by rw [Int32.sub_eq_add_neg]; rfl).trans (nI_sub h1)) hn hc1 hq k
theorem ez_iincN_7 {G : ez_G} {M : ez_M} {d : Nat} {Q : ez_Q} {h : ez_H} {n mc ms pc q : Nat} {st : List Value} {x0 x1 x2 x3 x4 x5 x6 : Option Value} {r : List (Option Value)} {a : Nat} (hd : decode M.2.1 pc = .ok (.iinc 7 1, 3)) (hn : 7 < M.2.2.1) (hc1 : ez_c1 x6 = true) (hq : pc + 3 = q) (k : E G M d Q h n mc ms q (x0 :: x1 :: x2 :: x3 :: x4 :: x5 :: x6 :: some (.int (nI (a + 1))) :: r) st) : E G M d Q h n mc ms pc (x0 :: x1 :: x2 :: x3 :: x4 :: x5 :: x6 :: some (.int (nI a)) :: r) st := ez_iinc_7 hd (nI_1 a) hn hc1 hq k
theorem ez_idecN_7 {G : ez_G} {M : ez_M} {d : Nat} {Q : ez_Q} {h : ez_H} {n mc ms pc q : Nat} {st : List Value} {x0 x1 x2 x3 x4 x5 x6 : Option Value} {r : List (Option Value)} {a : Nat} (hd : decode M.2.1 pc = .ok (.iinc 7 (-1), 3)) (h1 : 1 ≤ a) (hn : 7 < M.2.2.1) (hc1 : ez_c1 x6 = true) (hq : pc + 3 = q) (k : E G M d Q h n mc ms q (x0 :: x1 :: x2 :: x3 :: x4 :: x5 :: x6 :: some (.int (nI (a - 1))) :: r) st) : E G M d Q h n mc ms pc (x0 :: x1 :: x2 :: x3 :: x4 :: x5 :: x6 :: some (.int (nI a)) :: r) st := ez_iinc_7 hd ((show nI a + Int32.ofInt (-1) = nI a - nI 1 from by rw [Int32.sub_eq_add_neg]; rfl).trans (nI_sub h1)) hn hc1 hq k
theorem ez_iincN_8 {G : ez_G} {M : ez_M} {d : Nat} {Q : ez_Q} {h : ez_H} {n mc ms pc q : Nat} {st : List Value} {x0 x1 x2 x3 x4 x5 x6 x7 : Option Value} {r : List (Option Value)} {a : Nat} (hd : decode M.2.1 pc = .ok (.iinc 8 1, 3)) (hn : 8 < M.2.2.1) (hc1 : ez_c1 x7 = true) (hq : pc + 3 = q) (k : E G M d Q h n mc ms q (x0 :: x1 :: x2 :: x3 :: x4 :: x5 :: x6 :: x7 :: some (.int (nI (a + 1))) :: r) st) : E G M d Q h n mc ms pc (x0 :: x1 :: x2 :: x3 :: x4 :: x5 :: x6 :: x7 :: some (.int (nI a)) :: r) st := ez_iinc_8 hd (nI_1 a) hn hc1 hq k
theorem ez_idecN_8 {G : ez_G} {M : ez_M} {d : Nat} {Q : ez_Q} {h : ez_H} {n mc ms pc q : Nat} {st : List Value} {x0 x1 x2 x3 x4 x5 x6 x7 : Option Value} {r : List (Option Value)} {a : Nat} (hd : decode M.2.1 pc = .ok (.iinc 8 (-1), 3)) (h1 : 1 ≤ a) (hn : 8 < M.2.2.1) (hc1 : ez_c1 x7 = true) (hq : pc + 3 = q) (k : E G M d Q h n mc ms q (x0 :: x1 :: x2 :: x3 :: x4 :: x5 :: x6 :: x7 :: some (.int (nI (a - 1))) :: r) st) : E G M d Q h n mc ms pc (x0 :: x1 :: x2 :: x3 :: x4 :: x5 :: x6 :: x7 :: some (.int (nI a)) :: r) st := ez_iinc_8 hd ((show nI a + Int32.ofInt (-1) = nI a - nI 1 from by rw [Int32.sub_eq_add_neg]; rfl).trans (nI_sub h1)) hn hc1 hq k
theorem ez_iincN_9 {G : ez_G} {M : ez_M} {d : Nat} {Q : ez_Q} {h : ez_H} {n mc ms pc q : Nat} {st : List Value} {x0 x1 x2 x3 x4 x5 x6 x7 x8 : Option Value} {r : List (Option Value)} {a : Nat} (hd : decode M.2.1 pc = .ok (.iinc 9 1, 3)) (hn : 9 < M.2.2.1) (hc1 : ez_c1 x8 = true) (hq : pc + 3 = q) (k : E G M d Q h n mc ms q (x0 :: x1 :: x2 :: x3 :: x4 :: x5 :: x6 :: x7 :: x8 :: some (.int (nI (a + 1))) :: r) st) : E G M d Q h n mc ms pc (x0 :: x1 :: x2 :: x3 :: x4 :: x5 :: x6 :: x7 :: x8 :: some (.int (nI a)) :: r) st := ez_iinc_9 hd (nI_1 a) hn hc1 hq k
theorem ez_idecN_9 {G : ez_G} {M : ez_M} {d : Nat} {Q : ez_Q} {h : ez_H} {n mc ms pc q : Nat} {st : List Value} {x0 x1 x2 x3 x4 x5 x6 x7 x8 : Option Value} {r : List (Option Value)} {a : Nat} (hd : decode M.2.1 pc = .ok (.iinc 9 (-1), 3)) (h1 : 1 ≤ a) (hn : 9 < M.2.2.1) (hc1 : ez_c1 x8 = true) (hq : pc + 3 = q) (k : E G M d Q h n mc ms q (x0 :: x1 :: x2 :: x3 :: x4 :: x5 :: x6 :: x7 :: x8 :: some (.int (nI (a - 1))) :: r) st) : E G M d Q h n mc ms pc (x0 :: x1 :: x2 :: x3 :: x4 :: x5 :: x6 :: x7 :: x8 :: some (.int (nI a)) :: r) st := ez_iinc_9 hd ((show nI a + Int32.ofInt (-1) = nI a - nI 1 from by rw [Int32.sub_eq_add_neg]; rfl).trans (nI_sub h1)) hn hc1 hq k
theorem ez_iincN_10 {G : ez_G} {M : ez_M} {d : Nat} {Q : ez_Q} {h : ez_H} {n mc ms pc q : Nat} {st : List Value} {x0 x1 x2 x3 x4 x5 x6 x7 x8 x9 : Option Value} {r : List (Option Value)} {a : Nat} (hd : decode M.2.1 pc = .ok (.iinc 10 1, 3)) (hn : 10 < M.2.2.1) (hc1 : ez_c1 x9 = true) (hq : pc + 3 = q) (k : E G M d Q h n mc ms q (x0 :: x1 :: x2 :: x3 :: x4 :: x5 :: x6 :: x7 :: x8 :: x9 :: some (.int (nI (a + 1))) :: r) st) : E G M d Q h n mc ms pc (x0 :: x1 :: x2 :: x3 :: x4 :: x5 :: x6 :: x7 :: x8 :: x9 :: some (.int (nI a)) :: r) st := ez_iinc_10 hd (nI_1 a) hn hc1 hq k
theorem ez_idecN_10 {G : ez_G} {M : ez_M} {d : Nat} {Q : ez_Q} {h : ez_H} {n mc ms pc q : Nat} {st : List Value} {x0 x1 x2 x3 x4 x5 x6 x7 x8 x9 : Option Value} {r : List (Option Value)} {a : Nat} (hd : decode M.2.1 pc = .ok (.iinc 10 (-1), 3)) (h1 : 1 ≤ a) (hn : 10 < M.2.2.1) (hc1 : ez_c1 x9 = true) (hq : pc + 3 = q) (k : E G M d Q h n mc ms q (x0 :: x1 :: x2 :: x3 :: x4 :: x5 :: x6 :: x7 :: x8 :: x9 :: some (.int (nI (a - 1))) :: r) st) : E G M d Q h n mc ms pc (x0 :: x1 :: x2 :: x3 :: x4 :: x5 :: x6 :: x7 :: x8 :: x9 :: some (.int (nI a)) :: r) st := ez_iinc_10 hd ((show nI a + Int32.ofInt (-1) = nI a - nI 1 from by rw [Int32.sub_eq_add_neg]; rfl).trans (nI_sub h1)) hn hc1 hq k
theorem ez_iincN_11 {G : ez_G} {M : ez_M} {d : Nat} {Q : ez_Q} {h : ez_H} {n mc ms pc q : Nat} {st : List Value} {x0 x1 x2 x3 x4 x5 x6 x7 x8 x9 x10 : Option Value} {r : List (Option Value)} {a : Nat} (hd : decode M.2.1 pc = .ok (.iinc 11 1, 3)) (hn : 11 < M.2.2.1) (hc1 : ez_c1 x10 = true) (hq : pc + 3 = q) (k : E G M d Q h n mc ms q (x0 :: x1 :: x2 :: x3 :: x4 :: x5 :: x6 :: x7 :: x8 :: x9 :: x10 :: some (.int (nI (a + 1))) :: r) st) : E G M d Q h n mc ms pc (x0 :: x1 :: x2 :: x3 :: x4 :: x5 :: x6 :: x7 :: x8 :: x9 :: x10 :: some (.int (nI a)) :: r) st := ez_iinc_11 hd (nI_1 a) hn hc1 hq k
theorem ez_idecN_11 {G : ez_G} {M : ez_M} {d : Nat} {Q : ez_Q} {h : ez_H} {n mc ms pc q : Nat} {st : List Value} {x0 x1 x2 x3 x4 x5 x6 x7 x8 x9 x10 : Option Value} {r : List (Option Value)} {a : Nat} (hd : decode M.2.1 pc = .ok (.iinc 11 (-1), 3)) (h1 : 1 ≤ a) (hn : 11 < M.2.2.1) (hc1 : ez_c1 x10 = true) (hq : pc + 3 = q) (k : E G M d Q h n mc ms q (x0 :: x1 :: x2 :: x3 :: x4 :: x5 :: x6 :: x7 :: x8 :: x9 :: x10 :: some (.int (nI (a - 1))) :: r) st) : E G M d Q h n mc ms pc (x0 :: x1 :: x2 :: x3 :: x4 :: x5 :: x6 :: x7 :: x8 :: x9 :: x10 :: some (.int (nI a)) :: r) st := ez_iinc_11 hd ((show nI a + Int32.ofInt (-1) = nI a - nI 1 from by rw [Int32.sub_eq_add_neg]; rfl).trans (nI_sub h1)) hn hc1 hq k
theorem ez_icmpeqN {G : ez_G} {M : ez_M} {d : Nat} {Q : ez_Q} {h : ez_H} {n mc ms pc q : Nat} {ls : List (Option Value)} {st : List Value} {a b : Nat} {off : Int} {tgt : Nat} (hd : decode M.2.1 pc = .ok (.if_icmp .eq off, 3)) (ht : (pc : Int) + off = (tgt : Int)) (h1 : a < 2 ^ 31) (h2 : b < 2 ^ 31) (hq : pc + 3 = q) (kt : a = b → E G M d Q h n mc ms tgt ls st) (kf : ¬ a = b → E G M d Q h n mc ms q ls st) : E G M d Q h n mc ms pc ls (.int (nI b) :: .int (nI a) :: st) := ez_icmpeq hd ht hq (fun z => kt ((nI_eq h1 h2).mp z)) (fun z => kf (fun y => z ((nI_eq h1 h2).mpr y)))
theorem ez_icmpneN {G : ez_G} {M : ez_M} {d : Nat} {Q : ez_Q} {h : ez_H} {n mc ms pc q : Nat} {ls : List (Option Value)} {st : List Value} {a b : Nat} {off : Int} {tgt : Nat} (hd : decode M.2.1 pc = .ok (.if_icmp .ne off, 3)) (ht : (pc : Int) + off = (tgt : Int)) (h1 : a < 2 ^ 31) (h2 : b < 2 ^ 31) (hq : pc + 3 = q) (kt : ¬ a = b → E G M d Q h n mc ms tgt ls st) (kf : a = b → E G M d Q h n mc ms q ls st) : E G M d Q h n mc ms pc ls (.int (nI b) :: .int (nI a) :: st) := ez_icmpne hd ht hq (fun z => kt (fun y => z ((nI_eq h1 h2).mpr y))) (fun z => kf ((nI_eq h1 h2).mp z))
theorem ez_icmpltN {G : ez_G} {M : ez_M} {d : Nat} {Q : ez_Q} {h : ez_H} {n mc ms pc q : Nat} {ls : List (Option Value)} {st : List Value} {a b : Nat} {off : Int} {tgt : Nat} (hd : decode M.2.1 pc = .ok (.if_icmp .lt off, 3)) (ht : (pc : Int) + off = (tgt : Int)) (h1 : a < 2 ^ 31) (h2 : b < 2 ^ 31) (hq : pc + 3 = q) (kt : a < b → E G M d Q h n mc ms tgt ls st) (kf : b ≤ a → E G M d Q h n mc ms q ls st) : E G M d Q h n mc ms pc ls (.int (nI b) :: .int (nI a) :: st) := ez_icmplt hd ht hq (fun z => kt ((nI_ltI h1 h2).mp z)) (fun z => kf (Nat.not_lt.mp (fun y => z ((nI_ltI h1 h2).mpr y))))
theorem ez_icmpgeN {G : ez_G} {M : ez_M} {d : Nat} {Q : ez_Q} {h : ez_H} {n mc ms pc q : Nat} {ls : List (Option Value)} {st : List Value} {a b : Nat} {off : Int} {tgt : Nat} (hd : decode M.2.1 pc = .ok (.if_icmp .ge off, 3)) (ht : (pc : Int) + off = (tgt : Int)) (h1 : a < 2 ^ 31) (h2 : b < 2 ^ 31) (hq : pc + 3 = q) (kt : b ≤ a → E G M d Q h n mc ms tgt ls st) (kf : a < b → E G M d Q h n mc ms q ls st) : E G M d Q h n mc ms pc ls (.int (nI b) :: .int (nI a) :: st) := ez_icmpge hd ht hq (fun z => kt ((nI_leI h2 h1).mp z)) (fun z => kf (Nat.not_le.mp (fun y => z ((nI_leI h2 h1).mpr y))))
theorem ez_icmpgtN {G : ez_G} {M : ez_M} {d : Nat} {Q : ez_Q} {h : ez_H} {n mc ms pc q : Nat} {ls : List (Option Value)} {st : List Value} {a b : Nat} {off : Int} {tgt : Nat} (hd : decode M.2.1 pc = .ok (.if_icmp .gt off, 3)) (ht : (pc : Int) + off = (tgt : Int)) (h1 : a < 2 ^ 31) (h2 : b < 2 ^ 31) (hq : pc + 3 = q) (kt : b < a → E G M d Q h n mc ms tgt ls st) (kf : a ≤ b → E G M d Q h n mc ms q ls st) : E G M d Q h n mc ms pc ls (.int (nI b) :: .int (nI a) :: st) := ez_icmpgt hd ht hq (fun z => kt ((nI_ltI h2 h1).mp z)) (fun z => kf (Nat.not_lt.mp (fun y => z ((nI_ltI h2 h1).mpr y))))
theorem ez_icmpleN {G : ez_G} {M : ez_M} {d : Nat} {Q : ez_Q} {h : ez_H} {n mc ms pc q : Nat} {ls : List (Option Value)} {st : List Value} {a b : Nat} {off : Int} {tgt : Nat} (hd : decode M.2.1 pc = .ok (.if_icmp .le off, 3)) (ht : (pc : Int) + off = (tgt : Int)) (h1 : a < 2 ^ 31) (h2 : b < 2 ^ 31) (hq : pc + 3 = q) (kt : a ≤ b → E G M d Q h n mc ms tgt ls st) (kf : b < a → E G M d Q h n mc ms q ls st) : E G M d Q h n mc ms pc ls (.int (nI b) :: .int (nI a) :: st) := ez_icmple hd ht hq (fun z => kt ((nI_leI h1 h2).mp z)) (fun z => kf (Nat.not_le.mp (fun y => z ((nI_leI h1 h2).mpr y))))
theorem ez_ifeqN {G : ez_G} {M : ez_M} {d : Nat} {Q : ez_Q} {h : ez_H} {n mc ms pc q : Nat} {ls : List (Option Value)} {st : List Value} {a : Nat} {off : Int} {tgt : Nat} (hd : decode M.2.1 pc = .ok (.ifCond .eq off, 3)) (ht : (pc : Int) + off = (tgt : Int)) (h1 : a < 2 ^ 31) (hq : pc + 3 = q) (kt : a = 0 → E G M d Q h n mc ms tgt ls st) (kf : ¬ a = 0 → E G M d Q h n mc ms q ls st) : E G M d Q h n mc ms pc ls (.int (nI a) :: st) := ez_ifeq hd ht hq (fun z => kt ((nI_eq h1 (by decide)).mp z)) (fun z => kf (fun y => z (by rw [y]; rfl)))
theorem ez_ifneN {G : ez_G} {M : ez_M} {d : Nat} {Q : ez_Q} {h : ez_H} {n mc ms pc q : Nat} {ls : List (Option Value)} {st : List Value} {a : Nat} {off : Int} {tgt : Nat} (hd : decode M.2.1 pc = .ok (.ifCond .ne off, 3)) (ht : (pc : Int) + off = (tgt : Int)) (h1 : a < 2 ^ 31) (hq : pc + 3 = q) (kt : ¬ a = 0 → E G M d Q h n mc ms tgt ls st) (kf : a = 0 → E G M d Q h n mc ms q ls st) : E G M d Q h n mc ms pc ls (.int (nI a) :: st) := ez_ifne hd ht hq (fun z => kt (fun y => z (by rw [y]; rfl))) (fun z => kf ((nI_eq h1 (by decide)).mp z))
theorem ez_ifgtN {G : ez_G} {M : ez_M} {d : Nat} {Q : ez_Q} {h : ez_H} {n mc ms pc q : Nat} {ls : List (Option Value)} {st : List Value} {a : Nat} {off : Int} {tgt : Nat} (hd : decode M.2.1 pc = .ok (.ifCond .gt off, 3)) (ht : (pc : Int) + off = (tgt : Int)) (h1 : a < 2 ^ 31) (hq : pc + 3 = q) (kt : 0 < a → E G M d Q h n mc ms tgt ls st) (kf : a = 0 → E G M d Q h n mc ms q ls st) : E G M d Q h n mc ms pc ls (.int (nI a) :: st) := ez_ifgt hd ht hq (fun z => kt ((nI_ltI (by decide) h1).mp z)) (fun z => kf (Nat.le_zero.mp (Nat.not_lt.mp (fun y => z ((nI_ltI (a := 0) (by decide) h1).mpr y)))))
theorem ez_ifleN {G : ez_G} {M : ez_M} {d : Nat} {Q : ez_Q} {h : ez_H} {n mc ms pc q : Nat} {ls : List (Option Value)} {st : List Value} {a : Nat} {off : Int} {tgt : Nat} (hd : decode M.2.1 pc = .ok (.ifCond .le off, 3)) (ht : (pc : Int) + off = (tgt : Int)) (h1 : a < 2 ^ 31) (hq : pc + 3 = q) (kt : a = 0 → E G M d Q h n mc ms tgt ls st) (kf : 0 < a → E G M d Q h n mc ms q ls st) : E G M d Q h n mc ms pc ls (.int (nI a) :: st) := ez_ifle hd ht hq (fun z => kt (Nat.le_zero.mp ((nI_leI (b := 0) h1 (by decide)).mp z))) (fun z => kf (Nat.pos_of_ne_zero (fun y => z (by rw [y]; decide))))
theorem ez_ifltN {G : ez_G} {M : ez_M} {d : Nat} {Q : ez_Q} {h : ez_H} {n mc ms pc q : Nat} {ls : List (Option Value)} {st : List Value} {a : Nat} {off : Int} (hd : decode M.2.1 pc = .ok (.ifCond .lt off, 3)) {tgt : Nat} (ht : (pc : Int) + off = (tgt : Int)) (h1 : a < 2 ^ 31) (hq : pc + 3 = q) (kf : E G M d Q h n mc ms q ls st) : E G M d Q h n mc ms pc ls (.int (nI a) :: st) := ez_iflt hd ht hq (fun z => absurd z (nI_pos h1)) (fun _ => kf)
theorem ez_ifgeN {G : ez_G} {M : ez_M} {d : Nat} {Q : ez_Q} {h : ez_H} {n mc ms pc q : Nat} {ls : List (Option Value)} {st : List Value} {a : Nat} {off : Int} (hd : decode M.2.1 pc = .ok (.ifCond .ge off, 3)) {tgt : Nat} (ht : (pc : Int) + off = (tgt : Int)) (h1 : a < 2 ^ 31) (hq : pc + 3 = q) (kt : E G M d Q h n mc ms tgt ls st) : E G M d Q h n mc ms pc ls (.int (nI a) :: st) := ez_ifge hd ht hq (fun _ => kt) (fun z => absurd (nI_pos' h1) z)
theorem ez_ifeqB {G : ez_G} {M : ez_M} {d : Nat} {Q : ez_Q} {h : ez_H} {n mc ms pc q : Nat} {ls : List (Option Value)} {st : List Value} {b : Bool} {off : Int} {tgt : Nat} (hd : decode M.2.1 pc = .ok (.ifCond .eq off, 3)) (ht : (pc : Int) + off = (tgt : Int)) (hq : pc + 3 = q) (kt : b = false → E G M d Q h n mc ms tgt ls st) (kf : b = true → E G M d Q h n mc ms q ls st) : E G M d Q h n mc ms pc ls (.int (bI b) :: st) := ez_ifeq hd ht hq (fun z => kt (bI_0.mp z)) (fun z => kf (by cases b with | false => exact absurd rfl z | true => rfl))
theorem ez_ifneB {G : ez_G} {M : ez_M} {d : Nat} {Q : ez_Q} {h : ez_H} {n mc ms pc q : Nat} {ls : List (Option Value)} {st : List Value} {b : Bool} {off : Int} {tgt : Nat} (hd : decode M.2.1 pc = .ok (.ifCond .ne off, 3)) (ht : (pc : Int) + off = (tgt : Int)) (hq : pc + 3 = q) (kt : b = true → E G M d Q h n mc ms tgt ls st) (kf : b = false → E G M d Q h n mc ms q ls st) : E G M d Q h n mc ms pc ls (.int (bI b) :: st) := ez_ifne hd ht hq (fun z => kt (by cases b with | false => exact absurd rfl z | true => rfl)) (fun z => kf (bI_0.mp z))
theorem ez_zretB {G : ez_G} {M : ez_M} {d : Nat} {Q : ez_Q} {h : ez_H} {n mc ms pc : Nat} {ls : List (Option Value)} {b : Bool} (hd : decode M.2.1 pc = .ok (.ireturn, 1)) (hr : M.2.2.2.1 = some .boolean) (hQ : Q (.inl (some (.int (bI b)))) h n) : E G M d Q h n mc ms pc ls [.int (bI b)] := ez_zret hd hr (bI_nar b) hQ
/-- induction along a measure -/
theorem ez_loop {α : Type} (μ : α → Nat) {P : α → Prop} (hs : ∀ a, (∀ b, μ b < μ a → P b) → P a) (a : α) : P a := by
  have h : ∀ k a, μ a < k → P a := by
    intro k
    induction k with
    | zero => intro a ha; omega
    | succ k ih => exact fun a ha => hs a (fun b hb => ih b (by omega))
  exact h (μ a + 1) a (by omega)
end
