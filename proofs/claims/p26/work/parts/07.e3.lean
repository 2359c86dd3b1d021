/-- an exception of class x flies at pc -/
def EX (G : ez_G) (M : ez_M) (d : Nat) (Q : ez_Q) (h : ez_H) (n mc ms pc : Nat) (ls : List (Option Value)) (x : String) : Prop :=
  ∀ (p : Program) (e : Env) (R : Room) (s : State) (m : MethodId) (args : Array Value) (below : List Frame) (meth : Method) (c : Code) (H : Heap) (locs : List Loc) (cells slots mt mS : Nat) (la : Array Slot) (q9 : Addr) (ce : Cell) (rest : List Value),
    ez_X G M d p R s m meth c → ez_R G h n H → va_S (ez_A G) s.heap H locs → ez_L G la M.2.2.1 ls → (cells + mc ≤ mt ∧ mt ≤ R.cells) → (slots + ms ≤ mS ∧ mS ≤ R.slots) → H[q9]? = some ce → ce.vm = .none → s.vm.findClass x = some ce.cls →
    vx_W p (ez_l G) e R s m args below meth c H locs cells slots (vx_MQ below (ez_Qc G Q) (ez_Xc G Q) args s mt mS (ez_A G)) (F0 m pc la rest) q9
def ez_kB (M' : ez_M) (na : Nat) : Prop := ez_T (.initialized M'.1.cls) ∧ ez_T (ez_w M') ∧ M'.2.2.1 ≤ 25 ∧ (M'.1.cls ≠ "java/lang/invoke/MethodHandle" ∧ M'.1.cls ≠ "java/lang/invoke/VarHandle") ∧ (parseMethodDescriptor M'.1.desc).map (fun d => d.parameters.length) = some na
def ez_kV (own : String) (idx : Nat) (M' : ez_M) (na : Nat) : Prop := ez_kB M' na ∧ ez_T (.methodLink own idx M'.1) ∧ ez_T (.instanceMethod M'.1) ∧ ez_T (.selects M'.1.cls M'.1 M'.1)
def ez_kS (own : String) (idx : Nat) (M' : ez_M) (na : Nat) : Prop := ez_kB M' na ∧ ez_T (.methodLink own idx M'.1) ∧ ez_T (.static M'.1)
def ez_kI (own : String) (idx : Nat) (M' : ez_M) (na : Nat) : Prop := ez_kB M' na ∧ ez_T (.methodLink own idx M'.1) ∧ ez_T (.instanceMethod M'.1) ∧ M'.1.name = "<init>"
def ez_kN (own : String) (idx : Nat) (M' : ez_M) (na : Nat) : Prop := ez_kB M' na ∧ Cond.methodLinkNest own idx M'.1 "FutureWishes" ∈ lw_tbl ∧ ez_T (.instanceMethod M'.1) ∧ M'.1.name = "<init>"
theorem ez_wN {M : ez_M} (h : M.2.2.2.2 = []) : ez_w M = .code M.1 M.2.1 M.2.2.1 M.2.2.2.1 := by rw [ez_w, h]
theorem ez_blind {G : ez_G} {as : List Value} {h : ez_H} {n : Nat} : FrameBlind (ez_Pc G as h n) := fun a U g mk ⟨h1, h2, h3⟩ => ⟨h1, h2, h3.warm (State.WarmedH.refl U) (fun _ _ _ => rfl)⟩
theorem ez_pre {G : ez_G} {M : ez_M} {d : Nat} {as : List Value} {h : ez_H} {n : Nat} {p : Program} {R : Room} {s : State} {m : MethodId} {meth : Method} {c : Code} {H : Heap} {locs : List Loc} (X : ez_X G M d p R s m meth c) (hR : ez_R G h n H) (hS : va_S (ez_A G) s.heap H locs) : ∀ U : State, U.heap = H → s.WarmedH U.vm → ez_Pc G as h n (as.map (ez_v G)).toArray U := fun U hU hW => ⟨rfl, by rw [hU]; exact hR, X.2.2.2.2.2.2.2.2.1.warm hW (fun a h1 h2 => by rw [hU]; exact hS.2.1 a h1 h2)⟩
/-- from the run of a call to the walk behind it -/
theorem ez_back {G : ez_G} {M : ez_M} {d : Nat} {Q Q' : ez_Q} {mc mc' ms ms' pc : Nat} {ls : List (Option Value)} {st0 st : List Value} {a : Array Value}
    {p : Program} {e : Env} {R : Room} {s : State} {m : MethodId} {args : Array Value} {below : List Frame} {meth : Method} {c : Code} {H : Heap} {locs : List Loc} {cells slots mt mS : Nat} {la : Array Slot}
    (hr : vx_Run p (ez_l G) e R s m args below meth c H locs cells slots mc' ms' (F0 m pc la (st0.map (ez_v G))) (st.map (ez_v G)) (ez_Qc G Q' a) (ez_Xc G Q') (ez_A G))
    (KX : ∀ x h' n', Q' (.inr x) h' n' → EX G M d Q h' n' mc ms pc ls x) (K : ∀ r h' n', Q' (.inl r) h' n' → E G M d Q h' n' mc ms (pc + 3) ls (r.toList ++ st))
    (X : ez_X G M d p R s m meth c) (hS : va_S (ez_A G) s.heap H locs) (hL : ez_L G la M.2.2.1 ls) (hc : cells + (mc' + mc) ≤ mt ∧ mt ≤ R.cells) (hs : slots + (ms' + ms) ≤ mS ∧ mS ≤ R.slots) :
    W p (ez_l G) e R s m args below meth c H locs cells slots (vx_MQ below (ez_Qc G Q) (ez_Xc G Q) args s mt mS (ez_A G)) (F0 m pc la (st0.map (ez_v G))) := by
  intro T hT XT
  rcases hr T hT XT with ⟨v, st₀, t, T', L, h0, X2, hL2, e1, e2, ⟨⟨r, h', n', hv, hq, hR'⟩, hF⟩, stp⟩ | ⟨q9, st₀, t, T', L, E9, ce, h0, X2, hL2, e1, e2, ⟨⟨h', n', hq, hR'⟩, hF⟩, hce, hcv, hcl, stp⟩
  · have hv2 : v = r.map (ez_v G) := Outcome.returned.inj hv
    subst hv2
    obtain ⟨k1, k2, k3⟩ := vx_keep h0 e1 hS (fun _ _ h => h) (fun _ h => h) hL2 hF
    obtain ⟨t2, a1, b1⟩ := K r h' n' hq p e R s m args below meth c T'.heap (locs ++ L) (cells + mc') (slots + ms') mt mS la X (by rw [e1]; exact hR') k3 hL (by omega) (by omega) T' rfl X2
    refine ⟨t2, stp t2 ?_, b1⟩
    cases r with
    | none => exact a1
    | some v => exact a1
  · obtain ⟨k1, k2, k3⟩ := vx_keep h0 e1 hS (fun _ _ h => h) (fun _ h => h) hL2 hF
    obtain ⟨t2, a1, b1⟩ := KX E9 h' n' hq p e R s m args below meth c T'.heap (locs ++ L) (cells + mc') (slots + ms') mt mS la q9 ce (st.map (ez_v G)) X (by rw [e1]; exact hR') k3 hL (by omega) (by omega) (by rw [e1]; exact hce) hcv hcl T' rfl X2
    exact ⟨t2, stp.trans a1, b1⟩
theorem ez_callV {G : ez_G} {M : ez_M} {d : Nat} {Q : ez_Q} {h : ez_H} {n mc ms pc q : Nat} {ls : List (Option Value)} {st : List Value} {M' : ez_M} {Q' : ez_Q} {idx na mc' ms' a ci : Nat} {As as st0 : List Value} {fs : List Value} (hd : decode M.2.1 pc = .ok (.invokevirtual idx, 3)) (hck : ez_kV M.1.cls idx M' na) (htab : M'.2.2.2.2 = []) (hC : Con G M' d as h n mc' ms' Q') (hc0 : h a = some (.inr (ci, fs))) (hci : ci < 8 ∧ (ez_cl ci).1 = M'.1.cls) (has : as = .ref a :: As) (hst : st0 = As.reverse ++ .ref a :: st) (hna : As.length = na) (hrm : (st.map fun v => v.category).sum ≤ 8) (hq : pc + 3 = q)
    (KX : ∀ x h' n', Q' (.inr x) h' n' → EX G M (d + 1) Q h' n' mc ms pc ls x) (K : ∀ r h' n', Q' (.inl r) h' n' → E G M (d + 1) Q h' n' mc ms q ls (r.toList ++ st)) : E G M (d + 1) Q h n (mc' + mc) (ms' + ms) pc ls st0 := by
  subst hq; subst has; subst hst
  intro p e R s m args below meth c H locs cells slots mt mS la X hR hS hL hc hs
  obtain ⟨⟨g1, g2, g3, ⟨g4, g5⟩, g6⟩, k1, k2, k3⟩ := hck
  have w1 := X.2.2.2.2.2.2.2.2.1.w k1 args
  have w2 := X.2.2.2.2.2.2.2.2.1.w k2 args
  have w3 := X.2.2.2.2.2.2.2.2.1.w k3 args
  have hcat := ez_st_cat G st
  obtain ⟨cB, c1, c2, c3⟩ := va_recv X.2.2.2.2.2.2.2.2.1.2.1 (ez_one hR hc0) (ci := ci) (q0 := 0) (ez_cl_get hci.1) rfl
  rw [hci.2] at c3
  refine ez_back (a := (Value.ref (ez_ad G a) :: As.map (ez_v G)).toArray) (vx_runV (nL := M.2.2.1) (bytes := M'.2.1) (maxL := M'.2.2.1) (ret := M'.2.2.2.1) (n := na) (C := M'.1.cls) (As := As.map (ez_v G)) (b := ez_ad G a) (Ts := []) ⟨X.1, X.2.1, X.2.2.2.2.2.1, X.2.2.2.1, fun w hw => nomatch hw⟩ hC ⟨⟨rfl, rfl, by have := X.2.2.2.2.2.2.2.2.2.1; show d + 1 ≤ R.frames; omega, by have := X.2.2.2.2.2.2.2.2.2.2.1; show 8 + (M'.2.2.1 + 11) + 44 * d ≤ R.locals; omega, fun w hw a' U hW => (by
    rw [List.mem_singleton.mp hw]
    exact word_at hW (good_of_word g2.2) (X.2.2.2.2.2.2.2.2.1.w g2 args)), by rw [← ez_wN htab]; exact List.mem_cons_self, by rw [← ez_wN htab]; exact X.2.2.2.2.2.2.2.2.1.w g2 args, X.2.2.2.2.2.2.2.2.1.w g1 args, ⟨g4, g5⟩, fun sig hs => by rw [hs] at g6; exact (Option.some.inj g6).symm, w1⟩, w2, w3⟩ ⟨ez_blind, ⟨cB, c1, c2, c3⟩, ez_pre X hR hS⟩ rfl (by rw [List.length_map]; exact hna) hL.1 (by show (List.map (ez_v G) (As.reverse ++ .ref a :: st)) = _; simp [ez_v]) (by show 2 * 0 + _ ≤ 8; omega) hd ⟨by omega, by omega⟩) KX K X hS hL (by omega) (by omega)
theorem ez_callS {G : ez_G} {M : ez_M} {d : Nat} {Q : ez_Q} {h : ez_H} {n mc ms pc q : Nat} {ls : List (Option Value)} {st : List Value} {M' : ez_M} {Q' : ez_Q} {idx na mc' ms' : Nat} {as st0 : List Value} (hd : decode M.2.1 pc = .ok (.invokestatic idx, 3)) (hck : ez_kS M.1.cls idx M' na) (htab : M'.2.2.2.2 = []) (hC : Con G M' d as h n mc' ms' Q') (hst : st0 = as.reverse ++ st) (hna : as.length = na) (hrm : (st.map fun v => v.category).sum ≤ 8) (hq : pc + 3 = q)
    (KX : ∀ x h' n', Q' (.inr x) h' n' → EX G M (d + 1) Q h' n' mc ms pc ls x) (K : ∀ r h' n', Q' (.inl r) h' n' → E G M (d + 1) Q h' n' mc ms q ls (r.toList ++ st)) : E G M (d + 1) Q h n (mc' + mc) (ms' + ms) pc ls st0 := by
  subst hq; subst hst
  intro p e R s m args below meth c H locs cells slots mt mS la X hR hS hL hc hs
  obtain ⟨⟨g1, g2, g3, ⟨g4, g5⟩, g6⟩, k1, k2⟩ := hck
  have w1 := X.2.2.2.2.2.2.2.2.1.w k1 args
  have w2 := X.2.2.2.2.2.2.2.2.1.w k2 args
  have hcat := ez_st_cat G st
  refine ez_back (a := (as.map (ez_v G)).toArray) (vx_runS (nL := M.2.2.1) (bytes := M'.2.1) (maxL := M'.2.2.1) (ret := M'.2.2.2.1) (n := na) (As := as.map (ez_v G)) (Ts := []) ⟨X.1, X.2.1, X.2.2.2.2.2.1, X.2.2.2.1, fun w hw => nomatch hw⟩ hC ⟨⟨rfl, rfl, by have := X.2.2.2.2.2.2.2.2.2.1; show d + 1 ≤ R.frames; omega, by have := X.2.2.2.2.2.2.2.2.2.2.1; show 8 + (M'.2.2.1 + 11) + 44 * d ≤ R.locals; omega, fun w hw a' U hW => (by
    rw [List.mem_singleton.mp hw]
    exact word_at hW (good_of_word g2.2) (X.2.2.2.2.2.2.2.2.1.w g2 args)), by rw [← ez_wN htab]; exact List.mem_cons_self, by rw [← ez_wN htab]; exact X.2.2.2.2.2.2.2.2.1.w g2 args, X.2.2.2.2.2.2.2.2.1.w g1 args, ⟨g4, g5⟩, fun sig hs => by rw [hs] at g6; exact (Option.some.inj g6).symm, w1⟩, w2⟩ ⟨ez_blind, ez_pre X hR hS⟩ rfl (by rw [List.length_map]; exact hna) hL.1 (by show (List.map (ez_v G) (as.reverse ++ st)) = _; simp) (by show 2 * 0 + _ ≤ 8; omega) hd ⟨by omega, by omega⟩) KX K X hS hL (by omega) (by omega)
theorem ez_callSH {G : ez_G} {M : ez_M} {d : Nat} {Q : ez_Q} {h : ez_H} {n mc ms pc q : Nat} {ls : List (Option Value)} {st : List Value} {M' : ez_M} {Q' : ez_Q} {idx na mc' ms' : Nat} {as st0 : List Value} {hh0 : Nat × Nat × Nat × Nat} {hh1 : List (Nat × Nat × Nat × Nat)} (hd : decode M.2.1 pc = .ok (.invokestatic idx, 3)) (hck : ez_kS M.1.cls idx M' na) (htab : M'.2.2.2.2 = hh0 :: hh1) (hC : Con G M' d as h n mc' ms' Q') (hst : st0 = as.reverse ++ st) (hna : as.length = na) (hrm : (st.map fun v => v.category).sum ≤ 8) (hq : pc + 3 = q)
    (KX : ∀ x h' n', Q' (.inr x) h' n' → EX G M (d + 1) Q h' n' mc ms pc ls x) (K : ∀ r h' n', Q' (.inl r) h' n' → E G M (d + 1) Q h' n' mc ms q ls (r.toList ++ st)) : E G M (d + 1) Q h n (mc' + mc) (ms' + ms) pc ls st0 := by
  subst hq; subst hst
  intro p e R s m args below meth c H locs cells slots mt mS la X hR hS hL hc hs
  obtain ⟨⟨g1, g2, g3, ⟨g4, g5⟩, g6⟩, k1, k2⟩ := hck
  have w1 := X.2.2.2.2.2.2.2.2.1.w k1 args
  have w2 := X.2.2.2.2.2.2.2.2.1.w k2 args
  have hcat := ez_st_cat G st
  have hwe : ez_w M' = .codeWith M'.1 M'.2.1 M'.2.2.1 M'.2.2.2.1 (hh0 :: hh1) := by rw [ez_w, htab]
  refine ez_back (a := (as.map (ez_v G)).toArray) (vx_runSX (hh := hh0 :: hh1) (nL := M.2.2.1) (bytes := M'.2.1) (maxL := M'.2.2.1) (ret := M'.2.2.2.1) (n := na) (As := as.map (ez_v G)) (Ts := []) ⟨X.1, X.2.1, X.2.2.2.2.2.1, X.2.2.2.1, fun w hw => nomatch hw⟩ hC ⟨⟨rfl, rfl, by have := X.2.2.2.2.2.2.2.2.2.1; show d + 1 ≤ R.frames; omega, by have := X.2.2.2.2.2.2.2.2.2.2.1; show 8 + (M'.2.2.1 + 11) + 44 * d ≤ R.locals; omega, fun w hw a' U hW => (by
    rw [List.mem_singleton.mp hw]
    exact word_at hW (good_of_word g2.2) (X.2.2.2.2.2.2.2.2.1.w g2 args)), by rw [← hwe]; exact List.mem_cons_self⟩, by rw [← hwe]; exact X.2.2.2.2.2.2.2.2.1.w g2 args, X.2.2.2.2.2.2.2.2.1.w g1 args, ⟨g4, g5⟩, fun sig hs => by rw [hs] at g6; exact (Option.some.inj g6).symm, w1, w2⟩ ⟨ez_blind, ez_pre X hR hS⟩ rfl (by rw [List.length_map]; exact hna) hL.1 (by show (List.map (ez_v G) (as.reverse ++ st)) = _; simp) (by show 2 * 0 + _ ≤ 8; omega) hd ⟨by omega, by omega⟩) KX K X hS hL (by omega) (by omega)
/-- a contract that never throws, as the kit's Met -/
theorem Con.met {G : ez_G} {M : ez_M} {d : Nat} {as : List Value} {h : ez_H} {n mc ms : Nat} {Q : ez_Q} (hC : Con G M d as h n mc ms Q) (hx : ∀ x h' n', ¬ Q (.inr x) h' n') : Met (ez_l G) M.1 [ez_w M] (ez_rm d mc ms) (ez_Pc G as h n) (ez_Qc G Q) mc ms (ez_A G) := by
  intro p e h1 h2 h3 s m args below h4 h5 h6 h7
  obtain ⟨k, o, g1, g2, g3, g4⟩ := hC p e h1 h2 h3 s m args below h4 h5 h6 h7
  refine ⟨k, o, g1, g2, g3, ?_⟩
  rcases g4 with g | ⟨q9, -, E9, ce, L, ⟨⟨h', n', hq, -⟩, -⟩, -⟩
  · exact g
  · exact absurd hq (hx _ _ _)
theorem ez_run_of {G : ez_G} {Q' : ez_Q} {mc' ms' : Nat} {p : Program} {e : Env} {R : Room} {s : State} {m : MethodId} {args a : Array Value} {below : List Frame} {meth : Method} {c : Code} {H : Heap} {locs : List Loc} {cells slots : Nat} {g : JFrame} {rest : List Value}
    (hr : va_Run p (ez_l G) e R s m args below meth c H locs cells slots mc' ms' g rest (ez_Qc G Q' a) (ez_A G)) : vx_Run p (ez_l G) e R s m args below meth c H locs cells slots mc' ms' g rest (ez_Qc G Q' a) (ez_Xc G Q') (ez_A G) := fun T hT X => Or.inl (hr T hT X)
theorem ez_callI {G : ez_G} {M : ez_M} {d : Nat} {Q : ez_Q} {h : ez_H} {n mc ms pc q : Nat} {ls : List (Option Value)} {st : List Value} {M' : ez_M} {Q' : ez_Q} {idx na mc' ms' a : Nat} {As as st0 : List Value} (hd : decode M.2.1 pc = .ok (.invokespecial idx, 3)) (hck : ez_kI M.1.cls idx M' na) (htab : M'.2.2.2.2 = []) (hret : M'.2.2.2.1 = none) (hC : Con G M' d as h n mc' ms' Q') (has : as = .ref a :: As) (hst : st0 = As.reverse ++ .ref a :: st) (hna : As.length = na) (hrm : (st.map fun v => v.category).sum ≤ 8) (hq : pc + 3 = q)
    (KX : ∀ x h' n', ¬ Q' (.inr x) h' n') (K : ∀ r h' n', Q' (.inl r) h' n' → E G M (d + 1) Q h' n' mc ms q ls (r.toList ++ st)) : E G M (d + 1) Q h n (mc' + mc) (ms' + ms) pc ls st0 := by
  subst hq; subst has; subst hst
  intro p e R s m args below meth c H locs cells slots mt mS la X hR hS hL hc hs
  obtain ⟨⟨g1, g2, g3, ⟨g4, g5⟩, g6⟩, k1, k2, k3⟩ := hck
  have w1 := X.2.2.2.2.2.2.2.2.1.w k1 args
  have w2 := X.2.2.2.2.2.2.2.2.1.w k2 args
  have hcat := ez_st_cat G st
  refine ez_back (a := (Value.ref (ez_ad G a) :: As.map (ez_v G)).toArray) (ez_run_of (va_runI (nL := M.2.2.1) (bytes := M'.2.1) (maxL := M'.2.2.1) (n := na) (As := As.map (ez_v G)) (b := ez_ad G a) (Ts := []) ⟨X.1, X.2.1, X.2.2.2.2.2.1, X.2.2.2.1, fun w hw => nomatch hw⟩ (hC.met KX) ⟨⟨rfl, rfl, by have := X.2.2.2.2.2.2.2.2.2.1; show d + 1 ≤ R.frames; omega, by have := X.2.2.2.2.2.2.2.2.2.2.1; show 8 + (M'.2.2.1 + 11) + 44 * d ≤ R.locals; omega, fun w hw a' U hW => (by
    rw [List.mem_singleton.mp hw]
    exact word_at hW (good_of_word g2.2) (X.2.2.2.2.2.2.2.2.1.w g2 args)), by rw [← hret, ← ez_wN htab]; exact List.mem_cons_self, by rw [← hret, ← ez_wN htab]; exact X.2.2.2.2.2.2.2.2.1.w g2 args, X.2.2.2.2.2.2.2.2.1.w g1 args, ⟨g4, g5⟩, fun sig hs => by rw [hs] at g6; exact (Option.some.inj g6).symm, w1⟩, k3, w2⟩ ⟨ez_blind, ez_pre X hR hS⟩ rfl (by rw [List.length_map]; exact hna) hL.1 (by show (List.map (ez_v G) (As.reverse ++ .ref a :: st)) = _; simp [ez_v]) (by show 2 * 0 + _ ≤ 8; omega) hd ⟨by omega, by omega⟩)) (fun x h' n' hq => absurd hq (KX _ _ _)) K X hS hL (by omega) (by omega)
theorem ez_callN {G : ez_G} {M : ez_M} {d : Nat} {Q : ez_Q} {h : ez_H} {n mc ms pc q : Nat} {ls : List (Option Value)} {st : List Value} {M' : ez_M} {Q' : ez_Q} {idx na mc' ms' a : Nat} {As as st0 : List Value} (hd : decode M.2.1 pc = .ok (.invokespecial idx, 3)) (hck : ez_kN M.1.cls idx M' na) (htab : M'.2.2.2.2 = []) (hret : M'.2.2.2.1 = none) (hC : Con G M' d as h n mc' ms' Q') (has : as = .ref a :: As) (hst : st0 = As.reverse ++ .ref a :: st) (hna : As.length = na) (hrm : (st.map fun v => v.category).sum ≤ 8) (hq : pc + 3 = q)
    (KX : ∀ x h' n', ¬ Q' (.inr x) h' n') (K : ∀ r h' n', Q' (.inl r) h' n' → E G M (d + 1) Q h' n' mc ms q ls (r.toList ++ st)) : E G M (d + 1) Q h n (mc' + mc) (ms' + ms) pc ls st0 := by
  subst hq; subst has; subst hst
  intro p e R s m args below meth c H locs cells slots mt mS la X hR hS hL hc hs
  obtain ⟨⟨g1, g2, g3, ⟨g4, g5⟩, g6⟩, k1, k2, k3⟩ := hck
  have w1 := X.2.2.2.2.2.2.2.2.1.n k1 rfl
  have w2 := X.2.2.2.2.2.2.2.2.1.w k2 args
  have hcat := ez_st_cat G st
  refine ez_back (a := (Value.ref (ez_ad G a) :: As.map (ez_v G)).toArray) (ez_run_of (va_runIN (host := "FutureWishes") (nL := M.2.2.1) (bytes := M'.2.1) (maxL := M'.2.2.1) (n := na) (As := As.map (ez_v G)) (b := ez_ad G a) (Ts := []) ⟨X.1, X.2.1, X.2.2.2.2.2.1, X.2.2.2.1, fun w hw => nomatch hw⟩ (hC.met KX) ⟨⟨⟨rfl, rfl, by have := X.2.2.2.2.2.2.2.2.2.1; show d + 1 ≤ R.frames; omega, by have := X.2.2.2.2.2.2.2.2.2.2.1; show 8 + (M'.2.2.1 + 11) + 44 * d ≤ R.locals; omega, fun w hw a' U hW => (by
    rw [List.mem_singleton.mp hw]
    exact word_at hW (good_of_word g2.2) (X.2.2.2.2.2.2.2.2.1.w g2 args)), by rw [← hret, ← ez_wN htab]; exact List.mem_cons_self⟩, by rw [← hret, ← ez_wN htab]; exact X.2.2.2.2.2.2.2.2.1.w g2 args, X.2.2.2.2.2.2.2.2.1.w g1 args, ⟨g4, g5⟩, fun sig hs => by rw [hs] at g6; exact (Option.some.inj g6).symm, va_Nw.use rfl w1⟩, k3, w2⟩ ⟨ez_blind, ez_pre X hR hS⟩ rfl (by rw [List.length_map]; exact hna) hL.1 (by show (List.map (ez_v G) (As.reverse ++ .ref a :: st)) = _; simp [ez_v]) (by show 2 * 0 + _ ≤ 8; omega) hd ⟨by omega, by omega⟩)) (fun x h' n' hq => absurd hq (KX _ _ _)) K X hS hL (by omega) (by omega)
theorem EX_out {G : ez_G} {M : ez_M} {d : Nat} {Q : ez_Q} {h : ez_H} {n mc ms pc : Nat} {ls : List (Option Value)} {x : String} (htab : M.2.2.2.2 = []) (hQ : Q (.inr x) h n) : EX G M d Q h n mc ms pc ls x := by
  intro p e R s m args below meth c H locs cells slots mt mS la q9 ce rest X hR hS hL hc hs hce hcv hcl
  exact vx_out (by rw [X.2.2.2.2.2.2.2.1, htab]; intro x hx; cases hx) X.2.2.2.2.1 hce hcv hcl (fun t ht hA => ⟨⟨h, n, hQ, by rw [ht]; exact hR⟩, hS.F ht⟩) hS.2.2 (by omega) (by omega)
/-- a handler that puts the exception away: its first instruction is the store -/
theorem EX_catch {G : ez_G} {M : ez_M} {d : Nat} {Q : ez_Q} {h : ez_H} {n mc ms pc q : Nat} {ls : List (Option Value)} {x : String} {pre suf : List (Nat × Nat × Nat × Nat)} {hh : Nat × Nat × Nat × Nat} {ls' : List (Option Value)} {k len : Nat} (htab : M.2.2.2.2 = pre ++ hh :: suf) (hpass : ∀ z ∈ pre, z.2.2.2 ≠ 0 ∧ ∃ nm : String, ez_T (.classLink M.1.cls z.2.2.2 nm) ∧ (x, nm) ∈ ez_ncs) (hcov : covers ⟨hh.1, hh.2.1, hh.2.2.1, hh.2.2.2⟩ pc = true) (h0 : hh.2.2.2 ≠ 0) (hlk : ez_T (.classLink M.1.cls hh.2.2.2 x)) (hcs : Cond.castable x x ∈ lw_tbl)
    (hd : (∃ f : Fin 4, (f : Nat) = k ∧ decode M.2.1 hh.2.2.1 = .ok (.astore_n f, 1) ∧ len = 1) ∨ (decode M.2.1 hh.2.2.1 = .ok (.astore k, 2) ∧ len = 2)) (hn : k < M.2.2.1) (hs' : ls.set k none = ls') (hc' : k = 0 ∨ ∃ x, ls[k - 1]? = some x ∧ ez_c1 x = true) (hq : hh.2.2.1 + len = q) (K : E G M d Q h n mc ms q ls' []) : EX G M d Q h n mc ms pc ls x := by
  intro p e R s m args below meth c H locs cells slots mt mS la q9 ce rest X hR hS hL hc hs hce hcv hcl
  have hst : ∀ la' : Array Slot, lv_has la' M.2.2.1 ((k, Value.ref q9) :: (ez_prs G 0 ls).filter (fun q => !(q.1 == k) && !(q.1 + 1 == k && q.2.category == 2))) → ez_L G la' M.2.2.1 ls' := by
    intro la' hl'
    have h1 : lv_has la' M.2.2.1 ((k, ez_v G .null) :: (ez_prs G 0 ls).filter (fun q => !(q.1 == k) && !(q.1 + 1 == k && q.2.category == 2))) → ez_L G la' M.2.2.1 (ls.set k (some .null)) := fun hz => ez_L.st1 hz rfl hc'
    refine ez_L.of hl' (fun j y hy => ?_)
    subst hs'
    by_cases hj : j = k
    · subst hj
      rw [List.getElem?_set] at hy
      simp only [if_pos] at hy
      split at hy <;> cases hy
    · rw [List.getElem?_set_ne (Ne.symm hj)] at hy
      refine List.mem_cons_of_mem _ (List.mem_filter.mpr ⟨by have := ez_prs_of (G := G) (k := 0) hy; rwa [Nat.zero_add] at this, ?_⟩)
      have h1 : (j == k) = false := by simpa using hj
      simp only [h1, Bool.not_false, Bool.true_and, Bool.not_eq_true', Bool.and_eq_false_iff]
      by_cases h2 : j + 1 = k
      · right
        rcases hc' with hc' | ⟨u, hu, hc'⟩
        · omega
        · rw [show k - 1 = j by omega, hy] at hu
          cases hu
          simp only [ez_c1, Bool.not_eq_true'] at hc'
          rw [ez_v_cat]
          exact hc'
      · left
        simpa using h2
  refine vx_catch X.2.2.2.1 (tableOf pre) ⟨hh.1, hh.2.1, hh.2.2.1, hh.2.2.2⟩ (tableOf suf) (by rw [X.2.2.2.2.2.2.2.1, htab]; simp [tableOf]) (fun z hz => Or.inr ?_) hcov h0 (X.2.2.2.2.2.2.2.2.1.w hlk args) (va_Nw.use rfl (X.2.2.2.2.2.2.2.2.1.n hcs rfl)) hce hcv hcl ?_
  · obtain ⟨z0, hz0, rfl⟩ := List.mem_map.mp hz
    obtain ⟨a1, nm, a2, a3⟩ := hpass z0 hz0
    exact ⟨a1, nm, X.2.2.2.2.2.2.2.2.1.w a2 args, X.2.2.2.2.2.2.2.2.1.2.2.2.2.2.1 _ a3⟩
  · rcases hd with ⟨f, hf, hd, rfl⟩ | ⟨hd, rfl⟩
    · subst hq
      exact lv_astore_n X.1 X.2.1 hd hf hL.has hn rfl (fun la' hl' => K p e R s m args below meth c H locs cells slots mt mS la' X hR hS (hst la' hl') hc hs)
    · subst hq
      exact lv_astore X.1 X.2.1 hd hL.has hn rfl (fun la' hl' => K p e R s m args below meth c H locs cells slots mt mS la' X hR hS (hst la' hl') hc hs)
-- a method's start
def ez_sl : List Value → List (Option Value)
  | [] => []
  | v :: r => if v.category = 2 then some v :: none :: ez_sl r else some v :: ez_sl r
theorem ez_sl_len (G : ez_G) (as : List Value) : (lg_sl (as.map (ez_v G))).length = (ez_sl as).length := by
  induction as with
  | nil => rfl
  | cons v r ih =>
    have h1 : lg_sl ((v :: r).map (ez_v G)) = (if (ez_v G v).category = 2 then [.val (ez_v G v), .second] else [.val (ez_v G v)]) ++ lg_sl (r.map (ez_v G)) := by simp [lg_sl]
    rw [h1, ez_v_cat, ez_sl]
    split <;> simp [ih]
theorem ez_sl_args {G : ez_G} {x : Value} : ∀ {as : List Value} {i j : Nat}, (ez_sl as)[j]? = some (some x) → (i + j, ez_v G x) ∈ lv_args i (as.map (ez_v G)) := by
  intro as
  induction as with
  | nil => intro i j h; simp [ez_sl] at h
  | cons v r ih =>
    intro i j h
    show _ ∈ (i, ez_v G v) :: lv_args (if (ez_v G v).category = 2 then i + 2 else i + 1) (r.map (ez_v G))
    rw [ez_v_cat]
    rw [ez_sl] at h
    by_cases hv : v.category = 2
    · rw [if_pos hv] at h ⊢
      match j, h with
      | 0, h => cases h; exact List.mem_cons_self
      | 1, h => cases h
      | j + 2, h =>
        have h2 := ih (i := i + 2) (j := j) (by simpa using h)
        rw [show i + (j + 2) = i + 2 + j by omega]
        exact List.mem_cons_of_mem _ h2
    · rw [if_neg hv] at h ⊢
      match j, h with
      | 0, h => cases h; exact List.mem_cons_self
      | j + 1, h =>
        have h2 := ih (i := i + 1) (j := j) (by simpa using h)
        rw [show i + (j + 1) = i + 1 + j by omega]
        exact List.mem_cons_of_mem _ h2
theorem ez_L.entry {G : ez_G} {as : List Value} {nL : Nat} {ls : List (Option Value)} (hlen : (ez_sl as).length ≤ nL) (hls : ez_sl as ++ List.replicate (nL - (ez_sl as).length) none = ls) : ez_L G ((lg_sl (as.map (ez_v G)) ++ List.replicate (nL - (lg_sl (as.map (ez_v G))).length) Slot.unset).toArray) nL ls := by
  subst hls
  refine ez_L.of (lv_entry (as.map (ez_v G)) (n := nL) (by rw [ez_sl_len]; exact hlen)) (fun j x hx => ?_)
  by_cases hj : j < (ez_sl as).length
  · rw [List.getElem?_append_left hj] at hx
    have := ez_sl_args (G := G) (i := 0) hx
    rwa [Nat.zero_add] at this
  · rw [List.getElem?_append_right (by omega), List.getElem?_replicate] at hx
    split at hx <;> cases hx
theorem Con.of {G : ez_G} {M : ez_M} {d : Nat} {as : List Value} {h : ez_H} {n mc ms : Nat} {Q : ez_Q} (ls : List (Option Value)) (hpl : plainName M.1.cls = true) (htab : M.2.2.2.2 = []) (hlen : (ez_sl as).length ≤ M.2.2.1) (hls : ez_sl as ++ List.replicate (M.2.2.1 - (ez_sl as).length) none = ls) (K : E G M d Q h n mc ms 0 ls []) : Con G M d as h n mc ms Q := by
  refine vx_ofW (cc := M.2.1) (maxL := M.2.2.1) (ret := M.2.2.2.1) hpl (by rw [ez_wN htab]) ?_
  intro p e s m args below meth c s₁ B hml ht hv
  obtain ⟨rfl, hR, hK⟩ := hv
  rw [lg_entry_eq]
  have hz := hR.1
  have hz2 := hR.2.1
  refine K p e _ s m _ below meth c s.heap [] 0 0 mc ms _ ⟨B.exec, B.bytes, B.returns, findClass_of_methodNamed B.named, B.notSynchronized, hml, (name_of_methodNamed B.named B.method).1, ?_, hK, Nat.le_refl _, Nat.le_refl _, by omega⟩ hR va_S.rf (ez_L.entry hlen hls) ⟨by omega, Nat.le_refl _⟩ ⟨by omega, Nat.le_refl _⟩
  rw [htab]
  cases hct : c.exceptionTable.toList with
  | nil => rfl
  | cons x r => exact absurd (by rw [hct]; exact List.mem_cons_self) (ht x)
theorem Con.ofH {G : ez_G} {M : ez_M} {d : Nat} {as : List Value} {h : ez_H} {n mc ms : Nat} {Q : ez_Q} {hh0 : Nat × Nat × Nat × Nat} {hh1 : List (Nat × Nat × Nat × Nat)} (ls : List (Option Value)) (hpl : plainName M.1.cls = true) (htab : M.2.2.2.2 = hh0 :: hh1) (hlen : (ez_sl as).length ≤ M.2.2.1) (hls : ez_sl as ++ List.replicate (M.2.2.1 - (ez_sl as).length) none = ls) (K : E G M d Q h n mc ms 0 ls []) : Con G M d as h n mc ms Q := by
  have hwe : ez_w M = .codeWith M.1 M.2.1 M.2.2.1 M.2.2.2.1 (hh0 :: hh1) := by rw [ez_w, htab]
  refine vx_ofWH (cc := M.2.1) (maxL := M.2.2.1) (ret := M.2.2.2.1) (hh := hh0 :: hh1) hpl (by rw [hwe]) ?_
  intro p e s m args below meth c s₁ B hml hv
  obtain ⟨rfl, hR, hK⟩ := hv
  rw [lg_entry_eq]
  have hz := hR.1
  have hz2 := hR.2.1
  have ht := vx_table (x := M.1) B (by rw [← hwe]; exact atoms_spec (ws := [ez_w M]) B.pre _ List.mem_cons_self)
  exact K p e _ s m _ below meth c s.heap [] 0 0 mc ms _ ⟨B.exec, B.bytes, B.returns, findClass_of_methodNamed B.named, B.notSynchronized, hml, (name_of_methodNamed B.named B.method).1, by rw [ht, htab], hK, Nat.le_refl _, Nat.le_refl _, by omega⟩ hR va_S.rf (ez_L.entry hlen hls) ⟨by omega, Nat.le_refl _⟩ ⟨by omega, Nat.le_refl _⟩
/-- a weaker end -/
theorem Con.weaken {G : ez_G} {M : ez_M} {d : Nat} {as : List Value} {h : ez_H} {n mc ms : Nat} {Q Q' : ez_Q} (hC : Con G M d as h n mc ms Q) (hq : ∀ r h n, Q r h n → Q' r h n) : Con G M d as h n mc ms Q' := by
  intro p e h1 h2 h3 s m args below h4 h5 h6 h7
  obtain ⟨k, o, g1, g2, g3, g4⟩ := hC p e h1 h2 h3 s m args below h4 h5 h6 h7
  refine ⟨k, o, g1, g2, g3, ?_⟩
  rcases g4 with ⟨⟨⟨r, h', n', a1, a2, a3⟩, hF⟩, g⟩ | ⟨q9, a0, E9, ce, L, ⟨⟨h', n', hq9, a3⟩, hF⟩, g⟩
  · exact Or.inl ⟨⟨⟨r, h', n', a1, hq _ _ _ a2, a3⟩, hF⟩, g⟩
  · exact Or.inr ⟨q9, a0, E9, ce, L, ⟨⟨h', n', hq _ _ _ hq9, a3⟩, hF⟩, g⟩
/-- fewer cells said -/
theorem E.sub {G : ez_G} {M : ez_M} {d : Nat} {Q : ez_Q} {h : ez_H} {n mc ms pc : Nat} {ls : List (Option Value)} {st : List Value} {h' : ez_H} (hsb : ∀ i e, h' i = some e → h i = some e) (K : E G M d Q h' n mc ms pc ls st) : E G M d Q h n mc ms pc ls st := by
  intro p e R s m args below meth c H locs cells slots mt mS la X hR hS hL hc hs
  exact K p e R s m args below meth c H locs cells slots mt mS la X (hR.sub hsb) hS hL hc hs
/-- fewer locals known -/
theorem E.lsub {G : ez_G} {M : ez_M} {d : Nat} {Q : ez_Q} {h : ez_H} {n mc ms pc : Nat} {ls : List (Option Value)} {st : List Value} {ls' : List (Option Value)} (hl : ∀ (j : Nat) (x : Value), ls'[j]? = some (some x) → ls[j]? = some (some x)) (K : E G M d Q h n mc ms pc ls' st) : E G M d Q h n mc ms pc ls st := by
  intro p e R s m args below meth c H locs cells slots mt mS la X hR hS hL hc hs
  exact K p e R s m args below meth c H locs cells slots mt mS la X hR hS (hL.sub hl) hc hs
/-- less left to make -/
theorem E.less {G : ez_G} {M : ez_M} {d : Nat} {Q : ez_Q} {h : ez_H} {n mc ms pc : Nat} {ls : List (Option Value)} {st : List Value} {mc' ms' : Nat} (h1 : mc' ≤ mc) (h2 : ms' ≤ ms) (K : E G M d Q h n mc' ms' pc ls st) : E G M d Q h n mc ms pc ls st := by
  intro p e R s m args below meth c H locs cells slots mt mS la X hR hS hL hc hs
  exact K p e R s m args below meth c H locs cells slots mt mS la X hR hS hL (by omega) (by omega)
