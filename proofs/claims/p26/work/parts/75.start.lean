theorem st_arr {s : State} {args : Array Value} {ty : FieldType} (h : (Cond.arrayClass ty).before args s = true) : ∃ cA, ArrOfT s cA ty ∧ s.vm.findClass ("[" ++ ty.toString) = some cA := by
  obtain ⟨cA, kA, comp, h1, h2, h3⟩ := Cond.arrayClass_spec h
  exact ⟨cA, fun n z => ⟨fun k h => (by cases h), kA, h2, comp, h3⟩, h1⟩
theorem st_over {s : State} {args : Array Value} {C : String} (h : (Cond.arrayOver (.object C)).before args s = true) : ∃ cA, ArrOfT s cA (.object C) ∧ va_RA s cA (.object C) := by
  obtain ⟨comp, cA, kA, h1, -, h2, h3, h4⟩ := Cond.arrayOver_spec h
  exact ⟨cA, fun n z => ⟨fun k h => (by cases h), kA, h2, comp, h3⟩, kA, comp, h2, h3, h1, h4⟩
theorem st_inst : ∀ ci, ci < 8 → ez_T (.instantiable (ez_cl ci).1 (ez_cl ci).2.2) := by
  intro ci h
  rcases (by omega : ci = 0 ∨ ci = 1 ∨ ci = 2 ∨ ci = 3 ∨ ci = 4 ∨ ci = 5 ∨ ci = 6 ∨ ci = 7) with rfl | rfl | rfl | rfl | rfl | rfl | rfl | rfl
  · exact ez_in0
  · exact ez_in1
  · exact ez_in2
  · exact ez_in3
  · exact ez_in4
  · exact ez_in5
  · exact ez_in6
  · exact ez_in7
theorem st_strs : ∀ q ∈ ez_strs, Cond.stringRef RX7 q.1 q.2 ∈ lw_tbl := by decide +kernel
theorem st_isn {s : State} {args : Array Value} {w : Cond} (h : ez_isn w = true) (hz : w.before args s = true) : va_Nw w s := by
  cases w with
  | castable a b => exact va_Nw.of rfl hz
  | declares x => exact va_Nw.of rfl hz
  | methodLinkNest a i x b => exact va_Nw.of rfl hz
  | arrayOver ty =>
    cases ty with
    | object C => exact va_AO.of hz
    | _ => exact absurd h (by simp [ez_isn])
  | _ => exact absurd h (by simp [ez_isn])
theorem start_K {s : State} {b L : Nat} {xs : Nat → Int32} (l : Launch) (hflags : l.flags = flags0) (hts : ∀ w ∈ lw_tbl, w.before #[Value.ref b] s = true) (hX : va_X b L xs s s.heap) (hgv : (Jvm.Cond.and given_1 narrow_1).before #[Value.ref b] s = true) : ∃ G : ez_G, ez_l G = l ∧ ez_b G = b ∧ ez_o G = s.heap.size ∧ ez_N G = L ∧ ez_sc G = xs ∧ ez_K G s := by
  have hs := flat_of_before _ hgv
  have hk : ∀ ci, ∃ (cC : ClassId) (iS : Nat → Nat), ci < 8 → u_Kn s (ez_cl ci).1 (ez_cl ci).2.1 (ez_cl ci).2.2 cC iS := by
    intro ci
    by_cases h : ci < 8
    · obtain ⟨cC, iS, h1⟩ := u_known (ws := u_ws (ez_cl ci).1 (ez_cl ci).2.1 (ez_cl ci).2.2) (fun w hw => hts w (ez_lay h hw).1) (fun _ h9 => h9) (hts _ (st_inst ci h).1)
      exact ⟨cC, iS, fun _ => h1⟩
    · exact ⟨0, fun _ => 0, fun h9 => absurd h9 h⟩
  obtain ⟨c0, a0, b0⟩ := st_arr (hts _ ez_tI.1)
  obtain ⟨c1, a1, b1⟩ := st_arr (hts _ ez_tC.1)
  obtain ⟨c2, a2, b2⟩ := st_arr (hts (Cond.arrayClass .byte) (by decide +kernel))
  obtain ⟨c3, a3, b3⟩ := st_over (hts _ ez_tS)
  have hA : ∀ a : Nat, a < s.heap.size → ¬ s.heap.size ≤ a := fun a h => Nat.not_le.mpr h
  refine ⟨(l, fun ci => Classical.choose (hk ci), fun ci => Classical.choose (Classical.choose_spec (hk ci)), fun k => match k with | 0 => c0 | 1 => c1 | 2 => c2 | _ => c3, b, s.heap.size, L, xs), rfl, rfl, rfl, rfl, rfl, ?_, ⟨?_, ?_⟩, ?_, ?_, ?_, ?_, ?_, hX, hX.lt⟩
  · show l.stackTraces = false
    rw [Launch.stackTraces, hflags]
    decide +kernel
  · intro c q hq
    have hc : c < 8 := (List.getElem?_eq_some_iff.mp hq).1
    rw [ez_cl_get hc] at hq
    cases hq
    exact Classical.choose_spec (Classical.choose_spec (hk c)) hc
  · intro k q hq
    have hc : k < 4 := (List.getElem?_eq_some_iff.mp hq).1
    rcases (by omega : k = 0 ∨ k = 1 ∨ k = 2 ∨ k = 3) with rfl | rfl | rfl | rfl
    · cases hq
      exact ⟨a0, b0⟩
    · cases hq
      exact ⟨a1, b1⟩
    · cases hq
      exact ⟨a2, b2⟩
    · cases hq
      exact ⟨a3, b3⟩
  · exact vx_Zqof (hts _ (by decide +kernel)) (hts _ (by decide +kernel)) (hs _ (by decide +kernel)) hA
  · exact vx_Zqof (hts _ (by decide +kernel)) (hts _ (by decide +kernel)) (hs _ (by decide +kernel)) hA
  · intro q hq
    obtain ⟨cC, kC, hfc, -⟩ := Cond.instantiable_spec (hts _ (st_inst 7 (by decide)).1)
    have h1 := hts _ (st_strs q hq)
    obtain ⟨k, cf, i, a, -, -, -, -, -, h2⟩ := Cond.stringRef_spec (cls := RX7) hfc h1
    exact ⟨a, vk_R.of h1 h2⟩
  · intro q hq
    exact absurd hq (by simp [ez_ncs])
  · intro w hw hg
    rcases Bool.or_eq_true_iff.mp hg with g | g
    · exact word_at (State.WarmedH.refl s) (good_of_word g) (hts w hw)
    · exact st_isn g (hts w hw)
theorem whole_start {p : Program} {e : Env} {s : State} {m : MethodId} {below : List Frame} {meth : Method} {c : Code} (l : Launch) (hflags : l.flags = flags0) {b L : Nat} {xs : Nat → Int32} (hL : L ≤ 260) (C0 : lw_At p s m meth c b L xs) : W p l e room_1 s m #[Value.ref b] below meth c s.heap [] 0 0 (lw_Z below #[Value.ref b] s) (entryFrame m ([Value.ref b] : List Value).toArray 16) := by
  obtain ⟨q1, q2, q3, q4, q5, q6, q7, q8, q9, q10⟩ := C0
  obtain ⟨G, rfl, rfl, ho, hN, hsc, hK⟩ := start_K l hflags q6 q7 q10
  have tab : c.exceptionTable.toList = tableOf (c.exceptionTable.toList.map fun x => (x.startPc, x.endPc, x.handlerPc, x.catchType)) := by
    rw [tableOf, List.map_map]
    exact (List.map_id _).symm
  have K := law_run (G := G) (nm := meth.name) (hh := c.exceptionTable.toList.map fun x => (x.startPc, x.endPc, x.handlerPc, x.catchType)) (N := L) (sc := xs) (Q := fun r _ _ => r = .inl (some (.int 1))) hL ⟨hN, hsc⟩ (fun _ _ => rfl)
  have hR : ez_R G scH 1 s.heap := ⟨by rw [ho], by decide, by rw [ho]; exact q8, fun i e h => nomatch h⟩
  rw [lg_entry_eq]
  have K2 := K p e room_1 s m #[Value.ref (ez_b G)] below meth c s.heap [] 0 0 600130 7301079 _ ⟨q1, q2, q3, q5, q9, q4, rfl, tab, hK, by decide, by decide, by rw [ho]; exact Nat.le_refl _⟩ hR va_S.rf (ez_L.entry (G := G) (as := [.ref 0]) (nL := 16) (by decide) rfl) ⟨by decide, by decide⟩ ⟨by decide, by decide⟩
  intro T hT X
  obtain ⟨t, a1, o, b1, b2, b3⟩ := K2 T hT X
  refine ⟨t, a1, o, b1, b2, ?_⟩
  rcases b3 with ⟨⟨⟨r, h', n', e1, e2, -⟩, -⟩, Ls, ⟨hv, hW, hsm⟩, hfree⟩ | ⟨q, -, E9, ce, Ls, ⟨⟨h', n', hx, -⟩, -⟩, -⟩
  · cases e2
    have hsm2 := State.sameButNew.drop_fresh (L := []) (J := Ls) hsm (fun x hx => by have := hfree x hx; rw [ez_A, ho] at this; exact this)
    exact ⟨e1, lw_closed (Drawn.sameBut.refl s.drawn lw_cs) ⟨_, e1⟩ hW hsm2⟩
  · cases hx
