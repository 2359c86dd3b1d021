def Z0 : Nat → Int32 := fun _ => 0
theorem i_put {G : ez_G} {M : ez_M} {d : Nat} {Q : ez_Q} {h : ez_H} {n mc ms pc q idx : Nat} {ls : List (Option Value)} {st : List Value} {a ci k : Nat} {fs : List Value} {v : Value} (hd : decode M.2.1 pc = .ok (.putfield idx, 3)) (hf : ez_fl M.1.cls idx ci k) (hfin : ((ez_cl ci).2.1 k).2.2.2 = false) (hn : ∀ G, narrow (ez_tyf ci k) (ez_v G v) = ez_v G v) (hfit : ∀ G, fits (ez_tyf ci k) (ez_v G v) = true) (ha : 0 < a) (hc0 : h a = some (.inr (ci, fs))) (hl : k < fs.length) (hq : pc + 3 = q) (K : ∀ g, g a = some (.inr (ci, fs.set k v)) → (∀ j, j ≠ a → g j = h j) → E G M d Q g n mc ms q ls st) : E G M d Q h n mc ms pc ls (v :: .ref a :: st) := ez_put0 hd hf hfin hn hfit ha hc0 hl hq (K _ zu_same (fun j hj => zu_fr hj rfl))
theorem i_putF {G : ez_G} {M : ez_M} {d : Nat} {Q : ez_Q} {h : ez_H} {n mc ms pc q idx : Nat} {ls : List (Option Value)} {st : List Value} {a ci k : Nat} {fs : List Value} {v : Value} (hd : decode M.2.1 pc = .ok (.putfield idx, 3)) (hf : ez_fl M.1.cls idx ci k) (hfin : ((ez_cl ci).2.1 k).2.2.2 = true) (hini : M.1.name = "<init>") (hdecl : ((ez_cl ci).2.1 k).1 = M.1.cls) (hn : ∀ G, narrow (ez_tyf ci k) (ez_v G v) = ez_v G v) (hfit : ∀ G, fits (ez_tyf ci k) (ez_v G v) = true) (ha : 0 < a) (hc0 : h a = some (.inr (ci, fs))) (hl : k < fs.length) (hq : pc + 3 = q) (K : ∀ g, g a = some (.inr (ci, fs.set k v)) → (∀ j, j ≠ a → g j = h j) → E G M d Q g n mc ms q ls st) : E G M d Q h n mc ms pc ls (v :: .ref a :: st) := ez_putF0 hd hf hfin hini hdecl hn hfit ha hc0 hl hq (K _ zu_same (fun j hj => zu_fr hj rfl))
theorem i_new0 {G : ez_G} {M : ez_M} {d : Nat} {Q : ez_Q} {h : ez_H} {n mc ms pc q idx : Nat} {ls : List (Option Value)} {st : List Value} (hd : decode M.2.1 pc = .ok (.new idx, 3)) (hk : ez_T (.classLink M.1.cls idx (ez_cl 0).1)) (hq : pc + 3 = q) (K : ∀ g, g n = some (.inr (0, [.null, .int 0, .int 0, .int 0, .int 0])) → (∀ j, j ≠ n → g j = h j) → E G M d Q g (n + 1) mc ms q ls (.ref n :: st)) : E G M d Q h n (mc + 1) (ms + 5) pc ls st := ez_new (ci := 0) (N := 5) (fs := [.null, .int 0, .int 0, .int 0, .int 0]) hd (by decide) hk ez_in0 ez_ii0 rfl (fun G j hj => by
    have hj : j < 5 := hj
    rcases (by omega : j = 0 ∨ j = 1 ∨ j = 2 ∨ j = 3 ∨ j = 4) with rfl | rfl | rfl | rfl | rfl <;> rfl) hq (K _ zu_same (fun j hj => zu_fr hj rfl))
theorem i_new1 {G : ez_G} {M : ez_M} {d : Nat} {Q : ez_Q} {h : ez_H} {n mc ms pc q idx : Nat} {ls : List (Option Value)} {st : List Value} (hd : decode M.2.1 pc = .ok (.new idx, 3)) (hk : ez_T (.classLink M.1.cls idx (ez_cl 1).1)) (hq : pc + 3 = q) (K : ∀ g, g n = some (.inr (1, [.int 0, .int 0, .null])) → (∀ j, j ≠ n → g j = h j) → E G M d Q g (n + 1) mc ms q ls (.ref n :: st)) : E G M d Q h n (mc + 1) (ms + 3) pc ls st := ez_new (ci := 1) (N := 3) (fs := [.int 0, .int 0, .null]) hd (by decide) hk ez_in1 ez_ii1 rfl (fun G j hj => by
    have hj : j < 3 := hj
    rcases (by omega : j = 0 ∨ j = 1 ∨ j = 2) with rfl | rfl | rfl <;> rfl) hq (K _ zu_same (fun j hj => zu_fr hj rfl))
theorem i_new2 {G : ez_G} {M : ez_M} {d : Nat} {Q : ez_Q} {h : ez_H} {n mc ms pc q idx : Nat} {ls : List (Option Value)} {st : List Value} (hd : decode M.2.1 pc = .ok (.new idx, 3)) (hk : ez_T (.classLink M.1.cls idx (ez_cl 2).1)) (hq : pc + 3 = q) (K : ∀ g, g n = some (.inr (2, [.null, .null, .int 0, .null, .null, .null, .null, .null])) → (∀ j, j ≠ n → g j = h j) → E G M d Q g (n + 1) mc ms q ls (.ref n :: st)) : E G M d Q h n (mc + 1) (ms + 8) pc ls st := ez_new (ci := 2) (N := 8) (fs := [.null, .null, .int 0, .null, .null, .null, .null, .null]) hd (by decide) hk ez_in2 ez_ii2 rfl (fun G j hj => by
    have hj : j < 8 := hj
    rcases (by omega : j = 0 ∨ j = 1 ∨ j = 2 ∨ j = 3 ∨ j = 4 ∨ j = 5 ∨ j = 6 ∨ j = 7) with rfl | rfl | rfl | rfl | rfl | rfl | rfl | rfl <;> rfl) hq (K _ zu_same (fun j hj => zu_fr hj rfl))
theorem i_new3 {G : ez_G} {M : ez_M} {d : Nat} {Q : ez_Q} {h : ez_H} {n mc ms pc q idx : Nat} {ls : List (Option Value)} {st : List Value} (hd : decode M.2.1 pc = .ok (.new idx, 3)) (hk : ez_T (.classLink M.1.cls idx (ez_cl 3).1)) (hq : pc + 3 = q) (K : ∀ g, g n = some (.inr (3, [.int 0, .int 0, .null, .null, .null, .null])) → (∀ j, j ≠ n → g j = h j) → E G M d Q g (n + 1) mc ms q ls (.ref n :: st)) : E G M d Q h n (mc + 1) (ms + 6) pc ls st := ez_new (ci := 3) (N := 6) (fs := [.int 0, .int 0, .null, .null, .null, .null]) hd (by decide) hk ez_in3 ez_ii3 rfl (fun G j hj => by
    have hj : j < 6 := hj
    rcases (by omega : j = 0 ∨ j = 1 ∨ j = 2 ∨ j = 3 ∨ j = 4 ∨ j = 5) with rfl | rfl | rfl | rfl | rfl | rfl <;> rfl) hq (K _ zu_same (fun j hj => zu_fr hj rfl))
theorem i_new4 {G : ez_G} {M : ez_M} {d : Nat} {Q : ez_Q} {h : ez_H} {n mc ms pc q idx : Nat} {ls : List (Option Value)} {st : List Value} (hd : decode M.2.1 pc = .ok (.new idx, 3)) (hk : ez_T (.classLink M.1.cls idx (ez_cl 4).1)) (hq : pc + 3 = q) (K : ∀ g, g n = some (.inr (4, [.int 0, .null, .int 0, .int 0])) → (∀ j, j ≠ n → g j = h j) → E G M d Q g (n + 1) mc ms q ls (.ref n :: st)) : E G M d Q h n (mc + 1) (ms + 4) pc ls st := ez_new (ci := 4) (N := 4) (fs := [.int 0, .null, .int 0, .int 0]) hd (by decide) hk ez_in4 ez_ii4 rfl (fun G j hj => by
    have hj : j < 4 := hj
    rcases (by omega : j = 0 ∨ j = 1 ∨ j = 2 ∨ j = 3) with rfl | rfl | rfl | rfl <;> rfl) hq (K _ zu_same (fun j hj => zu_fr hj rfl))
theorem i_new5 {G : ez_G} {M : ez_M} {d : Nat} {Q : ez_Q} {h : ez_H} {n mc ms pc q idx : Nat} {ls : List (Option Value)} {st : List Value} (hd : decode M.2.1 pc = .ok (.new idx, 3)) (hk : ez_T (.classLink M.1.cls idx (ez_cl 5).1)) (hq : pc + 3 = q) (K : ∀ g, g n = some (.inr (5, [.int 0, .int 0, .null, .null])) → (∀ j, j ≠ n → g j = h j) → E G M d Q g (n + 1) mc ms q ls (.ref n :: st)) : E G M d Q h n (mc + 1) (ms + 4) pc ls st := ez_new (ci := 5) (N := 4) (fs := [.int 0, .int 0, .null, .null]) hd (by decide) hk ez_in5 ez_ii5 rfl (fun G j hj => by
    have hj : j < 4 := hj
    rcases (by omega : j = 0 ∨ j = 1 ∨ j = 2 ∨ j = 3) with rfl | rfl | rfl | rfl <;> rfl) hq (K _ zu_same (fun j hj => zu_fr hj rfl))
theorem i_new6 {G : ez_G} {M : ez_M} {d : Nat} {Q : ez_Q} {h : ez_H} {n mc ms pc q idx : Nat} {ls : List (Option Value)} {st : List Value} (hd : decode M.2.1 pc = .ok (.new idx, 3)) (hk : ez_T (.classLink M.1.cls idx (ez_cl 6).1)) (hq : pc + 3 = q) (K : ∀ g, g n = some (.inr (6, [.null, .null, .null, .int 0, .null])) → (∀ j, j ≠ n → g j = h j) → E G M d Q g (n + 1) mc ms q ls (.ref n :: st)) : E G M d Q h n (mc + 1) (ms + 5) pc ls st := ez_new (ci := 6) (N := 5) (fs := [.null, .null, .null, .int 0, .null]) hd (by decide) hk ez_in6 ez_ii6 rfl (fun G j hj => by
    have hj : j < 5 := hj
    rcases (by omega : j = 0 ∨ j = 1 ∨ j = 2 ∨ j = 3 ∨ j = 4) with rfl | rfl | rfl | rfl | rfl <;> rfl) hq (K _ zu_same (fun j hj => zu_fr hj rfl))
theorem i_new7 {G : ez_G} {M : ez_M} {d : Nat} {Q : ez_Q} {h : ez_H} {n mc ms pc q idx : Nat} {ls : List (Option Value)} {st : List Value} (hd : decode M.2.1 pc = .ok (.new idx, 3)) (hk : ez_T (.classLink M.1.cls idx (ez_cl 7).1)) (hq : pc + 3 = q) (K : ∀ g, g n = some (.inr (7, [.null, .null, .null, .null, .null, .null])) → (∀ j, j ≠ n → g j = h j) → E G M d Q g (n + 1) mc ms q ls (.ref n :: st)) : E G M d Q h n (mc + 1) (ms + 6) pc ls st := ez_new (ci := 7) (N := 6) (fs := [.null, .null, .null, .null, .null, .null]) hd (by decide) hk ez_in7 ez_ii7 rfl (fun G j hj => by
    have hj : j < 6 := hj
    rcases (by omega : j = 0 ∨ j = 1 ∨ j = 2 ∨ j = 3 ∨ j = 4 ∨ j = 5) with rfl | rfl | rfl | rfl | rfl | rfl <;> rfl) hq (K _ zu_same (fun j hj => zu_fr hj rfl))
theorem i_newi {G : ez_G} {M : ez_M} {d : Nat} {Q : ez_Q} {h : ez_H} {n mc ms pc q : Nat} {ls : List (Option Value)} {st : List Value} (len : Nat) {i : Int32} (hd : decode M.2.1 pc = .ok (.newarray .int, 2)) (hi : i = nI len) (hlen : len < 100000) (hq : pc + 2 = q) (K : ∀ g, g n = some (.inl (0, len, .inl (fun _ => 0))) → (∀ j, j ≠ n → g j = h j) → E G M d Q g (n + 1) mc ms q ls (.ref n :: st)) : E G M d Q h n (mc + 1) (ms + len) pc ls (.int i :: st) := ez_newi hd ez_tI hi hlen hq (K _ zu_same (fun j hj => zu_fr hj rfl))
theorem i_newch {G : ez_G} {M : ez_M} {d : Nat} {Q : ez_Q} {h : ez_H} {n mc ms pc q : Nat} {ls : List (Option Value)} {st : List Value} (len : Nat) {i : Int32} (hd : decode M.2.1 pc = .ok (.newarray .char, 2)) (hi : i = nI len) (hlen : len < 100000) (hq : pc + 2 = q) (K : ∀ g, g n = some (.inl (1, len, .inl (fun _ => 0))) → (∀ j, j ≠ n → g j = h j) → E G M d Q g (n + 1) mc ms q ls (.ref n :: st)) : E G M d Q h n (mc + 1) (ms + len) pc ls (.int i :: st) := ez_newch hd ez_tC hi hlen hq (K _ zu_same (fun j hj => zu_fr hj rfl))
theorem i_anew {G : ez_G} {M : ez_M} {d : Nat} {Q : ez_Q} {h : ez_H} {n mc ms pc q idx : Nat} {ls : List (Option Value)} {st : List Value} (len : Nat) {i : Int32} (hd : decode M.2.1 pc = .ok (.anewarray idx, 3)) (hk : ez_T (.classLink M.1.cls idx "FutureWishes$State")) (hi : i = nI len) (hlen : len < 100000) (hq : pc + 3 = q) (K : ∀ g, g n = some (.inl (3, len, .inr (.inr (.inr (.inr (fun _ => none)))))) → (∀ j, j ≠ n → g j = h j) → E G M d Q g (n + 1) mc ms q ls (.ref n :: st)) : E G M d Q h n (mc + 1) (ms + len) pc ls (.int i :: st) := ez_anew hd hk ez_tS hi hlen hq (K _ zu_same (fun j hj => zu_fr hj rfl))
theorem i_aast {G : ez_G} {M : ez_M} {d : Nat} {Q : ez_Q} {h : ez_H} {n mc ms pc q : Nat} {ls : List (Option Value)} {st : List Value} {a len j v : Nat} {f : Nat → Option Nat} {fs : List Value} {i : Int32} (hd : decode M.2.1 pc = .ok (.aastore, 1)) (ha : 0 < a) (hc0 : h a = some (.inl (3, len, .inr (.inr (.inr (.inr f)))))) (hv : h v = some (.inr (3, fs))) (hi : i = nI j) (hj : j < len) (hlen : len < 2 ^ 31) (hq : pc + 1 = q) (K : ∀ g, g a = some (.inl (3, len, .inr (.inr (.inr (.inr (va_up f j (some v))))))) → (∀ j, j ≠ a → g j = h j) → E G M d Q g n mc ms q ls st) : E G M d Q h n mc ms pc ls (.ref v :: .int i :: .ref a :: st) := ez_aast hd ha hc0 hv hi hj hlen hq (K _ zu_same (fun j hj => zu_fr hj rfl))
theorem i_ast {G : ez_G} {M : ez_M} {d : Nat} {Q : ez_Q} {h : ez_H} {n mc ms pc q : Nat} {ls : List (Option Value)} {st : List Value} {a len j : Nat} {f : Nat → Int32} {i x : Int32} (hd : decode M.2.1 pc = .ok (.iastore, 1)) (ha : 0 < a) (hc0 : h a = some (.inl (0, len, .inl f))) (hi : i = nI j) (hj : j < len) (hlen : len < 2 ^ 31) (hq : pc + 1 = q) (K : ∀ g, g a = some (.inl (0, len, .inl (upd f j x))) → (∀ j, j ≠ a → g j = h j) → E G M d Q g n mc ms q ls st) : E G M d Q h n mc ms pc ls (.int x :: .int i :: .ref a :: st) := ez_iast hd ha hc0 hi hj hlen hq (K _ zu_same (fun j hj => zu_fr hj rfl))
theorem i_callI {G : ez_G} {M M' : ez_M} {d na : Nat} {Q : ez_Q} {h : ez_H} {n n2 mc ms mc' ms' pc q idx a : Nat} {ls : List (Option Value)} {st st0 As as : List Value} {W : ez_H → Prop} (hd : decode M.2.1 pc = .ok (.invokespecial idx, 3)) (hck : ez_kI M.1.cls idx M' na) (hC : Con G M' d as h n mc' ms' (PW n2 none W)) (htab : M'.2.2.2.2 = []) (hret : M'.2.2.2.1 = none) (has : as = .ref a :: As) (hst : st0 = As.reverse ++ .ref a :: st) (hna : As.length = na) (hrm : (st.map fun v => v.category).sum ≤ 8) (hq : pc + 3 = q) (K : ∀ g, W g → E G M (d + 1) Q g n2 mc ms q ls st) : E G M (d + 1) Q h n (mc' + mc) (ms' + ms) pc ls st0 := ez_callI hd hck htab hret hC has hst hna hrm hq (fun x h' n' hx => by cases hx.1) (fun r g m hx => by
    obtain ⟨h1, h2, rfl⟩ := hx
    cases h1
    exact K g h2)
theorem i_callN {G : ez_G} {M M' : ez_M} {d na : Nat} {Q : ez_Q} {h : ez_H} {n n2 mc ms mc' ms' pc q idx a : Nat} {ls : List (Option Value)} {st st0 As as : List Value} {W : ez_H → Prop} (hd : decode M.2.1 pc = .ok (.invokespecial idx, 3)) (hck : ez_kN M.1.cls idx M' na) (hC : Con G M' d as h n mc' ms' (PW n2 none W)) (htab : M'.2.2.2.2 = []) (hret : M'.2.2.2.1 = none) (has : as = .ref a :: As) (hst : st0 = As.reverse ++ .ref a :: st) (hna : As.length = na) (hrm : (st.map fun v => v.category).sum ≤ 8) (hq : pc + 3 = q) (K : ∀ g, W g → E G M (d + 1) Q g n2 mc ms q ls st) : E G M (d + 1) Q h n (mc' + mc) (ms' + ms) pc ls st0 := ez_callN hd hck htab hret hC has hst hna hrm hq (fun x h' n' hx => by cases hx.1) (fun r g m hx => by
    obtain ⟨h1, h2, rfl⟩ := hx
    cases h1
    exact K g h2)

set_option maxHeartbeats 800000 in
set_option maxRecDepth 100000 in
theorem i_X3 {G : ez_G} {d : Nat} {h : ez_H} {a : Nat} (ha : 0 < a) (f0 : h a = some (.inr (3, [.int 0, .int 0, .null, .null, .null, .null])))  : Con G mX3_init (d + 1) [.ref a] h (a + 1) 4 184 (PW (a + 5) none (fun g => (SW a g g (nI 0) (-1) Z0 Z0 Z0 Z0) ∧ ∀ j, j < a → g j = h j)) := by
  refine Con.of [some (.ref a)] pl_X3 rfl (Nat.le_of_ble_eq_true rfl) rfl ?_
  have hfr : ∀ j, j < a → h j = h j := fun _ _ => rfl
  refine ez_aload_n (q := 1) 0 dX3_init_0 rfl rfl rfl ?_
  refine ez_objInit (q := 4) dX3_init_1 oi_X3 oi_i oi_c (Nat.le_of_ble_eq_true rfl) rfl ?_
  refine ez_aload_n (q := 5) 0 dX3_init_4 rfl rfl rfl ?_
  refine ez_iconst (v := nI 0) (q := 6) dX3_init_5 (by decide) rfl ?_
  refine i_put (q := 9) dX3_init_6 fl_X3_9 rfl (fun _ => rfl) (fun _ => rfl) (by omega) f0 (Nat.le_of_ble_eq_true rfl) rfl (fun g f0z hw1 => ?_)
  have f0 := f0z
  have hfr := fun j (hj : j < a) => (hw1 j (by omega)).trans (hfr j hj)
  refine ez_aload_n (q := 10) 0 dX3_init_9 rfl rfl rfl ?_
  refine ez_iconst (v := -1) (q := 11) dX3_init_10 (by decide) rfl ?_
  refine i_put (q := 14) dX3_init_11 fl_X3_15 rfl (fun _ => rfl) (fun _ => rfl) (by omega) f0 (Nat.le_of_ble_eq_true rfl) rfl (fun g f0z hw2 => ?_)
  have f0 := f0z
  have hfr := fun j (hj : j < a) => (hw2 j (by omega)).trans (hfr j hj)
  refine ez_aload_n (q := 15) 0 dX3_init_14 rfl rfl rfl ?_
  refine ez_bipush (v := nI 10) (q := 17) dX3_init_15 (by decide) rfl ?_
  refine i_newi 10 (ms := 174) (mc := 3) (q := 19) dX3_init_17 rfl (by decide) rfl (fun g f3 hw3 => ?_)
  have f0 := (hw3 _ (by omega)).trans f0
  have hfr := fun j (hj : j < a) => (hw3 j (by omega)).trans (hfr j hj)
  refine i_putF (q := 22) dX3_init_19 fl_X3_18 rfl rfl rfl (fun _ => rfl) (fun _ => rfl) (by omega) f0 (Nat.le_of_ble_eq_true rfl) rfl (fun g f0z hw4 => ?_)
  have f0 := f0z
  have f3 := (hw4 _ (by omega)).trans f3
  have hfr := fun j (hj : j < a) => (hw4 j (by omega)).trans (hfr j hj)
  refine ez_aload_n (q := 23) 0 dX3_init_22 rfl rfl rfl ?_
  refine ez_bipush (v := nI 10) (q := 25) dX3_init_23 (by decide) rfl ?_
  refine i_newi 10 (ms := 164) (mc := 2) (q := 27) dX3_init_25 rfl (by decide) rfl (fun g f5 hw5 => ?_)
  have f0 := (hw5 _ (by omega)).trans f0
  have f3 := (hw5 _ (by omega)).trans f3
  have hfr := fun j (hj : j < a) => (hw5 j (by omega)).trans (hfr j hj)
  refine i_putF (q := 30) dX3_init_27 fl_X3_22 rfl rfl rfl (fun _ => rfl) (fun _ => rfl) (by omega) f0 (Nat.le_of_ble_eq_true rfl) rfl (fun g f0z hw6 => ?_)
  have f0 := f0z
  have f3 := (hw6 _ (by omega)).trans f3
  have f5 := (hw6 _ (by omega)).trans f5
  have hfr := fun j (hj : j < a) => (hw6 j (by omega)).trans (hfr j hj)
  refine ez_aload_n (q := 31) 0 dX3_init_30 rfl rfl rfl ?_
  refine ez_iconst (v := nI 4) (q := 32) dX3_init_31 (by decide) rfl ?_
  refine i_newi 4 (ms := 160) (mc := 1) (q := 34) dX3_init_32 rfl (by decide) rfl (fun g f7 hw7 => ?_)
  have f0 := (hw7 _ (by omega)).trans f0
  have f3 := (hw7 _ (by omega)).trans f3
  have f5 := (hw7 _ (by omega)).trans f5
  have hfr := fun j (hj : j < a) => (hw7 j (by omega)).trans (hfr j hj)
  refine i_putF (q := 37) dX3_init_34 fl_X3_25 rfl rfl rfl (fun _ => rfl) (fun _ => rfl) (by omega) f0 (Nat.le_of_ble_eq_true rfl) rfl (fun g f0z hw8 => ?_)
  have f0 := f0z
  have f3 := (hw8 _ (by omega)).trans f3
  have f5 := (hw8 _ (by omega)).trans f5
  have f7 := (hw8 _ (by omega)).trans f7
  have hfr := fun j (hj : j < a) => (hw8 j (by omega)).trans (hfr j hj)
  refine ez_aload_n (q := 38) 0 dX3_init_37 rfl rfl rfl ?_
  refine ez_sipush (v := nI 160) (q := 41) dX3_init_38 (by decide) rfl ?_
  refine i_newch 160 (ms := 0) (mc := 0) (q := 43) dX3_init_41 rfl (by decide) rfl (fun g f9 hw9 => ?_)
  have f0 := (hw9 _ (by omega)).trans f0
  have f3 := (hw9 _ (by omega)).trans f3
  have f5 := (hw9 _ (by omega)).trans f5
  have f7 := (hw9 _ (by omega)).trans f7
  have hfr := fun j (hj : j < a) => (hw9 j (by omega)).trans (hfr j hj)
  refine i_putF (q := 46) dX3_init_43 fl_X3_28 rfl rfl rfl (fun _ => rfl) (fun _ => rfl) (by omega) f0 (Nat.le_of_ble_eq_true rfl) rfl (fun g f0z hw10 => ?_)
  have f0 := f0z
  have f3 := (hw10 _ (by omega)).trans f3
  have f5 := (hw10 _ (by omega)).trans f5
  have f7 := (hw10 _ (by omega)).trans f7
  have f9 := (hw10 _ (by omega)).trans f9
  have hfr := fun j (hj : j < a) => (hw10 j (by omega)).trans (hfr j hj)
  exact ez_vret dX3_init_46 rfl (⟨rfl, ⟨⟨ha, f0, f3, f5, f7, f9, fun _ _ => rfl⟩, hfr⟩, rfl⟩)

set_option maxHeartbeats 800000 in
set_option maxRecDepth 100000 in
theorem i_X0 {G : ez_G} {d : Nat} {h : ez_H} {a ia n : Nat} (ha : 0 < a) (f0 : h a = some (.inr (0, [.null, .int 0, .int 0, .int 0, .int 0])))  : Con G mX0_init (d + 1) [.ref a, .ref ia] h n 0 0 (PW n none (fun g => (g a = some (.inr (0, [.ref ia, .int 0, .int 0, .int 0, .int 0]))) ∧ ∀ j, j ≠ a → g j = h j)) := by
  refine Con.of [some (.ref a), some (.ref ia)] pl_X0 rfl (Nat.le_of_ble_eq_true rfl) rfl ?_
  have hfr : ∀ j, j ≠ a → h j = h j := fun _ _ => rfl
  refine ez_aload_n (q := 1) 0 dX0_init_0 rfl rfl rfl ?_
  refine ez_objInit (q := 4) dX0_init_1 oi_X0 oi_i oi_c (Nat.le_of_ble_eq_true rfl) rfl ?_
  refine ez_aload_n (q := 5) 0 dX0_init_4 rfl rfl rfl ?_
  refine ez_iconst (v := nI 0) (q := 6) dX0_init_5 (by decide) rfl ?_
  refine i_put (q := 9) dX0_init_6 fl_X0_9 rfl (fun _ => rfl) (fun _ => rfl) (by omega) f0 (Nat.le_of_ble_eq_true rfl) rfl (fun g f0z hw1 => ?_)
  have f0 := f0z
  have hfr := fun j (hj : j ≠ a) => (hw1 j (by omega)).trans (hfr j hj)
  refine ez_aload_n (q := 10) 0 dX0_init_9 rfl rfl rfl ?_
  refine ez_iconst (v := nI 0) (q := 11) dX0_init_10 (by decide) rfl ?_
  refine i_put (q := 14) dX0_init_11 fl_X0_15 rfl (fun _ => rfl) (fun _ => rfl) (by omega) f0 (Nat.le_of_ble_eq_true rfl) rfl (fun g f0z hw2 => ?_)
  have f0 := f0z
  have hfr := fun j (hj : j ≠ a) => (hw2 j (by omega)).trans (hfr j hj)
  refine ez_aload_n (q := 15) 0 dX0_init_14 rfl rfl rfl ?_
  refine ez_iconst (v := nI 0) (q := 16) dX0_init_15 (by decide) rfl ?_
  refine i_put (q := 19) dX0_init_16 fl_X0_18 rfl (fun _ => rfl) (fun _ => rfl) (by omega) f0 (Nat.le_of_ble_eq_true rfl) rfl (fun g f0z hw3 => ?_)
  have f0 := f0z
  have hfr := fun j (hj : j ≠ a) => (hw3 j (by omega)).trans (hfr j hj)
  refine ez_aload_n (q := 20) 0 dX0_init_19 rfl rfl rfl ?_
  refine ez_iconst (v := nI 0) (q := 21) dX0_init_20 (by decide) rfl ?_
  refine i_put (q := 24) dX0_init_21 fl_X0_21 rfl (fun _ => rfl) (fun _ => rfl) (by omega) f0 (Nat.le_of_ble_eq_true rfl) rfl (fun g f0z hw4 => ?_)
  have f0 := f0z
  have hfr := fun j (hj : j ≠ a) => (hw4 j (by omega)).trans (hfr j hj)
  refine ez_aload_n (q := 25) 0 dX0_init_24 rfl rfl rfl ?_
  refine ez_aload_n (q := 26) 1 dX0_init_25 rfl rfl rfl ?_
  refine i_putF (q := 29) dX0_init_26 fl_X0_24 rfl rfl rfl (fun _ => rfl) (fun _ => rfl) (by omega) f0 (Nat.le_of_ble_eq_true rfl) rfl (fun g f0z hw5 => ?_)
  have f0 := f0z
  have hfr := fun j (hj : j ≠ a) => (hw5 j (by omega)).trans (hfr j hj)
  exact ez_vret dX0_init_29 rfl (⟨rfl, ⟨f0, hfr⟩, rfl⟩)

set_option maxHeartbeats 800000 in
set_option maxRecDepth 100000 in
theorem i_X2 {G : ez_G} {d : Nat} {h : ez_H} {a ia : Nat} (ha : 0 < a) (f0 : h a = some (.inr (2, [.null, .null, .int 0, .null, .null, .null, .null, .null])))  : Con G mX2_init (d + 2) [.ref a, .ref ia] h (a + 1) 6 205 (PW (a + 7) none (fun g => (MF a ia g g (nI 0) Z0 Z0 Z0 Z0 Z0 (nI 0) (nI 0) (nI 0) (nI 0)) ∧ ∀ j, j < a → g j = h j)) := by
  refine Con.of [some (.ref a), some (.ref ia)] pl_X2 rfl (Nat.le_of_ble_eq_true rfl) rfl ?_
  have hfr : ∀ j, j < a → h j = h j := fun _ _ => rfl
  refine ez_aload_n (q := 1) 0 dX2_init_0 rfl rfl rfl ?_
  refine ez_objInit (q := 4) dX2_init_1 oi_X2 oi_i oi_c (Nat.le_of_ble_eq_true rfl) rfl ?_
  refine ez_aload_n (q := 5) 0 dX2_init_4 rfl rfl rfl ?_
  refine ez_iconst (v := nI 0) (q := 6) dX2_init_5 (by decide) rfl ?_
  refine i_put (q := 9) dX2_init_6 fl_X2_9 rfl (fun _ => rfl) (fun _ => rfl) (by omega) f0 (Nat.le_of_ble_eq_true rfl) rfl (fun g f0z hw1 => ?_)
  have f0 := f0z
  have hfr := fun j (hj : j < a) => (hw1 j (by omega)).trans (hfr j hj)
  refine ez_aload_n (q := 10) 0 dX2_init_9 rfl rfl rfl ?_
  refine ez_bipush (v := nI 40) (q := 12) dX2_init_10 (by decide) rfl ?_
  refine i_newch 40 (ms := 165) (mc := 5) (q := 14) dX2_init_12 rfl (by decide) rfl (fun g f2 hw2 => ?_)
  have f0 := (hw2 _ (by omega)).trans f0
  have hfr := fun j (hj : j < a) => (hw2 j (by omega)).trans (hfr j hj)
  refine i_putF (q := 17) dX2_init_14 fl_X2_15 rfl rfl rfl (fun _ => rfl) (fun _ => rfl) (by omega) f0 (Nat.le_of_ble_eq_true rfl) rfl (fun g f0z hw3 => ?_)
  have f0 := f0z
  have f2 := (hw3 _ (by omega)).trans f2
  have hfr := fun j (hj : j < a) => (hw3 j (by omega)).trans (hfr j hj)
  refine ez_aload_n (q := 18) 0 dX2_init_17 rfl rfl rfl ?_
  refine ez_bipush (v := nI 40) (q := 20) dX2_init_18 (by decide) rfl ?_
  refine i_newi 40 (ms := 125) (mc := 4) (q := 22) dX2_init_20 rfl (by decide) rfl (fun g f4 hw4 => ?_)
  have f0 := (hw4 _ (by omega)).trans f0
  have f2 := (hw4 _ (by omega)).trans f2
  have hfr := fun j (hj : j < a) => (hw4 j (by omega)).trans (hfr j hj)
  refine i_putF (q := 25) dX2_init_22 fl_X2_19 rfl rfl rfl (fun _ => rfl) (fun _ => rfl) (by omega) f0 (Nat.le_of_ble_eq_true rfl) rfl (fun g f0z hw5 => ?_)
  have f0 := f0z
  have f2 := (hw5 _ (by omega)).trans f2
  have f4 := (hw5 _ (by omega)).trans f4
  have hfr := fun j (hj : j < a) => (hw5 j (by omega)).trans (hfr j hj)
  refine ez_aload_n (q := 26) 0 dX2_init_25 rfl rfl rfl ?_
  refine ez_bipush (v := nI 40) (q := 28) dX2_init_26 (by decide) rfl ?_
  refine i_newi 40 (ms := 85) (mc := 3) (q := 30) dX2_init_28 rfl (by decide) rfl (fun g f6 hw6 => ?_)
  have f0 := (hw6 _ (by omega)).trans f0
  have f2 := (hw6 _ (by omega)).trans f2
  have f4 := (hw6 _ (by omega)).trans f4
  have hfr := fun j (hj : j < a) => (hw6 j (by omega)).trans (hfr j hj)
  refine i_putF (q := 33) dX2_init_30 fl_X2_23 rfl rfl rfl (fun _ => rfl) (fun _ => rfl) (by omega) f0 (Nat.le_of_ble_eq_true rfl) rfl (fun g f0z hw7 => ?_)
  have f0 := f0z
  have f2 := (hw7 _ (by omega)).trans f2
  have f4 := (hw7 _ (by omega)).trans f4
  have f6 := (hw7 _ (by omega)).trans f6
  have hfr := fun j (hj : j < a) => (hw7 j (by omega)).trans (hfr j hj)
  refine ez_aload_n (q := 34) 0 dX2_init_33 rfl rfl rfl ?_
  refine ez_bipush (v := nI 40) (q := 36) dX2_init_34 (by decide) rfl ?_
  refine i_newi 40 (ms := 45) (mc := 2) (q := 38) dX2_init_36 rfl (by decide) rfl (fun g f8 hw8 => ?_)
  have f0 := (hw8 _ (by omega)).trans f0
  have f2 := (hw8 _ (by omega)).trans f2
  have f4 := (hw8 _ (by omega)).trans f4
  have f6 := (hw8 _ (by omega)).trans f6
  have hfr := fun j (hj : j < a) => (hw8 j (by omega)).trans (hfr j hj)
  refine i_putF (q := 41) dX2_init_38 fl_X2_26 rfl rfl rfl (fun _ => rfl) (fun _ => rfl) (by omega) f0 (Nat.le_of_ble_eq_true rfl) rfl (fun g f0z hw9 => ?_)
  have f0 := f0z
  have f2 := (hw9 _ (by omega)).trans f2
  have f4 := (hw9 _ (by omega)).trans f4
  have f6 := (hw9 _ (by omega)).trans f6
  have f8 := (hw9 _ (by omega)).trans f8
  have hfr := fun j (hj : j < a) => (hw9 j (by omega)).trans (hfr j hj)
  refine ez_aload_n (q := 42) 0 dX2_init_41 rfl rfl rfl ?_
  refine ez_bipush (v := nI 40) (q := 44) dX2_init_42 (by decide) rfl ?_
  refine i_newi 40 (ms := 5) (mc := 1) (q := 46) dX2_init_44 rfl (by decide) rfl (fun g f10 hw10 => ?_)
  have f0 := (hw10 _ (by omega)).trans f0
  have f2 := (hw10 _ (by omega)).trans f2
  have f4 := (hw10 _ (by omega)).trans f4
  have f6 := (hw10 _ (by omega)).trans f6
  have f8 := (hw10 _ (by omega)).trans f8
  have hfr := fun j (hj : j < a) => (hw10 j (by omega)).trans (hfr j hj)
  refine i_putF (q := 49) dX2_init_46 fl_X2_29 rfl rfl rfl (fun _ => rfl) (fun _ => rfl) (by omega) f0 (Nat.le_of_ble_eq_true rfl) rfl (fun g f0z hw11 => ?_)
  have f0 := f0z
  have f2 := (hw11 _ (by omega)).trans f2
  have f4 := (hw11 _ (by omega)).trans f4
  have f6 := (hw11 _ (by omega)).trans f6
  have f8 := (hw11 _ (by omega)).trans f8
  have f10 := (hw11 _ (by omega)).trans f10
  have hfr := fun j (hj : j < a) => (hw11 j (by omega)).trans (hfr j hj)
  refine ez_aload_n (q := 50) 0 dX2_init_49 rfl rfl rfl ?_
  refine ez_aload_n (q := 51) 1 dX2_init_50 rfl rfl rfl ?_
  refine i_putF (q := 54) dX2_init_51 fl_X2_32 rfl rfl rfl (fun _ => rfl) (fun _ => rfl) (by omega) f0 (Nat.le_of_ble_eq_true rfl) rfl (fun g f0z hw12 => ?_)
  have f0 := f0z
  have f2 := (hw12 _ (by omega)).trans f2
  have f4 := (hw12 _ (by omega)).trans f4
  have f6 := (hw12 _ (by omega)).trans f6
  have f8 := (hw12 _ (by omega)).trans f8
  have f10 := (hw12 _ (by omega)).trans f10
  have hfr := fun j (hj : j < a) => (hw12 j (by omega)).trans (hfr j hj)
  refine ez_aload_n (q := 55) 0 dX2_init_54 rfl rfl rfl ?_
  refine i_new0 (ms := 0) (mc := 0) (q := 58) dX2_init_55 cl_X2_36 rfl (fun g f13 hw13 => ?_)
  have f0 := (hw13 _ (by omega)).trans f0
  have f2 := (hw13 _ (by omega)).trans f2
  have f4 := (hw13 _ (by omega)).trans f4
  have f6 := (hw13 _ (by omega)).trans f6
  have f8 := (hw13 _ (by omega)).trans f8
  have f10 := (hw13 _ (by omega)).trans f10
  have hfr := fun j (hj : j < a) => (hw13 j (by omega)).trans (hfr j hj)
  refine ez_dup (q := 59) dX2_init_58 rfl rfl ?_
  refine ez_aload_n (q := 60) 1 dX2_init_59 rfl rfl rfl ?_
  refine i_callI (mc := 0) (ms := 0) (n2 := a + 7) (q := 63) dX2_init_60 ck_X2_38 (i_X0 (a := a + 6) (ia := ia) (n := a + 7) (by omega) f13) rfl rfl rfl rfl rfl (Nat.le_of_ble_eq_true rfl) rfl (fun g hW14 => ?_)
  obtain ⟨f14, hw14⟩ := hW14
  have f0 := (hw14 _ (by omega)).trans f0
  have f2 := (hw14 _ (by omega)).trans f2
  have f4 := (hw14 _ (by omega)).trans f4
  have f6 := (hw14 _ (by omega)).trans f6
  have f8 := (hw14 _ (by omega)).trans f8
  have f10 := (hw14 _ (by omega)).trans f10
  have hfr := fun j (hj : j < a) => (hw14 j (by omega)).trans (hfr j hj)
  refine i_putF (q := 66) dX2_init_63 fl_X2_41 rfl rfl rfl (fun _ => rfl) (fun _ => rfl) (by omega) f0 (Nat.le_of_ble_eq_true rfl) rfl (fun g f0z hw15 => ?_)
  have f0 := f0z
  have f2 := (hw15 _ (by omega)).trans f2
  have f4 := (hw15 _ (by omega)).trans f4
  have f6 := (hw15 _ (by omega)).trans f6
  have f8 := (hw15 _ (by omega)).trans f8
  have f10 := (hw15 _ (by omega)).trans f10
  have f14 := (hw15 _ (by omega)).trans f14
  have hfr := fun j (hj : j < a) => (hw15 j (by omega)).trans (hfr j hj)
  exact ez_vret dX2_init_66 rfl (⟨rfl, ⟨⟨ha, f0, f2, f4, f6, f8, f10, f14, fun _ _ => rfl⟩, hfr⟩, rfl⟩)

set_option maxHeartbeats 800000 in
set_option maxRecDepth 100000 in
theorem i_X4 {G : ez_G} {d : Nat} {h : ez_H}  (ha : 0 < 39) (f0 : h 39 = some (.inr (4, [.int 0, .null, .int 0, .int 0])))  : Con G mX4_init (d + 1) [.ref 39] h 40 1 60 (PW 41 none (fun g => (TX g g (nI 0) (nI 1) false Z0) ∧ ∀ j, j < 39 → g j = h j)) := by
  refine Con.of [some (.ref 39)] pl_X4 rfl (Nat.le_of_ble_eq_true rfl) rfl ?_
  have hfr : ∀ j, j < 39 → h j = h j := fun _ _ => rfl
  refine ez_aload_n (q := 1) 0 dX4_init_0 rfl rfl rfl ?_
  refine ez_objInit (q := 4) dX4_init_1 oi_X4 oi_i oi_c (Nat.le_of_ble_eq_true rfl) rfl ?_
  refine ez_aload_n (q := 5) 0 dX4_init_4 rfl rfl rfl ?_
  refine ez_iconst (v := nI 0) (q := 6) dX4_init_5 (by decide) rfl ?_
  refine i_put (q := 9) dX4_init_6 fl_X4_9 rfl (fun _ => rfl) (fun _ => rfl) (by omega) f0 (Nat.le_of_ble_eq_true rfl) rfl (fun g f0z hw1 => ?_)
  have f0 := f0z
  have hfr := fun j (hj : j < 39) => (hw1 j (by omega)).trans (hfr j hj)
  refine ez_aload_n (q := 10) 0 dX4_init_9 rfl rfl rfl ?_
  refine ez_bipush (v := nI 60) (q := 12) dX4_init_10 (by decide) rfl ?_
  refine i_newch 60 (ms := 0) (mc := 0) (q := 14) dX4_init_12 rfl (by decide) rfl (fun g f2 hw2 => ?_)
  have f0 := (hw2 _ (by omega)).trans f0
  have hfr := fun j (hj : j < 39) => (hw2 j (by omega)).trans (hfr j hj)
  refine i_putF (q := 17) dX4_init_14 fl_X4_15 rfl rfl rfl (fun _ => rfl) (fun _ => rfl) (by omega) f0 (Nat.le_of_ble_eq_true rfl) rfl (fun g f0z hw3 => ?_)
  have f0 := f0z
  have f2 := (hw3 _ (by omega)).trans f2
  have hfr := fun j (hj : j < 39) => (hw3 j (by omega)).trans (hfr j hj)
  refine ez_aload_n (q := 18) 0 dX4_init_17 rfl rfl rfl ?_
  refine ez_iconst (v := nI 1) (q := 19) dX4_init_18 (by decide) rfl ?_
  refine i_put (q := 22) dX4_init_19 fl_X4_19 rfl (fun _ => rfl) (fun _ => rfl) (by omega) f0 (Nat.le_of_ble_eq_true rfl) rfl (fun g f0z hw4 => ?_)
  have f0 := f0z
  have f2 := (hw4 _ (by omega)).trans f2
  have hfr := fun j (hj : j < 39) => (hw4 j (by omega)).trans (hfr j hj)
  refine ez_aload_n (q := 23) 0 dX4_init_22 rfl rfl rfl ?_
  refine ez_iconst (v := nI 0) (q := 24) dX4_init_23 (by decide) rfl ?_
  refine i_put (q := 27) dX4_init_24 fl_X4_22 rfl (fun _ => rfl) (fun _ => rfl) (by omega) f0 (Nat.le_of_ble_eq_true rfl) rfl (fun g f0z hw5 => ?_)
  have f0 := f0z
  have f2 := (hw5 _ (by omega)).trans f2
  have hfr := fun j (hj : j < 39) => (hw5 j (by omega)).trans (hfr j hj)
  exact ez_vret dX4_init_27 rfl (⟨rfl, ⟨⟨f0, f2, fun _ _ => rfl⟩, hfr⟩, rfl⟩)

set_option maxHeartbeats 800000 in
set_option maxRecDepth 100000 in
theorem i_X6 {G : ez_G} {d : Nat} {h : ez_H}  (ha : 0 < 48) (f0 : h 48 = some (.inr (6, [.null, .null, .null, .int 0, .null]))) {ml : Int32} {mg me md mt mr : Nat → Int32} {al li ro go : Nat} (hm : MF 41 2 h h ml mg me md mt mr (nI al) (nI li) (nI ro) (nI go)) : Con G mX6_init (d + 1) [.ref 48, .ref 41] h 49 2 122 (PW 51 none (fun g => (g 48 = some (.inr (6, [.ref 41, .ref 47, .ref 49, .int (nI 0), .ref 50])) ∧ g 49 = some (.inl (0, 111, .inl Z0)) ∧ g 50 = some (.inl (0, 11, .inl Z0))) ∧ ∀ j, j < 48 → g j = h j)) := by
  refine Con.of [some (.ref 48), some (.ref 41)] pl_X6 rfl (Nat.le_of_ble_eq_true rfl) rfl ?_
  have hm1 := hm.2.1
  have hfr : ∀ j, j < 48 → h j = h j := fun _ _ => rfl
  refine ez_aload_n (q := 1) 0 dX6_init_0 rfl rfl rfl ?_
  refine ez_objInit (q := 4) dX6_init_1 oi_X6 oi_i oi_c (Nat.le_of_ble_eq_true rfl) rfl ?_
  refine ez_aload_n (q := 5) 0 dX6_init_4 rfl rfl rfl ?_
  refine ez_bipush (v := nI 111) (q := 7) dX6_init_5 (by decide) rfl ?_
  refine i_newi 111 (ms := 11) (mc := 1) (q := 9) dX6_init_7 rfl (by decide) rfl (fun g f1 hw1 => ?_)
  have f0 := (hw1 _ (by omega)).trans f0
  have hm1 := (hw1 _ (by omega)).trans hm1
  have hfr := fun j (hj : j < 48) => (hw1 j (by omega)).trans (hfr j hj)
  refine i_putF (q := 12) dX6_init_9 fl_X6_9 rfl rfl rfl (fun _ => rfl) (fun _ => rfl) (by omega) f0 (Nat.le_of_ble_eq_true rfl) rfl (fun g f0z hw2 => ?_)
  have f0 := f0z
  have hm1 := (hw2 _ (by omega)).trans hm1
  have f1 := (hw2 _ (by omega)).trans f1
  have hfr := fun j (hj : j < 48) => (hw2 j (by omega)).trans (hfr j hj)
  refine ez_aload_n (q := 13) 0 dX6_init_12 rfl rfl rfl ?_
  refine ez_iconst (v := nI 0) (q := 14) dX6_init_13 (by decide) rfl ?_
  refine i_put (q := 17) dX6_init_14 fl_X6_15 rfl (fun _ => rfl) (fun _ => rfl) (by omega) f0 (Nat.le_of_ble_eq_true rfl) rfl (fun g f0z hw3 => ?_)
  have f0 := f0z
  have hm1 := (hw3 _ (by omega)).trans hm1
  have f1 := (hw3 _ (by omega)).trans f1
  have hfr := fun j (hj : j < 48) => (hw3 j (by omega)).trans (hfr j hj)
  refine ez_aload_n (q := 18) 0 dX6_init_17 rfl rfl rfl ?_
  refine ez_bipush (v := nI 11) (q := 20) dX6_init_18 (by decide) rfl ?_
  refine i_newi 11 (ms := 0) (mc := 0) (q := 22) dX6_init_20 rfl (by decide) rfl (fun g f4 hw4 => ?_)
  have f0 := (hw4 _ (by omega)).trans f0
  have hm1 := (hw4 _ (by omega)).trans hm1
  have f1 := (hw4 _ (by omega)).trans f1
  have hfr := fun j (hj : j < 48) => (hw4 j (by omega)).trans (hfr j hj)
  refine i_putF (q := 25) dX6_init_22 fl_X6_19 rfl rfl rfl (fun _ => rfl) (fun _ => rfl) (by omega) f0 (Nat.le_of_ble_eq_true rfl) rfl (fun g f0z hw5 => ?_)
  have f0 := f0z
  have hm1 := (hw5 _ (by omega)).trans hm1
  have f1 := (hw5 _ (by omega)).trans f1
  have f4 := (hw5 _ (by omega)).trans f4
  have hfr := fun j (hj : j < 48) => (hw5 j (by omega)).trans (hfr j hj)
  refine ez_aload_n (q := 26) 0 dX6_init_25 rfl rfl rfl ?_
  refine ez_aload_n (q := 27) 1 dX6_init_26 rfl rfl rfl ?_
  refine i_putF (q := 30) dX6_init_27 fl_X6_22 rfl rfl rfl (fun _ => rfl) (fun _ => rfl) (by omega) f0 (Nat.le_of_ble_eq_true rfl) rfl (fun g f0z hw6 => ?_)
  have f0 := f0z
  have hm1 := (hw6 _ (by omega)).trans hm1
  have f1 := (hw6 _ (by omega)).trans f1
  have f4 := (hw6 _ (by omega)).trans f4
  have hfr := fun j (hj : j < 48) => (hw6 j (by omega)).trans (hfr j hj)
  refine ez_aload_n (q := 31) 0 dX6_init_30 rfl rfl rfl ?_
  refine ez_aload_n (q := 32) 1 dX6_init_31 rfl rfl rfl ?_
  refine ez_getf (q := 35) dX6_init_32 fl_X6_26 hm1 rfl rfl ?_
  refine i_putF (q := 38) dX6_init_35 fl_X6_32 rfl rfl rfl (fun _ => rfl) (fun _ => rfl) (by omega) f0 (Nat.le_of_ble_eq_true rfl) rfl (fun g f0z hw7 => ?_)
  have f0 := f0z
  have hm1 := (hw7 _ (by omega)).trans hm1
  have f1 := (hw7 _ (by omega)).trans f1
  have f4 := (hw7 _ (by omega)).trans f4
  have hfr := fun j (hj : j < 48) => (hw7 j (by omega)).trans (hfr j hj)
  exact ez_vret dX6_init_38 rfl (⟨rfl, ⟨⟨f0, f1, f4⟩, hfr⟩, rfl⟩)

theorem SW.to {ia : Nat} {h0 h g : ez_H} {wo ff : Int32} {lt st le sc : Nat → Int32} (hM : SW ia h0 h wo ff lt st le sc) (hg : ∀ j, ia ≤ j → j < ia + 5 → g j = h j) : SW ia g g wo ff lt st le sc := ⟨hM.1, (hg _ (by omega) (by omega)).trans hM.2.1, (hg _ (by omega) (by omega)).trans hM.2.2.1, (hg _ (by omega) (by omega)).trans hM.2.2.2.1, (hg _ (by omega) (by omega)).trans hM.2.2.2.2.1, (hg _ (by omega) (by omega)).trans hM.2.2.2.2.2.1, fun _ _ => rfl⟩
theorem CH_0 : CH Z0 := fun _ => ⟨0, by decide, rfl⟩
set_option maxHeartbeats 800000 in
set_option maxRecDepth 100000 in
theorem i_X1 {G : ez_G} {d : Nat} {h : ez_H} {zs : Nat → AS} (ha : 0 < 7) (f0 : h 7 = some (.inr (1, [.int 0, .int 0, .null])))  : Con G mX1_init (d + 2) [.ref 7] h 8 31 1146 (PW 39 none (fun g => (HH g 0 0 zs) ∧ ∀ j, j < 7 → g j = h j)) := by
  refine Con.of [some (.ref 7), none] pl_X1 rfl (Nat.le_of_ble_eq_true rfl) rfl ?_
  have hfr : ∀ j, j < 7 → h j = h j := fun _ _ => rfl
  refine ez_aload_n (q := 1) 0 dX1_init_0 rfl rfl rfl ?_
  refine ez_objInit (q := 4) dX1_init_1 oi_X1 oi_i oi_c (Nat.le_of_ble_eq_true rfl) rfl ?_
  refine ez_aload_n (q := 5) 0 dX1_init_4 rfl rfl rfl ?_
  refine ez_iconst (v := nI 0) (q := 6) dX1_init_5 (by decide) rfl ?_
  refine i_put (q := 9) dX1_init_6 fl_X1_9 rfl (fun _ => rfl) (fun _ => rfl) (by omega) f0 (Nat.le_of_ble_eq_true rfl) rfl (fun g f0z hw1 => ?_)
  have f0 := f0z
  have hfr := fun j (hj : j < 7) => (hw1 j (by omega)).trans (hfr j hj)
  refine ez_aload_n (q := 10) 0 dX1_init_9 rfl rfl rfl ?_
  refine ez_iconst (v := nI 0) (q := 11) dX1_init_10 (by decide) rfl ?_
  refine i_put (q := 14) dX1_init_11 fl_X1_15 rfl (fun _ => rfl) (fun _ => rfl) (by omega) f0 (Nat.le_of_ble_eq_true rfl) rfl (fun g f0z hw2 => ?_)
  have f0 := f0z
  have hfr := fun j (hj : j < 7) => (hw2 j (by omega)).trans (hfr j hj)
  refine ez_aload_n (q := 15) 0 dX1_init_14 rfl rfl rfl ?_
  refine ez_bipush (v := nI 6) (q := 17) dX1_init_15 (by decide) rfl ?_
  refine i_anew 6 (ms := 1140) (mc := 30) (q := 20) dX1_init_17 cl_X1_18 rfl (by decide) rfl (fun g f3 hw3 => ?_)
  have f0 := (hw3 _ (by omega)).trans f0
  have hfr := fun j (hj : j < 7) => (hw3 j (by omega)).trans (hfr j hj)
  refine i_putF (q := 23) dX1_init_20 fl_X1_20 rfl rfl rfl (fun _ => rfl) (fun _ => rfl) (by omega) f0 (Nat.le_of_ble_eq_true rfl) rfl (fun g f0z hw4 => ?_)
  have f0 := f0z
  have f3 := (hw4 _ (by omega)).trans f3
  have hfr := fun j (hj : j < 7) => (hw4 j (by omega)).trans (hfr j hj)
  refine ez_iconst (v := nI 0) (q := 24) dX1_init_23 (by decide) rfl ?_
  refine ez_istore_1 (q := 25) dX1_init_24 rfl (by decide) rfl rfl ?_
  refine ez_iload_n (q := 26) 1 dX1_init_25 rfl rfl rfl ?_
  refine ez_bipush (v := nI 6) (q := 28) dX1_init_26 (by decide) rfl ?_
  refine ez_icmpgeN (q := 31) (tgt := 50) dX1_init_28 (by decide) (by omega) (by omega) rfl (fun hc28 => absurd hc28 (by decide)) (fun hc28 => ?_)
  refine ez_aload_n (q := 32) 0 dX1_init_31 rfl rfl rfl ?_
  refine ez_getf (q := 35) dX1_init_32 fl_X1_20 f0 rfl rfl ?_
  refine ez_iload_n (q := 36) 1 dX1_init_35 rfl rfl rfl ?_
  refine i_new3 (ms := 1134) (mc := 29) (q := 39) dX1_init_36 cl_X1_18 rfl (fun g f5 hw5 => ?_)
  have f0 := (hw5 _ (by omega)).trans f0
  have f3 := (hw5 _ (by omega)).trans f3
  have hfr := fun j (hj : j < 7) => (hw5 j (by omega)).trans (hfr j hj)
  refine ez_dup (q := 40) dX1_init_39 rfl rfl ?_
  refine i_callN (mc := 25) (ms := 950) (n2 := 14) (q := 43) dX1_init_40 ck_X1_24 (i_X3 (a := 9) (by omega) f5) rfl rfl rfl rfl rfl (Nat.le_of_ble_eq_true rfl) rfl (fun g hW6 => ?_)
  obtain ⟨s6, hw6⟩ := hW6
  have f0 := (hw6 _ (by omega)).trans f0
  have f3 := (hw6 _ (by omega)).trans f3
  have hfr := fun j (hj : j < 7) => (hw6 j (by omega)).trans (hfr j hj)
  refine i_aast (q := 44) dX1_init_43 (by omega) f3 s6.2.1 (j := 0) rfl (by decide) (by decide) rfl (fun g f3z hw7 => ?_)
  have f3 := f3z
  have f0 := (hw7 _ (by omega)).trans f0
  have s6 := s6.to (fun j h1 h2 => hw7 j (by omega))
  have hfr := fun j (hj : j < 7) => (hw7 j (by omega)).trans (hfr j hj)
  refine ez_iincN_1 (q := 47) dX1_init_44 (by decide) rfl rfl ?_
  refine ez_goto (q := 25) dX1_init_47 (by decide) ?_
  refine ez_iload_n (q := 26) 1 dX1_init_25 rfl rfl rfl ?_
  refine ez_bipush (v := nI 6) (q := 28) dX1_init_26 (by decide) rfl ?_
  refine ez_icmpgeN (q := 31) (tgt := 50) dX1_init_28 (by decide) (by omega) (by omega) rfl (fun hc28 => absurd hc28 (by decide)) (fun hc28 => ?_)
  refine ez_aload_n (q := 32) 0 dX1_init_31 rfl rfl rfl ?_
  refine ez_getf (q := 35) dX1_init_32 fl_X1_20 f0 rfl rfl ?_
  refine ez_iload_n (q := 36) 1 dX1_init_35 rfl rfl rfl ?_
  refine i_new3 (ms := 944) (mc := 24) (q := 39) dX1_init_36 cl_X1_18 rfl (fun g f8 hw8 => ?_)
  have f0 := (hw8 _ (by omega)).trans f0
  have f3 := (hw8 _ (by omega)).trans f3
  have s6 := s6.to (fun j h1 h2 => hw8 j (by omega))
  have hfr := fun j (hj : j < 7) => (hw8 j (by omega)).trans (hfr j hj)
  refine ez_dup (q := 40) dX1_init_39 rfl rfl ?_
  refine i_callN (mc := 20) (ms := 760) (n2 := 19) (q := 43) dX1_init_40 ck_X1_24 (i_X3 (a := 14) (by omega) f8) rfl rfl rfl rfl rfl (Nat.le_of_ble_eq_true rfl) rfl (fun g hW9 => ?_)
  obtain ⟨s9, hw9⟩ := hW9
  have f0 := (hw9 _ (by omega)).trans f0
  have f3 := (hw9 _ (by omega)).trans f3
  have s6 := s6.to (fun j h1 h2 => hw9 j (by omega))
  have hfr := fun j (hj : j < 7) => (hw9 j (by omega)).trans (hfr j hj)
  refine i_aast (q := 44) dX1_init_43 (by omega) f3 s9.2.1 (j := 1) rfl (by decide) (by decide) rfl (fun g f3z hw10 => ?_)
  have f3 := f3z
  have f0 := (hw10 _ (by omega)).trans f0
  have s6 := s6.to (fun j h1 h2 => hw10 j (by omega))
  have s9 := s9.to (fun j h1 h2 => hw10 j (by omega))
  have hfr := fun j (hj : j < 7) => (hw10 j (by omega)).trans (hfr j hj)
  refine ez_iincN_1 (q := 47) dX1_init_44 (by decide) rfl rfl ?_
  refine ez_goto (q := 25) dX1_init_47 (by decide) ?_
  refine ez_iload_n (q := 26) 1 dX1_init_25 rfl rfl rfl ?_
  refine ez_bipush (v := nI 6) (q := 28) dX1_init_26 (by decide) rfl ?_
  refine ez_icmpgeN (q := 31) (tgt := 50) dX1_init_28 (by decide) (by omega) (by omega) rfl (fun hc28 => absurd hc28 (by decide)) (fun hc28 => ?_)
  refine ez_aload_n (q := 32) 0 dX1_init_31 rfl rfl rfl ?_
  refine ez_getf (q := 35) dX1_init_32 fl_X1_20 f0 rfl rfl ?_
  refine ez_iload_n (q := 36) 1 dX1_init_35 rfl rfl rfl ?_
  refine i_new3 (ms := 754) (mc := 19) (q := 39) dX1_init_36 cl_X1_18 rfl (fun g f11 hw11 => ?_)
  have f0 := (hw11 _ (by omega)).trans f0
  have f3 := (hw11 _ (by omega)).trans f3
  have s6 := s6.to (fun j h1 h2 => hw11 j (by omega))
  have s9 := s9.to (fun j h1 h2 => hw11 j (by omega))
  have hfr := fun j (hj : j < 7) => (hw11 j (by omega)).trans (hfr j hj)
  refine ez_dup (q := 40) dX1_init_39 rfl rfl ?_
  refine i_callN (mc := 15) (ms := 570) (n2 := 24) (q := 43) dX1_init_40 ck_X1_24 (i_X3 (a := 19) (by omega) f11) rfl rfl rfl rfl rfl (Nat.le_of_ble_eq_true rfl) rfl (fun g hW12 => ?_)
  obtain ⟨s12, hw12⟩ := hW12
  have f0 := (hw12 _ (by omega)).trans f0
  have f3 := (hw12 _ (by omega)).trans f3
  have s6 := s6.to (fun j h1 h2 => hw12 j (by omega))
  have s9 := s9.to (fun j h1 h2 => hw12 j (by omega))
  have hfr := fun j (hj : j < 7) => (hw12 j (by omega)).trans (hfr j hj)
  refine i_aast (q := 44) dX1_init_43 (by omega) f3 s12.2.1 (j := 2) rfl (by decide) (by decide) rfl (fun g f3z hw13 => ?_)
  have f3 := f3z
  have f0 := (hw13 _ (by omega)).trans f0
  have s6 := s6.to (fun j h1 h2 => hw13 j (by omega))
  have s9 := s9.to (fun j h1 h2 => hw13 j (by omega))
  have s12 := s12.to (fun j h1 h2 => hw13 j (by omega))
  have hfr := fun j (hj : j < 7) => (hw13 j (by omega)).trans (hfr j hj)
  refine ez_iincN_1 (q := 47) dX1_init_44 (by decide) rfl rfl ?_
  refine ez_goto (q := 25) dX1_init_47 (by decide) ?_
  refine ez_iload_n (q := 26) 1 dX1_init_25 rfl rfl rfl ?_
  refine ez_bipush (v := nI 6) (q := 28) dX1_init_26 (by decide) rfl ?_
  refine ez_icmpgeN (q := 31) (tgt := 50) dX1_init_28 (by decide) (by omega) (by omega) rfl (fun hc28 => absurd hc28 (by decide)) (fun hc28 => ?_)
  refine ez_aload_n (q := 32) 0 dX1_init_31 rfl rfl rfl ?_
  refine ez_getf (q := 35) dX1_init_32 fl_X1_20 f0 rfl rfl ?_
  refine ez_iload_n (q := 36) 1 dX1_init_35 rfl rfl rfl ?_
  refine i_new3 (ms := 564) (mc := 14) (q := 39) dX1_init_36 cl_X1_18 rfl (fun g f14 hw14 => ?_)
  have f0 := (hw14 _ (by omega)).trans f0
  have f3 := (hw14 _ (by omega)).trans f3
  have s6 := s6.to (fun j h1 h2 => hw14 j (by omega))
  have s9 := s9.to (fun j h1 h2 => hw14 j (by omega))
  have s12 := s12.to (fun j h1 h2 => hw14 j (by omega))
  have hfr := fun j (hj : j < 7) => (hw14 j (by omega)).trans (hfr j hj)
  refine ez_dup (q := 40) dX1_init_39 rfl rfl ?_
  refine i_callN (mc := 10) (ms := 380) (n2 := 29) (q := 43) dX1_init_40 ck_X1_24 (i_X3 (a := 24) (by omega) f14) rfl rfl rfl rfl rfl (Nat.le_of_ble_eq_true rfl) rfl (fun g hW15 => ?_)
  obtain ⟨s15, hw15⟩ := hW15
  have f0 := (hw15 _ (by omega)).trans f0
  have f3 := (hw15 _ (by omega)).trans f3
  have s6 := s6.to (fun j h1 h2 => hw15 j (by omega))
  have s9 := s9.to (fun j h1 h2 => hw15 j (by omega))
  have s12 := s12.to (fun j h1 h2 => hw15 j (by omega))
  have hfr := fun j (hj : j < 7) => (hw15 j (by omega)).trans (hfr j hj)
  refine i_aast (q := 44) dX1_init_43 (by omega) f3 s15.2.1 (j := 3) rfl (by decide) (by decide) rfl (fun g f3z hw16 => ?_)
  have f3 := f3z
  have f0 := (hw16 _ (by omega)).trans f0
  have s6 := s6.to (fun j h1 h2 => hw16 j (by omega))
  have s9 := s9.to (fun j h1 h2 => hw16 j (by omega))
  have s12 := s12.to (fun j h1 h2 => hw16 j (by omega))
  have s15 := s15.to (fun j h1 h2 => hw16 j (by omega))
  have hfr := fun j (hj : j < 7) => (hw16 j (by omega)).trans (hfr j hj)
  refine ez_iincN_1 (q := 47) dX1_init_44 (by decide) rfl rfl ?_
  refine ez_goto (q := 25) dX1_init_47 (by decide) ?_
  refine ez_iload_n (q := 26) 1 dX1_init_25 rfl rfl rfl ?_
  refine ez_bipush (v := nI 6) (q := 28) dX1_init_26 (by decide) rfl ?_
  refine ez_icmpgeN (q := 31) (tgt := 50) dX1_init_28 (by decide) (by omega) (by omega) rfl (fun hc28 => absurd hc28 (by decide)) (fun hc28 => ?_)
  refine ez_aload_n (q := 32) 0 dX1_init_31 rfl rfl rfl ?_
  refine ez_getf (q := 35) dX1_init_32 fl_X1_20 f0 rfl rfl ?_
  refine ez_iload_n (q := 36) 1 dX1_init_35 rfl rfl rfl ?_
  refine i_new3 (ms := 374) (mc := 9) (q := 39) dX1_init_36 cl_X1_18 rfl (fun g f17 hw17 => ?_)
  have f0 := (hw17 _ (by omega)).trans f0
  have f3 := (hw17 _ (by omega)).trans f3
  have s6 := s6.to (fun j h1 h2 => hw17 j (by omega))
  have s9 := s9.to (fun j h1 h2 => hw17 j (by omega))
  have s12 := s12.to (fun j h1 h2 => hw17 j (by omega))
  have s15 := s15.to (fun j h1 h2 => hw17 j (by omega))
  have hfr := fun j (hj : j < 7) => (hw17 j (by omega)).trans (hfr j hj)
  refine ez_dup (q := 40) dX1_init_39 rfl rfl ?_
  refine i_callN (mc := 5) (ms := 190) (n2 := 34) (q := 43) dX1_init_40 ck_X1_24 (i_X3 (a := 29) (by omega) f17) rfl rfl rfl rfl rfl (Nat.le_of_ble_eq_true rfl) rfl (fun g hW18 => ?_)
  obtain ⟨s18, hw18⟩ := hW18
  have f0 := (hw18 _ (by omega)).trans f0
  have f3 := (hw18 _ (by omega)).trans f3
  have s6 := s6.to (fun j h1 h2 => hw18 j (by omega))
  have s9 := s9.to (fun j h1 h2 => hw18 j (by omega))
  have s12 := s12.to (fun j h1 h2 => hw18 j (by omega))
  have s15 := s15.to (fun j h1 h2 => hw18 j (by omega))
  have hfr := fun j (hj : j < 7) => (hw18 j (by omega)).trans (hfr j hj)
  refine i_aast (q := 44) dX1_init_43 (by omega) f3 s18.2.1 (j := 4) rfl (by decide) (by decide) rfl (fun g f3z hw19 => ?_)
  have f3 := f3z
  have f0 := (hw19 _ (by omega)).trans f0
  have s6 := s6.to (fun j h1 h2 => hw19 j (by omega))
  have s9 := s9.to (fun j h1 h2 => hw19 j (by omega))
  have s12 := s12.to (fun j h1 h2 => hw19 j (by omega))
  have s15 := s15.to (fun j h1 h2 => hw19 j (by omega))
  have s18 := s18.to (fun j h1 h2 => hw19 j (by omega))
  have hfr := fun j (hj : j < 7) => (hw19 j (by omega)).trans (hfr j hj)
  refine ez_iincN_1 (q := 47) dX1_init_44 (by decide) rfl rfl ?_
  refine ez_goto (q := 25) dX1_init_47 (by decide) ?_
  refine ez_iload_n (q := 26) 1 dX1_init_25 rfl rfl rfl ?_
  refine ez_bipush (v := nI 6) (q := 28) dX1_init_26 (by decide) rfl ?_
  refine ez_icmpgeN (q := 31) (tgt := 50) dX1_init_28 (by decide) (by omega) (by omega) rfl (fun hc28 => absurd hc28 (by decide)) (fun hc28 => ?_)
  refine ez_aload_n (q := 32) 0 dX1_init_31 rfl rfl rfl ?_
  refine ez_getf (q := 35) dX1_init_32 fl_X1_20 f0 rfl rfl ?_
  refine ez_iload_n (q := 36) 1 dX1_init_35 rfl rfl rfl ?_
  refine i_new3 (ms := 184) (mc := 4) (q := 39) dX1_init_36 cl_X1_18 rfl (fun g f20 hw20 => ?_)
  have f0 := (hw20 _ (by omega)).trans f0
  have f3 := (hw20 _ (by omega)).trans f3
  have s6 := s6.to (fun j h1 h2 => hw20 j (by omega))
  have s9 := s9.to (fun j h1 h2 => hw20 j (by omega))
  have s12 := s12.to (fun j h1 h2 => hw20 j (by omega))
  have s15 := s15.to (fun j h1 h2 => hw20 j (by omega))
  have s18 := s18.to (fun j h1 h2 => hw20 j (by omega))
  have hfr := fun j (hj : j < 7) => (hw20 j (by omega)).trans (hfr j hj)
  refine ez_dup (q := 40) dX1_init_39 rfl rfl ?_
  refine i_callN (mc := 0) (ms := 0) (n2 := 39) (q := 43) dX1_init_40 ck_X1_24 (i_X3 (a := 34) (by omega) f20) rfl rfl rfl rfl rfl (Nat.le_of_ble_eq_true rfl) rfl (fun g hW21 => ?_)
  obtain ⟨s21, hw21⟩ := hW21
  have f0 := (hw21 _ (by omega)).trans f0
  have f3 := (hw21 _ (by omega)).trans f3
  have s6 := s6.to (fun j h1 h2 => hw21 j (by omega))
  have s9 := s9.to (fun j h1 h2 => hw21 j (by omega))
  have s12 := s12.to (fun j h1 h2 => hw21 j (by omega))
  have s15 := s15.to (fun j h1 h2 => hw21 j (by omega))
  have s18 := s18.to (fun j h1 h2 => hw21 j (by omega))
  have hfr := fun j (hj : j < 7) => (hw21 j (by omega)).trans (hfr j hj)
  refine i_aast (q := 44) dX1_init_43 (by omega) f3 s21.2.1 (j := 5) rfl (by decide) (by decide) rfl (fun g f3z hw22 => ?_)
  have f3 := f3z
  have f0 := (hw22 _ (by omega)).trans f0
  have s6 := s6.to (fun j h1 h2 => hw22 j (by omega))
  have s9 := s9.to (fun j h1 h2 => hw22 j (by omega))
  have s12 := s12.to (fun j h1 h2 => hw22 j (by omega))
  have s15 := s15.to (fun j h1 h2 => hw22 j (by omega))
  have s18 := s18.to (fun j h1 h2 => hw22 j (by omega))
  have s21 := s21.to (fun j h1 h2 => hw22 j (by omega))
  have hfr := fun j (hj : j < 7) => (hw22 j (by omega)).trans (hfr j hj)
  refine ez_iincN_1 (q := 47) dX1_init_44 (by decide) rfl rfl ?_
  refine ez_goto (q := 25) dX1_init_47 (by decide) ?_
  refine ez_iload_n (q := 26) 1 dX1_init_25 rfl rfl rfl ?_
  refine ez_bipush (v := nI 6) (q := 28) dX1_init_26 (by decide) rfl ?_
  refine ez_icmpgeN (q := 31) (tgt := 50) dX1_init_28 (by decide) (by omega) (by omega) rfl (fun hc28 => ?_) (fun hc28 => absurd hc28 (by decide))
  exact ez_vret dX1_init_50 rfl (⟨rfl, ⟨⟨f0, ⟨_, f3, fun j hj => by rcases (by omega : j = 0 ∨ j = 1 ∨ j = 2 ∨ j = 3 ∨ j = 4 ∨ j = 5) with rfl | rfl | rfl | rfl | rfl | rfl <;> rfl⟩, by decide, by decide, fun i hi => by
      rcases (by omega : i = 0 ∨ i = 1 ∨ i = 2 ∨ i = 3 ∨ i = 4 ∨ i = 5) with rfl | rfl | rfl | rfl | rfl | rfl
      · exact ⟨_, _, _, _, _, _, s6, CH_0⟩
      · exact ⟨_, _, _, _, _, _, s9, CH_0⟩
      · exact ⟨_, _, _, _, _, _, s12, CH_0⟩
      · exact ⟨_, _, _, _, _, _, s15, CH_0⟩
      · exact ⟨_, _, _, _, _, _, s18, CH_0⟩
      · exact ⟨_, _, _, _, _, _, s21, CH_0⟩, fun i hi => absurd hi (Nat.not_lt_zero i)⟩, hfr⟩, rfl⟩)

set_option maxHeartbeats 800000 in
set_option maxRecDepth 100000 in
theorem i_X5 {G : ez_G} {d : Nat} {h : ez_H}  (ha : 0 < 51) (f0 : h 51 = some (.inr (5, [.int 0, .int 0, .null, .null])))  : Con G mX5_init (d + 3) [.ref 51] h 52 12 403 (PW 64 none (fun g => (TRX g) ∧ ∀ j, j < 51 → g j = h j)) := by
  refine Con.of [some (.ref 51)] pl_X5 rfl (Nat.le_of_ble_eq_true rfl) rfl ?_
  have hfr : ∀ j, j < 51 → h j = h j := fun _ _ => rfl
  refine ez_aload_n (q := 1) 0 dX5_init_0 rfl rfl rfl ?_
  refine ez_objInit (q := 4) dX5_init_1 oi_X5 oi_i oi_c (Nat.le_of_ble_eq_true rfl) rfl ?_
  refine ez_aload_n (q := 5) 0 dX5_init_4 rfl rfl rfl ?_
  refine ez_iconst (v := -1) (q := 6) dX5_init_5 (by decide) rfl ?_
  refine i_put (q := 9) dX5_init_6 fl_X5_9 rfl (fun _ => rfl) (fun _ => rfl) (by omega) f0 (Nat.le_of_ble_eq_true rfl) rfl (fun g f0z hw1 => ?_)
  have f0 := f0z
  have hfr := fun j (hj : j < 51) => (hw1 j (by omega)).trans (hfr j hj)
  refine ez_aload_n (q := 10) 0 dX5_init_9 rfl rfl rfl ?_
  refine ez_iconst (v := -1) (q := 11) dX5_init_10 (by decide) rfl ?_
  refine i_put (q := 14) dX5_init_11 fl_X5_15 rfl (fun _ => rfl) (fun _ => rfl) (by omega) f0 (Nat.le_of_ble_eq_true rfl) rfl (fun g f0z hw2 => ?_)
  have f0 := f0z
  have hfr := fun j (hj : j < 51) => (hw2 j (by omega)).trans (hfr j hj)
  refine ez_aload_n (q := 15) 0 dX5_init_14 rfl rfl rfl ?_
  refine i_new3 (ms := 397) (mc := 11) (q := 18) dX5_init_15 cl_X5_18 rfl (fun g f3 hw3 => ?_)
  have f0 := (hw3 _ (by omega)).trans f0
  have hfr := fun j (hj : j < 51) => (hw3 j (by omega)).trans (hfr j hj)
  refine ez_dup (q := 19) dX5_init_18 rfl rfl ?_
  refine i_callN (mc := 7) (ms := 213) (n2 := 57) (q := 22) dX5_init_19 ck_X5_20 (i_X3 (a := 52) (by omega) f3) rfl rfl rfl rfl rfl (Nat.le_of_ble_eq_true rfl) rfl (fun g hW4 => ?_)
  obtain ⟨s4, hw4⟩ := hW4
  have f0 := (hw4 _ (by omega)).trans f0
  have hfr := fun j (hj : j < 51) => (hw4 j (by omega)).trans (hfr j hj)
  refine i_putF (q := 25) dX5_init_22 fl_X5_21 rfl rfl rfl (fun _ => rfl) (fun _ => rfl) (by omega) f0 (Nat.le_of_ble_eq_true rfl) rfl (fun g f0z hw5 => ?_)
  have f0 := f0z
  have s4 := s4.to (fun j h1 h2 => hw5 j (by omega))
  have hfr := fun j (hj : j < 51) => (hw5 j (by omega)).trans (hfr j hj)
  refine ez_aload_n (q := 26) 0 dX5_init_25 rfl rfl rfl ?_
  refine i_new2 (ms := 205) (mc := 6) (q := 29) dX5_init_26 cl_X5_25 rfl (fun g f6 hw6 => ?_)
  have f0 := (hw6 _ (by omega)).trans f0
  have s4 := s4.to (fun j h1 h2 => hw6 j (by omega))
  have hfr := fun j (hj : j < 51) => (hw6 j (by omega)).trans (hfr j hj)
  refine ez_dup (q := 30) dX5_init_29 rfl rfl ?_
  refine ez_aload_n (q := 31) 0 dX5_init_30 rfl rfl rfl ?_
  refine ez_getf (q := 34) dX5_init_31 fl_X5_21 f0 rfl rfl ?_
  refine i_callI (mc := 0) (ms := 0) (n2 := 64) (q := 37) dX5_init_34 ck_X5_27 (i_X2 (a := 57) (ia := 52) (by omega) f6) rfl rfl rfl rfl rfl (Nat.le_of_ble_eq_true rfl) rfl (fun g hW7 => ?_)
  obtain ⟨m7, hw7⟩ := hW7
  have f0 := (hw7 _ (by omega)).trans f0
  have s4 := s4.to (fun j h1 h2 => hw7 j (by omega))
  have hfr := fun j (hj : j < 51) => (hw7 j (by omega)).trans (hfr j hj)
  refine i_putF (q := 40) dX5_init_37 fl_X5_30 rfl rfl rfl (fun _ => rfl) (fun _ => rfl) (by omega) f0 (Nat.le_of_ble_eq_true rfl) rfl (fun g f0z hw8 => ?_)
  have f0 := f0z
  have s4 := s4.to (fun j h1 h2 => hw8 j (by omega))
  have m7 := m7.to (fun j h1 h2 => hw8 j (by omega))
  have hfr := fun j (hj : j < 51) => (hw8 j (by omega)).trans (hfr j hj)
  exact ez_vret dX5_init_40 rfl (⟨rfl, ⟨⟨⟨_, _, f0⟩, ⟨_, _, _, _, _, _, s4, CH_0⟩, ⟨_, _, _, _, _, _, 0, 0, 0, 0, m7⟩⟩, hfr⟩, rfl⟩)

def N0 : Nat → Nat := fun _ => 0
theorem SS_0 {ia : Nat} {h : ez_H} (hs : SW ia h h (nI 0) (-1) Z0 Z0 Z0 Z0) : SS ia h 0 4 N0 N0 N0 (fun _ _ => 0) := ⟨Z0, Z0, Z0, Z0, hs, fun i hi => absurd hi (Nat.not_lt_zero i), fun i hi => absurd hi (Nat.not_lt_zero i), fun w hw => rfl, fun w hw k hk => absurd hk (Nat.not_lt_zero k), CH_0⟩
set_option maxHeartbeats 800000 in
set_option maxRecDepth 100000 in
theorem i_X7 {G : ez_G} {d : Nat} {h : ez_H} {zs : Nat → AS} {b : Nat → Nat} (ha : 0 < 1) (f0 : h 1 = some (.inr (7, [.null, .null, .null, .null, .null, .null])))  : Con G mX7_init (d + 4) [.ref 1] h 2 62 2150 (PW 64 none (fun g => (CI g 0 4 N0 N0 N0 (fun _ _ => 0) 0 zs 0 b) ∧ ∀ j, j < 1 → g j = h j)) := by
  refine Con.of [some (.ref 1)] pl_X7 rfl (Nat.le_of_ble_eq_true rfl) rfl ?_
  have hfr : ∀ j, j < 1 → h j = h j := fun _ _ => rfl
  refine ez_aload_n (q := 1) 0 dX7_init_0 rfl rfl rfl ?_
  refine ez_objInit (q := 4) dX7_init_1 oi_X7 oi_i oi_c (Nat.le_of_ble_eq_true rfl) rfl ?_
  refine ez_aload_n (q := 5) 0 dX7_init_4 rfl rfl rfl ?_
  refine i_new3 (ms := 2144) (mc := 61) (q := 8) dX7_init_5 cl_X7_7 rfl (fun g f1 hw1 => ?_)
  have f0 := (hw1 _ (by omega)).trans f0
  have hfr := fun j (hj : j < 1) => (hw1 j (by omega)).trans (hfr j hj)
  refine ez_dup (q := 9) dX7_init_8 rfl rfl ?_
  refine i_callN (mc := 57) (ms := 1960) (n2 := 7) (q := 12) dX7_init_9 ck_X7_9 (i_X3 (a := 2) (by omega) f1) rfl rfl rfl rfl rfl (Nat.le_of_ble_eq_true rfl) rfl (fun g hW2 => ?_)
  obtain ⟨s2, hw2⟩ := hW2
  have f0 := (hw2 _ (by omega)).trans f0
  have hfr := fun j (hj : j < 1) => (hw2 j (by omega)).trans (hfr j hj)
  refine i_putF (q := 15) dX7_init_12 fl_X7_10 rfl rfl rfl (fun _ => rfl) (fun _ => rfl) (by omega) f0 (Nat.le_of_ble_eq_true rfl) rfl (fun g f0z hw3 => ?_)
  have f0 := f0z
  have s2 := s2.to (fun j h1 h2 => hw3 j (by omega))
  have hfr := fun j (hj : j < 1) => (hw3 j (by omega)).trans (hfr j hj)
  refine ez_aload_n (q := 16) 0 dX7_init_15 rfl rfl rfl ?_
  refine i_new1 (ms := 1957) (mc := 56) (q := 19) dX7_init_16 cl_X7_16 rfl (fun g f4 hw4 => ?_)
  have f0 := (hw4 _ (by omega)).trans f0
  have s2 := s2.to (fun j h1 h2 => hw4 j (by omega))
  have hfr := fun j (hj : j < 1) => (hw4 j (by omega)).trans (hfr j hj)
  refine ez_dup (q := 20) dX7_init_19 rfl rfl ?_
  refine i_callI (mc := 25) (ms := 811) (n2 := 39) (q := 23) dX7_init_20 ck_X7_18 (i_X1 (zs := zs) (by omega) f4) rfl rfl rfl rfl rfl (Nat.le_of_ble_eq_true rfl) rfl (fun g hW5 => ?_)
  obtain ⟨hh, hw5⟩ := hW5
  have f0 := (hw5 _ (by omega)).trans f0
  have s2 := s2.to (fun j h1 h2 => hw5 j (by omega))
  have hfr := fun j (hj : j < 1) => (hw5 j (by omega)).trans (hfr j hj)
  refine i_putF (q := 26) dX7_init_23 fl_X7_19 rfl rfl rfl (fun _ => rfl) (fun _ => rfl) (by omega) f0 (Nat.le_of_ble_eq_true rfl) rfl (fun g f0z hw6 => ?_)
  have f0 := f0z
  have s2 := s2.to (fun j h1 h2 => hw6 j (by omega))
  have hh := hh.to (fun j h1 h2 => hw6 j (by omega))
  have hfr := fun j (hj : j < 1) => (hw6 j (by omega)).trans (hfr j hj)
  refine ez_aload_n (q := 27) 0 dX7_init_26 rfl rfl rfl ?_
  refine i_new4 (ms := 807) (mc := 24) (q := 30) dX7_init_27 cl_X7_23 rfl (fun g f7 hw7 => ?_)
  have f0 := (hw7 _ (by omega)).trans f0
  have s2 := s2.to (fun j h1 h2 => hw7 j (by omega))
  have hh := hh.to (fun j h1 h2 => hw7 j (by omega))
  have hfr := fun j (hj : j < 1) => (hw7 j (by omega)).trans (hfr j hj)
  refine ez_dup (q := 31) dX7_init_30 rfl rfl ?_
  refine i_callN (mc := 23) (ms := 747) (n2 := 41) (q := 34) dX7_init_31 ck_X7_25 (i_X4 (by omega) f7) rfl rfl rfl rfl rfl (Nat.le_of_ble_eq_true rfl) rfl (fun g hW8 => ?_)
  obtain ⟨⟨f39, f40, -⟩, hw8⟩ := hW8
  have f0 := (hw8 _ (by omega)).trans f0
  have s2 := s2.to (fun j h1 h2 => hw8 j (by omega))
  have hh := hh.to (fun j h1 h2 => hw8 j (by omega))
  have hfr := fun j (hj : j < 1) => (hw8 j (by omega)).trans (hfr j hj)
  refine i_putF (q := 37) dX7_init_34 fl_X7_26 rfl rfl rfl (fun _ => rfl) (fun _ => rfl) (by omega) f0 (Nat.le_of_ble_eq_true rfl) rfl (fun g f0z hw9 => ?_)
  have f0 := f0z
  have f39 := (hw9 _ (by omega)).trans f39
  have f40 := (hw9 _ (by omega)).trans f40
  have s2 := s2.to (fun j h1 h2 => hw9 j (by omega))
  have hh := hh.to (fun j h1 h2 => hw9 j (by omega))
  have hfr := fun j (hj : j < 1) => (hw9 j (by omega)).trans (hfr j hj)
  refine ez_aload_n (q := 38) 0 dX7_init_37 rfl rfl rfl ?_
  refine i_new2 (ms := 739) (mc := 22) (q := 41) dX7_init_38 cl_X7_30 rfl (fun g f10 hw10 => ?_)
  have f0 := (hw10 _ (by omega)).trans f0
  have f39 := (hw10 _ (by omega)).trans f39
  have f40 := (hw10 _ (by omega)).trans f40
  have s2 := s2.to (fun j h1 h2 => hw10 j (by omega))
  have hh := hh.to (fun j h1 h2 => hw10 j (by omega))
  have hfr := fun j (hj : j < 1) => (hw10 j (by omega)).trans (hfr j hj)
  refine ez_dup (q := 42) dX7_init_41 rfl rfl ?_
  refine ez_aload_n (q := 43) 0 dX7_init_42 rfl rfl rfl ?_
  refine ez_getf (q := 46) dX7_init_43 fl_X7_10 f0 rfl rfl ?_
  refine i_callI (mc := 16) (ms := 534) (n2 := 48) (q := 49) dX7_init_46 ck_X7_32 (i_X2 (a := 41) (ia := 2) (by omega) f10) rfl rfl rfl rfl rfl (Nat.le_of_ble_eq_true rfl) rfl (fun g hW11 => ?_)
  obtain ⟨m11, hw11⟩ := hW11
  have f0 := (hw11 _ (by omega)).trans f0
  have f39 := (hw11 _ (by omega)).trans f39
  have f40 := (hw11 _ (by omega)).trans f40
  have s2 := s2.to (fun j h1 h2 => hw11 j (by omega))
  have hh := hh.to (fun j h1 h2 => hw11 j (by omega))
  have hfr := fun j (hj : j < 1) => (hw11 j (by omega)).trans (hfr j hj)
  refine i_putF (q := 52) dX7_init_49 fl_X7_35 rfl rfl rfl (fun _ => rfl) (fun _ => rfl) (by omega) f0 (Nat.le_of_ble_eq_true rfl) rfl (fun g f0z hw12 => ?_)
  have f0 := f0z
  have f39 := (hw12 _ (by omega)).trans f39
  have f40 := (hw12 _ (by omega)).trans f40
  have s2 := s2.to (fun j h1 h2 => hw12 j (by omega))
  have hh := hh.to (fun j h1 h2 => hw12 j (by omega))
  have m11 := m11.to (fun j h1 h2 => hw12 j (by omega))
  have hfr := fun j (hj : j < 1) => (hw12 j (by omega)).trans (hfr j hj)
  refine ez_aload_n (q := 53) 0 dX7_init_52 rfl rfl rfl ?_
  refine i_new6 (ms := 529) (mc := 15) (q := 56) dX7_init_53 cl_X7_39 rfl (fun g f13 hw13 => ?_)
  have f0 := (hw13 _ (by omega)).trans f0
  have f39 := (hw13 _ (by omega)).trans f39
  have f40 := (hw13 _ (by omega)).trans f40
  have s2 := s2.to (fun j h1 h2 => hw13 j (by omega))
  have hh := hh.to (fun j h1 h2 => hw13 j (by omega))
  have m11 := m11.to (fun j h1 h2 => hw13 j (by omega))
  have hfr := fun j (hj : j < 1) => (hw13 j (by omega)).trans (hfr j hj)
  refine ez_dup (q := 57) dX7_init_56 rfl rfl ?_
  refine ez_aload_n (q := 58) 0 dX7_init_57 rfl rfl rfl ?_
  refine ez_getf (q := 61) dX7_init_58 fl_X7_35 f0 rfl rfl ?_
  refine i_callI (mc := 13) (ms := 407) (n2 := 51) (q := 64) dX7_init_61 ck_X7_41 (i_X6 (by omega) f13 m11) rfl rfl rfl rfl rfl (Nat.le_of_ble_eq_true rfl) rfl (fun g hW14 => ?_)
  obtain ⟨⟨f48, f49, f50⟩, hw14⟩ := hW14
  have f0 := (hw14 _ (by omega)).trans f0
  have f39 := (hw14 _ (by omega)).trans f39
  have f40 := (hw14 _ (by omega)).trans f40
  have s2 := s2.to (fun j h1 h2 => hw14 j (by omega))
  have hh := hh.to (fun j h1 h2 => hw14 j (by omega))
  have m11 := m11.to (fun j h1 h2 => hw14 j (by omega))
  have hfr := fun j (hj : j < 1) => (hw14 j (by omega)).trans (hfr j hj)
  refine i_putF (q := 67) dX7_init_64 fl_X7_44 rfl rfl rfl (fun _ => rfl) (fun _ => rfl) (by omega) f0 (Nat.le_of_ble_eq_true rfl) rfl (fun g f0z hw15 => ?_)
  have f0 := f0z
  have f39 := (hw15 _ (by omega)).trans f39
  have f40 := (hw15 _ (by omega)).trans f40
  have f48 := (hw15 _ (by omega)).trans f48
  have f49 := (hw15 _ (by omega)).trans f49
  have f50 := (hw15 _ (by omega)).trans f50
  have s2 := s2.to (fun j h1 h2 => hw15 j (by omega))
  have hh := hh.to (fun j h1 h2 => hw15 j (by omega))
  have m11 := m11.to (fun j h1 h2 => hw15 j (by omega))
  have hfr := fun j (hj : j < 1) => (hw15 j (by omega)).trans (hfr j hj)
  refine ez_aload_n (q := 68) 0 dX7_init_67 rfl rfl rfl ?_
  refine i_new5 (ms := 403) (mc := 12) (q := 71) dX7_init_68 cl_X7_48 rfl (fun g f16 hw16 => ?_)
  have f0 := (hw16 _ (by omega)).trans f0
  have f39 := (hw16 _ (by omega)).trans f39
  have f40 := (hw16 _ (by omega)).trans f40
  have f48 := (hw16 _ (by omega)).trans f48
  have f49 := (hw16 _ (by omega)).trans f49
  have f50 := (hw16 _ (by omega)).trans f50
  have s2 := s2.to (fun j h1 h2 => hw16 j (by omega))
  have hh := hh.to (fun j h1 h2 => hw16 j (by omega))
  have m11 := m11.to (fun j h1 h2 => hw16 j (by omega))
  have hfr := fun j (hj : j < 1) => (hw16 j (by omega)).trans (hfr j hj)
  refine ez_dup (q := 72) dX7_init_71 rfl rfl ?_
  refine i_callN (mc := 0) (ms := 0) (n2 := 64) (q := 75) dX7_init_72 ck_X7_50 (i_X5 (by omega) f16) rfl rfl rfl rfl rfl (Nat.le_of_ble_eq_true rfl) rfl (fun g hW17 => ?_)
  obtain ⟨tr, hw17⟩ := hW17
  have f0 := (hw17 _ (by omega)).trans f0
  have f39 := (hw17 _ (by omega)).trans f39
  have f40 := (hw17 _ (by omega)).trans f40
  have f48 := (hw17 _ (by omega)).trans f48
  have f49 := (hw17 _ (by omega)).trans f49
  have f50 := (hw17 _ (by omega)).trans f50
  have s2 := s2.to (fun j h1 h2 => hw17 j (by omega))
  have hh := hh.to (fun j h1 h2 => hw17 j (by omega))
  have m11 := m11.to (fun j h1 h2 => hw17 j (by omega))
  have hfr := fun j (hj : j < 1) => (hw17 j (by omega)).trans (hfr j hj)
  refine i_putF (q := 78) dX7_init_75 fl_X7_51 rfl rfl rfl (fun _ => rfl) (fun _ => rfl) (by omega) f0 (Nat.le_of_ble_eq_true rfl) rfl (fun g f0z hw18 => ?_)
  have f0 := f0z
  have f39 := (hw18 _ (by omega)).trans f39
  have f40 := (hw18 _ (by omega)).trans f40
  have f48 := (hw18 _ (by omega)).trans f48
  have f49 := (hw18 _ (by omega)).trans f49
  have f50 := (hw18 _ (by omega)).trans f50
  have s2 := s2.to (fun j h1 h2 => hw18 j (by omega))
  have hh := hh.to (fun j h1 h2 => hw18 j (by omega))
  have m11 := m11.to (fun j h1 h2 => hw18 j (by omega))
  have tr := tr.to (fun j h1 h2 => hw18 j (by omega))
  have hfr := fun j (hj : j < 1) => (hw18 j (by omega)).trans (hfr j hj)
  exact ez_vret dX7_init_78 rfl (⟨rfl, ⟨⟨f0, SS_0 s2, ⟨0, hh⟩, ⟨_, _, _, ⟨f39, f40, fun _ _ => rfl⟩, Nat.zero_le _, fun k hk => absurd hk (Nat.not_lt_zero k)⟩, ⟨_, _, _, _, _, _, 0, 0, 0, 0, m11⟩, ⟨_, _, _, f48, f49, f50⟩, tr⟩, hfr⟩, rfl⟩)

