/-- mx: how one more is mixed in; a variable, so that nothing opens it -/
def mxs (mx : Int64 → Int64 → Int64) (h : Int64) (F : Nat → Int32) : Nat → Int64
  | 0 => h
  | k + 1 => mx (mxs mx h F k) (F k).toInt64
def mx2 (mx : Int64 → Int64 → Int64) (h : Int64) (F : Nat → Nat → Int32) (m : Nat) : Nat → Int64
  | 0 => h
  | i + 1 => mxs mx (mx2 mx h F m i) (F i) m
section
variable (mx : Int64 → Int64 → Int64) (T : Nat → Nat) (n f : Nat) (L : Nat → Nat) (ln : Nat → Nat) (sg : Nat → Nat → Nat)
def dw3 (h : Int64) (w : Nat) : Int64 := mx2 mx (mx2 mx (mxs mx h (tsI T n f L ln sg w) 4) (tgI T n f L ln sg w) 4 (ln w)) (wtI T n f L ln sg w) 4 n
def dw6 (h : Int64) (w : Nat) : Int64 := mx (mx (mx (dw3 mx T n f L ln sg h w) (cmI T n f L ln sg w 0).toInt64) (bfI T n L ln sg w 4).toInt64) (bfI T n L ln sg w 0).toInt64
def dwJ (h : Int64) (w : Nat) : Int64 := if n = 0 then dw6 mx T n f L ln sg h w else mxs mx (dw6 mx T n f L ln sg h w) (fxI T n f L ln sg w 0) 4
end
section
variable (mx : Int64 → Int64 → Int64) (T : Nat → Nat) (n f : Nat) (L : Nat → Nat) (ln : Nat → Nat) (sg : Nat → Nat → Nat)
def twI (i what : Nat) : Int32 := nI (twN T n f L ln sg i what)
def dwS (h : Int64) : Nat → Int64
  | 0 => h
  | w + 1 => dwJ mx T n f L ln sg (dwS h w) w
def dg2 (k : Nat) : Int64 := mx2 mx (mxs mx 2621 (couI T n f L ln sg k) 9) (twI T n f L ln sg) 5 n
def dg4 (k : Nat) : Int64 := mx (dwS mx T n f L ln sg (dg2 mx T n f L ln sg k) 4) (biV (hpN T n f L ln sg n) (n * wmN ln 4))
def dgV (k t : Nat) (b : Nat → Nat) : Int64 := mxs mx (mx (dg4 mx T n f L ln sg k) (nI t).toInt64) (fun j => nI (b j)) t
end
theorem hq_le2 {T : Nat → Nat} {n f : Nat} {L ln : Nat → Nat} {sg : Nat → Nat → Nat} (hn : n ≤ 10) : ∀ m, hqN T n f L ln sg m ≤ n * wmN ln m := by
  intro m
  induction m with
  | zero => exact Nat.zero_le _
  | succ m ih =>
    rw [hqN, wmN]
    by_cases h : 0 < ln m
    · rw [if_pos h, if_pos h, Nat.mul_add, Nat.mul_one, ct_top (hW_lt m) 10 hn]
      have := ct_le (hW T n f L ln sg m) n
      omega
    · rw [if_neg h, if_neg h]; exact ih
theorem hp_le2 {T : Nat → Nat} {n f : Nat} {L ln : Nat → Nat} {sg : Nat → Nat → Nat} (hn : n ≤ 10) : hpN T n f L ln sg n ≤ n * wmN ln 4 := by
  rw [← hq_hp hn]; exact hq_le2 hn 4
/-- what the table says of the share -/
theorem bi_get {h p : Nat} (hp : p < 41) (hh : h ≤ p) (h0 : ¬ (h = 0 ∧ ¬ p = 0)) : biO (shV h p) = true ∧ biV h p = biR (shV h p) := ⟨bi_tab p hp h hh (by omega), if_neg h0⟩
set_option maxHeartbeats 800000 in
set_option maxRecDepth 100000 in
theorem t_X8_bitsOf {G : ez_G} {d n : Nat} {h : ez_H} {u p : Nat} (hp : p < 41) (hh : u ≤ p) : Con G mX8_bitsOf (d) [.double (shV u p)] h n 0 0 (PU h n (some (.long (biV u p)))) := by
  refine Con.of [some (.double (shV u p)), none, none, none, none, none] pl_X8 rfl (Nat.le_of_ble_eq_true rfl) rfl ?_
  have hQ : (PU h n (some (.long (biV u p)))) (.inl (some (.long (biV u p)))) h n := ⟨rfl, rfl, rfl⟩
  generalize PU h n (some (.long (biV u p))) = Q at hQ ⊢
  by_cases hz9 : u = 0 ∧ ¬ p = 0
  · obtain ⟨rfl, hp0⟩ := hz9
    obtain ⟨z1, z2⟩ := bi_0 p hp hp0
    rw [show biV 0 p = 0 from if_pos ⟨rfl, hp0⟩] at hQ
    refine ez_dload_n (q := 1) 0 dX8_bitsOf_0 rfl rfl rfl ?_
    refine ez_dconst0 (q := 2) dX8_bitsOf_1 rfl ?_
    refine ez_dcmp (q := 3) dX8_bitsOf_2 rfl ?_
    refine ez_ifne (q := 6) (tgt := 8) dX8_bitsOf_3 (by decide) rfl (fun hc3 => ?_) (fun hc3 => ?_)
    · first
      | exact absurd z2 hc3
      | skip
        refine ez_dload_n (q := 9) 0 dX8_bitsOf_8 rfl rfl rfl ?_
        refine ez_dstore_2 (q := 10) dX8_bitsOf_9 rfl (by decide) rfl rfl ?_
        refine ez_ldc2 (q := 13) dX8_bitsOf_10 ct_X8_235 rfl ?_
        refine ez_lstore_4 (q := 15) dX8_bitsOf_13 (by decide) rfl rfl ?_
        refine ez_dload_n (q := 16) 2 dX8_bitsOf_15 rfl rfl rfl ?_
        refine ez_ldc2d (q := 19) dX8_bitsOf_16 ct_X8_237 rfl ?_
        refine ez_dcmp (q := 20) dX8_bitsOf_19 rfl ?_
        refine ez_iflt (q := 23) (tgt := 38) dX8_bitsOf_20 (by decide) rfl (fun hc20 => ?_) (fun hc20 => absurd a3 hc20)
        refine ez_loop (α := Nat) (fun k => biK (shV u p) - k) (P := fun k => (k ≤ biK (shV u p)) → E G mX8_bitsOf (d) Q h n 0 0 38 [some (.double ((shV u p))), none, some (.double (dbN (shV u p) k)), none, some (.long (pwN k)), none] []) ?_ 0 (Nat.zero_le _)
        intro k ih38 hk
        refine ez_dload_n (q := 39) 2 dX8_bitsOf_38 rfl rfl rfl ?_
        refine ez_dconst1 (q := 40) dX8_bitsOf_39 rfl ?_
        refine ez_dcmp (q := 41) dX8_bitsOf_40 rfl ?_
        refine ez_ifge (q := 44) (tgt := 59) dX8_bitsOf_41 (by decide) rfl (fun hc41 => ?_) (fun hc41 => ?_)
        · have ek : k = biK (shV u p) := by by_cases e : k = biK (shV u p); { exact e }; { have h9 := (a5 k (by omega)).1; exact absurd (show lt1 (dbN (shV u p) k) < 0 from h9) (by simp only [Int32.lt_iff_toInt_lt, Int32.le_iff_toInt_le] at hc41 ⊢; exact fun a => by have a8 : (0 : Int32).toInt ≤ (lt1 (dbN (shV u p) k)).toInt := hc41; omega) }
          subst ek
          refine ez_lload (q := 61) dX8_bitsOf_59 rfl rfl ?_
          refine ez_bipush (v := nI 52) (q := 63) dX8_bitsOf_61 (by decide) rfl ?_
          refine ez_lshl (q := 64) dX8_bitsOf_63 rfl ?_
          refine ez_dload_n (q := 65) 2 dX8_bitsOf_64 rfl rfl rfl ?_
          refine ez_ldc2d (q := 68) dX8_bitsOf_65 ct_X8_239 rfl ?_
          refine ez_dmul (q := 69) dX8_bitsOf_68 a9 rfl ?_
          refine ez_d2l (q := 70) dX8_bitsOf_69 rfl ?_
          refine ez_ladd (q := 71) dX8_bitsOf_70 rfl ?_
          refine ez_ldc2 (q := 74) dX8_bitsOf_71 ct_X8_241 rfl ?_
          refine ez_lsub (q := 75) dX8_bitsOf_74 rfl ?_
          exact ez_lret dX8_bitsOf_75 rfl (hQ)
        · have hlt : k < biK (shV u p) := by by_cases e : k = biK (shV u p); { rw [e] at hc41; exact absurd a6 hc41 }; { omega }
          refine ez_dload_n (q := 45) 2 dX8_bitsOf_44 rfl rfl rfl ?_
          refine ez_ldc2d (q := 48) dX8_bitsOf_45 ct_X8_237 rfl ?_
          refine ez_dmul (q := 49) dX8_bitsOf_48 (a5 k hlt).2 rfl ?_
          refine ez_dstore_2 (q := 50) dX8_bitsOf_49 rfl (by decide) rfl rfl ?_
          refine ez_lload (q := 52) dX8_bitsOf_50 rfl rfl ?_
          refine ez_lconst (v := 1) (q := 53) dX8_bitsOf_52 (by decide) rfl ?_
          refine ez_lsub (q := 54) dX8_bitsOf_53 rfl ?_
          refine ez_lstore_4 (q := 56) dX8_bitsOf_54 (by decide) rfl rfl ?_
          refine ez_goto (q := 38) dX8_bitsOf_56 (by decide) ?_
          exact E.fg (ih38 (k + 1) (by omega) (by omega)) ⟨Or.inr (rfl), Or.inl rfl, Or.inr (rfl), Or.inl rfl, Or.inr (rfl), Or.inl rfl, trivial⟩
    · first
      | exact absurd hc3 a2
      | skip
        refine ez_lconst (v := 0) (q := 7) dX8_bitsOf_6 (by decide) rfl ?_
        exact ez_lret dX8_bitsOf_7 rfl (hQ)
  · obtain ⟨hbo, hbv⟩ := bi_get hp hh hz9
    obtain ⟨a1, a2, a3, a4, a5, a6, a7, a8, a9, a10⟩ := biO_s hbo
    rw [hbv] at hQ
    clear hbv
    refine ez_dload_n (q := 1) 0 dX8_bitsOf_0 rfl rfl rfl ?_
    refine ez_dconst0 (q := 2) dX8_bitsOf_1 rfl ?_
    refine ez_dcmp (q := 3) dX8_bitsOf_2 rfl ?_
    refine ez_ifne (q := 6) (tgt := 8) dX8_bitsOf_3 (by decide) rfl (fun hc3 => ?_) (fun hc3 => ?_)
    · first
      | exact absurd z2 hc3
      | skip
        refine ez_dload_n (q := 9) 0 dX8_bitsOf_8 rfl rfl rfl ?_
        refine ez_dstore_2 (q := 10) dX8_bitsOf_9 rfl (by decide) rfl rfl ?_
        refine ez_ldc2 (q := 13) dX8_bitsOf_10 ct_X8_235 rfl ?_
        refine ez_lstore_4 (q := 15) dX8_bitsOf_13 (by decide) rfl rfl ?_
        refine ez_dload_n (q := 16) 2 dX8_bitsOf_15 rfl rfl rfl ?_
        refine ez_ldc2d (q := 19) dX8_bitsOf_16 ct_X8_237 rfl ?_
        refine ez_dcmp (q := 20) dX8_bitsOf_19 rfl ?_
        refine ez_iflt (q := 23) (tgt := 38) dX8_bitsOf_20 (by decide) rfl (fun hc20 => ?_) (fun hc20 => absurd a3 hc20)
        refine ez_loop (α := Nat) (fun k => biK (shV u p) - k) (P := fun k => (k ≤ biK (shV u p)) → E G mX8_bitsOf (d) Q h n 0 0 38 [some (.double ((shV u p))), none, some (.double (dbN (shV u p) k)), none, some (.long (pwN k)), none] []) ?_ 0 (Nat.zero_le _)
        intro k ih38 hk
        refine ez_dload_n (q := 39) 2 dX8_bitsOf_38 rfl rfl rfl ?_
        refine ez_dconst1 (q := 40) dX8_bitsOf_39 rfl ?_
        refine ez_dcmp (q := 41) dX8_bitsOf_40 rfl ?_
        refine ez_ifge (q := 44) (tgt := 59) dX8_bitsOf_41 (by decide) rfl (fun hc41 => ?_) (fun hc41 => ?_)
        · have ek : k = biK (shV u p) := by by_cases e : k = biK (shV u p); { exact e }; { have h9 := (a5 k (by omega)).1; exact absurd (show lt1 (dbN (shV u p) k) < 0 from h9) (by simp only [Int32.lt_iff_toInt_lt, Int32.le_iff_toInt_le] at hc41 ⊢; exact fun a => by have a8 : (0 : Int32).toInt ≤ (lt1 (dbN (shV u p) k)).toInt := hc41; omega) }
          subst ek
          refine ez_lload (q := 61) dX8_bitsOf_59 rfl rfl ?_
          refine ez_bipush (v := nI 52) (q := 63) dX8_bitsOf_61 (by decide) rfl ?_
          refine ez_lshl (q := 64) dX8_bitsOf_63 rfl ?_
          refine ez_dload_n (q := 65) 2 dX8_bitsOf_64 rfl rfl rfl ?_
          refine ez_ldc2d (q := 68) dX8_bitsOf_65 ct_X8_239 rfl ?_
          refine ez_dmul (q := 69) dX8_bitsOf_68 a9 rfl ?_
          refine ez_d2l (q := 70) dX8_bitsOf_69 rfl ?_
          refine ez_ladd (q := 71) dX8_bitsOf_70 rfl ?_
          refine ez_ldc2 (q := 74) dX8_bitsOf_71 ct_X8_241 rfl ?_
          refine ez_lsub (q := 75) dX8_bitsOf_74 rfl ?_
          exact ez_lret dX8_bitsOf_75 rfl (hQ)
        · have hlt : k < biK (shV u p) := by by_cases e : k = biK (shV u p); { rw [e] at hc41; exact absurd a6 hc41 }; { omega }
          refine ez_dload_n (q := 45) 2 dX8_bitsOf_44 rfl rfl rfl ?_
          refine ez_ldc2d (q := 48) dX8_bitsOf_45 ct_X8_237 rfl ?_
          refine ez_dmul (q := 49) dX8_bitsOf_48 (a5 k hlt).2 rfl ?_
          refine ez_dstore_2 (q := 50) dX8_bitsOf_49 rfl (by decide) rfl rfl ?_
          refine ez_lload (q := 52) dX8_bitsOf_50 rfl rfl ?_
          refine ez_lconst (v := 1) (q := 53) dX8_bitsOf_52 (by decide) rfl ?_
          refine ez_lsub (q := 54) dX8_bitsOf_53 rfl ?_
          refine ez_lstore_4 (q := 56) dX8_bitsOf_54 (by decide) rfl rfl ?_
          refine ez_goto (q := 38) dX8_bitsOf_56 (by decide) ?_
          exact E.fg (ih38 (k + 1) (by omega) (by omega)) ⟨Or.inr (rfl), Or.inl rfl, Or.inr (rfl), Or.inl rfl, Or.inr (rfl), Or.inl rfl, trivial⟩
    · first
      | exact absurd hc3 a2
      | skip
        refine ez_lconst (v := 0) (q := 7) dX8_bitsOf_6 (by decide) rfl ?_
        exact ez_lret dX8_bitsOf_7 rfl (hQ)

set_option maxHeartbeats 800000 in
set_option maxRecDepth 100000 in
theorem t_X8_mix {G : ez_G} {d n : Nat} {h : ez_H} {mx : Int64 → Int64 → Int64} {v : Int64} {th sm ty rd wa rm fm ff : Int32} {z sv bf se ro le de rw sp : Nat → Int32} {ww : Bool} {ha : Int64} (hM : IM h h th z sv sm bf ty rd se ro le de wa ww rw rm sp fm ff ha) (hmx : ∀ a b, mx a b = 31 * a + b) : Con G mX8_mix (d) [.ref 64, .long v] h n 0 0 (PM h n none th z sv sm bf ty rd se ro le de wa ww rw rm sp fm ff (mx ha v)) := by
  refine Con.of [some (.ref 64), some (.long v), none] pl_X8 rfl (Nat.le_of_ble_eq_true rfl) rfl ?_
  have hQ : ∀ g, IM h g th z sv sm bf ty rd se ro le de wa ww rw rm sp fm ff (mx ha v) → (PM h n none th z sv sm bf ty rd se ro le de wa ww rw rm sp fm ff (mx ha v)) (.inl none) g n := fun g hM => ⟨rfl, hM, rfl⟩
  generalize PM h n none th z sv sm bf ty rd se ro le de wa ww rw rm sp fm ff (mx ha v) = Q at hQ ⊢
  refine ez_aload_n (q := 1) 0 dX8_mix_0 rfl rfl rfl ?_
  refine ez_ldc2 (q := 4) dX8_mix_1 ct_X8_243 rfl ?_
  refine ez_aload_n (q := 5) 0 dX8_mix_4 rfl rfl rfl ?_
  refine ez_getf (q := 8) dX8_mix_5 fl_X8_245 hM.1 rfl rfl ?_
  refine ez_lmul (q := 9) dX8_mix_8 rfl ?_
  refine ez_lload_n (q := 10) 1 dX8_mix_9 rfl rfl rfl ?_
  refine ez_ladd (q := 11) dX8_mix_10 rfl ?_
  refine pM_ha (q := 14) dX8_mix_11 fl_X8_245 hM rfl (fun g hM => ?_)
  exact ez_vret dX8_mix_14 rfl (by rw [← hmx] at hM; exact hQ _ hM)

set_option maxHeartbeats 800000 in
set_option maxRecDepth 100000 in
theorem t_X8_mixWish {G : ez_G} {d n : Nat} {h : ez_H} {n' f : Nat} {L T ln : Nat → Nat} {sg : Nat → Nat → Nat} {mx : Int64 → Int64 → Int64} {w r : Nat} {th sm ty wa rm fm ff : Int32} {z sv bf se ro le de rw sp : Nat → Int32} {ww : Bool} {ha : Int64} (hM : IM h h th z sv sm bf ty (nI r) se ro le de wa ww rw rm sp fm ff ha) (hz : ZZ z n' f L T ln sg) (ho : OK n' f L T ln sg) (hs : WFS ln sg) (hmx : ∀ a b, mx a b = 31 * a + b) (hw : w < 4) : Con G mX8_mixWish (d + 12) [.ref 64, .int (nI w)] h n 0 0 (PW n none (fun g => MB h g th z sv sm bf ty (dwJ mx T n' f L ln sg ha w))) := by
  have hn := ho.1
  have hn0 := hz.1
  have hl := ho.2.2.2.2.1 w hw
  refine Con.of [some (.ref 64), some (.int (nI w)), none, none] pl_X8 rfl (Nat.le_of_ble_eq_true rfl) rfl ?_
  have hQ : ∀ g, MB h g th z sv sm bf ty (dwJ mx T n' f L ln sg ha w) → (PW n none (fun g => MB h g th z sv sm bf ty (dwJ mx T n' f L ln sg ha w))) (.inl none) g n := fun g hW => ⟨rfl, hW, rfl⟩
  generalize PW n none (fun g => MB h g th z sv sm bf ty (dwJ mx T n' f L ln sg ha w)) = Q at hQ ⊢
  refine ez_iconst (v := nI 0) (q := 1) dX8_mixWish_0 (by decide) rfl ?_
  refine ez_istore_2 (q := 2) dX8_mixWish_1 rfl (by decide) rfl rfl ?_
  refine ez_loop (α := Nat) (fun k => 4 - k) (P := fun k => ∀ (g : ez_H) (r : Nat) (se ro le de : Nat → Int32) (wa : Int32) (ww : Bool) (rw : Nat → Int32) (rm : Int32) (sp : Nat → Int32) (fm ff : Int32), IM h g th z sv sm bf ty (nI r) se ro le de wa ww rw rm sp fm ff (mxs mx ha (tsI T n' f L ln sg w) k) → (k ≤ 4) → E G mX8_mixWish (d + 12) Q g n 0 0 2 [some (.ref 64), some (.int (nI w)), some (.int (nI k)), none] []) ?_ 0 h _ _ _ _ _ _ _ _ _ _ _ _ hM (by omega)
  intro k ih2 g r se ro le de wa ww rw rm sp fm ff hM hk
  refine ez_iload_n (q := 3) 2 dX8_mixWish_2 rfl rfl rfl ?_
  refine ez_iconst (v := nI 3) (q := 4) dX8_mixWish_3 (by decide) rfl ?_
  refine ez_icmpgtN (q := 7) (tgt := 24) dX8_mixWish_4 (by decide) (by omega) (by omega) rfl (fun hc4 => ?_) (fun hc4 => ?_)
  · obtain rfl : k = 4 := by omega
    refine ez_iconst (v := nI 0) (q := 25) dX8_mixWish_24 (by decide) rfl ?_
    refine ez_istore_2 (q := 26) dX8_mixWish_25 rfl (by decide) rfl rfl ?_
    refine ez_loop (α := Nat) (fun i => ln w - i) (P := fun i => ∀ (g : ez_H) (r : Nat) (se ro le de : Nat → Int32) (wa : Int32) (ww : Bool) (rw : Nat → Int32) (rm : Int32) (sp : Nat → Int32) (fm ff : Int32), IM h g th z sv sm bf ty (nI r) se ro le de wa ww rw rm sp fm ff (mx2 mx (mxs mx ha (tsI T n' f L ln sg w) 4) (tgI T n' f L ln sg w) 4 i) → (i ≤ ln w) → E G mX8_mixWish (d + 12) Q g n 0 0 26 [some (.ref 64), some (.int (nI w)), some (.int (nI i)), none] []) ?_ 0 g _ _ _ _ _ _ _ _ _ _ _ _ hM (by omega)
    intro i ih26 g r se ro le de wa ww rw rm sp fm ff hM hi
    refine ez_iload_n (q := 27) 2 dX8_mixWish_26 rfl rfl rfl ?_
    refine ez_aload_n (q := 28) 0 dX8_mixWish_27 rfl rfl rfl ?_
    refine ez_iload_n (q := 29) 1 dX8_mixWish_28 rfl rfl rfl ?_
    refine cMv (q := 32) dX8_mixWish_29 ck_X8_101 hM (t_X8_lengthOf hM.rb hz ho hw) rfl rfl rfl rfl rfl (Nat.le_of_ble_eq_true rfl) rfl (fun g hM => ?_)
    refine ez_icmpgeN (q := 35) (tgt := 66) dX8_mixWish_32 (by decide) (by omega) (by omega) rfl (fun hc32 => ?_) (fun hc32 => ?_)
    · obtain rfl : i = ln w := by omega
      refine ez_iconst (v := nI 0) (q := 67) dX8_mixWish_66 (by decide) rfl ?_
      refine ez_istore_2 (q := 68) dX8_mixWish_67 rfl (by decide) rfl rfl ?_
      refine ez_loop (α := Nat) (fun i => n' - i) (P := fun i => ∀ (g : ez_H) (r : Nat) (se ro le de : Nat → Int32) (wa : Int32) (ww : Bool) (rw : Nat → Int32) (rm : Int32) (sp : Nat → Int32) (fm ff : Int32), IM h g th z sv sm bf ty (nI r) se ro le de wa ww rw rm sp fm ff (mx2 mx (mx2 mx (mxs mx ha (tsI T n' f L ln sg w) 4) (tgI T n' f L ln sg w) 4 (ln w)) (wtI T n' f L ln sg w) 4 i) → (i ≤ n') → E G mX8_mixWish (d + 12) Q g n 0 0 68 [some (.ref 64), some (.int (nI w)), some (.int (nI i)), none] []) ?_ 0 g _ _ _ _ _ _ _ _ _ _ _ _ hM (by omega)
      intro i ih68 g r se ro le de wa ww rw rm sp fm ff hM hi
      refine ez_iload_n (q := 69) 2 dX8_mixWish_68 rfl rfl rfl ?_
      refine ez_aload_n (q := 70) 0 dX8_mixWish_69 rfl rfl rfl ?_
      refine ez_getf (q := 73) dX8_mixWish_70 fl_X8_7 hM.1 rfl rfl ?_
      refine ez_iconst (v := nI 0) (q := 74) dX8_mixWish_73 (by decide) rfl ?_
      refine ez_iald (q := 75) dX8_mixWish_74 hM.2.1 rfl (by omega) (by decide) rfl ?_
      refine ez_top (hn0) ?_
      refine ez_icmpgeN (q := 78) (tgt := 109) dX8_mixWish_75 (by decide) (by omega) (by omega) rfl (fun hc75 => ?_) (fun hc75 => ?_)
      · have ei9 : i = n' := by omega
        rw [ei9] at hM
        refine ez_aload_n (q := 110) 0 dX8_mixWish_109 rfl rfl rfl ?_
        refine ez_aload_n (q := 111) 0 dX8_mixWish_110 rfl rfl rfl ?_
        refine ez_iload_n (q := 112) 1 dX8_mixWish_111 rfl rfl rfl ?_
        refine ez_iconst (v := nI 0) (q := 113) dX8_mixWish_112 (by decide) rfl ?_
        refine cXv (q := 116) dX8_mixWish_113 ck_X8_197 hM.1 (t_X8_compared hM.rb hz ho hs hw (by omega)) rfl ⟨by decide, rfl⟩ rfl rfl rfl (Nat.le_of_ble_eq_true rfl) rfl (fun g hW => ?_)
        obtain ⟨r, se, ro, le, de, wa, ww, rw, rm, sp, fm, ff, hM2⟩ := hW
        have hM := hM.tr hM2
        refine ez_i2l (q := 117) dX8_mixWish_116 rfl ?_
        refine cM0 (q := 120) dX8_mixWish_117 ck_X8_249 hM (t_X8_mix hM.rb hmx) rfl rfl rfl rfl rfl (Nat.le_of_ble_eq_true rfl) rfl (fun g hM => ?_)
        refine ez_aload_n (q := 121) 0 dX8_mixWish_120 rfl rfl rfl ?_
        refine ez_aload_n (q := 122) 0 dX8_mixWish_121 rfl rfl rfl ?_
        refine ez_iload_n (q := 123) 1 dX8_mixWish_122 rfl rfl rfl ?_
        refine ez_iconst (v := -1) (q := 124) dX8_mixWish_123 (by decide) rfl ?_
        refine cXv (q := 127) dX8_mixWish_124 ck_X8_228 hM.1 (t_X8_byFair (u := 4) hM.rb hz ho hs hw (by omega)) rfl ⟨by decide, rfl⟩ rfl rfl rfl (Nat.le_of_ble_eq_true rfl) rfl (fun g hW => ?_)
        obtain ⟨r, se, ro, le, de, wa, ww, rw, rm, sp, fm, ff, hM2⟩ := hW
        have hM := hM.tr hM2
        refine ez_i2l (q := 128) dX8_mixWish_127 rfl ?_
        refine cM0 (q := 131) dX8_mixWish_128 ck_X8_249 hM (t_X8_mix hM.rb hmx) rfl rfl rfl rfl rfl (Nat.le_of_ble_eq_true rfl) rfl (fun g hM => ?_)
        refine ez_aload_n (q := 132) 0 dX8_mixWish_131 rfl rfl rfl ?_
        refine ez_aload_n (q := 133) 0 dX8_mixWish_132 rfl rfl rfl ?_
        refine ez_iload_n (q := 134) 1 dX8_mixWish_133 rfl rfl rfl ?_
        refine ez_iconst (v := nI 0) (q := 135) dX8_mixWish_134 (by decide) rfl ?_
        refine cXv (q := 138) dX8_mixWish_135 ck_X8_228 hM.1 (t_X8_byFair (u := 0) hM.rb hz ho hs hw (by omega)) rfl ⟨by decide, rfl⟩ rfl rfl rfl (Nat.le_of_ble_eq_true rfl) rfl (fun g hW => ?_)
        obtain ⟨r, se, ro, le, de, wa, ww, rw, rm, sp, fm, ff, hM2⟩ := hW
        have hM := hM.tr hM2
        refine ez_i2l (q := 139) dX8_mixWish_138 rfl ?_
        refine cM0 (q := 142) dX8_mixWish_139 ck_X8_249 hM (t_X8_mix hM.rb hmx) rfl rfl rfl rfl rfl (Nat.le_of_ble_eq_true rfl) rfl (fun g hM => ?_)
        refine ez_iconst (v := nI 0) (q := 143) dX8_mixWish_142 (by decide) rfl ?_
        refine ez_istore_2 (q := 144) dX8_mixWish_143 rfl (by decide) rfl rfl ?_
        refine ez_loop (α := Nat) (fun k => 4 - k) (P := fun k => ∀ (g : ez_H) (r : Nat) (se ro le de : Nat → Int32) (wa : Int32) (ww : Bool) (rw : Nat → Int32) (rm : Int32) (sp : Nat → Int32) (fm ff : Int32), IM h g th z sv sm bf ty (nI r) se ro le de wa ww rw rm sp fm ff (mxs mx (dw6 mx T n' f L ln sg ha w) (fxI T n' f L ln sg w 0) k) → (k ≤ 4) → (k = 0 ∨ 0 < n') → E G mX8_mixWish (d + 12) Q g n 0 0 144 [some (.ref 64), some (.int (nI w)), some (.int (nI k)), none] []) ?_ 0 g _ _ _ _ _ _ _ _ _ _ _ _ hM (by omega) (Or.inl rfl)
        intro k ih144 g r se ro le de wa ww rw rm sp fm ff hM hk hk0
        refine ez_iload_n (q := 145) 2 dX8_mixWish_144 rfl rfl rfl ?_
        refine ez_iconst (v := nI 3) (q := 146) dX8_mixWish_145 (by decide) rfl ?_
        refine ez_icmpgtN (q := 149) (tgt := 176) dX8_mixWish_146 (by decide) (by omega) (by omega) rfl (fun hc146 => ?_) (fun hc146 => ?_)
        · exact ez_vret dX8_mixWish_176 rfl (by first | (rw [show k = 4 from by omega] at hM; rw [dwJ, if_neg (show ¬ n' = 0 by omega)] at hQ; exact hQ _ ⟨_, _, _, _, _, _, _, _, _, _, _, _, hM⟩) | (rw [dwJ, if_pos (show n' = 0 by omega)] at hQ; rw [show k = 0 from by omega] at hM; exact hQ _ ⟨_, _, _, _, _, _, _, _, _, _, _, _, hM⟩))
        · refine ez_aload_n (q := 150) 0 dX8_mixWish_149 rfl rfl rfl ?_
          refine ez_getf (q := 153) dX8_mixWish_150 fl_X8_7 hM.1 rfl rfl ?_
          refine ez_iconst (v := nI 0) (q := 154) dX8_mixWish_153 (by decide) rfl ?_
          refine ez_iald (q := 155) dX8_mixWish_154 hM.2.1 rfl (by omega) (by decide) rfl ?_
          refine ez_top (hn0) ?_
          refine ez_ifleN (q := 158) (tgt := 176) dX8_mixWish_155 (by decide) (by omega) rfl (fun hc155 => ?_) (fun hc155 => ?_)
          · exact ez_vret dX8_mixWish_176 rfl (by first | (rw [show k = 4 from by omega] at hM; rw [dwJ, if_neg (show ¬ n' = 0 by omega)] at hQ; exact hQ _ ⟨_, _, _, _, _, _, _, _, _, _, _, _, hM⟩) | (rw [dwJ, if_pos (show n' = 0 by omega)] at hQ; rw [show k = 0 from by omega] at hM; exact hQ _ ⟨_, _, _, _, _, _, _, _, _, _, _, _, hM⟩))
          · refine ez_aload_n (q := 159) 0 dX8_mixWish_158 rfl rfl rfl ?_
            refine ez_aload_n (q := 160) 0 dX8_mixWish_159 rfl rfl rfl ?_
            refine ez_iload_n (q := 161) 1 dX8_mixWish_160 rfl rfl rfl ?_
            refine ez_iconst (v := nI 0) (q := 162) dX8_mixWish_161 (by decide) rfl ?_
            refine ez_iload_n (q := 163) 2 dX8_mixWish_162 rfl rfl rfl ?_
            refine cXv (q := 166) dX8_mixWish_163 ck_X8_225 hM.1 (t_X8_fixed hM.rb hz ho hs hw (by omega) (by omega)) rfl ⟨by decide, rfl⟩ rfl rfl rfl (Nat.le_of_ble_eq_true rfl) rfl (fun g hW => ?_)
            obtain ⟨r, se, ro, le, de, wa, ww, rw, rm, sp, fm, ff, hM2⟩ := hW
            have hM := hM.tr hM2
            refine ez_i2l (q := 167) dX8_mixWish_166 rfl ?_
            refine cM0 (q := 170) dX8_mixWish_167 ck_X8_249 hM (t_X8_mix hM.rb hmx) rfl rfl rfl rfl rfl (Nat.le_of_ble_eq_true rfl) rfl (fun g hM => ?_)
            refine ez_iincN_2 (q := 173) dX8_mixWish_170 (by decide) rfl rfl ?_
            refine ez_goto (q := 144) dX8_mixWish_173 (by decide) ?_
            exact E.fg (ih144 (k + 1) (by omega) g _ _ _ _ _ _ _ _ _ _ _ _ hM (by omega) (by omega)) ⟨Or.inr (rfl), Or.inr (rfl), Or.inr (rfl), Or.inl rfl, trivial⟩
      · refine ez_iconst (v := nI 0) (q := 79) dX8_mixWish_78 (by decide) rfl ?_
        refine ez_istore_3 (q := 80) dX8_mixWish_79 rfl (by decide) rfl rfl ?_
        refine ez_loop (α := Nat) (fun k => 4 - k) (P := fun k => ∀ (g : ez_H) (r : Nat) (se ro le de : Nat → Int32) (wa : Int32) (ww : Bool) (rw : Nat → Int32) (rm : Int32) (sp : Nat → Int32) (fm ff : Int32), IM h g th z sv sm bf ty (nI r) se ro le de wa ww rw rm sp fm ff (mxs mx (mx2 mx (mx2 mx (mxs mx ha (tsI T n' f L ln sg w) 4) (tgI T n' f L ln sg w) 4 (ln w)) (wtI T n' f L ln sg w) 4 i) ((wtI T n' f L ln sg w) i) k) → (k ≤ 4) → E G mX8_mixWish (d + 12) Q g n 0 0 80 [some (.ref 64), some (.int (nI w)), some (.int (nI i)), some (.int (nI k))] []) ?_ 0 g _ _ _ _ _ _ _ _ _ _ _ _ hM (by omega)
        intro k ih80 g r se ro le de wa ww rw rm sp fm ff hM hk
        refine ez_iload_n (q := 81) 3 dX8_mixWish_80 rfl rfl rfl ?_
        refine ez_iconst (v := nI 3) (q := 82) dX8_mixWish_81 (by decide) rfl ?_
        refine ez_icmpgtN (q := 85) (tgt := 103) dX8_mixWish_82 (by decide) (by omega) (by omega) rfl (fun hc82 => ?_) (fun hc82 => ?_)
        · obtain rfl : k = 4 := by omega
          refine ez_iincN_2 (q := 106) dX8_mixWish_103 (by decide) rfl rfl ?_
          refine ez_goto (q := 68) dX8_mixWish_106 (by decide) ?_
          exact E.fg (ih68 (i + 1) (by omega) g _ _ _ _ _ _ _ _ _ _ _ _ hM (by omega)) ⟨Or.inr (rfl), Or.inr (rfl), Or.inr (rfl), Or.inl rfl, trivial⟩
        · refine ez_aload_n (q := 86) 0 dX8_mixWish_85 rfl rfl rfl ?_
          refine ez_aload_n (q := 87) 0 dX8_mixWish_86 rfl rfl rfl ?_
          refine ez_iload_n (q := 88) 1 dX8_mixWish_87 rfl rfl rfl ?_
          refine ez_iload_n (q := 89) 2 dX8_mixWish_88 rfl rfl rfl ?_
          refine ez_iload_n (q := 90) 3 dX8_mixWish_89 rfl rfl rfl ?_
          refine cXv (q := 93) dX8_mixWish_90 ck_X8_194 hM.1 (t_X8_witnessAt hM.rb hz ho hs hw (by omega) (by omega)) rfl ⟨by decide, rfl⟩ rfl rfl rfl (Nat.le_of_ble_eq_true rfl) rfl (fun g hW => ?_)
          obtain ⟨r, se, ro, le, de, wa, ww, rw, rm, sp, fm, ff, hM2⟩ := hW
          have hM := hM.tr hM2
          refine ez_i2l (q := 94) dX8_mixWish_93 rfl ?_
          refine cM0 (q := 97) dX8_mixWish_94 ck_X8_249 hM (t_X8_mix hM.rb hmx) rfl rfl rfl rfl rfl (Nat.le_of_ble_eq_true rfl) rfl (fun g hM => ?_)
          refine ez_iincN_3 (q := 100) dX8_mixWish_97 (by decide) rfl rfl ?_
          refine ez_goto (q := 80) dX8_mixWish_100 (by decide) ?_
          exact E.fg (ih80 (k + 1) (by omega) g _ _ _ _ _ _ _ _ _ _ _ _ hM (by omega)) ⟨Or.inr (rfl), Or.inr (rfl), Or.inr (rfl), Or.inr (rfl), trivial⟩
    · refine ez_iconst (v := nI 0) (q := 36) dX8_mixWish_35 (by decide) rfl ?_
      refine ez_istore_3 (q := 37) dX8_mixWish_36 rfl (by decide) rfl rfl ?_
      refine ez_loop (α := Nat) (fun k => 4 - k) (P := fun k => ∀ (g : ez_H) (r : Nat) (se ro le de : Nat → Int32) (wa : Int32) (ww : Bool) (rw : Nat → Int32) (rm : Int32) (sp : Nat → Int32) (fm ff : Int32), IM h g th z sv sm bf ty (nI r) se ro le de wa ww rw rm sp fm ff (mxs mx (mx2 mx (mxs mx ha (tsI T n' f L ln sg w) 4) (tgI T n' f L ln sg w) 4 i) ((tgI T n' f L ln sg w) i) k) → (k ≤ 4) → E G mX8_mixWish (d + 12) Q g n 0 0 37 [some (.ref 64), some (.int (nI w)), some (.int (nI i)), some (.int (nI k))] []) ?_ 0 g _ _ _ _ _ _ _ _ _ _ _ _ hM (by omega)
      intro k ih37 g r se ro le de wa ww rw rm sp fm ff hM hk
      refine ez_iload_n (q := 38) 3 dX8_mixWish_37 rfl rfl rfl ?_
      refine ez_iconst (v := nI 3) (q := 39) dX8_mixWish_38 (by decide) rfl ?_
      refine ez_icmpgtN (q := 42) (tgt := 60) dX8_mixWish_39 (by decide) (by omega) (by omega) rfl (fun hc39 => ?_) (fun hc39 => ?_)
      · obtain rfl : k = 4 := by omega
        refine ez_iincN_2 (q := 63) dX8_mixWish_60 (by decide) rfl rfl ?_
        refine ez_goto (q := 26) dX8_mixWish_63 (by decide) ?_
        exact E.fg (ih26 (i + 1) (by omega) g _ _ _ _ _ _ _ _ _ _ _ _ hM (by omega)) ⟨Or.inr (rfl), Or.inr (rfl), Or.inr (rfl), Or.inl rfl, trivial⟩
      · refine ez_aload_n (q := 43) 0 dX8_mixWish_42 rfl rfl rfl ?_
        refine ez_aload_n (q := 44) 0 dX8_mixWish_43 rfl rfl rfl ?_
        refine ez_iload_n (q := 45) 1 dX8_mixWish_44 rfl rfl rfl ?_
        refine ez_iload_n (q := 46) 2 dX8_mixWish_45 rfl rfl rfl ?_
        refine ez_iload_n (q := 47) 3 dX8_mixWish_46 rfl rfl rfl ?_
        refine cXv (q := 50) dX8_mixWish_47 ck_X8_159 hM.1 (t_X8_toldSign hM.rb hz ho hs hw (by omega) (by omega)) rfl ⟨by decide, rfl⟩ rfl rfl rfl (Nat.le_of_ble_eq_true rfl) rfl (fun g hW => ?_)
        obtain ⟨r, se, ro, le, de, wa, ww, rw, rm, sp, fm, ff, hM2⟩ := hW
        have hM := hM.tr hM2
        refine ez_i2l (q := 51) dX8_mixWish_50 rfl ?_
        refine cM0 (q := 54) dX8_mixWish_51 ck_X8_249 hM (t_X8_mix hM.rb hmx) rfl rfl rfl rfl rfl (Nat.le_of_ble_eq_true rfl) rfl (fun g hM => ?_)
        refine ez_iincN_3 (q := 57) dX8_mixWish_54 (by decide) rfl rfl ?_
        refine ez_goto (q := 37) dX8_mixWish_57 (by decide) ?_
        exact E.fg (ih37 (k + 1) (by omega) g _ _ _ _ _ _ _ _ _ _ _ _ hM (by omega)) ⟨Or.inr (rfl), Or.inr (rfl), Or.inr (rfl), Or.inr (rfl), trivial⟩
  · refine ez_aload_n (q := 8) 0 dX8_mixWish_7 rfl rfl rfl ?_
    refine ez_aload_n (q := 9) 0 dX8_mixWish_8 rfl rfl rfl ?_
    refine ez_iload_n (q := 10) 1 dX8_mixWish_9 rfl rfl rfl ?_
    refine ez_iload_n (q := 11) 2 dX8_mixWish_10 rfl rfl rfl ?_
    refine cXv (q := 14) dX8_mixWish_11 ck_X8_156 hM.1 (t_X8_toldWish hM.rb hz ho hs hw (by omega)) rfl ⟨by decide, rfl⟩ rfl rfl rfl (Nat.le_of_ble_eq_true rfl) rfl (fun g hW => ?_)
    obtain ⟨r, se, ro, le, de, wa, ww, rw, rm, sp, fm, ff, hM2⟩ := hW
    have hM := hM.tr hM2
    refine ez_i2l (q := 15) dX8_mixWish_14 rfl ?_
    refine cM0 (q := 18) dX8_mixWish_15 ck_X8_249 hM (t_X8_mix hM.rb hmx) rfl rfl rfl rfl rfl (Nat.le_of_ble_eq_true rfl) rfl (fun g hM => ?_)
    refine ez_iincN_2 (q := 21) dX8_mixWish_18 (by decide) rfl rfl ?_
    refine ez_goto (q := 2) dX8_mixWish_21 (by decide) ?_
    exact E.fg (ih2 (k + 1) (by omega) g _ _ _ _ _ _ _ _ _ _ _ _ hM (by omega)) ⟨Or.inr (rfl), Or.inr (rfl), Or.inr (rfl), Or.inl rfl, trivial⟩

set_option maxHeartbeats 800000 in
set_option maxRecDepth 100000 in
theorem t_X8_digest {G : ez_G} {d n : Nat} {h : ez_H} {n' f : Nat} {L T ln : Nat → Nat} {sg : Nat → Nat → Nat} {mx : Int64 → Int64 → Int64} {k9 t9 r : Nat} {b : Nat → Nat} {th wa rm fm ff : Int32} {z sv bf se ro le de rw sp : Nat → Int32} {ww : Bool} {ha : Int64} (hM : IM h h th z sv (nI k9) bf (nI t9) (nI r) se ro le de wa ww rw rm sp fm ff ha) (hz : ZZ z n' f L T ln sg) (ho : OK n' f L T ln sg) (hs : WFS ln sg) (hmx : ∀ a b, mx a b = 31 * a + b) (hb : BB bf t9 b) : Con G mX8_digest (d + 13) [.ref 64] h n 0 0 (PW n (some (.long (dgV mx T n' f L ln sg k9 t9 b))) (fun g => MB h g (nI 0) z sv (nI k9) bf (nI t9) (dgV mx T n' f L ln sg k9 t9 b))) := by
  have hn := ho.1
  have hn0 := hz.1
  have ht60 := hb.1
  have hh2 := hp_le2 (T := T) (f := f) (L := L) (ln := ln) (sg := sg) hn
  have hp4 : n' * wmN ln 4 ≤ 10 * 4 := Nat.mul_le_mul hn (wm_le ln 4)
  refine Con.of [some (.ref 64), none, none] pl_X8 rfl (Nat.le_of_ble_eq_true rfl) rfl ?_
  have hQ : ∀ g, MB h g (nI 0) z sv (nI k9) bf (nI t9) (dgV mx T n' f L ln sg k9 t9 b) → (PW n (some (.long (dgV mx T n' f L ln sg k9 t9 b))) (fun g => MB h g (nI 0) z sv (nI k9) bf (nI t9) (dgV mx T n' f L ln sg k9 t9 b))) (.inl (some (.long (dgV mx T n' f L ln sg k9 t9 b)))) g n := fun g hW => ⟨rfl, hW, rfl⟩
  generalize PW n (some (.long (dgV mx T n' f L ln sg k9 t9 b))) (fun g => MB h g (nI 0) z sv (nI k9) bf (nI t9) (dgV mx T n' f L ln sg k9 t9 b)) = Q at hQ ⊢
  refine ez_aload_n (q := 1) 0 dX8_digest_0 rfl rfl rfl ?_
  refine ez_iconst (v := nI 0) (q := 2) dX8_digest_1 (by decide) rfl ?_
  refine pM_th (q := 5) dX8_digest_2 fl_X8_37 hM rfl (fun g hM => ?_)
  refine ez_aload_n (q := 6) 0 dX8_digest_5 rfl rfl rfl ?_
  refine ez_ldc2 (q := 9) dX8_digest_6 ct_X8_253 rfl ?_
  refine pM_ha (q := 12) dX8_digest_9 fl_X8_245 hM rfl (fun g hM => ?_)
  refine ez_iconst (v := nI 0) (q := 13) dX8_digest_12 (by decide) rfl ?_
  refine ez_istore_1 (q := 14) dX8_digest_13 rfl (by decide) rfl rfl ?_
  refine ez_loop (α := Nat) (fun k => 9 - k) (P := fun k => ∀ (g : ez_H) (r : Nat) (se ro le de : Nat → Int32) (wa : Int32) (ww : Bool) (rw : Nat → Int32) (rm : Int32) (sp : Nat → Int32) (fm ff : Int32), IM h g (nI 0) z sv (nI k9) bf (nI t9) (nI r) se ro le de wa ww rw rm sp fm ff (mxs mx 2621 (couI T n' f L ln sg k9) k) → (k ≤ 9) → E G mX8_digest (d + 13) Q g n 0 0 14 [some (.ref 64), some (.int (nI k)), none] []) ?_ 0 g _ _ _ _ _ _ _ _ _ _ _ _ hM (by omega)
  intro k ih14 g r se ro le de wa ww rw rm sp fm ff hM hk
  refine ez_iload_n (q := 15) 1 dX8_digest_14 rfl rfl rfl ?_
  refine ez_bipush (v := nI 8) (q := 17) dX8_digest_15 (by decide) rfl ?_
  refine ez_icmpgtN (q := 20) (tgt := 36) dX8_digest_17 (by decide) (by omega) (by omega) rfl (fun hc17 => ?_) (fun hc17 => ?_)
  · obtain rfl : k = 9 := by omega
    refine ez_iconst (v := nI 0) (q := 37) dX8_digest_36 (by decide) rfl ?_
    refine ez_istore_1 (q := 38) dX8_digest_37 rfl (by decide) rfl rfl ?_
    refine ez_loop (α := Nat) (fun i => n' - i) (P := fun i => ∀ (g : ez_H) (r : Nat) (se ro le de : Nat → Int32) (wa : Int32) (ww : Bool) (rw : Nat → Int32) (rm : Int32) (sp : Nat → Int32) (fm ff : Int32), IM h g (nI 0) z sv (nI k9) bf (nI t9) (nI r) se ro le de wa ww rw rm sp fm ff (mx2 mx (mxs mx 2621 (couI T n' f L ln sg k9) 9) (twI T n' f L ln sg) 5 i) → (i ≤ n') → E G mX8_digest (d + 13) Q g n 0 0 38 [some (.ref 64), some (.int (nI i)), none] []) ?_ 0 g _ _ _ _ _ _ _ _ _ _ _ _ hM (by omega)
    intro i ih38 g r se ro le de wa ww rw rm sp fm ff hM hi
    refine ez_iload_n (q := 39) 1 dX8_digest_38 rfl rfl rfl ?_
    refine ez_aload_n (q := 40) 0 dX8_digest_39 rfl rfl rfl ?_
    refine ez_getf (q := 43) dX8_digest_40 fl_X8_7 hM.1 rfl rfl ?_
    refine ez_iconst (v := nI 0) (q := 44) dX8_digest_43 (by decide) rfl ?_
    refine ez_iald (q := 45) dX8_digest_44 hM.2.1 rfl (by omega) (by decide) rfl ?_
    refine ez_top (hn0) ?_
    refine ez_icmpgeN (q := 48) (tgt := 78) dX8_digest_45 (by decide) (by omega) (by omega) rfl (fun hc45 => ?_) (fun hc45 => ?_)
    · have ei9 : i = n' := by omega
      rw [ei9] at hM
      refine ez_iconst (v := nI 0) (q := 79) dX8_digest_78 (by decide) rfl ?_
      refine ez_istore_1 (q := 80) dX8_digest_79 rfl (by decide) rfl rfl ?_
      refine ez_loop (α := Nat) (fun w => 4 - w) (P := fun w => ∀ (g : ez_H) (r : Nat) (se ro le de : Nat → Int32) (wa : Int32) (ww : Bool) (rw : Nat → Int32) (rm : Int32) (sp : Nat → Int32) (fm ff : Int32), IM h g (nI 0) z sv (nI k9) bf (nI t9) (nI r) se ro le de wa ww rw rm sp fm ff (dwS mx T n' f L ln sg (dg2 mx T n' f L ln sg k9) w) → (w ≤ 4) → E G mX8_digest (d + 13) Q g n 0 0 80 [some (.ref 64), some (.int (nI w)), none] []) ?_ 0 g _ _ _ _ _ _ _ _ _ _ _ _ hM (by omega)
      intro w ih80 g r se ro le de wa ww rw rm sp fm ff hM hw
      refine ez_iload_n (q := 81) 1 dX8_digest_80 rfl rfl rfl ?_
      refine ez_iconst (v := nI 4) (q := 82) dX8_digest_81 (by decide) rfl ?_
      refine ez_icmpgeN (q := 85) (tgt := 96) dX8_digest_82 (by decide) (by omega) (by omega) rfl (fun hc82 => ?_) (fun hc82 => ?_)
      · obtain rfl : w = 4 := by omega
        refine ez_aload_n (q := 97) 0 dX8_digest_96 rfl rfl rfl ?_
        refine ez_aload_n (q := 98) 0 dX8_digest_97 rfl rfl rfl ?_
        refine cXv (q := 101) dX8_digest_98 ck_X8_231 hM.1 (t_X8_share hM.rb hz ho hs) rfl ⟨by decide, rfl⟩ rfl rfl rfl (Nat.le_of_ble_eq_true rfl) rfl (fun g hW => ?_)
        obtain ⟨r, se, ro, le, de, wa, ww, rw, rm, sp, fm, ff, hM2⟩ := hW
        have hM := hM.tr hM2
        refine cUv (q := 104) dX8_digest_101 ck_X8_258 (t_X8_bitsOf (by omega) hh2) rfl rfl rfl (Nat.le_of_ble_eq_true rfl) rfl ?_
        refine cM0 (q := 107) dX8_digest_104 ck_X8_249 hM (t_X8_mix hM.rb hmx) rfl rfl rfl rfl rfl (Nat.le_of_ble_eq_true rfl) rfl (fun g hM => ?_)
        refine ez_aload_n (q := 108) 0 dX8_digest_107 rfl rfl rfl ?_
        refine ez_aload_n (q := 109) 0 dX8_digest_108 rfl rfl rfl ?_
        refine ez_getf (q := 112) dX8_digest_109 fl_X8_118 hM.1 rfl rfl ?_
        refine ez_i2l (q := 113) dX8_digest_112 rfl ?_
        refine cM0 (q := 116) dX8_digest_113 ck_X8_249 hM (t_X8_mix hM.rb hmx) rfl rfl rfl rfl rfl (Nat.le_of_ble_eq_true rfl) rfl (fun g hM => ?_)
        refine ez_iconst (v := nI 0) (q := 117) dX8_digest_116 (by decide) rfl ?_
        refine ez_istore_1 (q := 118) dX8_digest_117 rfl (by decide) rfl rfl ?_
        refine ez_loop (α := Nat) (fun k => t9 - k) (P := fun k => ∀ (g : ez_H) (r : Nat) (se ro le de : Nat → Int32) (wa : Int32) (ww : Bool) (rw : Nat → Int32) (rm : Int32) (sp : Nat → Int32) (fm ff : Int32), IM h g (nI 0) z sv (nI k9) bf (nI t9) (nI r) se ro le de wa ww rw rm sp fm ff (mxs mx (mx (dg4 mx T n' f L ln sg k9) (nI t9).toInt64) (fun j => nI (b j)) k) → (k ≤ t9) → E G mX8_digest (d + 13) Q g n 0 0 118 [some (.ref 64), some (.int (nI k)), none] []) ?_ 0 g _ _ _ _ _ _ _ _ _ _ _ _ hM (by omega)
        intro k ih118 g r se ro le de wa ww rw rm sp fm ff hM hk
        refine ez_iload_n (q := 119) 1 dX8_digest_118 rfl rfl rfl ?_
        refine ez_aload_n (q := 120) 0 dX8_digest_119 rfl rfl rfl ?_
        refine ez_getf (q := 123) dX8_digest_120 fl_X8_118 hM.1 rfl rfl ?_
        refine ez_icmpgeN (q := 126) (tgt := 143) dX8_digest_123 (by decide) (by omega) (by omega) rfl (fun hc123 => ?_) (fun hc123 => ?_)
        · refine ez_aload_n (q := 144) 0 dX8_digest_143 rfl rfl rfl ?_
          refine ez_getf (q := 147) dX8_digest_144 fl_X8_245 hM.1 rfl rfl ?_
          exact ez_lret dX8_digest_147 rfl (by rw [show k = t9 from by omega] at hM ⊢; exact hQ _ ⟨_, _, _, _, _, _, _, _, _, _, _, _, hM⟩)
        · refine ez_aload_n (q := 127) 0 dX8_digest_126 rfl rfl rfl ?_
          refine ez_aload_n (q := 128) 0 dX8_digest_127 rfl rfl rfl ?_
          refine ez_getf (q := 131) dX8_digest_128 fl_X8_16 hM.1 rfl rfl ?_
          refine ez_iload_n (q := 132) 1 dX8_digest_131 rfl rfl rfl ?_
          refine ez_iald (q := 133) dX8_digest_132 hM.2.2.2.1 rfl (by omega) (by decide) rfl ?_
          refine ez_top ((hb.2 k (by omega)).1) ?_
          refine ez_i2l (q := 134) dX8_digest_133 rfl ?_
          refine cM0 (q := 137) dX8_digest_134 ck_X8_249 hM (t_X8_mix hM.rb hmx) rfl rfl rfl rfl rfl (Nat.le_of_ble_eq_true rfl) rfl (fun g hM => ?_)
          refine ez_iincN_1 (q := 140) dX8_digest_137 (by decide) rfl rfl ?_
          refine ez_goto (q := 118) dX8_digest_140 (by decide) ?_
          exact E.fg (ih118 (k + 1) (by omega) g _ _ _ _ _ _ _ _ _ _ _ _ hM (by omega)) ⟨Or.inr (rfl), Or.inr (rfl), Or.inl rfl, trivial⟩
      · refine ez_aload_n (q := 86) 0 dX8_digest_85 rfl rfl rfl ?_
        refine ez_iload_n (q := 87) 1 dX8_digest_86 rfl rfl rfl ?_
        refine cX0 (q := 90) dX8_digest_87 ck_X8_255 hM.1 (t_X8_mixWish hM.rb hz ho hs hmx (by omega)) rfl ⟨by decide, rfl⟩ rfl rfl rfl (Nat.le_of_ble_eq_true rfl) rfl (fun g hW => ?_)
        obtain ⟨r, se, ro, le, de, wa, ww, rw, rm, sp, fm, ff, hM2⟩ := hW
        have hM := hM.tr hM2
        refine ez_iincN_1 (q := 93) dX8_digest_90 (by decide) rfl rfl ?_
        refine ez_goto (q := 80) dX8_digest_93 (by decide) ?_
        exact E.fg (ih80 (w + 1) (by omega) g _ _ _ _ _ _ _ _ _ _ _ _ hM (by omega)) ⟨Or.inr (rfl), Or.inr (rfl), Or.inl rfl, trivial⟩
    · refine ez_iconst (v := nI 0) (q := 49) dX8_digest_48 (by decide) rfl ?_
      refine ez_istore_2 (q := 50) dX8_digest_49 rfl (by decide) rfl rfl ?_
      refine ez_loop (α := Nat) (fun k => 5 - k) (P := fun k => ∀ (g : ez_H) (r : Nat) (se ro le de : Nat → Int32) (wa : Int32) (ww : Bool) (rw : Nat → Int32) (rm : Int32) (sp : Nat → Int32) (fm ff : Int32), IM h g (nI 0) z sv (nI k9) bf (nI t9) (nI r) se ro le de wa ww rw rm sp fm ff (mxs mx (mx2 mx (mxs mx 2621 (couI T n' f L ln sg k9) 9) (twI T n' f L ln sg) 5 i) (twI T n' f L ln sg i) k) → (k ≤ 5) → E G mX8_digest (d + 13) Q g n 0 0 50 [some (.ref 64), some (.int (nI i)), some (.int (nI k))] []) ?_ 0 g _ _ _ _ _ _ _ _ _ _ _ _ hM (by omega)
      intro k ih50 g r se ro le de wa ww rw rm sp fm ff hM hk
      refine ez_iload_n (q := 51) 2 dX8_digest_50 rfl rfl rfl ?_
      refine ez_iconst (v := nI 4) (q := 52) dX8_digest_51 (by decide) rfl ?_
      refine ez_icmpgtN (q := 55) (tgt := 72) dX8_digest_52 (by decide) (by omega) (by omega) rfl (fun hc52 => ?_) (fun hc52 => ?_)
      · obtain rfl : k = 5 := by omega
        refine ez_iincN_1 (q := 75) dX8_digest_72 (by decide) rfl rfl ?_
        refine ez_goto (q := 38) dX8_digest_75 (by decide) ?_
        exact E.fg (ih38 (i + 1) (by omega) g _ _ _ _ _ _ _ _ _ _ _ _ hM (by omega)) ⟨Or.inr (rfl), Or.inr (rfl), Or.inl rfl, trivial⟩
      · refine ez_aload_n (q := 56) 0 dX8_digest_55 rfl rfl rfl ?_
        refine ez_aload_n (q := 57) 0 dX8_digest_56 rfl rfl rfl ?_
        refine ez_iload_n (q := 58) 1 dX8_digest_57 rfl rfl rfl ?_
        refine ez_iload_n (q := 59) 2 dX8_digest_58 rfl rfl rfl ?_
        refine cXv (q := 62) dX8_digest_59 ck_X8_150 hM.1 (t_X8_toldWorld hM.rb hz ho hs (by omega) (by omega)) rfl ⟨by decide, rfl⟩ rfl rfl rfl (Nat.le_of_ble_eq_true rfl) rfl (fun g hW => ?_)
        obtain ⟨r, se, ro, le, de, wa, ww, rw, rm, sp, fm, ff, hM2⟩ := hW
        have hM := hM.tr hM2
        refine ez_i2l (q := 63) dX8_digest_62 rfl ?_
        refine cM0 (q := 66) dX8_digest_63 ck_X8_249 hM (t_X8_mix hM.rb hmx) rfl rfl rfl rfl rfl (Nat.le_of_ble_eq_true rfl) rfl (fun g hM => ?_)
        refine ez_iincN_2 (q := 69) dX8_digest_66 (by decide) rfl rfl ?_
        refine ez_goto (q := 50) dX8_digest_69 (by decide) ?_
        exact E.fg (ih50 (k + 1) (by omega) g _ _ _ _ _ _ _ _ _ _ _ _ hM (by omega)) ⟨Or.inr (rfl), Or.inr (rfl), Or.inr (rfl), trivial⟩
  · refine ez_aload_n (q := 21) 0 dX8_digest_20 rfl rfl rfl ?_
    refine ez_aload_n (q := 22) 0 dX8_digest_21 rfl rfl rfl ?_
    refine ez_iload_n (q := 23) 1 dX8_digest_22 rfl rfl rfl ?_
    refine cXv (q := 26) dX8_digest_23 ck_X8_212 hM.1 (t_X8_counted hM.rb hz ho hs (by omega)) rfl ⟨by decide, rfl⟩ rfl rfl rfl (Nat.le_of_ble_eq_true rfl) rfl (fun g hW => ?_)
    obtain ⟨r, se, ro, le, de, wa, ww, rw, rm, sp, fm, ff, hM2⟩ := hW
    have hM := hM.tr hM2
    refine ez_i2l (q := 27) dX8_digest_26 rfl ?_
    refine cM0 (q := 30) dX8_digest_27 ck_X8_249 hM (t_X8_mix hM.rb hmx) rfl rfl rfl rfl rfl (Nat.le_of_ble_eq_true rfl) rfl (fun g hM => ?_)
    refine ez_iincN_1 (q := 33) dX8_digest_30 (by decide) rfl rfl ?_
    refine ez_goto (q := 14) dX8_digest_33 (by decide) ?_
    exact E.fg (ih14 (k + 1) (by omega) g _ _ _ _ _ _ _ _ _ _ _ _ hM (by omega)) ⟨Or.inr (rfl), Or.inr (rfl), Or.inl rfl, trivial⟩

