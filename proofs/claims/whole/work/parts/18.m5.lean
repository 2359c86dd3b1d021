/-- the buffer read from k on with fuel signs left, from the state q: the first wrong place (or t), and the state at the end -/
def rdN (b : Nat → Nat) (t : Nat) : Nat → Nat → Nat × Bool → Nat × (Nat × Bool)
  | 0, _, q => (t, q)
  | u + 1, k, q => match stp q (b k) with
    | none => (k, q)
    | some p => if 40 < k + 1 + p.1 + (if p.2 then 1 else 0) then (k, q) else rdN b t u (k + 1) p
def rdR (b : Nat → Nat) (t : Nat) : Nat × (Nat × Bool) := rdN b t t 0 (1, false)
/-- the buffer's row holds t characters b -/
def BB (bf : Nat → Int32) (t : Nat) (b : Nat → Nat) : Prop := t ≤ 60 ∧ ∀ k, k < t → bf k = nI (b k) ∧ b k < 128
theorem stp_t (o c : Nat) : (stp (o, true) c).isSome = wayB c := by
  rw [stp, if_pos rfl, wayB]
  by_cases h1 : c = 85
  · rw [if_pos h1]; simp [h1]
  · rw [if_neg h1]
    by_cases h2 : c = 88 ∨ c = 70 ∨ c = 71
    · rw [if_pos h2]; simp; omega
    · rw [if_neg h2]; simp; omega
theorem stp_tv {o c : Nat} {q : Nat × Bool} (h : stp (o, true) c = some q) : q = (if c = 85 then o + 1 else o, false) := by
  rw [stp, if_pos rfl] at h
  split at h
  · rename_i h1; rw [if_pos h1]; exact (Option.some.inj h).symm
  · rename_i h1
    rw [if_neg h1]
    split at h
    · exact (Option.some.inj h).symm
    · cases h
def oneB (c : Nat) : Bool := decide ((97 ≤ c ∧ c ≤ 100) ∨ c = 116)
def twoB (c : Nat) : Bool := decide (c = 38 ∨ c = 124)
def eaB (c : Nat) : Bool := decide (c = 69 ∨ c = 65)
def isB (o c : Nat) : Bool := decide (0 < o ∧ (oneB c = true ∨ twoB c = true ∨ eaB c = true ∨ c = 33))
theorem stp_f (o c : Nat) : stp (o, false) c = if isB o c = true then some (if oneB c = true then o - 1 else if twoB c = true then o + 1 else o, eaB c) else none := by
  rw [stp, if_neg (by intro e; cases e)]
  simp only [isB, oneB, twoB, eaB, decide_eq_true_eq]
  by_cases h0 : o = 0
  · rw [if_pos h0, if_neg (by omega)]
  · rw [if_neg h0]
    by_cases h1 : (97 ≤ c ∧ c ≤ 100) ∨ c = 116
    · rw [if_pos h1, if_pos (by omega), if_pos h1]; congr 2; symm; apply decide_eq_false; omega
    · rw [if_neg h1]
      by_cases h2 : c = 33
      · rw [if_pos h2, if_pos (by omega), if_neg h1, if_neg (by omega)]; congr 2; symm; apply decide_eq_false; omega
      · rw [if_neg h2]
        by_cases h3 : c = 38 ∨ c = 124
        · rw [if_pos h3, if_pos (by omega), if_neg h1, if_pos h3]; congr 2; symm; apply decide_eq_false; omega
        · rw [if_neg h3]
          by_cases h4 : c = 69 ∨ c = 65
          · rw [if_pos h4, if_pos (by omega), if_neg h1, if_neg h3]; congr 2; symm; exact decide_eq_true h4
          · rw [if_neg h4, if_neg (by omega)]
theorem stp_fv {o c : Nat} {q : Nat × Bool} (h : stp (o, false) c = some q) : isB o c = true ∧ q.1 = (if oneB c = true then o - 1 else if twoB c = true then o + 1 else o) ∧ q.2 = eaB c := by
  rw [stp_f] at h
  by_cases h1 : isB o c = true
  · rw [if_pos h1] at h
    have h2 := Option.some.inj h
    rw [← h2]
    exact ⟨h1, rfl, rfl⟩
  · rw [if_neg h1] at h
    cases h
theorem stp_fs (o c : Nat) : (stp (o, false) c).isSome = isB o c := by
  rw [stp_f]; cases isB o c <;> rfl
set_option maxHeartbeats 800000 in
set_option maxRecDepth 100000 in
theorem t_X8_stands {G : ez_G} {d n : Nat} {h : ez_H} {o c : Nat} {th sm ty rd rm fm ff : Int32} {z sv bf se ro le de rw sp : Nat → Int32} {ww : Bool} {ha : Int64} (hM : IM h h th z sv sm bf ty rd se ro le de (nI o) ww rw rm sp fm ff ha) (hc : c < 128) (ho : o < 1000) : Con G mX8_stands (d + 1) [.ref 64, .int (nI c)] h n 0 0 (PW n (some (.int (bI (stp (o, ww) c).isSome))) (fun g => ∃ (x : Int32) (y : Bool), IM h g th z sv sm bf ty rd se ro le de x y rw rm sp fm ff ha ∧ ∀ q, stp (o, ww) c = some q → x = nI q.1 ∧ y = q.2)) := by
  refine Con.of [some (.ref 64), some (.int (nI c)), none, none, none] pl_X8 rfl (Nat.le_of_ble_eq_true rfl) rfl ?_
  have hQ : ∀ g (x : Int32) (y : Bool), IM h g th z sv sm bf ty rd se ro le de x y rw rm sp fm ff ha → (∀ q, stp (o, ww) c = some q → x = nI q.1 ∧ y = q.2) → (PW n (some (.int (bI (stp (o, ww) c).isSome))) (fun g => ∃ (x : Int32) (y : Bool), IM h g th z sv sm bf ty rd se ro le de x y rw rm sp fm ff ha ∧ ∀ q, stp (o, ww) c = some q → x = nI q.1 ∧ y = q.2)) (.inl (some (.int (bI (stp (o, ww) c).isSome)))) g n := fun g x y hM hx => ⟨rfl, ⟨x, y, hM, hx⟩, rfl⟩
  generalize PW n (some (.int (bI (stp (o, ww) c).isSome))) (fun g => ∃ (x : Int32) (y : Bool), IM h g th z sv sm bf ty rd se ro le de x y rw rm sp fm ff ha ∧ ∀ q, stp (o, ww) c = some q → x = nI q.1 ∧ y = q.2) = Q at hQ ⊢
  refine ez_aload_n (q := 1) 0 dX8_stands_0 rfl rfl rfl ?_
  refine ez_getf (q := 4) dX8_stands_1 fl_X8_121 hM.1 rfl rfl ?_
  refine ez_ifeqB (q := 7) (tgt := 37) dX8_stands_4 (by decide) rfl (fun hc4 => ?_) (fun hc4 => ?_)
  · subst hc4
    have k61 : E G mX8_stands (d + 1) Q h n 0 0 61 [some (.ref 64), some (.int (nI c)), some (.int (bI (oneB c))), none, none] [] := by
      have k79 : E G mX8_stands (d + 1) Q h n 0 0 79 [some (.ref 64), some (.int (nI c)), some (.int (bI (oneB c))), some (.int (bI (twoB c))), none] [] := by
        have k97 : E G mX8_stands (d + 1) Q h n 0 0 97 [some (.ref 64), some (.int (nI c)), some (.int (bI (oneB c))), some (.int (bI (twoB c))), none] [.int (bI (eaB c)), .ref 64] := by
          refine pM_ww (q := 100) dX8_stands_97 fl_X8_121 hM rfl (fun g hM => ?_)
          have k133 : E G mX8_stands (d + 1) Q g n 0 0 133 [some (.ref 64), some (.int (nI c)), some (.int (bI (oneB c))), some (.int (bI (twoB c))), none] [.int (bI (isB o c))] := by
            refine ez_istore_4 (q := 135) dX8_stands_133 (by decide) rfl rfl ?_
            refine ez_aload_n (q := 136) 0 dX8_stands_135 rfl rfl rfl ?_
            refine ez_dup (q := 137) dX8_stands_136 rfl rfl ?_
            refine ez_getf (q := 140) dX8_stands_137 fl_X8_125 hM.1 rfl rfl ?_
            refine ez_iload_n (q := 141) 2 dX8_stands_140 rfl rfl rfl ?_
            refine ez_ifeqB (q := 144) (tgt := 148) dX8_stands_141 (by decide) rfl (fun hc141 => ?_) (fun hc141 => ?_)
            · refine ez_iload_n (q := 149) 3 dX8_stands_148 rfl rfl rfl ?_
              refine ez_ifeqB (q := 152) (tgt := 156) dX8_stands_149 (by decide) rfl (fun hc149 => ?_) (fun hc149 => ?_)
              · refine ez_iconst (v := nI 0) (q := 157) dX8_stands_156 (by decide) rfl ?_
                refine ez_iaddN (q := 158) dX8_stands_157 rfl ?_
                refine pM_wa (q := 161) dX8_stands_158 fl_X8_125 hM rfl (fun g hM => ?_)
                refine ez_iload (q := 163) dX8_stands_161 rfl rfl ?_
                exact ez_zretB dX8_stands_163 rfl (by rw [← stp_fs o c]; refine hQ _ _ _ hM (fun q hq => ?_); obtain ⟨h8, h9, h10⟩ := stp_fv hq; rw [h9]; refine ⟨?_, h10.symm⟩; first | (rw [if_pos hc141, ← nI_sub (of_decide_eq_true h8).1, Int32.sub_eq_add_neg]; rfl) | (rw [if_neg (by rw [hc141]; exact Bool.false_ne_true), if_pos hc149]) | (rw [if_neg (by rw [hc141]; exact Bool.false_ne_true), if_neg (by rw [hc149]; exact Bool.false_ne_true)]; rfl))
              · refine ez_iconst (v := nI 1) (q := 153) dX8_stands_152 (by decide) rfl ?_
                refine ez_goto (q := 157) dX8_stands_153 (by decide) ?_
                refine ez_iaddN (q := 158) dX8_stands_157 rfl ?_
                refine pM_wa (q := 161) dX8_stands_158 fl_X8_125 hM rfl (fun g hM => ?_)
                refine ez_iload (q := 163) dX8_stands_161 rfl rfl ?_
                exact ez_zretB dX8_stands_163 rfl (by rw [← stp_fs o c]; refine hQ _ _ _ hM (fun q hq => ?_); obtain ⟨h8, h9, h10⟩ := stp_fv hq; rw [h9]; refine ⟨?_, h10.symm⟩; first | (rw [if_pos hc141, ← nI_sub (of_decide_eq_true h8).1, Int32.sub_eq_add_neg]; rfl) | (rw [if_neg (by rw [hc141]; exact Bool.false_ne_true), if_pos hc149]) | (rw [if_neg (by rw [hc141]; exact Bool.false_ne_true), if_neg (by rw [hc149]; exact Bool.false_ne_true)]; rfl))
            · refine ez_iconst (v := -1) (q := 145) dX8_stands_144 (by decide) rfl ?_
              refine ez_goto (q := 157) dX8_stands_145 (by decide) ?_
              refine ez_iadd (q := 158) dX8_stands_157 rfl ?_
              refine pM_wa (q := 161) dX8_stands_158 fl_X8_125 hM rfl (fun g hM => ?_)
              refine ez_iload (q := 163) dX8_stands_161 rfl rfl ?_
              exact ez_zretB dX8_stands_163 rfl (by rw [← stp_fs o c]; refine hQ _ _ _ hM (fun q hq => ?_); obtain ⟨h8, h9, h10⟩ := stp_fv hq; rw [h9]; refine ⟨?_, h10.symm⟩; first | (rw [if_pos hc141, ← nI_sub (of_decide_eq_true h8).1, Int32.sub_eq_add_neg]; rfl) | (rw [if_neg (by rw [hc141]; exact Bool.false_ne_true), if_pos hc149]) | (rw [if_neg (by rw [hc141]; exact Bool.false_ne_true), if_neg (by rw [hc149]; exact Bool.false_ne_true)]; rfl))
          refine ez_aload_n (q := 101) 0 dX8_stands_100 rfl rfl rfl ?_
          refine ez_getf (q := 104) dX8_stands_101 fl_X8_125 hM.1 rfl rfl ?_
          refine ez_ifleN (q := 107) (tgt := 132) dX8_stands_104 (by decide) (by omega) rfl (fun hc104 => ?_) (fun hc104 => ?_)
          · refine ez_iconst (v := nI 0) (q := 133) dX8_stands_132 (by decide) rfl ?_
            first | exact ez_top (show nI 1 = bI (isB o c) from bI_dt ⟨hc104, Or.inl hc108⟩) k133 | exact ez_top (show nI 1 = bI (isB o c) from bI_dt ⟨hc104, Or.inr (Or.inl hc112)⟩) k133 | exact ez_top (show nI 1 = bI (isB o c) from bI_dt ⟨hc104, Or.inr (Or.inr (Or.inl hc119))⟩) k133 | exact ez_top (show nI 1 = bI (isB o c) from bI_dt ⟨hc104, Or.inr (Or.inr (Or.inr hc125))⟩) k133 | exact ez_top (show nI 0 = bI (isB o c) from bI_df (fun h => by have := h.1; omega)) k133 | exact ez_top (show nI 0 = bI (isB o c) from bI_df (fun h => by rcases h.2 with h | h | h | h <;> first | (rw [hc108] at h; cases h) | (rw [hc112] at h; cases h) | (rw [hc119] at h; cases h) | exact hc125 h)) k133
          · refine ez_iload_n (q := 108) 2 dX8_stands_107 rfl rfl rfl ?_
            refine ez_ifneB (q := 111) (tgt := 128) dX8_stands_108 (by decide) rfl (fun hc108 => ?_) (fun hc108 => ?_)
            · have h9 := hc108
              refine ez_iconst (v := nI 1) (q := 129) dX8_stands_128 (by decide) rfl ?_
              refine ez_goto (q := 133) dX8_stands_129 (by decide) ?_
              first | exact ez_top (show nI 1 = bI (isB o c) from bI_dt ⟨hc104, Or.inl hc108⟩) k133 | exact ez_top (show nI 1 = bI (isB o c) from bI_dt ⟨hc104, Or.inr (Or.inl hc112)⟩) k133 | exact ez_top (show nI 1 = bI (isB o c) from bI_dt ⟨hc104, Or.inr (Or.inr (Or.inl hc119))⟩) k133 | exact ez_top (show nI 1 = bI (isB o c) from bI_dt ⟨hc104, Or.inr (Or.inr (Or.inr hc125))⟩) k133 | exact ez_top (show nI 0 = bI (isB o c) from bI_df (fun h => by have := h.1; omega)) k133 | exact ez_top (show nI 0 = bI (isB o c) from bI_df (fun h => by rcases h.2 with h | h | h | h <;> first | (rw [hc108] at h; cases h) | (rw [hc112] at h; cases h) | (rw [hc119] at h; cases h) | exact hc125 h)) k133
            · have h9 := hc108
              refine ez_iload_n (q := 112) 3 dX8_stands_111 rfl rfl rfl ?_
              refine ez_ifneB (q := 115) (tgt := 128) dX8_stands_112 (by decide) rfl (fun hc112 => ?_) (fun hc112 => ?_)
              · refine ez_iconst (v := nI 1) (q := 129) dX8_stands_128 (by decide) rfl ?_
                refine ez_goto (q := 133) dX8_stands_129 (by decide) ?_
                first | exact ez_top (show nI 1 = bI (isB o c) from bI_dt ⟨hc104, Or.inl hc108⟩) k133 | exact ez_top (show nI 1 = bI (isB o c) from bI_dt ⟨hc104, Or.inr (Or.inl hc112)⟩) k133 | exact ez_top (show nI 1 = bI (isB o c) from bI_dt ⟨hc104, Or.inr (Or.inr (Or.inl hc119))⟩) k133 | exact ez_top (show nI 1 = bI (isB o c) from bI_dt ⟨hc104, Or.inr (Or.inr (Or.inr hc125))⟩) k133 | exact ez_top (show nI 0 = bI (isB o c) from bI_df (fun h => by have := h.1; omega)) k133 | exact ez_top (show nI 0 = bI (isB o c) from bI_df (fun h => by rcases h.2 with h | h | h | h <;> first | (rw [hc108] at h; cases h) | (rw [hc112] at h; cases h) | (rw [hc119] at h; cases h) | exact hc125 h)) k133
              · refine ez_aload_n (q := 116) 0 dX8_stands_115 rfl rfl rfl ?_
                refine ez_getf (q := 119) dX8_stands_116 fl_X8_121 hM.1 rfl rfl ?_
                refine ez_ifneB (q := 122) (tgt := 128) dX8_stands_119 (by decide) rfl (fun hc119 => ?_) (fun hc119 => ?_)
                · refine ez_iconst (v := nI 1) (q := 129) dX8_stands_128 (by decide) rfl ?_
                  refine ez_goto (q := 133) dX8_stands_129 (by decide) ?_
                  first | exact ez_top (show nI 1 = bI (isB o c) from bI_dt ⟨hc104, Or.inl hc108⟩) k133 | exact ez_top (show nI 1 = bI (isB o c) from bI_dt ⟨hc104, Or.inr (Or.inl hc112)⟩) k133 | exact ez_top (show nI 1 = bI (isB o c) from bI_dt ⟨hc104, Or.inr (Or.inr (Or.inl hc119))⟩) k133 | exact ez_top (show nI 1 = bI (isB o c) from bI_dt ⟨hc104, Or.inr (Or.inr (Or.inr hc125))⟩) k133 | exact ez_top (show nI 0 = bI (isB o c) from bI_df (fun h => by have := h.1; omega)) k133 | exact ez_top (show nI 0 = bI (isB o c) from bI_df (fun h => by rcases h.2 with h | h | h | h <;> first | (rw [hc108] at h; cases h) | (rw [hc112] at h; cases h) | (rw [hc119] at h; cases h) | exact hc125 h)) k133
                · refine ez_iload_n (q := 123) 1 dX8_stands_122 rfl rfl rfl ?_
                  refine ez_bipush (v := nI 33) (q := 125) dX8_stands_123 (by decide) rfl ?_
                  refine ez_icmpneN (q := 128) (tgt := 132) dX8_stands_125 (by decide) (by omega) (by omega) rfl (fun hc125 => ?_) (fun hc125 => ?_)
                  · refine ez_iconst (v := nI 0) (q := 133) dX8_stands_132 (by decide) rfl ?_
                    first | exact ez_top (show nI 1 = bI (isB o c) from bI_dt ⟨hc104, Or.inl hc108⟩) k133 | exact ez_top (show nI 1 = bI (isB o c) from bI_dt ⟨hc104, Or.inr (Or.inl hc112)⟩) k133 | exact ez_top (show nI 1 = bI (isB o c) from bI_dt ⟨hc104, Or.inr (Or.inr (Or.inl hc119))⟩) k133 | exact ez_top (show nI 1 = bI (isB o c) from bI_dt ⟨hc104, Or.inr (Or.inr (Or.inr hc125))⟩) k133 | exact ez_top (show nI 0 = bI (isB o c) from bI_df (fun h => by have := h.1; omega)) k133 | exact ez_top (show nI 0 = bI (isB o c) from bI_df (fun h => by rcases h.2 with h | h | h | h <;> first | (rw [hc108] at h; cases h) | (rw [hc112] at h; cases h) | (rw [hc119] at h; cases h) | exact hc125 h)) k133
                  · refine ez_iconst (v := nI 1) (q := 129) dX8_stands_128 (by decide) rfl ?_
                    refine ez_goto (q := 133) dX8_stands_129 (by decide) ?_
                    first | exact ez_top (show nI 1 = bI (isB o c) from bI_dt ⟨hc104, Or.inl hc108⟩) k133 | exact ez_top (show nI 1 = bI (isB o c) from bI_dt ⟨hc104, Or.inr (Or.inl hc112)⟩) k133 | exact ez_top (show nI 1 = bI (isB o c) from bI_dt ⟨hc104, Or.inr (Or.inr (Or.inl hc119))⟩) k133 | exact ez_top (show nI 1 = bI (isB o c) from bI_dt ⟨hc104, Or.inr (Or.inr (Or.inr hc125))⟩) k133 | exact ez_top (show nI 0 = bI (isB o c) from bI_df (fun h => by have := h.1; omega)) k133 | exact ez_top (show nI 0 = bI (isB o c) from bI_df (fun h => by rcases h.2 with h | h | h | h <;> first | (rw [hc108] at h; cases h) | (rw [hc112] at h; cases h) | (rw [hc119] at h; cases h) | exact hc125 h)) k133
        refine ez_aload_n (q := 80) 0 dX8_stands_79 rfl rfl rfl ?_
        refine ez_iload_n (q := 81) 1 dX8_stands_80 rfl rfl rfl ?_
        refine ez_bipush (v := nI 69) (q := 83) dX8_stands_81 (by decide) rfl ?_
        refine ez_icmpeqN (q := 86) (tgt := 92) dX8_stands_83 (by decide) (by omega) (by omega) rfl (fun hc83 => ?_) (fun hc83 => ?_)
        · refine ez_iconst (v := nI 1) (q := 93) dX8_stands_92 (by decide) rfl ?_
          refine ez_goto (q := 97) dX8_stands_93 (by decide) ?_
          first | exact ez_top (show nI 1 = bI (eaB c) from bI_dt (P := c = 69 ∨ c = 65) (by omega)) k97 | exact ez_top (show nI 0 = bI (eaB c) from bI_df (P := c = 69 ∨ c = 65) (by omega)) k97
        · refine ez_iload_n (q := 87) 1 dX8_stands_86 rfl rfl rfl ?_
          refine ez_bipush (v := nI 65) (q := 89) dX8_stands_87 (by decide) rfl ?_
          refine ez_icmpneN (q := 92) (tgt := 96) dX8_stands_89 (by decide) (by omega) (by omega) rfl (fun hc89 => ?_) (fun hc89 => ?_)
          · refine ez_iconst (v := nI 0) (q := 97) dX8_stands_96 (by decide) rfl ?_
            first | exact ez_top (show nI 1 = bI (eaB c) from bI_dt (P := c = 69 ∨ c = 65) (by omega)) k97 | exact ez_top (show nI 0 = bI (eaB c) from bI_df (P := c = 69 ∨ c = 65) (by omega)) k97
          · refine ez_iconst (v := nI 1) (q := 93) dX8_stands_92 (by decide) rfl ?_
            refine ez_goto (q := 97) dX8_stands_93 (by decide) ?_
            first | exact ez_top (show nI 1 = bI (eaB c) from bI_dt (P := c = 69 ∨ c = 65) (by omega)) k97 | exact ez_top (show nI 0 = bI (eaB c) from bI_df (P := c = 69 ∨ c = 65) (by omega)) k97
      refine ez_iload_n (q := 62) 1 dX8_stands_61 rfl rfl rfl ?_
      refine ez_bipush (v := nI 38) (q := 64) dX8_stands_62 (by decide) rfl ?_
      refine ez_icmpeqN (q := 67) (tgt := 73) dX8_stands_64 (by decide) (by omega) (by omega) rfl (fun hc64 => ?_) (fun hc64 => ?_)
      · refine ez_iconst (v := nI 1) (q := 74) dX8_stands_73 (by decide) rfl ?_
        refine ez_goto (q := 78) dX8_stands_74 (by decide) ?_
        refine ez_istore_3 (q := 79) dX8_stands_78 rfl (by decide) rfl rfl ?_
        exact E.fg k79 ⟨Or.inr (rfl), Or.inr (rfl), Or.inr (rfl), Or.inr (by first | exact congrArg (fun z => some (Value.int z)) (show bI (twoB c) = nI 1 from (bI_dt (P := c = 38 ∨ c = 124) (by omega)).symm) | exact congrArg (fun z => some (Value.int z)) (show bI (twoB c) = nI 0 from (bI_df (P := c = 38 ∨ c = 124) (by omega)).symm)), Or.inl rfl, trivial⟩
      · refine ez_iload_n (q := 68) 1 dX8_stands_67 rfl rfl rfl ?_
        refine ez_bipush (v := nI 124) (q := 70) dX8_stands_68 (by decide) rfl ?_
        refine ez_icmpneN (q := 73) (tgt := 77) dX8_stands_70 (by decide) (by omega) (by omega) rfl (fun hc70 => ?_) (fun hc70 => ?_)
        · refine ez_iconst (v := nI 0) (q := 78) dX8_stands_77 (by decide) rfl ?_
          refine ez_istore_3 (q := 79) dX8_stands_78 rfl (by decide) rfl rfl ?_
          exact E.fg k79 ⟨Or.inr (rfl), Or.inr (rfl), Or.inr (rfl), Or.inr (by first | exact congrArg (fun z => some (Value.int z)) (show bI (twoB c) = nI 1 from (bI_dt (P := c = 38 ∨ c = 124) (by omega)).symm) | exact congrArg (fun z => some (Value.int z)) (show bI (twoB c) = nI 0 from (bI_df (P := c = 38 ∨ c = 124) (by omega)).symm)), Or.inl rfl, trivial⟩
        · refine ez_iconst (v := nI 1) (q := 74) dX8_stands_73 (by decide) rfl ?_
          refine ez_goto (q := 78) dX8_stands_74 (by decide) ?_
          refine ez_istore_3 (q := 79) dX8_stands_78 rfl (by decide) rfl rfl ?_
          exact E.fg k79 ⟨Or.inr (rfl), Or.inr (rfl), Or.inr (rfl), Or.inr (by first | exact congrArg (fun z => some (Value.int z)) (show bI (twoB c) = nI 1 from (bI_dt (P := c = 38 ∨ c = 124) (by omega)).symm) | exact congrArg (fun z => some (Value.int z)) (show bI (twoB c) = nI 0 from (bI_df (P := c = 38 ∨ c = 124) (by omega)).symm)), Or.inl rfl, trivial⟩
    refine ez_iload_n (q := 38) 1 dX8_stands_37 rfl rfl rfl ?_
    refine ez_bipush (v := nI 97) (q := 40) dX8_stands_38 (by decide) rfl ?_
    refine ez_icmpltN (q := 43) (tgt := 49) dX8_stands_40 (by decide) (by omega) (by omega) rfl (fun hc40 => ?_) (fun hc40 => ?_)
    · refine ez_iload_n (q := 50) 1 dX8_stands_49 rfl rfl rfl ?_
      refine ez_bipush (v := nI 116) (q := 52) dX8_stands_50 (by decide) rfl ?_
      refine ez_icmpneN (q := 55) (tgt := 59) dX8_stands_52 (by decide) (by omega) (by omega) rfl (fun hc52 => ?_) (fun hc52 => ?_)
      · refine ez_iconst (v := nI 0) (q := 60) dX8_stands_59 (by decide) rfl ?_
        refine ez_istore_2 (q := 61) dX8_stands_60 rfl (by decide) rfl rfl ?_
        exact E.fg k61 ⟨Or.inr (rfl), Or.inr (rfl), Or.inr (by first | exact congrArg (fun z => some (Value.int z)) (show bI (oneB c) = nI 1 from (bI_dt (P := (97 ≤ c ∧ c ≤ 100) ∨ c = 116) (by omega)).symm) | exact congrArg (fun z => some (Value.int z)) (show bI (oneB c) = nI 0 from (bI_df (P := (97 ≤ c ∧ c ≤ 100) ∨ c = 116) (by omega)).symm)), Or.inl rfl, Or.inl rfl, trivial⟩
      · refine ez_iconst (v := nI 1) (q := 56) dX8_stands_55 (by decide) rfl ?_
        refine ez_goto (q := 60) dX8_stands_56 (by decide) ?_
        refine ez_istore_2 (q := 61) dX8_stands_60 rfl (by decide) rfl rfl ?_
        exact E.fg k61 ⟨Or.inr (rfl), Or.inr (rfl), Or.inr (by first | exact congrArg (fun z => some (Value.int z)) (show bI (oneB c) = nI 1 from (bI_dt (P := (97 ≤ c ∧ c ≤ 100) ∨ c = 116) (by omega)).symm) | exact congrArg (fun z => some (Value.int z)) (show bI (oneB c) = nI 0 from (bI_df (P := (97 ≤ c ∧ c ≤ 100) ∨ c = 116) (by omega)).symm)), Or.inl rfl, Or.inl rfl, trivial⟩
    · refine ez_iload_n (q := 44) 1 dX8_stands_43 rfl rfl rfl ?_
      refine ez_bipush (v := nI 100) (q := 46) dX8_stands_44 (by decide) rfl ?_
      refine ez_icmpleN (q := 49) (tgt := 55) dX8_stands_46 (by decide) (by omega) (by omega) rfl (fun hc46 => ?_) (fun hc46 => ?_)
      · refine ez_iconst (v := nI 1) (q := 56) dX8_stands_55 (by decide) rfl ?_
        refine ez_goto (q := 60) dX8_stands_56 (by decide) ?_
        refine ez_istore_2 (q := 61) dX8_stands_60 rfl (by decide) rfl rfl ?_
        exact E.fg k61 ⟨Or.inr (rfl), Or.inr (rfl), Or.inr (by first | exact congrArg (fun z => some (Value.int z)) (show bI (oneB c) = nI 1 from (bI_dt (P := (97 ≤ c ∧ c ≤ 100) ∨ c = 116) (by omega)).symm) | exact congrArg (fun z => some (Value.int z)) (show bI (oneB c) = nI 0 from (bI_df (P := (97 ≤ c ∧ c ≤ 100) ∨ c = 116) (by omega)).symm)), Or.inl rfl, Or.inl rfl, trivial⟩
      · refine ez_iload_n (q := 50) 1 dX8_stands_49 rfl rfl rfl ?_
        refine ez_bipush (v := nI 116) (q := 52) dX8_stands_50 (by decide) rfl ?_
        refine ez_icmpneN (q := 55) (tgt := 59) dX8_stands_52 (by decide) (by omega) (by omega) rfl (fun hc52 => ?_) (fun hc52 => ?_)
        · refine ez_iconst (v := nI 0) (q := 60) dX8_stands_59 (by decide) rfl ?_
          refine ez_istore_2 (q := 61) dX8_stands_60 rfl (by decide) rfl rfl ?_
          exact E.fg k61 ⟨Or.inr (rfl), Or.inr (rfl), Or.inr (by first | exact congrArg (fun z => some (Value.int z)) (show bI (oneB c) = nI 1 from (bI_dt (P := (97 ≤ c ∧ c ≤ 100) ∨ c = 116) (by omega)).symm) | exact congrArg (fun z => some (Value.int z)) (show bI (oneB c) = nI 0 from (bI_df (P := (97 ≤ c ∧ c ≤ 100) ∨ c = 116) (by omega)).symm)), Or.inl rfl, Or.inl rfl, trivial⟩
        · refine ez_iconst (v := nI 1) (q := 56) dX8_stands_55 (by decide) rfl ?_
          refine ez_goto (q := 60) dX8_stands_56 (by decide) ?_
          refine ez_istore_2 (q := 61) dX8_stands_60 rfl (by decide) rfl rfl ?_
          exact E.fg k61 ⟨Or.inr (rfl), Or.inr (rfl), Or.inr (by first | exact congrArg (fun z => some (Value.int z)) (show bI (oneB c) = nI 1 from (bI_dt (P := (97 ≤ c ∧ c ≤ 100) ∨ c = 116) (by omega)).symm) | exact congrArg (fun z => some (Value.int z)) (show bI (oneB c) = nI 0 from (bI_df (P := (97 ≤ c ∧ c ≤ 100) ∨ c = 116) (by omega)).symm)), Or.inl rfl, Or.inl rfl, trivial⟩
  · subst hc4
    refine ez_aload_n (q := 8) 0 dX8_stands_7 rfl rfl rfl ?_
    refine ez_iconst (v := nI 0) (q := 9) dX8_stands_8 (by decide) rfl ?_
    refine ez_top (show nI 0 = bI false from rfl) ?_
    refine pM_ww (q := 12) dX8_stands_9 fl_X8_121 hM rfl (fun g hM => ?_)
    refine ez_aload_n (q := 13) 0 dX8_stands_12 rfl rfl rfl ?_
    refine ez_dup (q := 14) dX8_stands_13 rfl rfl ?_
    refine ez_getf (q := 17) dX8_stands_14 fl_X8_125 hM.1 rfl rfl ?_
    refine ez_iload_n (q := 18) 1 dX8_stands_17 rfl rfl rfl ?_
    refine ez_bipush (v := nI 85) (q := 20) dX8_stands_18 (by decide) rfl ?_
    refine ez_icmpneN (q := 23) (tgt := 27) dX8_stands_20 (by decide) (by omega) (by omega) rfl (fun hc20 => ?_) (fun hc20 => ?_)
    · refine ez_iconst (v := nI 0) (q := 28) dX8_stands_27 (by decide) rfl ?_
      refine ez_iaddN (q := 29) dX8_stands_28 rfl ?_
      refine pM_wa (q := 32) dX8_stands_29 fl_X8_125 hM rfl (fun g hM => ?_)
      refine ez_iload_n (q := 33) 1 dX8_stands_32 rfl rfl rfl ?_
      refine cUv (q := 36) dX8_stands_33 ck_X8_104 (t_X8_isOfWays hc) rfl rfl rfl (Nat.le_of_ble_eq_true rfl) rfl ?_
      exact ez_zretB dX8_stands_36 rfl (by rw [← stp_t o c]; exact hQ _ _ _ hM (fun q hq => by rw [stp_tv hq]; first | exact ⟨congrArg nI (if_pos hc20).symm, rfl⟩ | exact ⟨congrArg nI (if_neg hc20).symm, rfl⟩))
    · refine ez_iconst (v := nI 1) (q := 24) dX8_stands_23 (by decide) rfl ?_
      refine ez_goto (q := 28) dX8_stands_24 (by decide) ?_
      refine ez_iaddN (q := 29) dX8_stands_28 rfl ?_
      refine pM_wa (q := 32) dX8_stands_29 fl_X8_125 hM rfl (fun g hM => ?_)
      refine ez_iload_n (q := 33) 1 dX8_stands_32 rfl rfl rfl ?_
      refine cUv (q := 36) dX8_stands_33 ck_X8_104 (t_X8_isOfWays hc) rfl rfl rfl (Nat.le_of_ble_eq_true rfl) rfl ?_
      exact ez_zretB dX8_stands_36 rfl (by rw [← stp_t o c]; exact hQ _ _ _ hM (fun q hq => by rw [stp_tv hq]; first | exact ⟨congrArg nI (if_pos hc20).symm, rfl⟩ | exact ⟨congrArg nI (if_neg hc20).symm, rfl⟩))

