theorem lg_eq {x y : Int64} (h : x = y) : lg_cmp x y = 0 := by
  subst h
  rw [lg_cmp, if_neg (by rw [gt_iff_lt, Int64.lt_iff_toInt_lt]; omega), if_pos rfl]
theorem push_all {α : Type} {p : α → Prop} {zs : Nat → α} {k : Nat} {z : α} (hk : k ≤ 6) (hz : p z) (h : ∀ i, i < k → p (zs i)) : ∀ i, i < svk k → p (pushZ zs k z i) := by
  intro i hi
  unfold svk at hi
  unfold pushZ putZ
  by_cases h6 : k = 6
  · rw [if_pos h6] at hi ⊢
    show p (if i = 5 then z else zs (i + 1))
    split
    · exact hz
    · exact h _ (by omega)
  · rw [if_neg h6] at hi ⊢
    show p (if i = k then z else zs i)
    split
    · exact hz
    · exact h _ (by omega)
theorem push_two {α β : Type} {p : α → β → Prop} {zr : Nat → α} {zs : Nat → β} {k : Nat} {y : α} {z : β} (hk : k ≤ 6) (hz : p y z) (h : ∀ i, i < k → p (zr i) (zs i)) : ∀ i, i < svk k → p (pushZ zr k y i) (pushZ zs k z i) := by
  intro i hi
  unfold svk at hi
  unfold pushZ putZ
  by_cases h6 : k = 6
  · simp only [if_pos h6] at hi ⊢
    by_cases h5 : i = 5
    · simp only [if_pos h5]
      exact hz
    · simp only [if_neg h5]
      exact h _ (by omega)
  · simp only [if_neg h6] at hi ⊢
    by_cases h5 : i = k
    · simp only [if_pos h5]
      exact hz
    · simp only [if_neg h5]
      exact h _ (by omega)
theorem and31 (x : Int32) : ∃ c : Nat, x &&& nI 31 = nI c ∧ c < 32 := by
  refine ⟨x.toBitVec.toNat % 32, nI_ext ?_, Nat.mod_lt _ (by decide)⟩
  rw [Int32.toBitVec_and, nI_bv, nI_bv]
  apply BitVec.eq_of_toNat_eq
  have h : (31 : Nat) = 2 ^ 5 - 1 := by decide
  rw [BitVec.toNat_and, BitVec.toNat_ofNat, BitVec.toNat_ofNat, Nat.mod_eq_of_lt (show 31 < 2 ^ 32 by decide), h, Nat.and_two_pow_sub_one_eq_mod]
  exact (Nat.mod_eq_of_lt (Nat.lt_trans (Nat.mod_lt _ (show 0 < 32 by decide)) (show 32 < 2 ^ 32 by decide))).symm
section
variable {n f k t : Nat} {L T ln : Nat → Nat} {sg : Nat → Nat → Nat} {zs : Nat → AS} {b : Nat → Nat} {u v w : Int32}
theorem ok_addWorld (ho : OK n f L T ln sg) (hc : cdA n u = 0) : OK (n + 1) f (upN L n (nn u)) (upN T n 0) ln sg := by
  unfold cdA at hc
  split at hc
  · rename_i h
    split at hc
    · cases hc
    · obtain ⟨l, rfl, hl, hl2⟩ := inB_nat h
      rw [nn_nI hl2]
      exact ho.add (by have := ho.1; omega) (by omega)
  · cases hc
theorem ok_removeWorld (ho : OK n f L T ln sg) (hc : cdR n w = 0) : OK (n - 1) f (outN L (nn w)) (lesN T (nn w)) ln sg := by
  unfold cdR at hc
  split at hc
  · rename_i h
    obtain ⟨w, rfl, hl, hl2⟩ := inB_nat h
    rw [nn_nI hl2]
    exact ho.rem (by omega)
  · cases hc
theorem ok_step (ho : OK n f L T ln sg) (hc : cdP n u v = 0) : OK n f L (upN T (nn u) (T (nn u) ^^^ 2 ^ nn v)) ln sg := by
  unfold cdP at hc
  split at hc
  · rename_i h
    obtain ⟨u, rfl, hu, hu2⟩ := inB_nat h.1
    obtain ⟨v, rfl, hv, hv2⟩ := inB_nat h.2
    rw [nn_nI hu2, nn_nI hv2]
    exact ho.turn u (xo_lt (b := v) (ho.2.2.2.1 u (by omega)) (by omega))
  · cases hc
theorem ok_flip (ho : OK n f L T ln sg) (hc : cdI n u v = 0) : OK n f (upN L (nn u) (L (nn u) ^^^ 2 ^ nn v)) T ln sg := by
  unfold cdI at hc
  split at hc
  · rename_i h1
    split at hc
    · rename_i h2
      obtain ⟨u, rfl, hu, hu2⟩ := inB_nat h1
      obtain ⟨v, rfl, hv, hv2⟩ := inB_nat h2
      rw [nn_nI hu2, nn_nI hv2]
      exact ho.flip u (xo_lt (k := 4) (b := v) (ho.2.2.1 u (by omega)) (by omega))
    · cases hc
  · cases hc
theorem ok_fair (ho : OK n f L T ln sg) (hc : cdW1 u = 0) : OK n (lf u) L T ln sg := by
  unfold cdW1 at hc
  split at hc
  · rename_i h
    obtain ⟨u, rfl, hu, hu2⟩ := inL_nat h
    rw [hu2]
    exact ho.fair hu
  · cases hc
theorem cdD_0 (hc : cdD b t w = 0) : whoB b t = true := by
  unfold cdD at hc
  split at hc
  · split at hc
    · assumption
    · cases hc
  · cases hc
theorem ok_read (ho : OK n f L T ln sg) (hc : cdD b t w = 0) : OK n f L T (upN ln (nn w) t) (sgN sg (nn w) b) := by
  obtain ⟨h1, h2, h3⟩ := who_w (cdD_0 hc)
  exact ho.wish h3 (fun k hk => wf_c h1 hk)
theorem wf_read (hs : WFS ln sg) (hc : cdD b t w = 0) : WFS (upN ln (nn w) t) (sgN sg (nn w) b) := hs.wish (fun _ => ⟨_, (who_w (cdD_0 hc)).1⟩)
theorem cdN_K (ho : OK n f L T ln sg) (hs : WFS ln sg) (hc : cdN ln sg w = 0) : negM ln sg (nn w) ≤ 40 ∧ ((∃ sc, WF (negM ln sg (nn w)) (negS sg (nn w)) sc)) := by
  unfold cdN at hc
  split at hc
  · rename_i h
    split at hc
    · cases hc
    · rename_i h2
      obtain ⟨w, rfl, hw, hw2⟩ := inB_nat h
      rw [nn_nI hw2] at h2 ⊢
      have hl := ho.2.2.2.2.1 w (by omega)
      obtain ⟨sc, hwf⟩ := hs w (by omega) (by omega)
      unfold negM negS
      by_cases h0 : sg w 0 = 33
      · rw [if_pos h0, if_pos h0]
        exact ⟨by omega, _, wf_off hwf (by omega) h0⟩
      · rw [if_neg h0, if_neg h0]
        exact ⟨by omega, _, wf_put hwf⟩
  · cases hc
theorem ok_negate (ho : OK n f L T ln sg) (hs : WFS ln sg) (hc : cdN ln sg w = 0) : OK n f L T (upN ln (nn w) (negM ln sg (nn w))) (sgN sg (nn w) (negS sg (nn w))) := by
  obtain ⟨h1, sc, h2⟩ := cdN_K ho hs hc
  exact ho.wish h1 (fun k hk => wf_c h2 hk)
theorem wf_negate (ho : OK n f L T ln sg) (hs : WFS ln sg) (hc : cdN ln sg w = 0) : WFS (upN ln (nn w) (negM ln sg (nn w))) (sgN sg (nn w) (negS sg (nn w))) := by
  obtain ⟨h1, sc, h2⟩ := cdN_K ho hs hc
  exact hs.wish (fun _ => ⟨_, h2⟩)
theorem ok_giveUp (ho : OK n f L T ln sg) : OK n f L T (upN ln (nn w) 0) (sgN sg (nn w) (sg (nn w))) := ho.wish (by decide) (fun k hk => absurd hk (Nat.not_lt_zero k))
theorem wf_giveUp (hs : WFS ln sg) : WFS (upN ln (nn w) 0) (sgN sg (nn w) (sg (nn w))) := hs.wish (fun h => absurd h (by decide))
end
theorem IM.to {h0 h g : ez_H} {th sm ty rd wa rm fm ff : Int32} {z sv bf se ro le de rw sp : Nat → Int32} {ww : Bool} {ha : Int64} (hM : IM h0 h th z sv sm bf ty rd se ro le de wa ww rw rm sp fm ff ha) (hg : ∀ j, 64 ≤ j → j < 74 → g j = h j) : IM g g th z sv sm bf ty rd se ro le de wa ww rw rm sp fm ff ha := ⟨(hg _ (by decide) (by decide)).trans hM.1, (hg _ (by decide) (by decide)).trans hM.2.1, (hg _ (by decide) (by decide)).trans hM.2.2.1, (hg _ (by decide) (by decide)).trans hM.2.2.2.1, (hg _ (by decide) (by decide)).trans hM.2.2.2.2.1, (hg _ (by decide) (by decide)).trans hM.2.2.2.2.2.1, (hg _ (by decide) (by decide)).trans hM.2.2.2.2.2.2.1, (hg _ (by decide) (by decide)).trans hM.2.2.2.2.2.2.2.1, (hg _ (by decide) (by decide)).trans hM.2.2.2.2.2.2.2.2.1, (hg _ (by decide) (by decide)).trans hM.2.2.2.2.2.2.2.2.2.1, fun _ _ => rfl⟩
theorem IM.frm {h0 h : ez_H} {th sm ty rd wa rm fm ff : Int32} {z sv bf se ro le de rw sp : Nat → Int32} {ww : Bool} {ha : Int64} (hM : IM h0 h th z sv sm bf ty rd se ro le de wa ww rw rm sp fm ff ha) : ∀ j : Nat, (j < 64 ∨ 74 ≤ j) → h j = h0 j := hM.2.2.2.2.2.2.2.2.2.2
/-- the law itself, its name and its table whatever they be -/
abbrev mLw (nm : String) (hh : List (Nat × Nat × Nat × Nat)) : ez_M := (⟨RL, nm, yL_law.desc⟩, cL_law, 9, some .boolean, hh)
def LI (g : ez_H) : Prop := ∃ (n f : Nat) (L T ln : Nat → Nat) (sg : Nat → Nat → Nat) (k : Nat) (zs : Nat → AS) (t : Nat) (b : Nat → Nat), CI g n f L T ln sg k zs t b ∧ OK n f L T ln sg ∧ WFS ln sg ∧ (∀ i, i < k → OKA (zs i)) ∧ (∃ o, g 74 = some (OU o)) ∧ ∃ (th : Int32) (z sv bf : Nat → Int32) (ha : Int64) (zr : Nat → Nat → Int32), MB g g th z sv (nI k) bf (nI t) ha ∧ ZZ z n f L T ln sg ∧ SVD sv k zr ∧ (∀ i, i < k → ZA (zr i) (zs i)) ∧ BB bf t b
