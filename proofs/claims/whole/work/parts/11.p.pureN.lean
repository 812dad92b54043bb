/-! ===== the pure part: the tape, token by token ===== -/
theorem tk_f : ∀ v, v < 256 → decide (tkC (nI v) = 2) = inI (nI v) 48 57 ∧ ¬ tkC (nI v) = 0 ∧ decide (tkC (nI v) = 3) = (decide (nI v = 44) || decide (nI v = 59)) ∧ (¬ sortM (nI v) = 0 → tkC (nI v) = 1) ∧ (nI v = 116 → tkC (nI v) = 1) ∧ (sortM (nI v) = 0 ∨ sortM (nI v) = 1 ∨ sortM (nI v) = 2 ∨ sortM (nI v) = 3 ∨ sortM (nI v) = 4 ∨ sortM (nI v) = 5) := by decide +kernel
def okB (c : Nat → Int32) (ln : Nat) : Prop := ∀ p, p < ln → ∃ v, v < 256 ∧ c p = nI v
theorem byte_v {c : Nat → Int32} {ln : Nat} (h : okB c ln) (p : Nat) : (byteS c ln p = -1 ∧ ln ≤ p) ∨ ∃ v, v < 256 ∧ p < ln ∧ byteS c ln p = nI v := by
  rw [byteS_eq]
  unfold byteS0
  by_cases hp : p < ln
  · obtain ⟨v, hv, e⟩ := h p hp
    rw [if_pos hp]
    exact Or.inr ⟨v, hv, hp, e⟩
  · rw [if_neg hp]
    exact Or.inl ⟨rfl, by omega⟩
section
variable {b c : Nat → Int32} {ln : Nat}
theorem tk2 (h : okB c ln) (p : Nat) : tkC (byteS c ln p) = 2 ↔ dgB c ln p = true := by
  unfold dgB
  rcases byte_v h p with ⟨e, -⟩ | ⟨v, hv, -, e⟩
  · rw [e]; decide
  · rw [e, ← (tk_f v hv).1, decide_eq_true_eq]
theorem tk0 (h : okB c ln) (p : Nat) : tkC (byteS c ln p) = 0 ↔ ln ≤ p := by
  rcases byte_v h p with ⟨e, h1⟩ | ⟨v, hv, h1, e⟩
  · rw [e]; exact ⟨fun _ => h1, fun _ => by decide⟩
  · rw [e]; exact ⟨fun h2 => absurd h2 (tk_f v hv).2.1, fun h2 => by omega⟩
theorem tk3 (h : okB c ln) (p : Nat) : tkC (byteS c ln p) = 3 ↔ (byteS c ln p = 44 ∨ byteS c ln p = 59) := by
  rcases byte_v h p with ⟨e, h1⟩ | ⟨v, hv, h1, e⟩
  · rw [e]; decide
  · have h2 := (tk_f v hv).2.2.1
    rw [e]
    constructor
    · intro h3
      rw [decide_eq_true h3] at h2
      have h4 := h2.symm
      rw [Bool.or_eq_true, decide_eq_true_eq, decide_eq_true_eq] at h4
      exact h4
    · intro h3
      have h4 : (decide (nI v = 44) || decide (nI v = 59)) = true := by
        rw [Bool.or_eq_true, decide_eq_true_eq, decide_eq_true_eq]
        exact h3
      rw [h4] at h2
      exact of_decide_eq_true h2
theorem tk1 (h : okB c ln) {p : Nat} (hs : ¬ sortM (byteS c ln p) = 0) : tkC (byteS c ln p) = 1 := by
  rcases byte_v h p with ⟨e, h1⟩ | ⟨v, hv, h1, e⟩
  · rw [e] at hs; exact absurd (by decide) hs
  · rw [e] at hs ⊢; exact (tk_f v hv).2.2.2.1 hs
theorem tk116 (h : okB c ln) {p : Nat} (hs : byteS c ln p = 116) : tkC (byteS c ln p) = 1 := by
  rw [hs]; decide
theorem so_k (h : okB c ln) {p : Nat} (hs : ¬ sortM (byteS c ln p) = 0) : sortM (byteS c ln p) = 1 ∨ sortM (byteS c ln p) = 2 ∨ sortM (byteS c ln p) = 3 ∨ sortM (byteS c ln p) = 4 ∨ sortM (byteS c ln p) = 5 := by
  rcases byte_v h p with ⟨e, h1⟩ | ⟨v, hv, h1, e⟩
  · rw [e] at hs; exact absurd (by decide) hs
  · rw [e] at hs ⊢; exact (tk_f v hv).2.2.2.2.2.resolve_left hs
theorem st_n {p : Nat} (h : ¬ tkC (byteS c ln p) = 2) : stT c ln p = tkC (byteS c ln p) ∧ stV c ln p = byteS c ln p := by
  rw [stT_eq, stV_eq]
  unfold stT0 stV0
  rw [if_neg h, if_neg h]
  exact ⟨rfl, rfl⟩
theorem stA_n {p : Nat} (h : ¬ tkC (byteS c ln p) = 2) (h0 : ¬ tkC (byteS c ln p) = 0) : stA_ c ln p = p + 1 := by
  rw [stA_eq]
  unfold stA0
  rw [if_neg h, if_neg h0]
theorem st_2 {p : Nat} (h : tkC (byteS c ln p) = 2) : stT c ln p = (if nI (dgL c ln p) ≤ 2 then 2 else 4) ∧ stV c ln p = dvS c ln p (dgL c ln p) ∧ stA_ c ln p = p + dgL c ln p := by
  rw [stT_eq, stV_eq, stA_eq]
  unfold stT0 stV0 stA0
  rw [if_pos h, if_pos h, if_pos h]
  exact ⟨rfl, rfl, rfl⟩
theorem stT_or {p : Nat} (h : tkC (byteS c ln p) = 2) : stT c ln p = 2 ∨ stT c ln p = 4 := by
  rw [(st_2 h).1]
  split
  · exact Or.inl rfl
  · exact Or.inr rfl
theorem stT_0 (h : okB c ln) (p : Nat) : stT c ln p = 0 ↔ ln ≤ p := by
  by_cases h2 : tkC (byteS c ln p) = 2
  · constructor
    · intro h3
      rcases stT_or h2 with e | e <;> rw [e] at h3 <;> exact absurd h3 (by decide)
    · intro h3
      rw [(tk0 h p).mpr h3] at h2
      exact absurd h2 (by decide)
  · rw [(st_n h2).1]
    exact tk0 h p
theorem stT_1 {p : Nat} (h1 : stT c ln p = 1) : stV c ln p = byteS c ln p ∧ tkC (byteS c ln p) = 1 := by
  by_cases h2 : tkC (byteS c ln p) = 2
  · rcases stT_or h2 with e | e <;> rw [e] at h1 <;> exact absurd h1 (by decide)
  · exact ⟨(st_n h2).2, (st_n h2).1 ▸ h1⟩
theorem tk_st1 {p : Nat} (h : tkC (byteS c ln p) = 1) : stT c ln p = 1 ∧ stV c ln p = byteS c ln p ∧ stA_ c ln p = p + 1 := by
  have h2 : ¬ tkC (byteS c ln p) = 2 := by rw [h]; decide
  have h0 : ¬ tkC (byteS c ln p) = 0 := by rw [h]; decide
  exact ⟨(st_n h2).1.trans h, (st_n h2).2, stA_n h2 h0⟩
/-- a sign -/
theorem sg_yes {p : Nat} {sg : Int32} (hs : sg = 44 ∨ sg = 59) (h : byteS c ln p = sg) : stT c ln p = 3 ∧ stV c ln p = sg ∧ stA_ c ln p = p + 1 := by
  have h3 : tkC (byteS c ln p) = 3 := by
    rw [h]
    rcases hs with rfl | rfl <;> decide
  have h2 : ¬ tkC (byteS c ln p) = 2 := by rw [h3]; decide
  have h0 : ¬ tkC (byteS c ln p) = 0 := by rw [h3]; decide
  exact ⟨(st_n h2).1.trans h3, (st_n h2).2.trans h, stA_n h2 h0⟩
theorem sg_no {p : Nat} {sg : Int32} (h : ¬ byteS c ln p = sg) : ¬ (stT c ln p = 3 ∧ stV c ln p = sg) := by
  rintro ⟨h1, h2⟩
  by_cases h3 : tkC (byteS c ln p) = 2
  · rcases stT_or h3 with e | e <;> rw [e] at h1 <;> exact absurd h1 (by decide)
  · rw [(st_n h3).2] at h2
    exact h h2
theorem dgL_s (p : Nat) : dgL c ln p = if dgB c ln p then dgL c ln (p + 1) + 1 else 0 := by
  unfold dgL
  by_cases hp : p < ln
  · rw [show ln - p = (ln - (p + 1)) + 1 by omega]
    rfl
  · rw [show ln - p = 0 by omega]
    cases hd : dgB c ln p
    · rfl
    · exact absurd (dgB_lt hd) hp
theorem dgL_le (p : Nat) : dgL c ln p ≤ ln - p := dgF_le c ln _ _
theorem fg_dg (hbc : ∀ p, byteS b ln p = byteS c ln p) (p : Nat) : fgB b ln p = dgB c ln p := by
  unfold fgB dgB figS inI
  rw [hbc p]
  by_cases hp : p < ln
  · rw [decide_eq_true hp, Bool.true_and]
    rw [Bool.eq_iff_iff]
    simp only [Bool.and_eq_true, Bool.not_eq_true', decide_eq_false_iff_not, decide_eq_true_eq, Int32.not_lt]
  · rw [decide_eq_false hp, Bool.false_and, byteS_eq]
    unfold byteS0
    rw [if_neg hp]
    rfl
theorem num_k (hbc : ∀ p, byteS b ln p = byteS c ln p) (p : Nat) : (rnK b ln p = 0 ∧ dgL c ln p = 0 ∧ dgB c ln p = false) ∨ (rnK b ln p = 1 ∧ dgL c ln p = 1 ∧ dgB c ln p = true ∧ rnV b ln p = dvS c ln p 1) ∨ (rnK b ln p = 2 ∧ dgL c ln p = 2 ∧ dgB c ln p = true ∧ rnV b ln p = dvS c ln p 2) ∨ (rnK b ln p = 3 ∧ 3 ≤ dgL c ln p ∧ dgB c ln p = true) := by
  have e1 : dvS c ln p 1 = 10 * 0 + byteS c ln p - 48 := if_neg (show ¬ (2 : Int32) ≤ nI 0 by decide)
  have e2 : dvS c ln p 2 = 10 * dvS c ln p 1 + byteS c ln (p + 1) - 48 := if_neg (show ¬ (2 : Int32) ≤ nI 1 by decide)
  unfold rnK rnV
  rw [fg_dg hbc, fg_dg hbc, fg_dg hbc, hbc, hbc, hbc, e2, e1, dgL_s p]
  cases h0 : dgB c ln p
  · exact Or.inl ⟨rfl, rfl, rfl⟩
  · rw [if_pos rfl, if_pos rfl, if_pos rfl, dgL_s (p + 1)]
    cases h1 : dgB c ln (p + 1)
    · exact Or.inr (Or.inl ⟨rfl, rfl, rfl, rfl⟩)
    · rw [if_pos rfl, if_pos rfl, if_pos rfl, dgL_s (p + 1 + 1)]
      cases h2 : dgB c ln (p + 1 + 1)
      · exact Or.inr (Or.inr (Or.inl ⟨rfl, rfl, rfl, rfl⟩))
      · exact Or.inr (Or.inr (Or.inr ⟨rfl, by rw [if_pos rfl]; omega, rfl⟩))
theorem rn_c (hB : okB c ln) (hln : ln ≤ 120) (hbc : ∀ p, byteS b ln p = byteS c ln p) (p : Nat) (l m : Int32) : (rnF b ln p l m = 0 ∧ stT c ln p = 2 ∧ inI (stV c ln p) l m = true ∧ rnV b ln p = stV c ln p ∧ stA_ c ln p = p + rnK b ln p) ∨ (rnF b ln p l m = 1 ∧ ¬ stT c ln p = 2) ∨ (rnF b ln p l m = 2 ∧ stT c ln p = 2 ∧ inI (stV c ln p) l m = false) := by
  have hd := dgL_le (c := c) (ln := ln) p
  have good : ∀ k, (k = 1 ∨ k = 2) → rnK b ln p = k → dgL c ln p = k → dgB c ln p = true → rnV b ln p = dvS c ln p k → (rnF b ln p l m = 0 ∧ stT c ln p = 2 ∧ inI (stV c ln p) l m = true ∧ rnV b ln p = stV c ln p ∧ stA_ c ln p = p + rnK b ln p) ∨ (rnF b ln p l m = 1 ∧ ¬ stT c ln p = 2) ∨ (rnF b ln p l m = 2 ∧ stT c ln p = 2 ∧ inI (stV c ln p) l m = false) := by
    intro k hk hK hL hD hV
    obtain ⟨s1, s2, s3⟩ := st_2 ((tk2 hB p).mpr hD)
    rw [hL] at s1 s2 s3
    have s1' : stT c ln p = 2 := by
      rw [s1]
      rcases hk with rfl | rfl <;> rfl
    unfold rnF
    rw [hK, hV, if_neg (by omega), s1', s2, s3]
    unfold inI
    by_cases h1 : dvS c ln p k < l ∨ m < dvS c ln p k
    · rw [if_pos h1]
      refine Or.inr (Or.inr ⟨rfl, rfl, ?_⟩)
      rw [Bool.and_eq_false_iff, decide_eq_false_iff_not, decide_eq_false_iff_not, Int32.not_le, Int32.not_le]
      exact h1
    · rw [if_neg h1]
      refine Or.inl ⟨rfl, rfl, ?_, rfl, rfl⟩
      rw [Bool.and_eq_true, decide_eq_true_eq, decide_eq_true_eq]
      exact ⟨Int32.not_lt.mp (fun h => h1 (Or.inl h)), Int32.not_lt.mp (fun h => h1 (Or.inr h))⟩
  rcases num_k hbc p with ⟨hK, hL, hD⟩ | ⟨hK, hL, hD, hV⟩ | ⟨hK, hL, hD, hV⟩ | ⟨hK, hL, hD⟩
  · refine Or.inr (Or.inl ⟨?_, ?_⟩)
    · unfold rnF
      rw [hK, if_pos (Or.inl rfl)]
    · have h2 : ¬ tkC (byteS c ln p) = 2 := fun h => by
        rw [(tk2 hB p).mp h] at hD
        exact absurd hD (by decide)
      rw [(st_n h2).1]
      exact h2
  · exact good 1 (Or.inl rfl) hK hL hD hV
  · exact good 2 (Or.inr rfl) hK hL hD hV
  · refine Or.inr (Or.inl ⟨?_, ?_⟩)
    · unfold rnF
      rw [hK, if_pos (Or.inr rfl)]
    · rw [(st_2 ((tk2 hB p).mpr hD)).1, if_neg]
      · decide
      · intro h
        have := (nI_leI (b := 2) (by omega) (by omega)).mp h
        omega
end
/-- all but what the reader works in -/
def frM (M M' : Nat → Nat → Int32) : Prop := ∀ k, k ≠ 5 → k < 16 → M' k = M k
theorem frM_tr {M M' M'' : Nat → Nat → Int32} (h : frM M M') (h2 : frM M' M'') : frM M M'' := fun k h1 h3 => (h2 k h1 h3).trans (h k h1 h3)
theorem frM_st (M : Nat → Nat → Int32) (ln p : Nat) : frM M (stM M ln p) := fun k h1 h3 => (up2_ne (by omega)).trans ((up2_ne (by omega)).trans ((up2_ne (by omega)).trans (up2_ne (by omega))))
theorem frM_5 (M : Nat → Nat → Int32) (f : Nat → Int32) : frM M (up2 M 5 f) := fun k h1 h3 => up2_ne h1
theorem frM_20 (M : Nat → Nat → Int32) (f : Nat → Int32) : frM M (up2 M 20 f) := fun k h1 h3 => up2_ne (by omega)
theorem frM_16 (M : Nat → Nat → Int32) (f : Nat → Int32) : frM M (up2 M 16 f) := fun k h1 h3 => up2_ne (by omega)
theorem frM_nbW (M : Nat → Nat → Int32) (ln p pl : Nat) : frM M (nbW M ln p pl) := frM_tr (frM_st M ln p) (frM_tr (frM_5 _ _) (frM_st _ _ _))
section
variable {b c : Nat → Int32} {ln : Nat}
/-- a number and the sign behind it, on both sides -/
theorem nb_step (hB : okB c ln) (hln : ln ≤ 120) (hbc : ∀ p, byteS b ln p = byteS c ln p) {M : Nat → Nat → Int32} (hM : M 11 = c) (p pl : Nat) {l m sg : Int32} (hl : 0 ≤ l) (hs : sg = 44 ∨ sg = 59) (ft : Int32) : (rnR b ln p l m = -1 ∧ (nbT M ln p pl l m sg).1 = 0 ∧ (nbT M ln p pl l m sg).2 17 0 = nI (rnP b ln p l m) ∧ (nbT M ln p pl l m sg).2 20 0 = rnFt b ln p l m ft ∧ frM M (nbT M ln p pl l m sg).2) ∨ ((¬ rnR b ln p l m < 0 ∧ rnR b ln p l m = stV c ln p ∧ inI (stV c ln p) l m = true) ∧ ((rsB b ln (rnP b ln p l m) sg = false ∧ (nbT M ln p pl l m sg).1 = 0 ∧ (nbT M ln p pl l m sg).2 17 0 = nI (rnP b ln p l m) ∧ (nbT M ln p pl l m sg).2 20 0 = 1 ∧ frM M (nbT M ln p pl l m sg).2) ∨ (rsB b ln (rnP b ln p l m) sg = true ∧ ¬ (nbT M ln p pl l m sg).1 = 0 ∧ rnFt b ln p l m ft = ft ∧ nbP c ln p = rnP b ln p l m + 1))) := by
  subst hM
  rw [nbT_eq, rnR_eq, rnP_eq, rnFt_eq]
  unfold nbM rnR0 rnP0 rnFt0
  rcases rn_c hB hln hbc p l m with ⟨h1, h2, h3, h4, h5⟩ | ⟨h1, h2⟩ | ⟨h1, h2, h3⟩
  · rw [if_pos h1, if_pos h1, if_pos h1, if_pos h2, if_pos h3, ← h5, h4]
    right
    refine ⟨⟨?_, rfl, h3⟩, ?_⟩
    · unfold inI at h3
      rw [Bool.and_eq_true, decide_eq_true_eq, decide_eq_true_eq] at h3
      exact Int32.not_lt.mpr (Int32.le_trans hl h3.1)
    · rw [rsB_eq]
      unfold rsB0
      rw [hbc]
      by_cases hsg : byteS (M 11) ln (stA_ (M 11) ln p) = sg
      · obtain ⟨s1, s2, s3⟩ := sg_yes hs hsg
        rw [if_pos s1, if_pos s2]
        right
        refine ⟨decide_eq_true hsg, (show ¬ (1 : Int32) = 0 by decide), rfl, ?_⟩
        unfold nbP
        exact s3
      · left
        have hno := sg_no hsg
        have hf : frM M (up2 (stM (up2 (stM M ln p) 5 (upd ((stM M ln p) 5) pl (stV (M 11) ln p))) ln (stA_ (M 11) ln p)) 20 (k1 1)) := frM_tr (frM_nbW M ln p pl) (frM_20 _ _)
        refine ⟨decide_eq_false hsg, ?_⟩
        by_cases s1 : stT (M 11) ln (stA_ (M 11) ln p) = 3
        · rw [if_pos s1, if_neg (fun s2 => hno ⟨s1, s2⟩), if_neg Bool.false_ne_true]
          exact ⟨rfl, rfl, rfl, hf⟩
        · rw [if_neg s1, if_neg Bool.false_ne_true]
          exact ⟨rfl, rfl, rfl, hf⟩
  · left
    have h0 : ¬ rnF b ln p l m = 0 := by rw [h1]; decide
    rw [if_neg h0, if_neg h0, if_neg h0, if_neg h2, h1]
    exact ⟨rfl, rfl, rfl, rfl, frM_tr (frM_st M ln p) (frM_20 _ _)⟩
  · left
    have h0 : ¬ rnF b ln p l m = 0 := by rw [h1]; decide
    rw [if_neg h0, if_neg h0, if_neg h0, if_pos h2, if_neg (by rw [h3]; exact Bool.false_ne_true), h1]
    exact ⟨rfl, rfl, rfl, rfl, frM_tr (frM_st M ln p) (frM_20 _ _)⟩
def FailR (R : Bool × Nat × Int32 × (Nat → Nat → Int32)) (Q : Int32 × (Nat → Nat → Int32)) (M : Nat → Nat → Int32) : Prop := R.1 = false ∧ Q.1 = 0 ∧ Q.2 17 0 = nI R.2.1 ∧ Q.2 20 0 = R.2.2.1 ∧ frM M Q.2
theorem FailR_tr {R : Bool × Nat × Int32 × (Nat → Nat → Int32)} {Q : Int32 × (Nat → Nat → Int32)} {M M' : Nat → Nat → Int32} (h : frM M M') (h2 : FailR R Q M') : FailR R Q M := ⟨h2.1, h2.2.1, h2.2.2.1, h2.2.2.2.1, frM_tr h h2.2.2.2.2⟩
/-- two numbers -/
theorem r2_step (hB : okB c ln) (hln : ln ≤ 120) (hbc : ∀ p, byteS b ln p = byteS c ln p) {M : Nat → Nat → Int32} (hM : M 11 = c) (p pl pl2 : Nat) {la ma mb sg : Int32} (lb : Int32 → Int32) (hl : 0 ≤ la) (hlb : ∀ v, inI v la ma = true → 0 ≤ lb v) (hs : sg = 44 ∨ sg = 59) (ft : Int32) (F : Nat → Nat → Int32) (h ka kb : Nat) : (FailR (r2S b ln p ft F h ka kb la ma lb mb sg) (nbT M ln p pl la ma 44) M) ∨ (¬ (nbT M ln p pl la ma 44).1 = 0 ∧ (FailR (r2S b ln p ft F h ka kb la ma lb mb sg) (nbT (nbW M ln p pl) ln (nbP c ln p) pl2 (lb (stV c ln p)) mb sg) M ∨ (¬ (nbT (nbW M ln p pl) ln (nbP c ln p) pl2 (lb (stV c ln p)) mb sg).1 = 0 ∧ inI (stV c ln p) la ma = true ∧ inI (stV c ln (nbP c ln p)) (lb (stV c ln p)) mb = true ∧ r2S b ln p ft F h ka kb la ma lb mb sg = (true, nbP c ln (nbP c ln p), ft, up2 (up2 F ka (upd (F ka) h (stV c ln p))) kb (upd (F kb) h (stV c ln (nbP c ln p))))))) := by
  unfold r2S
  rcases nb_step hB hln hbc hM p pl (m := ma) hl (Or.inl rfl) ft with ⟨h1, h2, h3, h4, h5⟩ | ⟨⟨h1, h2, h3⟩, ⟨h4, h5, h6, h7, h8⟩ | ⟨h4, h5, h6, h7⟩⟩
  · left
    rw [if_pos (show rnR b ln p la ma < 0 by rw [h1]; decide)]
    exact ⟨rfl, h2, h3, h4, h5⟩
  · left
    rw [if_neg h1, if_neg (by rw [h4]; exact Bool.false_ne_true)]
    exact ⟨rfl, h5, h6, h7, h8⟩
  · right
    refine ⟨h5, ?_⟩
    rw [if_neg h1, if_pos h4, h6, ← h7, h2]
    rcases nb_step hB hln hbc (show nbW M ln p pl 11 = c from hM) (nbP c ln p) pl2 (m := mb) (hlb _ h3) hs ft with ⟨g1, g2, g3, g4, g5⟩ | ⟨⟨g1, g2, g3⟩, ⟨g4, g5, g6, g7, g8⟩ | ⟨g4, g5, g6, g7⟩⟩
    · left
      rw [if_pos (show rnR b ln (nbP c ln p) (lb (stV c ln p)) mb < 0 by rw [g1]; decide)]
      exact ⟨rfl, g2, g3, g4, frM_tr (frM_nbW _ _ _ _) g5⟩
    · left
      rw [if_neg g1, if_neg (by rw [g4]; exact Bool.false_ne_true)]
      exact ⟨rfl, g5, g6, g7, frM_tr (frM_nbW _ _ _ _) g8⟩
    · right
      rw [if_neg g1, if_pos g4, g6, ← g7, g2]
      exact ⟨g5, h3, g3, rfl⟩
end
