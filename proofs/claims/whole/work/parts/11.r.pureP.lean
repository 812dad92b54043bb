/-! ===== the pure part: forest ===== -/
section
variable {b c : Nat → Int32} {ln : Nat}
theorem loop_step (hB : okB c ln) (hln : ln ≤ 120) (hbc : ∀ p, byteS b ln p = byteS c ln p) (ft : Int32) : ∀ (n i q : Nat) (F N : Nat → Nat → Int32), i + n = 7 → N 11 = c → okF F i → rF F (N 5) i → FailR (riL b ln n i q ft F) (rdL ln n (stM N ln q) (stA_ c ln q) i) N ∨ (¬ (rdL ln n (stM N ln q) (stA_ c ln q) i).1 = 0 ∧ ∃ p' F', riL b ln n i q ft F = (true, p', ft, F') ∧ frM N (rdL ln n (stM N ln q) (stA_ c ln q) i).2 ∧ ∃ z', okF F' z' ∧ rF F' ((rdL ln n (stM N ln q) (stA_ c ln q) i).2 5) z')
  | 0, i, q, F, N, hi, _, ho, _ => absurd ho.2.1 (by omega)
  | n + 1, i, q, F, N, hi, hN, ho, hr => by
    have m18 : stM N ln q 18 0 = stT c ln q := by rw [← hN]; rfl
    have m11 : stM N ln q 11 = c := hN
    have eL : riL b ln (n + 1) i q ft F = if q < ln then (if (rhS b ln q ft F i).1 then riL b ln n (i + 1) (rhS b ln q ft F i).2.1 (rhS b ln q ft F i).2.2.1 (rhS b ln q ft F i).2.2.2 else rhS b ln q ft F i) else (true, q, ft, F) := rfl
    have eR : rdL ln (n + 1) (stM N ln q) (stA_ c ln q) i = if stM N ln q 18 0 = 0 then (1, stM N ln q) else if (rhT (stM N ln q) ln (stA_ c ln q) i).1 = 0 then (0, (rhT (stM N ln q) ln (stA_ c ln q) i).2) else rdL ln n (stM (rhW (stM N ln q) ln (stA_ c ln q) i) ln (rhP (stM N ln q 11) ln (stA_ c ln q))) (stA_ (stM N ln q 11) ln (rhP (stM N ln q 11) ln (stA_ c ln q))) (i + 1) := rfl
    rw [eL, eR, m18, m11]
    by_cases hq : q < ln
    · rw [if_pos hq, if_neg (show ¬ stT c ln q = 0 from fun e => by have := (stT_0 hB q).mp e; omega)]
      rcases ham_step hB hln hbc hN ft ho hr (q := q) with A | ⟨n1, F', e1, o1, r1⟩
      · left
        rw [if_neg (show ¬ _ = true by rw [A.1]; exact Bool.false_ne_true), if_pos A.2.1]
        exact ⟨A.1, rfl, A.2.2.1, A.2.2.2.1, frM_tr (frM_st _ _ _) A.2.2.2.2⟩
      · rw [e1]
        dsimp only
        rw [if_pos rfl, if_neg n1]
        have hf : frM N (rhW (stM N ln q) ln (stA_ c ln q) i) := frM_tr (frM_st _ _ _) (frM_tr (frM_5 _ _) (frM_tr (frM_nbW _ _ _ _) (frM_tr (frM_nbW _ _ _ _) (frM_tr (frM_nbW _ _ _ _) (frM_nbW _ _ _ _)))))
        have hN' : rhW (stM N ln q) ln (stA_ c ln q) i 11 = c := (hf 11 (by omega) (by omega)).trans hN
        rcases loop_step hB hln hbc ft n (i + 1) (rhP c ln (stA_ c ln q)) F' (rhW (stM N ln q) ln (stA_ c ln q) i) (by omega) hN' o1 r1 with B | ⟨n2, p', F2, e2, f2, z', o2, r2⟩
        · exact Or.inl (FailR_tr hf B)
        · exact Or.inr ⟨n2, p', F2, e2, frM_tr hf f2, z', o2, r2⟩
    · rw [if_neg hq, if_pos ((stT_0 hB q).mpr (by omega))]
      exact Or.inr ⟨(show ¬ (1 : Int32) = 0 by decide), q, F, rfl, frM_st _ _ _, i, ho, hr⟩
theorem ok_beg {F : Nat → Nat → Int32} {v w : Nat} (hW : okW F) (hv : v ≤ 40) (hw : w ≤ 5) : okF (up2 (up2 (begS F) 6 (k1 (nI v))) 7 (k1 (nI w))) 0 := ⟨rfl, by omega, okW_e rfl hW, Or.inr rfl, ⟨v, hv, rfl⟩, ⟨w, hw, rfl⟩, ⟨0, by omega, rfl⟩, ⟨0, by omega, rfl⟩, fun h hh => absurd hh (Nat.not_lt_zero h)⟩
theorem r_beg {F : Nat → Nat → Int32} {f : Nat → Int32} {v w : Int32} : rF (up2 (up2 (begS F) 6 (k1 v)) 7 (k1 w)) (upd (upd (upd (zeroS f 36) 1 v) 2 w) 3 1) 0 := by
  have e : ∀ k, k < 36 → k ≠ 1 → k ≠ 2 → k ≠ 3 → upd (upd (upd (zeroS f 36) 1 v) 2 w) 3 1 k = 0 := fun k h h1 h2 h3 => by
    rw [upd_ne h3, upd_ne h2, upd_ne h1]
    exact if_pos h
  refine ⟨(e 0 (by omega) (by omega) (by omega) (by omega)).symm, rfl, rfl, rfl, (e 34 (by omega) (by omega) (by omega) (by omega)).symm, (e 35 (by omega) (by omega) (by omega) (by omega)).symm, fun h hh => absurd hh (Nat.not_lt_zero h), fun h hh => ⟨0, by omega, e (28 + h) (by omega) (by omega) (by omega) (by omega)⟩⟩
theorem read_step (hB : okB c ln) (hln : ln ≤ 120) (hbc : ∀ p, byteS b ln p = byteS c ln p) (ft : Int32) {F M : Nat → Nat → Int32} (hM : M 11 = c) (hW : okW F) : FailR (riS b ln 0 ft F) (rdMT M ln) M ∨ (¬ (rdMT M ln).1 = 0 ∧ ∃ p' F', riS b ln 0 ft F = (true, p', ft, F') ∧ frM M (rdMT M ln).2 ∧ ∃ z', okF F' z' ∧ rF F' ((rdMT M ln).2 5) z') := by
  rw [riS_eq, rdMT_eq]
  unfold riS0 rdM
  rw [rlS_eq, rdT_eq]
  unfold rlS0
  rw [hM]
  have hf : frM M (stM (up2 (up2 M 5 (zeroS (M 5) 36)) 16 (k1 0)) ln 0) := frM_tr (frM_5 _ _) (frM_tr (frM_16 _ _) (frM_st _ _ _))
  by_cases h1 : byteS c ln 0 = 116
  · obtain ⟨s1, s2, s3⟩ := tk_st1 (tk116 hB h1)
    have hrs : rsB b ln 0 116 = true := by
      rw [rsB_eq]
      exact decide_eq_true ((hbc 0).trans h1)
    rw [if_pos hrs, if_pos s1, if_pos (s2.trans h1), s3]
    rcases nb_step hB hln hbc (M := stM (up2 (up2 M 5 (zeroS (M 5) 36)) 16 (k1 0)) ln 0) (show _ = c from hM) (0 + 1) 1 (l := 0) (m := 40) (sg := 44) (by decide) (Or.inl rfl) ft with ⟨a1, a2, a3, a4, a5⟩ | ⟨⟨a1, a2, a3⟩, ⟨a4, a5, a6, a7, a8⟩ | ⟨a4, a5, a6, a7⟩⟩
    · left
      rw [if_pos (show rnR b ln (0 + 1) 0 40 < 0 by rw [a1]; decide), if_neg Bool.false_ne_true, if_pos a2]
      exact ⟨rfl, rfl, a3, a4, frM_tr hf a5⟩
    · left
      rw [if_neg a1, if_neg (show ¬ rsB b ln (rnP b ln (0 + 1) 0 40) 44 = true by rw [a4]; exact Bool.false_ne_true), if_neg Bool.false_ne_true, if_pos a5]
      exact ⟨rfl, rfl, a6, a7, frM_tr hf a8⟩
    · rw [if_neg a1, if_pos a4, a6, ← a7, a2, if_neg a5]
      rcases nb_step hB hln hbc (M := nbW (stM (up2 (up2 M 5 (zeroS (M 5) 36)) 16 (k1 0)) ln 0) ln (0 + 1) 1) (show _ = c from hM) (nbP c ln (0 + 1)) 2 (l := 0) (m := 5) (sg := 59) (by decide) (Or.inr rfl) ft with ⟨g1, g2, g3, g4, g5⟩ | ⟨⟨g1, g2, g3⟩, ⟨g4, g5, g6, g7, g8⟩ | ⟨g4, g5, g6, g7⟩⟩
      · left
        rw [if_pos (show rnR b ln (nbP c ln (0 + 1)) 0 5 < 0 by rw [g1]; decide), if_neg Bool.false_ne_true, if_pos g2]
        exact ⟨rfl, rfl, g3, g4, frM_tr hf (frM_tr (frM_nbW _ _ _ _) g5)⟩
      · left
        rw [if_neg g1, if_neg (show ¬ rsB b ln (rnP b ln (nbP c ln (0 + 1)) 0 5) 59 = true by rw [g4]; exact Bool.false_ne_true), if_neg Bool.false_ne_true, if_pos g5]
        exact ⟨rfl, rfl, g6, g7, frM_tr hf (frM_tr (frM_nbW _ _ _ _) g8)⟩
      · rw [if_neg g1, if_pos g4, g6, ← g7, g2, if_neg g5]
        dsimp only
        rw [if_pos rfl]
        have hf2 : frM M (up2 (nbW (nbW (stM (up2 (up2 M 5 (zeroS (M 5) 36)) 16 (k1 0)) ln 0) ln (0 + 1) 1) ln (nbP c ln (0 + 1)) 2) 5 (upd ((nbW (nbW (stM (up2 (up2 M 5 (zeroS (M 5) 36)) 16 (k1 0)) ln 0) ln (0 + 1) 1) ln (nbP c ln (0 + 1)) 2) 5) 3 1)) := frM_tr hf (frM_tr (frM_nbW _ _ _ _) (frM_tr (frM_nbW _ _ _ _) (frM_5 _ _)))
        have e5 : (up2 (nbW (nbW (stM (up2 (up2 M 5 (zeroS (M 5) 36)) 16 (k1 0)) ln 0) ln (0 + 1) 1) ln (nbP c ln (0 + 1)) 2) 5 (upd ((nbW (nbW (stM (up2 (up2 M 5 (zeroS (M 5) 36)) 16 (k1 0)) ln 0) ln (0 + 1) 1) ln (nbP c ln (0 + 1)) 2) 5) 3 1)) 5 = upd (upd (upd (zeroS (M 5) 36) 1 (stV c ln (0 + 1))) 2 (stV c ln (nbP c ln (0 + 1)))) 3 1 := by
          rw [← hM]
          rfl
        obtain ⟨v, -, hv, ev⟩ := inI_ex (L := 0) (U := 40) rfl rfl a3
        obtain ⟨w, -, hw, ew⟩ := inI_ex (L := 0) (U := 5) rfl rfl g3
        have hr0 := r_beg (F := F) (f := M 5) (v := stV c ln (0 + 1)) (w := stV c ln (nbP c ln (0 + 1)))
        rw [← e5] at hr0
        have ho0 : okF (up2 (up2 (begS F) 6 (k1 (stV c ln (0 + 1)))) 7 (k1 (stV c ln (nbP c ln (0 + 1))))) 0 := by
          rw [ev, ew]
          exact ok_beg hW hv hw
        rcases loop_step hB hln hbc ft 7 0 (nbP c ln (nbP c ln (0 + 1))) _ _ (by omega) ((hf2 11 (by omega) (by omega)).trans hM) ho0 hr0 with B | ⟨n2, p', F2, e2, f2, z', o2, r2⟩
        · exact Or.inl (FailR_tr hf2 B)
        · exact Or.inr ⟨n2, p', F2, e2, frM_tr hf2 f2, z', o2, r2⟩
  · left
    have hrs : ¬ rsB b ln 0 116 = true := by
      rw [rsB_eq]
      unfold rsB0
      rw [decide_eq_true_eq, hbc]
      exact h1
    rw [if_neg hrs, if_neg Bool.false_ne_true]
    have key : ∀ X, (if stT c ln 0 = 1 then (if stV c ln 0 = 116 then X else (bB false, (up2 (stM (up2 (up2 M 5 (zeroS (M 5) 36)) 16 (k1 0)) ln 0) 20 (k1 1)))) else (bB false, (up2 (stM (up2 (up2 M 5 (zeroS (M 5) 36)) 16 (k1 0)) ln 0) 20 (k1 1)))) = (bB false, (up2 (stM (up2 (up2 M 5 (zeroS (M 5) 36)) 16 (k1 0)) ln 0) 20 (k1 1))) := by
      intro X
      by_cases s1 : stT c ln 0 = 1
      · rw [if_pos s1, if_neg]
        rw [(stT_1 s1).1]
        exact h1
      · rw [if_neg s1]
    rw [key]
    exact ⟨rfl, rfl, rfl, rfl, frM_tr hf (frM_20 _ _)⟩
end
section
variable {S S' : Nat → Nat → Nat → Int32} {M M' : Nat → Nat → Int32} {z o q ln tr : Nat}
theorem rel_forest (h : RelP S M z o q ln tr)  : (forC S ln).1 = (forM M ln).1 ∧ Rel ((forC S ln).2) ((forM M ln).2) := by
  obtain ⟨⟨a1, a2, a3⟩, ⟨b1, b2, b3⟩, ⟨c1, c2, c3, c4, c5⟩, ⟨d1, d2, d3, d4⟩, f, g, i⟩ := id h
  have hB : okB (M 11) ln := fun p hp => by
    obtain ⟨e, v, hv, e2⟩ := c4 p hp
    exact ⟨v, hv, by rw [← e]; exact e2⟩
  have hbc : ∀ p, byteS (S 1 0) ln p = byteS (M 11) ln p := fun p => by
    rw [byteS_eq]
    unfold byteS0
    by_cases hp : p < ln
    · rw [if_pos hp, if_pos hp]; exact (c4 p hp).1
    · rw [if_neg hp, if_neg hp]
  unfold forC forM
  have hW' := ri_W (b := S 1 0) (ln := ln) (p := 0) (ft := S 1 3 0) a2
  rcases read_step hB c2 hbc (S 1 3 0) (F := S 3) (M := M) rfl a2 with A | ⟨n1, p', F', e1, f1, z', o1, r1⟩
  · obtain ⟨A1, A2, A3, A4, A5⟩ := A
    rw [if_neg (show ¬ _ = true by rw [A1]; exact Bool.false_ne_true), if_pos A2, A3, A4]
    refine ⟨rfl, z, o, q, 0, tr, ?_⟩
    dsimp only
    have hM : ∀ k, k ≠ 5 → k ≠ 12 → k ≠ 13 → k < 16 → up2 (up2 (rdMT M ln).2 12 (k1 0)) 13 (k1 (riS (S 1 0) ln 0 (S 1 3 0) (S 3)).2.2.1) k = M k := fun k h5 h12 h13 h16 => (up2_ne h13).trans ((up2_ne h12).trans (A5 k h5 h16))
    have hS : ∀ k, k ≠ 1 → k ≠ 3 → up3 (up3 S 1 (up2 (tpS (S 1 0) ln (riS (S 1 0) ln 0 (S 1 3 0) (S 3)).2.1 (riS (S 1 0) ln 0 (S 1 3 0) (S 3)).2.2.1) 1 (k1 0))) 3 ((riS (S 1 0) ln 0 (S 1 3 0) (S 3)).2.2.2) k = S k := fun k h1 h3 => (up3_ne h3).trans (up3_ne h1)
    refine ⟨⟨by rw [hS 2 (by omega) (by omega)]; exact a1, hW', by rw [hS 2 (by omega) (by omega), hM 4 (by omega) (by omega) (by omega) (by omega)]; exact a3⟩, ⟨by rw [hS 6 (by omega) (by omega)]; exact b1, by rw [hM 8 (by omega) (by omega) (by omega) (by omega)]; exact b2, rHist_congr (S := S) (M := M) (hS 2 (by omega) (by omega)) (hS 6 (by omega) (by omega)) (hM 7 (by omega) (by omega) (by omega) (by omega)) b3⟩, ⟨rfl, by omega, rfl, fun k hk => absurd hk (Nat.not_lt_zero k), rfl⟩, ⟨by rw [hS 0 (by omega) (by omega)]; exact d1, d2, by rw [hM 15 (by omega) (by omega) (by omega) (by omega)]; exact d3, fun k hk => by rw [hS 0 (by omega) (by omega), hM 14 (by omega) (by omega) (by omega) (by omega)]; exact d4 k hk⟩, by rw [hS 0 (by omega) (by omega), hM 3 (by omega) (by omega) (by omega) (by omega)]; exact f, fun j hj => ?_, fun k hk => ?_⟩
    · exact rRow_same (hS _ (by omega) (by omega)) (by rw [hM 0 (by omega) (by omega) (by omega) (by omega)]) (by rw [hM 1 (by omega) (by omega) (by omega) (by omega)]) (fun k _ => by rw [hM 2 (by omega) (by omega) (by omega) (by omega)]) (g j hj)
    · unfold rImg
      rw [hS _ (by omega) (by omega), hM 9 (by omega) (by omega) (by omega) (by omega), hM 10 (by omega) (by omega) (by omega) (by omega)]
      exact i k hk
  · rw [e1]
    dsimp only
    rw [if_pos rfl, if_neg n1]
    have hz' := o1.2.1
    have hM : ∀ k, k ≠ 4 → k ≠ 5 → k ≠ 8 → k ≠ 12 → k < 16 → up2 (up2 (up2 ((rdMT M ln).2) 12 (k1 0)) 4 (va_cpy (((rdMT M ln).2) 5) (((rdMT M ln).2) 4) 0 0 36)) 8 (k1 0) k = M k := fun k h4 h5 h8 h12 h16 => (up2_ne h8).trans ((up2_ne h4).trans ((up2_ne h12).trans (f1 k h5 h16)))
    have hS : ∀ k, k ≠ 1 → k ≠ 2 → k ≠ 3 → k ≠ 6 → up3 (up3 (up3 (up3 S 1 (up2 (tpS (S 1 0) ln p' (S 1 3 0)) 1 (k1 0))) 2 (tkS (S 2) F')) 3 F') 6 (up2 (S 6) 5 (k1 0)) k = S k := fun k h1 h2 h3 h6 => (up3_ne h6).trans ((up3_ne h3).trans ((up3_ne h2).trans (up3_ne h1)))
    refine ⟨?_, z', o, 0, 0, tr, ?_⟩
    · show F' 9 0 = va_cpy ((rdMT M ln).2 5) ((rdMT M ln).2 4) 0 0 36 0
      rw [cpy36 (by omega)]
      exact r1.1
    dsimp only
    refine ⟨⟨okF_tk o1, o1.2.2.1, rF_tk hz' (rF_t (t := (rdMT M ln).2 5) (fun k hk => cpy36 hk) hz' r1)⟩, ⟨⟨b1.1, b1.2.1, rfl, by omega⟩, rfl, fun n hn => absurd hn (Nat.not_lt_zero n)⟩, ⟨rfl, by omega, rfl, fun k hk => absurd hk (Nat.not_lt_zero k), ?_⟩, ⟨by rw [hS 0 (by omega) (by omega) (by omega) (by omega)]; exact d1, d2, by rw [hM 15 (by omega) (by omega) (by omega) (by omega) (by omega)]; exact d3, fun k hk => by rw [hS 0 (by omega) (by omega) (by omega) (by omega), hM 14 (by omega) (by omega) (by omega) (by omega) (by omega)]; exact d4 k hk⟩, by rw [hS 0 (by omega) (by omega) (by omega) (by omega), hM 3 (by omega) (by omega) (by omega) (by omega) (by omega)]; exact f, fun j hj => ?_, fun k hk => ?_⟩
    · rw [hM 13 (by omega) (by omega) (by omega) (by omega) (by omega)]
      exact c5
    · exact rRow_same (hS _ (by omega) (by omega) (by omega) (by omega)) (by rw [hM 0 (by omega) (by omega) (by omega) (by omega) (by omega)]) (by rw [hM 1 (by omega) (by omega) (by omega) (by omega) (by omega)]) (fun k _ => by rw [hM 2 (by omega) (by omega) (by omega) (by omega) (by omega)]) (g j hj)
    · unfold rImg
      rw [hS _ (by omega) (by omega) (by omega) (by omega), hM 9 (by omega) (by omega) (by omega) (by omega) (by omega), hM 10 (by omega) (by omega) (by omega) (by omega) (by omega)]
      exact i k hk
end
