/-! ===== the pure part: rows, counts and the like ===== -/
theorem bel_inC {c d : Int32} (h : c.toInt = d.toInt + 1) (r : Int32) : belS r c = inI r 0 d := by
  unfold belS inI
  rw [Bool.eq_iff_iff]
  simp only [Bool.and_eq_true, Bool.not_eq_true', decide_eq_false_iff_not, decide_eq_true_eq, Int32.lt_iff_toInt_lt, Int32.le_iff_toInt_le, show (0 : Int32).toInt = 0 from rfl]
  omega
theorem bel8 (r : Int32) : belS r 8 = inI r 0 7 := bel_inC rfl r
theorem bel3 (r : Int32) : belS r 3 = inI r 0 2 := bel_inC rfl r
theorem bel2 (r : Int32) : belS r 2 = inI r 0 1 := bel_inC rfl r
theorem bel6 (r : Int32) : belS r 6 = inI r 0 5 := bel_inC rfl r
theorem bel256 (r : Int32) : belS r 256 = inI r 0 255 := bel_inC rfl r
theorem belz {x : Int32} {z : Nat} (hx : x = nI z) (hz : z ≤ 1000) (h : Int32) : belS h x = inI h 0 (x - 1) := by
  subst hx
  refine bel_inC ?_ h
  rw [show (1 : Int32) = nI 1 from rfl, pk_sub_toInt (by omega) (by omega), nI_toInt (by omega)]
  omega
theorem ah60 (d : Int32) : ahB d = inI d 0 60 := by
  unfold ahB inI
  rw [Bool.eq_iff_iff]
  simp only [Bool.and_eq_true, Bool.not_eq_true', decide_eq_false_iff_not, decide_eq_true_eq, Int32.not_lt]
theorem up3_at (S : Nat → Nat → Nat → Int32) (c : Nat) (X : Nat → Nat → Int32) : up3 S c X c = X := by
  unfold up3
  rw [Nat.beq_refl]
  rfl
theorem up3_ne {S : Nat → Nat → Nat → Int32} {c d : Nat} {X : Nat → Nat → Int32} (h : d ≠ c) : up3 S c X d = S d := by
  unfold up3
  cases hb : Nat.beq d c with
  | false => rfl
  | true => exact absurd (Nat.eq_of_beq_eq_true hb) h
theorem up2_self (F : Nat → Nat → Int32) (k : Nat) : up2 F k (F k) = F := by
  funext j
  unfold up2
  cases hb : Nat.beq j k with
  | false => rfl
  | true =>
    have := Nat.eq_of_beq_eq_true hb
    subst this
    rfl
section
variable {S S' : Nat → Nat → Nat → Int32} {M M' : Nat → Nat → Int32} {z o q ln tr : Nat}
theorem bkF_congr (h2 : S' 2 = S 2) (h6 : S' 6 = S 6) : ∀ n, bkF S' o q n = bkF S o q n
  | 0 => h2
  | n + 1 => by
    unfold bkF
    rw [bkF_congr h2 h6 n, h6]
theorem rHist_congr (h2 : S' 2 = S 2) (h6 : S' 6 = S 6) (m7 : M' 7 = M 7) (h : rHist S M z o q) : rHist S' M' z o q := by
  intro n hn
  rw [bkF_congr h2 h6, h6, m7]
  exact h n hn
theorem rRow_same {j : Nat} (e : S' (j + 8) = S (j + 8)) (m0 : M' 0 j = M 0 j) (m1 : M' 1 j = M 1 j) (m2 : ∀ k, k < 40 → M' 2 (40 * j + k) = M 2 (40 * j + k)) (h : rRow S M j) : rRow S' M' j := by
  unfold rRow at h ⊢
  rw [e, m0, m1]
  refine ⟨h.1, ?_⟩
  rcases h.2 with h2 | ⟨a, b, c, d⟩
  · exact Or.inl h2
  · exact Or.inr ⟨a, b, c, fun k hk => by rw [m2 k hk]; exact d k hk⟩
theorem rp_gen (h : RelP S M z o q ln tr) (e08 : S' 0 8 = S 0 8) (e07 : S' 0 7 = S 0 7) (e9 : S' 0 9 0 = M' 3 0) (e1 : S' 1 = S 1) (e2 : S' 2 = S 2) (e3 : okW (S' 3)) (e6 : S' 6 = S 6) (ek : ∀ k, k < 2 → S' (k + 4) = S (k + 4)) (m4 : M' 4 = M 4) (m7 : M' 7 = M 7) (m8 : M' 8 = M 8) (m9 : M' 9 = M 9) (m10 : M' 10 = M 10) (m11 : M' 11 = M 11) (m12 : M' 12 = M 12) (m13 : M' 13 = M 13) (m14 : M' 14 = M 14) (m15 : M' 15 = M 15) (hrow : ∀ j, j < 8 → rRow S' M' j) : RelP S' M' z o q ln tr := by
  obtain ⟨⟨a1, a2, a3⟩, ⟨b1, b2, b3⟩, ⟨c1, c2, c3, c4, c5⟩, ⟨d1, d2, d3, d4⟩, f, g, i⟩ := h
  refine ⟨⟨by rw [e2]; exact a1, e3, by rw [e2, m4]; exact a3⟩, ⟨by rw [e6]; exact b1, by rw [m8]; exact b2, rHist_congr e2 e6 m7 b3⟩, ⟨by rw [e1]; exact c1, c2, by rw [m12]; exact c3, by rw [e1, m11]; exact c4, by rw [e1, m13]; exact c5⟩, ⟨by rw [e08]; exact d1, d2, by rw [m15]; exact d3, by rw [e07, m14]; exact d4⟩, e9, hrow, fun k hk => ?_⟩
  unfold rImg
  rw [ek k hk, m9, m10]
  exact i k hk
theorem rp_q (h : RelP S M z o q ln tr) (e0 : S' 0 = S 0) (m3 : M' 3 = M 3) (e1 : S' 1 = S 1) (e2 : S' 2 = S 2) (e3 : okW (S' 3)) (e6 : S' 6 = S 6) (ek : ∀ k, k < 2 → S' (k + 4) = S (k + 4)) (er : ∀ j, j < 8 → S' (j + 8) = S (j + 8)) (m0 : M' 0 = M 0) (m1 : M' 1 = M 1) (m2 : M' 2 = M 2) (m4 : M' 4 = M 4) (m7 : M' 7 = M 7) (m8 : M' 8 = M 8) (m9 : M' 9 = M 9) (m10 : M' 10 = M 10) (m11 : M' 11 = M 11) (m12 : M' 12 = M 12) (m13 : M' 13 = M 13) (m14 : M' 14 = M 14) (m15 : M' 15 = M 15) : RelP S' M' z o q ln tr :=
  rp_gen h (by rw [e0]) (by rw [e0]) (by rw [e0, m3]; exact h.2.2.2.2.1) e1 e2 e3 e6 ek m4 m7 m8 m9 m10 m11 m12 m13 m14 m15 (fun j hj => rRow_same (er j hj) (by rw [m0]) (by rw [m1]) (fun k _ => by rw [m2]) (h.2.2.2.2.2.1 j hj))
theorem rp_st (v : Int32) (h : RelP S M z o q ln tr) : RelP (up3 S 0 (up2 (S 0) 9 (k1 v))) (up2 M 3 (k1 v)) z o q ln tr :=
  rp_gen h rfl rfl rfl rfl rfl h.1.2.1 rfl (fun k hk => up3_ne (by omega)) rfl rfl rfl rfl rfl rfl rfl rfl rfl rfl (fun j hj => rRow_same (up3_ne (by omega)) rfl rfl (fun _ _ => rfl) (h.2.2.2.2.2.1 j hj))
theorem rp_rowset (h : RelP S M z o q ln tr) (j : Nat) (X : Nat → Nat → Int32) (a b c : Nat → Int32) (ha : ∀ i, i ≠ j → a i = M 0 i) (hb : ∀ i, i ≠ j → b i = M 1 i) (hc : ∀ i k, i ≠ j → k < 40 → c (40 * i + k) = M 2 (40 * i + k)) (hrow : (X 2 0 = nI (X 2 0).toNatClampNeg ∧ (X 2 0).toNatClampNeg ≤ 40) ∧ ((X 1 0 = -1 ∧ b j = -1) ∨ ((X 1 0 = 0 ∨ X 1 0 = 1 ∨ X 1 0 = 2) ∧ X 1 0 = a j ∧ X 2 0 = b j ∧ ∀ k, k < 40 → X 0 k = c (40 * j + k)))) : RelP (up3 (up3 S 0 (up2 (S 0) 9 (k1 0))) (j + 8) X) (up2 (up2 (up2 (up2 M 0 a) 1 b) 2 c) 3 (k1 0)) z o q ln tr := by
  have e : ∀ d, d < 8 → up3 (up3 S 0 (up2 (S 0) 9 (k1 0))) (j + 8) X d = up3 S 0 (up2 (S 0) 9 (k1 0)) d := fun d hd => up3_ne (by omega)
  refine rp_gen h (by rw [e 0 (by omega)]; rfl) (by rw [e 0 (by omega)]; rfl) (by rw [e 0 (by omega)]; rfl) (by rw [e 1 (by omega)]; rfl) (by rw [e 2 (by omega)]; rfl) (by rw [e 3 (by omega)]; exact h.1.2.1) (by rw [e 6 (by omega)]; rfl) (fun k hk => by rw [e _ (by omega)]; exact up3_ne (by omega)) rfl rfl rfl rfl rfl rfl rfl rfl rfl rfl (fun i hi => ?_)
  by_cases hij : i = j
  · subst hij
    unfold rRow
    rw [up3_at]
    exact hrow
  · exact rRow_same (by rw [up3_ne (by omega), up3_ne (by omega)]) (ha i hij) (hb i hij) (fun k hk => hc i k hij hk) (h.2.2.2.2.2.1 i hi)
theorem rp_7 (O : Nat → Nat → Int32) (h : RelP S M z o q ln tr) : RelP (up3 S 7 O) M z o q ln tr :=
  rp_q h rfl rfl rfl rfl h.1.2.1 rfl (fun k hk => up3_ne (by omega)) (fun j hj => up3_ne (by omega)) rfl rfl rfl rfl rfl rfl rfl rfl rfl rfl rfl rfl rfl
theorem rel_fault (h : RelP S M z o q ln tr) : S 1 3 0 = M 13 0 ∧ Rel S M := ⟨h.2.2.1.2.2.2.2, z, o, q, ln, tr, h⟩
theorem rel_status (h : RelP S M z o q ln tr) : S 0 9 0 = M 3 0 ∧ Rel S M := ⟨h.2.2.2.2.1, z, o, q, ln, tr, h⟩
theorem rel_row (h : RelP S M z o q ln tr) (r l n : Int32) : (rowC S r l n).1 = (rowM M r l n).1 ∧ Rel (rowC S r l n).2 (rowM M r l n).2 := by
  unfold rowC rowM
  rw [bel8, bel3]
  by_cases h1 : inI r 0 7 = true
  · rw [if_pos h1, if_pos h1]
    by_cases h2 : inI l 0 2 = true
    · rw [if_pos h2, if_pos h2]
      by_cases h3 : n ≤ 40
      · rw [if_pos h3, if_pos h3]
        by_cases h4 : 0 ≤ n
        · rw [if_pos h4, if_pos h4]
          refine ⟨rfl, z, o, q, ln, tr, ?_⟩
          obtain ⟨j, hj, rfl⟩ := inr_ex (m := 7) rfl h1
          obtain ⟨n', hn, rfl⟩ := nI_of2 (M := 40) (n := 40) rfl (Int32.not_lt.mpr h4) h3
          obtain ⟨l', hl, rfl⟩ := inr_ex (m := 2) rfl h2
          rw [ix_nI (show j < 2 ^ 31 by omega)]
          refine rp_rowset h j _ _ _ _ (fun i hi => upd_ne hi) (fun i hi => upd_ne hi) (fun i k hi hk => ?_) ⟨⟨?_, ?_⟩, Or.inr ⟨?_, ?_, ?_, fun k hk => ?_⟩⟩
          · show zrS (M 2) j 40 _ = _
            unfold zrS
            rw [if_neg (by omega)]
          · show nI n' = nI (nI n').toNatClampNeg
            rw [nI_clamp (by omega)]
          · show (nI n').toNatClampNeg ≤ 40
            rw [nI_clamp (by omega)]
            exact hn
          · show nI l' = 0 ∨ nI l' = 1 ∨ nI l' = 2
            rcases (by omega : l' = 0 ∨ l' = 1 ∨ l' = 2) with rfl | rfl | rfl
            · exact Or.inl rfl
            · exact Or.inr (Or.inl rfl)
            · exact Or.inr (Or.inr rfl)
          · exact pk_us.symm
          · exact pk_us.symm
          · show zeroS (S (j + 8) 0) 40 k = zrS (M 2) j 40 (40 * j + k)
            unfold zeroS zrS
            rw [if_pos hk, if_pos (by omega)]
        · rw [if_neg h4, if_neg h4]
          exact ⟨rfl, z, o, q, ln, tr, rp_st 4 h⟩
      · rw [if_neg h3, if_neg h3]
        exact ⟨rfl, z, o, q, ln, tr, h⟩
    · rw [if_neg h2, if_neg h2]
      exact ⟨rfl, z, o, q, ln, tr, h⟩
  · rw [if_neg h1, if_neg h1]
    exact ⟨rfl, z, o, q, ln, tr, h⟩
/-- a row that is there, or is not -/
theorem row_cases (h : RelP S M z o q ln tr) {j : Nat} (hj : j < 8) : (S (j + 8) 1 0 = -1 ∧ ¬ 0 ≤ M 1 j) ∨ (¬ S (j + 8) 1 0 = -1 ∧ 0 ≤ M 1 j ∧ (S (j + 8) 1 0 = 0 ∨ S (j + 8) 1 0 = 1 ∨ S (j + 8) 1 0 = 2) ∧ S (j + 8) 1 0 = M 0 j ∧ S (j + 8) 2 0 = M 1 j ∧ ∀ k, k < 40 → S (j + 8) 0 k = M 2 (40 * j + k)) := by
  obtain ⟨⟨a1, a2⟩, h2⟩ := h.2.2.2.2.2.1 j hj
  rcases h2 with ⟨e, e2⟩ | ⟨a, b, c, d⟩
  · exact Or.inl ⟨e, by rw [e2]; decide⟩
  · refine Or.inr ⟨?_, ?_, a, b, c, d⟩
    · rcases a with a | a | a <;> rw [a] <;> decide
    · rw [← c, a1]
      exact Int32.not_lt.mp (nI_pos (by omega))
theorem rel_drop (h : RelP S M z o q ln tr) (r : Int32) : (dropC S r).1 = (dropM M r).1 ∧ Rel (dropC S r).2 (dropM M r).2 := by
  unfold dropC dropM
  rw [bel8]
  by_cases h1 : inI r 0 7 = true
  · rw [if_pos h1, if_pos h1]
    obtain ⟨j, hj, rfl⟩ := inr_ex (m := 7) rfl h1
    rw [ix_nI (show j < 2 ^ 31 by omega)]
    rcases row_cases h (j := j) (by omega) with ⟨e1, e2⟩ | ⟨e1, e2, a, b, c, d⟩
    · rw [if_pos e1, if_neg e2]
      exact ⟨rfl, z, o, q, ln, tr, rp_st 1 h⟩
    · rw [if_neg e1, if_pos e2]
      refine ⟨c, z, o, q, ln, tr, ?_⟩
      have hr := rp_rowset h j (up2 (S (j + 8)) 1 (k1 (-1))) (M 0) (upd (M 1) j (-1)) (M 2) (fun _ _ => rfl) (fun i hi => upd_ne hi) (fun _ _ _ _ => rfl) ⟨(h.2.2.2.2.2.1 j (by omega)).1, Or.inl ⟨rfl, pk_us⟩⟩
      rw [up2_self] at hr
      have e3 : up2 (up2 M 1 (upd (M 1) j (-1))) 2 (M 2) = up2 M 1 (upd (M 1) j (-1)) := up2_self (up2 M 1 (upd (M 1) j (-1))) 2
      rw [e3] at hr
      exact hr
  · rw [if_neg h1, if_neg h1]
    exact ⟨rfl, z, o, q, ln, tr, h⟩
theorem rel_trace (h : RelP S M z o q ln tr) (i : Int32) : traceC S i = (traceM M i).1 ∧ Rel S (traceM M i).2 := by
  unfold traceC traceM
  obtain ⟨d1, d2, d3, d4⟩ := h.2.2.2.1
  rw [d1, d3, belz rfl (by omega)]
  by_cases h1 : inI i 0 (nI tr - 1) = true
  · rw [if_pos h1, if_pos h1]
    obtain ⟨j, hj, rfl⟩ := inz_ex rfl (by omega) h1
    rw [ix_nI (by omega)]
    exact ⟨d4 j hj, z, o, q, ln, tr, h⟩
  · rw [if_neg h1, if_neg h1]
    exact ⟨rfl, z, o, q, ln, tr, h⟩
end
