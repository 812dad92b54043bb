/-! ===== the pure part: copy, fits ===== -/
theorem span_iff {s : Nat} (h40 : s ≤ 40) (i n : Int32) : spanS (nI s) i n = true ↔ (¬ i < 0 ∧ ¬ n < 0 ∧ ¬ 0 < lg_cmp (i.toInt64 + n.toInt64) (nI s).toInt64) := by
  constructor
  · intro h
    obtain ⟨a, b, rfl, rfl, hab⟩ := span_ex rfl h40 h
    refine ⟨nI_pos (by omega), nI_pos (by omega), ?_⟩
    rw [lg_cmp_gt, Int64.not_lt]
    exact (le64 (by omega) (by omega) (by omega)).mpr hab
  · rintro ⟨h1, h2, h3⟩
    obtain ⟨a, b, rfl, rfl, hab⟩ := cp_ex (s := s) rfl h40 h1 h2 h3
    unfold spanS
    simp only [Bool.and_eq_true, Bool.not_eq_true', decide_eq_false_iff_not]
    refine ⟨⟨⟨h1, h2⟩, nI_nlt (by omega) (by omega)⟩, ?_⟩
    rw [pk_sub (show b ≤ s by omega)]
    exact nI_nlt (by omega) (by omega)
theorem cpL_fw {f : Nat → Int32} {A B n : Nat} (h : B ≤ A ∨ A + n ≤ B) : ∀ k, k ≤ n → cpL f A B n false k = va_cpy f f A B k
  | 0, _ => (cpy_zero f f A B).symm
  | k + 1, hk => by
    have ih := cpL_fw (f := f) h k (by omega)
    rw [cpL, ih]
    show upd (va_cpy f f A B k) (B + k) (va_cpy f f A B k (A + k)) = _
    rw [cpy_out (by omega), cpy_step]
theorem cpL_bw {f : Nat → Int32} {A B n : Nat} (h : A ≤ B ∨ B + n ≤ A) : ∀ k, k ≤ n → cpL f A B n true k = va_cpy f f (A + (n - k)) (B + (n - k)) k
  | 0, _ => (cpy_zero f f _ _).symm
  | k + 1, hk => by
    have ih := cpL_bw (f := f) h k (by omega)
    rw [cpL, ih]
    show upd (va_cpy f f (A + (n - k)) (B + (n - k)) k) (B + (n - 1 - k)) (va_cpy f f (A + (n - k)) (B + (n - k)) k (A + (n - 1 - k))) = _
    rw [cpy_out (by omega)]
    funext p
    unfold upd va_cpy
    by_cases e : p = B + (n - 1 - k)
    · rw [if_pos e, if_pos (by omega)]
      congr 1
      omega
    · rw [if_neg e]
      by_cases h2 : B + (n - k) ≤ p ∧ p < B + (n - k) + k
      · rw [if_pos h2, if_pos (by omega)]
        congr 1
        omega
      · rw [if_neg h2, if_neg (by omega)]
theorem cpL_at {f : Nat → Int32} {A B n : Nat} {dir : Bool} (h : dir = false → B ≤ A ∨ A + n ≤ B) (h2 : dir = true → A ≤ B ∨ B + n ≤ A) : cpL f A B n dir n = va_cpy f f A B n := by
  cases dir
  · exact cpL_fw (h rfl) n (Nat.le_refl n)
  · have := cpL_bw (f := f) (h2 rfl) n (Nat.le_refl n)
    rw [this, Nat.sub_self, Nat.add_zero, Nat.add_zero]
section
variable {S S' : Nat → Nat → Nat → Int32} {M M' : Nat → Nat → Int32} {z o q ln tr : Nat}
theorem rel_copy (h : RelP S M z o q ln tr) (a i b j n : Int32) : (copyC S a i b j n).1 = (copyM M a i b j n).1 ∧ Rel ((copyC S a i b j n).2) ((copyM M a i b j n).2) := by
  unfold copyC copyM
  rw [bel8, bel8]
  by_cases h1 : inI a 0 7 = true
  · rw [if_pos h1, if_pos h1]
    by_cases h2 : inI b 0 7 = true
    · rw [if_pos h2, if_pos h2]
      obtain ⟨ra, hra, rfl⟩ := inr_ex (m := 7) rfl h1
      obtain ⟨rb, hrb, rfl⟩ := inr_ex (m := 7) rfl h2
      rw [ix_nI (show ra < 2 ^ 31 by omega), ix_nI (show rb < 2 ^ 31 by omega)]
      rcases row_cases h (j := ra) (by omega) with ⟨a1, a2⟩ | ⟨a1, a2, a3, a4, a5, a6⟩
      · rw [if_pos a1, if_pos (Int32.not_le.mp a2)]
        exact ⟨rfl, z, o, q, ln, tr, rp_st 1 h⟩
      · rw [if_neg a1, if_neg (Int32.not_lt.mpr a2)]
        rcases row_cases h (j := rb) (by omega) with ⟨b1, b2⟩ | ⟨b1, b2, b3, b4, b5, b6⟩
        · rw [if_pos b1, if_neg b2]
          exact ⟨rfl, z, o, q, ln, tr, rp_st 1 h⟩
        · rw [if_neg b1, if_pos b2, a4, b4]
          by_cases h3 : M 0 ra = M 0 rb
          · rw [if_pos h3, if_pos h3]
            obtain ⟨sa, ha40⟩ := (h.2.2.2.2.2.1 ra (by omega)).1
            obtain ⟨sb, hb40⟩ := (h.2.2.2.2.2.1 rb (by omega)).1
            have ea : M 1 ra = nI (S (ra + 8) 2 0).toNatClampNeg := by rw [← a5]; exact sa
            have eb : M 1 rb = nI (S (rb + 8) 2 0).toNatClampNeg := by rw [← b5]; exact sb
            rw [a5, b5, ea, eb]
            generalize (S (ra + 8) 2 0).toNatClampNeg = u at ha40
            generalize (S (rb + 8) 2 0).toNatClampNeg = v at hb40
            clear sa sb ea eb
            by_cases hA : spanS (nI u) i n = true
            · rw [if_pos hA]
              obtain ⟨A1, A2, A3⟩ := (span_iff ha40 i n).mp hA
              by_cases hB : spanS (nI v) j n = true
              · rw [if_pos hB]
                obtain ⟨B1, B2, B3⟩ := (span_iff hb40 j n).mp hB
                rw [if_neg A1, if_neg B1, if_neg A2, if_neg A3, if_pos (Int32.not_lt.mp B3)]
                refine ⟨rfl, z, o, q, ln, tr, ?_⟩
                obtain ⟨ki, kn, rfl, rfl, hin⟩ := cp_ex (s := u) rfl ha40 A1 A2 A3
                obtain ⟨kj, rfl, hjn⟩ := cp_ex2 (s := v) rfl hb40 (by omega) B1 (Int32.not_lt.mp B3)
                rw [ix_nI (show ki < 2 ^ 31 by omega), ix_nI (show kj < 2 ^ 31 by omega), ix_nI (show kn < 2 ^ 31 by omega)]
                rw [cpL_at (fun hd => by
                  have h5 : kj ≤ ki := by
                    by_cases h6 : kj ≤ ki
                    · exact h6
                    · rw [decide_eq_false h6] at hd
                      exact absurd hd (by decide)
                  rcases Nat.lt_trichotomy ra rb with h7 | h7 | h7
                  · omega
                  · subst h7; omega
                  · omega) (fun hd => by
                  have h5 : ¬ kj ≤ ki := by
                    intro h6
                    rw [decide_eq_true h6] at hd
                    exact absurd hd (by decide)
                  rcases Nat.lt_trichotomy ra rb with h7 | h7 | h7
                  · omega
                  · subst h7; omega
                  · omega)]
                refine rp_item h rb (by omega) _ _ (fun i k hi hk => cpy_out (by omega)) b1 (fun k hk => ?_)
                by_cases h8 : kj ≤ k ∧ k < kj + kn
                · unfold va_cpy
                  rw [if_pos h8, if_pos (by omega), a6 _ (by omega)]
                  congr 1
                  omega
                · rw [cpy_out h8, cpy_out (by omega)]
                  exact b6 k hk
              · rw [if_neg hB]
                have hB2 := fun e => hB ((span_iff hb40 j n).mpr e)
                rw [if_neg A1]
                by_cases B1 : j < 0
                · rw [if_pos B1]; exact ⟨rfl, z, o, q, ln, tr, rp_st 2 h⟩
                · rw [if_neg B1, if_neg A2, if_neg A3]
                  by_cases B3 : 0 < lg_cmp (j.toInt64 + n.toInt64) (nI v).toInt64
                  · rw [if_neg (Int32.not_le.mpr B3)]; exact ⟨rfl, z, o, q, ln, tr, rp_st 2 h⟩
                  · exact absurd ⟨B1, A2, B3⟩ hB2
            · rw [if_neg hA]
              have hA2 := fun e => hA ((span_iff ha40 i n).mpr e)
              by_cases A1 : i < 0
              · rw [if_pos A1]; exact ⟨rfl, z, o, q, ln, tr, rp_st 2 h⟩
              · rw [if_neg A1]
                by_cases B1 : j < 0
                · rw [if_pos B1]; exact ⟨rfl, z, o, q, ln, tr, rp_st 2 h⟩
                · rw [if_neg B1]
                  by_cases A2 : n < 0
                  · rw [if_pos A2]; exact ⟨rfl, z, o, q, ln, tr, rp_st 2 h⟩
                  · rw [if_neg A2]
                    by_cases A3 : 0 < lg_cmp (i.toInt64 + n.toInt64) (nI u).toInt64
                    · rw [if_pos A3]; exact ⟨rfl, z, o, q, ln, tr, rp_st 2 h⟩
                    · exact absurd ⟨A1, A2, A3⟩ hA2
          · rw [if_neg h3, if_neg h3]
            exact ⟨rfl, z, o, q, ln, tr, rp_st 5 h⟩
    · rw [if_neg h2, if_neg h2]
      exact ⟨rfl, z, o, q, ln, tr, h⟩
  · rw [if_neg h1, if_neg h1]
    exact ⟨rfl, z, o, q, ln, tr, h⟩
theorem allB_congr {p p' : Nat → Bool} : ∀ n, (∀ k, k < n → p k = p' k) → allB p n = allM p' n
  | 0, _ => rfl
  | n + 1, h => by
    unfold allB allM
    rw [allB_congr n (fun k hk => h k (by omega)), h n (by omega)]
theorem fit_congr {P Q : Nat → Bool} {lo : Nat} : ∀ n, (∀ c, c < n → P (lo + c) = Q c) → fitB P lo n = fitC Q lo n
  | 0, _ => rfl
  | n + 1, h => by
    unfold fitB fitC
    rw [fit_congr n (fun k hk => h k (by omega)), h n (by omega)]
    cases Q n
    · rw [if_neg Bool.false_ne_true, if_neg Bool.false_ne_true, Int32.or_zero]
    · rw [if_pos rfl, if_pos rfl]
theorem vw_at {t : Nat → Int32} {k h : Nat} (hk : k < 5) : vw t k h = t (4 + 6 * k + h) := by
  match k, hk with
  | 0, _ => rfl
  | 1, _ => rfl
  | 2, _ => rfl
  | 3, _ => rfl
  | 4, _ => rfl
/-- one word of a hammock changed, on both sides -/
theorem rF_upd {F : Nat → Nat → Int32} {t : Nat → Int32} {z k h : Nat} {x : Int32} (hz : z ≤ 6) (hk : k < 5) (hh : h < z) (hx : k = 4 → ∃ w, w ≤ 5 ∧ x = nI w) (hr : rF F t z) : rF (up2 F k (upd (F k) h x)) (upd t (4 + 6 * k + h) x) z := by
  obtain ⟨c1, c2, c3, c4, c5, c6, c7, c8⟩ := hr
  have ev : ∀ h', h' < 6 → ∀ k', k' < 5 → vw (upd t (4 + 6 * k + h) x) k' h' = if k' = k ∧ h' = h then x else vw t k' h' := by
    intro h' hh' k' hk'
    rw [vw_at hk', vw_at hk']
    unfold upd
    by_cases e : k' = k ∧ h' = h
    · rw [if_pos e, if_pos (by omega)]
    · rw [if_neg e, if_neg (by omega)]
  refine ⟨?_, ?_, ?_, ?_, ?_, ?_, fun i hi k' hk' => ?_, fun i hi => ?_⟩
  · rw [up2_ne (by omega), upd_ne (by omega)]; exact c1
  · rw [up2_ne (by omega), upd_ne (by omega)]; exact c2
  · rw [up2_ne (by omega), upd_ne (by omega)]; exact c3
  · rw [up2_ne (by omega), upd_ne (by omega)]; exact c4
  · rw [up2_ne (by omega), upd_ne (by omega)]; exact c5
  · rw [up2_ne (by omega), upd_ne (by omega)]; exact c6
  · rw [ev i (by omega) k' hk']
    by_cases e : k' = k
    · subst e
      unfold up2
      rw [Nat.beq_refl]
      show upd (F k') h x i = _
      unfold upd
      by_cases e2 : i = h
      · rw [if_pos e2, if_pos ⟨rfl, e2⟩]
      · rw [if_neg e2, if_neg (fun e => e2 e.2)]; exact c7 i hi k' hk'
    · rw [up2_ne e, if_neg (fun e2 => e e2.1)]; exact c7 i hi k' hk'
  · rw [ev i hi 4 (by omega)]
    by_cases e : 4 = k ∧ i = h
    · rw [if_pos e]; exact hx e.1.symm
    · rw [if_neg e]; exact c8 i hi
theorem okF_w {F : Nat → Nat → Int32} {z h w : Nat} (h1 : 1 ≤ w) (h2 : w ≤ 20) (ho : okF F z) : okF (up2 F 3 (upd (F 3) h (nI w))) z := by
  obtain ⟨a1, a2, a3, a4, a5, a6, a7, a8, a9⟩ := ho
  refine ⟨a1, a2, a3, a4, a5, a6, a7, a8, fun i hi => ⟨(a9 i hi).1, (a9 i hi).2.1, ?_, (a9 i hi).2.2.2⟩⟩
  show ∃ w', 1 ≤ w' ∧ w' ≤ 20 ∧ upd (F 3) h (nI w) i = nI w'
  unfold upd
  by_cases e : i = h
  · rw [if_pos e]; exact ⟨w, h1, h2, rfl⟩
  · rw [if_neg e]; exact (a9 i hi).2.2.1
theorem rp_fit (h : RelP S M z o q ln tr) (T F' : Nat → Nat → Int32) (A : Nat → Int32) (hW : okW F') : RelP (up3 (up3 (up3 S 0 (up2 (S 0) 9 (k1 0))) 3 T) 3 F') (up2 (up2 M 6 A) 3 (k1 0)) z o q ln tr :=
  rp_gen h rfl rfl rfl rfl rfl hW rfl (fun k hk => (up3_ne (by omega)).trans ((up3_ne (by omega)).trans (up3_ne (by omega)))) rfl rfl rfl rfl rfl rfl rfl rfl rfl rfl (fun j hj => rRow_same ((up3_ne (by omega)).trans ((up3_ne (by omega)).trans (up3_ne (by omega)))) rfl rfl (fun _ _ => rfl) (h.2.2.2.2.2.1 j hj))
theorem fA_r (h : RelP S M z o q ln tr) {k j lo c : Nat} (hk : k < 5) (hj : j < z) (hx : k = 4 → lo + c ≤ 5) : rF (up2 (tkS (S 3) (S 2)) k (upd (tkS (S 3) (S 2) k) j (nI (lo + c)))) (fAT M (4 + 6 * k) j lo (c + 1)) z := by
  have hz := h.1.1.2.1
  have e : fAT M (4 + 6 * k) j lo (c + 1) = upd (va_cpy (M 4) (fAT M (4 + 6 * k) j lo c) 0 0 36) (4 + 6 * k + j) (nI (lo + c)) := fA_s.symm
  rw [e]
  exact rF_upd hz hk hj (fun e => ⟨_, hx e, rfl⟩) (rF_t (t := M 4) (fun n hn => cpy36 hn) hz (rF_tk hz h.1.2.2))
theorem tk_8 (h : RelP S M z o q ln tr) {k : Nat} (f : Nat → Int32) (hk : k < 5) : up2 (tkS (S 3) (S 2)) k f 8 0 = M 4 35 := by
  rw [up2_ne (by omega)]
  exact h.1.2.2.2.2.2.2.2.1
theorem th_q (h : RelP S M z o q ln tr) {k j lo c jr ki kn : Nat} (hk : k < 5) (hj : j < z) (hx : k = 4 → lo + c ≤ 5) (h3 : S' 3 = up2 (tkS (S 3) (S 2)) k (upd (tkS (S 3) (S 2) k) j (nI (lo + c)))) (hrow : ∀ u, u < 40 → S' (jr + 8) 0 u = M 2 (40 * jr + u)) (hin : ki + kn ≤ 40) : thS S' jr j ki kn = allM (fun u => decide (M 2 (40 * jr + ki + u) = plS (vw (fAT M (4 + 6 * k) j lo (c + 1))) j (M 4 35 + nI u))) kn := by
  unfold thS
  refine allB_congr kn (fun u hu => ?_)
  rw [h3, hrow _ (by omega), plS_r (fA_r h hk hj hx) hj, tk_8 h _ hk, Nat.add_assoc]
theorem tr_q (h : RelP S M z o q ln tr) {j lo c jr ki kn : Nat} (hj : j < z) (h1 : 1 ≤ lo + c) (h20 : lo + c ≤ 20) (h3 : S' 3 = up2 (tkS (S 3) (S 2)) 3 (upd (tkS (S 3) (S 2) 3) j (nI (lo + c)))) (hrow : ∀ u, u < 40 → S' (jr + 8) 0 u = M 2 (40 * jr + u)) (hin : ki + kn ≤ 40) : trS S' z jr j ki kn = allM (fun u => decide (M 2 (40 * jr + ki + u) = reachM (vw (fAT M 22 j lo (c + 1))) z j (M 4 35 + nI u))) kn := by
  unfold trS
  refine allB_congr kn (fun u hu => ?_)
  obtain ⟨a, ha, -, e⟩ := rp_min h
  rw [h3, hrow _ (by omega), tk_8 h _ (show 3 < 5 by omega), e, nI_add, nearC_r (okF_w h1 h20 (okF_tk h.1.1)) (fA_r (k := 3) h (by omega) hj (by omega)) hj (by omega), Nat.add_assoc]
theorem okW_u {F : Nat → Nat → Int32} {k j : Nat} {x : Int32} (hk : k ≠ 4) (h : okW F) : okW (up2 F k (upd (F k) j x)) := by
  unfold okW
  rw [up2_ne (fun e => hk e.symm)]
  exact h
theorem okW_u4 {F : Nat → Nat → Int32} {j w : Nat} (hw : w ≤ 5) (h : okW F) : okW (up2 F 4 (upd (F 4) j (nI w))) := by
  intro i hi
  show okSw (upd (F 4) j (nI w) i)
  unfold upd
  by_cases e : i = j
  · rw [if_pos e]; exact Or.inr ⟨w, hw, rfl⟩
  · rw [if_neg e]; exact h i hi
theorem n16_ex {n : Int32} (h : inI n 1 16 = true) : ∃ k, k ≤ 16 ∧ n = nI k := by
  unfold inI at h
  simp only [Bool.and_eq_true, decide_eq_true_eq] at h
  exact nI_of2 (M := 16) rfl (Int32.not_lt.mpr (Int32.le_trans (by decide) h.1)) h.2
theorem rel_fits (h : RelP S M z o q ln tr) (x0 r i n x : Int32) : (fitsC S z x0 r i n x).1 = (fitsM M z x0 r i n x).1 ∧ Rel ((fitsC S z x0 r i n x).2) ((fitsM M z x0 r i n x).2) := by
  unfold fitsC fitsM
  rw [rp_bel h, bel8, bel3]
  by_cases h1 : inI x0 0 (M 4 0 - 1) = true
  · rw [if_pos h1, if_pos h1]
    by_cases h2 : inI r 0 7 = true
    · rw [if_pos h2, if_pos h2]
      by_cases h4 : inI n 1 16 = true
      · rw [if_pos h4]
        have h5 := h4
        unfold inI at h5
        simp only [Bool.and_eq_true, decide_eq_true_eq] at h5
        rw [if_neg (Int32.not_lt.mpr h5.1), if_neg (Int32.not_lt.mpr h5.2)]
        by_cases h6 : inI x 0 2 = true
        · rw [if_pos h6, if_pos h6]
          obtain ⟨j, hj, rfl⟩ := rp_ix h h1
          obtain ⟨jr, hjr, rfl⟩ := inr_ex (m := 7) rfl h2
          obtain ⟨kn, hkn, rfl⟩ := n16_ex h4
          have hz := h.1.1.2.1
          rw [ix_nI (show j < 2 ^ 31 by omega), ix_nI (show jr < 2 ^ 31 by omega), ix_nI (show kn < 2 ^ 31 by omega)]
          rcases row_cases h (j := jr) (by omega) with ⟨a1, a2⟩ | ⟨a1, a2, a3, a4, a5, a6⟩
          · rw [if_pos a1, if_neg a2, if_neg a2, if_neg a2]
            by_cases x0 : x = 0
            · rw [if_pos x0]; exact ⟨rfl, z, o, q, ln, tr, rp_st 1 h⟩
            · rw [if_neg x0]
              by_cases x1 : x = 1
              · rw [if_pos x1]; exact ⟨rfl, z, o, q, ln, tr, rp_st 1 h⟩
              · rw [if_neg x1]; exact ⟨rfl, z, o, q, ln, tr, rp_st 1 h⟩
          · rw [if_neg a1, if_pos a2, if_pos a2, if_pos a2]
            obtain ⟨sa, ha40⟩ := (h.2.2.2.2.2.1 jr (by omega)).1
            have ea : M 1 jr = nI (S (jr + 8) 2 0).toNatClampNeg := by rw [← a5]; exact sa
            rw [a5, ea]
            generalize (S (jr + 8) 2 0).toNatClampNeg = u at ha40
            clear sa ea
            by_cases hA : spanS (nI u) i (nI kn) = true
            · rw [if_pos hA]
              obtain ⟨A1, A2, A3⟩ := (span_iff ha40 i (nI kn)).mp hA
              rw [if_neg A1, if_neg A1, if_neg A1, if_pos (Int32.not_lt.mp A3), if_pos (Int32.not_lt.mp A3), if_pos (Int32.not_lt.mp A3)]
              obtain ⟨ki, rfl, hin⟩ := span_ex2 (s := u) (by omega) rfl ha40 hA
              rw [ix_nI (show ki < 2 ^ 31 by omega)]
              have hW : okW (tkS (S 3) (S 2)) := okW_tk h.1.1.2.2.1
              by_cases x0 : x = 0
              · rw [if_pos x0, if_pos x0]
                refine ⟨?_, z, o, q, ln, tr, rp_fit h _ _ _ (okW_u (by omega) hW)⟩
                dsimp only
                refine fit_congr 5 (fun c hc => ?_)
                exact th_q (k := 0) h (by omega) hj (by omega) rfl a6 (by omega)
              · rw [if_neg x0, if_neg x0]
                by_cases x1 : x = 1
                · rw [if_pos x1, if_pos x1]
                  refine ⟨?_, z, o, q, ln, tr, rp_fit h _ _ _ (okW_u4 (by omega) hW)⟩
                  dsimp only
                  refine fit_congr 6 (fun c hc => ?_)
                  exact th_q (k := 4) h (by omega) hj (by omega) rfl a6 (by omega)
                · rw [if_neg x1, if_neg x1]
                  refine ⟨?_, z, o, q, ln, tr, rp_fit h _ _ _ (okW_u (by omega) hW)⟩
                  dsimp only
                  refine fit_congr 20 (fun c hc => ?_)
                  exact tr_q h hj (by omega) (by omega) rfl a6 (by omega)
            · rw [if_neg hA]
              have hA2 := fun e => hA ((span_iff ha40 i (nI kn)).mpr e)
              have key : ∀ X : Int32 × (Nat → Nat → Int32), (if i < 0 then ((-1000010) - 2, (up2 M 3 (k1 2))) else (if (lg_cmp (i.toInt64 + (nI kn).toInt64) ((nI u).toInt64)) ≤ 0 then X else ((-1000010) - 2, (up2 M 3 (k1 2))))) = ((-1000010) - 2, (up2 M 3 (k1 2))) := by
                intro X
                by_cases A1 : i < 0
                · rw [if_pos A1]
                · rw [if_neg A1]
                  by_cases A3 : 0 < lg_cmp (i.toInt64 + (nI kn).toInt64) (nI u).toInt64
                  · rw [if_neg (Int32.not_le.mpr A3)]
                  · exact absurd ⟨A1, nI_pos (by omega), A3⟩ hA2
              rw [key, key, key]
              by_cases x0 : x = 0
              · rw [if_pos x0]; exact ⟨rfl, z, o, q, ln, tr, rp_st 2 h⟩
              · rw [if_neg x0]
                by_cases x1 : x = 1
                · rw [if_pos x1]; exact ⟨rfl, z, o, q, ln, tr, rp_st 2 h⟩
                · rw [if_neg x1]; exact ⟨rfl, z, o, q, ln, tr, rp_st 2 h⟩
        · rw [if_neg h6, if_neg h6]; exact ⟨rfl, z, o, q, ln, tr, h⟩
      · rw [if_neg h4]
        unfold inI at h4
        simp only [Bool.and_eq_true, decide_eq_true_eq, not_and] at h4
        by_cases h5 : n < 1
        · rw [if_pos h5]; exact ⟨rfl, z, o, q, ln, tr, h⟩
        · rw [if_neg h5, if_pos (Int32.not_le.mp (h4 (Int32.not_lt.mp h5)))]; exact ⟨rfl, z, o, q, ln, tr, h⟩
    · rw [if_neg h2, if_neg h2]; exact ⟨rfl, z, o, q, ln, tr, h⟩
  · rw [if_neg h1, if_neg h1]; exact ⟨rfl, z, o, q, ln, tr, h⟩
end
