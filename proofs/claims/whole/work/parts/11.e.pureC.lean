/-! ===== the pure part: items, the tape's bytes, images ===== -/
section
variable {S S' : Nat → Nat → Nat → Int32} {M M' : Nat → Nat → Int32} {z o q ln tr : Nat}
theorem rp_item (h : RelP S M z o q ln tr) (j : Nat) (hj : j < 8) (f c : Nat → Int32) (hc : ∀ i k, i ≠ j → k < 40 → c (40 * i + k) = M 2 (40 * i + k)) (hp : ¬ S (j + 8) 1 0 = -1) (hf : ∀ k, k < 40 → f k = c (40 * j + k)) : RelP (up3 (up3 S 0 (up2 (S 0) 9 (k1 0))) (j + 8) (up2 (S (j + 8)) 0 f)) (up2 (up2 M 2 c) 3 (k1 0)) z o q ln tr := by
  rcases row_cases h hj with ⟨e1, -⟩ | ⟨-, -, a, b, d, -⟩
  · exact absurd e1 hp
  · have hr := rp_rowset h j (up2 (S (j + 8)) 0 f) (M 0) (M 1) c (fun _ _ => rfl) (fun _ _ => rfl) hc ⟨(h.2.2.2.2.2.1 j hj).1, Or.inr ⟨a, b, d, hf⟩⟩
    rw [up2_self, up2_self] at hr
    exact hr
theorem rel_set (h : RelP S M z o q ln tr) (r i v : Int32) : (setC S r i v).1 = (setM_ M r i v).1 ∧ Rel (setC S r i v).2 (setM_ M r i v).2 := by
  unfold setC setM_
  rw [bel8]
  by_cases h1 : inI r 0 7 = true
  · rw [if_pos h1, if_pos h1]
    obtain ⟨j, hj, rfl⟩ := inr_ex (m := 7) rfl h1
    rw [ix_nI (show j < 2 ^ 31 by omega)]
    rcases row_cases h (j := j) (by omega) with ⟨e1, e2⟩ | ⟨e1, e2, a, b, c, d⟩
    · rw [if_pos e1, if_neg e2]
      exact ⟨rfl, z, o, q, ln, tr, rp_st 1 h⟩
    · rw [if_neg e1, if_pos e2]
      have hs := (h.2.2.2.2.2.1 j (by omega)).1
      rw [belz hs.1 (by omega), c]
      by_cases h3 : inI i 0 (M 1 j - 1) = true
      · rw [if_pos h3, if_pos h3]
        have hs2 := hs.2
        obtain ⟨i', hi', rfl⟩ := inz_ex (z := (S (j + 8) 2 0).toNatClampNeg) (by rw [← c]; exact hs.1) (by omega) h3
        have hi40 : i' < 40 := by omega
        rw [ix_nI (show i' < 2 ^ 31 by omega)]
        have key : ∀ w : Int32, Rel (up3 (up3 S 0 (up2 (S 0) 9 (k1 0))) (j + 8) (up2 (S (j + 8)) 0 (upd (S (j + 8) 0) i' w))) (up2 (up2 M 2 (upd (M 2) (40 * j + i') w)) 3 (k1 0)) := fun w => ⟨z, o, q, ln, tr, rp_item h j (by omega) _ _ (fun i k hi hk => upd_ne (by omega)) e1 (fun k hk => by
          unfold upd
          by_cases e : k = i'
          · rw [if_pos e, if_pos (by omega)]
          · rw [if_neg e, if_neg (by omega)]
            exact d k hk)⟩
        rcases a with a | a | a
        · rw [if_pos (b.symm.trans a), show nrwS (S (j + 8) 1 0) v = v.toInt8.toInt32 from by rw [a]; rfl]
          exact ⟨rfl, key _⟩
        · rw [if_neg (by rw [← b, a]; decide), if_pos (b.symm.trans a), show nrwS (S (j + 8) 1 0) v = v.toInt16.toInt32 from by rw [a]; rfl]
          exact ⟨rfl, key _⟩
        · rw [if_neg (by rw [← b, a]; decide), if_neg (by rw [← b, a]; decide), show nrwS (S (j + 8) 1 0) v = v from by rw [a]; rfl]
          exact ⟨rfl, key _⟩
      · rw [if_neg h3, if_neg h3]
        exact ⟨rfl, z, o, q, ln, tr, rp_st 2 h⟩
  · rw [if_neg h1, if_neg h1]
    exact ⟨rfl, z, o, q, ln, tr, h⟩
theorem rel_feed (h : RelP S M z o q ln tr) (x : Int32) : (feedC S ln x).1 = (feedM M ln x).1 ∧ Rel (feedC S ln x).2 (feedM M ln x).2 := by
  unfold feedC feedM
  rw [bel256]
  obtain ⟨⟨a1, a2, a3⟩, ⟨b1, b2, b3⟩, ⟨c1, c2, c3, c4, c5⟩, d, f, g, i⟩ := id h
  by_cases h1 : inI x 0 255 = true
  · rw [if_pos h1, if_pos h1, c1, c3]
    by_cases h2 : nI ln = 120
    · rw [if_pos h2, h2, if_neg (by decide)]
      exact ⟨rfl, z, o, q, ln, tr, h⟩
    · have hl : ln < 120 := by
        have : ln ≠ 120 := fun e => h2 (by rw [e]; rfl)
        omega
      rw [if_neg h2, if_pos (show nI ln < 120 from (nI_ltI (b := 120) (by omega) (by omega)).mpr hl)]
      obtain ⟨b, hb, rfl⟩ := inr_ex (m := 255) rfl h1
      have key : RelP (up3 S 1 (up2 (up2 (S 1) 0 (upd (S 1 0) ln (nI b))) 1 (k1 (nI (ln + 1))))) (up2 (up2 M 11 (upd (M 11) ln (nI b))) 12 (k1 (nI (ln + 1)))) z o q (ln + 1) tr := by
        refine ⟨⟨a1, a2, a3⟩, ⟨b1, b2, rHist_congr (S := S) (M := M) rfl rfl rfl b3⟩, ⟨rfl, hl, rfl, fun k hk => ?_, c5⟩, d, f, fun j hj => ?_, fun k hk => ?_⟩
        · show upd (S 1 0) ln (nI b) k = upd (M 11) ln (nI b) k ∧ ∃ b', b' < 256 ∧ upd (S 1 0) ln (nI b) k = nI b'
          unfold upd
          by_cases e : k = ln
          · rw [if_pos e, if_pos e]
            exact ⟨rfl, b, by omega, rfl⟩
          · rw [if_neg e, if_neg e]
            exact c4 k (by omega)
        · exact rRow_same (up3_ne (by omega)) rfl rfl (fun _ _ => rfl) (g j hj)
        · unfold rImg
          rw [up3_ne (by omega)]
          exact i k hk
      exact ⟨rfl, z, o, q, ln + 1, tr, key⟩
  · rw [if_neg h1, if_neg h1]
    exact ⟨rfl, z, o, q, ln, tr, h⟩
theorem tw_in (h : RelP S M z o q ln tr) (a b : Int32) : twB S a b = (inI a 0 (M 4 0 - 1) && inI b 0 (M 4 0 - 1) && !decide (a = b)) := by
  unfold twB
  rw [rp_bel h, rp_bel h]
theorem rel_meet (h : RelP S M z o q ln tr) (a b : Int32) : meetC S a b = (meetM M a b).1 ∧ Rel S (meetM M a b).2 := by
  have hX : meetC S a b = (meetM M a b).1 ∧ (meetM M a b).2 = M := by
    unfold meetC meetM
    rw [tw_in h]
    by_cases h1 : inI a 0 (M 4 0 - 1) = true
    · rw [if_pos h1, h1, Bool.true_and]
      by_cases h2 : inI b 0 (M 4 0 - 1) = true
      · rw [if_pos h2, h2, Bool.true_and]
        by_cases h3 : a = b
        · rw [if_pos h3, decide_eq_true h3]; exact ⟨rfl, rfl⟩
        · rw [if_neg h3, decide_eq_false h3]
          obtain ⟨i, hi, rfl⟩ := rp_ix h h1
          obtain ⟨j, hj, rfl⟩ := rp_ix h h2
          obtain ⟨mn, hmn, e1, e2⟩ := rp_min h
          have hz := h.1.1.2.1
          rw [ix_nI (by omega), ix_nI (by omega), if_pos Bool.not_false]
          refine ⟨?_, rfl⟩
          dsimp only
          refine hdFrom_congr 61 0 (fun d _ hd => ?_)
          rw [e1, e2, nI_add]
          exact near_r h.1.1 h.1.2.2 hi hj (fun e => h3 (by rw [e])) (by omega)
      · rw [if_neg h2]
        rw [Bool.not_eq_true] at h2
        rw [h2]; exact ⟨rfl, rfl⟩
    · rw [if_neg h1]
      rw [Bool.not_eq_true] at h1
      rw [h1]; exact ⟨rfl, rfl⟩
  exact ⟨hX.1, by rw [hX.2]; exact ⟨z, o, q, ln, tr, h⟩⟩
/-- a forest's row taken from another place -/
theorem rF_t {F : Nat → Nat → Int32} {t t' : Nat → Int32} {z : Nat} (e : ∀ k, k < 36 → t' k = t k) (hz : z ≤ 6) (h : rF F t z) : rF F t' z := by
  obtain ⟨h1, h2, h3, h4, h5, h6, h7, h8⟩ := h
  have ev : ∀ h, h < 6 → ∀ k, k < 5 → vw t' k h = vw t k h := fun h hh k hk => vw_eq (fun i hi => e i (by omega)) hk hh
  exact ⟨by rw [e 0 (by omega)]; exact h1, by rw [e 1 (by omega)]; exact h2, by rw [e 2 (by omega)]; exact h3, by rw [e 3 (by omega)]; exact h4, by rw [e 34 (by omega)]; exact h5, by rw [e 35 (by omega)]; exact h6, fun i hi k hk => by rw [ev i (by omega) k hk]; exact h7 i hi k hk, fun i hi => by rw [ev i hi 4 (by omega)]; exact h8 i hi⟩
theorem cp6_at {f g : Nat → Int32} {i : Nat} (h : i < 6) : cp6 f g i = f i := by
  unfold cp6 va_cpy
  rw [if_pos (by omega), show 0 + (i - 0) = i by omega]
theorem tk_k {F P : Nat → Nat → Int32} {k h : Nat} (hk : k < 5) (hh : h < 6) : tkS F P k h = P k h := by
  match k, hk with
  | 0, _ => exact cp6_at hh
  | 1, _ => exact cp6_at hh
  | 2, _ => exact cp6_at hh
  | 3, _ => exact cp6_at hh
  | 4, _ => exact cp6_at hh
theorem okF_tk {F P : Nat → Nat → Int32} {z : Nat} (h : okF P z) : okF (tkS F P) z := by
  obtain ⟨h1, h2, h3, h4, h5, h6, h7, h8, h9⟩ := h
  refine ⟨h1, h2, okW_tk h3, h4, h5, h6, h7, h8, fun i hi => ?_⟩
  unfold okK
  rw [tk_k (k := 0) (by omega) (by omega), tk_k (k := 1) (by omega) (by omega), tk_k (k := 2) (by omega) (by omega), tk_k (k := 3) (by omega) (by omega), tk_k (k := 4) (by omega) (by omega)]
  exact h9 i hi
theorem rF_tk {F P : Nat → Nat → Int32} {t : Nat → Int32} {z : Nat} (hz : z ≤ 6) (h : rF P t z) : rF (tkS F P) t z := by
  obtain ⟨h1, h2, h3, h4, h5, h6, h7, h8⟩ := h
  exact ⟨h1, h2, h3, h4, h5, h6, fun i hi k hk => by rw [tk_k hk (by omega)]; exact h7 i hi k hk, h8⟩
theorem cpy_at {f u : Nat → Int32} {i j n k : Nat} (h : k < n) : va_cpy f u i j n (j + k) = f (i + k) := by
  unfold va_cpy
  rw [if_pos (by omega), show i + (j + k - j) = i + k by omega]
theorem cpy_out {f u : Nat → Int32} {i j n k : Nat} (h : ¬ (j ≤ k ∧ k < j + n)) : va_cpy f u i j n k = u k := by
  unfold va_cpy
  rw [if_neg h]
theorem rel_image (h : RelP S M z o q ln tr) (k : Int32) : (imgC S k).1 = (imgM M k).1 ∧ Rel (imgC S k).2 (imgM M k).2 := by
  unfold imgC imgM
  rw [bel2]
  by_cases h1 : inI k 0 1 = true
  · rw [if_pos h1, if_pos h1]
    obtain ⟨j, hj, rfl⟩ := inr_ex (m := 1) rfl h1
    rw [ix_nI (show j < 2 ^ 31 by omega)]
    by_cases h2 : decide (M 4 3 = 1) = true
    · rw [if_pos h2]
      have hst0 : ¬ S 2 5 0 = 0 := by rw [rp_st1 h]; exact fun z => z h2
      have hst : S 2 5 0 = 1 := by rw [h.1.2.2.2.2.2.1]; exact of_decide_eq_true h2
      have key : RelP (up3 S (j + 4) (tkS (S (j + 4)) (S 2))) (up2 (up2 M 9 (va_cpy (M 4) (M 9) 0 (36 * j) 36)) 10 (upd (M 10) j 1)) z o q ln tr := by
        obtain ⟨a, ⟨b1, b2, b3⟩, c, d, f, g, i⟩ := id h
        have e : ∀ c, c ≠ j + 4 → up3 S (j + 4) (tkS (S (j + 4)) (S 2)) c = S c := fun c hc => up3_ne hc
        refine ⟨by rw [e 2 (by omega), e 3 (by omega)]; exact a, ⟨by rw [e 6 (by omega)]; exact b1, b2, rHist_congr (S := S) (M := M) (e 2 (by omega)) (e 6 (by omega)) rfl b3⟩, by rw [e 1 (by omega)]; exact c, by rw [e 0 (by omega)]; exact d, by rw [e 0 (by omega)]; exact f, fun i hi => rRow_same (e _ (by omega)) rfl rfl (fun _ _ => rfl) (g i hi), fun k hk => ?_⟩
        unfold rImg
        by_cases hjk : k = j
        · subst hjk
          rw [up3_at]
          refine Or.inr ⟨hst, pk_us, z, okF_tk h.1.1, rF_tk h.1.1.2.1 (rF_t (t := M 4) (fun n hn => ?_) h.1.1.2.1 h.1.2.2)⟩
          show va_cpy (M 4) (M 9) 0 (36 * k) 36 (36 * k + n) = M 4 n
          rw [cpy_at hn, Nat.zero_add]
        · rw [e _ (by omega)]
          rcases i k hk with ⟨i1, i2⟩ | ⟨i1, i2, z', i3, i4⟩
          · exact Or.inl ⟨i1, (upd_ne hjk).trans i2⟩
          · refine Or.inr ⟨i1, (upd_ne hjk).trans i2, z', i3, rF_t (fun n hn => ?_) i3.2.1 i4⟩
            show va_cpy (M 4) (M 9) 0 (36 * j) 36 (36 * k + n) = M 9 (36 * k + n)
            exact cpy_out (by omega)
      rcases (by omega : j = 0 ∨ j = 1) with rfl | rfl
      · rw [if_pos (show nI 0 = 0 from rfl), if_neg hst0]
        exact ⟨rfl, z, o, q, ln, tr, key⟩
      · rw [if_neg (show ¬ nI 1 = 0 by decide), if_neg hst0]
        exact ⟨rfl, z, o, q, ln, tr, key⟩
    · have h3 : S 2 5 0 = 0 := by rw [rp_st1 h]; exact h2
      rw [if_neg h2]
      by_cases h4 : nI j = 0
      · rw [if_pos h4, if_pos h3]; exact ⟨rfl, z, o, q, ln, tr, h⟩
      · rw [if_neg h4, if_pos h3]; exact ⟨rfl, z, o, q, ln, tr, h⟩
  · rw [if_neg h1, if_neg h1]
    exact ⟨rfl, z, o, q, ln, tr, h⟩
theorem rel_restore (h : RelP S M z o q ln tr) (k : Int32) : (restC S k).1 = (restM M k).1 ∧ Rel (restC S k).2 (restM M k).2 := by
  unfold restC restM
  rw [bel2]
  by_cases h1 : inI k 0 1 = true
  · rw [if_pos h1, if_pos h1]
    obtain ⟨j, hj, rfl⟩ := inr_ex (m := 1) rfl h1
    rw [ix_nI (show j < 2 ^ 31 by omega)]
    have hsel : ∀ A B : Int32 × (Nat → Nat → Nat → Int32), (if nI j = 0 then A else B) = if j = 0 then A else B := fun A B => by
      rcases (by omega : j = 0 ∨ j = 1) with rfl | rfl <;> rfl
    rw [hsel]
    obtain ⟨a, ⟨b1, b2, b3⟩, c, d, f, g, i⟩ := id h
    have key : ∀ z', okF (S (j + 4)) z' → rF (S (j + 4)) (fun i => M 9 (36 * j + i)) z' → RelP (up3 (up3 S 2 (tkS (S 2) (S (j + 4)))) 6 (up2 (S 6) 5 (k1 0))) (up2 (up2 M 4 (va_cpy (M 9) (M 4) (36 * j) 0 36)) 8 (k1 0)) z' o 0 ln tr := by
      intro z' i3 i4
      have e4 : ∀ c, c ≠ 2 → c ≠ 6 → up3 (up3 S 2 (tkS (S 2) (S (j + 4)))) 6 (up2 (S 6) 5 (k1 0)) c = S c := fun c h1 h2 => (up3_ne h2).trans (up3_ne h1)
      refine ⟨⟨okF_tk i3, a.2.1, rF_tk i3.2.1 (rF_t (fun n hn => ?_) i3.2.1 i4)⟩, ⟨⟨b1.1, b1.2.1, rfl, by omega⟩, rfl, fun n hn => by omega⟩, c, d, f, fun i hi => rRow_same (e4 _ (by omega) (by omega)) rfl rfl (fun _ _ => rfl) (g i hi), fun k hk => ?_⟩
      · show va_cpy (M 9) (M 4) (36 * j) 0 36 n = M 9 (36 * j + n)
        have := cpy_at (f := M 9) (u := M 4) (i := 36 * j) (j := 0) (n := 36) hn
        rw [Nat.zero_add] at this
        exact this
      · unfold rImg
        rw [e4 _ (by omega) (by omega)]
        exact i k hk
    rcases i j (by omega) with ⟨i1, i2⟩ | ⟨i1, i2, z', i3, i4⟩
    · rw [if_pos i2]
      rcases (by omega : j = 0 ∨ j = 1) with rfl | rfl
      · rw [if_pos (rfl : (0 : Nat) = 0), if_pos (show S 4 5 0 = 0 from i1)]; exact ⟨rfl, z, o, q, ln, tr, h⟩
      · rw [if_neg (show ¬ (1 : Nat) = 0 by decide), if_pos (show S 5 5 0 = 0 from i1)]; exact ⟨rfl, z, o, q, ln, tr, h⟩
    · rw [if_neg (show ¬ M 10 j = 0 from fun e => absurd (i2.symm.trans e) (by decide))]
      rcases (by omega : j = 0 ∨ j = 1) with rfl | rfl
      · rw [if_pos (rfl : (0 : Nat) = 0), if_neg (show ¬ S 4 5 0 = 0 from fun e => absurd (i1.symm.trans e) (by decide))]; exact ⟨rfl, z', o, 0, ln, tr, key z' i3 i4⟩
      · rw [if_neg (show ¬ (1 : Nat) = 0 by decide), if_neg (show ¬ S 5 5 0 = 0 from fun e => absurd (i1.symm.trans e) (by decide))]; exact ⟨rfl, z', o, 0, ln, tr, key z' i3 i4⟩
  · rw [if_neg h1, if_neg h1]
    exact ⟨rfl, z, o, q, ln, tr, h⟩
end
