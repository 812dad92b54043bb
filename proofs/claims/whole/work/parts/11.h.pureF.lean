/-! ===== the pure part: the start, count, ask, and what breaks needs ===== -/
theorem rel_start : Rel S00 M00 := by
  refine ⟨0, 0, 0, 0, 0, ⟨⟨rfl, by omega, fun h hh => Or.inr ⟨0, by omega, rfl⟩, Or.inl rfl, ⟨0, by omega, rfl⟩, ⟨0, by omega, rfl⟩, ⟨0, by omega, rfl⟩, ⟨0, by decide, rfl⟩, fun h hh => absurd hh (by omega)⟩, fun h hh => Or.inr ⟨0, by omega, rfl⟩, rfl, rfl, rfl, rfl, rfl, rfl, fun h hh => absurd hh (by omega), fun h hh => ⟨0, by omega, ?_⟩⟩, ⟨⟨rfl, by omega, rfl, by omega⟩, rfl, fun n hn => absurd hn (by omega)⟩, ⟨rfl, by omega, rfl, fun k hk => absurd hk (by omega), rfl⟩, ⟨rfl, by omega, rfl, fun k hk => absurd hk (by omega)⟩, rfl, fun j hj => ?_, fun k hk => ?_⟩
  · rfl
  · rcases (by omega : j = 0 ∨ j = 1 ∨ j = 2 ∨ j = 3 ∨ j = 4 ∨ j = 5 ∨ j = 6 ∨ j = 7) with rfl | rfl | rfl | rfl | rfl | rfl | rfl | rfl <;> exact ⟨⟨rfl, by decide⟩, Or.inl ⟨rfl, rfl⟩⟩
  · rcases (by omega : k = 0 ∨ k = 1) with rfl | rfl <;> exact Or.inl ⟨rfl, rfl⟩
theorem bc_6 {c : Nat} (hc : c < 64) : bcS (nI c) = 0 + (if hasS (nI c) (nI 0) = true then 1 else 0) + (if hasS (nI c) (nI 1) = true then 1 else 0) + (if hasS (nI c) (nI 2) = true then 1 else 0) + (if hasS (nI c) (nI 3) = true then 1 else 0) + (if hasS (nI c) (nI 4) = true then 1 else 0) + (if hasS (nI c) (nI 5) = true then 1 else 0) := by
  have : ∀ c, c < 64 → bcS (nI c) = 0 + (if hasS (nI c) (nI 0) = true then 1 else 0) + (if hasS (nI c) (nI 1) = true then 1 else 0) + (if hasS (nI c) (nI 2) = true then 1 else 0) + (if hasS (nI c) (nI 3) = true then 1 else 0) + (if hasS (nI c) (nI 4) = true then 1 else 0) + (if hasS (nI c) (nI 5) = true then 1 else 0) := by decide +kernel
  exact this c hc
section
variable {S S' : Nat → Nat → Nat → Int32} {M M' : Nat → Nat → Int32} {z o q ln tr : Nat}
theorem rp_cut (h : RelP S M z o q ln tr) : ∃ c, c < 2 ^ z ∧ c < 64 ∧ S 2 10 0 = nI c ∧ M 4 34 = nI c := by
  obtain ⟨c, hc, e⟩ := h.1.1.2.2.2.2.2.2.2.1
  have := p2_64 h.1.1.2.1
  exact ⟨c, hc, by omega, e, by rw [← h.1.2.2.2.2.2.2.1]; exact e⟩
theorem cnt_eq (h : RelP S M z o q ln tr) : ∀ k, k ≤ 8 → cntS S k = cntM M k
  | 0, _ => rfl
  | k + 1, hk => by
    unfold cntS cntM
    rw [cnt_eq h k (by omega)]
    rcases row_cases h (j := k) (by omega) with ⟨e1, e2⟩ | ⟨e1, e2, -⟩
    · rw [if_pos e1, if_neg e2, Int32.add_zero]
    · rw [if_neg e1, if_pos e2]
theorem rel_count (h : RelP S M z o q ln tr) (x : Int32) : (countC S x).1 = (countM M x).1 ∧ Rel (countC S x).2 (countM M x).2 := by
  have hX : (countC S x).1 = (countM M x).1 ∧ (countC S x).2 = S ∧ (countM M x).2 = M := by
    unfold countC countM
    by_cases w0 : x = 0
    · rw [if_pos w0, if_pos w0]; exact ⟨cnt_eq h 8 (by omega), rfl, rfl⟩
    rw [if_neg w0, if_neg w0]
    by_cases w1 : x = 1
    · rw [if_pos w1, if_pos w1]; exact ⟨h.1.2.2.1, rfl, rfl⟩
    rw [if_neg w1, if_neg w1]
    by_cases w2 : x = 2
    · rw [if_pos w2, if_pos w2]; exact ⟨h.1.2.2.2.2.2.2.2.1, rfl, rfl⟩
    rw [if_neg w2, if_neg w2]
    by_cases w3 : x = 3
    · rw [if_pos w3, if_pos w3]; exact ⟨h.1.2.2.2.1, rfl, rfl⟩
    rw [if_neg w3, if_neg w3]
    by_cases w4 : x = 4
    · rw [if_pos w4, if_pos w4]; exact ⟨h.1.2.2.2.2.1, rfl, rfl⟩
    rw [if_neg w4, if_neg w4]
    by_cases w5 : x = 5
    · rw [if_pos w5, if_pos w5]
      obtain ⟨c, -, h64, e1, e2⟩ := rp_cut h
      refine ⟨?_, rfl, rfl⟩
      dsimp only
      rw [e1, bc_6 h64]
      simp only [crdM, e2]
    rw [if_neg w5, if_neg w5]
    by_cases w6 : x = 6
    · rw [if_pos w6, if_pos w6]; exact ⟨h.2.1.1.2.2.1.trans h.2.1.2.1.symm, rfl, rfl⟩
    rw [if_neg w6, if_neg w6]
    by_cases w7 : x = 7
    · rw [if_pos w7, if_pos w7]; exact ⟨h.2.2.1.1.trans h.2.2.1.2.2.1.symm, rfl, rfl⟩
    rw [if_neg w7, if_neg w7]
    exact ⟨rfl, rfl, rfl⟩
  exact ⟨hX.1, by rw [hX.2.1, hX.2.2]; exact ⟨z, o, q, ln, tr, h⟩⟩
theorem rp_tr (h : RelP S M z o q ln tr) {n : Nat} (hn : n ≤ 16) (e : ∀ c, c ≠ 0 → S' c = S c) (e9 : S' 0 9 = S 0 9) (e8 : S' 0 8 0 = nI n) (m15 : M' 15 0 = nI n) (e7 : ∀ k, k < n → S' 0 7 k = M' 14 k) (m : ∀ k, k ≠ 14 → k ≠ 15 → M' k = M k) : RelP S' M' z o q ln n := by
  obtain ⟨⟨a1, a2, a3⟩, ⟨b1, b2, b3⟩, ⟨c1, c2, c3, c4, c5⟩, d, f, g, i⟩ := h
  refine ⟨by rw [e 2 (by omega), e 3 (by omega), m 4 (by omega) (by omega)]; exact ⟨a1, a2, a3⟩, ⟨by rw [e 6 (by omega)]; exact b1, by rw [m 8 (by omega) (by omega)]; exact b2, rHist_congr (S := S) (M := M) (e 2 (by omega)) (e 6 (by omega)) (m 7 (by omega) (by omega)) b3⟩, by rw [e 1 (by omega), m 11 (by omega) (by omega), m 12 (by omega) (by omega), m 13 (by omega) (by omega)]; exact ⟨c1, c2, c3, c4, c5⟩, ⟨e8, hn, m15, e7⟩, by rw [e9, m 3 (by omega) (by omega)]; exact f, fun j hj => rRow_same (e _ (by omega)) (by rw [m 0 (by omega) (by omega)]) (by rw [m 1 (by omega) (by omega)]) (fun k _ => by rw [m 2 (by omega) (by omega)]) (g j hj), fun k hk => ?_⟩
  unfold rImg
  rw [e _ (by omega), m 9 (by omega) (by omega), m 10 (by omega) (by omega)]
  exact i k hk
theorem tr1_ne {q : Nat} {n : Int32} {c : Nat} (h : c ≠ 0) : tr1 S q n c = S c := up3_ne h
theorem markM_2 {X : Nat → Nat → Int32} {q t : Nat} (h : X 4 (4 + t) = 2) : markM X q t = (2 * ((nI t) + (dipS (vw (X 4)) t (X 4 35))), (up2 (up2 X 14 (upd (upd (upd (X 14) (q) 24) (q + 1) 21) (q + 1 + 1) 20)) 15 (k1 (nI (q + 1 + 1 + 1))))) := by
  unfold markM
  rw [if_pos h]
theorem markM_3 {X : Nat → Nat → Int32} {q t : Nat} (h : X 4 (4 + t) = 3) : markM X q t = (((nI t) + (dipS (vw (X 4)) t (X 4 35))) - 1000, (up2 (up2 X 14 (upd (upd (upd (X 14) (q) 22) (q + 1) 21) (q + 1 + 1) 20)) 15 (k1 (nI (q + 1 + 1 + 1))))) := by
  unfold markM
  rw [if_neg (by rw [h]; decide), if_pos h]
theorem markM_1 {X : Nat → Nat → Int32} {q t : Nat} (h : X 4 (4 + t) = 1) : markM X q t = ((nI t) + (dipS (vw (X 4)) t (X 4 35)), (up2 (up2 X 14 (upd (upd (X 14) (q) 21) (q + 1) 20)) 15 (k1 (nI (q + 1 + 1))))) := by
  unfold markM
  rw [if_neg (by rw [h]; decide), if_neg (by rw [h]; decide)]
theorem sizeM_5 {X : Nat → Nat → Int32} {q t : Nat} (h : X 4 (4 + t) = 5) : sizeM X q t = (2 * ((X 4 (22 + t)) - 100), (up2 (up2 X 14 (upd (upd (upd (X 14) (q) 14) (q + 1) 13) (q + 1 + 1) 10)) 15 (k1 (nI (q + 1 + 1 + 1))))) := by
  unfold sizeM
  rw [if_pos h]
theorem sizeM_4 {X : Nat → Nat → Int32} {q t : Nat} (h : X 4 (4 + t) = 4) : sizeM X q t = ((X 4 (22 + t)) - 100, (up2 (up2 X 14 (upd (upd (X 14) (q) 13) (q + 1) 10)) 15 (k1 (nI (q + 1 + 1))))) := by
  unfold sizeM
  rw [if_neg (by rw [h]; decide)]
theorem rel_ask (h : RelP S M z o q ln tr) (x y : Int32) : (askC S x y).1 = (askM M x y).1 ∧ Rel (askC S x y).2 (askM M x y).2 := by
  unfold askC askM
  rw [rp_bel h, bel2]
  by_cases h1 : inI x 0 (M 4 0 - 1) = true
  · rw [if_pos h1, if_pos h1]
    by_cases h2 : inI y 0 1 = true
    · rw [if_pos h2, if_pos h2]
      obtain ⟨j, hj, rfl⟩ := rp_ix h h1
      have hz := h.1.1.2.1
      rw [ix_nI (show j < 2 ^ 31 by omega)]
      have dw : S 2 3 j = M 4 (22 + j) := rF_k h.1.2.2 hj (k := 3) (by omega)
      have dd : dipS (S 2) j (S 2 8 0) = dipS (vw (M 4)) j (M 4 35) := by rw [dipS_r h.1.2.2 hj, h.1.2.2.2.2.2.2.2.1]
      have dk : S 2 0 j = M 4 (4 + j) := rF_k h.1.2.2 hj (k := 0) (by omega)
      obtain ⟨u, hu, rfl⟩ := inr_ex (m := 1) rfl h2
      rcases (by omega : u = 0 ∨ u = 1) with rfl | rfl
      · rw [if_pos (show nI 0 = 0 from rfl)]
        rcases rp_k h j hj with e | e | e | e | e
        · have hk : M 4 (4 + j) = 1 := dk.symm.trans e
          rw [if_pos e, if_neg (show ¬ 4 ≤ M 4 (4 + j) by rw [hk]; decide), if_neg (show ¬ nI 0 = 1 by decide), if_neg (show ¬ M 4 (4 + j) = 2 by rw [hk]; decide), markM_1]
          · exact ⟨by show S 2 3 j + (nI j + dipS (S 2) j (S 2 8 0)) = M 4 (22 + j) + (nI j + dipS (vw (M 4)) j (M 4 35)); rw [dw, dd], z, o, q, ln, 4, rp_tr h (n := 4) (by omega) (fun c hc => by dsimp only; (repeat rw [tr1_ne hc]); exact up3_ne hc) rfl rfl rfl (fun k hk => by rcases (by omega : k = 0 ∨ k = 1 ∨ k = 2 ∨ k = 3) with rfl | rfl | rfl | rfl <;> rfl) (fun k h1 h2 => by dsimp only; repeat (first | rw [up2_ne h2] | rw [up2_ne h1]))⟩
          · exact hk
        · have hk : M 4 (4 + j) = 2 := dk.symm.trans e
          rw [if_neg (show ¬ S 2 0 j = 1 by rw [e]; decide), if_pos e, if_neg (show ¬ 4 ≤ M 4 (4 + j) by rw [hk]; decide), if_neg (show ¬ nI 0 = 1 by decide), if_pos hk, markM_2]
          · exact ⟨by show 0 - (S 2 3 j + 2 * (nI j + dipS (S 2) j (S 2 8 0))) = -(M 4 (22 + j) + 2 * (nI j + dipS (vw (M 4)) j (M 4 35))); rw [dw, dd, Int32.zero_sub], z, o, q, ln, 6, rp_tr h (n := 6) (by omega) (fun c hc => by dsimp only; (repeat rw [tr1_ne hc]); exact up3_ne hc) rfl rfl rfl (fun k hk => by rcases (by omega : k = 0 ∨ k = 1 ∨ k = 2 ∨ k = 3 ∨ k = 4 ∨ k = 5) with rfl | rfl | rfl | rfl | rfl | rfl <;> rfl) (fun k h1 h2 => by dsimp only; repeat (first | rw [up2_ne h2] | rw [up2_ne h1]))⟩
          · exact hk
        · have hk : M 4 (4 + j) = 3 := dk.symm.trans e
          rw [if_neg (show ¬ S 2 0 j = 1 by rw [e]; decide), if_neg (show ¬ S 2 0 j = 2 by rw [e]; decide), if_pos e, if_neg (show ¬ 4 ≤ M 4 (4 + j) by rw [hk]; decide), if_neg (show ¬ nI 0 = 1 by decide), if_neg (show ¬ M 4 (4 + j) = 2 by rw [hk]; decide), markM_3]
          · exact ⟨by show S 2 3 j + ((nI j + dipS (S 2) j (S 2 8 0)) - 1000) = M 4 (22 + j) + ((nI j + dipS (vw (M 4)) j (M 4 35)) - 1000); rw [dw, dd], z, o, q, ln, 5, rp_tr h (n := 5) (by omega) (fun c hc => by dsimp only; (repeat rw [tr1_ne hc]); exact up3_ne hc) rfl rfl rfl (fun k hk => by rcases (by omega : k = 0 ∨ k = 1 ∨ k = 2 ∨ k = 3 ∨ k = 4) with rfl | rfl | rfl | rfl | rfl <;> rfl) (fun k h1 h2 => by dsimp only; repeat (first | rw [up2_ne h2] | rw [up2_ne h1]))⟩
          · exact hk
        · have hk : M 4 (4 + j) = 4 := dk.symm.trans e
          rw [if_neg (show ¬ S 2 0 j = 1 by rw [e]; decide), if_neg (show ¬ S 2 0 j = 2 by rw [e]; decide), if_neg (show ¬ S 2 0 j = 3 by rw [e]; decide), if_pos e, if_pos (show 4 ≤ M 4 (4 + j) by rw [hk]; decide), if_pos (show nI 0 = 0 from rfl), sizeM_4]
          · exact ⟨by show S 2 3 j - 100 = M 4 (22 + j) - 100; rw [dw], z, o, q, ln, 2, rp_tr h (n := 2) (by omega) (fun c hc => by dsimp only; (repeat rw [tr1_ne hc]); exact up3_ne hc) rfl rfl rfl (fun k hk => by rcases (by omega : k = 0 ∨ k = 1) with rfl | rfl <;> rfl) (fun k h1 h2 => by dsimp only; repeat (first | rw [up2_ne h2] | rw [up2_ne h1]))⟩
          · exact hk
        · have hk : M 4 (4 + j) = 5 := dk.symm.trans e
          rw [if_neg (show ¬ S 2 0 j = 1 by rw [e]; decide), if_neg (show ¬ S 2 0 j = 2 by rw [e]; decide), if_neg (show ¬ S 2 0 j = 3 by rw [e]; decide), if_neg (show ¬ S 2 0 j = 4 by rw [e]; decide), if_pos (show 4 ≤ M 4 (4 + j) by rw [hk]; decide), if_pos (show nI 0 = 0 from rfl), sizeM_5]
          · exact ⟨by show 2 * (S 2 3 j - 100) = 2 * (M 4 (22 + j) - 100); rw [dw], z, o, q, ln, 3, rp_tr h (n := 3) (by omega) (fun c hc => by dsimp only; (repeat rw [tr1_ne hc]); exact up3_ne hc) rfl rfl rfl (fun k hk => by rcases (by omega : k = 0 ∨ k = 1 ∨ k = 2) with rfl | rfl | rfl <;> rfl) (fun k h1 h2 => by dsimp only; repeat (first | rw [up2_ne h2] | rw [up2_ne h1]))⟩
          · exact hk
      · rw [if_neg (show ¬ nI 1 = 0 by decide)]
        rcases rp_k h j hj with e | e | e | e | e
        · have hk : M 4 (4 + j) = 1 := dk.symm.trans e
          rw [if_pos e, if_neg (show ¬ 4 ≤ M 4 (4 + j) by rw [hk]; decide), if_pos (show nI 1 = 1 from rfl), markM_1]
          · exact ⟨by show (nI j + dipS (S 2) j (S 2 8 0)) = (nI j + dipS (vw (M 4)) j (M 4 35)); rw [dd], z, o, q, ln, 2, rp_tr h (n := 2) (by omega) (fun c hc => by dsimp only; (repeat rw [tr1_ne hc]); exact up3_ne hc) rfl rfl rfl (fun k hk => by rcases (by omega : k = 0 ∨ k = 1) with rfl | rfl <;> rfl) (fun k h1 h2 => by dsimp only; repeat (first | rw [up2_ne h2] | rw [up2_ne h1]))⟩
          · exact hk
        · have hk : M 4 (4 + j) = 2 := dk.symm.trans e
          rw [if_neg (show ¬ S 2 0 j = 1 by rw [e]; decide), if_pos e, if_neg (show ¬ 4 ≤ M 4 (4 + j) by rw [hk]; decide), if_pos (show nI 1 = 1 from rfl), markM_2]
          · exact ⟨by show 2 * (nI j + dipS (S 2) j (S 2 8 0)) = 2 * (nI j + dipS (vw (M 4)) j (M 4 35)); rw [dd], z, o, q, ln, 3, rp_tr h (n := 3) (by omega) (fun c hc => by dsimp only; (repeat rw [tr1_ne hc]); exact up3_ne hc) rfl rfl rfl (fun k hk => by rcases (by omega : k = 0 ∨ k = 1 ∨ k = 2) with rfl | rfl | rfl <;> rfl) (fun k h1 h2 => by dsimp only; repeat (first | rw [up2_ne h2] | rw [up2_ne h1]))⟩
          · exact hk
        · have hk : M 4 (4 + j) = 3 := dk.symm.trans e
          rw [if_neg (show ¬ S 2 0 j = 1 by rw [e]; decide), if_neg (show ¬ S 2 0 j = 2 by rw [e]; decide), if_pos e, if_neg (show ¬ 4 ≤ M 4 (4 + j) by rw [hk]; decide), if_pos (show nI 1 = 1 from rfl), markM_3]
          · exact ⟨by show (nI j + dipS (S 2) j (S 2 8 0)) - 1000 = (nI j + dipS (vw (M 4)) j (M 4 35)) - 1000; rw [dd], z, o, q, ln, 3, rp_tr h (n := 3) (by omega) (fun c hc => by dsimp only; (repeat rw [tr1_ne hc]); exact up3_ne hc) rfl rfl rfl (fun k hk => by rcases (by omega : k = 0 ∨ k = 1 ∨ k = 2) with rfl | rfl | rfl <;> rfl) (fun k h1 h2 => by dsimp only; repeat (first | rw [up2_ne h2] | rw [up2_ne h1]))⟩
          · exact hk
        · have hk : M 4 (4 + j) = 4 := dk.symm.trans e
          rw [if_neg (show ¬ S 2 0 j = 1 by rw [e]; decide), if_neg (show ¬ S 2 0 j = 2 by rw [e]; decide), if_neg (show ¬ S 2 0 j = 3 by rw [e]; decide), if_pos e, if_pos (show 4 ≤ M 4 (4 + j) by rw [hk]; decide), if_neg (show ¬ nI 1 = 0 by decide), sizeM_4]
          · exact ⟨by show nI j - (S 2 3 j - 100) = nI j - (M 4 (22 + j) - 100); rw [dw], z, o, q, ln, 4, rp_tr h (n := 4) (by omega) (fun c hc => by dsimp only; (repeat rw [tr1_ne hc]); exact up3_ne hc) rfl rfl rfl (fun k hk => by rcases (by omega : k = 0 ∨ k = 1 ∨ k = 2 ∨ k = 3) with rfl | rfl | rfl | rfl <;> rfl) (fun k h1 h2 => by dsimp only; repeat (first | rw [up2_ne h2] | rw [up2_ne h1]))⟩
          · exact hk
        · have hk : M 4 (4 + j) = 5 := dk.symm.trans e
          rw [if_neg (show ¬ S 2 0 j = 1 by rw [e]; decide), if_neg (show ¬ S 2 0 j = 2 by rw [e]; decide), if_neg (show ¬ S 2 0 j = 3 by rw [e]; decide), if_neg (show ¬ S 2 0 j = 4 by rw [e]; decide), if_pos (show 4 ≤ M 4 (4 + j) by rw [hk]; decide), if_neg (show ¬ nI 1 = 0 by decide), sizeM_5]
          · exact ⟨by show nI j - (2 * (S 2 3 j - 100)) = nI j - (2 * (M 4 (22 + j) - 100)); rw [dw], z, o, q, ln, 5, rp_tr h (n := 5) (by omega) (fun c hc => by dsimp only; (repeat rw [tr1_ne hc]); exact up3_ne hc) rfl rfl rfl (fun k hk => by rcases (by omega : k = 0 ∨ k = 1 ∨ k = 2 ∨ k = 3 ∨ k = 4) with rfl | rfl | rfl | rfl | rfl <;> rfl) (fun k h1 h2 => by dsimp only; repeat (first | rw [up2_ne h2] | rw [up2_ne h1]))⟩
          · exact hk
    · rw [if_neg h2, if_neg h2]; exact ⟨rfl, z, o, q, ln, tr, h⟩
  · rw [if_neg h1, if_neg h1]
    exact ⟨rfl, z, o, q, ln, tr, h⟩

theorem bel_n (M : Nat → Nat → Int32) : ∀ k, k ≤ 6 → ∃ v : Nat, 1 ≤ v ∧ v ≤ 10 ^ k ∧ (belM M k).toInt = v
  | 0, _ => ⟨1, by omega, by omega, rfl⟩
  | k + 1, hk => by
    obtain ⟨v, h1, h2, h3⟩ := bel_n M k (by omega)
    have h6 : 10 ^ k ≤ 10 ^ 5 := Nat.pow_le_pow_right (by omega) (by omega)
    have h7 : 10 ^ (k + 1) = 10 ^ k * 10 := rfl
    unfold belM
    by_cases hc : hasS (M 4 34) (nI k) = true
    · rw [if_pos hc]
      refine ⟨v, h1, by omega, ?_⟩
      rw [Int64.mul_one]
      exact h3
    · rw [if_neg hc]
      refine ⟨v * 10, by omega, by omega, ?_⟩
      rw [Int64.toInt_mul, h3, show (10 : Int64).toInt = 10 from rfl, Int.bmod_eq_of_le (by omega) (by omega)]
      omega
theorem rel_bel (h : RelP S M z o q ln tr) : 0 < (belM M z).toInt := by
  obtain ⟨v, h1, -, h3⟩ := bel_n M z h.1.1.2.1
  omega
theorem wy_n (M : Nat → Nat → Int32) (st : Int32) {c : Nat} (hc : c ≤ 10) : ∀ k, k ≤ 6 → ∃ v : Nat, v ≤ 10 ^ k ∧ (wyM M st (nI c) k).toInt = v
  | 0, _ => ⟨1, by omega, rfl⟩
  | k + 1, hk => by
    obtain ⟨v, h2, h3⟩ := wy_n M st hc k (by omega)
    have h6 : 10 ^ k ≤ 10 ^ 5 := Nat.pow_le_pow_right (by omega) (by omega)
    have h7 : 10 ^ (k + 1) = 10 ^ k * 10 := rfl
    have hv : v ≤ 100000 := by omega
    have key : ∀ w : Nat, w ≤ 10 → ∀ y : Int64, y.toInt = w → ∃ v' : Nat, v' ≤ 10 ^ (k + 1) ∧ (wyM M st (nI c) k * y).toInt = v' := by
      intro w hw y hy
      have hb : v * w ≤ v * 10 := Nat.mul_le_mul_left v hw
      refine ⟨v * w, by omega, ?_⟩
      rw [Int64.toInt_mul, h3, hy, ← Int.natCast_mul, Int.bmod_eq_of_le (by omega) (by omega)]
    unfold wyM
    by_cases h1 : hasS (M 4 34) (nI k) = true
    · rw [if_pos h1]
      exact key 1 (by omega) 1 rfl
    · rw [if_neg h1]
      by_cases h5 : hasS st (nI k) = true
      · rw [if_pos h5]
        exact key c hc _ (by rw [Int32.toInt_toInt64, nI_toInt (by omega)])
      · rw [if_neg h5]
        exact key (10 - c) (by omega) _ (by rw [Int32.toInt_toInt64, show (10 : Int32) = nI 10 from rfl, pk_sub hc, nI_toInt (by omega)])
theorem br_n (M : Nat → Nat → Int32) (ia ib jd : Nat) {z c : Nat} (hz : z ≤ 6) (hc : c ≤ 10) (W : Nat) (hW : W = 10 ^ 6) : ∀ k, k ≤ 64 → ∃ v : Nat, v ≤ k * W ∧ (brM M z ia ib jd (nI c) k).toInt = v
  | 0, _ => ⟨0, Nat.zero_le _, rfl⟩
  | k + 1, hk => by
    obtain ⟨v, h2, h3⟩ := br_n M ia ib jd hz hc W hW k (by omega)
    have hs : k * W ≤ (k + 1) * W := Nat.mul_le_mul_right _ (Nat.le_succ k)
    have hb : k * W ≤ 64 * W := Nat.mul_le_mul_right _ (by omega)
    have hm : k * W + W = (k + 1) * W := (Nat.succ_mul k W).symm
    have hW' : W ≤ 1000000 := Nat.le_of_eq (hW.trans (by decide))
    generalize (k + 1) * W = B' at hs hm ⊢
    generalize k * W = B at h2 hs hb hm
    unfold brM
    by_cases h1 : nI k &&& M 4 34 = 0
    · rw [if_pos h1]
      by_cases h5 : nI jd < soonT (vw (bAT M (k + 1))) z (nI ia) (nI ib)
      · rw [if_pos h5]
        exact ⟨v, by omega, by rw [Int64.add_zero]; exact h3⟩
      · rw [if_neg h5]
        obtain ⟨w, hw, h6⟩ := wy_n M (nI k) hc z hz
        have h8 : w ≤ W := by rw [hW]; exact Nat.le_trans hw (Nat.pow_le_pow_right (by omega) hz)
        clear hw hW
        refine ⟨v + w, by omega, ?_⟩
        rw [Int64.toInt_add, h3, h6, Int.bmod_eq_of_le (by omega) (by omega)]
        omega
    · rw [if_neg h1]
      exact ⟨v, by omega, h3⟩
theorem in10 {c : Int32} (h : inI c 0 10 = true) : ∃ c', c' ≤ 10 ∧ c = nI c' := inr_ex (m := 10) rfl h
theorem rel_br (h : RelP S M z o q ln tr) : ∀ ia ib jd, ia < z → ib < z → jd ≤ 60 → ∀ c, inI c 0 10 = true → 0 ≤ (brM M z ia ib jd c (2 ^ z)).toInt := by
  intro ia ib jd _ _ _ c hc
  obtain ⟨c', hc', rfl⟩ := in10 hc
  obtain ⟨v, -, h3⟩ := br_n M ia ib jd h.1.1.2.1 hc' _ rfl (2 ^ z) (p2_64 h.1.1.2.1)
  omega
end
theorem rl_5 {b : Nat → Int32} {ln p : Nat} {ft : Int32} {F : Nat → Nat → Int32} : (rlS b ln p ft F).2.2.2 5 = F 5 := by
  rw [rlS_eq]
  unfold rlS0
  split <;> (try split) <;> (try split) <;> (try split) <;> (try split) <;> rfl
theorem r2_5 {b : Nat → Int32} {ln p h ka kb : Nat} {ft la ma mb sg : Int32} {lb : Int32 → Int32} {F : Nat → Nat → Int32} (ha : ka = 1 ∨ ka = 3) (hb : kb = 2 ∨ kb = 4) : (r2S b ln p ft F h ka kb la ma lb mb sg).2.2.2 5 = F 5 := by
  unfold r2S
  rcases ha with rfl | rfl <;> rcases hb with rfl | rfl <;> (split <;> (try split) <;> (try split) <;> (try split) <;> rfl)
theorem rh_5 {b : Nat → Int32} {ln p h : Nat} {ft : Int32} {F : Nat → Nat → Int32} : (rhS b ln p ft F h).2.2.2 5 = F 5 := by
  rw [rhS_eq]
  unfold rhS0
  split
  · rfl
  · split
    · split
      · rw [rdS_eq, rdS0, r2_5 (Or.inr rfl) (Or.inr rfl), rtS_eq, rtS0, r2_5 (Or.inl rfl) (Or.inl rfl)]; rfl
      · rw [rtS_eq, rtS0, r2_5 (Or.inl rfl) (Or.inl rfl)]; rfl
    · rfl
theorem riL_5 {b : Nat → Int32} {ln : Nat} : ∀ (n i p : Nat) (ft : Int32) (F : Nat → Nat → Int32), (riL b ln n i p ft F).2.2.2 5 = F 5
  | 0, _, _, _, _ => rfl
  | n + 1, i, p, ft, F => by
    unfold riL
    split
    · split
      · rw [riL_5 n, rh_5]
      · exact rh_5
    · rfl
theorem ri_5 (b : Nat → Int32) (ln p : Nat) (ft : Int32) (F : Nat → Nat → Int32) : (riS b ln p ft F).2.2.2 5 0 = 0 ∨ (riS b ln p ft F).2.2.2 5 0 = 1 := by
  right
  rw [riS_eq]
  unfold riS0
  split
  · rw [riL_5, rl_5]; rfl
  · rw [rl_5]; rfl

