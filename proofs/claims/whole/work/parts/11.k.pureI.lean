/-! ===== the pure part: stops ===== -/
theorem cut_nr {G G' : Nat → Nat → Int32} {z : Nat} {bar : Int32} (hz : z ≤ 6) (hk : ∀ k, k < 5 → ∀ h, h < z → G' k h = G k h) (h6 : G' 6 0 = G 6 0) (h7 : G' 7 0 = G 7 0) (h10 : G' 10 0 = G 10 0 ||| bar) : ∀ i, i < z → ∀ e, e < z → ∀ m, nrM G' i e m = (nrM G i e m && (!hasS bar (nI i) && !hasS bar (nI e))) := by
  have hd : ∀ i, i < z → ∀ m, downS G' i m = (downS G i m || hasS bar (nI i)) := by
    intro i hi m
    unfold downS dipS
    rw [cut_has, cut_has, h10, has_or _ _ (by omega), hk 0 (by omega) i hi, hk 1 (by omega) i hi, hk 2 (by omega) i hi, hk 3 (by omega) i hi, h6]
    rw [Bool.or_assoc, Bool.or_assoc, Bool.or_comm (hasS bar (nI i))]
  have hp : ∀ i, i < z → ∀ m, plS G' i m = plS G i m := by
    intro i hi m
    unfold plS offS
    rw [hk 0 (by omega) i hi, hk 1 (by omega) i hi, hk 2 (by omega) i hi, hk 4 (by omega) i hi]
  intro i hi e he m
  unfold nrM
  rw [hd i hi, hd e he, hp i hi, hp e he, h7]
  generalize decide (i = e) = x1
  generalize downS G i m = x2
  generalize hasS bar (nI i) = x3
  generalize downS G e m = x4
  generalize hasS bar (nI e) = x5
  generalize (!decide (2 * G 7 0 < plS G i m - plS G e m) && !decide (2 * G 7 0 < -(plS G i m - plS G e m))) = x6
  cases x1 <;> cases x2 <;> cases x3 <;> cases x4 <;> cases x5 <;> cases x6 <;> rfl
/-- two rows of words alike, but for the cut cords -/
theorem vw_cut {t t' : Nat → Int32} {bar : Int32} (h : ∀ k, k < 36 → k ≠ 34 → t' k = t k) (h34 : t' 34 = t 34 ||| bar) {z : Nat} (hz : z ≤ 6) : vw t' 8 0 = vw t 8 0 ∧ ∀ i, i < z → ∀ e, e < z → ∀ m, nrM (vw t') i e m = (nrM (vw t) i e m && (!hasS bar (nI i) && !hasS bar (nI e))) := by
  refine ⟨h 35 (by omega) (by omega), cut_nr hz (fun k hk i hi => ?_) (h 1 (by omega) (by omega)) (h 2 (by omega) (by omega)) h34⟩
  match k, hk with
  | 0, _ => exact h (4 + i) (by omega) (by omega)
  | 1, _ => exact h (10 + i) (by omega) (by omega)
  | 2, _ => exact h (16 + i) (by omega) (by omega)
  | 3, _ => exact h (22 + i) (by omega) (by omega)
  | 4, _ => exact h (28 + i) (by omega) (by omega)
section
variable {S S' : Nat → Nat → Nat → Int32} {M M' : Nat → Nat → Int32} {z o q ln tr : Nat}
theorem rp_76 (O : Nat → Nat → Int32) (A : Nat → Int32) (h : RelP S M z o q ln tr) : RelP (up3 S 7 O) (up2 M 6 A) z o q ln tr :=
  rp_q h rfl rfl rfl rfl h.1.2.1 rfl (fun k hk => up3_ne (by omega)) (fun j hj => up3_ne (by omega)) rfl rfl rfl rfl rfl rfl rfl rfl rfl rfl rfl rfl rfl
theorem stA_34I (M : Nat → Nat → Int32) (c : Nat) : stAT M (c + 1) 34 = M 4 34 ||| (1 <<< (nI c &&& 31)) := by
  rw [stAT_eq]
  exact pk_us
theorem rel_stops (h : RelP S M z o q ln tr) (a b d : Int32) : (stopsC S z a b d).1 = (stopsM M z a b d).1 ∧ Rel ((stopsC S z a b d).2) ((stopsM M z a b d).2) := by
  unfold stopsC stopsM
  rw [tw_in h, ah60]
  by_cases h1 : inI a 0 (M 4 0 - 1) = true
  · rw [if_pos h1, h1, Bool.true_and]
    by_cases h2 : inI b 0 (M 4 0 - 1) = true
    · rw [if_pos h2, h2, Bool.true_and]
      by_cases h3 : a = b
      · rw [if_pos h3, decide_eq_true h3]; exact ⟨rfl, z, o, q, ln, tr, h⟩
      · rw [if_neg h3, decide_eq_false h3, if_pos Bool.not_false]
        by_cases h4 : inI d 0 60 = true
        · rw [if_pos h4, if_pos h4]
          obtain ⟨i, hi, rfl⟩ := rp_ix h h1
          obtain ⟨j, hj, rfl⟩ := rp_ix h h2
          obtain ⟨k, hk, rfl⟩ := sp_ex h4
          have hz := h.1.1.2.1
          rw [ix_nI (show i < 2 ^ 31 by omega), ix_nI (show j < 2 ^ 31 by omega), ix_nI (show k < 2 ^ 31 by omega)]
          have hT := fr_ok (S 7) (S 2) hz k
          rcases arr_r (bar := 0) (ia := i) (ib := j) h.1.1 h.1.2.2 hT hk rfl (bar0 hz) with ⟨u, g1, g2, g3⟩ | ⟨g2, g3⟩
          · rw [g2, g3, if_neg (nI_nn (by omega)), if_pos ((nI_leI (by omega) (by omega)).mpr g1)]
            refine ⟨?_, z, o, q, ln, tr, rp_76 _ _ h⟩
            dsimp only
            unfold stP
            refine bitsS_congr z (fun c hc => ?_)
            have hv := vw_cut (t := M 4) (t' := stAT M (c + 1)) (fun k h1 h2 => stA_k h1 h2) (stA_34I M c) hz
            have key : decide (arrT (frT (S 7) (S 2) z k 1) z (nI i) (nI j) k (1 <<< (nI c &&& 31)) = -1000000) = decide (nI k < soonT (vw (stAT M (c + 1))) z (nI i) (nI j)) := by
              rcases arr_r (bar := 1 <<< (nI c &&& 31)) (ia := i) (ib := j) h.1.1 h.1.2.2 hT hk hv.1 hv.2 with ⟨u, g1, g2, g3⟩ | ⟨g2, g3⟩
              · rw [g2, g3, decide_eq_false (nI_nn (by omega)), decide_eq_false (nI_nlt g1 (by omega))]
              · rw [g2, decide_eq_true rfl, decide_eq_true g3]
            show (!decide (c = i) && (!decide (c = j) && decide (arrT (frT (S 7) (S 2) z k 1) z (nI i) (nI j) k (1 <<< (nI c &&& 31)) = -1000000))) = _
            rw [key]
          · rw [g2, if_pos rfl, if_neg (Int32.not_le.mpr g3)]
            exact ⟨rfl, z, o, q, ln, tr, rp_7 _ h⟩
        · rw [if_neg h4, if_neg h4]; exact ⟨rfl, z, o, q, ln, tr, h⟩
    · rw [if_neg h2]
      rw [Bool.not_eq_true] at h2
      rw [h2]; exact ⟨rfl, z, o, q, ln, tr, h⟩
  · rw [if_neg h1]
    rw [Bool.not_eq_true] at h1
    rw [h1]; exact ⟨rfl, z, o, q, ln, tr, h⟩
end
