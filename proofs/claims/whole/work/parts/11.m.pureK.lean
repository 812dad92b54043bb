/-! ===== the pure part: breaks ===== -/
theorem gcd_st (l s : Nat) : Nat.gcd l s = Nat.gcd s (l % s) := by
  rw [Nat.gcd_comm l s, Nat.gcd_rec s l, Nat.gcd_comm]
theorem mod_half {r s : Nat} (h0 : 0 < r) (h : r < s) : 2 * (s % r) < s := by
  by_cases h1 : 2 * r ≤ s
  · have := Nat.mod_lt s h0
    omega
  · have : s % r = s - r := by
      rw [Nat.mod_eq_sub_mod (by omega), Nat.mod_eq_of_lt (by omega)]
    omega
theorem gcS_n : ∀ (j n l s : Nat), s < 2 ^ j → 2 * j + 1 ≤ n → l < 2 ^ 31 → s < 2 ^ 31 → gcS n (nI l) (nI s) = nI (Nat.gcd l s)
  | 0, n, l, s, hs, hn, hl, hs2 => by
    have e : s = 0 := by omega
    subst e
    match n, hn with
    | n + 1, _ =>
      unfold gcS
      rw [if_pos (show nI 0 = 0 from rfl), Nat.gcd_zero_right]
  | j + 1, n, l, s, hs, hn, hl, hs2 => by
    match n, hn with
    | n + 2, hn =>
      unfold gcS
      by_cases h0 : s = 0
      · subst h0
        rw [if_pos (show nI 0 = 0 from rfl), Nat.gcd_zero_right]
      · rw [if_neg (nI_ne0 (by omega) hs2), show rmI (nI l) (nI s) = nI (l % s) from nI_rem rfl rfl hl (by omega) hs2]
        have hm := Nat.mod_lt l (show 0 < s by omega)
        unfold gcS
        by_cases h1 : l % s = 0
        · rw [h1, if_pos (show nI 0 = 0 from rfl), gcd_st, h1, Nat.gcd_zero_right]
        · rw [if_neg (nI_ne0 (by omega) (by omega)), show rmI (nI s) (nI (l % s)) = nI (s % (l % s)) from nI_rem rfl rfl hs2 (by omega) (by omega)]
          have h2 := mod_half (show 0 < l % s by omega) hm
          have h3 : 2 ^ (j + 1) = 2 ^ j * 2 := rfl
          rw [gcS_n j n (l % s) (s % (l % s)) (by omega) (by omega) (by omega) (by omega), ← gcd_st, ← gcd_st]
theorem gcM_n : ∀ (n u v : Nat), v < n → u < 2 ^ 63 → v < 2 ^ 63 → gcM n (lN u) (lN v) = lN (Nat.gcd u v)
  | 0, _, v, h, _, _ => absurd h (Nat.not_lt_zero v)
  | n + 1, u, v, h, hu, hv => by
    unfold gcM
    by_cases h0 : v = 0
    · subst h0
      rw [if_pos (show lN 0 = 0 from rfl), Nat.gcd_zero_right]
    · rw [if_neg (fun e : lN v = 0 => h0 ((pk_lEQ hv (b := 0) (by omega)).mp e)), show rmL (lN u) (lN v) = lN (u % v) from pk_lRem hu (by omega) hv]
      have hm := Nat.mod_lt u (show 0 < v by omega)
      rw [gcM_n n v (u % v) (by omega) hv (by omega), ← gcd_st]
section
variable {S S' : Nat → Nat → Nat → Int32} {M M' : Nat → Nat → Int32} {z o q ln tr : Nat}
theorem rp_cutK (h : RelP S M z o q ln tr) (k : Nat) : cutS (S 2) k = hasS (M 4 34) (nI k) := by
  rw [cut_has, h.1.2.2.2.2.2.2.1]
theorem pr_n (h : RelP S M z o q ln tr) (st : Int32) {c : Nat} (hc : c ≤ 10) : ∀ k, k ≤ 6 → ∃ v : Nat, v ≤ 10 ^ k ∧ prS (S 2) st (nI c) k = nI v ∧ wyM M st (nI c) k = lN v
  | 0, _ => ⟨1, by omega, rfl, rfl⟩
  | k + 1, hk => by
    obtain ⟨v, h2, h3, h4⟩ := pr_n h st hc k (by omega)
    have h7 : 10 ^ (k + 1) = 10 ^ k * 10 := rfl
    have key : ∀ w : Nat, w ≤ 10 → v * w ≤ 10 ^ (k + 1) := fun w hw => by
      have := Nat.mul_le_mul h2 hw
      omega
    unfold prS wyM
    rw [rp_cutK h, h3, h4]
    by_cases h1 : hasS (M 4 34) (nI k) = true
    · rw [if_pos h1, if_pos h1]
      exact ⟨v, by omega, rfl, Int64.mul_one _⟩
    · rw [if_neg h1, if_neg h1]
      by_cases h5 : hasS st (nI k) = true
      · rw [if_pos h5, if_pos h5]
        exact ⟨v * c, key c hc, pk_mul v c, by rw [nI_l (by omega), lN_mul]⟩
      · rw [if_neg h5, if_neg h5, show (10 : Int32) = nI 10 from rfl, pk_sub hc]
        exact ⟨v * (10 - c), key _ (by omega), pk_mul v _, by rw [nI_l (by omega), lN_mul]⟩
theorem pa_n (h : RelP S M z o q ln tr) : ∀ k, k ≤ 6 → ∃ v : Nat, 1 ≤ v ∧ v ≤ 10 ^ k ∧ paS (S 2) k = nI v ∧ belM M k = lN v
  | 0, _ => ⟨1, by omega, by omega, rfl, rfl⟩
  | k + 1, hk => by
    obtain ⟨v, h1, h2, h3, h4⟩ := pa_n h k (by omega)
    have h7 : 10 ^ (k + 1) = 10 ^ k * 10 := rfl
    unfold paS belM
    rw [rp_cutK h, h3, h4]
    by_cases h1 : hasS (M 4 34) (nI k) = true
    · rw [if_pos h1, if_pos h1]
      exact ⟨v, by omega, by omega, rfl, Int64.mul_one _⟩
    · rw [if_neg h1, if_neg h1]
      exact ⟨v * 10, by omega, by omega, pk_mul v 10, lN_mul v 10⟩
theorem br_e (h : RelP S M z o q ln tr) {i j d c : Nat} (hd : d ≤ 60) (hc : c ≤ 10) (W : Nat) (hW : W = 10 ^ 6) : ∀ k, k ≤ 64 → ∃ v : Nat, v ≤ k * W ∧ brS (up3 S 7 (frT (S 7) (S 2) z d)) z i j d (nI c) k = nI v ∧ brM M z i j d (nI c) k = lN v
  | 0, _ => ⟨0, Nat.zero_le _, rfl, rfl⟩
  | k + 1, hk => by
    have hz := h.1.1.2.1
    obtain ⟨v, h2, h3, h4⟩ := br_e h hd hc W hW k (by omega)
    have hm : k * W + W = (k + 1) * W := (Nat.succ_mul k W).symm
    have e10 : S 2 10 0 = M 4 34 := h.1.2.2.2.2.2.2.1
    unfold brS brM
    rw [h3, h4]
    show ∃ v', v' ≤ (k + 1) * W ∧ (if nI k &&& S 2 10 0 = 0 then (if arrT (frT (S 7) (S 2) z d 1) z (nI i) (nI j) d (nI k) = -1000000 then nI v else nI v + prS (S 2) (nI k) (nI c) z) else nI v) = nI v' ∧ (if nI k &&& M 4 34 = 0 then lN v + (if nI d < soonT (vw (bAT M (k + 1))) z (nI i) (nI j) then 0 else wyM M (nI k) (nI c) z) else lN v) = lN v'
    rw [e10]
    by_cases h1 : nI k &&& M 4 34 = 0
    · rw [if_pos h1, if_pos h1]
      have hv := vw_cut (t := M 4) (t' := bAT M (k + 1)) (bar := nI k) (fun u h5 h6 => by
        rw [bAT_eq]
        unfold bA
        rw [if_pos h1, upd_ne h6, cpy36 h5]) (by
        rw [bAT_eq]
        unfold bA
        rw [if_pos h1, pk_us]) hz
      obtain ⟨w, h5, h6, h7⟩ := pr_n h (nI k) hc z hz
      have h8 : w ≤ W := by rw [hW]; exact Nat.le_trans h5 (Nat.pow_le_pow_right (by omega) hz)
      rcases arr_r (bar := nI k) (ia := i) (ib := j) h.1.1 h.1.2.2 (fr_ok (S 7) (S 2) hz d) hd hv.1 hv.2 with ⟨u, g1, g2, g3⟩ | ⟨g2, g3⟩
      · rw [g2, g3, if_neg (nI_nn (by omega)), if_neg (nI_nlt g1 (by omega)), h6, h7]
        exact ⟨v + w, by omega, nI_add v w, lN_add v w⟩
      · rw [g2, if_pos rfl, if_pos g3]
        exact ⟨v, by omega, rfl, Int64.add_zero _⟩
    · rw [if_neg h1, if_neg h1]
      exact ⟨v, by omega, rfl, rfl⟩
theorem rel_breaks (h : RelP S M z o q ln tr) (a b d c x : Int32) : (breaksC S z a b d c x).1 = (breaksM M z a b d c x).1 ∧ Rel ((breaksC S z a b d c x).2) ((breaksM M z a b d c x).2) := by
  unfold breaksC breaksM
  rw [rp_bel h, rp_bel h, ah60, bel2]
  by_cases h1 : inI a 0 (M 4 0 - 1) = true
  · rw [if_pos h1, if_pos h1]
    by_cases h2 : inI b 0 (M 4 0 - 1) = true
    · rw [if_pos h2, if_pos h2]
      by_cases h3 : inI d 0 60 = true
      · rw [if_pos h3, if_pos h3]
        by_cases h4 : inI c 0 10 = true
        · rw [if_pos h4]
          have h5 := h4
          unfold inI at h5
          simp only [Bool.and_eq_true, decide_eq_true_eq] at h5
          rw [if_neg (Int32.not_lt.mpr h5.1), if_neg (Int32.not_lt.mpr h5.2)]
          by_cases h6 : inI x 0 1 = true
          · rw [if_pos h6, if_pos h6]
            obtain ⟨i, hi, rfl⟩ := rp_ix h h1
            obtain ⟨j, hj, rfl⟩ := rp_ix h h2
            obtain ⟨k, hk, rfl⟩ := sp_ex h3
            obtain ⟨c, hc, rfl⟩ := in10 h4
            have hz := h.1.1.2.1
            rw [ix_nI (show i < 2 ^ 31 by omega), ix_nI (show j < 2 ^ 31 by omega), ix_nI (show k < 2 ^ 31 by omega)]
            obtain ⟨w, w1, w2, w3⟩ := br_e h (i := i) (j := j) hk hc _ rfl (2 ^ z) (p2_64 hz)
            obtain ⟨p, p0, p1, p2, p3⟩ := pa_n h z hz
            have hw : w ≤ 64000000 := Nat.le_trans w1 (Nat.mul_le_mul (p2_64 hz) (show 10 ^ 6 ≤ 1000000 by decide))
            have hp : p ≤ 1000000 := Nat.le_trans p1 (Nat.le_trans (Nat.pow_le_pow_right (by omega) hz) (show 10 ^ 6 ≤ 1000000 by decide))
            have hg1 : 0 < Nat.gcd p w := Nat.gcd_pos_of_pos_left w (by omega)
            have hg2 : Nat.gcd p w ≤ p := Nat.gcd_le_left w (by omega)
            have e1 : gcS 64 (nI p) (nI w) = nI (Nat.gcd p w) := gcS_n 26 64 p w (by omega) (by omega) (by omega) (by omega)
            have e2 : gcM ((belM M z).toInt.toNat + 1) (lN w) (lN p) = lN (Nat.gcd p w) := by
              rw [p3, pk_lT (show p < 2 ^ 63 by omega), Nat.gcd_comm]
              exact gcM_n (p + 1) w p (by omega) (by omega) (by omega)
            rw [show paS ((up3 S 7 (frT (S 7) (S 2) z k)) 2) z = nI p from p2, w2, w3, e1]
            rw [if_pos (show 0 < nI (Nat.gcd p w) from (nI_ltI (a := 0) (by omega) (by omega)).mpr hg1)]
            by_cases hx : x = 0
            · rw [if_pos hx, if_pos hx]
              refine ⟨?_, z, o, q, ln, tr, rp_76 _ _ h⟩
              dsimp only
              rw [← p3] at e2
              rw [e2, pk_div (by omega) hg1 (by omega), pk_lDiv (by omega) hg1 (by omega), lN_i]
            · rw [if_neg hx, if_neg hx]
              refine ⟨?_, z, o, q, ln, tr, rp_76 _ _ h⟩
              dsimp only
              rw [← p3] at e2
              rw [e2, p3, pk_div (by omega) hg1 (by omega), pk_lDiv (by omega) hg1 (by omega), lN_i]
          · rw [if_neg h6, if_neg h6]; exact ⟨rfl, z, o, q, ln, tr, h⟩
        · rw [if_neg h4]
          unfold inI at h4
          simp only [Bool.and_eq_true, decide_eq_true_eq, not_and] at h4
          by_cases h5 : c < 0
          · rw [if_pos h5]; exact ⟨rfl, z, o, q, ln, tr, h⟩
          · rw [if_neg h5, if_pos (Int32.not_le.mp (h4 (Int32.not_lt.mp h5)))]; exact ⟨rfl, z, o, q, ln, tr, h⟩
      · rw [if_neg h3, if_neg h3]; exact ⟨rfl, z, o, q, ln, tr, h⟩
    · rw [if_neg h2, if_neg h2]; exact ⟨rfl, z, o, q, ln, tr, h⟩
  · rw [if_neg h1, if_neg h1]; exact ⟨rfl, z, o, q, ln, tr, h⟩
end
