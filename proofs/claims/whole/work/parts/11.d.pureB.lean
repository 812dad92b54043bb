/-! ===== the pure part: forests ===== -/
theorem bitsS_congr {p p' : Nat → Bool} : ∀ z, (∀ h, h < z → p h = p' h) → bitsS p z = bitsS p' z
  | 0, _ => rfl
  | z + 1, h => by
    unfold bitsS
    rw [bitsS_congr z (fun i hi => h i (by omega)), h z (by omega)]
theorem hdFrom_congr {p p' : Nat → Bool} : ∀ n k, (∀ d, k ≤ d → d < k + n → p d = p' d) → hdFrom p n k = hdFrom p' n k
  | 0, _, _ => rfl
  | n + 1, k, h => by
    unfold hdFrom
    rw [hdFrom_congr n (k + 1) (fun d h1 h2 => h d (by omega) (by omega)), h k (by omega) (by omega)]
def sw2 (w r : Nat) : Int32 := if nI w < nI r then (if 3 * nI w < nI r then nI r - 4 * nI w else 2 * nI w - nI r) else nI r
theorem sw2_b {w r : Nat} (hw : w < 6) (hr : r < 20) (hrw : r < 4 * w) : -5 ≤ (sw2 w r).toInt ∧ (sw2 w r).toInt ≤ 5 := by
  have : ∀ w, w < 6 → ∀ r, r < 20 → r < 4 * w → -5 ≤ (sw2 w r).toInt ∧ (sw2 w r).toInt ≤ 5 := by decide +kernel
  exact this w hw r hr hrw
theorem swS_b {w t : Nat} (hw : w ≤ 5) (ht : t < 2 ^ 31) : -5 ≤ (swS (nI w) (nI t)).toInt ∧ (swS (nI w) (nI t)).toInt ≤ 5 := by
  unfold swS
  by_cases h0 : 0 < nI w
  · rw [if_pos h0]
    have hw0 : 0 < w := by
      rcases Nat.eq_zero_or_pos w with rfl | h
      · exact absurd h0 (by decide)
      · exact h
    have e : rmI (nI t) (4 * nI w) = nI (t % (4 * w)) := nI_rem rfl (by rw [show (4 : Int32) = nI 4 from rfl, pk_mul]) ht (by omega) (by omega)
    rw [e]
    have hlt := Nat.mod_lt t (show 0 < 4 * w by omega)
    exact sw2_b (w := w) (r := t % (4 * w)) (by omega) (by omega) hlt
  · rw [if_neg h0]
    decide
theorem i5_ex {x : Int32} (h1 : -5 ≤ x.toInt) (h2 : x.toInt ≤ 5) : ∃ u, u ≤ 10 ∧ x = nI u - 5 := by
  refine ⟨(x.toInt + 5).toNat, by omega, ?_⟩
  apply Int32.toInt_inj.mp
  rw [show (5 : Int32) = nI 5 from rfl, pk_sub_toInt (by omega) (by omega)]
  omega
theorem i42_ex {x : Int32} (h1 : -42 ≤ x.toInt) (h2 : x.toInt ≤ 42) : ∃ u, u ≤ 84 ∧ x = nI u - 42 := by
  refine ⟨(x.toInt + 42).toNat, by omega, ?_⟩
  apply Int32.toInt_inj.mp
  rw [show (42 : Int32) = nI 42 from rfl, pk_sub_toInt (by omega) (by omega)]
  omega
theorem pl_b0 {a b u : Nat} (ha : a ≤ 11) (hb : b ≤ 11) (hu : u ≤ 10) : -10 ≤ (nI a + nI b + 2 * (nI u - 5)).toInt ∧ (nI a + nI b + 2 * (nI u - 5)).toInt ≤ 32 := by
  have : ∀ a, a < 12 → ∀ b, b < 12 → ∀ u, u < 11 → -10 ≤ (nI a + nI b + 2 * (nI u - 5)).toInt ∧ (nI a + nI b + 2 * (nI u - 5)).toInt ≤ 32 := by decide +kernel
  exact this a (by omega) b (by omega) u (by omega)
/-- what the places of a sound forest rest on -/
def okH (F : Nat → Nat → Int32) (h : Nat) : Prop := (∃ a b, a < b ∧ b ≤ 11 ∧ F 1 h = nI a ∧ F 2 h = nI b) ∧ ∃ w, w ≤ 5 ∧ F 4 h = nI w
theorem pl_b {F : Nat → Nat → Int32} {h t : Nat} (ho : okH F h) (ht : t < 2 ^ 31) : -10 ≤ (plS F h (nI t)).toInt ∧ (plS F h (nI t)).toInt ≤ 32 := by
  obtain ⟨⟨a, b, hab, hb, e1, e2⟩, w, hw, e4⟩ := ho
  unfold plS
  rw [e1, e2]
  have hx : -5 ≤ (offS F h (nI t)).toInt ∧ (offS F h (nI t)).toInt ≤ 5 := by
    unfold offS
    rw [e4]
    split
    · have e : nI t / 2 = nI (t / 2) := nI_quo rfl rfl ht (by omega) (by omega)
      rw [e]
      exact swS_b hw (by omega)
    · split
      · decide
      · split
        · rw [nI_toInt (by omega)]
          omega
        · exact swS_b hw ht
  obtain ⟨u, hu, e⟩ := i5_ex hx.1 hx.2
  rw [e]
  exact pl_b0 (by omega) hb hu
theorem ab_0 {u r : Nat} (hu : u ≤ 84) (hr : r ≤ 5) : (decide (2 * nI r < absI (nI u - 42))) = (decide (2 * nI r < nI u - 42) || decide (2 * nI r < -(nI u - 42))) := by
  have : ∀ u, u < 85 → ∀ r, r < 6 → (decide (2 * nI r < absI (nI u - 42))) = (decide (2 * nI r < nI u - 42) || decide (2 * nI r < -(nI u - 42))) := by decide +kernel
  exact this u (by omega) r (by omega)
theorem nrS_l (F : Nat → Nat → Int32) (b : Int32) : nrS F (-1000) b = false := by
  unfold nrS
  rw [decide_eq_true (rfl : (-1000 : Int32) = -1000), Bool.not_true, Bool.false_and, Bool.false_and]
theorem nrS_r (F : Nat → Nat → Int32) (a : Int32) : nrS F a (-1000) = false := by
  unfold nrS
  rw [decide_eq_true (rfl : (-1000 : Int32) = -1000), Bool.not_true, Bool.and_false, Bool.false_and]
theorem nrM_l {F : Nat → Nat → Int32} {i e : Nat} {m : Int32} (h : downS F i m = true) : nrM F i e m = false := by
  unfold nrM
  rw [h, Bool.not_true, Bool.false_and, Bool.and_false]
theorem nrM_r0 {F : Nat → Nat → Int32} {i e : Nat} {m : Int32} (h : downS F e m = true) : nrM F i e m = false := by
  unfold nrM
  rw [h, Bool.not_true, Bool.false_and, Bool.and_false, Bool.and_false]
theorem near_eq {F : Nat → Nat → Int32} {i e t r : Nat} (hi : okH F i) (he : okH F e) (hr : r ≤ 5) (hF : F 7 0 = nI r) (ht : t < 2 ^ 31) (hne : i ≠ e) : nrS F (spS F i (nI t)) (spS F e (nI t)) = nrM F i e (nI t) := by
  obtain ⟨p1, p2⟩ := pl_b hi ht
  obtain ⟨q1, q2⟩ := pl_b he ht
  have n1 : ¬ plS F i (nI t) = -1000 := fun z => by rw [z] at p1; exact absurd p1 (by decide)
  have n2 : ¬ plS F e (nI t) = -1000 := fun z => by rw [z] at q1; exact absurd q1 (by decide)
  cases h1 : downS F i (nI t) with
  | true =>
    rw [show spS F i (nI t) = -1000 from if_pos h1, nrS_l, nrM_l h1]
  | false =>
    cases h2 : downS F e (nI t) with
    | true =>
      rw [show spS F e (nI t) = -1000 from if_pos h2, nrS_r, nrM_r0 h2]
    | false =>
      rw [show spS F i (nI t) = plS F i (nI t) from if_neg (by rw [h1]; exact Bool.false_ne_true), show spS F e (nI t) = plS F e (nI t) from if_neg (by rw [h2]; exact Bool.false_ne_true)]
      obtain ⟨u, hu, eu⟩ := i42_ex (x := plS F i (nI t) - plS F e (nI t)) (by rw [Int32.toInt_sub, Int.bmod_eq_of_le (by omega) (by omega)]; omega) (by rw [Int32.toInt_sub, Int.bmod_eq_of_le (by omega) (by omega)]; omega)
      unfold nrS nrM
      rw [decide_eq_false n1, decide_eq_false n2, hF, decide_eq_false hne, h1, h2, eu, ab_0 hu hr]
      generalize decide (2 * nI r < nI u - 42) = x1
      generalize decide (2 * nI r < -(nI u - 42)) = x2
      cases x1 <;> cases x2 <;> rfl
section
variable {F : Nat → Nat → Int32} {t : Nat → Int32} {z : Nat}
theorem rF_k (hr : rF F t z) {h k : Nat} (hh : h < z) (hk : k < 5) : F k h = vw t k h := hr.2.2.2.2.2.2.1 h hh k hk
theorem dipS_r (hr : rF F t z) {h : Nat} (hh : h < z) (m : Int32) : dipS F h m = dipS (vw t) h m := by
  unfold dipS
  rw [rF_k hr hh (k := 0) (by omega), rF_k hr hh (k := 1) (by omega), rF_k hr hh (k := 2) (by omega), rF_k hr hh (k := 3) (by omega)]
theorem plS_r (hr : rF F t z) {h : Nat} (hh : h < z) (m : Int32) : plS F h m = plS (vw t) h m := by
  unfold plS offS
  rw [rF_k hr hh (k := 0) (by omega), rF_k hr hh (k := 1) (by omega), rF_k hr hh (k := 2) (by omega), rF_k hr hh (k := 4) (by omega)]
theorem downS_r (hr : rF F t z) {h : Nat} (hh : h < z) (m : Int32) : downS F h m = downS (vw t) h m := by
  unfold downS cutS
  rw [dipS_r hr hh, hr.2.2.2.2.1, hr.2.1]
  rfl
theorem nrM_r (hr : rF F t z) {i e : Nat} (hi : i < z) (he : e < z) (m : Int32) : nrM F i e m = nrM (vw t) i e m := by
  unfold nrM
  rw [downS_r hr hi, downS_r hr he, plS_r hr hi, plS_r hr he, hr.2.2.1]
  rfl
theorem okF_h (ho : okF F z) {h : Nat} (hh : h < z) : okH F h := ⟨(ho.2.2.2.2.2.2.2.2 h hh).2.1, (ho.2.2.2.2.2.2.2.2 h hh).2.2.2⟩
/-- the class's nearness is the reference's -/
theorem near_r (ho : okF F z) (hr : rF F t z) {i e m : Nat} (hi : i < z) (he : e < z) (hne : i ≠ e) (hm : m < 2 ^ 31) : nrS F (spS F i (nI m)) (spS F e (nI m)) = nrM (vw t) i e (nI m) := by
  obtain ⟨r, hr5, e7⟩ := ho.2.2.2.2.2.1
  rw [near_eq (okF_h ho hi) (okF_h ho he) hr5 e7 hm hne, nrM_r hr hi he]
theorem nearC_r (ho : okF F z) (hr : rF F t z) {j m : Nat} (hj : j < z) (hm : m < 2 ^ 31) : nearC F z j (nI m) = reachM (vw t) z j (nI m) := by
  unfold nearC reachM
  refine bitsS_congr z (fun o hoz => ?_)
  by_cases h : o = j
  · subst h
    unfold nrM
    rw [decide_eq_true rfl, Bool.not_true, Bool.false_and, Bool.false_and]
  · rw [decide_eq_false h, near_r ho hr hj hoz (fun e => h e.symm) hm, Bool.not_false, Bool.true_and]
end
section
variable {S S' : Nat → Nat → Nat → Int32} {M M' : Nat → Nat → Int32} {z o q ln tr : Nat}
theorem rp_bel (h : RelP S M z o q ln tr) (x : Int32) : belS x (S 2 9 0) = inI x 0 (M 4 0 - 1) := by
  rw [belz h.1.1.1 (by have := h.1.1.2.1; omega), h.1.2.2.1]
theorem rp_ix (h : RelP S M z o q ln tr) {x : Int32} (hx : inI x 0 (M 4 0 - 1) = true) : ∃ j, j < z ∧ x = nI j := inz_ex (h.1.2.2.1 ▸ h.1.1.1) (by have := h.1.1.2.1; omega) hx
theorem rp_min (h : RelP S M z o q ln tr) : ∃ a, a ≤ 999 ∧ S 2 8 0 = nI a ∧ M 4 35 = nI a := by
  obtain ⟨a, ha, e⟩ := h.1.1.2.2.2.2.2.2.1
  exact ⟨a, ha, e, by rw [← h.1.2.2.2.2.2.2.2.1]; exact e⟩
theorem rel_kind (h : RelP S M z o q ln tr) (x : Int32) : kindC S x = kindM M x ∧ Rel S M := by
  refine ⟨?_, z, o, q, ln, tr, h⟩
  unfold kindC kindM
  rw [rp_bel h]
  by_cases h1 : inI x 0 (M 4 0 - 1) = true
  · rw [if_pos h1, if_pos h1]
    obtain ⟨j, hj, rfl⟩ := rp_ix h h1
    have hz := h.1.1.2.1
    rw [ix_nI (by omega), nI_clamp (by omega)]
    exact rF_k h.1.2.2 hj (k := 0) (by omega)
  · rw [if_neg h1, if_neg h1]
theorem rel_ahead (h : RelP S M z o q ln tr) (x d w : Int32) : aheadC S x d w = aheadM M x d w ∧ Rel S M := by
  refine ⟨?_, z, o, q, ln, tr, h⟩
  unfold aheadC aheadM
  rw [rp_bel h, ah60, bel2]
  by_cases h1 : inI x 0 (M 4 0 - 1) = true
  · rw [if_pos h1, if_pos h1]
    obtain ⟨j, hj, rfl⟩ := rp_ix h h1
    have hz := h.1.1.2.1
    rw [ix_nI (by omega), nI_clamp (by omega), plS_r h.1.2.2 hj, dipS_r h.1.2.2 hj, h.1.2.2.2.2.2.2.2.1]
  · rw [if_neg h1, if_neg h1]
theorem rp_st1 (h : RelP S M z o q ln tr) : (S 2 5 0 = 0) = ¬ (decide (M 4 3 = 1)) = true := by
  rw [← h.1.2.2.2.2.2.1]
  rcases h.1.1.2.2.2.1 with e | e <;> rw [e] <;> decide
theorem rel_down (h : RelP S M z o q ln tr) (d : Int32) : downC S z d = downM M z d ∧ Rel S M := by
  refine ⟨?_, z, o, q, ln, tr, h⟩
  unfold downC downM
  rw [ah60]
  by_cases h1 : decide (M 4 3 = 1) = true
  · rw [if_pos h1, if_neg (by rw [rp_st1 h]; exact fun z => z h1), h.1.2.2.2.2.2.2.2.1]
    rw [bitsS_congr z (fun i hi => downS_r h.1.2.2 hi _)]
  · rw [if_neg h1, if_pos (by rw [rp_st1 h]; exact h1)]
theorem rel_reach (h : RelP S M z o q ln tr) (x d : Int32) : reachC S z x d = reaM M z x d ∧ Rel S M := by
  refine ⟨?_, z, o, q, ln, tr, h⟩
  unfold reachC reaM
  rw [rp_bel h, ah60]
  by_cases h1 : inI x 0 (M 4 0 - 1) = true
  · rw [if_pos h1, if_pos h1]
    by_cases h2 : inI d 0 60 = true
    · rw [if_pos h2, if_pos h2]
      obtain ⟨j, hj, rfl⟩ := rp_ix h h1
      obtain ⟨k, hk, rfl⟩ := sp_ex h2
      obtain ⟨a, ha, e1, e2⟩ := rp_min h
      have hz := h.1.1.2.1
      rw [ix_nI (by omega), nI_clamp (by omega), e1, e2, nI_add]
      exact nearC_r h.1.1 h.1.2.2 hj (by omega)
    · rw [if_neg h2, if_neg h2]
  · rw [if_neg h1, if_neg h1]
theorem rel_hammock (h : RelP S M z o q ln tr) (x w : Int32) : hamC S x w = (hamM M x w).1 ∧ Rel S (hamM M x w).2 := by
  have hX : hamC S x w = (hamM M x w).1 ∧ (hamM M x w).2 = M := by
    unfold hamC hamM
    rw [rp_bel h]
    by_cases h1 : inI x 0 (M 4 0 - 1) = true
    · rw [if_pos h1, if_pos h1]
      obtain ⟨j, hj, rfl⟩ := rp_ix h h1
      have hz := h.1.1.2.1
      rw [ix_nI (by omega), plS_r h.1.2.2 hj, dipS_r h.1.2.2 hj, h.1.2.2.2.2.2.2.2.1, rF_k h.1.2.2 hj (k := 1) (by omega), rF_k h.1.2.2 hj (k := 2) (by omega), rF_k h.1.2.2 hj (k := 3) (by omega), rF_k h.1.2.2 hj (k := 4) (by omega)]
      by_cases w0 : w = 0
      · rw [if_pos w0, if_pos w0]; exact ⟨rfl, rfl⟩
      rw [if_neg w0, if_neg w0]
      by_cases w1 : w = 1
      · rw [if_pos w1, if_pos w1]; exact ⟨rfl, rfl⟩
      rw [if_neg w1, if_neg w1]
      by_cases w2 : w = 2
      · rw [if_pos w2, if_pos w2]; exact ⟨rfl, rfl⟩
      rw [if_neg w2, if_neg w2]
      by_cases w3 : w = 3
      · rw [if_pos w3, if_pos w3]; exact ⟨rfl, rfl⟩
      rw [if_neg w3, if_neg w3]
      by_cases w4 : w = 4
      · rw [if_pos w4, if_pos w4, cut_has, h.1.2.2.2.2.2.2.1]
        by_cases hc : hasS (M 4 34) (nI j) = true
        · rw [if_pos hc, hc]; exact ⟨rfl, rfl⟩
        · rw [if_neg hc]
          rw [Bool.not_eq_true] at hc
          rw [hc]; exact ⟨rfl, rfl⟩
      rw [if_neg w4, if_neg w4]
      by_cases w5 : w = 5
      · rw [if_pos w5, if_pos w5]; exact ⟨rfl, rfl⟩
      rw [if_neg w5, if_neg w5]
      by_cases w6 : w = 6
      · rw [if_pos w6, if_pos w6]; exact ⟨rfl, rfl⟩
      rw [if_neg w6, if_neg w6]
      exact ⟨rfl, rfl⟩
    · rw [if_neg h1, if_neg h1]; exact ⟨rfl, rfl⟩
  exact ⟨hX.1, by rw [hX.2]; exact ⟨z, o, q, ln, tr, h⟩⟩
theorem rel_as (h : RelP S M z o q ln tr) (x k : Int32) : (asC S x k).1 = (asM M x k).1 ∧ Rel (asC S x k).2 (asM M x k).2 := by
  unfold asC asM
  rw [rp_bel h, bel6]
  by_cases h1 : inI x 0 (M 4 0 - 1) = true
  · rw [if_pos h1, if_pos h1]
    by_cases h2 : inI k 0 5 = true
    · rw [if_pos h2, if_pos h2]
      obtain ⟨j, hj, rfl⟩ := rp_ix h h1
      have hz := h.1.1.2.1
      rw [ix_nI (by omega), rF_k h.1.2.2 hj (k := 0) (by omega)]
      show (if isOfM (M 4 (4 + j)) k = true then _ else _ : Int32 × _).1 = _ ∧ Rel (if isOfM (M 4 (4 + j)) k = true then _ else _ : Int32 × _).2 _
      by_cases h3 : isOfM (M 4 (4 + j)) k = true
      · rw [if_pos h3, if_pos h3]
        exact ⟨rfl, z, o, q, ln, tr, rp_st 0 h⟩
      · rw [if_neg h3, if_neg h3]
        exact ⟨rfl, z, o, q, ln, tr, rp_st 3 h⟩
    · rw [if_neg h2, if_neg h2]
      exact ⟨rfl, z, o, q, ln, tr, h⟩
  · rw [if_neg h1, if_neg h1]
    exact ⟨rfl, z, o, q, ln, tr, h⟩
end
