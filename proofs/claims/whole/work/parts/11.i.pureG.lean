/-! ===== the pure part: sets, what the outlook holds ===== -/
theorem sm_k {k : Nat} (hk : k < 32) : ((nI k &&& 31).toBitVec.smod 32).toNat = k := by
  have : ∀ k, k < 32 → ((nI k &&& 31).toBitVec.smod 32).toNat = k := by decide +kernel
  exact this k hk
theorem and1_bit (x : Int32) : decide (x &&& 1 = 1) = x.toBitVec.getLsbD 0 := by
  rw [pk_and x (m := 1) 1 (by decide)]
  show _ = x.toBitVec.toNat.testBit 0
  rw [Nat.testBit_zero]
  have h : x.toBitVec.toNat % 2 ^ 1 = 0 ∨ x.toBitVec.toNat % 2 ^ 1 = 1 := by omega
  rcases h with h | h
  · rw [h]; decide
  · rw [h]; decide
theorem has_bit (x : Int32) {k : Nat} (hk : k < 32) : hasS x (nI k) = x.toBitVec.getLsbD k := by
  unfold hasS
  rw [and1_bit, Int32.toBitVec_shiftRight, BitVec.getLsbD_sshiftRight', sm_k hk]
  simp [hk]
theorem has_or (x y : Int32) {k : Nat} (hk : k < 32) : hasS (x ||| y) (nI k) = (hasS x (nI k) || hasS y (nI k)) := by
  rw [has_bit _ hk, has_bit _ hk, has_bit _ hk, Int32.toBitVec_or, BitVec.getLsbD_or]
theorem has_and (x y : Int32) {k : Nat} (hk : k < 32) : hasS (x &&& y) (nI k) = (hasS x (nI k) && hasS y (nI k)) := by
  rw [has_bit _ hk, has_bit _ hk, has_bit _ hk, Int32.toBitVec_and, BitVec.getLsbD_and]
theorem has_not (x : Int32) {k : Nat} (hk : k < 32) : hasS (x ^^^ (-1)) (nI k) = !hasS x (nI k) := by
  have : ∀ k, k < 32 → (-1 : Int32).toBitVec.getLsbD k = true := by decide +kernel
  rw [has_bit _ hk, has_bit _ hk, Int32.toBitVec_xor, BitVec.getLsbD_xor, this k hk, Bool.xor_true]
theorem has_sh {j k : Nat} (hj : j < 32) (hk : k < 32) : hasS (1 <<< (nI j &&& 31)) (nI k) = decide (k = j) := by
  have : ∀ j, j < 32 → ∀ k, k < 32 → hasS (1 <<< (nI j &&& 31)) (nI k) = decide (k = j) := by decide +kernel
  exact this j hj k hk
theorem has_0 {k : Nat} (hk : k < 32) : hasS 0 (nI k) = false := by
  have : ∀ k, k < 32 → hasS 0 (nI k) = false := by decide +kernel
  exact this k hk
theorem has_ext {x y : Int32} (h : ∀ k, k < 32 → hasS x (nI k) = hasS y (nI k)) : x = y := by
  apply Int32.toBitVec_inj.mp
  apply BitVec.eq_of_getLsbD_eq
  intro k hk
  rw [← has_bit x hk, ← has_bit y hk]
  exact h k hk
theorem has_bits (p : Nat → Bool) {k : Nat} (hk : k < 32) : ∀ z, z ≤ 32 → hasS (bitsS p z) (nI k) = (decide (k < z) && p k)
  | 0, _ => by rw [decide_eq_false (Nat.not_lt_zero k), Bool.false_and]; exact has_0 hk
  | z + 1, hz => by
    have ih := has_bits p hk z (by omega)
    have e : hasS (bitsS p (z + 1)) (nI k) = ((decide (k < z) && p k) || (p z && decide (k = z))) := by
      unfold bitsS
      cases hp : p z
      · rw [if_neg Bool.false_ne_true, ih, Bool.false_and, Bool.or_false]
      · rw [if_pos rfl, has_or _ _ hk, ih, has_sh (by omega) hk, Bool.true_and]
    rw [e]
    rcases Nat.lt_trichotomy k z with h | h | h
    · rw [decide_eq_true h, decide_eq_true (show k < z + 1 by omega), decide_eq_false (show ¬ k = z by omega), Bool.and_false, Bool.or_false]
    · subst h
      rw [decide_eq_false (Nat.lt_irrefl k), decide_eq_true (Nat.lt_succ_self k), decide_eq_true rfl, Bool.false_and, Bool.false_or, Bool.and_true, Bool.true_and]
    · rw [decide_eq_false (show ¬ k < z by omega), decide_eq_false (show ¬ k < z + 1 by omega), decide_eq_false (show ¬ k = z by omega), Bool.and_false, Bool.false_and, Bool.or_false]
theorem has_more (reach : Nat → Int32) (set : Int32) {k : Nat} (hk : k < 32) : ∀ n, hasS (moreS reach set n) (nI k) = true ↔ ∃ i, i < n ∧ hasS set (nI i) = true ∧ hasS (reach i) (nI k) = true
  | 0 => ⟨fun h => absurd ((has_0 hk).symm.trans h) Bool.false_ne_true, fun ⟨i, hi, _⟩ => absurd hi (Nat.not_lt_zero i)⟩
  | n + 1 => by
    have ih := has_more reach set hk n
    unfold moreS
    rw [has_or _ _ hk, Bool.or_eq_true, ih]
    constructor
    · rintro (⟨i, h1, h2, h3⟩ | h)
      · exact ⟨i, by omega, h2, h3⟩
      · by_cases hs : hasS set (nI n) = true
        · rw [if_pos hs] at h
          exact ⟨n, by omega, hs, h⟩
        · rw [if_neg hs, has_0 hk] at h
          exact absurd h Bool.false_ne_true
    · rintro ⟨i, h1, h2, h3⟩
      rcases Nat.lt_or_ge i n with h | h
      · exact Or.inl ⟨i, h, h2, h3⟩
      · have e : i = n := by omega
        subst e
        exact Or.inr (by rw [if_pos h2]; exact h3)
theorem has_spd (nr : Nat → Int32) (t : Nat) (hv bar : Int32) {k : Nat} (hk : k < 32) : ∀ n, n ≤ 32 → (hasS (spdS nr t hv bar n) (nI k) = true ↔ (hasS hv (nI k) = true ∨ ∃ i, i < n ∧ (hasS hv (nI i) = true ∧ hasS bar (nI i) = false) ∧ hasS (nr (t * 6 + i)) (nI k) = true ∧ hasS bar (nI k) = false))
  | 0, _ => ⟨fun h => Or.inl h, fun h => h.elim id (fun ⟨i, hi, _⟩ => absurd hi (Nat.not_lt_zero i))⟩
  | n + 1, hn => by
    have ih := has_spd nr t hv bar hk n (by omega)
    have hc : hasS (hv &&& (bar ^^^ (-1))) (nI n) = true ↔ (hasS hv (nI n) = true ∧ hasS bar (nI n) = false) := by
      rw [has_and _ _ (by omega), has_not _ (by omega), Bool.and_eq_true, Bool.not_eq_true']
    unfold spdS
    by_cases h : hasS (hv &&& (bar ^^^ (-1))) (nI n) = true
    · rw [if_pos h, has_or _ _ hk, has_and _ _ hk, has_not _ hk, Bool.or_eq_true, Bool.and_eq_true, Bool.not_eq_true', ih]
      constructor
      · rintro ((h1 | ⟨i, h1, h2, h3⟩) | h1)
        · exact Or.inl h1
        · exact Or.inr ⟨i, by omega, h2, h3⟩
        · exact Or.inr ⟨n, by omega, hc.mp h, h1⟩
      · rintro (h1 | ⟨i, h1, h2, h3⟩)
        · exact Or.inl (Or.inl h1)
        · rcases Nat.lt_or_ge i n with h4 | h4
          · exact Or.inl (Or.inr ⟨i, h4, h2, h3⟩)
          · have e : i = n := by omega
            subst e
            exact Or.inr h3
    · rw [if_neg h, ih]
      constructor
      · rintro (h1 | ⟨i, h1, h2, h3⟩)
        · exact Or.inl h1
        · exact Or.inr ⟨i, by omega, h2, h3⟩
      · rintro (h1 | ⟨i, h1, h2, h3⟩)
        · exact Or.inl h1
        · rcases Nat.lt_or_ge i n with h4 | h4
          · exact Or.inr ⟨i, h4, h2, h3⟩
          · have e : i = n := by omega
            subst e
            exact absurd (hc.mpr h2) h
/-- the held set with bars is the set of the forest with those cords cut -/
theorem hv_set {G G' : Nat → Nat → Int32} {nr : Nat → Int32} {z d : Nat} {a bar : Int32} (hz : z ≤ 6) (h8 : G' 8 0 = G 8 0) (hnr : ∀ t, t < d → ∀ i, i < z → nr (t * 6 + i) = reachM G z i (G 8 0 + nI t)) (hb : ∀ i, i < z → ∀ e, e < z → ∀ m, nrM G' i e m = (nrM G i e m && (!hasS bar (nI i) && !hasS bar (nI e)))) : ∀ t, t ≤ d → hvS nr z a bar t = setM G' z a t
  | 0, _ => rfl
  | t + 1, ht => by
    have ih := hv_set (a := a) hz h8 hnr hb t (by omega)
    unfold hvS setM
    rw [ih]
    refine has_ext (fun k hk => ?_)
    rw [Bool.eq_iff_iff, has_spd _ _ _ _ hk z (by omega), has_or _ _ hk, Bool.or_eq_true, has_more _ _ hk]
    refine or_congr Iff.rfl (exists_congr (fun i => ?_))
    constructor
    · rintro ⟨hi, ⟨h1, h2⟩, h3, h4⟩
      refine ⟨hi, h1, ?_⟩
      rw [hnr t (by omega) i hi] at h3
      unfold reachM at h3 ⊢
      rw [has_bits _ hk z (by omega), Bool.and_eq_true, decide_eq_true_eq] at h3 ⊢
      refine ⟨h3.1, ?_⟩
      rw [h8, hb i hi k h3.1, h3.2, h2, h4]
      rfl
    · rintro ⟨hi, h1, h3⟩
      unfold reachM at h3
      rw [has_bits _ hk z (by omega), Bool.and_eq_true, decide_eq_true_eq, h8] at h3
      obtain ⟨hkz, h3⟩ := h3
      rw [hb i hi k hkz, Bool.and_eq_true, Bool.and_eq_true, Bool.not_eq_true', Bool.not_eq_true'] at h3
      refine ⟨hi, ⟨h1, h3.2.1⟩, ?_, h3.2.2⟩
      rw [hnr t (by omega) i hi]
      unfold reachM
      rw [has_bits _ hk z (by omega), Bool.and_eq_true, decide_eq_true_eq]
      exact ⟨hkz, h3.1⟩
theorem soonFrom_s (has : Nat → Bool) : ∀ n k, ((∀ u, k ≤ u → u < k + n → has u = false) ∧ soonFrom has n k = 1000000) ∨ ∃ u, k ≤ u ∧ u < k + n ∧ has u = true ∧ (∀ v, k ≤ v → v < u → has v = false) ∧ soonFrom has n k = nI u
  | 0, k => Or.inl ⟨fun u h1 h2 => by omega, rfl⟩
  | n + 1, k => by
    unfold soonFrom
    cases h : has k
    · rw [if_neg Bool.false_ne_true]
      rcases soonFrom_s has n (k + 1) with ⟨h1, h2⟩ | ⟨u, h1, h2, h3, h4, h5⟩
      · refine Or.inl ⟨fun u h3 h4 => ?_, h2⟩
        by_cases e : u = k
        · rw [e]; exact h
        · exact h1 u (by omega) (by omega)
      · refine Or.inr ⟨u, by omega, by omega, h3, fun v h6 h7 => ?_, h5⟩
        by_cases e : v = k
        · rw [e]; exact h
        · exact h4 v (by omega) (by omega)
    · rw [if_pos rfl]
      exact Or.inr ⟨k, by omega, by omega, h, fun v h1 h2 => by omega, rfl⟩
theorem arrFrom_s (has : Nat → Bool) : ∀ n k, ((∀ u, k ≤ u → u ≤ k + n → has u = false) ∧ arrFrom has n k = -1000000) ∨ ∃ u, k ≤ u ∧ u ≤ k + n ∧ has u = true ∧ (∀ v, k ≤ v → v < u → has v = false) ∧ arrFrom has n k = nI u
  | 0, k => by
    unfold arrFrom
    cases h : has k
    · rw [if_neg Bool.false_ne_true]
      refine Or.inl ⟨fun u h1 h2 => ?_, rfl⟩
      rw [show u = k by omega]; exact h
    · rw [if_pos rfl]
      exact Or.inr ⟨k, by omega, by omega, h, fun v h1 h2 => by omega, rfl⟩
  | n + 1, k => by
    unfold arrFrom
    cases h : has k
    · rw [if_neg Bool.false_ne_true]
      rcases arrFrom_s has n (k + 1) with ⟨h1, h2⟩ | ⟨u, h1, h2, h3, h4, h5⟩
      · refine Or.inl ⟨fun u h3 h4 => ?_, h2⟩
        by_cases e : u = k
        · rw [e]; exact h
        · exact h1 u (by omega) (by omega)
      · refine Or.inr ⟨u, by omega, by omega, h3, fun v h6 h7 => ?_, h5⟩
        by_cases e : v = k
        · rw [e]; exact h
        · exact h4 v (by omega) (by omega)
    · rw [if_pos rfl]
      exact Or.inr ⟨k, by omega, by omega, h, fun v h1 h2 => by omega, rfl⟩
/-- the soonest within d, and the soonest of all -/
theorem arr_soon {has has' : Nat → Bool} {d : Nat} (hd : d ≤ 60) (h : ∀ t, t ≤ d → has t = has' t) : (∃ u, u ≤ d ∧ arrFrom has d 0 = nI u ∧ soonFrom has' 61 0 = nI u) ∨ (arrFrom has d 0 = -1000000 ∧ nI d < soonFrom has' 61 0) := by
  rcases arrFrom_s has d 0 with ⟨h1, h2⟩ | ⟨u, h1, h2, h3, h4, h5⟩
  · refine Or.inr ⟨h2, ?_⟩
    rcases soonFrom_s has' 61 0 with ⟨h6, h7⟩ | ⟨v, h6, h7, h8, h9, h10⟩
    · rw [h7]
      exact (nI_ltI (b := 1000000) (by omega) (by omega)).mpr (by omega)
    · rw [h10]
      refine (nI_ltI (by omega) (by omega)).mpr ?_
      by_cases hv : v ≤ d
      · rw [← h v hv, h1 v (by omega) (by omega)] at h8
        exact absurd h8 Bool.false_ne_true
      · omega
  · refine Or.inl ⟨u, by omega, h5, ?_⟩
    rcases soonFrom_s has' 61 0 with ⟨h6, h7⟩ | ⟨v, h6, h7, h8, h9, h10⟩
    · have := h6 u (by omega) (by omega)
      rw [← h u (by omega), h3] at this
      exact absurd this.symm Bool.false_ne_true
    · have hu : u = v := by
        rcases Nat.lt_trichotomy u v with e | e | e
        · have := h9 u (by omega) e
          rw [← h u (by omega), h3] at this
          exact absurd this.symm Bool.false_ne_true
        · exact e
        · have := h4 v (by omega) e
          rw [h v (by omega), h8] at this
          exact absurd this.symm Bool.false_ne_true
      rw [h10, hu]
