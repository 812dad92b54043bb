/-! ===== the pure part: by fewest hands ===== -/
theorem fill_at {f : Nat → Int32} {v : Int32} {k : Nat} : ∀ n, k < n → fill f v n k = v
  | 0, h => absurd h (Nat.not_lt_zero k)
  | n + 1, h => by
    unfold fill
    by_cases e : k = n
    · subst e; exact pk_us
    · rw [upd_ne e, fill_at n (by omega)]
theorem gI_at {a : Int32} {f : Nat → Int32} {i : Nat} : ∀ n, i < n → gI a f n i = if nI i = a then 0 else 1000000
  | 0, h => absurd h (Nat.not_lt_zero i)
  | n + 1, h => by
    unfold gI
    by_cases e : i = n
    · subst e; exact pk_us
    · rw [upd_ne e, gI_at n (by omega)]
theorem fhI_at {nr : Nat → Int32} {z t : Nat} {w : Nat → Int32} : ∀ n, n ≤ 5 → ∀ p, fhI nr z t w n p = if 5 - n < p ∧ p ≤ 5 then w p ||| spdS nr t (w (p - 1)) 0 z else w p
  | 0, _, p => by
    rw [if_neg (by omega)]
    rfl
  | n + 1, hn, p => by
    unfold fhI
    by_cases e : p = 5 - n
    · subst e
      rw [pk_us, fhI_at n (by omega), fhI_at n (by omega), if_neg (by omega), if_neg (by omega), if_pos (by omega)]
    · rw [upd_ne e, fhI_at n (by omega)]
      by_cases h : 5 - n < p ∧ p ≤ 5
      · rw [if_pos h, if_pos (by omega)]
      · rw [if_neg h, if_neg (by omega)]
theorem fhW_s {nr : Nat → Int32} {z t : Nat} {w : Nat → Int32} (p : Nat) : fhW nr z w (t + 1) p = if 0 < p ∧ p ≤ 5 then fhW nr z w t p ||| spdS nr t (fhW nr z w t (p - 1)) 0 z else fhW nr z w t p := fhI_at 5 (Nat.le_refl 5) p
def thN (g : Nat → Nat) (near : Nat → Nat → Bool) (i : Nat) : Nat → Nat
  | 0 => g i
  | e + 1 => if thN g near i e ≤ g e + 1 then thN g near i e else if near e i then g e + 1 else thN g near i e
theorem thN_le (g : Nat → Nat) (near : Nat → Nat → Bool) (i : Nat) : ∀ n, thN g near i n ≤ g i
  | 0 => Nat.le_refl _
  | n + 1 => by
    have ih := thN_le g near i n
    unfold thN
    by_cases h : thN g near i n ≤ g n + 1
    · rw [if_pos h]; exact ih
    · rw [if_neg h]
      by_cases h2 : near n i = true
      · rw [if_pos h2]; omega
      · rw [if_neg h2]; exact ih
theorem thN_iff (g : Nat → Nat) (near : Nat → Nat → Bool) (i j : Nat) : ∀ n, thN g near i n ≤ j ↔ (g i ≤ j ∨ ∃ e, e < n ∧ near e i = true ∧ g e + 1 ≤ j)
  | 0 => ⟨fun h => Or.inl h, fun h => h.elim id (fun ⟨e, he, _⟩ => absurd he (Nat.not_lt_zero e))⟩
  | n + 1 => by
    have ih := thN_iff g near i j n
    have split : (∃ e, e < n + 1 ∧ near e i = true ∧ g e + 1 ≤ j) ↔ ((∃ e, e < n ∧ near e i = true ∧ g e + 1 ≤ j) ∨ (near n i = true ∧ g n + 1 ≤ j)) := by
      constructor
      · rintro ⟨e, h1, h2⟩
        rcases Nat.lt_or_ge e n with h | h
        · exact Or.inl ⟨e, h, h2⟩
        · have : e = n := by omega
          subst this
          exact Or.inr h2
      · rintro (⟨e, h1, h2⟩ | h)
        · exact ⟨e, by omega, h2⟩
        · exact ⟨n, by omega, h⟩
    have e0 : thN g near i (n + 1) = if thN g near i n ≤ g n + 1 then thN g near i n else if near n i then g n + 1 else thN g near i n := rfl
    rw [split, ← or_assoc, ← ih, e0]
    by_cases h : thN g near i n ≤ g n + 1
    · rw [if_pos h]
      exact ⟨fun h1 => Or.inl h1, fun h1 => h1.elim id (fun h2 => Nat.le_trans h h2.2)⟩
    · rw [if_neg h]
      by_cases h2 : near n i = true
      · rw [if_pos h2]
        exact ⟨fun h1 => Or.inr ⟨h2, h1⟩, fun h1 => h1.elim (fun h3 => by omega) (fun h3 => h3.2)⟩
      · rw [if_neg h2]
        exact ⟨fun h1 => Or.inl h1, fun h1 => h1.elim id (fun h3 => absurd h3.1 h2)⟩
theorem thN_or (g : Nat → Nat) (near : Nat → Nat → Bool) (i : Nat) : ∀ n, thN g near i n = g i ∨ ∃ e, e < n ∧ thN g near i n = g e + 1
  | 0 => Or.inl rfl
  | n + 1 => by
    have ih : thN g near i n = g i ∨ ∃ e, e < n + 1 ∧ thN g near i n = g e + 1 := (thN_or g near i n).imp id (fun ⟨e, h1, h2⟩ => ⟨e, by omega, h2⟩)
    unfold thN
    by_cases h : thN g near i n ≤ g n + 1
    · rw [if_pos h]; exact ih
    · rw [if_neg h]
      by_cases h2 : near n i = true
      · rw [if_pos h2]; exact Or.inr ⟨n, by omega, rfl⟩
      · rw [if_neg h2]; exact ih
theorem thE_n {F : Nat → Nat → Int32} {g : Nat → Int32} {c : Nat → Nat} {i z : Nat} {m : Int32} (hi : i < z) (hg : ∀ e, e < z → g e = nI (c e)) (hc : ∀ e, c e ≤ 1000000) : ∀ n, n ≤ z → thE F g i m n = nI (thN c (fun e i => nrM F e i m) i n)
  | 0, _ => hg i hi
  | n + 1, hn => by
    have ih := thE_n (F := F) (m := m) hi hg hc n (by omega)
    have h1 := thN_le c (fun e i => nrM F e i m) i n
    have h2 := hc i
    have h3 := hc n
    unfold thE thN
    rw [ih, hg n (by omega), nI_1]
    by_cases h : thN c (fun e i => nrM F e i m) i n ≤ c n + 1
    · rw [if_pos h, if_pos ((nI_leI (by omega) (by omega)).mpr h)]
    · rw [if_neg h, if_neg (fun h4 => h ((nI_leI (by omega) (by omega)).mp h4))]
      by_cases h4 : nrM F n i m = true
      · rw [if_pos h4, if_pos h4]
      · rw [if_neg h4, if_neg h4]
theorem thA_at {F : Nat → Nat → Int32} {g : Nat → Int32} {m : Int32} {z : Nat} {t : Nat → Int32} {i : Nat} : ∀ n, i < n → thA F g m z t n i = thE F g i m z
  | 0, h => absurd h (Nat.not_lt_zero i)
  | n + 1, h => by
    unfold thA
    by_cases e : i = n
    · subst e; exact pk_us
    · rw [upd_ne e, thA_at n (by omega)]
theorem gcp_at {t g : Nat → Int32} {i : Nat} : ∀ n, i < n → gcp t g n i = t i
  | 0, h => absurd h (Nat.not_lt_zero i)
  | n + 1, h => by
    unfold gcp
    by_cases e : i = n
    · subst e; exact pk_us
    · rw [upd_ne e, gcp_at n (by omega)]
theorem hgS_s {F : Nat → Nat → Int32} {m : Int32} {z : Nat} {g0 t0 : Nat → Int32} {k i : Nat} (hi : i < z) : (hgS F m z g0 t0 (k + 1)).1 i = thE F (hgS F m z g0 t0 k).1 i (m + nI k) z := by
  show gcp (thA F (hgS F m z g0 t0 k).1 (m + nI k) z (hgS F m z g0 t0 k).2 z) (hgS F m z g0 t0 k).1 z i = _
  rw [gcp_at z hi, thA_at z hi]
def gaN (near : Nat → Nat → Nat → Bool) (a z : Nat) : Nat → Nat → Nat
  | 0, i => if i = a then 0 else 1000000
  | t + 1, i => thN (gaN near a z t) (near t) i z
theorem gaN_le (near : Nat → Nat → Nat → Bool) (a z : Nat) : ∀ t i, gaN near a z t i ≤ 1000000
  | 0, i => by
    unfold gaN
    split <;> omega
  | t + 1, i => Nat.le_trans (thN_le _ _ _ _) (gaN_le near a z t i)
theorem hg_n {F : Nat → Nat → Int32} {m : Int32} {z a : Nat} {g0 t0 : Nat → Int32} (h0 : ∀ i, i < z → g0 i = nI (if i = a then 0 else 1000000)) : ∀ t i, i < z → (hgS F m z g0 t0 t).1 i = nI (gaN (fun t e i => nrM F e i (m + nI t)) a z t i)
  | 0, i, hi => h0 i hi
  | t + 1, i, hi => by
    rw [hgS_s hi]
    exact thE_n hi (fun e he => hg_n h0 t e he) (gaN_le _ a z t) z (Nat.le_refl z)
theorem wn_n {F : Nat → Nat → Int32} {m : Int32} {z a : Nat} {nr w : Nat → Int32} (hz : z ≤ 6) (ha : a < z) (hw : ∀ k, k ≤ 5 → w k = 1 <<< (nI a &&& 31)) (hnr : ∀ t, t < 60 → ∀ i, i < z → nr (t * 6 + i) = reachM F z i (m + nI t)) : ∀ t, t ≤ 60 → ∀ k, k ≤ 5 → ∀ i, i < z → (hasS (fhW nr z w t k) (nI i) = true ↔ gaN (fun t e i => nrM F e i (m + nI t)) a z t i ≤ k)
  | 0, _, k, hk, i, hi => by
    show hasS (w k) (nI i) = true ↔ (if i = a then 0 else 1000000) ≤ k
    rw [hw k hk, has_sh (by omega) (by omega), decide_eq_true_eq]
    by_cases e : i = a
    · rw [if_pos e]; exact ⟨fun _ => Nat.zero_le k, fun _ => e⟩
    · rw [if_neg e]; exact ⟨fun h => absurd h e, fun h => by omega⟩
  | t + 1, ht, k, hk, i, hi => by
    have ih := wn_n hz ha hw hnr t (by omega)
    rw [fhW_s]
    show _ ↔ thN (gaN (fun t e i => nrM F e i (m + nI t)) a z t) (fun e i => nrM F e i (m + nI t)) i z ≤ k
    rw [thN_iff]
    by_cases h0 : 0 < k ∧ k ≤ 5
    · rw [if_pos h0, has_or _ _ (by omega), Bool.or_eq_true, has_spd _ _ _ _ (by omega) z (by omega), ih k hk i hi, ih (k - 1) (by omega) i hi]
      constructor
      · rintro (h | h | ⟨e, h1, ⟨h2, -⟩, h3, -⟩)
        · exact Or.inl h
        · exact Or.inl (by omega)
        · have h4 := (ih (k - 1) (by omega) e h1).mp h2
          rw [hnr t (by omega) e h1] at h3
          unfold reachM at h3
          rw [has_bits _ (by omega) z (by omega), Bool.and_eq_true] at h3
          exact Or.inr ⟨e, h1, h3.2, by omega⟩
      · rintro (h | ⟨e, h1, h2, h3⟩)
        · exact Or.inl h
        · refine Or.inr (Or.inr ⟨e, h1, ⟨(ih (k - 1) (by omega) e h1).mpr (by omega), has_0 (by omega)⟩, ?_, has_0 (by omega)⟩)
          rw [hnr t (by omega) e h1]
          unfold reachM
          rw [has_bits _ (by omega) z (by omega), Bool.and_eq_true, decide_eq_true_eq]
          exact ⟨hi, h2⟩
    · rw [if_neg h0, ih k hk i hi]
      constructor
      · exact fun h => Or.inl h
      · rintro (h | ⟨e, h1, h2, h3⟩)
        · exact h
        · omega
def cntN (g : Nat → Nat) (j : Nat) : Nat → Nat
  | 0 => 0
  | n + 1 => cntN g j n + (if g n ≤ j then 1 else 0)
theorem cnt_le (g : Nat → Nat) (j : Nat) : ∀ n, cntN g j n ≤ n
  | 0 => Nat.le_refl 0
  | n + 1 => by
    have := cnt_le g j n
    unfold cntN
    split <;> omega
theorem cnt_mono {g g' : Nat → Nat} {j j' : Nat} (hj : j ≤ j') : ∀ n, (∀ i, i < n → g' i ≤ g i) → cntN g j n ≤ cntN g' j' n
  | 0, _ => Nat.le_refl 0
  | n + 1, h => by
    have h1 := cnt_mono hj n (fun i hi => h i (by omega))
    have h2 := h n (by omega)
    unfold cntN
    by_cases h3 : g n ≤ j
    · rw [if_pos h3, if_pos (by omega)]; omega
    · rw [if_neg h3]; omega
theorem cnt_str {g : Nat → Nat} {j i : Nat} (hg : g i = j + 1) : ∀ n, i < n → cntN g j n + 1 ≤ cntN g (j + 1) n
  | 0, h => absurd h (Nat.not_lt_zero i)
  | n + 1, h => by
    unfold cntN
    by_cases e : i = n
    · subst e
      have h1 := cnt_mono (g := g) (g' := g) (show j ≤ j + 1 by omega) i (fun _ _ => Nat.le_refl _)
      rw [if_neg (by omega), if_pos (by omega)]
      omega
    · have h1 := cnt_str hg n (by omega)
      by_cases h3 : g n ≤ j
      · rw [if_pos h3, if_pos (by omega)]; omega
      · rw [if_neg h3]; omega
theorem cnt_one {g : Nat → Nat} {j i : Nat} (hg : g i ≤ j) : ∀ n, i < n → 1 ≤ cntN g j n
  | 0, h => absurd h (Nat.not_lt_zero i)
  | n + 1, h => by
    unfold cntN
    by_cases e : i = n
    · subst e
      rw [if_pos hg]; omega
    · have h1 := cnt_one hg n (by omega)
      omega
def cntP (g : Nat → Nat) (z : Nat) : Prop := ∀ i, i < z → g i < 1000000 → ∀ j, j < g i → j + 1 ≤ cntN g j z
theorem cntP_ga (near : Nat → Nat → Nat → Bool) (a z : Nat) : ∀ t, cntP (gaN near a z t) z
  | 0 => by
    intro i hi h j hj
    have e : gaN near a z 0 i = if i = a then 0 else 1000000 := rfl
    rw [e] at h hj
    by_cases ha : i = a
    · rw [if_pos ha] at hj; omega
    · rw [if_neg ha] at h; omega
  | t + 1 => by
    have ih := cntP_ga near a z t
    intro i hi h j hj
    have e : ∀ i, gaN near a z (t + 1) i = thN (gaN near a z t) (near t) i z := fun i => rfl
    have hm : ∀ j, cntN (gaN near a z t) j z ≤ cntN (gaN near a z (t + 1)) j z := fun j => cnt_mono (Nat.le_refl j) z (fun i _ => by rw [e]; exact thN_le _ _ _ _)
    refine Nat.le_trans ?_ (hm j)
    rw [e] at h hj
    rcases thN_or (gaN near a z t) (near t) i z with h1 | ⟨u, hu, h1⟩
    · rw [h1] at h hj
      exact ih i hi h j hj
    · rw [h1] at h hj
      rcases Nat.lt_or_ge j (gaN near a z t u) with h2 | h2
      · exact ih u hu (by omega) j h2
      · have h3 : gaN near a z t u = j := by omega
        rcases j with _ | j
        · exact cnt_one (by omega) z hu
        · have h4 := ih u hu (by omega) j (by omega)
          have h5 := cnt_str h3 z hu
          omega
theorem ga_z (near : Nat → Nat → Nat → Bool) (a z t : Nat) {i : Nat} (hi : i < z) (h : gaN near a z t i < 1000000) : gaN near a z t i < z := by
  have hP := cntP_ga near a z t i hi h
  generalize hh : gaN near a z t i = x at *
  rcases x with _ | x
  · omega
  · have h4 := hP x (by omega)
    have h5 := cnt_str hh z hi
    have h6 := cnt_le (gaN near a z t) (x + 1) z
    omega
theorem hdFrom_s (has : Nat → Bool) : ∀ n k, ((∀ u, k ≤ u → u < k + n → has u = false) ∧ hdFrom has n k = -1000000) ∨ ∃ u, k ≤ u ∧ u < k + n ∧ has u = true ∧ (∀ v, k ≤ v → v < u → has v = false) ∧ hdFrom has n k = nI u
  | 0, k => Or.inl ⟨fun u h1 h2 => by omega, rfl⟩
  | n + 1, k => by
    unfold hdFrom
    cases h : has k
    · rw [if_neg Bool.false_ne_true]
      rcases hdFrom_s has n (k + 1) with ⟨h1, h2⟩ | ⟨u, h1, h2, h3, h4, h5⟩
      · refine Or.inl ⟨fun u h3 h4 => ?_, h2⟩
        by_cases e : u = k
        · rw [e]; exact h
        · exact h1 u (by omega) (by omega)
      · refine Or.inr ⟨u, by omega, by omega, h3, fun v h6 h7 => ?_, h5⟩
        by_cases e : v = k
        · rw [e]; exact h
        · exact h4 v (by omega) (by omega)
    · rw [if_pos rfl]
      exact Or.inr ⟨k, by omega, by omega, h, fun v h1 h2 => by omega, rfl⟩
theorem hd_told {has : Nat → Bool} {c : Nat} (hc : c ≤ 1000000) (h : ∀ k, k ≤ 5 → (has k = true ↔ c ≤ k)) (h6 : c < 1000000 → c < 6) : hdFrom has 6 0 = toldM (nI c) := by
  unfold toldM
  rcases hdFrom_s has 6 0 with ⟨h1, h2⟩ | ⟨u, h1, h2, h3, h4, h5⟩
  · rw [h2, if_neg]
    intro h7
    have h8 := (nI_ltI (b := 1000000) (by omega) (by omega)).mp h7
    have h9 := h6 h8
    have h10 := (h c (by omega)).mpr (Nat.le_refl c)
    rw [h1 c (by omega) (by omega)] at h10
    exact absurd h10 Bool.false_ne_true
  · have h7 := (h u (by omega)).mp h3
    have h8 : c = u := by
      rcases Nat.lt_or_ge c u with h9 | h9
      · have h10 := (h c (by omega)).mpr (Nat.le_refl c)
        rw [h4 c (by omega) h9] at h10
        exact absurd h10 Bool.false_ne_true
      · omega
    rw [h5, h8, if_pos (show nI u < 1000000 from (nI_ltI (b := 1000000) (by omega) (by omega)).mpr (by omega))]
section
variable {S S' : Nat → Nat → Nat → Int32} {M M' : Nat → Nat → Int32} {z o q ln tr : Nat}
theorem rp_7t (O : Nat → Nat → Int32) (A B : Nat → Int32) (h : RelP S M z o q ln tr) : RelP (up3 S 7 O) (up2 (up2 M 21 A) 22 B) z o q ln tr :=
  rp_q h rfl rfl rfl rfl h.1.2.1 rfl (fun k hk => up3_ne (by omega)) (fun j hj => up3_ne (by omega)) rfl rfl rfl rfl rfl rfl rfl rfl rfl rfl rfl rfl rfl
theorem rel_hands (h : RelP S M z o q ln tr) (a b : Int32) : (handsC S z a b).1 = (handsM M z a b).1 ∧ Rel ((handsC S z a b).2) ((handsM M z a b).2) := by
  unfold handsC handsM
  rw [rp_bel h, rp_bel h]
  by_cases h1 : inI a 0 (M 4 0 - 1) = true
  · rw [if_pos h1, if_pos h1]
    by_cases h2 : inI b 0 (M 4 0 - 1) = true
    · rw [if_pos h2, if_pos h2]
      refine ⟨?_, z, o, q, ln, tr, rp_7t _ _ _ h⟩
      obtain ⟨i, hi, rfl⟩ := rp_ix h h1
      obtain ⟨j, hj, rfl⟩ := rp_ix h h2
      have hz := h.1.1.2.1
      dsimp only
      rw [ix_nI (show j < 2 ^ 31 by omega), hdT_eq, fwV_eq, hgT_eq, hg_n (a := i) (fun u hu => ?_) 60 j hj]
      · refine hd_told (gaN_le _ _ _ _ _) (fun k hk => ?_) (fun h3 => Nat.lt_of_lt_of_le (ga_z _ _ _ _ hj h3) hz)
        exact wn_n hz hi (fun k hk => fill_at 6 (by omega)) (fun t ht i hi => olT_r h.1.1 h.1.2.2 (fr_ok (S 7) (S 2) hz 60) (by omega) t ht i hi) 60 (by omega) k hk j hj
      · rw [gI_at 6 (by omega)]
        by_cases e : u = i
        · rw [if_pos e, if_pos (by rw [e])]
          rfl
        · rw [if_neg e, if_neg (fun h3 => e ((nI_eq (by omega) (by omega)).mp h3))]
          rfl
    · rw [if_neg h2, if_neg h2]; exact ⟨rfl, z, o, q, ln, tr, h⟩
  · rw [if_neg h1, if_neg h1]; exact ⟨rfl, z, o, q, ln, tr, h⟩
end
