/-! ===== the pure part: sling, cord, minutes, undo ===== -/
theorem xor_c {c j : Nat} (hc : c < 64) (hj : j < 6) : nI c ^^^ (1 <<< (nI j &&& 31)) = nI (c ^^^ 2 ^ j) := by
  have : ∀ c, c < 64 → ∀ j, j < 6 → nI c ^^^ (1 <<< (nI j &&& 31)) = nI (c ^^^ 2 ^ j) := by decide +kernel
  exact this c hc j hj
theorem up2_ne {F : Nat → Nat → Int32} {k c : Nat} {f : Nat → Int32} (h : k ≠ c) : up2 F c f k = F k := by
  unfold up2
  cases hb : Nat.beq k c with
  | false => rfl
  | true => exact absurd (Nat.eq_of_beq_eq_true hb) h
theorem min_pm {m : Nat} : (nI m + 1 : Int32) - 1 = nI m := by
  rw [show (1 : Int32) = nI 1 from rfl, nI_add, pk_sub (by omega), Nat.add_sub_cancel]
section
variable {S S' : Nat → Nat → Nat → Int32} {M M' : Nat → Nat → Int32} {z o q ln tr : Nat}
theorem rel_sling (h : RelP S M z o q ln tr) (x a b : Int32) : (slingC S o q x a b).1 = (slingM M q x a b).1 ∧ Rel (slingC S o q x a b).2 (slingM M q x a b).2 := by
  unfold slingC slingM
  rw [rp_bel h]
  by_cases h1 : inI x 0 (M 4 0 - 1) = true
  · rw [if_pos h1, if_pos h1]
    by_cases hg : ¬ a < 0 ∧ ¬ 12 ≤ b ∧ a < b
    · obtain ⟨g1, g2, g3⟩ := hg
      have hb12 : b < 12 := Int32.not_le.mp g2
      have ha12 : a < 12 := Int32.lt_trans g3 hb12
      obtain ⟨u, hu, rfl⟩ := nI_of2 (M := 11) (n := 11) rfl g1 (by
        rw [Int32.le_iff_toInt_le]; rw [Int32.lt_iff_toInt_lt] at ha12
        have e1 : (11 : Int32).toInt = 11 := rfl
        have e2 : (12 : Int32).toInt = 12 := rfl
        omega)
      have hb0 : ¬ b < 0 := fun e => g1 (Int32.lt_trans g3 e)
      obtain ⟨v, hv, rfl⟩ := nI_of2 (M := 11) (n := 11) rfl hb0 (by
        rw [Int32.le_iff_toInt_le]; rw [Int32.lt_iff_toInt_lt] at hb12
        have e1 : (11 : Int32).toInt = 11 := rfl
        have e2 : (12 : Int32).toInt = 12 := rfl
        omega)
      have huv : u < v := (nI_ltI (by omega) (by omega)).mp g3
      have in11 : ∀ k, k ≤ 11 → inI (nI k) 0 11 = true := by
        have : ∀ k, k < 12 → inI (nI k) 0 11 = true := by decide +kernel
        exact fun k hk => this k (by omega)
      rw [if_neg g1, if_neg g2, if_pos g3, if_pos (in11 u hu), if_pos (in11 v hv), if_pos g3]
      obtain ⟨j, hj, rfl⟩ := rp_ix h h1
      have hz := h.1.1.2.1
      rw [ix_nI (by omega), nI_clamp (by omega)]
      obtain ⟨⟨a1, a2, a3, a4, a5, a6, a7, a8, a9⟩, b1, c1, c2, c3, c4, c5, c6, c7, c8⟩ := id h.1
      have e1 : S 2 1 j = M 4 (10 + j) := c7 j hj 1 (by omega)
      have e2 : S 2 2 j = M 4 (16 + j) := c7 j hj 2 (by omega)
      have hok : okF (up2 (up2 (S 2) 1 (upd (S 2 1) j (nI u))) 2 (upd (S 2 2) j (nI v))) z := by
        refine ⟨a1, a2, a3, a4, a5, a6, a7, a8, fun i hi => ⟨(a9 i hi).1, ?_, (a9 i hi).2.2.1, (a9 i hi).2.2.2⟩⟩
        show ∃ a b, a < b ∧ b ≤ 11 ∧ upd (S 2 1) j (nI u) i = nI a ∧ upd (S 2 2) j (nI v) i = nI b
        unfold upd
        by_cases e : i = j
        · rw [if_pos e, if_pos e]; exact ⟨u, v, huv, hv, rfl, rfl⟩
        · rw [if_neg e, if_neg e]; exact (a9 i hi).2.1
      have n2 : ∀ k, k ≠ 10 + j → k ≠ 16 + j → upd (upd (M 4) (10 + j) (nI u)) (16 + j) (nI v) k = M 4 k := fun k h1 h2 => (upd_ne h2).trans (upd_ne h1)
      have hrf : rF (up2 (up2 (S 2) 1 (upd (S 2 1) j (nI u))) 2 (upd (S 2 2) j (nI v))) (upd (upd (M 4) (10 + j) (nI u)) (16 + j) (nI v)) z := by
        refine ⟨c1.trans (n2 _ (by omega) (by omega)).symm, c2.trans (n2 _ (by omega) (by omega)).symm, c3.trans (n2 _ (by omega) (by omega)).symm, c4.trans (n2 _ (by omega) (by omega)).symm, c5.trans (n2 _ (by omega) (by omega)).symm, c6.trans (n2 _ (by omega) (by omega)).symm, fun i hi k hk => ?_, fun i hi => ?_⟩
        · match k, hk with
          | 0, _ => exact (c7 i hi 0 (by omega)).trans (n2 (4 + i) (by omega) (by omega)).symm
          | 1, _ =>
            show upd (S 2 1) j (nI u) i = upd (upd (M 4) (10 + j) (nI u)) (16 + j) (nI v) (10 + i)
            rw [upd_ne (show 10 + i ≠ 16 + j by omega)]
            unfold upd
            by_cases e : i = j
            · rw [if_pos e, if_pos (by omega)]
            · rw [if_neg e, if_neg (by omega)]; exact c7 i hi 1 (by omega)
          | 2, _ =>
            show upd (S 2 2) j (nI v) i = upd (upd (M 4) (10 + j) (nI u)) (16 + j) (nI v) (16 + i)
            unfold upd
            by_cases e : i = j
            · rw [if_pos e, if_pos (by omega)]
            · rw [if_neg e, if_neg (by omega), if_neg (by omega)]; exact c7 i hi 2 (by omega)
          | 3, _ => exact (c7 i hi 3 (by omega)).trans (n2 (22 + i) (by omega) (by omega)).symm
          | 4, _ => exact (c7 i hi 4 (by omega)).trans (n2 (28 + i) (by omega) (by omega)).symm
        · obtain ⟨w, hw, e⟩ := c8 i hi
          exact ⟨w, hw, (n2 (28 + i) (by omega) (by omega)).trans e⟩
      have key := rp_act h _ _ 1 (nI j) (S 2 1 j) (S 2 2 j) j (by omega) rfl hok hrf (by
        unfold tbS
        rw [if_pos rfl]
        exact ⟨rfl, (upd_u (f := S 2 1) (h := j) (x := nI u) (y := S 2 1 j)).trans (upd_self _ _), (upd_u (f := S 2 2) (h := j) (x := nI v) (y := S 2 2 j)).trans (upd_self _ _), rfl, rfl, rfl, rfl, rfl, rfl, rfl, rfl⟩)
      rw [e1, e2]
      rw [e1, e2] at key
      have hp : plS (up2 (up2 (S 2) 1 (upd (S 2 1) j (nI u))) 2 (upd (S 2 2) j (nI v))) j (S 2 8 0) = plS (vw (upd (upd (M 4) (10 + j) (nI u)) (16 + j) (nI v))) j (M 4 35) := by rw [plS_r hrf hj, c6]
      by_cases k1_ : M 4 (10 + j) = nI u
      · rw [if_pos k1_, if_pos k1_]
        by_cases k2 : M 4 (16 + j) = nI v
        · rw [if_pos k2, if_pos k2]; exact ⟨rfl, z, o, q, ln, tr, h⟩
        · rw [if_neg k2, if_neg k2]; exact ⟨hp, z, _, _, ln, tr, key⟩
      · rw [if_neg k1_, if_neg k1_]; exact ⟨hp, z, _, _, ln, tr, key⟩
    · have hL : ∀ X : Int32 × (Nat → Nat → Nat → Int32), (if a < 0 then ((-1000001 : Int32), S) else if 12 ≤ b then (-1000001, S) else if a < b then X else (-1000001, S)) = (-1000001, S) := by
        intro X
        by_cases g1 : a < 0
        · rw [if_pos g1]
        by_cases g2 : 12 ≤ b
        · rw [if_neg g1, if_pos g2]
        rw [if_neg g1, if_neg g2, if_neg (fun g3 => hg ⟨g1, g2, g3⟩)]
      have hR : ∀ X : Int32 × (Nat → Nat → Int32), (if inI a 0 11 = true then (if inI b 0 11 = true then (if a < b then X else ((-1000001 : Int32), M)) else (-1000001, M)) else (-1000001, M)) = (-1000001, M) := by
        intro X
        by_cases g1 : inI a 0 11 = true
        · rw [if_pos g1]
          by_cases g2 : inI b 0 11 = true
          · rw [if_pos g2]
            by_cases g3 : a < b
            · exfalso
              unfold inI at g1 g2
              simp only [Bool.and_eq_true, decide_eq_true_eq] at g1 g2
              refine hg ⟨Int32.not_lt.mpr g1.1, Int32.not_le.mpr ?_, g3⟩
              have := g2.2
              rw [Int32.le_iff_toInt_le] at this
              rw [Int32.lt_iff_toInt_lt]
              have e1 : (11 : Int32).toInt = 11 := rfl
              have e2 : (12 : Int32).toInt = 12 := rfl
              omega
            · rw [if_neg g3]
          · rw [if_neg g2]
        · rw [if_neg g1]
      rw [hL, hR]
      exact ⟨rfl, z, o, q, ln, tr, h⟩
  · rw [if_neg h1, if_neg h1]
    exact ⟨rfl, z, o, q, ln, tr, h⟩
theorem rel_cord (h : RelP S M z o q ln tr) (x c : Int32) : (cordC S o q x c).1 = (cordM M q x c).1 ∧ Rel (cordC S o q x c).2 (cordM M q x c).2 := by
  unfold cordC cordM
  rw [rp_bel h, bel2]
  by_cases h1 : inI x 0 (M 4 0 - 1) = true
  · rw [if_pos h1, if_pos h1]
    by_cases h2 : inI c 0 1 = true
    · rw [if_pos h2, if_pos h2]
      obtain ⟨j, hj, rfl⟩ := rp_ix h h1
      have hz := h.1.1.2.1
      obtain ⟨⟨a1, a2, a3, a4, a5, a6, a7, a8, a9⟩, b1, c1, c2, c3, c4, c5, c6, c7, c8⟩ := id h.1
      rw [ix_nI (by omega), cut_has, c5]
      by_cases h3 : bB (hasS (M 4 34) (nI j)) = if c = 1 then 1 else 0
      · rw [if_pos h3, if_pos h3]; exact ⟨rfl, z, o, q, ln, tr, h⟩
      · rw [if_neg h3, if_neg h3]
        obtain ⟨cu, hcu, ecu⟩ := a8
        have h64 : cu < 64 := by
          have := p2_64 hz
          omega
        have hM : M 4 34 = nI cu := by rw [← c5]; exact ecu
        rw [hM, xor_c h64 (by omega)]
        have hok : okF (up2 (S 2) 10 (k1 (nI (cu ^^^ 2 ^ j)))) z := ⟨a1, a2, a3, a4, a5, a6, a7, ⟨_, Nat.xor_lt_two_pow hcu (Nat.pow_lt_pow_right (by omega) hj), rfl⟩, a9⟩
        have hrf : rF (up2 (S 2) 10 (k1 (nI (cu ^^^ 2 ^ j)))) (upd (M 4) 34 (nI (cu ^^^ 2 ^ j))) z := by
          refine ⟨c1.trans (upd_ne (by omega)).symm, c2.trans (upd_ne (by omega)).symm, c3.trans (upd_ne (by omega)).symm, c4.trans (upd_ne (by omega)).symm, pk_us.symm, c6.trans (upd_ne (by omega)).symm, fun i hi k hk => ?_, fun i hi => ?_⟩
          · rw [up2_ne (by omega)]; exact (c7 i hi k hk).trans (vw_upd (p := 34) hk (by omega) (by omega)).symm
          · rw [vw_upd (by omega) hi (by omega)]; exact c8 i hi
        have key := rp_act h _ _ 3 (nI j) 0 0 j (by omega) rfl hok hrf (by
          unfold tbS
          rw [if_neg (by decide), if_neg (by decide), if_pos rfl]
          refine ⟨rfl, rfl, rfl, rfl, rfl, rfl, rfl, rfl, rfl, rfl, ?_⟩
          show nI (cu ^^^ 2 ^ j) ^^^ (1 <<< (nI j &&& 31)) = S 2 10 0
          rw [xor_c (Nat.lt_of_lt_of_le (Nat.xor_lt_two_pow hcu (Nat.pow_lt_pow_right (by omega) hj)) (p2_64 hz)) (by omega), Nat.xor_assoc, Nat.xor_self, Nat.xor_zero]
          exact ecu.symm)
        exact ⟨rfl, z, _, _, ln, tr, key⟩
    · rw [if_neg h2, if_neg h2]; exact ⟨rfl, z, o, q, ln, tr, h⟩
  · rw [if_neg h1, if_neg h1]
    exact ⟨rfl, z, o, q, ln, tr, h⟩
/-- a minute more -/
theorem rp_min1 (h : RelP S M z o q ln tr) {a : Nat} (ha : S 2 8 0 = nI a) (h9 : a + 1 ≤ 999) : RelP (minC1 S o q) (minM1 M q) z (oN o q) (qN q) ln tr := by
  obtain ⟨⟨a1, a2, a3, a4, a5, a6, a7, a8, a9⟩, b1, c1, c2, c3, c4, c5, c6, c7, c8⟩ := id h.1
  have e35 : M 4 35 = nI a := by rw [← c6]; exact ha
  have hok : okF (up2 (S 2) 8 (k1 (S 2 8 0 + 1))) z := ⟨a1, a2, a3, a4, a5, a6, ⟨a + 1, h9, by show S 2 8 0 + 1 = _; rw [ha]; exact nI_1 a⟩, a8, a9⟩
  have hrf : rF (up2 (S 2) 8 (k1 (S 2 8 0 + 1))) (upd (M 4) 35 (M 4 35 + 1)) z := by
    refine ⟨c1.trans (upd_ne (by omega)).symm, c2.trans (upd_ne (by omega)).symm, c3.trans (upd_ne (by omega)).symm, c4.trans (upd_ne (by omega)).symm, c5.trans (upd_ne (by omega)).symm, ?_, fun i hi k hk => ?_, fun i hi => ?_⟩
    · show S 2 8 0 + 1 = upd (M 4) 35 (M 4 35 + 1) 35
      rw [pk_us, c6]
    · rw [up2_ne (by omega)]; exact (c7 i hi k hk).trans (vw_upd (p := 35) hk (by have := a2; omega) (by have := a2; omega)).symm
    · rw [vw_upd (by omega) hi (by omega)]; exact c8 i hi
  exact rp_act h _ _ 0 0 0 0 0 (by omega) rfl hok hrf (by
    unfold tbS
    rw [if_neg (by decide), if_neg (by decide), if_neg (by decide)]
    refine ⟨rfl, rfl, rfl, rfl, rfl, rfl, rfl, rfl, ?_, rfl, rfl⟩
    show S 2 8 0 + 1 - 1 = S 2 8 0
    rw [ha]
    exact min_pm)
end
theorem min_it {z ln tr : Nat} : ∀ (n : Nat) (S : Nat → Nat → Nat → Int32) (M : Nat → Nat → Int32) (o q a : Nat), RelP S M z o q ln tr → S 2 8 0 = nI a → a + n ≤ 999 → ∃ o' q', RelP (minCn S o q n) (minMn M q n) z o' q' ln tr
  | 0, S, M, o, q, a, h, _, _ => ⟨o, q, h⟩
  | n + 1, S, M, o, q, a, h, ha, h9 => by
    have h1 := rp_min1 h ha (by omega)
    exact min_it n (minC1 S o q) (minM1 M q) (oN o q) (qN q) (a + 1) h1 (by show S 2 8 0 + 1 = _; rw [ha]; exact nI_1 a) (by omega)
section
variable {S S' : Nat → Nat → Nat → Int32} {M M' : Nat → Nat → Int32} {z o q ln tr : Nat}
theorem rel_minutes (h : RelP S M z o q ln tr) (n : Int32) : (minC S z o q n).1 = (minM M z q n).1 ∧ Rel (minC S z o q n).2 (minM M z q n).2 := by
  unfold minC minM
  by_cases h1 : decide (M 4 3 = 1) = true
  · rw [if_pos h1, if_neg (by rw [rp_st1 h]; exact fun z => z h1)]
    by_cases h2 : inI n 1 24 = true
    · rw [if_pos h2]
      have h3 := h2
      unfold inI at h3
      simp only [Bool.and_eq_true, decide_eq_true_eq] at h3
      obtain ⟨k, hk, rfl⟩ := n24M_ex h2
      obtain ⟨a, ha, e1, e2⟩ := rp_min h
      rw [if_neg (Int32.not_lt.mpr h3.1), if_pos h3.2, ix_nI (by omega), e1, e2, nI_add]
      by_cases h4 : nI (a + k) ≤ 999
      · rw [if_pos h4, if_pos h4]
        have h9 : a + k ≤ 999 := (nI_leI (b := 999) (by omega) (by omega)).mp h4
        obtain ⟨o', q', hr⟩ := min_it k S M o q a h e1 h9
        rw [minT_eq, minMT_eq]
        refine ⟨?_, z, o', q', ln, tr, hr⟩
        dsimp only
        rw [hr.1.2.2.2.2.2.2.2.1]
        exact bitsS_congr z (fun i hi => downS_r hr.1.2.2 hi _)
      · rw [if_neg h4, if_neg h4]; exact ⟨rfl, z, o, q, ln, tr, h⟩
    · rw [if_neg h2]
      unfold inI at h2
      simp only [Bool.and_eq_true, decide_eq_true_eq, not_and] at h2
      by_cases h4 : n < 1
      · rw [if_pos h4]; exact ⟨rfl, z, o, q, ln, tr, h⟩
      · rw [if_neg h4, if_neg (h2 (Int32.not_lt.mp h4))]; exact ⟨rfl, z, o, q, ln, tr, h⟩
  · rw [if_neg h1, if_pos (by rw [rp_st1 h]; exact h1)]
    exact ⟨rfl, z, o, q, ln, tr, h⟩
theorem bkF_undo {j : Nat} (hj : ix (S 6 1 ((o + (q - 1)) % 24)) = j) (h2 : S' 2 = tbS (S 2) (S 6 0 ((o + (q - 1)) % 24)) j (S 6 2 ((o + (q - 1)) % 24)) (S 6 3 ((o + (q - 1)) % 24))) (h0 : S' 6 0 = S 6 0) (h1 : S' 6 1 = S 6 1) (h2' : S' 6 2 = S 6 2) (h3 : S' 6 3 = S 6 3) : ∀ n, n + 1 ≤ q → bkF S' o (q - 1) n = bkF S o q (n + 1)
  | 0, _ => by
    unfold bkF
    rw [h2, ← hj]
    rfl
  | n + 1, hn => by
    have ih := bkF_undo hj h2 h0 h1 h2' h3 n (by omega)
    have e3 : bkF S o q (n + 1 + 1) = tbS (bkF S o q (n + 1)) (S 6 0 ((o + (q - (n + 1 + 1))) % 24)) (ix (S 6 1 ((o + (q - (n + 1 + 1))) % 24))) (S 6 2 ((o + (q - (n + 1 + 1))) % 24)) (S 6 3 ((o + (q - (n + 1 + 1))) % 24)) := rfl
    have e4 : bkF S' o (q - 1) (n + 1) = tbS (bkF S' o (q - 1) n) (S' 6 0 ((o + (q - 1 - (n + 1))) % 24)) (ix (S' 6 1 ((o + (q - 1 - (n + 1))) % 24))) (S' 6 2 ((o + (q - 1 - (n + 1))) % 24)) (S' 6 3 ((o + (q - 1 - (n + 1))) % 24)) := rfl
    rw [e3, e4, ih, h0, h1, h2', h3, show q - 1 - (n + 1) = q - (n + 1 + 1) by omega]
theorem rel_undo (h : RelP S M z o q ln tr) (hq0 : 0 < q) (j : Nat) (hj : S 6 1 ((o + (q - 1)) % 24) = nI j) (hj6 : j < 6) : Rel (up3 (up3 S 2 (tbS (S 2) (S 6 0 ((o + (q - 1)) % 24)) j (S 6 2 ((o + (q - 1)) % 24)) (S 6 3 ((o + (q - 1)) % 24)))) 6 (up2 (S 6) 5 (k1 (nI (q - 1))))) (up2 (up2 M 8 (k1 (nI (q - 1)))) 4 (va_cpy (M 7) (M 4) (36 * (q - 1)) 0 36)) := by
  obtain ⟨⟨a1, a2, a3⟩, ⟨b1, b2, b3⟩, c, d, f_, g, i⟩ := id h
  have hjx : ix (S 6 1 ((o + (q - 1)) % 24)) = j := by rw [hj]; exact ix_nI (by omega)
  obtain ⟨-, o1, r1⟩ := b3 0 hq0
  have e1 : bkF S o q (0 + 1) = tbS (S 2) (S 6 0 ((o + (q - 1)) % 24)) j (S 6 2 ((o + (q - 1)) % 24)) (S 6 3 ((o + (q - 1)) % 24)) := by rw [← hjx]; rfl
  rw [e1] at o1 r1
  have e4 : ∀ c, c ≠ 2 → c ≠ 6 → up3 (up3 S 2 (tbS (S 2) (S 6 0 ((o + (q - 1)) % 24)) j (S 6 2 ((o + (q - 1)) % 24)) (S 6 3 ((o + (q - 1)) % 24)))) 6 (up2 (S 6) 5 (k1 (nI (q - 1)))) c = S c := fun c h1 h2 => (up3_ne h2).trans (up3_ne h1)
  refine ⟨z, o, q - 1, ln, tr, ⟨o1, a2, rF_t (fun n hn => ?_) a1.2.1 r1⟩, ⟨⟨b1.1, b1.2.1, rfl, by have := b1.2.2.2; omega⟩, rfl, fun n hn => ?_⟩, c, d, f_, fun i hi => rRow_same (e4 _ (by omega) (by omega)) rfl rfl (fun _ _ => rfl) (g i hi), fun k hk => ?_⟩
  · show va_cpy (M 7) (M 4) (36 * (q - 1)) 0 36 n = M 7 (36 * (q - (0 + 1)) + n)
    have := cpy_at (f := M 7) (u := M 4) (i := 36 * (q - 1)) (j := 0) (n := 36) hn
    rw [Nat.zero_add] at this
    exact this
  · obtain ⟨⟨j2, hj2, e5⟩, o2, r2⟩ := b3 (n + 1) (by omega)
    have hb := bkF_undo (S := S) (S' := up3 (up3 S 2 (tbS (S 2) (S 6 0 ((o + (q - 1)) % 24)) j (S 6 2 ((o + (q - 1)) % 24)) (S 6 3 ((o + (q - 1)) % 24)))) 6 (up2 (S 6) 5 (k1 (nI (q - 1))))) hjx rfl rfl rfl rfl rfl (n + 1) (by omega)
    rw [hb, show q - 1 - (n + 1) = q - (n + 1 + 1) by omega]
    exact ⟨⟨j2, hj2, e5⟩, o2, r2⟩
  · unfold rImg
    rw [e4 _ (by omega) (by omega)]
    exact i k hk
end
