/-! ===== the pure part: the outlook's tables ===== -/
theorem abs_sub (x y : Int32) : absI (x - y) = absI (y - x) := by
  rw [show y - x = -(x - y) from (Int32.neg_sub).symm]
  generalize x - y = d
  unfold absI
  by_cases h0 : d = 0
  · subst h0; decide
  by_cases hm : d = -2147483648
  · subst hm; decide
  have hn : (-d).toInt = - d.toInt := by
    rw [Int32.toInt_neg]
    have h1 := Int32.le_toInt d
    have h2 := Int32.toInt_lt d
    have h3 : d.toInt ≠ -2147483648 := fun e => hm (Int32.toInt_inj.mp (by rw [e]; decide))
    exact Int.bmod_eq_of_le (by omega) (by omega)
  have h0' : d.toInt ≠ 0 := fun e => h0 (Int32.toInt_inj.mp (by rw [e]; decide))
  by_cases hp : 0 ≤ d
  · rw [if_pos hp, if_neg (by rw [Int32.le_iff_toInt_le] at hp ⊢; rw [hn]; have e : (0 : Int32).toInt = 0 := rfl; omega), Int32.zero_sub, Int32.neg_neg]
  · rw [if_neg hp, if_pos (by rw [Int32.le_iff_toInt_le] at hp ⊢; rw [hn]; have e : (0 : Int32).toInt = 0 := rfl; omega), Int32.zero_sub]
theorem nrS_sym (F : Nat → Nat → Int32) (a b : Int32) : nrS F a b = nrS F b a := by
  unfold nrS
  rw [abs_sub a b, Bool.and_comm (!decide (a = -1000))]
theorem rowS_out {F : Nat → Nat → Int32} {m : Int32} {f : Nat → Int32} {st p : Nat} : ∀ n, (p < st ∨ st + n ≤ p) → rowS F m f st n p = f p
  | 0, _ => rfl
  | n + 1, h => by
    unfold rowS
    rw [upd_ne (by omega), rowS_out n (by omega)]
theorem rowS_at {F : Nat → Nat → Int32} {m : Int32} {f : Nat → Int32} {st i : Nat} : ∀ n, i < n → rowS F m f st n (st + i) = spS F i m
  | 0, h => absurd h (Nat.not_lt_zero i)
  | n + 1, h => by
    unfold rowS
    by_cases e : i = n
    · subst e; exact pk_us
    · rw [upd_ne (by omega), rowS_at n (by omega)]
theorem frSp_at {F : Nat → Nat → Int32} {z : Nat} (hz : z ≤ 6) {s0 : Nat → Int32} {t i : Nat} (hi : i < z) : ∀ n, t < n → frSp F z s0 n (t * 6 + i) = spS F i (F 8 0 + nI t)
  | 0, h => absurd h (Nat.not_lt_zero t)
  | n + 1, h => by
    unfold frSp
    by_cases e : t = n
    · subst e; exact rowS_at z hi
    · rw [rowS_out z (by omega), frSp_at hz hi n (by omega)]
theorem has_clr (x : Int32) {h k : Nat} (hh : h < 32) (hk : k < 32) : hasS (x &&& ((1 <<< (nI h &&& 31)) ^^^ (-1))) (nI k) = (hasS x (nI k) && !decide (k = h)) := by
  rw [has_and _ _ hk, has_not _ hk, has_sh hh hk]
theorem lnkS_out {nr : Nat → Bool} {f : Nat → Int32} {st h p : Nat} : ∀ n, (p < st ∨ st + n ≤ p) → lnkS nr f st h n p = f p
  | 0, _ => rfl
  | n + 1, hp => by
    unfold lnkS
    split
    · rw [upd_ne (by omega), lnkS_out n (by omega)]
    · rw [upd_ne (by omega), lnkS_out n (by omega)]
theorem lnkS_at {nr : Nat → Bool} {f : Nat → Int32} {st h i k : Nat} (hh : h < 32) (hk : k < 32) : ∀ n, i < n → hasS (lnkS nr f st h n (st + i)) (nI k) = if k = h then (!decide (i = h) && nr i) else hasS (f (st + i)) (nI k)
  | 0, hi => absurd hi (Nat.not_lt_zero i)
  | n + 1, hi => by
    unfold lnkS
    by_cases e : i = n
    · subst e
      rw [lnkS_out (f := f) i (by omega)]
      cases hc : (!decide (i = h) && nr i)
      · rw [if_neg Bool.false_ne_true, pk_us, has_clr _ hh hk]
        by_cases e : k = h
        · rw [if_pos e, decide_eq_true e, Bool.not_true, Bool.and_false]
        · rw [if_neg e, decide_eq_false e, Bool.not_false, Bool.and_true]
      · rw [if_pos rfl, pk_us, has_or _ _ hk, has_sh hh hk]
        by_cases e : k = h
        · rw [if_pos e, decide_eq_true e, Bool.or_true]
        · rw [if_neg e, decide_eq_false e, Bool.or_false]
    · have ih := lnkS_at (nr := nr) (f := f) (st := st) hh hk n (show i < n by omega)
      split
      · rw [upd_ne (by omega), ih]
      · rw [upd_ne (by omega), ih]
theorem lnk1_out {nr : Nat → Bool} {f : Nat → Int32} {st h z p : Nat} (hh : h < z) (hp : p < st ∨ st + z ≤ p) : lnk1 nr f st h z p = f p := by
  unfold lnk1
  rw [upd_ne (by omega), lnkS_out z hp]
theorem lnk1_own {nr : Nat → Bool} {f : Nat → Int32} {st h z : Nat} : lnk1 nr f st h z (st + h) = bitsS (fun o => !decide (o = h) && nr o) z := pk_us
theorem lnk1_oth {nr : Nat → Bool} {f : Nat → Int32} {st h z i k : Nat} (hz : z ≤ 6) (hh : h < z) (hk : k < 32) (hi : i < z) (hne : i ≠ h) : hasS (lnk1 nr f st h z (st + i)) (nI k) = if k = h then nr i else hasS (f (st + i)) (nI k) := by
  unfold lnk1
  rw [upd_ne (by omega), lnkS_at (by omega) hk z hi, decide_eq_false hne, Bool.not_false, Bool.true_and]
theorem lnkA_out {F : Nat → Nat → Int32} {sp f : Nat → Int32} {st z p : Nat} (hp : p < st ∨ st + z ≤ p) : ∀ n, n ≤ z → lnkA F sp f st z n p = f p
  | 0, _ => rfl
  | n + 1, hn => by
    unfold lnkA
    rw [lnk1_out (by omega) hp, lnkA_out hp n (by omega)]
theorem lnkA_at {F : Nat → Nat → Int32} {sp f : Nat → Int32} {st z i : Nat} (hz : z ≤ 6) : ∀ n, n ≤ z → i < n → lnkA F sp f st z n (st + i) = bitsS (fun o => !decide (o = i) && nrS F (sp (st + i)) (sp (st + o))) z
  | 0, _, hi => absurd hi (Nat.not_lt_zero i)
  | n + 1, hn, hi => by
    unfold lnkA
    by_cases e : i = n
    · subst e
      exact lnk1_own
    · refine has_ext (fun k hk => ?_)
      rw [lnk1_oth hz (by omega) hk (by omega) e, lnkA_at hz n (by omega) (by omega), has_bits _ hk z (by omega)]
      by_cases hkn : k = n
      · subst hkn
        rw [if_pos rfl, decide_eq_true (show k < z by omega), decide_eq_false (show ¬ k = i by omega), nrS_sym, Bool.not_false, Bool.true_and, Bool.true_and]
      · rw [if_neg hkn]
/-- what the outlook holds of a forest, of d minutes ahead -/
def olT (O F : Nat → Nat → Int32) (z d : Nat) : Prop := ∀ t, t < d → ∀ h, h < z → O 0 (t * 6 + h) = spS F h (F 8 0 + nI t) ∧ O 1 (t * 6 + h) = nearC F z h (F 8 0 + nI t)
theorem frNr_at {F : Nat → Nat → Int32} {z : Nat} (hz : z ≤ 6) {s0 n0 : Nat → Int32} {t i : Nat} (hi : i < z) : ∀ n, t < n → frNr F z s0 n0 n (t * 6 + i) = nearC F z i (F 8 0 + nI t)
  | 0, h => absurd h (Nat.not_lt_zero t)
  | n + 1, h => by
    unfold frNr
    by_cases e : t = n
    · subst e
      rw [lnkA_at hz z (Nat.le_refl z) hi]
      unfold nearC
      refine bitsS_congr z (fun o ho => ?_)
      rw [frSp_at hz hi _ (Nat.lt_succ_self t), frSp_at hz ho _ (Nat.lt_succ_self t)]
    · rw [lnkA_out (by omega) z (Nat.le_refl z), frNr_at hz hi n (by omega)]
theorem fr_ok (O F : Nat → Nat → Int32) {z : Nat} (hz : z ≤ 6) (d : Nat) : olT (frT O F z d) F z d := by
  intro t ht h hh
  rw [frT_eq]
  exact ⟨frSp_at hz hh d ht, frNr_at hz hh d ht⟩
/-- the same but for one hammock -/
def olTc (O F : Nat → Nat → Int32) (z d c : Nat) : Prop := ∀ t, t < d → ∀ h, h < z → h ≠ c → O 0 (t * 6 + h) = spS F h (F 8 0 + nI t) ∧ ∀ k, k < 32 → k ≠ c → hasS (O 1 (t * 6 + h)) (nI k) = hasS (nearC F z h (F 8 0 + nI t)) (nI k)
theorem olT_c {O F : Nat → Nat → Int32} {z d c : Nat} (h : olT O F z d) : olTc O F z d c := fun t ht i hi _ => ⟨(h t ht i hi).1, fun _ _ _ => by rw [(h t ht i hi).2]⟩
theorem olTc_congr {O F F' : Nat → Nat → Int32} {z d c : Nat} (hz : z ≤ 6) (h8 : F' 8 0 = F 8 0) (h7 : F' 7 0 = F 7 0) (hs : ∀ h, h < z → h ≠ c → ∀ m, spS F' h m = spS F h m) (h : olTc O F z d c) : olTc O F' z d c := by
  intro t ht i hi hne
  obtain ⟨h1, h2⟩ := h t ht i hi hne
  rw [h8]
  refine ⟨by rw [hs i hi hne]; exact h1, fun k hk hkc => ?_⟩
  rw [h2 k hk hkc]
  unfold nearC
  rw [has_bits _ hk z (by omega), has_bits _ hk z (by omega)]
  by_cases hkz : k < z
  · unfold nrS
    rw [hs i hi hne, hs k hkz hkc, h7]
  · rw [decide_eq_false hkz, Bool.false_and, Bool.false_and]
theorem faSp_out {F : Nat → Nat → Int32} {c : Nat} {s0 : Nat → Int32} {p : Nat} : ∀ n, (∀ t, t < n → p ≠ t * 6 + c) → faSp F c s0 n p = s0 p
  | 0, _ => rfl
  | n + 1, h => by
    unfold faSp
    rw [upd_ne (h n (by omega)), faSp_out n (fun t ht => h t (by omega))]
theorem faSp_own {F : Nat → Nat → Int32} {c : Nat} {s0 : Nat → Int32} {t : Nat} : ∀ n, t < n → faSp F c s0 n (t * 6 + c) = spS F c (F 8 0 + nI t)
  | 0, h => absurd h (Nat.not_lt_zero t)
  | n + 1, h => by
    unfold faSp
    by_cases e : t = n
    · subst e; exact pk_us
    · rw [upd_ne (by omega), faSp_own n (by omega)]
theorem faNr_out {F : Nat → Nat → Int32} {z c : Nat} (hz : z ≤ 6) (hc : c < z) {s0 n0 : Nat → Int32} {p : Nat} : ∀ n, n * 6 ≤ p → faNr F z c s0 n0 n p = n0 p
  | 0, _ => rfl
  | n + 1, h => by
    unfold faNr
    rw [lnk1_out hc (by omega), faNr_out hz hc n (by omega)]
theorem faNr_own {F : Nat → Nat → Int32} {z c : Nat} (hz : z ≤ 6) (hc : c < z) {s0 n0 : Nat → Int32} {t : Nat} (hs : ∀ o, o < z → o ≠ c → s0 (t * 6 + o) = spS F o (F 8 0 + nI t)) : ∀ n, t < n → faNr F z c s0 n0 n (t * 6 + c) = nearC F z c (F 8 0 + nI t)
  | 0, h => absurd h (Nat.not_lt_zero t)
  | n + 1, h => by
    unfold faNr
    by_cases e : t = n
    · subst e
      rw [lnk1_own]
      unfold nearC
      refine bitsS_congr z (fun o ho => ?_)
      rw [faSp_own _ (Nat.lt_succ_self t)]
      by_cases hoc : o = c
      · rw [decide_eq_true hoc, Bool.not_true, Bool.false_and, Bool.false_and]
      · rw [faSp_out _ (fun t' _ => by omega), hs o ho hoc]
    · rw [lnk1_out hc (by omega), faNr_own hz hc hs n (by omega)]
theorem faNr_oth {F : Nat → Nat → Int32} {z c : Nat} (hz : z ≤ 6) (hc : c < z) {s0 n0 : Nat → Int32} {t i k : Nat} (hi : i < z) (hne : i ≠ c) (hk : k < 32) (hs : s0 (t * 6 + i) = spS F i (F 8 0 + nI t)) : ∀ n, t < n → hasS (faNr F z c s0 n0 n (t * 6 + i)) (nI k) = if k = c then nrS F (spS F c (F 8 0 + nI t)) (spS F i (F 8 0 + nI t)) else hasS (n0 (t * 6 + i)) (nI k)
  | 0, h => absurd h (Nat.not_lt_zero t)
  | n + 1, h => by
    unfold faNr
    by_cases e : t = n
    · subst e
      rw [lnk1_oth hz hc hk hi hne, faSp_own _ (Nat.lt_succ_self t), faSp_out _ (fun t' _ => by omega), hs, faNr_out hz hc t (by omega)]
    · rw [lnk1_out hc (by omega), faNr_oth hz hc hi hne hk hs n (by omega)]
theorem fa_ok {O F : Nat → Nat → Int32} {z d d' c : Nat} (hz : z ≤ 6) (hc : c < z) (hd : d' ≤ d) (h : olTc O F z d c) : olT (faT O F z c d') F z d' ∧ olTc (faT O F z c d') F z d c := by
  rw [faT_eq]
  have key : ∀ t, t < d → ∀ i, i < z → i ≠ c → faSp F c (O 0) d' (t * 6 + i) = spS F i (F 8 0 + nI t) := fun t ht i hi hne => by
    rw [faSp_out _ (fun t' _ => by omega)]
    exact (h t ht i hi hne).1
  have key2 : ∀ t, t < d → ∀ i, i < z → i ≠ c → ∀ k, k < 32 → (k ≠ c ∨ t < d') → hasS (faNr F z c (O 0) (O 1) d' (t * 6 + i)) (nI k) = hasS (nearC F z i (F 8 0 + nI t)) (nI k) := fun t ht i hi hne k hk hor => by
    obtain ⟨h1, h2⟩ := h t ht i hi hne
    by_cases htd : t < d'
    · rw [faNr_oth hz hc hi hne hk h1 d' htd]
      by_cases hkc : k = c
      · rw [if_pos hkc]
        unfold nearC
        rw [has_bits _ hk z (by omega), hkc, decide_eq_true hc, decide_eq_false (fun e : c = i => hne e.symm), nrS_sym, Bool.not_false, Bool.true_and, Bool.true_and]
      · rw [if_neg hkc]
        exact h2 k hk hkc
    · rw [faNr_out hz hc d' (by omega)]
      exact h2 k hk (by omega)
  constructor
  · intro t ht i hi
    by_cases e : i = c
    · subst e
      exact ⟨faSp_own d' ht, faNr_own hz hc (fun o ho hoc => (h t (by omega) o ho hoc).1) d' ht⟩
    · exact ⟨key t (by omega) i hi e, has_ext (fun k hk => key2 t (by omega) i hi e k hk (Or.inr ht))⟩
  · intro t ht i hi hne
    exact ⟨key t ht i hi hne, fun k hk hkc => key2 t ht i hi hne k hk (Or.inl hkc)⟩
/-- the outlook's nearness is the reference's -/
theorem olT_r {O F : Nat → Nat → Int32} {t : Nat → Int32} {z d : Nat} (ho : okF F z) (hr : rF F t z) (hT : olT O F z d) (hd : d ≤ 60) : ∀ u, u < d → ∀ i, i < z → O 1 (u * 6 + i) = reachM (vw t) z i (vw t 8 0 + nI u) := by
  intro u hu i hi
  obtain ⟨a, ha, e⟩ := ho.2.2.2.2.2.2.1
  have e2 : vw t 8 0 = nI a := by rw [← e]; exact hr.2.2.2.2.2.1.symm
  rw [(hT u hu i hi).2, e, e2, nI_add]
  exact nearC_r ho hr hi (by omega)
/-- the class's arrivals are the reference's -/
theorem arr_r {O F G' : Nat → Nat → Int32} {t : Nat → Int32} {z d ia ib : Nat} {bar : Int32} (ho : okF F z) (hr : rF F t z) (hT : olT O F z d) (hd : d ≤ 60) (h8 : G' 8 0 = vw t 8 0) (hb : ∀ i, i < z → ∀ e, e < z → ∀ m, nrM G' i e m = (nrM (vw t) i e m && (!hasS bar (nI i) && !hasS bar (nI e)))) : (∃ u, u ≤ d ∧ arrT (O 1) z (nI ia) (nI ib) d bar = nI u ∧ soonT G' z (nI ia) (nI ib) = nI u) ∨ (arrT (O 1) z (nI ia) (nI ib) d bar = -1000000 ∧ nI d < soonT G' z (nI ia) (nI ib)) := by
  rw [arrT_eq, soonT_eq]
  unfold arrS soonM
  refine arr_soon hd (fun u hu => ?_)
  rw [hv_set (G := vw t) (G' := G') ho.2.1 h8 (olT_r ho hr hT hd) hb u hu]
theorem bar0 {G : Nat → Nat → Int32} {z : Nat} (hz : z ≤ 6) : ∀ i, i < z → ∀ e, e < z → ∀ m, nrM G i e m = (nrM G i e m && (!hasS 0 (nI i) && !hasS 0 (nI e))) := by
  intro i hi e he m
  rw [has_0 (show i < 32 by omega), has_0 (show e < 32 by omega), Bool.not_false, Bool.and_true, Bool.and_true]
section
variable {S S' : Nat → Nat → Nat → Int32} {M M' : Nat → Nat → Int32} {z o q ln tr : Nat}
theorem soon_v {G : Nat → Nat → Int32} {z : Nat} {a b : Int32} : (∃ u, u ≤ 60 ∧ soonT G z a b = nI u) ∨ soonT G z a b = 1000000 := by
  rw [soonT_eq]
  unfold soonM
  rcases soonFrom_s (fun k => hasS (setM G z a k) b) 61 0 with ⟨h6, h7⟩ | ⟨v, h6, h7, h8, h9, h10⟩
  · exact Or.inr h7
  · exact Or.inl ⟨v, by omega, h10⟩
theorem rel_soonest (h : RelP S M z o q ln tr) (a b : Int32) : soonC S z a b = sooM M z a b ∧ Rel S M := by
  refine ⟨?_, z, o, q, ln, tr, h⟩
  unfold soonC sooM
  rw [rp_bel h, rp_bel h]
  by_cases h1 : inI a 0 (M 4 0 - 1) = true
  · rw [if_pos h1, if_pos h1]
    by_cases h2 : inI b 0 (M 4 0 - 1) = true
    · rw [if_pos h2, if_pos h2]
      obtain ⟨i, hi, rfl⟩ := rp_ix h h1
      obtain ⟨j, hj, rfl⟩ := rp_ix h h2
      have hz := h.1.1.2.1
      rcases arr_r (bar := 0) (ia := i) (ib := j) h.1.1 h.1.2.2 (fr_ok (S 7) (S 2) hz 60) (by omega) rfl (bar0 hz) with ⟨u, h3, h4, h5⟩ | ⟨h4, h5⟩
      · rw [h4, h5]
        unfold toldM
        rw [if_pos (show nI u < 1000000 from (nI_ltI (b := 1000000) (by omega) (by omega)).mpr (by omega))]
      · rw [h4]
        rcases soon_v (G := vw (M 4)) (z := z) (a := nI i) (b := nI j) with ⟨u, h6, h7⟩ | h7
        · rw [h7] at h5
          exact absurd h5 (nI_nlt h6 (by omega))
        · rw [h7]
          rfl
    · rw [if_neg h2, if_neg h2]
  · rw [if_neg h1, if_neg h1]
theorem rel_everywhere (h : RelP S M z o q ln tr) (a d : Int32) : everyC S z a d = evM M z a d ∧ Rel S M := by
  refine ⟨?_, z, o, q, ln, tr, h⟩
  unfold everyC evM
  rw [rp_bel h, ah60]
  by_cases h1 : inI a 0 (M 4 0 - 1) = true
  · rw [if_pos h1, if_pos h1]
    by_cases h2 : inI d 0 60 = true
    · rw [if_pos h2, if_pos h2]
      obtain ⟨i, hi, rfl⟩ := rp_ix h h1
      obtain ⟨k, hk, rfl⟩ := sp_ex h2
      have hz := h.1.1.2.1
      rw [ix_nI (by omega), nI_clamp (by omega), hvT_eq, setT_eq]
      exact hv_set (G := vw (M 4)) hz rfl (olT_r h.1.1 h.1.2.2 (fr_ok (S 7) (S 2) hz k) hk) (bar0 hz) k (Nat.le_refl k)
    · rw [if_neg h2, if_neg h2]
  · rw [if_neg h1, if_neg h1]
end
