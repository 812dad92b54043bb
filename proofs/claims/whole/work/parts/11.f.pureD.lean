/-! ===== the pure part: acts ===== -/
def eqF (F G : Nat → Nat → Int32) : Prop := F 0 = G 0 ∧ F 1 = G 1 ∧ F 2 = G 2 ∧ F 3 = G 3 ∧ F 4 = G 4 ∧ F 5 0 = G 5 0 ∧ F 6 0 = G 6 0 ∧ F 7 0 = G 7 0 ∧ F 8 0 = G 8 0 ∧ F 9 0 = G 9 0 ∧ F 10 0 = G 10 0
theorem eqF_rf (F : Nat → Nat → Int32) : eqF F F := ⟨rfl, rfl, rfl, rfl, rfl, rfl, rfl, rfl, rfl, rfl, rfl⟩
theorem eqF_tb {F G : Nat → Nat → Int32} (h : eqF F G) (w : Int32) (j : Nat) (b0 b1 : Int32) : eqF (tbS F w j b0 b1) (tbS G w j b0 b1) := by
  obtain ⟨h0, h1, h2, h3, h4, h5, h6, h7, h8, h9, h10⟩ := h
  unfold tbS
  by_cases w1 : w = 1
  · rw [if_pos w1, if_pos w1]
    exact ⟨h0, congrArg (fun f => upd f j b0) h1, congrArg (fun f => upd f j b1) h2, h3, h4, h5, h6, h7, h8, h9, h10⟩
  rw [if_neg w1, if_neg w1]
  by_cases w2 : w = 2
  · rw [if_pos w2, if_pos w2]
    exact ⟨h0, h1, h2, congrArg (fun f => upd f j b0) h3, h4, h5, h6, h7, h8, h9, h10⟩
  rw [if_neg w2, if_neg w2]
  by_cases w3 : w = 3
  · rw [if_pos w3, if_pos w3]
    exact ⟨h0, h1, h2, h3, h4, h5, h6, h7, h8, h9, congrArg (fun x => x ^^^ (1 <<< (nI j &&& 31))) h10⟩
  rw [if_neg w3, if_neg w3]
  exact ⟨h0, h1, h2, h3, h4, h5, h6, h7, congrArg (fun x => x - 1) h8, h9, h10⟩
theorem eqF_ok {F G : Nat → Nat → Int32} {z : Nat} (h : eqF F G) (ho : okF F z) : okF G z := by
  obtain ⟨h0, h1, h2, h3, h4, h5, h6, h7, h8, h9, h10⟩ := h
  unfold okF okW okK at ho ⊢
  rw [← h0, ← h1, ← h2, ← h3, ← h4, ← h5, ← h6, ← h7, ← h8, ← h9, ← h10]
  exact ho
theorem eqF_r {F G : Nat → Nat → Int32} {t : Nat → Int32} {z : Nat} (h : eqF F G) (hr : rF F t z) : rF G t z := by
  obtain ⟨h0, h1, h2, h3, h4, h5, h6, h7, h8, h9, h10⟩ := h
  obtain ⟨r1, r2, r3, r4, r5, r6, r7, r8⟩ := hr
  refine ⟨by rw [← h9]; exact r1, by rw [← h6]; exact r2, by rw [← h7]; exact r3, by rw [← h5]; exact r4, by rw [← h10]; exact r5, by rw [← h8]; exact r6, fun i hi k hk => ?_, r8⟩
  have e := r7 i hi k hk
  match k, hk with
  | 0, _ => rw [← h0]; exact e
  | 1, _ => rw [← h1]; exact e
  | 2, _ => rw [← h2]; exact e
  | 3, _ => rw [← h3]; exact e
  | 4, _ => rw [← h4]; exact e
theorem eqF_sy {F G : Nat → Nat → Int32} (h : eqF F G) : eqF G F := by
  obtain ⟨h0, h1, h2, h3, h4, h5, h6, h7, h8, h9, h10⟩ := h
  exact ⟨h0.symm, h1.symm, h2.symm, h3.symm, h4.symm, h5.symm, h6.symm, h7.symm, h8.symm, h9.symm, h10.symm⟩
def oN (o q : Nat) : Nat := if q = 24 then (o + 1) % 24 else o
def qN (q : Nat) : Nat := if q = 24 then 24 else q + 1
def slN (o q : Nat) : Nat := (oN o q + (qN q - 1)) % 24
theorem kp_new (A : Nat → Nat → Int32) {o q : Nat} (ho : o < 24) (hq : q ≤ 24) (w h f s : Int32) : kpAll A o q w h f s 0 (slN o q) = w ∧ kpAll A o q w h f s 1 (slN o q) = h ∧ kpAll A o q w h f s 2 (slN o q) = f ∧ kpAll A o q w h f s 3 (slN o q) = s := by
  unfold kpAll slN oN qN
  by_cases h24 : q = 24
  · rw [if_pos h24, if_pos h24, if_pos h24]
    exact ⟨pk_us, pk_us, pk_us, pk_us⟩
  · rw [if_neg h24, if_neg h24, if_neg h24, show q + 1 - 1 = q by omega]
    exact ⟨pk_us, pk_us, pk_us, pk_us⟩
theorem kp_old (A : Nat → Nat → Int32) {o q : Nat} (w h f s : Int32) {sl : Nat} (hsl : sl ≠ slN o q) : kpAll A o q w h f s 0 sl = A 0 sl ∧ kpAll A o q w h f s 1 sl = A 1 sl ∧ kpAll A o q w h f s 2 sl = A 2 sl ∧ kpAll A o q w h f s 3 sl = A 3 sl := by
  unfold kpAll
  unfold slN oN qN at hsl
  by_cases h24 : q = 24
  · rw [if_pos h24] at hsl ⊢
    rw [if_pos h24] at hsl
    exact ⟨upd_ne hsl, upd_ne hsl, upd_ne hsl, upd_ne hsl⟩
  · rw [if_neg h24] at hsl ⊢
    rw [if_neg h24, show q + 1 - 1 = q by omega] at hsl
    exact ⟨upd_ne hsl, upd_ne hsl, upd_ne hsl, upd_ne hsl⟩
theorem sl_old {o q n : Nat} (ho : o < 24) (hq : q ≤ 24) (hn : n + 1 < qN q) : (oN o q + (qN q - (n + 1 + 1))) % 24 = (o + (q - (n + 1))) % 24 ∧ (o + (q - (n + 1))) % 24 ≠ slN o q := by
  unfold slN oN qN at *
  by_cases h24 : q = 24
  · rw [if_pos h24] at hn ⊢
    rw [if_pos h24]
    subst h24
    constructor
    · omega
    · omega
  · rw [if_neg h24] at hn ⊢
    rw [if_neg h24]
    constructor
    · rw [show q + 1 - (n + 1 + 1) = q - (n + 1) by omega]
    · omega
section
variable {S S' : Nat → Nat → Nat → Int32} {M M' : Nat → Nat → Int32} {z o q ln tr : Nat}
/-- what one act more makes of the history -/
theorem bkF_new {w h f s : Int32} {j : Nat} (ho : o < 24) (hq : q ≤ 24) (h6 : S' 6 = kpAll (S 6) o q w h f s) (hj : ix h = j) (hb : eqF (tbS (S' 2) w j f s) (S 2)) : ∀ n, n + 1 ≤ qN q → eqF (bkF S' (oN o q) (qN q) (n + 1)) (bkF S o q n)
  | 0, _ => by
    unfold bkF
    have e : (oN o q + (qN q - (0 + 1))) % 24 = slN o q := rfl
    obtain ⟨k0, k1_, k2, k3⟩ := kp_new (S 6) ho hq w h f s
    rw [e, h6, k0, k1_, k2, k3, hj]
    exact hb
  | n + 1, hn => by
    have ih := bkF_new ho hq h6 hj hb n (by omega)
    obtain ⟨e1, e2⟩ := sl_old (n := n) ho hq (by omega)
    obtain ⟨k0, k1_, k2, k3⟩ := kp_old (S 6) w h f s e2
    have e3 : bkF S o q (n + 1) = tbS (bkF S o q n) (S 6 0 ((o + (q - (n + 1))) % 24)) (ix (S 6 1 ((o + (q - (n + 1))) % 24))) (S 6 2 ((o + (q - (n + 1))) % 24)) (S 6 3 ((o + (q - (n + 1))) % 24)) := rfl
    have e4 : bkF S' (oN o q) (qN q) (n + 1 + 1) = tbS (bkF S' (oN o q) (qN q) (n + 1)) (S' 6 0 ((oN o q + (qN q - (n + 1 + 1))) % 24)) (ix (S' 6 1 ((oN o q + (qN q - (n + 1 + 1))) % 24))) (S' 6 2 ((oN o q + (qN q - (n + 1 + 1))) % 24)) (S' 6 3 ((oN o q + (qN q - (n + 1 + 1))) % 24)) := rfl
    rw [e3, e4, e1, h6, k0, k1_, k2, k3]
    exact eqF_tb ih _ _ _ _
theorem past_new {q i : Nat} (hq : q ≤ 24) (hi : i < 36) : rmP M q (36 * (qN q - 1) + i) = M 4 i := by
  unfold rmP qN
  by_cases h : q = 24
  · rw [if_pos h, if_pos h, cpy_at hi, Nat.zero_add]
  · rw [if_neg h, if_neg h, show q + 1 - 1 = q by omega, cpy_at hi, Nat.zero_add]
theorem past_old {q n i : Nat} (hq : q ≤ 24) (hn : n + 1 < qN q) (hi : i < 36) : rmP M q (36 * (qN q - (n + 1 + 1)) + i) = M 7 (36 * (q - (n + 1)) + i) := by
  unfold rmP qN at *
  by_cases h : q = 24
  · rw [if_pos h] at hn ⊢
    rw [if_pos h, cpy_out (by omega)]
    unfold shS
    rw [if_pos (by omega)]
    congr 1
    omega
  · rw [if_neg h] at hn ⊢
    rw [if_neg h, cpy_out (by omega)]
    congr 1
    omega
/-- an act more, on both sides -/
theorem rp_act (h : RelP S M z o q ln tr) (F' : Nat → Nat → Int32) (t' : Nat → Int32) (w x f s : Int32) (j : Nat) (hj : j < 6) (hx : x = nI j) (ho : okF F' z) (hr : rF F' t' z) (hb : eqF (tbS F' w j f s) (S 2)) : RelP (up3 (up3 S 2 F') 6 (kpAll (S 6) o q w x f s)) (up2 (up2 (up2 M 7 (rmP M q)) 8 (k1 (rmQ q))) 4 t') z (oN o q) (qN q) ln tr := by
  obtain ⟨⟨a1, a2, a3⟩, ⟨b1, b2, b3⟩, c, d, f_, g, i⟩ := id h
  have e4 : ∀ c, c ≠ 2 → c ≠ 6 → up3 (up3 S 2 F') 6 (kpAll (S 6) o q w x f s) c = S c := fun c h1 h2 => (up3_ne h2).trans (up3_ne h1)
  have hjx : ix x = j := by rw [hx]; exact ix_nI (by omega)
  refine ⟨⟨ho, a2, hr⟩, ⟨?_, ?_, fun n hn => ?_⟩, c, d, f_, fun i hi => rRow_same (e4 _ (by omega) (by omega)) rfl rfl (fun _ _ => rfl) (g i hi), fun k hk => ?_⟩
  · have := okA_kp b1 w x f s
    exact this
  · exact rmQ_eq q
  · have hB := bkF_new (S := S) (S' := up3 (up3 S 2 F') 6 (kpAll (S 6) o q w x f s)) (j := j) b1.2.1 b1.2.2.2 rfl hjx hb n hn
    cases n with
    | zero =>
      obtain ⟨-, k1_, -, -⟩ := kp_new (S 6) b1.2.1 b1.2.2.2 w x f s
      refine ⟨⟨j, hj, k1_.trans hx⟩, eqF_ok (eqF_sy hB) a1, eqF_r (eqF_sy hB) (rF_t (fun i hi => past_new (M := M) b1.2.2.2 hi) a1.2.1 a3)⟩
    | succ n =>
      have hn2 : n < q := by
        unfold qN at hn
        split at hn <;> omega
      obtain ⟨e1, e2⟩ := sl_old (n := n) b1.2.1 b1.2.2.2 hn
      obtain ⟨-, k1_, -, -⟩ := kp_old (S 6) w x f s e2
      obtain ⟨⟨j2, hj2, e5⟩, o2, r2⟩ := b3 n hn2
      refine ⟨⟨j2, hj2, ?_⟩, eqF_ok (eqF_sy hB) o2, eqF_r (eqF_sy hB) (rF_t (fun i hi => past_old (M := M) b1.2.2.2 hn hi) o2.2.1 r2)⟩
      rw [e1]
      exact k1_.trans e5
  · unfold rImg
    rw [e4 _ (by omega) (by omega)]
    exact i k hk
theorem upd_self (f : Nat → Int32) (j : Nat) : upd f j (f j) = f := by
  funext i
  unfold upd
  by_cases h : i = j
  · rw [if_pos h, h]
  · rw [if_neg h]
theorem vw_upd {t : Nat → Int32} {p k h : Nat} {x : Int32} (hk : k < 5) (hh : h < 6) (hne : p ≠ 4 + 6 * k + h) : vw (upd t p x) k h = vw t k h := by
  match k, hk with
  | 0, _ => exact upd_ne (by omega)
  | 1, _ => exact upd_ne (by omega)
  | 2, _ => exact upd_ne (by omega)
  | 3, _ => exact upd_ne (by omega)
  | 4, _ => exact upd_ne (by omega)
theorem rel_load (h : RelP S M z o q ln tr) (x v : Int32) : (loadC S o q x v).1 = (loadM M q x v).1 ∧ Rel (loadC S o q x v).2 (loadM M q x v).2 := by
  unfold loadC loadM
  rw [rp_bel h]
  by_cases h1 : inI x 0 (M 4 0 - 1) = true
  · rw [if_pos h1, if_pos h1]
    by_cases h2 : inI v 1 20 = true
    · rw [if_pos h2]
      have h3 := h2
      unfold inI at h3
      simp only [Bool.and_eq_true, decide_eq_true_eq] at h3
      rw [if_neg (Int32.not_lt.mpr h3.1), if_pos h3.2]
      obtain ⟨w, hw20, rfl⟩ := nI_of2 (M := 20) (n := 20) rfl (Int32.not_lt.mpr (Int32.le_trans (by decide) h3.1)) h3.2
      have hw1 : 1 ≤ w := by
        rcases Nat.eq_zero_or_pos w with rfl | h
        · exact absurd h3.1 (by decide)
        · exact h
      obtain ⟨j, hj, rfl⟩ := rp_ix h h1
      have hz := h.1.1.2.1
      rw [ix_nI (by omega), nI_clamp (by omega)]
      obtain ⟨⟨a1, a2, a3, a4, a5, a6, a7, a8, a9⟩, b1, c1, c2, c3, c4, c5, c6, c7, c8⟩ := id h.1
      have hok : okF (up2 (S 2) 3 (upd (S 2 3) j (nI w))) z := by
        refine ⟨a1, a2, a3, a4, a5, a6, a7, a8, fun i hi => ⟨(a9 i hi).1, (a9 i hi).2.1, ?_, (a9 i hi).2.2.2⟩⟩
        show ∃ w', 1 ≤ w' ∧ w' ≤ 20 ∧ upd (S 2 3) j (nI w) i = nI w'
        unfold upd
        by_cases e : i = j
        · rw [if_pos e]; exact ⟨w, hw1, hw20, rfl⟩
        · rw [if_neg e]; exact (a9 i hi).2.2.1
      have hrf : rF (up2 (S 2) 3 (upd (S 2 3) j (nI w))) (upd (M 4) (22 + j) (nI w)) z := by
        refine ⟨c1.trans (upd_ne (by omega)).symm, c2.trans (upd_ne (by omega)).symm, c3.trans (upd_ne (by omega)).symm, c4.trans (upd_ne (by omega)).symm, c5.trans (upd_ne (by omega)).symm, c6.trans (upd_ne (by omega)).symm, fun i hi k hk => ?_, fun i hi => ?_⟩
        · match k, hk with
          | 0, _ => exact (c7 i hi 0 (by omega)).trans (vw_upd (by omega) (by omega) (by omega)).symm
          | 1, _ => exact (c7 i hi 1 (by omega)).trans (vw_upd (by omega) (by omega) (by omega)).symm
          | 2, _ => exact (c7 i hi 2 (by omega)).trans (vw_upd (by omega) (by omega) (by omega)).symm
          | 3, _ =>
            show upd (S 2 3) j (nI w) i = upd (M 4) (22 + j) (nI w) (22 + i)
            unfold upd
            by_cases e : i = j
            · rw [if_pos e, if_pos (by omega)]
            · rw [if_neg e, if_neg (by omega)]; exact c7 i hi 3 (by omega)
          | 4, _ => exact (c7 i hi 4 (by omega)).trans (vw_upd (by omega) (by omega) (by omega)).symm
        · rw [vw_upd (by omega) hi (by omega)]; exact c8 i hi
      have key := rp_act h _ _ 2 (nI j) (S 2 3 j) 0 j (by omega) rfl hok hrf (by
        unfold tbS
        rw [if_neg (by decide), if_pos rfl]
        exact ⟨rfl, rfl, rfl, (upd_u (f := S 2 3) (h := j) (x := nI w) (y := S 2 3 j)).trans (upd_self _ _), rfl, rfl, rfl, rfl, rfl, rfl, rfl⟩)
      exact ⟨by rw [dipS_r hrf hj, c6], z, _, _, ln, tr, key⟩
    · rw [if_neg h2]
      unfold inI at h2
      simp only [Bool.and_eq_true, decide_eq_true_eq, not_and] at h2
      by_cases h4 : v < 1
      · rw [if_pos h4]; exact ⟨rfl, z, o, q, ln, tr, h⟩
      · rw [if_neg h4, if_neg (h2 (Int32.not_lt.mp h4))]; exact ⟨rfl, z, o, q, ln, tr, h⟩
  · rw [if_neg h1, if_neg h1]
    exact ⟨rfl, z, o, q, ln, tr, h⟩
end
