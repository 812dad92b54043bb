/-! ===== the pure part: a forest read ===== -/
theorem rn_sw (b : Nat → Int32) (ln p : Nat) : okSw (rnR b ln p 0 5) := by
  rw [rnR_eq]
  unfold rnR0
  by_cases h : rnF b ln p 0 5 = 0
  · rw [if_pos h]
    unfold rnF at h
    by_cases h1 : rnK b ln p = 0 ∨ rnK b ln p = 3
    · rw [if_pos h1] at h; exact absurd h (by decide)
    · rw [if_neg h1] at h
      by_cases h2 : rnV b ln p < 0 ∨ 5 < rnV b ln p
      · rw [if_pos h2] at h; exact absurd h (by decide)
      · obtain ⟨w, hw, e⟩ := nI_of2 (M := 5) (n := 5) rfl (fun e => h2 (Or.inl e)) (Int32.not_lt.mp (fun e => h2 (Or.inr e)))
        exact Or.inr ⟨w, hw, e⟩
  · rw [if_neg h]
    exact Or.inl rfl
theorem okW_e {F F' : Nat → Nat → Int32} (e : F' 4 = F 4) (h : okW F) : okW F' := by
  unfold okW
  rw [e]
  exact h
theorem okW_s {F : Nat → Nat → Int32} {j : Nat} {x : Int32} (hx : okSw x) (h : okW F) : okW (up2 F 4 (upd (F 4) j x)) := by
  intro i hi
  show okSw (upd (F 4) j x i)
  unfold upd
  by_cases e : i = j
  · rw [if_pos e]; exact hx
  · rw [if_neg e]; exact h i hi
theorem rl_W {b : Nat → Int32} {ln p : Nat} {ft : Int32} {F : Nat → Nat → Int32} (h : okW F) : okW (rlS b ln p ft F).2.2.2 := by
  refine okW_e ?_ h
  rw [rlS_eq]
  unfold rlS0
  split <;> (try split) <;> (try split) <;> (try split) <;> (try split) <;> rfl
theorem rt_W {b : Nat → Int32} {ln p i : Nat} {ft : Int32} {F : Nat → Nat → Int32} (h : okW F) : okW (rtS b ln p ft F i).2.2.2 := by
  refine okW_e ?_ h
  rw [rtS_eq]
  unfold rtS0 r2S
  split <;> (try split) <;> (try split) <;> (try split) <;> (try split) <;> rfl
theorem rd_W {b : Nat → Int32} {ln p i : Nat} {ft : Int32} {F : Nat → Nat → Int32} (h : okW F) : okW (rdS b ln p ft F i).2.2.2 := by
  rw [rdS_eq]
  unfold rdS0 r2S
  have h1 : ∀ f, okW (up2 F 3 f) := fun f => okW_e rfl h
  split
  · exact h1 _
  · split
    · split
      · exact okW_s (F := up2 F 3 _) (rn_sw _ _ _) (h1 _)
      · split
        · exact okW_s (F := up2 F 3 _) (rn_sw _ _ _) (h1 _)
        · exact okW_s (F := up2 F 3 _) (rn_sw _ _ _) (h1 _)
    · exact h1 _
theorem rh_W {b : Nat → Int32} {ln p i : Nat} {ft : Int32} {F : Nat → Nat → Int32} (h : okW F) : okW (rhS b ln p ft F i).2.2.2 := by
  rw [rhS_eq]
  unfold rhS0
  split
  · exact h
  · split
    · split
      · exact rd_W (rt_W (okW_e rfl h))
      · exact rt_W (okW_e rfl h)
    · exact h
theorem riL_W {b : Nat → Int32} {ln : Nat} : ∀ (n i p : Nat) (ft : Int32) (F : Nat → Nat → Int32), okW F → okW (riL b ln n i p ft F).2.2.2
  | 0, _, _, _, _, h => h
  | n + 1, i, p, ft, F, h => by
    unfold riL
    split
    · split
      · exact riL_W n _ _ _ _ (rh_W h)
      · exact rh_W h
    · exact h
theorem ri_W {b : Nat → Int32} {ln p : Nat} {ft : Int32} {F : Nat → Nat → Int32} (h : okW F) : okW (riS b ln p ft F).2.2.2 := by
  rw [riS_eq]
  unfold riS0
  have h1 : okW (begS F) := okW_e rfl h
  split
  · exact riL_W _ _ _ _ _ (rl_W h1)
  · exact rl_W h1
/-- a hammock more, on both sides -/
def haF (F : Nat → Nat → Int32) (i : Nat) (so v1 v2 v3 v4 : Int32) : Nat → Nat → Int32 := up2 (up2 (up2 (up2 (up2 (up2 F 0 (upd (F 0) i so)) 9 (k1 (nI (i + 1)))) 1 (upd (F 1) i v1)) 2 (upd (F 2) i v2)) 3 (upd (F 3) i v3)) 4 (upd (F 4) i v4)
def haT (T : Nat → Int32) (i : Nat) (so v1 v2 v3 v4 : Int32) : Nat → Int32 := upd (upd (upd (upd (upd (upd T (4 + i) so) 0 (nI i + 1)) (10 + i) v1) (16 + i) v2) (22 + i) v3) (28 + i) v4
theorem haT_o {T : Nat → Int32} {i : Nat} {so v1 v2 v3 v4 : Int32} {k : Nat} (h0 : k ≠ 0) (h1 : k ≠ 4 + i) (h2 : k ≠ 10 + i) (h3 : k ≠ 16 + i) (h4 : k ≠ 22 + i) (h5 : k ≠ 28 + i) : haT T i so v1 v2 v3 v4 k = T k := by
  unfold haT
  rw [upd_ne h5, upd_ne h4, upd_ne h3, upd_ne h2, upd_ne h0, upd_ne h1]
theorem ha_ok {F : Nat → Nat → Int32} {T : Nat → Int32} {i a b w s : Nat} {so : Int32} (ho : okF F i) (hr : rF F T i) (hi : i < 6) (hso : so = 1 ∨ so = 2 ∨ so = 3 ∨ so = 4 ∨ so = 5) (hab : a < b) (hb : b ≤ 11) (hw1 : 1 ≤ w) (hw : w ≤ 20) (hs : s ≤ 5) : okF (haF F i so (nI a) (nI b) (nI w) (nI s)) (i + 1) ∧ rF (haF F i so (nI a) (nI b) (nI w) (nI s)) (haT T i so (nI a) (nI b) (nI w) (nI s)) (i + 1) := by
  obtain ⟨a1, a2, a3, a4, a5, a6, a7, ⟨cu, a8, a8'⟩, a9⟩ := ho
  obtain ⟨c1, c2, c3, c4, c5, c6, c7, c8⟩ := hr
  have o1 : ∀ f : Nat → Int32, ∀ x h, h ≠ i → upd f i x h = f h := fun f x h e => upd_ne e
  constructor
  · refine ⟨rfl, by omega, okW_s (F := up2 (up2 (up2 (up2 (up2 F 0 (upd (F 0) i so)) 9 (k1 (nI (i + 1)))) 1 (upd (F 1) i (nI a))) 2 (upd (F 2) i (nI b))) 3 (upd (F 3) i (nI w))) (Or.inr ⟨s, hs, rfl⟩) (okW_e rfl a3), a4, a5, a6, a7, ⟨cu, ?_, a8'⟩, fun h hh => ?_⟩
    · have : 2 ^ (i + 1) = 2 ^ i * 2 := rfl
      omega
    · by_cases e : h = i
      · subst e
        refine ⟨?_, ⟨a, b, hab, hb, pk_us, pk_us⟩, ⟨w, hw1, hw, pk_us⟩, ⟨s, hs, pk_us⟩⟩
        unfold okK
        show upd (F 0) h so h = 1 ∨ upd (F 0) h so h = 2 ∨ upd (F 0) h so h = 3 ∨ upd (F 0) h so h = 4 ∨ upd (F 0) h so h = 5
        rw [pk_us]
        exact hso
      · obtain ⟨b1, b2, b3, b4⟩ := a9 h (by omega)
        refine ⟨?_, ?_, ?_, ?_⟩
        · unfold okK
          show upd (F 0) i so h = 1 ∨ upd (F 0) i so h = 2 ∨ upd (F 0) i so h = 3 ∨ upd (F 0) i so h = 4 ∨ upd (F 0) i so h = 5
          rw [upd_ne e]
          exact b1
        · show ∃ x y, x < y ∧ y ≤ 11 ∧ upd (F 1) i (nI a) h = nI x ∧ upd (F 2) i (nI b) h = nI y
          rw [upd_ne e, upd_ne e]
          exact b2
        · show ∃ x, 1 ≤ x ∧ x ≤ 20 ∧ upd (F 3) i (nI w) h = nI x
          rw [upd_ne e]
          exact b3
        · show ∃ x, x ≤ 5 ∧ upd (F 4) i (nI s) h = nI x
          rw [upd_ne e]
          exact b4
  · refine ⟨?_, ?_, ?_, ?_, ?_, ?_, fun h hh k hk => ?_, fun h hh => ?_⟩
    · show nI (i + 1) = haT T i so (nI a) (nI b) (nI w) (nI s) 0
      unfold haT
      rw [upd_ne (by omega), upd_ne (by omega), upd_ne (by omega), upd_ne (by omega), pk_us, nI_1]
    · exact c2.trans (haT_o (by omega) (by omega) (by omega) (by omega) (by omega) (by omega)).symm
    · exact c3.trans (haT_o (by omega) (by omega) (by omega) (by omega) (by omega) (by omega)).symm
    · exact c4.trans (haT_o (by omega) (by omega) (by omega) (by omega) (by omega) (by omega)).symm
    · exact c5.trans (haT_o (by omega) (by omega) (by omega) (by omega) (by omega) (by omega)).symm
    · exact c6.trans (haT_o (by omega) (by omega) (by omega) (by omega) (by omega) (by omega)).symm
    · by_cases e : h = i
      · subst e
        match k, hk with
        | 0, _ =>
          show upd (F 0) h so h = haT T h so (nI a) (nI b) (nI w) (nI s) (4 + h)
          unfold haT
          rw [pk_us, upd_ne (by omega), upd_ne (by omega), upd_ne (by omega), upd_ne (by omega), upd_ne (by omega), pk_us]
        | 1, _ =>
          show upd (F 1) h (nI a) h = haT T h so (nI a) (nI b) (nI w) (nI s) (10 + h)
          unfold haT
          rw [pk_us, upd_ne (by omega), upd_ne (by omega), upd_ne (by omega), pk_us]
        | 2, _ =>
          show upd (F 2) h (nI b) h = haT T h so (nI a) (nI b) (nI w) (nI s) (16 + h)
          unfold haT
          rw [pk_us, upd_ne (by omega), upd_ne (by omega), pk_us]
        | 3, _ =>
          show upd (F 3) h (nI w) h = haT T h so (nI a) (nI b) (nI w) (nI s) (22 + h)
          unfold haT
          rw [pk_us, upd_ne (by omega), pk_us]
        | 4, _ =>
          show upd (F 4) h (nI s) h = haT T h so (nI a) (nI b) (nI w) (nI s) (28 + h)
          unfold haT
          rw [pk_us, pk_us]
      · have e2 : vw (haT T i so (nI a) (nI b) (nI w) (nI s)) k h = vw T k h := by
          rw [vw_at hk, vw_at hk]
          exact haT_o (by omega) (by omega) (by omega) (by omega) (by omega) (by omega)
        rw [e2]
        have e3 : haF F i so (nI a) (nI b) (nI w) (nI s) k h = F k h := by
          match k, hk with
          | 0, _ => exact upd_ne e
          | 1, _ => exact upd_ne e
          | 2, _ => exact upd_ne e
          | 3, _ => exact upd_ne e
          | 4, _ => exact upd_ne e
        rw [e3]
        exact c7 h (by omega) k hk
    · show ∃ x, x ≤ 5 ∧ haT T i so (nI a) (nI b) (nI w) (nI s) (28 + h) = nI x
      by_cases e : h = i
      · subst e
        exact ⟨s, hs, pk_us⟩
      · rw [haT_o (by omega) (by omega) (by omega) (by omega) (by omega) (by omega)]
        exact c8 h hh
theorem inI_ex {v l m : Int32} {L U : Nat} (hl : l.toInt = L) (hm : m.toInt = U) (h : inI v l m = true) : ∃ k, L ≤ k ∧ k ≤ U ∧ v = nI k := by
  unfold inI at h
  simp only [Bool.and_eq_true, decide_eq_true_eq, Int32.le_iff_toInt_le] at h
  refine ⟨v.toInt.toNat, by omega, by omega, ?_⟩
  apply Int32.toInt_inj.mp
  rw [nI_toInt (by have := Int32.toInt_lt v; omega)]
  omega
section
variable {b c : Nat → Int32} {ln : Nat}
theorem ham_step (hB : okB c ln) (hln : ln ≤ 120) (hbc : ∀ p, byteS b ln p = byteS c ln p) {N : Nat → Nat → Int32} (hN : N 11 = c) {q i : Nat} (ft : Int32) {F : Nat → Nat → Int32} (ho : okF F i) (hr : rF F (N 5) i) : FailR (rhS b ln q ft F i) (rhT (stM N ln q) ln (stA_ c ln q) i) (stM N ln q) ∨ (¬ (rhT (stM N ln q) ln (stA_ c ln q) i).1 = 0 ∧ ∃ F', rhS b ln q ft F i = (true, rhP c ln (stA_ c ln q), ft, F') ∧ okF F' (i + 1) ∧ rF F' (rhW (stM N ln q) ln (stA_ c ln q) i 5) (i + 1)) := by
  have hi := ho.2.1
  have m18 : stM N ln q 18 0 = stT c ln q := by rw [← hN]; rfl
  have m19 : stM N ln q 19 0 = stV c ln q := by rw [← hN]; rfl
  have m11 : stM N ln q 11 = c := hN
  rw [rhS_eq, rhT_eq]
  unfold rhS0 rhM
  rw [m18, m19, m11, hbc q]
  by_cases hso : sortM (byteS c ln q) = 0
  · left
    rw [if_pos hso]
    by_cases h1 : stT c ln q = 1
    · rw [if_pos h1, (stT_1 h1).1, if_pos hso]
      exact ⟨rfl, rfl, rfl, rfl, frM_20 _ _⟩
    · rw [if_neg h1]
      exact ⟨rfl, rfl, rfl, rfl, frM_20 _ _⟩
  · obtain ⟨s1, s2, s3⟩ := tk_st1 (tk1 hB hso)
    have hk := so_k hB hso
    rw [if_neg hso, if_pos s1, s2, if_neg hso, s3]
    by_cases h6 : i = 6
    · left
      subst h6
      rw [if_neg (show ¬ nI 6 < 6 by decide), if_pos (show nI 6 = 6 from rfl)]
      exact ⟨rfl, rfl, rfl, rfl, frM_20 _ _⟩
    · have hi6 : i < 6 := by omega
      rw [if_pos (show nI i < 6 from (nI_ltI (b := 6) (by omega) (by omega)).mpr hi6), if_neg (show ¬ nI i = 6 from fun e => h6 ((nI_eq (b := 6) (by omega) (by omega)).mp e))]
      generalize hso' : sortM (byteS c ln q) = so at *
      rw [rtS_eq, rdS_eq]
      unfold rtS0 rdS0
      have R1 := r2_step hB hln hbc (M := up2 (stM N ln q) 5 (upd (upd (stM N ln q 5) (4 + i) so) 0 (nI i + 1))) (show _ = c from hN) (q + 1) (10 + i) (16 + i) (la := 0) (ma := 11) (mb := 11) (sg := 44) (fun r => r + 1) (by decide) (fun v hv => by
        obtain ⟨k, -, hk, rfl⟩ := inI_ex (L := 0) (U := 11) rfl rfl hv
        show 0 ≤ nI k + 1
        rw [nI_1]
        exact nI_pos' (by omega)) (Or.inl rfl) ft (up2 (up2 F 0 (upd (F 0) i so)) 9 (k1 (nI (i + 1)))) i 1 2
      rcases R1 with A | ⟨n1, B | ⟨n2, i1, i2, eR⟩⟩
      · left
        rw [if_neg (show ¬ _ = true by rw [A.1]; exact Bool.false_ne_true), if_pos A.2.1]
        exact ⟨A.1, rfl, A.2.2.1, A.2.2.2.1, frM_tr (frM_5 _ _) A.2.2.2.2⟩
      · left
        rw [if_neg (show ¬ _ = true by rw [B.1]; exact Bool.false_ne_true), if_neg n1, if_pos B.2.1]
        exact ⟨B.1, rfl, B.2.2.1, B.2.2.2.1, frM_tr (frM_5 _ _) B.2.2.2.2⟩
      · rw [eR]
        dsimp only
        rw [if_pos rfl, if_neg n1, if_neg n2]
        have R2 := r2_step hB hln hbc (M := nbW (nbW (up2 (stM N ln q) 5 (upd (upd (stM N ln q 5) (4 + i) so) 0 (nI i + 1))) ln (q + 1) (10 + i)) ln (nbP c ln (q + 1)) (16 + i)) (show _ = c from hN) (nbP c ln (nbP c ln (q + 1))) (22 + i) (28 + i) (la := 1) (ma := 20) (mb := 5) (sg := 59) (fun _ => 0) (by decide) (fun _ _ => by decide) (Or.inr rfl) ft (up2 (up2 (up2 (up2 F 0 (upd (F 0) i so)) 9 (k1 (nI (i + 1)))) 1 (upd (up2 (up2 F 0 (upd (F 0) i so)) 9 (k1 (nI (i + 1))) 1) i (stV c ln (q + 1)))) 2 (upd (up2 (up2 F 0 (upd (F 0) i so)) 9 (k1 (nI (i + 1))) 2) i (stV c ln (nbP c ln (q + 1))))) i 3 4
        have hf : frM (stM N ln q) (nbW (nbW (up2 (stM N ln q) 5 (upd (upd (stM N ln q 5) (4 + i) so) 0 (nI i + 1))) ln (q + 1) (10 + i)) ln (nbP c ln (q + 1)) (16 + i)) := frM_tr (frM_5 _ _) (frM_tr (frM_nbW _ _ _ _) (frM_nbW _ _ _ _))
        rcases R2 with A | ⟨n3, B | ⟨n4, i3, i4, eR2⟩⟩
        · left
          rw [if_pos A.2.1]
          exact ⟨A.1, rfl, A.2.2.1, A.2.2.2.1, frM_tr hf A.2.2.2.2⟩
        · left
          rw [if_neg n3, if_pos B.2.1]
          exact ⟨B.1, rfl, B.2.2.1, B.2.2.2.1, frM_tr hf B.2.2.2.2⟩
        · right
          rw [if_neg n3, if_neg n4, eR2]
          refine ⟨(show ¬ (1 : Int32) = 0 by decide), _, rfl, ?_⟩
          obtain ⟨a, -, ha, e1⟩ := inI_ex (L := 0) (U := 11) rfl rfl i1
          rw [e1, nI_1] at i2
          obtain ⟨b', hb1, hb2, e2⟩ := inI_ex (L := a + 1) (U := 11) (nI_toInt (by omega)) rfl i2
          obtain ⟨w, hw1, hw2, e3⟩ := inI_ex (L := 1) (U := 20) rfl rfl i3
          obtain ⟨s, -, hs, e4⟩ := inI_ex (L := 0) (U := 5) rfl rfl i4
          have eW : rhW (stM N ln q) ln (q + 1) i 5 = haT (N 5) i so (stV c ln (q + 1)) (stV c ln (nbP c ln (q + 1))) (stV c ln (nbP c ln (nbP c ln (q + 1)))) (stV c ln (nbP c ln (nbP c ln (nbP c ln (q + 1))))) := by
            rw [← hso', ← s2, ← hN]
            rfl
          rw [eW, e1, e2, e3, e4]
          exact ha_ok (w := w) (s := s) ho hr hi6 hk (show a < b' by omega) hb2 hw1 hw2 hs
end
