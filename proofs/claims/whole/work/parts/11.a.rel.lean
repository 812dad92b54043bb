/-! ===== the class's state and the reference's, side by side ===== -/
def okF (F : Nat → Nat → Int32) (z : Nat) : Prop := F 9 0 = nI z ∧ z ≤ 6 ∧ okW F ∧ (F 5 0 = 0 ∨ F 5 0 = 1) ∧ (∃ a, a ≤ 40 ∧ F 6 0 = nI a) ∧ (∃ a, a ≤ 5 ∧ F 7 0 = nI a) ∧ (∃ a, a ≤ 999 ∧ F 8 0 = nI a) ∧ (∃ c, c < 2 ^ z ∧ F 10 0 = nI c) ∧ ∀ h, h < z → okK F h ∧ (∃ a b, a < b ∧ b ≤ 11 ∧ F 1 h = nI a ∧ F 2 h = nI b) ∧ (∃ w, 1 ≤ w ∧ w ≤ 20 ∧ F 3 h = nI w) ∧ (∃ w, w ≤ 5 ∧ F 4 h = nI w)
def rF (F : Nat → Nat → Int32) (t : Nat → Int32) (z : Nat) : Prop := F 9 0 = t 0 ∧ F 6 0 = t 1 ∧ F 7 0 = t 2 ∧ F 5 0 = t 3 ∧ F 10 0 = t 34 ∧ F 8 0 = t 35 ∧ (∀ h, h < z → ∀ k, k < 5 → F k h = vw t k h) ∧ okWM (vw t)
/-- the forest before the last n acts -/
def bkF (S : Nat → Nat → Nat → Int32) (o q : Nat) : Nat → Nat → Nat → Int32
  | 0 => S 2
  | n + 1 => tbS (bkF S o q n) (S 6 0 ((o + (q - (n + 1))) % 24)) (ix (S 6 1 ((o + (q - (n + 1))) % 24))) (S 6 2 ((o + (q - (n + 1))) % 24)) (S 6 3 ((o + (q - (n + 1))) % 24))
def rHist (S : Nat → Nat → Nat → Int32) (M : Nat → Nat → Int32) (z o q : Nat) : Prop := ∀ n, n < q → (∃ j, j < 6 ∧ S 6 1 ((o + (q - (n + 1))) % 24) = nI j) ∧ okF (bkF S o q (n + 1)) z ∧ rF (bkF S o q (n + 1)) (fun i => M 7 (36 * (q - (n + 1)) + i)) z
def rRow (S : Nat → Nat → Nat → Int32) (M : Nat → Nat → Int32) (j : Nat) : Prop := (S (j + 8) 2 0 = nI (S (j + 8) 2 0).toNatClampNeg ∧ (S (j + 8) 2 0).toNatClampNeg ≤ 40) ∧ ((S (j + 8) 1 0 = -1 ∧ M 1 j = -1) ∨ ((S (j + 8) 1 0 = 0 ∨ S (j + 8) 1 0 = 1 ∨ S (j + 8) 1 0 = 2) ∧ S (j + 8) 1 0 = M 0 j ∧ S (j + 8) 2 0 = M 1 j ∧ ∀ k, k < 40 → S (j + 8) 0 k = M 2 (40 * j + k)))
def rImg (S : Nat → Nat → Nat → Int32) (M : Nat → Nat → Int32) (k : Nat) : Prop := (S (k + 4) 5 0 = 0 ∧ M 10 k = 0) ∨ (S (k + 4) 5 0 = 1 ∧ M 10 k = 1 ∧ ∃ z, okF (S (k + 4)) z ∧ rF (S (k + 4)) (fun i => M 9 (36 * k + i)) z)
def RelP (S : Nat → Nat → Nat → Int32) (M : Nat → Nat → Int32) (z o q ln tr : Nat) : Prop :=
  (okF (S 2) z ∧ okW (S 3) ∧ rF (S 2) (M 4) z) ∧ (okA (S 6) o q ∧ M 8 0 = nI q ∧ rHist S M z o q) ∧ (S 1 1 0 = nI ln ∧ ln ≤ 120 ∧ M 12 0 = nI ln ∧ (∀ k, k < ln → S 1 0 k = M 11 k ∧ ∃ b, b < 256 ∧ S 1 0 k = nI b) ∧ S 1 3 0 = M 13 0) ∧ (S 0 8 0 = nI tr ∧ tr ≤ 16 ∧ M 15 0 = nI tr ∧ ∀ k, k < tr → S 0 7 k = M 14 k) ∧ S 0 9 0 = M 3 0 ∧ (∀ j, j < 8 → rRow S M j) ∧ ∀ k, k < 2 → rImg S M k
def Rel (S : Nat → Nat → Nat → Int32) (M : Nat → Nat → Int32) : Prop := ∃ z o q ln tr, RelP S M z o q ln tr
section
variable {S : Nat → Nat → Nat → Int32} {M : Nat → Nat → Int32} {z o q ln tr : Nat}
theorem okK_eq {F : Nat → Nat → Int32} {t : Nat → Int32} {z h : Nat} (hr : rF F t z) (hz : z ≤ 6) (hh : h < z) (hk : okK F h) : okK (vw t) h := by
  unfold okK at hk ⊢
  rw [← hr.2.2.2.2.2.2.1 h hh 0 (by omega)]
  exact hk
theorem rp_S (h : RelP S M z o q ln tr) : okS S z := ⟨h.1.1.1, h.1.1.2.1, h.1.1.2.2.1⟩
theorem rp_k (h : RelP S M z o q ln tr) : ∀ i, i < z → okK (S 2) i := fun i hi => (h.1.1.2.2.2.2.2.2.2.2 i hi).1
theorem rp_52 (h : RelP S M z o q ln tr) : S 2 5 0 = 0 ∨ S 2 5 0 = 1 := h.1.1.2.2.2.1
theorem rp_5k (h : RelP S M z o q ln tr) (k : Nat) (hk : k < 2) : S (k + 4) 5 0 = 0 ∨ S (k + 4) 5 0 = 1 := by
  rcases h.2.2.2.2.2.2 k hk with ⟨h1, -⟩ | ⟨h1, -⟩
  · exact Or.inl h1
  · exact Or.inr h1
theorem rp_A (h : RelP S M z o q ln tr) : okA (S 6) o q := h.2.1.1
theorem rp_sz (h : RelP S M z o q ln tr) : ∀ j, j < 8 → S (j + 8) 2 0 = nI (S (j + 8) 2 0).toNatClampNeg ∧ (S (j + 8) 2 0).toNatClampNeg ≤ 40 := fun j hj => (h.2.2.2.2.2.1 j hj).1
theorem rp_M (h : RelP S M z o q ln tr) : okM M z := by
  obtain ⟨⟨h1, -, h3⟩, -⟩ := h
  exact ⟨h3.1 ▸ h1.1, h1.2.1, h3.2.2.2.2.2.2.2, fun i hi => okK_eq h3 h1.2.1 hi (h1.2.2.2.2.2.2.2.2 i hi).1⟩
theorem rp_mz (h : RelP S M z o q ln tr) : okSz M := by
  intro j hj
  obtain ⟨h1, h2⟩ := h.2.2.2.2.2.1 j hj
  rcases h2 with ⟨-, h2⟩ | ⟨-, -, h2, -⟩
  · exact Or.inl h2
  · exact Or.inr ⟨_, h1.2, by rw [← h2]; exact h1.1⟩
end
def S00 : Nat → Nat → Nat → Int32 := fun c k _ => cond (Nat.ble 8 c && Nat.beq k 1) (-1) 0
def M00 : Nat → Nat → Int32 := up2 z2 1 (upd (upd (upd (upd (upd (upd (upd (upd (fun _ => 0) 0 (-1)) 1 (-1)) 2 (-1)) 3 (-1)) 4 (-1)) 5 (-1)) 6 (-1)) 7 (-1))

