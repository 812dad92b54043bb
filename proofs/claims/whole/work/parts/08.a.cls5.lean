/-! ===== rows by their number ===== -/
theorem nbt {b : Bool} (h : b = false) : ¬ b = true := by rw [h]; exact Bool.false_ne_true
theorem wC_r0 (S : Nat → Nat → Nat → Int32) (j : Nat) (hj : j < 8) : (wC S)[2 + 2 * j]? = some (.inr (3, [.ref (2 + 2 * j + 1), .int (S (j + 8) 1 0), .int (S (j + 8) 2 0)])) := by
  rcases (by omega : j = 0 ∨ j = 1 ∨ j = 2 ∨ j = 3 ∨ j = 4 ∨ j = 5 ∨ j = 6 ∨ j = 7) with rfl | rfl | rfl | rfl | rfl | rfl | rfl | rfl <;> rfl
theorem wC_r1 (S : Nat → Nat → Nat → Int32) (j : Nat) (hj : j < 8) : (wC S)[2 + 2 * j + 1]? = some (.inl (0, 40, .inl (S (j + 8) 0))) := by
  rcases (by omega : j = 0 ∨ j = 1 ∨ j = 2 ∨ j = 3 ∨ j = 4 ∨ j = 5 ∨ j = 6 ∨ j = 7) with rfl | rfl | rfl | rfl | rfl | rfl | rfl | rfl <;> rfl
theorem wC_r0b (S : Nat → Nat → Nat → Int32) (X : Nat → Nat → Int32) (j : Nat) (hj : j < 8) : (wC (up3 S (j + 8) X))[2 + 2 * j]? = some (.inr (3, [.ref (2 + 2 * j + 1), .int (X 1 0), .int (X 2 0)])) := by
  rcases (by omega : j = 0 ∨ j = 1 ∨ j = 2 ∨ j = 3 ∨ j = 4 ∨ j = 5 ∨ j = 6 ∨ j = 7) with rfl | rfl | rfl | rfl | rfl | rfl | rfl | rfl <;> rfl
theorem wC_r1b (S : Nat → Nat → Nat → Int32) (X : Nat → Nat → Int32) (j : Nat) (hj : j < 8) : (wC (up3 S (j + 8) X))[2 + 2 * j + 1]? = some (.inl (0, 40, .inl (X 0))) := by
  rcases (by omega : j = 0 ∨ j = 1 ∨ j = 2 ∨ j = 3 ∨ j = 4 ∨ j = 5 ∨ j = 6 ∨ j = 7) with rfl | rfl | rfl | rfl | rfl | rfl | rfl | rfl <;> rfl
theorem wC_s0 (S : Nat → Nat → Nat → Int32) (X : Nat → Nat → Int32) (j : Nat) (hj : j < 8) (hX : X 0 = S (j + 8) 0) : (wC S).set (2 + 2 * j) (.inr (3, [.ref (2 + 2 * j + 1), .int (X 1 0), .int (X 2 0)])) = wC (up3 S (j + 8) X) := by
  have hY : X = up2 X 0 (X 0) := by funext k; cases k <;> rfl
  rw [hY]
  rw [hX]
  rcases (by omega : j = 0 ∨ j = 1 ∨ j = 2 ∨ j = 3 ∨ j = 4 ∨ j = 5 ∨ j = 6 ∨ j = 7) with rfl | rfl | rfl | rfl | rfl | rfl | rfl | rfl <;> rfl
theorem wC_s1 (S : Nat → Nat → Nat → Int32) (j : Nat) (hj : j < 8) (f : Nat → Int32) : (wC S).set (2 + 2 * j + 1) (.inl (0, 40, .inl f)) = wC (up3 S (j + 8) (up2 (S (j + 8)) 0 f)) := by
  rcases (by omega : j = 0 ∨ j = 1 ∨ j = 2 ∨ j = 3 ∨ j = 4 ∨ j = 5 ∨ j = 6 ∨ j = 7) with rfl | rfl | rfl | rfl | rfl | rfl | rfl | rfl <;> rfl
theorem wC_rT (S : Nat → Nat → Nat → Int32) (j : Nat) (hj : j < 8) : [2 + 2 * j, 2 + 2 * j + 1].map (fun i => (wC S)[i]?) = (wR 0 (S (j + 8))).map (fun x => some (xEr (xS [2 + 2 * j, 2 + 2 * j + 1] (wC S).length) x)) := by
  rcases (by omega : j = 0 ∨ j = 1 ∨ j = 2 ∨ j = 3 ∨ j = 4 ∨ j = 5 ∨ j = 6 ∨ j = 7) with rfl | rfl | rfl | rfl | rfl | rfl | rfl | rfl <;> rfl
theorem wC_rset (S : Nat → Nat → Nat → Int32) (X : Nat → Nat → Int32) (j : Nat) (hj : j < 8) : xSet (wC S) [2 + 2 * j, 2 + 2 * j + 1] ((wR 0 X).map (xEr (xS [2 + 2 * j, 2 + 2 * j + 1] (wC S).length))) = wC (up3 S (j + 8) X) := by
  rcases (by omega : j = 0 ∨ j = 1 ∨ j = 2 ∨ j = 3 ∨ j = 4 ∨ j = 5 ∨ j = 6 ∨ j = 7) with rfl | rfl | rfl | rfl | rfl | rfl | rfl | rfl <;> rfl
theorem wC_rid (S : Nat → Nat → Nat → Int32) (j : Nat) (hj : j < 8) : xSet (wC S) [2 + 2 * j, 2 + 2 * j + 1] ((wR 0 (S (j + 8))).map (xEr (xS [2 + 2 * j, 2 + 2 * j + 1] (wC S).length))) = wC S := by
  rcases (by omega : j = 0 ∨ j = 1 ∨ j = 2 ∨ j = 3 ∨ j = 4 ∨ j = 5 ∨ j = 6 ∨ j = 7) with rfl | rfl | rfl | rfl | rfl | rfl | rfl | rfl <;> rfl
theorem wC_rnd (j : Nat) (hj : j < 8) : [2 + 2 * j, 2 + 2 * j + 1].Nodup := by
  simp
theorem wC_rx (j : Nat) (hj : j < 8) (v : Nat) (st : List Value) (b : Nat) : xS [2 + 2 * j, 2 + 2 * j + 1] b 0 = 2 + 2 * j := rfl
def rowC (S : Nat → Nat → Nat → Int32) (r l n : Int32) : Int32 × (Nat → Nat → Nat → Int32) := (if (belS r 8) = true then (if (belS l 3) = true then (if n ≤ 40 then (if 0 ≤ n then (n, (up3 (up3 S 0 (up2 (S 0) 9 (k1 0))) ((ix r) + 8) (up2 (up2 (up2 (S ((ix r) + 8)) 1 (k1 l)) 2 (k1 n)) 0 (zeroS (S ((ix r) + 8) 0) 40)))) else ((-1000010) - 4, (up3 S 0 (up2 (S 0) 9 (k1 4))))) else ((-1000001), S)) else ((-1000001), S)) else ((-1000001), S))
set_option maxHeartbeats 4000000 in
set_option maxRecDepth 100000 in
theorem c_X5_row (S : Nat → Nat → Nat → Int32) (r l n : Int32) : MetA yX5_row (.code yX5_row cX5_row 4 (some .int) :: TT) rmX5_row [.ref 0, .int r, .int l, .int n] (wC S) (fun vr wr => vr = some (.int (rowC S r l n).1) ∧ wr = wC (rowC S r l n).2) 0 0 := by
  refine MetA.of_i (by decide) (fun _ => Nat.le_of_ble_eq_true rfl) (Nat.le_of_ble_eq_true rfl) (fun g C E => ?_)
  replace C : Sem cX5_row RX5 "row" 4 rmX5_row g := C
  show g 0 0 (wC S) 0 [some (.ref 0), some (.int r), some (.int l), some (.int n)] []
  refine r_iload_n (pc := 0) C dX5_row_0 rfl rfl ?_
  refine r_callS0 (pc := 1) (As := [.int r]) (st := []) C (c_X5_isRow r) xm_X5_isRow xk_X5_55 dX5_row_1 (fun _ => rfl) (fun _ => rfl) rfl rfl (Nat.le_of_ble_eq_true rfl) ⟨Nat.le_of_ble_eq_true rfl, Nat.le_of_ble_eq_true rfl⟩ ⟨rfl, rfl⟩ ⟨Nat.le_of_ble_eq_true rfl, Nat.le_of_ble_eq_true rfl⟩ rfl ?_
  show g 0 0 (wC S) 4 [some (.ref 0), some (.int r), some (.int l), some (.int n)] [.int (bB (belS r 8))]
  refine r_if_eq (pc := 4) (tgt := 21) C dX5_row_4 (by decide) (fun h_4 => ?_) (fun h_4 => ?_)
  · replace h_4 := bB_f h_4
    refine r_ldc (pc := 21) (v := (-1000001)) C dX5_row_21 tw_216 ?_
    show g 0 0 (wC S) 23 [some (.ref 0), some (.int r), some (.int l), some (.int n)] [.int (-1000001)]
    have hX : rowC S r l n = ((-1000001), S) := by
      unfold rowC
      rw [if_neg (nbt h_4)]
    exact E _ _ _ _ _ _ dX5_row_23 (Nat.le_refl _) (Nat.le_refl _) rfl ⟨by rw [hX], by rw [hX]⟩
  · replace h_4 := bB_t h_4
    obtain ⟨jr, hjr, rfl⟩ := bel_ex (z := 8) rfl (by omega) h_4
    refine r_iload_n (pc := 7) C dX5_row_7 rfl rfl ?_
    refine r_iconst (pc := 8) (v := 3) C dX5_row_8 (by decide) ?_
    refine r_callS0 (pc := 9) (As := [.int l, .int 3]) (st := []) C (c_X5_isBelow l 3) xm_X5_isBelow xk_X5_59 dX5_row_9 (fun _ => rfl) (fun _ => rfl) rfl rfl (Nat.le_of_ble_eq_true rfl) ⟨Nat.le_of_ble_eq_true rfl, Nat.le_of_ble_eq_true rfl⟩ ⟨rfl, rfl⟩ ⟨Nat.le_of_ble_eq_true rfl, Nat.le_of_ble_eq_true rfl⟩ rfl ?_
    show g 0 0 (wC S) 12 [some (.ref 0), some (.int (nI jr)), some (.int l), some (.int n)] [.int (bB (belS l 3))]
    refine r_if_eq (pc := 12) (tgt := 21) C dX5_row_12 (by decide) (fun h_12 => ?_) (fun h_12 => ?_)
    · replace h_12 := bB_f h_12
      refine r_ldc (pc := 21) (v := (-1000001)) C dX5_row_21 tw_216 ?_
      show g 0 0 (wC S) 23 [some (.ref 0), some (.int (nI jr)), some (.int l), some (.int n)] [.int (-1000001)]
      have hX : rowC S (nI jr) l n = ((-1000001), S) := by
        unfold rowC
        (try rw [ix_nI (show jr < 2 ^ 31 by omega)])
        rw [if_pos h_4, if_neg (nbt h_12)]
      exact E _ _ _ _ _ _ dX5_row_23 (Nat.le_refl _) (Nat.le_refl _) rfl ⟨by rw [hX], by rw [hX]⟩
    · replace h_12 := bB_t h_12
      refine r_iload_n (pc := 15) C dX5_row_15 rfl rfl ?_
      refine r_bipush (pc := 16) (v := 40) C dX5_row_16 (by decide) ?_
      refine r_icmp_le (pc := 18) (tgt := 24) C dX5_row_18 (by decide) (fun h_18 => ?_) (fun h_18 => ?_)
      · skip
        refine r_iload_n (pc := 24) C dX5_row_24 rfl rfl ?_
        refine r_if_ge (pc := 25) (tgt := 34) C dX5_row_25 (by decide) (fun h_25 => ?_) (fun h_25 => ?_)
        · skip
          refine r_aload_n (pc := 34) C dX5_row_34 rfl rfl ?_
          refine r_iconst (pc := 35) (v := 0) C dX5_row_35 (by decide) ?_
          refine r_putfield (pc := 36) (θ' := wC (up3 S 0 (up2 (S 0) 9 (k1 0)))) C xf_X5_68 xt_X5_9 dX5_row_36 rfl (Nat.le_of_ble_eq_true rfl) (fun _ => ⟨rfl, rfl⟩) rfl ?_
          refine r_aload_n (pc := 39) C dX5_row_39 rfl rfl ?_
          refine r_getfield (pc := 40) (v := .ref 1) C xf_X5_11 dX5_row_40 rfl rfl ?_
          refine r_iload_n (pc := 43) C dX5_row_43 rfl rfl ?_
          refine r_aaload (pc := 44) (b := 2 + 2 * jr) C jr dX5_row_44 rfl (fun _ => rfl) rfl (by first | assumption | omega) rfl ?_
          refine r_iload_n (pc := 45) C dX5_row_45 rfl rfl ?_
          refine r_iload_n (pc := 46) C dX5_row_46 rfl rfl ?_
          refine r_callVD (pc := 47) (b := 2 + 2 * jr) (As := [.int l, .int n]) (st := []) (θ2 := wC (up3 (up3 S 0 (up2 (S 0) 9 (k1 0))) (jr + 8) (up2 (up2 (up2 (S (jr + 8)) 1 (k1 l)) 2 (k1 n)) 0 (zeroS (S (jr + 8) 0) 40)))) (r2 := none) C [2 + 2 * jr, 2 + 2 * jr + 1] (c_X3_begin ((up3 S 0 (up2 (S 0) 9 (k1 0))) (jr + 8)) l n) xm_X3_begin xk_X5_72 dX5_row_47 (wC_rT (up3 S 0 (up2 (S 0) 9 (k1 0))) jr (by omega)) (wC_rnd jr (by omega)) rfl (wC_r0 (up3 S 0 (up2 (S 0) 9 (k1 0))) jr (by omega)) rfl rfl rfl (Nat.le_of_ble_eq_true rfl) ⟨Nat.le_of_ble_eq_true rfl, Nat.le_of_ble_eq_true rfl⟩ ⟨rfl, rfl⟩ ⟨Nat.le_of_ble_eq_true rfl, Nat.le_of_ble_eq_true rfl⟩ rfl (Eq.trans (b := 2) rfl rfl) (wC_rset (up3 S 0 (up2 (S 0) 9 (k1 0))) _ jr (by omega)) rfl ?_
          show g 0 0 (wC (up3 (up3 S 0 (up2 (S 0) 9 (k1 0))) (jr + 8) (up2 (up2 (up2 (S (jr + 8)) 1 (k1 l)) 2 (k1 n)) 0 (zeroS (S (jr + 8) 0) 40)))) 50 [some (.ref 0), some (.int (nI jr)), some (.int l), some (.int n)] []
          refine r_iload_n (pc := 50) C dX5_row_50 rfl rfl ?_
          show g 0 0 (wC (up3 (up3 S 0 (up2 (S 0) 9 (k1 0))) (jr + 8) (up2 (up2 (up2 (S (jr + 8)) 1 (k1 l)) 2 (k1 n)) 0 (zeroS (S (jr + 8) 0) 40)))) 51 [some (.ref 0), some (.int (nI jr)), some (.int l), some (.int n)] [.int n]
          have hX : rowC S (nI jr) l n = (n, (up3 (up3 S 0 (up2 (S 0) 9 (k1 0))) (jr + 8) (up2 (up2 (up2 (S (jr + 8)) 1 (k1 l)) 2 (k1 n)) 0 (zeroS (S (jr + 8) 0) 40)))) := by
            unfold rowC
            (try rw [ix_nI (show jr < 2 ^ 31 by omega)])
            rw [if_pos h_4, if_pos h_12, if_pos h_18, if_pos h_25]
          exact E _ _ _ _ _ _ dX5_row_51 (Nat.le_refl _) (Nat.le_refl _) rfl ⟨by rw [hX], by rw [hX]⟩
        · skip
          refine r_aload_n (pc := 28) C dX5_row_28 rfl rfl ?_
          refine r_iconst (pc := 29) (v := 4) C dX5_row_29 (by decide) ?_
          refine r_callV0 (pc := 30) (As := [.int 4]) (st := []) (θ' := wC (up3 S 0 (up2 (S 0) 9 (k1 4)))) C (c_X5_finds S 4) xm_X5_finds xk_X5_64 dX5_row_30 rfl rfl rfl rfl (Nat.le_of_ble_eq_true rfl) ⟨Nat.le_of_ble_eq_true rfl, Nat.le_of_ble_eq_true rfl⟩ ⟨rfl, rfl⟩ ⟨Nat.le_of_ble_eq_true rfl, Nat.le_of_ble_eq_true rfl⟩ rfl (Eq.trans (b := 55) rfl rfl) ?_
          show g 0 0 (wC (up3 S 0 (up2 (S 0) 9 (k1 4)))) 33 [some (.ref 0), some (.int (nI jr)), some (.int l), some (.int n)] [.int ((-1000010) - 4)]
          show g 0 0 (wC (up3 S 0 (up2 (S 0) 9 (k1 4)))) 33 [some (.ref 0), some (.int (nI jr)), some (.int l), some (.int n)] [.int ((-1000010) - 4)]
          have hX : rowC S (nI jr) l n = ((-1000010) - 4, (up3 S 0 (up2 (S 0) 9 (k1 4)))) := by
            unfold rowC
            (try rw [ix_nI (show jr < 2 ^ 31 by omega)])
            rw [if_pos h_4, if_pos h_12, if_pos h_18, if_neg h_25]
          exact E _ _ _ _ _ _ dX5_row_33 (Nat.le_refl _) (Nat.le_refl _) rfl ⟨by rw [hX], by rw [hX]⟩
      · skip
        refine r_ldc (pc := 21) (v := (-1000001)) C dX5_row_21 tw_216 ?_
        show g 0 0 (wC S) 23 [some (.ref 0), some (.int (nI jr)), some (.int l), some (.int n)] [.int (-1000001)]
        have hX : rowC S (nI jr) l n = ((-1000001), S) := by
          unfold rowC
          (try rw [ix_nI (show jr < 2 ^ 31 by omega)])
          rw [if_pos h_4, if_pos h_12, if_neg h_18]
        exact E _ _ _ _ _ _ dX5_row_23 (Nat.le_refl _) (Nat.le_refl _) rfl ⟨by rw [hX], by rw [hX]⟩
def setC (S : Nat → Nat → Nat → Int32) (r i v : Int32) : Int32 × (Nat → Nat → Nat → Int32) := (if (belS r 8) = true then (if ((S ((ix r) + 8)) 1 0) = (-1) then ((-1000010) - 1, (up3 S 0 (up2 (S 0) 9 (k1 1)))) else (if (belS i ((S ((ix r) + 8)) 2 0)) = true then (nrwS (S ((ix r) + 8) 1 0) v, (up3 (up3 S 0 (up2 (S 0) 9 (k1 0))) ((ix r) + 8) (up2 (S ((ix r) + 8)) 0 (upd ((S ((ix r) + 8)) 0) (ix i) (nrwS (S ((ix r) + 8) 1 0) v))))) else ((-1000010) - 2, (up3 S 0 (up2 (S 0) 9 (k1 2)))))) else ((-1000001), S))
set_option maxHeartbeats 4000000 in
set_option maxRecDepth 100000 in
theorem c_X5_set (S : Nat → Nat → Nat → Int32) (r i v : Int32) (hsz : ∀ j, j < 8 → S (j + 8) 2 0 = nI (S (j + 8) 2 0).toNatClampNeg ∧ (S (j + 8) 2 0).toNatClampNeg ≤ 40) : MetA yX5_set (.code yX5_set cX5_set 5 (some .int) :: TT) rmX5_set [.ref 0, .int r, .int i, .int v] (wC S) (fun vr wr => vr = some (.int (setC S r i v).1) ∧ wr = wC (setC S r i v).2) 0 0 := by
  refine MetA.of_i (by decide) (fun _ => Nat.le_of_ble_eq_true rfl) (Nat.le_of_ble_eq_true rfl) (fun g C E => ?_)
  replace C : Sem cX5_set RX5 "set" 5 rmX5_set g := C
  show g 0 0 (wC S) 0 [some (.ref 0), some (.int r), some (.int i), some (.int v), none] []
  refine r_iload_n (pc := 0) C dX5_set_0 rfl rfl ?_
  refine r_callS0 (pc := 1) (As := [.int r]) (st := []) C (c_X5_isRow r) xm_X5_isRow xk_X5_55 dX5_set_1 (fun _ => rfl) (fun _ => rfl) rfl rfl (Nat.le_of_ble_eq_true rfl) ⟨Nat.le_of_ble_eq_true rfl, Nat.le_of_ble_eq_true rfl⟩ ⟨rfl, rfl⟩ ⟨Nat.le_of_ble_eq_true rfl, Nat.le_of_ble_eq_true rfl⟩ rfl ?_
  show g 0 0 (wC S) 4 [some (.ref 0), some (.int r), some (.int i), some (.int v), none] [.int (bB (belS r 8))]
  refine r_if_ne (pc := 4) (tgt := 10) C dX5_set_4 (by decide) (fun h_4 => ?_) (fun h_4 => ?_)
  · replace h_4 := bB_t h_4
    obtain ⟨jr, hjr, rfl⟩ := bel_ex (z := 8) rfl (by omega) h_4
    refine r_aload_n (pc := 10) C dX5_set_10 rfl rfl ?_
    refine r_getfield (pc := 11) (v := .ref 1) C xf_X5_11 dX5_set_11 rfl rfl ?_
    refine r_iload_n (pc := 14) C dX5_set_14 rfl rfl ?_
    refine r_aaload (pc := 15) (b := 2 + 2 * jr) C jr dX5_set_15 rfl (fun _ => rfl) rfl (by first | assumption | omega) rfl ?_
    refine r_astore (pc := 16) (lv' := [some (.ref 0), some (.int (nI jr)), some (.int i), some (.int v), some (.ref (2 + 2 * jr))]) C dX5_set_16 (Nat.le_of_ble_eq_true rfl) trivial rfl ?_
    refine r_aload (pc := 18) C dX5_set_18 rfl ?_
    refine r_getfield (pc := 20) (v := .int ((S (jr + 8)) 1 0)) C xf_X5_76 dX5_set_20 (wC_r0 S jr (by omega)) rfl ?_
    refine r_iconst (pc := 23) (v := (-1)) C dX5_set_23 (by decide) ?_
    refine r_icmp_ne (pc := 24) (tgt := 33) C dX5_set_24 (by decide) (fun h_24 => ?_) (fun h_24 => ?_)
    · skip
      refine r_iload_n (pc := 33) C dX5_set_33 rfl rfl ?_
      refine r_aload (pc := 34) C dX5_set_34 rfl ?_
      refine r_getfield (pc := 36) (v := .int ((S (jr + 8)) 2 0)) C xf_X5_79 dX5_set_36 (wC_r0 S jr (by omega)) rfl ?_
      refine r_callS0 (pc := 39) (As := [.int i, .int ((S (jr + 8)) 2 0)]) (st := []) C (c_X5_isBelow i ((S (jr + 8)) 2 0)) xm_X5_isBelow xk_X5_59 dX5_set_39 (fun _ => rfl) (fun _ => rfl) rfl rfl (Nat.le_of_ble_eq_true rfl) ⟨Nat.le_of_ble_eq_true rfl, Nat.le_of_ble_eq_true rfl⟩ ⟨rfl, rfl⟩ ⟨Nat.le_of_ble_eq_true rfl, Nat.le_of_ble_eq_true rfl⟩ rfl ?_
      show g 0 0 (wC S) 42 [some (.ref 0), some (.int (nI jr)), some (.int i), some (.int v), some (.ref (2 + 2 * jr))] [.int (bB (belS i ((S (jr + 8)) 2 0)))]
      refine r_if_ne (pc := 42) (tgt := 51) C dX5_set_42 (by decide) (fun h_42 => ?_) (fun h_42 => ?_)
      · replace h_42 := bB_t h_42
        obtain ⟨ji, hji, rfl⟩ := bel_ex (z := (S (jr + 8) 2 0).toNatClampNeg) (hsz jr (by omega)).1 (by have := (hsz jr (by omega)).2; omega) h_42
        have hji40 : ji < 40 := by have := (hsz jr (by omega)).2; omega
        refine r_aload_n (pc := 51) C dX5_set_51 rfl rfl ?_
        refine r_iconst (pc := 52) (v := 0) C dX5_set_52 (by decide) ?_
        refine r_putfield (pc := 53) (θ' := wC (up3 S 0 (up2 (S 0) 9 (k1 0)))) C xf_X5_68 xt_X5_9 dX5_set_53 rfl (Nat.le_of_ble_eq_true rfl) (fun _ => ⟨rfl, rfl⟩) rfl ?_
        refine r_aload (pc := 56) C dX5_set_56 rfl ?_
        refine r_getfield (pc := 58) (v := .ref (2 + 2 * jr + 1)) C xf_X5_82 dX5_set_58 (wC_r0 (up3 S 0 (up2 (S 0) 9 (k1 0))) jr (by omega)) rfl ?_
        refine r_iload_n (pc := 61) C dX5_set_61 rfl rfl ?_
        refine r_aload (pc := 62) C dX5_set_62 rfl ?_
        refine r_iload_n (pc := 64) C dX5_set_64 rfl rfl ?_
        refine r_callVD (pc := 65) (b := 2 + 2 * jr) (As := [.int v]) (st := [.int (nI ji), .ref (2 + 2 * jr + 1)]) (θ2 := wC (up3 S 0 (up2 (S 0) 9 (k1 0)))) (r2 := some (.int (nrwS (S (jr + 8) 1 0) v))) C [2 + 2 * jr, 2 + 2 * jr + 1] (c_X3_narrowed ((up3 S 0 (up2 (S 0) 9 (k1 0))) (jr + 8)) v) xm_X3_narrowed xk_X5_85 dX5_set_65 (wC_rT (up3 S 0 (up2 (S 0) 9 (k1 0))) jr (by omega)) (wC_rnd jr (by omega)) rfl (wC_r0 (up3 S 0 (up2 (S 0) 9 (k1 0))) jr (by omega)) rfl rfl rfl (Nat.le_of_ble_eq_true rfl) ⟨Nat.le_of_ble_eq_true rfl, Nat.le_of_ble_eq_true rfl⟩ ⟨rfl, rfl⟩ ⟨Nat.le_of_ble_eq_true rfl, Nat.le_of_ble_eq_true rfl⟩ rfl (Eq.trans (b := 2) rfl rfl) (wC_rid (up3 S 0 (up2 (S 0) 9 (k1 0))) jr (by omega)) rfl ?_
        show g 0 0 (wC (up3 S 0 (up2 (S 0) 9 (k1 0)))) 68 [some (.ref 0), some (.int (nI jr)), some (.int (nI ji)), some (.int v), some (.ref (2 + 2 * jr))] [.int (nrwS (S (jr + 8) 1 0) v), .int (nI ji), .ref (2 + 2 * jr + 1)]
        refine r_iastore (pc := 68) (θ' := wC (up3 (up3 S 0 (up2 (S 0) 9 (k1 0))) (jr + 8) (up2 (S (jr + 8)) 0 (upd ((S (jr + 8)) 0) ji (nrwS (S (jr + 8) 1 0) v))))) C ji dX5_set_68 (wC_r1 (up3 S 0 (up2 (S 0) 9 (k1 0))) jr (by omega)) rfl (by first | assumption | omega) (wC_s1 (up3 S 0 (up2 (S 0) 9 (k1 0))) jr (by omega) (upd ((S (jr + 8)) 0) ji (nrwS (S (jr + 8) 1 0) v))) ?_
        refine r_aload (pc := 69) C dX5_set_69 rfl ?_
        refine r_getfield (pc := 71) (v := .ref (2 + 2 * jr + 1)) C xf_X5_82 dX5_set_71 (wC_r0b (up3 S 0 (up2 (S 0) 9 (k1 0))) (up2 (S (jr + 8)) 0 (upd ((S (jr + 8)) 0) ji (nrwS (S (jr + 8) 1 0) v))) jr (by omega)) rfl ?_
        refine r_iload_n (pc := 74) C dX5_set_74 rfl rfl ?_
        refine r_iaload (pc := 75) (v := nrwS (S (jr + 8) 1 0) v) C ji dX5_set_75 (wC_r1b (up3 S 0 (up2 (S 0) 9 (k1 0))) (up2 (S (jr + 8)) 0 (upd ((S (jr + 8)) 0) ji (nrwS (S (jr + 8) 1 0) v))) jr (by omega)) rfl (by first | assumption | omega) pk_us ?_
        show g 0 0 (wC (up3 (up3 S 0 (up2 (S 0) 9 (k1 0))) (jr + 8) (up2 (S (jr + 8)) 0 (upd ((S (jr + 8)) 0) ji (nrwS (S (jr + 8) 1 0) v))))) 76 [some (.ref 0), some (.int (nI jr)), some (.int (nI ji)), some (.int v), some (.ref (2 + 2 * jr))] [.int (nrwS (S (jr + 8) 1 0) v)]
        have hX : setC S (nI jr) (nI ji) v = (nrwS (S (jr + 8) 1 0) v, (up3 (up3 S 0 (up2 (S 0) 9 (k1 0))) (jr + 8) (up2 (S (jr + 8)) 0 (upd ((S (jr + 8)) 0) ji (nrwS (S (jr + 8) 1 0) v))))) := by
          unfold setC
          (try rw [ix_nI (show jr < 2 ^ 31 by omega)])
          (try rw [ix_nI (show ji < 2 ^ 31 by omega)])
          rw [if_pos h_4, if_neg h_24, if_pos h_42]
        exact E _ _ _ _ _ _ dX5_set_76 (Nat.le_refl _) (Nat.le_refl _) rfl ⟨by rw [hX], by rw [hX]⟩
      · replace h_42 := bB_f h_42
        refine r_aload_n (pc := 45) C dX5_set_45 rfl rfl ?_
        refine r_iconst (pc := 46) (v := 2) C dX5_set_46 (by decide) ?_
        refine r_callV0 (pc := 47) (As := [.int 2]) (st := []) (θ' := wC (up3 S 0 (up2 (S 0) 9 (k1 2)))) C (c_X5_finds S 2) xm_X5_finds xk_X5_64 dX5_set_47 rfl rfl rfl rfl (Nat.le_of_ble_eq_true rfl) ⟨Nat.le_of_ble_eq_true rfl, Nat.le_of_ble_eq_true rfl⟩ ⟨rfl, rfl⟩ ⟨Nat.le_of_ble_eq_true rfl, Nat.le_of_ble_eq_true rfl⟩ rfl (Eq.trans (b := 55) rfl rfl) ?_
        show g 0 0 (wC (up3 S 0 (up2 (S 0) 9 (k1 2)))) 50 [some (.ref 0), some (.int (nI jr)), some (.int i), some (.int v), some (.ref (2 + 2 * jr))] [.int ((-1000010) - 2)]
        show g 0 0 (wC (up3 S 0 (up2 (S 0) 9 (k1 2)))) 50 [some (.ref 0), some (.int (nI jr)), some (.int i), some (.int v), some (.ref (2 + 2 * jr))] [.int ((-1000010) - 2)]
        have hX : setC S (nI jr) i v = ((-1000010) - 2, (up3 S 0 (up2 (S 0) 9 (k1 2)))) := by
          unfold setC
          (try rw [ix_nI (show jr < 2 ^ 31 by omega)])
          rw [if_pos h_4, if_neg h_24, if_neg (nbt h_42)]
        exact E _ _ _ _ _ _ dX5_set_50 (Nat.le_refl _) (Nat.le_refl _) rfl ⟨by rw [hX], by rw [hX]⟩
    · skip
      refine r_aload_n (pc := 27) C dX5_set_27 rfl rfl ?_
      refine r_iconst (pc := 28) (v := 1) C dX5_set_28 (by decide) ?_
      refine r_callV0 (pc := 29) (As := [.int 1]) (st := []) (θ' := wC (up3 S 0 (up2 (S 0) 9 (k1 1)))) C (c_X5_finds S 1) xm_X5_finds xk_X5_64 dX5_set_29 rfl rfl rfl rfl (Nat.le_of_ble_eq_true rfl) ⟨Nat.le_of_ble_eq_true rfl, Nat.le_of_ble_eq_true rfl⟩ ⟨rfl, rfl⟩ ⟨Nat.le_of_ble_eq_true rfl, Nat.le_of_ble_eq_true rfl⟩ rfl (Eq.trans (b := 55) rfl rfl) ?_
      show g 0 0 (wC (up3 S 0 (up2 (S 0) 9 (k1 1)))) 32 [some (.ref 0), some (.int (nI jr)), some (.int i), some (.int v), some (.ref (2 + 2 * jr))] [.int ((-1000010) - 1)]
      show g 0 0 (wC (up3 S 0 (up2 (S 0) 9 (k1 1)))) 32 [some (.ref 0), some (.int (nI jr)), some (.int i), some (.int v), some (.ref (2 + 2 * jr))] [.int ((-1000010) - 1)]
      have hX : setC S (nI jr) i v = ((-1000010) - 1, (up3 S 0 (up2 (S 0) 9 (k1 1)))) := by
        unfold setC
        (try rw [ix_nI (show jr < 2 ^ 31 by omega)])
        rw [if_pos h_4, if_pos h_24]
      exact E _ _ _ _ _ _ dX5_set_32 (Nat.le_refl _) (Nat.le_refl _) rfl ⟨by rw [hX], by rw [hX]⟩
  · replace h_4 := bB_f h_4
    refine r_ldc (pc := 7) (v := (-1000001)) C dX5_set_7 tw_216 ?_
    show g 0 0 (wC S) 9 [some (.ref 0), some (.int r), some (.int i), some (.int v), none] [.int (-1000001)]
    have hX : setC S r i v = ((-1000001), S) := by
      unfold setC
      rw [if_neg (nbt h_4)]
    exact E _ _ _ _ _ _ dX5_set_9 (Nat.le_refl _) (Nat.le_refl _) rfl ⟨by rw [hX], by rw [hX]⟩
def dropC (S : Nat → Nat → Nat → Int32) (r : Int32) : Int32 × (Nat → Nat → Nat → Int32) := (if (belS r 8) = true then (if ((S ((ix r) + 8)) 1 0) = (-1) then ((-1000010) - 1, (up3 S 0 (up2 (S 0) 9 (k1 1)))) else ((S ((ix r) + 8)) 2 0, (up3 (up3 S 0 (up2 (S 0) 9 (k1 0))) ((ix r) + 8) (up2 (S ((ix r) + 8)) 1 (k1 (-1)))))) else ((-1000001), S))
set_option maxHeartbeats 4000000 in
set_option maxRecDepth 100000 in
theorem c_X5_drop (S : Nat → Nat → Nat → Int32) (r : Int32) : MetA yX5_drop (.code yX5_drop cX5_drop 3 (some .int) :: TT) rmX5_drop [.ref 0, .int r] (wC S) (fun vr wr => vr = some (.int (dropC S r).1) ∧ wr = wC (dropC S r).2) 0 0 := by
  refine MetA.of_i (by decide) (fun _ => Nat.le_of_ble_eq_true rfl) (Nat.le_of_ble_eq_true rfl) (fun g C E => ?_)
  replace C : Sem cX5_drop RX5 "drop" 3 rmX5_drop g := C
  show g 0 0 (wC S) 0 [some (.ref 0), some (.int r), none] []
  refine r_iload_n (pc := 0) C dX5_drop_0 rfl rfl ?_
  refine r_callS0 (pc := 1) (As := [.int r]) (st := []) C (c_X5_isRow r) xm_X5_isRow xk_X5_55 dX5_drop_1 (fun _ => rfl) (fun _ => rfl) rfl rfl (Nat.le_of_ble_eq_true rfl) ⟨Nat.le_of_ble_eq_true rfl, Nat.le_of_ble_eq_true rfl⟩ ⟨rfl, rfl⟩ ⟨Nat.le_of_ble_eq_true rfl, Nat.le_of_ble_eq_true rfl⟩ rfl ?_
  show g 0 0 (wC S) 4 [some (.ref 0), some (.int r), none] [.int (bB (belS r 8))]
  refine r_if_ne (pc := 4) (tgt := 10) C dX5_drop_4 (by decide) (fun h_4 => ?_) (fun h_4 => ?_)
  · replace h_4 := bB_t h_4
    obtain ⟨jr, hjr, rfl⟩ := bel_ex (z := 8) rfl (by omega) h_4
    refine r_aload_n (pc := 10) C dX5_drop_10 rfl rfl ?_
    refine r_getfield (pc := 11) (v := .ref 1) C xf_X5_11 dX5_drop_11 rfl rfl ?_
    refine r_iload_n (pc := 14) C dX5_drop_14 rfl rfl ?_
    refine r_aaload (pc := 15) (b := 2 + 2 * jr) C jr dX5_drop_15 rfl (fun _ => rfl) rfl (by first | assumption | omega) rfl ?_
    refine r_astore_n (pc := 16) (lv' := [some (.ref 0), some (.int (nI jr)), some (.ref (2 + 2 * jr))]) C dX5_drop_16 rfl (Nat.le_of_ble_eq_true rfl) trivial rfl ?_
    refine r_aload_n (pc := 17) C dX5_drop_17 rfl rfl ?_
    refine r_getfield (pc := 18) (v := .int ((S (jr + 8)) 1 0)) C xf_X5_76 dX5_drop_18 (wC_r0 S jr (by omega)) rfl ?_
    refine r_iconst (pc := 21) (v := (-1)) C dX5_drop_21 (by decide) ?_
    refine r_icmp_ne (pc := 22) (tgt := 31) C dX5_drop_22 (by decide) (fun h_22 => ?_) (fun h_22 => ?_)
    · skip
      refine r_aload_n (pc := 31) C dX5_drop_31 rfl rfl ?_
      refine r_iconst (pc := 32) (v := 0) C dX5_drop_32 (by decide) ?_
      refine r_putfield (pc := 33) (θ' := wC (up3 S 0 (up2 (S 0) 9 (k1 0)))) C xf_X5_68 xt_X5_9 dX5_drop_33 rfl (Nat.le_of_ble_eq_true rfl) (fun _ => ⟨rfl, rfl⟩) rfl ?_
      refine r_aload_n (pc := 36) C dX5_drop_36 rfl rfl ?_
      refine r_iconst (pc := 37) (v := (-1)) C dX5_drop_37 (by decide) ?_
      refine r_putfield (pc := 38) (θ' := wC (up3 (up3 S 0 (up2 (S 0) 9 (k1 0))) (jr + 8) (up2 (S (jr + 8)) 1 (k1 (-1))))) C xf_X5_76 xt_X3_1 dX5_drop_38 (wC_r0 (up3 S 0 (up2 (S 0) 9 (k1 0))) jr (by omega)) (Nat.le_of_ble_eq_true rfl) (fun _ => ⟨rfl, rfl⟩) (wC_s0 (up3 S 0 (up2 (S 0) 9 (k1 0))) (up2 (S (jr + 8)) 1 (k1 (-1))) jr (by omega) rfl) ?_
      refine r_aload_n (pc := 41) C dX5_drop_41 rfl rfl ?_
      refine r_getfield (pc := 42) (v := .int ((S (jr + 8)) 2 0)) C xf_X5_79 dX5_drop_42 (wC_r0b (up3 S 0 (up2 (S 0) 9 (k1 0))) (up2 (S (jr + 8)) 1 (k1 (-1))) jr (by omega)) rfl ?_
      show g 0 0 (wC (up3 (up3 S 0 (up2 (S 0) 9 (k1 0))) (jr + 8) (up2 (S (jr + 8)) 1 (k1 (-1))))) 45 [some (.ref 0), some (.int (nI jr)), some (.ref (2 + 2 * jr))] [.int ((S (jr + 8)) 2 0)]
      have hX : dropC S (nI jr) = ((S (jr + 8)) 2 0, (up3 (up3 S 0 (up2 (S 0) 9 (k1 0))) (jr + 8) (up2 (S (jr + 8)) 1 (k1 (-1))))) := by
        unfold dropC
        (try rw [ix_nI (show jr < 2 ^ 31 by omega)])
        rw [if_pos h_4, if_neg h_22]
      exact E _ _ _ _ _ _ dX5_drop_45 (Nat.le_refl _) (Nat.le_refl _) rfl ⟨by rw [hX], by rw [hX]⟩
    · skip
      refine r_aload_n (pc := 25) C dX5_drop_25 rfl rfl ?_
      refine r_iconst (pc := 26) (v := 1) C dX5_drop_26 (by decide) ?_
      refine r_callV0 (pc := 27) (As := [.int 1]) (st := []) (θ' := wC (up3 S 0 (up2 (S 0) 9 (k1 1)))) C (c_X5_finds S 1) xm_X5_finds xk_X5_64 dX5_drop_27 rfl rfl rfl rfl (Nat.le_of_ble_eq_true rfl) ⟨Nat.le_of_ble_eq_true rfl, Nat.le_of_ble_eq_true rfl⟩ ⟨rfl, rfl⟩ ⟨Nat.le_of_ble_eq_true rfl, Nat.le_of_ble_eq_true rfl⟩ rfl (Eq.trans (b := 55) rfl rfl) ?_
      show g 0 0 (wC (up3 S 0 (up2 (S 0) 9 (k1 1)))) 30 [some (.ref 0), some (.int (nI jr)), some (.ref (2 + 2 * jr))] [.int ((-1000010) - 1)]
      show g 0 0 (wC (up3 S 0 (up2 (S 0) 9 (k1 1)))) 30 [some (.ref 0), some (.int (nI jr)), some (.ref (2 + 2 * jr))] [.int ((-1000010) - 1)]
      have hX : dropC S (nI jr) = ((-1000010) - 1, (up3 S 0 (up2 (S 0) 9 (k1 1)))) := by
        unfold dropC
        (try rw [ix_nI (show jr < 2 ^ 31 by omega)])
        rw [if_pos h_4, if_pos h_22]
      exact E _ _ _ _ _ _ dX5_drop_30 (Nat.le_refl _) (Nat.le_refl _) rfl ⟨by rw [hX], by rw [hX]⟩
  · replace h_4 := bB_f h_4
    refine r_ldc (pc := 7) (v := (-1000001)) C dX5_drop_7 tw_216 ?_
    show g 0 0 (wC S) 9 [some (.ref 0), some (.int r), none] [.int (-1000001)]
    have hX : dropC S r = ((-1000001), S) := by
      unfold dropC
      rw [if_neg (nbt h_4)]
    exact E _ _ _ _ _ _ dX5_drop_9 (Nat.le_refl _) (Nat.le_refl _) rfl ⟨by rw [hX], by rw [hX]⟩
