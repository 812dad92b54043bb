def cordC (S : Nat → Nat → Nat → Int32) (o q : Nat) (h c : Int32) : Int32 × (Nat → Nat → Nat → Int32) := if belS h (S 2 9 0) then (if belS c 2 then (if bB (cutS (S 2) (ix h)) = (if c = 1 then 1 else 0) then (-1000002, S) else (S 2 10 0 ^^^ (1 <<< (h &&& 31)), up3 (up3 S 2 (up2 (S 2) 10 (k1 (S 2 10 0 ^^^ (1 <<< (h &&& 31)))))) 6 (kpAll (S 6) o q 3 h 0 0))) else (-1000001, S)) else (-1000001, S)
theorem bel12 : (belS 1 2 = true) = True := by simp [belS]
theorem tw_ex {S : Nat → Nat → Nat → Int32} {a b : Int32} {z : Nat} (hz : S 2 9 0 = nI z) (hz6 : z < 2 ^ 31) (h : twB S a b = true) : ∃ i j, i < z ∧ j < z ∧ i ≠ j ∧ a = nI i ∧ b = nI j := by
  unfold twB at h
  simp only [Bool.and_eq_true, Bool.not_eq_true', decide_eq_false_iff_not] at h
  obtain ⟨i, hi, rfl⟩ := bel_ex hz hz6 h.1.1
  obtain ⟨j, hj, rfl⟩ := bel_ex hz hz6 h.1.2
  exact ⟨i, j, hi, hj, fun e => h.2 (congrArg nI e), rfl, rfl⟩
set_option maxHeartbeats 4000000 in
set_option maxRecDepth 100000 in
theorem c_X5_cord (S : Nat → Nat → Nat → Int32) (h c : Int32) (z : Nat) (hS : okS S z) (o q : Nat) (hA : okA (S 6) o q) : MetA yX5_cord (.code yX5_cord cX5_cord 3 (some .int) :: TT) rmX5_cord [.ref 0, .int h, .int c] (wC S) (fun vr wr => vr = some (.int (cordC S o q h c).1) ∧ wr = wC (cordC S o q h c).2) 0 0 := by
  refine MetA.of_i (by decide) (fun _ => Nat.le_of_ble_eq_true rfl) (Nat.le_of_ble_eq_true rfl) (fun g C E => ?_)
  replace C : Sem cX5_cord RX5 "cord" 3 rmX5_cord g := C
  show g 0 0 (wC S) 0 [some (.ref 0), some (.int h), some (.int c)] []
  refine r_aload_n (pc := 0) C dX5_cord_0 rfl rfl ?_
  refine r_iload_n (pc := 1) C dX5_cord_1 rfl rfl ?_
  refine r_callV0 (pc := 2) (As := [.int h]) (st := []) (θ' := wC S) C (c_X5_isHammock S h) xm_X5_isHammock xk_X5_138 dX5_cord_2 rfl rfl rfl rfl (Nat.le_of_ble_eq_true rfl) ⟨Nat.le_of_ble_eq_true rfl, Nat.le_of_ble_eq_true rfl⟩ ⟨rfl, rfl⟩ ⟨Nat.le_of_ble_eq_true rfl, Nat.le_of_ble_eq_true rfl⟩ rfl (Eq.trans (b := 55) rfl rfl) ?_
  show g 0 0 (wC S) 5 [some (.ref 0), some (.int h), some (.int c)] [.int (bB (belS h ((S 2) 9 0)))]
  refine r_if_eq (pc := 5) (tgt := 16) C dX5_cord_5 (by decide) (fun h_5 => ?_) (fun h_5 => ?_)
  · replace h_5 := bB_f h_5
    refine r_ldc (pc := 16) (v := (-1000001)) C dX5_cord_16 tw_216 ?_
    show g 0 0 (wC S) 18 [some (.ref 0), some (.int h), some (.int c)] [.int (-1000001)]
    have hX : cordC S o q h c = ((-1000001), S) := by simp only [cordC, h_5, if_true, if_false, Bool.false_eq_true]
    exact E _ _ _ _ _ _ dX5_cord_18 (Nat.le_refl _) (Nat.le_refl _) rfl ⟨by rw [hX], by rw [hX]⟩
  · replace h_5 := bB_t h_5
    obtain ⟨j, hj, rfl⟩ := bel_ex hS.1 (by have := hS.2.1; omega) h_5
    have hj6 : j < 6 := by have := hS.2.1; omega
    refine r_iload_n (pc := 8) C dX5_cord_8 rfl rfl ?_
    refine r_iconst (pc := 9) (v := 2) C dX5_cord_9 (by decide) ?_
    refine r_callS0 (pc := 10) (As := [.int c, .int 2]) (st := []) C (c_X5_isBelow c 2) xm_X5_isBelow xk_X5_59 dX5_cord_10 (fun _ => rfl) (fun _ => rfl) rfl rfl (Nat.le_of_ble_eq_true rfl) ⟨Nat.le_of_ble_eq_true rfl, Nat.le_of_ble_eq_true rfl⟩ ⟨rfl, rfl⟩ ⟨Nat.le_of_ble_eq_true rfl, Nat.le_of_ble_eq_true rfl⟩ rfl ?_
    show g 0 0 (wC S) 13 [some (.ref 0), some (.int (nI j)), some (.int c)] [.int (bB (belS c 2))]
    refine r_if_ne (pc := 13) (tgt := 19) C dX5_cord_13 (by decide) (fun h_13 => ?_) (fun h_13 => ?_)
    · replace h_13 := bB_t h_13
      refine r_aload_n (pc := 19) C dX5_cord_19 rfl rfl ?_
      refine r_getfield (pc := 20) (v := .ref 20) C xf_X5_25 dX5_cord_20 rfl rfl ?_
      refine r_iload_n (pc := 23) C dX5_cord_23 rfl rfl ?_
      refine r_callVD (pc := 24) (b := 20) (As := [.int (nI j)]) (st := []) (θ2 := wC S) (r2 := some (.int (bB (cutS (S 2) j)))) C [20, 21, 22, 23, 24, 25] (c_X1_isCut (S 2) j (by omega)) xm_X1_isCut xk_X5_157 dX5_cord_24 rfl (by decide) rfl rfl rfl rfl rfl (Nat.le_of_ble_eq_true rfl) ⟨Nat.le_of_ble_eq_true rfl, Nat.le_of_ble_eq_true rfl⟩ ⟨rfl, rfl⟩ ⟨Nat.le_of_ble_eq_true rfl, Nat.le_of_ble_eq_true rfl⟩ rfl (Eq.trans (b := 6) rfl rfl) rfl rfl ?_
      show g 0 0 (wC S) 27 [some (.ref 0), some (.int (nI j)), some (.int c)] [.int (bB (cutS (S 2) j))]
      refine r_iload_n (pc := 27) C dX5_cord_27 rfl rfl ?_
      refine r_iconst (pc := 28) (v := 1) C dX5_cord_28 (by decide) ?_
      refine r_icmp_ne (pc := 29) (tgt := 36) C dX5_cord_29 (by decide) (fun h_29 => ?_) (fun h_29 => ?_)
      · skip
        refine r_iconst (pc := 36) (v := 0) C dX5_cord_36 (by decide) ?_
        refine r_icmp_ne (pc := 37) (tgt := 43) C dX5_cord_37 (by decide) (fun h_37 => ?_) (fun h_37 => ?_)
        · skip
          refine r_aload_n (pc := 43) C dX5_cord_43 rfl rfl ?_
          refine r_getfield (pc := 44) (v := .ref 45) C xf_X5_39 dX5_cord_44 rfl rfl ?_
          refine r_iconst (pc := 47) (v := 3) C dX5_cord_47 (by decide) ?_
          refine r_iload_n (pc := 48) C dX5_cord_48 rfl rfl ?_
          refine r_iconst (pc := 49) (v := 0) C dX5_cord_49 (by decide) ?_
          refine r_iconst (pc := 50) (v := 0) C dX5_cord_50 (by decide) ?_
          refine r_callVD (pc := 51) (b := 45) (As := [.int 3, .int (nI j), .int 0, .int 0]) (st := []) (θ2 := wC (up3 S 6 (kpAll (S 6) o q 3 (nI j) 0 0))) (r2 := none) C [45, 46, 47, 48, 49] (c_X0_keep (S 6) o hA.1 hA.2.1 q hA.2.2.1 hA.2.2.2 3 (nI j) 0 0) xm_X0_keep xk_X5_131 dX5_cord_51 rfl (by decide) rfl rfl rfl rfl rfl (Nat.le_of_ble_eq_true rfl) ⟨Nat.le_of_ble_eq_true rfl, Nat.le_of_ble_eq_true rfl⟩ ⟨rfl, rfl⟩ ⟨Nat.le_of_ble_eq_true rfl, Nat.le_of_ble_eq_true rfl⟩ rfl (Eq.trans (b := 5) rfl rfl) rfl rfl ?_
          show g 0 0 (wC (up3 S 6 (kpAll (S 6) o q 3 (nI j) 0 0))) 54 [some (.ref 0), some (.int (nI j)), some (.int c)] []
          refine r_aload_n (pc := 54) C dX5_cord_54 rfl rfl ?_
          refine r_getfield (pc := 55) (v := .ref 20) C xf_X5_25 dX5_cord_55 rfl rfl ?_
          refine r_dup (pc := 58) C dX5_cord_58 rfl ?_
          refine r_getfield (pc := 59) (v := .int ((S 2) 10 0)) C xf_X5_160 dX5_cord_59 rfl rfl ?_
          refine r_iconst (pc := 62) (v := 1) C dX5_cord_62 (by decide) ?_
          refine r_iload_n (pc := 63) C dX5_cord_63 rfl rfl ?_
          refine r_ishl (pc := 64) C dX5_cord_64 ?_
          refine r_ixor (pc := 65) C dX5_cord_65 ?_
          refine r_putfield (pc := 66) (θ' := wC (up3 (up3 S 2 (up2 (S 2) 10 (k1 (((S 2) 10 0) ^^^ (1 <<< ((nI j) &&& 31)))))) 6 (kpAll (S 6) o q 3 (nI j) 0 0))) C xf_X5_160 xt_X1_10 dX5_cord_66 rfl (Nat.le_of_ble_eq_true rfl) (fun _ => ⟨rfl, rfl⟩) rfl ?_
          refine r_aload_n (pc := 69) C dX5_cord_69 rfl rfl ?_
          refine r_getfield (pc := 70) (v := .ref 20) C xf_X5_25 dX5_cord_70 rfl rfl ?_
          refine r_getfield (pc := 73) (v := .int (((S 2) 10 0) ^^^ (1 <<< ((nI j) &&& 31)))) C xf_X5_160 dX5_cord_73 rfl rfl ?_
          show g 0 0 (wC (up3 (up3 S 2 (up2 (S 2) 10 (k1 (((S 2) 10 0) ^^^ (1 <<< ((nI j) &&& 31)))))) 6 (kpAll (S 6) o q 3 (nI j) 0 0))) 76 [some (.ref 0), some (.int (nI j)), some (.int c)] [.int (((S 2) 10 0) ^^^ (1 <<< ((nI j) &&& 31)))]
          have hX : cordC S o q (nI j) c = (((S 2) 10 0) ^^^ (1 <<< ((nI j) &&& 31)), (up3 (up3 S 2 (up2 (S 2) 10 (k1 (((S 2) 10 0) ^^^ (1 <<< ((nI j) &&& 31)))))) 6 (kpAll (S 6) o q 3 (nI j) 0 0))) := by simp only [cordC, h_5, h_13, if_true, if_false, Bool.false_eq_true, ix_nI (show j < 2 ^ 31 by omega)]; rw [if_neg (by simp only [h_29, if_true, if_false]; exact h_37)]
          exact E _ _ _ _ _ _ dX5_cord_76 (Nat.le_refl _) (Nat.le_refl _) rfl ⟨by rw [hX], by rw [hX]⟩
        · skip
          refine r_ldc (pc := 40) (v := (-1000002)) C dX5_cord_40 tw_323 ?_
          show g 0 0 (wC S) 42 [some (.ref 0), some (.int (nI j)), some (.int c)] [.int (-1000002)]
          have hX : cordC S o q (nI j) c = ((-1000002), S) := by simp only [cordC, h_5, h_13, if_true, if_false, Bool.false_eq_true, ix_nI (show j < 2 ^ 31 by omega)]; rw [if_pos (by simp only [h_29, if_true, if_false]; exact h_37)]
          exact E _ _ _ _ _ _ dX5_cord_42 (Nat.le_refl _) (Nat.le_refl _) rfl ⟨by rw [hX], by rw [hX]⟩
      · skip
        refine r_iconst (pc := 32) (v := 1) C dX5_cord_32 (by decide) ?_
        refine r_goto (pc := 33) (tgt := 37) C dX5_cord_33 (by decide) ?_
        refine r_icmp_ne (pc := 37) (tgt := 43) C dX5_cord_37 (by decide) (fun h_37 => ?_) (fun h_37 => ?_)
        · skip
          refine r_aload_n (pc := 43) C dX5_cord_43 rfl rfl ?_
          refine r_getfield (pc := 44) (v := .ref 45) C xf_X5_39 dX5_cord_44 rfl rfl ?_
          refine r_iconst (pc := 47) (v := 3) C dX5_cord_47 (by decide) ?_
          refine r_iload_n (pc := 48) C dX5_cord_48 rfl rfl ?_
          refine r_iconst (pc := 49) (v := 0) C dX5_cord_49 (by decide) ?_
          refine r_iconst (pc := 50) (v := 0) C dX5_cord_50 (by decide) ?_
          refine r_callVD (pc := 51) (b := 45) (As := [.int 3, .int (nI j), .int 0, .int 0]) (st := []) (θ2 := wC (up3 S 6 (kpAll (S 6) o q 3 (nI j) 0 0))) (r2 := none) C [45, 46, 47, 48, 49] (c_X0_keep (S 6) o hA.1 hA.2.1 q hA.2.2.1 hA.2.2.2 3 (nI j) 0 0) xm_X0_keep xk_X5_131 dX5_cord_51 rfl (by decide) rfl rfl rfl rfl rfl (Nat.le_of_ble_eq_true rfl) ⟨Nat.le_of_ble_eq_true rfl, Nat.le_of_ble_eq_true rfl⟩ ⟨rfl, rfl⟩ ⟨Nat.le_of_ble_eq_true rfl, Nat.le_of_ble_eq_true rfl⟩ rfl (Eq.trans (b := 5) rfl rfl) rfl rfl ?_
          show g 0 0 (wC (up3 S 6 (kpAll (S 6) o q 3 (nI j) 0 0))) 54 [some (.ref 0), some (.int (nI j)), some (.int c)] []
          refine r_aload_n (pc := 54) C dX5_cord_54 rfl rfl ?_
          refine r_getfield (pc := 55) (v := .ref 20) C xf_X5_25 dX5_cord_55 rfl rfl ?_
          refine r_dup (pc := 58) C dX5_cord_58 rfl ?_
          refine r_getfield (pc := 59) (v := .int ((S 2) 10 0)) C xf_X5_160 dX5_cord_59 rfl rfl ?_
          refine r_iconst (pc := 62) (v := 1) C dX5_cord_62 (by decide) ?_
          refine r_iload_n (pc := 63) C dX5_cord_63 rfl rfl ?_
          refine r_ishl (pc := 64) C dX5_cord_64 ?_
          refine r_ixor (pc := 65) C dX5_cord_65 ?_
          refine r_putfield (pc := 66) (θ' := wC (up3 (up3 S 2 (up2 (S 2) 10 (k1 (((S 2) 10 0) ^^^ (1 <<< ((nI j) &&& 31)))))) 6 (kpAll (S 6) o q 3 (nI j) 0 0))) C xf_X5_160 xt_X1_10 dX5_cord_66 rfl (Nat.le_of_ble_eq_true rfl) (fun _ => ⟨rfl, rfl⟩) rfl ?_
          refine r_aload_n (pc := 69) C dX5_cord_69 rfl rfl ?_
          refine r_getfield (pc := 70) (v := .ref 20) C xf_X5_25 dX5_cord_70 rfl rfl ?_
          refine r_getfield (pc := 73) (v := .int (((S 2) 10 0) ^^^ (1 <<< ((nI j) &&& 31)))) C xf_X5_160 dX5_cord_73 rfl rfl ?_
          show g 0 0 (wC (up3 (up3 S 2 (up2 (S 2) 10 (k1 (((S 2) 10 0) ^^^ (1 <<< ((nI j) &&& 31)))))) 6 (kpAll (S 6) o q 3 (nI j) 0 0))) 76 [some (.ref 0), some (.int (nI j)), some (.int c)] [.int (((S 2) 10 0) ^^^ (1 <<< ((nI j) &&& 31)))]
          have hX : cordC S o q (nI j) c = (((S 2) 10 0) ^^^ (1 <<< ((nI j) &&& 31)), (up3 (up3 S 2 (up2 (S 2) 10 (k1 (((S 2) 10 0) ^^^ (1 <<< ((nI j) &&& 31)))))) 6 (kpAll (S 6) o q 3 (nI j) 0 0))) := by simp only [cordC, h_5, h_13, if_true, if_false, Bool.false_eq_true, ix_nI (show j < 2 ^ 31 by omega)]; rw [if_neg (by simp only [h_29, if_true, if_false]; exact h_37)]
          exact E _ _ _ _ _ _ dX5_cord_76 (Nat.le_refl _) (Nat.le_refl _) rfl ⟨by rw [hX], by rw [hX]⟩
        · skip
          refine r_ldc (pc := 40) (v := (-1000002)) C dX5_cord_40 tw_323 ?_
          show g 0 0 (wC S) 42 [some (.ref 0), some (.int (nI j)), some (.int c)] [.int (-1000002)]
          have hX : cordC S o q (nI j) c = ((-1000002), S) := by simp only [cordC, h_5, h_13, if_true, if_false, Bool.false_eq_true, ix_nI (show j < 2 ^ 31 by omega)]; rw [if_pos (by simp only [h_29, if_true, if_false]; exact h_37)]
          exact E _ _ _ _ _ _ dX5_cord_42 (Nat.le_refl _) (Nat.le_refl _) rfl ⟨by rw [hX], by rw [hX]⟩
    · replace h_13 := bB_f h_13
      refine r_ldc (pc := 16) (v := (-1000001)) C dX5_cord_16 tw_216 ?_
      show g 0 0 (wC S) 18 [some (.ref 0), some (.int (nI j)), some (.int c)] [.int (-1000001)]
      have hX : cordC S o q (nI j) c = ((-1000001), S) := by simp only [cordC, h_5, h_13, if_true, if_false, Bool.false_eq_true, ix_nI (show j < 2 ^ 31 by omega)]
      exact E _ _ _ _ _ _ dX5_cord_18 (Nat.le_refl _) (Nat.le_refl _) rfl ⟨by rw [hX], by rw [hX]⟩
set_option maxHeartbeats 4000000 in
set_option maxRecDepth 100000 in
theorem c_X5_undo_0 (S : Nat → Nat → Nat → Int32) (hq : S 6 5 0 = 0) : MetA yX5_undo (.code yX5_undo cX5_undo 1 (some .int) :: TT) rmX5_undo [.ref 0] (wC S) (fun vr wr => vr = some (.int (-1000002)) ∧ wr = wC S) 0 0 := by
  refine MetA.of_i (by decide) (fun _ => Nat.le_of_ble_eq_true rfl) (Nat.le_of_ble_eq_true rfl) (fun g C E => ?_)
  replace C : Sem cX5_undo RX5 "undo" 1 rmX5_undo g := C
  show g 0 0 (wC S) 0 [some (.ref 0)] []
  refine r_aload_n (pc := 0) C dX5_undo_0 rfl rfl ?_
  refine r_getfield (pc := 1) (v := .ref 45) C xf_X5_39 dX5_undo_1 rfl rfl ?_
  refine r_getfield (pc := 4) (v := .int ((S 6) 5 0)) C xf_X5_163 dX5_undo_4 rfl rfl ?_
  refine r_if_ne (pc := 7) (tgt := 13) C dX5_undo_7 (by decide) (fun h => absurd hq h) (fun _ => ?_)
  refine r_ldc (pc := 10) (v := (-1000002)) C dX5_undo_10 tw_323 ?_
  exact E _ _ _ _ _ _ dX5_undo_12 (Nat.le_refl _) (Nat.le_refl _) rfl ⟨rfl, rfl⟩
set_option maxHeartbeats 4000000 in
set_option maxRecDepth 100000 in
theorem c_X5_undo (S : Nat → Nat → Nat → Int32) (o q : Nat) (hA : okA (S 6) o q) (hq0 : 0 < q) (j : Nat) (hj : S 6 1 ((o + (q - 1)) % 24) = nI j) (hj6 : j < 6) : MetA yX5_undo (.code yX5_undo cX5_undo 1 (some .int) :: TT) rmX5_undo [.ref 0] (wC S) (fun vr wr => vr = some (.int (nI (q - 1))) ∧ wr = wC (up3 (up3 S 2 (tbS (S 2) (S 6 0 ((o + (q - 1)) % 24)) j (S 6 2 ((o + (q - 1)) % 24)) (S 6 3 ((o + (q - 1)) % 24)))) 6 (up2 (S 6) 5 (k1 (nI (q - 1)))))) 0 0 := by
  refine MetA.of_i (by decide) (fun _ => Nat.le_of_ble_eq_true rfl) (Nat.le_of_ble_eq_true rfl) (fun g C E => ?_)
  replace C : Sem cX5_undo RX5 "undo" 1 rmX5_undo g := C
  show g 0 0 (wC S) 0 [some (.ref 0)] []
  refine r_aload_n (pc := 0) C dX5_undo_0 rfl rfl ?_
  refine r_getfield (pc := 1) (v := .ref 45) C xf_X5_39 dX5_undo_1 rfl rfl ?_
  refine r_getfield (pc := 4) (v := .int ((S 6) 5 0)) C xf_X5_163 dX5_undo_4 rfl rfl ?_
  refine r_if_ne (pc := 7) (tgt := 13) C dX5_undo_7 (by decide) (fun _ => ?_) (fun h => absurd h (by rw [hA.2.2.1]; exact nI_ne0 hq0 (by have := hA.2.2.2; omega)))
  refine r_aload_n (pc := 13) C dX5_undo_13 rfl rfl ?_
  refine r_getfield (pc := 14) (v := .ref 45) C xf_X5_39 dX5_undo_14 rfl rfl ?_
  refine r_aload_n (pc := 17) C dX5_undo_17 rfl rfl ?_
  refine r_getfield (pc := 18) (v := .ref 20) C xf_X5_25 dX5_undo_18 rfl rfl ?_
  refine r_callVD (pc := 21) (b := 45) (As := [.ref 20]) (st := []) (θ2 := wC (up3 (up3 S 2 (tbS (S 2) (S 6 0 ((o + (q - 1)) % 24)) j (S 6 2 ((o + (q - 1)) % 24)) (S 6 3 ((o + (q - 1)) % 24)))) 6 (up2 (S 6) 5 (k1 (nI (q - 1)))))) (r2 := none) C [45, 46, 47, 48, 49, 20, 21, 22, 23, 24, 25] (c_X0_takeBack (S 6) (S 2) o hA.1 hA.2.1 q hA.2.2.1 hq0 hA.2.2.2 j hj hj6) xm_X0_takeBack xk_X5_166 dX5_undo_21 rfl (by decide) rfl rfl rfl rfl rfl (Nat.le_of_ble_eq_true rfl) ⟨Nat.le_of_ble_eq_true rfl, Nat.le_of_ble_eq_true rfl⟩ ⟨rfl, rfl⟩ ⟨Nat.le_of_ble_eq_true rfl, Nat.le_of_ble_eq_true rfl⟩ rfl (Eq.trans (b := 11) rfl rfl) rfl rfl ?_
  show g 0 0 (wC (up3 (up3 S 2 (tbS (S 2) (S 6 0 ((o + (q - 1)) % 24)) j (S 6 2 ((o + (q - 1)) % 24)) (S 6 3 ((o + (q - 1)) % 24)))) 6 (up2 (S 6) 5 (k1 (nI (q - 1)))))) 24 [some (.ref 0)] []
  refine r_aload_n (pc := 24) C dX5_undo_24 rfl rfl ?_
  refine r_getfield (pc := 25) (v := .ref 45) C xf_X5_39 dX5_undo_25 rfl rfl ?_
  refine r_getfield (pc := 28) (v := .int (nI (q - 1))) C xf_X5_163 dX5_undo_28 rfl rfl ?_
  exact E _ _ _ _ _ _ dX5_undo_31 (Nat.le_refl _) (Nat.le_refl _) rfl ⟨rfl, rfl⟩
set_option maxHeartbeats 4000000 in
set_option maxRecDepth 100000 in
theorem lp_X5_meet (S : Nat → Nat → Nat → Int32) (z : Nat) (hS : okS S z) (i j : Nat) (hi : i < 6) (hj : j < 6) {g : Nat → Nat → List xE → Nat → List (Option Value) → List Value → Prop} (C : Sem cX5_meet RX5 "meet" 4 rmX5_meet g) (E : xEi g cX5_meet .int 0 0 (fun vr wr => vr = some (.int (hdFrom (fun d => nrS (S 2) (spS (S 2) i (S 2 8 0 + nI d)) (spS (S 2) j (S 2 8 0 + nI d))) 61 0)) ∧ wr = wC S)) : ∀ (n : Nat) (d : Nat), d + n = 61 → hdFrom (fun d => nrS (S 2) (spS (S 2) i (S 2 8 0 + nI d)) (spS (S 2) j (S 2 8 0 + nI d))) n d = hdFrom (fun d => nrS (S 2) (spS (S 2) i (S 2 8 0 + nI d)) (spS (S 2) j (S 2 8 0 + nI d))) 61 0 → g 0 0 (wC S) 14 [some (.ref 0), some (.int (nI i)), some (.int (nI j)), some (.int (nI d))] [] := by
  intro n
  induction n with
  | zero =>
    intro d hd hE
    refine r_iload_n (pc := 14) C dX5_meet_14 rfl rfl ?_
    refine r_bipush (pc := 15) (v := 60) C dX5_meet_15 (by decide) ?_
    refine r_icmp_gt (pc := 17) (tgt := 72) C dX5_meet_17 (by decide) (fun _ => ?_) (fun h => absurd ((nI_ltI (a := 60) (by omega) (by omega)).mpr (by omega)) h)
    refine r_ldc (pc := 72) (v := (-1000000)) C dX5_meet_72 tw_426 ?_
    exact E _ _ _ _ _ _ dX5_meet_74 (Nat.le_refl _) (Nat.le_refl _) rfl ⟨congrArg (fun z => some (Value.int z)) (by rw [← hE]; rfl), rfl⟩
  | succ n ih =>
    intro d hd hE
    refine r_iload_n (pc := 14) C dX5_meet_14 rfl rfl ?_
    refine r_bipush (pc := 15) (v := 60) C dX5_meet_15 (by decide) ?_
    refine r_icmp_gt (pc := 17) (tgt := 72) C dX5_meet_17 (by decide) (fun h => absurd h (fun z => absurd ((nI_ltI (a := 60) (by omega) (by omega)).mp z) (by omega))) (fun _ => ?_)
    refine r_aload_n (pc := 20) C dX5_meet_20 rfl rfl ?_
    refine r_getfield (pc := 21) (v := .ref 20) C xf_X5_25 dX5_meet_21 rfl rfl ?_
    refine r_aload_n (pc := 24) C dX5_meet_24 rfl rfl ?_
    refine r_getfield (pc := 25) (v := .ref 20) C xf_X5_25 dX5_meet_25 rfl rfl ?_
    refine r_iload_n (pc := 28) C dX5_meet_28 rfl rfl ?_
    refine r_aload_n (pc := 29) C dX5_meet_29 rfl rfl ?_
    refine r_getfield (pc := 30) (v := .ref 20) C xf_X5_25 dX5_meet_30 rfl rfl ?_
    refine r_getfield (pc := 33) (v := .int ((S 2) 8 0)) C xf_X5_128 dX5_meet_33 rfl rfl ?_
    refine r_iload_n (pc := 36) C dX5_meet_36 rfl rfl ?_
    refine r_iadd (pc := 37) C dX5_meet_37 ?_
    refine r_callVD (pc := 38) (b := 20) (As := [.int (nI i), .int (((S 2) 8 0) + (nI d))]) (st := [.ref 20]) (θ2 := wC S) (r2 := some (.int (spS (S 2) i (((S 2) 8 0) + (nI d))))) C [20, 21, 22, 23, 24, 25] (c_X1_spot (S 2) i (by omega) (((S 2) 8 0) + (nI d)) hS.2.2) xm_X1_spot xk_X5_181 dX5_meet_38 rfl (by decide) rfl rfl rfl rfl rfl (Nat.le_of_ble_eq_true rfl) ⟨Nat.le_of_ble_eq_true rfl, Nat.le_of_ble_eq_true rfl⟩ ⟨rfl, rfl⟩ ⟨Nat.le_of_ble_eq_true rfl, Nat.le_of_ble_eq_true rfl⟩ rfl (Eq.trans (b := 6) rfl rfl) rfl rfl ?_
    show g 0 0 (wC S) 41 [some (.ref 0), some (.int (nI i)), some (.int (nI j)), some (.int (nI d))] [.int (spS (S 2) i (((S 2) 8 0) + (nI d))), .ref 20]
    refine r_aload_n (pc := 41) C dX5_meet_41 rfl rfl ?_
    refine r_getfield (pc := 42) (v := .ref 20) C xf_X5_25 dX5_meet_42 rfl rfl ?_
    refine r_iload_n (pc := 45) C dX5_meet_45 rfl rfl ?_
    refine r_aload_n (pc := 46) C dX5_meet_46 rfl rfl ?_
    refine r_getfield (pc := 47) (v := .ref 20) C xf_X5_25 dX5_meet_47 rfl rfl ?_
    refine r_getfield (pc := 50) (v := .int ((S 2) 8 0)) C xf_X5_128 dX5_meet_50 rfl rfl ?_
    refine r_iload_n (pc := 53) C dX5_meet_53 rfl rfl ?_
    refine r_iadd (pc := 54) C dX5_meet_54 ?_
    refine r_callVD (pc := 55) (b := 20) (As := [.int (nI j), .int (((S 2) 8 0) + (nI d))]) (st := [.int (spS (S 2) i (((S 2) 8 0) + (nI d))), .ref 20]) (θ2 := wC S) (r2 := some (.int (spS (S 2) j (((S 2) 8 0) + (nI d))))) C [20, 21, 22, 23, 24, 25] (c_X1_spot (S 2) j (by omega) (((S 2) 8 0) + (nI d)) hS.2.2) xm_X1_spot xk_X5_181 dX5_meet_55 rfl (by decide) rfl rfl rfl rfl rfl (Nat.le_of_ble_eq_true rfl) ⟨Nat.le_of_ble_eq_true rfl, Nat.le_of_ble_eq_true rfl⟩ ⟨rfl, rfl⟩ ⟨Nat.le_of_ble_eq_true rfl, Nat.le_of_ble_eq_true rfl⟩ rfl (Eq.trans (b := 6) rfl rfl) rfl rfl ?_
    show g 0 0 (wC S) 58 [some (.ref 0), some (.int (nI i)), some (.int (nI j)), some (.int (nI d))] [.int (spS (S 2) j (((S 2) 8 0) + (nI d))), .int (spS (S 2) i (((S 2) 8 0) + (nI d))), .ref 20]
    refine r_callVD (pc := 58) (b := 20) (As := [.int (spS (S 2) i (((S 2) 8 0) + (nI d))), .int (spS (S 2) j (((S 2) 8 0) + (nI d)))]) (st := []) (θ2 := wC S) (r2 := some (.int (bB (nrS (S 2) (spS (S 2) i (((S 2) 8 0) + (nI d))) (spS (S 2) j (((S 2) 8 0) + (nI d))))))) C [20, 21, 22, 23, 24, 25] (c_X1_areNear (S 2) (spS (S 2) i (((S 2) 8 0) + (nI d))) (spS (S 2) j (((S 2) 8 0) + (nI d)))) xm_X1_areNear xk_X5_184 dX5_meet_58 rfl (by decide) rfl rfl rfl rfl rfl (Nat.le_of_ble_eq_true rfl) ⟨Nat.le_of_ble_eq_true rfl, Nat.le_of_ble_eq_true rfl⟩ ⟨rfl, rfl⟩ ⟨Nat.le_of_ble_eq_true rfl, Nat.le_of_ble_eq_true rfl⟩ rfl (Eq.trans (b := 6) rfl rfl) rfl rfl ?_
    show g 0 0 (wC S) 61 [some (.ref 0), some (.int (nI i)), some (.int (nI j)), some (.int (nI d))] [.int (bB (nrS (S 2) (spS (S 2) i (((S 2) 8 0) + (nI d))) (spS (S 2) j (((S 2) 8 0) + (nI d)))))]
    refine r_if_eq (pc := 61) (tgt := 66) C dX5_meet_61 (by decide) (fun h_61 => ?_) (fun h_61 => ?_)
    · replace h_61 := bB_f h_61
      refine r_iinc (pc := 66) (v := nI (d + 1)) (lv' := [some (.ref 0), some (.int (nI i)), some (.int (nI j)), some (.int (nI (d + 1)))]) C dX5_meet_66 rfl (nI_1 d) trivial rfl ?_
      refine r_goto (pc := 69) (tgt := 14) C dX5_meet_69 (by decide) ?_
      show g 0 0 (wC S) 14 [some (.ref 0), some (.int (nI i)), some (.int (nI j)), some (.int (nI (d + 1)))] []
      exact ih (d + 1) (by omega) (by rw [← hE]; simp only [hdFrom, h_61, Bool.false_eq_true, if_false])
    · replace h_61 := bB_t h_61
      refine r_iload_n (pc := 64) C dX5_meet_64 rfl rfl ?_
      exact E _ _ _ _ _ _ dX5_meet_65 (Nat.le_refl _) (Nat.le_refl _) rfl ⟨congrArg (fun z => some (Value.int z)) (by rw [← hE]; simp only [hdFrom, h_61, if_true]), rfl⟩
set_option maxHeartbeats 4000000 in
set_option maxRecDepth 100000 in
theorem c_X5_meet (S : Nat → Nat → Nat → Int32) (a b : Int32) (z : Nat) (hS : okS S z) : MetA yX5_meet (.code yX5_meet cX5_meet 4 (some .int) :: TT) rmX5_meet [.ref 0, .int a, .int b] (wC S) (fun vr wr => vr = some (.int (meetC S a b)) ∧ wr = wC S) 0 0 := by
  refine MetA.of_i (by decide) (fun _ => Nat.le_of_ble_eq_true rfl) (Nat.le_of_ble_eq_true rfl) (fun g C E => ?_)
  replace C : Sem cX5_meet RX5 "meet" 4 rmX5_meet g := C
  show g 0 0 (wC S) 0 [some (.ref 0), some (.int a), some (.int b), none] []
  refine r_aload_n (pc := 0) C dX5_meet_0 rfl rfl ?_
  refine r_iload_n (pc := 1) C dX5_meet_1 rfl rfl ?_
  refine r_iload_n (pc := 2) C dX5_meet_2 rfl rfl ?_
  refine r_callV0 (pc := 3) (As := [.int a, .int b]) (st := []) (θ' := wC S) C (c_X5_areTwo S a b) xm_X5_areTwo xk_X5_178 dX5_meet_3 rfl rfl rfl rfl (Nat.le_of_ble_eq_true rfl) ⟨Nat.le_of_ble_eq_true rfl, Nat.le_of_ble_eq_true rfl⟩ ⟨rfl, rfl⟩ ⟨Nat.le_of_ble_eq_true rfl, Nat.le_of_ble_eq_true rfl⟩ rfl (Eq.trans (b := 55) rfl rfl) ?_
  show g 0 0 (wC S) 6 [some (.ref 0), some (.int a), some (.int b), none] [.int (bB (twB S a b))]
  refine r_if_ne (pc := 6) (tgt := 12) C dX5_meet_6 (by decide) (fun h_6 => ?_) (fun h_6 => ?_)
  · replace h_6 := bB_t h_6
    obtain ⟨i, j, hi, hj, hij, rfl, rfl⟩ := tw_ex hS.1 (by have := hS.2.1; omega) h_6
    refine r_iconst (pc := 12) (v := 0) C dX5_meet_12 (by decide) ?_
    refine r_istore_n (pc := 13) (lv' := [some (.ref 0), some (.int (nI i)), some (.int (nI j)), some (.int 0)]) C dX5_meet_13 rfl (Nat.le_of_ble_eq_true rfl) trivial rfl ?_
    have hX : meetC S (nI i) (nI j) = hdFrom (fun d => nrS (S 2) (spS (S 2) i (S 2 8 0 + nI d)) (spS (S 2) j (S 2 8 0 + nI d))) 61 0 := by simp only [meetC, h_6, if_true, ix_nI (show i < 2 ^ 31 by have := hS.2.1; omega), ix_nI (show j < 2 ^ 31 by have := hS.2.1; omega)]
    rw [hX] at E
    show g 0 0 (wC S) 14 [some (.ref 0), some (.int (nI i)), some (.int (nI j)), some (.int 0)] []
    exact lp_X5_meet S z hS i j (by have := hS.2.1; omega) (by have := hS.2.1; omega) C E 61 0 (by omega) rfl
  · replace h_6 := bB_f h_6
    refine r_ldc (pc := 9) (v := (-1000001)) C dX5_meet_9 tw_216 ?_
    show g 0 0 (wC S) 11 [some (.ref 0), some (.int a), some (.int b), none] [.int (-1000001)]
    exact E _ _ _ _ _ _ dX5_meet_11 (Nat.le_refl _) (Nat.le_refl _) rfl ⟨congrArg (fun z => some (Value.int z)) (by simp only [meetC, h_6, if_true, if_false, Bool.false_eq_true] <;> (try rfl) <;> (try (repeat rw [ix_nI (by omega)]))), rfl⟩
