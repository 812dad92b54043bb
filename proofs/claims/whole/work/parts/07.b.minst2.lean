def okM (M : Nat → Nat → Int32) (z : Nat) : Prop := M 4 0 = nI z ∧ z ≤ 6 ∧ okWM (vw (M 4)) ∧ ∀ i, i < z → okK (vw (M 4)) i
def aheadM (M : Nat → Nat → Int32) (h d w : Int32) : Int32 := if inI h 0 (M 4 0 - 1) then (if inI d 0 60 then (if inI w 0 1 then (if w = 0 then plS (vw (M 4)) h.toNatClampNeg (M 4 35 + d) else dipS (vw (M 4)) h.toNatClampNeg (M 4 35 + d)) else -1000001) else -1000001) else -1000001
theorem in01 : (inI 0 0 1 = true) = True := by simp [inI]
def downM (M : Nat → Nat → Int32) (z : Nat) (d : Int32) : Int32 := if decide (M 4 3 = 1) then (if inI d 0 60 then bitsS (fun i => downS (vw (M 4)) i (M 4 35 + d)) z else -1000001) else -1000002
def reaM (M : Nat → Nat → Int32) (z : Nat) (h d : Int32) : Int32 := if inI h 0 (M 4 0 - 1) then (if inI d 0 60 then reachM (vw (M 4)) z h.toNatClampNeg (M 4 35 + d) else -1000001) else -1000001
set_option maxHeartbeats 4000000 in
set_option maxRecDepth 100000 in
theorem c_X6_ahead (M : Nat → Nat → Int32) (h d w : Int32) (z : Nat) (hM : okM M z) : MetA yX6_ahead (.code yX6_ahead cX6_ahead 4 (some .int) :: TT) rmX6_ahead [.ref 0, .int h, .int d, .int w] (wM M) (fun vr wr => vr = some (.int (aheadM M h d w)) ∧ wr = wM M) 0 0 := by
  refine MetA.of_i (by decide) (fun _ => Nat.le_of_ble_eq_true rfl) (Nat.le_of_ble_eq_true rfl) (fun g C E => ?_)
  replace C : Sem cX6_ahead RX6 "ahead" 4 rmX6_ahead g := C
  show g 0 0 (wM M) 0 [some (.ref 0), some (.int h), some (.int d), some (.int w)] []
  refine r_aload_n (pc := 0) C dX6_ahead_0 rfl rfl ?_
  refine r_iload_n (pc := 1) C dX6_ahead_1 rfl rfl ?_
  refine r_callV0 (pc := 2) (As := [.int h]) (st := []) (θ' := wM M) C (c_X6_isHammock M h) xm_X6_isHammock xk_X6_181 dX6_ahead_2 rfl rfl rfl rfl (Nat.le_of_ble_eq_true rfl) ⟨Nat.le_of_ble_eq_true rfl, Nat.le_of_ble_eq_true rfl⟩ ⟨rfl, rfl⟩ ⟨Nat.le_of_ble_eq_true rfl, Nat.le_of_ble_eq_true rfl⟩ rfl (Eq.trans (b := 14) rfl rfl) ?_
  show g 0 0 (wM M) 5 [some (.ref 0), some (.int h), some (.int d), some (.int w)] [.int (bB (inI h 0 (M 4 0 - 1)))]
  refine r_if_eq (pc := 5) (tgt := 22) C dX6_ahead_5 (by decide) (fun h_5 => ?_) (fun h_5 => ?_)
  · replace h_5 := bB_f h_5
    refine r_ldc (pc := 22) (v := (-1000001)) C dX6_ahead_22 tw_668 ?_
    exact E _ _ _ _ _ _ dX6_ahead_24 (Nat.le_refl _) (Nat.le_refl _) rfl ⟨congrArg (fun z => some (Value.int z)) (by simp only [aheadM, in01, h_5, if_true, if_false, Bool.false_eq_true]), rfl⟩
  · replace h_5 := bB_t h_5
    obtain ⟨j, hj, rfl⟩ := in_ex hM.1 hM.2.1 h_5
    have hj6 : j < 6 := by have := hM.2.1; omega
    refine r_iload_n (pc := 8) C dX6_ahead_8 rfl rfl ?_
    refine r_callS0 (pc := 9) (As := [.int d]) (st := []) C (c_X6_isSpan d) xm_X6_isSpan xk_X6_191 dX6_ahead_9 (fun _ => rfl) (fun _ => rfl) rfl rfl (Nat.le_of_ble_eq_true rfl) ⟨Nat.le_of_ble_eq_true rfl, Nat.le_of_ble_eq_true rfl⟩ ⟨rfl, rfl⟩ ⟨Nat.le_of_ble_eq_true rfl, Nat.le_of_ble_eq_true rfl⟩ rfl ?_
    show g 0 0 (wM M) 12 [some (.ref 0), some (.int (nI j)), some (.int d), some (.int w)] [.int (bB (inI d 0 60))]
    refine r_if_eq (pc := 12) (tgt := 22) C dX6_ahead_12 (by decide) (fun h_12 => ?_) (fun h_12 => ?_)
    · replace h_12 := bB_f h_12
      refine r_ldc (pc := 22) (v := (-1000001)) C dX6_ahead_22 tw_668 ?_
      exact E _ _ _ _ _ _ dX6_ahead_24 (Nat.le_refl _) (Nat.le_refl _) rfl ⟨congrArg (fun z => some (Value.int z)) (by simp only [aheadM, in01, h_5, h_12, if_true, if_false, Bool.false_eq_true, nI_clamp (show j < 2 ^ 31 by omega)]), rfl⟩
    · replace h_12 := bB_t h_12
      refine r_iload_n (pc := 15) C dX6_ahead_15 rfl rfl ?_
      refine r_callS0 (pc := 16) (As := [.int w]) (st := []) C (c_X6_isTwo w) xm_X6_isTwo xk_X6_188 dX6_ahead_16 (fun _ => rfl) (fun _ => rfl) rfl rfl (Nat.le_of_ble_eq_true rfl) ⟨Nat.le_of_ble_eq_true rfl, Nat.le_of_ble_eq_true rfl⟩ ⟨rfl, rfl⟩ ⟨Nat.le_of_ble_eq_true rfl, Nat.le_of_ble_eq_true rfl⟩ rfl ?_
      show g 0 0 (wM M) 19 [some (.ref 0), some (.int (nI j)), some (.int d), some (.int w)] [.int (bB (inI w 0 1))]
      refine r_if_ne (pc := 19) (tgt := 25) C dX6_ahead_19 (by decide) (fun h_19 => ?_) (fun h_19 => ?_)
      · replace h_19 := bB_t h_19
        refine r_iload_n (pc := 25) C dX6_ahead_25 rfl rfl ?_
        refine r_if_ne (pc := 26) (tgt := 49) C dX6_ahead_26 (by decide) (fun h_26 => ?_) (fun h_26 => ?_)
        · skip
          refine r_aload_n (pc := 49) C dX6_ahead_49 rfl rfl ?_
          refine r_getfield (pc := 50) (v := .ref 4) C xf_X6_19 dX6_ahead_50 rfl rfl ?_
          refine r_iload_n (pc := 53) C dX6_ahead_53 rfl rfl ?_
          refine r_aload_n (pc := 54) C dX6_ahead_54 rfl rfl ?_
          refine r_getfield (pc := 55) (v := .ref 4) C xf_X6_19 dX6_ahead_55 rfl rfl ?_
          refine r_bipush (pc := 58) (v := 35) C dX6_ahead_58 (by decide) ?_
          refine r_iaload (pc := 60) (v := M 4 35) C 35 dX6_ahead_60 rfl (by decide) (by decide) rfl ?_
          refine r_iload_n (pc := 61) C dX6_ahead_61 rfl rfl ?_
          refine r_iadd (pc := 62) C dX6_ahead_62 ?_
          refine r_callSD (pc := 63) (As := [.ref 4, .int (nI j), .int ((M 4 35) + d)]) (st := []) (θ2 := wM M) (r2 := some (.int (dipS (vw (M 4)) j ((M 4 35) + d)))) C [4] (c_X6_dip (M 4) j (by omega) ((M 4 35) + d) (hM.2.2.2 j (by omega))) xm_X6_dip xk_X6_147 dX6_ahead_63 rfl (by decide) rfl rfl rfl (Nat.le_of_ble_eq_true rfl) ⟨Nat.le_of_ble_eq_true rfl, Nat.le_of_ble_eq_true rfl⟩ ⟨rfl, rfl⟩ ⟨Nat.le_of_ble_eq_true rfl, Nat.le_of_ble_eq_true rfl⟩ rfl (Eq.trans (b := 1) rfl rfl) rfl rfl ?_
          show g 0 0 (wM M) 66 [some (.ref 0), some (.int (nI j)), some (.int d), some (.int w)] [.int (dipS (vw (M 4)) j ((M 4 35) + d))]
          exact E _ _ _ _ _ _ dX6_ahead_66 (Nat.le_refl _) (Nat.le_refl _) rfl ⟨congrArg (fun z => some (Value.int z)) (by simp only [aheadM, in01, h_5, h_12, h_19, h_26, if_true, if_false, Bool.false_eq_true, nI_clamp (show j < 2 ^ 31 by omega)]), rfl⟩
        · skip
          refine r_aload_n (pc := 29) C dX6_ahead_29 rfl rfl ?_
          refine r_getfield (pc := 30) (v := .ref 4) C xf_X6_19 dX6_ahead_30 rfl rfl ?_
          refine r_iload_n (pc := 33) C dX6_ahead_33 rfl rfl ?_
          refine r_aload_n (pc := 34) C dX6_ahead_34 rfl rfl ?_
          refine r_getfield (pc := 35) (v := .ref 4) C xf_X6_19 dX6_ahead_35 rfl rfl ?_
          refine r_bipush (pc := 38) (v := 35) C dX6_ahead_38 (by decide) ?_
          refine r_iaload (pc := 40) (v := M 4 35) C 35 dX6_ahead_40 rfl (by decide) (by decide) rfl ?_
          refine r_iload_n (pc := 41) C dX6_ahead_41 rfl rfl ?_
          refine r_iadd (pc := 42) C dX6_ahead_42 ?_
          refine r_callSD (pc := 43) (As := [.ref 4, .int (nI j), .int ((M 4 35) + d)]) (st := []) (θ2 := wM M) (r2 := some (.int (plS (vw (M 4)) j ((M 4 35) + d)))) C [4] (c_X6_where (M 4) j (by omega) ((M 4 35) + d) (hM.2.2.2 j (by omega)) hM.2.2.1) xm_X6_where xk_X6_155 dX6_ahead_43 rfl (by decide) rfl rfl rfl (Nat.le_of_ble_eq_true rfl) ⟨Nat.le_of_ble_eq_true rfl, Nat.le_of_ble_eq_true rfl⟩ ⟨rfl, rfl⟩ ⟨Nat.le_of_ble_eq_true rfl, Nat.le_of_ble_eq_true rfl⟩ rfl (Eq.trans (b := 1) rfl rfl) rfl rfl ?_
          show g 0 0 (wM M) 46 [some (.ref 0), some (.int (nI j)), some (.int d), some (.int w)] [.int (plS (vw (M 4)) j ((M 4 35) + d))]
          refine r_goto (pc := 46) (tgt := 66) C dX6_ahead_46 (by decide) ?_
          exact E _ _ _ _ _ _ dX6_ahead_66 (Nat.le_refl _) (Nat.le_refl _) rfl ⟨congrArg (fun z => some (Value.int z)) (by simp only [aheadM, in01, h_5, h_12, h_19, h_26, if_true, if_false, Bool.false_eq_true, nI_clamp (show j < 2 ^ 31 by omega)]), rfl⟩
      · replace h_19 := bB_f h_19
        refine r_ldc (pc := 22) (v := (-1000001)) C dX6_ahead_22 tw_668 ?_
        exact E _ _ _ _ _ _ dX6_ahead_24 (Nat.le_refl _) (Nat.le_refl _) rfl ⟨congrArg (fun z => some (Value.int z)) (by simp only [aheadM, in01, h_5, h_12, h_19, if_true, if_false, Bool.false_eq_true, nI_clamp (show j < 2 ^ 31 by omega)]), rfl⟩
set_option maxHeartbeats 4000000 in
set_option maxRecDepth 100000 in
theorem c_X6_down (M : Nat → Nat → Int32) (d : Int32) (z : Nat) (hM : okM M z) : MetA yX6_down (.code yX6_down cX6_down 2 (some .int) :: TT) rmX6_down [.ref 0, .int d] (wM M) (fun vr wr => vr = some (.int (downM M z d)) ∧ wr = wM M) 0 0 := by
  refine MetA.of_i (by decide) (fun _ => Nat.le_of_ble_eq_true rfl) (Nat.le_of_ble_eq_true rfl) (fun g C E => ?_)
  replace C : Sem cX6_down RX6 "down" 2 rmX6_down g := C
  show g 0 0 (wM M) 0 [some (.ref 0), some (.int d)] []
  refine r_aload_n (pc := 0) C dX6_down_0 rfl rfl ?_
  refine r_callV0 (pc := 1) (As := []) (st := []) (θ' := wM M) C (c_X6_isForest M ) xm_X6_isForest xk_X6_168 dX6_down_1 rfl rfl rfl rfl (Nat.le_of_ble_eq_true rfl) ⟨Nat.le_of_ble_eq_true rfl, Nat.le_of_ble_eq_true rfl⟩ ⟨rfl, rfl⟩ ⟨Nat.le_of_ble_eq_true rfl, Nat.le_of_ble_eq_true rfl⟩ rfl (Eq.trans (b := 14) rfl rfl) ?_
  show g 0 0 (wM M) 4 [some (.ref 0), some (.int d)] [.int (bB (decide (M 4 3 = 1)))]
  refine r_if_ne (pc := 4) (tgt := 10) C dX6_down_4 (by decide) (fun h_4 => ?_) (fun h_4 => ?_)
  · replace h_4 := bB_t h_4
    refine r_iload_n (pc := 10) C dX6_down_10 rfl rfl ?_
    refine r_callS0 (pc := 11) (As := [.int d]) (st := []) C (c_X6_isSpan d) xm_X6_isSpan xk_X6_191 dX6_down_11 (fun _ => rfl) (fun _ => rfl) rfl rfl (Nat.le_of_ble_eq_true rfl) ⟨Nat.le_of_ble_eq_true rfl, Nat.le_of_ble_eq_true rfl⟩ ⟨rfl, rfl⟩ ⟨Nat.le_of_ble_eq_true rfl, Nat.le_of_ble_eq_true rfl⟩ rfl ?_
    show g 0 0 (wM M) 14 [some (.ref 0), some (.int d)] [.int (bB (inI d 0 60))]
    refine r_if_eq (pc := 14) (tgt := 36) C dX6_down_14 (by decide) (fun h_14 => ?_) (fun h_14 => ?_)
    · replace h_14 := bB_f h_14
      refine r_ldc (pc := 36) (v := (-1000001)) C dX6_down_36 tw_668 ?_
      exact E _ _ _ _ _ _ dX6_down_38 (Nat.le_refl _) (Nat.le_refl _) rfl ⟨congrArg (fun z => some (Value.int z)) (by simp only [downM, h_4, h_14, if_true, if_false, Bool.false_eq_true]), rfl⟩
    · replace h_14 := bB_t h_14
      refine r_aload_n (pc := 17) C dX6_down_17 rfl rfl ?_
      refine r_getfield (pc := 18) (v := .ref 4) C xf_X6_19 dX6_down_18 rfl rfl ?_
      refine r_aload_n (pc := 21) C dX6_down_21 rfl rfl ?_
      refine r_getfield (pc := 22) (v := .ref 4) C xf_X6_19 dX6_down_22 rfl rfl ?_
      refine r_bipush (pc := 25) (v := 35) C dX6_down_25 (by decide) ?_
      refine r_iaload (pc := 27) (v := M 4 35) C 35 dX6_down_27 rfl (by decide) (by decide) rfl ?_
      refine r_iload_n (pc := 28) C dX6_down_28 rfl rfl ?_
      refine r_iadd (pc := 29) C dX6_down_29 ?_
      refine r_callSD (pc := 30) (As := [.ref 4, .int ((M 4 35) + d)]) (st := []) (θ2 := wM M) (r2 := some (.int (bitsS (fun i => downS (vw (M 4)) i ((M 4 35) + d)) z))) C [4] (c_X6_downOf (M 4) ((M 4 35) + d) z hM.1 hM.2.1 hM.2.2.2) xm_X6_downOf xk_X6_177 dX6_down_30 rfl (by decide) rfl rfl rfl (Nat.le_of_ble_eq_true rfl) ⟨Nat.le_of_ble_eq_true rfl, Nat.le_of_ble_eq_true rfl⟩ ⟨rfl, rfl⟩ ⟨Nat.le_of_ble_eq_true rfl, Nat.le_of_ble_eq_true rfl⟩ rfl (Eq.trans (b := 1) rfl rfl) rfl rfl ?_
      show g 0 0 (wM M) 33 [some (.ref 0), some (.int d)] [.int (bitsS (fun i => downS (vw (M 4)) i ((M 4 35) + d)) z)]
      refine r_goto (pc := 33) (tgt := 38) C dX6_down_33 (by decide) ?_
      exact E _ _ _ _ _ _ dX6_down_38 (Nat.le_refl _) (Nat.le_refl _) rfl ⟨congrArg (fun z => some (Value.int z)) (by simp only [downM, h_4, h_14, if_true, if_false, Bool.false_eq_true]), rfl⟩
  · replace h_4 := bB_f h_4
    refine r_ldc (pc := 7) (v := (-1000002)) C dX6_down_7 tw_747 ?_
    exact E _ _ _ _ _ _ dX6_down_9 (Nat.le_refl _) (Nat.le_refl _) rfl ⟨congrArg (fun z => some (Value.int z)) (by simp only [downM, h_4, if_true, if_false, Bool.false_eq_true]), rfl⟩
set_option maxHeartbeats 4000000 in
set_option maxRecDepth 100000 in
theorem c_X6_reach (M : Nat → Nat → Int32) (h d : Int32) (z : Nat) (hM : okM M z) : MetA yX6_reach (.code yX6_reach cX6_reach 3 (some .int) :: TT) rmX6_reach [.ref 0, .int h, .int d] (wM M) (fun vr wr => vr = some (.int (reaM M z h d)) ∧ wr = wM M) 0 0 := by
  refine MetA.of_i (by decide) (fun _ => Nat.le_of_ble_eq_true rfl) (Nat.le_of_ble_eq_true rfl) (fun g C E => ?_)
  replace C : Sem cX6_reach RX6 "reach" 3 rmX6_reach g := C
  show g 0 0 (wM M) 0 [some (.ref 0), some (.int h), some (.int d)] []
  refine r_aload_n (pc := 0) C dX6_reach_0 rfl rfl ?_
  refine r_iload_n (pc := 1) C dX6_reach_1 rfl rfl ?_
  refine r_callV0 (pc := 2) (As := [.int h]) (st := []) (θ' := wM M) C (c_X6_isHammock M h) xm_X6_isHammock xk_X6_181 dX6_reach_2 rfl rfl rfl rfl (Nat.le_of_ble_eq_true rfl) ⟨Nat.le_of_ble_eq_true rfl, Nat.le_of_ble_eq_true rfl⟩ ⟨rfl, rfl⟩ ⟨Nat.le_of_ble_eq_true rfl, Nat.le_of_ble_eq_true rfl⟩ rfl (Eq.trans (b := 14) rfl rfl) ?_
  show g 0 0 (wM M) 5 [some (.ref 0), some (.int h), some (.int d)] [.int (bB (inI h 0 (M 4 0 - 1)))]
  refine r_if_eq (pc := 5) (tgt := 35) C dX6_reach_5 (by decide) (fun h_5 => ?_) (fun h_5 => ?_)
  · replace h_5 := bB_f h_5
    refine r_ldc (pc := 35) (v := (-1000001)) C dX6_reach_35 tw_668 ?_
    exact E _ _ _ _ _ _ dX6_reach_37 (Nat.le_refl _) (Nat.le_refl _) rfl ⟨congrArg (fun z => some (Value.int z)) (by simp only [reaM, h_5, if_true, if_false, Bool.false_eq_true]), rfl⟩
  · replace h_5 := bB_t h_5
    obtain ⟨j, hj, rfl⟩ := in_ex hM.1 hM.2.1 h_5
    have hj6 : j < 6 := by have := hM.2.1; omega
    refine r_iload_n (pc := 8) C dX6_reach_8 rfl rfl ?_
    refine r_callS0 (pc := 9) (As := [.int d]) (st := []) C (c_X6_isSpan d) xm_X6_isSpan xk_X6_191 dX6_reach_9 (fun _ => rfl) (fun _ => rfl) rfl rfl (Nat.le_of_ble_eq_true rfl) ⟨Nat.le_of_ble_eq_true rfl, Nat.le_of_ble_eq_true rfl⟩ ⟨rfl, rfl⟩ ⟨Nat.le_of_ble_eq_true rfl, Nat.le_of_ble_eq_true rfl⟩ rfl ?_
    show g 0 0 (wM M) 12 [some (.ref 0), some (.int (nI j)), some (.int d)] [.int (bB (inI d 0 60))]
    refine r_if_eq (pc := 12) (tgt := 35) C dX6_reach_12 (by decide) (fun h_12 => ?_) (fun h_12 => ?_)
    · replace h_12 := bB_f h_12
      refine r_ldc (pc := 35) (v := (-1000001)) C dX6_reach_35 tw_668 ?_
      exact E _ _ _ _ _ _ dX6_reach_37 (Nat.le_refl _) (Nat.le_refl _) rfl ⟨congrArg (fun z => some (Value.int z)) (by simp only [reaM, h_5, h_12, if_true, if_false, Bool.false_eq_true, nI_clamp (show j < 2 ^ 31 by omega)]), rfl⟩
    · replace h_12 := bB_t h_12
      refine r_aload_n (pc := 15) C dX6_reach_15 rfl rfl ?_
      refine r_getfield (pc := 16) (v := .ref 4) C xf_X6_19 dX6_reach_16 rfl rfl ?_
      refine r_iload_n (pc := 19) C dX6_reach_19 rfl rfl ?_
      refine r_aload_n (pc := 20) C dX6_reach_20 rfl rfl ?_
      refine r_getfield (pc := 21) (v := .ref 4) C xf_X6_19 dX6_reach_21 rfl rfl ?_
      refine r_bipush (pc := 24) (v := 35) C dX6_reach_24 (by decide) ?_
      refine r_iaload (pc := 26) (v := M 4 35) C 35 dX6_reach_26 rfl (by decide) (by decide) rfl ?_
      refine r_iload_n (pc := 27) C dX6_reach_27 rfl rfl ?_
      refine r_iadd (pc := 28) C dX6_reach_28 ?_
      refine r_callSD (pc := 29) (As := [.ref 4, .int (nI j), .int ((M 4 35) + d)]) (st := []) (θ2 := wM M) (r2 := some (.int (reachM (vw (M 4)) z j ((M 4 35) + d)))) C [4] (c_X6_reachOf (M 4) j (by omega) ((M 4 35) + d) (hM.2.2.2 j (by omega)) hM.2.2.1 z hM.1 hM.2.1 hM.2.2.2) xm_X6_reachOf xk_X6_162 dX6_reach_29 rfl (by decide) rfl rfl rfl (Nat.le_of_ble_eq_true rfl) ⟨Nat.le_of_ble_eq_true rfl, Nat.le_of_ble_eq_true rfl⟩ ⟨rfl, rfl⟩ ⟨Nat.le_of_ble_eq_true rfl, Nat.le_of_ble_eq_true rfl⟩ rfl (Eq.trans (b := 1) rfl rfl) rfl rfl ?_
      show g 0 0 (wM M) 32 [some (.ref 0), some (.int (nI j)), some (.int d)] [.int (reachM (vw (M 4)) z j ((M 4 35) + d))]
      refine r_goto (pc := 32) (tgt := 37) C dX6_reach_32 (by decide) ?_
      exact E _ _ _ _ _ _ dX6_reach_37 (Nat.le_refl _) (Nat.le_refl _) rfl ⟨congrArg (fun z => some (Value.int z)) (by simp only [reaM, h_5, h_12, if_true, if_false, Bool.false_eq_true, nI_clamp (show j < 2 ^ 31 by omega)]), rfl⟩
