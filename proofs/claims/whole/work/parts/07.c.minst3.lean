theorem sp_ex {d : Int32} (hb : inI d 0 60 = true) : ∃ j, j ≤ 60 ∧ d = nI j := by
  unfold inI at hb
  simp only [Bool.and_eq_true, decide_eq_true_eq] at hb
  exact nI_of2 (M := 60) rfl (Int32.not_lt.mpr hb.1) hb.2
noncomputable def soonT : (Nat → Nat → Int32) → Nat → Int32 → Int32 → Int32 := Classical.choose (seal_ex soonM)
theorem soonT_eq : soonT = soonM := Classical.choose_spec (seal_ex soonM)
noncomputable def setT : (Nat → Nat → Int32) → Nat → Int32 → Nat → Int32 := Classical.choose (seal_ex setM)
theorem setT_eq : setT = setM := Classical.choose_spec (seal_ex setM)
theorem c_X6_soonestT (t : Nat → Int32) (b : Int32) (a : Int32) (hW : okWM (vw t)) (z : Nat) (hz : t 0 = nI z) (hz6 : z ≤ 6) (hkz : ∀ i, i < z → okK (vw t) i) : MetA yX6_soonestOf (.code yX6_soonestOf cX6_soonestOf 7 (some .int) :: TT) rmX6_soonestOf [.ref 0, .int a, .int b] [.inl (0, 36, .inl t)] (fun vr wr => vr = some (.int (soonT (vw t) z a b)) ∧ wr = [.inl (0, 36, .inl t)]) 0 0 := by
  rw [soonT_eq]
  exact c_X6_soonestOf t b a hW z hz hz6 hkz
theorem c_X6_spreadT (t : Nat → Int32) (d : Nat) (hd : d ≤ 60) (a : Int32) (hW : okWM (vw t)) (z : Nat) (hz : t 0 = nI z) (hz6 : z ≤ 6) (hkz : ∀ i, i < z → okK (vw t) i) : MetA yX6_spread (.code yX6_spread cX6_spread 7 (some .int) :: TT) rmX6_spread [.ref 0, .int a, .int (nI d)] [.inl (0, 36, .inl t)] (fun vr wr => vr = some (.int (setT (vw t) z a d)) ∧ wr = [.inl (0, 36, .inl t)]) 0 0 := by
  rw [setT_eq]
  exact c_X6_spread t d hd a hW z hz hz6 hkz
noncomputable def sooM (M : Nat → Nat → Int32) (z : Nat) (a b : Int32) : Int32 := if inI a 0 (M 4 0 - 1) then (if inI b 0 (M 4 0 - 1) then toldM (soonT (vw (M 4)) z a b) else -1000001) else -1000001
noncomputable def evM (M : Nat → Nat → Int32) (z : Nat) (a d : Int32) : Int32 := if inI a 0 (M 4 0 - 1) then (if inI d 0 60 then setT (vw (M 4)) z a d.toNatClampNeg else -1000001) else -1000001
set_option maxHeartbeats 4000000 in
set_option maxRecDepth 100000 in
theorem c_X6_soonest (M : Nat → Nat → Int32) (a b : Int32) (z : Nat) (hM : okM M z) : MetA yX6_soonest (.code yX6_soonest cX6_soonest 3 (some .int) :: TT) rmX6_soonest [.ref 0, .int a, .int b] (wM M) (fun vr wr => vr = some (.int (sooM M z a b)) ∧ wr = wM M) 0 0 := by
  refine MetA.of_i (by decide) (fun _ => Nat.le_of_ble_eq_true rfl) (Nat.le_of_ble_eq_true rfl) (fun g C E => ?_)
  replace C : Sem cX6_soonest RX6 "soonest" 3 rmX6_soonest g := C
  show g 0 0 (wM M) 0 [some (.ref 0), some (.int a), some (.int b)] []
  refine r_aload_n (pc := 0) C dX6_soonest_0 rfl rfl ?_
  refine r_iload_n (pc := 1) C dX6_soonest_1 rfl rfl ?_
  refine r_callV0 (pc := 2) (As := [.int a]) (st := []) (θ' := wM M) C (c_X6_isHammock M a) xm_X6_isHammock xk_X6_181 dX6_soonest_2 rfl rfl rfl rfl (Nat.le_of_ble_eq_true rfl) ⟨Nat.le_of_ble_eq_true rfl, Nat.le_of_ble_eq_true rfl⟩ ⟨rfl, rfl⟩ ⟨Nat.le_of_ble_eq_true rfl, Nat.le_of_ble_eq_true rfl⟩ rfl (Eq.trans (b := 14) rfl rfl) ?_
  show g 0 0 (wM M) 5 [some (.ref 0), some (.int a), some (.int b)] [.int (bB (inI a 0 (M 4 0 - 1)))]
  refine r_if_eq (pc := 5) (tgt := 31) C dX6_soonest_5 (by decide) (fun h_5 => ?_) (fun h_5 => ?_)
  · replace h_5 := bB_f h_5
    refine r_ldc (pc := 31) (v := (-1000001)) C dX6_soonest_31 tw_668 ?_
    exact E _ _ _ _ _ _ dX6_soonest_33 (Nat.le_refl _) (Nat.le_refl _) rfl ⟨congrArg (fun z => some (Value.int z)) (by simp only [sooM, h_5, if_true, if_false, Bool.false_eq_true]), rfl⟩
  · replace h_5 := bB_t h_5
    refine r_aload_n (pc := 8) C dX6_soonest_8 rfl rfl ?_
    refine r_iload_n (pc := 9) C dX6_soonest_9 rfl rfl ?_
    refine r_callV0 (pc := 10) (As := [.int b]) (st := []) (θ' := wM M) C (c_X6_isHammock M b) xm_X6_isHammock xk_X6_181 dX6_soonest_10 rfl rfl rfl rfl (Nat.le_of_ble_eq_true rfl) ⟨Nat.le_of_ble_eq_true rfl, Nat.le_of_ble_eq_true rfl⟩ ⟨rfl, rfl⟩ ⟨Nat.le_of_ble_eq_true rfl, Nat.le_of_ble_eq_true rfl⟩ rfl (Eq.trans (b := 14) rfl rfl) ?_
    show g 0 0 (wM M) 13 [some (.ref 0), some (.int a), some (.int b)] [.int (bB (inI b 0 (M 4 0 - 1)))]
    refine r_if_eq (pc := 13) (tgt := 31) C dX6_soonest_13 (by decide) (fun h_13 => ?_) (fun h_13 => ?_)
    · replace h_13 := bB_f h_13
      refine r_ldc (pc := 31) (v := (-1000001)) C dX6_soonest_31 tw_668 ?_
      exact E _ _ _ _ _ _ dX6_soonest_33 (Nat.le_refl _) (Nat.le_refl _) rfl ⟨congrArg (fun z => some (Value.int z)) (by simp only [sooM, h_5, h_13, if_true, if_false, Bool.false_eq_true]), rfl⟩
    · replace h_13 := bB_t h_13
      refine r_aload_n (pc := 16) C dX6_soonest_16 rfl rfl ?_
      refine r_getfield (pc := 17) (v := .ref 4) C xf_X6_19 dX6_soonest_17 rfl rfl ?_
      refine r_iload_n (pc := 20) C dX6_soonest_20 rfl rfl ?_
      refine r_iload_n (pc := 21) C dX6_soonest_21 rfl rfl ?_
      refine r_callSD (pc := 22) (As := [.ref 4, .int a, .int b]) (st := []) (θ2 := wM M) (r2 := some (.int (soonT (vw (M 4)) z a b))) C [4] (c_X6_soonestT (M 4) b a hM.2.2.1 z hM.1 hM.2.1 hM.2.2.2) xm_X6_soonestOf xk_X6_195 dX6_soonest_22 rfl (by decide) rfl rfl rfl (Nat.le_of_ble_eq_true rfl) ⟨Nat.le_of_ble_eq_true rfl, Nat.le_of_ble_eq_true rfl⟩ ⟨rfl, rfl⟩ ⟨Nat.le_of_ble_eq_true rfl, Nat.le_of_ble_eq_true rfl⟩ rfl (Eq.trans (b := 1) rfl rfl) rfl rfl ?_
      show g 0 0 (wM M) 25 [some (.ref 0), some (.int a), some (.int b)] [.int (soonT (vw (M 4)) z a b)]
      refine r_callS0 (pc := 25) (As := [.int (soonT (vw (M 4)) z a b)]) (st := []) C (c_X6_told (soonT (vw (M 4)) z a b)) xm_X6_told xk_X6_198 dX6_soonest_25 (fun _ => rfl) (fun _ => rfl) rfl rfl (Nat.le_of_ble_eq_true rfl) ⟨Nat.le_of_ble_eq_true rfl, Nat.le_of_ble_eq_true rfl⟩ ⟨rfl, rfl⟩ ⟨Nat.le_of_ble_eq_true rfl, Nat.le_of_ble_eq_true rfl⟩ rfl ?_
      show g 0 0 (wM M) 28 [some (.ref 0), some (.int a), some (.int b)] [.int (toldM (soonT (vw (M 4)) z a b))]
      refine r_goto (pc := 28) (tgt := 33) C dX6_soonest_28 (by decide) ?_
      exact E _ _ _ _ _ _ dX6_soonest_33 (Nat.le_refl _) (Nat.le_refl _) rfl ⟨congrArg (fun z => some (Value.int z)) (by simp only [sooM, h_5, h_13, if_true, if_false, Bool.false_eq_true]), rfl⟩
set_option maxHeartbeats 4000000 in
set_option maxRecDepth 100000 in
theorem c_X6_everywhere (M : Nat → Nat → Int32) (a d : Int32) (z : Nat) (hM : okM M z) : MetA yX6_everywhere (.code yX6_everywhere cX6_everywhere 3 (some .int) :: TT) rmX6_everywhere [.ref 0, .int a, .int d] (wM M) (fun vr wr => vr = some (.int (evM M z a d)) ∧ wr = wM M) 0 0 := by
  refine MetA.of_i (by decide) (fun _ => Nat.le_of_ble_eq_true rfl) (Nat.le_of_ble_eq_true rfl) (fun g C E => ?_)
  replace C : Sem cX6_everywhere RX6 "everywhere" 3 rmX6_everywhere g := C
  show g 0 0 (wM M) 0 [some (.ref 0), some (.int a), some (.int d)] []
  refine r_aload_n (pc := 0) C dX6_everywhere_0 rfl rfl ?_
  refine r_iload_n (pc := 1) C dX6_everywhere_1 rfl rfl ?_
  refine r_callV0 (pc := 2) (As := [.int a]) (st := []) (θ' := wM M) C (c_X6_isHammock M a) xm_X6_isHammock xk_X6_181 dX6_everywhere_2 rfl rfl rfl rfl (Nat.le_of_ble_eq_true rfl) ⟨Nat.le_of_ble_eq_true rfl, Nat.le_of_ble_eq_true rfl⟩ ⟨rfl, rfl⟩ ⟨Nat.le_of_ble_eq_true rfl, Nat.le_of_ble_eq_true rfl⟩ rfl (Eq.trans (b := 14) rfl rfl) ?_
  show g 0 0 (wM M) 5 [some (.ref 0), some (.int a), some (.int d)] [.int (bB (inI a 0 (M 4 0 - 1)))]
  refine r_if_eq (pc := 5) (tgt := 27) C dX6_everywhere_5 (by decide) (fun h_5 => ?_) (fun h_5 => ?_)
  · replace h_5 := bB_f h_5
    refine r_ldc (pc := 27) (v := (-1000001)) C dX6_everywhere_27 tw_668 ?_
    exact E _ _ _ _ _ _ dX6_everywhere_29 (Nat.le_refl _) (Nat.le_refl _) rfl ⟨congrArg (fun z => some (Value.int z)) (by simp only [evM, h_5, if_true, if_false, Bool.false_eq_true]), rfl⟩
  · replace h_5 := bB_t h_5
    refine r_iload_n (pc := 8) C dX6_everywhere_8 rfl rfl ?_
    refine r_callS0 (pc := 9) (As := [.int d]) (st := []) C (c_X6_isSpan d) xm_X6_isSpan xk_X6_191 dX6_everywhere_9 (fun _ => rfl) (fun _ => rfl) rfl rfl (Nat.le_of_ble_eq_true rfl) ⟨Nat.le_of_ble_eq_true rfl, Nat.le_of_ble_eq_true rfl⟩ ⟨rfl, rfl⟩ ⟨Nat.le_of_ble_eq_true rfl, Nat.le_of_ble_eq_true rfl⟩ rfl ?_
    show g 0 0 (wM M) 12 [some (.ref 0), some (.int a), some (.int d)] [.int (bB (inI d 0 60))]
    refine r_if_eq (pc := 12) (tgt := 27) C dX6_everywhere_12 (by decide) (fun h_12 => ?_) (fun h_12 => ?_)
    · replace h_12 := bB_f h_12
      refine r_ldc (pc := 27) (v := (-1000001)) C dX6_everywhere_27 tw_668 ?_
      exact E _ _ _ _ _ _ dX6_everywhere_29 (Nat.le_refl _) (Nat.le_refl _) rfl ⟨congrArg (fun z => some (Value.int z)) (by simp only [evM, h_5, h_12, if_true, if_false, Bool.false_eq_true]), rfl⟩
    · replace h_12 := bB_t h_12
      obtain ⟨j, hj, rfl⟩ := sp_ex h_12
      refine r_aload_n (pc := 15) C dX6_everywhere_15 rfl rfl ?_
      refine r_getfield (pc := 16) (v := .ref 4) C xf_X6_19 dX6_everywhere_16 rfl rfl ?_
      refine r_iload_n (pc := 19) C dX6_everywhere_19 rfl rfl ?_
      refine r_iload_n (pc := 20) C dX6_everywhere_20 rfl rfl ?_
      refine r_callSD (pc := 21) (As := [.ref 4, .int a, .int (nI j)]) (st := []) (θ2 := wM M) (r2 := some (.int (setT (vw (M 4)) z a j))) C [4] (c_X6_spreadT (M 4) j (by omega) a hM.2.2.1 z hM.1 hM.2.1 hM.2.2.2) xm_X6_spread xk_X6_201 dX6_everywhere_21 rfl (by decide) rfl rfl rfl (Nat.le_of_ble_eq_true rfl) ⟨Nat.le_of_ble_eq_true rfl, Nat.le_of_ble_eq_true rfl⟩ ⟨rfl, rfl⟩ ⟨Nat.le_of_ble_eq_true rfl, Nat.le_of_ble_eq_true rfl⟩ rfl (Eq.trans (b := 1) rfl rfl) rfl rfl ?_
      show g 0 0 (wM M) 24 [some (.ref 0), some (.int a), some (.int (nI j))] [.int (setT (vw (M 4)) z a j)]
      refine r_goto (pc := 24) (tgt := 29) C dX6_everywhere_24 (by decide) ?_
      exact E _ _ _ _ _ _ dX6_everywhere_29 (Nat.le_refl _) (Nat.le_refl _) rfl ⟨congrArg (fun z => some (Value.int z)) (by simp only [evM, h_5, h_12, if_true, if_false, Bool.false_eq_true, nI_clamp (show j < 2 ^ 31 by omega)]), rfl⟩
set_option maxHeartbeats 4000000 in
set_option maxRecDepth 100000 in
theorem c_X6_layAside (M : Nat → Nat → Int32) : MetA yX6_layAside (.code yX6_layAside cX6_layAside 1 none :: TT) rmX6_layAside [.ref 0] (wM M) (fun vr wr => vr = none ∧ wr = wM (up2 M 6 (va_cpy (M 4) (M 6) 0 0 36))) 0 0 := by
  refine MetA.of_v (by decide) (fun _ => Nat.le_of_ble_eq_true rfl) (Nat.le_of_ble_eq_true rfl) (fun g C E => ?_)
  replace C : Sem cX6_layAside RX6 "layAside" 1 rmX6_layAside g := C
  show g 0 0 (wM M) 0 [some (.ref 0)] []
  refine r_aload_n (pc := 0) C dX6_layAside_0 rfl rfl ?_
  refine r_getfield (pc := 1) (v := .ref 4) C xf_X6_19 dX6_layAside_1 rfl rfl ?_
  refine r_iconst (pc := 4) (v := 0) C dX6_layAside_4 (by decide) ?_
  refine r_aload_n (pc := 5) C dX6_layAside_5 rfl rfl ?_
  refine r_getfield (pc := 6) (v := .ref 6) C xf_X6_25 dX6_layAside_6 rfl rfl ?_
  refine r_iconst (pc := 9) (v := 0) C dX6_layAside_9 (by decide) ?_
  refine r_callSD (pc := 10) (As := [.ref 4, .int 0, .ref 6, .int 0]) (st := []) (θ2 := wM (up2 M 6 (va_cpy (M 4) (M 6) 0 0 36))) (r2 := none) C [4, 6] (c_X6_copies 36 36 (by decide) (by decide) (M 4) (M 6) 0 0 (by omega) (by omega)) xm_X6_copies xk_X6_132 dX6_layAside_10 rfl (by decide) rfl rfl rfl (Nat.le_of_ble_eq_true rfl) ⟨Nat.le_of_ble_eq_true rfl, Nat.le_of_ble_eq_true rfl⟩ ⟨rfl, rfl⟩ ⟨Nat.le_of_ble_eq_true rfl, Nat.le_of_ble_eq_true rfl⟩ rfl (Eq.trans (b := 2) rfl rfl) rfl rfl ?_
  show g 0 0 (wM (up2 M 6 (va_cpy (M 4) (M 6) 0 0 36))) 13 [some (.ref 0)] []
  exact E _ _ _ _ _ dX6_layAside_13 (Nat.le_refl _) (Nat.le_refl _) ⟨rfl, rfl⟩
