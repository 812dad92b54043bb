def rmX6_found : Room := { frames := 0, cells := 0, slots := 0, locals := 0 }
def rmX6_well : Room := { frames := 0, cells := 0, slots := 0, locals := 0 }
def rmX6_isForest : Room := { frames := 0, cells := 0, slots := 0, locals := 0 }
def rmX6_isHammock : Room := { frames := 1, cells := 0, slots := 0, locals := 25 }
def rmX6_kind : Room := { frames := 2, cells := 0, slots := 0, locals := 46 }
def rmX6_fault : Room := { frames := 0, cells := 0, slots := 0, locals := 0 }
def rmX6_status : Room := { frames := 0, cells := 0, slots := 0, locals := 0 }
def rmX6_layAside : Room := { frames := 1, cells := 0, slots := 0, locals := 24 }
def rmX6_remember : Room := { frames := 1, cells := 0, slots := 0, locals := 24 }
def rmX6_down : Room := { frames := 3, cells := 0, slots := 0, locals := 69 }
def rmX6_reach : Room := { frames := 4, cells := 0, slots := 0, locals := 95 }
def rmX6_ahead : Room := { frames := 2, cells := 0, slots := 0, locals := 47 }
def rmX6_soonest : Room := { frames := 5, cells := 0, slots := 0, locals := 121 }
def rmX6_everywhere : Room := { frames := 5, cells := 0, slots := 0, locals := 121 }
def rmX6_meet : Room := { frames := 3, cells := 0, slots := 0, locals := 71 }
def rmX6_hammock : Room := { frames := 2, cells := 0, slots := 0, locals := 47 }
set_option maxHeartbeats 4000000 in
set_option maxRecDepth 100000 in
theorem c_X6_found (M : Nat → Nat → Int32) (v : Int32) : MetA yX6_found (.code yX6_found cX6_found 2 (some .int) :: TT) rmX6_found [.ref 0, .int v] (wM M) (fun vr wr => vr = some (.int ((-1000010) - v)) ∧ wr = wM (up2 M 3 (k1 v))) 0 0 := by
  refine MetA.of_i (by decide) (fun _ => Nat.le_of_ble_eq_true rfl) (Nat.le_of_ble_eq_true rfl) (fun g C E => ?_)
  replace C : Sem cX6_found RX6 "found" 2 rmX6_found g := C
  show g 0 0 (wM M) 0 [some (.ref 0), some (.int v)] []
  refine r_aload_n (pc := 0) C dX6_found_0 rfl rfl ?_
  refine r_iload_n (pc := 1) C dX6_found_1 rfl rfl ?_
  refine r_putfield (pc := 2) (θ' := wM (up2 M 3 (k1 v))) C xf_X6_50 xt_X6_3 dX6_found_2 rfl (Nat.le_of_ble_eq_true rfl) (fun _ => ⟨rfl, rfl⟩) rfl ?_
  refine r_ldc (pc := 5) (v := (-1000010)) C dX6_found_5 tw_673 ?_
  refine r_iload_n (pc := 7) C dX6_found_7 rfl rfl ?_
  refine r_isub (pc := 8) C dX6_found_8 ?_
  exact E _ _ _ _ _ _ dX6_found_9 (Nat.le_refl _) (Nat.le_refl _) rfl ⟨congrArg (fun z => some (Value.int z)) (by simp []), rfl⟩
set_option maxHeartbeats 4000000 in
set_option maxRecDepth 100000 in
theorem c_X6_well (M : Nat → Nat → Int32) (v : Int32) : MetA yX6_well (.code yX6_well cX6_well 2 (some .int) :: TT) rmX6_well [.ref 0, .int v] (wM M) (fun vr wr => vr = some (.int v) ∧ wr = wM (up2 M 3 (k1 0))) 0 0 := by
  refine MetA.of_i (by decide) (fun _ => Nat.le_of_ble_eq_true rfl) (Nat.le_of_ble_eq_true rfl) (fun g C E => ?_)
  replace C : Sem cX6_well RX6 "well" 2 rmX6_well g := C
  show g 0 0 (wM M) 0 [some (.ref 0), some (.int v)] []
  refine r_aload_n (pc := 0) C dX6_well_0 rfl rfl ?_
  refine r_iconst (pc := 1) (v := 0) C dX6_well_1 (by decide) ?_
  refine r_putfield (pc := 2) (θ' := wM (up2 M 3 (k1 0))) C xf_X6_50 xt_X6_3 dX6_well_2 rfl (Nat.le_of_ble_eq_true rfl) (fun _ => ⟨rfl, rfl⟩) rfl ?_
  refine r_iload_n (pc := 5) C dX6_well_5 rfl rfl ?_
  exact E _ _ _ _ _ _ dX6_well_6 (Nat.le_refl _) (Nat.le_refl _) rfl ⟨congrArg (fun z => some (Value.int z)) (by simp []), rfl⟩
set_option maxHeartbeats 4000000 in
set_option maxRecDepth 100000 in
theorem c_X6_isForest (M : Nat → Nat → Int32) : MetA yX6_isForest (.code yX6_isForest cX6_isForest 1 (some .boolean) :: TT) rmX6_isForest [.ref 0] (wM M) (fun vr wr => vr = some (.int (bB (decide (M 4 3 = 1)))) ∧ wr = wM M) 0 0 := by
  refine MetA.of_i (by decide) (fun _ => Nat.le_of_ble_eq_true rfl) (Nat.le_of_ble_eq_true rfl) (fun g C E => ?_)
  replace C : Sem cX6_isForest RX6 "isForest" 1 rmX6_isForest g := C
  show g 0 0 (wM M) 0 [some (.ref 0)] []
  refine r_aload_n (pc := 0) C dX6_isForest_0 rfl rfl ?_
  refine r_getfield (pc := 1) (v := .ref 4) C xf_X6_19 dX6_isForest_1 rfl rfl ?_
  refine r_iconst (pc := 4) (v := 3) C dX6_isForest_4 (by decide) ?_
  refine r_iaload (pc := 5) (v := M 4 3) C 3 dX6_isForest_5 rfl (by decide) (by decide) rfl ?_
  refine r_iconst (pc := 6) (v := 1) C dX6_isForest_6 (by decide) ?_
  refine r_icmp_ne (pc := 7) (tgt := 14) C dX6_isForest_7 (by decide) (fun h_7 => ?_) (fun h_7 => ?_)
  · skip
    refine r_iconst (pc := 14) (v := 0) C dX6_isForest_14 (by decide) ?_
    exact E _ _ _ _ _ _ dX6_isForest_15 (Nat.le_refl _) (Nat.le_refl _) rfl ⟨congrArg (fun z => some (Value.int z)) (by simp [bB, h_7]), rfl⟩
  · skip
    refine r_iconst (pc := 10) (v := 1) C dX6_isForest_10 (by decide) ?_
    refine r_goto (pc := 11) (tgt := 15) C dX6_isForest_11 (by decide) ?_
    exact E _ _ _ _ _ _ dX6_isForest_15 (Nat.le_refl _) (Nat.le_refl _) rfl ⟨congrArg (fun z => some (Value.int z)) (by simp [bB, h_7]), rfl⟩
set_option maxHeartbeats 4000000 in
set_option maxRecDepth 100000 in
theorem c_X6_isHammock (M : Nat → Nat → Int32) (h : Int32) : MetA yX6_isHammock (.code yX6_isHammock cX6_isHammock 2 (some .boolean) :: TT) rmX6_isHammock [.ref 0, .int h] (wM M) (fun vr wr => vr = some (.int (bB (inI h 0 (M 4 0 - 1)))) ∧ wr = wM M) 0 0 := by
  refine MetA.of_i (by decide) (fun _ => Nat.le_of_ble_eq_true rfl) (Nat.le_of_ble_eq_true rfl) (fun g C E => ?_)
  replace C : Sem cX6_isHammock RX6 "isHammock" 2 rmX6_isHammock g := C
  show g 0 0 (wM M) 0 [some (.ref 0), some (.int h)] []
  refine r_iload_n (pc := 0) C dX6_isHammock_0 rfl rfl ?_
  refine r_i2l (pc := 1) (v := h.toInt64) C dX6_isHammock_1 rfl ?_
  refine r_lconst (pc := 2) (v := 0) C dX6_isHammock_2 (by decide) ?_
  refine r_aload_n (pc := 3) C dX6_isHammock_3 rfl rfl ?_
  refine r_getfield (pc := 4) (v := .ref 4) C xf_X6_19 dX6_isHammock_4 rfl rfl ?_
  refine r_iconst (pc := 7) (v := 0) C dX6_isHammock_7 (by decide) ?_
  refine r_iaload (pc := 8) (v := M 4 0) C 0 dX6_isHammock_8 rfl (by decide) (by decide) rfl ?_
  refine r_iconst (pc := 9) (v := 1) C dX6_isHammock_9 (by decide) ?_
  refine r_isub (pc := 10) C dX6_isHammock_10 ?_
  refine r_i2l (pc := 11) (v := ((M 4 0) - 1).toInt64) C dX6_isHammock_11 rfl ?_
  refine r_callS0 (pc := 12) (As := [.long h.toInt64, .long 0, .long (((M 4 0) - 1).toInt64)]) (st := []) C (c_X6_inI h 0 ((M 4 0) - 1) rfl (by decide) rfl) xm_X6_in xk_X6_57 dX6_isHammock_12 (fun _ => rfl) (fun _ => rfl) rfl rfl (Nat.le_of_ble_eq_true rfl) ⟨Nat.le_of_ble_eq_true rfl, Nat.le_of_ble_eq_true rfl⟩ ⟨rfl, rfl⟩ ⟨Nat.le_of_ble_eq_true rfl, Nat.le_of_ble_eq_true rfl⟩ rfl ?_
  show g 0 0 (wM M) 15 [some (.ref 0), some (.int h)] [.int (bB (inI h 0 ((M 4 0) - 1)))]
  exact E _ _ _ _ _ _ dX6_isHammock_15 (Nat.le_refl _) (Nat.le_refl _) (bB_nar _) ⟨congrArg (fun z => some (Value.int z)) (by simp []), rfl⟩
set_option maxHeartbeats 4000000 in
set_option maxRecDepth 100000 in
theorem c_X6_fault (M : Nat → Nat → Int32) : MetA yX6_fault (.code yX6_fault cX6_fault 1 (some .int) :: TT) rmX6_fault [.ref 0] (wM M) (fun vr wr => vr = some (.int (M 13 0)) ∧ wr = wM M) 0 0 := by
  refine MetA.of_i (by decide) (fun _ => Nat.le_of_ble_eq_true rfl) (Nat.le_of_ble_eq_true rfl) (fun g C E => ?_)
  replace C : Sem cX6_fault RX6 "fault" 1 rmX6_fault g := C
  show g 0 0 (wM M) 0 [some (.ref 0)] []
  refine r_aload_n (pc := 0) C dX6_fault_0 rfl rfl ?_
  refine r_getfield (pc := 1) (v := .int (M 13 0)) C xf_X6_128 dX6_fault_1 rfl rfl ?_
  exact E _ _ _ _ _ _ dX6_fault_4 (Nat.le_refl _) (Nat.le_refl _) rfl ⟨congrArg (fun z => some (Value.int z)) (by simp []), rfl⟩
set_option maxHeartbeats 4000000 in
set_option maxRecDepth 100000 in
theorem c_X6_status (M : Nat → Nat → Int32) : MetA yX6_status (.code yX6_status cX6_status 1 (some .int) :: TT) rmX6_status [.ref 0] (wM M) (fun vr wr => vr = some (.int (M 3 0)) ∧ wr = wM M) 0 0 := by
  refine MetA.of_i (by decide) (fun _ => Nat.le_of_ble_eq_true rfl) (Nat.le_of_ble_eq_true rfl) (fun g C E => ?_)
  replace C : Sem cX6_status RX6 "status" 1 rmX6_status g := C
  show g 0 0 (wM M) 0 [some (.ref 0)] []
  refine r_aload_n (pc := 0) C dX6_status_0 rfl rfl ?_
  refine r_getfield (pc := 1) (v := .int (M 3 0)) C xf_X6_50 dX6_status_1 rfl rfl ?_
  exact E _ _ _ _ _ _ dX6_status_4 (Nat.le_refl _) (Nat.le_refl _) rfl ⟨congrArg (fun z => some (Value.int z)) (by simp []), rfl⟩
def kindM (M : Nat → Nat → Int32) (h : Int32) : Int32 := if inI h 0 (M 4 0 - 1) then M 4 (4 + h.toNatClampNeg) else -1000001
theorem in_ex {h x : Int32} {z : Nat} (hz : x = nI z) (hz6 : z ≤ 6) (hb : inI h 0 (x - 1) = true) : ∃ j, j < z ∧ h = nI j := by
  subst hz
  unfold inI at hb
  simp only [Bool.and_eq_true, decide_eq_true_eq] at hb
  obtain ⟨j, hj, rfl⟩ := nI_of (Int32.not_lt.mpr hb.1)
  refine ⟨j, ?_, rfl⟩
  rcases Nat.eq_zero_or_pos z with rfl | h0
  · exact absurd (Int32.le_trans hb.1 hb.2) (by decide)
  · have h1 : nI z - 1 = nI (z - 1) := pk_sub (b := 1) h0
    rw [h1] at hb
    have := (nI_leI hj (by omega)).mp hb.2
    omega
set_option maxHeartbeats 4000000 in
set_option maxRecDepth 100000 in
theorem c_X6_kind (M : Nat → Nat → Int32) (h : Int32) (z : Nat) (hz : M 4 0 = nI z) (hz6 : z ≤ 6) : MetA yX6_kind (.code yX6_kind cX6_kind 2 (some .int) :: TT) rmX6_kind [.ref 0, .int h] (wM M) (fun vr wr => vr = some (.int (kindM M h)) ∧ wr = wM M) 0 0 := by
  refine MetA.of_i (by decide) (fun _ => Nat.le_of_ble_eq_true rfl) (Nat.le_of_ble_eq_true rfl) (fun g C E => ?_)
  replace C : Sem cX6_kind RX6 "kind" 2 rmX6_kind g := C
  show g 0 0 (wM M) 0 [some (.ref 0), some (.int h)] []
  refine r_aload_n (pc := 0) C dX6_kind_0 rfl rfl ?_
  refine r_iload_n (pc := 1) C dX6_kind_1 rfl rfl ?_
  refine r_callV0 (pc := 2) (As := [.int h]) (st := []) (θ' := wM M) C (c_X6_isHammock M h) xm_X6_isHammock xk_X6_181 dX6_kind_2 rfl rfl rfl rfl (Nat.le_of_ble_eq_true rfl) ⟨Nat.le_of_ble_eq_true rfl, Nat.le_of_ble_eq_true rfl⟩ ⟨rfl, rfl⟩ ⟨Nat.le_of_ble_eq_true rfl, Nat.le_of_ble_eq_true rfl⟩ rfl (Eq.trans (b := 14) rfl rfl) ?_
  show g 0 0 (wM M) 5 [some (.ref 0), some (.int h)] [.int (bB (inI h 0 (M 4 0 - 1)))]
  refine r_if_eq (pc := 5) (tgt := 19) C dX6_kind_5 (by decide) (fun h_5 => ?_) (fun h_5 => ?_)
  · replace h_5 := bB_f h_5
    refine r_ldc (pc := 19) (v := (-1000001)) C dX6_kind_19 tw_668 ?_
    exact E _ _ _ _ _ _ dX6_kind_21 (Nat.le_refl _) (Nat.le_refl _) rfl ⟨congrArg (fun z => some (Value.int z)) (by simp only [kindM, h_5, if_true, if_false, Bool.false_eq_true]), rfl⟩
  · replace h_5 := bB_t h_5
    obtain ⟨j, hj, rfl⟩ := in_ex hz hz6 h_5
    refine r_aload_n (pc := 8) C dX6_kind_8 rfl rfl ?_
    refine r_getfield (pc := 9) (v := .ref 4) C xf_X6_19 dX6_kind_9 rfl rfl ?_
    refine r_iconst (pc := 12) (v := 4) C dX6_kind_12 (by decide) ?_
    refine r_iload_n (pc := 13) C dX6_kind_13 rfl rfl ?_
    refine r_iadd (pc := 14) C dX6_kind_14 ?_
    refine r_iaload (pc := 15) (v := M 4 (4 + j)) C (4 + j) dX6_kind_15 rfl (nI_sum rfl rfl) (by first | assumption | omega) rfl ?_
    refine r_goto (pc := 16) (tgt := 21) C dX6_kind_16 (by decide) ?_
    exact E _ _ _ _ _ _ dX6_kind_21 (Nat.le_refl _) (Nat.le_refl _) rfl ⟨congrArg (fun z => some (Value.int z)) (by simp only [kindM, h_5, if_true, if_false, Bool.false_eq_true, nI_clamp (show j < 2 ^ 31 by omega)]), rfl⟩
