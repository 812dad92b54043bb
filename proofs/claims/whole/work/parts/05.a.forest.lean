def rmX1_swung : Room := { frames := 0, cells := 0, slots := 0, locals := 0 }
def rmX1_isCut : Room := { frames := 0, cells := 0, slots := 0, locals := 0 }
def rmX1_dip : Room := { frames := 0, cells := 0, slots := 0, locals := 0 }
def rmX1_isDown : Room := { frames := 1, cells := 0, slots := 0, locals := 24 }
def rmX1_offset : Room := { frames := 1, cells := 0, slots := 0, locals := 22 }
def rmX1_place : Room := { frames := 2, cells := 0, slots := 0, locals := 44 }
def rmX1_spot : Room := { frames := 3, cells := 0, slots := 0, locals := 66 }
def rmX1_areNear : Room := { frames := 1, cells := 0, slots := 0, locals := 30 }
def rmX1_downBits : Room := { frames := 2, cells := 0, slots := 0, locals := 46 }
def rmX1_nearBits : Room := { frames := 4, cells := 0, slots := 0, locals := 88 }
def rmX1_begin : Room := { frames := 0, cells := 0, slots := 0, locals := 0 }
def rmX1_takeFrom : Room := { frames := 1, cells := 0, slots := 0, locals := 60 }
set_option maxHeartbeats 4000000 in
set_option maxRecDepth 100000 in
theorem c_X1_swung (sw t : Int32) (hw : okSw sw) : MetA yX1_swung (.code yX1_swung cX1_swung 3 (some .int) :: TT) rmX1_swung [.int sw, .int t] ([]) (fun vr wr => vr = some (.int (swS sw t)) ∧ wr = []) 0 0 := by
  refine MetA.of_i (by decide) (fun _ => Nat.le_of_ble_eq_true rfl) (Nat.le_of_ble_eq_true rfl) (fun g C E => ?_)
  replace C : Sem cX1_swung RX1 "swung" 3 rmX1_swung g := C
  show g 0 0 ([]) 0 [some (.int sw), some (.int t), none] []
  refine r_iload_n (pc := 0) C dX1_swung_0 rfl rfl ?_
  refine r_if_gt (pc := 1) (tgt := 6) C dX1_swung_1 (by decide) (fun h_1 => ?_) (fun h_1 => ?_)
  · skip
    refine r_iload_n (pc := 6) C dX1_swung_6 rfl rfl ?_
    refine r_iconst (pc := 7) (v := 4) C dX1_swung_7 (by decide) ?_
    refine r_iload_n (pc := 8) C dX1_swung_8 rfl rfl ?_
    refine r_imul (pc := 9) C dX1_swung_9 ?_
    refine r_irem (pc := 10) C dX1_swung_10 (sw_ne hw h_1) ?_
    show g 0 0 ([]) 11 [some (.int sw), some (.int t), none] [.int (rmI t (4 * sw))]
    refine r_istore_n (pc := 11) (lv' := [some (.int sw), some (.int t), some (.int (rmI t (4 * sw)))]) C dX1_swung_11 rfl (Nat.le_of_ble_eq_true rfl) trivial rfl ?_
    refine r_iload_n (pc := 12) C dX1_swung_12 rfl rfl ?_
    refine r_iload_n (pc := 13) C dX1_swung_13 rfl rfl ?_
    refine r_icmp_gt (pc := 14) (tgt := 19) C dX1_swung_14 (by decide) (fun h_14 => ?_) (fun h_14 => ?_)
    · skip
      refine r_iload_n (pc := 19) C dX1_swung_19 rfl rfl ?_
      refine r_iconst (pc := 20) (v := 3) C dX1_swung_20 (by decide) ?_
      refine r_iload_n (pc := 21) C dX1_swung_21 rfl rfl ?_
      refine r_imul (pc := 22) C dX1_swung_22 ?_
      refine r_icmp_gt (pc := 23) (tgt := 34) C dX1_swung_23 (by decide) (fun h_23 => ?_) (fun h_23 => ?_)
      · skip
        refine r_iload_n (pc := 34) C dX1_swung_34 rfl rfl ?_
        refine r_iconst (pc := 35) (v := 4) C dX1_swung_35 (by decide) ?_
        refine r_iload_n (pc := 36) C dX1_swung_36 rfl rfl ?_
        refine r_imul (pc := 37) C dX1_swung_37 ?_
        refine r_isub (pc := 38) C dX1_swung_38 ?_
        exact E _ _ _ _ _ _ dX1_swung_39 (Nat.le_refl _) (Nat.le_refl _) rfl ⟨congrArg (fun z => some (Value.int z)) (by simp [swS, h_1, h_14, h_23]), rfl⟩
      · skip
        refine r_iconst (pc := 26) (v := 2) C dX1_swung_26 (by decide) ?_
        refine r_iload_n (pc := 27) C dX1_swung_27 rfl rfl ?_
        refine r_imul (pc := 28) C dX1_swung_28 ?_
        refine r_iload_n (pc := 29) C dX1_swung_29 rfl rfl ?_
        refine r_isub (pc := 30) C dX1_swung_30 ?_
        refine r_goto (pc := 31) (tgt := 39) C dX1_swung_31 (by decide) ?_
        exact E _ _ _ _ _ _ dX1_swung_39 (Nat.le_refl _) (Nat.le_refl _) rfl ⟨congrArg (fun z => some (Value.int z)) (by simp [swS, h_1, h_14, h_23]), rfl⟩
    · skip
      refine r_iload_n (pc := 17) C dX1_swung_17 rfl rfl ?_
      exact E _ _ _ _ _ _ dX1_swung_18 (Nat.le_refl _) (Nat.le_refl _) rfl ⟨congrArg (fun z => some (Value.int z)) (by simp [swS, h_1, h_14]), rfl⟩
  · skip
    refine r_iconst (pc := 4) (v := 0) C dX1_swung_4 (by decide) ?_
    exact E _ _ _ _ _ _ dX1_swung_5 (Nat.le_refl _) (Nat.le_refl _) rfl ⟨congrArg (fun z => some (Value.int z)) (by simp [swS, h_1]), rfl⟩
set_option maxHeartbeats 4000000 in
set_option maxRecDepth 100000 in
theorem c_X1_isCut (F : Nat → Nat → Int32) (h : Nat) (hh : h < 6) : MetA yX1_isCut (.code yX1_isCut cX1_isCut 2 (some .boolean) :: TT) rmX1_isCut [.ref 0, .int (nI h)] (wF 0 F) (fun vr wr => vr = some (.int (bB (cutS F h))) ∧ wr = wF 0 F) 0 0 := by
  refine MetA.of_i (by decide) (fun _ => Nat.le_of_ble_eq_true rfl) (Nat.le_of_ble_eq_true rfl) (fun g C E => ?_)
  replace C : Sem cX1_isCut RX1 "isCut" 2 rmX1_isCut g := C
  show g 0 0 (wF 0 F) 0 [some (.ref 0), some (.int (nI h))] []
  refine r_aload_n (pc := 0) C dX1_isCut_0 rfl rfl ?_
  refine r_getfield (pc := 1) (v := .int (F 10 0)) C xf_X1_38 dX1_isCut_1 rfl rfl ?_
  refine r_iload_n (pc := 4) C dX1_isCut_4 rfl rfl ?_
  refine r_ishr (pc := 5) C dX1_isCut_5 ?_
  refine r_iconst (pc := 6) (v := 1) C dX1_isCut_6 (by decide) ?_
  refine r_iand (pc := 7) C dX1_isCut_7 ?_
  refine r_iconst (pc := 8) (v := 1) C dX1_isCut_8 (by decide) ?_
  refine r_icmp_ne (pc := 9) (tgt := 16) C dX1_isCut_9 (by decide) (fun h_9 => ?_) (fun h_9 => ?_)
  · skip
    refine r_iconst (pc := 16) (v := 0) C dX1_isCut_16 (by decide) ?_
    exact E _ _ _ _ _ _ dX1_isCut_17 (Nat.le_refl _) (Nat.le_refl _) rfl ⟨congrArg (fun z => some (Value.int z)) (by simp [cutS, bB, h_9]), rfl⟩
  · skip
    refine r_iconst (pc := 12) (v := 1) C dX1_isCut_12 (by decide) ?_
    refine r_goto (pc := 13) (tgt := 17) C dX1_isCut_13 (by decide) ?_
    exact E _ _ _ _ _ _ dX1_isCut_17 (Nat.le_refl _) (Nat.le_refl _) rfl ⟨congrArg (fun z => some (Value.int z)) (by simp [cutS, bB, h_9]), rfl⟩
set_option maxHeartbeats 4000000 in
set_option maxRecDepth 100000 in
theorem c_X1_dip (F : Nat → Nat → Int32) (h : Nat) (hh : h < 6) (t : Int32) : MetA yX1_dip (.code yX1_dip cX1_dip 5 (some .int) :: TT) rmX1_dip [.ref 0, .int (nI h), .int t] (wF 0 F) (fun vr wr => vr = some (.int (dipS F h t)) ∧ wr = wF 0 F) 0 0 := by
  refine MetA.of_i (by decide) (fun _ => Nat.le_of_ble_eq_true rfl) (Nat.le_of_ble_eq_true rfl) (fun g C E => ?_)
  replace C : Sem cX1_dip RX1 "dip" 5 rmX1_dip g := C
  show g 0 0 (wF 0 F) 0 [some (.ref 0), some (.int (nI h)), some (.int t), none, none] []
  refine r_aload_n (pc := 0) C dX1_dip_0 rfl rfl ?_
  refine r_getfield (pc := 1) (v := .ref 3) C xf_X1_18 dX1_dip_1 rfl rfl ?_
  refine r_iload_n (pc := 4) C dX1_dip_4 rfl rfl ?_
  refine r_iaload (pc := 5) (v := F 2 h) C h dX1_dip_5 rfl rfl (by first | assumption | omega) rfl ?_
  refine r_aload_n (pc := 6) C dX1_dip_6 rfl rfl ?_
  refine r_getfield (pc := 7) (v := .ref 2) C xf_X1_15 dX1_dip_7 rfl rfl ?_
  refine r_iload_n (pc := 10) C dX1_dip_10 rfl rfl ?_
  refine r_iaload (pc := 11) (v := F 1 h) C h dX1_dip_11 rfl rfl (by first | assumption | omega) rfl ?_
  refine r_isub (pc := 12) C dX1_dip_12 ?_
  refine r_istore_n (pc := 13) (lv' := [some (.ref 0), some (.int (nI h)), some (.int t), some (.int ((F 2 h) - (F 1 h))), none]) C dX1_dip_13 rfl (Nat.le_of_ble_eq_true rfl) trivial rfl ?_
  refine r_aload_n (pc := 14) C dX1_dip_14 rfl rfl ?_
  refine r_getfield (pc := 15) (v := .ref 4) C xf_X1_21 dX1_dip_15 rfl rfl ?_
  refine r_iload_n (pc := 18) C dX1_dip_18 rfl rfl ?_
  refine r_iaload (pc := 19) (v := F 3 h) C h dX1_dip_19 rfl rfl (by first | assumption | omega) rfl ?_
  refine r_iload_n (pc := 20) C dX1_dip_20 rfl rfl ?_
  refine r_iconst (pc := 21) (v := 2) C dX1_dip_21 (by decide) ?_
  refine r_idiv (pc := 22) C dX1_dip_22 (by decide) ?_
  refine r_iadd (pc := 23) C dX1_dip_23 ?_
  refine r_istore (pc := 24) (lv' := [some (.ref 0), some (.int (nI h)), some (.int t), some (.int ((F 2 h) - (F 1 h))), some (.int ((F 3 h) + (((F 2 h) - (F 1 h)) / 2)))]) C dX1_dip_24 (Nat.le_of_ble_eq_true rfl) trivial rfl ?_
  refine r_aload_n (pc := 26) C dX1_dip_26 rfl rfl ?_
  refine r_getfield (pc := 27) (v := .ref 1) C xf_X1_9 dX1_dip_27 rfl rfl ?_
  refine r_iload_n (pc := 30) C dX1_dip_30 rfl rfl ?_
  refine r_iaload (pc := 31) (v := F 0 h) C h dX1_dip_31 rfl rfl (by first | assumption | omega) rfl ?_
  by_cases q_32_2 : F 0 h = 2
  · refine r_tableIn (pc := 32) (off := 32) (tgt := 64) C dX1_dip_32 (by rw [q_32_2]; decide) (by rw [q_32_2]; decide) (by rw [q_32_2]; rfl) (by decide) ?_
    refine r_iload (pc := 64) C dX1_dip_64 rfl ?_
    refine r_iconst (pc := 66) (v := 2) C dX1_dip_66 (by decide) ?_
    refine r_idiv (pc := 67) C dX1_dip_67 (by decide) ?_
    exact E _ _ _ _ _ _ dX1_dip_68 (Nat.le_refl _) (Nat.le_refl _) rfl ⟨congrArg (fun z => some (Value.int z)) (by simp [dipS, q_32_2]), rfl⟩
  by_cases q_32_3 : F 0 h = 3
  · refine r_tableIn (pc := 32) (off := 37) (tgt := 69) C dX1_dip_32 (by rw [q_32_3]; decide) (by rw [q_32_3]; decide) (by rw [q_32_3]; rfl) (by decide) ?_
    refine r_iload (pc := 69) C dX1_dip_69 rfl ?_
    refine r_iload_n (pc := 71) C dX1_dip_71 rfl rfl ?_
    refine r_bipush (pc := 72) (v := 10) C dX1_dip_72 (by decide) ?_
    refine r_idiv (pc := 74) C dX1_dip_74 (by decide) ?_
    refine r_iadd (pc := 75) C dX1_dip_75 ?_
    exact E _ _ _ _ _ _ dX1_dip_76 (Nat.le_refl _) (Nat.le_refl _) rfl ⟨congrArg (fun z => some (Value.int z)) (by simp [dipS, q_32_2, q_32_3]), rfl⟩
  by_cases q_32_4 : F 0 h = 4
  · refine r_tableIn (pc := 32) (off := 45) (tgt := 77) C dX1_dip_32 (by rw [q_32_4]; decide) (by rw [q_32_4]; decide) (by rw [q_32_4]; rfl) (by decide) ?_
    refine r_iload_n (pc := 77) C dX1_dip_77 rfl rfl ?_
    exact E _ _ _ _ _ _ dX1_dip_78 (Nat.le_refl _) (Nat.le_refl _) rfl ⟨congrArg (fun z => some (Value.int z)) (by simp [dipS, q_32_2, q_32_3, q_32_4]), rfl⟩
  by_cases q_32_5 : F 0 h = 5
  · refine r_tableIn (pc := 32) (off := 47) (tgt := 79) C dX1_dip_32 (by rw [q_32_5]; decide) (by rw [q_32_5]; decide) (by rw [q_32_5]; rfl) (by decide) ?_
    refine r_iconst (pc := 79) (v := 0) C dX1_dip_79 (by decide) ?_
    exact E _ _ _ _ _ _ dX1_dip_80 (Nat.le_refl _) (Nat.le_refl _) rfl ⟨congrArg (fun z => some (Value.int z)) (by simp [dipS, q_32_2, q_32_3, q_32_4, q_32_5]), rfl⟩
  refine r_tableOut (pc := 32) (tgt := 81) C dX1_dip_32 (by have t_2 := lv_neT (a := 2) q_32_2 rfl; have t_3 := lv_neT (a := 3) q_32_3 rfl; have t_4 := lv_neT (a := 4) q_32_4 rfl; have t_5 := lv_neT (a := 5) q_32_5 rfl; omega) (by decide) ?_
  refine r_iload (pc := 81) C dX1_dip_81 rfl ?_
  exact E _ _ _ _ _ _ dX1_dip_83 (Nat.le_refl _) (Nat.le_refl _) rfl ⟨congrArg (fun z => some (Value.int z)) (by simp [dipS, q_32_2, q_32_3, q_32_4, q_32_5]), rfl⟩
set_option maxHeartbeats 4000000 in
set_option maxRecDepth 100000 in
theorem c_X1_isDown (F : Nat → Nat → Int32) (h : Nat) (hh : h < 6) (t : Int32) : MetA yX1_isDown (.code yX1_isDown cX1_isDown 3 (some .boolean) :: TT) rmX1_isDown [.ref 0, .int (nI h), .int t] (wF 0 F) (fun vr wr => vr = some (.int (bB (downS F h t))) ∧ wr = wF 0 F) 0 0 := by
  refine MetA.of_i (by decide) (fun _ => Nat.le_of_ble_eq_true rfl) (Nat.le_of_ble_eq_true rfl) (fun g C E => ?_)
  replace C : Sem cX1_isDown RX1 "isDown" 3 rmX1_isDown g := C
  show g 0 0 (wF 0 F) 0 [some (.ref 0), some (.int (nI h)), some (.int t)] []
  refine r_aload_n (pc := 0) C dX1_isDown_0 rfl rfl ?_
  refine r_iload_n (pc := 1) C dX1_isDown_1 rfl rfl ?_
  refine r_callV0 (pc := 2) (As := [.int (nI h)]) (st := []) (θ' := wF 0 F) C (c_X1_isCut F h (by omega)) xm_X1_isCut xk_X1_53 dX1_isDown_2 rfl rfl rfl rfl (Nat.le_of_ble_eq_true rfl) ⟨Nat.le_of_ble_eq_true rfl, Nat.le_of_ble_eq_true rfl⟩ ⟨rfl, rfl⟩ ⟨Nat.le_of_ble_eq_true rfl, Nat.le_of_ble_eq_true rfl⟩ rfl (Eq.trans (b := 6) rfl rfl) ?_
  show g 0 0 (wF 0 F) 5 [some (.ref 0), some (.int (nI h)), some (.int t)] [.int (bB (cutS F h))]
  refine r_if_ne (pc := 5) (tgt := 21) C dX1_isDown_5 (by decide) (fun h_5 => ?_) (fun h_5 => ?_)
  · replace h_5 := bB_t h_5
    refine r_iconst (pc := 21) (v := 1) C dX1_isDown_21 (by decide) ?_
    refine r_goto (pc := 22) (tgt := 26) C dX1_isDown_22 (by decide) ?_
    exact E _ _ _ _ _ _ dX1_isDown_26 (Nat.le_refl _) (Nat.le_refl _) rfl ⟨congrArg (fun z => some (Value.int z)) (by simp [downS, bB, h_5]), rfl⟩
  · replace h_5 := bB_f h_5
    refine r_aload_n (pc := 8) C dX1_isDown_8 rfl rfl ?_
    refine r_iload_n (pc := 9) C dX1_isDown_9 rfl rfl ?_
    refine r_iload_n (pc := 10) C dX1_isDown_10 rfl rfl ?_
    refine r_callV0 (pc := 11) (As := [.int (nI h), .int t]) (st := []) (θ' := wF 0 F) C (c_X1_dip F h (by omega) t) xm_X1_dip xk_X1_57 dX1_isDown_11 rfl rfl rfl rfl (Nat.le_of_ble_eq_true rfl) ⟨Nat.le_of_ble_eq_true rfl, Nat.le_of_ble_eq_true rfl⟩ ⟨rfl, rfl⟩ ⟨Nat.le_of_ble_eq_true rfl, Nat.le_of_ble_eq_true rfl⟩ rfl (Eq.trans (b := 6) rfl rfl) ?_
    show g 0 0 (wF 0 F) 14 [some (.ref 0), some (.int (nI h)), some (.int t)] [.int (dipS F h t)]
    refine r_aload_n (pc := 14) C dX1_isDown_14 rfl rfl ?_
    refine r_getfield (pc := 15) (v := .int (F 6 0)) C xf_X1_47 dX1_isDown_15 rfl rfl ?_
    refine r_icmp_le (pc := 18) (tgt := 25) C dX1_isDown_18 (by decide) (fun h_18 => ?_) (fun h_18 => ?_)
    · skip
      refine r_iconst (pc := 25) (v := 0) C dX1_isDown_25 (by decide) ?_
      exact E _ _ _ _ _ _ dX1_isDown_26 (Nat.le_refl _) (Nat.le_refl _) rfl ⟨congrArg (fun z => some (Value.int z)) (by simp [downS, bB, h_5, h_18]), rfl⟩
    · skip
      refine r_iconst (pc := 21) (v := 1) C dX1_isDown_21 (by decide) ?_
      refine r_goto (pc := 22) (tgt := 26) C dX1_isDown_22 (by decide) ?_
      exact E _ _ _ _ _ _ dX1_isDown_26 (Nat.le_refl _) (Nat.le_refl _) rfl ⟨congrArg (fun z => some (Value.int z)) (by simp [downS, bB, h_5, h_18]), rfl⟩
set_option maxHeartbeats 4000000 in
set_option maxRecDepth 100000 in
theorem c_X1_offset (F : Nat → Nat → Int32) (h : Nat) (hh : h < 6) (t : Int32) (hW : okW F) : MetA yX1_offset (.code yX1_offset cX1_offset 3 (some .int) :: TT) rmX1_offset [.ref 0, .int (nI h), .int t] (wF 0 F) (fun vr wr => vr = some (.int (offS F h t)) ∧ wr = wF 0 F) 0 0 := by
  refine MetA.of_i (by decide) (fun _ => Nat.le_of_ble_eq_true rfl) (Nat.le_of_ble_eq_true rfl) (fun g C E => ?_)
  replace C : Sem cX1_offset RX1 "offset" 3 rmX1_offset g := C
  show g 0 0 (wF 0 F) 0 [some (.ref 0), some (.int (nI h)), some (.int t)] []
  refine r_aload_n (pc := 0) C dX1_offset_0 rfl rfl ?_
  refine r_getfield (pc := 1) (v := .ref 1) C xf_X1_9 dX1_offset_1 rfl rfl ?_
  refine r_iload_n (pc := 4) C dX1_offset_4 rfl rfl ?_
  refine r_iaload (pc := 5) (v := F 0 h) C h dX1_offset_5 rfl rfl (by first | assumption | omega) rfl ?_
  by_cases q_6_3 : F 0 h = 3
  · refine r_tableIn (pc := 6) (off := 26) (tgt := 32) C dX1_offset_6 (by rw [q_6_3]; decide) (by rw [q_6_3]; decide) (by rw [q_6_3]; rfl) (by decide) ?_
    refine r_aload_n (pc := 32) C dX1_offset_32 rfl rfl ?_
    refine r_getfield (pc := 33) (v := .ref 5) C xf_X1_24 dX1_offset_33 rfl rfl ?_
    refine r_iload_n (pc := 36) C dX1_offset_36 rfl rfl ?_
    refine r_iaload (pc := 37) (v := F 4 h) C h dX1_offset_37 rfl rfl (by first | assumption | omega) rfl ?_
    refine r_iload_n (pc := 38) C dX1_offset_38 rfl rfl ?_
    refine r_iconst (pc := 39) (v := 2) C dX1_offset_39 (by decide) ?_
    refine r_idiv (pc := 40) C dX1_offset_40 (by decide) ?_
    refine r_callS0 (pc := 41) (As := [.int (F 4 h), .int (t / 2)]) (st := []) C (c_X1_swung (F 4 h) (t / 2) (hW h hh)) xm_X1_swung xk_X1_68 dX1_offset_41 (fun _ => rfl) (fun _ => rfl) rfl rfl (Nat.le_of_ble_eq_true rfl) ⟨Nat.le_of_ble_eq_true rfl, Nat.le_of_ble_eq_true rfl⟩ ⟨rfl, rfl⟩ ⟨Nat.le_of_ble_eq_true rfl, Nat.le_of_ble_eq_true rfl⟩ rfl ?_
    show g 0 0 (wF 0 F) 44 [some (.ref 0), some (.int (nI h)), some (.int t)] [.int (swS (F 4 h) (t / 2))]
    exact E _ _ _ _ _ _ dX1_offset_44 (Nat.le_refl _) (Nat.le_refl _) rfl ⟨congrArg (fun z => some (Value.int z)) (by simp [offS, q_6_3]), rfl⟩
  by_cases q_6_4 : F 0 h = 4
  · refine r_tableIn (pc := 6) (off := 39) (tgt := 45) C dX1_offset_6 (by rw [q_6_4]; decide) (by rw [q_6_4]; decide) (by rw [q_6_4]; rfl) (by decide) ?_
    refine r_iconst (pc := 45) (v := 0) C dX1_offset_45 (by decide) ?_
    exact E _ _ _ _ _ _ dX1_offset_46 (Nat.le_refl _) (Nat.le_refl _) rfl ⟨congrArg (fun z => some (Value.int z)) (by simp [offS, q_6_3, q_6_4]), rfl⟩
  by_cases q_6_5 : F 0 h = 5
  · refine r_tableIn (pc := 6) (off := 41) (tgt := 47) C dX1_offset_6 (by rw [q_6_5]; decide) (by rw [q_6_5]; decide) (by rw [q_6_5]; rfl) (by decide) ?_
    refine r_aload_n (pc := 47) C dX1_offset_47 rfl rfl ?_
    refine r_getfield (pc := 48) (v := .ref 5) C xf_X1_24 dX1_offset_48 rfl rfl ?_
    refine r_iload_n (pc := 51) C dX1_offset_51 rfl rfl ?_
    refine r_iaload (pc := 52) (v := F 4 h) C h dX1_offset_52 rfl rfl (by first | assumption | omega) rfl ?_
    exact E _ _ _ _ _ _ dX1_offset_53 (Nat.le_refl _) (Nat.le_refl _) rfl ⟨congrArg (fun z => some (Value.int z)) (by simp [offS, q_6_3, q_6_4, q_6_5]), rfl⟩
  refine r_tableOut (pc := 6) (tgt := 54) C dX1_offset_6 (by have t_3 := lv_neT (a := 3) q_6_3 rfl; have t_4 := lv_neT (a := 4) q_6_4 rfl; have t_5 := lv_neT (a := 5) q_6_5 rfl; omega) (by decide) ?_
  refine r_aload_n (pc := 54) C dX1_offset_54 rfl rfl ?_
  refine r_getfield (pc := 55) (v := .ref 5) C xf_X1_24 dX1_offset_55 rfl rfl ?_
  refine r_iload_n (pc := 58) C dX1_offset_58 rfl rfl ?_
  refine r_iaload (pc := 59) (v := F 4 h) C h dX1_offset_59 rfl rfl (by first | assumption | omega) rfl ?_
  refine r_iload_n (pc := 60) C dX1_offset_60 rfl rfl ?_
  refine r_callS0 (pc := 61) (As := [.int (F 4 h), .int t]) (st := []) C (c_X1_swung (F 4 h) t (hW h hh)) xm_X1_swung xk_X1_68 dX1_offset_61 (fun _ => rfl) (fun _ => rfl) rfl rfl (Nat.le_of_ble_eq_true rfl) ⟨Nat.le_of_ble_eq_true rfl, Nat.le_of_ble_eq_true rfl⟩ ⟨rfl, rfl⟩ ⟨Nat.le_of_ble_eq_true rfl, Nat.le_of_ble_eq_true rfl⟩ rfl ?_
  show g 0 0 (wF 0 F) 64 [some (.ref 0), some (.int (nI h)), some (.int t)] [.int (swS (F 4 h) t)]
  exact E _ _ _ _ _ _ dX1_offset_64 (Nat.le_refl _) (Nat.le_refl _) rfl ⟨congrArg (fun z => some (Value.int z)) (by simp [offS, q_6_3, q_6_4, q_6_5]), rfl⟩
set_option maxHeartbeats 4000000 in
set_option maxRecDepth 100000 in
theorem c_X1_place (F : Nat → Nat → Int32) (h : Nat) (hh : h < 6) (t : Int32) (hW : okW F) : MetA yX1_place (.code yX1_place cX1_place 3 (some .int) :: TT) rmX1_place [.ref 0, .int (nI h), .int t] (wF 0 F) (fun vr wr => vr = some (.int (plS F h t)) ∧ wr = wF 0 F) 0 0 := by
  refine MetA.of_i (by decide) (fun _ => Nat.le_of_ble_eq_true rfl) (Nat.le_of_ble_eq_true rfl) (fun g C E => ?_)
  replace C : Sem cX1_place RX1 "place" 3 rmX1_place g := C
  show g 0 0 (wF 0 F) 0 [some (.ref 0), some (.int (nI h)), some (.int t)] []
  refine r_aload_n (pc := 0) C dX1_place_0 rfl rfl ?_
  refine r_getfield (pc := 1) (v := .ref 2) C xf_X1_15 dX1_place_1 rfl rfl ?_
  refine r_iload_n (pc := 4) C dX1_place_4 rfl rfl ?_
  refine r_iaload (pc := 5) (v := F 1 h) C h dX1_place_5 rfl rfl (by first | assumption | omega) rfl ?_
  refine r_aload_n (pc := 6) C dX1_place_6 rfl rfl ?_
  refine r_getfield (pc := 7) (v := .ref 3) C xf_X1_18 dX1_place_7 rfl rfl ?_
  refine r_iload_n (pc := 10) C dX1_place_10 rfl rfl ?_
  refine r_iaload (pc := 11) (v := F 2 h) C h dX1_place_11 rfl rfl (by first | assumption | omega) rfl ?_
  refine r_iadd (pc := 12) C dX1_place_12 ?_
  refine r_iconst (pc := 13) (v := 2) C dX1_place_13 (by decide) ?_
  refine r_aload_n (pc := 14) C dX1_place_14 rfl rfl ?_
  refine r_iload_n (pc := 15) C dX1_place_15 rfl rfl ?_
  refine r_iload_n (pc := 16) C dX1_place_16 rfl rfl ?_
  refine r_callV0 (pc := 17) (As := [.int (nI h), .int t]) (st := [.int 2, .int ((F 1 h) + (F 2 h))]) (θ' := wF 0 F) C (c_X1_offset F h (by omega) t hW) xm_X1_offset xk_X1_65 dX1_place_17 rfl rfl rfl rfl (Nat.le_of_ble_eq_true rfl) ⟨Nat.le_of_ble_eq_true rfl, Nat.le_of_ble_eq_true rfl⟩ ⟨rfl, rfl⟩ ⟨Nat.le_of_ble_eq_true rfl, Nat.le_of_ble_eq_true rfl⟩ rfl (Eq.trans (b := 6) rfl rfl) ?_
  show g 0 0 (wF 0 F) 20 [some (.ref 0), some (.int (nI h)), some (.int t)] [.int (offS F h t), .int 2, .int ((F 1 h) + (F 2 h))]
  refine r_imul (pc := 20) C dX1_place_20 ?_
  refine r_iadd (pc := 21) C dX1_place_21 ?_
  exact E _ _ _ _ _ _ dX1_place_22 (Nat.le_refl _) (Nat.le_refl _) rfl ⟨congrArg (fun z => some (Value.int z)) (by simp [plS]), rfl⟩
set_option maxHeartbeats 4000000 in
set_option maxRecDepth 100000 in
theorem c_X1_spot (F : Nat → Nat → Int32) (h : Nat) (hh : h < 6) (t : Int32) (hW : okW F) : MetA yX1_spot (.code yX1_spot cX1_spot 3 (some .int) :: TT) rmX1_spot [.ref 0, .int (nI h), .int t] (wF 0 F) (fun vr wr => vr = some (.int (spS F h t)) ∧ wr = wF 0 F) 0 0 := by
  refine MetA.of_i (by decide) (fun _ => Nat.le_of_ble_eq_true rfl) (Nat.le_of_ble_eq_true rfl) (fun g C E => ?_)
  replace C : Sem cX1_spot RX1 "spot" 3 rmX1_spot g := C
  show g 0 0 (wF 0 F) 0 [some (.ref 0), some (.int (nI h)), some (.int t)] []
  refine r_aload_n (pc := 0) C dX1_spot_0 rfl rfl ?_
  refine r_iload_n (pc := 1) C dX1_spot_1 rfl rfl ?_
  refine r_iload_n (pc := 2) C dX1_spot_2 rfl rfl ?_
  refine r_callV0 (pc := 3) (As := [.int (nI h), .int t]) (st := []) (θ' := wF 0 F) C (c_X1_isDown F h (by omega) t) xm_X1_isDown xk_X1_61 dX1_spot_3 rfl rfl rfl rfl (Nat.le_of_ble_eq_true rfl) ⟨Nat.le_of_ble_eq_true rfl, Nat.le_of_ble_eq_true rfl⟩ ⟨rfl, rfl⟩ ⟨Nat.le_of_ble_eq_true rfl, Nat.le_of_ble_eq_true rfl⟩ rfl (Eq.trans (b := 6) rfl rfl) ?_
  show g 0 0 (wF 0 F) 6 [some (.ref 0), some (.int (nI h)), some (.int t)] [.int (bB (downS F h t))]
  refine r_if_eq (pc := 6) (tgt := 15) C dX1_spot_6 (by decide) (fun h_6 => ?_) (fun h_6 => ?_)
  · replace h_6 := bB_f h_6
    refine r_aload_n (pc := 15) C dX1_spot_15 rfl rfl ?_
    refine r_iload_n (pc := 16) C dX1_spot_16 rfl rfl ?_
    refine r_iload_n (pc := 17) C dX1_spot_17 rfl rfl ?_
    refine r_callV0 (pc := 18) (As := [.int (nI h), .int t]) (st := []) (θ' := wF 0 F) C (c_X1_place F h (by omega) t hW) xm_X1_place xk_X1_71 dX1_spot_18 rfl rfl rfl rfl (Nat.le_of_ble_eq_true rfl) ⟨Nat.le_of_ble_eq_true rfl, Nat.le_of_ble_eq_true rfl⟩ ⟨rfl, rfl⟩ ⟨Nat.le_of_ble_eq_true rfl, Nat.le_of_ble_eq_true rfl⟩ rfl (Eq.trans (b := 6) rfl rfl) ?_
    show g 0 0 (wF 0 F) 21 [some (.ref 0), some (.int (nI h)), some (.int t)] [.int (plS F h t)]
    exact E _ _ _ _ _ _ dX1_spot_21 (Nat.le_refl _) (Nat.le_refl _) rfl ⟨congrArg (fun z => some (Value.int z)) (by simp [spS, h_6]), rfl⟩
  · replace h_6 := bB_t h_6
    refine r_sipush (pc := 9) (v := (-1000)) C dX1_spot_9 (by decide) ?_
    refine r_goto (pc := 12) (tgt := 21) C dX1_spot_12 (by decide) ?_
    exact E _ _ _ _ _ _ dX1_spot_21 (Nat.le_refl _) (Nat.le_refl _) rfl ⟨congrArg (fun z => some (Value.int z)) (by simp [spS, h_6]), rfl⟩
set_option maxHeartbeats 4000000 in
set_option maxRecDepth 100000 in
theorem c_X1_areNear (F : Nat → Nat → Int32) (a b : Int32) : MetA yX1_areNear (.code yX1_areNear cX1_areNear 3 (some .boolean) :: TT) rmX1_areNear [.ref 0, .int a, .int b] (wF 0 F) (fun vr wr => vr = some (.int (bB (nrS F a b))) ∧ wr = wF 0 F) 0 0 := by
  refine MetA.of_i (by decide) (fun _ => Nat.le_of_ble_eq_true rfl) (Nat.le_of_ble_eq_true rfl) (fun g C E => ?_)
  replace C : Sem cX1_areNear RX1 "areNear" 3 rmX1_areNear g := C
  show g 0 0 (wF 0 F) 0 [some (.ref 0), some (.int a), some (.int b)] []
  refine r_iload_n (pc := 0) C dX1_areNear_0 rfl rfl ?_
  refine r_sipush (pc := 1) (v := (-1000)) C dX1_areNear_1 (by decide) ?_
  refine r_icmp_eq (pc := 4) (tgt := 33) C dX1_areNear_4 (by decide) (fun h_4 => ?_) (fun h_4 => ?_)
  · skip
    refine r_iconst (pc := 33) (v := 0) C dX1_areNear_33 (by decide) ?_
    exact E _ _ _ _ _ _ dX1_areNear_34 (Nat.le_refl _) (Nat.le_refl _) rfl ⟨congrArg (fun z => some (Value.int z)) (by simp [nrS, bB, h_4]), rfl⟩
  · skip
    refine r_iload_n (pc := 7) C dX1_areNear_7 rfl rfl ?_
    refine r_sipush (pc := 8) (v := (-1000)) C dX1_areNear_8 (by decide) ?_
    refine r_icmp_eq (pc := 11) (tgt := 33) C dX1_areNear_11 (by decide) (fun h_11 => ?_) (fun h_11 => ?_)
    · skip
      refine r_iconst (pc := 33) (v := 0) C dX1_areNear_33 (by decide) ?_
      exact E _ _ _ _ _ _ dX1_areNear_34 (Nat.le_refl _) (Nat.le_refl _) rfl ⟨congrArg (fun z => some (Value.int z)) (by simp [nrS, bB, h_4, h_11]), rfl⟩
    · skip
      refine r_iload_n (pc := 14) C dX1_areNear_14 rfl rfl ?_
      refine r_iload_n (pc := 15) C dX1_areNear_15 rfl rfl ?_
      refine r_isub (pc := 16) C dX1_areNear_16 ?_
      refine r_abs (pc := 17) C ⟨tw_413, abs_s, abs_i, abs_c⟩ dX1_areNear_17 rfl ⟨Nat.le_of_ble_eq_true rfl, Nat.le_of_ble_eq_true rfl⟩ ⟨Nat.le_of_ble_eq_true rfl, Nat.le_of_ble_eq_true rfl⟩ ?_
      show g 0 0 (wF 0 F) 20 [some (.ref 0), some (.int a), some (.int b)] [.int (absI (a - b))]
      refine r_iconst (pc := 20) (v := 2) C dX1_areNear_20 (by decide) ?_
      refine r_aload_n (pc := 21) C dX1_areNear_21 rfl rfl ?_
      refine r_getfield (pc := 22) (v := .int (F 7 0)) C xf_X1_50 dX1_areNear_22 rfl rfl ?_
      refine r_imul (pc := 25) C dX1_areNear_25 ?_
      refine r_icmp_gt (pc := 26) (tgt := 33) C dX1_areNear_26 (by decide) (fun h_26 => ?_) (fun h_26 => ?_)
      · skip
        refine r_iconst (pc := 33) (v := 0) C dX1_areNear_33 (by decide) ?_
        exact E _ _ _ _ _ _ dX1_areNear_34 (Nat.le_refl _) (Nat.le_refl _) rfl ⟨congrArg (fun z => some (Value.int z)) (by simp [nrS, bB, h_4, h_11, h_26]), rfl⟩
      · skip
        refine r_iconst (pc := 29) (v := 1) C dX1_areNear_29 (by decide) ?_
        refine r_goto (pc := 30) (tgt := 34) C dX1_areNear_30 (by decide) ?_
        exact E _ _ _ _ _ _ dX1_areNear_34 (Nat.le_refl _) (Nat.le_refl _) rfl ⟨congrArg (fun z => some (Value.int z)) (by simp [nrS, bB, h_4, h_11, h_26]), rfl⟩
set_option maxHeartbeats 4000000 in
set_option maxRecDepth 100000 in
theorem lp_X1_downBits (F : Nat → Nat → Int32) (t : Int32) (z : Nat) (hz : F 9 0 = nI z) (hz6 : z ≤ 6) {g : Nat → Nat → List xE → Nat → List (Option Value) → List Value → Prop} (C : Sem cX1_downBits RX1 "downBits" 4 rmX1_downBits g) (E : xEi g cX1_downBits .int 0 0 (fun vr wr => vr = some (.int (bitsS (fun h => downS F h t) z)) ∧ wr = wF 0 F)) : ∀ (n : Nat) (i : Nat), i + n = z → g 0 0 (wF 0 F) 4 [some (.ref 0), some (.int t), some (.int (bitsS (fun h => downS F h t) i)), some (.int (nI i))] [] := by
  intro n
  induction n with
  | zero =>
    intro i hi
    refine r_iload_n (pc := 4) C dX1_downBits_4 rfl rfl ?_
    refine r_aload_n (pc := 5) C dX1_downBits_5 rfl rfl ?_
    refine r_getfield (pc := 6) (v := .int (F 9 0)) C xf_X1_35 dX1_downBits_6 rfl rfl ?_
    refine r_icmp_ge (pc := 9) (tgt := 33) C dX1_downBits_9 (by decide) (fun _ => ?_) (fun h => absurd (by rw [hz]; exact nI_le (by omega) (by omega)) h)
    refine r_iload_n (pc := 33) C dX1_downBits_33 rfl rfl ?_
    obtain rfl : i = z := by omega
    exact E _ _ _ _ _ _ dX1_downBits_34 (Nat.le_refl _) (Nat.le_refl _) rfl ⟨rfl, rfl⟩
  | succ n ih =>
    intro i hi
    refine r_iload_n (pc := 4) C dX1_downBits_4 rfl rfl ?_
    refine r_aload_n (pc := 5) C dX1_downBits_5 rfl rfl ?_
    refine r_getfield (pc := 6) (v := .int (F 9 0)) C xf_X1_35 dX1_downBits_6 rfl rfl ?_
    refine r_icmp_ge (pc := 9) (tgt := 33) C dX1_downBits_9 (by decide) (fun h => absurd h (by rw [hz]; exact nI_ge (by omega) (by omega))) (fun _ => ?_)
    refine r_aload_n (pc := 12) C dX1_downBits_12 rfl rfl ?_
    refine r_iload_n (pc := 13) C dX1_downBits_13 rfl rfl ?_
    refine r_iload_n (pc := 14) C dX1_downBits_14 rfl rfl ?_
    refine r_callV0 (pc := 15) (As := [.int (nI i), .int t]) (st := []) (θ' := wF 0 F) C (c_X1_isDown F i (by omega) t) xm_X1_isDown xk_X1_61 dX1_downBits_15 rfl rfl rfl rfl (Nat.le_of_ble_eq_true rfl) ⟨Nat.le_of_ble_eq_true rfl, Nat.le_of_ble_eq_true rfl⟩ ⟨rfl, rfl⟩ ⟨Nat.le_of_ble_eq_true rfl, Nat.le_of_ble_eq_true rfl⟩ rfl (Eq.trans (b := 6) rfl rfl) ?_
    show g 0 0 (wF 0 F) 18 [some (.ref 0), some (.int t), some (.int (bitsS (fun h => downS F h t) i)), some (.int (nI i))] [.int (bB (downS F i t))]
    refine r_if_eq (pc := 18) (tgt := 27) C dX1_downBits_18 (by decide) (fun h_18 => ?_) (fun h_18 => ?_)
    · replace h_18 := bB_f h_18
      refine r_iinc (pc := 27) (v := nI (i + 1)) (lv' := [some (.ref 0), some (.int t), some (.int (bitsS (fun h => downS F h t) i)), some (.int (nI (i + 1)))]) C dX1_downBits_27 rfl (nI_1 i) trivial rfl ?_
      refine r_goto (pc := 30) (tgt := 4) C dX1_downBits_30 (by decide) ?_
      show g 0 0 (wF 0 F) 4 [some (.ref 0), some (.int t), some (.int (bitsS (fun h => downS F h t) i)), some (.int (nI (i + 1)))] []
      rw [show (bitsS (fun h => downS F h t) i : Int32) = bitsS (fun h => downS F h t) (i + 1) from by simp [bitsS, h_18]]
      exact ih (i + 1) (by omega)
    · replace h_18 := bB_t h_18
      refine r_iload_n (pc := 21) C dX1_downBits_21 rfl rfl ?_
      refine r_iconst (pc := 22) (v := 1) C dX1_downBits_22 (by decide) ?_
      refine r_iload_n (pc := 23) C dX1_downBits_23 rfl rfl ?_
      refine r_ishl (pc := 24) C dX1_downBits_24 ?_
      refine r_ior (pc := 25) C dX1_downBits_25 ?_
      refine r_istore_n (pc := 26) (lv' := [some (.ref 0), some (.int t), some (.int ((bitsS (fun h => downS F h t) i) ||| (1 <<< ((nI i) &&& 31)))), some (.int (nI i))]) C dX1_downBits_26 rfl (Nat.le_of_ble_eq_true rfl) trivial rfl ?_
      refine r_iinc (pc := 27) (v := nI (i + 1)) (lv' := [some (.ref 0), some (.int t), some (.int ((bitsS (fun h => downS F h t) i) ||| (1 <<< ((nI i) &&& 31)))), some (.int (nI (i + 1)))]) C dX1_downBits_27 rfl (nI_1 i) trivial rfl ?_
      refine r_goto (pc := 30) (tgt := 4) C dX1_downBits_30 (by decide) ?_
      show g 0 0 (wF 0 F) 4 [some (.ref 0), some (.int t), some (.int ((bitsS (fun h => downS F h t) i) ||| (1 <<< ((nI i) &&& 31)))), some (.int (nI (i + 1)))] []
      rw [show ((bitsS (fun h => downS F h t) i) ||| (1 <<< ((nI i) &&& 31)) : Int32) = bitsS (fun h => downS F h t) (i + 1) from by simp [bitsS, h_18]]
      exact ih (i + 1) (by omega)
set_option maxHeartbeats 4000000 in
set_option maxRecDepth 100000 in
theorem c_X1_downBits (F : Nat → Nat → Int32) (t : Int32) (z : Nat) (hz : F 9 0 = nI z) (hz6 : z ≤ 6) : MetA yX1_downBits (.code yX1_downBits cX1_downBits 4 (some .int) :: TT) rmX1_downBits [.ref 0, .int t] (wF 0 F) (fun vr wr => vr = some (.int (bitsS (fun h => downS F h t) z)) ∧ wr = wF 0 F) 0 0 := by
  refine MetA.of_i (by decide) (fun _ => Nat.le_of_ble_eq_true rfl) (Nat.le_of_ble_eq_true rfl) (fun g C E => ?_)
  replace C : Sem cX1_downBits RX1 "downBits" 4 rmX1_downBits g := C
  show g 0 0 (wF 0 F) 0 [some (.ref 0), some (.int t), none, none] []
  refine r_iconst (pc := 0) (v := 0) C dX1_downBits_0 (by decide) ?_
  refine r_istore_n (pc := 1) (lv' := [some (.ref 0), some (.int t), some (.int 0), none]) C dX1_downBits_1 rfl (Nat.le_of_ble_eq_true rfl) trivial rfl ?_
  refine r_iconst (pc := 2) (v := 0) C dX1_downBits_2 (by decide) ?_
  refine r_istore_n (pc := 3) (lv' := [some (.ref 0), some (.int t), some (.int 0), some (.int 0)]) C dX1_downBits_3 rfl (Nat.le_of_ble_eq_true rfl) trivial rfl ?_
  exact lp_X1_downBits F t z hz hz6 C E z 0 (by omega)
set_option maxHeartbeats 4000000 in
set_option maxRecDepth 100000 in
theorem lp_X1_nearBits (F : Nat → Nat → Int32) (h : Nat) (hh : h < 6) (t : Int32) (hW : okW F) (z : Nat) (hz : F 9 0 = nI z) (hz6 : z ≤ 6) {g : Nat → Nat → List xE → Nat → List (Option Value) → List Value → Prop} (C : Sem cX1_nearBits RX1 "nearBits" 6 rmX1_nearBits g) (E : xEi g cX1_nearBits .int 0 0 (fun vr wr => vr = some (.int (bitsS (fun o => !decide (o = h) && nrS F (spS F h t) (spS F o t)) z)) ∧ wr = wF 0 F)) : ∀ (n : Nat) (i : Nat), i + n = z → g 0 0 (wF 0 F) 13 [some (.ref 0), some (.int (nI h)), some (.int t), some (.int (bitsS (fun o => !decide (o = h) && nrS F (spS F h t) (spS F o t)) i)), some (.int (spS F h t)), some (.int (nI i))] [] := by
  intro n
  induction n with
  | zero =>
    intro i hi
    refine r_iload (pc := 13) C dX1_nearBits_13 rfl ?_
    refine r_aload_n (pc := 15) C dX1_nearBits_15 rfl rfl ?_
    refine r_getfield (pc := 16) (v := .int (F 9 0)) C xf_X1_35 dX1_nearBits_16 rfl rfl ?_
    refine r_icmp_ge (pc := 19) (tgt := 57) C dX1_nearBits_19 (by decide) (fun _ => ?_) (fun h => absurd (by rw [hz]; exact nI_le (by omega) (by omega)) h)
    refine r_iload_n (pc := 57) C dX1_nearBits_57 rfl rfl ?_
    obtain rfl : i = z := by omega
    exact E _ _ _ _ _ _ dX1_nearBits_58 (Nat.le_refl _) (Nat.le_refl _) rfl ⟨rfl, rfl⟩
  | succ n ih =>
    intro i hi
    refine r_iload (pc := 13) C dX1_nearBits_13 rfl ?_
    refine r_aload_n (pc := 15) C dX1_nearBits_15 rfl rfl ?_
    refine r_getfield (pc := 16) (v := .int (F 9 0)) C xf_X1_35 dX1_nearBits_16 rfl rfl ?_
    refine r_icmp_ge (pc := 19) (tgt := 57) C dX1_nearBits_19 (by decide) (fun h => absurd h (by rw [hz]; exact nI_ge (by omega) (by omega))) (fun _ => ?_)
    refine r_iload (pc := 22) C dX1_nearBits_22 rfl ?_
    refine r_iload_n (pc := 24) C dX1_nearBits_24 rfl rfl ?_
    refine r_icmp_eq (pc := 25) (tgt := 51) C dX1_nearBits_25 (by decide) (fun h_25 => ?_) (fun h_25 => ?_)
    · skip
      replace h_25 := (nI_eq (by omega) (by omega)).mp h_25
      refine r_iinc (pc := 51) (v := nI (i + 1)) (lv' := [some (.ref 0), some (.int (nI h)), some (.int t), some (.int (bitsS (fun o => !decide (o = h) && nrS F (spS F h t) (spS F o t)) i)), some (.int (spS F h t)), some (.int (nI (i + 1)))]) C dX1_nearBits_51 rfl (nI_1 i) trivial rfl ?_
      refine r_goto (pc := 54) (tgt := 13) C dX1_nearBits_54 (by decide) ?_
      show g 0 0 (wF 0 F) 13 [some (.ref 0), some (.int (nI h)), some (.int t), some (.int (bitsS (fun o => !decide (o = h) && nrS F (spS F h t) (spS F o t)) i)), some (.int (spS F h t)), some (.int (nI (i + 1)))] []
      rw [show (bitsS (fun o => !decide (o = h) && nrS F (spS F h t) (spS F o t)) i : Int32) = bitsS (fun o => !decide (o = h) && nrS F (spS F h t) (spS F o t)) (i + 1) from by simp [bitsS, h_25]]
      exact ih (i + 1) (by omega)
    · skip
      replace h_25 : ¬ i = h := fun q => h_25 (congrArg nI q)
      refine r_aload_n (pc := 28) C dX1_nearBits_28 rfl rfl ?_
      refine r_iload (pc := 29) C dX1_nearBits_29 rfl ?_
      refine r_aload_n (pc := 31) C dX1_nearBits_31 rfl rfl ?_
      refine r_iload (pc := 32) C dX1_nearBits_32 rfl ?_
      refine r_iload_n (pc := 34) C dX1_nearBits_34 rfl rfl ?_
      refine r_callV0 (pc := 35) (As := [.int (nI i), .int t]) (st := [.int (spS F h t), .ref 0]) (θ' := wF 0 F) C (c_X1_spot F i (by omega) t hW) xm_X1_spot xk_X1_80 dX1_nearBits_35 rfl rfl rfl rfl (Nat.le_of_ble_eq_true rfl) ⟨Nat.le_of_ble_eq_true rfl, Nat.le_of_ble_eq_true rfl⟩ ⟨rfl, rfl⟩ ⟨Nat.le_of_ble_eq_true rfl, Nat.le_of_ble_eq_true rfl⟩ rfl (Eq.trans (b := 6) rfl rfl) ?_
      show g 0 0 (wF 0 F) 38 [some (.ref 0), some (.int (nI h)), some (.int t), some (.int (bitsS (fun o => !decide (o = h) && nrS F (spS F h t) (spS F o t)) i)), some (.int (spS F h t)), some (.int (nI i))] [.int (spS F i t), .int (spS F h t), .ref 0]
      refine r_callV0 (pc := 38) (As := [.int (spS F h t), .int (spS F i t)]) (st := []) (θ' := wF 0 F) C (c_X1_areNear F (spS F h t) (spS F i t)) xm_X1_areNear xk_X1_83 dX1_nearBits_38 rfl rfl rfl rfl (Nat.le_of_ble_eq_true rfl) ⟨Nat.le_of_ble_eq_true rfl, Nat.le_of_ble_eq_true rfl⟩ ⟨rfl, rfl⟩ ⟨Nat.le_of_ble_eq_true rfl, Nat.le_of_ble_eq_true rfl⟩ rfl (Eq.trans (b := 6) rfl rfl) ?_
      show g 0 0 (wF 0 F) 41 [some (.ref 0), some (.int (nI h)), some (.int t), some (.int (bitsS (fun o => !decide (o = h) && nrS F (spS F h t) (spS F o t)) i)), some (.int (spS F h t)), some (.int (nI i))] [.int (bB (nrS F (spS F h t) (spS F i t)))]
      refine r_if_eq (pc := 41) (tgt := 51) C dX1_nearBits_41 (by decide) (fun h_41 => ?_) (fun h_41 => ?_)
      · replace h_41 := bB_f h_41
        refine r_iinc (pc := 51) (v := nI (i + 1)) (lv' := [some (.ref 0), some (.int (nI h)), some (.int t), some (.int (bitsS (fun o => !decide (o = h) && nrS F (spS F h t) (spS F o t)) i)), some (.int (spS F h t)), some (.int (nI (i + 1)))]) C dX1_nearBits_51 rfl (nI_1 i) trivial rfl ?_
        refine r_goto (pc := 54) (tgt := 13) C dX1_nearBits_54 (by decide) ?_
        show g 0 0 (wF 0 F) 13 [some (.ref 0), some (.int (nI h)), some (.int t), some (.int (bitsS (fun o => !decide (o = h) && nrS F (spS F h t) (spS F o t)) i)), some (.int (spS F h t)), some (.int (nI (i + 1)))] []
        rw [show (bitsS (fun o => !decide (o = h) && nrS F (spS F h t) (spS F o t)) i : Int32) = bitsS (fun o => !decide (o = h) && nrS F (spS F h t) (spS F o t)) (i + 1) from by simp [bitsS, h_25, h_41]]
        exact ih (i + 1) (by omega)
      · replace h_41 := bB_t h_41
        refine r_iload_n (pc := 44) C dX1_nearBits_44 rfl rfl ?_
        refine r_iconst (pc := 45) (v := 1) C dX1_nearBits_45 (by decide) ?_
        refine r_iload (pc := 46) C dX1_nearBits_46 rfl ?_
        refine r_ishl (pc := 48) C dX1_nearBits_48 ?_
        refine r_ior (pc := 49) C dX1_nearBits_49 ?_
        refine r_istore_n (pc := 50) (lv' := [some (.ref 0), some (.int (nI h)), some (.int t), some (.int ((bitsS (fun o => !decide (o = h) && nrS F (spS F h t) (spS F o t)) i) ||| (1 <<< ((nI i) &&& 31)))), some (.int (spS F h t)), some (.int (nI i))]) C dX1_nearBits_50 rfl (Nat.le_of_ble_eq_true rfl) trivial rfl ?_
        refine r_iinc (pc := 51) (v := nI (i + 1)) (lv' := [some (.ref 0), some (.int (nI h)), some (.int t), some (.int ((bitsS (fun o => !decide (o = h) && nrS F (spS F h t) (spS F o t)) i) ||| (1 <<< ((nI i) &&& 31)))), some (.int (spS F h t)), some (.int (nI (i + 1)))]) C dX1_nearBits_51 rfl (nI_1 i) trivial rfl ?_
        refine r_goto (pc := 54) (tgt := 13) C dX1_nearBits_54 (by decide) ?_
        show g 0 0 (wF 0 F) 13 [some (.ref 0), some (.int (nI h)), some (.int t), some (.int ((bitsS (fun o => !decide (o = h) && nrS F (spS F h t) (spS F o t)) i) ||| (1 <<< ((nI i) &&& 31)))), some (.int (spS F h t)), some (.int (nI (i + 1)))] []
        rw [show ((bitsS (fun o => !decide (o = h) && nrS F (spS F h t) (spS F o t)) i) ||| (1 <<< ((nI i) &&& 31)) : Int32) = bitsS (fun o => !decide (o = h) && nrS F (spS F h t) (spS F o t)) (i + 1) from by simp [bitsS, h_25, h_41]]
        exact ih (i + 1) (by omega)
set_option maxHeartbeats 4000000 in
set_option maxRecDepth 100000 in
theorem c_X1_nearBits (F : Nat → Nat → Int32) (h : Nat) (hh : h < 6) (t : Int32) (hW : okW F) (z : Nat) (hz : F 9 0 = nI z) (hz6 : z ≤ 6) : MetA yX1_nearBits (.code yX1_nearBits cX1_nearBits 6 (some .int) :: TT) rmX1_nearBits [.ref 0, .int (nI h), .int t] (wF 0 F) (fun vr wr => vr = some (.int (bitsS (fun o => !decide (o = h) && nrS F (spS F h t) (spS F o t)) z)) ∧ wr = wF 0 F) 0 0 := by
  refine MetA.of_i (by decide) (fun _ => Nat.le_of_ble_eq_true rfl) (Nat.le_of_ble_eq_true rfl) (fun g C E => ?_)
  replace C : Sem cX1_nearBits RX1 "nearBits" 6 rmX1_nearBits g := C
  show g 0 0 (wF 0 F) 0 [some (.ref 0), some (.int (nI h)), some (.int t), none, none, none] []
  refine r_iconst (pc := 0) (v := 0) C dX1_nearBits_0 (by decide) ?_
  refine r_istore_n (pc := 1) (lv' := [some (.ref 0), some (.int (nI h)), some (.int t), some (.int 0), none, none]) C dX1_nearBits_1 rfl (Nat.le_of_ble_eq_true rfl) trivial rfl ?_
  refine r_aload_n (pc := 2) C dX1_nearBits_2 rfl rfl ?_
  refine r_iload_n (pc := 3) C dX1_nearBits_3 rfl rfl ?_
  refine r_iload_n (pc := 4) C dX1_nearBits_4 rfl rfl ?_
  refine r_callV0 (pc := 5) (As := [.int (nI h), .int t]) (st := []) (θ' := wF 0 F) C (c_X1_spot F h (by omega) t hW) xm_X1_spot xk_X1_80 dX1_nearBits_5 rfl rfl rfl rfl (Nat.le_of_ble_eq_true rfl) ⟨Nat.le_of_ble_eq_true rfl, Nat.le_of_ble_eq_true rfl⟩ ⟨rfl, rfl⟩ ⟨Nat.le_of_ble_eq_true rfl, Nat.le_of_ble_eq_true rfl⟩ rfl (Eq.trans (b := 6) rfl rfl) ?_
  show g 0 0 (wF 0 F) 8 [some (.ref 0), some (.int (nI h)), some (.int t), some (.int 0), none, none] [.int (spS F h t)]
  refine r_istore (pc := 8) (lv' := [some (.ref 0), some (.int (nI h)), some (.int t), some (.int 0), some (.int (spS F h t)), none]) C dX1_nearBits_8 (Nat.le_of_ble_eq_true rfl) trivial rfl ?_
  refine r_iconst (pc := 10) (v := 0) C dX1_nearBits_10 (by decide) ?_
  refine r_istore (pc := 11) (lv' := [some (.ref 0), some (.int (nI h)), some (.int t), some (.int 0), some (.int (spS F h t)), some (.int 0)]) C dX1_nearBits_11 (Nat.le_of_ble_eq_true rfl) trivial rfl ?_
  exact lp_X1_nearBits F h hh t hW z hz hz6 C E z 0 (by omega)
set_option maxHeartbeats 4000000 in
set_option maxRecDepth 100000 in
theorem c_X1_begin (F : Nat → Nat → Int32) : MetA yX1_begin (.code yX1_begin cX1_begin 1 none :: TT) rmX1_begin [.ref 0] (wF 0 F) (fun vr wr => vr = none ∧ wr = wF 0 (begS F)) 0 0 := by
  refine MetA.of_v (by decide) (fun _ => Nat.le_of_ble_eq_true rfl) (Nat.le_of_ble_eq_true rfl) (fun g C E => ?_)
  replace C : Sem cX1_begin RX1 "begin" 1 rmX1_begin g := C
  show g 0 0 (wF 0 F) 0 [some (.ref 0)] []
  refine r_aload_n (pc := 0) C dX1_begin_0 rfl rfl ?_
  refine r_iconst (pc := 1) (v := 1) C dX1_begin_1 (by decide) ?_
  refine r_putfield (pc := 2) (θ' := wF 0 (up2 F 5 (k1 1))) C xf_X1_27 xt_X1_5 dX1_begin_2 rfl (Nat.le_of_ble_eq_true rfl) (fun _ => ⟨rfl, rfl⟩) rfl ?_
  refine r_aload_n (pc := 5) C dX1_begin_5 rfl rfl ?_
  refine r_iconst (pc := 6) (v := 0) C dX1_begin_6 (by decide) ?_
  refine r_putfield (pc := 7) (θ' := wF 0 (up2 (up2 F 5 (k1 1)) 8 (k1 0))) C xf_X1_31 xt_X1_8 dX1_begin_7 rfl (Nat.le_of_ble_eq_true rfl) (fun _ => ⟨rfl, rfl⟩) rfl ?_
  refine r_aload_n (pc := 10) C dX1_begin_10 rfl rfl ?_
  refine r_iconst (pc := 11) (v := 0) C dX1_begin_11 (by decide) ?_
  refine r_putfield (pc := 12) (θ' := wF 0 (up2 (up2 (up2 F 5 (k1 1)) 8 (k1 0)) 9 (k1 0))) C xf_X1_35 xt_X1_9 dX1_begin_12 rfl (Nat.le_of_ble_eq_true rfl) (fun _ => ⟨rfl, rfl⟩) rfl ?_
  refine r_aload_n (pc := 15) C dX1_begin_15 rfl rfl ?_
  refine r_iconst (pc := 16) (v := 0) C dX1_begin_16 (by decide) ?_
  refine r_putfield (pc := 17) (θ' := wF 0 (up2 (up2 (up2 (up2 F 5 (k1 1)) 8 (k1 0)) 9 (k1 0)) 10 (k1 0))) C xf_X1_38 xt_X1_10 dX1_begin_17 rfl (Nat.le_of_ble_eq_true rfl) (fun _ => ⟨rfl, rfl⟩) rfl ?_
  exact E _ _ _ _ _ dX1_begin_20 (Nat.le_refl _) (Nat.le_refl _) ⟨rfl, rfl⟩
set_option maxHeartbeats 4000000 in
set_option maxRecDepth 100000 in
theorem c_X1_takeFrom (F P : Nat → Nat → Int32) (h5 : P 5 0 = 0 ∨ P 5 0 = 1) : MetA yX1_takeFrom (.code yX1_takeFrom cX1_takeFrom 2 none :: TT) rmX1_takeFrom [.ref 0, .ref 6] (wF 0 F ++ wF 6 P) (fun vr wr => vr = none ∧ wr = (wF 0 (tkS F P) ++ wF 6 P)) 0 0 := by
  refine MetA.of_v (by decide) (fun _ => Nat.le_of_ble_eq_true rfl) (Nat.le_of_ble_eq_true rfl) (fun g C E => ?_)
  replace C : Sem cX1_takeFrom RX1 "takeFrom" 2 rmX1_takeFrom g := C
  show g 0 0 (wF 0 F ++ wF 6 P) 0 [some (.ref 0), some (.ref 6)] []
  refine r_aload_n (pc := 0) C dX1_takeFrom_0 rfl rfl ?_
  refine r_getfield (pc := 1) (v := .ref 7) C xf_X1_9 dX1_takeFrom_1 rfl rfl ?_
  refine r_iconst (pc := 4) (v := 0) C dX1_takeFrom_4 (by decide) ?_
  refine r_aload_n (pc := 5) C dX1_takeFrom_5 rfl rfl ?_
  refine r_getfield (pc := 6) (v := .ref 1) C xf_X1_9 dX1_takeFrom_6 rfl rfl ?_
  refine r_iconst (pc := 9) (v := 0) C dX1_takeFrom_9 (by decide) ?_
  refine r_bipush (pc := 10) (v := 6) C dX1_takeFrom_10 (by decide) ?_
  refine r_copy (pc := 12) (θ' := wF 0 (up2 F 0 (va_cpy (P 0) (F 0) 0 0 6)) ++ wF 6 P) C ⟨tw_310, cpy_n, cpy_s, cpy_i⟩ 0 0 6 dX1_takeFrom_12 rfl ⟨Nat.le_of_ble_eq_true rfl, Nat.le_of_ble_eq_true rfl⟩ rfl rfl (by decide) (by decide) (by decide) (Nat.le_of_ble_eq_true rfl) (Nat.le_of_ble_eq_true rfl) rfl ?_
  refine r_aload_n (pc := 15) C dX1_takeFrom_15 rfl rfl ?_
  refine r_getfield (pc := 16) (v := .ref 8) C xf_X1_15 dX1_takeFrom_16 rfl rfl ?_
  refine r_iconst (pc := 19) (v := 0) C dX1_takeFrom_19 (by decide) ?_
  refine r_aload_n (pc := 20) C dX1_takeFrom_20 rfl rfl ?_
  refine r_getfield (pc := 21) (v := .ref 2) C xf_X1_15 dX1_takeFrom_21 rfl rfl ?_
  refine r_iconst (pc := 24) (v := 0) C dX1_takeFrom_24 (by decide) ?_
  refine r_bipush (pc := 25) (v := 6) C dX1_takeFrom_25 (by decide) ?_
  refine r_copy (pc := 27) (θ' := wF 0 (up2 (up2 F 0 (va_cpy (P 0) (F 0) 0 0 6)) 1 (va_cpy (P 1) (F 1) 0 0 6)) ++ wF 6 P) C ⟨tw_310, cpy_n, cpy_s, cpy_i⟩ 0 0 6 dX1_takeFrom_27 rfl ⟨Nat.le_of_ble_eq_true rfl, Nat.le_of_ble_eq_true rfl⟩ rfl rfl (by decide) (by decide) (by decide) (Nat.le_of_ble_eq_true rfl) (Nat.le_of_ble_eq_true rfl) rfl ?_
  refine r_aload_n (pc := 30) C dX1_takeFrom_30 rfl rfl ?_
  refine r_getfield (pc := 31) (v := .ref 9) C xf_X1_18 dX1_takeFrom_31 rfl rfl ?_
  refine r_iconst (pc := 34) (v := 0) C dX1_takeFrom_34 (by decide) ?_
  refine r_aload_n (pc := 35) C dX1_takeFrom_35 rfl rfl ?_
  refine r_getfield (pc := 36) (v := .ref 3) C xf_X1_18 dX1_takeFrom_36 rfl rfl ?_
  refine r_iconst (pc := 39) (v := 0) C dX1_takeFrom_39 (by decide) ?_
  refine r_bipush (pc := 40) (v := 6) C dX1_takeFrom_40 (by decide) ?_
  refine r_copy (pc := 42) (θ' := wF 0 (up2 (up2 (up2 F 0 (va_cpy (P 0) (F 0) 0 0 6)) 1 (va_cpy (P 1) (F 1) 0 0 6)) 2 (va_cpy (P 2) (F 2) 0 0 6)) ++ wF 6 P) C ⟨tw_310, cpy_n, cpy_s, cpy_i⟩ 0 0 6 dX1_takeFrom_42 rfl ⟨Nat.le_of_ble_eq_true rfl, Nat.le_of_ble_eq_true rfl⟩ rfl rfl (by decide) (by decide) (by decide) (Nat.le_of_ble_eq_true rfl) (Nat.le_of_ble_eq_true rfl) rfl ?_
  refine r_aload_n (pc := 45) C dX1_takeFrom_45 rfl rfl ?_
  refine r_getfield (pc := 46) (v := .ref 10) C xf_X1_21 dX1_takeFrom_46 rfl rfl ?_
  refine r_iconst (pc := 49) (v := 0) C dX1_takeFrom_49 (by decide) ?_
  refine r_aload_n (pc := 50) C dX1_takeFrom_50 rfl rfl ?_
  refine r_getfield (pc := 51) (v := .ref 4) C xf_X1_21 dX1_takeFrom_51 rfl rfl ?_
  refine r_iconst (pc := 54) (v := 0) C dX1_takeFrom_54 (by decide) ?_
  refine r_bipush (pc := 55) (v := 6) C dX1_takeFrom_55 (by decide) ?_
  refine r_copy (pc := 57) (θ' := wF 0 (up2 (up2 (up2 (up2 F 0 (va_cpy (P 0) (F 0) 0 0 6)) 1 (va_cpy (P 1) (F 1) 0 0 6)) 2 (va_cpy (P 2) (F 2) 0 0 6)) 3 (va_cpy (P 3) (F 3) 0 0 6)) ++ wF 6 P) C ⟨tw_310, cpy_n, cpy_s, cpy_i⟩ 0 0 6 dX1_takeFrom_57 rfl ⟨Nat.le_of_ble_eq_true rfl, Nat.le_of_ble_eq_true rfl⟩ rfl rfl (by decide) (by decide) (by decide) (Nat.le_of_ble_eq_true rfl) (Nat.le_of_ble_eq_true rfl) rfl ?_
  refine r_aload_n (pc := 60) C dX1_takeFrom_60 rfl rfl ?_
  refine r_getfield (pc := 61) (v := .ref 11) C xf_X1_24 dX1_takeFrom_61 rfl rfl ?_
  refine r_iconst (pc := 64) (v := 0) C dX1_takeFrom_64 (by decide) ?_
  refine r_aload_n (pc := 65) C dX1_takeFrom_65 rfl rfl ?_
  refine r_getfield (pc := 66) (v := .ref 5) C xf_X1_24 dX1_takeFrom_66 rfl rfl ?_
  refine r_iconst (pc := 69) (v := 0) C dX1_takeFrom_69 (by decide) ?_
  refine r_bipush (pc := 70) (v := 6) C dX1_takeFrom_70 (by decide) ?_
  refine r_copy (pc := 72) (θ' := wF 0 (up2 (up2 (up2 (up2 (up2 F 0 (va_cpy (P 0) (F 0) 0 0 6)) 1 (va_cpy (P 1) (F 1) 0 0 6)) 2 (va_cpy (P 2) (F 2) 0 0 6)) 3 (va_cpy (P 3) (F 3) 0 0 6)) 4 (va_cpy (P 4) (F 4) 0 0 6)) ++ wF 6 P) C ⟨tw_310, cpy_n, cpy_s, cpy_i⟩ 0 0 6 dX1_takeFrom_72 rfl ⟨Nat.le_of_ble_eq_true rfl, Nat.le_of_ble_eq_true rfl⟩ rfl rfl (by decide) (by decide) (by decide) (Nat.le_of_ble_eq_true rfl) (Nat.le_of_ble_eq_true rfl) rfl ?_
  refine r_aload_n (pc := 75) C dX1_takeFrom_75 rfl rfl ?_
  refine r_aload_n (pc := 76) C dX1_takeFrom_76 rfl rfl ?_
  refine r_getfield (pc := 77) (v := .int (P 5 0)) C xf_X1_27 dX1_takeFrom_77 rfl rfl ?_
  refine r_putfield (pc := 80) (θ' := wF 0 (up2 (up2 (up2 (up2 (up2 (up2 F 0 (va_cpy (P 0) (F 0) 0 0 6)) 1 (va_cpy (P 1) (F 1) 0 0 6)) 2 (va_cpy (P 2) (F 2) 0 0 6)) 3 (va_cpy (P 3) (F 3) 0 0 6)) 4 (va_cpy (P 4) (F 4) 0 0 6)) 5 (k1 (P 5 0))) ++ wF 6 P) C xf_X1_27 xt_X1_5 dX1_takeFrom_80 rfl (Nat.le_of_ble_eq_true rfl) (fun _ => by rcases h5 with q | q <;> rw [q] <;> exact ⟨rfl, rfl⟩) rfl ?_
  refine r_aload_n (pc := 83) C dX1_takeFrom_83 rfl rfl ?_
  refine r_aload_n (pc := 84) C dX1_takeFrom_84 rfl rfl ?_
  refine r_getfield (pc := 85) (v := .int (P 6 0)) C xf_X1_47 dX1_takeFrom_85 rfl rfl ?_
  refine r_putfield (pc := 88) (θ' := wF 0 (up2 (up2 (up2 (up2 (up2 (up2 (up2 F 0 (va_cpy (P 0) (F 0) 0 0 6)) 1 (va_cpy (P 1) (F 1) 0 0 6)) 2 (va_cpy (P 2) (F 2) 0 0 6)) 3 (va_cpy (P 3) (F 3) 0 0 6)) 4 (va_cpy (P 4) (F 4) 0 0 6)) 5 (k1 (P 5 0))) 6 (k1 (P 6 0))) ++ wF 6 P) C xf_X1_47 xt_X1_6 dX1_takeFrom_88 rfl (Nat.le_of_ble_eq_true rfl) (fun _ => ⟨rfl, rfl⟩) rfl ?_
  refine r_aload_n (pc := 91) C dX1_takeFrom_91 rfl rfl ?_
  refine r_aload_n (pc := 92) C dX1_takeFrom_92 rfl rfl ?_
  refine r_getfield (pc := 93) (v := .int (P 7 0)) C xf_X1_50 dX1_takeFrom_93 rfl rfl ?_
  refine r_putfield (pc := 96) (θ' := wF 0 (up2 (up2 (up2 (up2 (up2 (up2 (up2 (up2 F 0 (va_cpy (P 0) (F 0) 0 0 6)) 1 (va_cpy (P 1) (F 1) 0 0 6)) 2 (va_cpy (P 2) (F 2) 0 0 6)) 3 (va_cpy (P 3) (F 3) 0 0 6)) 4 (va_cpy (P 4) (F 4) 0 0 6)) 5 (k1 (P 5 0))) 6 (k1 (P 6 0))) 7 (k1 (P 7 0))) ++ wF 6 P) C xf_X1_50 xt_X1_7 dX1_takeFrom_96 rfl (Nat.le_of_ble_eq_true rfl) (fun _ => ⟨rfl, rfl⟩) rfl ?_
  refine r_aload_n (pc := 99) C dX1_takeFrom_99 rfl rfl ?_
  refine r_aload_n (pc := 100) C dX1_takeFrom_100 rfl rfl ?_
  refine r_getfield (pc := 101) (v := .int (P 8 0)) C xf_X1_31 dX1_takeFrom_101 rfl rfl ?_
  refine r_putfield (pc := 104) (θ' := wF 0 (up2 (up2 (up2 (up2 (up2 (up2 (up2 (up2 (up2 F 0 (va_cpy (P 0) (F 0) 0 0 6)) 1 (va_cpy (P 1) (F 1) 0 0 6)) 2 (va_cpy (P 2) (F 2) 0 0 6)) 3 (va_cpy (P 3) (F 3) 0 0 6)) 4 (va_cpy (P 4) (F 4) 0 0 6)) 5 (k1 (P 5 0))) 6 (k1 (P 6 0))) 7 (k1 (P 7 0))) 8 (k1 (P 8 0))) ++ wF 6 P) C xf_X1_31 xt_X1_8 dX1_takeFrom_104 rfl (Nat.le_of_ble_eq_true rfl) (fun _ => ⟨rfl, rfl⟩) rfl ?_
  refine r_aload_n (pc := 107) C dX1_takeFrom_107 rfl rfl ?_
  refine r_aload_n (pc := 108) C dX1_takeFrom_108 rfl rfl ?_
  refine r_getfield (pc := 109) (v := .int (P 9 0)) C xf_X1_35 dX1_takeFrom_109 rfl rfl ?_
  refine r_putfield (pc := 112) (θ' := wF 0 (up2 (up2 (up2 (up2 (up2 (up2 (up2 (up2 (up2 (up2 F 0 (va_cpy (P 0) (F 0) 0 0 6)) 1 (va_cpy (P 1) (F 1) 0 0 6)) 2 (va_cpy (P 2) (F 2) 0 0 6)) 3 (va_cpy (P 3) (F 3) 0 0 6)) 4 (va_cpy (P 4) (F 4) 0 0 6)) 5 (k1 (P 5 0))) 6 (k1 (P 6 0))) 7 (k1 (P 7 0))) 8 (k1 (P 8 0))) 9 (k1 (P 9 0))) ++ wF 6 P) C xf_X1_35 xt_X1_9 dX1_takeFrom_112 rfl (Nat.le_of_ble_eq_true rfl) (fun _ => ⟨rfl, rfl⟩) rfl ?_
  refine r_aload_n (pc := 115) C dX1_takeFrom_115 rfl rfl ?_
  refine r_aload_n (pc := 116) C dX1_takeFrom_116 rfl rfl ?_
  refine r_getfield (pc := 117) (v := .int (P 10 0)) C xf_X1_38 dX1_takeFrom_117 rfl rfl ?_
  refine r_putfield (pc := 120) (θ' := wF 0 (up2 (up2 (up2 (up2 (up2 (up2 (up2 (up2 (up2 (up2 (up2 F 0 (va_cpy (P 0) (F 0) 0 0 6)) 1 (va_cpy (P 1) (F 1) 0 0 6)) 2 (va_cpy (P 2) (F 2) 0 0 6)) 3 (va_cpy (P 3) (F 3) 0 0 6)) 4 (va_cpy (P 4) (F 4) 0 0 6)) 5 (k1 (P 5 0))) 6 (k1 (P 6 0))) 7 (k1 (P 7 0))) 8 (k1 (P 8 0))) 9 (k1 (P 9 0))) 10 (k1 (P 10 0))) ++ wF 6 P) C xf_X1_38 xt_X1_10 dX1_takeFrom_120 rfl (Nat.le_of_ble_eq_true rfl) (fun _ => ⟨rfl, rfl⟩) rfl ?_
  exact E _ _ _ _ _ dX1_takeFrom_123 (Nat.le_refl _) (Nat.le_refl _) ⟨rfl, rfl⟩
