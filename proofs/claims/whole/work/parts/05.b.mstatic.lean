def rmX6_in : Room := { frames := 0, cells := 0, slots := 0, locals := 0 }
def rmX6_isRow : Room := { frames := 1, cells := 0, slots := 0, locals := 25 }
def rmX6_sortOf : Room := { frames := 0, cells := 0, slots := 0, locals := 0 }
def rmX6_has : Room := { frames := 0, cells := 0, slots := 0, locals := 0 }
def rmX6_dip : Room := { frames := 0, cells := 0, slots := 0, locals := 0 }
def rmX6_swung : Room := { frames := 0, cells := 0, slots := 0, locals := 0 }
def rmX6_where : Room := { frames := 1, cells := 0, slots := 0, locals := 22 }
def rmX6_isDown : Room := { frames := 1, cells := 0, slots := 0, locals := 24 }
def rmX6_downOf : Room := { frames := 2, cells := 0, slots := 0, locals := 46 }
def rmX6_areNear : Room := { frames := 2, cells := 0, slots := 0, locals := 47 }
def rmX6_reachOf : Room := { frames := 3, cells := 0, slots := 0, locals := 71 }
def rmX6_spread : Room := { frames := 4, cells := 0, slots := 0, locals := 95 }
def rmX6_soonestOf : Room := { frames := 4, cells := 0, slots := 0, locals := 95 }
def rmX6_isTwo : Room := { frames := 1, cells := 0, slots := 0, locals := 25 }
def rmX6_isSpan : Room := { frames := 1, cells := 0, slots := 0, locals := 25 }
def rmX6_told : Room := { frames := 0, cells := 0, slots := 0, locals := 0 }
def rmX6_isOf : Room := { frames := 0, cells := 0, slots := 0, locals := 0 }
def rmX6_copies : Room := { frames := 0, cells := 0, slots := 0, locals := 0 }
set_option maxHeartbeats 4000000 in
set_option maxRecDepth 100000 in
theorem c_X6_in (v l m : Int64) : MetA yX6_in (.code yX6_in cX6_in 6 (some .boolean) :: TT) rmX6_in [.long v, .long l, .long m] ([]) (fun vr wr => vr = some (.int (bB (inS v l m))) ∧ wr = []) 0 0 := by
  refine MetA.of_i (by decide) (fun _ => Nat.le_of_ble_eq_true rfl) (Nat.le_of_ble_eq_true rfl) (fun g C E => ?_)
  replace C : Sem cX6_in RX6 "in" 6 rmX6_in g := C
  show g 0 0 ([]) 0 [some (.long v), none, some (.long l), none, some (.long m), none] []
  refine r_lload_n (pc := 0) C dX6_in_0 rfl rfl ?_
  refine r_lload_n (pc := 1) C dX6_in_1 rfl rfl ?_
  refine r_lcmp (pc := 2) C dX6_in_2 ?_
  refine r_if_lt (pc := 3) (tgt := 17) C dX6_in_3 (by decide) (fun h_3 => ?_) (fun h_3 => ?_)
  · skip
    refine r_iconst (pc := 17) (v := 0) C dX6_in_17 (by decide) ?_
    rw [lg_cmp_lt] at h_3
    exact E _ _ _ _ _ _ dX6_in_18 (Nat.le_refl _) (Nat.le_refl _) rfl ⟨congrArg (fun z => some (Value.int z)) (by simp [inS, bB, h_3]), rfl⟩
  · skip
    refine r_lload_n (pc := 6) C dX6_in_6 rfl rfl ?_
    refine r_lload (pc := 7) C dX6_in_7 rfl ?_
    refine r_lcmp (pc := 9) C dX6_in_9 ?_
    refine r_if_gt (pc := 10) (tgt := 17) C dX6_in_10 (by decide) (fun h_10 => ?_) (fun h_10 => ?_)
    · skip
      refine r_iconst (pc := 17) (v := 0) C dX6_in_17 (by decide) ?_
      rw [lg_cmp_lt] at h_3
      rw [lg_cmp_gt] at h_10
      exact E _ _ _ _ _ _ dX6_in_18 (Nat.le_refl _) (Nat.le_refl _) rfl ⟨congrArg (fun z => some (Value.int z)) (by simp [inS, bB, h_3, h_10]), rfl⟩
    · skip
      refine r_iconst (pc := 13) (v := 1) C dX6_in_13 (by decide) ?_
      refine r_goto (pc := 14) (tgt := 18) C dX6_in_14 (by decide) ?_
      rw [lg_cmp_lt] at h_3
      rw [lg_cmp_gt] at h_10
      exact E _ _ _ _ _ _ dX6_in_18 (Nat.le_refl _) (Nat.le_refl _) rfl ⟨congrArg (fun z => some (Value.int z)) (by simp [inS, bB, h_3, h_10]), rfl⟩
theorem c_X6_inI (v l m : Int32) {V L M : Int64} (hv : v.toInt64 = V) (hl : l.toInt64 = L) (hm : m.toInt64 = M) : MetA yX6_in (.code yX6_in cX6_in 6 (some .boolean) :: TT) rmX6_in [.long V, .long L, .long M] [] (fun vr wr => vr = some (.int (bB (inI v l m))) ∧ wr = []) 0 0 := by
  subst hv
  rw [← in_I v l m hl hm]
  exact c_X6_in _ _ _
set_option maxHeartbeats 4000000 in
set_option maxRecDepth 100000 in
theorem c_X6_isRow (v : Int32) : MetA yX6_isRow (.code yX6_isRow cX6_isRow 1 (some .boolean) :: TT) rmX6_isRow [.int v] ([]) (fun vr wr => vr = some (.int (bB (inI v 0 7))) ∧ wr = []) 0 0 := by
  refine MetA.of_i (by decide) (fun _ => Nat.le_of_ble_eq_true rfl) (Nat.le_of_ble_eq_true rfl) (fun g C E => ?_)
  replace C : Sem cX6_isRow RX6 "isRow" 1 rmX6_isRow g := C
  show g 0 0 ([]) 0 [some (.int v)] []
  refine r_iload_n (pc := 0) C dX6_isRow_0 rfl rfl ?_
  refine r_i2l (pc := 1) (v := v.toInt64) C dX6_isRow_1 rfl ?_
  refine r_lconst (pc := 2) (v := 0) C dX6_isRow_2 (by decide) ?_
  refine r_ldc2 (pc := 3) (v := 7) C dX6_isRow_3 tw_663 ?_
  refine r_callS0 (pc := 6) (As := [.long v.toInt64, .long 0, .long 7]) (st := []) C (c_X6_inI v 0 7 rfl (by decide) (by decide)) xm_X6_in xk_X6_57 dX6_isRow_6 (fun _ => rfl) (fun _ => rfl) rfl rfl (Nat.le_of_ble_eq_true rfl) ⟨Nat.le_of_ble_eq_true rfl, Nat.le_of_ble_eq_true rfl⟩ ⟨rfl, rfl⟩ ⟨Nat.le_of_ble_eq_true rfl, Nat.le_of_ble_eq_true rfl⟩ rfl ?_
  show g 0 0 ([]) 9 [some (.int v)] [.int (bB (inI v 0 7))]
  exact E _ _ _ _ _ _ dX6_isRow_9 (Nat.le_refl _) (Nat.le_refl _) (bB_nar _) ⟨congrArg (fun z => some (Value.int z)) (by simp []), rfl⟩
set_option maxHeartbeats 4000000 in
set_option maxRecDepth 100000 in
theorem c_X6_isTwo (v : Int32) : MetA yX6_isTwo (.code yX6_isTwo cX6_isTwo 1 (some .boolean) :: TT) rmX6_isTwo [.int v] ([]) (fun vr wr => vr = some (.int (bB (inI v 0 1))) ∧ wr = []) 0 0 := by
  refine MetA.of_i (by decide) (fun _ => Nat.le_of_ble_eq_true rfl) (Nat.le_of_ble_eq_true rfl) (fun g C E => ?_)
  replace C : Sem cX6_isTwo RX6 "isTwo" 1 rmX6_isTwo g := C
  show g 0 0 ([]) 0 [some (.int v)] []
  refine r_iload_n (pc := 0) C dX6_isTwo_0 rfl rfl ?_
  refine r_i2l (pc := 1) (v := v.toInt64) C dX6_isTwo_1 rfl ?_
  refine r_lconst (pc := 2) (v := 0) C dX6_isTwo_2 (by decide) ?_
  refine r_lconst (pc := 3) (v := 1) C dX6_isTwo_3 (by decide) ?_
  refine r_callS0 (pc := 4) (As := [.long v.toInt64, .long 0, .long 1]) (st := []) C (c_X6_inI v 0 1 rfl (by decide) (by decide)) xm_X6_in xk_X6_57 dX6_isTwo_4 (fun _ => rfl) (fun _ => rfl) rfl rfl (Nat.le_of_ble_eq_true rfl) ⟨Nat.le_of_ble_eq_true rfl, Nat.le_of_ble_eq_true rfl⟩ ⟨rfl, rfl⟩ ⟨Nat.le_of_ble_eq_true rfl, Nat.le_of_ble_eq_true rfl⟩ rfl ?_
  show g 0 0 ([]) 7 [some (.int v)] [.int (bB (inI v 0 1))]
  exact E _ _ _ _ _ _ dX6_isTwo_7 (Nat.le_refl _) (Nat.le_refl _) (bB_nar _) ⟨congrArg (fun z => some (Value.int z)) (by simp []), rfl⟩
set_option maxHeartbeats 4000000 in
set_option maxRecDepth 100000 in
theorem c_X6_isSpan (v : Int32) : MetA yX6_isSpan (.code yX6_isSpan cX6_isSpan 1 (some .boolean) :: TT) rmX6_isSpan [.int v] ([]) (fun vr wr => vr = some (.int (bB (inI v 0 60))) ∧ wr = []) 0 0 := by
  refine MetA.of_i (by decide) (fun _ => Nat.le_of_ble_eq_true rfl) (Nat.le_of_ble_eq_true rfl) (fun g C E => ?_)
  replace C : Sem cX6_isSpan RX6 "isSpan" 1 rmX6_isSpan g := C
  show g 0 0 ([]) 0 [some (.int v)] []
  refine r_iload_n (pc := 0) C dX6_isSpan_0 rfl rfl ?_
  refine r_i2l (pc := 1) (v := v.toInt64) C dX6_isSpan_1 rfl ?_
  refine r_lconst (pc := 2) (v := 0) C dX6_isSpan_2 (by decide) ?_
  refine r_ldc2 (pc := 3) (v := 60) C dX6_isSpan_3 tw_807 ?_
  refine r_callS0 (pc := 6) (As := [.long v.toInt64, .long 0, .long 60]) (st := []) C (c_X6_inI v 0 60 rfl (by decide) (by decide)) xm_X6_in xk_X6_57 dX6_isSpan_6 (fun _ => rfl) (fun _ => rfl) rfl rfl (Nat.le_of_ble_eq_true rfl) ⟨Nat.le_of_ble_eq_true rfl, Nat.le_of_ble_eq_true rfl⟩ ⟨rfl, rfl⟩ ⟨Nat.le_of_ble_eq_true rfl, Nat.le_of_ble_eq_true rfl⟩ rfl ?_
  show g 0 0 ([]) 9 [some (.int v)] [.int (bB (inI v 0 60))]
  exact E _ _ _ _ _ _ dX6_isSpan_9 (Nat.le_refl _) (Nat.le_refl _) (bB_nar _) ⟨congrArg (fun z => some (Value.int z)) (by simp []), rfl⟩
set_option maxHeartbeats 4000000 in
set_option maxRecDepth 100000 in
theorem c_X6_sortOf (v : Int32) : MetA yX6_sortOf (.code yX6_sortOf cX6_sortOf 1 (some .int) :: TT) rmX6_sortOf [.int v] ([]) (fun vr wr => vr = some (.int (sortM v)) ∧ wr = []) 0 0 := by
  refine MetA.of_i (by decide) (fun _ => Nat.le_of_ble_eq_true rfl) (Nat.le_of_ble_eq_true rfl) (fun g C E => ?_)
  replace C : Sem cX6_sortOf RX6 "sortOf" 1 rmX6_sortOf g := C
  show g 0 0 ([]) 0 [some (.int v)] []
  refine r_iload_n (pc := 0) C dX6_sortOf_0 rfl rfl ?_
  refine r_bipush (pc := 1) (v := 99) C dX6_sortOf_1 (by decide) ?_
  refine r_icmp_ne (pc := 3) (tgt := 10) C dX6_sortOf_3 (by decide) (fun h_3 => ?_) (fun h_3 => ?_)
  · skip
    refine r_iload_n (pc := 10) C dX6_sortOf_10 rfl rfl ?_
    refine r_bipush (pc := 11) (v := 115) C dX6_sortOf_11 (by decide) ?_
    refine r_icmp_ne (pc := 13) (tgt := 20) C dX6_sortOf_13 (by decide) (fun h_13 => ?_) (fun h_13 => ?_)
    · skip
      refine r_iload_n (pc := 20) C dX6_sortOf_20 rfl rfl ?_
      refine r_bipush (pc := 21) (v := 118) C dX6_sortOf_21 (by decide) ?_
      refine r_icmp_ne (pc := 23) (tgt := 30) C dX6_sortOf_23 (by decide) (fun h_23 => ?_) (fun h_23 => ?_)
      · skip
        refine r_iload_n (pc := 30) C dX6_sortOf_30 rfl rfl ?_
        refine r_bipush (pc := 31) (v := 114) C dX6_sortOf_31 (by decide) ?_
        refine r_icmp_ne (pc := 33) (tgt := 40) C dX6_sortOf_33 (by decide) (fun h_33 => ?_) (fun h_33 => ?_)
        · skip
          refine r_iload_n (pc := 40) C dX6_sortOf_40 rfl rfl ?_
          refine r_bipush (pc := 41) (v := 111) C dX6_sortOf_41 (by decide) ?_
          refine r_icmp_ne (pc := 43) (tgt := 50) C dX6_sortOf_43 (by decide) (fun h_43 => ?_) (fun h_43 => ?_)
          · skip
            refine r_iconst (pc := 50) (v := 0) C dX6_sortOf_50 (by decide) ?_
            exact E _ _ _ _ _ _ dX6_sortOf_51 (Nat.le_refl _) (Nat.le_refl _) rfl ⟨congrArg (fun z => some (Value.int z)) (by simp [sortM, h_3, h_13, h_23, h_33, h_43]), rfl⟩
          · skip
            refine r_iconst (pc := 46) (v := 5) C dX6_sortOf_46 (by decide) ?_
            refine r_goto (pc := 47) (tgt := 51) C dX6_sortOf_47 (by decide) ?_
            exact E _ _ _ _ _ _ dX6_sortOf_51 (Nat.le_refl _) (Nat.le_refl _) rfl ⟨congrArg (fun z => some (Value.int z)) (by simp [sortM, h_3, h_13, h_23, h_33, h_43]), rfl⟩
        · skip
          refine r_iconst (pc := 36) (v := 4) C dX6_sortOf_36 (by decide) ?_
          refine r_goto (pc := 37) (tgt := 51) C dX6_sortOf_37 (by decide) ?_
          exact E _ _ _ _ _ _ dX6_sortOf_51 (Nat.le_refl _) (Nat.le_refl _) rfl ⟨congrArg (fun z => some (Value.int z)) (by simp [sortM, h_3, h_13, h_23, h_33]), rfl⟩
      · skip
        refine r_iconst (pc := 26) (v := 3) C dX6_sortOf_26 (by decide) ?_
        refine r_goto (pc := 27) (tgt := 51) C dX6_sortOf_27 (by decide) ?_
        exact E _ _ _ _ _ _ dX6_sortOf_51 (Nat.le_refl _) (Nat.le_refl _) rfl ⟨congrArg (fun z => some (Value.int z)) (by simp [sortM, h_3, h_13, h_23]), rfl⟩
    · skip
      refine r_iconst (pc := 16) (v := 2) C dX6_sortOf_16 (by decide) ?_
      refine r_goto (pc := 17) (tgt := 51) C dX6_sortOf_17 (by decide) ?_
      exact E _ _ _ _ _ _ dX6_sortOf_51 (Nat.le_refl _) (Nat.le_refl _) rfl ⟨congrArg (fun z => some (Value.int z)) (by simp [sortM, h_3, h_13]), rfl⟩
  · skip
    refine r_iconst (pc := 6) (v := 1) C dX6_sortOf_6 (by decide) ?_
    refine r_goto (pc := 7) (tgt := 51) C dX6_sortOf_7 (by decide) ?_
    exact E _ _ _ _ _ _ dX6_sortOf_51 (Nat.le_refl _) (Nat.le_refl _) rfl ⟨congrArg (fun z => some (Value.int z)) (by simp [sortM, h_3]), rfl⟩
set_option maxHeartbeats 4000000 in
set_option maxRecDepth 100000 in
theorem c_X6_has (a b : Int32) : MetA yX6_has (.code yX6_has cX6_has 2 (some .boolean) :: TT) rmX6_has [.int a, .int b] ([]) (fun vr wr => vr = some (.int (bB (hasS a b))) ∧ wr = []) 0 0 := by
  refine MetA.of_i (by decide) (fun _ => Nat.le_of_ble_eq_true rfl) (Nat.le_of_ble_eq_true rfl) (fun g C E => ?_)
  replace C : Sem cX6_has RX6 "has" 2 rmX6_has g := C
  show g 0 0 ([]) 0 [some (.int a), some (.int b)] []
  refine r_iload_n (pc := 0) C dX6_has_0 rfl rfl ?_
  refine r_iload_n (pc := 1) C dX6_has_1 rfl rfl ?_
  refine r_ishr (pc := 2) C dX6_has_2 ?_
  refine r_iconst (pc := 3) (v := 1) C dX6_has_3 (by decide) ?_
  refine r_iand (pc := 4) C dX6_has_4 ?_
  refine r_iconst (pc := 5) (v := 1) C dX6_has_5 (by decide) ?_
  refine r_icmp_ne (pc := 6) (tgt := 13) C dX6_has_6 (by decide) (fun h_6 => ?_) (fun h_6 => ?_)
  · skip
    refine r_iconst (pc := 13) (v := 0) C dX6_has_13 (by decide) ?_
    exact E _ _ _ _ _ _ dX6_has_14 (Nat.le_refl _) (Nat.le_refl _) rfl ⟨congrArg (fun z => some (Value.int z)) (by simp [hasS, bB, h_6]), rfl⟩
  · skip
    refine r_iconst (pc := 9) (v := 1) C dX6_has_9 (by decide) ?_
    refine r_goto (pc := 10) (tgt := 14) C dX6_has_10 (by decide) ?_
    exact E _ _ _ _ _ _ dX6_has_14 (Nat.le_refl _) (Nat.le_refl _) rfl ⟨congrArg (fun z => some (Value.int z)) (by simp [hasS, bB, h_6]), rfl⟩
set_option maxHeartbeats 4000000 in
set_option maxRecDepth 100000 in
theorem c_X6_told (v : Int32) : MetA yX6_told (.code yX6_told cX6_told 1 (some .int) :: TT) rmX6_told [.int v] ([]) (fun vr wr => vr = some (.int (toldM v)) ∧ wr = []) 0 0 := by
  refine MetA.of_i (by decide) (fun _ => Nat.le_of_ble_eq_true rfl) (Nat.le_of_ble_eq_true rfl) (fun g C E => ?_)
  replace C : Sem cX6_told RX6 "told" 1 rmX6_told g := C
  show g 0 0 ([]) 0 [some (.int v)] []
  refine r_iload_n (pc := 0) C dX6_told_0 rfl rfl ?_
  refine r_ldc (pc := 1) (v := 1000000) C dX6_told_1 tw_834 ?_
  refine r_icmp_lt (pc := 3) (tgt := 11) C dX6_told_3 (by decide) (fun h_3 => ?_) (fun h_3 => ?_)
  · skip
    refine r_iload_n (pc := 11) C dX6_told_11 rfl rfl ?_
    exact E _ _ _ _ _ _ dX6_told_12 (Nat.le_refl _) (Nat.le_refl _) rfl ⟨congrArg (fun z => some (Value.int z)) (by simp [toldM, h_3]), rfl⟩
  · skip
    refine r_ldc (pc := 6) (v := (-1000000)) C dX6_told_6 tw_826 ?_
    refine r_goto (pc := 8) (tgt := 12) C dX6_told_8 (by decide) ?_
    exact E _ _ _ _ _ _ dX6_told_12 (Nat.le_refl _) (Nat.le_refl _) rfl ⟨congrArg (fun z => some (Value.int z)) (by simp [toldM, h_3]), rfl⟩
set_option maxHeartbeats 4000000 in
set_option maxRecDepth 100000 in
theorem c_X6_isOf (a b : Int32) : MetA yX6_isOf (.code yX6_isOf cX6_isOf 2 (some .boolean) :: TT) rmX6_isOf [.int a, .int b] ([]) (fun vr wr => vr = some (.int (bB (isOfM a b))) ∧ wr = []) 0 0 := by
  refine MetA.of_i (by decide) (fun _ => Nat.le_of_ble_eq_true rfl) (Nat.le_of_ble_eq_true rfl) (fun g C E => ?_)
  replace C : Sem cX6_isOf RX6 "isOf" 2 rmX6_isOf g := C
  show g 0 0 ([]) 0 [some (.int a), some (.int b)] []
  refine r_iload_n (pc := 0) C dX6_isOf_0 rfl rfl ?_
  refine r_if_eq (pc := 1) (tgt := 34) C dX6_isOf_1 (by decide) (fun h_1 => ?_) (fun h_1 => ?_)
  · skip
    refine r_iconst (pc := 34) (v := 1) C dX6_isOf_34 (by decide) ?_
    refine r_goto (pc := 35) (tgt := 39) C dX6_isOf_35 (by decide) ?_
    exact E _ _ _ _ _ _ dX6_isOf_39 (Nat.le_refl _) (Nat.le_refl _) rfl ⟨congrArg (fun z => some (Value.int z)) (by clear C E; simp_all [isOfM, bB]), rfl⟩
  · skip
    refine r_iload_n (pc := 4) C dX6_isOf_4 rfl rfl ?_
    refine r_iload_n (pc := 5) C dX6_isOf_5 rfl rfl ?_
    refine r_icmp_eq (pc := 6) (tgt := 34) C dX6_isOf_6 (by decide) (fun h_6 => ?_) (fun h_6 => ?_)
    · skip
      refine r_iconst (pc := 34) (v := 1) C dX6_isOf_34 (by decide) ?_
      refine r_goto (pc := 35) (tgt := 39) C dX6_isOf_35 (by decide) ?_
      exact E _ _ _ _ _ _ dX6_isOf_39 (Nat.le_refl _) (Nat.le_refl _) rfl ⟨congrArg (fun z => some (Value.int z)) (by clear C E; simp_all [isOfM, bB]), rfl⟩
    · skip
      refine r_iload_n (pc := 9) C dX6_isOf_9 rfl rfl ?_
      refine r_iconst (pc := 10) (v := 1) C dX6_isOf_10 (by decide) ?_
      refine r_icmp_ne (pc := 11) (tgt := 24) C dX6_isOf_11 (by decide) (fun h_11 => ?_) (fun h_11 => ?_)
      · skip
        refine r_iload_n (pc := 24) C dX6_isOf_24 rfl rfl ?_
        refine r_iconst (pc := 25) (v := 4) C dX6_isOf_25 (by decide) ?_
        refine r_icmp_ne (pc := 26) (tgt := 38) C dX6_isOf_26 (by decide) (fun h_26 => ?_) (fun h_26 => ?_)
        · skip
          refine r_iconst (pc := 38) (v := 0) C dX6_isOf_38 (by decide) ?_
          exact E _ _ _ _ _ _ dX6_isOf_39 (Nat.le_refl _) (Nat.le_refl _) rfl ⟨congrArg (fun z => some (Value.int z)) (by clear C E; simp_all [isOfM, bB]), rfl⟩
        · skip
          refine r_iload_n (pc := 29) C dX6_isOf_29 rfl rfl ?_
          refine r_iconst (pc := 30) (v := 5) C dX6_isOf_30 (by decide) ?_
          refine r_icmp_ne (pc := 31) (tgt := 38) C dX6_isOf_31 (by decide) (fun h_31 => ?_) (fun h_31 => ?_)
          · skip
            refine r_iconst (pc := 38) (v := 0) C dX6_isOf_38 (by decide) ?_
            exact E _ _ _ _ _ _ dX6_isOf_39 (Nat.le_refl _) (Nat.le_refl _) rfl ⟨congrArg (fun z => some (Value.int z)) (by clear C E; simp_all [isOfM, bB]), rfl⟩
          · skip
            refine r_iconst (pc := 34) (v := 1) C dX6_isOf_34 (by decide) ?_
            refine r_goto (pc := 35) (tgt := 39) C dX6_isOf_35 (by decide) ?_
            exact E _ _ _ _ _ _ dX6_isOf_39 (Nat.le_refl _) (Nat.le_refl _) rfl ⟨congrArg (fun z => some (Value.int z)) (by clear C E; simp_all [isOfM, bB]), rfl⟩
      · skip
        refine r_iload_n (pc := 14) C dX6_isOf_14 rfl rfl ?_
        refine r_iconst (pc := 15) (v := 2) C dX6_isOf_15 (by decide) ?_
        refine r_icmp_eq (pc := 16) (tgt := 34) C dX6_isOf_16 (by decide) (fun h_16 => ?_) (fun h_16 => ?_)
        · skip
          refine r_iconst (pc := 34) (v := 1) C dX6_isOf_34 (by decide) ?_
          refine r_goto (pc := 35) (tgt := 39) C dX6_isOf_35 (by decide) ?_
          exact E _ _ _ _ _ _ dX6_isOf_39 (Nat.le_refl _) (Nat.le_refl _) rfl ⟨congrArg (fun z => some (Value.int z)) (by clear C E; simp_all [isOfM, bB]), rfl⟩
        · skip
          refine r_iload_n (pc := 19) C dX6_isOf_19 rfl rfl ?_
          refine r_iconst (pc := 20) (v := 3) C dX6_isOf_20 (by decide) ?_
          refine r_icmp_eq (pc := 21) (tgt := 34) C dX6_isOf_21 (by decide) (fun h_21 => ?_) (fun h_21 => ?_)
          · skip
            refine r_iconst (pc := 34) (v := 1) C dX6_isOf_34 (by decide) ?_
            refine r_goto (pc := 35) (tgt := 39) C dX6_isOf_35 (by decide) ?_
            exact E _ _ _ _ _ _ dX6_isOf_39 (Nat.le_refl _) (Nat.le_refl _) rfl ⟨congrArg (fun z => some (Value.int z)) (by clear C E; simp_all [isOfM, bB]), rfl⟩
          · skip
            refine r_iload_n (pc := 24) C dX6_isOf_24 rfl rfl ?_
            refine r_iconst (pc := 25) (v := 4) C dX6_isOf_25 (by decide) ?_
            refine r_icmp_ne (pc := 26) (tgt := 38) C dX6_isOf_26 (by decide) (fun h_26 => ?_) (fun h_26 => ?_)
            · skip
              refine r_iconst (pc := 38) (v := 0) C dX6_isOf_38 (by decide) ?_
              exact E _ _ _ _ _ _ dX6_isOf_39 (Nat.le_refl _) (Nat.le_refl _) rfl ⟨congrArg (fun z => some (Value.int z)) (by clear C E; simp_all [isOfM, bB]), rfl⟩
            · skip
              refine r_iload_n (pc := 29) C dX6_isOf_29 rfl rfl ?_
              refine r_iconst (pc := 30) (v := 5) C dX6_isOf_30 (by decide) ?_
              refine r_icmp_ne (pc := 31) (tgt := 38) C dX6_isOf_31 (by decide) (fun h_31 => ?_) (fun h_31 => ?_)
              · skip
                refine r_iconst (pc := 38) (v := 0) C dX6_isOf_38 (by decide) ?_
                exact E _ _ _ _ _ _ dX6_isOf_39 (Nat.le_refl _) (Nat.le_refl _) rfl ⟨congrArg (fun z => some (Value.int z)) (by clear C E; simp_all [isOfM, bB]), rfl⟩
              · skip
                refine r_iconst (pc := 34) (v := 1) C dX6_isOf_34 (by decide) ?_
                refine r_goto (pc := 35) (tgt := 39) C dX6_isOf_35 (by decide) ?_
                exact E _ _ _ _ _ _ dX6_isOf_39 (Nat.le_refl _) (Nat.le_refl _) rfl ⟨congrArg (fun z => some (Value.int z)) (by clear C E; simp_all [isOfM, bB]), rfl⟩
set_option maxHeartbeats 4000000 in
set_option maxRecDepth 100000 in
theorem c_X6_swung (t sw : Int32) (hw : ∃ w, w ≤ 5 ∧ sw = nI w) : MetA yX6_swung (.code yX6_swung cX6_swung 3 (some .int) :: TT) rmX6_swung [.int t, .int sw] ([]) (fun vr wr => vr = some (.int (swS sw t)) ∧ wr = []) 0 0 := by
  refine MetA.of_i (by decide) (fun _ => Nat.le_of_ble_eq_true rfl) (Nat.le_of_ble_eq_true rfl) (fun g C E => ?_)
  replace C : Sem cX6_swung RX6 "swung" 3 rmX6_swung g := C
  show g 0 0 ([]) 0 [some (.int t), some (.int sw), none] []
  refine r_iload_n (pc := 0) C dX6_swung_0 rfl rfl ?_
  refine r_if_ne (pc := 1) (tgt := 6) C dX6_swung_1 (by decide) (fun h_1 => ?_) (fun h_1 => ?_)
  · skip
    refine r_iload_n (pc := 6) C dX6_swung_6 rfl rfl ?_
    refine r_iconst (pc := 7) (v := 4) C dX6_swung_7 (by decide) ?_
    refine r_iload_n (pc := 8) C dX6_swung_8 rfl rfl ?_
    refine r_imul (pc := 9) C dX6_swung_9 ?_
    refine r_irem (pc := 10) C dX6_swung_10 ((sw0 hw).2 h_1).2 ?_
    show g 0 0 ([]) 11 [some (.int t), some (.int sw), none] [.int (rmI t (4 * sw))]
    refine r_istore_n (pc := 11) (lv' := [some (.int t), some (.int sw), some (.int (rmI t (4 * sw)))]) C dX6_swung_11 rfl (Nat.le_of_ble_eq_true rfl) trivial rfl ?_
    refine r_iload_n (pc := 12) C dX6_swung_12 rfl rfl ?_
    refine r_iload_n (pc := 13) C dX6_swung_13 rfl rfl ?_
    refine r_icmp_gt (pc := 14) (tgt := 21) C dX6_swung_14 (by decide) (fun h_14 => ?_) (fun h_14 => ?_)
    · skip
      refine r_iload_n (pc := 21) C dX6_swung_21 rfl rfl ?_
      refine r_iconst (pc := 22) (v := 3) C dX6_swung_22 (by decide) ?_
      refine r_iload_n (pc := 23) C dX6_swung_23 rfl rfl ?_
      refine r_imul (pc := 24) C dX6_swung_24 ?_
      refine r_icmp_gt (pc := 25) (tgt := 36) C dX6_swung_25 (by decide) (fun h_25 => ?_) (fun h_25 => ?_)
      · skip
        refine r_iload_n (pc := 36) C dX6_swung_36 rfl rfl ?_
        refine r_iconst (pc := 37) (v := 4) C dX6_swung_37 (by decide) ?_
        refine r_iload_n (pc := 38) C dX6_swung_38 rfl rfl ?_
        refine r_imul (pc := 39) C dX6_swung_39 ?_
        refine r_isub (pc := 40) C dX6_swung_40 ?_
        exact E _ _ _ _ _ _ dX6_swung_41 (Nat.le_refl _) (Nat.le_refl _) rfl ⟨congrArg (fun z => some (Value.int z)) (by simp [swS, (sw0 hw).1, (sw0 hw).2, Int32.not_lt, Int32.not_le, h_1, h_14, h_25]), rfl⟩
      · skip
        refine r_iconst (pc := 28) (v := 2) C dX6_swung_28 (by decide) ?_
        refine r_iload_n (pc := 29) C dX6_swung_29 rfl rfl ?_
        refine r_imul (pc := 30) C dX6_swung_30 ?_
        refine r_iload_n (pc := 31) C dX6_swung_31 rfl rfl ?_
        refine r_isub (pc := 32) C dX6_swung_32 ?_
        refine r_goto (pc := 33) (tgt := 41) C dX6_swung_33 (by decide) ?_
        exact E _ _ _ _ _ _ dX6_swung_41 (Nat.le_refl _) (Nat.le_refl _) rfl ⟨congrArg (fun z => some (Value.int z)) (by simp [swS, (sw0 hw).1, (sw0 hw).2, Int32.not_lt, Int32.not_le, h_1, h_14, h_25]), rfl⟩
    · skip
      refine r_iload_n (pc := 17) C dX6_swung_17 rfl rfl ?_
      refine r_goto (pc := 18) (tgt := 41) C dX6_swung_18 (by decide) ?_
      exact E _ _ _ _ _ _ dX6_swung_41 (Nat.le_refl _) (Nat.le_refl _) rfl ⟨congrArg (fun z => some (Value.int z)) (by simp [swS, (sw0 hw).1, (sw0 hw).2, Int32.not_lt, Int32.not_le, h_1, h_14]), rfl⟩
  · skip
    refine r_iconst (pc := 4) (v := 0) C dX6_swung_4 (by decide) ?_
    exact E _ _ _ _ _ _ dX6_swung_5 (Nat.le_refl _) (Nat.le_refl _) rfl ⟨congrArg (fun z => some (Value.int z)) (by simp [swS, (sw0 hw).1, (sw0 hw).2, Int32.not_lt, Int32.not_le, h_1]), rfl⟩
set_option maxHeartbeats 4000000 in
set_option maxRecDepth 100000 in
theorem c_X6_dip (t : Nat → Int32) (i : Nat) (hi : i < 6) (m : Int32) (hk : okK (vw t) i) : MetA yX6_dip (.code yX6_dip cX6_dip 5 (some .int) :: TT) rmX6_dip [.ref 0, .int (nI i), .int m] ([.inl (0, 36, .inl t)]) (fun vr wr => vr = some (.int (dipS (vw t) i m)) ∧ wr = [.inl (0, 36, .inl t)]) 0 0 := by
  refine MetA.of_i (by decide) (fun _ => Nat.le_of_ble_eq_true rfl) (Nat.le_of_ble_eq_true rfl) (fun g C E => ?_)
  replace C : Sem cX6_dip RX6 "dip" 5 rmX6_dip g := C
  show g 0 0 ([.inl (0, 36, .inl t)]) 0 [some (.ref 0), some (.int (nI i)), some (.int m), none, none] []
  refine r_aload_n (pc := 0) C dX6_dip_0 rfl rfl ?_
  refine r_bipush (pc := 1) (v := 16) C dX6_dip_1 (by decide) ?_
  refine r_iload_n (pc := 3) C dX6_dip_3 rfl rfl ?_
  refine r_iadd (pc := 4) C dX6_dip_4 ?_
  refine r_iaload (pc := 5) (v := t (16 + i)) C (16 + i) dX6_dip_5 rfl (nI_sum rfl rfl) (by first | assumption | omega) rfl ?_
  refine r_aload_n (pc := 6) C dX6_dip_6 rfl rfl ?_
  refine r_bipush (pc := 7) (v := 10) C dX6_dip_7 (by decide) ?_
  refine r_iload_n (pc := 9) C dX6_dip_9 rfl rfl ?_
  refine r_iadd (pc := 10) C dX6_dip_10 ?_
  refine r_iaload (pc := 11) (v := t (10 + i)) C (10 + i) dX6_dip_11 rfl (nI_sum rfl rfl) (by first | assumption | omega) rfl ?_
  refine r_isub (pc := 12) C dX6_dip_12 ?_
  refine r_istore_n (pc := 13) (lv' := [some (.ref 0), some (.int (nI i)), some (.int m), some (.int ((t (16 + i)) - (t (10 + i)))), none]) C dX6_dip_13 rfl (Nat.le_of_ble_eq_true rfl) trivial rfl ?_
  refine r_aload_n (pc := 14) C dX6_dip_14 rfl rfl ?_
  refine r_bipush (pc := 15) (v := 22) C dX6_dip_15 (by decide) ?_
  refine r_iload_n (pc := 17) C dX6_dip_17 rfl rfl ?_
  refine r_iadd (pc := 18) C dX6_dip_18 ?_
  refine r_iaload (pc := 19) (v := t (22 + i)) C (22 + i) dX6_dip_19 rfl (nI_sum rfl rfl) (by first | assumption | omega) rfl ?_
  refine r_iload_n (pc := 20) C dX6_dip_20 rfl rfl ?_
  refine r_iconst (pc := 21) (v := 2) C dX6_dip_21 (by decide) ?_
  refine r_idiv (pc := 22) C dX6_dip_22 (by decide) ?_
  refine r_iadd (pc := 23) C dX6_dip_23 ?_
  refine r_istore (pc := 24) (lv' := [some (.ref 0), some (.int (nI i)), some (.int m), some (.int ((t (16 + i)) - (t (10 + i)))), some (.int ((t (22 + i)) + (((t (16 + i)) - (t (10 + i))) / 2)))]) C dX6_dip_24 (Nat.le_of_ble_eq_true rfl) trivial rfl ?_
  refine r_aload_n (pc := 26) C dX6_dip_26 rfl rfl ?_
  refine r_iconst (pc := 27) (v := 4) C dX6_dip_27 (by decide) ?_
  refine r_iload_n (pc := 28) C dX6_dip_28 rfl rfl ?_
  refine r_iadd (pc := 29) C dX6_dip_29 ?_
  refine r_iaload (pc := 30) (v := t (4 + i)) C (4 + i) dX6_dip_30 rfl (nI_sum rfl rfl) (by first | assumption | omega) rfl ?_
  by_cases q_31_1 : t (4 + i) = 1
  · refine r_tableIn (pc := 31) (off := 29) (tgt := 60) C dX6_dip_31 (by rw [q_31_1]; decide) (by rw [q_31_1]; decide) (by rw [q_31_1]; rfl) (by decide) ?_
    refine r_iload (pc := 60) C dX6_dip_60 rfl ?_
    exact E _ _ _ _ _ _ dX6_dip_62 (Nat.le_refl _) (Nat.le_refl _) rfl ⟨congrArg (fun z => some (Value.int z)) (by clear C E; rcases hk with q | q | q | q | q <;> simp only [vw] at q <;> simp_all [dipS, vw]), rfl⟩
  by_cases q_31_2 : t (4 + i) = 2
  · refine r_tableIn (pc := 31) (off := 32) (tgt := 63) C dX6_dip_31 (by rw [q_31_2]; decide) (by rw [q_31_2]; decide) (by rw [q_31_2]; rfl) (by decide) ?_
    refine r_iload (pc := 63) C dX6_dip_63 rfl ?_
    refine r_iconst (pc := 65) (v := 2) C dX6_dip_65 (by decide) ?_
    refine r_idiv (pc := 66) C dX6_dip_66 (by decide) ?_
    exact E _ _ _ _ _ _ dX6_dip_67 (Nat.le_refl _) (Nat.le_refl _) rfl ⟨congrArg (fun z => some (Value.int z)) (by clear C E; rcases hk with q | q | q | q | q <;> simp only [vw] at q <;> simp_all [dipS, vw]), rfl⟩
  by_cases q_31_3 : t (4 + i) = 3
  · refine r_tableIn (pc := 31) (off := 37) (tgt := 68) C dX6_dip_31 (by rw [q_31_3]; decide) (by rw [q_31_3]; decide) (by rw [q_31_3]; rfl) (by decide) ?_
    refine r_iload (pc := 68) C dX6_dip_68 rfl ?_
    refine r_iload_n (pc := 70) C dX6_dip_70 rfl rfl ?_
    refine r_bipush (pc := 71) (v := 10) C dX6_dip_71 (by decide) ?_
    refine r_idiv (pc := 73) C dX6_dip_73 (by decide) ?_
    refine r_iadd (pc := 74) C dX6_dip_74 ?_
    exact E _ _ _ _ _ _ dX6_dip_75 (Nat.le_refl _) (Nat.le_refl _) rfl ⟨congrArg (fun z => some (Value.int z)) (by clear C E; rcases hk with q | q | q | q | q <;> simp only [vw] at q <;> simp_all [dipS, vw]), rfl⟩
  by_cases q_31_4 : t (4 + i) = 4
  · refine r_tableIn (pc := 31) (off := 45) (tgt := 76) C dX6_dip_31 (by rw [q_31_4]; decide) (by rw [q_31_4]; decide) (by rw [q_31_4]; rfl) (by decide) ?_
    refine r_iload_n (pc := 76) C dX6_dip_76 rfl rfl ?_
    exact E _ _ _ _ _ _ dX6_dip_77 (Nat.le_refl _) (Nat.le_refl _) rfl ⟨congrArg (fun z => some (Value.int z)) (by clear C E; rcases hk with q | q | q | q | q <;> simp only [vw] at q <;> simp_all [dipS, vw]), rfl⟩
  refine r_tableOut (pc := 31) (tgt := 78) C dX6_dip_31 (by have t_1 := lv_neT (a := 1) q_31_1 rfl; have t_2 := lv_neT (a := 2) q_31_2 rfl; have t_3 := lv_neT (a := 3) q_31_3 rfl; have t_4 := lv_neT (a := 4) q_31_4 rfl; omega) (by decide) ?_
  refine r_iconst (pc := 78) (v := 0) C dX6_dip_78 (by decide) ?_
  exact E _ _ _ _ _ _ dX6_dip_79 (Nat.le_refl _) (Nat.le_refl _) rfl ⟨congrArg (fun z => some (Value.int z)) (by clear C E; rcases hk with q | q | q | q | q <;> simp only [vw] at q <;> simp_all [dipS, vw]), rfl⟩
set_option maxHeartbeats 4000000 in
set_option maxRecDepth 100000 in
theorem c_X6_where (t : Nat → Int32) (i : Nat) (hi : i < 6) (m : Int32) (hk : okK (vw t) i) (hW : okWM (vw t)) : MetA yX6_where (.code yX6_where cX6_where 6 (some .int) :: TT) rmX6_where [.ref 0, .int (nI i), .int m] ([.inl (0, 36, .inl t)]) (fun vr wr => vr = some (.int (plS (vw t) i m)) ∧ wr = [.inl (0, 36, .inl t)]) 0 0 := by
  refine MetA.of_i (by decide) (fun _ => Nat.le_of_ble_eq_true rfl) (Nat.le_of_ble_eq_true rfl) (fun g C E => ?_)
  replace C : Sem cX6_where RX6 "where" 6 rmX6_where g := C
  show g 0 0 ([.inl (0, 36, .inl t)]) 0 [some (.ref 0), some (.int (nI i)), some (.int m), none, none, none] []
  refine r_aload_n (pc := 0) C dX6_where_0 rfl rfl ?_
  refine r_iconst (pc := 1) (v := 4) C dX6_where_1 (by decide) ?_
  refine r_iload_n (pc := 2) C dX6_where_2 rfl rfl ?_
  refine r_iadd (pc := 3) C dX6_where_3 ?_
  refine r_iaload (pc := 4) (v := t (4 + i)) C (4 + i) dX6_where_4 rfl (nI_sum rfl rfl) (by first | assumption | omega) rfl ?_
  refine r_istore_n (pc := 5) (lv' := [some (.ref 0), some (.int (nI i)), some (.int m), some (.int (t (4 + i))), none, none]) C dX6_where_5 rfl (Nat.le_of_ble_eq_true rfl) trivial rfl ?_
  refine r_aload_n (pc := 6) C dX6_where_6 rfl rfl ?_
  refine r_bipush (pc := 7) (v := 28) C dX6_where_7 (by decide) ?_
  refine r_iload_n (pc := 9) C dX6_where_9 rfl rfl ?_
  refine r_iadd (pc := 10) C dX6_where_10 ?_
  refine r_iaload (pc := 11) (v := t (28 + i)) C (28 + i) dX6_where_11 rfl (nI_sum rfl rfl) (by first | assumption | omega) rfl ?_
  refine r_istore (pc := 12) (lv' := [some (.ref 0), some (.int (nI i)), some (.int m), some (.int (t (4 + i))), some (.int (t (28 + i))), none]) C dX6_where_12 (Nat.le_of_ble_eq_true rfl) trivial rfl ?_
  refine r_iload_n (pc := 14) C dX6_where_14 rfl rfl ?_
  refine r_iconst (pc := 15) (v := 1) C dX6_where_15 (by decide) ?_
  refine r_icmp_eq (pc := 16) (tgt := 24) C dX6_where_16 (by decide) (fun h_16 => ?_) (fun h_16 => ?_)
  · skip
    refine r_iload_n (pc := 24) C dX6_where_24 rfl rfl ?_
    refine r_iload (pc := 25) C dX6_where_25 rfl ?_
    refine r_callS0 (pc := 27) (As := [.int m, .int (t (28 + i))]) (st := []) C (c_X6_swung m (t (28 + i)) (hW i hi)) xm_X6_swung xk_X6_139 dX6_where_27 (fun _ => rfl) (fun _ => rfl) rfl rfl (Nat.le_of_ble_eq_true rfl) ⟨Nat.le_of_ble_eq_true rfl, Nat.le_of_ble_eq_true rfl⟩ ⟨rfl, rfl⟩ ⟨Nat.le_of_ble_eq_true rfl, Nat.le_of_ble_eq_true rfl⟩ rfl ?_
    show g 0 0 ([.inl (0, 36, .inl t)]) 30 [some (.ref 0), some (.int (nI i)), some (.int m), some (.int (t (4 + i))), some (.int (t (28 + i))), none] [.int (swS (t (28 + i)) m)]
    refine r_goto (pc := 30) (tgt := 60) C dX6_where_30 (by decide) ?_
    refine r_istore (pc := 60) (lv' := [some (.ref 0), some (.int (nI i)), some (.int m), some (.int (t (4 + i))), some (.int (t (28 + i))), some (.int (swS (t (28 + i)) m))]) C dX6_where_60 (Nat.le_of_ble_eq_true rfl) trivial rfl ?_
    refine r_aload_n (pc := 62) C dX6_where_62 rfl rfl ?_
    refine r_bipush (pc := 63) (v := 10) C dX6_where_63 (by decide) ?_
    refine r_iload_n (pc := 65) C dX6_where_65 rfl rfl ?_
    refine r_iadd (pc := 66) C dX6_where_66 ?_
    refine r_iaload (pc := 67) (v := t (10 + i)) C (10 + i) dX6_where_67 rfl (nI_sum rfl rfl) (by first | assumption | omega) rfl ?_
    refine r_aload_n (pc := 68) C dX6_where_68 rfl rfl ?_
    refine r_bipush (pc := 69) (v := 16) C dX6_where_69 (by decide) ?_
    refine r_iload_n (pc := 71) C dX6_where_71 rfl rfl ?_
    refine r_iadd (pc := 72) C dX6_where_72 ?_
    refine r_iaload (pc := 73) (v := t (16 + i)) C (16 + i) dX6_where_73 rfl (nI_sum rfl rfl) (by first | assumption | omega) rfl ?_
    refine r_iadd (pc := 74) C dX6_where_74 ?_
    refine r_iconst (pc := 75) (v := 2) C dX6_where_75 (by decide) ?_
    refine r_iload (pc := 76) C dX6_where_76 rfl ?_
    refine r_imul (pc := 78) C dX6_where_78 ?_
    refine r_iadd (pc := 79) C dX6_where_79 ?_
    exact E _ _ _ _ _ _ dX6_where_80 (Nat.le_refl _) (Nat.le_refl _) rfl ⟨congrArg (fun z => some (Value.int z)) (by clear C E; rcases hk with q | q | q | q | q <;> simp only [vw] at q <;> simp_all [plS, offS, vw]), rfl⟩
  · skip
    refine r_iload_n (pc := 19) C dX6_where_19 rfl rfl ?_
    refine r_iconst (pc := 20) (v := 2) C dX6_where_20 (by decide) ?_
    refine r_icmp_ne (pc := 21) (tgt := 33) C dX6_where_21 (by decide) (fun h_21 => ?_) (fun h_21 => ?_)
    · skip
      refine r_iload_n (pc := 33) C dX6_where_33 rfl rfl ?_
      refine r_iconst (pc := 34) (v := 3) C dX6_where_34 (by decide) ?_
      refine r_icmp_ne (pc := 35) (tgt := 49) C dX6_where_35 (by decide) (fun h_35 => ?_) (fun h_35 => ?_)
      · skip
        refine r_iload_n (pc := 49) C dX6_where_49 rfl rfl ?_
        refine r_iconst (pc := 50) (v := 4) C dX6_where_50 (by decide) ?_
        refine r_icmp_ne (pc := 51) (tgt := 58) C dX6_where_51 (by decide) (fun h_51 => ?_) (fun h_51 => ?_)
        · skip
          refine r_iload (pc := 58) C dX6_where_58 rfl ?_
          refine r_istore (pc := 60) (lv' := [some (.ref 0), some (.int (nI i)), some (.int m), some (.int (t (4 + i))), some (.int (t (28 + i))), some (.int (t (28 + i)))]) C dX6_where_60 (Nat.le_of_ble_eq_true rfl) trivial rfl ?_
          refine r_aload_n (pc := 62) C dX6_where_62 rfl rfl ?_
          refine r_bipush (pc := 63) (v := 10) C dX6_where_63 (by decide) ?_
          refine r_iload_n (pc := 65) C dX6_where_65 rfl rfl ?_
          refine r_iadd (pc := 66) C dX6_where_66 ?_
          refine r_iaload (pc := 67) (v := t (10 + i)) C (10 + i) dX6_where_67 rfl (nI_sum rfl rfl) (by first | assumption | omega) rfl ?_
          refine r_aload_n (pc := 68) C dX6_where_68 rfl rfl ?_
          refine r_bipush (pc := 69) (v := 16) C dX6_where_69 (by decide) ?_
          refine r_iload_n (pc := 71) C dX6_where_71 rfl rfl ?_
          refine r_iadd (pc := 72) C dX6_where_72 ?_
          refine r_iaload (pc := 73) (v := t (16 + i)) C (16 + i) dX6_where_73 rfl (nI_sum rfl rfl) (by first | assumption | omega) rfl ?_
          refine r_iadd (pc := 74) C dX6_where_74 ?_
          refine r_iconst (pc := 75) (v := 2) C dX6_where_75 (by decide) ?_
          refine r_iload (pc := 76) C dX6_where_76 rfl ?_
          refine r_imul (pc := 78) C dX6_where_78 ?_
          refine r_iadd (pc := 79) C dX6_where_79 ?_
          exact E _ _ _ _ _ _ dX6_where_80 (Nat.le_refl _) (Nat.le_refl _) rfl ⟨congrArg (fun z => some (Value.int z)) (by clear C E; rcases hk with q | q | q | q | q <;> simp only [vw] at q <;> simp_all [plS, offS, vw]), rfl⟩
        · skip
          refine r_iconst (pc := 54) (v := 0) C dX6_where_54 (by decide) ?_
          refine r_goto (pc := 55) (tgt := 60) C dX6_where_55 (by decide) ?_
          refine r_istore (pc := 60) (lv' := [some (.ref 0), some (.int (nI i)), some (.int m), some (.int (t (4 + i))), some (.int (t (28 + i))), some (.int 0)]) C dX6_where_60 (Nat.le_of_ble_eq_true rfl) trivial rfl ?_
          refine r_aload_n (pc := 62) C dX6_where_62 rfl rfl ?_
          refine r_bipush (pc := 63) (v := 10) C dX6_where_63 (by decide) ?_
          refine r_iload_n (pc := 65) C dX6_where_65 rfl rfl ?_
          refine r_iadd (pc := 66) C dX6_where_66 ?_
          refine r_iaload (pc := 67) (v := t (10 + i)) C (10 + i) dX6_where_67 rfl (nI_sum rfl rfl) (by first | assumption | omega) rfl ?_
          refine r_aload_n (pc := 68) C dX6_where_68 rfl rfl ?_
          refine r_bipush (pc := 69) (v := 16) C dX6_where_69 (by decide) ?_
          refine r_iload_n (pc := 71) C dX6_where_71 rfl rfl ?_
          refine r_iadd (pc := 72) C dX6_where_72 ?_
          refine r_iaload (pc := 73) (v := t (16 + i)) C (16 + i) dX6_where_73 rfl (nI_sum rfl rfl) (by first | assumption | omega) rfl ?_
          refine r_iadd (pc := 74) C dX6_where_74 ?_
          refine r_iconst (pc := 75) (v := 2) C dX6_where_75 (by decide) ?_
          refine r_iload (pc := 76) C dX6_where_76 rfl ?_
          refine r_imul (pc := 78) C dX6_where_78 ?_
          refine r_iadd (pc := 79) C dX6_where_79 ?_
          exact E _ _ _ _ _ _ dX6_where_80 (Nat.le_refl _) (Nat.le_refl _) rfl ⟨congrArg (fun z => some (Value.int z)) (by clear C E; rcases hk with q | q | q | q | q <;> simp only [vw] at q <;> simp_all [plS, offS, vw]), rfl⟩
      · skip
        refine r_iload_n (pc := 38) C dX6_where_38 rfl rfl ?_
        refine r_iconst (pc := 39) (v := 2) C dX6_where_39 (by decide) ?_
        refine r_idiv (pc := 40) C dX6_where_40 (by decide) ?_
        refine r_iload (pc := 41) C dX6_where_41 rfl ?_
        refine r_callS0 (pc := 43) (As := [.int (m / 2), .int (t (28 + i))]) (st := []) C (c_X6_swung (m / 2) (t (28 + i)) (hW i hi)) xm_X6_swung xk_X6_139 dX6_where_43 (fun _ => rfl) (fun _ => rfl) rfl rfl (Nat.le_of_ble_eq_true rfl) ⟨Nat.le_of_ble_eq_true rfl, Nat.le_of_ble_eq_true rfl⟩ ⟨rfl, rfl⟩ ⟨Nat.le_of_ble_eq_true rfl, Nat.le_of_ble_eq_true rfl⟩ rfl ?_
        show g 0 0 ([.inl (0, 36, .inl t)]) 46 [some (.ref 0), some (.int (nI i)), some (.int m), some (.int (t (4 + i))), some (.int (t (28 + i))), none] [.int (swS (t (28 + i)) (m / 2))]
        refine r_goto (pc := 46) (tgt := 60) C dX6_where_46 (by decide) ?_
        refine r_istore (pc := 60) (lv' := [some (.ref 0), some (.int (nI i)), some (.int m), some (.int (t (4 + i))), some (.int (t (28 + i))), some (.int (swS (t (28 + i)) (m / 2)))]) C dX6_where_60 (Nat.le_of_ble_eq_true rfl) trivial rfl ?_
        refine r_aload_n (pc := 62) C dX6_where_62 rfl rfl ?_
        refine r_bipush (pc := 63) (v := 10) C dX6_where_63 (by decide) ?_
        refine r_iload_n (pc := 65) C dX6_where_65 rfl rfl ?_
        refine r_iadd (pc := 66) C dX6_where_66 ?_
        refine r_iaload (pc := 67) (v := t (10 + i)) C (10 + i) dX6_where_67 rfl (nI_sum rfl rfl) (by first | assumption | omega) rfl ?_
        refine r_aload_n (pc := 68) C dX6_where_68 rfl rfl ?_
        refine r_bipush (pc := 69) (v := 16) C dX6_where_69 (by decide) ?_
        refine r_iload_n (pc := 71) C dX6_where_71 rfl rfl ?_
        refine r_iadd (pc := 72) C dX6_where_72 ?_
        refine r_iaload (pc := 73) (v := t (16 + i)) C (16 + i) dX6_where_73 rfl (nI_sum rfl rfl) (by first | assumption | omega) rfl ?_
        refine r_iadd (pc := 74) C dX6_where_74 ?_
        refine r_iconst (pc := 75) (v := 2) C dX6_where_75 (by decide) ?_
        refine r_iload (pc := 76) C dX6_where_76 rfl ?_
        refine r_imul (pc := 78) C dX6_where_78 ?_
        refine r_iadd (pc := 79) C dX6_where_79 ?_
        exact E _ _ _ _ _ _ dX6_where_80 (Nat.le_refl _) (Nat.le_refl _) rfl ⟨congrArg (fun z => some (Value.int z)) (by clear C E; rcases hk with q | q | q | q | q <;> simp only [vw] at q <;> simp_all [plS, offS, vw]), rfl⟩
    · skip
      refine r_iload_n (pc := 24) C dX6_where_24 rfl rfl ?_
      refine r_iload (pc := 25) C dX6_where_25 rfl ?_
      refine r_callS0 (pc := 27) (As := [.int m, .int (t (28 + i))]) (st := []) C (c_X6_swung m (t (28 + i)) (hW i hi)) xm_X6_swung xk_X6_139 dX6_where_27 (fun _ => rfl) (fun _ => rfl) rfl rfl (Nat.le_of_ble_eq_true rfl) ⟨Nat.le_of_ble_eq_true rfl, Nat.le_of_ble_eq_true rfl⟩ ⟨rfl, rfl⟩ ⟨Nat.le_of_ble_eq_true rfl, Nat.le_of_ble_eq_true rfl⟩ rfl ?_
      show g 0 0 ([.inl (0, 36, .inl t)]) 30 [some (.ref 0), some (.int (nI i)), some (.int m), some (.int (t (4 + i))), some (.int (t (28 + i))), none] [.int (swS (t (28 + i)) m)]
      refine r_goto (pc := 30) (tgt := 60) C dX6_where_30 (by decide) ?_
      refine r_istore (pc := 60) (lv' := [some (.ref 0), some (.int (nI i)), some (.int m), some (.int (t (4 + i))), some (.int (t (28 + i))), some (.int (swS (t (28 + i)) m))]) C dX6_where_60 (Nat.le_of_ble_eq_true rfl) trivial rfl ?_
      refine r_aload_n (pc := 62) C dX6_where_62 rfl rfl ?_
      refine r_bipush (pc := 63) (v := 10) C dX6_where_63 (by decide) ?_
      refine r_iload_n (pc := 65) C dX6_where_65 rfl rfl ?_
      refine r_iadd (pc := 66) C dX6_where_66 ?_
      refine r_iaload (pc := 67) (v := t (10 + i)) C (10 + i) dX6_where_67 rfl (nI_sum rfl rfl) (by first | assumption | omega) rfl ?_
      refine r_aload_n (pc := 68) C dX6_where_68 rfl rfl ?_
      refine r_bipush (pc := 69) (v := 16) C dX6_where_69 (by decide) ?_
      refine r_iload_n (pc := 71) C dX6_where_71 rfl rfl ?_
      refine r_iadd (pc := 72) C dX6_where_72 ?_
      refine r_iaload (pc := 73) (v := t (16 + i)) C (16 + i) dX6_where_73 rfl (nI_sum rfl rfl) (by first | assumption | omega) rfl ?_
      refine r_iadd (pc := 74) C dX6_where_74 ?_
      refine r_iconst (pc := 75) (v := 2) C dX6_where_75 (by decide) ?_
      refine r_iload (pc := 76) C dX6_where_76 rfl ?_
      refine r_imul (pc := 78) C dX6_where_78 ?_
      refine r_iadd (pc := 79) C dX6_where_79 ?_
      exact E _ _ _ _ _ _ dX6_where_80 (Nat.le_refl _) (Nat.le_refl _) rfl ⟨congrArg (fun z => some (Value.int z)) (by clear C E; rcases hk with q | q | q | q | q <;> simp only [vw] at q <;> simp_all [plS, offS, vw]), rfl⟩
set_option maxHeartbeats 4000000 in
set_option maxRecDepth 100000 in
theorem c_X6_isDown (t : Nat → Int32) (i : Nat) (hi : i < 6) (m : Int32) (hk : okK (vw t) i) : MetA yX6_isDown (.code yX6_isDown cX6_isDown 3 (some .boolean) :: TT) rmX6_isDown [.ref 0, .int (nI i), .int m] ([.inl (0, 36, .inl t)]) (fun vr wr => vr = some (.int (bB (downS (vw t) i m))) ∧ wr = [.inl (0, 36, .inl t)]) 0 0 := by
  refine MetA.of_i (by decide) (fun _ => Nat.le_of_ble_eq_true rfl) (Nat.le_of_ble_eq_true rfl) (fun g C E => ?_)
  replace C : Sem cX6_isDown RX6 "isDown" 3 rmX6_isDown g := C
  show g 0 0 ([.inl (0, 36, .inl t)]) 0 [some (.ref 0), some (.int (nI i)), some (.int m)] []
  refine r_aload_n (pc := 0) C dX6_isDown_0 rfl rfl ?_
  refine r_bipush (pc := 1) (v := 34) C dX6_isDown_1 (by decide) ?_
  refine r_iaload (pc := 3) (v := t 34) C 34 dX6_isDown_3 rfl (by decide) (by decide) rfl ?_
  refine r_iload_n (pc := 4) C dX6_isDown_4 rfl rfl ?_
  refine r_callS0 (pc := 5) (As := [.int (t 34), .int (nI i)]) (st := []) C (c_X6_has (t 34) (nI i)) xm_X6_has xk_X6_143 dX6_isDown_5 (fun _ => rfl) (fun _ => rfl) rfl rfl (Nat.le_of_ble_eq_true rfl) ⟨Nat.le_of_ble_eq_true rfl, Nat.le_of_ble_eq_true rfl⟩ ⟨rfl, rfl⟩ ⟨Nat.le_of_ble_eq_true rfl, Nat.le_of_ble_eq_true rfl⟩ rfl ?_
  show g 0 0 ([.inl (0, 36, .inl t)]) 8 [some (.ref 0), some (.int (nI i)), some (.int m)] [.int (bB (hasS (t 34) (nI i)))]
  refine r_if_ne (pc := 8) (tgt := 23) C dX6_isDown_8 (by decide) (fun h_8 => ?_) (fun h_8 => ?_)
  · replace h_8 := bB_t h_8
    refine r_iconst (pc := 23) (v := 1) C dX6_isDown_23 (by decide) ?_
    refine r_goto (pc := 24) (tgt := 28) C dX6_isDown_24 (by decide) ?_
    exact E _ _ _ _ _ _ dX6_isDown_28 (Nat.le_refl _) (Nat.le_refl _) rfl ⟨congrArg (fun z => some (Value.int z)) (by simp [downS, cut_has, vw, bB, h_8]), rfl⟩
  · replace h_8 := bB_f h_8
    refine r_aload_n (pc := 11) C dX6_isDown_11 rfl rfl ?_
    refine r_iload_n (pc := 12) C dX6_isDown_12 rfl rfl ?_
    refine r_iload_n (pc := 13) C dX6_isDown_13 rfl rfl ?_
    refine r_callSD (pc := 14) (As := [.ref 0, .int (nI i), .int m]) (st := []) (θ2 := [.inl (0, 36, .inl t)]) (r2 := some (.int (dipS (vw t) i m))) C [0] (c_X6_dip t i (by omega) m hk) xm_X6_dip xk_X6_147 dX6_isDown_14 rfl (by decide) rfl rfl rfl (Nat.le_of_ble_eq_true rfl) ⟨Nat.le_of_ble_eq_true rfl, Nat.le_of_ble_eq_true rfl⟩ ⟨rfl, rfl⟩ ⟨Nat.le_of_ble_eq_true rfl, Nat.le_of_ble_eq_true rfl⟩ rfl (Eq.trans (b := 1) rfl rfl) rfl rfl ?_
    show g 0 0 ([.inl (0, 36, .inl t)]) 17 [some (.ref 0), some (.int (nI i)), some (.int m)] [.int (dipS (vw t) i m)]
    refine r_aload_n (pc := 17) C dX6_isDown_17 rfl rfl ?_
    refine r_iconst (pc := 18) (v := 1) C dX6_isDown_18 (by decide) ?_
    refine r_iaload (pc := 19) (v := t 1) C 1 dX6_isDown_19 rfl (by decide) (by decide) rfl ?_
    refine r_icmp_le (pc := 20) (tgt := 27) C dX6_isDown_20 (by decide) (fun h_20 => ?_) (fun h_20 => ?_)
    · skip
      refine r_iconst (pc := 27) (v := 0) C dX6_isDown_27 (by decide) ?_
      exact E _ _ _ _ _ _ dX6_isDown_28 (Nat.le_refl _) (Nat.le_refl _) rfl ⟨congrArg (fun z => some (Value.int z)) (by simp [downS, cut_has, vw, bB, h_8, h_20]), rfl⟩
    · skip
      refine r_iconst (pc := 23) (v := 1) C dX6_isDown_23 (by decide) ?_
      refine r_goto (pc := 24) (tgt := 28) C dX6_isDown_24 (by decide) ?_
      exact E _ _ _ _ _ _ dX6_isDown_28 (Nat.le_refl _) (Nat.le_refl _) rfl ⟨congrArg (fun z => some (Value.int z)) (by simp [downS, cut_has, vw, bB, h_8, h_20]), rfl⟩
set_option maxHeartbeats 4000000 in
set_option maxRecDepth 100000 in
theorem c_X6_areNear (t : Nat → Int32) (i : Nat) (hi : i < 6) (e : Nat) (he : e < 6) (m : Int32) (hk : okK (vw t) i) (hk2 : okK (vw t) e) (hW : okWM (vw t)) : MetA yX6_areNear (.code yX6_areNear cX6_areNear 5 (some .boolean) :: TT) rmX6_areNear [.ref 0, .int (nI i), .int (nI e), .int m] ([.inl (0, 36, .inl t)]) (fun vr wr => vr = some (.int (bB (nrM (vw t) i e m))) ∧ wr = [.inl (0, 36, .inl t)]) 0 0 := by
  refine MetA.of_i (by decide) (fun _ => Nat.le_of_ble_eq_true rfl) (Nat.le_of_ble_eq_true rfl) (fun g C E => ?_)
  replace C : Sem cX6_areNear RX6 "areNear" 5 rmX6_areNear g := C
  show g 0 0 ([.inl (0, 36, .inl t)]) 0 [some (.ref 0), some (.int (nI i)), some (.int (nI e)), some (.int m), none] []
  refine r_aload_n (pc := 0) C dX6_areNear_0 rfl rfl ?_
  refine r_iload_n (pc := 1) C dX6_areNear_1 rfl rfl ?_
  refine r_iload_n (pc := 2) C dX6_areNear_2 rfl rfl ?_
  refine r_callSD (pc := 3) (As := [.ref 0, .int (nI i), .int m]) (st := []) (θ2 := [.inl (0, 36, .inl t)]) (r2 := some (.int (plS (vw t) i m))) C [0] (c_X6_where t i (by omega) m hk hW) xm_X6_where xk_X6_155 dX6_areNear_3 rfl (by decide) rfl rfl rfl (Nat.le_of_ble_eq_true rfl) ⟨Nat.le_of_ble_eq_true rfl, Nat.le_of_ble_eq_true rfl⟩ ⟨rfl, rfl⟩ ⟨Nat.le_of_ble_eq_true rfl, Nat.le_of_ble_eq_true rfl⟩ rfl (Eq.trans (b := 1) rfl rfl) rfl rfl ?_
  show g 0 0 ([.inl (0, 36, .inl t)]) 6 [some (.ref 0), some (.int (nI i)), some (.int (nI e)), some (.int m), none] [.int (plS (vw t) i m)]
  refine r_aload_n (pc := 6) C dX6_areNear_6 rfl rfl ?_
  refine r_iload_n (pc := 7) C dX6_areNear_7 rfl rfl ?_
  refine r_iload_n (pc := 8) C dX6_areNear_8 rfl rfl ?_
  refine r_callSD (pc := 9) (As := [.ref 0, .int (nI e), .int m]) (st := [.int (plS (vw t) i m)]) (θ2 := [.inl (0, 36, .inl t)]) (r2 := some (.int (plS (vw t) e m))) C [0] (c_X6_where t e (by omega) m hk2 hW) xm_X6_where xk_X6_155 dX6_areNear_9 rfl (by decide) rfl rfl rfl (Nat.le_of_ble_eq_true rfl) ⟨Nat.le_of_ble_eq_true rfl, Nat.le_of_ble_eq_true rfl⟩ ⟨rfl, rfl⟩ ⟨Nat.le_of_ble_eq_true rfl, Nat.le_of_ble_eq_true rfl⟩ rfl (Eq.trans (b := 1) rfl rfl) rfl rfl ?_
  show g 0 0 ([.inl (0, 36, .inl t)]) 12 [some (.ref 0), some (.int (nI i)), some (.int (nI e)), some (.int m), none] [.int (plS (vw t) e m), .int (plS (vw t) i m)]
  refine r_isub (pc := 12) C dX6_areNear_12 ?_
  refine r_istore (pc := 13) (lv' := [some (.ref 0), some (.int (nI i)), some (.int (nI e)), some (.int m), some (.int ((plS (vw t) i m) - (plS (vw t) e m)))]) C dX6_areNear_13 (Nat.le_of_ble_eq_true rfl) trivial rfl ?_
  refine r_iload_n (pc := 15) C dX6_areNear_15 rfl rfl ?_
  refine r_iload_n (pc := 16) C dX6_areNear_16 rfl rfl ?_
  refine r_icmp_eq (pc := 17) (tgt := 63) C dX6_areNear_17 (by decide) (fun h_17 => ?_) (fun h_17 => ?_)
  · skip
    replace h_17 := (nI_eq (by omega) (by omega)).mp h_17
    refine r_iconst (pc := 63) (v := 0) C dX6_areNear_63 (by decide) ?_
    exact E _ _ _ _ _ _ dX6_areNear_64 (Nat.le_refl _) (Nat.le_refl _) rfl ⟨congrArg (fun z => some (Value.int z)) (by simp [nrM, bB, vw, -Int32.neg_sub, h_17]), rfl⟩
  · skip
    replace h_17 : ¬ i = e := fun q => h_17 (congrArg nI q)
    refine r_aload_n (pc := 20) C dX6_areNear_20 rfl rfl ?_
    refine r_iload_n (pc := 21) C dX6_areNear_21 rfl rfl ?_
    refine r_iload_n (pc := 22) C dX6_areNear_22 rfl rfl ?_
    refine r_callSD (pc := 23) (As := [.ref 0, .int (nI i), .int m]) (st := []) (θ2 := [.inl (0, 36, .inl t)]) (r2 := some (.int (bB (downS (vw t) i m)))) C [0] (c_X6_isDown t i (by omega) m hk) xm_X6_isDown xk_X6_151 dX6_areNear_23 rfl (by decide) rfl rfl rfl (Nat.le_of_ble_eq_true rfl) ⟨Nat.le_of_ble_eq_true rfl, Nat.le_of_ble_eq_true rfl⟩ ⟨rfl, rfl⟩ ⟨Nat.le_of_ble_eq_true rfl, Nat.le_of_ble_eq_true rfl⟩ rfl (Eq.trans (b := 1) rfl rfl) rfl rfl ?_
    show g 0 0 ([.inl (0, 36, .inl t)]) 26 [some (.ref 0), some (.int (nI i)), some (.int (nI e)), some (.int m), some (.int ((plS (vw t) i m) - (plS (vw t) e m)))] [.int (bB (downS (vw t) i m))]
    refine r_if_ne (pc := 26) (tgt := 63) C dX6_areNear_26 (by decide) (fun h_26 => ?_) (fun h_26 => ?_)
    · replace h_26 := bB_t h_26
      refine r_iconst (pc := 63) (v := 0) C dX6_areNear_63 (by decide) ?_
      exact E _ _ _ _ _ _ dX6_areNear_64 (Nat.le_refl _) (Nat.le_refl _) rfl ⟨congrArg (fun z => some (Value.int z)) (by simp [nrM, bB, vw, -Int32.neg_sub, h_17, h_26]), rfl⟩
    · replace h_26 := bB_f h_26
      refine r_aload_n (pc := 29) C dX6_areNear_29 rfl rfl ?_
      refine r_iload_n (pc := 30) C dX6_areNear_30 rfl rfl ?_
      refine r_iload_n (pc := 31) C dX6_areNear_31 rfl rfl ?_
      refine r_callSD (pc := 32) (As := [.ref 0, .int (nI e), .int m]) (st := []) (θ2 := [.inl (0, 36, .inl t)]) (r2 := some (.int (bB (downS (vw t) e m)))) C [0] (c_X6_isDown t e (by omega) m hk2) xm_X6_isDown xk_X6_151 dX6_areNear_32 rfl (by decide) rfl rfl rfl (Nat.le_of_ble_eq_true rfl) ⟨Nat.le_of_ble_eq_true rfl, Nat.le_of_ble_eq_true rfl⟩ ⟨rfl, rfl⟩ ⟨Nat.le_of_ble_eq_true rfl, Nat.le_of_ble_eq_true rfl⟩ rfl (Eq.trans (b := 1) rfl rfl) rfl rfl ?_
      show g 0 0 ([.inl (0, 36, .inl t)]) 35 [some (.ref 0), some (.int (nI i)), some (.int (nI e)), some (.int m), some (.int ((plS (vw t) i m) - (plS (vw t) e m)))] [.int (bB (downS (vw t) e m))]
      refine r_if_ne (pc := 35) (tgt := 63) C dX6_areNear_35 (by decide) (fun h_35 => ?_) (fun h_35 => ?_)
      · replace h_35 := bB_t h_35
        refine r_iconst (pc := 63) (v := 0) C dX6_areNear_63 (by decide) ?_
        exact E _ _ _ _ _ _ dX6_areNear_64 (Nat.le_refl _) (Nat.le_refl _) rfl ⟨congrArg (fun z => some (Value.int z)) (by simp [nrM, bB, vw, -Int32.neg_sub, h_17, h_26, h_35]), rfl⟩
      · replace h_35 := bB_f h_35
        refine r_iload (pc := 38) C dX6_areNear_38 rfl ?_
        refine r_iconst (pc := 40) (v := 2) C dX6_areNear_40 (by decide) ?_
        refine r_aload_n (pc := 41) C dX6_areNear_41 rfl rfl ?_
        refine r_iconst (pc := 42) (v := 2) C dX6_areNear_42 (by decide) ?_
        refine r_iaload (pc := 43) (v := t 2) C 2 dX6_areNear_43 rfl (by decide) (by decide) rfl ?_
        refine r_imul (pc := 44) C dX6_areNear_44 ?_
        refine r_icmp_gt (pc := 45) (tgt := 63) C dX6_areNear_45 (by decide) (fun h_45 => ?_) (fun h_45 => ?_)
        · skip
          refine r_iconst (pc := 63) (v := 0) C dX6_areNear_63 (by decide) ?_
          exact E _ _ _ _ _ _ dX6_areNear_64 (Nat.le_refl _) (Nat.le_refl _) rfl ⟨congrArg (fun z => some (Value.int z)) (by simp [nrM, bB, vw, -Int32.neg_sub, h_17, h_26, h_35, h_45]), rfl⟩
        · skip
          refine r_iload (pc := 48) C dX6_areNear_48 rfl ?_
          refine r_ineg (pc := 50) C dX6_areNear_50 ?_
          refine r_iconst (pc := 51) (v := 2) C dX6_areNear_51 (by decide) ?_
          refine r_aload_n (pc := 52) C dX6_areNear_52 rfl rfl ?_
          refine r_iconst (pc := 53) (v := 2) C dX6_areNear_53 (by decide) ?_
          refine r_iaload (pc := 54) (v := t 2) C 2 dX6_areNear_54 rfl (by decide) (by decide) rfl ?_
          refine r_imul (pc := 55) C dX6_areNear_55 ?_
          refine r_icmp_gt (pc := 56) (tgt := 63) C dX6_areNear_56 (by decide) (fun h_56 => ?_) (fun h_56 => ?_)
          · skip
            refine r_iconst (pc := 63) (v := 0) C dX6_areNear_63 (by decide) ?_
            exact E _ _ _ _ _ _ dX6_areNear_64 (Nat.le_refl _) (Nat.le_refl _) rfl ⟨congrArg (fun z => some (Value.int z)) (by simp [nrM, bB, vw, -Int32.neg_sub, h_17, h_26, h_35, h_45, h_56]), rfl⟩
          · skip
            refine r_iconst (pc := 59) (v := 1) C dX6_areNear_59 (by decide) ?_
            refine r_goto (pc := 60) (tgt := 64) C dX6_areNear_60 (by decide) ?_
            exact E _ _ _ _ _ _ dX6_areNear_64 (Nat.le_refl _) (Nat.le_refl _) rfl ⟨congrArg (fun z => some (Value.int z)) (by simp [nrM, bB, vw, -Int32.neg_sub, h_17, h_26, h_35, h_45, h_56]), rfl⟩
set_option maxHeartbeats 4000000 in
set_option maxRecDepth 100000 in
theorem lp_X6_downOf (t : Nat → Int32) (m : Int32) (z : Nat) (hz : t 0 = nI z) (hz6 : z ≤ 6) (hkz : ∀ i, i < z → okK (vw t) i) {g : Nat → Nat → List xE → Nat → List (Option Value) → List Value → Prop} (C : Sem cX6_downOf RX6 "downOf" 4 rmX6_downOf g) (E : xEi g cX6_downOf .int 0 0 (fun vr wr => vr = some (.int (bitsS (fun i => downS (vw t) i m) z)) ∧ wr = [.inl (0, 36, .inl t)])) : ∀ (n : Nat) (i : Nat), i + n = z → g 0 0 ([.inl (0, 36, .inl t)]) 4 [some (.ref 0), some (.int m), some (.int (bitsS (fun i => downS (vw t) i m) i)), some (.int (nI i))] [] := by
  intro n
  induction n with
  | zero =>
    intro i hi
    refine r_iload_n (pc := 4) C dX6_downOf_4 rfl rfl ?_
    refine r_aload_n (pc := 5) C dX6_downOf_5 rfl rfl ?_
    refine r_iconst (pc := 6) (v := 0) C dX6_downOf_6 (by decide) ?_
    refine r_iaload (pc := 7) (v := t 0) C 0 dX6_downOf_7 rfl (by decide) (by decide) rfl ?_
    refine r_icmp_ge (pc := 8) (tgt := 36) C dX6_downOf_8 (by decide) (fun _ => ?_) (fun h => absurd (by rw [hz]; exact nI_le (by omega) (by omega)) h)
    refine r_iload_n (pc := 36) C dX6_downOf_36 rfl rfl ?_
    obtain rfl : i = z := by omega
    exact E _ _ _ _ _ _ dX6_downOf_37 (Nat.le_refl _) (Nat.le_refl _) rfl ⟨rfl, rfl⟩
  | succ n ih =>
    intro i hi
    refine r_iload_n (pc := 4) C dX6_downOf_4 rfl rfl ?_
    refine r_aload_n (pc := 5) C dX6_downOf_5 rfl rfl ?_
    refine r_iconst (pc := 6) (v := 0) C dX6_downOf_6 (by decide) ?_
    refine r_iaload (pc := 7) (v := t 0) C 0 dX6_downOf_7 rfl (by decide) (by decide) rfl ?_
    refine r_icmp_ge (pc := 8) (tgt := 36) C dX6_downOf_8 (by decide) (fun h => absurd h (by rw [hz]; exact nI_ge (by omega) (by omega))) (fun _ => ?_)
    refine r_iload_n (pc := 11) C dX6_downOf_11 rfl rfl ?_
    refine r_aload_n (pc := 12) C dX6_downOf_12 rfl rfl ?_
    refine r_iload_n (pc := 13) C dX6_downOf_13 rfl rfl ?_
    refine r_iload_n (pc := 14) C dX6_downOf_14 rfl rfl ?_
    refine r_callSD (pc := 15) (As := [.ref 0, .int (nI i), .int m]) (st := [.int (bitsS (fun i => downS (vw t) i m) i)]) (θ2 := [.inl (0, 36, .inl t)]) (r2 := some (.int (bB (downS (vw t) i m)))) C [0] (c_X6_isDown t i (by omega) m (hkz i (by omega))) xm_X6_isDown xk_X6_151 dX6_downOf_15 rfl (by decide) rfl rfl rfl (Nat.le_of_ble_eq_true rfl) ⟨Nat.le_of_ble_eq_true rfl, Nat.le_of_ble_eq_true rfl⟩ ⟨rfl, rfl⟩ ⟨Nat.le_of_ble_eq_true rfl, Nat.le_of_ble_eq_true rfl⟩ rfl (Eq.trans (b := 1) rfl rfl) rfl rfl ?_
    show g 0 0 ([.inl (0, 36, .inl t)]) 18 [some (.ref 0), some (.int m), some (.int (bitsS (fun i => downS (vw t) i m) i)), some (.int (nI i))] [.int (bB (downS (vw t) i m)), .int (bitsS (fun i => downS (vw t) i m) i)]
    refine r_if_eq (pc := 18) (tgt := 27) C dX6_downOf_18 (by decide) (fun h_18 => ?_) (fun h_18 => ?_)
    · replace h_18 := bB_f h_18
      refine r_iconst (pc := 27) (v := 0) C dX6_downOf_27 (by decide) ?_
      refine r_ior (pc := 28) C dX6_downOf_28 ?_
      refine r_istore_n (pc := 29) (lv' := [some (.ref 0), some (.int m), some (.int ((bitsS (fun i => downS (vw t) i m) i) ||| 0)), some (.int (nI i))]) C dX6_downOf_29 rfl (Nat.le_of_ble_eq_true rfl) trivial rfl ?_
      refine r_iinc (pc := 30) (v := nI (i + 1)) (lv' := [some (.ref 0), some (.int m), some (.int ((bitsS (fun i => downS (vw t) i m) i) ||| 0)), some (.int (nI (i + 1)))]) C dX6_downOf_30 rfl (nI_1 i) trivial rfl ?_
      refine r_goto (pc := 33) (tgt := 4) C dX6_downOf_33 (by decide) ?_
      show g 0 0 ([.inl (0, 36, .inl t)]) 4 [some (.ref 0), some (.int m), some (.int ((bitsS (fun i => downS (vw t) i m) i) ||| 0)), some (.int (nI (i + 1)))] []
      rw [show ((bitsS (fun i => downS (vw t) i m) i) ||| 0 : Int32) = bitsS (fun i => downS (vw t) i m) (i + 1) from by simp [bitsS, moreS, h_18]]
      exact ih (i + 1) (by omega)
    · replace h_18 := bB_t h_18
      refine r_iconst (pc := 21) (v := 1) C dX6_downOf_21 (by decide) ?_
      refine r_iload_n (pc := 22) C dX6_downOf_22 rfl rfl ?_
      refine r_ishl (pc := 23) C dX6_downOf_23 ?_
      refine r_goto (pc := 24) (tgt := 28) C dX6_downOf_24 (by decide) ?_
      refine r_ior (pc := 28) C dX6_downOf_28 ?_
      refine r_istore_n (pc := 29) (lv' := [some (.ref 0), some (.int m), some (.int ((bitsS (fun i => downS (vw t) i m) i) ||| (1 <<< ((nI i) &&& 31)))), some (.int (nI i))]) C dX6_downOf_29 rfl (Nat.le_of_ble_eq_true rfl) trivial rfl ?_
      refine r_iinc (pc := 30) (v := nI (i + 1)) (lv' := [some (.ref 0), some (.int m), some (.int ((bitsS (fun i => downS (vw t) i m) i) ||| (1 <<< ((nI i) &&& 31)))), some (.int (nI (i + 1)))]) C dX6_downOf_30 rfl (nI_1 i) trivial rfl ?_
      refine r_goto (pc := 33) (tgt := 4) C dX6_downOf_33 (by decide) ?_
      show g 0 0 ([.inl (0, 36, .inl t)]) 4 [some (.ref 0), some (.int m), some (.int ((bitsS (fun i => downS (vw t) i m) i) ||| (1 <<< ((nI i) &&& 31)))), some (.int (nI (i + 1)))] []
      rw [show ((bitsS (fun i => downS (vw t) i m) i) ||| (1 <<< ((nI i) &&& 31)) : Int32) = bitsS (fun i => downS (vw t) i m) (i + 1) from by simp [bitsS, moreS, h_18]]
      exact ih (i + 1) (by omega)
set_option maxHeartbeats 4000000 in
set_option maxRecDepth 100000 in
theorem c_X6_downOf (t : Nat → Int32) (m : Int32) (z : Nat) (hz : t 0 = nI z) (hz6 : z ≤ 6) (hkz : ∀ i, i < z → okK (vw t) i) : MetA yX6_downOf (.code yX6_downOf cX6_downOf 4 (some .int) :: TT) rmX6_downOf [.ref 0, .int m] ([.inl (0, 36, .inl t)]) (fun vr wr => vr = some (.int (bitsS (fun i => downS (vw t) i m) z)) ∧ wr = [.inl (0, 36, .inl t)]) 0 0 := by
  refine MetA.of_i (by decide) (fun _ => Nat.le_of_ble_eq_true rfl) (Nat.le_of_ble_eq_true rfl) (fun g C E => ?_)
  replace C : Sem cX6_downOf RX6 "downOf" 4 rmX6_downOf g := C
  show g 0 0 ([.inl (0, 36, .inl t)]) 0 [some (.ref 0), some (.int m), none, none] []
  refine r_iconst (pc := 0) (v := 0) C dX6_downOf_0 (by decide) ?_
  refine r_istore_n (pc := 1) (lv' := [some (.ref 0), some (.int m), some (.int 0), none]) C dX6_downOf_1 rfl (Nat.le_of_ble_eq_true rfl) trivial rfl ?_
  refine r_iconst (pc := 2) (v := 0) C dX6_downOf_2 (by decide) ?_
  refine r_istore_n (pc := 3) (lv' := [some (.ref 0), some (.int m), some (.int 0), some (.int 0)]) C dX6_downOf_3 rfl (Nat.le_of_ble_eq_true rfl) trivial rfl ?_
  exact lp_X6_downOf t m z hz hz6 hkz C E z 0 (by omega)
set_option maxHeartbeats 4000000 in
set_option maxRecDepth 100000 in
theorem lp_X6_reachOf (t : Nat → Int32) (j : Nat) (hj : j < 6) (m : Int32) (hkj : okK (vw t) j) (hW : okWM (vw t)) (z : Nat) (hz : t 0 = nI z) (hz6 : z ≤ 6) (hkz : ∀ i, i < z → okK (vw t) i) {g : Nat → Nat → List xE → Nat → List (Option Value) → List Value → Prop} (C : Sem cX6_reachOf RX6 "reachOf" 5 rmX6_reachOf g) (E : xEi g cX6_reachOf .int 0 0 (fun vr wr => vr = some (.int (reachM (vw t) z j m)) ∧ wr = [.inl (0, 36, .inl t)])) : ∀ (n : Nat) (i : Nat), i + n = z → g 0 0 ([.inl (0, 36, .inl t)]) 5 [some (.ref 0), some (.int (nI j)), some (.int m), some (.int (bitsS (fun e => nrM (vw t) j e m) i)), some (.int (nI i))] [] := by
  intro n
  induction n with
  | zero =>
    intro i hi
    refine r_iload (pc := 5) C dX6_reachOf_5 rfl ?_
    refine r_aload_n (pc := 7) C dX6_reachOf_7 rfl rfl ?_
    refine r_iconst (pc := 8) (v := 0) C dX6_reachOf_8 (by decide) ?_
    refine r_iaload (pc := 9) (v := t 0) C 0 dX6_reachOf_9 rfl (by decide) (by decide) rfl ?_
    refine r_icmp_ge (pc := 10) (tgt := 41) C dX6_reachOf_10 (by decide) (fun _ => ?_) (fun h => absurd (by rw [hz]; exact nI_le (by omega) (by omega)) h)
    refine r_iload_n (pc := 41) C dX6_reachOf_41 rfl rfl ?_
    obtain rfl : i = z := by omega
    exact E _ _ _ _ _ _ dX6_reachOf_42 (Nat.le_refl _) (Nat.le_refl _) rfl ⟨rfl, rfl⟩
  | succ n ih =>
    intro i hi
    refine r_iload (pc := 5) C dX6_reachOf_5 rfl ?_
    refine r_aload_n (pc := 7) C dX6_reachOf_7 rfl rfl ?_
    refine r_iconst (pc := 8) (v := 0) C dX6_reachOf_8 (by decide) ?_
    refine r_iaload (pc := 9) (v := t 0) C 0 dX6_reachOf_9 rfl (by decide) (by decide) rfl ?_
    refine r_icmp_ge (pc := 10) (tgt := 41) C dX6_reachOf_10 (by decide) (fun h => absurd h (by rw [hz]; exact nI_ge (by omega) (by omega))) (fun _ => ?_)
    refine r_iload_n (pc := 13) C dX6_reachOf_13 rfl rfl ?_
    refine r_aload_n (pc := 14) C dX6_reachOf_14 rfl rfl ?_
    refine r_iload_n (pc := 15) C dX6_reachOf_15 rfl rfl ?_
    refine r_iload (pc := 16) C dX6_reachOf_16 rfl ?_
    refine r_iload_n (pc := 18) C dX6_reachOf_18 rfl rfl ?_
    refine r_callSD (pc := 19) (As := [.ref 0, .int (nI j), .int (nI i), .int m]) (st := [.int (bitsS (fun e => nrM (vw t) j e m) i)]) (θ2 := [.inl (0, 36, .inl t)]) (r2 := some (.int (bB (nrM (vw t) j i m)))) C [0] (c_X6_areNear t j (by omega) i (by omega) m hkj (hkz i (by omega)) hW) xm_X6_areNear xk_X6_158 dX6_reachOf_19 rfl (by decide) rfl rfl rfl (Nat.le_of_ble_eq_true rfl) ⟨Nat.le_of_ble_eq_true rfl, Nat.le_of_ble_eq_true rfl⟩ ⟨rfl, rfl⟩ ⟨Nat.le_of_ble_eq_true rfl, Nat.le_of_ble_eq_true rfl⟩ rfl (Eq.trans (b := 1) rfl rfl) rfl rfl ?_
    show g 0 0 ([.inl (0, 36, .inl t)]) 22 [some (.ref 0), some (.int (nI j)), some (.int m), some (.int (bitsS (fun e => nrM (vw t) j e m) i)), some (.int (nI i))] [.int (bB (nrM (vw t) j i m)), .int (bitsS (fun e => nrM (vw t) j e m) i)]
    refine r_if_eq (pc := 22) (tgt := 32) C dX6_reachOf_22 (by decide) (fun h_22 => ?_) (fun h_22 => ?_)
    · replace h_22 := bB_f h_22
      refine r_iconst (pc := 32) (v := 0) C dX6_reachOf_32 (by decide) ?_
      refine r_ior (pc := 33) C dX6_reachOf_33 ?_
      refine r_istore_n (pc := 34) (lv' := [some (.ref 0), some (.int (nI j)), some (.int m), some (.int ((bitsS (fun e => nrM (vw t) j e m) i) ||| 0)), some (.int (nI i))]) C dX6_reachOf_34 rfl (Nat.le_of_ble_eq_true rfl) trivial rfl ?_
      refine r_iinc (pc := 35) (v := nI (i + 1)) (lv' := [some (.ref 0), some (.int (nI j)), some (.int m), some (.int ((bitsS (fun e => nrM (vw t) j e m) i) ||| 0)), some (.int (nI (i + 1)))]) C dX6_reachOf_35 rfl (nI_1 i) trivial rfl ?_
      refine r_goto (pc := 38) (tgt := 5) C dX6_reachOf_38 (by decide) ?_
      show g 0 0 ([.inl (0, 36, .inl t)]) 5 [some (.ref 0), some (.int (nI j)), some (.int m), some (.int ((bitsS (fun e => nrM (vw t) j e m) i) ||| 0)), some (.int (nI (i + 1)))] []
      rw [show ((bitsS (fun e => nrM (vw t) j e m) i) ||| 0 : Int32) = bitsS (fun e => nrM (vw t) j e m) (i + 1) from by simp [bitsS, moreS, h_22]]
      exact ih (i + 1) (by omega)
    · replace h_22 := bB_t h_22
      refine r_iconst (pc := 25) (v := 1) C dX6_reachOf_25 (by decide) ?_
      refine r_iload (pc := 26) C dX6_reachOf_26 rfl ?_
      refine r_ishl (pc := 28) C dX6_reachOf_28 ?_
      refine r_goto (pc := 29) (tgt := 33) C dX6_reachOf_29 (by decide) ?_
      refine r_ior (pc := 33) C dX6_reachOf_33 ?_
      refine r_istore_n (pc := 34) (lv' := [some (.ref 0), some (.int (nI j)), some (.int m), some (.int ((bitsS (fun e => nrM (vw t) j e m) i) ||| (1 <<< ((nI i) &&& 31)))), some (.int (nI i))]) C dX6_reachOf_34 rfl (Nat.le_of_ble_eq_true rfl) trivial rfl ?_
      refine r_iinc (pc := 35) (v := nI (i + 1)) (lv' := [some (.ref 0), some (.int (nI j)), some (.int m), some (.int ((bitsS (fun e => nrM (vw t) j e m) i) ||| (1 <<< ((nI i) &&& 31)))), some (.int (nI (i + 1)))]) C dX6_reachOf_35 rfl (nI_1 i) trivial rfl ?_
      refine r_goto (pc := 38) (tgt := 5) C dX6_reachOf_38 (by decide) ?_
      show g 0 0 ([.inl (0, 36, .inl t)]) 5 [some (.ref 0), some (.int (nI j)), some (.int m), some (.int ((bitsS (fun e => nrM (vw t) j e m) i) ||| (1 <<< ((nI i) &&& 31)))), some (.int (nI (i + 1)))] []
      rw [show ((bitsS (fun e => nrM (vw t) j e m) i) ||| (1 <<< ((nI i) &&& 31)) : Int32) = bitsS (fun e => nrM (vw t) j e m) (i + 1) from by simp [bitsS, moreS, h_22]]
      exact ih (i + 1) (by omega)
set_option maxHeartbeats 4000000 in
set_option maxRecDepth 100000 in
theorem c_X6_reachOf (t : Nat → Int32) (j : Nat) (hj : j < 6) (m : Int32) (hkj : okK (vw t) j) (hW : okWM (vw t)) (z : Nat) (hz : t 0 = nI z) (hz6 : z ≤ 6) (hkz : ∀ i, i < z → okK (vw t) i) : MetA yX6_reachOf (.code yX6_reachOf cX6_reachOf 5 (some .int) :: TT) rmX6_reachOf [.ref 0, .int (nI j), .int m] ([.inl (0, 36, .inl t)]) (fun vr wr => vr = some (.int (reachM (vw t) z j m)) ∧ wr = [.inl (0, 36, .inl t)]) 0 0 := by
  refine MetA.of_i (by decide) (fun _ => Nat.le_of_ble_eq_true rfl) (Nat.le_of_ble_eq_true rfl) (fun g C E => ?_)
  replace C : Sem cX6_reachOf RX6 "reachOf" 5 rmX6_reachOf g := C
  show g 0 0 ([.inl (0, 36, .inl t)]) 0 [some (.ref 0), some (.int (nI j)), some (.int m), none, none] []
  refine r_iconst (pc := 0) (v := 0) C dX6_reachOf_0 (by decide) ?_
  refine r_istore_n (pc := 1) (lv' := [some (.ref 0), some (.int (nI j)), some (.int m), some (.int 0), none]) C dX6_reachOf_1 rfl (Nat.le_of_ble_eq_true rfl) trivial rfl ?_
  refine r_iconst (pc := 2) (v := 0) C dX6_reachOf_2 (by decide) ?_
  refine r_istore (pc := 3) (lv' := [some (.ref 0), some (.int (nI j)), some (.int m), some (.int 0), some (.int 0)]) C dX6_reachOf_3 (Nat.le_of_ble_eq_true rfl) trivial rfl ?_
  exact lp_X6_reachOf t j hj m hkj hW z hz hz6 hkz C E z 0 (by omega)
set_option maxHeartbeats 4000000 in
set_option maxRecDepth 100000 in
theorem lpi_X6_spread (t : Nat → Int32) (d : Nat) (hd : d ≤ 60) (a : Int32) (hW : okWM (vw t)) (z : Nat) (hz : t 0 = nI z) (hz6 : z ≤ 6) (hkz : ∀ i, i < z → okK (vw t) i) {g : Nat → Nat → List xE → Nat → List (Option Value) → List Value → Prop} (C : Sem cX6_spread RX6 "spread" 7 rmX6_spread g) (k : Nat) (kk : g 0 0 [.inl (0, 36, .inl t)] 7 [some (.ref 0), some (.int a), some (.int (nI d)), some (.int (setM (vw t) z a (k + 1))), some (.int (nI (k + 1))), none, none] []) : ∀ (n : Nat) (i : Nat), i + n = z → g 0 0 [.inl (0, 36, .inl t)] 19 [some (.ref 0), some (.int a), some (.int (nI d)), some (.int (setM (vw t) z a k)), some (.int (nI k)), some (.int (moreS (fun i => reachM (vw t) z i (vw t 8 0 + nI k)) (setM (vw t) z a k) i)), some (.int (nI i))] [] := by
  intro n
  induction n with
  | zero =>
    intro i hi
    have hiz : i = z := by omega
    rw [hiz]
    refine r_iload (pc := 19) C dX6_spread_19 rfl ?_
    refine r_aload_n (pc := 21) C dX6_spread_21 rfl rfl ?_
    refine r_iconst (pc := 22) (v := 0) C dX6_spread_22 (by decide) ?_
    refine r_iaload (pc := 23) (v := t 0) C 0 dX6_spread_23 rfl (by decide) (by decide) rfl ?_
    refine r_icmp_ge (pc := 24) (tgt := 64) C dX6_spread_24 (by decide) (fun _ => ?_) (fun h => absurd (by rw [hz]; exact nI_le (by omega) (by omega)) h)
    refine r_iload_n (pc := 64) C dX6_spread_64 rfl rfl ?_
    refine r_iload (pc := 65) C dX6_spread_65 rfl ?_
    refine r_ior (pc := 67) C dX6_spread_67 ?_
    refine r_istore_n (pc := 68) (lv' := [some (.ref 0), some (.int a), some (.int (nI d)), some (.int ((setM (vw t) z a k) ||| (moreS (fun i => reachM (vw t) z i (vw t 8 0 + nI k)) (setM (vw t) z a k) z))), some (.int (nI k)), some (.int (moreS (fun i => reachM (vw t) z i (vw t 8 0 + nI k)) (setM (vw t) z a k) z)), some (.int (nI z))]) C dX6_spread_68 rfl (Nat.le_of_ble_eq_true rfl) trivial rfl ?_
    refine r_iinc (pc := 69) (v := nI (k + 1)) (lv' := [some (.ref 0), some (.int a), some (.int (nI d)), some (.int ((setM (vw t) z a k) ||| (moreS (fun i => reachM (vw t) z i (vw t 8 0 + nI k)) (setM (vw t) z a k) z))), some (.int (nI (k + 1))), some (.int (moreS (fun i => reachM (vw t) z i (vw t 8 0 + nI k)) (setM (vw t) z a k) z)), some (.int (nI z))]) C dX6_spread_69 rfl (nI_1 k) trivial rfl ?_
    refine r_goto (pc := 72) (tgt := 7) C dX6_spread_72 (by decide) ?_
    show g 0 0 ([.inl (0, 36, .inl t)]) 7 [some (.ref 0), some (.int a), some (.int (nI d)), some (.int ((setM (vw t) z a k) ||| (moreS (fun i => reachM (vw t) z i (vw t 8 0 + nI k)) (setM (vw t) z a k) z))), some (.int (nI (k + 1))), some (.int (moreS (fun i => reachM (vw t) z i (vw t 8 0 + nI k)) (setM (vw t) z a k) z)), some (.int (nI z))] []
    refine r_drop (lv' := [some (.ref 0), some (.int a), some (.int (nI d)), some (.int ((setM (vw t) z a k) ||| (moreS (fun i => reachM (vw t) z i (vw t 8 0 + nI k)) (setM (vw t) z a k) z))), some (.int (nI (k + 1))), none, none]) C ⟨rfl, rfl, rfl, rfl, rfl, trivial⟩ ?_
    exact kk
  | succ n ih =>
    intro i hi
    refine r_iload (pc := 19) C dX6_spread_19 rfl ?_
    refine r_aload_n (pc := 21) C dX6_spread_21 rfl rfl ?_
    refine r_iconst (pc := 22) (v := 0) C dX6_spread_22 (by decide) ?_
    refine r_iaload (pc := 23) (v := t 0) C 0 dX6_spread_23 rfl (by decide) (by decide) rfl ?_
    refine r_icmp_ge (pc := 24) (tgt := 64) C dX6_spread_24 (by decide) (fun h => absurd h (by rw [hz]; exact nI_ge (by omega) (by omega))) (fun _ => ?_)
    refine r_iload (pc := 27) C dX6_spread_27 rfl ?_
    refine r_iload_n (pc := 29) C dX6_spread_29 rfl rfl ?_
    refine r_iload (pc := 30) C dX6_spread_30 rfl ?_
    refine r_callS0 (pc := 32) (As := [.int (setM (vw t) z a k), .int (nI i)]) (st := [.int (moreS (fun i => reachM (vw t) z i (vw t 8 0 + nI k)) (setM (vw t) z a k) i)]) C (c_X6_has (setM (vw t) z a k) (nI i)) xm_X6_has xk_X6_143 dX6_spread_32 (fun _ => rfl) (fun _ => rfl) rfl rfl (Nat.le_of_ble_eq_true rfl) ⟨Nat.le_of_ble_eq_true rfl, Nat.le_of_ble_eq_true rfl⟩ ⟨rfl, rfl⟩ ⟨Nat.le_of_ble_eq_true rfl, Nat.le_of_ble_eq_true rfl⟩ rfl ?_
    show g 0 0 ([.inl (0, 36, .inl t)]) 35 [some (.ref 0), some (.int a), some (.int (nI d)), some (.int (setM (vw t) z a k)), some (.int (nI k)), some (.int (moreS (fun i => reachM (vw t) z i (vw t 8 0 + nI k)) (setM (vw t) z a k) i)), some (.int (nI i))] [.int (bB (hasS (setM (vw t) z a k) (nI i))), .int (moreS (fun i => reachM (vw t) z i (vw t 8 0 + nI k)) (setM (vw t) z a k) i)]
    refine r_if_eq (pc := 35) (tgt := 54) C dX6_spread_35 (by decide) (fun h_35 => ?_) (fun h_35 => ?_)
    · replace h_35 := bB_f h_35
      refine r_iconst (pc := 54) (v := 0) C dX6_spread_54 (by decide) ?_
      refine r_ior (pc := 55) C dX6_spread_55 ?_
      refine r_istore (pc := 56) (lv' := [some (.ref 0), some (.int a), some (.int (nI d)), some (.int (setM (vw t) z a k)), some (.int (nI k)), some (.int ((moreS (fun i => reachM (vw t) z i (vw t 8 0 + nI k)) (setM (vw t) z a k) i) ||| 0)), some (.int (nI i))]) C dX6_spread_56 (Nat.le_of_ble_eq_true rfl) trivial rfl ?_
      refine r_iinc (pc := 58) (v := nI (i + 1)) (lv' := [some (.ref 0), some (.int a), some (.int (nI d)), some (.int (setM (vw t) z a k)), some (.int (nI k)), some (.int ((moreS (fun i => reachM (vw t) z i (vw t 8 0 + nI k)) (setM (vw t) z a k) i) ||| 0)), some (.int (nI (i + 1)))]) C dX6_spread_58 rfl (nI_1 i) trivial rfl ?_
      refine r_goto (pc := 61) (tgt := 19) C dX6_spread_61 (by decide) ?_
      show g 0 0 ([.inl (0, 36, .inl t)]) 19 [some (.ref 0), some (.int a), some (.int (nI d)), some (.int (setM (vw t) z a k)), some (.int (nI k)), some (.int ((moreS (fun i => reachM (vw t) z i (vw t 8 0 + nI k)) (setM (vw t) z a k) i) ||| 0)), some (.int (nI (i + 1)))] []
      rw [show ((moreS (fun i => reachM (vw t) z i (vw t 8 0 + nI k)) (setM (vw t) z a k) i) ||| 0 : Int32) = moreS (fun i => reachM (vw t) z i (vw t 8 0 + nI k)) (setM (vw t) z a k) (i + 1) from by simp [moreS, vw, h_35]]
      exact ih (i + 1) (by omega)
    · replace h_35 := bB_t h_35
      refine r_aload_n (pc := 38) C dX6_spread_38 rfl rfl ?_
      refine r_iload (pc := 39) C dX6_spread_39 rfl ?_
      refine r_aload_n (pc := 41) C dX6_spread_41 rfl rfl ?_
      refine r_bipush (pc := 42) (v := 35) C dX6_spread_42 (by decide) ?_
      refine r_iaload (pc := 44) (v := t 35) C 35 dX6_spread_44 rfl (by decide) (by decide) rfl ?_
      refine r_iload (pc := 45) C dX6_spread_45 rfl ?_
      refine r_iadd (pc := 47) C dX6_spread_47 ?_
      refine r_callSD (pc := 48) (As := [.ref 0, .int (nI i), .int ((t 35) + (nI k))]) (st := [.int (moreS (fun i => reachM (vw t) z i (vw t 8 0 + nI k)) (setM (vw t) z a k) i)]) (θ2 := [.inl (0, 36, .inl t)]) (r2 := some (.int (reachM (vw t) z i ((t 35) + (nI k))))) C [0] (c_X6_reachOf t i (by omega) ((t 35) + (nI k)) (hkz i (by omega)) hW z hz hz6 hkz) xm_X6_reachOf xk_X6_162 dX6_spread_48 rfl (by decide) rfl rfl rfl (Nat.le_of_ble_eq_true rfl) ⟨Nat.le_of_ble_eq_true rfl, Nat.le_of_ble_eq_true rfl⟩ ⟨rfl, rfl⟩ ⟨Nat.le_of_ble_eq_true rfl, Nat.le_of_ble_eq_true rfl⟩ rfl (Eq.trans (b := 1) rfl rfl) rfl rfl ?_
      show g 0 0 ([.inl (0, 36, .inl t)]) 51 [some (.ref 0), some (.int a), some (.int (nI d)), some (.int (setM (vw t) z a k)), some (.int (nI k)), some (.int (moreS (fun i => reachM (vw t) z i (vw t 8 0 + nI k)) (setM (vw t) z a k) i)), some (.int (nI i))] [.int (reachM (vw t) z i ((t 35) + (nI k))), .int (moreS (fun i => reachM (vw t) z i (vw t 8 0 + nI k)) (setM (vw t) z a k) i)]
      refine r_goto (pc := 51) (tgt := 55) C dX6_spread_51 (by decide) ?_
      refine r_ior (pc := 55) C dX6_spread_55 ?_
      refine r_istore (pc := 56) (lv' := [some (.ref 0), some (.int a), some (.int (nI d)), some (.int (setM (vw t) z a k)), some (.int (nI k)), some (.int ((moreS (fun i => reachM (vw t) z i (vw t 8 0 + nI k)) (setM (vw t) z a k) i) ||| (reachM (vw t) z i ((t 35) + (nI k))))), some (.int (nI i))]) C dX6_spread_56 (Nat.le_of_ble_eq_true rfl) trivial rfl ?_
      refine r_iinc (pc := 58) (v := nI (i + 1)) (lv' := [some (.ref 0), some (.int a), some (.int (nI d)), some (.int (setM (vw t) z a k)), some (.int (nI k)), some (.int ((moreS (fun i => reachM (vw t) z i (vw t 8 0 + nI k)) (setM (vw t) z a k) i) ||| (reachM (vw t) z i ((t 35) + (nI k))))), some (.int (nI (i + 1)))]) C dX6_spread_58 rfl (nI_1 i) trivial rfl ?_
      refine r_goto (pc := 61) (tgt := 19) C dX6_spread_61 (by decide) ?_
      show g 0 0 ([.inl (0, 36, .inl t)]) 19 [some (.ref 0), some (.int a), some (.int (nI d)), some (.int (setM (vw t) z a k)), some (.int (nI k)), some (.int ((moreS (fun i => reachM (vw t) z i (vw t 8 0 + nI k)) (setM (vw t) z a k) i) ||| (reachM (vw t) z i ((t 35) + (nI k))))), some (.int (nI (i + 1)))] []
      rw [show ((moreS (fun i => reachM (vw t) z i (vw t 8 0 + nI k)) (setM (vw t) z a k) i) ||| (reachM (vw t) z i ((t 35) + (nI k))) : Int32) = moreS (fun i => reachM (vw t) z i (vw t 8 0 + nI k)) (setM (vw t) z a k) (i + 1) from by simp [moreS, vw, h_35]]
      exact ih (i + 1) (by omega)
set_option maxHeartbeats 4000000 in
set_option maxRecDepth 100000 in
theorem lp_X6_spread (t : Nat → Int32) (d : Nat) (hd : d ≤ 60) (a : Int32) (hW : okWM (vw t)) (z : Nat) (hz : t 0 = nI z) (hz6 : z ≤ 6) (hkz : ∀ i, i < z → okK (vw t) i) {g : Nat → Nat → List xE → Nat → List (Option Value) → List Value → Prop} (C : Sem cX6_spread RX6 "spread" 7 rmX6_spread g) (E : xEi g cX6_spread .int 0 0 (fun vr wr => vr = some (.int (setM (vw t) z a d)) ∧ wr = [.inl (0, 36, .inl t)])) : ∀ (n : Nat) (k : Nat), k + n = d → g 0 0 ([.inl (0, 36, .inl t)]) 7 [some (.ref 0), some (.int a), some (.int (nI d)), some (.int (setM (vw t) z a k)), some (.int (nI k)), none, none] [] := by
  intro n
  induction n with
  | zero =>
    intro k hk
    refine r_iload (pc := 7) C dX6_spread_7 rfl ?_
    refine r_iload_n (pc := 9) C dX6_spread_9 rfl rfl ?_
    refine r_icmp_ge (pc := 10) (tgt := 75) C dX6_spread_10 (by decide) (fun _ => ?_) (fun h => absurd (nI_le (by omega) (by omega)) h)
    refine r_iload_n (pc := 75) C dX6_spread_75 rfl rfl ?_
    obtain rfl : k = d := by omega
    exact E _ _ _ _ _ _ dX6_spread_76 (Nat.le_refl _) (Nat.le_refl _) rfl ⟨rfl, rfl⟩
  | succ n ih =>
    intro k hk
    refine r_iload (pc := 7) C dX6_spread_7 rfl ?_
    refine r_iload_n (pc := 9) C dX6_spread_9 rfl rfl ?_
    refine r_icmp_ge (pc := 10) (tgt := 75) C dX6_spread_10 (by decide) (fun h => absurd h (nI_ge (by omega) (by omega))) (fun _ => ?_)
    refine r_iconst (pc := 13) (v := 0) C dX6_spread_13 (by decide) ?_
    refine r_istore (pc := 14) (lv' := [some (.ref 0), some (.int a), some (.int (nI d)), some (.int (setM (vw t) z a k)), some (.int (nI k)), some (.int 0), none]) C dX6_spread_14 (Nat.le_of_ble_eq_true rfl) trivial rfl ?_
    refine r_iconst (pc := 16) (v := 0) C dX6_spread_16 (by decide) ?_
    refine r_istore (pc := 17) (lv' := [some (.ref 0), some (.int a), some (.int (nI d)), some (.int (setM (vw t) z a k)), some (.int (nI k)), some (.int 0), some (.int 0)]) C dX6_spread_17 (Nat.le_of_ble_eq_true rfl) trivial rfl ?_
    exact lpi_X6_spread t d hd a hW z hz hz6 hkz C k (ih (k + 1) (by omega)) z 0 (by omega)
set_option maxHeartbeats 4000000 in
set_option maxRecDepth 100000 in
theorem c_X6_spread (t : Nat → Int32) (d : Nat) (hd : d ≤ 60) (a : Int32) (hW : okWM (vw t)) (z : Nat) (hz : t 0 = nI z) (hz6 : z ≤ 6) (hkz : ∀ i, i < z → okK (vw t) i) : MetA yX6_spread (.code yX6_spread cX6_spread 7 (some .int) :: TT) rmX6_spread [.ref 0, .int a, .int (nI d)] ([.inl (0, 36, .inl t)]) (fun vr wr => vr = some (.int (setM (vw t) z a d)) ∧ wr = [.inl (0, 36, .inl t)]) 0 0 := by
  refine MetA.of_i (by decide) (fun _ => Nat.le_of_ble_eq_true rfl) (Nat.le_of_ble_eq_true rfl) (fun g C E => ?_)
  replace C : Sem cX6_spread RX6 "spread" 7 rmX6_spread g := C
  show g 0 0 ([.inl (0, 36, .inl t)]) 0 [some (.ref 0), some (.int a), some (.int (nI d)), none, none, none, none] []
  refine r_iconst (pc := 0) (v := 1) C dX6_spread_0 (by decide) ?_
  refine r_iload_n (pc := 1) C dX6_spread_1 rfl rfl ?_
  refine r_ishl (pc := 2) C dX6_spread_2 ?_
  refine r_istore_n (pc := 3) (lv' := [some (.ref 0), some (.int a), some (.int (nI d)), some (.int (1 <<< (a &&& 31))), none, none, none]) C dX6_spread_3 rfl (Nat.le_of_ble_eq_true rfl) trivial rfl ?_
  refine r_iconst (pc := 4) (v := 0) C dX6_spread_4 (by decide) ?_
  refine r_istore (pc := 5) (lv' := [some (.ref 0), some (.int a), some (.int (nI d)), some (.int (1 <<< (a &&& 31))), some (.int 0), none, none]) C dX6_spread_5 (Nat.le_of_ble_eq_true rfl) trivial rfl ?_
  exact lp_X6_spread t d hd a hW z hz hz6 hkz C E d 0 (by omega)
set_option maxHeartbeats 4000000 in
set_option maxRecDepth 100000 in
theorem lpi_X6_soonestOf (t : Nat → Int32) (b : Int32) (a : Int32) (hW : okWM (vw t)) (z : Nat) (hz : t 0 = nI z) (hz6 : z ≤ 6) (hkz : ∀ i, i < z → okK (vw t) i) {g : Nat → Nat → List xE → Nat → List (Option Value) → List Value → Prop} (C : Sem cX6_soonestOf RX6 "soonestOf" 7 rmX6_soonestOf g) (k : Nat) (kk : g 0 0 [.inl (0, 36, .inl t)] 7 [some (.ref 0), some (.int a), some (.int b), some (.int (setM (vw t) z a (k + 1))), some (.int (nI (k + 1))), none, none] []) : ∀ (n : Nat) (i : Nat), i + n = z → g 0 0 [.inl (0, 36, .inl t)] 31 [some (.ref 0), some (.int a), some (.int b), some (.int (setM (vw t) z a k)), some (.int (nI k)), some (.int (moreS (fun i => reachM (vw t) z i (vw t 8 0 + nI k)) (setM (vw t) z a k) i)), some (.int (nI i))] [] := by
  intro n
  induction n with
  | zero =>
    intro i hi
    have hiz : i = z := by omega
    rw [hiz]
    refine r_iload (pc := 31) C dX6_soonestOf_31 rfl ?_
    refine r_aload_n (pc := 33) C dX6_soonestOf_33 rfl rfl ?_
    refine r_iconst (pc := 34) (v := 0) C dX6_soonestOf_34 (by decide) ?_
    refine r_iaload (pc := 35) (v := t 0) C 0 dX6_soonestOf_35 rfl (by decide) (by decide) rfl ?_
    refine r_icmp_ge (pc := 36) (tgt := 76) C dX6_soonestOf_36 (by decide) (fun _ => ?_) (fun h => absurd (by rw [hz]; exact nI_le (by omega) (by omega)) h)
    refine r_iload_n (pc := 76) C dX6_soonestOf_76 rfl rfl ?_
    refine r_iload (pc := 77) C dX6_soonestOf_77 rfl ?_
    refine r_ior (pc := 79) C dX6_soonestOf_79 ?_
    refine r_istore_n (pc := 80) (lv' := [some (.ref 0), some (.int a), some (.int b), some (.int ((setM (vw t) z a k) ||| (moreS (fun i => reachM (vw t) z i (vw t 8 0 + nI k)) (setM (vw t) z a k) z))), some (.int (nI k)), some (.int (moreS (fun i => reachM (vw t) z i (vw t 8 0 + nI k)) (setM (vw t) z a k) z)), some (.int (nI z))]) C dX6_soonestOf_80 rfl (Nat.le_of_ble_eq_true rfl) trivial rfl ?_
    refine r_iinc (pc := 81) (v := nI (k + 1)) (lv' := [some (.ref 0), some (.int a), some (.int b), some (.int ((setM (vw t) z a k) ||| (moreS (fun i => reachM (vw t) z i (vw t 8 0 + nI k)) (setM (vw t) z a k) z))), some (.int (nI (k + 1))), some (.int (moreS (fun i => reachM (vw t) z i (vw t 8 0 + nI k)) (setM (vw t) z a k) z)), some (.int (nI z))]) C dX6_soonestOf_81 rfl (nI_1 k) trivial rfl ?_
    refine r_goto (pc := 84) (tgt := 7) C dX6_soonestOf_84 (by decide) ?_
    show g 0 0 ([.inl (0, 36, .inl t)]) 7 [some (.ref 0), some (.int a), some (.int b), some (.int ((setM (vw t) z a k) ||| (moreS (fun i => reachM (vw t) z i (vw t 8 0 + nI k)) (setM (vw t) z a k) z))), some (.int (nI (k + 1))), some (.int (moreS (fun i => reachM (vw t) z i (vw t 8 0 + nI k)) (setM (vw t) z a k) z)), some (.int (nI z))] []
    refine r_drop (lv' := [some (.ref 0), some (.int a), some (.int b), some (.int ((setM (vw t) z a k) ||| (moreS (fun i => reachM (vw t) z i (vw t 8 0 + nI k)) (setM (vw t) z a k) z))), some (.int (nI (k + 1))), none, none]) C ⟨rfl, rfl, rfl, rfl, rfl, trivial⟩ ?_
    exact kk
  | succ n ih =>
    intro i hi
    refine r_iload (pc := 31) C dX6_soonestOf_31 rfl ?_
    refine r_aload_n (pc := 33) C dX6_soonestOf_33 rfl rfl ?_
    refine r_iconst (pc := 34) (v := 0) C dX6_soonestOf_34 (by decide) ?_
    refine r_iaload (pc := 35) (v := t 0) C 0 dX6_soonestOf_35 rfl (by decide) (by decide) rfl ?_
    refine r_icmp_ge (pc := 36) (tgt := 76) C dX6_soonestOf_36 (by decide) (fun h => absurd h (by rw [hz]; exact nI_ge (by omega) (by omega))) (fun _ => ?_)
    refine r_iload (pc := 39) C dX6_soonestOf_39 rfl ?_
    refine r_iload_n (pc := 41) C dX6_soonestOf_41 rfl rfl ?_
    refine r_iload (pc := 42) C dX6_soonestOf_42 rfl ?_
    refine r_callS0 (pc := 44) (As := [.int (setM (vw t) z a k), .int (nI i)]) (st := [.int (moreS (fun i => reachM (vw t) z i (vw t 8 0 + nI k)) (setM (vw t) z a k) i)]) C (c_X6_has (setM (vw t) z a k) (nI i)) xm_X6_has xk_X6_143 dX6_soonestOf_44 (fun _ => rfl) (fun _ => rfl) rfl rfl (Nat.le_of_ble_eq_true rfl) ⟨Nat.le_of_ble_eq_true rfl, Nat.le_of_ble_eq_true rfl⟩ ⟨rfl, rfl⟩ ⟨Nat.le_of_ble_eq_true rfl, Nat.le_of_ble_eq_true rfl⟩ rfl ?_
    show g 0 0 ([.inl (0, 36, .inl t)]) 47 [some (.ref 0), some (.int a), some (.int b), some (.int (setM (vw t) z a k)), some (.int (nI k)), some (.int (moreS (fun i => reachM (vw t) z i (vw t 8 0 + nI k)) (setM (vw t) z a k) i)), some (.int (nI i))] [.int (bB (hasS (setM (vw t) z a k) (nI i))), .int (moreS (fun i => reachM (vw t) z i (vw t 8 0 + nI k)) (setM (vw t) z a k) i)]
    refine r_if_eq (pc := 47) (tgt := 66) C dX6_soonestOf_47 (by decide) (fun h_47 => ?_) (fun h_47 => ?_)
    · replace h_47 := bB_f h_47
      refine r_iconst (pc := 66) (v := 0) C dX6_soonestOf_66 (by decide) ?_
      refine r_ior (pc := 67) C dX6_soonestOf_67 ?_
      refine r_istore (pc := 68) (lv' := [some (.ref 0), some (.int a), some (.int b), some (.int (setM (vw t) z a k)), some (.int (nI k)), some (.int ((moreS (fun i => reachM (vw t) z i (vw t 8 0 + nI k)) (setM (vw t) z a k) i) ||| 0)), some (.int (nI i))]) C dX6_soonestOf_68 (Nat.le_of_ble_eq_true rfl) trivial rfl ?_
      refine r_iinc (pc := 70) (v := nI (i + 1)) (lv' := [some (.ref 0), some (.int a), some (.int b), some (.int (setM (vw t) z a k)), some (.int (nI k)), some (.int ((moreS (fun i => reachM (vw t) z i (vw t 8 0 + nI k)) (setM (vw t) z a k) i) ||| 0)), some (.int (nI (i + 1)))]) C dX6_soonestOf_70 rfl (nI_1 i) trivial rfl ?_
      refine r_goto (pc := 73) (tgt := 31) C dX6_soonestOf_73 (by decide) ?_
      show g 0 0 ([.inl (0, 36, .inl t)]) 31 [some (.ref 0), some (.int a), some (.int b), some (.int (setM (vw t) z a k)), some (.int (nI k)), some (.int ((moreS (fun i => reachM (vw t) z i (vw t 8 0 + nI k)) (setM (vw t) z a k) i) ||| 0)), some (.int (nI (i + 1)))] []
      rw [show ((moreS (fun i => reachM (vw t) z i (vw t 8 0 + nI k)) (setM (vw t) z a k) i) ||| 0 : Int32) = moreS (fun i => reachM (vw t) z i (vw t 8 0 + nI k)) (setM (vw t) z a k) (i + 1) from by simp [moreS, vw, h_47]]
      exact ih (i + 1) (by omega)
    · replace h_47 := bB_t h_47
      refine r_aload_n (pc := 50) C dX6_soonestOf_50 rfl rfl ?_
      refine r_iload (pc := 51) C dX6_soonestOf_51 rfl ?_
      refine r_aload_n (pc := 53) C dX6_soonestOf_53 rfl rfl ?_
      refine r_bipush (pc := 54) (v := 35) C dX6_soonestOf_54 (by decide) ?_
      refine r_iaload (pc := 56) (v := t 35) C 35 dX6_soonestOf_56 rfl (by decide) (by decide) rfl ?_
      refine r_iload (pc := 57) C dX6_soonestOf_57 rfl ?_
      refine r_iadd (pc := 59) C dX6_soonestOf_59 ?_
      refine r_callSD (pc := 60) (As := [.ref 0, .int (nI i), .int ((t 35) + (nI k))]) (st := [.int (moreS (fun i => reachM (vw t) z i (vw t 8 0 + nI k)) (setM (vw t) z a k) i)]) (θ2 := [.inl (0, 36, .inl t)]) (r2 := some (.int (reachM (vw t) z i ((t 35) + (nI k))))) C [0] (c_X6_reachOf t i (by omega) ((t 35) + (nI k)) (hkz i (by omega)) hW z hz hz6 hkz) xm_X6_reachOf xk_X6_162 dX6_soonestOf_60 rfl (by decide) rfl rfl rfl (Nat.le_of_ble_eq_true rfl) ⟨Nat.le_of_ble_eq_true rfl, Nat.le_of_ble_eq_true rfl⟩ ⟨rfl, rfl⟩ ⟨Nat.le_of_ble_eq_true rfl, Nat.le_of_ble_eq_true rfl⟩ rfl (Eq.trans (b := 1) rfl rfl) rfl rfl ?_
      show g 0 0 ([.inl (0, 36, .inl t)]) 63 [some (.ref 0), some (.int a), some (.int b), some (.int (setM (vw t) z a k)), some (.int (nI k)), some (.int (moreS (fun i => reachM (vw t) z i (vw t 8 0 + nI k)) (setM (vw t) z a k) i)), some (.int (nI i))] [.int (reachM (vw t) z i ((t 35) + (nI k))), .int (moreS (fun i => reachM (vw t) z i (vw t 8 0 + nI k)) (setM (vw t) z a k) i)]
      refine r_goto (pc := 63) (tgt := 67) C dX6_soonestOf_63 (by decide) ?_
      refine r_ior (pc := 67) C dX6_soonestOf_67 ?_
      refine r_istore (pc := 68) (lv' := [some (.ref 0), some (.int a), some (.int b), some (.int (setM (vw t) z a k)), some (.int (nI k)), some (.int ((moreS (fun i => reachM (vw t) z i (vw t 8 0 + nI k)) (setM (vw t) z a k) i) ||| (reachM (vw t) z i ((t 35) + (nI k))))), some (.int (nI i))]) C dX6_soonestOf_68 (Nat.le_of_ble_eq_true rfl) trivial rfl ?_
      refine r_iinc (pc := 70) (v := nI (i + 1)) (lv' := [some (.ref 0), some (.int a), some (.int b), some (.int (setM (vw t) z a k)), some (.int (nI k)), some (.int ((moreS (fun i => reachM (vw t) z i (vw t 8 0 + nI k)) (setM (vw t) z a k) i) ||| (reachM (vw t) z i ((t 35) + (nI k))))), some (.int (nI (i + 1)))]) C dX6_soonestOf_70 rfl (nI_1 i) trivial rfl ?_
      refine r_goto (pc := 73) (tgt := 31) C dX6_soonestOf_73 (by decide) ?_
      show g 0 0 ([.inl (0, 36, .inl t)]) 31 [some (.ref 0), some (.int a), some (.int b), some (.int (setM (vw t) z a k)), some (.int (nI k)), some (.int ((moreS (fun i => reachM (vw t) z i (vw t 8 0 + nI k)) (setM (vw t) z a k) i) ||| (reachM (vw t) z i ((t 35) + (nI k))))), some (.int (nI (i + 1)))] []
      rw [show ((moreS (fun i => reachM (vw t) z i (vw t 8 0 + nI k)) (setM (vw t) z a k) i) ||| (reachM (vw t) z i ((t 35) + (nI k))) : Int32) = moreS (fun i => reachM (vw t) z i (vw t 8 0 + nI k)) (setM (vw t) z a k) (i + 1) from by simp [moreS, vw, h_47]]
      exact ih (i + 1) (by omega)
set_option maxHeartbeats 4000000 in
set_option maxRecDepth 100000 in
theorem lp_X6_soonestOf (t : Nat → Int32) (b : Int32) (a : Int32) (hW : okWM (vw t)) (z : Nat) (hz : t 0 = nI z) (hz6 : z ≤ 6) (hkz : ∀ i, i < z → okK (vw t) i) {g : Nat → Nat → List xE → Nat → List (Option Value) → List Value → Prop} (C : Sem cX6_soonestOf RX6 "soonestOf" 7 rmX6_soonestOf g) (E : xEi g cX6_soonestOf .int 0 0 (fun vr wr => vr = some (.int (soonM (vw t) z a b)) ∧ wr = [.inl (0, 36, .inl t)])) : ∀ (n : Nat) (k : Nat), k + n = 61 → soonFrom (fun k => hasS (setM (vw t) z a k) b) n k = soonFrom (fun k => hasS (setM (vw t) z a k) b) 61 0 → g 0 0 ([.inl (0, 36, .inl t)]) 7 [some (.ref 0), some (.int a), some (.int b), some (.int (setM (vw t) z a k)), some (.int (nI k)), none, none] [] := by
  intro n
  induction n with
  | zero =>
    intro k hk hE
    refine r_iload (pc := 7) C dX6_soonestOf_7 rfl ?_
    refine r_bipush (pc := 9) (v := 61) C dX6_soonestOf_9 (by decide) ?_
    refine r_icmp_ge (pc := 11) (tgt := 87) C dX6_soonestOf_11 (by decide) (fun _ => ?_) (fun h => absurd (nI_le (a := 61) (by omega) (by omega)) h)
    refine r_ldc (pc := 87) (v := 1000000) C dX6_soonestOf_87 tw_834 ?_
    exact E _ _ _ _ _ _ dX6_soonestOf_89 (Nat.le_refl _) (Nat.le_refl _) rfl ⟨congrArg (fun z => some (Value.int z)) (by unfold soonM; rw [← hE]; simp [soonFrom]), rfl⟩
  | succ n ih =>
    intro k hk hE
    refine r_iload (pc := 7) C dX6_soonestOf_7 rfl ?_
    refine r_bipush (pc := 9) (v := 61) C dX6_soonestOf_9 (by decide) ?_
    refine r_icmp_ge (pc := 11) (tgt := 87) C dX6_soonestOf_11 (by decide) (fun h => absurd h (nI_ge (b := 61) (by omega) (by omega))) (fun _ => ?_)
    refine r_iload_n (pc := 14) C dX6_soonestOf_14 rfl rfl ?_
    refine r_iload_n (pc := 15) C dX6_soonestOf_15 rfl rfl ?_
    refine r_callS0 (pc := 16) (As := [.int (setM (vw t) z a k), .int b]) (st := []) C (c_X6_has (setM (vw t) z a k) b) xm_X6_has xk_X6_143 dX6_soonestOf_16 (fun _ => rfl) (fun _ => rfl) rfl rfl (Nat.le_of_ble_eq_true rfl) ⟨Nat.le_of_ble_eq_true rfl, Nat.le_of_ble_eq_true rfl⟩ ⟨rfl, rfl⟩ ⟨Nat.le_of_ble_eq_true rfl, Nat.le_of_ble_eq_true rfl⟩ rfl ?_
    show g 0 0 ([.inl (0, 36, .inl t)]) 19 [some (.ref 0), some (.int a), some (.int b), some (.int (setM (vw t) z a k)), some (.int (nI k)), none, none] [.int (bB (hasS (setM (vw t) z a k) b))]
    refine r_if_eq (pc := 19) (tgt := 25) C dX6_soonestOf_19 (by decide) (fun h_19 => ?_) (fun h_19 => ?_)
    · replace h_19 := bB_f h_19
      refine r_iconst (pc := 25) (v := 0) C dX6_soonestOf_25 (by decide) ?_
      refine r_istore (pc := 26) (lv' := [some (.ref 0), some (.int a), some (.int b), some (.int (setM (vw t) z a k)), some (.int (nI k)), some (.int 0), none]) C dX6_soonestOf_26 (Nat.le_of_ble_eq_true rfl) trivial rfl ?_
      refine r_iconst (pc := 28) (v := 0) C dX6_soonestOf_28 (by decide) ?_
      refine r_istore (pc := 29) (lv' := [some (.ref 0), some (.int a), some (.int b), some (.int (setM (vw t) z a k)), some (.int (nI k)), some (.int 0), some (.int 0)]) C dX6_soonestOf_29 (Nat.le_of_ble_eq_true rfl) trivial rfl ?_
      exact lpi_X6_soonestOf t b a hW z hz hz6 hkz C k (ih (k + 1) (by omega) (by rw [← hE]; simp [soonFrom, h_19])) z 0 (by omega)
    · replace h_19 := bB_t h_19
      refine r_iload (pc := 22) C dX6_soonestOf_22 rfl ?_
      exact E _ _ _ _ _ _ dX6_soonestOf_24 (Nat.le_refl _) (Nat.le_refl _) rfl ⟨congrArg (fun z => some (Value.int z)) (by unfold soonM; rw [← hE]; simp [soonFrom, h_19]), rfl⟩
set_option maxHeartbeats 4000000 in
set_option maxRecDepth 100000 in
theorem c_X6_soonestOf (t : Nat → Int32) (b : Int32) (a : Int32) (hW : okWM (vw t)) (z : Nat) (hz : t 0 = nI z) (hz6 : z ≤ 6) (hkz : ∀ i, i < z → okK (vw t) i) : MetA yX6_soonestOf (.code yX6_soonestOf cX6_soonestOf 7 (some .int) :: TT) rmX6_soonestOf [.ref 0, .int a, .int b] ([.inl (0, 36, .inl t)]) (fun vr wr => vr = some (.int (soonM (vw t) z a b)) ∧ wr = [.inl (0, 36, .inl t)]) 0 0 := by
  refine MetA.of_i (by decide) (fun _ => Nat.le_of_ble_eq_true rfl) (Nat.le_of_ble_eq_true rfl) (fun g C E => ?_)
  replace C : Sem cX6_soonestOf RX6 "soonestOf" 7 rmX6_soonestOf g := C
  show g 0 0 ([.inl (0, 36, .inl t)]) 0 [some (.ref 0), some (.int a), some (.int b), none, none, none, none] []
  refine r_iconst (pc := 0) (v := 1) C dX6_soonestOf_0 (by decide) ?_
  refine r_iload_n (pc := 1) C dX6_soonestOf_1 rfl rfl ?_
  refine r_ishl (pc := 2) C dX6_soonestOf_2 ?_
  refine r_istore_n (pc := 3) (lv' := [some (.ref 0), some (.int a), some (.int b), some (.int (1 <<< (a &&& 31))), none, none, none]) C dX6_soonestOf_3 rfl (Nat.le_of_ble_eq_true rfl) trivial rfl ?_
  refine r_iconst (pc := 4) (v := 0) C dX6_soonestOf_4 (by decide) ?_
  refine r_istore (pc := 5) (lv' := [some (.ref 0), some (.int a), some (.int b), some (.int (1 <<< (a &&& 31))), some (.int 0), none, none]) C dX6_soonestOf_5 (Nat.le_of_ble_eq_true rfl) trivial rfl ?_
  exact lp_X6_soonestOf t b a hW z hz hz6 hkz C E 61 0 (by omega) rfl
set_option maxHeartbeats 4000000 in
set_option maxRecDepth 100000 in
theorem lp_X6_copies (n0 n1 : Nat) (hn0 : n0 < 2 ^ 31) (hn1 : n1 < 2 ^ 31) (f u : Nat → Int32) (i j : Nat) (hi : i + 36 ≤ n0) (hj : j + 36 ≤ n1) {g : Nat → Nat → List xE → Nat → List (Option Value) → List Value → Prop} (C : Sem cX6_copies RX6 "copies" 5 rmX6_copies g) (E : xEv g cX6_copies 0 0 (fun vr wr => vr = none ∧ wr = [.inl (0, n0, .inl f), .inl (0, n1, .inl (va_cpy f u i j 36))])) : ∀ (n : Nat) (k : Nat), k + n = 36 → g 0 0 ([.inl (0, n0, .inl f), .inl (0, n1, .inl (va_cpy f u i j k))]) 3 [some (.ref 0), some (.int (nI i)), some (.ref 1), some (.int (nI j)), some (.int (nI k))] [] := by
  intro n
  induction n with
  | zero =>
    intro k hk
    refine r_iload (pc := 3) C dX6_copies_3 rfl ?_
    refine r_bipush (pc := 5) (v := 36) C dX6_copies_5 (by decide) ?_
    refine r_icmp_ge (pc := 7) (tgt := 28) C dX6_copies_7 (by decide) (fun _ => ?_) (fun h => absurd (nI_le (a := 36) (by omega) (by omega)) h)
    obtain rfl : k = 36 := by omega
    exact E _ _ _ _ _ dX6_copies_28 (Nat.le_refl _) (Nat.le_refl _) ⟨rfl, rfl⟩
  | succ n ih =>
    intro k hk
    refine r_iload (pc := 3) C dX6_copies_3 rfl ?_
    refine r_bipush (pc := 5) (v := 36) C dX6_copies_5 (by decide) ?_
    refine r_icmp_ge (pc := 7) (tgt := 28) C dX6_copies_7 (by decide) (fun h => absurd h (nI_ge (b := 36) (by omega) (by omega))) (fun _ => ?_)
    refine r_aload_n (pc := 10) C dX6_copies_10 rfl rfl ?_
    refine r_iload_n (pc := 11) C dX6_copies_11 rfl rfl ?_
    refine r_iload (pc := 12) C dX6_copies_12 rfl ?_
    refine r_iadd (pc := 14) C dX6_copies_14 ?_
    refine r_aload_n (pc := 15) C dX6_copies_15 rfl rfl ?_
    refine r_iload_n (pc := 16) C dX6_copies_16 rfl rfl ?_
    refine r_iload (pc := 17) C dX6_copies_17 rfl ?_
    refine r_iadd (pc := 19) C dX6_copies_19 ?_
    refine r_iaload (pc := 20) (v := f (i + k)) C (i + k) dX6_copies_20 rfl (nI_sum rfl rfl) (by first | assumption | omega) rfl ?_ (hN := hn0)
    refine r_iastore (pc := 21) (θ' := [.inl (0, n0, .inl f), .inl (0, n1, .inl (upd (va_cpy f u i j k) (j + k) (f (i + k))))]) C (j + k) dX6_copies_21 rfl (nI_sum rfl rfl) (by first | assumption | omega) rfl ?_ (hN := hn1)
    refine r_iinc (pc := 22) (v := nI (k + 1)) (lv' := [some (.ref 0), some (.int (nI i)), some (.ref 1), some (.int (nI j)), some (.int (nI (k + 1)))]) C dX6_copies_22 rfl (nI_1 k) trivial rfl ?_
    refine r_goto (pc := 25) (tgt := 3) C dX6_copies_25 (by decide) ?_
    show g 0 0 ([.inl (0, n0, .inl f), .inl (0, n1, .inl (upd (va_cpy f u i j k) (j + k) (f (i + k))))]) 3 [some (.ref 0), some (.int (nI i)), some (.ref 1), some (.int (nI j)), some (.int (nI (k + 1)))] []
    rw [show (upd (va_cpy f u i j k) (j + k) (f (i + k))) = va_cpy f u i j (k + 1) from cpy_step f u i j k]
    exact ih (k + 1) (by omega)
set_option maxHeartbeats 4000000 in
set_option maxRecDepth 100000 in
theorem c_X6_copies (n0 n1 : Nat) (hn0 : n0 < 2 ^ 31) (hn1 : n1 < 2 ^ 31) (f u : Nat → Int32) (i j : Nat) (hi : i + 36 ≤ n0) (hj : j + 36 ≤ n1) : MetA yX6_copies (.code yX6_copies cX6_copies 5 none :: TT) rmX6_copies [.ref 0, .int (nI i), .ref 1, .int (nI j)] ([.inl (0, n0, .inl f), .inl (0, n1, .inl u)]) (fun vr wr => vr = none ∧ wr = [.inl (0, n0, .inl f), .inl (0, n1, .inl (va_cpy f u i j 36))]) 0 0 := by
  refine MetA.of_v (by decide) (fun _ => Nat.le_of_ble_eq_true rfl) (Nat.le_of_ble_eq_true rfl) (fun g C E => ?_)
  replace C : Sem cX6_copies RX6 "copies" 5 rmX6_copies g := C
  show g 0 0 ([.inl (0, n0, .inl f), .inl (0, n1, .inl u)]) 0 [some (.ref 0), some (.int (nI i)), some (.ref 1), some (.int (nI j)), none] []
  refine r_iconst (pc := 0) (v := 0) C dX6_copies_0 (by decide) ?_
  refine r_istore (pc := 1) (lv' := [some (.ref 0), some (.int (nI i)), some (.ref 1), some (.int (nI j)), some (.int 0)]) C dX6_copies_1 (Nat.le_of_ble_eq_true rfl) trivial rfl ?_
  have h0 := lp_X6_copies n0 n1 hn0 hn1 f u i j hi hj C E 36 0 (by omega)
  rw [cpy_zero] at h0
  exact h0
