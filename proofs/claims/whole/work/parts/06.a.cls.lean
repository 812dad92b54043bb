def rmX5_row : Room := { frames := 2, cells := 0, slots := 0, locals := 41 }
def rmX5_set : Room := { frames := 2, cells := 0, slots := 0, locals := 41 }
def rmX5_copy : Room := { frames := 2, cells := 0, slots := 0, locals := 60 }
def rmX5_drop : Room := { frames := 2, cells := 0, slots := 0, locals := 41 }
def rmX5_feed : Room := { frames := 1, cells := 0, slots := 0, locals := 21 }
def rmX5_forest : Room := { frames := 6, cells := 0, slots := 0, locals := 134 }
def rmX5_fault : Room := { frames := 0, cells := 0, slots := 0, locals := 0 }
def rmX5_minutes : Room := { frames := 3, cells := 0, slots := 0, locals := 69 }
def rmX5_sling : Room := { frames := 3, cells := 0, slots := 0, locals := 66 }
def rmX5_load : Room := { frames := 2, cells := 0, slots := 0, locals := 42 }
def rmX5_cord : Room := { frames := 2, cells := 0, slots := 0, locals := 42 }
def rmX5_undo : Room := { frames := 1, cells := 0, slots := 0, locals := 23 }
def rmX5_hammock : Room := { frames := 3, cells := 0, slots := 0, locals := 66 }
def rmX5_ahead : Room := { frames := 3, cells := 0, slots := 0, locals := 66 }
def rmX5_down : Room := { frames := 3, cells := 0, slots := 0, locals := 69 }
def rmX5_reach : Room := { frames := 5, cells := 0, slots := 0, locals := 113 }
def rmX5_meet : Room := { frames := 4, cells := 0, slots := 0, locals := 88 }
def rmX5_soonest : Room := { frames := 5, cells := 0, slots := 0, locals := 113 }
def rmX5_hands : Room := { frames := 5, cells := 0, slots := 0, locals := 113 }
def rmX5_everywhere : Room := { frames := 5, cells := 0, slots := 0, locals := 113 }
def rmX5_stops : Room := { frames := 5, cells := 0, slots := 0, locals := 113 }
def rmX5_toSling : Room := { frames := 5, cells := 0, slots := 0, locals := 113 }
def rmX5_fits : Room := { frames := 7, cells := 0, slots := 0, locals := 164 }
def rmX5_breaks : Room := { frames := 5, cells := 0, slots := 0, locals := 113 }
def rmX5_image : Room := { frames := 2, cells := 0, slots := 0, locals := 81 }
def rmX5_restore : Room := { frames := 2, cells := 0, slots := 0, locals := 81 }
def rmX5_kind : Room := { frames := 2, cells := 0, slots := 0, locals := 42 }
def rmX5_as : Room := { frames := 2, cells := 0, slots := 0, locals := 42 }
def rmX5_trace : Room := { frames := 1, cells := 0, slots := 0, locals := 21 }
def rmX5_count : Room := { frames := 1, cells := 0, slots := 0, locals := 22 }
def rmX5_status : Room := { frames := 0, cells := 0, slots := 0, locals := 0 }
def rmX5_isRow : Room := { frames := 1, cells := 0, slots := 0, locals := 21 }
def rmX5_isAhead : Room := { frames := 0, cells := 0, slots := 0, locals := 0 }
def rmX5_isHammock : Room := { frames := 1, cells := 0, slots := 0, locals := 21 }
def rmX5_areTwo : Room := { frames := 2, cells := 0, slots := 0, locals := 42 }
def rmX5_finds : Room := { frames := 0, cells := 0, slots := 0, locals := 0 }
def rmX5_countRows : Room := { frames := 0, cells := 0, slots := 0, locals := 0 }
def rmX5_fittingKinds : Room := { frames := 4, cells := 0, slots := 0, locals := 91 }
def rmX5_fittingSwings : Room := { frames := 4, cells := 0, slots := 0, locals := 91 }
def rmX5_fittingWeights : Room := { frames := 6, cells := 0, slots := 0, locals := 138 }
def rmX5_wasThere : Room := { frames := 3, cells := 0, slots := 0, locals := 66 }
def rmX5_wasReached : Room := { frames := 5, cells := 0, slots := 0, locals := 113 }
def rmX5_partsOf : Room := { frames := 1, cells := 0, slots := 0, locals := 21 }
def rmX5_partsOfAll : Room := { frames := 1, cells := 0, slots := 0, locals := 21 }
def rmX5_commonDivisor : Room := { frames := 0, cells := 0, slots := 0, locals := 0 }
def rmX5_isOfKind : Room := { frames := 0, cells := 0, slots := 0, locals := 0 }
def rmX5_nearestBody : Room := { frames := 0, cells := 0, slots := 0, locals := 0 }
/-! ===== the class ===== -/
def ix (h : Int32) : Nat := h.toNatClampNeg
theorem ix_nI {j : Nat} (h : j < 2 ^ 31) : ix (nI j) = j := nI_clamp h
theorem bel_ex {h x : Int32} {z : Nat} (hz : x = nI z) (hz6 : z < 2 ^ 31) (hb : belS h x = true) : ∃ j, j < z ∧ h = nI j := by
  subst hz
  unfold belS at hb
  simp only [Bool.and_eq_true, Bool.not_eq_true', decide_eq_false_iff_not] at hb
  obtain ⟨j, hj, rfl⟩ := nI_of hb.1
  exact ⟨j, Nat.lt_of_not_le (fun z' => hb.2 (nI_le z' hj)), rfl⟩
theorem bel02 : (belS 0 2 = true) = True := by simp [belS]
def ahB (d : Int32) : Bool := !decide (d < 0) && !decide (60 < d)
theorem ah_ex {d : Int32} (hb : ahB d = true) : ∃ j, j ≤ 60 ∧ d = nI j := by
  unfold ahB at hb
  simp only [Bool.and_eq_true, Bool.not_eq_true', decide_eq_false_iff_not] at hb
  exact nI_of2 (M := 60) rfl hb.1 (Int32.not_lt.mp hb.2)
def twB (S : Nat → Nat → Nat → Int32) (a b : Int32) : Bool := belS a (S 2 9 0) && belS b (S 2 9 0) && !decide (a = b)
/-- the class's state is sound -/
def okS (S : Nat → Nat → Nat → Int32) (z : Nat) : Prop := S 2 9 0 = nI z ∧ z ≤ 6 ∧ okW (S 2)
set_option maxHeartbeats 4000000 in
set_option maxRecDepth 100000 in
theorem c_X5_isRow (r : Int32) : MetA yX5_isRow (.code yX5_isRow cX5_isRow 1 (some .boolean) :: TT) rmX5_isRow [.int r] ([]) (fun vr wr => vr = some (.int (bB (belS r 8))) ∧ wr = []) 0 0 := by
  refine MetA.of_i (by decide) (fun _ => Nat.le_of_ble_eq_true rfl) (Nat.le_of_ble_eq_true rfl) (fun g C E => ?_)
  replace C : Sem cX5_isRow RX5 "isRow" 1 rmX5_isRow g := C
  show g 0 0 ([]) 0 [some (.int r)] []
  refine r_iload_n (pc := 0) C dX5_isRow_0 rfl rfl ?_
  refine r_bipush (pc := 1) (v := 8) C dX5_isRow_1 (by decide) ?_
  refine r_callS0 (pc := 3) (As := [.int r, .int 8]) (st := []) C (c_X5_isBelow r 8) xm_X5_isBelow xk_X5_59 dX5_isRow_3 (fun _ => rfl) (fun _ => rfl) rfl rfl (Nat.le_of_ble_eq_true rfl) ⟨Nat.le_of_ble_eq_true rfl, Nat.le_of_ble_eq_true rfl⟩ ⟨rfl, rfl⟩ ⟨Nat.le_of_ble_eq_true rfl, Nat.le_of_ble_eq_true rfl⟩ rfl ?_
  show g 0 0 ([]) 6 [some (.int r)] [.int (bB (belS r 8))]
  exact E _ _ _ _ _ _ dX5_isRow_6 (Nat.le_refl _) (Nat.le_refl _) (bB_nar _) ⟨congrArg (fun z => some (Value.int z)) (by simp []), rfl⟩
set_option maxHeartbeats 4000000 in
set_option maxRecDepth 100000 in
theorem c_X5_isAhead (d : Int32) : MetA yX5_isAhead (.code yX5_isAhead cX5_isAhead 1 (some .boolean) :: TT) rmX5_isAhead [.int d] ([]) (fun vr wr => vr = some (.int (bB (ahB d))) ∧ wr = []) 0 0 := by
  refine MetA.of_i (by decide) (fun _ => Nat.le_of_ble_eq_true rfl) (Nat.le_of_ble_eq_true rfl) (fun g C E => ?_)
  replace C : Sem cX5_isAhead RX5 "isAhead" 1 rmX5_isAhead g := C
  show g 0 0 ([]) 0 [some (.int d)] []
  refine r_iload_n (pc := 0) C dX5_isAhead_0 rfl rfl ?_
  refine r_if_lt (pc := 1) (tgt := 14) C dX5_isAhead_1 (by decide) (fun h_1 => ?_) (fun h_1 => ?_)
  · skip
    refine r_iconst (pc := 14) (v := 0) C dX5_isAhead_14 (by decide) ?_
    exact E _ _ _ _ _ _ dX5_isAhead_15 (Nat.le_refl _) (Nat.le_refl _) rfl ⟨congrArg (fun z => some (Value.int z)) (by simp [ahB, bB, h_1]), rfl⟩
  · skip
    refine r_iload_n (pc := 4) C dX5_isAhead_4 rfl rfl ?_
    refine r_bipush (pc := 5) (v := 60) C dX5_isAhead_5 (by decide) ?_
    refine r_icmp_gt (pc := 7) (tgt := 14) C dX5_isAhead_7 (by decide) (fun h_7 => ?_) (fun h_7 => ?_)
    · skip
      refine r_iconst (pc := 14) (v := 0) C dX5_isAhead_14 (by decide) ?_
      exact E _ _ _ _ _ _ dX5_isAhead_15 (Nat.le_refl _) (Nat.le_refl _) rfl ⟨congrArg (fun z => some (Value.int z)) (by simp [ahB, bB, h_1, h_7]), rfl⟩
    · skip
      refine r_iconst (pc := 10) (v := 1) C dX5_isAhead_10 (by decide) ?_
      refine r_goto (pc := 11) (tgt := 15) C dX5_isAhead_11 (by decide) ?_
      exact E _ _ _ _ _ _ dX5_isAhead_15 (Nat.le_refl _) (Nat.le_refl _) rfl ⟨congrArg (fun z => some (Value.int z)) (by simp [ahB, bB, h_1, h_7]), rfl⟩
set_option maxHeartbeats 4000000 in
set_option maxRecDepth 100000 in
theorem c_X5_isHammock (S : Nat → Nat → Nat → Int32) (h : Int32) : MetA yX5_isHammock (.code yX5_isHammock cX5_isHammock 2 (some .boolean) :: TT) rmX5_isHammock [.ref 0, .int h] (wC S) (fun vr wr => vr = some (.int (bB (belS h (S 2 9 0)))) ∧ wr = wC S) 0 0 := by
  refine MetA.of_i (by decide) (fun _ => Nat.le_of_ble_eq_true rfl) (Nat.le_of_ble_eq_true rfl) (fun g C E => ?_)
  replace C : Sem cX5_isHammock RX5 "isHammock" 2 rmX5_isHammock g := C
  show g 0 0 (wC S) 0 [some (.ref 0), some (.int h)] []
  refine r_iload_n (pc := 0) C dX5_isHammock_0 rfl rfl ?_
  refine r_aload_n (pc := 1) C dX5_isHammock_1 rfl rfl ?_
  refine r_getfield (pc := 2) (v := .ref 20) C xf_X5_25 dX5_isHammock_2 rfl rfl ?_
  refine r_getfield (pc := 5) (v := .int ((S 2) 9 0)) C xf_X5_119 dX5_isHammock_5 rfl rfl ?_
  refine r_callS0 (pc := 8) (As := [.int h, .int ((S 2) 9 0)]) (st := []) C (c_X5_isBelow h ((S 2) 9 0)) xm_X5_isBelow xk_X5_59 dX5_isHammock_8 (fun _ => rfl) (fun _ => rfl) rfl rfl (Nat.le_of_ble_eq_true rfl) ⟨Nat.le_of_ble_eq_true rfl, Nat.le_of_ble_eq_true rfl⟩ ⟨rfl, rfl⟩ ⟨Nat.le_of_ble_eq_true rfl, Nat.le_of_ble_eq_true rfl⟩ rfl ?_
  show g 0 0 (wC S) 11 [some (.ref 0), some (.int h)] [.int (bB (belS h ((S 2) 9 0)))]
  exact E _ _ _ _ _ _ dX5_isHammock_11 (Nat.le_refl _) (Nat.le_refl _) (bB_nar _) ⟨congrArg (fun z => some (Value.int z)) (by simp []), rfl⟩
set_option maxHeartbeats 4000000 in
set_option maxRecDepth 100000 in
theorem c_X5_areTwo (S : Nat → Nat → Nat → Int32) (a b : Int32) : MetA yX5_areTwo (.code yX5_areTwo cX5_areTwo 3 (some .boolean) :: TT) rmX5_areTwo [.ref 0, .int a, .int b] (wC S) (fun vr wr => vr = some (.int (bB (twB S a b))) ∧ wr = wC S) 0 0 := by
  refine MetA.of_i (by decide) (fun _ => Nat.le_of_ble_eq_true rfl) (Nat.le_of_ble_eq_true rfl) (fun g C E => ?_)
  replace C : Sem cX5_areTwo RX5 "areTwo" 3 rmX5_areTwo g := C
  show g 0 0 (wC S) 0 [some (.ref 0), some (.int a), some (.int b)] []
  refine r_aload_n (pc := 0) C dX5_areTwo_0 rfl rfl ?_
  refine r_iload_n (pc := 1) C dX5_areTwo_1 rfl rfl ?_
  refine r_callV0 (pc := 2) (As := [.int a]) (st := []) (θ' := wC S) C (c_X5_isHammock S a) xm_X5_isHammock xk_X5_138 dX5_areTwo_2 rfl rfl rfl rfl (Nat.le_of_ble_eq_true rfl) ⟨Nat.le_of_ble_eq_true rfl, Nat.le_of_ble_eq_true rfl⟩ ⟨rfl, rfl⟩ ⟨Nat.le_of_ble_eq_true rfl, Nat.le_of_ble_eq_true rfl⟩ rfl (Eq.trans (b := 55) rfl rfl) ?_
  show g 0 0 (wC S) 5 [some (.ref 0), some (.int a), some (.int b)] [.int (bB (belS a ((S 2) 9 0)))]
  refine r_if_eq (pc := 5) (tgt := 25) C dX5_areTwo_5 (by decide) (fun h_5 => ?_) (fun h_5 => ?_)
  · replace h_5 := bB_f h_5
    refine r_iconst (pc := 25) (v := 0) C dX5_areTwo_25 (by decide) ?_
    exact E _ _ _ _ _ _ dX5_areTwo_26 (Nat.le_refl _) (Nat.le_refl _) rfl ⟨congrArg (fun z => some (Value.int z)) (by simp [twB, bB, h_5]), rfl⟩
  · replace h_5 := bB_t h_5
    refine r_aload_n (pc := 8) C dX5_areTwo_8 rfl rfl ?_
    refine r_iload_n (pc := 9) C dX5_areTwo_9 rfl rfl ?_
    refine r_callV0 (pc := 10) (As := [.int b]) (st := []) (θ' := wC S) C (c_X5_isHammock S b) xm_X5_isHammock xk_X5_138 dX5_areTwo_10 rfl rfl rfl rfl (Nat.le_of_ble_eq_true rfl) ⟨Nat.le_of_ble_eq_true rfl, Nat.le_of_ble_eq_true rfl⟩ ⟨rfl, rfl⟩ ⟨Nat.le_of_ble_eq_true rfl, Nat.le_of_ble_eq_true rfl⟩ rfl (Eq.trans (b := 55) rfl rfl) ?_
    show g 0 0 (wC S) 13 [some (.ref 0), some (.int a), some (.int b)] [.int (bB (belS b ((S 2) 9 0)))]
    refine r_if_eq (pc := 13) (tgt := 25) C dX5_areTwo_13 (by decide) (fun h_13 => ?_) (fun h_13 => ?_)
    · replace h_13 := bB_f h_13
      refine r_iconst (pc := 25) (v := 0) C dX5_areTwo_25 (by decide) ?_
      exact E _ _ _ _ _ _ dX5_areTwo_26 (Nat.le_refl _) (Nat.le_refl _) rfl ⟨congrArg (fun z => some (Value.int z)) (by simp [twB, bB, h_5, h_13]), rfl⟩
    · replace h_13 := bB_t h_13
      refine r_iload_n (pc := 16) C dX5_areTwo_16 rfl rfl ?_
      refine r_iload_n (pc := 17) C dX5_areTwo_17 rfl rfl ?_
      refine r_icmp_eq (pc := 18) (tgt := 25) C dX5_areTwo_18 (by decide) (fun h_18 => ?_) (fun h_18 => ?_)
      · skip
        refine r_iconst (pc := 25) (v := 0) C dX5_areTwo_25 (by decide) ?_
        exact E _ _ _ _ _ _ dX5_areTwo_26 (Nat.le_refl _) (Nat.le_refl _) rfl ⟨congrArg (fun z => some (Value.int z)) (by simp [twB, bB, h_5, h_13, h_18]), rfl⟩
      · skip
        refine r_iconst (pc := 21) (v := 1) C dX5_areTwo_21 (by decide) ?_
        refine r_goto (pc := 22) (tgt := 26) C dX5_areTwo_22 (by decide) ?_
        exact E _ _ _ _ _ _ dX5_areTwo_26 (Nat.le_refl _) (Nat.le_refl _) rfl ⟨congrArg (fun z => some (Value.int z)) (by simp [twB, bB, h_5, h_13, h_18]), rfl⟩
set_option maxHeartbeats 4000000 in
set_option maxRecDepth 100000 in
theorem c_X5_finds (S : Nat → Nat → Nat → Int32) (n : Int32) : MetA yX5_finds (.code yX5_finds cX5_finds 2 (some .int) :: TT) rmX5_finds [.ref 0, .int n] (wC S) (fun vr wr => vr = some (.int ((-1000010) - n)) ∧ wr = wC (up3 S 0 (up2 (S 0) 9 (k1 n)))) 0 0 := by
  refine MetA.of_i (by decide) (fun _ => Nat.le_of_ble_eq_true rfl) (Nat.le_of_ble_eq_true rfl) (fun g C E => ?_)
  replace C : Sem cX5_finds RX5 "finds" 2 rmX5_finds g := C
  show g 0 0 (wC S) 0 [some (.ref 0), some (.int n)] []
  refine r_aload_n (pc := 0) C dX5_finds_0 rfl rfl ?_
  refine r_iload_n (pc := 1) C dX5_finds_1 rfl rfl ?_
  refine r_putfield (pc := 2) (θ' := wC (up3 S 0 (up2 (S 0) 9 (k1 n)))) C xf_X5_68 xt_X5_9 dX5_finds_2 rfl (Nat.le_of_ble_eq_true rfl) (fun _ => ⟨rfl, rfl⟩) rfl ?_
  refine r_ldc (pc := 5) (v := (-1000010)) C dX5_finds_5 tw_221 ?_
  refine r_iload_n (pc := 7) C dX5_finds_7 rfl rfl ?_
  refine r_isub (pc := 8) C dX5_finds_8 ?_
  exact E _ _ _ _ _ _ dX5_finds_9 (Nat.le_refl _) (Nat.le_refl _) rfl ⟨congrArg (fun z => some (Value.int z)) (by simp []), rfl⟩
def kindC (S : Nat → Nat → Nat → Int32) (h : Int32) : Int32 := if belS h (S 2 9 0) then S 2 0 (ix h) else -1000001
def aheadC (S : Nat → Nat → Nat → Int32) (h d w : Int32) : Int32 := if belS h (S 2 9 0) then (if ahB d then (if belS w 2 then (if w = 0 then plS (S 2) (ix h) (S 2 8 0 + d) else dipS (S 2) (ix h) (S 2 8 0 + d)) else -1000001) else -1000001) else -1000001
def downC (S : Nat → Nat → Nat → Int32) (z : Nat) (d : Int32) : Int32 := if S 2 5 0 = 0 then -1000002 else (if ahB d then bitsS (fun h => downS (S 2) h (S 2 8 0 + d)) z else -1000001)
def nearC (F : Nat → Nat → Int32) (z j : Nat) (m : Int32) : Int32 := bitsS (fun o => !decide (o = j) && nrS F (spS F j m) (spS F o m)) z
def reachC (S : Nat → Nat → Nat → Int32) (z : Nat) (h d : Int32) : Int32 := if belS h (S 2 9 0) then (if ahB d then nearC (S 2) z (ix h) (S 2 8 0 + d) else -1000001) else -1000001
def traceC (S : Nat → Nat → Nat → Int32) (i : Int32) : Int32 := if belS i (S 0 8 0) then S 0 7 (ix i) else -1000000
set_option maxHeartbeats 4000000 in
set_option maxRecDepth 100000 in
theorem c_X5_kind (S : Nat → Nat → Nat → Int32) (h : Int32) (z : Nat) (hS : okS S z) : MetA yX5_kind (.code yX5_kind cX5_kind 2 (some .int) :: TT) rmX5_kind [.ref 0, .int h] (wC S) (fun vr wr => vr = some (.int (kindC S h)) ∧ wr = wC S) 0 0 := by
  refine MetA.of_i (by decide) (fun _ => Nat.le_of_ble_eq_true rfl) (Nat.le_of_ble_eq_true rfl) (fun g C E => ?_)
  replace C : Sem cX5_kind RX5 "kind" 2 rmX5_kind g := C
  show g 0 0 (wC S) 0 [some (.ref 0), some (.int h)] []
  refine r_aload_n (pc := 0) C dX5_kind_0 rfl rfl ?_
  refine r_iload_n (pc := 1) C dX5_kind_1 rfl rfl ?_
  refine r_callV0 (pc := 2) (As := [.int h]) (st := []) (θ' := wC S) C (c_X5_isHammock S h) xm_X5_isHammock xk_X5_138 dX5_kind_2 rfl rfl rfl rfl (Nat.le_of_ble_eq_true rfl) ⟨Nat.le_of_ble_eq_true rfl, Nat.le_of_ble_eq_true rfl⟩ ⟨rfl, rfl⟩ ⟨Nat.le_of_ble_eq_true rfl, Nat.le_of_ble_eq_true rfl⟩ rfl (Eq.trans (b := 55) rfl rfl) ?_
  show g 0 0 (wC S) 5 [some (.ref 0), some (.int h)] [.int (bB (belS h ((S 2) 9 0)))]
  refine r_if_eq (pc := 5) (tgt := 20) C dX5_kind_5 (by decide) (fun h_5 => ?_) (fun h_5 => ?_)
  · replace h_5 := bB_f h_5
    refine r_ldc (pc := 20) (v := (-1000001)) C dX5_kind_20 tw_216 ?_
    show g 0 0 (wC S) 22 [some (.ref 0), some (.int h)] [.int (-1000001)]
    exact E _ _ _ _ _ _ dX5_kind_22 (Nat.le_refl _) (Nat.le_refl _) rfl ⟨congrArg (fun z => some (Value.int z)) (by simp only [kindC, h_5, if_true, if_false, Bool.false_eq_true] <;> (try rfl) <;> (try (repeat rw [ix_nI (by omega)]))), rfl⟩
  · replace h_5 := bB_t h_5
    obtain ⟨j, hj, rfl⟩ := bel_ex hS.1 (by have := hS.2.1; omega) h_5
    have hj6 : j < 6 := by have := hS.2.1; omega
    refine r_aload_n (pc := 8) C dX5_kind_8 rfl rfl ?_
    refine r_getfield (pc := 9) (v := .ref 20) C xf_X5_25 dX5_kind_9 rfl rfl ?_
    refine r_getfield (pc := 12) (v := .ref 21) C xf_X5_226 dX5_kind_12 rfl rfl ?_
    refine r_iload_n (pc := 15) C dX5_kind_15 rfl rfl ?_
    refine r_iaload (pc := 16) (v := (S 2) 0 j) C j dX5_kind_16 rfl rfl (by first | assumption | omega) rfl ?_
    refine r_goto (pc := 17) (tgt := 22) C dX5_kind_17 (by decide) ?_
    show g 0 0 (wC S) 22 [some (.ref 0), some (.int (nI j))] [.int ((S 2) 0 j)]
    exact E _ _ _ _ _ _ dX5_kind_22 (Nat.le_refl _) (Nat.le_refl _) rfl ⟨congrArg (fun z => some (Value.int z)) (by simp only [kindC, h_5, if_true, if_false, Bool.false_eq_true] <;> (try rfl) <;> (try (repeat rw [ix_nI (by omega)]))), rfl⟩
set_option maxHeartbeats 4000000 in
set_option maxRecDepth 100000 in
theorem c_X5_fault (S : Nat → Nat → Nat → Int32) : MetA yX5_fault (.code yX5_fault cX5_fault 1 (some .int) :: TT) rmX5_fault [.ref 0] (wC S) (fun vr wr => vr = some (.int (S 1 3 0)) ∧ wr = wC S) 0 0 := by
  refine MetA.of_i (by decide) (fun _ => Nat.le_of_ble_eq_true rfl) (Nat.le_of_ble_eq_true rfl) (fun g C E => ?_)
  replace C : Sem cX5_fault RX5 "fault" 1 rmX5_fault g := C
  show g 0 0 (wC S) 0 [some (.ref 0)] []
  refine r_aload_n (pc := 0) C dX5_fault_0 rfl rfl ?_
  refine r_getfield (pc := 1) (v := .ref 18) C xf_X5_18 dX5_fault_1 rfl rfl ?_
  refine r_getfield (pc := 4) (v := .int ((S 1) 3 0)) C xf_X5_120 dX5_fault_4 rfl rfl ?_
  exact E _ _ _ _ _ _ dX5_fault_7 (Nat.le_refl _) (Nat.le_refl _) rfl ⟨congrArg (fun z => some (Value.int z)) (by simp []), rfl⟩
set_option maxHeartbeats 4000000 in
set_option maxRecDepth 100000 in
theorem c_X5_status (S : Nat → Nat → Nat → Int32) : MetA yX5_status (.code yX5_status cX5_status 1 (some .int) :: TT) rmX5_status [.ref 0] (wC S) (fun vr wr => vr = some (.int (S 0 9 0)) ∧ wr = wC S) 0 0 := by
  refine MetA.of_i (by decide) (fun _ => Nat.le_of_ble_eq_true rfl) (Nat.le_of_ble_eq_true rfl) (fun g C E => ?_)
  replace C : Sem cX5_status RX5 "status" 1 rmX5_status g := C
  show g 0 0 (wC S) 0 [some (.ref 0)] []
  refine r_aload_n (pc := 0) C dX5_status_0 rfl rfl ?_
  refine r_getfield (pc := 1) (v := .int ((S 0) 9 0)) C xf_X5_68 dX5_status_1 rfl rfl ?_
  exact E _ _ _ _ _ _ dX5_status_4 (Nat.le_refl _) (Nat.le_refl _) rfl ⟨congrArg (fun z => some (Value.int z)) (by simp []), rfl⟩
set_option maxHeartbeats 4000000 in
set_option maxRecDepth 100000 in
theorem c_X5_ahead (S : Nat → Nat → Nat → Int32) (h d w : Int32) (z : Nat) (hS : okS S z) : MetA yX5_ahead (.code yX5_ahead cX5_ahead 5 (some .int) :: TT) rmX5_ahead [.ref 0, .int h, .int d, .int w] (wC S) (fun vr wr => vr = some (.int (aheadC S h d w)) ∧ wr = wC S) 0 0 := by
  refine MetA.of_i (by decide) (fun _ => Nat.le_of_ble_eq_true rfl) (Nat.le_of_ble_eq_true rfl) (fun g C E => ?_)
  replace C : Sem cX5_ahead RX5 "ahead" 5 rmX5_ahead g := C
  show g 0 0 (wC S) 0 [some (.ref 0), some (.int h), some (.int d), some (.int w), none] []
  refine r_aload_n (pc := 0) C dX5_ahead_0 rfl rfl ?_
  refine r_iload_n (pc := 1) C dX5_ahead_1 rfl rfl ?_
  refine r_callV0 (pc := 2) (As := [.int h]) (st := []) (θ' := wC S) C (c_X5_isHammock S h) xm_X5_isHammock xk_X5_138 dX5_ahead_2 rfl rfl rfl rfl (Nat.le_of_ble_eq_true rfl) ⟨Nat.le_of_ble_eq_true rfl, Nat.le_of_ble_eq_true rfl⟩ ⟨rfl, rfl⟩ ⟨Nat.le_of_ble_eq_true rfl, Nat.le_of_ble_eq_true rfl⟩ rfl (Eq.trans (b := 55) rfl rfl) ?_
  show g 0 0 (wC S) 5 [some (.ref 0), some (.int h), some (.int d), some (.int w), none] [.int (bB (belS h ((S 2) 9 0)))]
  refine r_if_eq (pc := 5) (tgt := 23) C dX5_ahead_5 (by decide) (fun h_5 => ?_) (fun h_5 => ?_)
  · replace h_5 := bB_f h_5
    refine r_ldc (pc := 23) (v := (-1000001)) C dX5_ahead_23 tw_216 ?_
    show g 0 0 (wC S) 25 [some (.ref 0), some (.int h), some (.int d), some (.int w), none] [.int (-1000001)]
    exact E _ _ _ _ _ _ dX5_ahead_25 (Nat.le_refl _) (Nat.le_refl _) rfl ⟨congrArg (fun z => some (Value.int z)) (by simp only [aheadC, bel02, h_5, if_true, if_false, Bool.false_eq_true] <;> (try rfl) <;> (try (repeat rw [ix_nI (by omega)]))), rfl⟩
  · replace h_5 := bB_t h_5
    obtain ⟨j, hj, rfl⟩ := bel_ex hS.1 (by have := hS.2.1; omega) h_5
    have hj6 : j < 6 := by have := hS.2.1; omega
    refine r_iload_n (pc := 8) C dX5_ahead_8 rfl rfl ?_
    refine r_callS0 (pc := 9) (As := [.int d]) (st := []) C (c_X5_isAhead d) xm_X5_isAhead xk_X5_172 dX5_ahead_9 (fun _ => rfl) (fun _ => rfl) rfl rfl (Nat.le_of_ble_eq_true rfl) ⟨Nat.le_of_ble_eq_true rfl, Nat.le_of_ble_eq_true rfl⟩ ⟨rfl, rfl⟩ ⟨Nat.le_of_ble_eq_true rfl, Nat.le_of_ble_eq_true rfl⟩ rfl ?_
    show g 0 0 (wC S) 12 [some (.ref 0), some (.int (nI j)), some (.int d), some (.int w), none] [.int (bB (ahB d))]
    refine r_if_eq (pc := 12) (tgt := 23) C dX5_ahead_12 (by decide) (fun h_12 => ?_) (fun h_12 => ?_)
    · replace h_12 := bB_f h_12
      refine r_ldc (pc := 23) (v := (-1000001)) C dX5_ahead_23 tw_216 ?_
      show g 0 0 (wC S) 25 [some (.ref 0), some (.int (nI j)), some (.int d), some (.int w), none] [.int (-1000001)]
      exact E _ _ _ _ _ _ dX5_ahead_25 (Nat.le_refl _) (Nat.le_refl _) rfl ⟨congrArg (fun z => some (Value.int z)) (by simp only [aheadC, bel02, h_5, h_12, if_true, if_false, Bool.false_eq_true] <;> (try rfl) <;> (try (repeat rw [ix_nI (by omega)]))), rfl⟩
    · replace h_12 := bB_t h_12
      refine r_iload_n (pc := 15) C dX5_ahead_15 rfl rfl ?_
      refine r_iconst (pc := 16) (v := 2) C dX5_ahead_16 (by decide) ?_
      refine r_callS0 (pc := 17) (As := [.int w, .int 2]) (st := []) C (c_X5_isBelow w 2) xm_X5_isBelow xk_X5_59 dX5_ahead_17 (fun _ => rfl) (fun _ => rfl) rfl rfl (Nat.le_of_ble_eq_true rfl) ⟨Nat.le_of_ble_eq_true rfl, Nat.le_of_ble_eq_true rfl⟩ ⟨rfl, rfl⟩ ⟨Nat.le_of_ble_eq_true rfl, Nat.le_of_ble_eq_true rfl⟩ rfl ?_
      show g 0 0 (wC S) 20 [some (.ref 0), some (.int (nI j)), some (.int d), some (.int w), none] [.int (bB (belS w 2))]
      refine r_if_ne (pc := 20) (tgt := 26) C dX5_ahead_20 (by decide) (fun h_20 => ?_) (fun h_20 => ?_)
      · replace h_20 := bB_t h_20
        refine r_aload_n (pc := 26) C dX5_ahead_26 rfl rfl ?_
        refine r_getfield (pc := 27) (v := .ref 20) C xf_X5_25 dX5_ahead_27 rfl rfl ?_
        refine r_getfield (pc := 30) (v := .int ((S 2) 8 0)) C xf_X5_128 dX5_ahead_30 rfl rfl ?_
        refine r_iload_n (pc := 33) C dX5_ahead_33 rfl rfl ?_
        refine r_iadd (pc := 34) C dX5_ahead_34 ?_
        refine r_istore (pc := 35) (lv' := [some (.ref 0), some (.int (nI j)), some (.int d), some (.int w), some (.int (((S 2) 8 0) + d))]) C dX5_ahead_35 (Nat.le_of_ble_eq_true rfl) trivial rfl ?_
        refine r_iload_n (pc := 37) C dX5_ahead_37 rfl rfl ?_
        refine r_if_ne (pc := 38) (tgt := 54) C dX5_ahead_38 (by decide) (fun h_38 => ?_) (fun h_38 => ?_)
        · skip
          refine r_aload_n (pc := 54) C dX5_ahead_54 rfl rfl ?_
          refine r_getfield (pc := 55) (v := .ref 20) C xf_X5_25 dX5_ahead_55 rfl rfl ?_
          refine r_iload_n (pc := 58) C dX5_ahead_58 rfl rfl ?_
          refine r_iload (pc := 59) C dX5_ahead_59 rfl ?_
          refine r_callVD (pc := 61) (b := 20) (As := [.int (nI j), .int (((S 2) 8 0) + d)]) (st := []) (θ2 := wC S) (r2 := some (.int (dipS (S 2) j (((S 2) 8 0) + d)))) C [20, 21, 22, 23, 24, 25] (c_X1_dip (S 2) j (by omega) (((S 2) 8 0) + d)) xm_X1_dip xk_X5_154 dX5_ahead_61 rfl (by decide) rfl rfl rfl rfl rfl (Nat.le_of_ble_eq_true rfl) ⟨Nat.le_of_ble_eq_true rfl, Nat.le_of_ble_eq_true rfl⟩ ⟨rfl, rfl⟩ ⟨Nat.le_of_ble_eq_true rfl, Nat.le_of_ble_eq_true rfl⟩ rfl (Eq.trans (b := 6) rfl rfl) rfl rfl ?_
          show g 0 0 (wC S) 64 [some (.ref 0), some (.int (nI j)), some (.int d), some (.int w), some (.int (((S 2) 8 0) + d))] [.int (dipS (S 2) j (((S 2) 8 0) + d))]
          show g 0 0 (wC S) 64 [some (.ref 0), some (.int (nI j)), some (.int d), some (.int w), some (.int (((S 2) 8 0) + d))] [.int (dipS (S 2) j (((S 2) 8 0) + d))]
          exact E _ _ _ _ _ _ dX5_ahead_64 (Nat.le_refl _) (Nat.le_refl _) rfl ⟨congrArg (fun z => some (Value.int z)) (by simp only [aheadC, bel02, h_5, h_12, h_20, h_38, if_true, if_false, Bool.false_eq_true] <;> (try rfl) <;> (try (repeat rw [ix_nI (by omega)]))), rfl⟩
        · skip
          refine r_aload_n (pc := 41) C dX5_ahead_41 rfl rfl ?_
          refine r_getfield (pc := 42) (v := .ref 20) C xf_X5_25 dX5_ahead_42 rfl rfl ?_
          refine r_iload_n (pc := 45) C dX5_ahead_45 rfl rfl ?_
          refine r_iload (pc := 46) C dX5_ahead_46 rfl ?_
          refine r_callVD (pc := 48) (b := 20) (As := [.int (nI j), .int (((S 2) 8 0) + d)]) (st := []) (θ2 := wC S) (r2 := some (.int (plS (S 2) j (((S 2) 8 0) + d)))) C [20, 21, 22, 23, 24, 25] (c_X1_place (S 2) j (by omega) (((S 2) 8 0) + d) hS.2.2) xm_X1_place xk_X5_147 dX5_ahead_48 rfl (by decide) rfl rfl rfl rfl rfl (Nat.le_of_ble_eq_true rfl) ⟨Nat.le_of_ble_eq_true rfl, Nat.le_of_ble_eq_true rfl⟩ ⟨rfl, rfl⟩ ⟨Nat.le_of_ble_eq_true rfl, Nat.le_of_ble_eq_true rfl⟩ rfl (Eq.trans (b := 6) rfl rfl) rfl rfl ?_
          show g 0 0 (wC S) 51 [some (.ref 0), some (.int (nI j)), some (.int d), some (.int w), some (.int (((S 2) 8 0) + d))] [.int (plS (S 2) j (((S 2) 8 0) + d))]
          refine r_goto (pc := 51) (tgt := 64) C dX5_ahead_51 (by decide) ?_
          show g 0 0 (wC S) 64 [some (.ref 0), some (.int (nI j)), some (.int d), some (.int w), some (.int (((S 2) 8 0) + d))] [.int (plS (S 2) j (((S 2) 8 0) + d))]
          exact E _ _ _ _ _ _ dX5_ahead_64 (Nat.le_refl _) (Nat.le_refl _) rfl ⟨congrArg (fun z => some (Value.int z)) (by simp only [aheadC, bel02, h_5, h_12, h_20, h_38, if_true, if_false, Bool.false_eq_true] <;> (try rfl) <;> (try (repeat rw [ix_nI (by omega)]))), rfl⟩
      · replace h_20 := bB_f h_20
        refine r_ldc (pc := 23) (v := (-1000001)) C dX5_ahead_23 tw_216 ?_
        show g 0 0 (wC S) 25 [some (.ref 0), some (.int (nI j)), some (.int d), some (.int w), none] [.int (-1000001)]
        exact E _ _ _ _ _ _ dX5_ahead_25 (Nat.le_refl _) (Nat.le_refl _) rfl ⟨congrArg (fun z => some (Value.int z)) (by simp only [aheadC, bel02, h_5, h_12, h_20, if_true, if_false, Bool.false_eq_true] <;> (try rfl) <;> (try (repeat rw [ix_nI (by omega)]))), rfl⟩
set_option maxHeartbeats 4000000 in
set_option maxRecDepth 100000 in
theorem c_X5_down (S : Nat → Nat → Nat → Int32) (d : Int32) (z : Nat) (hS : okS S z) : MetA yX5_down (.code yX5_down cX5_down 2 (some .int) :: TT) rmX5_down [.ref 0, .int d] (wC S) (fun vr wr => vr = some (.int (downC S z d)) ∧ wr = wC S) 0 0 := by
  refine MetA.of_i (by decide) (fun _ => Nat.le_of_ble_eq_true rfl) (Nat.le_of_ble_eq_true rfl) (fun g C E => ?_)
  replace C : Sem cX5_down RX5 "down" 2 rmX5_down g := C
  show g 0 0 (wC S) 0 [some (.ref 0), some (.int d)] []
  refine r_aload_n (pc := 0) C dX5_down_0 rfl rfl ?_
  refine r_getfield (pc := 1) (v := .ref 20) C xf_X5_25 dX5_down_1 rfl rfl ?_
  refine r_getfield (pc := 4) (v := .int ((S 2) 5 0)) C xf_X5_123 dX5_down_4 rfl rfl ?_
  refine r_if_ne (pc := 7) (tgt := 13) C dX5_down_7 (by decide) (fun h_7 => ?_) (fun h_7 => ?_)
  · skip
    refine r_iload_n (pc := 13) C dX5_down_13 rfl rfl ?_
    refine r_callS0 (pc := 14) (As := [.int d]) (st := []) C (c_X5_isAhead d) xm_X5_isAhead xk_X5_172 dX5_down_14 (fun _ => rfl) (fun _ => rfl) rfl rfl (Nat.le_of_ble_eq_true rfl) ⟨Nat.le_of_ble_eq_true rfl, Nat.le_of_ble_eq_true rfl⟩ ⟨rfl, rfl⟩ ⟨Nat.le_of_ble_eq_true rfl, Nat.le_of_ble_eq_true rfl⟩ rfl ?_
    show g 0 0 (wC S) 17 [some (.ref 0), some (.int d)] [.int (bB (ahB d))]
    refine r_if_eq (pc := 17) (tgt := 39) C dX5_down_17 (by decide) (fun h_17 => ?_) (fun h_17 => ?_)
    · replace h_17 := bB_f h_17
      refine r_ldc (pc := 39) (v := (-1000001)) C dX5_down_39 tw_216 ?_
      show g 0 0 (wC S) 41 [some (.ref 0), some (.int d)] [.int (-1000001)]
      exact E _ _ _ _ _ _ dX5_down_41 (Nat.le_refl _) (Nat.le_refl _) rfl ⟨congrArg (fun z => some (Value.int z)) (by simp only [downC, h_7, h_17, if_true, if_false, Bool.false_eq_true] <;> (try rfl) <;> (try (repeat rw [ix_nI (by omega)]))), rfl⟩
    · replace h_17 := bB_t h_17
      refine r_aload_n (pc := 20) C dX5_down_20 rfl rfl ?_
      refine r_getfield (pc := 21) (v := .ref 20) C xf_X5_25 dX5_down_21 rfl rfl ?_
      refine r_aload_n (pc := 24) C dX5_down_24 rfl rfl ?_
      refine r_getfield (pc := 25) (v := .ref 20) C xf_X5_25 dX5_down_25 rfl rfl ?_
      refine r_getfield (pc := 28) (v := .int ((S 2) 8 0)) C xf_X5_128 dX5_down_28 rfl rfl ?_
      refine r_iload_n (pc := 31) C dX5_down_31 rfl rfl ?_
      refine r_iadd (pc := 32) C dX5_down_32 ?_
      refine r_callVD (pc := 33) (b := 20) (As := [.int (((S 2) 8 0) + d)]) (st := []) (θ2 := wC S) (r2 := some (.int (bitsS (fun h => downS (S 2) h (((S 2) 8 0) + d)) z))) C [20, 21, 22, 23, 24, 25] (c_X1_downBits (S 2) (((S 2) 8 0) + d) z hS.1 hS.2.1) xm_X1_downBits xk_X5_135 dX5_down_33 rfl (by decide) rfl rfl rfl rfl rfl (Nat.le_of_ble_eq_true rfl) ⟨Nat.le_of_ble_eq_true rfl, Nat.le_of_ble_eq_true rfl⟩ ⟨rfl, rfl⟩ ⟨Nat.le_of_ble_eq_true rfl, Nat.le_of_ble_eq_true rfl⟩ rfl (Eq.trans (b := 6) rfl rfl) rfl rfl ?_
      show g 0 0 (wC S) 36 [some (.ref 0), some (.int d)] [.int (bitsS (fun h => downS (S 2) h (((S 2) 8 0) + d)) z)]
      refine r_goto (pc := 36) (tgt := 41) C dX5_down_36 (by decide) ?_
      show g 0 0 (wC S) 41 [some (.ref 0), some (.int d)] [.int (bitsS (fun h => downS (S 2) h (((S 2) 8 0) + d)) z)]
      exact E _ _ _ _ _ _ dX5_down_41 (Nat.le_refl _) (Nat.le_refl _) rfl ⟨congrArg (fun z => some (Value.int z)) (by simp only [downC, h_7, h_17, if_true, if_false, Bool.false_eq_true] <;> (try rfl) <;> (try (repeat rw [ix_nI (by omega)]))), rfl⟩
  · skip
    refine r_ldc (pc := 10) (v := (-1000002)) C dX5_down_10 tw_323 ?_
    show g 0 0 (wC S) 12 [some (.ref 0), some (.int d)] [.int (-1000002)]
    exact E _ _ _ _ _ _ dX5_down_12 (Nat.le_refl _) (Nat.le_refl _) rfl ⟨congrArg (fun z => some (Value.int z)) (by simp only [downC, h_7, if_true, if_false, Bool.false_eq_true] <;> (try rfl) <;> (try (repeat rw [ix_nI (by omega)]))), rfl⟩
set_option maxHeartbeats 4000000 in
set_option maxRecDepth 100000 in
theorem c_X5_reach (S : Nat → Nat → Nat → Int32) (h d : Int32) (z : Nat) (hS : okS S z) : MetA yX5_reach (.code yX5_reach cX5_reach 3 (some .int) :: TT) rmX5_reach [.ref 0, .int h, .int d] (wC S) (fun vr wr => vr = some (.int (reachC S z h d)) ∧ wr = wC S) 0 0 := by
  refine MetA.of_i (by decide) (fun _ => Nat.le_of_ble_eq_true rfl) (Nat.le_of_ble_eq_true rfl) (fun g C E => ?_)
  replace C : Sem cX5_reach RX5 "reach" 3 rmX5_reach g := C
  show g 0 0 (wC S) 0 [some (.ref 0), some (.int h), some (.int d)] []
  refine r_aload_n (pc := 0) C dX5_reach_0 rfl rfl ?_
  refine r_iload_n (pc := 1) C dX5_reach_1 rfl rfl ?_
  refine r_callV0 (pc := 2) (As := [.int h]) (st := []) (θ' := wC S) C (c_X5_isHammock S h) xm_X5_isHammock xk_X5_138 dX5_reach_2 rfl rfl rfl rfl (Nat.le_of_ble_eq_true rfl) ⟨Nat.le_of_ble_eq_true rfl, Nat.le_of_ble_eq_true rfl⟩ ⟨rfl, rfl⟩ ⟨Nat.le_of_ble_eq_true rfl, Nat.le_of_ble_eq_true rfl⟩ rfl (Eq.trans (b := 55) rfl rfl) ?_
  show g 0 0 (wC S) 5 [some (.ref 0), some (.int h), some (.int d)] [.int (bB (belS h ((S 2) 9 0)))]
  refine r_if_eq (pc := 5) (tgt := 15) C dX5_reach_5 (by decide) (fun h_5 => ?_) (fun h_5 => ?_)
  · replace h_5 := bB_f h_5
    refine r_ldc (pc := 15) (v := (-1000001)) C dX5_reach_15 tw_216 ?_
    show g 0 0 (wC S) 17 [some (.ref 0), some (.int h), some (.int d)] [.int (-1000001)]
    exact E _ _ _ _ _ _ dX5_reach_17 (Nat.le_refl _) (Nat.le_refl _) rfl ⟨congrArg (fun z => some (Value.int z)) (by simp only [reachC, nearC, h_5, if_true, if_false, Bool.false_eq_true] <;> (try rfl) <;> (try (repeat rw [ix_nI (by omega)]))), rfl⟩
  · replace h_5 := bB_t h_5
    obtain ⟨j, hj, rfl⟩ := bel_ex hS.1 (by have := hS.2.1; omega) h_5
    have hj6 : j < 6 := by have := hS.2.1; omega
    refine r_iload_n (pc := 8) C dX5_reach_8 rfl rfl ?_
    refine r_callS0 (pc := 9) (As := [.int d]) (st := []) C (c_X5_isAhead d) xm_X5_isAhead xk_X5_172 dX5_reach_9 (fun _ => rfl) (fun _ => rfl) rfl rfl (Nat.le_of_ble_eq_true rfl) ⟨Nat.le_of_ble_eq_true rfl, Nat.le_of_ble_eq_true rfl⟩ ⟨rfl, rfl⟩ ⟨Nat.le_of_ble_eq_true rfl, Nat.le_of_ble_eq_true rfl⟩ rfl ?_
    show g 0 0 (wC S) 12 [some (.ref 0), some (.int (nI j)), some (.int d)] [.int (bB (ahB d))]
    refine r_if_ne (pc := 12) (tgt := 18) C dX5_reach_12 (by decide) (fun h_12 => ?_) (fun h_12 => ?_)
    · replace h_12 := bB_t h_12
      refine r_aload_n (pc := 18) C dX5_reach_18 rfl rfl ?_
      refine r_getfield (pc := 19) (v := .ref 20) C xf_X5_25 dX5_reach_19 rfl rfl ?_
      refine r_iload_n (pc := 22) C dX5_reach_22 rfl rfl ?_
      refine r_aload_n (pc := 23) C dX5_reach_23 rfl rfl ?_
      refine r_getfield (pc := 24) (v := .ref 20) C xf_X5_25 dX5_reach_24 rfl rfl ?_
      refine r_getfield (pc := 27) (v := .int ((S 2) 8 0)) C xf_X5_128 dX5_reach_27 rfl rfl ?_
      refine r_iload_n (pc := 30) C dX5_reach_30 rfl rfl ?_
      refine r_iadd (pc := 31) C dX5_reach_31 ?_
      refine r_callVD (pc := 32) (b := 20) (As := [.int (nI j), .int (((S 2) 8 0) + d)]) (st := []) (θ2 := wC S) (r2 := some (.int (bitsS (fun o => !decide (o = j) && nrS (S 2) (spS (S 2) j (((S 2) 8 0) + d)) (spS (S 2) o (((S 2) 8 0) + d))) z))) C [20, 21, 22, 23, 24, 25] (c_X1_nearBits (S 2) j (by omega) (((S 2) 8 0) + d) hS.2.2 z hS.1 hS.2.1) xm_X1_nearBits xk_X5_175 dX5_reach_32 rfl (by decide) rfl rfl rfl rfl rfl (Nat.le_of_ble_eq_true rfl) ⟨Nat.le_of_ble_eq_true rfl, Nat.le_of_ble_eq_true rfl⟩ ⟨rfl, rfl⟩ ⟨Nat.le_of_ble_eq_true rfl, Nat.le_of_ble_eq_true rfl⟩ rfl (Eq.trans (b := 6) rfl rfl) rfl rfl ?_
      show g 0 0 (wC S) 35 [some (.ref 0), some (.int (nI j)), some (.int d)] [.int (bitsS (fun o => !decide (o = j) && nrS (S 2) (spS (S 2) j (((S 2) 8 0) + d)) (spS (S 2) o (((S 2) 8 0) + d))) z)]
      show g 0 0 (wC S) 35 [some (.ref 0), some (.int (nI j)), some (.int d)] [.int (bitsS (fun o => !decide (o = j) && nrS (S 2) (spS (S 2) j (((S 2) 8 0) + d)) (spS (S 2) o (((S 2) 8 0) + d))) z)]
      exact E _ _ _ _ _ _ dX5_reach_35 (Nat.le_refl _) (Nat.le_refl _) rfl ⟨congrArg (fun z => some (Value.int z)) (by simp only [reachC, nearC, h_5, h_12, if_true, if_false, Bool.false_eq_true] <;> (try rfl) <;> (try (repeat rw [ix_nI (by omega)]))), rfl⟩
    · replace h_12 := bB_f h_12
      refine r_ldc (pc := 15) (v := (-1000001)) C dX5_reach_15 tw_216 ?_
      show g 0 0 (wC S) 17 [some (.ref 0), some (.int (nI j)), some (.int d)] [.int (-1000001)]
      exact E _ _ _ _ _ _ dX5_reach_17 (Nat.le_refl _) (Nat.le_refl _) rfl ⟨congrArg (fun z => some (Value.int z)) (by simp only [reachC, nearC, h_5, h_12, if_true, if_false, Bool.false_eq_true] <;> (try rfl) <;> (try (repeat rw [ix_nI (by omega)]))), rfl⟩
set_option maxHeartbeats 4000000 in
set_option maxRecDepth 100000 in
theorem c_X5_trace (S : Nat → Nat → Nat → Int32) (i : Int32) (q : Nat) (hq : S 0 8 0 = nI q) (hq16 : q ≤ 16) : MetA yX5_trace (.code yX5_trace cX5_trace 2 (some .int) :: TT) rmX5_trace [.ref 0, .int i] (wC S) (fun vr wr => vr = some (.int (traceC S i)) ∧ wr = wC S) 0 0 := by
  refine MetA.of_i (by decide) (fun _ => Nat.le_of_ble_eq_true rfl) (Nat.le_of_ble_eq_true rfl) (fun g C E => ?_)
  replace C : Sem cX5_trace RX5 "trace" 2 rmX5_trace g := C
  show g 0 0 (wC S) 0 [some (.ref 0), some (.int i)] []
  refine r_iload_n (pc := 0) C dX5_trace_0 rfl rfl ?_
  refine r_aload_n (pc := 1) C dX5_trace_1 rfl rfl ?_
  refine r_getfield (pc := 2) (v := .int ((S 0) 8 0)) C xf_X5_232 dX5_trace_2 rfl rfl ?_
  refine r_callS0 (pc := 5) (As := [.int i, .int ((S 0) 8 0)]) (st := []) C (c_X5_isBelow i ((S 0) 8 0)) xm_X5_isBelow xk_X5_59 dX5_trace_5 (fun _ => rfl) (fun _ => rfl) rfl rfl (Nat.le_of_ble_eq_true rfl) ⟨Nat.le_of_ble_eq_true rfl, Nat.le_of_ble_eq_true rfl⟩ ⟨rfl, rfl⟩ ⟨Nat.le_of_ble_eq_true rfl, Nat.le_of_ble_eq_true rfl⟩ rfl ?_
  show g 0 0 (wC S) 8 [some (.ref 0), some (.int i)] [.int (bB (belS i ((S 0) 8 0)))]
  refine r_if_eq (pc := 8) (tgt := 20) C dX5_trace_8 (by decide) (fun h_8 => ?_) (fun h_8 => ?_)
  · replace h_8 := bB_f h_8
    refine r_ldc (pc := 20) (v := (-1000000)) C dX5_trace_20 tw_426 ?_
    show g 0 0 (wC S) 22 [some (.ref 0), some (.int i)] [.int (-1000000)]
    exact E _ _ _ _ _ _ dX5_trace_22 (Nat.le_refl _) (Nat.le_refl _) rfl ⟨congrArg (fun z => some (Value.int z)) (by simp only [traceC, h_8, if_true, if_false, Bool.false_eq_true] <;> (try rfl) <;> (try (repeat rw [ix_nI (by omega)]))), rfl⟩
  · replace h_8 := bB_t h_8
    obtain ⟨j, hj, rfl⟩ := bel_ex hq (by omega) h_8
    refine r_aload_n (pc := 11) C dX5_trace_11 rfl rfl ?_
    refine r_getfield (pc := 12) (v := .ref 54) C xf_X5_50 dX5_trace_12 rfl rfl ?_
    refine r_iload_n (pc := 15) C dX5_trace_15 rfl rfl ?_
    refine r_iaload (pc := 16) (v := (S 0) 7 j) C j dX5_trace_16 rfl rfl (by first | assumption | omega) rfl ?_
    refine r_goto (pc := 17) (tgt := 22) C dX5_trace_17 (by decide) ?_
    show g 0 0 (wC S) 22 [some (.ref 0), some (.int (nI j))] [.int ((S 0) 7 j)]
    exact E _ _ _ _ _ _ dX5_trace_22 (Nat.le_refl _) (Nat.le_refl _) rfl ⟨congrArg (fun z => some (Value.int z)) (by simp only [traceC, h_8, if_true, if_false, Bool.false_eq_true] <;> (try rfl) <;> (try (repeat rw [ix_nI (by omega)]))), rfl⟩
def hamC (S : Nat → Nat → Nat → Int32) (h w : Int32) : Int32 := if belS h (S 2 9 0) then (if w = 0 then S 2 1 (ix h) else if w = 1 then S 2 2 (ix h) else if w = 2 then S 2 3 (ix h) else if w = 3 then S 2 4 (ix h) else if w = 4 then bB (cutS (S 2) (ix h)) else if w = 5 then dipS (S 2) (ix h) (S 2 8 0) else if w = 6 then plS (S 2) (ix h) (S 2 8 0) else -1000001) else -1000001
set_option maxHeartbeats 4000000 in
set_option maxRecDepth 100000 in
theorem c_X5_hammock (S : Nat → Nat → Nat → Int32) (h w : Int32) (z : Nat) (hS : okS S z) : MetA yX5_hammock (.code yX5_hammock cX5_hammock 3 (some .int) :: TT) rmX5_hammock [.ref 0, .int h, .int w] (wC S) (fun vr wr => vr = some (.int (hamC S h w)) ∧ wr = wC S) 0 0 := by
  refine MetA.of_i (by decide) (fun _ => Nat.le_of_ble_eq_true rfl) (Nat.le_of_ble_eq_true rfl) (fun g C E => ?_)
  replace C : Sem cX5_hammock RX5 "hammock" 3 rmX5_hammock g := C
  show g 0 0 (wC S) 0 [some (.ref 0), some (.int h), some (.int w)] []
  refine r_aload_n (pc := 0) C dX5_hammock_0 rfl rfl ?_
  refine r_iload_n (pc := 1) C dX5_hammock_1 rfl rfl ?_
  refine r_callV0 (pc := 2) (As := [.int h]) (st := []) (θ' := wC S) C (c_X5_isHammock S h) xm_X5_isHammock xk_X5_138 dX5_hammock_2 rfl rfl rfl rfl (Nat.le_of_ble_eq_true rfl) ⟨Nat.le_of_ble_eq_true rfl, Nat.le_of_ble_eq_true rfl⟩ ⟨rfl, rfl⟩ ⟨Nat.le_of_ble_eq_true rfl, Nat.le_of_ble_eq_true rfl⟩ rfl (Eq.trans (b := 55) rfl rfl) ?_
  show g 0 0 (wC S) 5 [some (.ref 0), some (.int h), some (.int w)] [.int (bB (belS h ((S 2) 9 0)))]
  refine r_if_ne (pc := 5) (tgt := 11) C dX5_hammock_5 (by decide) (fun h_5 => ?_) (fun h_5 => ?_)
  · replace h_5 := bB_t h_5
    obtain ⟨j, hj, rfl⟩ := bel_ex hS.1 (by have := hS.2.1; omega) h_5
    have hj6 : j < 6 := by have := hS.2.1; omega
    refine r_iload_n (pc := 11) C dX5_hammock_11 rfl rfl ?_
    by_cases q_12_0 : w = 0
    · refine r_tableIn (pc := 12) (off := 44) (tgt := 56) C dX5_hammock_12 (by rw [q_12_0]; decide) (by rw [q_12_0]; decide) (by rw [q_12_0]; rfl) (by decide) ?_
      refine r_aload_n (pc := 56) C dX5_hammock_56 rfl rfl ?_
      refine r_getfield (pc := 57) (v := .ref 20) C xf_X5_25 dX5_hammock_57 rfl rfl ?_
      refine r_getfield (pc := 60) (v := .ref 22) C xf_X5_141 dX5_hammock_60 rfl rfl ?_
      refine r_iload_n (pc := 63) C dX5_hammock_63 rfl rfl ?_
      refine r_iaload (pc := 64) (v := (S 2) 1 j) C j dX5_hammock_64 rfl rfl (by first | assumption | omega) rfl ?_
      exact E _ _ _ _ _ _ dX5_hammock_65 (Nat.le_refl _) (Nat.le_refl _) rfl ⟨congrArg (fun z => some (Value.int z)) (by clear C E; simp [hamC, bB, h_5, q_12_0, ix_nI (show j < 2 ^ 31 by omega)]), rfl⟩
    by_cases q_12_1 : w = 1
    · refine r_tableIn (pc := 12) (off := 54) (tgt := 66) C dX5_hammock_12 (by rw [q_12_1]; decide) (by rw [q_12_1]; decide) (by rw [q_12_1]; rfl) (by decide) ?_
      refine r_aload_n (pc := 66) C dX5_hammock_66 rfl rfl ?_
      refine r_getfield (pc := 67) (v := .ref 20) C xf_X5_25 dX5_hammock_67 rfl rfl ?_
      refine r_getfield (pc := 70) (v := .ref 23) C xf_X5_144 dX5_hammock_70 rfl rfl ?_
      refine r_iload_n (pc := 73) C dX5_hammock_73 rfl rfl ?_
      refine r_iaload (pc := 74) (v := (S 2) 2 j) C j dX5_hammock_74 rfl rfl (by first | assumption | omega) rfl ?_
      exact E _ _ _ _ _ _ dX5_hammock_75 (Nat.le_refl _) (Nat.le_refl _) rfl ⟨congrArg (fun z => some (Value.int z)) (by clear C E; simp [hamC, bB, h_5, q_12_0, q_12_1, ix_nI (show j < 2 ^ 31 by omega)]), rfl⟩
    by_cases q_12_2 : w = 2
    · refine r_tableIn (pc := 12) (off := 64) (tgt := 76) C dX5_hammock_12 (by rw [q_12_2]; decide) (by rw [q_12_2]; decide) (by rw [q_12_2]; rfl) (by decide) ?_
      refine r_aload_n (pc := 76) C dX5_hammock_76 rfl rfl ?_
      refine r_getfield (pc := 77) (v := .ref 20) C xf_X5_25 dX5_hammock_77 rfl rfl ?_
      refine r_getfield (pc := 80) (v := .ref 24) C xf_X5_151 dX5_hammock_80 rfl rfl ?_
      refine r_iload_n (pc := 83) C dX5_hammock_83 rfl rfl ?_
      refine r_iaload (pc := 84) (v := (S 2) 3 j) C j dX5_hammock_84 rfl rfl (by first | assumption | omega) rfl ?_
      exact E _ _ _ _ _ _ dX5_hammock_85 (Nat.le_refl _) (Nat.le_refl _) rfl ⟨congrArg (fun z => some (Value.int z)) (by clear C E; simp [hamC, bB, h_5, q_12_0, q_12_1, q_12_2, ix_nI (show j < 2 ^ 31 by omega)]), rfl⟩
    by_cases q_12_3 : w = 3
    · refine r_tableIn (pc := 12) (off := 74) (tgt := 86) C dX5_hammock_12 (by rw [q_12_3]; decide) (by rw [q_12_3]; decide) (by rw [q_12_3]; rfl) (by decide) ?_
      refine r_aload_n (pc := 86) C dX5_hammock_86 rfl rfl ?_
      refine r_getfield (pc := 87) (v := .ref 20) C xf_X5_25 dX5_hammock_87 rfl rfl ?_
      refine r_getfield (pc := 90) (v := .ref 25) C xf_X5_169 dX5_hammock_90 rfl rfl ?_
      refine r_iload_n (pc := 93) C dX5_hammock_93 rfl rfl ?_
      refine r_iaload (pc := 94) (v := (S 2) 4 j) C j dX5_hammock_94 rfl rfl (by first | assumption | omega) rfl ?_
      exact E _ _ _ _ _ _ dX5_hammock_95 (Nat.le_refl _) (Nat.le_refl _) rfl ⟨congrArg (fun z => some (Value.int z)) (by clear C E; simp [hamC, bB, h_5, q_12_0, q_12_1, q_12_2, q_12_3, ix_nI (show j < 2 ^ 31 by omega)]), rfl⟩
    by_cases q_12_4 : w = 4
    · refine r_tableIn (pc := 12) (off := 84) (tgt := 96) C dX5_hammock_12 (by rw [q_12_4]; decide) (by rw [q_12_4]; decide) (by rw [q_12_4]; rfl) (by decide) ?_
      refine r_aload_n (pc := 96) C dX5_hammock_96 rfl rfl ?_
      refine r_getfield (pc := 97) (v := .ref 20) C xf_X5_25 dX5_hammock_97 rfl rfl ?_
      refine r_iload_n (pc := 100) C dX5_hammock_100 rfl rfl ?_
      refine r_callVD (pc := 101) (b := 20) (As := [.int (nI j)]) (st := []) (θ2 := wC S) (r2 := some (.int (bB (cutS (S 2) j)))) C [20, 21, 22, 23, 24, 25] (c_X1_isCut (S 2) j (by omega)) xm_X1_isCut xk_X5_157 dX5_hammock_101 rfl (by decide) rfl rfl rfl rfl rfl (Nat.le_of_ble_eq_true rfl) ⟨Nat.le_of_ble_eq_true rfl, Nat.le_of_ble_eq_true rfl⟩ ⟨rfl, rfl⟩ ⟨Nat.le_of_ble_eq_true rfl, Nat.le_of_ble_eq_true rfl⟩ rfl (Eq.trans (b := 6) rfl rfl) rfl rfl ?_
      show g 0 0 (wC S) 104 [some (.ref 0), some (.int (nI j)), some (.int w)] [.int (bB (cutS (S 2) j))]
      refine r_if_eq (pc := 104) (tgt := 111) C dX5_hammock_104 (by decide) (fun h_104 => ?_) (fun h_104 => ?_)
      · replace h_104 := bB_f h_104
        refine r_iconst (pc := 111) (v := 0) C dX5_hammock_111 (by decide) ?_
        exact E _ _ _ _ _ _ dX5_hammock_112 (Nat.le_refl _) (Nat.le_refl _) rfl ⟨congrArg (fun z => some (Value.int z)) (by clear C E; simp [hamC, bB, h_5, q_12_0, q_12_1, q_12_2, q_12_3, q_12_4, h_104, ix_nI (show j < 2 ^ 31 by omega)]), rfl⟩
      · replace h_104 := bB_t h_104
        refine r_iconst (pc := 107) (v := 1) C dX5_hammock_107 (by decide) ?_
        refine r_goto (pc := 108) (tgt := 112) C dX5_hammock_108 (by decide) ?_
        exact E _ _ _ _ _ _ dX5_hammock_112 (Nat.le_refl _) (Nat.le_refl _) rfl ⟨congrArg (fun z => some (Value.int z)) (by clear C E; simp [hamC, bB, h_5, q_12_0, q_12_1, q_12_2, q_12_3, q_12_4, h_104, ix_nI (show j < 2 ^ 31 by omega)]), rfl⟩
    by_cases q_12_5 : w = 5
    · refine r_tableIn (pc := 12) (off := 101) (tgt := 113) C dX5_hammock_12 (by rw [q_12_5]; decide) (by rw [q_12_5]; decide) (by rw [q_12_5]; rfl) (by decide) ?_
      refine r_aload_n (pc := 113) C dX5_hammock_113 rfl rfl ?_
      refine r_getfield (pc := 114) (v := .ref 20) C xf_X5_25 dX5_hammock_114 rfl rfl ?_
      refine r_iload_n (pc := 117) C dX5_hammock_117 rfl rfl ?_
      refine r_aload_n (pc := 118) C dX5_hammock_118 rfl rfl ?_
      refine r_getfield (pc := 119) (v := .ref 20) C xf_X5_25 dX5_hammock_119 rfl rfl ?_
      refine r_getfield (pc := 122) (v := .int ((S 2) 8 0)) C xf_X5_128 dX5_hammock_122 rfl rfl ?_
      refine r_callVD (pc := 125) (b := 20) (As := [.int (nI j), .int ((S 2) 8 0)]) (st := []) (θ2 := wC S) (r2 := some (.int (dipS (S 2) j ((S 2) 8 0)))) C [20, 21, 22, 23, 24, 25] (c_X1_dip (S 2) j (by omega) ((S 2) 8 0)) xm_X1_dip xk_X5_154 dX5_hammock_125 rfl (by decide) rfl rfl rfl rfl rfl (Nat.le_of_ble_eq_true rfl) ⟨Nat.le_of_ble_eq_true rfl, Nat.le_of_ble_eq_true rfl⟩ ⟨rfl, rfl⟩ ⟨Nat.le_of_ble_eq_true rfl, Nat.le_of_ble_eq_true rfl⟩ rfl (Eq.trans (b := 6) rfl rfl) rfl rfl ?_
      show g 0 0 (wC S) 128 [some (.ref 0), some (.int (nI j)), some (.int w)] [.int (dipS (S 2) j ((S 2) 8 0))]
      exact E _ _ _ _ _ _ dX5_hammock_128 (Nat.le_refl _) (Nat.le_refl _) rfl ⟨congrArg (fun z => some (Value.int z)) (by clear C E; simp [hamC, bB, h_5, q_12_0, q_12_1, q_12_2, q_12_3, q_12_4, q_12_5, ix_nI (show j < 2 ^ 31 by omega)]), rfl⟩
    by_cases q_12_6 : w = 6
    · refine r_tableIn (pc := 12) (off := 117) (tgt := 129) C dX5_hammock_12 (by rw [q_12_6]; decide) (by rw [q_12_6]; decide) (by rw [q_12_6]; rfl) (by decide) ?_
      refine r_aload_n (pc := 129) C dX5_hammock_129 rfl rfl ?_
      refine r_getfield (pc := 130) (v := .ref 20) C xf_X5_25 dX5_hammock_130 rfl rfl ?_
      refine r_iload_n (pc := 133) C dX5_hammock_133 rfl rfl ?_
      refine r_aload_n (pc := 134) C dX5_hammock_134 rfl rfl ?_
      refine r_getfield (pc := 135) (v := .ref 20) C xf_X5_25 dX5_hammock_135 rfl rfl ?_
      refine r_getfield (pc := 138) (v := .int ((S 2) 8 0)) C xf_X5_128 dX5_hammock_138 rfl rfl ?_
      refine r_callVD (pc := 141) (b := 20) (As := [.int (nI j), .int ((S 2) 8 0)]) (st := []) (θ2 := wC S) (r2 := some (.int (plS (S 2) j ((S 2) 8 0)))) C [20, 21, 22, 23, 24, 25] (c_X1_place (S 2) j (by omega) ((S 2) 8 0) hS.2.2) xm_X1_place xk_X5_147 dX5_hammock_141 rfl (by decide) rfl rfl rfl rfl rfl (Nat.le_of_ble_eq_true rfl) ⟨Nat.le_of_ble_eq_true rfl, Nat.le_of_ble_eq_true rfl⟩ ⟨rfl, rfl⟩ ⟨Nat.le_of_ble_eq_true rfl, Nat.le_of_ble_eq_true rfl⟩ rfl (Eq.trans (b := 6) rfl rfl) rfl rfl ?_
      show g 0 0 (wC S) 144 [some (.ref 0), some (.int (nI j)), some (.int w)] [.int (plS (S 2) j ((S 2) 8 0))]
      exact E _ _ _ _ _ _ dX5_hammock_144 (Nat.le_refl _) (Nat.le_refl _) rfl ⟨congrArg (fun z => some (Value.int z)) (by clear C E; simp [hamC, bB, h_5, q_12_0, q_12_1, q_12_2, q_12_3, q_12_4, q_12_5, q_12_6, ix_nI (show j < 2 ^ 31 by omega)]), rfl⟩
    refine r_tableOut (pc := 12) (tgt := 145) C dX5_hammock_12 (by have t_0 := lv_neT (a := 0) q_12_0 rfl; have t_1 := lv_neT (a := 1) q_12_1 rfl; have t_2 := lv_neT (a := 2) q_12_2 rfl; have t_3 := lv_neT (a := 3) q_12_3 rfl; have t_4 := lv_neT (a := 4) q_12_4 rfl; have t_5 := lv_neT (a := 5) q_12_5 rfl; have t_6 := lv_neT (a := 6) q_12_6 rfl; omega) (by decide) ?_
    refine r_ldc (pc := 145) (v := (-1000001)) C dX5_hammock_145 tw_216 ?_
    exact E _ _ _ _ _ _ dX5_hammock_147 (Nat.le_refl _) (Nat.le_refl _) rfl ⟨congrArg (fun z => some (Value.int z)) (by clear C E; simp [hamC, bB, h_5, q_12_0, q_12_1, q_12_2, q_12_3, q_12_4, q_12_5, q_12_6, ix_nI (show j < 2 ^ 31 by omega)]), rfl⟩
  · replace h_5 := bB_f h_5
    refine r_ldc (pc := 8) (v := (-1000001)) C dX5_hammock_8 tw_216 ?_
    exact E _ _ _ _ _ _ dX5_hammock_10 (Nat.le_refl _) (Nat.le_refl _) rfl ⟨congrArg (fun z => some (Value.int z)) (by simp [hamC, h_5]), rfl⟩
