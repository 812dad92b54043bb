/-! ===== ask ===== -/
def rmB (k : Nat) : Room := { frames := k, cells := 0, slots := 0, locals := 40 * k }
def tr1 (S : Nat → Nat → Nat → Int32) (q : Nat) (n : Int32) : Nat → Nat → Nat → Int32 := up3 S 0 (up2 (up2 (S 0) 7 (upd (S 0 7) q n)) 8 (k1 (nI (q + 1))))
def rmX5_ask : Room := { frames := 22, cells := 0, slots := 0, locals := 900 }
set_option maxHeartbeats 4000000 in
set_option maxRecDepth 100000 in
theorem c_X5_nearestBody_1_0  : MetA yX5_nearestBody (.code yX5_nearestBody cX5_nearestBody 5 (some .int) :: TT) rmX5_nearestBody [.int 1, .int 0] ([]) (fun vr wr => vr = some (.int 11) ∧ wr = []) 0 0 := by
  refine MetA.of_i (by decide) (fun _ => Nat.le_of_ble_eq_true rfl) (Nat.le_of_ble_eq_true rfl) (fun g C E => ?_)
  replace C : Sem cX5_nearestBody RX5 "nearestBody" 5 rmX5_nearestBody g := C
  show g 0 0 ([]) 0 [some (.int 1), some (.int 0), none, none, none] []
  refine r_iload_n (pc := 0) C dX5_nearestBody_0 rfl rfl ?_
  refine r_istore_n (pc := 1) (lv' := [some (.int 1), some (.int 0), some (.int 1), none, none]) C dX5_nearestBody_1 rfl (Nat.le_of_ble_eq_true rfl) trivial rfl ?_
  refine r_iconst (pc := 2) (v := 0) C dX5_nearestBody_2 (by decide) ?_
  refine r_istore_n (pc := 3) (lv' := [some (.int 1), some (.int 0), some (.int 1), some (.int 0), none]) C dX5_nearestBody_3 rfl (Nat.le_of_ble_eq_true rfl) trivial rfl ?_
  refine r_iload_n (pc := 4) C dX5_nearestBody_4 rfl rfl ?_
  refine r_bipush (pc := 5) (v := 6) C dX5_nearestBody_5 (by decide) ?_
  refine r_icmp_ge (pc := 7) (tgt := 49) C dX5_nearestBody_7 (by decide) (fun h => absurd h (by decide)) (fun _ => ?_)
  refine r_iload_n (pc := 10) C dX5_nearestBody_10 rfl rfl ?_
  refine r_if_ne (pc := 11) (tgt := 22) C dX5_nearestBody_11 (by decide) (fun h => absurd (by decide) h) (fun _ => ?_)
  refine r_tabL (pc := 14) (f := xtab2) C 1 ⟨tw_549, Or.inr (Or.inl ⟨rfl, rfl⟩)⟩ dX5_nearestBody_14 dX5_nearestBody_17 dX5_nearestBody_18 rfl rfl (by decide) (by decide) ?_
  rw [show (xtab2 1 : Int32) = 11 from rfl]
  refine r_goto (pc := 19) (tgt := 27) C dX5_nearestBody_19 (by decide) ?_
  refine r_istore (pc := 27) (lv' := [some (.int 1), some (.int 0), some (.int 1), some (.int 0), some (.int 11)]) C dX5_nearestBody_27 (Nat.le_of_ble_eq_true rfl) trivial rfl ?_
  refine r_iload (pc := 29) C dX5_nearestBody_29 rfl ?_
  refine r_if_eq (pc := 31) (tgt := 37) C dX5_nearestBody_31 (by decide) (fun h => absurd h (by decide)) (fun _ => ?_)
  refine r_iload (pc := 34) C dX5_nearestBody_34 rfl ?_
  exact E _ _ _ _ _ _ dX5_nearestBody_36 (Nat.le_refl _) (Nat.le_refl _) rfl ⟨rfl, rfl⟩
set_option maxHeartbeats 4000000 in
set_option maxRecDepth 100000 in
theorem c_X5_nearestBody_1_1  : MetA yX5_nearestBody (.code yX5_nearestBody cX5_nearestBody 5 (some .int) :: TT) rmX5_nearestBody [.int 1, .int 1] ([]) (fun vr wr => vr = some (.int 21) ∧ wr = []) 0 0 := by
  refine MetA.of_i (by decide) (fun _ => Nat.le_of_ble_eq_true rfl) (Nat.le_of_ble_eq_true rfl) (fun g C E => ?_)
  replace C : Sem cX5_nearestBody RX5 "nearestBody" 5 rmX5_nearestBody g := C
  show g 0 0 ([]) 0 [some (.int 1), some (.int 1), none, none, none] []
  refine r_iload_n (pc := 0) C dX5_nearestBody_0 rfl rfl ?_
  refine r_istore_n (pc := 1) (lv' := [some (.int 1), some (.int 1), some (.int 1), none, none]) C dX5_nearestBody_1 rfl (Nat.le_of_ble_eq_true rfl) trivial rfl ?_
  refine r_iconst (pc := 2) (v := 0) C dX5_nearestBody_2 (by decide) ?_
  refine r_istore_n (pc := 3) (lv' := [some (.int 1), some (.int 1), some (.int 1), some (.int 0), none]) C dX5_nearestBody_3 rfl (Nat.le_of_ble_eq_true rfl) trivial rfl ?_
  refine r_iload_n (pc := 4) C dX5_nearestBody_4 rfl rfl ?_
  refine r_bipush (pc := 5) (v := 6) C dX5_nearestBody_5 (by decide) ?_
  refine r_icmp_ge (pc := 7) (tgt := 49) C dX5_nearestBody_7 (by decide) (fun h => absurd h (by decide)) (fun _ => ?_)
  refine r_iload_n (pc := 10) C dX5_nearestBody_10 rfl rfl ?_
  refine r_if_ne (pc := 11) (tgt := 22) C dX5_nearestBody_11 (by decide) (fun _ => ?_) (fun h => absurd h (by decide))
  refine r_tabL (pc := 22) (f := xtab3) C 1 ⟨tw_551, Or.inr (Or.inr ⟨rfl, rfl⟩)⟩ dX5_nearestBody_22 dX5_nearestBody_25 dX5_nearestBody_26 rfl rfl (by decide) (by decide) ?_
  rw [show (xtab3 1 : Int32) = 21 from rfl]
  refine r_istore (pc := 27) (lv' := [some (.int 1), some (.int 1), some (.int 1), some (.int 0), some (.int 21)]) C dX5_nearestBody_27 (Nat.le_of_ble_eq_true rfl) trivial rfl ?_
  refine r_iload (pc := 29) C dX5_nearestBody_29 rfl ?_
  refine r_if_eq (pc := 31) (tgt := 37) C dX5_nearestBody_31 (by decide) (fun h => absurd h (by decide)) (fun _ => ?_)
  refine r_iload (pc := 34) C dX5_nearestBody_34 rfl ?_
  exact E _ _ _ _ _ _ dX5_nearestBody_36 (Nat.le_refl _) (Nat.le_refl _) rfl ⟨rfl, rfl⟩
set_option maxHeartbeats 4000000 in
set_option maxRecDepth 100000 in
theorem c_X5_nearestBody_2_0  : MetA yX5_nearestBody (.code yX5_nearestBody cX5_nearestBody 5 (some .int) :: TT) rmX5_nearestBody [.int 2, .int 0] ([]) (fun vr wr => vr = some (.int 12) ∧ wr = []) 0 0 := by
  refine MetA.of_i (by decide) (fun _ => Nat.le_of_ble_eq_true rfl) (Nat.le_of_ble_eq_true rfl) (fun g C E => ?_)
  replace C : Sem cX5_nearestBody RX5 "nearestBody" 5 rmX5_nearestBody g := C
  show g 0 0 ([]) 0 [some (.int 2), some (.int 0), none, none, none] []
  refine r_iload_n (pc := 0) C dX5_nearestBody_0 rfl rfl ?_
  refine r_istore_n (pc := 1) (lv' := [some (.int 2), some (.int 0), some (.int 2), none, none]) C dX5_nearestBody_1 rfl (Nat.le_of_ble_eq_true rfl) trivial rfl ?_
  refine r_iconst (pc := 2) (v := 0) C dX5_nearestBody_2 (by decide) ?_
  refine r_istore_n (pc := 3) (lv' := [some (.int 2), some (.int 0), some (.int 2), some (.int 0), none]) C dX5_nearestBody_3 rfl (Nat.le_of_ble_eq_true rfl) trivial rfl ?_
  refine r_iload_n (pc := 4) C dX5_nearestBody_4 rfl rfl ?_
  refine r_bipush (pc := 5) (v := 6) C dX5_nearestBody_5 (by decide) ?_
  refine r_icmp_ge (pc := 7) (tgt := 49) C dX5_nearestBody_7 (by decide) (fun h => absurd h (by decide)) (fun _ => ?_)
  refine r_iload_n (pc := 10) C dX5_nearestBody_10 rfl rfl ?_
  refine r_if_ne (pc := 11) (tgt := 22) C dX5_nearestBody_11 (by decide) (fun h => absurd (by decide) h) (fun _ => ?_)
  refine r_tabL (pc := 14) (f := xtab2) C 2 ⟨tw_549, Or.inr (Or.inl ⟨rfl, rfl⟩)⟩ dX5_nearestBody_14 dX5_nearestBody_17 dX5_nearestBody_18 rfl rfl (by decide) (by decide) ?_
  rw [show (xtab2 2 : Int32) = 12 from rfl]
  refine r_goto (pc := 19) (tgt := 27) C dX5_nearestBody_19 (by decide) ?_
  refine r_istore (pc := 27) (lv' := [some (.int 2), some (.int 0), some (.int 2), some (.int 0), some (.int 12)]) C dX5_nearestBody_27 (Nat.le_of_ble_eq_true rfl) trivial rfl ?_
  refine r_iload (pc := 29) C dX5_nearestBody_29 rfl ?_
  refine r_if_eq (pc := 31) (tgt := 37) C dX5_nearestBody_31 (by decide) (fun h => absurd h (by decide)) (fun _ => ?_)
  refine r_iload (pc := 34) C dX5_nearestBody_34 rfl ?_
  exact E _ _ _ _ _ _ dX5_nearestBody_36 (Nat.le_refl _) (Nat.le_refl _) rfl ⟨rfl, rfl⟩
set_option maxHeartbeats 4000000 in
set_option maxRecDepth 100000 in
theorem c_X5_nearestBody_2_1  : MetA yX5_nearestBody (.code yX5_nearestBody cX5_nearestBody 5 (some .int) :: TT) rmX5_nearestBody [.int 2, .int 1] ([]) (fun vr wr => vr = some (.int 24) ∧ wr = []) 0 0 := by
  refine MetA.of_i (by decide) (fun _ => Nat.le_of_ble_eq_true rfl) (Nat.le_of_ble_eq_true rfl) (fun g C E => ?_)
  replace C : Sem cX5_nearestBody RX5 "nearestBody" 5 rmX5_nearestBody g := C
  show g 0 0 ([]) 0 [some (.int 2), some (.int 1), none, none, none] []
  refine r_iload_n (pc := 0) C dX5_nearestBody_0 rfl rfl ?_
  refine r_istore_n (pc := 1) (lv' := [some (.int 2), some (.int 1), some (.int 2), none, none]) C dX5_nearestBody_1 rfl (Nat.le_of_ble_eq_true rfl) trivial rfl ?_
  refine r_iconst (pc := 2) (v := 0) C dX5_nearestBody_2 (by decide) ?_
  refine r_istore_n (pc := 3) (lv' := [some (.int 2), some (.int 1), some (.int 2), some (.int 0), none]) C dX5_nearestBody_3 rfl (Nat.le_of_ble_eq_true rfl) trivial rfl ?_
  refine r_iload_n (pc := 4) C dX5_nearestBody_4 rfl rfl ?_
  refine r_bipush (pc := 5) (v := 6) C dX5_nearestBody_5 (by decide) ?_
  refine r_icmp_ge (pc := 7) (tgt := 49) C dX5_nearestBody_7 (by decide) (fun h => absurd h (by decide)) (fun _ => ?_)
  refine r_iload_n (pc := 10) C dX5_nearestBody_10 rfl rfl ?_
  refine r_if_ne (pc := 11) (tgt := 22) C dX5_nearestBody_11 (by decide) (fun _ => ?_) (fun h => absurd h (by decide))
  refine r_tabL (pc := 22) (f := xtab3) C 2 ⟨tw_551, Or.inr (Or.inr ⟨rfl, rfl⟩)⟩ dX5_nearestBody_22 dX5_nearestBody_25 dX5_nearestBody_26 rfl rfl (by decide) (by decide) ?_
  rw [show (xtab3 2 : Int32) = 24 from rfl]
  refine r_istore (pc := 27) (lv' := [some (.int 2), some (.int 1), some (.int 2), some (.int 0), some (.int 24)]) C dX5_nearestBody_27 (Nat.le_of_ble_eq_true rfl) trivial rfl ?_
  refine r_iload (pc := 29) C dX5_nearestBody_29 rfl ?_
  refine r_if_eq (pc := 31) (tgt := 37) C dX5_nearestBody_31 (by decide) (fun h => absurd h (by decide)) (fun _ => ?_)
  refine r_iload (pc := 34) C dX5_nearestBody_34 rfl ?_
  exact E _ _ _ _ _ _ dX5_nearestBody_36 (Nat.le_refl _) (Nat.le_refl _) rfl ⟨rfl, rfl⟩
set_option maxHeartbeats 4000000 in
set_option maxRecDepth 100000 in
theorem c_X5_nearestBody_3_0  : MetA yX5_nearestBody (.code yX5_nearestBody cX5_nearestBody 5 (some .int) :: TT) rmX5_nearestBody [.int 3, .int 0] ([]) (fun vr wr => vr = some (.int 11) ∧ wr = []) 0 0 := by
  refine MetA.of_i (by decide) (fun _ => Nat.le_of_ble_eq_true rfl) (Nat.le_of_ble_eq_true rfl) (fun g C E => ?_)
  replace C : Sem cX5_nearestBody RX5 "nearestBody" 5 rmX5_nearestBody g := C
  show g 0 0 ([]) 0 [some (.int 3), some (.int 0), none, none, none] []
  refine r_iload_n (pc := 0) C dX5_nearestBody_0 rfl rfl ?_
  refine r_istore_n (pc := 1) (lv' := [some (.int 3), some (.int 0), some (.int 3), none, none]) C dX5_nearestBody_1 rfl (Nat.le_of_ble_eq_true rfl) trivial rfl ?_
  refine r_iconst (pc := 2) (v := 0) C dX5_nearestBody_2 (by decide) ?_
  refine r_istore_n (pc := 3) (lv' := [some (.int 3), some (.int 0), some (.int 3), some (.int 0), none]) C dX5_nearestBody_3 rfl (Nat.le_of_ble_eq_true rfl) trivial rfl ?_
  refine r_iload_n (pc := 4) C dX5_nearestBody_4 rfl rfl ?_
  refine r_bipush (pc := 5) (v := 6) C dX5_nearestBody_5 (by decide) ?_
  refine r_icmp_ge (pc := 7) (tgt := 49) C dX5_nearestBody_7 (by decide) (fun h => absurd h (by decide)) (fun _ => ?_)
  refine r_iload_n (pc := 10) C dX5_nearestBody_10 rfl rfl ?_
  refine r_if_ne (pc := 11) (tgt := 22) C dX5_nearestBody_11 (by decide) (fun h => absurd (by decide) h) (fun _ => ?_)
  refine r_tabL (pc := 14) (f := xtab2) C 3 ⟨tw_549, Or.inr (Or.inl ⟨rfl, rfl⟩)⟩ dX5_nearestBody_14 dX5_nearestBody_17 dX5_nearestBody_18 rfl rfl (by decide) (by decide) ?_
  rw [show (xtab2 3 : Int32) = 0 from rfl]
  refine r_goto (pc := 19) (tgt := 27) C dX5_nearestBody_19 (by decide) ?_
  refine r_istore (pc := 27) (lv' := [some (.int 3), some (.int 0), some (.int 3), some (.int 0), some (.int 0)]) C dX5_nearestBody_27 (Nat.le_of_ble_eq_true rfl) trivial rfl ?_
  refine r_iload (pc := 29) C dX5_nearestBody_29 rfl ?_
  refine r_if_eq (pc := 31) (tgt := 37) C dX5_nearestBody_31 (by decide) (fun _ => ?_) (fun h => absurd (by decide) h)
  refine r_tabL (pc := 37) (f := xtab1) C 3 ⟨tw_536, Or.inl ⟨rfl, rfl⟩⟩ dX5_nearestBody_37 dX5_nearestBody_40 dX5_nearestBody_41 rfl rfl (by decide) (by decide) ?_
  rw [show (xtab1 3 : Int32) = 1 from rfl]
  refine r_istore_n (pc := 42) (lv' := [some (.int 3), some (.int 0), some (.int 1), some (.int 0), some (.int 0)]) C dX5_nearestBody_42 rfl (Nat.le_of_ble_eq_true rfl) trivial rfl ?_
  refine r_iinc (pc := 43) (v := 1) (lv' := [some (.int 3), some (.int 0), some (.int 1), some (.int 1), some (.int 0)]) C dX5_nearestBody_43 rfl (by decide) trivial rfl ?_
  refine r_goto (pc := 46) (tgt := 4) C dX5_nearestBody_46 (by decide) ?_
  refine r_iload_n (pc := 4) C dX5_nearestBody_4 rfl rfl ?_
  refine r_bipush (pc := 5) (v := 6) C dX5_nearestBody_5 (by decide) ?_
  refine r_icmp_ge (pc := 7) (tgt := 49) C dX5_nearestBody_7 (by decide) (fun h => absurd h (by decide)) (fun _ => ?_)
  refine r_iload_n (pc := 10) C dX5_nearestBody_10 rfl rfl ?_
  refine r_if_ne (pc := 11) (tgt := 22) C dX5_nearestBody_11 (by decide) (fun h => absurd (by decide) h) (fun _ => ?_)
  refine r_tabL (pc := 14) (f := xtab2) C 1 ⟨tw_549, Or.inr (Or.inl ⟨rfl, rfl⟩)⟩ dX5_nearestBody_14 dX5_nearestBody_17 dX5_nearestBody_18 rfl rfl (by decide) (by decide) ?_
  rw [show (xtab2 1 : Int32) = 11 from rfl]
  refine r_goto (pc := 19) (tgt := 27) C dX5_nearestBody_19 (by decide) ?_
  refine r_istore (pc := 27) (lv' := [some (.int 3), some (.int 0), some (.int 1), some (.int 1), some (.int 11)]) C dX5_nearestBody_27 (Nat.le_of_ble_eq_true rfl) trivial rfl ?_
  refine r_iload (pc := 29) C dX5_nearestBody_29 rfl ?_
  refine r_if_eq (pc := 31) (tgt := 37) C dX5_nearestBody_31 (by decide) (fun h => absurd h (by decide)) (fun _ => ?_)
  refine r_iload (pc := 34) C dX5_nearestBody_34 rfl ?_
  exact E _ _ _ _ _ _ dX5_nearestBody_36 (Nat.le_refl _) (Nat.le_refl _) rfl ⟨rfl, rfl⟩
set_option maxHeartbeats 4000000 in
set_option maxRecDepth 100000 in
theorem c_X5_nearestBody_3_1  : MetA yX5_nearestBody (.code yX5_nearestBody cX5_nearestBody 5 (some .int) :: TT) rmX5_nearestBody [.int 3, .int 1] ([]) (fun vr wr => vr = some (.int 22) ∧ wr = []) 0 0 := by
  refine MetA.of_i (by decide) (fun _ => Nat.le_of_ble_eq_true rfl) (Nat.le_of_ble_eq_true rfl) (fun g C E => ?_)
  replace C : Sem cX5_nearestBody RX5 "nearestBody" 5 rmX5_nearestBody g := C
  show g 0 0 ([]) 0 [some (.int 3), some (.int 1), none, none, none] []
  refine r_iload_n (pc := 0) C dX5_nearestBody_0 rfl rfl ?_
  refine r_istore_n (pc := 1) (lv' := [some (.int 3), some (.int 1), some (.int 3), none, none]) C dX5_nearestBody_1 rfl (Nat.le_of_ble_eq_true rfl) trivial rfl ?_
  refine r_iconst (pc := 2) (v := 0) C dX5_nearestBody_2 (by decide) ?_
  refine r_istore_n (pc := 3) (lv' := [some (.int 3), some (.int 1), some (.int 3), some (.int 0), none]) C dX5_nearestBody_3 rfl (Nat.le_of_ble_eq_true rfl) trivial rfl ?_
  refine r_iload_n (pc := 4) C dX5_nearestBody_4 rfl rfl ?_
  refine r_bipush (pc := 5) (v := 6) C dX5_nearestBody_5 (by decide) ?_
  refine r_icmp_ge (pc := 7) (tgt := 49) C dX5_nearestBody_7 (by decide) (fun h => absurd h (by decide)) (fun _ => ?_)
  refine r_iload_n (pc := 10) C dX5_nearestBody_10 rfl rfl ?_
  refine r_if_ne (pc := 11) (tgt := 22) C dX5_nearestBody_11 (by decide) (fun _ => ?_) (fun h => absurd h (by decide))
  refine r_tabL (pc := 22) (f := xtab3) C 3 ⟨tw_551, Or.inr (Or.inr ⟨rfl, rfl⟩)⟩ dX5_nearestBody_22 dX5_nearestBody_25 dX5_nearestBody_26 rfl rfl (by decide) (by decide) ?_
  rw [show (xtab3 3 : Int32) = 22 from rfl]
  refine r_istore (pc := 27) (lv' := [some (.int 3), some (.int 1), some (.int 3), some (.int 0), some (.int 22)]) C dX5_nearestBody_27 (Nat.le_of_ble_eq_true rfl) trivial rfl ?_
  refine r_iload (pc := 29) C dX5_nearestBody_29 rfl ?_
  refine r_if_eq (pc := 31) (tgt := 37) C dX5_nearestBody_31 (by decide) (fun h => absurd h (by decide)) (fun _ => ?_)
  refine r_iload (pc := 34) C dX5_nearestBody_34 rfl ?_
  exact E _ _ _ _ _ _ dX5_nearestBody_36 (Nat.le_refl _) (Nat.le_refl _) rfl ⟨rfl, rfl⟩
set_option maxHeartbeats 4000000 in
set_option maxRecDepth 100000 in
theorem c_X5_nearestBody_4_0  : MetA yX5_nearestBody (.code yX5_nearestBody cX5_nearestBody 5 (some .int) :: TT) rmX5_nearestBody [.int 4, .int 0] ([]) (fun vr wr => vr = some (.int 13) ∧ wr = []) 0 0 := by
  refine MetA.of_i (by decide) (fun _ => Nat.le_of_ble_eq_true rfl) (Nat.le_of_ble_eq_true rfl) (fun g C E => ?_)
  replace C : Sem cX5_nearestBody RX5 "nearestBody" 5 rmX5_nearestBody g := C
  show g 0 0 ([]) 0 [some (.int 4), some (.int 0), none, none, none] []
  refine r_iload_n (pc := 0) C dX5_nearestBody_0 rfl rfl ?_
  refine r_istore_n (pc := 1) (lv' := [some (.int 4), some (.int 0), some (.int 4), none, none]) C dX5_nearestBody_1 rfl (Nat.le_of_ble_eq_true rfl) trivial rfl ?_
  refine r_iconst (pc := 2) (v := 0) C dX5_nearestBody_2 (by decide) ?_
  refine r_istore_n (pc := 3) (lv' := [some (.int 4), some (.int 0), some (.int 4), some (.int 0), none]) C dX5_nearestBody_3 rfl (Nat.le_of_ble_eq_true rfl) trivial rfl ?_
  refine r_iload_n (pc := 4) C dX5_nearestBody_4 rfl rfl ?_
  refine r_bipush (pc := 5) (v := 6) C dX5_nearestBody_5 (by decide) ?_
  refine r_icmp_ge (pc := 7) (tgt := 49) C dX5_nearestBody_7 (by decide) (fun h => absurd h (by decide)) (fun _ => ?_)
  refine r_iload_n (pc := 10) C dX5_nearestBody_10 rfl rfl ?_
  refine r_if_ne (pc := 11) (tgt := 22) C dX5_nearestBody_11 (by decide) (fun h => absurd (by decide) h) (fun _ => ?_)
  refine r_tabL (pc := 14) (f := xtab2) C 4 ⟨tw_549, Or.inr (Or.inl ⟨rfl, rfl⟩)⟩ dX5_nearestBody_14 dX5_nearestBody_17 dX5_nearestBody_18 rfl rfl (by decide) (by decide) ?_
  rw [show (xtab2 4 : Int32) = 13 from rfl]
  refine r_goto (pc := 19) (tgt := 27) C dX5_nearestBody_19 (by decide) ?_
  refine r_istore (pc := 27) (lv' := [some (.int 4), some (.int 0), some (.int 4), some (.int 0), some (.int 13)]) C dX5_nearestBody_27 (Nat.le_of_ble_eq_true rfl) trivial rfl ?_
  refine r_iload (pc := 29) C dX5_nearestBody_29 rfl ?_
  refine r_if_eq (pc := 31) (tgt := 37) C dX5_nearestBody_31 (by decide) (fun h => absurd h (by decide)) (fun _ => ?_)
  refine r_iload (pc := 34) C dX5_nearestBody_34 rfl ?_
  exact E _ _ _ _ _ _ dX5_nearestBody_36 (Nat.le_refl _) (Nat.le_refl _) rfl ⟨rfl, rfl⟩
set_option maxHeartbeats 4000000 in
set_option maxRecDepth 100000 in
theorem c_X5_nearestBody_4_1  : MetA yX5_nearestBody (.code yX5_nearestBody cX5_nearestBody 5 (some .int) :: TT) rmX5_nearestBody [.int 4, .int 1] ([]) (fun vr wr => vr = some (.int 23) ∧ wr = []) 0 0 := by
  refine MetA.of_i (by decide) (fun _ => Nat.le_of_ble_eq_true rfl) (Nat.le_of_ble_eq_true rfl) (fun g C E => ?_)
  replace C : Sem cX5_nearestBody RX5 "nearestBody" 5 rmX5_nearestBody g := C
  show g 0 0 ([]) 0 [some (.int 4), some (.int 1), none, none, none] []
  refine r_iload_n (pc := 0) C dX5_nearestBody_0 rfl rfl ?_
  refine r_istore_n (pc := 1) (lv' := [some (.int 4), some (.int 1), some (.int 4), none, none]) C dX5_nearestBody_1 rfl (Nat.le_of_ble_eq_true rfl) trivial rfl ?_
  refine r_iconst (pc := 2) (v := 0) C dX5_nearestBody_2 (by decide) ?_
  refine r_istore_n (pc := 3) (lv' := [some (.int 4), some (.int 1), some (.int 4), some (.int 0), none]) C dX5_nearestBody_3 rfl (Nat.le_of_ble_eq_true rfl) trivial rfl ?_
  refine r_iload_n (pc := 4) C dX5_nearestBody_4 rfl rfl ?_
  refine r_bipush (pc := 5) (v := 6) C dX5_nearestBody_5 (by decide) ?_
  refine r_icmp_ge (pc := 7) (tgt := 49) C dX5_nearestBody_7 (by decide) (fun h => absurd h (by decide)) (fun _ => ?_)
  refine r_iload_n (pc := 10) C dX5_nearestBody_10 rfl rfl ?_
  refine r_if_ne (pc := 11) (tgt := 22) C dX5_nearestBody_11 (by decide) (fun _ => ?_) (fun h => absurd h (by decide))
  refine r_tabL (pc := 22) (f := xtab3) C 4 ⟨tw_551, Or.inr (Or.inr ⟨rfl, rfl⟩)⟩ dX5_nearestBody_22 dX5_nearestBody_25 dX5_nearestBody_26 rfl rfl (by decide) (by decide) ?_
  rw [show (xtab3 4 : Int32) = 23 from rfl]
  refine r_istore (pc := 27) (lv' := [some (.int 4), some (.int 1), some (.int 4), some (.int 0), some (.int 23)]) C dX5_nearestBody_27 (Nat.le_of_ble_eq_true rfl) trivial rfl ?_
  refine r_iload (pc := 29) C dX5_nearestBody_29 rfl ?_
  refine r_if_eq (pc := 31) (tgt := 37) C dX5_nearestBody_31 (by decide) (fun h => absurd h (by decide)) (fun _ => ?_)
  refine r_iload (pc := 34) C dX5_nearestBody_34 rfl ?_
  exact E _ _ _ _ _ _ dX5_nearestBody_36 (Nat.le_refl _) (Nat.le_refl _) rfl ⟨rfl, rfl⟩
set_option maxHeartbeats 4000000 in
set_option maxRecDepth 100000 in
theorem c_X5_nearestBody_5_0  : MetA yX5_nearestBody (.code yX5_nearestBody cX5_nearestBody 5 (some .int) :: TT) rmX5_nearestBody [.int 5, .int 0] ([]) (fun vr wr => vr = some (.int 14) ∧ wr = []) 0 0 := by
  refine MetA.of_i (by decide) (fun _ => Nat.le_of_ble_eq_true rfl) (Nat.le_of_ble_eq_true rfl) (fun g C E => ?_)
  replace C : Sem cX5_nearestBody RX5 "nearestBody" 5 rmX5_nearestBody g := C
  show g 0 0 ([]) 0 [some (.int 5), some (.int 0), none, none, none] []
  refine r_iload_n (pc := 0) C dX5_nearestBody_0 rfl rfl ?_
  refine r_istore_n (pc := 1) (lv' := [some (.int 5), some (.int 0), some (.int 5), none, none]) C dX5_nearestBody_1 rfl (Nat.le_of_ble_eq_true rfl) trivial rfl ?_
  refine r_iconst (pc := 2) (v := 0) C dX5_nearestBody_2 (by decide) ?_
  refine r_istore_n (pc := 3) (lv' := [some (.int 5), some (.int 0), some (.int 5), some (.int 0), none]) C dX5_nearestBody_3 rfl (Nat.le_of_ble_eq_true rfl) trivial rfl ?_
  refine r_iload_n (pc := 4) C dX5_nearestBody_4 rfl rfl ?_
  refine r_bipush (pc := 5) (v := 6) C dX5_nearestBody_5 (by decide) ?_
  refine r_icmp_ge (pc := 7) (tgt := 49) C dX5_nearestBody_7 (by decide) (fun h => absurd h (by decide)) (fun _ => ?_)
  refine r_iload_n (pc := 10) C dX5_nearestBody_10 rfl rfl ?_
  refine r_if_ne (pc := 11) (tgt := 22) C dX5_nearestBody_11 (by decide) (fun h => absurd (by decide) h) (fun _ => ?_)
  refine r_tabL (pc := 14) (f := xtab2) C 5 ⟨tw_549, Or.inr (Or.inl ⟨rfl, rfl⟩)⟩ dX5_nearestBody_14 dX5_nearestBody_17 dX5_nearestBody_18 rfl rfl (by decide) (by decide) ?_
  rw [show (xtab2 5 : Int32) = 14 from rfl]
  refine r_goto (pc := 19) (tgt := 27) C dX5_nearestBody_19 (by decide) ?_
  refine r_istore (pc := 27) (lv' := [some (.int 5), some (.int 0), some (.int 5), some (.int 0), some (.int 14)]) C dX5_nearestBody_27 (Nat.le_of_ble_eq_true rfl) trivial rfl ?_
  refine r_iload (pc := 29) C dX5_nearestBody_29 rfl ?_
  refine r_if_eq (pc := 31) (tgt := 37) C dX5_nearestBody_31 (by decide) (fun h => absurd h (by decide)) (fun _ => ?_)
  refine r_iload (pc := 34) C dX5_nearestBody_34 rfl ?_
  exact E _ _ _ _ _ _ dX5_nearestBody_36 (Nat.le_refl _) (Nat.le_refl _) rfl ⟨rfl, rfl⟩
set_option maxHeartbeats 4000000 in
set_option maxRecDepth 100000 in
theorem c_X5_nearestBody_5_1  : MetA yX5_nearestBody (.code yX5_nearestBody cX5_nearestBody 5 (some .int) :: TT) rmX5_nearestBody [.int 5, .int 1] ([]) (fun vr wr => vr = some (.int 23) ∧ wr = []) 0 0 := by
  refine MetA.of_i (by decide) (fun _ => Nat.le_of_ble_eq_true rfl) (Nat.le_of_ble_eq_true rfl) (fun g C E => ?_)
  replace C : Sem cX5_nearestBody RX5 "nearestBody" 5 rmX5_nearestBody g := C
  show g 0 0 ([]) 0 [some (.int 5), some (.int 1), none, none, none] []
  refine r_iload_n (pc := 0) C dX5_nearestBody_0 rfl rfl ?_
  refine r_istore_n (pc := 1) (lv' := [some (.int 5), some (.int 1), some (.int 5), none, none]) C dX5_nearestBody_1 rfl (Nat.le_of_ble_eq_true rfl) trivial rfl ?_
  refine r_iconst (pc := 2) (v := 0) C dX5_nearestBody_2 (by decide) ?_
  refine r_istore_n (pc := 3) (lv' := [some (.int 5), some (.int 1), some (.int 5), some (.int 0), none]) C dX5_nearestBody_3 rfl (Nat.le_of_ble_eq_true rfl) trivial rfl ?_
  refine r_iload_n (pc := 4) C dX5_nearestBody_4 rfl rfl ?_
  refine r_bipush (pc := 5) (v := 6) C dX5_nearestBody_5 (by decide) ?_
  refine r_icmp_ge (pc := 7) (tgt := 49) C dX5_nearestBody_7 (by decide) (fun h => absurd h (by decide)) (fun _ => ?_)
  refine r_iload_n (pc := 10) C dX5_nearestBody_10 rfl rfl ?_
  refine r_if_ne (pc := 11) (tgt := 22) C dX5_nearestBody_11 (by decide) (fun _ => ?_) (fun h => absurd h (by decide))
  refine r_tabL (pc := 22) (f := xtab3) C 5 ⟨tw_551, Or.inr (Or.inr ⟨rfl, rfl⟩)⟩ dX5_nearestBody_22 dX5_nearestBody_25 dX5_nearestBody_26 rfl rfl (by decide) (by decide) ?_
  rw [show (xtab3 5 : Int32) = 0 from rfl]
  refine r_istore (pc := 27) (lv' := [some (.int 5), some (.int 1), some (.int 5), some (.int 0), some (.int 0)]) C dX5_nearestBody_27 (Nat.le_of_ble_eq_true rfl) trivial rfl ?_
  refine r_iload (pc := 29) C dX5_nearestBody_29 rfl ?_
  refine r_if_eq (pc := 31) (tgt := 37) C dX5_nearestBody_31 (by decide) (fun _ => ?_) (fun h => absurd (by decide) h)
  refine r_tabL (pc := 37) (f := xtab1) C 5 ⟨tw_536, Or.inl ⟨rfl, rfl⟩⟩ dX5_nearestBody_37 dX5_nearestBody_40 dX5_nearestBody_41 rfl rfl (by decide) (by decide) ?_
  rw [show (xtab1 5 : Int32) = 4 from rfl]
  refine r_istore_n (pc := 42) (lv' := [some (.int 5), some (.int 1), some (.int 4), some (.int 0), some (.int 0)]) C dX5_nearestBody_42 rfl (Nat.le_of_ble_eq_true rfl) trivial rfl ?_
  refine r_iinc (pc := 43) (v := 1) (lv' := [some (.int 5), some (.int 1), some (.int 4), some (.int 1), some (.int 0)]) C dX5_nearestBody_43 rfl (by decide) trivial rfl ?_
  refine r_goto (pc := 46) (tgt := 4) C dX5_nearestBody_46 (by decide) ?_
  refine r_iload_n (pc := 4) C dX5_nearestBody_4 rfl rfl ?_
  refine r_bipush (pc := 5) (v := 6) C dX5_nearestBody_5 (by decide) ?_
  refine r_icmp_ge (pc := 7) (tgt := 49) C dX5_nearestBody_7 (by decide) (fun h => absurd h (by decide)) (fun _ => ?_)
  refine r_iload_n (pc := 10) C dX5_nearestBody_10 rfl rfl ?_
  refine r_if_ne (pc := 11) (tgt := 22) C dX5_nearestBody_11 (by decide) (fun _ => ?_) (fun h => absurd h (by decide))
  refine r_tabL (pc := 22) (f := xtab3) C 4 ⟨tw_551, Or.inr (Or.inr ⟨rfl, rfl⟩)⟩ dX5_nearestBody_22 dX5_nearestBody_25 dX5_nearestBody_26 rfl rfl (by decide) (by decide) ?_
  rw [show (xtab3 4 : Int32) = 23 from rfl]
  refine r_istore (pc := 27) (lv' := [some (.int 5), some (.int 1), some (.int 4), some (.int 1), some (.int 23)]) C dX5_nearestBody_27 (Nat.le_of_ble_eq_true rfl) trivial rfl ?_
  refine r_iload (pc := 29) C dX5_nearestBody_29 rfl ?_
  refine r_if_eq (pc := 31) (tgt := 37) C dX5_nearestBody_31 (by decide) (fun h => absurd h (by decide)) (fun _ => ?_)
  refine r_iload (pc := 34) C dX5_nearestBody_34 rfl ?_
  exact E _ _ _ _ _ _ dX5_nearestBody_36 (Nat.le_refl _) (Nat.le_refl _) rfl ⟨rfl, rfl⟩
set_option maxHeartbeats 4000000 in
set_option maxRecDepth 100000 in
theorem c_X5_body_10 (S : Nat → Nat → Nat → Int32) (h : Nat) (hh : h < 6) (q : Nat) (hq : S 0 8 0 = nI q) (hq16 : q + 1 ≤ 16) (dp : Nat) (hdp : dp + 0 ≤ 16) : MetA yX5_body (.code yX5_body cX5_body 5 (some .int) :: TT) (rmB 0) [.ref 0, .int 10, .int (nI h), .int (nI dp)] (wC S) (fun vr wr => vr = some (.int (S 2 3 h)) ∧ wr = wC (tr1 S q 10)) 0 0 := by
  refine MetA.of_i (by decide) (fun _ => Nat.le_of_ble_eq_true rfl) (Nat.le_of_ble_eq_true rfl) (fun g C E => ?_)
  replace C : Sem cX5_body RX5 "body" 5 (rmB 0) g := C
  show g 0 0 (wC S) 0 [some (.ref 0), some (.int 10), some (.int (nI h)), some (.int (nI dp)), none] []
  refine r_iload_n (pc := 0) C dX5_body_0 rfl rfl ?_
  refine r_bipush (pc := 1) (v := 16) C dX5_body_1 (by decide) ?_
  refine r_icmp_le (pc := 3) (tgt := 8) C dX5_body_3 (by decide) (fun _ => ?_) (fun h => absurd ((nI_leI (b := 16) (by omega) (by omega)).mpr (by omega)) h)
  refine r_aload_n (pc := 8) C dX5_body_8 rfl rfl ?_
  refine r_getfield (pc := 9) (v := .int ((S 0) 8 0)) C xf_X5_232 dX5_body_9 rfl rfl ?_
  refine r_bipush (pc := 12) (v := 16) C dX5_body_12 (by decide) ?_
  refine r_icmp_ge (pc := 14) (tgt := 37) C dX5_body_14 (by decide) (fun h => absurd h (by rw [hq]; exact nI_ge (b := 16) (by omega) (by omega))) (fun _ => ?_)
  refine r_aload_n (pc := 17) C dX5_body_17 rfl rfl ?_
  refine r_getfield (pc := 18) (v := .ref 54) C xf_X5_50 dX5_body_18 rfl rfl ?_
  refine r_aload_n (pc := 21) C dX5_body_21 rfl rfl ?_
  refine r_getfield (pc := 22) (v := .int ((S 0) 8 0)) C xf_X5_232 dX5_body_22 rfl rfl ?_
  refine r_iload_n (pc := 25) C dX5_body_25 rfl rfl ?_
  refine r_iastore (pc := 26) (θ' := wC (up3 S 0 (up2 (S 0) 7 (upd ((S 0) 7) q 10)))) C q dX5_body_26 rfl hq (by first | assumption | omega) rfl ?_
  refine r_aload_n (pc := 27) C dX5_body_27 rfl rfl ?_
  refine r_dup (pc := 28) C dX5_body_28 rfl ?_
  refine r_getfield (pc := 29) (v := .int ((S 0) 8 0)) C xf_X5_232 dX5_body_29 rfl rfl ?_
  refine r_iconst (pc := 32) (v := 1) C dX5_body_32 (by decide) ?_
  refine r_iadd (pc := 33) C dX5_body_33 ?_
  show g 0 0 (wC (up3 S 0 (up2 (S 0) 7 (upd ((S 0) 7) q 10)))) 34 [some (.ref 0), some (.int 10), some (.int (nI h)), some (.int (nI dp)), none] [.int (((S 0) 8 0) + 1), .ref 0]
  rw [show (((S 0) 8 0) + 1 : Int32) = nI (q + 1) from (nI_sum hq rfl)]
  refine r_putfield (pc := 34) (θ' := wC (up3 S 0 (up2 (up2 (S 0) 7 (upd ((S 0) 7) q 10)) 8 (k1 (nI (q + 1)))))) C xf_X5_232 xt_X5_8 dX5_body_34 rfl (Nat.le_of_ble_eq_true rfl) (fun _ => ⟨rfl, rfl⟩) rfl ?_
  show g 0 0 (wC (tr1 S q 10)) 37 [some (.ref 0), some (.int 10), some (.int (nI h)), some (.int (nI dp)), none] []
  refine r_iload_n (pc := 37) C dX5_body_37 rfl rfl ?_
  refine r_iconst (pc := 38) (v := 1) C dX5_body_38 (by decide) ?_
  refine r_iadd (pc := 39) C dX5_body_39 ?_
  show g 0 0 (wC (tr1 S q 10)) 40 [some (.ref 0), some (.int 10), some (.int (nI h)), some (.int (nI dp)), none] [.int ((nI dp) + 1)]
  rw [show ((nI dp) + 1 : Int32) = nI (dp + 1) from (nI_sum rfl rfl)]
  refine r_istore (pc := 40) (lv' := [some (.ref 0), some (.int 10), some (.int (nI h)), some (.int (nI dp)), some (.int (nI (dp + 1)))]) C dX5_body_40 (Nat.le_of_ble_eq_true rfl) trivial rfl ?_
  refine r_iload_n (pc := 42) C dX5_body_42 rfl rfl ?_
  refine r_tableIn (pc := 43) (off := 73) (tgt := 116) C dX5_body_43 (by decide) (by decide) (by rfl) (by decide) ?_
  refine r_aload_n (pc := 116) C dX5_body_116 rfl rfl ?_
  refine r_getfield (pc := 117) (v := .ref 20) C xf_X5_25 dX5_body_117 rfl rfl ?_
  refine r_getfield (pc := 120) (v := .ref 24) C xf_X5_151 dX5_body_120 rfl rfl ?_
  refine r_iload_n (pc := 123) C dX5_body_123 rfl rfl ?_
  refine r_iaload (pc := 124) (v := ((tr1 S q 10) 2) 3 h) C h dX5_body_124 rfl rfl (by first | assumption | omega) rfl ?_
  exact E _ _ _ _ _ _ dX5_body_125 (Nat.le_refl _) (Nat.le_refl _) rfl ⟨rfl, rfl⟩
set_option maxHeartbeats 4000000 in
set_option maxRecDepth 100000 in
theorem c_X5_body_20 (S : Nat → Nat → Nat → Int32) (h : Nat) (hh : h < 6) (q : Nat) (hq : S 0 8 0 = nI q) (hq16 : q + 1 ≤ 16) (dp : Nat) (hdp : dp + 0 ≤ 16) : MetA yX5_body (.code yX5_body cX5_body 5 (some .int) :: TT) (rmB 0) [.ref 0, .int 20, .int (nI h), .int (nI dp)] (wC S) (fun vr wr => vr = some (.int (nI h)) ∧ wr = wC (tr1 S q 20)) 0 0 := by
  refine MetA.of_i (by decide) (fun _ => Nat.le_of_ble_eq_true rfl) (Nat.le_of_ble_eq_true rfl) (fun g C E => ?_)
  replace C : Sem cX5_body RX5 "body" 5 (rmB 0) g := C
  show g 0 0 (wC S) 0 [some (.ref 0), some (.int 20), some (.int (nI h)), some (.int (nI dp)), none] []
  refine r_iload_n (pc := 0) C dX5_body_0 rfl rfl ?_
  refine r_bipush (pc := 1) (v := 16) C dX5_body_1 (by decide) ?_
  refine r_icmp_le (pc := 3) (tgt := 8) C dX5_body_3 (by decide) (fun _ => ?_) (fun h => absurd ((nI_leI (b := 16) (by omega) (by omega)).mpr (by omega)) h)
  refine r_aload_n (pc := 8) C dX5_body_8 rfl rfl ?_
  refine r_getfield (pc := 9) (v := .int ((S 0) 8 0)) C xf_X5_232 dX5_body_9 rfl rfl ?_
  refine r_bipush (pc := 12) (v := 16) C dX5_body_12 (by decide) ?_
  refine r_icmp_ge (pc := 14) (tgt := 37) C dX5_body_14 (by decide) (fun h => absurd h (by rw [hq]; exact nI_ge (b := 16) (by omega) (by omega))) (fun _ => ?_)
  refine r_aload_n (pc := 17) C dX5_body_17 rfl rfl ?_
  refine r_getfield (pc := 18) (v := .ref 54) C xf_X5_50 dX5_body_18 rfl rfl ?_
  refine r_aload_n (pc := 21) C dX5_body_21 rfl rfl ?_
  refine r_getfield (pc := 22) (v := .int ((S 0) 8 0)) C xf_X5_232 dX5_body_22 rfl rfl ?_
  refine r_iload_n (pc := 25) C dX5_body_25 rfl rfl ?_
  refine r_iastore (pc := 26) (θ' := wC (up3 S 0 (up2 (S 0) 7 (upd ((S 0) 7) q 20)))) C q dX5_body_26 rfl hq (by first | assumption | omega) rfl ?_
  refine r_aload_n (pc := 27) C dX5_body_27 rfl rfl ?_
  refine r_dup (pc := 28) C dX5_body_28 rfl ?_
  refine r_getfield (pc := 29) (v := .int ((S 0) 8 0)) C xf_X5_232 dX5_body_29 rfl rfl ?_
  refine r_iconst (pc := 32) (v := 1) C dX5_body_32 (by decide) ?_
  refine r_iadd (pc := 33) C dX5_body_33 ?_
  show g 0 0 (wC (up3 S 0 (up2 (S 0) 7 (upd ((S 0) 7) q 20)))) 34 [some (.ref 0), some (.int 20), some (.int (nI h)), some (.int (nI dp)), none] [.int (((S 0) 8 0) + 1), .ref 0]
  rw [show (((S 0) 8 0) + 1 : Int32) = nI (q + 1) from (nI_sum hq rfl)]
  refine r_putfield (pc := 34) (θ' := wC (up3 S 0 (up2 (up2 (S 0) 7 (upd ((S 0) 7) q 20)) 8 (k1 (nI (q + 1)))))) C xf_X5_232 xt_X5_8 dX5_body_34 rfl (Nat.le_of_ble_eq_true rfl) (fun _ => ⟨rfl, rfl⟩) rfl ?_
  show g 0 0 (wC (tr1 S q 20)) 37 [some (.ref 0), some (.int 20), some (.int (nI h)), some (.int (nI dp)), none] []
  refine r_iload_n (pc := 37) C dX5_body_37 rfl rfl ?_
  refine r_iconst (pc := 38) (v := 1) C dX5_body_38 (by decide) ?_
  refine r_iadd (pc := 39) C dX5_body_39 ?_
  show g 0 0 (wC (tr1 S q 20)) 40 [some (.ref 0), some (.int 20), some (.int (nI h)), some (.int (nI dp)), none] [.int ((nI dp) + 1)]
  rw [show ((nI dp) + 1 : Int32) = nI (dp + 1) from (nI_sum rfl rfl)]
  refine r_istore (pc := 40) (lv' := [some (.ref 0), some (.int 20), some (.int (nI h)), some (.int (nI dp)), some (.int (nI (dp + 1)))]) C dX5_body_40 (Nat.le_of_ble_eq_true rfl) trivial rfl ?_
  refine r_iload_n (pc := 42) C dX5_body_42 rfl rfl ?_
  refine r_tableIn (pc := 43) (off := 139) (tgt := 182) C dX5_body_43 (by decide) (by decide) (by rfl) (by decide) ?_
  refine r_iload_n (pc := 182) C dX5_body_182 rfl rfl ?_
  exact E _ _ _ _ _ _ dX5_body_183 (Nat.le_refl _) (Nat.le_refl _) rfl ⟨rfl, rfl⟩
set_option maxHeartbeats 4000000 in
set_option maxRecDepth 100000 in
theorem c_X5_body_21 (S : Nat → Nat → Nat → Int32) (h : Nat) (hh : h < 6) (q : Nat) (hq : S 0 8 0 = nI q) (hq16 : q + 2 ≤ 16) (dp : Nat) (hdp : dp + 1 ≤ 16) : MetA yX5_body (.code yX5_body cX5_body 5 (some .int) :: TT) (rmB 2) [.ref 0, .int 21, .int (nI h), .int (nI dp)] (wC S) (fun vr wr => vr = some (.int (nI h + dipS (S 2) h (S 2 8 0))) ∧ wr = wC (tr1 (tr1 S q 21) (q + 1) 20)) 0 0 := by
  refine MetA.of_i (by decide) (fun _ => Nat.le_of_ble_eq_true rfl) (Nat.le_of_ble_eq_true rfl) (fun g C E => ?_)
  replace C : Sem cX5_body RX5 "body" 5 (rmB 2) g := C
  show g 0 0 (wC S) 0 [some (.ref 0), some (.int 21), some (.int (nI h)), some (.int (nI dp)), none] []
  refine r_iload_n (pc := 0) C dX5_body_0 rfl rfl ?_
  refine r_bipush (pc := 1) (v := 16) C dX5_body_1 (by decide) ?_
  refine r_icmp_le (pc := 3) (tgt := 8) C dX5_body_3 (by decide) (fun _ => ?_) (fun h => absurd ((nI_leI (b := 16) (by omega) (by omega)).mpr (by omega)) h)
  refine r_aload_n (pc := 8) C dX5_body_8 rfl rfl ?_
  refine r_getfield (pc := 9) (v := .int ((S 0) 8 0)) C xf_X5_232 dX5_body_9 rfl rfl ?_
  refine r_bipush (pc := 12) (v := 16) C dX5_body_12 (by decide) ?_
  refine r_icmp_ge (pc := 14) (tgt := 37) C dX5_body_14 (by decide) (fun h => absurd h (by rw [hq]; exact nI_ge (b := 16) (by omega) (by omega))) (fun _ => ?_)
  refine r_aload_n (pc := 17) C dX5_body_17 rfl rfl ?_
  refine r_getfield (pc := 18) (v := .ref 54) C xf_X5_50 dX5_body_18 rfl rfl ?_
  refine r_aload_n (pc := 21) C dX5_body_21 rfl rfl ?_
  refine r_getfield (pc := 22) (v := .int ((S 0) 8 0)) C xf_X5_232 dX5_body_22 rfl rfl ?_
  refine r_iload_n (pc := 25) C dX5_body_25 rfl rfl ?_
  refine r_iastore (pc := 26) (θ' := wC (up3 S 0 (up2 (S 0) 7 (upd ((S 0) 7) q 21)))) C q dX5_body_26 rfl hq (by first | assumption | omega) rfl ?_
  refine r_aload_n (pc := 27) C dX5_body_27 rfl rfl ?_
  refine r_dup (pc := 28) C dX5_body_28 rfl ?_
  refine r_getfield (pc := 29) (v := .int ((S 0) 8 0)) C xf_X5_232 dX5_body_29 rfl rfl ?_
  refine r_iconst (pc := 32) (v := 1) C dX5_body_32 (by decide) ?_
  refine r_iadd (pc := 33) C dX5_body_33 ?_
  show g 0 0 (wC (up3 S 0 (up2 (S 0) 7 (upd ((S 0) 7) q 21)))) 34 [some (.ref 0), some (.int 21), some (.int (nI h)), some (.int (nI dp)), none] [.int (((S 0) 8 0) + 1), .ref 0]
  rw [show (((S 0) 8 0) + 1 : Int32) = nI (q + 1) from (nI_sum hq rfl)]
  refine r_putfield (pc := 34) (θ' := wC (up3 S 0 (up2 (up2 (S 0) 7 (upd ((S 0) 7) q 21)) 8 (k1 (nI (q + 1)))))) C xf_X5_232 xt_X5_8 dX5_body_34 rfl (Nat.le_of_ble_eq_true rfl) (fun _ => ⟨rfl, rfl⟩) rfl ?_
  show g 0 0 (wC (tr1 S q 21)) 37 [some (.ref 0), some (.int 21), some (.int (nI h)), some (.int (nI dp)), none] []
  refine r_iload_n (pc := 37) C dX5_body_37 rfl rfl ?_
  refine r_iconst (pc := 38) (v := 1) C dX5_body_38 (by decide) ?_
  refine r_iadd (pc := 39) C dX5_body_39 ?_
  show g 0 0 (wC (tr1 S q 21)) 40 [some (.ref 0), some (.int 21), some (.int (nI h)), some (.int (nI dp)), none] [.int ((nI dp) + 1)]
  rw [show ((nI dp) + 1 : Int32) = nI (dp + 1) from (nI_sum rfl rfl)]
  refine r_istore (pc := 40) (lv' := [some (.ref 0), some (.int 21), some (.int (nI h)), some (.int (nI dp)), some (.int (nI (dp + 1)))]) C dX5_body_40 (Nat.le_of_ble_eq_true rfl) trivial rfl ?_
  refine r_iload_n (pc := 42) C dX5_body_42 rfl rfl ?_
  refine r_tableIn (pc := 43) (off := 141) (tgt := 184) C dX5_body_43 (by decide) (by decide) (by rfl) (by decide) ?_
  refine r_aload_n (pc := 184) C dX5_body_184 rfl rfl ?_
  refine r_bipush (pc := 185) (v := 20) C dX5_body_185 (by decide) ?_
  refine r_iload_n (pc := 187) C dX5_body_187 rfl rfl ?_
  refine r_iload (pc := 188) C dX5_body_188 rfl ?_
  refine r_callV0 (pc := 190) (As := [.int 20, .int (nI h), .int (nI (dp + 1))]) (st := []) (θ' := wC (tr1 (tr1 S q 21) (q + 1) 20)) C (c_X5_body_20 (tr1 S q 21) h (by omega) (q + 1) rfl (by omega) (dp + 1) (by omega)) xm_X5_body xk_X5_273 dX5_body_190 rfl rfl rfl rfl (Nat.le_of_ble_eq_true rfl) ⟨Nat.le_of_ble_eq_true rfl, Nat.le_of_ble_eq_true rfl⟩ ⟨rfl, rfl⟩ ⟨Nat.le_of_ble_eq_true rfl, Nat.le_of_ble_eq_true rfl⟩ rfl (Eq.trans (b := 55) rfl rfl) ?_
  show g 0 0 (wC (tr1 (tr1 S q 21) (q + 1) 20)) 193 [some (.ref 0), some (.int 21), some (.int (nI h)), some (.int (nI dp)), some (.int (nI (dp + 1)))] [.int (nI h)]
  refine r_aload_n (pc := 193) C dX5_body_193 rfl rfl ?_
  refine r_getfield (pc := 194) (v := .ref 20) C xf_X5_25 dX5_body_194 rfl rfl ?_
  refine r_iload_n (pc := 197) C dX5_body_197 rfl rfl ?_
  refine r_aload_n (pc := 198) C dX5_body_198 rfl rfl ?_
  refine r_getfield (pc := 199) (v := .ref 20) C xf_X5_25 dX5_body_199 rfl rfl ?_
  refine r_getfield (pc := 202) (v := .int (((tr1 (tr1 S q 21) (q + 1) 20) 2) 8 0)) C xf_X5_128 dX5_body_202 rfl rfl ?_
  refine r_callVD (pc := 205) (b := 20) (As := [.int (nI h), .int (((tr1 (tr1 S q 21) (q + 1) 20) 2) 8 0)]) (st := [.int (nI h)]) (θ2 := wC (tr1 (tr1 S q 21) (q + 1) 20)) (r2 := some (.int (dipS ((tr1 (tr1 S q 21) (q + 1) 20) 2) h (((tr1 (tr1 S q 21) (q + 1) 20) 2) 8 0)))) C [20, 21, 22, 23, 24, 25] (c_X1_dip ((tr1 (tr1 S q 21) (q + 1) 20) 2) h (by omega) (((tr1 (tr1 S q 21) (q + 1) 20) 2) 8 0)) xm_X1_dip xk_X5_154 dX5_body_205 rfl (by decide) rfl rfl rfl rfl rfl (Nat.le_of_ble_eq_true rfl) ⟨Nat.le_of_ble_eq_true rfl, Nat.le_of_ble_eq_true rfl⟩ ⟨rfl, rfl⟩ ⟨Nat.le_of_ble_eq_true rfl, Nat.le_of_ble_eq_true rfl⟩ rfl (Eq.trans (b := 6) rfl rfl) rfl rfl ?_
  show g 0 0 (wC (tr1 (tr1 S q 21) (q + 1) 20)) 208 [some (.ref 0), some (.int 21), some (.int (nI h)), some (.int (nI dp)), some (.int (nI (dp + 1)))] [.int (dipS ((tr1 (tr1 S q 21) (q + 1) 20) 2) h (((tr1 (tr1 S q 21) (q + 1) 20) 2) 8 0)), .int (nI h)]
  refine r_iadd (pc := 208) C dX5_body_208 ?_
  exact E _ _ _ _ _ _ dX5_body_209 (Nat.le_refl _) (Nat.le_refl _) rfl ⟨rfl, rfl⟩
set_option maxHeartbeats 4000000 in
set_option maxRecDepth 100000 in
theorem c_X5_body_22 (S : Nat → Nat → Nat → Int32) (h : Nat) (hh : h < 6) (q : Nat) (hq : S 0 8 0 = nI q) (hq16 : q + 3 ≤ 16) (dp : Nat) (hdp : dp + 2 ≤ 16) : MetA yX5_body (.code yX5_body cX5_body 5 (some .int) :: TT) (rmB 3) [.ref 0, .int 22, .int (nI h), .int (nI dp)] (wC S) (fun vr wr => vr = some (.int ((nI h + dipS (S 2) h (S 2 8 0)) - 1000)) ∧ wr = wC (tr1 (tr1 (tr1 S q 22) (q + 1) 21) ((q + 1) + 1) 20)) 0 0 := by
  refine MetA.of_i (by decide) (fun _ => Nat.le_of_ble_eq_true rfl) (Nat.le_of_ble_eq_true rfl) (fun g C E => ?_)
  replace C : Sem cX5_body RX5 "body" 5 (rmB 3) g := C
  show g 0 0 (wC S) 0 [some (.ref 0), some (.int 22), some (.int (nI h)), some (.int (nI dp)), none] []
  refine r_iload_n (pc := 0) C dX5_body_0 rfl rfl ?_
  refine r_bipush (pc := 1) (v := 16) C dX5_body_1 (by decide) ?_
  refine r_icmp_le (pc := 3) (tgt := 8) C dX5_body_3 (by decide) (fun _ => ?_) (fun h => absurd ((nI_leI (b := 16) (by omega) (by omega)).mpr (by omega)) h)
  refine r_aload_n (pc := 8) C dX5_body_8 rfl rfl ?_
  refine r_getfield (pc := 9) (v := .int ((S 0) 8 0)) C xf_X5_232 dX5_body_9 rfl rfl ?_
  refine r_bipush (pc := 12) (v := 16) C dX5_body_12 (by decide) ?_
  refine r_icmp_ge (pc := 14) (tgt := 37) C dX5_body_14 (by decide) (fun h => absurd h (by rw [hq]; exact nI_ge (b := 16) (by omega) (by omega))) (fun _ => ?_)
  refine r_aload_n (pc := 17) C dX5_body_17 rfl rfl ?_
  refine r_getfield (pc := 18) (v := .ref 54) C xf_X5_50 dX5_body_18 rfl rfl ?_
  refine r_aload_n (pc := 21) C dX5_body_21 rfl rfl ?_
  refine r_getfield (pc := 22) (v := .int ((S 0) 8 0)) C xf_X5_232 dX5_body_22 rfl rfl ?_
  refine r_iload_n (pc := 25) C dX5_body_25 rfl rfl ?_
  refine r_iastore (pc := 26) (θ' := wC (up3 S 0 (up2 (S 0) 7 (upd ((S 0) 7) q 22)))) C q dX5_body_26 rfl hq (by first | assumption | omega) rfl ?_
  refine r_aload_n (pc := 27) C dX5_body_27 rfl rfl ?_
  refine r_dup (pc := 28) C dX5_body_28 rfl ?_
  refine r_getfield (pc := 29) (v := .int ((S 0) 8 0)) C xf_X5_232 dX5_body_29 rfl rfl ?_
  refine r_iconst (pc := 32) (v := 1) C dX5_body_32 (by decide) ?_
  refine r_iadd (pc := 33) C dX5_body_33 ?_
  show g 0 0 (wC (up3 S 0 (up2 (S 0) 7 (upd ((S 0) 7) q 22)))) 34 [some (.ref 0), some (.int 22), some (.int (nI h)), some (.int (nI dp)), none] [.int (((S 0) 8 0) + 1), .ref 0]
  rw [show (((S 0) 8 0) + 1 : Int32) = nI (q + 1) from (nI_sum hq rfl)]
  refine r_putfield (pc := 34) (θ' := wC (up3 S 0 (up2 (up2 (S 0) 7 (upd ((S 0) 7) q 22)) 8 (k1 (nI (q + 1)))))) C xf_X5_232 xt_X5_8 dX5_body_34 rfl (Nat.le_of_ble_eq_true rfl) (fun _ => ⟨rfl, rfl⟩) rfl ?_
  show g 0 0 (wC (tr1 S q 22)) 37 [some (.ref 0), some (.int 22), some (.int (nI h)), some (.int (nI dp)), none] []
  refine r_iload_n (pc := 37) C dX5_body_37 rfl rfl ?_
  refine r_iconst (pc := 38) (v := 1) C dX5_body_38 (by decide) ?_
  refine r_iadd (pc := 39) C dX5_body_39 ?_
  show g 0 0 (wC (tr1 S q 22)) 40 [some (.ref 0), some (.int 22), some (.int (nI h)), some (.int (nI dp)), none] [.int ((nI dp) + 1)]
  rw [show ((nI dp) + 1 : Int32) = nI (dp + 1) from (nI_sum rfl rfl)]
  refine r_istore (pc := 40) (lv' := [some (.ref 0), some (.int 22), some (.int (nI h)), some (.int (nI dp)), some (.int (nI (dp + 1)))]) C dX5_body_40 (Nat.le_of_ble_eq_true rfl) trivial rfl ?_
  refine r_iload_n (pc := 42) C dX5_body_42 rfl rfl ?_
  refine r_tableIn (pc := 43) (off := 167) (tgt := 210) C dX5_body_43 (by decide) (by decide) (by rfl) (by decide) ?_
  refine r_aload_n (pc := 210) C dX5_body_210 rfl rfl ?_
  refine r_bipush (pc := 211) (v := 21) C dX5_body_211 (by decide) ?_
  refine r_iload_n (pc := 213) C dX5_body_213 rfl rfl ?_
  refine r_iload (pc := 214) C dX5_body_214 rfl ?_
  refine r_callV0 (pc := 216) (As := [.int 21, .int (nI h), .int (nI (dp + 1))]) (st := []) (θ' := wC (tr1 (tr1 (tr1 S q 22) (q + 1) 21) ((q + 1) + 1) 20)) C (c_X5_body_21 (tr1 S q 22) h (by omega) (q + 1) rfl (by omega) (dp + 1) (by omega)) xm_X5_body xk_X5_273 dX5_body_216 rfl rfl rfl rfl (Nat.le_of_ble_eq_true rfl) ⟨Nat.le_of_ble_eq_true rfl, Nat.le_of_ble_eq_true rfl⟩ ⟨rfl, rfl⟩ ⟨Nat.le_of_ble_eq_true rfl, Nat.le_of_ble_eq_true rfl⟩ rfl (Eq.trans (b := 55) rfl rfl) ?_
  show g 0 0 (wC (tr1 (tr1 (tr1 S q 22) (q + 1) 21) ((q + 1) + 1) 20)) 219 [some (.ref 0), some (.int 22), some (.int (nI h)), some (.int (nI dp)), some (.int (nI (dp + 1)))] [.int (nI h + dipS ((tr1 S q 22) 2) h ((tr1 S q 22) 2 8 0))]
  refine r_sipush (pc := 219) (v := 1000) C dX5_body_219 (by decide) ?_
  refine r_isub (pc := 222) C dX5_body_222 ?_
  exact E _ _ _ _ _ _ dX5_body_223 (Nat.le_refl _) (Nat.le_refl _) rfl ⟨rfl, rfl⟩
set_option maxHeartbeats 4000000 in
set_option maxRecDepth 100000 in
theorem c_X5_body_24 (S : Nat → Nat → Nat → Int32) (h : Nat) (hh : h < 6) (q : Nat) (hq : S 0 8 0 = nI q) (hq16 : q + 3 ≤ 16) (dp : Nat) (hdp : dp + 2 ≤ 16) : MetA yX5_body (.code yX5_body cX5_body 5 (some .int) :: TT) (rmB 3) [.ref 0, .int 24, .int (nI h), .int (nI dp)] (wC S) (fun vr wr => vr = some (.int (2 * (nI h + dipS (S 2) h (S 2 8 0)))) ∧ wr = wC (tr1 (tr1 (tr1 S q 24) (q + 1) 21) ((q + 1) + 1) 20)) 0 0 := by
  refine MetA.of_i (by decide) (fun _ => Nat.le_of_ble_eq_true rfl) (Nat.le_of_ble_eq_true rfl) (fun g C E => ?_)
  replace C : Sem cX5_body RX5 "body" 5 (rmB 3) g := C
  show g 0 0 (wC S) 0 [some (.ref 0), some (.int 24), some (.int (nI h)), some (.int (nI dp)), none] []
  refine r_iload_n (pc := 0) C dX5_body_0 rfl rfl ?_
  refine r_bipush (pc := 1) (v := 16) C dX5_body_1 (by decide) ?_
  refine r_icmp_le (pc := 3) (tgt := 8) C dX5_body_3 (by decide) (fun _ => ?_) (fun h => absurd ((nI_leI (b := 16) (by omega) (by omega)).mpr (by omega)) h)
  refine r_aload_n (pc := 8) C dX5_body_8 rfl rfl ?_
  refine r_getfield (pc := 9) (v := .int ((S 0) 8 0)) C xf_X5_232 dX5_body_9 rfl rfl ?_
  refine r_bipush (pc := 12) (v := 16) C dX5_body_12 (by decide) ?_
  refine r_icmp_ge (pc := 14) (tgt := 37) C dX5_body_14 (by decide) (fun h => absurd h (by rw [hq]; exact nI_ge (b := 16) (by omega) (by omega))) (fun _ => ?_)
  refine r_aload_n (pc := 17) C dX5_body_17 rfl rfl ?_
  refine r_getfield (pc := 18) (v := .ref 54) C xf_X5_50 dX5_body_18 rfl rfl ?_
  refine r_aload_n (pc := 21) C dX5_body_21 rfl rfl ?_
  refine r_getfield (pc := 22) (v := .int ((S 0) 8 0)) C xf_X5_232 dX5_body_22 rfl rfl ?_
  refine r_iload_n (pc := 25) C dX5_body_25 rfl rfl ?_
  refine r_iastore (pc := 26) (θ' := wC (up3 S 0 (up2 (S 0) 7 (upd ((S 0) 7) q 24)))) C q dX5_body_26 rfl hq (by first | assumption | omega) rfl ?_
  refine r_aload_n (pc := 27) C dX5_body_27 rfl rfl ?_
  refine r_dup (pc := 28) C dX5_body_28 rfl ?_
  refine r_getfield (pc := 29) (v := .int ((S 0) 8 0)) C xf_X5_232 dX5_body_29 rfl rfl ?_
  refine r_iconst (pc := 32) (v := 1) C dX5_body_32 (by decide) ?_
  refine r_iadd (pc := 33) C dX5_body_33 ?_
  show g 0 0 (wC (up3 S 0 (up2 (S 0) 7 (upd ((S 0) 7) q 24)))) 34 [some (.ref 0), some (.int 24), some (.int (nI h)), some (.int (nI dp)), none] [.int (((S 0) 8 0) + 1), .ref 0]
  rw [show (((S 0) 8 0) + 1 : Int32) = nI (q + 1) from (nI_sum hq rfl)]
  refine r_putfield (pc := 34) (θ' := wC (up3 S 0 (up2 (up2 (S 0) 7 (upd ((S 0) 7) q 24)) 8 (k1 (nI (q + 1)))))) C xf_X5_232 xt_X5_8 dX5_body_34 rfl (Nat.le_of_ble_eq_true rfl) (fun _ => ⟨rfl, rfl⟩) rfl ?_
  show g 0 0 (wC (tr1 S q 24)) 37 [some (.ref 0), some (.int 24), some (.int (nI h)), some (.int (nI dp)), none] []
  refine r_iload_n (pc := 37) C dX5_body_37 rfl rfl ?_
  refine r_iconst (pc := 38) (v := 1) C dX5_body_38 (by decide) ?_
  refine r_iadd (pc := 39) C dX5_body_39 ?_
  show g 0 0 (wC (tr1 S q 24)) 40 [some (.ref 0), some (.int 24), some (.int (nI h)), some (.int (nI dp)), none] [.int ((nI dp) + 1)]
  rw [show ((nI dp) + 1 : Int32) = nI (dp + 1) from (nI_sum rfl rfl)]
  refine r_istore (pc := 40) (lv' := [some (.ref 0), some (.int 24), some (.int (nI h)), some (.int (nI dp)), some (.int (nI (dp + 1)))]) C dX5_body_40 (Nat.le_of_ble_eq_true rfl) trivial rfl ?_
  refine r_iload_n (pc := 42) C dX5_body_42 rfl rfl ?_
  refine r_tableIn (pc := 43) (off := 200) (tgt := 243) C dX5_body_43 (by decide) (by decide) (by rfl) (by decide) ?_
  refine r_iconst (pc := 243) (v := 2) C dX5_body_243 (by decide) ?_
  refine r_aload_n (pc := 244) C dX5_body_244 rfl rfl ?_
  refine r_bipush (pc := 245) (v := 21) C dX5_body_245 (by decide) ?_
  refine r_iload_n (pc := 247) C dX5_body_247 rfl rfl ?_
  refine r_iload (pc := 248) C dX5_body_248 rfl ?_
  refine r_callV0 (pc := 250) (As := [.int 21, .int (nI h), .int (nI (dp + 1))]) (st := [.int 2]) (θ' := wC (tr1 (tr1 (tr1 S q 24) (q + 1) 21) ((q + 1) + 1) 20)) C (c_X5_body_21 (tr1 S q 24) h (by omega) (q + 1) rfl (by omega) (dp + 1) (by omega)) xm_X5_body xk_X5_273 dX5_body_250 rfl rfl rfl rfl (Nat.le_of_ble_eq_true rfl) ⟨Nat.le_of_ble_eq_true rfl, Nat.le_of_ble_eq_true rfl⟩ ⟨rfl, rfl⟩ ⟨Nat.le_of_ble_eq_true rfl, Nat.le_of_ble_eq_true rfl⟩ rfl (Eq.trans (b := 55) rfl rfl) ?_
  show g 0 0 (wC (tr1 (tr1 (tr1 S q 24) (q + 1) 21) ((q + 1) + 1) 20)) 253 [some (.ref 0), some (.int 24), some (.int (nI h)), some (.int (nI dp)), some (.int (nI (dp + 1)))] [.int (nI h + dipS ((tr1 S q 24) 2) h ((tr1 S q 24) 2 8 0)), .int 2]
  refine r_imul (pc := 253) C dX5_body_253 ?_
  exact E _ _ _ _ _ _ dX5_body_254 (Nat.le_refl _) (Nat.le_refl _) rfl ⟨rfl, rfl⟩
set_option maxHeartbeats 4000000 in
set_option maxRecDepth 100000 in
theorem c_X5_body_13 (S : Nat → Nat → Nat → Int32) (h : Nat) (hh : h < 6) (q : Nat) (hq : S 0 8 0 = nI q) (hq16 : q + 2 ≤ 16) (dp : Nat) (hdp : dp + 1 ≤ 16) : MetA yX5_body (.code yX5_body cX5_body 5 (some .int) :: TT) (rmB 2) [.ref 0, .int 13, .int (nI h), .int (nI dp)] (wC S) (fun vr wr => vr = some (.int ((S 2 3 h) - 100)) ∧ wr = wC (tr1 (tr1 S q 13) (q + 1) 10)) 0 0 := by
  refine MetA.of_i (by decide) (fun _ => Nat.le_of_ble_eq_true rfl) (Nat.le_of_ble_eq_true rfl) (fun g C E => ?_)
  replace C : Sem cX5_body RX5 "body" 5 (rmB 2) g := C
  show g 0 0 (wC S) 0 [some (.ref 0), some (.int 13), some (.int (nI h)), some (.int (nI dp)), none] []
  refine r_iload_n (pc := 0) C dX5_body_0 rfl rfl ?_
  refine r_bipush (pc := 1) (v := 16) C dX5_body_1 (by decide) ?_
  refine r_icmp_le (pc := 3) (tgt := 8) C dX5_body_3 (by decide) (fun _ => ?_) (fun h => absurd ((nI_leI (b := 16) (by omega) (by omega)).mpr (by omega)) h)
  refine r_aload_n (pc := 8) C dX5_body_8 rfl rfl ?_
  refine r_getfield (pc := 9) (v := .int ((S 0) 8 0)) C xf_X5_232 dX5_body_9 rfl rfl ?_
  refine r_bipush (pc := 12) (v := 16) C dX5_body_12 (by decide) ?_
  refine r_icmp_ge (pc := 14) (tgt := 37) C dX5_body_14 (by decide) (fun h => absurd h (by rw [hq]; exact nI_ge (b := 16) (by omega) (by omega))) (fun _ => ?_)
  refine r_aload_n (pc := 17) C dX5_body_17 rfl rfl ?_
  refine r_getfield (pc := 18) (v := .ref 54) C xf_X5_50 dX5_body_18 rfl rfl ?_
  refine r_aload_n (pc := 21) C dX5_body_21 rfl rfl ?_
  refine r_getfield (pc := 22) (v := .int ((S 0) 8 0)) C xf_X5_232 dX5_body_22 rfl rfl ?_
  refine r_iload_n (pc := 25) C dX5_body_25 rfl rfl ?_
  refine r_iastore (pc := 26) (θ' := wC (up3 S 0 (up2 (S 0) 7 (upd ((S 0) 7) q 13)))) C q dX5_body_26 rfl hq (by first | assumption | omega) rfl ?_
  refine r_aload_n (pc := 27) C dX5_body_27 rfl rfl ?_
  refine r_dup (pc := 28) C dX5_body_28 rfl ?_
  refine r_getfield (pc := 29) (v := .int ((S 0) 8 0)) C xf_X5_232 dX5_body_29 rfl rfl ?_
  refine r_iconst (pc := 32) (v := 1) C dX5_body_32 (by decide) ?_
  refine r_iadd (pc := 33) C dX5_body_33 ?_
  show g 0 0 (wC (up3 S 0 (up2 (S 0) 7 (upd ((S 0) 7) q 13)))) 34 [some (.ref 0), some (.int 13), some (.int (nI h)), some (.int (nI dp)), none] [.int (((S 0) 8 0) + 1), .ref 0]
  rw [show (((S 0) 8 0) + 1 : Int32) = nI (q + 1) from (nI_sum hq rfl)]
  refine r_putfield (pc := 34) (θ' := wC (up3 S 0 (up2 (up2 (S 0) 7 (upd ((S 0) 7) q 13)) 8 (k1 (nI (q + 1)))))) C xf_X5_232 xt_X5_8 dX5_body_34 rfl (Nat.le_of_ble_eq_true rfl) (fun _ => ⟨rfl, rfl⟩) rfl ?_
  show g 0 0 (wC (tr1 S q 13)) 37 [some (.ref 0), some (.int 13), some (.int (nI h)), some (.int (nI dp)), none] []
  refine r_iload_n (pc := 37) C dX5_body_37 rfl rfl ?_
  refine r_iconst (pc := 38) (v := 1) C dX5_body_38 (by decide) ?_
  refine r_iadd (pc := 39) C dX5_body_39 ?_
  show g 0 0 (wC (tr1 S q 13)) 40 [some (.ref 0), some (.int 13), some (.int (nI h)), some (.int (nI dp)), none] [.int ((nI dp) + 1)]
  rw [show ((nI dp) + 1 : Int32) = nI (dp + 1) from (nI_sum rfl rfl)]
  refine r_istore (pc := 40) (lv' := [some (.ref 0), some (.int 13), some (.int (nI h)), some (.int (nI dp)), some (.int (nI (dp + 1)))]) C dX5_body_40 (Nat.le_of_ble_eq_true rfl) trivial rfl ?_
  refine r_iload_n (pc := 42) C dX5_body_42 rfl rfl ?_
  refine r_tableIn (pc := 43) (off := 114) (tgt := 157) C dX5_body_43 (by decide) (by decide) (by rfl) (by decide) ?_
  refine r_aload_n (pc := 157) C dX5_body_157 rfl rfl ?_
  refine r_bipush (pc := 158) (v := 10) C dX5_body_158 (by decide) ?_
  refine r_iload_n (pc := 160) C dX5_body_160 rfl rfl ?_
  refine r_iload (pc := 161) C dX5_body_161 rfl ?_
  refine r_callV0 (pc := 163) (As := [.int 10, .int (nI h), .int (nI (dp + 1))]) (st := []) (θ' := wC (tr1 (tr1 S q 13) (q + 1) 10)) C (c_X5_body_10 (tr1 S q 13) h (by omega) (q + 1) rfl (by omega) (dp + 1) (by omega)) xm_X5_body xk_X5_273 dX5_body_163 rfl rfl rfl rfl (Nat.le_of_ble_eq_true rfl) ⟨Nat.le_of_ble_eq_true rfl, Nat.le_of_ble_eq_true rfl⟩ ⟨rfl, rfl⟩ ⟨Nat.le_of_ble_eq_true rfl, Nat.le_of_ble_eq_true rfl⟩ rfl (Eq.trans (b := 55) rfl rfl) ?_
  show g 0 0 (wC (tr1 (tr1 S q 13) (q + 1) 10)) 166 [some (.ref 0), some (.int 13), some (.int (nI h)), some (.int (nI dp)), some (.int (nI (dp + 1)))] [.int ((tr1 S q 13) 2 3 h)]
  refine r_bipush (pc := 166) (v := 100) C dX5_body_166 (by decide) ?_
  refine r_isub (pc := 168) C dX5_body_168 ?_
  exact E _ _ _ _ _ _ dX5_body_169 (Nat.le_refl _) (Nat.le_refl _) rfl ⟨rfl, rfl⟩
set_option maxHeartbeats 4000000 in
set_option maxRecDepth 100000 in
theorem c_X5_body_14 (S : Nat → Nat → Nat → Int32) (h : Nat) (hh : h < 6) (q : Nat) (hq : S 0 8 0 = nI q) (hq16 : q + 3 ≤ 16) (dp : Nat) (hdp : dp + 2 ≤ 16) : MetA yX5_body (.code yX5_body cX5_body 5 (some .int) :: TT) (rmB 3) [.ref 0, .int 14, .int (nI h), .int (nI dp)] (wC S) (fun vr wr => vr = some (.int (2 * ((S 2 3 h) - 100))) ∧ wr = wC (tr1 (tr1 (tr1 S q 14) (q + 1) 13) ((q + 1) + 1) 10)) 0 0 := by
  refine MetA.of_i (by decide) (fun _ => Nat.le_of_ble_eq_true rfl) (Nat.le_of_ble_eq_true rfl) (fun g C E => ?_)
  replace C : Sem cX5_body RX5 "body" 5 (rmB 3) g := C
  show g 0 0 (wC S) 0 [some (.ref 0), some (.int 14), some (.int (nI h)), some (.int (nI dp)), none] []
  refine r_iload_n (pc := 0) C dX5_body_0 rfl rfl ?_
  refine r_bipush (pc := 1) (v := 16) C dX5_body_1 (by decide) ?_
  refine r_icmp_le (pc := 3) (tgt := 8) C dX5_body_3 (by decide) (fun _ => ?_) (fun h => absurd ((nI_leI (b := 16) (by omega) (by omega)).mpr (by omega)) h)
  refine r_aload_n (pc := 8) C dX5_body_8 rfl rfl ?_
  refine r_getfield (pc := 9) (v := .int ((S 0) 8 0)) C xf_X5_232 dX5_body_9 rfl rfl ?_
  refine r_bipush (pc := 12) (v := 16) C dX5_body_12 (by decide) ?_
  refine r_icmp_ge (pc := 14) (tgt := 37) C dX5_body_14 (by decide) (fun h => absurd h (by rw [hq]; exact nI_ge (b := 16) (by omega) (by omega))) (fun _ => ?_)
  refine r_aload_n (pc := 17) C dX5_body_17 rfl rfl ?_
  refine r_getfield (pc := 18) (v := .ref 54) C xf_X5_50 dX5_body_18 rfl rfl ?_
  refine r_aload_n (pc := 21) C dX5_body_21 rfl rfl ?_
  refine r_getfield (pc := 22) (v := .int ((S 0) 8 0)) C xf_X5_232 dX5_body_22 rfl rfl ?_
  refine r_iload_n (pc := 25) C dX5_body_25 rfl rfl ?_
  refine r_iastore (pc := 26) (θ' := wC (up3 S 0 (up2 (S 0) 7 (upd ((S 0) 7) q 14)))) C q dX5_body_26 rfl hq (by first | assumption | omega) rfl ?_
  refine r_aload_n (pc := 27) C dX5_body_27 rfl rfl ?_
  refine r_dup (pc := 28) C dX5_body_28 rfl ?_
  refine r_getfield (pc := 29) (v := .int ((S 0) 8 0)) C xf_X5_232 dX5_body_29 rfl rfl ?_
  refine r_iconst (pc := 32) (v := 1) C dX5_body_32 (by decide) ?_
  refine r_iadd (pc := 33) C dX5_body_33 ?_
  show g 0 0 (wC (up3 S 0 (up2 (S 0) 7 (upd ((S 0) 7) q 14)))) 34 [some (.ref 0), some (.int 14), some (.int (nI h)), some (.int (nI dp)), none] [.int (((S 0) 8 0) + 1), .ref 0]
  rw [show (((S 0) 8 0) + 1 : Int32) = nI (q + 1) from (nI_sum hq rfl)]
  refine r_putfield (pc := 34) (θ' := wC (up3 S 0 (up2 (up2 (S 0) 7 (upd ((S 0) 7) q 14)) 8 (k1 (nI (q + 1)))))) C xf_X5_232 xt_X5_8 dX5_body_34 rfl (Nat.le_of_ble_eq_true rfl) (fun _ => ⟨rfl, rfl⟩) rfl ?_
  show g 0 0 (wC (tr1 S q 14)) 37 [some (.ref 0), some (.int 14), some (.int (nI h)), some (.int (nI dp)), none] []
  refine r_iload_n (pc := 37) C dX5_body_37 rfl rfl ?_
  refine r_iconst (pc := 38) (v := 1) C dX5_body_38 (by decide) ?_
  refine r_iadd (pc := 39) C dX5_body_39 ?_
  show g 0 0 (wC (tr1 S q 14)) 40 [some (.ref 0), some (.int 14), some (.int (nI h)), some (.int (nI dp)), none] [.int ((nI dp) + 1)]
  rw [show ((nI dp) + 1 : Int32) = nI (dp + 1) from (nI_sum rfl rfl)]
  refine r_istore (pc := 40) (lv' := [some (.ref 0), some (.int 14), some (.int (nI h)), some (.int (nI dp)), some (.int (nI (dp + 1)))]) C dX5_body_40 (Nat.le_of_ble_eq_true rfl) trivial rfl ?_
  refine r_iload_n (pc := 42) C dX5_body_42 rfl rfl ?_
  refine r_tableIn (pc := 43) (off := 127) (tgt := 170) C dX5_body_43 (by decide) (by decide) (by rfl) (by decide) ?_
  refine r_iconst (pc := 170) (v := 2) C dX5_body_170 (by decide) ?_
  refine r_aload_n (pc := 171) C dX5_body_171 rfl rfl ?_
  refine r_bipush (pc := 172) (v := 13) C dX5_body_172 (by decide) ?_
  refine r_iload_n (pc := 174) C dX5_body_174 rfl rfl ?_
  refine r_iload (pc := 175) C dX5_body_175 rfl ?_
  refine r_callV0 (pc := 177) (As := [.int 13, .int (nI h), .int (nI (dp + 1))]) (st := [.int 2]) (θ' := wC (tr1 (tr1 (tr1 S q 14) (q + 1) 13) ((q + 1) + 1) 10)) C (c_X5_body_13 (tr1 S q 14) h (by omega) (q + 1) rfl (by omega) (dp + 1) (by omega)) xm_X5_body xk_X5_273 dX5_body_177 rfl rfl rfl rfl (Nat.le_of_ble_eq_true rfl) ⟨Nat.le_of_ble_eq_true rfl, Nat.le_of_ble_eq_true rfl⟩ ⟨rfl, rfl⟩ ⟨Nat.le_of_ble_eq_true rfl, Nat.le_of_ble_eq_true rfl⟩ rfl (Eq.trans (b := 55) rfl rfl) ?_
  show g 0 0 (wC (tr1 (tr1 (tr1 S q 14) (q + 1) 13) ((q + 1) + 1) 10)) 180 [some (.ref 0), some (.int 14), some (.int (nI h)), some (.int (nI dp)), some (.int (nI (dp + 1)))] [.int (((tr1 S q 14) 2 3 h) - 100), .int 2]
  refine r_imul (pc := 180) C dX5_body_180 ?_
  exact E _ _ _ _ _ _ dX5_body_181 (Nat.le_refl _) (Nat.le_refl _) rfl ⟨rfl, rfl⟩
set_option maxHeartbeats 4000000 in
set_option maxRecDepth 100000 in
theorem c_X5_answer_1_1 (S : Nat → Nat → Nat → Int32) (h : Nat) (hh : h < 6) (q : Nat) (hq : S 0 8 0 = nI q) (hq16 : q + 2 ≤ 16) (dp : Nat) (hdp : dp + 1 ≤ 16) (hs : S 2 0 h = 1) : MetA yX5_answer (.code yX5_answer cX5_answer 4 (some .int) :: TT) (rmB 5) [.ref 0, .int 1, .int (nI h), .int (nI dp)] (wC S) (fun vr wr => vr = some (.int (nI h + dipS (S 2) h (S 2 8 0))) ∧ wr = wC (tr1 (tr1 S q 21) (q + 1) 20)) 0 0 := by
  refine MetA.of_i (by decide) (fun _ => Nat.le_of_ble_eq_true rfl) (Nat.le_of_ble_eq_true rfl) (fun g C E => ?_)
  replace C : Sem cX5_answer RX5 "answer" 4 (rmB 5) g := C
  show g 0 0 (wC S) 0 [some (.ref 0), some (.int 1), some (.int (nI h)), some (.int (nI dp))] []
  refine r_aload_n (pc := 0) C dX5_answer_0 rfl rfl ?_
  refine r_aload_n (pc := 1) C dX5_answer_1 rfl rfl ?_
  refine r_getfield (pc := 2) (v := .ref 20) C xf_X5_25 dX5_answer_2 rfl rfl ?_
  refine r_getfield (pc := 5) (v := .ref 21) C xf_X5_226 dX5_answer_5 rfl rfl ?_
  refine r_iload_n (pc := 8) C dX5_answer_8 rfl rfl ?_
  refine r_iaload (pc := 9) (v := (S 2) 0 h) C h dX5_answer_9 rfl rfl (by first | assumption | omega) rfl ?_
  rw [show ((S 2) 0 h : Int32) = 1 from hs]
  refine r_iload_n (pc := 10) C dX5_answer_10 rfl rfl ?_
  refine r_callS0 (pc := 11) (As := [.int 1, .int 1]) (st := [.ref 0]) C c_X5_nearestBody_1_1 xm_X5_nearestBody xk_X5_270 dX5_answer_11 (fun _ => rfl) (fun _ => rfl) rfl rfl (Nat.le_of_ble_eq_true rfl) ⟨Nat.le_of_ble_eq_true rfl, Nat.le_of_ble_eq_true rfl⟩ ⟨rfl, rfl⟩ ⟨Nat.le_of_ble_eq_true rfl, Nat.le_of_ble_eq_true rfl⟩ rfl ?_
  show g 0 0 (wC S) 14 [some (.ref 0), some (.int 1), some (.int (nI h)), some (.int (nI dp))] [.int 21, .ref 0]
  refine r_iload_n (pc := 14) C dX5_answer_14 rfl rfl ?_
  refine r_iload_n (pc := 15) C dX5_answer_15 rfl rfl ?_
  refine r_callV0 (pc := 16) (As := [.int 21, .int (nI h), .int (nI dp)]) (st := []) (θ' := wC (tr1 (tr1 S q 21) (q + 1) 20)) C (c_X5_body_21 S h (by omega) q hq (by omega) dp (by omega)) xm_X5_body xk_X5_273 dX5_answer_16 rfl rfl rfl rfl (Nat.le_of_ble_eq_true rfl) ⟨Nat.le_of_ble_eq_true rfl, Nat.le_of_ble_eq_true rfl⟩ ⟨rfl, rfl⟩ ⟨Nat.le_of_ble_eq_true rfl, Nat.le_of_ble_eq_true rfl⟩ rfl (Eq.trans (b := 55) rfl rfl) ?_
  show g 0 0 (wC (tr1 (tr1 S q 21) (q + 1) 20)) 19 [some (.ref 0), some (.int 1), some (.int (nI h)), some (.int (nI dp))] [.int (nI h + dipS (S 2) h (S 2 8 0))]
  exact E _ _ _ _ _ _ dX5_answer_19 (Nat.le_refl _) (Nat.le_refl _) rfl ⟨rfl, rfl⟩
set_option maxHeartbeats 4000000 in
set_option maxRecDepth 100000 in
theorem c_X5_answer_2_1 (S : Nat → Nat → Nat → Int32) (h : Nat) (hh : h < 6) (q : Nat) (hq : S 0 8 0 = nI q) (hq16 : q + 3 ≤ 16) (dp : Nat) (hdp : dp + 2 ≤ 16) (hs : S 2 0 h = 2) : MetA yX5_answer (.code yX5_answer cX5_answer 4 (some .int) :: TT) (rmB 5) [.ref 0, .int 1, .int (nI h), .int (nI dp)] (wC S) (fun vr wr => vr = some (.int (2 * (nI h + dipS (S 2) h (S 2 8 0)))) ∧ wr = wC (tr1 (tr1 (tr1 S q 24) (q + 1) 21) ((q + 1) + 1) 20)) 0 0 := by
  refine MetA.of_i (by decide) (fun _ => Nat.le_of_ble_eq_true rfl) (Nat.le_of_ble_eq_true rfl) (fun g C E => ?_)
  replace C : Sem cX5_answer RX5 "answer" 4 (rmB 5) g := C
  show g 0 0 (wC S) 0 [some (.ref 0), some (.int 1), some (.int (nI h)), some (.int (nI dp))] []
  refine r_aload_n (pc := 0) C dX5_answer_0 rfl rfl ?_
  refine r_aload_n (pc := 1) C dX5_answer_1 rfl rfl ?_
  refine r_getfield (pc := 2) (v := .ref 20) C xf_X5_25 dX5_answer_2 rfl rfl ?_
  refine r_getfield (pc := 5) (v := .ref 21) C xf_X5_226 dX5_answer_5 rfl rfl ?_
  refine r_iload_n (pc := 8) C dX5_answer_8 rfl rfl ?_
  refine r_iaload (pc := 9) (v := (S 2) 0 h) C h dX5_answer_9 rfl rfl (by first | assumption | omega) rfl ?_
  rw [show ((S 2) 0 h : Int32) = 2 from hs]
  refine r_iload_n (pc := 10) C dX5_answer_10 rfl rfl ?_
  refine r_callS0 (pc := 11) (As := [.int 2, .int 1]) (st := [.ref 0]) C c_X5_nearestBody_2_1 xm_X5_nearestBody xk_X5_270 dX5_answer_11 (fun _ => rfl) (fun _ => rfl) rfl rfl (Nat.le_of_ble_eq_true rfl) ⟨Nat.le_of_ble_eq_true rfl, Nat.le_of_ble_eq_true rfl⟩ ⟨rfl, rfl⟩ ⟨Nat.le_of_ble_eq_true rfl, Nat.le_of_ble_eq_true rfl⟩ rfl ?_
  show g 0 0 (wC S) 14 [some (.ref 0), some (.int 1), some (.int (nI h)), some (.int (nI dp))] [.int 24, .ref 0]
  refine r_iload_n (pc := 14) C dX5_answer_14 rfl rfl ?_
  refine r_iload_n (pc := 15) C dX5_answer_15 rfl rfl ?_
  refine r_callV0 (pc := 16) (As := [.int 24, .int (nI h), .int (nI dp)]) (st := []) (θ' := wC (tr1 (tr1 (tr1 S q 24) (q + 1) 21) ((q + 1) + 1) 20)) C (c_X5_body_24 S h (by omega) q hq (by omega) dp (by omega)) xm_X5_body xk_X5_273 dX5_answer_16 rfl rfl rfl rfl (Nat.le_of_ble_eq_true rfl) ⟨Nat.le_of_ble_eq_true rfl, Nat.le_of_ble_eq_true rfl⟩ ⟨rfl, rfl⟩ ⟨Nat.le_of_ble_eq_true rfl, Nat.le_of_ble_eq_true rfl⟩ rfl (Eq.trans (b := 55) rfl rfl) ?_
  show g 0 0 (wC (tr1 (tr1 (tr1 S q 24) (q + 1) 21) ((q + 1) + 1) 20)) 19 [some (.ref 0), some (.int 1), some (.int (nI h)), some (.int (nI dp))] [.int (2 * (nI h + dipS (S 2) h (S 2 8 0)))]
  exact E _ _ _ _ _ _ dX5_answer_19 (Nat.le_refl _) (Nat.le_refl _) rfl ⟨rfl, rfl⟩
set_option maxHeartbeats 4000000 in
set_option maxRecDepth 100000 in
theorem c_X5_answer_3_1 (S : Nat → Nat → Nat → Int32) (h : Nat) (hh : h < 6) (q : Nat) (hq : S 0 8 0 = nI q) (hq16 : q + 3 ≤ 16) (dp : Nat) (hdp : dp + 2 ≤ 16) (hs : S 2 0 h = 3) : MetA yX5_answer (.code yX5_answer cX5_answer 4 (some .int) :: TT) (rmB 5) [.ref 0, .int 1, .int (nI h), .int (nI dp)] (wC S) (fun vr wr => vr = some (.int ((nI h + dipS (S 2) h (S 2 8 0)) - 1000)) ∧ wr = wC (tr1 (tr1 (tr1 S q 22) (q + 1) 21) ((q + 1) + 1) 20)) 0 0 := by
  refine MetA.of_i (by decide) (fun _ => Nat.le_of_ble_eq_true rfl) (Nat.le_of_ble_eq_true rfl) (fun g C E => ?_)
  replace C : Sem cX5_answer RX5 "answer" 4 (rmB 5) g := C
  show g 0 0 (wC S) 0 [some (.ref 0), some (.int 1), some (.int (nI h)), some (.int (nI dp))] []
  refine r_aload_n (pc := 0) C dX5_answer_0 rfl rfl ?_
  refine r_aload_n (pc := 1) C dX5_answer_1 rfl rfl ?_
  refine r_getfield (pc := 2) (v := .ref 20) C xf_X5_25 dX5_answer_2 rfl rfl ?_
  refine r_getfield (pc := 5) (v := .ref 21) C xf_X5_226 dX5_answer_5 rfl rfl ?_
  refine r_iload_n (pc := 8) C dX5_answer_8 rfl rfl ?_
  refine r_iaload (pc := 9) (v := (S 2) 0 h) C h dX5_answer_9 rfl rfl (by first | assumption | omega) rfl ?_
  rw [show ((S 2) 0 h : Int32) = 3 from hs]
  refine r_iload_n (pc := 10) C dX5_answer_10 rfl rfl ?_
  refine r_callS0 (pc := 11) (As := [.int 3, .int 1]) (st := [.ref 0]) C c_X5_nearestBody_3_1 xm_X5_nearestBody xk_X5_270 dX5_answer_11 (fun _ => rfl) (fun _ => rfl) rfl rfl (Nat.le_of_ble_eq_true rfl) ⟨Nat.le_of_ble_eq_true rfl, Nat.le_of_ble_eq_true rfl⟩ ⟨rfl, rfl⟩ ⟨Nat.le_of_ble_eq_true rfl, Nat.le_of_ble_eq_true rfl⟩ rfl ?_
  show g 0 0 (wC S) 14 [some (.ref 0), some (.int 1), some (.int (nI h)), some (.int (nI dp))] [.int 22, .ref 0]
  refine r_iload_n (pc := 14) C dX5_answer_14 rfl rfl ?_
  refine r_iload_n (pc := 15) C dX5_answer_15 rfl rfl ?_
  refine r_callV0 (pc := 16) (As := [.int 22, .int (nI h), .int (nI dp)]) (st := []) (θ' := wC (tr1 (tr1 (tr1 S q 22) (q + 1) 21) ((q + 1) + 1) 20)) C (c_X5_body_22 S h (by omega) q hq (by omega) dp (by omega)) xm_X5_body xk_X5_273 dX5_answer_16 rfl rfl rfl rfl (Nat.le_of_ble_eq_true rfl) ⟨Nat.le_of_ble_eq_true rfl, Nat.le_of_ble_eq_true rfl⟩ ⟨rfl, rfl⟩ ⟨Nat.le_of_ble_eq_true rfl, Nat.le_of_ble_eq_true rfl⟩ rfl (Eq.trans (b := 55) rfl rfl) ?_
  show g 0 0 (wC (tr1 (tr1 (tr1 S q 22) (q + 1) 21) ((q + 1) + 1) 20)) 19 [some (.ref 0), some (.int 1), some (.int (nI h)), some (.int (nI dp))] [.int ((nI h + dipS (S 2) h (S 2 8 0)) - 1000)]
  exact E _ _ _ _ _ _ dX5_answer_19 (Nat.le_refl _) (Nat.le_refl _) rfl ⟨rfl, rfl⟩
set_option maxHeartbeats 4000000 in
set_option maxRecDepth 100000 in
theorem c_X5_answer_4_0 (S : Nat → Nat → Nat → Int32) (h : Nat) (hh : h < 6) (q : Nat) (hq : S 0 8 0 = nI q) (hq16 : q + 2 ≤ 16) (dp : Nat) (hdp : dp + 1 ≤ 16) (hs : S 2 0 h = 4) : MetA yX5_answer (.code yX5_answer cX5_answer 4 (some .int) :: TT) (rmB 5) [.ref 0, .int 0, .int (nI h), .int (nI dp)] (wC S) (fun vr wr => vr = some (.int ((S 2 3 h) - 100)) ∧ wr = wC (tr1 (tr1 S q 13) (q + 1) 10)) 0 0 := by
  refine MetA.of_i (by decide) (fun _ => Nat.le_of_ble_eq_true rfl) (Nat.le_of_ble_eq_true rfl) (fun g C E => ?_)
  replace C : Sem cX5_answer RX5 "answer" 4 (rmB 5) g := C
  show g 0 0 (wC S) 0 [some (.ref 0), some (.int 0), some (.int (nI h)), some (.int (nI dp))] []
  refine r_aload_n (pc := 0) C dX5_answer_0 rfl rfl ?_
  refine r_aload_n (pc := 1) C dX5_answer_1 rfl rfl ?_
  refine r_getfield (pc := 2) (v := .ref 20) C xf_X5_25 dX5_answer_2 rfl rfl ?_
  refine r_getfield (pc := 5) (v := .ref 21) C xf_X5_226 dX5_answer_5 rfl rfl ?_
  refine r_iload_n (pc := 8) C dX5_answer_8 rfl rfl ?_
  refine r_iaload (pc := 9) (v := (S 2) 0 h) C h dX5_answer_9 rfl rfl (by first | assumption | omega) rfl ?_
  rw [show ((S 2) 0 h : Int32) = 4 from hs]
  refine r_iload_n (pc := 10) C dX5_answer_10 rfl rfl ?_
  refine r_callS0 (pc := 11) (As := [.int 4, .int 0]) (st := [.ref 0]) C c_X5_nearestBody_4_0 xm_X5_nearestBody xk_X5_270 dX5_answer_11 (fun _ => rfl) (fun _ => rfl) rfl rfl (Nat.le_of_ble_eq_true rfl) ⟨Nat.le_of_ble_eq_true rfl, Nat.le_of_ble_eq_true rfl⟩ ⟨rfl, rfl⟩ ⟨Nat.le_of_ble_eq_true rfl, Nat.le_of_ble_eq_true rfl⟩ rfl ?_
  show g 0 0 (wC S) 14 [some (.ref 0), some (.int 0), some (.int (nI h)), some (.int (nI dp))] [.int 13, .ref 0]
  refine r_iload_n (pc := 14) C dX5_answer_14 rfl rfl ?_
  refine r_iload_n (pc := 15) C dX5_answer_15 rfl rfl ?_
  refine r_callV0 (pc := 16) (As := [.int 13, .int (nI h), .int (nI dp)]) (st := []) (θ' := wC (tr1 (tr1 S q 13) (q + 1) 10)) C (c_X5_body_13 S h (by omega) q hq (by omega) dp (by omega)) xm_X5_body xk_X5_273 dX5_answer_16 rfl rfl rfl rfl (Nat.le_of_ble_eq_true rfl) ⟨Nat.le_of_ble_eq_true rfl, Nat.le_of_ble_eq_true rfl⟩ ⟨rfl, rfl⟩ ⟨Nat.le_of_ble_eq_true rfl, Nat.le_of_ble_eq_true rfl⟩ rfl (Eq.trans (b := 55) rfl rfl) ?_
  show g 0 0 (wC (tr1 (tr1 S q 13) (q + 1) 10)) 19 [some (.ref 0), some (.int 0), some (.int (nI h)), some (.int (nI dp))] [.int ((S 2 3 h) - 100)]
  exact E _ _ _ _ _ _ dX5_answer_19 (Nat.le_refl _) (Nat.le_refl _) rfl ⟨rfl, rfl⟩
set_option maxHeartbeats 4000000 in
set_option maxRecDepth 100000 in
theorem c_X5_answer_5_0 (S : Nat → Nat → Nat → Int32) (h : Nat) (hh : h < 6) (q : Nat) (hq : S 0 8 0 = nI q) (hq16 : q + 3 ≤ 16) (dp : Nat) (hdp : dp + 2 ≤ 16) (hs : S 2 0 h = 5) : MetA yX5_answer (.code yX5_answer cX5_answer 4 (some .int) :: TT) (rmB 5) [.ref 0, .int 0, .int (nI h), .int (nI dp)] (wC S) (fun vr wr => vr = some (.int (2 * ((S 2 3 h) - 100))) ∧ wr = wC (tr1 (tr1 (tr1 S q 14) (q + 1) 13) ((q + 1) + 1) 10)) 0 0 := by
  refine MetA.of_i (by decide) (fun _ => Nat.le_of_ble_eq_true rfl) (Nat.le_of_ble_eq_true rfl) (fun g C E => ?_)
  replace C : Sem cX5_answer RX5 "answer" 4 (rmB 5) g := C
  show g 0 0 (wC S) 0 [some (.ref 0), some (.int 0), some (.int (nI h)), some (.int (nI dp))] []
  refine r_aload_n (pc := 0) C dX5_answer_0 rfl rfl ?_
  refine r_aload_n (pc := 1) C dX5_answer_1 rfl rfl ?_
  refine r_getfield (pc := 2) (v := .ref 20) C xf_X5_25 dX5_answer_2 rfl rfl ?_
  refine r_getfield (pc := 5) (v := .ref 21) C xf_X5_226 dX5_answer_5 rfl rfl ?_
  refine r_iload_n (pc := 8) C dX5_answer_8 rfl rfl ?_
  refine r_iaload (pc := 9) (v := (S 2) 0 h) C h dX5_answer_9 rfl rfl (by first | assumption | omega) rfl ?_
  rw [show ((S 2) 0 h : Int32) = 5 from hs]
  refine r_iload_n (pc := 10) C dX5_answer_10 rfl rfl ?_
  refine r_callS0 (pc := 11) (As := [.int 5, .int 0]) (st := [.ref 0]) C c_X5_nearestBody_5_0 xm_X5_nearestBody xk_X5_270 dX5_answer_11 (fun _ => rfl) (fun _ => rfl) rfl rfl (Nat.le_of_ble_eq_true rfl) ⟨Nat.le_of_ble_eq_true rfl, Nat.le_of_ble_eq_true rfl⟩ ⟨rfl, rfl⟩ ⟨Nat.le_of_ble_eq_true rfl, Nat.le_of_ble_eq_true rfl⟩ rfl ?_
  show g 0 0 (wC S) 14 [some (.ref 0), some (.int 0), some (.int (nI h)), some (.int (nI dp))] [.int 14, .ref 0]
  refine r_iload_n (pc := 14) C dX5_answer_14 rfl rfl ?_
  refine r_iload_n (pc := 15) C dX5_answer_15 rfl rfl ?_
  refine r_callV0 (pc := 16) (As := [.int 14, .int (nI h), .int (nI dp)]) (st := []) (θ' := wC (tr1 (tr1 (tr1 S q 14) (q + 1) 13) ((q + 1) + 1) 10)) C (c_X5_body_14 S h (by omega) q hq (by omega) dp (by omega)) xm_X5_body xk_X5_273 dX5_answer_16 rfl rfl rfl rfl (Nat.le_of_ble_eq_true rfl) ⟨Nat.le_of_ble_eq_true rfl, Nat.le_of_ble_eq_true rfl⟩ ⟨rfl, rfl⟩ ⟨Nat.le_of_ble_eq_true rfl, Nat.le_of_ble_eq_true rfl⟩ rfl (Eq.trans (b := 55) rfl rfl) ?_
  show g 0 0 (wC (tr1 (tr1 (tr1 S q 14) (q + 1) 13) ((q + 1) + 1) 10)) 19 [some (.ref 0), some (.int 0), some (.int (nI h)), some (.int (nI dp))] [.int (2 * ((S 2 3 h) - 100))]
  exact E _ _ _ _ _ _ dX5_answer_19 (Nat.le_refl _) (Nat.le_refl _) rfl ⟨rfl, rfl⟩
set_option maxHeartbeats 4000000 in
set_option maxRecDepth 100000 in
theorem c_X5_body_11_1 (S : Nat → Nat → Nat → Int32) (h : Nat) (hh : h < 6) (q : Nat) (hq : S 0 8 0 = nI q) (hq16 : q + 4 ≤ 16) (dp : Nat) (hdp : dp + 4 ≤ 16) (hs : S 2 0 h = 1) : MetA yX5_body (.code yX5_body cX5_body 5 (some .int) :: TT) (rmB 7) [.ref 0, .int 11, .int (nI h), .int (nI dp)] (wC S) (fun vr wr => vr = some (.int ((S 2 3 h) + (nI h + dipS (S 2) h (S 2 8 0)))) ∧ wr = wC (tr1 (tr1 (tr1 (tr1 S q 11) (q + 1) 10) ((q + 1) + 1) 21) (((q + 1) + 1) + 1) 20)) 0 0 := by
  refine MetA.of_i (by decide) (fun _ => Nat.le_of_ble_eq_true rfl) (Nat.le_of_ble_eq_true rfl) (fun g C E => ?_)
  replace C : Sem cX5_body RX5 "body" 5 (rmB 7) g := C
  show g 0 0 (wC S) 0 [some (.ref 0), some (.int 11), some (.int (nI h)), some (.int (nI dp)), none] []
  refine r_iload_n (pc := 0) C dX5_body_0 rfl rfl ?_
  refine r_bipush (pc := 1) (v := 16) C dX5_body_1 (by decide) ?_
  refine r_icmp_le (pc := 3) (tgt := 8) C dX5_body_3 (by decide) (fun _ => ?_) (fun h => absurd ((nI_leI (b := 16) (by omega) (by omega)).mpr (by omega)) h)
  refine r_aload_n (pc := 8) C dX5_body_8 rfl rfl ?_
  refine r_getfield (pc := 9) (v := .int ((S 0) 8 0)) C xf_X5_232 dX5_body_9 rfl rfl ?_
  refine r_bipush (pc := 12) (v := 16) C dX5_body_12 (by decide) ?_
  refine r_icmp_ge (pc := 14) (tgt := 37) C dX5_body_14 (by decide) (fun h => absurd h (by rw [hq]; exact nI_ge (b := 16) (by omega) (by omega))) (fun _ => ?_)
  refine r_aload_n (pc := 17) C dX5_body_17 rfl rfl ?_
  refine r_getfield (pc := 18) (v := .ref 54) C xf_X5_50 dX5_body_18 rfl rfl ?_
  refine r_aload_n (pc := 21) C dX5_body_21 rfl rfl ?_
  refine r_getfield (pc := 22) (v := .int ((S 0) 8 0)) C xf_X5_232 dX5_body_22 rfl rfl ?_
  refine r_iload_n (pc := 25) C dX5_body_25 rfl rfl ?_
  refine r_iastore (pc := 26) (θ' := wC (up3 S 0 (up2 (S 0) 7 (upd ((S 0) 7) q 11)))) C q dX5_body_26 rfl hq (by first | assumption | omega) rfl ?_
  refine r_aload_n (pc := 27) C dX5_body_27 rfl rfl ?_
  refine r_dup (pc := 28) C dX5_body_28 rfl ?_
  refine r_getfield (pc := 29) (v := .int ((S 0) 8 0)) C xf_X5_232 dX5_body_29 rfl rfl ?_
  refine r_iconst (pc := 32) (v := 1) C dX5_body_32 (by decide) ?_
  refine r_iadd (pc := 33) C dX5_body_33 ?_
  show g 0 0 (wC (up3 S 0 (up2 (S 0) 7 (upd ((S 0) 7) q 11)))) 34 [some (.ref 0), some (.int 11), some (.int (nI h)), some (.int (nI dp)), none] [.int (((S 0) 8 0) + 1), .ref 0]
  rw [show (((S 0) 8 0) + 1 : Int32) = nI (q + 1) from (nI_sum hq rfl)]
  refine r_putfield (pc := 34) (θ' := wC (up3 S 0 (up2 (up2 (S 0) 7 (upd ((S 0) 7) q 11)) 8 (k1 (nI (q + 1)))))) C xf_X5_232 xt_X5_8 dX5_body_34 rfl (Nat.le_of_ble_eq_true rfl) (fun _ => ⟨rfl, rfl⟩) rfl ?_
  show g 0 0 (wC (tr1 S q 11)) 37 [some (.ref 0), some (.int 11), some (.int (nI h)), some (.int (nI dp)), none] []
  refine r_iload_n (pc := 37) C dX5_body_37 rfl rfl ?_
  refine r_iconst (pc := 38) (v := 1) C dX5_body_38 (by decide) ?_
  refine r_iadd (pc := 39) C dX5_body_39 ?_
  show g 0 0 (wC (tr1 S q 11)) 40 [some (.ref 0), some (.int 11), some (.int (nI h)), some (.int (nI dp)), none] [.int ((nI dp) + 1)]
  rw [show ((nI dp) + 1 : Int32) = nI (dp + 1) from (nI_sum rfl rfl)]
  refine r_istore (pc := 40) (lv' := [some (.ref 0), some (.int 11), some (.int (nI h)), some (.int (nI dp)), some (.int (nI (dp + 1)))]) C dX5_body_40 (Nat.le_of_ble_eq_true rfl) trivial rfl ?_
  refine r_iload_n (pc := 42) C dX5_body_42 rfl rfl ?_
  refine r_tableIn (pc := 43) (off := 83) (tgt := 126) C dX5_body_43 (by decide) (by decide) (by rfl) (by decide) ?_
  refine r_aload_n (pc := 126) C dX5_body_126 rfl rfl ?_
  refine r_bipush (pc := 127) (v := 10) C dX5_body_127 (by decide) ?_
  refine r_iload_n (pc := 129) C dX5_body_129 rfl rfl ?_
  refine r_iload (pc := 130) C dX5_body_130 rfl ?_
  refine r_callV0 (pc := 132) (As := [.int 10, .int (nI h), .int (nI (dp + 1))]) (st := []) (θ' := wC (tr1 (tr1 S q 11) (q + 1) 10)) C (c_X5_body_10 (tr1 S q 11) h (by omega) (q + 1) rfl (by omega) (dp + 1) (by omega)) xm_X5_body xk_X5_273 dX5_body_132 rfl rfl rfl rfl (Nat.le_of_ble_eq_true rfl) ⟨Nat.le_of_ble_eq_true rfl, Nat.le_of_ble_eq_true rfl⟩ ⟨rfl, rfl⟩ ⟨Nat.le_of_ble_eq_true rfl, Nat.le_of_ble_eq_true rfl⟩ rfl (Eq.trans (b := 55) rfl rfl) ?_
  show g 0 0 (wC (tr1 (tr1 S q 11) (q + 1) 10)) 135 [some (.ref 0), some (.int 11), some (.int (nI h)), some (.int (nI dp)), some (.int (nI (dp + 1)))] [.int ((tr1 S q 11) 2 3 h)]
  refine r_aload_n (pc := 135) C dX5_body_135 rfl rfl ?_
  refine r_iconst (pc := 136) (v := 1) C dX5_body_136 (by decide) ?_
  refine r_iload_n (pc := 137) C dX5_body_137 rfl rfl ?_
  refine r_iload (pc := 138) C dX5_body_138 rfl ?_
  refine r_callV0 (pc := 140) (As := [.int 1, .int (nI h), .int (nI (dp + 1))]) (st := [.int ((tr1 S q 11) 2 3 h)]) (θ' := wC (tr1 (tr1 (tr1 (tr1 S q 11) (q + 1) 10) ((q + 1) + 1) 21) (((q + 1) + 1) + 1) 20)) C (c_X5_answer_1_1 (tr1 (tr1 S q 11) (q + 1) 10) h (by omega) ((q + 1) + 1) rfl (by omega) (dp + 1) (by omega) hs) xm_X5_answer xk_X5_235 dX5_body_140 rfl rfl rfl rfl (Nat.le_of_ble_eq_true rfl) ⟨Nat.le_of_ble_eq_true rfl, Nat.le_of_ble_eq_true rfl⟩ ⟨rfl, rfl⟩ ⟨Nat.le_of_ble_eq_true rfl, Nat.le_of_ble_eq_true rfl⟩ rfl (Eq.trans (b := 55) rfl rfl) ?_
  show g 0 0 (wC (tr1 (tr1 (tr1 (tr1 S q 11) (q + 1) 10) ((q + 1) + 1) 21) (((q + 1) + 1) + 1) 20)) 143 [some (.ref 0), some (.int 11), some (.int (nI h)), some (.int (nI dp)), some (.int (nI (dp + 1)))] [.int (nI h + dipS ((tr1 (tr1 S q 11) (q + 1) 10) 2) h ((tr1 (tr1 S q 11) (q + 1) 10) 2 8 0)), .int ((tr1 S q 11) 2 3 h)]
  refine r_iadd (pc := 143) C dX5_body_143 ?_
  exact E _ _ _ _ _ _ dX5_body_144 (Nat.le_refl _) (Nat.le_refl _) rfl ⟨rfl, rfl⟩
set_option maxHeartbeats 4000000 in
set_option maxRecDepth 100000 in
theorem c_X5_body_11_2 (S : Nat → Nat → Nat → Int32) (h : Nat) (hh : h < 6) (q : Nat) (hq : S 0 8 0 = nI q) (hq16 : q + 5 ≤ 16) (dp : Nat) (hdp : dp + 4 ≤ 16) (hs : S 2 0 h = 2) : MetA yX5_body (.code yX5_body cX5_body 5 (some .int) :: TT) (rmB 7) [.ref 0, .int 11, .int (nI h), .int (nI dp)] (wC S) (fun vr wr => vr = some (.int ((S 2 3 h) + (2 * (nI h + dipS (S 2) h (S 2 8 0))))) ∧ wr = wC (tr1 (tr1 (tr1 (tr1 (tr1 S q 11) (q + 1) 10) ((q + 1) + 1) 24) (((q + 1) + 1) + 1) 21) ((((q + 1) + 1) + 1) + 1) 20)) 0 0 := by
  refine MetA.of_i (by decide) (fun _ => Nat.le_of_ble_eq_true rfl) (Nat.le_of_ble_eq_true rfl) (fun g C E => ?_)
  replace C : Sem cX5_body RX5 "body" 5 (rmB 7) g := C
  show g 0 0 (wC S) 0 [some (.ref 0), some (.int 11), some (.int (nI h)), some (.int (nI dp)), none] []
  refine r_iload_n (pc := 0) C dX5_body_0 rfl rfl ?_
  refine r_bipush (pc := 1) (v := 16) C dX5_body_1 (by decide) ?_
  refine r_icmp_le (pc := 3) (tgt := 8) C dX5_body_3 (by decide) (fun _ => ?_) (fun h => absurd ((nI_leI (b := 16) (by omega) (by omega)).mpr (by omega)) h)
  refine r_aload_n (pc := 8) C dX5_body_8 rfl rfl ?_
  refine r_getfield (pc := 9) (v := .int ((S 0) 8 0)) C xf_X5_232 dX5_body_9 rfl rfl ?_
  refine r_bipush (pc := 12) (v := 16) C dX5_body_12 (by decide) ?_
  refine r_icmp_ge (pc := 14) (tgt := 37) C dX5_body_14 (by decide) (fun h => absurd h (by rw [hq]; exact nI_ge (b := 16) (by omega) (by omega))) (fun _ => ?_)
  refine r_aload_n (pc := 17) C dX5_body_17 rfl rfl ?_
  refine r_getfield (pc := 18) (v := .ref 54) C xf_X5_50 dX5_body_18 rfl rfl ?_
  refine r_aload_n (pc := 21) C dX5_body_21 rfl rfl ?_
  refine r_getfield (pc := 22) (v := .int ((S 0) 8 0)) C xf_X5_232 dX5_body_22 rfl rfl ?_
  refine r_iload_n (pc := 25) C dX5_body_25 rfl rfl ?_
  refine r_iastore (pc := 26) (θ' := wC (up3 S 0 (up2 (S 0) 7 (upd ((S 0) 7) q 11)))) C q dX5_body_26 rfl hq (by first | assumption | omega) rfl ?_
  refine r_aload_n (pc := 27) C dX5_body_27 rfl rfl ?_
  refine r_dup (pc := 28) C dX5_body_28 rfl ?_
  refine r_getfield (pc := 29) (v := .int ((S 0) 8 0)) C xf_X5_232 dX5_body_29 rfl rfl ?_
  refine r_iconst (pc := 32) (v := 1) C dX5_body_32 (by decide) ?_
  refine r_iadd (pc := 33) C dX5_body_33 ?_
  show g 0 0 (wC (up3 S 0 (up2 (S 0) 7 (upd ((S 0) 7) q 11)))) 34 [some (.ref 0), some (.int 11), some (.int (nI h)), some (.int (nI dp)), none] [.int (((S 0) 8 0) + 1), .ref 0]
  rw [show (((S 0) 8 0) + 1 : Int32) = nI (q + 1) from (nI_sum hq rfl)]
  refine r_putfield (pc := 34) (θ' := wC (up3 S 0 (up2 (up2 (S 0) 7 (upd ((S 0) 7) q 11)) 8 (k1 (nI (q + 1)))))) C xf_X5_232 xt_X5_8 dX5_body_34 rfl (Nat.le_of_ble_eq_true rfl) (fun _ => ⟨rfl, rfl⟩) rfl ?_
  show g 0 0 (wC (tr1 S q 11)) 37 [some (.ref 0), some (.int 11), some (.int (nI h)), some (.int (nI dp)), none] []
  refine r_iload_n (pc := 37) C dX5_body_37 rfl rfl ?_
  refine r_iconst (pc := 38) (v := 1) C dX5_body_38 (by decide) ?_
  refine r_iadd (pc := 39) C dX5_body_39 ?_
  show g 0 0 (wC (tr1 S q 11)) 40 [some (.ref 0), some (.int 11), some (.int (nI h)), some (.int (nI dp)), none] [.int ((nI dp) + 1)]
  rw [show ((nI dp) + 1 : Int32) = nI (dp + 1) from (nI_sum rfl rfl)]
  refine r_istore (pc := 40) (lv' := [some (.ref 0), some (.int 11), some (.int (nI h)), some (.int (nI dp)), some (.int (nI (dp + 1)))]) C dX5_body_40 (Nat.le_of_ble_eq_true rfl) trivial rfl ?_
  refine r_iload_n (pc := 42) C dX5_body_42 rfl rfl ?_
  refine r_tableIn (pc := 43) (off := 83) (tgt := 126) C dX5_body_43 (by decide) (by decide) (by rfl) (by decide) ?_
  refine r_aload_n (pc := 126) C dX5_body_126 rfl rfl ?_
  refine r_bipush (pc := 127) (v := 10) C dX5_body_127 (by decide) ?_
  refine r_iload_n (pc := 129) C dX5_body_129 rfl rfl ?_
  refine r_iload (pc := 130) C dX5_body_130 rfl ?_
  refine r_callV0 (pc := 132) (As := [.int 10, .int (nI h), .int (nI (dp + 1))]) (st := []) (θ' := wC (tr1 (tr1 S q 11) (q + 1) 10)) C (c_X5_body_10 (tr1 S q 11) h (by omega) (q + 1) rfl (by omega) (dp + 1) (by omega)) xm_X5_body xk_X5_273 dX5_body_132 rfl rfl rfl rfl (Nat.le_of_ble_eq_true rfl) ⟨Nat.le_of_ble_eq_true rfl, Nat.le_of_ble_eq_true rfl⟩ ⟨rfl, rfl⟩ ⟨Nat.le_of_ble_eq_true rfl, Nat.le_of_ble_eq_true rfl⟩ rfl (Eq.trans (b := 55) rfl rfl) ?_
  show g 0 0 (wC (tr1 (tr1 S q 11) (q + 1) 10)) 135 [some (.ref 0), some (.int 11), some (.int (nI h)), some (.int (nI dp)), some (.int (nI (dp + 1)))] [.int ((tr1 S q 11) 2 3 h)]
  refine r_aload_n (pc := 135) C dX5_body_135 rfl rfl ?_
  refine r_iconst (pc := 136) (v := 1) C dX5_body_136 (by decide) ?_
  refine r_iload_n (pc := 137) C dX5_body_137 rfl rfl ?_
  refine r_iload (pc := 138) C dX5_body_138 rfl ?_
  refine r_callV0 (pc := 140) (As := [.int 1, .int (nI h), .int (nI (dp + 1))]) (st := [.int ((tr1 S q 11) 2 3 h)]) (θ' := wC (tr1 (tr1 (tr1 (tr1 (tr1 S q 11) (q + 1) 10) ((q + 1) + 1) 24) (((q + 1) + 1) + 1) 21) ((((q + 1) + 1) + 1) + 1) 20)) C (c_X5_answer_2_1 (tr1 (tr1 S q 11) (q + 1) 10) h (by omega) ((q + 1) + 1) rfl (by omega) (dp + 1) (by omega) hs) xm_X5_answer xk_X5_235 dX5_body_140 rfl rfl rfl rfl (Nat.le_of_ble_eq_true rfl) ⟨Nat.le_of_ble_eq_true rfl, Nat.le_of_ble_eq_true rfl⟩ ⟨rfl, rfl⟩ ⟨Nat.le_of_ble_eq_true rfl, Nat.le_of_ble_eq_true rfl⟩ rfl (Eq.trans (b := 55) rfl rfl) ?_
  show g 0 0 (wC (tr1 (tr1 (tr1 (tr1 (tr1 S q 11) (q + 1) 10) ((q + 1) + 1) 24) (((q + 1) + 1) + 1) 21) ((((q + 1) + 1) + 1) + 1) 20)) 143 [some (.ref 0), some (.int 11), some (.int (nI h)), some (.int (nI dp)), some (.int (nI (dp + 1)))] [.int (2 * (nI h + dipS ((tr1 (tr1 S q 11) (q + 1) 10) 2) h ((tr1 (tr1 S q 11) (q + 1) 10) 2 8 0))), .int ((tr1 S q 11) 2 3 h)]
  refine r_iadd (pc := 143) C dX5_body_143 ?_
  exact E _ _ _ _ _ _ dX5_body_144 (Nat.le_refl _) (Nat.le_refl _) rfl ⟨rfl, rfl⟩
set_option maxHeartbeats 4000000 in
set_option maxRecDepth 100000 in
theorem c_X5_body_11_3 (S : Nat → Nat → Nat → Int32) (h : Nat) (hh : h < 6) (q : Nat) (hq : S 0 8 0 = nI q) (hq16 : q + 5 ≤ 16) (dp : Nat) (hdp : dp + 4 ≤ 16) (hs : S 2 0 h = 3) : MetA yX5_body (.code yX5_body cX5_body 5 (some .int) :: TT) (rmB 7) [.ref 0, .int 11, .int (nI h), .int (nI dp)] (wC S) (fun vr wr => vr = some (.int ((S 2 3 h) + ((nI h + dipS (S 2) h (S 2 8 0)) - 1000))) ∧ wr = wC (tr1 (tr1 (tr1 (tr1 (tr1 S q 11) (q + 1) 10) ((q + 1) + 1) 22) (((q + 1) + 1) + 1) 21) ((((q + 1) + 1) + 1) + 1) 20)) 0 0 := by
  refine MetA.of_i (by decide) (fun _ => Nat.le_of_ble_eq_true rfl) (Nat.le_of_ble_eq_true rfl) (fun g C E => ?_)
  replace C : Sem cX5_body RX5 "body" 5 (rmB 7) g := C
  show g 0 0 (wC S) 0 [some (.ref 0), some (.int 11), some (.int (nI h)), some (.int (nI dp)), none] []
  refine r_iload_n (pc := 0) C dX5_body_0 rfl rfl ?_
  refine r_bipush (pc := 1) (v := 16) C dX5_body_1 (by decide) ?_
  refine r_icmp_le (pc := 3) (tgt := 8) C dX5_body_3 (by decide) (fun _ => ?_) (fun h => absurd ((nI_leI (b := 16) (by omega) (by omega)).mpr (by omega)) h)
  refine r_aload_n (pc := 8) C dX5_body_8 rfl rfl ?_
  refine r_getfield (pc := 9) (v := .int ((S 0) 8 0)) C xf_X5_232 dX5_body_9 rfl rfl ?_
  refine r_bipush (pc := 12) (v := 16) C dX5_body_12 (by decide) ?_
  refine r_icmp_ge (pc := 14) (tgt := 37) C dX5_body_14 (by decide) (fun h => absurd h (by rw [hq]; exact nI_ge (b := 16) (by omega) (by omega))) (fun _ => ?_)
  refine r_aload_n (pc := 17) C dX5_body_17 rfl rfl ?_
  refine r_getfield (pc := 18) (v := .ref 54) C xf_X5_50 dX5_body_18 rfl rfl ?_
  refine r_aload_n (pc := 21) C dX5_body_21 rfl rfl ?_
  refine r_getfield (pc := 22) (v := .int ((S 0) 8 0)) C xf_X5_232 dX5_body_22 rfl rfl ?_
  refine r_iload_n (pc := 25) C dX5_body_25 rfl rfl ?_
  refine r_iastore (pc := 26) (θ' := wC (up3 S 0 (up2 (S 0) 7 (upd ((S 0) 7) q 11)))) C q dX5_body_26 rfl hq (by first | assumption | omega) rfl ?_
  refine r_aload_n (pc := 27) C dX5_body_27 rfl rfl ?_
  refine r_dup (pc := 28) C dX5_body_28 rfl ?_
  refine r_getfield (pc := 29) (v := .int ((S 0) 8 0)) C xf_X5_232 dX5_body_29 rfl rfl ?_
  refine r_iconst (pc := 32) (v := 1) C dX5_body_32 (by decide) ?_
  refine r_iadd (pc := 33) C dX5_body_33 ?_
  show g 0 0 (wC (up3 S 0 (up2 (S 0) 7 (upd ((S 0) 7) q 11)))) 34 [some (.ref 0), some (.int 11), some (.int (nI h)), some (.int (nI dp)), none] [.int (((S 0) 8 0) + 1), .ref 0]
  rw [show (((S 0) 8 0) + 1 : Int32) = nI (q + 1) from (nI_sum hq rfl)]
  refine r_putfield (pc := 34) (θ' := wC (up3 S 0 (up2 (up2 (S 0) 7 (upd ((S 0) 7) q 11)) 8 (k1 (nI (q + 1)))))) C xf_X5_232 xt_X5_8 dX5_body_34 rfl (Nat.le_of_ble_eq_true rfl) (fun _ => ⟨rfl, rfl⟩) rfl ?_
  show g 0 0 (wC (tr1 S q 11)) 37 [some (.ref 0), some (.int 11), some (.int (nI h)), some (.int (nI dp)), none] []
  refine r_iload_n (pc := 37) C dX5_body_37 rfl rfl ?_
  refine r_iconst (pc := 38) (v := 1) C dX5_body_38 (by decide) ?_
  refine r_iadd (pc := 39) C dX5_body_39 ?_
  show g 0 0 (wC (tr1 S q 11)) 40 [some (.ref 0), some (.int 11), some (.int (nI h)), some (.int (nI dp)), none] [.int ((nI dp) + 1)]
  rw [show ((nI dp) + 1 : Int32) = nI (dp + 1) from (nI_sum rfl rfl)]
  refine r_istore (pc := 40) (lv' := [some (.ref 0), some (.int 11), some (.int (nI h)), some (.int (nI dp)), some (.int (nI (dp + 1)))]) C dX5_body_40 (Nat.le_of_ble_eq_true rfl) trivial rfl ?_
  refine r_iload_n (pc := 42) C dX5_body_42 rfl rfl ?_
  refine r_tableIn (pc := 43) (off := 83) (tgt := 126) C dX5_body_43 (by decide) (by decide) (by rfl) (by decide) ?_
  refine r_aload_n (pc := 126) C dX5_body_126 rfl rfl ?_
  refine r_bipush (pc := 127) (v := 10) C dX5_body_127 (by decide) ?_
  refine r_iload_n (pc := 129) C dX5_body_129 rfl rfl ?_
  refine r_iload (pc := 130) C dX5_body_130 rfl ?_
  refine r_callV0 (pc := 132) (As := [.int 10, .int (nI h), .int (nI (dp + 1))]) (st := []) (θ' := wC (tr1 (tr1 S q 11) (q + 1) 10)) C (c_X5_body_10 (tr1 S q 11) h (by omega) (q + 1) rfl (by omega) (dp + 1) (by omega)) xm_X5_body xk_X5_273 dX5_body_132 rfl rfl rfl rfl (Nat.le_of_ble_eq_true rfl) ⟨Nat.le_of_ble_eq_true rfl, Nat.le_of_ble_eq_true rfl⟩ ⟨rfl, rfl⟩ ⟨Nat.le_of_ble_eq_true rfl, Nat.le_of_ble_eq_true rfl⟩ rfl (Eq.trans (b := 55) rfl rfl) ?_
  show g 0 0 (wC (tr1 (tr1 S q 11) (q + 1) 10)) 135 [some (.ref 0), some (.int 11), some (.int (nI h)), some (.int (nI dp)), some (.int (nI (dp + 1)))] [.int ((tr1 S q 11) 2 3 h)]
  refine r_aload_n (pc := 135) C dX5_body_135 rfl rfl ?_
  refine r_iconst (pc := 136) (v := 1) C dX5_body_136 (by decide) ?_
  refine r_iload_n (pc := 137) C dX5_body_137 rfl rfl ?_
  refine r_iload (pc := 138) C dX5_body_138 rfl ?_
  refine r_callV0 (pc := 140) (As := [.int 1, .int (nI h), .int (nI (dp + 1))]) (st := [.int ((tr1 S q 11) 2 3 h)]) (θ' := wC (tr1 (tr1 (tr1 (tr1 (tr1 S q 11) (q + 1) 10) ((q + 1) + 1) 22) (((q + 1) + 1) + 1) 21) ((((q + 1) + 1) + 1) + 1) 20)) C (c_X5_answer_3_1 (tr1 (tr1 S q 11) (q + 1) 10) h (by omega) ((q + 1) + 1) rfl (by omega) (dp + 1) (by omega) hs) xm_X5_answer xk_X5_235 dX5_body_140 rfl rfl rfl rfl (Nat.le_of_ble_eq_true rfl) ⟨Nat.le_of_ble_eq_true rfl, Nat.le_of_ble_eq_true rfl⟩ ⟨rfl, rfl⟩ ⟨Nat.le_of_ble_eq_true rfl, Nat.le_of_ble_eq_true rfl⟩ rfl (Eq.trans (b := 55) rfl rfl) ?_
  show g 0 0 (wC (tr1 (tr1 (tr1 (tr1 (tr1 S q 11) (q + 1) 10) ((q + 1) + 1) 22) (((q + 1) + 1) + 1) 21) ((((q + 1) + 1) + 1) + 1) 20)) 143 [some (.ref 0), some (.int 11), some (.int (nI h)), some (.int (nI dp)), some (.int (nI (dp + 1)))] [.int ((nI h + dipS ((tr1 (tr1 S q 11) (q + 1) 10) 2) h ((tr1 (tr1 S q 11) (q + 1) 10) 2 8 0)) - 1000), .int ((tr1 S q 11) 2 3 h)]
  refine r_iadd (pc := 143) C dX5_body_143 ?_
  exact E _ _ _ _ _ _ dX5_body_144 (Nat.le_refl _) (Nat.le_refl _) rfl ⟨rfl, rfl⟩
set_option maxHeartbeats 4000000 in
set_option maxRecDepth 100000 in
theorem c_X5_body_12_2 (S : Nat → Nat → Nat → Int32) (h : Nat) (hh : h < 6) (q : Nat) (hq : S 0 8 0 = nI q) (hq16 : q + 6 ≤ 16) (dp : Nat) (hdp : dp + 5 ≤ 16) (hs : S 2 0 h = 2) : MetA yX5_body (.code yX5_body cX5_body 5 (some .int) :: TT) (rmB 9) [.ref 0, .int 12, .int (nI h), .int (nI dp)] (wC S) (fun vr wr => vr = some (.int (0 - ((S 2 3 h) + (2 * (nI h + dipS (S 2) h (S 2 8 0)))))) ∧ wr = wC (tr1 (tr1 (tr1 (tr1 (tr1 (tr1 S q 12) (q + 1) 11) ((q + 1) + 1) 10) (((q + 1) + 1) + 1) 24) ((((q + 1) + 1) + 1) + 1) 21) (((((q + 1) + 1) + 1) + 1) + 1) 20)) 0 0 := by
  refine MetA.of_i (by decide) (fun _ => Nat.le_of_ble_eq_true rfl) (Nat.le_of_ble_eq_true rfl) (fun g C E => ?_)
  replace C : Sem cX5_body RX5 "body" 5 (rmB 9) g := C
  show g 0 0 (wC S) 0 [some (.ref 0), some (.int 12), some (.int (nI h)), some (.int (nI dp)), none] []
  refine r_iload_n (pc := 0) C dX5_body_0 rfl rfl ?_
  refine r_bipush (pc := 1) (v := 16) C dX5_body_1 (by decide) ?_
  refine r_icmp_le (pc := 3) (tgt := 8) C dX5_body_3 (by decide) (fun _ => ?_) (fun h => absurd ((nI_leI (b := 16) (by omega) (by omega)).mpr (by omega)) h)
  refine r_aload_n (pc := 8) C dX5_body_8 rfl rfl ?_
  refine r_getfield (pc := 9) (v := .int ((S 0) 8 0)) C xf_X5_232 dX5_body_9 rfl rfl ?_
  refine r_bipush (pc := 12) (v := 16) C dX5_body_12 (by decide) ?_
  refine r_icmp_ge (pc := 14) (tgt := 37) C dX5_body_14 (by decide) (fun h => absurd h (by rw [hq]; exact nI_ge (b := 16) (by omega) (by omega))) (fun _ => ?_)
  refine r_aload_n (pc := 17) C dX5_body_17 rfl rfl ?_
  refine r_getfield (pc := 18) (v := .ref 54) C xf_X5_50 dX5_body_18 rfl rfl ?_
  refine r_aload_n (pc := 21) C dX5_body_21 rfl rfl ?_
  refine r_getfield (pc := 22) (v := .int ((S 0) 8 0)) C xf_X5_232 dX5_body_22 rfl rfl ?_
  refine r_iload_n (pc := 25) C dX5_body_25 rfl rfl ?_
  refine r_iastore (pc := 26) (θ' := wC (up3 S 0 (up2 (S 0) 7 (upd ((S 0) 7) q 12)))) C q dX5_body_26 rfl hq (by first | assumption | omega) rfl ?_
  refine r_aload_n (pc := 27) C dX5_body_27 rfl rfl ?_
  refine r_dup (pc := 28) C dX5_body_28 rfl ?_
  refine r_getfield (pc := 29) (v := .int ((S 0) 8 0)) C xf_X5_232 dX5_body_29 rfl rfl ?_
  refine r_iconst (pc := 32) (v := 1) C dX5_body_32 (by decide) ?_
  refine r_iadd (pc := 33) C dX5_body_33 ?_
  show g 0 0 (wC (up3 S 0 (up2 (S 0) 7 (upd ((S 0) 7) q 12)))) 34 [some (.ref 0), some (.int 12), some (.int (nI h)), some (.int (nI dp)), none] [.int (((S 0) 8 0) + 1), .ref 0]
  rw [show (((S 0) 8 0) + 1 : Int32) = nI (q + 1) from (nI_sum hq rfl)]
  refine r_putfield (pc := 34) (θ' := wC (up3 S 0 (up2 (up2 (S 0) 7 (upd ((S 0) 7) q 12)) 8 (k1 (nI (q + 1)))))) C xf_X5_232 xt_X5_8 dX5_body_34 rfl (Nat.le_of_ble_eq_true rfl) (fun _ => ⟨rfl, rfl⟩) rfl ?_
  show g 0 0 (wC (tr1 S q 12)) 37 [some (.ref 0), some (.int 12), some (.int (nI h)), some (.int (nI dp)), none] []
  refine r_iload_n (pc := 37) C dX5_body_37 rfl rfl ?_
  refine r_iconst (pc := 38) (v := 1) C dX5_body_38 (by decide) ?_
  refine r_iadd (pc := 39) C dX5_body_39 ?_
  show g 0 0 (wC (tr1 S q 12)) 40 [some (.ref 0), some (.int 12), some (.int (nI h)), some (.int (nI dp)), none] [.int ((nI dp) + 1)]
  rw [show ((nI dp) + 1 : Int32) = nI (dp + 1) from (nI_sum rfl rfl)]
  refine r_istore (pc := 40) (lv' := [some (.ref 0), some (.int 12), some (.int (nI h)), some (.int (nI dp)), some (.int (nI (dp + 1)))]) C dX5_body_40 (Nat.le_of_ble_eq_true rfl) trivial rfl ?_
  refine r_iload_n (pc := 42) C dX5_body_42 rfl rfl ?_
  refine r_tableIn (pc := 43) (off := 102) (tgt := 145) C dX5_body_43 (by decide) (by decide) (by rfl) (by decide) ?_
  refine r_iconst (pc := 145) (v := 0) C dX5_body_145 (by decide) ?_
  refine r_aload_n (pc := 146) C dX5_body_146 rfl rfl ?_
  refine r_bipush (pc := 147) (v := 11) C dX5_body_147 (by decide) ?_
  refine r_iload_n (pc := 149) C dX5_body_149 rfl rfl ?_
  refine r_iload (pc := 150) C dX5_body_150 rfl ?_
  refine r_callV0 (pc := 152) (As := [.int 11, .int (nI h), .int (nI (dp + 1))]) (st := [.int 0]) (θ' := wC (tr1 (tr1 (tr1 (tr1 (tr1 (tr1 S q 12) (q + 1) 11) ((q + 1) + 1) 10) (((q + 1) + 1) + 1) 24) ((((q + 1) + 1) + 1) + 1) 21) (((((q + 1) + 1) + 1) + 1) + 1) 20)) C (c_X5_body_11_2 (tr1 S q 12) h (by omega) (q + 1) rfl (by omega) (dp + 1) (by omega) hs) xm_X5_body xk_X5_273 dX5_body_152 rfl rfl rfl rfl (Nat.le_of_ble_eq_true rfl) ⟨Nat.le_of_ble_eq_true rfl, Nat.le_of_ble_eq_true rfl⟩ ⟨rfl, rfl⟩ ⟨Nat.le_of_ble_eq_true rfl, Nat.le_of_ble_eq_true rfl⟩ rfl (Eq.trans (b := 55) rfl rfl) ?_
  show g 0 0 (wC (tr1 (tr1 (tr1 (tr1 (tr1 (tr1 S q 12) (q + 1) 11) ((q + 1) + 1) 10) (((q + 1) + 1) + 1) 24) ((((q + 1) + 1) + 1) + 1) 21) (((((q + 1) + 1) + 1) + 1) + 1) 20)) 155 [some (.ref 0), some (.int 12), some (.int (nI h)), some (.int (nI dp)), some (.int (nI (dp + 1)))] [.int (((tr1 S q 12) 2 3 h) + (2 * (nI h + dipS ((tr1 S q 12) 2) h ((tr1 S q 12) 2 8 0)))), .int 0]
  refine r_isub (pc := 155) C dX5_body_155 ?_
  exact E _ _ _ _ _ _ dX5_body_156 (Nat.le_refl _) (Nat.le_refl _) rfl ⟨rfl, rfl⟩
set_option maxHeartbeats 4000000 in
set_option maxRecDepth 100000 in
theorem c_X5_body_23_4 (S : Nat → Nat → Nat → Int32) (h : Nat) (hh : h < 6) (q : Nat) (hq : S 0 8 0 = nI q) (hq16 : q + 4 ≤ 16) (dp : Nat) (hdp : dp + 4 ≤ 16) (hs : S 2 0 h = 4) : MetA yX5_body (.code yX5_body cX5_body 5 (some .int) :: TT) (rmB 7) [.ref 0, .int 23, .int (nI h), .int (nI dp)] (wC S) (fun vr wr => vr = some (.int (nI h - ((S 2 3 h) - 100))) ∧ wr = wC (tr1 (tr1 (tr1 (tr1 S q 23) (q + 1) 20) ((q + 1) + 1) 13) (((q + 1) + 1) + 1) 10)) 0 0 := by
  refine MetA.of_i (by decide) (fun _ => Nat.le_of_ble_eq_true rfl) (Nat.le_of_ble_eq_true rfl) (fun g C E => ?_)
  replace C : Sem cX5_body RX5 "body" 5 (rmB 7) g := C
  show g 0 0 (wC S) 0 [some (.ref 0), some (.int 23), some (.int (nI h)), some (.int (nI dp)), none] []
  refine r_iload_n (pc := 0) C dX5_body_0 rfl rfl ?_
  refine r_bipush (pc := 1) (v := 16) C dX5_body_1 (by decide) ?_
  refine r_icmp_le (pc := 3) (tgt := 8) C dX5_body_3 (by decide) (fun _ => ?_) (fun h => absurd ((nI_leI (b := 16) (by omega) (by omega)).mpr (by omega)) h)
  refine r_aload_n (pc := 8) C dX5_body_8 rfl rfl ?_
  refine r_getfield (pc := 9) (v := .int ((S 0) 8 0)) C xf_X5_232 dX5_body_9 rfl rfl ?_
  refine r_bipush (pc := 12) (v := 16) C dX5_body_12 (by decide) ?_
  refine r_icmp_ge (pc := 14) (tgt := 37) C dX5_body_14 (by decide) (fun h => absurd h (by rw [hq]; exact nI_ge (b := 16) (by omega) (by omega))) (fun _ => ?_)
  refine r_aload_n (pc := 17) C dX5_body_17 rfl rfl ?_
  refine r_getfield (pc := 18) (v := .ref 54) C xf_X5_50 dX5_body_18 rfl rfl ?_
  refine r_aload_n (pc := 21) C dX5_body_21 rfl rfl ?_
  refine r_getfield (pc := 22) (v := .int ((S 0) 8 0)) C xf_X5_232 dX5_body_22 rfl rfl ?_
  refine r_iload_n (pc := 25) C dX5_body_25 rfl rfl ?_
  refine r_iastore (pc := 26) (θ' := wC (up3 S 0 (up2 (S 0) 7 (upd ((S 0) 7) q 23)))) C q dX5_body_26 rfl hq (by first | assumption | omega) rfl ?_
  refine r_aload_n (pc := 27) C dX5_body_27 rfl rfl ?_
  refine r_dup (pc := 28) C dX5_body_28 rfl ?_
  refine r_getfield (pc := 29) (v := .int ((S 0) 8 0)) C xf_X5_232 dX5_body_29 rfl rfl ?_
  refine r_iconst (pc := 32) (v := 1) C dX5_body_32 (by decide) ?_
  refine r_iadd (pc := 33) C dX5_body_33 ?_
  show g 0 0 (wC (up3 S 0 (up2 (S 0) 7 (upd ((S 0) 7) q 23)))) 34 [some (.ref 0), some (.int 23), some (.int (nI h)), some (.int (nI dp)), none] [.int (((S 0) 8 0) + 1), .ref 0]
  rw [show (((S 0) 8 0) + 1 : Int32) = nI (q + 1) from (nI_sum hq rfl)]
  refine r_putfield (pc := 34) (θ' := wC (up3 S 0 (up2 (up2 (S 0) 7 (upd ((S 0) 7) q 23)) 8 (k1 (nI (q + 1)))))) C xf_X5_232 xt_X5_8 dX5_body_34 rfl (Nat.le_of_ble_eq_true rfl) (fun _ => ⟨rfl, rfl⟩) rfl ?_
  show g 0 0 (wC (tr1 S q 23)) 37 [some (.ref 0), some (.int 23), some (.int (nI h)), some (.int (nI dp)), none] []
  refine r_iload_n (pc := 37) C dX5_body_37 rfl rfl ?_
  refine r_iconst (pc := 38) (v := 1) C dX5_body_38 (by decide) ?_
  refine r_iadd (pc := 39) C dX5_body_39 ?_
  show g 0 0 (wC (tr1 S q 23)) 40 [some (.ref 0), some (.int 23), some (.int (nI h)), some (.int (nI dp)), none] [.int ((nI dp) + 1)]
  rw [show ((nI dp) + 1 : Int32) = nI (dp + 1) from (nI_sum rfl rfl)]
  refine r_istore (pc := 40) (lv' := [some (.ref 0), some (.int 23), some (.int (nI h)), some (.int (nI dp)), some (.int (nI (dp + 1)))]) C dX5_body_40 (Nat.le_of_ble_eq_true rfl) trivial rfl ?_
  refine r_iload_n (pc := 42) C dX5_body_42 rfl rfl ?_
  refine r_tableIn (pc := 43) (off := 181) (tgt := 224) C dX5_body_43 (by decide) (by decide) (by rfl) (by decide) ?_
  refine r_aload_n (pc := 224) C dX5_body_224 rfl rfl ?_
  refine r_bipush (pc := 225) (v := 20) C dX5_body_225 (by decide) ?_
  refine r_iload_n (pc := 227) C dX5_body_227 rfl rfl ?_
  refine r_iload (pc := 228) C dX5_body_228 rfl ?_
  refine r_callV0 (pc := 230) (As := [.int 20, .int (nI h), .int (nI (dp + 1))]) (st := []) (θ' := wC (tr1 (tr1 S q 23) (q + 1) 20)) C (c_X5_body_20 (tr1 S q 23) h (by omega) (q + 1) rfl (by omega) (dp + 1) (by omega)) xm_X5_body xk_X5_273 dX5_body_230 rfl rfl rfl rfl (Nat.le_of_ble_eq_true rfl) ⟨Nat.le_of_ble_eq_true rfl, Nat.le_of_ble_eq_true rfl⟩ ⟨rfl, rfl⟩ ⟨Nat.le_of_ble_eq_true rfl, Nat.le_of_ble_eq_true rfl⟩ rfl (Eq.trans (b := 55) rfl rfl) ?_
  show g 0 0 (wC (tr1 (tr1 S q 23) (q + 1) 20)) 233 [some (.ref 0), some (.int 23), some (.int (nI h)), some (.int (nI dp)), some (.int (nI (dp + 1)))] [.int (nI h)]
  refine r_aload_n (pc := 233) C dX5_body_233 rfl rfl ?_
  refine r_iconst (pc := 234) (v := 0) C dX5_body_234 (by decide) ?_
  refine r_iload_n (pc := 235) C dX5_body_235 rfl rfl ?_
  refine r_iload (pc := 236) C dX5_body_236 rfl ?_
  refine r_callV0 (pc := 238) (As := [.int 0, .int (nI h), .int (nI (dp + 1))]) (st := [.int (nI h)]) (θ' := wC (tr1 (tr1 (tr1 (tr1 S q 23) (q + 1) 20) ((q + 1) + 1) 13) (((q + 1) + 1) + 1) 10)) C (c_X5_answer_4_0 (tr1 (tr1 S q 23) (q + 1) 20) h (by omega) ((q + 1) + 1) rfl (by omega) (dp + 1) (by omega) hs) xm_X5_answer xk_X5_235 dX5_body_238 rfl rfl rfl rfl (Nat.le_of_ble_eq_true rfl) ⟨Nat.le_of_ble_eq_true rfl, Nat.le_of_ble_eq_true rfl⟩ ⟨rfl, rfl⟩ ⟨Nat.le_of_ble_eq_true rfl, Nat.le_of_ble_eq_true rfl⟩ rfl (Eq.trans (b := 55) rfl rfl) ?_
  show g 0 0 (wC (tr1 (tr1 (tr1 (tr1 S q 23) (q + 1) 20) ((q + 1) + 1) 13) (((q + 1) + 1) + 1) 10)) 241 [some (.ref 0), some (.int 23), some (.int (nI h)), some (.int (nI dp)), some (.int (nI (dp + 1)))] [.int (((tr1 (tr1 S q 23) (q + 1) 20) 2 3 h) - 100), .int (nI h)]
  refine r_isub (pc := 241) C dX5_body_241 ?_
  exact E _ _ _ _ _ _ dX5_body_242 (Nat.le_refl _) (Nat.le_refl _) rfl ⟨rfl, rfl⟩
set_option maxHeartbeats 4000000 in
set_option maxRecDepth 100000 in
theorem c_X5_body_23_5 (S : Nat → Nat → Nat → Int32) (h : Nat) (hh : h < 6) (q : Nat) (hq : S 0 8 0 = nI q) (hq16 : q + 5 ≤ 16) (dp : Nat) (hdp : dp + 4 ≤ 16) (hs : S 2 0 h = 5) : MetA yX5_body (.code yX5_body cX5_body 5 (some .int) :: TT) (rmB 7) [.ref 0, .int 23, .int (nI h), .int (nI dp)] (wC S) (fun vr wr => vr = some (.int (nI h - (2 * ((S 2 3 h) - 100)))) ∧ wr = wC (tr1 (tr1 (tr1 (tr1 (tr1 S q 23) (q + 1) 20) ((q + 1) + 1) 14) (((q + 1) + 1) + 1) 13) ((((q + 1) + 1) + 1) + 1) 10)) 0 0 := by
  refine MetA.of_i (by decide) (fun _ => Nat.le_of_ble_eq_true rfl) (Nat.le_of_ble_eq_true rfl) (fun g C E => ?_)
  replace C : Sem cX5_body RX5 "body" 5 (rmB 7) g := C
  show g 0 0 (wC S) 0 [some (.ref 0), some (.int 23), some (.int (nI h)), some (.int (nI dp)), none] []
  refine r_iload_n (pc := 0) C dX5_body_0 rfl rfl ?_
  refine r_bipush (pc := 1) (v := 16) C dX5_body_1 (by decide) ?_
  refine r_icmp_le (pc := 3) (tgt := 8) C dX5_body_3 (by decide) (fun _ => ?_) (fun h => absurd ((nI_leI (b := 16) (by omega) (by omega)).mpr (by omega)) h)
  refine r_aload_n (pc := 8) C dX5_body_8 rfl rfl ?_
  refine r_getfield (pc := 9) (v := .int ((S 0) 8 0)) C xf_X5_232 dX5_body_9 rfl rfl ?_
  refine r_bipush (pc := 12) (v := 16) C dX5_body_12 (by decide) ?_
  refine r_icmp_ge (pc := 14) (tgt := 37) C dX5_body_14 (by decide) (fun h => absurd h (by rw [hq]; exact nI_ge (b := 16) (by omega) (by omega))) (fun _ => ?_)
  refine r_aload_n (pc := 17) C dX5_body_17 rfl rfl ?_
  refine r_getfield (pc := 18) (v := .ref 54) C xf_X5_50 dX5_body_18 rfl rfl ?_
  refine r_aload_n (pc := 21) C dX5_body_21 rfl rfl ?_
  refine r_getfield (pc := 22) (v := .int ((S 0) 8 0)) C xf_X5_232 dX5_body_22 rfl rfl ?_
  refine r_iload_n (pc := 25) C dX5_body_25 rfl rfl ?_
  refine r_iastore (pc := 26) (θ' := wC (up3 S 0 (up2 (S 0) 7 (upd ((S 0) 7) q 23)))) C q dX5_body_26 rfl hq (by first | assumption | omega) rfl ?_
  refine r_aload_n (pc := 27) C dX5_body_27 rfl rfl ?_
  refine r_dup (pc := 28) C dX5_body_28 rfl ?_
  refine r_getfield (pc := 29) (v := .int ((S 0) 8 0)) C xf_X5_232 dX5_body_29 rfl rfl ?_
  refine r_iconst (pc := 32) (v := 1) C dX5_body_32 (by decide) ?_
  refine r_iadd (pc := 33) C dX5_body_33 ?_
  show g 0 0 (wC (up3 S 0 (up2 (S 0) 7 (upd ((S 0) 7) q 23)))) 34 [some (.ref 0), some (.int 23), some (.int (nI h)), some (.int (nI dp)), none] [.int (((S 0) 8 0) + 1), .ref 0]
  rw [show (((S 0) 8 0) + 1 : Int32) = nI (q + 1) from (nI_sum hq rfl)]
  refine r_putfield (pc := 34) (θ' := wC (up3 S 0 (up2 (up2 (S 0) 7 (upd ((S 0) 7) q 23)) 8 (k1 (nI (q + 1)))))) C xf_X5_232 xt_X5_8 dX5_body_34 rfl (Nat.le_of_ble_eq_true rfl) (fun _ => ⟨rfl, rfl⟩) rfl ?_
  show g 0 0 (wC (tr1 S q 23)) 37 [some (.ref 0), some (.int 23), some (.int (nI h)), some (.int (nI dp)), none] []
  refine r_iload_n (pc := 37) C dX5_body_37 rfl rfl ?_
  refine r_iconst (pc := 38) (v := 1) C dX5_body_38 (by decide) ?_
  refine r_iadd (pc := 39) C dX5_body_39 ?_
  show g 0 0 (wC (tr1 S q 23)) 40 [some (.ref 0), some (.int 23), some (.int (nI h)), some (.int (nI dp)), none] [.int ((nI dp) + 1)]
  rw [show ((nI dp) + 1 : Int32) = nI (dp + 1) from (nI_sum rfl rfl)]
  refine r_istore (pc := 40) (lv' := [some (.ref 0), some (.int 23), some (.int (nI h)), some (.int (nI dp)), some (.int (nI (dp + 1)))]) C dX5_body_40 (Nat.le_of_ble_eq_true rfl) trivial rfl ?_
  refine r_iload_n (pc := 42) C dX5_body_42 rfl rfl ?_
  refine r_tableIn (pc := 43) (off := 181) (tgt := 224) C dX5_body_43 (by decide) (by decide) (by rfl) (by decide) ?_
  refine r_aload_n (pc := 224) C dX5_body_224 rfl rfl ?_
  refine r_bipush (pc := 225) (v := 20) C dX5_body_225 (by decide) ?_
  refine r_iload_n (pc := 227) C dX5_body_227 rfl rfl ?_
  refine r_iload (pc := 228) C dX5_body_228 rfl ?_
  refine r_callV0 (pc := 230) (As := [.int 20, .int (nI h), .int (nI (dp + 1))]) (st := []) (θ' := wC (tr1 (tr1 S q 23) (q + 1) 20)) C (c_X5_body_20 (tr1 S q 23) h (by omega) (q + 1) rfl (by omega) (dp + 1) (by omega)) xm_X5_body xk_X5_273 dX5_body_230 rfl rfl rfl rfl (Nat.le_of_ble_eq_true rfl) ⟨Nat.le_of_ble_eq_true rfl, Nat.le_of_ble_eq_true rfl⟩ ⟨rfl, rfl⟩ ⟨Nat.le_of_ble_eq_true rfl, Nat.le_of_ble_eq_true rfl⟩ rfl (Eq.trans (b := 55) rfl rfl) ?_
  show g 0 0 (wC (tr1 (tr1 S q 23) (q + 1) 20)) 233 [some (.ref 0), some (.int 23), some (.int (nI h)), some (.int (nI dp)), some (.int (nI (dp + 1)))] [.int (nI h)]
  refine r_aload_n (pc := 233) C dX5_body_233 rfl rfl ?_
  refine r_iconst (pc := 234) (v := 0) C dX5_body_234 (by decide) ?_
  refine r_iload_n (pc := 235) C dX5_body_235 rfl rfl ?_
  refine r_iload (pc := 236) C dX5_body_236 rfl ?_
  refine r_callV0 (pc := 238) (As := [.int 0, .int (nI h), .int (nI (dp + 1))]) (st := [.int (nI h)]) (θ' := wC (tr1 (tr1 (tr1 (tr1 (tr1 S q 23) (q + 1) 20) ((q + 1) + 1) 14) (((q + 1) + 1) + 1) 13) ((((q + 1) + 1) + 1) + 1) 10)) C (c_X5_answer_5_0 (tr1 (tr1 S q 23) (q + 1) 20) h (by omega) ((q + 1) + 1) rfl (by omega) (dp + 1) (by omega) hs) xm_X5_answer xk_X5_235 dX5_body_238 rfl rfl rfl rfl (Nat.le_of_ble_eq_true rfl) ⟨Nat.le_of_ble_eq_true rfl, Nat.le_of_ble_eq_true rfl⟩ ⟨rfl, rfl⟩ ⟨Nat.le_of_ble_eq_true rfl, Nat.le_of_ble_eq_true rfl⟩ rfl (Eq.trans (b := 55) rfl rfl) ?_
  show g 0 0 (wC (tr1 (tr1 (tr1 (tr1 (tr1 S q 23) (q + 1) 20) ((q + 1) + 1) 14) (((q + 1) + 1) + 1) 13) ((((q + 1) + 1) + 1) + 1) 10)) 241 [some (.ref 0), some (.int 23), some (.int (nI h)), some (.int (nI dp)), some (.int (nI (dp + 1)))] [.int (2 * (((tr1 (tr1 S q 23) (q + 1) 20) 2 3 h) - 100)), .int (nI h)]
  refine r_isub (pc := 241) C dX5_body_241 ?_
  exact E _ _ _ _ _ _ dX5_body_242 (Nat.le_refl _) (Nat.le_refl _) rfl ⟨rfl, rfl⟩
set_option maxHeartbeats 4000000 in
set_option maxRecDepth 100000 in
theorem c_X5_answer_1_0 (S : Nat → Nat → Nat → Int32) (h : Nat) (hh : h < 6) (q : Nat) (hq : S 0 8 0 = nI q) (hq16 : q + 4 ≤ 16) (dp : Nat) (hdp : dp + 4 ≤ 16) (hs : S 2 0 h = 1) : MetA yX5_answer (.code yX5_answer cX5_answer 4 (some .int) :: TT) (rmB 11) [.ref 0, .int 0, .int (nI h), .int (nI dp)] (wC S) (fun vr wr => vr = some (.int ((S 2 3 h) + (nI h + dipS (S 2) h (S 2 8 0)))) ∧ wr = wC (tr1 (tr1 (tr1 (tr1 S q 11) (q + 1) 10) ((q + 1) + 1) 21) (((q + 1) + 1) + 1) 20)) 0 0 := by
  refine MetA.of_i (by decide) (fun _ => Nat.le_of_ble_eq_true rfl) (Nat.le_of_ble_eq_true rfl) (fun g C E => ?_)
  replace C : Sem cX5_answer RX5 "answer" 4 (rmB 11) g := C
  show g 0 0 (wC S) 0 [some (.ref 0), some (.int 0), some (.int (nI h)), some (.int (nI dp))] []
  refine r_aload_n (pc := 0) C dX5_answer_0 rfl rfl ?_
  refine r_aload_n (pc := 1) C dX5_answer_1 rfl rfl ?_
  refine r_getfield (pc := 2) (v := .ref 20) C xf_X5_25 dX5_answer_2 rfl rfl ?_
  refine r_getfield (pc := 5) (v := .ref 21) C xf_X5_226 dX5_answer_5 rfl rfl ?_
  refine r_iload_n (pc := 8) C dX5_answer_8 rfl rfl ?_
  refine r_iaload (pc := 9) (v := (S 2) 0 h) C h dX5_answer_9 rfl rfl (by first | assumption | omega) rfl ?_
  rw [show ((S 2) 0 h : Int32) = 1 from hs]
  refine r_iload_n (pc := 10) C dX5_answer_10 rfl rfl ?_
  refine r_callS0 (pc := 11) (As := [.int 1, .int 0]) (st := [.ref 0]) C c_X5_nearestBody_1_0 xm_X5_nearestBody xk_X5_270 dX5_answer_11 (fun _ => rfl) (fun _ => rfl) rfl rfl (Nat.le_of_ble_eq_true rfl) ⟨Nat.le_of_ble_eq_true rfl, Nat.le_of_ble_eq_true rfl⟩ ⟨rfl, rfl⟩ ⟨Nat.le_of_ble_eq_true rfl, Nat.le_of_ble_eq_true rfl⟩ rfl ?_
  show g 0 0 (wC S) 14 [some (.ref 0), some (.int 0), some (.int (nI h)), some (.int (nI dp))] [.int 11, .ref 0]
  refine r_iload_n (pc := 14) C dX5_answer_14 rfl rfl ?_
  refine r_iload_n (pc := 15) C dX5_answer_15 rfl rfl ?_
  refine r_callV0 (pc := 16) (As := [.int 11, .int (nI h), .int (nI dp)]) (st := []) (θ' := wC (tr1 (tr1 (tr1 (tr1 S q 11) (q + 1) 10) ((q + 1) + 1) 21) (((q + 1) + 1) + 1) 20)) C (c_X5_body_11_1 S h (by omega) q hq (by omega) dp (by omega) hs) xm_X5_body xk_X5_273 dX5_answer_16 rfl rfl rfl rfl (Nat.le_of_ble_eq_true rfl) ⟨Nat.le_of_ble_eq_true rfl, Nat.le_of_ble_eq_true rfl⟩ ⟨rfl, rfl⟩ ⟨Nat.le_of_ble_eq_true rfl, Nat.le_of_ble_eq_true rfl⟩ rfl (Eq.trans (b := 55) rfl rfl) ?_
  show g 0 0 (wC (tr1 (tr1 (tr1 (tr1 S q 11) (q + 1) 10) ((q + 1) + 1) 21) (((q + 1) + 1) + 1) 20)) 19 [some (.ref 0), some (.int 0), some (.int (nI h)), some (.int (nI dp))] [.int ((S 2 3 h) + (nI h + dipS (S 2) h (S 2 8 0)))]
  exact E _ _ _ _ _ _ dX5_answer_19 (Nat.le_refl _) (Nat.le_refl _) rfl ⟨rfl, rfl⟩
set_option maxHeartbeats 4000000 in
set_option maxRecDepth 100000 in
theorem c_X5_answer_2_0 (S : Nat → Nat → Nat → Int32) (h : Nat) (hh : h < 6) (q : Nat) (hq : S 0 8 0 = nI q) (hq16 : q + 6 ≤ 16) (dp : Nat) (hdp : dp + 5 ≤ 16) (hs : S 2 0 h = 2) : MetA yX5_answer (.code yX5_answer cX5_answer 4 (some .int) :: TT) (rmB 11) [.ref 0, .int 0, .int (nI h), .int (nI dp)] (wC S) (fun vr wr => vr = some (.int (0 - ((S 2 3 h) + (2 * (nI h + dipS (S 2) h (S 2 8 0)))))) ∧ wr = wC (tr1 (tr1 (tr1 (tr1 (tr1 (tr1 S q 12) (q + 1) 11) ((q + 1) + 1) 10) (((q + 1) + 1) + 1) 24) ((((q + 1) + 1) + 1) + 1) 21) (((((q + 1) + 1) + 1) + 1) + 1) 20)) 0 0 := by
  refine MetA.of_i (by decide) (fun _ => Nat.le_of_ble_eq_true rfl) (Nat.le_of_ble_eq_true rfl) (fun g C E => ?_)
  replace C : Sem cX5_answer RX5 "answer" 4 (rmB 11) g := C
  show g 0 0 (wC S) 0 [some (.ref 0), some (.int 0), some (.int (nI h)), some (.int (nI dp))] []
  refine r_aload_n (pc := 0) C dX5_answer_0 rfl rfl ?_
  refine r_aload_n (pc := 1) C dX5_answer_1 rfl rfl ?_
  refine r_getfield (pc := 2) (v := .ref 20) C xf_X5_25 dX5_answer_2 rfl rfl ?_
  refine r_getfield (pc := 5) (v := .ref 21) C xf_X5_226 dX5_answer_5 rfl rfl ?_
  refine r_iload_n (pc := 8) C dX5_answer_8 rfl rfl ?_
  refine r_iaload (pc := 9) (v := (S 2) 0 h) C h dX5_answer_9 rfl rfl (by first | assumption | omega) rfl ?_
  rw [show ((S 2) 0 h : Int32) = 2 from hs]
  refine r_iload_n (pc := 10) C dX5_answer_10 rfl rfl ?_
  refine r_callS0 (pc := 11) (As := [.int 2, .int 0]) (st := [.ref 0]) C c_X5_nearestBody_2_0 xm_X5_nearestBody xk_X5_270 dX5_answer_11 (fun _ => rfl) (fun _ => rfl) rfl rfl (Nat.le_of_ble_eq_true rfl) ⟨Nat.le_of_ble_eq_true rfl, Nat.le_of_ble_eq_true rfl⟩ ⟨rfl, rfl⟩ ⟨Nat.le_of_ble_eq_true rfl, Nat.le_of_ble_eq_true rfl⟩ rfl ?_
  show g 0 0 (wC S) 14 [some (.ref 0), some (.int 0), some (.int (nI h)), some (.int (nI dp))] [.int 12, .ref 0]
  refine r_iload_n (pc := 14) C dX5_answer_14 rfl rfl ?_
  refine r_iload_n (pc := 15) C dX5_answer_15 rfl rfl ?_
  refine r_callV0 (pc := 16) (As := [.int 12, .int (nI h), .int (nI dp)]) (st := []) (θ' := wC (tr1 (tr1 (tr1 (tr1 (tr1 (tr1 S q 12) (q + 1) 11) ((q + 1) + 1) 10) (((q + 1) + 1) + 1) 24) ((((q + 1) + 1) + 1) + 1) 21) (((((q + 1) + 1) + 1) + 1) + 1) 20)) C (c_X5_body_12_2 S h (by omega) q hq (by omega) dp (by omega) hs) xm_X5_body xk_X5_273 dX5_answer_16 rfl rfl rfl rfl (Nat.le_of_ble_eq_true rfl) ⟨Nat.le_of_ble_eq_true rfl, Nat.le_of_ble_eq_true rfl⟩ ⟨rfl, rfl⟩ ⟨Nat.le_of_ble_eq_true rfl, Nat.le_of_ble_eq_true rfl⟩ rfl (Eq.trans (b := 55) rfl rfl) ?_
  show g 0 0 (wC (tr1 (tr1 (tr1 (tr1 (tr1 (tr1 S q 12) (q + 1) 11) ((q + 1) + 1) 10) (((q + 1) + 1) + 1) 24) ((((q + 1) + 1) + 1) + 1) 21) (((((q + 1) + 1) + 1) + 1) + 1) 20)) 19 [some (.ref 0), some (.int 0), some (.int (nI h)), some (.int (nI dp))] [.int (0 - ((S 2 3 h) + (2 * (nI h + dipS (S 2) h (S 2 8 0)))))]
  exact E _ _ _ _ _ _ dX5_answer_19 (Nat.le_refl _) (Nat.le_refl _) rfl ⟨rfl, rfl⟩
set_option maxHeartbeats 4000000 in
set_option maxRecDepth 100000 in
theorem c_X5_answer_3_0 (S : Nat → Nat → Nat → Int32) (h : Nat) (hh : h < 6) (q : Nat) (hq : S 0 8 0 = nI q) (hq16 : q + 5 ≤ 16) (dp : Nat) (hdp : dp + 4 ≤ 16) (hs : S 2 0 h = 3) : MetA yX5_answer (.code yX5_answer cX5_answer 4 (some .int) :: TT) (rmB 11) [.ref 0, .int 0, .int (nI h), .int (nI dp)] (wC S) (fun vr wr => vr = some (.int ((S 2 3 h) + ((nI h + dipS (S 2) h (S 2 8 0)) - 1000))) ∧ wr = wC (tr1 (tr1 (tr1 (tr1 (tr1 S q 11) (q + 1) 10) ((q + 1) + 1) 22) (((q + 1) + 1) + 1) 21) ((((q + 1) + 1) + 1) + 1) 20)) 0 0 := by
  refine MetA.of_i (by decide) (fun _ => Nat.le_of_ble_eq_true rfl) (Nat.le_of_ble_eq_true rfl) (fun g C E => ?_)
  replace C : Sem cX5_answer RX5 "answer" 4 (rmB 11) g := C
  show g 0 0 (wC S) 0 [some (.ref 0), some (.int 0), some (.int (nI h)), some (.int (nI dp))] []
  refine r_aload_n (pc := 0) C dX5_answer_0 rfl rfl ?_
  refine r_aload_n (pc := 1) C dX5_answer_1 rfl rfl ?_
  refine r_getfield (pc := 2) (v := .ref 20) C xf_X5_25 dX5_answer_2 rfl rfl ?_
  refine r_getfield (pc := 5) (v := .ref 21) C xf_X5_226 dX5_answer_5 rfl rfl ?_
  refine r_iload_n (pc := 8) C dX5_answer_8 rfl rfl ?_
  refine r_iaload (pc := 9) (v := (S 2) 0 h) C h dX5_answer_9 rfl rfl (by first | assumption | omega) rfl ?_
  rw [show ((S 2) 0 h : Int32) = 3 from hs]
  refine r_iload_n (pc := 10) C dX5_answer_10 rfl rfl ?_
  refine r_callS0 (pc := 11) (As := [.int 3, .int 0]) (st := [.ref 0]) C c_X5_nearestBody_3_0 xm_X5_nearestBody xk_X5_270 dX5_answer_11 (fun _ => rfl) (fun _ => rfl) rfl rfl (Nat.le_of_ble_eq_true rfl) ⟨Nat.le_of_ble_eq_true rfl, Nat.le_of_ble_eq_true rfl⟩ ⟨rfl, rfl⟩ ⟨Nat.le_of_ble_eq_true rfl, Nat.le_of_ble_eq_true rfl⟩ rfl ?_
  show g 0 0 (wC S) 14 [some (.ref 0), some (.int 0), some (.int (nI h)), some (.int (nI dp))] [.int 11, .ref 0]
  refine r_iload_n (pc := 14) C dX5_answer_14 rfl rfl ?_
  refine r_iload_n (pc := 15) C dX5_answer_15 rfl rfl ?_
  refine r_callV0 (pc := 16) (As := [.int 11, .int (nI h), .int (nI dp)]) (st := []) (θ' := wC (tr1 (tr1 (tr1 (tr1 (tr1 S q 11) (q + 1) 10) ((q + 1) + 1) 22) (((q + 1) + 1) + 1) 21) ((((q + 1) + 1) + 1) + 1) 20)) C (c_X5_body_11_3 S h (by omega) q hq (by omega) dp (by omega) hs) xm_X5_body xk_X5_273 dX5_answer_16 rfl rfl rfl rfl (Nat.le_of_ble_eq_true rfl) ⟨Nat.le_of_ble_eq_true rfl, Nat.le_of_ble_eq_true rfl⟩ ⟨rfl, rfl⟩ ⟨Nat.le_of_ble_eq_true rfl, Nat.le_of_ble_eq_true rfl⟩ rfl (Eq.trans (b := 55) rfl rfl) ?_
  show g 0 0 (wC (tr1 (tr1 (tr1 (tr1 (tr1 S q 11) (q + 1) 10) ((q + 1) + 1) 22) (((q + 1) + 1) + 1) 21) ((((q + 1) + 1) + 1) + 1) 20)) 19 [some (.ref 0), some (.int 0), some (.int (nI h)), some (.int (nI dp))] [.int ((S 2 3 h) + ((nI h + dipS (S 2) h (S 2 8 0)) - 1000))]
  exact E _ _ _ _ _ _ dX5_answer_19 (Nat.le_refl _) (Nat.le_refl _) rfl ⟨rfl, rfl⟩
set_option maxHeartbeats 4000000 in
set_option maxRecDepth 100000 in
theorem c_X5_answer_4_1 (S : Nat → Nat → Nat → Int32) (h : Nat) (hh : h < 6) (q : Nat) (hq : S 0 8 0 = nI q) (hq16 : q + 4 ≤ 16) (dp : Nat) (hdp : dp + 4 ≤ 16) (hs : S 2 0 h = 4) : MetA yX5_answer (.code yX5_answer cX5_answer 4 (some .int) :: TT) (rmB 11) [.ref 0, .int 1, .int (nI h), .int (nI dp)] (wC S) (fun vr wr => vr = some (.int (nI h - ((S 2 3 h) - 100))) ∧ wr = wC (tr1 (tr1 (tr1 (tr1 S q 23) (q + 1) 20) ((q + 1) + 1) 13) (((q + 1) + 1) + 1) 10)) 0 0 := by
  refine MetA.of_i (by decide) (fun _ => Nat.le_of_ble_eq_true rfl) (Nat.le_of_ble_eq_true rfl) (fun g C E => ?_)
  replace C : Sem cX5_answer RX5 "answer" 4 (rmB 11) g := C
  show g 0 0 (wC S) 0 [some (.ref 0), some (.int 1), some (.int (nI h)), some (.int (nI dp))] []
  refine r_aload_n (pc := 0) C dX5_answer_0 rfl rfl ?_
  refine r_aload_n (pc := 1) C dX5_answer_1 rfl rfl ?_
  refine r_getfield (pc := 2) (v := .ref 20) C xf_X5_25 dX5_answer_2 rfl rfl ?_
  refine r_getfield (pc := 5) (v := .ref 21) C xf_X5_226 dX5_answer_5 rfl rfl ?_
  refine r_iload_n (pc := 8) C dX5_answer_8 rfl rfl ?_
  refine r_iaload (pc := 9) (v := (S 2) 0 h) C h dX5_answer_9 rfl rfl (by first | assumption | omega) rfl ?_
  rw [show ((S 2) 0 h : Int32) = 4 from hs]
  refine r_iload_n (pc := 10) C dX5_answer_10 rfl rfl ?_
  refine r_callS0 (pc := 11) (As := [.int 4, .int 1]) (st := [.ref 0]) C c_X5_nearestBody_4_1 xm_X5_nearestBody xk_X5_270 dX5_answer_11 (fun _ => rfl) (fun _ => rfl) rfl rfl (Nat.le_of_ble_eq_true rfl) ⟨Nat.le_of_ble_eq_true rfl, Nat.le_of_ble_eq_true rfl⟩ ⟨rfl, rfl⟩ ⟨Nat.le_of_ble_eq_true rfl, Nat.le_of_ble_eq_true rfl⟩ rfl ?_
  show g 0 0 (wC S) 14 [some (.ref 0), some (.int 1), some (.int (nI h)), some (.int (nI dp))] [.int 23, .ref 0]
  refine r_iload_n (pc := 14) C dX5_answer_14 rfl rfl ?_
  refine r_iload_n (pc := 15) C dX5_answer_15 rfl rfl ?_
  refine r_callV0 (pc := 16) (As := [.int 23, .int (nI h), .int (nI dp)]) (st := []) (θ' := wC (tr1 (tr1 (tr1 (tr1 S q 23) (q + 1) 20) ((q + 1) + 1) 13) (((q + 1) + 1) + 1) 10)) C (c_X5_body_23_4 S h (by omega) q hq (by omega) dp (by omega) hs) xm_X5_body xk_X5_273 dX5_answer_16 rfl rfl rfl rfl (Nat.le_of_ble_eq_true rfl) ⟨Nat.le_of_ble_eq_true rfl, Nat.le_of_ble_eq_true rfl⟩ ⟨rfl, rfl⟩ ⟨Nat.le_of_ble_eq_true rfl, Nat.le_of_ble_eq_true rfl⟩ rfl (Eq.trans (b := 55) rfl rfl) ?_
  show g 0 0 (wC (tr1 (tr1 (tr1 (tr1 S q 23) (q + 1) 20) ((q + 1) + 1) 13) (((q + 1) + 1) + 1) 10)) 19 [some (.ref 0), some (.int 1), some (.int (nI h)), some (.int (nI dp))] [.int (nI h - ((S 2 3 h) - 100))]
  exact E _ _ _ _ _ _ dX5_answer_19 (Nat.le_refl _) (Nat.le_refl _) rfl ⟨rfl, rfl⟩
set_option maxHeartbeats 4000000 in
set_option maxRecDepth 100000 in
theorem c_X5_answer_5_1 (S : Nat → Nat → Nat → Int32) (h : Nat) (hh : h < 6) (q : Nat) (hq : S 0 8 0 = nI q) (hq16 : q + 5 ≤ 16) (dp : Nat) (hdp : dp + 4 ≤ 16) (hs : S 2 0 h = 5) : MetA yX5_answer (.code yX5_answer cX5_answer 4 (some .int) :: TT) (rmB 11) [.ref 0, .int 1, .int (nI h), .int (nI dp)] (wC S) (fun vr wr => vr = some (.int (nI h - (2 * ((S 2 3 h) - 100)))) ∧ wr = wC (tr1 (tr1 (tr1 (tr1 (tr1 S q 23) (q + 1) 20) ((q + 1) + 1) 14) (((q + 1) + 1) + 1) 13) ((((q + 1) + 1) + 1) + 1) 10)) 0 0 := by
  refine MetA.of_i (by decide) (fun _ => Nat.le_of_ble_eq_true rfl) (Nat.le_of_ble_eq_true rfl) (fun g C E => ?_)
  replace C : Sem cX5_answer RX5 "answer" 4 (rmB 11) g := C
  show g 0 0 (wC S) 0 [some (.ref 0), some (.int 1), some (.int (nI h)), some (.int (nI dp))] []
  refine r_aload_n (pc := 0) C dX5_answer_0 rfl rfl ?_
  refine r_aload_n (pc := 1) C dX5_answer_1 rfl rfl ?_
  refine r_getfield (pc := 2) (v := .ref 20) C xf_X5_25 dX5_answer_2 rfl rfl ?_
  refine r_getfield (pc := 5) (v := .ref 21) C xf_X5_226 dX5_answer_5 rfl rfl ?_
  refine r_iload_n (pc := 8) C dX5_answer_8 rfl rfl ?_
  refine r_iaload (pc := 9) (v := (S 2) 0 h) C h dX5_answer_9 rfl rfl (by first | assumption | omega) rfl ?_
  rw [show ((S 2) 0 h : Int32) = 5 from hs]
  refine r_iload_n (pc := 10) C dX5_answer_10 rfl rfl ?_
  refine r_callS0 (pc := 11) (As := [.int 5, .int 1]) (st := [.ref 0]) C c_X5_nearestBody_5_1 xm_X5_nearestBody xk_X5_270 dX5_answer_11 (fun _ => rfl) (fun _ => rfl) rfl rfl (Nat.le_of_ble_eq_true rfl) ⟨Nat.le_of_ble_eq_true rfl, Nat.le_of_ble_eq_true rfl⟩ ⟨rfl, rfl⟩ ⟨Nat.le_of_ble_eq_true rfl, Nat.le_of_ble_eq_true rfl⟩ rfl ?_
  show g 0 0 (wC S) 14 [some (.ref 0), some (.int 1), some (.int (nI h)), some (.int (nI dp))] [.int 23, .ref 0]
  refine r_iload_n (pc := 14) C dX5_answer_14 rfl rfl ?_
  refine r_iload_n (pc := 15) C dX5_answer_15 rfl rfl ?_
  refine r_callV0 (pc := 16) (As := [.int 23, .int (nI h), .int (nI dp)]) (st := []) (θ' := wC (tr1 (tr1 (tr1 (tr1 (tr1 S q 23) (q + 1) 20) ((q + 1) + 1) 14) (((q + 1) + 1) + 1) 13) ((((q + 1) + 1) + 1) + 1) 10)) C (c_X5_body_23_5 S h (by omega) q hq (by omega) dp (by omega) hs) xm_X5_body xk_X5_273 dX5_answer_16 rfl rfl rfl rfl (Nat.le_of_ble_eq_true rfl) ⟨Nat.le_of_ble_eq_true rfl, Nat.le_of_ble_eq_true rfl⟩ ⟨rfl, rfl⟩ ⟨Nat.le_of_ble_eq_true rfl, Nat.le_of_ble_eq_true rfl⟩ rfl (Eq.trans (b := 55) rfl rfl) ?_
  show g 0 0 (wC (tr1 (tr1 (tr1 (tr1 (tr1 S q 23) (q + 1) 20) ((q + 1) + 1) 14) (((q + 1) + 1) + 1) 13) ((((q + 1) + 1) + 1) + 1) 10)) 19 [some (.ref 0), some (.int 1), some (.int (nI h)), some (.int (nI dp))] [.int (nI h - (2 * ((S 2 3 h) - 100)))]
  exact E _ _ _ _ _ _ dX5_answer_19 (Nat.le_refl _) (Nat.le_refl _) rfl ⟨rfl, rfl⟩
def askC (S : Nat → Nat → Nat → Int32) (h x : Int32) : Int32 × (Nat → Nat → Nat → Int32) := (if (belS h ((S 2) 9 0)) = true then (if (belS x 2) = true then (if x = 0 then (if S 2 0 (ix h) = 1 then (((up3 S 0 (up2 (S 0) 8 (k1 0))) 2 3 (ix h)) + (h + dipS ((up3 S 0 (up2 (S 0) 8 (k1 0))) 2) (ix h) ((up3 S 0 (up2 (S 0) 8 (k1 0))) 2 8 0)), (tr1 (tr1 (tr1 (tr1 (up3 S 0 (up2 (S 0) 8 (k1 0))) 0 11) (0 + 1) 10) ((0 + 1) + 1) 21) (((0 + 1) + 1) + 1) 20)) else (if S 2 0 (ix h) = 2 then (0 - (((up3 S 0 (up2 (S 0) 8 (k1 0))) 2 3 (ix h)) + (2 * (h + dipS ((up3 S 0 (up2 (S 0) 8 (k1 0))) 2) (ix h) ((up3 S 0 (up2 (S 0) 8 (k1 0))) 2 8 0)))), (tr1 (tr1 (tr1 (tr1 (tr1 (tr1 (up3 S 0 (up2 (S 0) 8 (k1 0))) 0 12) (0 + 1) 11) ((0 + 1) + 1) 10) (((0 + 1) + 1) + 1) 24) ((((0 + 1) + 1) + 1) + 1) 21) (((((0 + 1) + 1) + 1) + 1) + 1) 20)) else (if S 2 0 (ix h) = 3 then (((up3 S 0 (up2 (S 0) 8 (k1 0))) 2 3 (ix h)) + ((h + dipS ((up3 S 0 (up2 (S 0) 8 (k1 0))) 2) (ix h) ((up3 S 0 (up2 (S 0) 8 (k1 0))) 2 8 0)) - 1000), (tr1 (tr1 (tr1 (tr1 (tr1 (up3 S 0 (up2 (S 0) 8 (k1 0))) 0 11) (0 + 1) 10) ((0 + 1) + 1) 22) (((0 + 1) + 1) + 1) 21) ((((0 + 1) + 1) + 1) + 1) 20)) else (if S 2 0 (ix h) = 4 then (((up3 S 0 (up2 (S 0) 8 (k1 0))) 2 3 (ix h)) - 100, (tr1 (tr1 (up3 S 0 (up2 (S 0) 8 (k1 0))) 0 13) (0 + 1) 10)) else (2 * (((up3 S 0 (up2 (S 0) 8 (k1 0))) 2 3 (ix h)) - 100), (tr1 (tr1 (tr1 (up3 S 0 (up2 (S 0) 8 (k1 0))) 0 14) (0 + 1) 13) ((0 + 1) + 1) 10)))))) else (if S 2 0 (ix h) = 1 then (h + dipS ((up3 S 0 (up2 (S 0) 8 (k1 0))) 2) (ix h) ((up3 S 0 (up2 (S 0) 8 (k1 0))) 2 8 0), (tr1 (tr1 (up3 S 0 (up2 (S 0) 8 (k1 0))) 0 21) (0 + 1) 20)) else (if S 2 0 (ix h) = 2 then (2 * (h + dipS ((up3 S 0 (up2 (S 0) 8 (k1 0))) 2) (ix h) ((up3 S 0 (up2 (S 0) 8 (k1 0))) 2 8 0)), (tr1 (tr1 (tr1 (up3 S 0 (up2 (S 0) 8 (k1 0))) 0 24) (0 + 1) 21) ((0 + 1) + 1) 20)) else (if S 2 0 (ix h) = 3 then ((h + dipS ((up3 S 0 (up2 (S 0) 8 (k1 0))) 2) (ix h) ((up3 S 0 (up2 (S 0) 8 (k1 0))) 2 8 0)) - 1000, (tr1 (tr1 (tr1 (up3 S 0 (up2 (S 0) 8 (k1 0))) 0 22) (0 + 1) 21) ((0 + 1) + 1) 20)) else (if S 2 0 (ix h) = 4 then (h - (((up3 S 0 (up2 (S 0) 8 (k1 0))) 2 3 (ix h)) - 100), (tr1 (tr1 (tr1 (tr1 (up3 S 0 (up2 (S 0) 8 (k1 0))) 0 23) (0 + 1) 20) ((0 + 1) + 1) 13) (((0 + 1) + 1) + 1) 10)) else (h - (2 * (((up3 S 0 (up2 (S 0) 8 (k1 0))) 2 3 (ix h)) - 100)), (tr1 (tr1 (tr1 (tr1 (tr1 (up3 S 0 (up2 (S 0) 8 (k1 0))) 0 23) (0 + 1) 20) ((0 + 1) + 1) 14) (((0 + 1) + 1) + 1) 13) ((((0 + 1) + 1) + 1) + 1) 10))))))) else ((-1000001), S)) else ((-1000001), S))
set_option maxHeartbeats 4000000 in
set_option maxRecDepth 100000 in
theorem c_X5_ask (S : Nat → Nat → Nat → Int32) (h x : Int32) (z : Nat) (hS : okS S z) (hk : ∀ i, i < z → okK (S 2) i) : MetA yX5_ask (.code yX5_ask cX5_ask 3 (some .int) :: TT) rmX5_ask [.ref 0, .int h, .int x] (wC S) (fun vr wr => vr = some (.int (askC S h x).1) ∧ wr = wC (askC S h x).2) 0 0 := by
  refine MetA.of_i (by decide) (fun _ => Nat.le_of_ble_eq_true rfl) (Nat.le_of_ble_eq_true rfl) (fun g C E => ?_)
  replace C : Sem cX5_ask RX5 "ask" 3 rmX5_ask g := C
  show g 0 0 (wC S) 0 [some (.ref 0), some (.int h), some (.int x)] []
  refine r_aload_n (pc := 0) C dX5_ask_0 rfl rfl ?_
  refine r_iload_n (pc := 1) C dX5_ask_1 rfl rfl ?_
  refine r_callV0 (pc := 2) (As := [.int h]) (st := []) (θ' := wC S) C (c_X5_isHammock S h) xm_X5_isHammock xk_X5_138 dX5_ask_2 rfl rfl rfl rfl (Nat.le_of_ble_eq_true rfl) ⟨Nat.le_of_ble_eq_true rfl, Nat.le_of_ble_eq_true rfl⟩ ⟨rfl, rfl⟩ ⟨Nat.le_of_ble_eq_true rfl, Nat.le_of_ble_eq_true rfl⟩ rfl (Eq.trans (b := 55) rfl rfl) ?_
  show g 0 0 (wC S) 5 [some (.ref 0), some (.int h), some (.int x)] [.int (bB (belS h ((S 2) 9 0)))]
  refine r_if_eq (pc := 5) (tgt := 16) C dX5_ask_5 (by decide) (fun h_5 => ?_) (fun h_5 => ?_)
  · replace h_5 := bB_f h_5
    refine r_ldc (pc := 16) (v := (-1000001)) C dX5_ask_16 tw_216 ?_
    show g 0 0 (wC S) 18 [some (.ref 0), some (.int h), some (.int x)] [.int (-1000001)]
    have hX : askC S h x = ((-1000001), S) := by
      unfold askC
      rw [if_neg (nbt h_5)]
    exact E _ _ _ _ _ _ dX5_ask_18 (Nat.le_refl _) (Nat.le_refl _) rfl ⟨by rw [hX], by rw [hX]⟩
  · replace h_5 := bB_t h_5
    obtain ⟨jh, hjh, rfl⟩ := bel_ex hS.1 (by have := hS.2.1; omega) h_5
    have hjh6 : jh < 6 := by have := hS.2.1; omega
    refine r_iload_n (pc := 8) C dX5_ask_8 rfl rfl ?_
    refine r_iconst (pc := 9) (v := 2) C dX5_ask_9 (by decide) ?_
    refine r_callS0 (pc := 10) (As := [.int x, .int 2]) (st := []) C (c_X5_isBelow x 2) xm_X5_isBelow xk_X5_59 dX5_ask_10 (fun _ => rfl) (fun _ => rfl) rfl rfl (Nat.le_of_ble_eq_true rfl) ⟨Nat.le_of_ble_eq_true rfl, Nat.le_of_ble_eq_true rfl⟩ ⟨rfl, rfl⟩ ⟨Nat.le_of_ble_eq_true rfl, Nat.le_of_ble_eq_true rfl⟩ rfl ?_
    show g 0 0 (wC S) 13 [some (.ref 0), some (.int (nI jh)), some (.int x)] [.int (bB (belS x 2))]
    refine r_if_ne (pc := 13) (tgt := 19) C dX5_ask_13 (by decide) (fun h_13 => ?_) (fun h_13 => ?_)
    · replace h_13 := bB_t h_13
      obtain ⟨jk, hjk, rfl⟩ := bel_ex (z := 2) rfl (by omega) h_13
      rcases (by omega : jk = 0 ∨ jk = 1) with rfl | rfl
      · rcases hk jh (by omega) with e | e | e | e | e
        · skip
          show g 0 0 (wC S) 19 [some (.ref 0), some (.int (nI jh)), some (.int 0)] []
          refine r_aload_n (pc := 19) C dX5_ask_19 rfl rfl ?_
          refine r_iconst (pc := 20) (v := 0) C dX5_ask_20 (by decide) ?_
          refine r_putfield (pc := 21) (θ' := wC (up3 S 0 (up2 (S 0) 8 (k1 0)))) C xf_X5_232 xt_X5_8 dX5_ask_21 rfl (Nat.le_of_ble_eq_true rfl) (fun _ => ⟨rfl, rfl⟩) rfl ?_
          refine r_aload_n (pc := 24) C dX5_ask_24 rfl rfl ?_
          refine r_iload_n (pc := 25) C dX5_ask_25 rfl rfl ?_
          refine r_iload_n (pc := 26) C dX5_ask_26 rfl rfl ?_
          refine r_iconst (pc := 27) (v := 0) C dX5_ask_27 (by decide) ?_
          refine r_callV0 (pc := 28) (As := [.int 0, .int (nI jh), .int 0]) (st := []) (θ' := wC (tr1 (tr1 (tr1 (tr1 (up3 S 0 (up2 (S 0) 8 (k1 0))) 0 11) (0 + 1) 10) ((0 + 1) + 1) 21) (((0 + 1) + 1) + 1) 20)) C (c_X5_answer_1_0 (up3 S 0 (up2 (S 0) 8 (k1 0))) jh (by omega) 0 rfl (by omega) 0 (by omega) e) xm_X5_answer xk_X5_235 dX5_ask_28 rfl rfl rfl rfl (Nat.le_of_ble_eq_true rfl) ⟨Nat.le_of_ble_eq_true rfl, Nat.le_of_ble_eq_true rfl⟩ ⟨rfl, rfl⟩ ⟨Nat.le_of_ble_eq_true rfl, Nat.le_of_ble_eq_true rfl⟩ rfl (Eq.trans (b := 55) rfl rfl) ?_
          show g 0 0 (wC (tr1 (tr1 (tr1 (tr1 (up3 S 0 (up2 (S 0) 8 (k1 0))) 0 11) (0 + 1) 10) ((0 + 1) + 1) 21) (((0 + 1) + 1) + 1) 20)) 31 [some (.ref 0), some (.int (nI jh)), some (.int 0)] [.int (((up3 S 0 (up2 (S 0) 8 (k1 0))) 2 3 jh) + (nI jh + dipS ((up3 S 0 (up2 (S 0) 8 (k1 0))) 2) jh ((up3 S 0 (up2 (S 0) 8 (k1 0))) 2 8 0)))]
          show g 0 0 (wC (tr1 (tr1 (tr1 (tr1 (up3 S 0 (up2 (S 0) 8 (k1 0))) 0 11) (0 + 1) 10) ((0 + 1) + 1) 21) (((0 + 1) + 1) + 1) 20)) 31 [some (.ref 0), some (.int (nI jh)), some (.int 0)] [.int (((up3 S 0 (up2 (S 0) 8 (k1 0))) 2 3 jh) + (nI jh + dipS ((up3 S 0 (up2 (S 0) 8 (k1 0))) 2) jh ((up3 S 0 (up2 (S 0) 8 (k1 0))) 2 8 0)))]
          have hX : askC S (nI jh) (nI 0) = (((up3 S 0 (up2 (S 0) 8 (k1 0))) 2 3 jh) + (nI jh + dipS ((up3 S 0 (up2 (S 0) 8 (k1 0))) 2) jh ((up3 S 0 (up2 (S 0) 8 (k1 0))) 2 8 0)), (tr1 (tr1 (tr1 (tr1 (up3 S 0 (up2 (S 0) 8 (k1 0))) 0 11) (0 + 1) 10) ((0 + 1) + 1) 21) (((0 + 1) + 1) + 1) 20)) := by
            unfold askC
            (try rw [ix_nI (show jh < 2 ^ 31 by omega)])
            rw [if_pos h_5, if_pos h_13, if_pos (show nI 0 = 0 from rfl), if_pos e]
          exact E _ _ _ _ _ _ dX5_ask_31 (Nat.le_refl _) (Nat.le_refl _) rfl ⟨by rw [hX], by rw [hX]⟩
        · skip
          show g 0 0 (wC S) 19 [some (.ref 0), some (.int (nI jh)), some (.int 0)] []
          refine r_aload_n (pc := 19) C dX5_ask_19 rfl rfl ?_
          refine r_iconst (pc := 20) (v := 0) C dX5_ask_20 (by decide) ?_
          refine r_putfield (pc := 21) (θ' := wC (up3 S 0 (up2 (S 0) 8 (k1 0)))) C xf_X5_232 xt_X5_8 dX5_ask_21 rfl (Nat.le_of_ble_eq_true rfl) (fun _ => ⟨rfl, rfl⟩) rfl ?_
          refine r_aload_n (pc := 24) C dX5_ask_24 rfl rfl ?_
          refine r_iload_n (pc := 25) C dX5_ask_25 rfl rfl ?_
          refine r_iload_n (pc := 26) C dX5_ask_26 rfl rfl ?_
          refine r_iconst (pc := 27) (v := 0) C dX5_ask_27 (by decide) ?_
          refine r_callV0 (pc := 28) (As := [.int 0, .int (nI jh), .int 0]) (st := []) (θ' := wC (tr1 (tr1 (tr1 (tr1 (tr1 (tr1 (up3 S 0 (up2 (S 0) 8 (k1 0))) 0 12) (0 + 1) 11) ((0 + 1) + 1) 10) (((0 + 1) + 1) + 1) 24) ((((0 + 1) + 1) + 1) + 1) 21) (((((0 + 1) + 1) + 1) + 1) + 1) 20)) C (c_X5_answer_2_0 (up3 S 0 (up2 (S 0) 8 (k1 0))) jh (by omega) 0 rfl (by omega) 0 (by omega) e) xm_X5_answer xk_X5_235 dX5_ask_28 rfl rfl rfl rfl (Nat.le_of_ble_eq_true rfl) ⟨Nat.le_of_ble_eq_true rfl, Nat.le_of_ble_eq_true rfl⟩ ⟨rfl, rfl⟩ ⟨Nat.le_of_ble_eq_true rfl, Nat.le_of_ble_eq_true rfl⟩ rfl (Eq.trans (b := 55) rfl rfl) ?_
          show g 0 0 (wC (tr1 (tr1 (tr1 (tr1 (tr1 (tr1 (up3 S 0 (up2 (S 0) 8 (k1 0))) 0 12) (0 + 1) 11) ((0 + 1) + 1) 10) (((0 + 1) + 1) + 1) 24) ((((0 + 1) + 1) + 1) + 1) 21) (((((0 + 1) + 1) + 1) + 1) + 1) 20)) 31 [some (.ref 0), some (.int (nI jh)), some (.int 0)] [.int (0 - (((up3 S 0 (up2 (S 0) 8 (k1 0))) 2 3 jh) + (2 * (nI jh + dipS ((up3 S 0 (up2 (S 0) 8 (k1 0))) 2) jh ((up3 S 0 (up2 (S 0) 8 (k1 0))) 2 8 0)))))]
          show g 0 0 (wC (tr1 (tr1 (tr1 (tr1 (tr1 (tr1 (up3 S 0 (up2 (S 0) 8 (k1 0))) 0 12) (0 + 1) 11) ((0 + 1) + 1) 10) (((0 + 1) + 1) + 1) 24) ((((0 + 1) + 1) + 1) + 1) 21) (((((0 + 1) + 1) + 1) + 1) + 1) 20)) 31 [some (.ref 0), some (.int (nI jh)), some (.int 0)] [.int (0 - (((up3 S 0 (up2 (S 0) 8 (k1 0))) 2 3 jh) + (2 * (nI jh + dipS ((up3 S 0 (up2 (S 0) 8 (k1 0))) 2) jh ((up3 S 0 (up2 (S 0) 8 (k1 0))) 2 8 0)))))]
          have hX : askC S (nI jh) (nI 0) = (0 - (((up3 S 0 (up2 (S 0) 8 (k1 0))) 2 3 jh) + (2 * (nI jh + dipS ((up3 S 0 (up2 (S 0) 8 (k1 0))) 2) jh ((up3 S 0 (up2 (S 0) 8 (k1 0))) 2 8 0)))), (tr1 (tr1 (tr1 (tr1 (tr1 (tr1 (up3 S 0 (up2 (S 0) 8 (k1 0))) 0 12) (0 + 1) 11) ((0 + 1) + 1) 10) (((0 + 1) + 1) + 1) 24) ((((0 + 1) + 1) + 1) + 1) 21) (((((0 + 1) + 1) + 1) + 1) + 1) 20)) := by
            unfold askC
            (try rw [ix_nI (show jh < 2 ^ 31 by omega)])
            rw [if_pos h_5, if_pos h_13, if_pos (show nI 0 = 0 from rfl), if_neg (show ¬ S 2 0 jh = 1 by rw [e]; decide), if_pos e]
          exact E _ _ _ _ _ _ dX5_ask_31 (Nat.le_refl _) (Nat.le_refl _) rfl ⟨by rw [hX], by rw [hX]⟩
        · skip
          show g 0 0 (wC S) 19 [some (.ref 0), some (.int (nI jh)), some (.int 0)] []
          refine r_aload_n (pc := 19) C dX5_ask_19 rfl rfl ?_
          refine r_iconst (pc := 20) (v := 0) C dX5_ask_20 (by decide) ?_
          refine r_putfield (pc := 21) (θ' := wC (up3 S 0 (up2 (S 0) 8 (k1 0)))) C xf_X5_232 xt_X5_8 dX5_ask_21 rfl (Nat.le_of_ble_eq_true rfl) (fun _ => ⟨rfl, rfl⟩) rfl ?_
          refine r_aload_n (pc := 24) C dX5_ask_24 rfl rfl ?_
          refine r_iload_n (pc := 25) C dX5_ask_25 rfl rfl ?_
          refine r_iload_n (pc := 26) C dX5_ask_26 rfl rfl ?_
          refine r_iconst (pc := 27) (v := 0) C dX5_ask_27 (by decide) ?_
          refine r_callV0 (pc := 28) (As := [.int 0, .int (nI jh), .int 0]) (st := []) (θ' := wC (tr1 (tr1 (tr1 (tr1 (tr1 (up3 S 0 (up2 (S 0) 8 (k1 0))) 0 11) (0 + 1) 10) ((0 + 1) + 1) 22) (((0 + 1) + 1) + 1) 21) ((((0 + 1) + 1) + 1) + 1) 20)) C (c_X5_answer_3_0 (up3 S 0 (up2 (S 0) 8 (k1 0))) jh (by omega) 0 rfl (by omega) 0 (by omega) e) xm_X5_answer xk_X5_235 dX5_ask_28 rfl rfl rfl rfl (Nat.le_of_ble_eq_true rfl) ⟨Nat.le_of_ble_eq_true rfl, Nat.le_of_ble_eq_true rfl⟩ ⟨rfl, rfl⟩ ⟨Nat.le_of_ble_eq_true rfl, Nat.le_of_ble_eq_true rfl⟩ rfl (Eq.trans (b := 55) rfl rfl) ?_
          show g 0 0 (wC (tr1 (tr1 (tr1 (tr1 (tr1 (up3 S 0 (up2 (S 0) 8 (k1 0))) 0 11) (0 + 1) 10) ((0 + 1) + 1) 22) (((0 + 1) + 1) + 1) 21) ((((0 + 1) + 1) + 1) + 1) 20)) 31 [some (.ref 0), some (.int (nI jh)), some (.int 0)] [.int (((up3 S 0 (up2 (S 0) 8 (k1 0))) 2 3 jh) + ((nI jh + dipS ((up3 S 0 (up2 (S 0) 8 (k1 0))) 2) jh ((up3 S 0 (up2 (S 0) 8 (k1 0))) 2 8 0)) - 1000))]
          show g 0 0 (wC (tr1 (tr1 (tr1 (tr1 (tr1 (up3 S 0 (up2 (S 0) 8 (k1 0))) 0 11) (0 + 1) 10) ((0 + 1) + 1) 22) (((0 + 1) + 1) + 1) 21) ((((0 + 1) + 1) + 1) + 1) 20)) 31 [some (.ref 0), some (.int (nI jh)), some (.int 0)] [.int (((up3 S 0 (up2 (S 0) 8 (k1 0))) 2 3 jh) + ((nI jh + dipS ((up3 S 0 (up2 (S 0) 8 (k1 0))) 2) jh ((up3 S 0 (up2 (S 0) 8 (k1 0))) 2 8 0)) - 1000))]
          have hX : askC S (nI jh) (nI 0) = (((up3 S 0 (up2 (S 0) 8 (k1 0))) 2 3 jh) + ((nI jh + dipS ((up3 S 0 (up2 (S 0) 8 (k1 0))) 2) jh ((up3 S 0 (up2 (S 0) 8 (k1 0))) 2 8 0)) - 1000), (tr1 (tr1 (tr1 (tr1 (tr1 (up3 S 0 (up2 (S 0) 8 (k1 0))) 0 11) (0 + 1) 10) ((0 + 1) + 1) 22) (((0 + 1) + 1) + 1) 21) ((((0 + 1) + 1) + 1) + 1) 20)) := by
            unfold askC
            (try rw [ix_nI (show jh < 2 ^ 31 by omega)])
            rw [if_pos h_5, if_pos h_13, if_pos (show nI 0 = 0 from rfl), if_neg (show ¬ S 2 0 jh = 1 by rw [e]; decide), if_neg (show ¬ S 2 0 jh = 2 by rw [e]; decide), if_pos e]
          exact E _ _ _ _ _ _ dX5_ask_31 (Nat.le_refl _) (Nat.le_refl _) rfl ⟨by rw [hX], by rw [hX]⟩
        · skip
          show g 0 0 (wC S) 19 [some (.ref 0), some (.int (nI jh)), some (.int 0)] []
          refine r_aload_n (pc := 19) C dX5_ask_19 rfl rfl ?_
          refine r_iconst (pc := 20) (v := 0) C dX5_ask_20 (by decide) ?_
          refine r_putfield (pc := 21) (θ' := wC (up3 S 0 (up2 (S 0) 8 (k1 0)))) C xf_X5_232 xt_X5_8 dX5_ask_21 rfl (Nat.le_of_ble_eq_true rfl) (fun _ => ⟨rfl, rfl⟩) rfl ?_
          refine r_aload_n (pc := 24) C dX5_ask_24 rfl rfl ?_
          refine r_iload_n (pc := 25) C dX5_ask_25 rfl rfl ?_
          refine r_iload_n (pc := 26) C dX5_ask_26 rfl rfl ?_
          refine r_iconst (pc := 27) (v := 0) C dX5_ask_27 (by decide) ?_
          refine r_callV0 (pc := 28) (As := [.int 0, .int (nI jh), .int 0]) (st := []) (θ' := wC (tr1 (tr1 (up3 S 0 (up2 (S 0) 8 (k1 0))) 0 13) (0 + 1) 10)) C (c_X5_answer_4_0 (up3 S 0 (up2 (S 0) 8 (k1 0))) jh (by omega) 0 rfl (by omega) 0 (by omega) e) xm_X5_answer xk_X5_235 dX5_ask_28 rfl rfl rfl rfl (Nat.le_of_ble_eq_true rfl) ⟨Nat.le_of_ble_eq_true rfl, Nat.le_of_ble_eq_true rfl⟩ ⟨rfl, rfl⟩ ⟨Nat.le_of_ble_eq_true rfl, Nat.le_of_ble_eq_true rfl⟩ rfl (Eq.trans (b := 55) rfl rfl) ?_
          show g 0 0 (wC (tr1 (tr1 (up3 S 0 (up2 (S 0) 8 (k1 0))) 0 13) (0 + 1) 10)) 31 [some (.ref 0), some (.int (nI jh)), some (.int 0)] [.int (((up3 S 0 (up2 (S 0) 8 (k1 0))) 2 3 jh) - 100)]
          show g 0 0 (wC (tr1 (tr1 (up3 S 0 (up2 (S 0) 8 (k1 0))) 0 13) (0 + 1) 10)) 31 [some (.ref 0), some (.int (nI jh)), some (.int 0)] [.int (((up3 S 0 (up2 (S 0) 8 (k1 0))) 2 3 jh) - 100)]
          have hX : askC S (nI jh) (nI 0) = (((up3 S 0 (up2 (S 0) 8 (k1 0))) 2 3 jh) - 100, (tr1 (tr1 (up3 S 0 (up2 (S 0) 8 (k1 0))) 0 13) (0 + 1) 10)) := by
            unfold askC
            (try rw [ix_nI (show jh < 2 ^ 31 by omega)])
            rw [if_pos h_5, if_pos h_13, if_pos (show nI 0 = 0 from rfl), if_neg (show ¬ S 2 0 jh = 1 by rw [e]; decide), if_neg (show ¬ S 2 0 jh = 2 by rw [e]; decide), if_neg (show ¬ S 2 0 jh = 3 by rw [e]; decide), if_pos e]
          exact E _ _ _ _ _ _ dX5_ask_31 (Nat.le_refl _) (Nat.le_refl _) rfl ⟨by rw [hX], by rw [hX]⟩
        · skip
          show g 0 0 (wC S) 19 [some (.ref 0), some (.int (nI jh)), some (.int 0)] []
          refine r_aload_n (pc := 19) C dX5_ask_19 rfl rfl ?_
          refine r_iconst (pc := 20) (v := 0) C dX5_ask_20 (by decide) ?_
          refine r_putfield (pc := 21) (θ' := wC (up3 S 0 (up2 (S 0) 8 (k1 0)))) C xf_X5_232 xt_X5_8 dX5_ask_21 rfl (Nat.le_of_ble_eq_true rfl) (fun _ => ⟨rfl, rfl⟩) rfl ?_
          refine r_aload_n (pc := 24) C dX5_ask_24 rfl rfl ?_
          refine r_iload_n (pc := 25) C dX5_ask_25 rfl rfl ?_
          refine r_iload_n (pc := 26) C dX5_ask_26 rfl rfl ?_
          refine r_iconst (pc := 27) (v := 0) C dX5_ask_27 (by decide) ?_
          refine r_callV0 (pc := 28) (As := [.int 0, .int (nI jh), .int 0]) (st := []) (θ' := wC (tr1 (tr1 (tr1 (up3 S 0 (up2 (S 0) 8 (k1 0))) 0 14) (0 + 1) 13) ((0 + 1) + 1) 10)) C (c_X5_answer_5_0 (up3 S 0 (up2 (S 0) 8 (k1 0))) jh (by omega) 0 rfl (by omega) 0 (by omega) e) xm_X5_answer xk_X5_235 dX5_ask_28 rfl rfl rfl rfl (Nat.le_of_ble_eq_true rfl) ⟨Nat.le_of_ble_eq_true rfl, Nat.le_of_ble_eq_true rfl⟩ ⟨rfl, rfl⟩ ⟨Nat.le_of_ble_eq_true rfl, Nat.le_of_ble_eq_true rfl⟩ rfl (Eq.trans (b := 55) rfl rfl) ?_
          show g 0 0 (wC (tr1 (tr1 (tr1 (up3 S 0 (up2 (S 0) 8 (k1 0))) 0 14) (0 + 1) 13) ((0 + 1) + 1) 10)) 31 [some (.ref 0), some (.int (nI jh)), some (.int 0)] [.int (2 * (((up3 S 0 (up2 (S 0) 8 (k1 0))) 2 3 jh) - 100))]
          show g 0 0 (wC (tr1 (tr1 (tr1 (up3 S 0 (up2 (S 0) 8 (k1 0))) 0 14) (0 + 1) 13) ((0 + 1) + 1) 10)) 31 [some (.ref 0), some (.int (nI jh)), some (.int 0)] [.int (2 * (((up3 S 0 (up2 (S 0) 8 (k1 0))) 2 3 jh) - 100))]
          have hX : askC S (nI jh) (nI 0) = (2 * (((up3 S 0 (up2 (S 0) 8 (k1 0))) 2 3 jh) - 100), (tr1 (tr1 (tr1 (up3 S 0 (up2 (S 0) 8 (k1 0))) 0 14) (0 + 1) 13) ((0 + 1) + 1) 10)) := by
            unfold askC
            (try rw [ix_nI (show jh < 2 ^ 31 by omega)])
            rw [if_pos h_5, if_pos h_13, if_pos (show nI 0 = 0 from rfl), if_neg (show ¬ S 2 0 jh = 1 by rw [e]; decide), if_neg (show ¬ S 2 0 jh = 2 by rw [e]; decide), if_neg (show ¬ S 2 0 jh = 3 by rw [e]; decide), if_neg (show ¬ S 2 0 jh = 4 by rw [e]; decide)]
          exact E _ _ _ _ _ _ dX5_ask_31 (Nat.le_refl _) (Nat.le_refl _) rfl ⟨by rw [hX], by rw [hX]⟩
      · rcases hk jh (by omega) with e | e | e | e | e
        · skip
          show g 0 0 (wC S) 19 [some (.ref 0), some (.int (nI jh)), some (.int 1)] []
          refine r_aload_n (pc := 19) C dX5_ask_19 rfl rfl ?_
          refine r_iconst (pc := 20) (v := 0) C dX5_ask_20 (by decide) ?_
          refine r_putfield (pc := 21) (θ' := wC (up3 S 0 (up2 (S 0) 8 (k1 0)))) C xf_X5_232 xt_X5_8 dX5_ask_21 rfl (Nat.le_of_ble_eq_true rfl) (fun _ => ⟨rfl, rfl⟩) rfl ?_
          refine r_aload_n (pc := 24) C dX5_ask_24 rfl rfl ?_
          refine r_iload_n (pc := 25) C dX5_ask_25 rfl rfl ?_
          refine r_iload_n (pc := 26) C dX5_ask_26 rfl rfl ?_
          refine r_iconst (pc := 27) (v := 0) C dX5_ask_27 (by decide) ?_
          refine r_callV0 (pc := 28) (As := [.int 1, .int (nI jh), .int 0]) (st := []) (θ' := wC (tr1 (tr1 (up3 S 0 (up2 (S 0) 8 (k1 0))) 0 21) (0 + 1) 20)) C (c_X5_answer_1_1 (up3 S 0 (up2 (S 0) 8 (k1 0))) jh (by omega) 0 rfl (by omega) 0 (by omega) e) xm_X5_answer xk_X5_235 dX5_ask_28 rfl rfl rfl rfl (Nat.le_of_ble_eq_true rfl) ⟨Nat.le_of_ble_eq_true rfl, Nat.le_of_ble_eq_true rfl⟩ ⟨rfl, rfl⟩ ⟨Nat.le_of_ble_eq_true rfl, Nat.le_of_ble_eq_true rfl⟩ rfl (Eq.trans (b := 55) rfl rfl) ?_
          show g 0 0 (wC (tr1 (tr1 (up3 S 0 (up2 (S 0) 8 (k1 0))) 0 21) (0 + 1) 20)) 31 [some (.ref 0), some (.int (nI jh)), some (.int 1)] [.int (nI jh + dipS ((up3 S 0 (up2 (S 0) 8 (k1 0))) 2) jh ((up3 S 0 (up2 (S 0) 8 (k1 0))) 2 8 0))]
          show g 0 0 (wC (tr1 (tr1 (up3 S 0 (up2 (S 0) 8 (k1 0))) 0 21) (0 + 1) 20)) 31 [some (.ref 0), some (.int (nI jh)), some (.int 1)] [.int (nI jh + dipS ((up3 S 0 (up2 (S 0) 8 (k1 0))) 2) jh ((up3 S 0 (up2 (S 0) 8 (k1 0))) 2 8 0))]
          have hX : askC S (nI jh) (nI 1) = (nI jh + dipS ((up3 S 0 (up2 (S 0) 8 (k1 0))) 2) jh ((up3 S 0 (up2 (S 0) 8 (k1 0))) 2 8 0), (tr1 (tr1 (up3 S 0 (up2 (S 0) 8 (k1 0))) 0 21) (0 + 1) 20)) := by
            unfold askC
            (try rw [ix_nI (show jh < 2 ^ 31 by omega)])
            rw [if_pos h_5, if_pos h_13, if_neg (show ¬ nI 1 = 0 by decide), if_pos e]
          exact E _ _ _ _ _ _ dX5_ask_31 (Nat.le_refl _) (Nat.le_refl _) rfl ⟨by rw [hX], by rw [hX]⟩
        · skip
          show g 0 0 (wC S) 19 [some (.ref 0), some (.int (nI jh)), some (.int 1)] []
          refine r_aload_n (pc := 19) C dX5_ask_19 rfl rfl ?_
          refine r_iconst (pc := 20) (v := 0) C dX5_ask_20 (by decide) ?_
          refine r_putfield (pc := 21) (θ' := wC (up3 S 0 (up2 (S 0) 8 (k1 0)))) C xf_X5_232 xt_X5_8 dX5_ask_21 rfl (Nat.le_of_ble_eq_true rfl) (fun _ => ⟨rfl, rfl⟩) rfl ?_
          refine r_aload_n (pc := 24) C dX5_ask_24 rfl rfl ?_
          refine r_iload_n (pc := 25) C dX5_ask_25 rfl rfl ?_
          refine r_iload_n (pc := 26) C dX5_ask_26 rfl rfl ?_
          refine r_iconst (pc := 27) (v := 0) C dX5_ask_27 (by decide) ?_
          refine r_callV0 (pc := 28) (As := [.int 1, .int (nI jh), .int 0]) (st := []) (θ' := wC (tr1 (tr1 (tr1 (up3 S 0 (up2 (S 0) 8 (k1 0))) 0 24) (0 + 1) 21) ((0 + 1) + 1) 20)) C (c_X5_answer_2_1 (up3 S 0 (up2 (S 0) 8 (k1 0))) jh (by omega) 0 rfl (by omega) 0 (by omega) e) xm_X5_answer xk_X5_235 dX5_ask_28 rfl rfl rfl rfl (Nat.le_of_ble_eq_true rfl) ⟨Nat.le_of_ble_eq_true rfl, Nat.le_of_ble_eq_true rfl⟩ ⟨rfl, rfl⟩ ⟨Nat.le_of_ble_eq_true rfl, Nat.le_of_ble_eq_true rfl⟩ rfl (Eq.trans (b := 55) rfl rfl) ?_
          show g 0 0 (wC (tr1 (tr1 (tr1 (up3 S 0 (up2 (S 0) 8 (k1 0))) 0 24) (0 + 1) 21) ((0 + 1) + 1) 20)) 31 [some (.ref 0), some (.int (nI jh)), some (.int 1)] [.int (2 * (nI jh + dipS ((up3 S 0 (up2 (S 0) 8 (k1 0))) 2) jh ((up3 S 0 (up2 (S 0) 8 (k1 0))) 2 8 0)))]
          show g 0 0 (wC (tr1 (tr1 (tr1 (up3 S 0 (up2 (S 0) 8 (k1 0))) 0 24) (0 + 1) 21) ((0 + 1) + 1) 20)) 31 [some (.ref 0), some (.int (nI jh)), some (.int 1)] [.int (2 * (nI jh + dipS ((up3 S 0 (up2 (S 0) 8 (k1 0))) 2) jh ((up3 S 0 (up2 (S 0) 8 (k1 0))) 2 8 0)))]
          have hX : askC S (nI jh) (nI 1) = (2 * (nI jh + dipS ((up3 S 0 (up2 (S 0) 8 (k1 0))) 2) jh ((up3 S 0 (up2 (S 0) 8 (k1 0))) 2 8 0)), (tr1 (tr1 (tr1 (up3 S 0 (up2 (S 0) 8 (k1 0))) 0 24) (0 + 1) 21) ((0 + 1) + 1) 20)) := by
            unfold askC
            (try rw [ix_nI (show jh < 2 ^ 31 by omega)])
            rw [if_pos h_5, if_pos h_13, if_neg (show ¬ nI 1 = 0 by decide), if_neg (show ¬ S 2 0 jh = 1 by rw [e]; decide), if_pos e]
          exact E _ _ _ _ _ _ dX5_ask_31 (Nat.le_refl _) (Nat.le_refl _) rfl ⟨by rw [hX], by rw [hX]⟩
        · skip
          show g 0 0 (wC S) 19 [some (.ref 0), some (.int (nI jh)), some (.int 1)] []
          refine r_aload_n (pc := 19) C dX5_ask_19 rfl rfl ?_
          refine r_iconst (pc := 20) (v := 0) C dX5_ask_20 (by decide) ?_
          refine r_putfield (pc := 21) (θ' := wC (up3 S 0 (up2 (S 0) 8 (k1 0)))) C xf_X5_232 xt_X5_8 dX5_ask_21 rfl (Nat.le_of_ble_eq_true rfl) (fun _ => ⟨rfl, rfl⟩) rfl ?_
          refine r_aload_n (pc := 24) C dX5_ask_24 rfl rfl ?_
          refine r_iload_n (pc := 25) C dX5_ask_25 rfl rfl ?_
          refine r_iload_n (pc := 26) C dX5_ask_26 rfl rfl ?_
          refine r_iconst (pc := 27) (v := 0) C dX5_ask_27 (by decide) ?_
          refine r_callV0 (pc := 28) (As := [.int 1, .int (nI jh), .int 0]) (st := []) (θ' := wC (tr1 (tr1 (tr1 (up3 S 0 (up2 (S 0) 8 (k1 0))) 0 22) (0 + 1) 21) ((0 + 1) + 1) 20)) C (c_X5_answer_3_1 (up3 S 0 (up2 (S 0) 8 (k1 0))) jh (by omega) 0 rfl (by omega) 0 (by omega) e) xm_X5_answer xk_X5_235 dX5_ask_28 rfl rfl rfl rfl (Nat.le_of_ble_eq_true rfl) ⟨Nat.le_of_ble_eq_true rfl, Nat.le_of_ble_eq_true rfl⟩ ⟨rfl, rfl⟩ ⟨Nat.le_of_ble_eq_true rfl, Nat.le_of_ble_eq_true rfl⟩ rfl (Eq.trans (b := 55) rfl rfl) ?_
          show g 0 0 (wC (tr1 (tr1 (tr1 (up3 S 0 (up2 (S 0) 8 (k1 0))) 0 22) (0 + 1) 21) ((0 + 1) + 1) 20)) 31 [some (.ref 0), some (.int (nI jh)), some (.int 1)] [.int ((nI jh + dipS ((up3 S 0 (up2 (S 0) 8 (k1 0))) 2) jh ((up3 S 0 (up2 (S 0) 8 (k1 0))) 2 8 0)) - 1000)]
          show g 0 0 (wC (tr1 (tr1 (tr1 (up3 S 0 (up2 (S 0) 8 (k1 0))) 0 22) (0 + 1) 21) ((0 + 1) + 1) 20)) 31 [some (.ref 0), some (.int (nI jh)), some (.int 1)] [.int ((nI jh + dipS ((up3 S 0 (up2 (S 0) 8 (k1 0))) 2) jh ((up3 S 0 (up2 (S 0) 8 (k1 0))) 2 8 0)) - 1000)]
          have hX : askC S (nI jh) (nI 1) = ((nI jh + dipS ((up3 S 0 (up2 (S 0) 8 (k1 0))) 2) jh ((up3 S 0 (up2 (S 0) 8 (k1 0))) 2 8 0)) - 1000, (tr1 (tr1 (tr1 (up3 S 0 (up2 (S 0) 8 (k1 0))) 0 22) (0 + 1) 21) ((0 + 1) + 1) 20)) := by
            unfold askC
            (try rw [ix_nI (show jh < 2 ^ 31 by omega)])
            rw [if_pos h_5, if_pos h_13, if_neg (show ¬ nI 1 = 0 by decide), if_neg (show ¬ S 2 0 jh = 1 by rw [e]; decide), if_neg (show ¬ S 2 0 jh = 2 by rw [e]; decide), if_pos e]
          exact E _ _ _ _ _ _ dX5_ask_31 (Nat.le_refl _) (Nat.le_refl _) rfl ⟨by rw [hX], by rw [hX]⟩
        · skip
          show g 0 0 (wC S) 19 [some (.ref 0), some (.int (nI jh)), some (.int 1)] []
          refine r_aload_n (pc := 19) C dX5_ask_19 rfl rfl ?_
          refine r_iconst (pc := 20) (v := 0) C dX5_ask_20 (by decide) ?_
          refine r_putfield (pc := 21) (θ' := wC (up3 S 0 (up2 (S 0) 8 (k1 0)))) C xf_X5_232 xt_X5_8 dX5_ask_21 rfl (Nat.le_of_ble_eq_true rfl) (fun _ => ⟨rfl, rfl⟩) rfl ?_
          refine r_aload_n (pc := 24) C dX5_ask_24 rfl rfl ?_
          refine r_iload_n (pc := 25) C dX5_ask_25 rfl rfl ?_
          refine r_iload_n (pc := 26) C dX5_ask_26 rfl rfl ?_
          refine r_iconst (pc := 27) (v := 0) C dX5_ask_27 (by decide) ?_
          refine r_callV0 (pc := 28) (As := [.int 1, .int (nI jh), .int 0]) (st := []) (θ' := wC (tr1 (tr1 (tr1 (tr1 (up3 S 0 (up2 (S 0) 8 (k1 0))) 0 23) (0 + 1) 20) ((0 + 1) + 1) 13) (((0 + 1) + 1) + 1) 10)) C (c_X5_answer_4_1 (up3 S 0 (up2 (S 0) 8 (k1 0))) jh (by omega) 0 rfl (by omega) 0 (by omega) e) xm_X5_answer xk_X5_235 dX5_ask_28 rfl rfl rfl rfl (Nat.le_of_ble_eq_true rfl) ⟨Nat.le_of_ble_eq_true rfl, Nat.le_of_ble_eq_true rfl⟩ ⟨rfl, rfl⟩ ⟨Nat.le_of_ble_eq_true rfl, Nat.le_of_ble_eq_true rfl⟩ rfl (Eq.trans (b := 55) rfl rfl) ?_
          show g 0 0 (wC (tr1 (tr1 (tr1 (tr1 (up3 S 0 (up2 (S 0) 8 (k1 0))) 0 23) (0 + 1) 20) ((0 + 1) + 1) 13) (((0 + 1) + 1) + 1) 10)) 31 [some (.ref 0), some (.int (nI jh)), some (.int 1)] [.int (nI jh - (((up3 S 0 (up2 (S 0) 8 (k1 0))) 2 3 jh) - 100))]
          show g 0 0 (wC (tr1 (tr1 (tr1 (tr1 (up3 S 0 (up2 (S 0) 8 (k1 0))) 0 23) (0 + 1) 20) ((0 + 1) + 1) 13) (((0 + 1) + 1) + 1) 10)) 31 [some (.ref 0), some (.int (nI jh)), some (.int 1)] [.int (nI jh - (((up3 S 0 (up2 (S 0) 8 (k1 0))) 2 3 jh) - 100))]
          have hX : askC S (nI jh) (nI 1) = (nI jh - (((up3 S 0 (up2 (S 0) 8 (k1 0))) 2 3 jh) - 100), (tr1 (tr1 (tr1 (tr1 (up3 S 0 (up2 (S 0) 8 (k1 0))) 0 23) (0 + 1) 20) ((0 + 1) + 1) 13) (((0 + 1) + 1) + 1) 10)) := by
            unfold askC
            (try rw [ix_nI (show jh < 2 ^ 31 by omega)])
            rw [if_pos h_5, if_pos h_13, if_neg (show ¬ nI 1 = 0 by decide), if_neg (show ¬ S 2 0 jh = 1 by rw [e]; decide), if_neg (show ¬ S 2 0 jh = 2 by rw [e]; decide), if_neg (show ¬ S 2 0 jh = 3 by rw [e]; decide), if_pos e]
          exact E _ _ _ _ _ _ dX5_ask_31 (Nat.le_refl _) (Nat.le_refl _) rfl ⟨by rw [hX], by rw [hX]⟩
        · skip
          show g 0 0 (wC S) 19 [some (.ref 0), some (.int (nI jh)), some (.int 1)] []
          refine r_aload_n (pc := 19) C dX5_ask_19 rfl rfl ?_
          refine r_iconst (pc := 20) (v := 0) C dX5_ask_20 (by decide) ?_
          refine r_putfield (pc := 21) (θ' := wC (up3 S 0 (up2 (S 0) 8 (k1 0)))) C xf_X5_232 xt_X5_8 dX5_ask_21 rfl (Nat.le_of_ble_eq_true rfl) (fun _ => ⟨rfl, rfl⟩) rfl ?_
          refine r_aload_n (pc := 24) C dX5_ask_24 rfl rfl ?_
          refine r_iload_n (pc := 25) C dX5_ask_25 rfl rfl ?_
          refine r_iload_n (pc := 26) C dX5_ask_26 rfl rfl ?_
          refine r_iconst (pc := 27) (v := 0) C dX5_ask_27 (by decide) ?_
          refine r_callV0 (pc := 28) (As := [.int 1, .int (nI jh), .int 0]) (st := []) (θ' := wC (tr1 (tr1 (tr1 (tr1 (tr1 (up3 S 0 (up2 (S 0) 8 (k1 0))) 0 23) (0 + 1) 20) ((0 + 1) + 1) 14) (((0 + 1) + 1) + 1) 13) ((((0 + 1) + 1) + 1) + 1) 10)) C (c_X5_answer_5_1 (up3 S 0 (up2 (S 0) 8 (k1 0))) jh (by omega) 0 rfl (by omega) 0 (by omega) e) xm_X5_answer xk_X5_235 dX5_ask_28 rfl rfl rfl rfl (Nat.le_of_ble_eq_true rfl) ⟨Nat.le_of_ble_eq_true rfl, Nat.le_of_ble_eq_true rfl⟩ ⟨rfl, rfl⟩ ⟨Nat.le_of_ble_eq_true rfl, Nat.le_of_ble_eq_true rfl⟩ rfl (Eq.trans (b := 55) rfl rfl) ?_
          show g 0 0 (wC (tr1 (tr1 (tr1 (tr1 (tr1 (up3 S 0 (up2 (S 0) 8 (k1 0))) 0 23) (0 + 1) 20) ((0 + 1) + 1) 14) (((0 + 1) + 1) + 1) 13) ((((0 + 1) + 1) + 1) + 1) 10)) 31 [some (.ref 0), some (.int (nI jh)), some (.int 1)] [.int (nI jh - (2 * (((up3 S 0 (up2 (S 0) 8 (k1 0))) 2 3 jh) - 100)))]
          show g 0 0 (wC (tr1 (tr1 (tr1 (tr1 (tr1 (up3 S 0 (up2 (S 0) 8 (k1 0))) 0 23) (0 + 1) 20) ((0 + 1) + 1) 14) (((0 + 1) + 1) + 1) 13) ((((0 + 1) + 1) + 1) + 1) 10)) 31 [some (.ref 0), some (.int (nI jh)), some (.int 1)] [.int (nI jh - (2 * (((up3 S 0 (up2 (S 0) 8 (k1 0))) 2 3 jh) - 100)))]
          have hX : askC S (nI jh) (nI 1) = (nI jh - (2 * (((up3 S 0 (up2 (S 0) 8 (k1 0))) 2 3 jh) - 100)), (tr1 (tr1 (tr1 (tr1 (tr1 (up3 S 0 (up2 (S 0) 8 (k1 0))) 0 23) (0 + 1) 20) ((0 + 1) + 1) 14) (((0 + 1) + 1) + 1) 13) ((((0 + 1) + 1) + 1) + 1) 10)) := by
            unfold askC
            (try rw [ix_nI (show jh < 2 ^ 31 by omega)])
            rw [if_pos h_5, if_pos h_13, if_neg (show ¬ nI 1 = 0 by decide), if_neg (show ¬ S 2 0 jh = 1 by rw [e]; decide), if_neg (show ¬ S 2 0 jh = 2 by rw [e]; decide), if_neg (show ¬ S 2 0 jh = 3 by rw [e]; decide), if_neg (show ¬ S 2 0 jh = 4 by rw [e]; decide)]
          exact E _ _ _ _ _ _ dX5_ask_31 (Nat.le_refl _) (Nat.le_refl _) rfl ⟨by rw [hX], by rw [hX]⟩
    · replace h_13 := bB_f h_13
      refine r_ldc (pc := 16) (v := (-1000001)) C dX5_ask_16 tw_216 ?_
      show g 0 0 (wC S) 18 [some (.ref 0), some (.int (nI jh)), some (.int x)] [.int (-1000001)]
      have hX : askC S (nI jh) x = ((-1000001), S) := by
        unfold askC
        (try rw [ix_nI (show jh < 2 ^ 31 by omega)])
        rw [if_pos h_5, if_neg (nbt h_13)]
      exact E _ _ _ _ _ _ dX5_ask_18 (Nat.le_refl _) (Nat.le_refl _) rfl ⟨by rw [hX], by rw [hX]⟩
