/-! ===== breaks ===== -/
def prS (F : Nat → Nat → Int32) (br c : Int32) : Nat → Int32
  | 0 => 1
  | k + 1 => if cutS F k then prS F br c k else prS F br c k * (if hasS br (nI k) then c else 10 - c)
def paS (F : Nat → Nat → Int32) : Nat → Int32
  | 0 => 1
  | k + 1 => if cutS F k then paS F k else paS F k * 10
def gcS : Nat → Int32 → Int32 → Int32
  | 0, l, _ => l
  | n + 1, l, s => if s = 0 then l else gcS n s (rmI l s)
noncomputable def brS (S : Nat → Nat → Nat → Int32) (z ia ib jd : Nat) (c : Int32) : Nat → Int32
  | 0 => 0
  | k + 1 => if nI k &&& S 2 10 0 = 0 then (if arrT (S 7 1) z (nI ia) (nI ib) jd (nI k) = -1000000 then brS S z ia ib jd c k else brS S z ia ib jd c k + prS (S 2) (nI k) c z) else brS S z ia ib jd c k
theorem sh_pow {z : Nat} (h : z ≤ 6) : (1 : Int32) <<< (nI z &&& 31) = nI (2 ^ z) := by
  have : ∀ z, z < 7 → (1 : Int32) <<< (nI z &&& 31) = nI (2 ^ z) := by decide +kernel
  exact this z (by omega)
theorem p2_64 {z : Nat} (h : z ≤ 6) : 2 ^ z ≤ 64 := by
  have : ∀ z, z < 7 → 2 ^ z ≤ 64 := by decide +kernel
  exact this z (by omega)
set_option maxHeartbeats 4000000 in
set_option maxRecDepth 100000 in
theorem lp_X5_partsOf (S : Nat → Nat → Nat → Int32) (br c : Int32) (z : Nat) (hS : okS S z) {g : Nat → Nat → List xE → Nat → List (Option Value) → List Value → Prop} (C : Sem cX5_partsOf RX5 "partsOf" 5 rmX5_partsOf g) (E : xEi g cX5_partsOf .int 0 0 (fun vr wr => vr = some (.int (prS (S 2) br c z)) ∧ wr = wC S)) : ∀ (n : Nat) (k : Nat), k + n = z → g 0 0 (wC S) 5 [some (.ref 0), some (.int br), some (.int c), some (.int (prS (S 2) br c k)), some (.int (nI k))] [] := by
  intro n
  induction n with
  | zero =>
    intro k hk
    have hS6 := hS.2.1
    obtain rfl : k = z := by omega
    refine r_iload (pc := 5) C dX5_partsOf_5 rfl ?_
    refine r_aload_n (pc := 7) C dX5_partsOf_7 rfl rfl ?_
    refine r_getfield (pc := 8) (v := .ref 20) C xf_X5_25 dX5_partsOf_8 rfl rfl ?_
    refine r_getfield (pc := 11) (v := .int ((S 2) 9 0)) C xf_X5_119 dX5_partsOf_11 rfl rfl ?_
    refine r_icmp_ge (pc := 14) (tgt := 56) C dX5_partsOf_14 (by decide) (fun _ => ?_) (fun h => absurd (by rw [hS.1]; exact nI_le (by omega) (by omega)) h)
    refine r_iload_n (pc := 56) C dX5_partsOf_56 rfl rfl ?_
    exact E _ _ _ _ _ _ dX5_partsOf_57 (Nat.le_refl _) (Nat.le_refl _) rfl ⟨rfl, rfl⟩
  | succ n ih =>
    intro k hk
    have hS6 := hS.2.1
    refine r_iload (pc := 5) C dX5_partsOf_5 rfl ?_
    refine r_aload_n (pc := 7) C dX5_partsOf_7 rfl rfl ?_
    refine r_getfield (pc := 8) (v := .ref 20) C xf_X5_25 dX5_partsOf_8 rfl rfl ?_
    refine r_getfield (pc := 11) (v := .int ((S 2) 9 0)) C xf_X5_119 dX5_partsOf_11 rfl rfl ?_
    refine r_icmp_ge (pc := 14) (tgt := 56) C dX5_partsOf_14 (by decide) (fun h => absurd h (by rw [hS.1]; exact nI_ge (by omega) (by omega))) (fun _ => ?_)
    refine r_aload_n (pc := 17) C dX5_partsOf_17 rfl rfl ?_
    refine r_getfield (pc := 18) (v := .ref 20) C xf_X5_25 dX5_partsOf_18 rfl rfl ?_
    refine r_iload (pc := 21) C dX5_partsOf_21 rfl ?_
    refine r_callVD (pc := 23) (b := 20) (As := [.int (nI k)]) (st := []) (θ2 := wC S) (r2 := some (.int (bB (cutS (S 2) k)))) C [20, 21, 22, 23, 24, 25] (c_X1_isCut (S 2) k (by omega)) xm_X1_isCut xk_X5_157 dX5_partsOf_23 rfl (by decide) rfl rfl rfl rfl rfl (Nat.le_of_ble_eq_true rfl) ⟨Nat.le_of_ble_eq_true rfl, Nat.le_of_ble_eq_true rfl⟩ ⟨rfl, rfl⟩ ⟨Nat.le_of_ble_eq_true rfl, Nat.le_of_ble_eq_true rfl⟩ rfl (Eq.trans (b := 6) rfl rfl) rfl rfl ?_
    show g 0 0 (wC S) 26 [some (.ref 0), some (.int br), some (.int c), some (.int (prS (S 2) br c k)), some (.int (nI k))] [.int (bB (cutS (S 2) k))]
    refine r_if_ne (pc := 26) (tgt := 50) C dX5_partsOf_26 (by decide) (fun h_26 => ?_) (fun h_26 => ?_)
    · replace h_26 := bB_t h_26
      refine r_iinc (pc := 50) (v := nI (k + 1)) (lv' := [some (.ref 0), some (.int br), some (.int c), some (.int (prS (S 2) br c k)), some (.int (nI (k + 1)))]) C dX5_partsOf_50 rfl (nI_1 k) trivial rfl ?_
      refine r_goto (pc := 53) (tgt := 5) C dX5_partsOf_53 (by decide) ?_
      show g 0 0 (wC S) 5 [some (.ref 0), some (.int br), some (.int c), some (.int (prS (S 2) br c k)), some (.int (nI (k + 1)))] []
      rw [show (prS (S 2) br c k : Int32) = prS (S 2) br c (k + 1) from by simp only [prS, h_26, if_true]]
      exact ih (k + 1) (by omega)
    · replace h_26 := bB_f h_26
      refine r_iload_n (pc := 29) C dX5_partsOf_29 rfl rfl ?_
      refine r_iload_n (pc := 30) C dX5_partsOf_30 rfl rfl ?_
      refine r_iload (pc := 31) C dX5_partsOf_31 rfl ?_
      refine r_ishr (pc := 33) C dX5_partsOf_33 ?_
      refine r_iconst (pc := 34) (v := 1) C dX5_partsOf_34 (by decide) ?_
      refine r_iand (pc := 35) C dX5_partsOf_35 ?_
      refine r_iconst (pc := 36) (v := 1) C dX5_partsOf_36 (by decide) ?_
      refine r_icmp_ne (pc := 37) (tgt := 44) C dX5_partsOf_37 (by decide) (fun h_37 => ?_) (fun h_37 => ?_)
      · skip
        refine r_bipush (pc := 44) (v := 10) C dX5_partsOf_44 (by decide) ?_
        refine r_iload_n (pc := 46) C dX5_partsOf_46 rfl rfl ?_
        refine r_isub (pc := 47) C dX5_partsOf_47 ?_
        refine r_imul (pc := 48) C dX5_partsOf_48 ?_
        refine r_istore_n (pc := 49) (lv' := [some (.ref 0), some (.int br), some (.int c), some (.int ((prS (S 2) br c k) * (10 - c))), some (.int (nI k))]) C dX5_partsOf_49 rfl (Nat.le_of_ble_eq_true rfl) trivial rfl ?_
        refine r_iinc (pc := 50) (v := nI (k + 1)) (lv' := [some (.ref 0), some (.int br), some (.int c), some (.int ((prS (S 2) br c k) * (10 - c))), some (.int (nI (k + 1)))]) C dX5_partsOf_50 rfl (nI_1 k) trivial rfl ?_
        refine r_goto (pc := 53) (tgt := 5) C dX5_partsOf_53 (by decide) ?_
        show g 0 0 (wC S) 5 [some (.ref 0), some (.int br), some (.int c), some (.int ((prS (S 2) br c k) * (10 - c))), some (.int (nI (k + 1)))] []
        rw [show ((prS (S 2) br c k) * (10 - c) : Int32) = prS (S 2) br c (k + 1) from by simp only [prS, h_26, has_n h_37, if_true, if_false, Bool.false_eq_true]]
        exact ih (k + 1) (by omega)
      · skip
        refine r_iload_n (pc := 40) C dX5_partsOf_40 rfl rfl ?_
        refine r_goto (pc := 41) (tgt := 48) C dX5_partsOf_41 (by decide) ?_
        refine r_imul (pc := 48) C dX5_partsOf_48 ?_
        refine r_istore_n (pc := 49) (lv' := [some (.ref 0), some (.int br), some (.int c), some (.int ((prS (S 2) br c k) * c)), some (.int (nI k))]) C dX5_partsOf_49 rfl (Nat.le_of_ble_eq_true rfl) trivial rfl ?_
        refine r_iinc (pc := 50) (v := nI (k + 1)) (lv' := [some (.ref 0), some (.int br), some (.int c), some (.int ((prS (S 2) br c k) * c)), some (.int (nI (k + 1)))]) C dX5_partsOf_50 rfl (nI_1 k) trivial rfl ?_
        refine r_goto (pc := 53) (tgt := 5) C dX5_partsOf_53 (by decide) ?_
        show g 0 0 (wC S) 5 [some (.ref 0), some (.int br), some (.int c), some (.int ((prS (S 2) br c k) * c)), some (.int (nI (k + 1)))] []
        rw [show ((prS (S 2) br c k) * c : Int32) = prS (S 2) br c (k + 1) from by simp only [prS, h_26, has_p h_37, if_true, if_false, Bool.false_eq_true]]
        exact ih (k + 1) (by omega)
set_option maxHeartbeats 4000000 in
set_option maxRecDepth 100000 in
theorem c_X5_partsOf (S : Nat → Nat → Nat → Int32) (br c : Int32) (z : Nat) (hS : okS S z) : MetA yX5_partsOf (.code yX5_partsOf cX5_partsOf 5 (some .int) :: TT) rmX5_partsOf [.ref 0, .int br, .int c] (wC S) (fun vr wr => vr = some (.int (prS (S 2) br c z)) ∧ wr = wC S) 0 0 := by
  refine MetA.of_i (by decide) (fun _ => Nat.le_of_ble_eq_true rfl) (Nat.le_of_ble_eq_true rfl) (fun g C E => ?_)
  replace C : Sem cX5_partsOf RX5 "partsOf" 5 rmX5_partsOf g := C
  show g 0 0 (wC S) 0 [some (.ref 0), some (.int br), some (.int c), none, none] []
  refine r_iconst (pc := 0) (v := 1) C dX5_partsOf_0 (by decide) ?_
  refine r_istore_n (pc := 1) (lv' := [some (.ref 0), some (.int br), some (.int c), some (.int 1), none]) C dX5_partsOf_1 rfl (Nat.le_of_ble_eq_true rfl) trivial rfl ?_
  refine r_iconst (pc := 2) (v := 0) C dX5_partsOf_2 (by decide) ?_
  refine r_istore (pc := 3) (lv' := [some (.ref 0), some (.int br), some (.int c), some (.int 1), some (.int 0)]) C dX5_partsOf_3 (Nat.le_of_ble_eq_true rfl) trivial rfl ?_
  show g 0 0 (wC S) 5 [some (.ref 0), some (.int br), some (.int c), some (.int 1), some (.int 0)] []
  exact lp_X5_partsOf S br c z hS C E z 0 (by omega)
set_option maxHeartbeats 4000000 in
set_option maxRecDepth 100000 in
theorem lp_X5_partsOfAll (S : Nat → Nat → Nat → Int32) (z : Nat) (hS : okS S z) {g : Nat → Nat → List xE → Nat → List (Option Value) → List Value → Prop} (C : Sem cX5_partsOfAll RX5 "partsOfAll" 3 rmX5_partsOfAll g) (E : xEi g cX5_partsOfAll .int 0 0 (fun vr wr => vr = some (.int (paS (S 2) z)) ∧ wr = wC S)) : ∀ (n : Nat) (k : Nat), k + n = z → g 0 0 (wC S) 4 [some (.ref 0), some (.int (paS (S 2) k)), some (.int (nI k))] [] := by
  intro n
  induction n with
  | zero =>
    intro k hk
    have hS6 := hS.2.1
    obtain rfl : k = z := by omega
    refine r_iload_n (pc := 4) C dX5_partsOfAll_4 rfl rfl ?_
    refine r_aload_n (pc := 5) C dX5_partsOfAll_5 rfl rfl ?_
    refine r_getfield (pc := 6) (v := .ref 20) C xf_X5_25 dX5_partsOfAll_6 rfl rfl ?_
    refine r_getfield (pc := 9) (v := .int ((S 2) 9 0)) C xf_X5_119 dX5_partsOfAll_9 rfl rfl ?_
    refine r_icmp_ge (pc := 12) (tgt := 37) C dX5_partsOfAll_12 (by decide) (fun _ => ?_) (fun h => absurd (by rw [hS.1]; exact nI_le (by omega) (by omega)) h)
    refine r_iload_n (pc := 37) C dX5_partsOfAll_37 rfl rfl ?_
    exact E _ _ _ _ _ _ dX5_partsOfAll_38 (Nat.le_refl _) (Nat.le_refl _) rfl ⟨rfl, rfl⟩
  | succ n ih =>
    intro k hk
    have hS6 := hS.2.1
    refine r_iload_n (pc := 4) C dX5_partsOfAll_4 rfl rfl ?_
    refine r_aload_n (pc := 5) C dX5_partsOfAll_5 rfl rfl ?_
    refine r_getfield (pc := 6) (v := .ref 20) C xf_X5_25 dX5_partsOfAll_6 rfl rfl ?_
    refine r_getfield (pc := 9) (v := .int ((S 2) 9 0)) C xf_X5_119 dX5_partsOfAll_9 rfl rfl ?_
    refine r_icmp_ge (pc := 12) (tgt := 37) C dX5_partsOfAll_12 (by decide) (fun h => absurd h (by rw [hS.1]; exact nI_ge (by omega) (by omega))) (fun _ => ?_)
    refine r_aload_n (pc := 15) C dX5_partsOfAll_15 rfl rfl ?_
    refine r_getfield (pc := 16) (v := .ref 20) C xf_X5_25 dX5_partsOfAll_16 rfl rfl ?_
    refine r_iload_n (pc := 19) C dX5_partsOfAll_19 rfl rfl ?_
    refine r_callVD (pc := 20) (b := 20) (As := [.int (nI k)]) (st := []) (θ2 := wC S) (r2 := some (.int (bB (cutS (S 2) k)))) C [20, 21, 22, 23, 24, 25] (c_X1_isCut (S 2) k (by omega)) xm_X1_isCut xk_X5_157 dX5_partsOfAll_20 rfl (by decide) rfl rfl rfl rfl rfl (Nat.le_of_ble_eq_true rfl) ⟨Nat.le_of_ble_eq_true rfl, Nat.le_of_ble_eq_true rfl⟩ ⟨rfl, rfl⟩ ⟨Nat.le_of_ble_eq_true rfl, Nat.le_of_ble_eq_true rfl⟩ rfl (Eq.trans (b := 6) rfl rfl) rfl rfl ?_
    show g 0 0 (wC S) 23 [some (.ref 0), some (.int (paS (S 2) k)), some (.int (nI k))] [.int (bB (cutS (S 2) k))]
    refine r_if_ne (pc := 23) (tgt := 31) C dX5_partsOfAll_23 (by decide) (fun h_23 => ?_) (fun h_23 => ?_)
    · replace h_23 := bB_t h_23
      refine r_iinc (pc := 31) (v := nI (k + 1)) (lv' := [some (.ref 0), some (.int (paS (S 2) k)), some (.int (nI (k + 1)))]) C dX5_partsOfAll_31 rfl (nI_1 k) trivial rfl ?_
      refine r_goto (pc := 34) (tgt := 4) C dX5_partsOfAll_34 (by decide) ?_
      show g 0 0 (wC S) 4 [some (.ref 0), some (.int (paS (S 2) k)), some (.int (nI (k + 1)))] []
      rw [show (paS (S 2) k : Int32) = paS (S 2) (k + 1) from by simp only [paS, h_23, if_true, if_false, Bool.false_eq_true]]
      exact ih (k + 1) (by omega)
    · replace h_23 := bB_f h_23
      refine r_iload_n (pc := 26) C dX5_partsOfAll_26 rfl rfl ?_
      refine r_bipush (pc := 27) (v := 10) C dX5_partsOfAll_27 (by decide) ?_
      refine r_imul (pc := 29) C dX5_partsOfAll_29 ?_
      refine r_istore_n (pc := 30) (lv' := [some (.ref 0), some (.int ((paS (S 2) k) * 10)), some (.int (nI k))]) C dX5_partsOfAll_30 rfl (Nat.le_of_ble_eq_true rfl) trivial rfl ?_
      refine r_iinc (pc := 31) (v := nI (k + 1)) (lv' := [some (.ref 0), some (.int ((paS (S 2) k) * 10)), some (.int (nI (k + 1)))]) C dX5_partsOfAll_31 rfl (nI_1 k) trivial rfl ?_
      refine r_goto (pc := 34) (tgt := 4) C dX5_partsOfAll_34 (by decide) ?_
      show g 0 0 (wC S) 4 [some (.ref 0), some (.int ((paS (S 2) k) * 10)), some (.int (nI (k + 1)))] []
      rw [show ((paS (S 2) k) * 10 : Int32) = paS (S 2) (k + 1) from by simp only [paS, h_23, if_true, if_false, Bool.false_eq_true]]
      exact ih (k + 1) (by omega)
set_option maxHeartbeats 4000000 in
set_option maxRecDepth 100000 in
theorem c_X5_partsOfAll (S : Nat → Nat → Nat → Int32) (z : Nat) (hS : okS S z) : MetA yX5_partsOfAll (.code yX5_partsOfAll cX5_partsOfAll 3 (some .int) :: TT) rmX5_partsOfAll [.ref 0] (wC S) (fun vr wr => vr = some (.int (paS (S 2) z)) ∧ wr = wC S) 0 0 := by
  refine MetA.of_i (by decide) (fun _ => Nat.le_of_ble_eq_true rfl) (Nat.le_of_ble_eq_true rfl) (fun g C E => ?_)
  replace C : Sem cX5_partsOfAll RX5 "partsOfAll" 3 rmX5_partsOfAll g := C
  show g 0 0 (wC S) 0 [some (.ref 0), none, none] []
  refine r_iconst (pc := 0) (v := 1) C dX5_partsOfAll_0 (by decide) ?_
  refine r_istore_n (pc := 1) (lv' := [some (.ref 0), some (.int 1), none]) C dX5_partsOfAll_1 rfl (Nat.le_of_ble_eq_true rfl) trivial rfl ?_
  refine r_iconst (pc := 2) (v := 0) C dX5_partsOfAll_2 (by decide) ?_
  refine r_istore_n (pc := 3) (lv' := [some (.ref 0), some (.int 1), some (.int 0)]) C dX5_partsOfAll_3 rfl (Nat.le_of_ble_eq_true rfl) trivial rfl ?_
  show g 0 0 (wC S) 4 [some (.ref 0), some (.int 1), some (.int 0)] []
  exact lp_X5_partsOfAll S z hS C E z 0 (by omega)
set_option maxHeartbeats 4000000 in
set_option maxRecDepth 100000 in
theorem lp_X5_commonDivisor (a b : Int32) {g : Nat → Nat → List xE → Nat → List (Option Value) → List Value → Prop} (C : Sem cX5_commonDivisor RX5 "commonDivisor" 6 rmX5_commonDivisor g) (E : xEi g cX5_commonDivisor .int 0 0 (fun vr wr => vr = some (.int (gcS 64 b a)) ∧ wr = [])) : ∀ (n : Nat) (k : Nat) (lg sm : Int32), k + n = 64 → gcS n lg sm = gcS 64 b a → g 0 0 ([]) 7 [some (.int a), some (.int b), some (.int lg), some (.int sm), some (.int (nI k)), none] [] := by
  intro n
  induction n with
  | zero =>
    intro k lg sm hk hE
    refine r_iload (pc := 7) C dX5_commonDivisor_7 rfl ?_
    refine r_bipush (pc := 9) (v := 64) C dX5_commonDivisor_9 (by decide) ?_
    refine r_icmp_ge (pc := 11) (tgt := 34) C dX5_commonDivisor_11 (by decide) (fun _ => ?_) (fun h => absurd (nI_le (a := 64) (by omega) (by omega)) h)
    refine r_iload_n (pc := 34) C dX5_commonDivisor_34 rfl rfl ?_
    exact E _ _ _ _ _ _ dX5_commonDivisor_35 (Nat.le_refl _) (Nat.le_refl _) rfl ⟨congrArg (fun z => some (Value.int z)) (by rw [← hE]; rfl), rfl⟩
  | succ n ih =>
    intro k lg sm hk hE
    refine r_iload (pc := 7) C dX5_commonDivisor_7 rfl ?_
    refine r_bipush (pc := 9) (v := 64) C dX5_commonDivisor_9 (by decide) ?_
    refine r_icmp_ge (pc := 11) (tgt := 34) C dX5_commonDivisor_11 (by decide) (fun h => absurd h (nI_ge (b := 64) (by omega) (by omega))) (fun _ => ?_)
    refine r_iload_n (pc := 14) C dX5_commonDivisor_14 rfl rfl ?_
    refine r_if_eq (pc := 15) (tgt := 34) C dX5_commonDivisor_15 (by decide) (fun h_15 => ?_) (fun h_15 => ?_)
    · skip
      refine r_iload_n (pc := 34) C dX5_commonDivisor_34 rfl rfl ?_
      exact E _ _ _ _ _ _ dX5_commonDivisor_35 (Nat.le_refl _) (Nat.le_refl _) rfl ⟨congrArg (fun z => some (Value.int z)) (by rw [← hE]; simp only [gcS, h_15, if_true]), rfl⟩
    · skip
      refine r_iload_n (pc := 18) C dX5_commonDivisor_18 rfl rfl ?_
      refine r_iload_n (pc := 19) C dX5_commonDivisor_19 rfl rfl ?_
      refine r_irem (pc := 20) C dX5_commonDivisor_20 h_15 ?_
      show g 0 0 ([]) 21 [some (.int a), some (.int b), some (.int lg), some (.int sm), some (.int (nI k)), none] [.int (rmI lg sm)]
      refine r_istore (pc := 21) (lv' := [some (.int a), some (.int b), some (.int lg), some (.int sm), some (.int (nI k)), some (.int (rmI lg sm))]) C dX5_commonDivisor_21 (Nat.le_of_ble_eq_true rfl) trivial rfl ?_
      refine r_iload_n (pc := 23) C dX5_commonDivisor_23 rfl rfl ?_
      refine r_istore_n (pc := 24) (lv' := [some (.int a), some (.int b), some (.int sm), some (.int sm), some (.int (nI k)), some (.int (rmI lg sm))]) C dX5_commonDivisor_24 rfl (Nat.le_of_ble_eq_true rfl) trivial rfl ?_
      refine r_iload (pc := 25) C dX5_commonDivisor_25 rfl ?_
      refine r_istore_n (pc := 27) (lv' := [some (.int a), some (.int b), some (.int sm), some (.int (rmI lg sm)), some (.int (nI k)), some (.int (rmI lg sm))]) C dX5_commonDivisor_27 rfl (Nat.le_of_ble_eq_true rfl) trivial rfl ?_
      refine r_iinc (pc := 28) (v := nI (k + 1)) (lv' := [some (.int a), some (.int b), some (.int sm), some (.int (rmI lg sm)), some (.int (nI (k + 1))), some (.int (rmI lg sm))]) C dX5_commonDivisor_28 rfl (nI_1 k) trivial rfl ?_
      refine r_goto (pc := 31) (tgt := 7) C dX5_commonDivisor_31 (by decide) ?_
      show g 0 0 ([]) 7 [some (.int a), some (.int b), some (.int sm), some (.int (rmI lg sm)), some (.int (nI (k + 1))), some (.int (rmI lg sm))] []
      refine r_drop (lv' := [some (.int a), some (.int b), some (.int sm), some (.int (rmI lg sm)), some (.int (nI (k + 1))), none]) C ⟨rfl, rfl, rfl, rfl, rfl, trivial⟩ ?_
      show g 0 0 ([]) 7 [some (.int a), some (.int b), some (.int sm), some (.int (rmI lg sm)), some (.int (nI (k + 1))), none] []
      exact ih (k + 1) _ _ (by omega) (by rw [← hE]; simp only [gcS, h_15, if_false])
set_option maxHeartbeats 4000000 in
set_option maxRecDepth 100000 in
theorem c_X5_commonDivisor (a b : Int32) : MetA yX5_commonDivisor (.code yX5_commonDivisor cX5_commonDivisor 6 (some .int) :: TT) rmX5_commonDivisor [.int a, .int b] ([]) (fun vr wr => vr = some (.int (gcS 64 b a)) ∧ wr = []) 0 0 := by
  refine MetA.of_i (by decide) (fun _ => Nat.le_of_ble_eq_true rfl) (Nat.le_of_ble_eq_true rfl) (fun g C E => ?_)
  replace C : Sem cX5_commonDivisor RX5 "commonDivisor" 6 rmX5_commonDivisor g := C
  show g 0 0 ([]) 0 [some (.int a), some (.int b), none, none, none, none] []
  refine r_iload_n (pc := 0) C dX5_commonDivisor_0 rfl rfl ?_
  refine r_istore_n (pc := 1) (lv' := [some (.int a), some (.int b), some (.int b), none, none, none]) C dX5_commonDivisor_1 rfl (Nat.le_of_ble_eq_true rfl) trivial rfl ?_
  refine r_iload_n (pc := 2) C dX5_commonDivisor_2 rfl rfl ?_
  refine r_istore_n (pc := 3) (lv' := [some (.int a), some (.int b), some (.int b), some (.int a), none, none]) C dX5_commonDivisor_3 rfl (Nat.le_of_ble_eq_true rfl) trivial rfl ?_
  refine r_iconst (pc := 4) (v := 0) C dX5_commonDivisor_4 (by decide) ?_
  refine r_istore (pc := 5) (lv' := [some (.int a), some (.int b), some (.int b), some (.int a), some (.int 0), none]) C dX5_commonDivisor_5 (Nat.le_of_ble_eq_true rfl) trivial rfl ?_
  show g 0 0 ([]) 7 [some (.int a), some (.int b), some (.int b), some (.int a), some (.int 0), none] []
  exact lp_X5_commonDivisor a b C E 64 0 b a (by omega) rfl
set_option maxHeartbeats 4000000 in
set_option maxRecDepth 100000 in
theorem lp_X5_breaks (S : Nat → Nat → Nat → Int32) (z : Nat) (hS : okS S z) (hO : S 7 3 0 = nI z) (ia ib jd : Nat) (hia : ia < z) (hib : ib < z) (hjd : jd ≤ 60) (c x : Int32) {g : Nat → Nat → List xE → Nat → List (Option Value) → List Value → Prop} (C : Sem cX5_breaks RX5 "breaks" 9 rmX5_breaks g) (kk : g 0 0 (wC S) 131 [some (.ref 0), some (.int (nI ia)), some (.int (nI ib)), some (.int (nI jd)), some (.int c), some (.int x), some (.int (brS S z ia ib jd c (2 ^ z))), some (.int (nI (2 ^ z))), none] []) : ∀ (n : Nat) (q : Nat), q + n = 2 ^ z → g 0 0 (wC S) 68 [some (.ref 0), some (.int (nI ia)), some (.int (nI ib)), some (.int (nI jd)), some (.int c), some (.int x), some (.int (brS S z ia ib jd c q)), some (.int (nI q)), none] [] := by
  intro n
  have hS6 := hS.2.1
  have hp64 := p2_64 hS6
  induction n with
  | zero =>
    intro q hq
    have hqz : q = 2 ^ z := by omega
    rw [hqz]
    refine r_iload (pc := 68) C dX5_breaks_68 rfl ?_
    refine r_iconst (pc := 70) (v := 1) C dX5_breaks_70 (by decide) ?_
    refine r_aload_n (pc := 71) C dX5_breaks_71 rfl rfl ?_
    refine r_getfield (pc := 72) (v := .ref 20) C xf_X5_25 dX5_breaks_72 rfl rfl ?_
    refine r_getfield (pc := 75) (v := .int ((S 2) 9 0)) C xf_X5_119 dX5_breaks_75 rfl rfl ?_
    refine r_ishl (pc := 78) C dX5_breaks_78 ?_
    refine r_icmp_ge (pc := 79) (tgt := 131) C dX5_breaks_79 (by decide) (fun _ => ?_) (fun h => absurd (by rw [hS.1, sh_pow hS6]; exact nI_le (by omega) (by omega)) h)
    show g 0 0 (wC S) 131 [some (.ref 0), some (.int (nI ia)), some (.int (nI ib)), some (.int (nI jd)), some (.int c), some (.int x), some (.int (brS S z ia ib jd c (2 ^ z))), some (.int (nI (2 ^ z))), none] []
    exact kk
  | succ n ih =>
    intro q hq
    refine r_iload (pc := 68) C dX5_breaks_68 rfl ?_
    refine r_iconst (pc := 70) (v := 1) C dX5_breaks_70 (by decide) ?_
    refine r_aload_n (pc := 71) C dX5_breaks_71 rfl rfl ?_
    refine r_getfield (pc := 72) (v := .ref 20) C xf_X5_25 dX5_breaks_72 rfl rfl ?_
    refine r_getfield (pc := 75) (v := .int ((S 2) 9 0)) C xf_X5_119 dX5_breaks_75 rfl rfl ?_
    refine r_ishl (pc := 78) C dX5_breaks_78 ?_
    refine r_icmp_ge (pc := 79) (tgt := 131) C dX5_breaks_79 (by decide) (fun h => absurd h (by rw [hS.1, sh_pow hS6]; exact nI_ge (by omega) (by omega))) (fun _ => ?_)
    refine r_iload (pc := 82) C dX5_breaks_82 rfl ?_
    refine r_aload_n (pc := 84) C dX5_breaks_84 rfl rfl ?_
    refine r_getfield (pc := 85) (v := .ref 20) C xf_X5_25 dX5_breaks_85 rfl rfl ?_
    refine r_getfield (pc := 88) (v := .int ((S 2) 10 0)) C xf_X5_160 dX5_breaks_88 rfl rfl ?_
    refine r_iand (pc := 91) C dX5_breaks_91 ?_
    refine r_if_ne (pc := 92) (tgt := 125) C dX5_breaks_92 (by decide) (fun h_92 => ?_) (fun h_92 => ?_)
    · skip
      refine r_iinc (pc := 125) (v := nI (q + 1)) (lv' := [some (.ref 0), some (.int (nI ia)), some (.int (nI ib)), some (.int (nI jd)), some (.int c), some (.int x), some (.int (brS S z ia ib jd c q)), some (.int (nI (q + 1))), none]) C dX5_breaks_125 rfl (nI_1 q) trivial rfl ?_
      refine r_goto (pc := 128) (tgt := 68) C dX5_breaks_128 (by decide) ?_
      show g 0 0 (wC S) 68 [some (.ref 0), some (.int (nI ia)), some (.int (nI ib)), some (.int (nI jd)), some (.int c), some (.int x), some (.int (brS S z ia ib jd c q)), some (.int (nI (q + 1))), none] []
      rw [show (brS S z ia ib jd c q : Int32) = brS S z ia ib jd c (q + 1) from by simp only [brS, h_92, if_true, if_false]]
      exact ih (q + 1) (by omega)
    · skip
      refine r_aload_n (pc := 95) C dX5_breaks_95 rfl rfl ?_
      refine r_getfield (pc := 96) (v := .ref 50) C xf_X5_46 dX5_breaks_96 rfl rfl ?_
      refine r_iload_n (pc := 99) C dX5_breaks_99 rfl rfl ?_
      refine r_iload_n (pc := 100) C dX5_breaks_100 rfl rfl ?_
      refine r_iload_n (pc := 101) C dX5_breaks_101 rfl rfl ?_
      refine r_iload (pc := 102) C dX5_breaks_102 rfl ?_
      refine r_callVD (pc := 104) (b := 50) (As := [.int (nI ia), .int (nI ib), .int (nI jd), .int (nI q)]) (st := []) (θ2 := wC S) (r2 := some (.int (arrT ((S 7) 1) z (nI ia) (nI ib) jd (nI q)))) C [50, 51, 52, 53] (c_X2_arrivalT (S 7) (nI ia) (nI ib) jd (by omega) (nI q) z hO hS.2.1) xm_X2_arrival xk_X5_192 dX5_breaks_104 rfl (by decide) rfl rfl rfl rfl rfl (Nat.le_of_ble_eq_true rfl) ⟨Nat.le_of_ble_eq_true rfl, Nat.le_of_ble_eq_true rfl⟩ ⟨rfl, rfl⟩ ⟨Nat.le_of_ble_eq_true rfl, Nat.le_of_ble_eq_true rfl⟩ rfl (Eq.trans (b := 4) rfl rfl) rfl rfl ?_
      show g 0 0 (wC S) 107 [some (.ref 0), some (.int (nI ia)), some (.int (nI ib)), some (.int (nI jd)), some (.int c), some (.int x), some (.int (brS S z ia ib jd c q)), some (.int (nI q)), none] [.int (arrT ((S 7) 1) z (nI ia) (nI ib) jd (nI q))]
      refine r_ldc (pc := 107) (v := (-1000000)) C dX5_breaks_107 tw_426 ?_
      refine r_icmp_eq (pc := 109) (tgt := 125) C dX5_breaks_109 (by decide) (fun h_109 => ?_) (fun h_109 => ?_)
      · skip
        refine r_iinc (pc := 125) (v := nI (q + 1)) (lv' := [some (.ref 0), some (.int (nI ia)), some (.int (nI ib)), some (.int (nI jd)), some (.int c), some (.int x), some (.int (brS S z ia ib jd c q)), some (.int (nI (q + 1))), none]) C dX5_breaks_125 rfl (nI_1 q) trivial rfl ?_
        refine r_goto (pc := 128) (tgt := 68) C dX5_breaks_128 (by decide) ?_
        show g 0 0 (wC S) 68 [some (.ref 0), some (.int (nI ia)), some (.int (nI ib)), some (.int (nI jd)), some (.int c), some (.int x), some (.int (brS S z ia ib jd c q)), some (.int (nI (q + 1))), none] []
        rw [show (brS S z ia ib jd c q : Int32) = brS S z ia ib jd c (q + 1) from by simp only [brS, h_92, h_109, if_true, if_false]]
        exact ih (q + 1) (by omega)
      · skip
        refine r_iload (pc := 112) C dX5_breaks_112 rfl ?_
        refine r_aload_n (pc := 114) C dX5_breaks_114 rfl rfl ?_
        refine r_iload (pc := 115) C dX5_breaks_115 rfl ?_
        refine r_iload (pc := 117) C dX5_breaks_117 rfl ?_
        refine r_callV0 (pc := 119) (As := [.int (nI q), .int c]) (st := [.int (brS S z ia ib jd c q)]) (θ' := wC S) C (c_X5_partsOf S (nI q) c z hS) xm_X5_partsOf xk_X5_216 dX5_breaks_119 rfl rfl rfl rfl (Nat.le_of_ble_eq_true rfl) ⟨Nat.le_of_ble_eq_true rfl, Nat.le_of_ble_eq_true rfl⟩ ⟨rfl, rfl⟩ ⟨Nat.le_of_ble_eq_true rfl, Nat.le_of_ble_eq_true rfl⟩ rfl (Eq.trans (b := 55) rfl rfl) ?_
        show g 0 0 (wC S) 122 [some (.ref 0), some (.int (nI ia)), some (.int (nI ib)), some (.int (nI jd)), some (.int c), some (.int x), some (.int (brS S z ia ib jd c q)), some (.int (nI q)), none] [.int (prS (S 2) (nI q) c z), .int (brS S z ia ib jd c q)]
        refine r_iadd (pc := 122) C dX5_breaks_122 ?_
        refine r_istore (pc := 123) (lv' := [some (.ref 0), some (.int (nI ia)), some (.int (nI ib)), some (.int (nI jd)), some (.int c), some (.int x), some (.int ((brS S z ia ib jd c q) + (prS (S 2) (nI q) c z))), some (.int (nI q)), none]) C dX5_breaks_123 (Nat.le_of_ble_eq_true rfl) trivial rfl ?_
        refine r_iinc (pc := 125) (v := nI (q + 1)) (lv' := [some (.ref 0), some (.int (nI ia)), some (.int (nI ib)), some (.int (nI jd)), some (.int c), some (.int x), some (.int ((brS S z ia ib jd c q) + (prS (S 2) (nI q) c z))), some (.int (nI (q + 1))), none]) C dX5_breaks_125 rfl (nI_1 q) trivial rfl ?_
        refine r_goto (pc := 128) (tgt := 68) C dX5_breaks_128 (by decide) ?_
        show g 0 0 (wC S) 68 [some (.ref 0), some (.int (nI ia)), some (.int (nI ib)), some (.int (nI jd)), some (.int c), some (.int x), some (.int ((brS S z ia ib jd c q) + (prS (S 2) (nI q) c z))), some (.int (nI (q + 1))), none] []
        rw [show ((brS S z ia ib jd c q) + (prS (S 2) (nI q) c z) : Int32) = brS S z ia ib jd c (q + 1) from by simp only [brS, h_92, h_109, if_true, if_false]]
        exact ih (q + 1) (by omega)
noncomputable def breaksC (S : Nat → Nat → Nat → Int32) (z : Nat) (a b d c x : Int32) : Int32 × (Nat → Nat → Nat → Int32) := (if (belS a ((S 2) 9 0)) = true then (if (belS b ((S 2) 9 0)) = true then (if (ahB d) = true then (if c < 0 then ((-1000001), S) else (if 10 < c then ((-1000001), S) else (if (belS x 2) = true then (if 0 < (gcS 64 (paS ((up3 S 7 (frT (S 7) (S 2) z (ix d))) 2) z) (brS (up3 S 7 (frT (S 7) (S 2) z (ix d))) z (ix a) (ix b) (ix d) c (2 ^ z))) then (if x = 0 then ((brS (up3 S 7 (frT (S 7) (S 2) z (ix d))) z (ix a) (ix b) (ix d) c (2 ^ z)) / (gcS 64 (paS ((up3 S 7 (frT (S 7) (S 2) z (ix d))) 2) z) (brS (up3 S 7 (frT (S 7) (S 2) z (ix d))) z (ix a) (ix b) (ix d) c (2 ^ z))), (up3 S 7 (frT (S 7) (S 2) z (ix d)))) else ((paS ((up3 S 7 (frT (S 7) (S 2) z (ix d))) 2) z) / (gcS 64 (paS ((up3 S 7 (frT (S 7) (S 2) z (ix d))) 2) z) (brS (up3 S 7 (frT (S 7) (S 2) z (ix d))) z (ix a) (ix b) (ix d) c (2 ^ z))), (up3 S 7 (frT (S 7) (S 2) z (ix d))))) else ((-1000001), (up3 S 7 (frT (S 7) (S 2) z (ix d))))) else ((-1000001), S)))) else ((-1000001), S)) else ((-1000001), S)) else ((-1000001), S))
set_option maxHeartbeats 4000000 in
set_option maxRecDepth 100000 in
theorem c_X5_breaks (S : Nat → Nat → Nat → Int32) (a b d c x : Int32) (z : Nat) (hS : okS S z) : MetA yX5_breaks (.code yX5_breaks cX5_breaks 9 (some .int) :: TT) rmX5_breaks [.ref 0, .int a, .int b, .int d, .int c, .int x] (wC S) (fun vr wr => vr = some (.int (breaksC S z a b d c x).1) ∧ wr = wC (breaksC S z a b d c x).2) 0 0 := by
  refine MetA.of_i (by decide) (fun _ => Nat.le_of_ble_eq_true rfl) (Nat.le_of_ble_eq_true rfl) (fun g C E => ?_)
  replace C : Sem cX5_breaks RX5 "breaks" 9 rmX5_breaks g := C
  show g 0 0 (wC S) 0 [some (.ref 0), some (.int a), some (.int b), some (.int d), some (.int c), some (.int x), none, none, none] []
  refine r_aload_n (pc := 0) C dX5_breaks_0 rfl rfl ?_
  refine r_iload_n (pc := 1) C dX5_breaks_1 rfl rfl ?_
  refine r_callV0 (pc := 2) (As := [.int a]) (st := []) (θ' := wC S) C (c_X5_isHammock S a) xm_X5_isHammock xk_X5_138 dX5_breaks_2 rfl rfl rfl rfl (Nat.le_of_ble_eq_true rfl) ⟨Nat.le_of_ble_eq_true rfl, Nat.le_of_ble_eq_true rfl⟩ ⟨rfl, rfl⟩ ⟨Nat.le_of_ble_eq_true rfl, Nat.le_of_ble_eq_true rfl⟩ rfl (Eq.trans (b := 55) rfl rfl) ?_
  show g 0 0 (wC S) 5 [some (.ref 0), some (.int a), some (.int b), some (.int d), some (.int c), some (.int x), none, none, none] [.int (bB (belS a ((S 2) 9 0)))]
  refine r_if_eq (pc := 5) (tgt := 23) C dX5_breaks_5 (by decide) (fun h_5 => ?_) (fun h_5 => ?_)
  · replace h_5 := bB_f h_5
    refine r_ldc (pc := 23) (v := (-1000001)) C dX5_breaks_23 tw_216 ?_
    show g 0 0 (wC S) 25 [some (.ref 0), some (.int a), some (.int b), some (.int d), some (.int c), some (.int x), none, none, none] [.int (-1000001)]
    have hX : breaksC S z a b d c x = ((-1000001), S) := by
      unfold breaksC
      rw [if_neg (nbt h_5)]
    exact E _ _ _ _ _ _ dX5_breaks_25 (Nat.le_refl _) (Nat.le_refl _) rfl ⟨by rw [hX], by rw [hX]⟩
  · replace h_5 := bB_t h_5
    obtain ⟨ia, hia, rfl⟩ := bel_ex hS.1 (by have := hS.2.1; omega) h_5
    have hia6 : ia < 6 := by have := hS.2.1; omega
    refine r_aload_n (pc := 8) C dX5_breaks_8 rfl rfl ?_
    refine r_iload_n (pc := 9) C dX5_breaks_9 rfl rfl ?_
    refine r_callV0 (pc := 10) (As := [.int b]) (st := []) (θ' := wC S) C (c_X5_isHammock S b) xm_X5_isHammock xk_X5_138 dX5_breaks_10 rfl rfl rfl rfl (Nat.le_of_ble_eq_true rfl) ⟨Nat.le_of_ble_eq_true rfl, Nat.le_of_ble_eq_true rfl⟩ ⟨rfl, rfl⟩ ⟨Nat.le_of_ble_eq_true rfl, Nat.le_of_ble_eq_true rfl⟩ rfl (Eq.trans (b := 55) rfl rfl) ?_
    show g 0 0 (wC S) 13 [some (.ref 0), some (.int (nI ia)), some (.int b), some (.int d), some (.int c), some (.int x), none, none, none] [.int (bB (belS b ((S 2) 9 0)))]
    refine r_if_eq (pc := 13) (tgt := 23) C dX5_breaks_13 (by decide) (fun h_13 => ?_) (fun h_13 => ?_)
    · replace h_13 := bB_f h_13
      refine r_ldc (pc := 23) (v := (-1000001)) C dX5_breaks_23 tw_216 ?_
      show g 0 0 (wC S) 25 [some (.ref 0), some (.int (nI ia)), some (.int b), some (.int d), some (.int c), some (.int x), none, none, none] [.int (-1000001)]
      have hX : breaksC S z (nI ia) b d c x = ((-1000001), S) := by
        unfold breaksC
        (try rw [ix_nI (show ia < 2 ^ 31 by omega)])
        rw [if_pos h_5, if_neg (nbt h_13)]
      exact E _ _ _ _ _ _ dX5_breaks_25 (Nat.le_refl _) (Nat.le_refl _) rfl ⟨by rw [hX], by rw [hX]⟩
    · replace h_13 := bB_t h_13
      obtain ⟨ib, hib, rfl⟩ := bel_ex hS.1 (by have := hS.2.1; omega) h_13
      have hib6 : ib < 6 := by have := hS.2.1; omega
      refine r_iload_n (pc := 16) C dX5_breaks_16 rfl rfl ?_
      refine r_callS0 (pc := 17) (As := [.int d]) (st := []) C (c_X5_isAhead d) xm_X5_isAhead xk_X5_172 dX5_breaks_17 (fun _ => rfl) (fun _ => rfl) rfl rfl (Nat.le_of_ble_eq_true rfl) ⟨Nat.le_of_ble_eq_true rfl, Nat.le_of_ble_eq_true rfl⟩ ⟨rfl, rfl⟩ ⟨Nat.le_of_ble_eq_true rfl, Nat.le_of_ble_eq_true rfl⟩ rfl ?_
      show g 0 0 (wC S) 20 [some (.ref 0), some (.int (nI ia)), some (.int (nI ib)), some (.int d), some (.int c), some (.int x), none, none, none] [.int (bB (ahB d))]
      refine r_if_ne (pc := 20) (tgt := 26) C dX5_breaks_20 (by decide) (fun h_20 => ?_) (fun h_20 => ?_)
      · replace h_20 := bB_t h_20
        obtain ⟨jd, hjd, rfl⟩ := ah_ex h_20
        refine r_iload (pc := 26) C dX5_breaks_26 rfl ?_
        refine r_if_lt (pc := 28) (tgt := 47) C dX5_breaks_28 (by decide) (fun h_28 => ?_) (fun h_28 => ?_)
        · skip
          refine r_ldc (pc := 47) (v := (-1000001)) C dX5_breaks_47 tw_216 ?_
          show g 0 0 (wC S) 49 [some (.ref 0), some (.int (nI ia)), some (.int (nI ib)), some (.int (nI jd)), some (.int c), some (.int x), none, none, none] [.int (-1000001)]
          have hX : breaksC S z (nI ia) (nI ib) (nI jd) c x = ((-1000001), S) := by
            unfold breaksC
            (try rw [ix_nI (show ia < 2 ^ 31 by omega)])
            (try rw [ix_nI (show ib < 2 ^ 31 by omega)])
            (try rw [ix_nI (show jd < 2 ^ 31 by omega)])
            rw [if_pos h_5, if_pos h_13, if_pos h_20, if_pos h_28]
          exact E _ _ _ _ _ _ dX5_breaks_49 (Nat.le_refl _) (Nat.le_refl _) rfl ⟨by rw [hX], by rw [hX]⟩
        · skip
          refine r_iload (pc := 31) C dX5_breaks_31 rfl ?_
          refine r_bipush (pc := 33) (v := 10) C dX5_breaks_33 (by decide) ?_
          refine r_icmp_gt (pc := 35) (tgt := 47) C dX5_breaks_35 (by decide) (fun h_35 => ?_) (fun h_35 => ?_)
          · skip
            refine r_ldc (pc := 47) (v := (-1000001)) C dX5_breaks_47 tw_216 ?_
            show g 0 0 (wC S) 49 [some (.ref 0), some (.int (nI ia)), some (.int (nI ib)), some (.int (nI jd)), some (.int c), some (.int x), none, none, none] [.int (-1000001)]
            have hX : breaksC S z (nI ia) (nI ib) (nI jd) c x = ((-1000001), S) := by
              unfold breaksC
              (try rw [ix_nI (show ia < 2 ^ 31 by omega)])
              (try rw [ix_nI (show ib < 2 ^ 31 by omega)])
              (try rw [ix_nI (show jd < 2 ^ 31 by omega)])
              rw [if_pos h_5, if_pos h_13, if_pos h_20, if_neg h_28, if_pos h_35]
            exact E _ _ _ _ _ _ dX5_breaks_49 (Nat.le_refl _) (Nat.le_refl _) rfl ⟨by rw [hX], by rw [hX]⟩
          · skip
            refine r_iload (pc := 38) C dX5_breaks_38 rfl ?_
            refine r_iconst (pc := 40) (v := 2) C dX5_breaks_40 (by decide) ?_
            refine r_callS0 (pc := 41) (As := [.int x, .int 2]) (st := []) C (c_X5_isBelow x 2) xm_X5_isBelow xk_X5_59 dX5_breaks_41 (fun _ => rfl) (fun _ => rfl) rfl rfl (Nat.le_of_ble_eq_true rfl) ⟨Nat.le_of_ble_eq_true rfl, Nat.le_of_ble_eq_true rfl⟩ ⟨rfl, rfl⟩ ⟨Nat.le_of_ble_eq_true rfl, Nat.le_of_ble_eq_true rfl⟩ rfl ?_
            show g 0 0 (wC S) 44 [some (.ref 0), some (.int (nI ia)), some (.int (nI ib)), some (.int (nI jd)), some (.int c), some (.int x), none, none, none] [.int (bB (belS x 2))]
            refine r_if_ne (pc := 44) (tgt := 50) C dX5_breaks_44 (by decide) (fun h_44 => ?_) (fun h_44 => ?_)
            · replace h_44 := bB_t h_44
              refine r_aload_n (pc := 50) C dX5_breaks_50 rfl rfl ?_
              refine r_getfield (pc := 51) (v := .ref 50) C xf_X5_46 dX5_breaks_51 rfl rfl ?_
              refine r_aload_n (pc := 54) C dX5_breaks_54 rfl rfl ?_
              refine r_getfield (pc := 55) (v := .ref 20) C xf_X5_25 dX5_breaks_55 rfl rfl ?_
              refine r_iload_n (pc := 58) C dX5_breaks_58 rfl rfl ?_
              refine r_callVD (pc := 59) (b := 50) (As := [.ref 20, .int (nI jd)]) (st := []) (θ2 := wC (up3 S 7 (frT (S 7) (S 2) z jd))) (r2 := none) C [50, 51, 52, 53, 20, 21, 22, 23, 24, 25] (c_X2_foreseeT (S 7) (S 2) jd (by omega) hS.2.2 z hS.1 hS.2.1) xm_X2_foresee xk_X5_188 dX5_breaks_59 rfl (by decide) rfl rfl rfl rfl rfl (Nat.le_of_ble_eq_true rfl) ⟨Nat.le_of_ble_eq_true rfl, Nat.le_of_ble_eq_true rfl⟩ ⟨rfl, rfl⟩ ⟨Nat.le_of_ble_eq_true rfl, Nat.le_of_ble_eq_true rfl⟩ rfl (Eq.trans (b := 10) rfl rfl) rfl rfl ?_
              show g 0 0 (wC (up3 S 7 (frT (S 7) (S 2) z jd))) 62 [some (.ref 0), some (.int (nI ia)), some (.int (nI ib)), some (.int (nI jd)), some (.int c), some (.int x), none, none, none] []
              refine r_iconst (pc := 62) (v := 0) C dX5_breaks_62 (by decide) ?_
              refine r_istore (pc := 63) (lv' := [some (.ref 0), some (.int (nI ia)), some (.int (nI ib)), some (.int (nI jd)), some (.int c), some (.int x), some (.int 0), none, none]) C dX5_breaks_63 (Nat.le_of_ble_eq_true rfl) trivial rfl ?_
              refine r_iconst (pc := 65) (v := 0) C dX5_breaks_65 (by decide) ?_
              refine r_istore (pc := 66) (lv' := [some (.ref 0), some (.int (nI ia)), some (.int (nI ib)), some (.int (nI jd)), some (.int c), some (.int x), some (.int 0), some (.int 0), none]) C dX5_breaks_66 (Nat.le_of_ble_eq_true rfl) trivial rfl ?_
              have hS6 := hS.2.1
              show g 0 0 (wC (up3 S 7 (frT (S 7) (S 2) z jd))) 68 [some (.ref 0), some (.int (nI ia)), some (.int (nI ib)), some (.int (nI jd)), some (.int c), some (.int x), some (.int 0), some (.int 0), none] []
              refine lp_X5_breaks (up3 S 7 (frT (S 7) (S 2) z jd)) z hS (frT_z _ _ _ _) ia ib jd hia hib hjd c x C ?_ (2 ^ z) 0 (by omega)
              show g 0 0 (wC (up3 S 7 (frT (S 7) (S 2) z jd))) 131 [some (.ref 0), some (.int (nI ia)), some (.int (nI ib)), some (.int (nI jd)), some (.int c), some (.int x), some (.int (brS (up3 S 7 (frT (S 7) (S 2) z jd)) z ia ib jd c (2 ^ z))), some (.int (nI (2 ^ z))), none] []
              refine r_aload_n (pc := 131) C dX5_breaks_131 rfl rfl ?_
              refine r_callV0 (pc := 132) (As := []) (st := []) (θ' := wC (up3 S 7 (frT (S 7) (S 2) z jd))) C (c_X5_partsOfAll (up3 S 7 (frT (S 7) (S 2) z jd)) z hS) xm_X5_partsOfAll xk_X5_219 dX5_breaks_132 rfl rfl rfl rfl (Nat.le_of_ble_eq_true rfl) ⟨Nat.le_of_ble_eq_true rfl, Nat.le_of_ble_eq_true rfl⟩ ⟨rfl, rfl⟩ ⟨Nat.le_of_ble_eq_true rfl, Nat.le_of_ble_eq_true rfl⟩ rfl (Eq.trans (b := 55) rfl rfl) ?_
              show g 0 0 (wC (up3 S 7 (frT (S 7) (S 2) z jd))) 135 [some (.ref 0), some (.int (nI ia)), some (.int (nI ib)), some (.int (nI jd)), some (.int c), some (.int x), some (.int (brS (up3 S 7 (frT (S 7) (S 2) z jd)) z ia ib jd c (2 ^ z))), some (.int (nI (2 ^ z))), none] [.int (paS ((up3 S 7 (frT (S 7) (S 2) z jd)) 2) z)]
              refine r_istore (pc := 135) (lv' := [some (.ref 0), some (.int (nI ia)), some (.int (nI ib)), some (.int (nI jd)), some (.int c), some (.int x), some (.int (brS (up3 S 7 (frT (S 7) (S 2) z jd)) z ia ib jd c (2 ^ z))), some (.int (paS ((up3 S 7 (frT (S 7) (S 2) z jd)) 2) z)), none]) C dX5_breaks_135 (Nat.le_of_ble_eq_true rfl) trivial rfl ?_
              refine r_iload (pc := 137) C dX5_breaks_137 rfl ?_
              refine r_iload (pc := 139) C dX5_breaks_139 rfl ?_
              refine r_callS0 (pc := 141) (As := [.int (brS (up3 S 7 (frT (S 7) (S 2) z jd)) z ia ib jd c (2 ^ z)), .int (paS ((up3 S 7 (frT (S 7) (S 2) z jd)) 2) z)]) (st := []) C (c_X5_commonDivisor (brS (up3 S 7 (frT (S 7) (S 2) z jd)) z ia ib jd c (2 ^ z)) (paS ((up3 S 7 (frT (S 7) (S 2) z jd)) 2) z)) xm_X5_commonDivisor xk_X5_223 dX5_breaks_141 (fun _ => rfl) (fun _ => rfl) rfl rfl (Nat.le_of_ble_eq_true rfl) ⟨Nat.le_of_ble_eq_true rfl, Nat.le_of_ble_eq_true rfl⟩ ⟨rfl, rfl⟩ ⟨Nat.le_of_ble_eq_true rfl, Nat.le_of_ble_eq_true rfl⟩ rfl ?_
              show g 0 0 (wC (up3 S 7 (frT (S 7) (S 2) z jd))) 144 [some (.ref 0), some (.int (nI ia)), some (.int (nI ib)), some (.int (nI jd)), some (.int c), some (.int x), some (.int (brS (up3 S 7 (frT (S 7) (S 2) z jd)) z ia ib jd c (2 ^ z))), some (.int (paS ((up3 S 7 (frT (S 7) (S 2) z jd)) 2) z)), none] [.int (gcS 64 (paS ((up3 S 7 (frT (S 7) (S 2) z jd)) 2) z) (brS (up3 S 7 (frT (S 7) (S 2) z jd)) z ia ib jd c (2 ^ z)))]
              refine r_istore (pc := 144) (lv' := [some (.ref 0), some (.int (nI ia)), some (.int (nI ib)), some (.int (nI jd)), some (.int c), some (.int x), some (.int (brS (up3 S 7 (frT (S 7) (S 2) z jd)) z ia ib jd c (2 ^ z))), some (.int (paS ((up3 S 7 (frT (S 7) (S 2) z jd)) 2) z)), some (.int (gcS 64 (paS ((up3 S 7 (frT (S 7) (S 2) z jd)) 2) z) (brS (up3 S 7 (frT (S 7) (S 2) z jd)) z ia ib jd c (2 ^ z))))]) C dX5_breaks_144 (Nat.le_of_ble_eq_true rfl) trivial rfl ?_
              refine r_iload (pc := 146) C dX5_breaks_146 rfl ?_
              refine r_if_gt (pc := 148) (tgt := 154) C dX5_breaks_148 (by decide) (fun h_148 => ?_) (fun h_148 => ?_)
              · skip
                refine r_iload (pc := 154) C dX5_breaks_154 rfl ?_
                refine r_if_ne (pc := 156) (tgt := 167) C dX5_breaks_156 (by decide) (fun h_156 => ?_) (fun h_156 => ?_)
                · skip
                  refine r_iload (pc := 167) C dX5_breaks_167 rfl ?_
                  refine r_iload (pc := 169) C dX5_breaks_169 rfl ?_
                  refine r_idiv (pc := 171) C dX5_breaks_171 (fun e => absurd h_148 (by rw [e]; decide)) ?_
                  show g 0 0 (wC (up3 S 7 (frT (S 7) (S 2) z jd))) 172 [some (.ref 0), some (.int (nI ia)), some (.int (nI ib)), some (.int (nI jd)), some (.int c), some (.int x), some (.int (brS (up3 S 7 (frT (S 7) (S 2) z jd)) z ia ib jd c (2 ^ z))), some (.int (paS ((up3 S 7 (frT (S 7) (S 2) z jd)) 2) z)), some (.int (gcS 64 (paS ((up3 S 7 (frT (S 7) (S 2) z jd)) 2) z) (brS (up3 S 7 (frT (S 7) (S 2) z jd)) z ia ib jd c (2 ^ z))))] [.int ((paS ((up3 S 7 (frT (S 7) (S 2) z jd)) 2) z) / (gcS 64 (paS ((up3 S 7 (frT (S 7) (S 2) z jd)) 2) z) (brS (up3 S 7 (frT (S 7) (S 2) z jd)) z ia ib jd c (2 ^ z))))]
                  have hX : breaksC S z (nI ia) (nI ib) (nI jd) c x = ((paS ((up3 S 7 (frT (S 7) (S 2) z jd)) 2) z) / (gcS 64 (paS ((up3 S 7 (frT (S 7) (S 2) z jd)) 2) z) (brS (up3 S 7 (frT (S 7) (S 2) z jd)) z ia ib jd c (2 ^ z))), (up3 S 7 (frT (S 7) (S 2) z jd))) := by
                    unfold breaksC
                    (try rw [ix_nI (show ia < 2 ^ 31 by omega)])
                    (try rw [ix_nI (show ib < 2 ^ 31 by omega)])
                    (try rw [ix_nI (show jd < 2 ^ 31 by omega)])
                    rw [if_pos h_5, if_pos h_13, if_pos h_20, if_neg h_28, if_neg h_35, if_pos h_44, if_pos h_148, if_neg h_156]
                  exact E _ _ _ _ _ _ dX5_breaks_172 (Nat.le_refl _) (Nat.le_refl _) rfl ⟨by rw [hX], by rw [hX]⟩
                · skip
                  refine r_iload (pc := 159) C dX5_breaks_159 rfl ?_
                  refine r_iload (pc := 161) C dX5_breaks_161 rfl ?_
                  refine r_idiv (pc := 163) C dX5_breaks_163 (fun e => absurd h_148 (by rw [e]; decide)) ?_
                  refine r_goto (pc := 164) (tgt := 172) C dX5_breaks_164 (by decide) ?_
                  show g 0 0 (wC (up3 S 7 (frT (S 7) (S 2) z jd))) 172 [some (.ref 0), some (.int (nI ia)), some (.int (nI ib)), some (.int (nI jd)), some (.int c), some (.int x), some (.int (brS (up3 S 7 (frT (S 7) (S 2) z jd)) z ia ib jd c (2 ^ z))), some (.int (paS ((up3 S 7 (frT (S 7) (S 2) z jd)) 2) z)), some (.int (gcS 64 (paS ((up3 S 7 (frT (S 7) (S 2) z jd)) 2) z) (brS (up3 S 7 (frT (S 7) (S 2) z jd)) z ia ib jd c (2 ^ z))))] [.int ((brS (up3 S 7 (frT (S 7) (S 2) z jd)) z ia ib jd c (2 ^ z)) / (gcS 64 (paS ((up3 S 7 (frT (S 7) (S 2) z jd)) 2) z) (brS (up3 S 7 (frT (S 7) (S 2) z jd)) z ia ib jd c (2 ^ z))))]
                  have hX : breaksC S z (nI ia) (nI ib) (nI jd) c x = ((brS (up3 S 7 (frT (S 7) (S 2) z jd)) z ia ib jd c (2 ^ z)) / (gcS 64 (paS ((up3 S 7 (frT (S 7) (S 2) z jd)) 2) z) (brS (up3 S 7 (frT (S 7) (S 2) z jd)) z ia ib jd c (2 ^ z))), (up3 S 7 (frT (S 7) (S 2) z jd))) := by
                    unfold breaksC
                    (try rw [ix_nI (show ia < 2 ^ 31 by omega)])
                    (try rw [ix_nI (show ib < 2 ^ 31 by omega)])
                    (try rw [ix_nI (show jd < 2 ^ 31 by omega)])
                    rw [if_pos h_5, if_pos h_13, if_pos h_20, if_neg h_28, if_neg h_35, if_pos h_44, if_pos h_148, if_pos h_156]
                  exact E _ _ _ _ _ _ dX5_breaks_172 (Nat.le_refl _) (Nat.le_refl _) rfl ⟨by rw [hX], by rw [hX]⟩
              · skip
                refine r_ldc (pc := 151) (v := (-1000001)) C dX5_breaks_151 tw_216 ?_
                show g 0 0 (wC (up3 S 7 (frT (S 7) (S 2) z jd))) 153 [some (.ref 0), some (.int (nI ia)), some (.int (nI ib)), some (.int (nI jd)), some (.int c), some (.int x), some (.int (brS (up3 S 7 (frT (S 7) (S 2) z jd)) z ia ib jd c (2 ^ z))), some (.int (paS ((up3 S 7 (frT (S 7) (S 2) z jd)) 2) z)), some (.int (gcS 64 (paS ((up3 S 7 (frT (S 7) (S 2) z jd)) 2) z) (brS (up3 S 7 (frT (S 7) (S 2) z jd)) z ia ib jd c (2 ^ z))))] [.int (-1000001)]
                have hX : breaksC S z (nI ia) (nI ib) (nI jd) c x = ((-1000001), (up3 S 7 (frT (S 7) (S 2) z jd))) := by
                  unfold breaksC
                  (try rw [ix_nI (show ia < 2 ^ 31 by omega)])
                  (try rw [ix_nI (show ib < 2 ^ 31 by omega)])
                  (try rw [ix_nI (show jd < 2 ^ 31 by omega)])
                  rw [if_pos h_5, if_pos h_13, if_pos h_20, if_neg h_28, if_neg h_35, if_pos h_44, if_neg h_148]
                exact E _ _ _ _ _ _ dX5_breaks_153 (Nat.le_refl _) (Nat.le_refl _) rfl ⟨by rw [hX], by rw [hX]⟩
            · replace h_44 := bB_f h_44
              refine r_ldc (pc := 47) (v := (-1000001)) C dX5_breaks_47 tw_216 ?_
              show g 0 0 (wC S) 49 [some (.ref 0), some (.int (nI ia)), some (.int (nI ib)), some (.int (nI jd)), some (.int c), some (.int x), none, none, none] [.int (-1000001)]
              have hX : breaksC S z (nI ia) (nI ib) (nI jd) c x = ((-1000001), S) := by
                unfold breaksC
                (try rw [ix_nI (show ia < 2 ^ 31 by omega)])
                (try rw [ix_nI (show ib < 2 ^ 31 by omega)])
                (try rw [ix_nI (show jd < 2 ^ 31 by omega)])
                rw [if_pos h_5, if_pos h_13, if_pos h_20, if_neg h_28, if_neg h_35, if_neg (nbt h_44)]
              exact E _ _ _ _ _ _ dX5_breaks_49 (Nat.le_refl _) (Nat.le_refl _) rfl ⟨by rw [hX], by rw [hX]⟩
      · replace h_20 := bB_f h_20
        refine r_ldc (pc := 23) (v := (-1000001)) C dX5_breaks_23 tw_216 ?_
        show g 0 0 (wC S) 25 [some (.ref 0), some (.int (nI ia)), some (.int (nI ib)), some (.int d), some (.int c), some (.int x), none, none, none] [.int (-1000001)]
        have hX : breaksC S z (nI ia) (nI ib) d c x = ((-1000001), S) := by
          unfold breaksC
          (try rw [ix_nI (show ia < 2 ^ 31 by omega)])
          (try rw [ix_nI (show ib < 2 ^ 31 by omega)])
          rw [if_pos h_5, if_pos h_13, if_neg (nbt h_20)]
        exact E _ _ _ _ _ _ dX5_breaks_25 (Nat.le_refl _) (Nat.le_refl _) rfl ⟨by rw [hX], by rw [hX]⟩
/-! ===== toSling ===== -/
def faT0 (O F : Nat → Nat → Int32) (z c d : Nat) : Nat → Nat → Int32 := up2 (up2 O 0 (faSp F c (O 0) d)) 1 (faNr F z c (O 0) (O 1) d)
noncomputable def faT : (Nat → Nat → Int32) → (Nat → Nat → Int32) → Nat → Nat → Nat → Nat → Nat → Int32 := Classical.choose (seal_ex faT0)
theorem faT_eq : faT = faT0 := Classical.choose_spec (seal_ex faT0)
theorem faT_z {O F : Nat → Nat → Int32} {z c d : Nat} (h : O 3 0 = nI z) : faT O F z c d 3 0 = nI z := by rw [faT_eq]; exact h
theorem c_X2_foreseeAnewT (O F : Nat → Nat → Int32) (z : Nat) (hz : O 3 0 = nI z) (hz6 : z ≤ 6) (c : Nat) (hc : c < z) (d : Nat) (hd : d ≤ 60) (hW : okW F) : MetA yX2_foreseeAnew (.code yX2_foreseeAnew cX2_foreseeAnew 6 none :: TT) rmX2_foreseeAnew [.ref 0, .ref 4, .int (nI c), .int (nI d)] (wO 0 O ++ wF 4 F) (fun vr wr => vr = none ∧ wr = wO 0 (faT O F z c d) ++ wF 4 F) 0 0 := by
  rw [faT_eq]
  exact c_X2_foreseeAnew O F z hz hz6 c hc d hd hW
theorem arrFrom_ok (has : Nat → Bool) : ∀ (n t : Nat), arrFrom has n t = -1000000 ∨ ∃ u, t ≤ u ∧ u ≤ t + n ∧ has u = true ∧ arrFrom has n t = nI u
  | 0, t => by
    unfold arrFrom
    cases h : has t
    · exact Or.inl rfl
    · exact Or.inr ⟨t, by omega, by omega, h, rfl⟩
  | n + 1, t => by
    unfold arrFrom
    cases h : has t
    · rcases arrFrom_ok has n (t + 1) with e | ⟨u, h1, h2, h3, h4⟩
      · exact Or.inl (by rw [← e]; rfl)
      · exact Or.inr ⟨u, by omega, by omega, h3, by rw [← h4]; rfl⟩
    · exact Or.inr ⟨t, by omega, by omega, h, rfl⟩
theorem has1_ne {a b : Nat} (ha : a < 6) (hb : b < 6) (h : a ≠ b) : hasS (1 <<< (nI a &&& 31)) (nI b) = false := by
  have : ∀ a, a < 6 → ∀ b, b < 6 → a ≠ b → hasS (1 <<< (nI a &&& 31)) (nI b) = false := by decide +kernel
  exact this a ha b hb h
def bestOk (x : Int32) : Prop := x = -1000000 ∨ ∃ u, 1 ≤ u ∧ u ≤ 60 ∧ x = nI u
theorem arr_ok {nr : Nat → Int32} {z a b d : Nat} {bar : Int32} (ha : a < 6) (hb : b < 6) (h : a ≠ b) (hd : d ≤ 60) : bestOk (arrT nr z (nI a) (nI b) d bar) := by
  rw [arrT_eq]
  unfold arrS
  rcases arrFrom_ok (fun t => hasS (hvS nr z (nI a) bar t) (nI b)) d 0 with e | ⟨u, h1, h2, h3, h4⟩
  · exact Or.inl e
  · refine Or.inr ⟨u, ?_, by omega, h4⟩
    rcases u with _ | u
    · exact absurd h3 (by show ¬ hasS (hvS nr z (nI a) bar 0) (nI b) = true; unfold hvS; rw [has1_ne ha hb h]; exact Bool.false_ne_true)
    · omega
noncomputable def tsL (z c ia ib : Nat) : Nat → Nat → Int32 → Int32 → (Nat → Nat → Int32) → (Nat → Nat → Int32) → Int32 × Int32 × (Nat → Nat → Int32) × (Nat → Nat → Int32)
  | 0, _, best, trees, F, O => (best, trees, F, O)
  | n + 1, p, best, trees, F, O => if nI p / 12 < rmI (nI p) 12 then
      (if arrT (faT O (up2 (up2 F 1 (upd (F 1) c (nI p / 12))) 2 (upd (F 2) c (rmI (nI p) 12))) z c (ix (if best = -1000000 then 60 else best - 1)) 1) z (nI ia) (nI ib) (ix (if best = -1000000 then 60 else best - 1)) 0 = -1000000 then
        tsL z c ia ib n (p + 1) best trees (up2 (up2 F 1 (upd (F 1) c (nI p / 12))) 2 (upd (F 2) c (rmI (nI p) 12))) (faT O (up2 (up2 F 1 (upd (F 1) c (nI p / 12))) 2 (upd (F 2) c (rmI (nI p) 12))) z c (ix (if best = -1000000 then 60 else best - 1)))
      else tsL z c ia ib n (p + 1) (arrT (faT O (up2 (up2 F 1 (upd (F 1) c (nI p / 12))) 2 (upd (F 2) c (rmI (nI p) 12))) z c (ix (if best = -1000000 then 60 else best - 1)) 1) z (nI ia) (nI ib) (ix (if best = -1000000 then 60 else best - 1)) 0) (nI p) (up2 (up2 F 1 (upd (F 1) c (nI p / 12))) 2 (upd (F 2) c (rmI (nI p) 12))) (faT O (up2 (up2 F 1 (upd (F 1) c (nI p / 12))) 2 (upd (F 2) c (rmI (nI p) 12))) z c (ix (if best = -1000000 then 60 else best - 1))))
    else tsL z c ia ib n (p + 1) best trees F O
noncomputable def tsT : Nat → Nat → Nat → Nat → Nat → Nat → Int32 → Int32 → (Nat → Nat → Int32) → (Nat → Nat → Int32) → Int32 × Int32 × (Nat → Nat → Int32) × (Nat → Nat → Int32) := Classical.choose (seal_ex tsL)
theorem tsT_eq : tsT = tsL := Classical.choose_spec (seal_ex tsL)
def toR (best trees x : Int32) : Int32 := if best = -1000000 then best else if x = 1 then best else trees
theorem ix60 : ix 60 = 60 := by decide
theorem ix_m1 {u : Nat} (h1 : 1 ≤ u) (h : u ≤ 60) : ix (nI u - 1) = u - 1 := by
  rw [show nI u - 1 = nI (u - 1) from pk_sub (b := 1) h1]
  exact ix_nI (by omega)
theorem nI_nn {u : Nat} (h : u ≤ 60) : ¬ nI u = -1000000 := by
  have : ∀ u, u < 61 → ¬ nI u = -1000000 := by decide +kernel
  exact this u (by omega)
set_option maxHeartbeats 4000000 in
set_option maxRecDepth 100000 in
theorem lp_X5_toSling (S : Nat → Nat → Nat → Int32) (z : Nat) (hS : okS S z) (ia ib jc : Nat) (hia : ia < z) (hib : ib < z) (hjc : jc < z) (hab : ia ≠ ib) (x b0 t0 : Int32) (F0 O0 : Nat → Nat → Int32) {g : Nat → Nat → List xE → Nat → List (Option Value) → List Value → Prop} (C : Sem cX5_toSling RX5 "toSling" 10 rmX5_toSling g) (E : xEi g cX5_toSling .int 0 0 (fun vr wr => vr = some (.int (toR (tsT z jc ia ib 143 1 b0 t0 F0 O0).1 (tsT z jc ia ib 143 1 b0 t0 F0 O0).2.1 x)) ∧ wr = wC (up3 (up3 S 3 (tsT z jc ia ib 143 1 b0 t0 F0 O0).2.2.1) 7 (tsT z jc ia ib 143 1 b0 t0 F0 O0).2.2.2))) : ∀ (n : Nat) (p : Nat) (best trees : Int32) (F O : Nat → Nat → Int32), p + n = 144 → bestOk best → okW F → O 3 0 = nI z → tsL z jc ia ib n p best trees F O = tsT z jc ia ib 143 1 b0 t0 F0 O0 → g 0 0 (wC (up3 (up3 S 3 F) 7 O)) 104 [some (.ref 0), some (.int (nI jc)), some (.int (nI ia)), some (.int (nI ib)), some (.int x), some (.int best), some (.int trees), some (.int (nI p)), none, none] [] := by
  intro n
  have hS6 := hS.2.1
  induction n with
  | zero =>
    intro p best trees F O hp hbest hF hOO hE
    refine r_iload (pc := 104) C dX5_toSling_104 rfl ?_
    refine r_sipush (pc := 106) (v := 144) C dX5_toSling_106 (by decide) ?_
    refine r_icmp_ge (pc := 109) (tgt := 223) C dX5_toSling_109 (by decide) (fun _ => ?_) (fun h => absurd (nI_le (a := 144) (by omega) (by omega)) h)
    refine r_iload (pc := 223) C dX5_toSling_223 rfl ?_
    refine r_ldc (pc := 225) (v := (-1000000)) C dX5_toSling_225 tw_426 ?_
    refine r_icmp_eq (pc := 227) (tgt := 236) C dX5_toSling_227 (by decide) (fun h_227 => ?_) (fun h_227 => ?_)
    · skip
      refine r_iload (pc := 236) C dX5_toSling_236 rfl ?_
      refine r_goto (pc := 238) (tgt := 243) C dX5_toSling_238 (by decide) ?_
      show g 0 0 (wC (up3 (up3 S 3 F) 7 O)) 243 [some (.ref 0), some (.int (nI jc)), some (.int (nI ia)), some (.int (nI ib)), some (.int x), some (.int best), some (.int trees), some (.int (nI p)), none, none] [.int best]
      have hX : toR best trees x = best := by unfold toR; rw [if_pos h_227]
      rw [← hE] at E
      exact E _ _ _ _ _ _ dX5_toSling_243 (Nat.le_refl _) (Nat.le_refl _) rfl ⟨by show some (Value.int best) = some (Value.int (toR best trees x)); rw [hX], rfl⟩
    · skip
      refine r_iload (pc := 230) C dX5_toSling_230 rfl ?_
      refine r_iconst (pc := 232) (v := 1) C dX5_toSling_232 (by decide) ?_
      refine r_icmp_ne (pc := 233) (tgt := 241) C dX5_toSling_233 (by decide) (fun h_233 => ?_) (fun h_233 => ?_)
      · skip
        refine r_iload (pc := 241) C dX5_toSling_241 rfl ?_
        show g 0 0 (wC (up3 (up3 S 3 F) 7 O)) 243 [some (.ref 0), some (.int (nI jc)), some (.int (nI ia)), some (.int (nI ib)), some (.int x), some (.int best), some (.int trees), some (.int (nI p)), none, none] [.int trees]
        have hX : toR best trees x = trees := by unfold toR; rw [if_neg h_227, if_neg h_233]
        rw [← hE] at E
        exact E _ _ _ _ _ _ dX5_toSling_243 (Nat.le_refl _) (Nat.le_refl _) rfl ⟨by show some (Value.int trees) = some (Value.int (toR best trees x)); rw [hX], rfl⟩
      · skip
        refine r_iload (pc := 236) C dX5_toSling_236 rfl ?_
        refine r_goto (pc := 238) (tgt := 243) C dX5_toSling_238 (by decide) ?_
        show g 0 0 (wC (up3 (up3 S 3 F) 7 O)) 243 [some (.ref 0), some (.int (nI jc)), some (.int (nI ia)), some (.int (nI ib)), some (.int x), some (.int best), some (.int trees), some (.int (nI p)), none, none] [.int best]
        have hX : toR best trees x = best := by unfold toR; rw [if_neg h_227, if_pos h_233]
        rw [← hE] at E
        exact E _ _ _ _ _ _ dX5_toSling_243 (Nat.le_refl _) (Nat.le_refl _) rfl ⟨by show some (Value.int best) = some (Value.int (toR best trees x)); rw [hX], rfl⟩
  | succ n ih =>
    intro p best trees F O hp hbest hF hOO hE
    refine r_iload (pc := 104) C dX5_toSling_104 rfl ?_
    refine r_sipush (pc := 106) (v := 144) C dX5_toSling_106 (by decide) ?_
    refine r_icmp_ge (pc := 109) (tgt := 223) C dX5_toSling_109 (by decide) (fun h => absurd h (nI_ge (b := 144) (by omega) (by omega))) (fun _ => ?_)
    refine r_iload (pc := 112) C dX5_toSling_112 rfl ?_
    refine r_bipush (pc := 114) (v := 12) C dX5_toSling_114 (by decide) ?_
    refine r_idiv (pc := 116) C dX5_toSling_116 (by decide) ?_
    refine r_iload (pc := 117) C dX5_toSling_117 rfl ?_
    refine r_bipush (pc := 119) (v := 12) C dX5_toSling_119 (by decide) ?_
    refine r_irem (pc := 121) C dX5_toSling_121 (by decide) ?_
    show g 0 0 (wC (up3 (up3 S 3 F) 7 O)) 122 [some (.ref 0), some (.int (nI jc)), some (.int (nI ia)), some (.int (nI ib)), some (.int x), some (.int best), some (.int trees), some (.int (nI p)), none, none] [.int (rmI (nI p) 12), .int ((nI p) / 12)]
    refine r_icmp_lt (pc := 122) (tgt := 128) C dX5_toSling_122 (by decide) (fun h_122 => ?_) (fun h_122 => ?_)
    · skip
      refine r_aload_n (pc := 128) C dX5_toSling_128 rfl rfl ?_
      refine r_getfield (pc := 129) (v := .ref 26) C xf_X5_29 dX5_toSling_129 rfl rfl ?_
      refine r_getfield (pc := 132) (v := .ref 28) C xf_X5_141 dX5_toSling_132 rfl rfl ?_
      refine r_iload_n (pc := 135) C dX5_toSling_135 rfl rfl ?_
      refine r_iload (pc := 136) C dX5_toSling_136 rfl ?_
      refine r_bipush (pc := 138) (v := 12) C dX5_toSling_138 (by decide) ?_
      refine r_idiv (pc := 140) C dX5_toSling_140 (by decide) ?_
      refine r_iastore (pc := 141) (θ' := wC (up3 (up3 S 3 (up2 F 1 (upd (F 1) jc ((nI p) / 12)))) 7 O)) C jc dX5_toSling_141 rfl rfl (by first | assumption | omega) rfl ?_
      refine r_aload_n (pc := 142) C dX5_toSling_142 rfl rfl ?_
      refine r_getfield (pc := 143) (v := .ref 26) C xf_X5_29 dX5_toSling_143 rfl rfl ?_
      refine r_getfield (pc := 146) (v := .ref 29) C xf_X5_144 dX5_toSling_146 rfl rfl ?_
      refine r_iload_n (pc := 149) C dX5_toSling_149 rfl rfl ?_
      refine r_iload (pc := 150) C dX5_toSling_150 rfl ?_
      refine r_bipush (pc := 152) (v := 12) C dX5_toSling_152 (by decide) ?_
      refine r_irem (pc := 154) C dX5_toSling_154 (by decide) ?_
      show g 0 0 (wC (up3 (up3 S 3 (up2 F 1 (upd (F 1) jc ((nI p) / 12)))) 7 O)) 155 [some (.ref 0), some (.int (nI jc)), some (.int (nI ia)), some (.int (nI ib)), some (.int x), some (.int best), some (.int trees), some (.int (nI p)), none, none] [.int (rmI (nI p) 12), .int (nI jc), .ref 29]
      refine r_iastore (pc := 155) (θ' := wC (up3 (up3 S 3 (up2 (up2 F 1 (upd (F 1) jc ((nI p) / 12))) 2 (upd (F 2) jc (rmI (nI p) 12)))) 7 O)) C jc dX5_toSling_155 rfl rfl (by first | assumption | omega) rfl ?_
      refine r_iload (pc := 156) C dX5_toSling_156 rfl ?_
      refine r_ldc (pc := 158) (v := (-1000000)) C dX5_toSling_158 tw_426 ?_
      refine r_icmp_ne (pc := 160) (tgt := 168) C dX5_toSling_160 (by decide) (fun h_160 => ?_) (fun h_160 => ?_)
      · skip
        obtain ⟨u, hu1, hu60, rfl⟩ := hbest.resolve_left h_160
        refine r_iload (pc := 168) C dX5_toSling_168 rfl ?_
        refine r_iconst (pc := 170) (v := 1) C dX5_toSling_170 (by decide) ?_
        refine r_isub (pc := 171) C dX5_toSling_171 ?_
        show g 0 0 (wC (up3 (up3 S 3 (up2 (up2 F 1 (upd (F 1) jc ((nI p) / 12))) 2 (upd (F 2) jc (rmI (nI p) 12)))) 7 O)) 172 [some (.ref 0), some (.int (nI jc)), some (.int (nI ia)), some (.int (nI ib)), some (.int x), some (.int (nI u)), some (.int trees), some (.int (nI p)), none, none] [.int ((nI u) - 1)]
        rw [show ((nI u) - 1 : Int32) = nI (u - 1) from (nI_dif rfl rfl (by omega))]
        refine r_istore (pc := 172) (lv' := [some (.ref 0), some (.int (nI jc)), some (.int (nI ia)), some (.int (nI ib)), some (.int x), some (.int (nI u)), some (.int trees), some (.int (nI p)), some (.int (nI (u - 1))), none]) C dX5_toSling_172 (Nat.le_of_ble_eq_true rfl) trivial rfl ?_
        refine r_aload_n (pc := 174) C dX5_toSling_174 rfl rfl ?_
        refine r_getfield (pc := 175) (v := .ref 50) C xf_X5_46 dX5_toSling_175 rfl rfl ?_
        refine r_aload_n (pc := 178) C dX5_toSling_178 rfl rfl ?_
        refine r_getfield (pc := 179) (v := .ref 26) C xf_X5_29 dX5_toSling_179 rfl rfl ?_
        refine r_iload_n (pc := 182) C dX5_toSling_182 rfl rfl ?_
        refine r_iload (pc := 183) C dX5_toSling_183 rfl ?_
        refine r_callVD (pc := 185) (b := 50) (As := [.ref 26, .int (nI jc), .int (nI (u - 1))]) (st := []) (θ2 := wC (up3 (up3 S 3 (up2 (up2 F 1 (upd (F 1) jc ((nI p) / 12))) 2 (upd (F 2) jc (rmI (nI p) 12)))) 7 (faT O (up2 (up2 F 1 (upd (F 1) jc ((nI p) / 12))) 2 (upd (F 2) jc (rmI (nI p) 12))) z jc (u - 1)))) (r2 := none) C [50, 51, 52, 53, 26, 27, 28, 29, 30, 31] (c_X2_foreseeAnewT O (up2 (up2 F 1 (upd (F 1) jc ((nI p) / 12))) 2 (upd (F 2) jc (rmI (nI p) 12))) z hOO hS.2.1 jc hjc (u - 1) (by omega) (okW_1 (by decide) (okW_1 (by decide) hF))) xm_X2_foreseeAnew xk_X5_202 dX5_toSling_185 rfl (by decide) rfl rfl rfl rfl rfl (Nat.le_of_ble_eq_true rfl) ⟨Nat.le_of_ble_eq_true rfl, Nat.le_of_ble_eq_true rfl⟩ ⟨rfl, rfl⟩ ⟨Nat.le_of_ble_eq_true rfl, Nat.le_of_ble_eq_true rfl⟩ rfl (Eq.trans (b := 10) rfl rfl) rfl rfl ?_
        show g 0 0 (wC (up3 (up3 S 3 (up2 (up2 F 1 (upd (F 1) jc ((nI p) / 12))) 2 (upd (F 2) jc (rmI (nI p) 12)))) 7 (faT O (up2 (up2 F 1 (upd (F 1) jc ((nI p) / 12))) 2 (upd (F 2) jc (rmI (nI p) 12))) z jc (u - 1)))) 188 [some (.ref 0), some (.int (nI jc)), some (.int (nI ia)), some (.int (nI ib)), some (.int x), some (.int (nI u)), some (.int trees), some (.int (nI p)), some (.int (nI (u - 1))), none] []
        refine r_aload_n (pc := 188) C dX5_toSling_188 rfl rfl ?_
        refine r_getfield (pc := 189) (v := .ref 50) C xf_X5_46 dX5_toSling_189 rfl rfl ?_
        refine r_iload_n (pc := 192) C dX5_toSling_192 rfl rfl ?_
        refine r_iload_n (pc := 193) C dX5_toSling_193 rfl rfl ?_
        refine r_iload (pc := 194) C dX5_toSling_194 rfl ?_
        refine r_iconst (pc := 196) (v := 0) C dX5_toSling_196 (by decide) ?_
        refine r_callVD (pc := 197) (b := 50) (As := [.int (nI ia), .int (nI ib), .int (nI (u - 1)), .int 0]) (st := []) (θ2 := wC (up3 (up3 S 3 (up2 (up2 F 1 (upd (F 1) jc ((nI p) / 12))) 2 (upd (F 2) jc (rmI (nI p) 12)))) 7 (faT O (up2 (up2 F 1 (upd (F 1) jc ((nI p) / 12))) 2 (upd (F 2) jc (rmI (nI p) 12))) z jc (u - 1)))) (r2 := some (.int (arrT ((faT O (up2 (up2 F 1 (upd (F 1) jc ((nI p) / 12))) 2 (upd (F 2) jc (rmI (nI p) 12))) z jc (u - 1)) 1) z (nI ia) (nI ib) (u - 1) 0))) C [50, 51, 52, 53] (c_X2_arrivalT (faT O (up2 (up2 F 1 (upd (F 1) jc ((nI p) / 12))) 2 (upd (F 2) jc (rmI (nI p) 12))) z jc (u - 1)) (nI ia) (nI ib) (u - 1) (by omega) 0 z (faT_z hOO) hS.2.1) xm_X2_arrival xk_X5_192 dX5_toSling_197 rfl (by decide) rfl rfl rfl rfl rfl (Nat.le_of_ble_eq_true rfl) ⟨Nat.le_of_ble_eq_true rfl, Nat.le_of_ble_eq_true rfl⟩ ⟨rfl, rfl⟩ ⟨Nat.le_of_ble_eq_true rfl, Nat.le_of_ble_eq_true rfl⟩ rfl (Eq.trans (b := 4) rfl rfl) rfl rfl ?_
        show g 0 0 (wC (up3 (up3 S 3 (up2 (up2 F 1 (upd (F 1) jc ((nI p) / 12))) 2 (upd (F 2) jc (rmI (nI p) 12)))) 7 (faT O (up2 (up2 F 1 (upd (F 1) jc ((nI p) / 12))) 2 (upd (F 2) jc (rmI (nI p) 12))) z jc (u - 1)))) 200 [some (.ref 0), some (.int (nI jc)), some (.int (nI ia)), some (.int (nI ib)), some (.int x), some (.int (nI u)), some (.int trees), some (.int (nI p)), some (.int (nI (u - 1))), none] [.int (arrT ((faT O (up2 (up2 F 1 (upd (F 1) jc ((nI p) / 12))) 2 (upd (F 2) jc (rmI (nI p) 12))) z jc (u - 1)) 1) z (nI ia) (nI ib) (u - 1) 0)]
        refine r_istore (pc := 200) (lv' := [some (.ref 0), some (.int (nI jc)), some (.int (nI ia)), some (.int (nI ib)), some (.int x), some (.int (nI u)), some (.int trees), some (.int (nI p)), some (.int (nI (u - 1))), some (.int (arrT ((faT O (up2 (up2 F 1 (upd (F 1) jc ((nI p) / 12))) 2 (upd (F 2) jc (rmI (nI p) 12))) z jc (u - 1)) 1) z (nI ia) (nI ib) (u - 1) 0))]) C dX5_toSling_200 (Nat.le_of_ble_eq_true rfl) trivial rfl ?_
        refine r_iload (pc := 202) C dX5_toSling_202 rfl ?_
        refine r_ldc (pc := 204) (v := (-1000000)) C dX5_toSling_204 tw_426 ?_
        refine r_icmp_eq (pc := 206) (tgt := 217) C dX5_toSling_206 (by decide) (fun h_206 => ?_) (fun h_206 => ?_)
        · skip
          refine r_iinc (pc := 217) (v := nI (p + 1)) (lv' := [some (.ref 0), some (.int (nI jc)), some (.int (nI ia)), some (.int (nI ib)), some (.int x), some (.int (nI u)), some (.int trees), some (.int (nI (p + 1))), some (.int (nI (u - 1))), some (.int (arrT ((faT O (up2 (up2 F 1 (upd (F 1) jc ((nI p) / 12))) 2 (upd (F 2) jc (rmI (nI p) 12))) z jc (u - 1)) 1) z (nI ia) (nI ib) (u - 1) 0))]) C dX5_toSling_217 rfl (nI_1 p) trivial rfl ?_
          refine r_goto (pc := 220) (tgt := 104) C dX5_toSling_220 (by decide) ?_
          show g 0 0 (wC (up3 (up3 S 3 (up2 (up2 F 1 (upd (F 1) jc ((nI p) / 12))) 2 (upd (F 2) jc (rmI (nI p) 12)))) 7 (faT O (up2 (up2 F 1 (upd (F 1) jc ((nI p) / 12))) 2 (upd (F 2) jc (rmI (nI p) 12))) z jc (u - 1)))) 104 [some (.ref 0), some (.int (nI jc)), some (.int (nI ia)), some (.int (nI ib)), some (.int x), some (.int (nI u)), some (.int trees), some (.int (nI (p + 1))), some (.int (nI (u - 1))), some (.int (arrT ((faT O (up2 (up2 F 1 (upd (F 1) jc ((nI p) / 12))) 2 (upd (F 2) jc (rmI (nI p) 12))) z jc (u - 1)) 1) z (nI ia) (nI ib) (u - 1) 0))] []
          refine r_drop (lv' := [some (.ref 0), some (.int (nI jc)), some (.int (nI ia)), some (.int (nI ib)), some (.int x), some (.int (nI u)), some (.int trees), some (.int (nI (p + 1))), none, none]) C ⟨rfl, rfl, rfl, rfl, rfl, rfl, rfl, rfl, trivial⟩ ?_
          show g 0 0 (wC (up3 (up3 S 3 (up2 (up2 F 1 (upd (F 1) jc ((nI p) / 12))) 2 (upd (F 2) jc (rmI (nI p) 12)))) 7 (faT O (up2 (up2 F 1 (upd (F 1) jc ((nI p) / 12))) 2 (upd (F 2) jc (rmI (nI p) 12))) z jc (u - 1)))) 104 [some (.ref 0), some (.int (nI jc)), some (.int (nI ia)), some (.int (nI ib)), some (.int x), some (.int (nI u)), some (.int trees), some (.int (nI (p + 1))), none, none] []
          exact ih (p + 1) _ _ _ _ (by omega) hbest (okW_1 (by decide) (okW_1 (by decide) hF)) (faT_z hOO) (by rw [← hE, tsL, if_pos h_122]; simp only [if_neg h_160, ix_m1 hu1 hu60]; rw [if_pos h_206])
        · skip
          refine r_iload (pc := 209) C dX5_toSling_209 rfl ?_
          refine r_istore (pc := 211) (lv' := [some (.ref 0), some (.int (nI jc)), some (.int (nI ia)), some (.int (nI ib)), some (.int x), some (.int (arrT ((faT O (up2 (up2 F 1 (upd (F 1) jc ((nI p) / 12))) 2 (upd (F 2) jc (rmI (nI p) 12))) z jc (u - 1)) 1) z (nI ia) (nI ib) (u - 1) 0)), some (.int trees), some (.int (nI p)), some (.int (nI (u - 1))), some (.int (arrT ((faT O (up2 (up2 F 1 (upd (F 1) jc ((nI p) / 12))) 2 (upd (F 2) jc (rmI (nI p) 12))) z jc (u - 1)) 1) z (nI ia) (nI ib) (u - 1) 0))]) C dX5_toSling_211 (Nat.le_of_ble_eq_true rfl) trivial rfl ?_
          refine r_iload (pc := 213) C dX5_toSling_213 rfl ?_
          refine r_istore (pc := 215) (lv' := [some (.ref 0), some (.int (nI jc)), some (.int (nI ia)), some (.int (nI ib)), some (.int x), some (.int (arrT ((faT O (up2 (up2 F 1 (upd (F 1) jc ((nI p) / 12))) 2 (upd (F 2) jc (rmI (nI p) 12))) z jc (u - 1)) 1) z (nI ia) (nI ib) (u - 1) 0)), some (.int (nI p)), some (.int (nI p)), some (.int (nI (u - 1))), some (.int (arrT ((faT O (up2 (up2 F 1 (upd (F 1) jc ((nI p) / 12))) 2 (upd (F 2) jc (rmI (nI p) 12))) z jc (u - 1)) 1) z (nI ia) (nI ib) (u - 1) 0))]) C dX5_toSling_215 (Nat.le_of_ble_eq_true rfl) trivial rfl ?_
          refine r_iinc (pc := 217) (v := nI (p + 1)) (lv' := [some (.ref 0), some (.int (nI jc)), some (.int (nI ia)), some (.int (nI ib)), some (.int x), some (.int (arrT ((faT O (up2 (up2 F 1 (upd (F 1) jc ((nI p) / 12))) 2 (upd (F 2) jc (rmI (nI p) 12))) z jc (u - 1)) 1) z (nI ia) (nI ib) (u - 1) 0)), some (.int (nI p)), some (.int (nI (p + 1))), some (.int (nI (u - 1))), some (.int (arrT ((faT O (up2 (up2 F 1 (upd (F 1) jc ((nI p) / 12))) 2 (upd (F 2) jc (rmI (nI p) 12))) z jc (u - 1)) 1) z (nI ia) (nI ib) (u - 1) 0))]) C dX5_toSling_217 rfl (nI_1 p) trivial rfl ?_
          refine r_goto (pc := 220) (tgt := 104) C dX5_toSling_220 (by decide) ?_
          show g 0 0 (wC (up3 (up3 S 3 (up2 (up2 F 1 (upd (F 1) jc ((nI p) / 12))) 2 (upd (F 2) jc (rmI (nI p) 12)))) 7 (faT O (up2 (up2 F 1 (upd (F 1) jc ((nI p) / 12))) 2 (upd (F 2) jc (rmI (nI p) 12))) z jc (u - 1)))) 104 [some (.ref 0), some (.int (nI jc)), some (.int (nI ia)), some (.int (nI ib)), some (.int x), some (.int (arrT ((faT O (up2 (up2 F 1 (upd (F 1) jc ((nI p) / 12))) 2 (upd (F 2) jc (rmI (nI p) 12))) z jc (u - 1)) 1) z (nI ia) (nI ib) (u - 1) 0)), some (.int (nI p)), some (.int (nI (p + 1))), some (.int (nI (u - 1))), some (.int (arrT ((faT O (up2 (up2 F 1 (upd (F 1) jc ((nI p) / 12))) 2 (upd (F 2) jc (rmI (nI p) 12))) z jc (u - 1)) 1) z (nI ia) (nI ib) (u - 1) 0))] []
          refine r_drop (lv' := [some (.ref 0), some (.int (nI jc)), some (.int (nI ia)), some (.int (nI ib)), some (.int x), some (.int (arrT ((faT O (up2 (up2 F 1 (upd (F 1) jc ((nI p) / 12))) 2 (upd (F 2) jc (rmI (nI p) 12))) z jc (u - 1)) 1) z (nI ia) (nI ib) (u - 1) 0)), some (.int (nI p)), some (.int (nI (p + 1))), none, none]) C ⟨rfl, rfl, rfl, rfl, rfl, rfl, rfl, rfl, trivial⟩ ?_
          show g 0 0 (wC (up3 (up3 S 3 (up2 (up2 F 1 (upd (F 1) jc ((nI p) / 12))) 2 (upd (F 2) jc (rmI (nI p) 12)))) 7 (faT O (up2 (up2 F 1 (upd (F 1) jc ((nI p) / 12))) 2 (upd (F 2) jc (rmI (nI p) 12))) z jc (u - 1)))) 104 [some (.ref 0), some (.int (nI jc)), some (.int (nI ia)), some (.int (nI ib)), some (.int x), some (.int (arrT ((faT O (up2 (up2 F 1 (upd (F 1) jc ((nI p) / 12))) 2 (upd (F 2) jc (rmI (nI p) 12))) z jc (u - 1)) 1) z (nI ia) (nI ib) (u - 1) 0)), some (.int (nI p)), some (.int (nI (p + 1))), none, none] []
          exact ih (p + 1) _ _ _ _ (by omega) (arr_ok (by omega) (by omega) hab (by omega)) (okW_1 (by decide) (okW_1 (by decide) hF)) (faT_z hOO) (by rw [← hE, tsL, if_pos h_122]; simp only [if_neg h_160, ix_m1 hu1 hu60]; rw [if_neg h_206])
      · skip
        refine r_bipush (pc := 163) (v := 60) C dX5_toSling_163 (by decide) ?_
        refine r_goto (pc := 165) (tgt := 172) C dX5_toSling_165 (by decide) ?_
        refine r_istore (pc := 172) (lv' := [some (.ref 0), some (.int (nI jc)), some (.int (nI ia)), some (.int (nI ib)), some (.int x), some (.int best), some (.int trees), some (.int (nI p)), some (.int 60), none]) C dX5_toSling_172 (Nat.le_of_ble_eq_true rfl) trivial rfl ?_
        refine r_aload_n (pc := 174) C dX5_toSling_174 rfl rfl ?_
        refine r_getfield (pc := 175) (v := .ref 50) C xf_X5_46 dX5_toSling_175 rfl rfl ?_
        refine r_aload_n (pc := 178) C dX5_toSling_178 rfl rfl ?_
        refine r_getfield (pc := 179) (v := .ref 26) C xf_X5_29 dX5_toSling_179 rfl rfl ?_
        refine r_iload_n (pc := 182) C dX5_toSling_182 rfl rfl ?_
        refine r_iload (pc := 183) C dX5_toSling_183 rfl ?_
        refine r_callVD (pc := 185) (b := 50) (As := [.ref 26, .int (nI jc), .int 60]) (st := []) (θ2 := wC (up3 (up3 S 3 (up2 (up2 F 1 (upd (F 1) jc ((nI p) / 12))) 2 (upd (F 2) jc (rmI (nI p) 12)))) 7 (faT O (up2 (up2 F 1 (upd (F 1) jc ((nI p) / 12))) 2 (upd (F 2) jc (rmI (nI p) 12))) z jc 60))) (r2 := none) C [50, 51, 52, 53, 26, 27, 28, 29, 30, 31] (c_X2_foreseeAnewT O (up2 (up2 F 1 (upd (F 1) jc ((nI p) / 12))) 2 (upd (F 2) jc (rmI (nI p) 12))) z hOO hS.2.1 jc hjc 60 (by omega) (okW_1 (by decide) (okW_1 (by decide) hF))) xm_X2_foreseeAnew xk_X5_202 dX5_toSling_185 rfl (by decide) rfl rfl rfl rfl rfl (Nat.le_of_ble_eq_true rfl) ⟨Nat.le_of_ble_eq_true rfl, Nat.le_of_ble_eq_true rfl⟩ ⟨rfl, rfl⟩ ⟨Nat.le_of_ble_eq_true rfl, Nat.le_of_ble_eq_true rfl⟩ rfl (Eq.trans (b := 10) rfl rfl) rfl rfl ?_
        show g 0 0 (wC (up3 (up3 S 3 (up2 (up2 F 1 (upd (F 1) jc ((nI p) / 12))) 2 (upd (F 2) jc (rmI (nI p) 12)))) 7 (faT O (up2 (up2 F 1 (upd (F 1) jc ((nI p) / 12))) 2 (upd (F 2) jc (rmI (nI p) 12))) z jc 60))) 188 [some (.ref 0), some (.int (nI jc)), some (.int (nI ia)), some (.int (nI ib)), some (.int x), some (.int best), some (.int trees), some (.int (nI p)), some (.int 60), none] []
        refine r_aload_n (pc := 188) C dX5_toSling_188 rfl rfl ?_
        refine r_getfield (pc := 189) (v := .ref 50) C xf_X5_46 dX5_toSling_189 rfl rfl ?_
        refine r_iload_n (pc := 192) C dX5_toSling_192 rfl rfl ?_
        refine r_iload_n (pc := 193) C dX5_toSling_193 rfl rfl ?_
        refine r_iload (pc := 194) C dX5_toSling_194 rfl ?_
        refine r_iconst (pc := 196) (v := 0) C dX5_toSling_196 (by decide) ?_
        refine r_callVD (pc := 197) (b := 50) (As := [.int (nI ia), .int (nI ib), .int 60, .int 0]) (st := []) (θ2 := wC (up3 (up3 S 3 (up2 (up2 F 1 (upd (F 1) jc ((nI p) / 12))) 2 (upd (F 2) jc (rmI (nI p) 12)))) 7 (faT O (up2 (up2 F 1 (upd (F 1) jc ((nI p) / 12))) 2 (upd (F 2) jc (rmI (nI p) 12))) z jc 60))) (r2 := some (.int (arrT ((faT O (up2 (up2 F 1 (upd (F 1) jc ((nI p) / 12))) 2 (upd (F 2) jc (rmI (nI p) 12))) z jc 60) 1) z (nI ia) (nI ib) 60 0))) C [50, 51, 52, 53] (c_X2_arrivalT (faT O (up2 (up2 F 1 (upd (F 1) jc ((nI p) / 12))) 2 (upd (F 2) jc (rmI (nI p) 12))) z jc 60) (nI ia) (nI ib) 60 (by omega) 0 z (faT_z hOO) hS.2.1) xm_X2_arrival xk_X5_192 dX5_toSling_197 rfl (by decide) rfl rfl rfl rfl rfl (Nat.le_of_ble_eq_true rfl) ⟨Nat.le_of_ble_eq_true rfl, Nat.le_of_ble_eq_true rfl⟩ ⟨rfl, rfl⟩ ⟨Nat.le_of_ble_eq_true rfl, Nat.le_of_ble_eq_true rfl⟩ rfl (Eq.trans (b := 4) rfl rfl) rfl rfl ?_
        show g 0 0 (wC (up3 (up3 S 3 (up2 (up2 F 1 (upd (F 1) jc ((nI p) / 12))) 2 (upd (F 2) jc (rmI (nI p) 12)))) 7 (faT O (up2 (up2 F 1 (upd (F 1) jc ((nI p) / 12))) 2 (upd (F 2) jc (rmI (nI p) 12))) z jc 60))) 200 [some (.ref 0), some (.int (nI jc)), some (.int (nI ia)), some (.int (nI ib)), some (.int x), some (.int best), some (.int trees), some (.int (nI p)), some (.int 60), none] [.int (arrT ((faT O (up2 (up2 F 1 (upd (F 1) jc ((nI p) / 12))) 2 (upd (F 2) jc (rmI (nI p) 12))) z jc 60) 1) z (nI ia) (nI ib) 60 0)]
        refine r_istore (pc := 200) (lv' := [some (.ref 0), some (.int (nI jc)), some (.int (nI ia)), some (.int (nI ib)), some (.int x), some (.int best), some (.int trees), some (.int (nI p)), some (.int 60), some (.int (arrT ((faT O (up2 (up2 F 1 (upd (F 1) jc ((nI p) / 12))) 2 (upd (F 2) jc (rmI (nI p) 12))) z jc 60) 1) z (nI ia) (nI ib) 60 0))]) C dX5_toSling_200 (Nat.le_of_ble_eq_true rfl) trivial rfl ?_
        refine r_iload (pc := 202) C dX5_toSling_202 rfl ?_
        refine r_ldc (pc := 204) (v := (-1000000)) C dX5_toSling_204 tw_426 ?_
        refine r_icmp_eq (pc := 206) (tgt := 217) C dX5_toSling_206 (by decide) (fun h_206 => ?_) (fun h_206 => ?_)
        · skip
          refine r_iinc (pc := 217) (v := nI (p + 1)) (lv' := [some (.ref 0), some (.int (nI jc)), some (.int (nI ia)), some (.int (nI ib)), some (.int x), some (.int best), some (.int trees), some (.int (nI (p + 1))), some (.int 60), some (.int (arrT ((faT O (up2 (up2 F 1 (upd (F 1) jc ((nI p) / 12))) 2 (upd (F 2) jc (rmI (nI p) 12))) z jc 60) 1) z (nI ia) (nI ib) 60 0))]) C dX5_toSling_217 rfl (nI_1 p) trivial rfl ?_
          refine r_goto (pc := 220) (tgt := 104) C dX5_toSling_220 (by decide) ?_
          show g 0 0 (wC (up3 (up3 S 3 (up2 (up2 F 1 (upd (F 1) jc ((nI p) / 12))) 2 (upd (F 2) jc (rmI (nI p) 12)))) 7 (faT O (up2 (up2 F 1 (upd (F 1) jc ((nI p) / 12))) 2 (upd (F 2) jc (rmI (nI p) 12))) z jc 60))) 104 [some (.ref 0), some (.int (nI jc)), some (.int (nI ia)), some (.int (nI ib)), some (.int x), some (.int best), some (.int trees), some (.int (nI (p + 1))), some (.int 60), some (.int (arrT ((faT O (up2 (up2 F 1 (upd (F 1) jc ((nI p) / 12))) 2 (upd (F 2) jc (rmI (nI p) 12))) z jc 60) 1) z (nI ia) (nI ib) 60 0))] []
          refine r_drop (lv' := [some (.ref 0), some (.int (nI jc)), some (.int (nI ia)), some (.int (nI ib)), some (.int x), some (.int best), some (.int trees), some (.int (nI (p + 1))), none, none]) C ⟨rfl, rfl, rfl, rfl, rfl, rfl, rfl, rfl, trivial⟩ ?_
          show g 0 0 (wC (up3 (up3 S 3 (up2 (up2 F 1 (upd (F 1) jc ((nI p) / 12))) 2 (upd (F 2) jc (rmI (nI p) 12)))) 7 (faT O (up2 (up2 F 1 (upd (F 1) jc ((nI p) / 12))) 2 (upd (F 2) jc (rmI (nI p) 12))) z jc 60))) 104 [some (.ref 0), some (.int (nI jc)), some (.int (nI ia)), some (.int (nI ib)), some (.int x), some (.int best), some (.int trees), some (.int (nI (p + 1))), none, none] []
          exact ih (p + 1) _ _ _ _ (by omega) hbest (okW_1 (by decide) (okW_1 (by decide) hF)) (faT_z hOO) (by rw [← hE, tsL, if_pos h_122]; simp only [if_pos h_160, ix60]; rw [if_pos h_206])
        · skip
          refine r_iload (pc := 209) C dX5_toSling_209 rfl ?_
          refine r_istore (pc := 211) (lv' := [some (.ref 0), some (.int (nI jc)), some (.int (nI ia)), some (.int (nI ib)), some (.int x), some (.int (arrT ((faT O (up2 (up2 F 1 (upd (F 1) jc ((nI p) / 12))) 2 (upd (F 2) jc (rmI (nI p) 12))) z jc 60) 1) z (nI ia) (nI ib) 60 0)), some (.int trees), some (.int (nI p)), some (.int 60), some (.int (arrT ((faT O (up2 (up2 F 1 (upd (F 1) jc ((nI p) / 12))) 2 (upd (F 2) jc (rmI (nI p) 12))) z jc 60) 1) z (nI ia) (nI ib) 60 0))]) C dX5_toSling_211 (Nat.le_of_ble_eq_true rfl) trivial rfl ?_
          refine r_iload (pc := 213) C dX5_toSling_213 rfl ?_
          refine r_istore (pc := 215) (lv' := [some (.ref 0), some (.int (nI jc)), some (.int (nI ia)), some (.int (nI ib)), some (.int x), some (.int (arrT ((faT O (up2 (up2 F 1 (upd (F 1) jc ((nI p) / 12))) 2 (upd (F 2) jc (rmI (nI p) 12))) z jc 60) 1) z (nI ia) (nI ib) 60 0)), some (.int (nI p)), some (.int (nI p)), some (.int 60), some (.int (arrT ((faT O (up2 (up2 F 1 (upd (F 1) jc ((nI p) / 12))) 2 (upd (F 2) jc (rmI (nI p) 12))) z jc 60) 1) z (nI ia) (nI ib) 60 0))]) C dX5_toSling_215 (Nat.le_of_ble_eq_true rfl) trivial rfl ?_
          refine r_iinc (pc := 217) (v := nI (p + 1)) (lv' := [some (.ref 0), some (.int (nI jc)), some (.int (nI ia)), some (.int (nI ib)), some (.int x), some (.int (arrT ((faT O (up2 (up2 F 1 (upd (F 1) jc ((nI p) / 12))) 2 (upd (F 2) jc (rmI (nI p) 12))) z jc 60) 1) z (nI ia) (nI ib) 60 0)), some (.int (nI p)), some (.int (nI (p + 1))), some (.int 60), some (.int (arrT ((faT O (up2 (up2 F 1 (upd (F 1) jc ((nI p) / 12))) 2 (upd (F 2) jc (rmI (nI p) 12))) z jc 60) 1) z (nI ia) (nI ib) 60 0))]) C dX5_toSling_217 rfl (nI_1 p) trivial rfl ?_
          refine r_goto (pc := 220) (tgt := 104) C dX5_toSling_220 (by decide) ?_
          show g 0 0 (wC (up3 (up3 S 3 (up2 (up2 F 1 (upd (F 1) jc ((nI p) / 12))) 2 (upd (F 2) jc (rmI (nI p) 12)))) 7 (faT O (up2 (up2 F 1 (upd (F 1) jc ((nI p) / 12))) 2 (upd (F 2) jc (rmI (nI p) 12))) z jc 60))) 104 [some (.ref 0), some (.int (nI jc)), some (.int (nI ia)), some (.int (nI ib)), some (.int x), some (.int (arrT ((faT O (up2 (up2 F 1 (upd (F 1) jc ((nI p) / 12))) 2 (upd (F 2) jc (rmI (nI p) 12))) z jc 60) 1) z (nI ia) (nI ib) 60 0)), some (.int (nI p)), some (.int (nI (p + 1))), some (.int 60), some (.int (arrT ((faT O (up2 (up2 F 1 (upd (F 1) jc ((nI p) / 12))) 2 (upd (F 2) jc (rmI (nI p) 12))) z jc 60) 1) z (nI ia) (nI ib) 60 0))] []
          refine r_drop (lv' := [some (.ref 0), some (.int (nI jc)), some (.int (nI ia)), some (.int (nI ib)), some (.int x), some (.int (arrT ((faT O (up2 (up2 F 1 (upd (F 1) jc ((nI p) / 12))) 2 (upd (F 2) jc (rmI (nI p) 12))) z jc 60) 1) z (nI ia) (nI ib) 60 0)), some (.int (nI p)), some (.int (nI (p + 1))), none, none]) C ⟨rfl, rfl, rfl, rfl, rfl, rfl, rfl, rfl, trivial⟩ ?_
          show g 0 0 (wC (up3 (up3 S 3 (up2 (up2 F 1 (upd (F 1) jc ((nI p) / 12))) 2 (upd (F 2) jc (rmI (nI p) 12)))) 7 (faT O (up2 (up2 F 1 (upd (F 1) jc ((nI p) / 12))) 2 (upd (F 2) jc (rmI (nI p) 12))) z jc 60))) 104 [some (.ref 0), some (.int (nI jc)), some (.int (nI ia)), some (.int (nI ib)), some (.int x), some (.int (arrT ((faT O (up2 (up2 F 1 (upd (F 1) jc ((nI p) / 12))) 2 (upd (F 2) jc (rmI (nI p) 12))) z jc 60) 1) z (nI ia) (nI ib) 60 0)), some (.int (nI p)), some (.int (nI (p + 1))), none, none] []
          exact ih (p + 1) _ _ _ _ (by omega) (arr_ok (by omega) (by omega) hab (by omega)) (okW_1 (by decide) (okW_1 (by decide) hF)) (faT_z hOO) (by rw [← hE, tsL, if_pos h_122]; simp only [if_pos h_160, ix60]; rw [if_neg h_206])
    · skip
      refine r_goto (pc := 125) (tgt := 217) C dX5_toSling_125 (by decide) ?_
      refine r_iinc (pc := 217) (v := nI (p + 1)) (lv' := [some (.ref 0), some (.int (nI jc)), some (.int (nI ia)), some (.int (nI ib)), some (.int x), some (.int best), some (.int trees), some (.int (nI (p + 1))), none, none]) C dX5_toSling_217 rfl (nI_1 p) trivial rfl ?_
      refine r_goto (pc := 220) (tgt := 104) C dX5_toSling_220 (by decide) ?_
      show g 0 0 (wC (up3 (up3 S 3 F) 7 O)) 104 [some (.ref 0), some (.int (nI jc)), some (.int (nI ia)), some (.int (nI ib)), some (.int x), some (.int best), some (.int trees), some (.int (nI (p + 1))), none, none] []
      exact ih (p + 1) _ _ _ _ (by omega) hbest hF hOO (by rw [← hE, tsL, if_neg h_122])
noncomputable def slingToC (S : Nat → Nat → Nat → Int32) (z : Nat) (c a b x : Int32) : Int32 × (Nat → Nat → Nat → Int32) := (if (twB S a b) = true then (if (twB S a c) = true then (if (twB S b c) = true then (if (belS x 2) = true then (toR (tsT z (ix c) (ix a) (ix b) 143 1 (arrT ((frT (S 7) (tkS (S 3) (S 2)) z 60) 1) z a b 60 0) ((12 * ((S 2) 1 (ix c))) + ((S 2) 2 (ix c))) (tkS (S 3) (S 2)) (frT (S 7) (tkS (S 3) (S 2)) z 60)).1 (tsT z (ix c) (ix a) (ix b) 143 1 (arrT ((frT (S 7) (tkS (S 3) (S 2)) z 60) 1) z a b 60 0) ((12 * ((S 2) 1 (ix c))) + ((S 2) 2 (ix c))) (tkS (S 3) (S 2)) (frT (S 7) (tkS (S 3) (S 2)) z 60)).2.1 x, (up3 (up3 S 3 (tsT z (ix c) (ix a) (ix b) 143 1 (arrT ((frT (S 7) (tkS (S 3) (S 2)) z 60) 1) z a b 60 0) ((12 * ((S 2) 1 (ix c))) + ((S 2) 2 (ix c))) (tkS (S 3) (S 2)) (frT (S 7) (tkS (S 3) (S 2)) z 60)).2.2.1) 7 (tsT z (ix c) (ix a) (ix b) 143 1 (arrT ((frT (S 7) (tkS (S 3) (S 2)) z 60) 1) z a b 60 0) ((12 * ((S 2) 1 (ix c))) + ((S 2) 2 (ix c))) (tkS (S 3) (S 2)) (frT (S 7) (tkS (S 3) (S 2)) z 60)).2.2.2)) else ((-1000001), S)) else ((-1000001), S)) else ((-1000001), S)) else ((-1000001), S))
set_option maxHeartbeats 4000000 in
set_option maxRecDepth 100000 in
theorem c_X5_toSling (S : Nat → Nat → Nat → Int32) (c a b x : Int32) (z : Nat) (hS : okS S z) (h52 : S 2 5 0 = 0 ∨ S 2 5 0 = 1) : MetA yX5_toSling (.code yX5_toSling cX5_toSling 10 (some .int) :: TT) rmX5_toSling [.ref 0, .int c, .int a, .int b, .int x] (wC S) (fun vr wr => vr = some (.int (slingToC S z c a b x).1) ∧ wr = wC (slingToC S z c a b x).2) 0 0 := by
  refine MetA.of_i (by decide) (fun _ => Nat.le_of_ble_eq_true rfl) (Nat.le_of_ble_eq_true rfl) (fun g C E => ?_)
  replace C : Sem cX5_toSling RX5 "toSling" 10 rmX5_toSling g := C
  show g 0 0 (wC S) 0 [some (.ref 0), some (.int c), some (.int a), some (.int b), some (.int x), none, none, none, none, none] []
  refine r_aload_n (pc := 0) C dX5_toSling_0 rfl rfl ?_
  refine r_iload_n (pc := 1) C dX5_toSling_1 rfl rfl ?_
  refine r_iload_n (pc := 2) C dX5_toSling_2 rfl rfl ?_
  refine r_callV0 (pc := 3) (As := [.int a, .int b]) (st := []) (θ' := wC S) C (c_X5_areTwo S a b) xm_X5_areTwo xk_X5_178 dX5_toSling_3 rfl rfl rfl rfl (Nat.le_of_ble_eq_true rfl) ⟨Nat.le_of_ble_eq_true rfl, Nat.le_of_ble_eq_true rfl⟩ ⟨rfl, rfl⟩ ⟨Nat.le_of_ble_eq_true rfl, Nat.le_of_ble_eq_true rfl⟩ rfl (Eq.trans (b := 55) rfl rfl) ?_
  show g 0 0 (wC S) 6 [some (.ref 0), some (.int c), some (.int a), some (.int b), some (.int x), none, none, none, none, none] [.int (bB (twB S a b))]
  refine r_if_eq (pc := 6) (tgt := 36) C dX5_toSling_6 (by decide) (fun h_6 => ?_) (fun h_6 => ?_)
  · replace h_6 := bB_f h_6
    refine r_ldc (pc := 36) (v := (-1000001)) C dX5_toSling_36 tw_216 ?_
    show g 0 0 (wC S) 38 [some (.ref 0), some (.int c), some (.int a), some (.int b), some (.int x), none, none, none, none, none] [.int (-1000001)]
    have hX : slingToC S z c a b x = ((-1000001), S) := by
      unfold slingToC
      rw [if_neg (nbt h_6)]
    exact E _ _ _ _ _ _ dX5_toSling_38 (Nat.le_refl _) (Nat.le_refl _) rfl ⟨by rw [hX], by rw [hX]⟩
  · replace h_6 := bB_t h_6
    obtain ⟨ia, ib, hia, hib, hab, rfl, rfl⟩ := tw_ex hS.1 (by have := hS.2.1; omega) h_6
    have hS6 := hS.2.1
    refine r_aload_n (pc := 9) C dX5_toSling_9 rfl rfl ?_
    refine r_iload_n (pc := 10) C dX5_toSling_10 rfl rfl ?_
    refine r_iload_n (pc := 11) C dX5_toSling_11 rfl rfl ?_
    refine r_callV0 (pc := 12) (As := [.int (nI ia), .int c]) (st := []) (θ' := wC S) C (c_X5_areTwo S (nI ia) c) xm_X5_areTwo xk_X5_178 dX5_toSling_12 rfl rfl rfl rfl (Nat.le_of_ble_eq_true rfl) ⟨Nat.le_of_ble_eq_true rfl, Nat.le_of_ble_eq_true rfl⟩ ⟨rfl, rfl⟩ ⟨Nat.le_of_ble_eq_true rfl, Nat.le_of_ble_eq_true rfl⟩ rfl (Eq.trans (b := 55) rfl rfl) ?_
    show g 0 0 (wC S) 15 [some (.ref 0), some (.int c), some (.int (nI ia)), some (.int (nI ib)), some (.int x), none, none, none, none, none] [.int (bB (twB S (nI ia) c))]
    refine r_if_eq (pc := 15) (tgt := 36) C dX5_toSling_15 (by decide) (fun h_15 => ?_) (fun h_15 => ?_)
    · replace h_15 := bB_f h_15
      refine r_ldc (pc := 36) (v := (-1000001)) C dX5_toSling_36 tw_216 ?_
      show g 0 0 (wC S) 38 [some (.ref 0), some (.int c), some (.int (nI ia)), some (.int (nI ib)), some (.int x), none, none, none, none, none] [.int (-1000001)]
      have hX : slingToC S z c (nI ia) (nI ib) x = ((-1000001), S) := by
        unfold slingToC
        (try rw [ix_nI (show ia < 2 ^ 31 by omega)])
        (try rw [ix_nI (show ib < 2 ^ 31 by omega)])
        rw [if_pos h_6, if_neg (nbt h_15)]
      exact E _ _ _ _ _ _ dX5_toSling_38 (Nat.le_refl _) (Nat.le_refl _) rfl ⟨by rw [hX], by rw [hX]⟩
    · replace h_15 := bB_t h_15
      obtain ⟨qa, jc, hqa, hjc, hqab, hqe, rfl⟩ := tw_ex hS.1 (by have := hS.2.1; omega) h_15
      refine r_aload_n (pc := 18) C dX5_toSling_18 rfl rfl ?_
      refine r_iload_n (pc := 19) C dX5_toSling_19 rfl rfl ?_
      refine r_iload_n (pc := 20) C dX5_toSling_20 rfl rfl ?_
      refine r_callV0 (pc := 21) (As := [.int (nI ib), .int (nI jc)]) (st := []) (θ' := wC S) C (c_X5_areTwo S (nI ib) (nI jc)) xm_X5_areTwo xk_X5_178 dX5_toSling_21 rfl rfl rfl rfl (Nat.le_of_ble_eq_true rfl) ⟨Nat.le_of_ble_eq_true rfl, Nat.le_of_ble_eq_true rfl⟩ ⟨rfl, rfl⟩ ⟨Nat.le_of_ble_eq_true rfl, Nat.le_of_ble_eq_true rfl⟩ rfl (Eq.trans (b := 55) rfl rfl) ?_
      show g 0 0 (wC S) 24 [some (.ref 0), some (.int (nI jc)), some (.int (nI ia)), some (.int (nI ib)), some (.int x), none, none, none, none, none] [.int (bB (twB S (nI ib) (nI jc)))]
      refine r_if_eq (pc := 24) (tgt := 36) C dX5_toSling_24 (by decide) (fun h_24 => ?_) (fun h_24 => ?_)
      · replace h_24 := bB_f h_24
        refine r_ldc (pc := 36) (v := (-1000001)) C dX5_toSling_36 tw_216 ?_
        show g 0 0 (wC S) 38 [some (.ref 0), some (.int (nI jc)), some (.int (nI ia)), some (.int (nI ib)), some (.int x), none, none, none, none, none] [.int (-1000001)]
        have hX : slingToC S z (nI jc) (nI ia) (nI ib) x = ((-1000001), S) := by
          unfold slingToC
          (try rw [ix_nI (show ia < 2 ^ 31 by omega)])
          (try rw [ix_nI (show ib < 2 ^ 31 by omega)])
          (try rw [ix_nI (show jc < 2 ^ 31 by omega)])
          rw [if_pos h_6, if_pos h_15, if_neg (nbt h_24)]
        exact E _ _ _ _ _ _ dX5_toSling_38 (Nat.le_refl _) (Nat.le_refl _) rfl ⟨by rw [hX], by rw [hX]⟩
      · replace h_24 := bB_t h_24
        refine r_iload (pc := 27) C dX5_toSling_27 rfl ?_
        refine r_iconst (pc := 29) (v := 2) C dX5_toSling_29 (by decide) ?_
        refine r_callS0 (pc := 30) (As := [.int x, .int 2]) (st := []) C (c_X5_isBelow x 2) xm_X5_isBelow xk_X5_59 dX5_toSling_30 (fun _ => rfl) (fun _ => rfl) rfl rfl (Nat.le_of_ble_eq_true rfl) ⟨Nat.le_of_ble_eq_true rfl, Nat.le_of_ble_eq_true rfl⟩ ⟨rfl, rfl⟩ ⟨Nat.le_of_ble_eq_true rfl, Nat.le_of_ble_eq_true rfl⟩ rfl ?_
        show g 0 0 (wC S) 33 [some (.ref 0), some (.int (nI jc)), some (.int (nI ia)), some (.int (nI ib)), some (.int x), none, none, none, none, none] [.int (bB (belS x 2))]
        refine r_if_ne (pc := 33) (tgt := 39) C dX5_toSling_33 (by decide) (fun h_33 => ?_) (fun h_33 => ?_)
        · replace h_33 := bB_t h_33
          refine r_aload_n (pc := 39) C dX5_toSling_39 rfl rfl ?_
          refine r_getfield (pc := 40) (v := .ref 26) C xf_X5_29 dX5_toSling_40 rfl rfl ?_
          refine r_aload_n (pc := 43) C dX5_toSling_43 rfl rfl ?_
          refine r_getfield (pc := 44) (v := .ref 20) C xf_X5_25 dX5_toSling_44 rfl rfl ?_
          refine r_callVD (pc := 47) (b := 26) (As := [.ref 20]) (st := []) (θ2 := wC (up3 S 3 (tkS (S 3) (S 2)))) (r2 := none) C [26, 27, 28, 29, 30, 31, 20, 21, 22, 23, 24, 25] (c_X1_takeFrom (S 3) (S 2) h52) xm_X1_takeFrom xk_X5_112 dX5_toSling_47 rfl (by decide) rfl rfl rfl rfl rfl (Nat.le_of_ble_eq_true rfl) ⟨Nat.le_of_ble_eq_true rfl, Nat.le_of_ble_eq_true rfl⟩ ⟨rfl, rfl⟩ ⟨Nat.le_of_ble_eq_true rfl, Nat.le_of_ble_eq_true rfl⟩ rfl (Eq.trans (b := 12) rfl rfl) rfl rfl ?_
          show g 0 0 (wC (up3 S 3 (tkS (S 3) (S 2)))) 50 [some (.ref 0), some (.int (nI jc)), some (.int (nI ia)), some (.int (nI ib)), some (.int x), none, none, none, none, none] []
          refine r_aload_n (pc := 50) C dX5_toSling_50 rfl rfl ?_
          refine r_getfield (pc := 51) (v := .ref 50) C xf_X5_46 dX5_toSling_51 rfl rfl ?_
          refine r_aload_n (pc := 54) C dX5_toSling_54 rfl rfl ?_
          refine r_getfield (pc := 55) (v := .ref 26) C xf_X5_29 dX5_toSling_55 rfl rfl ?_
          refine r_bipush (pc := 58) (v := 60) C dX5_toSling_58 (by decide) ?_
          refine r_callVD (pc := 60) (b := 50) (As := [.ref 26, .int 60]) (st := []) (θ2 := wC (up3 (up3 S 3 (tkS (S 3) (S 2))) 7 (frT (S 7) (tkS (S 3) (S 2)) z 60))) (r2 := none) C [50, 51, 52, 53, 26, 27, 28, 29, 30, 31] (c_X2_foreseeT (S 7) (tkS (S 3) (S 2)) 60 (by omega) (okW_tk hS.2.2) z hS.1 hS.2.1) xm_X2_foresee xk_X5_188 dX5_toSling_60 rfl (by decide) rfl rfl rfl rfl rfl (Nat.le_of_ble_eq_true rfl) ⟨Nat.le_of_ble_eq_true rfl, Nat.le_of_ble_eq_true rfl⟩ ⟨rfl, rfl⟩ ⟨Nat.le_of_ble_eq_true rfl, Nat.le_of_ble_eq_true rfl⟩ rfl (Eq.trans (b := 10) rfl rfl) rfl rfl ?_
          show g 0 0 (wC (up3 (up3 S 3 (tkS (S 3) (S 2))) 7 (frT (S 7) (tkS (S 3) (S 2)) z 60))) 63 [some (.ref 0), some (.int (nI jc)), some (.int (nI ia)), some (.int (nI ib)), some (.int x), none, none, none, none, none] []
          refine r_aload_n (pc := 63) C dX5_toSling_63 rfl rfl ?_
          refine r_getfield (pc := 64) (v := .ref 50) C xf_X5_46 dX5_toSling_64 rfl rfl ?_
          refine r_iload_n (pc := 67) C dX5_toSling_67 rfl rfl ?_
          refine r_iload_n (pc := 68) C dX5_toSling_68 rfl rfl ?_
          refine r_bipush (pc := 69) (v := 60) C dX5_toSling_69 (by decide) ?_
          refine r_iconst (pc := 71) (v := 0) C dX5_toSling_71 (by decide) ?_
          refine r_callVD (pc := 72) (b := 50) (As := [.int (nI ia), .int (nI ib), .int 60, .int 0]) (st := []) (θ2 := wC (up3 (up3 S 3 (tkS (S 3) (S 2))) 7 (frT (S 7) (tkS (S 3) (S 2)) z 60))) (r2 := some (.int (arrT ((frT (S 7) (tkS (S 3) (S 2)) z 60) 1) z (nI ia) (nI ib) 60 0))) C [50, 51, 52, 53] (c_X2_arrivalT (frT (S 7) (tkS (S 3) (S 2)) z 60) (nI ia) (nI ib) 60 (by omega) 0 z (frT_z _ _ _ _) hS.2.1) xm_X2_arrival xk_X5_192 dX5_toSling_72 rfl (by decide) rfl rfl rfl rfl rfl (Nat.le_of_ble_eq_true rfl) ⟨Nat.le_of_ble_eq_true rfl, Nat.le_of_ble_eq_true rfl⟩ ⟨rfl, rfl⟩ ⟨Nat.le_of_ble_eq_true rfl, Nat.le_of_ble_eq_true rfl⟩ rfl (Eq.trans (b := 4) rfl rfl) rfl rfl ?_
          show g 0 0 (wC (up3 (up3 S 3 (tkS (S 3) (S 2))) 7 (frT (S 7) (tkS (S 3) (S 2)) z 60))) 75 [some (.ref 0), some (.int (nI jc)), some (.int (nI ia)), some (.int (nI ib)), some (.int x), none, none, none, none, none] [.int (arrT ((frT (S 7) (tkS (S 3) (S 2)) z 60) 1) z (nI ia) (nI ib) 60 0)]
          refine r_istore (pc := 75) (lv' := [some (.ref 0), some (.int (nI jc)), some (.int (nI ia)), some (.int (nI ib)), some (.int x), some (.int (arrT ((frT (S 7) (tkS (S 3) (S 2)) z 60) 1) z (nI ia) (nI ib) 60 0)), none, none, none, none]) C dX5_toSling_75 (Nat.le_of_ble_eq_true rfl) trivial rfl ?_
          refine r_bipush (pc := 77) (v := 12) C dX5_toSling_77 (by decide) ?_
          refine r_aload_n (pc := 79) C dX5_toSling_79 rfl rfl ?_
          refine r_getfield (pc := 80) (v := .ref 20) C xf_X5_25 dX5_toSling_80 rfl rfl ?_
          refine r_getfield (pc := 83) (v := .ref 22) C xf_X5_141 dX5_toSling_83 rfl rfl ?_
          refine r_iload_n (pc := 86) C dX5_toSling_86 rfl rfl ?_
          refine r_iaload (pc := 87) (v := (S 2) 1 jc) C jc dX5_toSling_87 rfl rfl (by first | assumption | omega) rfl ?_
          refine r_imul (pc := 88) C dX5_toSling_88 ?_
          refine r_aload_n (pc := 89) C dX5_toSling_89 rfl rfl ?_
          refine r_getfield (pc := 90) (v := .ref 20) C xf_X5_25 dX5_toSling_90 rfl rfl ?_
          refine r_getfield (pc := 93) (v := .ref 23) C xf_X5_144 dX5_toSling_93 rfl rfl ?_
          refine r_iload_n (pc := 96) C dX5_toSling_96 rfl rfl ?_
          refine r_iaload (pc := 97) (v := (S 2) 2 jc) C jc dX5_toSling_97 rfl rfl (by first | assumption | omega) rfl ?_
          refine r_iadd (pc := 98) C dX5_toSling_98 ?_
          refine r_istore (pc := 99) (lv' := [some (.ref 0), some (.int (nI jc)), some (.int (nI ia)), some (.int (nI ib)), some (.int x), some (.int (arrT ((frT (S 7) (tkS (S 3) (S 2)) z 60) 1) z (nI ia) (nI ib) 60 0)), some (.int ((12 * ((S 2) 1 jc)) + ((S 2) 2 jc))), none, none, none]) C dX5_toSling_99 (Nat.le_of_ble_eq_true rfl) trivial rfl ?_
          refine r_iconst (pc := 101) (v := 1) C dX5_toSling_101 (by decide) ?_
          refine r_istore (pc := 102) (lv' := [some (.ref 0), some (.int (nI jc)), some (.int (nI ia)), some (.int (nI ib)), some (.int x), some (.int (arrT ((frT (S 7) (tkS (S 3) (S 2)) z 60) 1) z (nI ia) (nI ib) 60 0)), some (.int ((12 * ((S 2) 1 jc)) + ((S 2) 2 jc))), some (.int 1), none, none]) C dX5_toSling_102 (Nat.le_of_ble_eq_true rfl) trivial rfl ?_
          show g 0 0 (wC (up3 (up3 S 3 (tkS (S 3) (S 2))) 7 (frT (S 7) (tkS (S 3) (S 2)) z 60))) 104 [some (.ref 0), some (.int (nI jc)), some (.int (nI ia)), some (.int (nI ib)), some (.int x), some (.int (arrT ((frT (S 7) (tkS (S 3) (S 2)) z 60) 1) z (nI ia) (nI ib) 60 0)), some (.int ((12 * ((S 2) 1 jc)) + ((S 2) 2 jc))), some (.int 1), none, none] []
          have hX : slingToC S z (nI jc) (nI ia) (nI ib) x = (toR (tsT z jc ia ib 143 1 (arrT ((frT (S 7) (tkS (S 3) (S 2)) z 60) 1) z (nI ia) (nI ib) 60 0) ((12 * ((S 2) 1 jc)) + ((S 2) 2 jc)) (tkS (S 3) (S 2)) (frT (S 7) (tkS (S 3) (S 2)) z 60)).1 (tsT z jc ia ib 143 1 (arrT ((frT (S 7) (tkS (S 3) (S 2)) z 60) 1) z (nI ia) (nI ib) 60 0) ((12 * ((S 2) 1 jc)) + ((S 2) 2 jc)) (tkS (S 3) (S 2)) (frT (S 7) (tkS (S 3) (S 2)) z 60)).2.1 x, (up3 (up3 S 3 (tsT z jc ia ib 143 1 (arrT ((frT (S 7) (tkS (S 3) (S 2)) z 60) 1) z (nI ia) (nI ib) 60 0) ((12 * ((S 2) 1 jc)) + ((S 2) 2 jc)) (tkS (S 3) (S 2)) (frT (S 7) (tkS (S 3) (S 2)) z 60)).2.2.1) 7 (tsT z jc ia ib 143 1 (arrT ((frT (S 7) (tkS (S 3) (S 2)) z 60) 1) z (nI ia) (nI ib) 60 0) ((12 * ((S 2) 1 jc)) + ((S 2) 2 jc)) (tkS (S 3) (S 2)) (frT (S 7) (tkS (S 3) (S 2)) z 60)).2.2.2)) := by
            unfold slingToC
            (try rw [ix_nI (show ia < 2 ^ 31 by omega)])
            (try rw [ix_nI (show ib < 2 ^ 31 by omega)])
            (try rw [ix_nI (show jc < 2 ^ 31 by omega)])
            rw [if_pos h_6, if_pos h_15, if_pos h_24, if_pos h_33]
          rw [hX] at E
          exact lp_X5_toSling S z hS ia ib jc hia hib hjc hab x (arrT ((frT (S 7) (tkS (S 3) (S 2)) z 60) 1) z (nI ia) (nI ib) 60 0) ((12 * ((S 2) 1 jc)) + ((S 2) 2 jc)) (tkS (S 3) (S 2)) (frT (S 7) (tkS (S 3) (S 2)) z 60) C E 143 1 _ _ _ _ (by omega) (arr_ok (by omega) (by omega) hab (by omega)) (okW_tk hS.2.2) (frT_z _ _ _ _) (by rw [tsT_eq])
        · replace h_33 := bB_f h_33
          refine r_ldc (pc := 36) (v := (-1000001)) C dX5_toSling_36 tw_216 ?_
          show g 0 0 (wC S) 38 [some (.ref 0), some (.int (nI jc)), some (.int (nI ia)), some (.int (nI ib)), some (.int x), none, none, none, none, none] [.int (-1000001)]
          have hX : slingToC S z (nI jc) (nI ia) (nI ib) x = ((-1000001), S) := by
            unfold slingToC
            (try rw [ix_nI (show ia < 2 ^ 31 by omega)])
            (try rw [ix_nI (show ib < 2 ^ 31 by omega)])
            (try rw [ix_nI (show jc < 2 ^ 31 by omega)])
            rw [if_pos h_6, if_pos h_15, if_pos h_24, if_neg (nbt h_33)]
          exact E _ _ _ _ _ _ dX5_toSling_38 (Nat.le_refl _) (Nat.le_refl _) rfl ⟨by rw [hX], by rw [hX]⟩
