noncomputable def stP (S : Nat → Nat → Nat → Int32) (z ia ib jd : Nat) : Int32 := bitsS (fun c => !decide (c = ia) && (!decide (c = ib) && decide (arrT (S 7 1) z (nI ia) (nI ib) jd (1 <<< (nI c &&& 31)) = -1000000))) z
set_option maxHeartbeats 4000000 in
set_option maxRecDepth 100000 in
theorem lp_X5_stops (S : Nat → Nat → Nat → Int32) (z : Nat) (hS : okS S z) (hO : S 7 3 0 = nI z) (ia ib jd : Nat) (hia : ia < z) (hib : ib < z) (hjd : jd ≤ 60) {g : Nat → Nat → List xE → Nat → List (Option Value) → List Value → Prop} (C : Sem cX5_stops RX5 "stops" 6 rmX5_stops g) (E : xEi g cX5_stops .int 0 0 (fun vr wr => vr = some (.int (stP S z ia ib jd)) ∧ wr = wC S)) : ∀ (n : Nat) (c : Nat), c + n = z → g 0 0 (wC S) 55 [some (.ref 0), some (.int (nI ia)), some (.int (nI ib)), some (.int (nI jd)), some (.int (bitsS (fun c => !decide (c = ia) && (!decide (c = ib) && decide (arrT (S 7 1) z (nI ia) (nI ib) jd (1 <<< (nI c &&& 31)) = -1000000))) c)), some (.int (nI c))] [] := by
  intro n
  induction n with
  | zero =>
    intro c hc
    have hS6 := hS.2.1
    obtain rfl : c = z := by omega
    refine r_iload (pc := 55) C dX5_stops_55 rfl ?_
    refine r_aload_n (pc := 57) C dX5_stops_57 rfl rfl ?_
    refine r_getfield (pc := 58) (v := .ref 20) C xf_X5_25 dX5_stops_58 rfl rfl ?_
    refine r_getfield (pc := 61) (v := .int ((S 2) 9 0)) C xf_X5_119 dX5_stops_61 rfl rfl ?_
    refine r_icmp_ge (pc := 64) (tgt := 113) C dX5_stops_64 (by decide) (fun _ => ?_) (fun h => absurd (by rw [hS.1]; exact nI_le (by omega) (by omega)) h)
    refine r_iload (pc := 113) C dX5_stops_113 rfl ?_
    exact E _ _ _ _ _ _ dX5_stops_115 (Nat.le_refl _) (Nat.le_refl _) rfl ⟨rfl, rfl⟩
  | succ n ih =>
    intro c hc
    have hS6 := hS.2.1
    refine r_iload (pc := 55) C dX5_stops_55 rfl ?_
    refine r_aload_n (pc := 57) C dX5_stops_57 rfl rfl ?_
    refine r_getfield (pc := 58) (v := .ref 20) C xf_X5_25 dX5_stops_58 rfl rfl ?_
    refine r_getfield (pc := 61) (v := .int ((S 2) 9 0)) C xf_X5_119 dX5_stops_61 rfl rfl ?_
    refine r_icmp_ge (pc := 64) (tgt := 113) C dX5_stops_64 (by decide) (fun h => absurd h (by rw [hS.1]; exact nI_ge (by omega) (by omega))) (fun _ => ?_)
    refine r_iload (pc := 67) C dX5_stops_67 rfl ?_
    refine r_iload_n (pc := 69) C dX5_stops_69 rfl rfl ?_
    refine r_icmp_eq (pc := 70) (tgt := 107) C dX5_stops_70 (by decide) (fun h_70 => ?_) (fun h_70 => ?_)
    · skip
      replace h_70 := (nI_eq (by omega) (by omega)).mp h_70
      refine r_iinc (pc := 107) (v := nI (c + 1)) (lv' := [some (.ref 0), some (.int (nI ia)), some (.int (nI ib)), some (.int (nI jd)), some (.int (bitsS (fun c => !decide (c = ia) && (!decide (c = ib) && decide (arrT (S 7 1) z (nI ia) (nI ib) jd (1 <<< (nI c &&& 31)) = -1000000))) c)), some (.int (nI (c + 1)))]) C dX5_stops_107 rfl (nI_1 c) trivial rfl ?_
      refine r_goto (pc := 110) (tgt := 55) C dX5_stops_110 (by decide) ?_
      show g 0 0 (wC S) 55 [some (.ref 0), some (.int (nI ia)), some (.int (nI ib)), some (.int (nI jd)), some (.int (bitsS (fun c => !decide (c = ia) && (!decide (c = ib) && decide (arrT (S 7 1) z (nI ia) (nI ib) jd (1 <<< (nI c &&& 31)) = -1000000))) c)), some (.int (nI (c + 1)))] []
      rw [show (bitsS (fun c => !decide (c = ia) && (!decide (c = ib) && decide (arrT (S 7 1) z (nI ia) (nI ib) jd (1 <<< (nI c &&& 31)) = -1000000))) c : Int32) = bitsS (fun c => !decide (c = ia) && (!decide (c = ib) && decide (arrT (S 7 1) z (nI ia) (nI ib) jd (1 <<< (nI c &&& 31)) = -1000000))) (c + 1) from by simp only [bitsS, h_70, decide_true, decide_false, Bool.not_true, Bool.not_false, Bool.true_and, Bool.false_and, Bool.and_true, Bool.and_false, Bool.false_eq_true, if_true, if_false, eq_self]]
      exact ih (c + 1) (by omega)
    · skip
      replace h_70 : ¬ c = ia := fun q => h_70 (congrArg nI q)
      refine r_iload (pc := 73) C dX5_stops_73 rfl ?_
      refine r_iload_n (pc := 75) C dX5_stops_75 rfl rfl ?_
      refine r_icmp_eq (pc := 76) (tgt := 107) C dX5_stops_76 (by decide) (fun h_76 => ?_) (fun h_76 => ?_)
      · skip
        replace h_76 := (nI_eq (by omega) (by omega)).mp h_76
        refine r_iinc (pc := 107) (v := nI (c + 1)) (lv' := [some (.ref 0), some (.int (nI ia)), some (.int (nI ib)), some (.int (nI jd)), some (.int (bitsS (fun c => !decide (c = ia) && (!decide (c = ib) && decide (arrT (S 7 1) z (nI ia) (nI ib) jd (1 <<< (nI c &&& 31)) = -1000000))) c)), some (.int (nI (c + 1)))]) C dX5_stops_107 rfl (nI_1 c) trivial rfl ?_
        refine r_goto (pc := 110) (tgt := 55) C dX5_stops_110 (by decide) ?_
        show g 0 0 (wC S) 55 [some (.ref 0), some (.int (nI ia)), some (.int (nI ib)), some (.int (nI jd)), some (.int (bitsS (fun c => !decide (c = ia) && (!decide (c = ib) && decide (arrT (S 7 1) z (nI ia) (nI ib) jd (1 <<< (nI c &&& 31)) = -1000000))) c)), some (.int (nI (c + 1)))] []
        rw [show (bitsS (fun c => !decide (c = ia) && (!decide (c = ib) && decide (arrT (S 7 1) z (nI ia) (nI ib) jd (1 <<< (nI c &&& 31)) = -1000000))) c : Int32) = bitsS (fun c => !decide (c = ia) && (!decide (c = ib) && decide (arrT (S 7 1) z (nI ia) (nI ib) jd (1 <<< (nI c &&& 31)) = -1000000))) (c + 1) from by simp only [bitsS, h_70, h_76, decide_true, decide_false, Bool.not_true, Bool.not_false, Bool.true_and, Bool.false_and, Bool.and_true, Bool.and_false, Bool.false_eq_true, if_true, if_false, eq_self]]
        exact ih (c + 1) (by omega)
      · skip
        replace h_76 : ¬ c = ib := fun q => h_76 (congrArg nI q)
        refine r_aload_n (pc := 79) C dX5_stops_79 rfl rfl ?_
        refine r_getfield (pc := 80) (v := .ref 50) C xf_X5_46 dX5_stops_80 rfl rfl ?_
        refine r_iload_n (pc := 83) C dX5_stops_83 rfl rfl ?_
        refine r_iload_n (pc := 84) C dX5_stops_84 rfl rfl ?_
        refine r_iload_n (pc := 85) C dX5_stops_85 rfl rfl ?_
        refine r_iconst (pc := 86) (v := 1) C dX5_stops_86 (by decide) ?_
        refine r_iload (pc := 87) C dX5_stops_87 rfl ?_
        refine r_ishl (pc := 89) C dX5_stops_89 ?_
        refine r_callVD (pc := 90) (b := 50) (As := [.int (nI ia), .int (nI ib), .int (nI jd), .int (1 <<< ((nI c) &&& 31))]) (st := []) (θ2 := wC S) (r2 := some (.int (arrT ((S 7) 1) z (nI ia) (nI ib) jd (1 <<< ((nI c) &&& 31))))) C [50, 51, 52, 53] (c_X2_arrivalT (S 7) (nI ia) (nI ib) jd (by omega) (1 <<< ((nI c) &&& 31)) z hO hS.2.1) xm_X2_arrival xk_X5_192 dX5_stops_90 rfl (by decide) rfl rfl rfl rfl rfl (Nat.le_of_ble_eq_true rfl) ⟨Nat.le_of_ble_eq_true rfl, Nat.le_of_ble_eq_true rfl⟩ ⟨rfl, rfl⟩ ⟨Nat.le_of_ble_eq_true rfl, Nat.le_of_ble_eq_true rfl⟩ rfl (Eq.trans (b := 4) rfl rfl) rfl rfl ?_
        show g 0 0 (wC S) 93 [some (.ref 0), some (.int (nI ia)), some (.int (nI ib)), some (.int (nI jd)), some (.int (bitsS (fun c => !decide (c = ia) && (!decide (c = ib) && decide (arrT (S 7 1) z (nI ia) (nI ib) jd (1 <<< (nI c &&& 31)) = -1000000))) c)), some (.int (nI c))] [.int (arrT ((S 7) 1) z (nI ia) (nI ib) jd (1 <<< ((nI c) &&& 31)))]
        refine r_ldc (pc := 93) (v := (-1000000)) C dX5_stops_93 tw_426 ?_
        refine r_icmp_ne (pc := 95) (tgt := 107) C dX5_stops_95 (by decide) (fun h_95 => ?_) (fun h_95 => ?_)
        · skip
          refine r_iinc (pc := 107) (v := nI (c + 1)) (lv' := [some (.ref 0), some (.int (nI ia)), some (.int (nI ib)), some (.int (nI jd)), some (.int (bitsS (fun c => !decide (c = ia) && (!decide (c = ib) && decide (arrT (S 7 1) z (nI ia) (nI ib) jd (1 <<< (nI c &&& 31)) = -1000000))) c)), some (.int (nI (c + 1)))]) C dX5_stops_107 rfl (nI_1 c) trivial rfl ?_
          refine r_goto (pc := 110) (tgt := 55) C dX5_stops_110 (by decide) ?_
          show g 0 0 (wC S) 55 [some (.ref 0), some (.int (nI ia)), some (.int (nI ib)), some (.int (nI jd)), some (.int (bitsS (fun c => !decide (c = ia) && (!decide (c = ib) && decide (arrT (S 7 1) z (nI ia) (nI ib) jd (1 <<< (nI c &&& 31)) = -1000000))) c)), some (.int (nI (c + 1)))] []
          rw [show (bitsS (fun c => !decide (c = ia) && (!decide (c = ib) && decide (arrT (S 7 1) z (nI ia) (nI ib) jd (1 <<< (nI c &&& 31)) = -1000000))) c : Int32) = bitsS (fun c => !decide (c = ia) && (!decide (c = ib) && decide (arrT (S 7 1) z (nI ia) (nI ib) jd (1 <<< (nI c &&& 31)) = -1000000))) (c + 1) from by simp only [bitsS, h_70, h_76, h_95, decide_true, decide_false, Bool.not_true, Bool.not_false, Bool.true_and, Bool.false_and, Bool.and_true, Bool.and_false, Bool.false_eq_true, if_true, if_false, eq_self]]
          exact ih (c + 1) (by omega)
        · skip
          refine r_iload (pc := 98) C dX5_stops_98 rfl ?_
          refine r_iconst (pc := 100) (v := 1) C dX5_stops_100 (by decide) ?_
          refine r_iload (pc := 101) C dX5_stops_101 rfl ?_
          refine r_ishl (pc := 103) C dX5_stops_103 ?_
          refine r_ior (pc := 104) C dX5_stops_104 ?_
          refine r_istore (pc := 105) (lv' := [some (.ref 0), some (.int (nI ia)), some (.int (nI ib)), some (.int (nI jd)), some (.int ((bitsS (fun c => !decide (c = ia) && (!decide (c = ib) && decide (arrT (S 7 1) z (nI ia) (nI ib) jd (1 <<< (nI c &&& 31)) = -1000000))) c) ||| (1 <<< ((nI c) &&& 31)))), some (.int (nI c))]) C dX5_stops_105 (Nat.le_of_ble_eq_true rfl) trivial rfl ?_
          refine r_iinc (pc := 107) (v := nI (c + 1)) (lv' := [some (.ref 0), some (.int (nI ia)), some (.int (nI ib)), some (.int (nI jd)), some (.int ((bitsS (fun c => !decide (c = ia) && (!decide (c = ib) && decide (arrT (S 7 1) z (nI ia) (nI ib) jd (1 <<< (nI c &&& 31)) = -1000000))) c) ||| (1 <<< ((nI c) &&& 31)))), some (.int (nI (c + 1)))]) C dX5_stops_107 rfl (nI_1 c) trivial rfl ?_
          refine r_goto (pc := 110) (tgt := 55) C dX5_stops_110 (by decide) ?_
          show g 0 0 (wC S) 55 [some (.ref 0), some (.int (nI ia)), some (.int (nI ib)), some (.int (nI jd)), some (.int ((bitsS (fun c => !decide (c = ia) && (!decide (c = ib) && decide (arrT (S 7 1) z (nI ia) (nI ib) jd (1 <<< (nI c &&& 31)) = -1000000))) c) ||| (1 <<< ((nI c) &&& 31)))), some (.int (nI (c + 1)))] []
          rw [show ((bitsS (fun c => !decide (c = ia) && (!decide (c = ib) && decide (arrT (S 7 1) z (nI ia) (nI ib) jd (1 <<< (nI c &&& 31)) = -1000000))) c) ||| (1 <<< ((nI c) &&& 31)) : Int32) = bitsS (fun c => !decide (c = ia) && (!decide (c = ib) && decide (arrT (S 7 1) z (nI ia) (nI ib) jd (1 <<< (nI c &&& 31)) = -1000000))) (c + 1) from by simp only [bitsS, h_70, h_76, h_95, decide_true, decide_false, Bool.not_true, Bool.not_false, Bool.true_and, Bool.false_and, Bool.and_true, Bool.and_false, Bool.false_eq_true, if_true, if_false, eq_self]]
          exact ih (c + 1) (by omega)
noncomputable def stopsC (S : Nat → Nat → Nat → Int32) (z : Nat) (a b d : Int32) : Int32 × (Nat → Nat → Nat → Int32) := (if (twB S a b) = true then (if (ahB d) = true then (if (arrT ((frT (S 7) (S 2) z (ix d)) 1) z a b (ix d) 0) = (-1000000) then (0, (up3 S 7 (frT (S 7) (S 2) z (ix d)))) else (stP (up3 S 7 (frT (S 7) (S 2) z (ix d))) z (ix a) (ix b) (ix d), (up3 S 7 (frT (S 7) (S 2) z (ix d))))) else ((-1000001), S)) else ((-1000001), S))
set_option maxHeartbeats 4000000 in
set_option maxRecDepth 100000 in
theorem c_X5_stops (S : Nat → Nat → Nat → Int32) (a b d : Int32) (z : Nat) (hS : okS S z) : MetA yX5_stops (.code yX5_stops cX5_stops 6 (some .int) :: TT) rmX5_stops [.ref 0, .int a, .int b, .int d] (wC S) (fun vr wr => vr = some (.int (stopsC S z a b d).1) ∧ wr = wC (stopsC S z a b d).2) 0 0 := by
  refine MetA.of_i (by decide) (fun _ => Nat.le_of_ble_eq_true rfl) (Nat.le_of_ble_eq_true rfl) (fun g C E => ?_)
  replace C : Sem cX5_stops RX5 "stops" 6 rmX5_stops g := C
  show g 0 0 (wC S) 0 [some (.ref 0), some (.int a), some (.int b), some (.int d), none, none] []
  refine r_aload_n (pc := 0) C dX5_stops_0 rfl rfl ?_
  refine r_iload_n (pc := 1) C dX5_stops_1 rfl rfl ?_
  refine r_iload_n (pc := 2) C dX5_stops_2 rfl rfl ?_
  refine r_callV0 (pc := 3) (As := [.int a, .int b]) (st := []) (θ' := wC S) C (c_X5_areTwo S a b) xm_X5_areTwo xk_X5_178 dX5_stops_3 rfl rfl rfl rfl (Nat.le_of_ble_eq_true rfl) ⟨Nat.le_of_ble_eq_true rfl, Nat.le_of_ble_eq_true rfl⟩ ⟨rfl, rfl⟩ ⟨Nat.le_of_ble_eq_true rfl, Nat.le_of_ble_eq_true rfl⟩ rfl (Eq.trans (b := 55) rfl rfl) ?_
  show g 0 0 (wC S) 6 [some (.ref 0), some (.int a), some (.int b), some (.int d), none, none] [.int (bB (twB S a b))]
  refine r_if_eq (pc := 6) (tgt := 16) C dX5_stops_6 (by decide) (fun h_6 => ?_) (fun h_6 => ?_)
  · replace h_6 := bB_f h_6
    refine r_ldc (pc := 16) (v := (-1000001)) C dX5_stops_16 tw_216 ?_
    show g 0 0 (wC S) 18 [some (.ref 0), some (.int a), some (.int b), some (.int d), none, none] [.int (-1000001)]
    have hX : stopsC S z a b d = ((-1000001), S) := by
      unfold stopsC
      rw [if_neg (nbt h_6)]
    exact E _ _ _ _ _ _ dX5_stops_18 (Nat.le_refl _) (Nat.le_refl _) rfl ⟨by rw [hX], by rw [hX]⟩
  · replace h_6 := bB_t h_6
    obtain ⟨ia, ib, hia, hib, hiaib, rfl, rfl⟩ := tw_ex hS.1 (by have := hS.2.1; omega) h_6
    have hS6 := hS.2.1
    refine r_iload_n (pc := 9) C dX5_stops_9 rfl rfl ?_
    refine r_callS0 (pc := 10) (As := [.int d]) (st := []) C (c_X5_isAhead d) xm_X5_isAhead xk_X5_172 dX5_stops_10 (fun _ => rfl) (fun _ => rfl) rfl rfl (Nat.le_of_ble_eq_true rfl) ⟨Nat.le_of_ble_eq_true rfl, Nat.le_of_ble_eq_true rfl⟩ ⟨rfl, rfl⟩ ⟨Nat.le_of_ble_eq_true rfl, Nat.le_of_ble_eq_true rfl⟩ rfl ?_
    show g 0 0 (wC S) 13 [some (.ref 0), some (.int (nI ia)), some (.int (nI ib)), some (.int d), none, none] [.int (bB (ahB d))]
    refine r_if_ne (pc := 13) (tgt := 19) C dX5_stops_13 (by decide) (fun h_13 => ?_) (fun h_13 => ?_)
    · replace h_13 := bB_t h_13
      obtain ⟨jd, hjd, rfl⟩ := ah_ex h_13
      refine r_aload_n (pc := 19) C dX5_stops_19 rfl rfl ?_
      refine r_getfield (pc := 20) (v := .ref 50) C xf_X5_46 dX5_stops_20 rfl rfl ?_
      refine r_aload_n (pc := 23) C dX5_stops_23 rfl rfl ?_
      refine r_getfield (pc := 24) (v := .ref 20) C xf_X5_25 dX5_stops_24 rfl rfl ?_
      refine r_iload_n (pc := 27) C dX5_stops_27 rfl rfl ?_
      refine r_callVD (pc := 28) (b := 50) (As := [.ref 20, .int (nI jd)]) (st := []) (θ2 := wC (up3 S 7 (frT (S 7) (S 2) z jd))) (r2 := none) C [50, 51, 52, 53, 20, 21, 22, 23, 24, 25] (c_X2_foreseeT (S 7) (S 2) jd (by omega) hS.2.2 z hS.1 hS.2.1) xm_X2_foresee xk_X5_188 dX5_stops_28 rfl (by decide) rfl rfl rfl rfl rfl (Nat.le_of_ble_eq_true rfl) ⟨Nat.le_of_ble_eq_true rfl, Nat.le_of_ble_eq_true rfl⟩ ⟨rfl, rfl⟩ ⟨Nat.le_of_ble_eq_true rfl, Nat.le_of_ble_eq_true rfl⟩ rfl (Eq.trans (b := 10) rfl rfl) rfl rfl ?_
      show g 0 0 (wC (up3 S 7 (frT (S 7) (S 2) z jd))) 31 [some (.ref 0), some (.int (nI ia)), some (.int (nI ib)), some (.int (nI jd)), none, none] []
      refine r_aload_n (pc := 31) C dX5_stops_31 rfl rfl ?_
      refine r_getfield (pc := 32) (v := .ref 50) C xf_X5_46 dX5_stops_32 rfl rfl ?_
      refine r_iload_n (pc := 35) C dX5_stops_35 rfl rfl ?_
      refine r_iload_n (pc := 36) C dX5_stops_36 rfl rfl ?_
      refine r_iload_n (pc := 37) C dX5_stops_37 rfl rfl ?_
      refine r_iconst (pc := 38) (v := 0) C dX5_stops_38 (by decide) ?_
      refine r_callVD (pc := 39) (b := 50) (As := [.int (nI ia), .int (nI ib), .int (nI jd), .int 0]) (st := []) (θ2 := wC (up3 S 7 (frT (S 7) (S 2) z jd))) (r2 := some (.int (arrT ((frT (S 7) (S 2) z jd) 1) z (nI ia) (nI ib) jd 0))) C [50, 51, 52, 53] (c_X2_arrivalT (frT (S 7) (S 2) z jd) (nI ia) (nI ib) jd (by omega) 0 z (frT_z _ _ _ _) hS.2.1) xm_X2_arrival xk_X5_192 dX5_stops_39 rfl (by decide) rfl rfl rfl rfl rfl (Nat.le_of_ble_eq_true rfl) ⟨Nat.le_of_ble_eq_true rfl, Nat.le_of_ble_eq_true rfl⟩ ⟨rfl, rfl⟩ ⟨Nat.le_of_ble_eq_true rfl, Nat.le_of_ble_eq_true rfl⟩ rfl (Eq.trans (b := 4) rfl rfl) rfl rfl ?_
      show g 0 0 (wC (up3 S 7 (frT (S 7) (S 2) z jd))) 42 [some (.ref 0), some (.int (nI ia)), some (.int (nI ib)), some (.int (nI jd)), none, none] [.int (arrT ((frT (S 7) (S 2) z jd) 1) z (nI ia) (nI ib) jd 0)]
      refine r_ldc (pc := 42) (v := (-1000000)) C dX5_stops_42 tw_426 ?_
      refine r_icmp_ne (pc := 44) (tgt := 49) C dX5_stops_44 (by decide) (fun h_44 => ?_) (fun h_44 => ?_)
      · skip
        refine r_iconst (pc := 49) (v := 0) C dX5_stops_49 (by decide) ?_
        refine r_istore (pc := 50) (lv' := [some (.ref 0), some (.int (nI ia)), some (.int (nI ib)), some (.int (nI jd)), some (.int 0), none]) C dX5_stops_50 (Nat.le_of_ble_eq_true rfl) trivial rfl ?_
        refine r_iconst (pc := 52) (v := 0) C dX5_stops_52 (by decide) ?_
        refine r_istore (pc := 53) (lv' := [some (.ref 0), some (.int (nI ia)), some (.int (nI ib)), some (.int (nI jd)), some (.int 0), some (.int 0)]) C dX5_stops_53 (Nat.le_of_ble_eq_true rfl) trivial rfl ?_
        have hX : stopsC S z (nI ia) (nI ib) (nI jd) = (stP (up3 S 7 (frT (S 7) (S 2) z jd)) z ia ib jd, (up3 S 7 (frT (S 7) (S 2) z jd))) := by
          unfold stopsC
          (try rw [ix_nI (show ia < 2 ^ 31 by omega)])
          (try rw [ix_nI (show ib < 2 ^ 31 by omega)])
          (try rw [ix_nI (show jd < 2 ^ 31 by omega)])
          rw [if_pos h_6, if_pos h_13, if_neg h_44]
        rw [hX] at E
        show g 0 0 (wC (up3 S 7 (frT (S 7) (S 2) z jd))) 55 [some (.ref 0), some (.int (nI ia)), some (.int (nI ib)), some (.int (nI jd)), some (.int 0), some (.int 0)] []
        exact lp_X5_stops (up3 S 7 (frT (S 7) (S 2) z jd)) z hS (frT_z _ _ _ _) ia ib jd hia hib hjd C E z 0 (by omega)
      · skip
        refine r_iconst (pc := 47) (v := 0) C dX5_stops_47 (by decide) ?_
        show g 0 0 (wC (up3 S 7 (frT (S 7) (S 2) z jd))) 48 [some (.ref 0), some (.int (nI ia)), some (.int (nI ib)), some (.int (nI jd)), none, none] [.int 0]
        have hX : stopsC S z (nI ia) (nI ib) (nI jd) = (0, (up3 S 7 (frT (S 7) (S 2) z jd))) := by
          unfold stopsC
          (try rw [ix_nI (show ia < 2 ^ 31 by omega)])
          (try rw [ix_nI (show ib < 2 ^ 31 by omega)])
          (try rw [ix_nI (show jd < 2 ^ 31 by omega)])
          rw [if_pos h_6, if_pos h_13, if_pos h_44]
        exact E _ _ _ _ _ _ dX5_stops_48 (Nat.le_refl _) (Nat.le_refl _) rfl ⟨by rw [hX], by rw [hX]⟩
    · replace h_13 := bB_f h_13
      refine r_ldc (pc := 16) (v := (-1000001)) C dX5_stops_16 tw_216 ?_
      show g 0 0 (wC S) 18 [some (.ref 0), some (.int (nI ia)), some (.int (nI ib)), some (.int d), none, none] [.int (-1000001)]
      have hX : stopsC S z (nI ia) (nI ib) d = ((-1000001), S) := by
        unfold stopsC
        (try rw [ix_nI (show ia < 2 ^ 31 by omega)])
        (try rw [ix_nI (show ib < 2 ^ 31 by omega)])
        rw [if_pos h_6, if_neg (nbt h_13)]
      exact E _ _ _ _ _ _ dX5_stops_18 (Nat.le_refl _) (Nat.le_refl _) rfl ⟨by rw [hX], by rw [hX]⟩
def allB (p : Nat → Bool) : Nat → Bool
  | 0 => true
  | n + 1 => allB p n && p n
theorem allB_f {p : Nat → Bool} {k : Nat} (hp : p k = false) : ∀ n, k < n → allB p n = false
  | 0, h => absurd h (Nat.not_lt_zero _)
  | n + 1, h => by
    unfold allB
    by_cases hk : k = n
    · subst hk; rw [hp, Bool.and_false]
    · rw [allB_f hp n (by omega), Bool.false_and]
/-- the row jr bears, from i on, n places of the hammock h of the trial forest -/
def thS (S : Nat → Nat → Nat → Int32) (jr h i n : Nat) : Bool := allB (fun k => decide (S (jr + 8) 0 (i + k) = plS (S 3) h (S 3 8 0 + nI k))) n
def trS (S : Nat → Nat → Nat → Int32) (z jr h i n : Nat) : Bool := allB (fun k => decide (S (jr + 8) 0 (i + k) = nearC (S 3) z h (S 3 8 0 + nI k))) n
def fitB (P : Nat → Bool) (lo : Nat) : Nat → Int32
  | 0 => 0
  | n + 1 => if P (lo + n) then fitB P lo n ||| (1 <<< (nI (lo + n) &&& 31)) else fitB P lo n
set_option maxHeartbeats 4000000 in
set_option maxRecDepth 100000 in
theorem lp_X5_wasThere (S : Nat → Nat → Nat → Int32) (jr h i m : Nat) (hjr : jr < 8) (hh : h < 6) (him : i + m ≤ 40) (hW : okW (S 3)) {g : Nat → Nat → List xE → Nat → List (Option Value) → List Value → Prop} (C : Sem cX5_wasThere RX5 "wasThere" 6 rmX5_wasThere g) (E : xEi g cX5_wasThere .boolean 0 0 (fun vr wr => vr = some (.int (bB (thS S jr h i m))) ∧ wr = wC S)) : ∀ (n : Nat) (k : Nat), k + n = m → allB (fun k => decide (S (jr + 8) 0 (i + k) = plS (S 3) h (S 3 8 0 + nI k))) k = true → g 0 0 (wC S) 3 [some (.ref 0), some (.int (nI h)), some (.ref (2 + 2 * jr)), some (.int (nI i)), some (.int (nI m)), some (.int (nI k))] [] := by
  intro n
  induction n with
  | zero =>
    intro k hk hal
    have hkm : k = m := by omega
    rw [hkm] at hal
    refine r_iload (pc := 3) C dX5_wasThere_3 rfl ?_
    refine r_iload (pc := 5) C dX5_wasThere_5 rfl ?_
    refine r_icmp_ge (pc := 7) (tgt := 48) C dX5_wasThere_7 (by decide) (fun _ => ?_) (fun h => absurd (nI_le (by omega) (by omega)) h)
    refine r_iconst (pc := 48) (v := 1) C dX5_wasThere_48 (by decide) ?_
    show g 0 0 (wC S) 49 [some (.ref 0), some (.int (nI h)), some (.ref (2 + 2 * jr)), some (.int (nI i)), some (.int (nI m)), some (.int (nI k))] [.int 1]
    have hX : thS S jr h i m = true := hal
    exact E _ _ _ _ _ _ dX5_wasThere_49 (Nat.le_refl _) (Nat.le_refl _) rfl ⟨by rw [hX]; rfl, rfl⟩
  | succ n ih =>
    intro k hk hal
    refine r_iload (pc := 3) C dX5_wasThere_3 rfl ?_
    refine r_iload (pc := 5) C dX5_wasThere_5 rfl ?_
    refine r_icmp_ge (pc := 7) (tgt := 48) C dX5_wasThere_7 (by decide) (fun h => absurd h (nI_ge (by omega) (by omega))) (fun _ => ?_)
    refine r_aload_n (pc := 10) C dX5_wasThere_10 rfl rfl ?_
    refine r_getfield (pc := 11) (v := .ref (2 + 2 * jr + 1)) C xf_X5_82 dX5_wasThere_11 (wC_r0 S jr (by omega)) rfl ?_
    refine r_iload_n (pc := 14) C dX5_wasThere_14 rfl rfl ?_
    refine r_iload (pc := 15) C dX5_wasThere_15 rfl ?_
    refine r_iadd (pc := 17) C dX5_wasThere_17 ?_
    refine r_iaload (pc := 18) (v := (S (jr + 8)) 0 (i + k)) C (i + k) dX5_wasThere_18 (wC_r1 S jr (by omega)) (nI_sum rfl rfl) (by first | assumption | omega) rfl ?_
    refine r_aload_n (pc := 19) C dX5_wasThere_19 rfl rfl ?_
    refine r_getfield (pc := 20) (v := .ref 26) C xf_X5_29 dX5_wasThere_20 rfl rfl ?_
    refine r_iload_n (pc := 23) C dX5_wasThere_23 rfl rfl ?_
    refine r_aload_n (pc := 24) C dX5_wasThere_24 rfl rfl ?_
    refine r_getfield (pc := 25) (v := .ref 26) C xf_X5_29 dX5_wasThere_25 rfl rfl ?_
    refine r_getfield (pc := 28) (v := .int ((S 3) 8 0)) C xf_X5_128 dX5_wasThere_28 rfl rfl ?_
    refine r_iload (pc := 31) C dX5_wasThere_31 rfl ?_
    refine r_iadd (pc := 33) C dX5_wasThere_33 ?_
    refine r_callVD (pc := 34) (b := 26) (As := [.int (nI h), .int (((S 3) 8 0) + (nI k))]) (st := [.int ((S (jr + 8)) 0 (i + k))]) (θ2 := wC S) (r2 := some (.int (plS (S 3) h (((S 3) 8 0) + (nI k))))) C [26, 27, 28, 29, 30, 31] (c_X1_place (S 3) h (by omega) (((S 3) 8 0) + (nI k)) hW) xm_X1_place xk_X5_147 dX5_wasThere_34 rfl (by decide) rfl rfl rfl rfl rfl (Nat.le_of_ble_eq_true rfl) ⟨Nat.le_of_ble_eq_true rfl, Nat.le_of_ble_eq_true rfl⟩ ⟨rfl, rfl⟩ ⟨Nat.le_of_ble_eq_true rfl, Nat.le_of_ble_eq_true rfl⟩ rfl (Eq.trans (b := 6) rfl rfl) rfl rfl ?_
    show g 0 0 (wC S) 37 [some (.ref 0), some (.int (nI h)), some (.ref (2 + 2 * jr)), some (.int (nI i)), some (.int (nI m)), some (.int (nI k))] [.int (plS (S 3) h (((S 3) 8 0) + (nI k))), .int ((S (jr + 8)) 0 (i + k))]
    refine r_icmp_eq (pc := 37) (tgt := 42) C dX5_wasThere_37 (by decide) (fun h_37 => ?_) (fun h_37 => ?_)
    · skip
      refine r_iinc (pc := 42) (v := nI (k + 1)) (lv' := [some (.ref 0), some (.int (nI h)), some (.ref (2 + 2 * jr)), some (.int (nI i)), some (.int (nI m)), some (.int (nI (k + 1)))]) C dX5_wasThere_42 rfl (nI_1 k) trivial rfl ?_
      refine r_goto (pc := 45) (tgt := 3) C dX5_wasThere_45 (by decide) ?_
      show g 0 0 (wC S) 3 [some (.ref 0), some (.int (nI h)), some (.ref (2 + 2 * jr)), some (.int (nI i)), some (.int (nI m)), some (.int (nI (k + 1)))] []
      exact ih (k + 1) (by omega) (by show (allB (fun k => decide (S (jr + 8) 0 (i + k) = plS (S 3) h (S 3 8 0 + nI k))) k && _) = true; rw [hal]; exact decide_eq_true h_37)
    · skip
      refine r_iconst (pc := 40) (v := 0) C dX5_wasThere_40 (by decide) ?_
      show g 0 0 (wC S) 41 [some (.ref 0), some (.int (nI h)), some (.ref (2 + 2 * jr)), some (.int (nI i)), some (.int (nI m)), some (.int (nI k))] [.int 0]
      have hX : thS S jr h i m = false := allB_f (k := k) (decide_eq_false h_37) m (by omega)
      exact E _ _ _ _ _ _ dX5_wasThere_41 (Nat.le_refl _) (Nat.le_refl _) rfl ⟨by rw [hX]; rfl, rfl⟩
set_option maxHeartbeats 4000000 in
set_option maxRecDepth 100000 in
theorem c_X5_wasThere (S : Nat → Nat → Nat → Int32) (jr h i m : Nat) (hjr : jr < 8) (hh : h < 6) (him : i + m ≤ 40) (hW : okW (S 3)) : MetA yX5_wasThere (.code yX5_wasThere cX5_wasThere 6 (some .boolean) :: TT) rmX5_wasThere [.ref 0, .int (nI h), .ref (2 + 2 * jr), .int (nI i), .int (nI m)] (wC S) (fun vr wr => vr = some (.int (bB (thS S jr h i m))) ∧ wr = wC S) 0 0 := by
  refine MetA.of_i (by decide) (fun _ => Nat.le_of_ble_eq_true rfl) (Nat.le_of_ble_eq_true rfl) (fun g C E => ?_)
  replace C : Sem cX5_wasThere RX5 "wasThere" 6 rmX5_wasThere g := C
  show g 0 0 (wC S) 0 [some (.ref 0), some (.int (nI h)), some (.ref (2 + 2 * jr)), some (.int (nI i)), some (.int (nI m)), none] []
  refine r_iconst (pc := 0) (v := 0) C dX5_wasThere_0 (by decide) ?_
  refine r_istore (pc := 1) (lv' := [some (.ref 0), some (.int (nI h)), some (.ref (2 + 2 * jr)), some (.int (nI i)), some (.int (nI m)), some (.int 0)]) C dX5_wasThere_1 (Nat.le_of_ble_eq_true rfl) trivial rfl ?_
  show g 0 0 (wC S) 3 [some (.ref 0), some (.int (nI h)), some (.ref (2 + 2 * jr)), some (.int (nI i)), some (.int (nI m)), some (.int 0)] []
  exact lp_X5_wasThere S jr h i m hjr hh him hW C E m 0 (by omega) rfl
set_option maxHeartbeats 4000000 in
set_option maxRecDepth 100000 in
theorem lp_X5_wasReached (S : Nat → Nat → Nat → Int32) (jr h i m : Nat) (hjr : jr < 8) (hh : h < 6) (him : i + m ≤ 40) (hW : okW (S 3)) (z : Nat) (hz : S 3 9 0 = nI z) (hz6 : z ≤ 6) {g : Nat → Nat → List xE → Nat → List (Option Value) → List Value → Prop} (C : Sem cX5_wasReached RX5 "wasReached" 6 rmX5_wasReached g) (E : xEi g cX5_wasReached .boolean 0 0 (fun vr wr => vr = some (.int (bB (trS S z jr h i m))) ∧ wr = wC S)) : ∀ (n : Nat) (k : Nat), k + n = m → allB (fun k => decide (S (jr + 8) 0 (i + k) = nearC (S 3) z h (S 3 8 0 + nI k))) k = true → g 0 0 (wC S) 3 [some (.ref 0), some (.int (nI h)), some (.ref (2 + 2 * jr)), some (.int (nI i)), some (.int (nI m)), some (.int (nI k))] [] := by
  intro n
  induction n with
  | zero =>
    intro k hk hal
    have hkm : k = m := by omega
    rw [hkm] at hal
    refine r_iload (pc := 3) C dX5_wasReached_3 rfl ?_
    refine r_iload (pc := 5) C dX5_wasReached_5 rfl ?_
    refine r_icmp_ge (pc := 7) (tgt := 48) C dX5_wasReached_7 (by decide) (fun _ => ?_) (fun h => absurd (nI_le (by omega) (by omega)) h)
    refine r_iconst (pc := 48) (v := 1) C dX5_wasReached_48 (by decide) ?_
    show g 0 0 (wC S) 49 [some (.ref 0), some (.int (nI h)), some (.ref (2 + 2 * jr)), some (.int (nI i)), some (.int (nI m)), some (.int (nI k))] [.int 1]
    have hX : trS S z jr h i m = true := hal
    exact E _ _ _ _ _ _ dX5_wasReached_49 (Nat.le_refl _) (Nat.le_refl _) rfl ⟨by rw [hX]; rfl, rfl⟩
  | succ n ih =>
    intro k hk hal
    refine r_iload (pc := 3) C dX5_wasReached_3 rfl ?_
    refine r_iload (pc := 5) C dX5_wasReached_5 rfl ?_
    refine r_icmp_ge (pc := 7) (tgt := 48) C dX5_wasReached_7 (by decide) (fun h => absurd h (nI_ge (by omega) (by omega))) (fun _ => ?_)
    refine r_aload_n (pc := 10) C dX5_wasReached_10 rfl rfl ?_
    refine r_getfield (pc := 11) (v := .ref (2 + 2 * jr + 1)) C xf_X5_82 dX5_wasReached_11 (wC_r0 S jr (by omega)) rfl ?_
    refine r_iload_n (pc := 14) C dX5_wasReached_14 rfl rfl ?_
    refine r_iload (pc := 15) C dX5_wasReached_15 rfl ?_
    refine r_iadd (pc := 17) C dX5_wasReached_17 ?_
    refine r_iaload (pc := 18) (v := (S (jr + 8)) 0 (i + k)) C (i + k) dX5_wasReached_18 (wC_r1 S jr (by omega)) (nI_sum rfl rfl) (by first | assumption | omega) rfl ?_
    refine r_aload_n (pc := 19) C dX5_wasReached_19 rfl rfl ?_
    refine r_getfield (pc := 20) (v := .ref 26) C xf_X5_29 dX5_wasReached_20 rfl rfl ?_
    refine r_iload_n (pc := 23) C dX5_wasReached_23 rfl rfl ?_
    refine r_aload_n (pc := 24) C dX5_wasReached_24 rfl rfl ?_
    refine r_getfield (pc := 25) (v := .ref 26) C xf_X5_29 dX5_wasReached_25 rfl rfl ?_
    refine r_getfield (pc := 28) (v := .int ((S 3) 8 0)) C xf_X5_128 dX5_wasReached_28 rfl rfl ?_
    refine r_iload (pc := 31) C dX5_wasReached_31 rfl ?_
    refine r_iadd (pc := 33) C dX5_wasReached_33 ?_
    refine r_callVD (pc := 34) (b := 26) (As := [.int (nI h), .int (((S 3) 8 0) + (nI k))]) (st := [.int ((S (jr + 8)) 0 (i + k))]) (θ2 := wC S) (r2 := some (.int (bitsS (fun o => !decide (o = h) && nrS (S 3) (spS (S 3) h (((S 3) 8 0) + (nI k))) (spS (S 3) o (((S 3) 8 0) + (nI k)))) z))) C [26, 27, 28, 29, 30, 31] (c_X1_nearBits (S 3) h (by omega) (((S 3) 8 0) + (nI k)) hW z hz hz6) xm_X1_nearBits xk_X5_175 dX5_wasReached_34 rfl (by decide) rfl rfl rfl rfl rfl (Nat.le_of_ble_eq_true rfl) ⟨Nat.le_of_ble_eq_true rfl, Nat.le_of_ble_eq_true rfl⟩ ⟨rfl, rfl⟩ ⟨Nat.le_of_ble_eq_true rfl, Nat.le_of_ble_eq_true rfl⟩ rfl (Eq.trans (b := 6) rfl rfl) rfl rfl ?_
    show g 0 0 (wC S) 37 [some (.ref 0), some (.int (nI h)), some (.ref (2 + 2 * jr)), some (.int (nI i)), some (.int (nI m)), some (.int (nI k))] [.int (bitsS (fun o => !decide (o = h) && nrS (S 3) (spS (S 3) h (((S 3) 8 0) + (nI k))) (spS (S 3) o (((S 3) 8 0) + (nI k)))) z), .int ((S (jr + 8)) 0 (i + k))]
    refine r_icmp_eq (pc := 37) (tgt := 42) C dX5_wasReached_37 (by decide) (fun h_37 => ?_) (fun h_37 => ?_)
    · skip
      refine r_iinc (pc := 42) (v := nI (k + 1)) (lv' := [some (.ref 0), some (.int (nI h)), some (.ref (2 + 2 * jr)), some (.int (nI i)), some (.int (nI m)), some (.int (nI (k + 1)))]) C dX5_wasReached_42 rfl (nI_1 k) trivial rfl ?_
      refine r_goto (pc := 45) (tgt := 3) C dX5_wasReached_45 (by decide) ?_
      show g 0 0 (wC S) 3 [some (.ref 0), some (.int (nI h)), some (.ref (2 + 2 * jr)), some (.int (nI i)), some (.int (nI m)), some (.int (nI (k + 1)))] []
      exact ih (k + 1) (by omega) (by show (allB (fun k => decide (S (jr + 8) 0 (i + k) = nearC (S 3) z h (S 3 8 0 + nI k))) k && _) = true; rw [hal]; exact decide_eq_true h_37)
    · skip
      refine r_iconst (pc := 40) (v := 0) C dX5_wasReached_40 (by decide) ?_
      show g 0 0 (wC S) 41 [some (.ref 0), some (.int (nI h)), some (.ref (2 + 2 * jr)), some (.int (nI i)), some (.int (nI m)), some (.int (nI k))] [.int 0]
      have hX : trS S z jr h i m = false := allB_f (k := k) (decide_eq_false h_37) m (by omega)
      exact E _ _ _ _ _ _ dX5_wasReached_41 (Nat.le_refl _) (Nat.le_refl _) rfl ⟨by rw [hX]; rfl, rfl⟩
set_option maxHeartbeats 4000000 in
set_option maxRecDepth 100000 in
theorem c_X5_wasReached (S : Nat → Nat → Nat → Int32) (jr h i m : Nat) (hjr : jr < 8) (hh : h < 6) (him : i + m ≤ 40) (hW : okW (S 3)) (z : Nat) (hz : S 3 9 0 = nI z) (hz6 : z ≤ 6) : MetA yX5_wasReached (.code yX5_wasReached cX5_wasReached 6 (some .boolean) :: TT) rmX5_wasReached [.ref 0, .int (nI h), .ref (2 + 2 * jr), .int (nI i), .int (nI m)] (wC S) (fun vr wr => vr = some (.int (bB (trS S z jr h i m))) ∧ wr = wC S) 0 0 := by
  refine MetA.of_i (by decide) (fun _ => Nat.le_of_ble_eq_true rfl) (Nat.le_of_ble_eq_true rfl) (fun g C E => ?_)
  replace C : Sem cX5_wasReached RX5 "wasReached" 6 rmX5_wasReached g := C
  show g 0 0 (wC S) 0 [some (.ref 0), some (.int (nI h)), some (.ref (2 + 2 * jr)), some (.int (nI i)), some (.int (nI m)), none] []
  refine r_iconst (pc := 0) (v := 0) C dX5_wasReached_0 (by decide) ?_
  refine r_istore (pc := 1) (lv' := [some (.ref 0), some (.int (nI h)), some (.ref (2 + 2 * jr)), some (.int (nI i)), some (.int (nI m)), some (.int 0)]) C dX5_wasReached_1 (Nat.le_of_ble_eq_true rfl) trivial rfl ?_
  show g 0 0 (wC S) 3 [some (.ref 0), some (.int (nI h)), some (.ref (2 + 2 * jr)), some (.int (nI i)), some (.int (nI m)), some (.int 0)] []
  exact lp_X5_wasReached S jr h i m hjr hh him hW z hz hz6 C E m 0 (by omega) rfl
theorem okW_4 {F : Nat → Nat → Int32} {h q : Nat} (hq : q ≤ 5) (hW : okW F) : okW (up2 F 4 (upd (F 4) h (nI q))) := by
  intro i hi
  show okSw (upd (F 4) h (nI q) i)
  unfold upd
  by_cases e : i = h
  · rw [if_pos e]; exact Or.inr ⟨q, hq, rfl⟩
  · rw [if_neg e]; exact hW i hi
theorem upd_u {f : Nat → Int32} {h : Nat} {x y : Int32} : upd (upd f h x) h y = upd f h y := by
  funext i
  unfold upd
  by_cases e : i = h
  · rw [if_pos e, if_pos e]
  · rw [if_neg e, if_neg e, if_neg e]
theorem up2_u {F : Nat → Nat → Int32} {k : Nat} {f g : Nat → Int32} : up2 (up2 F k f) k g = up2 F k g := by
  funext j
  unfold up2
  cases Nat.beq j k <;> rfl
set_option maxHeartbeats 4000000 in
set_option maxRecDepth 100000 in
theorem lp_X5_fittingKinds (S : Nat → Nat → Nat → Int32) (jr h i m : Nat) (hjr : jr < 8) (hh : h < 6) (him : i + m ≤ 40) (hW : okW (S 3)) {g : Nat → Nat → List xE → Nat → List (Option Value) → List Value → Prop} (C : Sem cX5_fittingKinds RX5 "fittingKinds" 7 rmX5_fittingKinds g) (E : xEi g cX5_fittingKinds .int 0 0 (fun vr wr => vr = some (.int (fitB (fun q => thS (up3 S 3 (up2 (S 3) 0 (upd (S 3 0) h (nI q)))) jr h i m) 1 5)) ∧ wr = wC (up3 S 3 (up2 (S 3) 0 (upd (S 3 0) h (nI 5)))))) : ∀ (n : Nat) (k : Nat) (gf : Nat → Int32), k + n = 5 → (∀ x, upd gf h x = upd (S 3 0) h x) → (k = 5 → gf = upd (S 3 0) h (nI 5)) → g 0 0 (wC (up3 S 3 (up2 (S 3) 0 gf))) 6 [some (.ref 0), some (.int (nI h)), some (.ref (2 + 2 * jr)), some (.int (nI i)), some (.int (nI m)), some (.int (fitB (fun q => thS (up3 S 3 (up2 (S 3) 0 (upd (S 3 0) h (nI q)))) jr h i m) 1 k)), some (.int (nI (1 + k)))] [] := by
  intro n
  induction n with
  | zero =>
    intro k gf hk hgf hlast
    have hkc : k = 5 := by omega
    have hl := hlast hkc
    rw [hkc, hl]
    refine r_iload (pc := 6) C dX5_fittingKinds_6 rfl ?_
    refine r_bipush (pc := 8) (v := 6) C dX5_fittingKinds_8 (by decide) ?_
    refine r_icmp_ge (pc := 10) (tgt := 51) C dX5_fittingKinds_10 (by decide) (fun _ => ?_) (fun h => absurd (nI_le (a := 6) (by omega) (by omega)) h)
    refine r_iload (pc := 51) C dX5_fittingKinds_51 rfl ?_
    exact E _ _ _ _ _ _ dX5_fittingKinds_53 (Nat.le_refl _) (Nat.le_refl _) rfl ⟨rfl, rfl⟩
  | succ n ih =>
    intro k gf hk hgf hlast
    refine r_iload (pc := 6) C dX5_fittingKinds_6 rfl ?_
    refine r_bipush (pc := 8) (v := 6) C dX5_fittingKinds_8 (by decide) ?_
    refine r_icmp_ge (pc := 10) (tgt := 51) C dX5_fittingKinds_10 (by decide) (fun h => absurd h (nI_ge (b := 6) (by omega) (by omega))) (fun _ => ?_)
    refine r_aload_n (pc := 13) C dX5_fittingKinds_13 rfl rfl ?_
    refine r_getfield (pc := 14) (v := .ref 26) C xf_X5_29 dX5_fittingKinds_14 rfl rfl ?_
    refine r_getfield (pc := 17) (v := .ref 27) C xf_X5_226 dX5_fittingKinds_17 rfl rfl ?_
    refine r_iload_n (pc := 20) C dX5_fittingKinds_20 rfl rfl ?_
    refine r_iload (pc := 21) C dX5_fittingKinds_21 rfl ?_
    show g 0 0 (wC (up3 S 3 (up2 (S 3) 0 gf))) 23 [some (.ref 0), some (.int (nI h)), some (.ref (2 + 2 * jr)), some (.int (nI i)), some (.int (nI m)), some (.int (fitB (fun q => thS (up3 S 3 (up2 (S 3) 0 (upd (S 3 0) h (nI q)))) jr h i m) 1 k)), some (.int (nI (1 + k)))] [.int (nI (1 + k)), .int (nI h), .ref 27]
    have hg := hgf (nI (1 + k))
    refine r_iastore (pc := 23) (θ' := wC (up3 S 3 (up2 (S 3) 0 (upd (S 3 0) h (nI (1 + k)))))) C h dX5_fittingKinds_23 rfl rfl (by assumption) (by show (wC (up3 S 3 (up2 (S 3) 0 gf))).set 27 (.inl (0, 6, .inl (upd gf h (nI (1 + k))))) = _; rw [hg]; rfl) ?_
    refine r_aload_n (pc := 24) C dX5_fittingKinds_24 rfl rfl ?_
    refine r_iload_n (pc := 25) C dX5_fittingKinds_25 rfl rfl ?_
    refine r_aload_n (pc := 26) C dX5_fittingKinds_26 rfl rfl ?_
    refine r_iload_n (pc := 27) C dX5_fittingKinds_27 rfl rfl ?_
    refine r_iload (pc := 28) C dX5_fittingKinds_28 rfl ?_
    refine r_callV0 (pc := 30) (As := [.int (nI h), .ref (2 + 2 * jr), .int (nI i), .int (nI m)]) (st := []) (θ' := wC (up3 S 3 (up2 (S 3) 0 (upd (S 3 0) h (nI (1 + k)))))) C (c_X5_wasThere (up3 S 3 (up2 (S 3) 0 (upd (S 3 0) h (nI (1 + k))))) jr h i m (by omega) (by omega) (by omega) (okW_1 (by decide) hW)) xm_X5_wasThere xk_X5_254 dX5_fittingKinds_30 rfl rfl rfl rfl (Nat.le_of_ble_eq_true rfl) ⟨Nat.le_of_ble_eq_true rfl, Nat.le_of_ble_eq_true rfl⟩ ⟨rfl, rfl⟩ ⟨Nat.le_of_ble_eq_true rfl, Nat.le_of_ble_eq_true rfl⟩ rfl (Eq.trans (b := 55) rfl rfl) ?_
    show g 0 0 (wC (up3 S 3 (up2 (S 3) 0 (upd (S 3 0) h (nI (1 + k)))))) 33 [some (.ref 0), some (.int (nI h)), some (.ref (2 + 2 * jr)), some (.int (nI i)), some (.int (nI m)), some (.int (fitB (fun q => thS (up3 S 3 (up2 (S 3) 0 (upd (S 3 0) h (nI q)))) jr h i m) 1 k)), some (.int (nI (1 + k)))] [.int (bB (thS (up3 S 3 (up2 (S 3) 0 (upd (S 3 0) h (nI (1 + k))))) jr h i m))]
    refine r_if_eq (pc := 33) (tgt := 45) C dX5_fittingKinds_33 (by decide) (fun h_33 => ?_) (fun h_33 => ?_)
    · replace h_33 := bB_f h_33
      refine r_iinc (pc := 45) (v := nI (1 + (k + 1))) (lv' := [some (.ref 0), some (.int (nI h)), some (.ref (2 + 2 * jr)), some (.int (nI i)), some (.int (nI m)), some (.int (fitB (fun q => thS (up3 S 3 (up2 (S 3) 0 (upd (S 3 0) h (nI q)))) jr h i m) 1 k)), some (.int (nI (1 + (k + 1))))]) C dX5_fittingKinds_45 rfl (nI_1 (1 + k)) trivial rfl ?_
      refine r_goto (pc := 48) (tgt := 6) C dX5_fittingKinds_48 (by decide) ?_
      show g 0 0 (wC (up3 S 3 (up2 (S 3) 0 (upd (S 3 0) h (nI (1 + k)))))) 6 [some (.ref 0), some (.int (nI h)), some (.ref (2 + 2 * jr)), some (.int (nI i)), some (.int (nI m)), some (.int (fitB (fun q => thS (up3 S 3 (up2 (S 3) 0 (upd (S 3 0) h (nI q)))) jr h i m) 1 k)), some (.int (nI (1 + (k + 1))))] []
      rw [show (fitB (fun q => thS (up3 S 3 (up2 (S 3) 0 (upd (S 3 0) h (nI q)))) jr h i m) 1 k : Int32) = fitB (fun q => thS (up3 S 3 (up2 (S 3) 0 (upd (S 3 0) h (nI q)))) jr h i m) 1 (k + 1) from by simp only [fitB, h_33, if_true, if_false, Bool.false_eq_true]]
      exact ih (k + 1) _ (by omega) (fun x => upd_u) (fun e => by rw [show 1 + k = 5 by omega])
    · replace h_33 := bB_t h_33
      refine r_iload (pc := 36) C dX5_fittingKinds_36 rfl ?_
      refine r_iconst (pc := 38) (v := 1) C dX5_fittingKinds_38 (by decide) ?_
      refine r_iload (pc := 39) C dX5_fittingKinds_39 rfl ?_
      refine r_ishl (pc := 41) C dX5_fittingKinds_41 ?_
      refine r_ior (pc := 42) C dX5_fittingKinds_42 ?_
      refine r_istore (pc := 43) (lv' := [some (.ref 0), some (.int (nI h)), some (.ref (2 + 2 * jr)), some (.int (nI i)), some (.int (nI m)), some (.int ((fitB (fun q => thS (up3 S 3 (up2 (S 3) 0 (upd (S 3 0) h (nI q)))) jr h i m) 1 k) ||| (1 <<< ((nI (1 + k)) &&& 31)))), some (.int (nI (1 + k)))]) C dX5_fittingKinds_43 (Nat.le_of_ble_eq_true rfl) trivial rfl ?_
      refine r_iinc (pc := 45) (v := nI (1 + (k + 1))) (lv' := [some (.ref 0), some (.int (nI h)), some (.ref (2 + 2 * jr)), some (.int (nI i)), some (.int (nI m)), some (.int ((fitB (fun q => thS (up3 S 3 (up2 (S 3) 0 (upd (S 3 0) h (nI q)))) jr h i m) 1 k) ||| (1 <<< ((nI (1 + k)) &&& 31)))), some (.int (nI (1 + (k + 1))))]) C dX5_fittingKinds_45 rfl (nI_1 (1 + k)) trivial rfl ?_
      refine r_goto (pc := 48) (tgt := 6) C dX5_fittingKinds_48 (by decide) ?_
      show g 0 0 (wC (up3 S 3 (up2 (S 3) 0 (upd (S 3 0) h (nI (1 + k)))))) 6 [some (.ref 0), some (.int (nI h)), some (.ref (2 + 2 * jr)), some (.int (nI i)), some (.int (nI m)), some (.int ((fitB (fun q => thS (up3 S 3 (up2 (S 3) 0 (upd (S 3 0) h (nI q)))) jr h i m) 1 k) ||| (1 <<< ((nI (1 + k)) &&& 31)))), some (.int (nI (1 + (k + 1))))] []
      rw [show ((fitB (fun q => thS (up3 S 3 (up2 (S 3) 0 (upd (S 3 0) h (nI q)))) jr h i m) 1 k) ||| (1 <<< ((nI (1 + k)) &&& 31)) : Int32) = fitB (fun q => thS (up3 S 3 (up2 (S 3) 0 (upd (S 3 0) h (nI q)))) jr h i m) 1 (k + 1) from by simp only [fitB, h_33, if_true, if_false, Bool.false_eq_true]]
      exact ih (k + 1) _ (by omega) (fun x => upd_u) (fun e => by rw [show 1 + k = 5 by omega])
set_option maxHeartbeats 4000000 in
set_option maxRecDepth 100000 in
theorem c_X5_fittingKinds (S : Nat → Nat → Nat → Int32) (jr h i m : Nat) (hjr : jr < 8) (hh : h < 6) (him : i + m ≤ 40) (hW : okW (S 3)) : MetA yX5_fittingKinds (.code yX5_fittingKinds cX5_fittingKinds 7 (some .int) :: TT) rmX5_fittingKinds [.ref 0, .int (nI h), .ref (2 + 2 * jr), .int (nI i), .int (nI m)] (wC S) (fun vr wr => vr = some (.int (fitB (fun q => thS (up3 S 3 (up2 (S 3) 0 (upd (S 3 0) h (nI q)))) jr h i m) 1 5)) ∧ wr = wC (up3 S 3 (up2 (S 3) 0 (upd (S 3 0) h (nI 5))))) 0 0 := by
  refine MetA.of_i (by decide) (fun _ => Nat.le_of_ble_eq_true rfl) (Nat.le_of_ble_eq_true rfl) (fun g C E => ?_)
  replace C : Sem cX5_fittingKinds RX5 "fittingKinds" 7 rmX5_fittingKinds g := C
  show g 0 0 (wC S) 0 [some (.ref 0), some (.int (nI h)), some (.ref (2 + 2 * jr)), some (.int (nI i)), some (.int (nI m)), none, none] []
  refine r_iconst (pc := 0) (v := 0) C dX5_fittingKinds_0 (by decide) ?_
  refine r_istore (pc := 1) (lv' := [some (.ref 0), some (.int (nI h)), some (.ref (2 + 2 * jr)), some (.int (nI i)), some (.int (nI m)), some (.int 0), none]) C dX5_fittingKinds_1 (Nat.le_of_ble_eq_true rfl) trivial rfl ?_
  refine r_iconst (pc := 3) (v := 1) C dX5_fittingKinds_3 (by decide) ?_
  refine r_istore (pc := 4) (lv' := [some (.ref 0), some (.int (nI h)), some (.ref (2 + 2 * jr)), some (.int (nI i)), some (.int (nI m)), some (.int 0), some (.int 1)]) C dX5_fittingKinds_4 (Nat.le_of_ble_eq_true rfl) trivial rfl ?_
  show g 0 0 (wC S) 6 [some (.ref 0), some (.int (nI h)), some (.ref (2 + 2 * jr)), some (.int (nI i)), some (.int (nI m)), some (.int 0), some (.int 1)] []
  exact lp_X5_fittingKinds S jr h i m hjr hh him hW C E 5 0 (S 3 0) (by omega) (fun _ => rfl) (fun e => absurd e (by decide))
set_option maxHeartbeats 4000000 in
set_option maxRecDepth 100000 in
theorem lp_X5_fittingSwings (S : Nat → Nat → Nat → Int32) (jr h i m : Nat) (hjr : jr < 8) (hh : h < 6) (him : i + m ≤ 40) (hW : okW (S 3)) {g : Nat → Nat → List xE → Nat → List (Option Value) → List Value → Prop} (C : Sem cX5_fittingSwings RX5 "fittingSwings" 7 rmX5_fittingSwings g) (E : xEi g cX5_fittingSwings .int 0 0 (fun vr wr => vr = some (.int (fitB (fun q => thS (up3 S 3 (up2 (S 3) 4 (upd (S 3 4) h (nI q)))) jr h i m) 0 6)) ∧ wr = wC (up3 S 3 (up2 (S 3) 4 (upd (S 3 4) h (nI 5)))))) : ∀ (n : Nat) (k : Nat) (gf : Nat → Int32), k + n = 6 → (∀ x, upd gf h x = upd (S 3 4) h x) → (k = 6 → gf = upd (S 3 4) h (nI 5)) → g 0 0 (wC (up3 S 3 (up2 (S 3) 4 gf))) 6 [some (.ref 0), some (.int (nI h)), some (.ref (2 + 2 * jr)), some (.int (nI i)), some (.int (nI m)), some (.int (fitB (fun q => thS (up3 S 3 (up2 (S 3) 4 (upd (S 3 4) h (nI q)))) jr h i m) 0 k)), some (.int (nI (0 + k)))] [] := by
  intro n
  induction n with
  | zero =>
    intro k gf hk hgf hlast
    have hkc : k = 6 := by omega
    have hl := hlast hkc
    rw [hkc, hl]
    refine r_iload (pc := 6) C dX5_fittingSwings_6 rfl ?_
    refine r_iconst (pc := 8) (v := 5) C dX5_fittingSwings_8 (by decide) ?_
    refine r_icmp_gt (pc := 9) (tgt := 50) C dX5_fittingSwings_9 (by decide) (fun _ => ?_) (fun h => absurd ((nI_ltI (a := 5) (by omega) (by omega)).mpr (by omega)) h)
    refine r_iload (pc := 50) C dX5_fittingSwings_50 rfl ?_
    exact E _ _ _ _ _ _ dX5_fittingSwings_52 (Nat.le_refl _) (Nat.le_refl _) rfl ⟨rfl, rfl⟩
  | succ n ih =>
    intro k gf hk hgf hlast
    refine r_iload (pc := 6) C dX5_fittingSwings_6 rfl ?_
    refine r_iconst (pc := 8) (v := 5) C dX5_fittingSwings_8 (by decide) ?_
    refine r_icmp_gt (pc := 9) (tgt := 50) C dX5_fittingSwings_9 (by decide) (fun h => absurd h (fun z => absurd ((nI_ltI (a := 5) (by omega) (by omega)).mp z) (by omega))) (fun _ => ?_)
    refine r_aload_n (pc := 12) C dX5_fittingSwings_12 rfl rfl ?_
    refine r_getfield (pc := 13) (v := .ref 26) C xf_X5_29 dX5_fittingSwings_13 rfl rfl ?_
    refine r_getfield (pc := 16) (v := .ref 31) C xf_X5_169 dX5_fittingSwings_16 rfl rfl ?_
    refine r_iload_n (pc := 19) C dX5_fittingSwings_19 rfl rfl ?_
    refine r_iload (pc := 20) C dX5_fittingSwings_20 rfl ?_
    show g 0 0 (wC (up3 S 3 (up2 (S 3) 4 gf))) 22 [some (.ref 0), some (.int (nI h)), some (.ref (2 + 2 * jr)), some (.int (nI i)), some (.int (nI m)), some (.int (fitB (fun q => thS (up3 S 3 (up2 (S 3) 4 (upd (S 3 4) h (nI q)))) jr h i m) 0 k)), some (.int (nI (0 + k)))] [.int (nI (0 + k)), .int (nI h), .ref 31]
    have hg := hgf (nI (0 + k))
    refine r_iastore (pc := 22) (θ' := wC (up3 S 3 (up2 (S 3) 4 (upd (S 3 4) h (nI (0 + k)))))) C h dX5_fittingSwings_22 rfl rfl (by assumption) (by show (wC (up3 S 3 (up2 (S 3) 4 gf))).set 31 (.inl (0, 6, .inl (upd gf h (nI (0 + k))))) = _; rw [hg]; rfl) ?_
    refine r_aload_n (pc := 23) C dX5_fittingSwings_23 rfl rfl ?_
    refine r_iload_n (pc := 24) C dX5_fittingSwings_24 rfl rfl ?_
    refine r_aload_n (pc := 25) C dX5_fittingSwings_25 rfl rfl ?_
    refine r_iload_n (pc := 26) C dX5_fittingSwings_26 rfl rfl ?_
    refine r_iload (pc := 27) C dX5_fittingSwings_27 rfl ?_
    refine r_callV0 (pc := 29) (As := [.int (nI h), .ref (2 + 2 * jr), .int (nI i), .int (nI m)]) (st := []) (θ' := wC (up3 S 3 (up2 (S 3) 4 (upd (S 3 4) h (nI (0 + k)))))) C (c_X5_wasThere (up3 S 3 (up2 (S 3) 4 (upd (S 3 4) h (nI (0 + k))))) jr h i m (by omega) (by omega) (by omega) (okW_4 (by omega) hW)) xm_X5_wasThere xk_X5_254 dX5_fittingSwings_29 rfl rfl rfl rfl (Nat.le_of_ble_eq_true rfl) ⟨Nat.le_of_ble_eq_true rfl, Nat.le_of_ble_eq_true rfl⟩ ⟨rfl, rfl⟩ ⟨Nat.le_of_ble_eq_true rfl, Nat.le_of_ble_eq_true rfl⟩ rfl (Eq.trans (b := 55) rfl rfl) ?_
    show g 0 0 (wC (up3 S 3 (up2 (S 3) 4 (upd (S 3 4) h (nI (0 + k)))))) 32 [some (.ref 0), some (.int (nI h)), some (.ref (2 + 2 * jr)), some (.int (nI i)), some (.int (nI m)), some (.int (fitB (fun q => thS (up3 S 3 (up2 (S 3) 4 (upd (S 3 4) h (nI q)))) jr h i m) 0 k)), some (.int (nI (0 + k)))] [.int (bB (thS (up3 S 3 (up2 (S 3) 4 (upd (S 3 4) h (nI (0 + k))))) jr h i m))]
    refine r_if_eq (pc := 32) (tgt := 44) C dX5_fittingSwings_32 (by decide) (fun h_32 => ?_) (fun h_32 => ?_)
    · replace h_32 := bB_f h_32
      refine r_iinc (pc := 44) (v := nI (0 + (k + 1))) (lv' := [some (.ref 0), some (.int (nI h)), some (.ref (2 + 2 * jr)), some (.int (nI i)), some (.int (nI m)), some (.int (fitB (fun q => thS (up3 S 3 (up2 (S 3) 4 (upd (S 3 4) h (nI q)))) jr h i m) 0 k)), some (.int (nI (0 + (k + 1))))]) C dX5_fittingSwings_44 rfl (nI_1 (0 + k)) trivial rfl ?_
      refine r_goto (pc := 47) (tgt := 6) C dX5_fittingSwings_47 (by decide) ?_
      show g 0 0 (wC (up3 S 3 (up2 (S 3) 4 (upd (S 3 4) h (nI (0 + k)))))) 6 [some (.ref 0), some (.int (nI h)), some (.ref (2 + 2 * jr)), some (.int (nI i)), some (.int (nI m)), some (.int (fitB (fun q => thS (up3 S 3 (up2 (S 3) 4 (upd (S 3 4) h (nI q)))) jr h i m) 0 k)), some (.int (nI (0 + (k + 1))))] []
      rw [show (fitB (fun q => thS (up3 S 3 (up2 (S 3) 4 (upd (S 3 4) h (nI q)))) jr h i m) 0 k : Int32) = fitB (fun q => thS (up3 S 3 (up2 (S 3) 4 (upd (S 3 4) h (nI q)))) jr h i m) 0 (k + 1) from by simp only [fitB, h_32, if_true, if_false, Bool.false_eq_true]]
      exact ih (k + 1) _ (by omega) (fun x => upd_u) (fun e => by rw [show 0 + k = 5 by omega])
    · replace h_32 := bB_t h_32
      refine r_iload (pc := 35) C dX5_fittingSwings_35 rfl ?_
      refine r_iconst (pc := 37) (v := 1) C dX5_fittingSwings_37 (by decide) ?_
      refine r_iload (pc := 38) C dX5_fittingSwings_38 rfl ?_
      refine r_ishl (pc := 40) C dX5_fittingSwings_40 ?_
      refine r_ior (pc := 41) C dX5_fittingSwings_41 ?_
      refine r_istore (pc := 42) (lv' := [some (.ref 0), some (.int (nI h)), some (.ref (2 + 2 * jr)), some (.int (nI i)), some (.int (nI m)), some (.int ((fitB (fun q => thS (up3 S 3 (up2 (S 3) 4 (upd (S 3 4) h (nI q)))) jr h i m) 0 k) ||| (1 <<< ((nI (0 + k)) &&& 31)))), some (.int (nI (0 + k)))]) C dX5_fittingSwings_42 (Nat.le_of_ble_eq_true rfl) trivial rfl ?_
      refine r_iinc (pc := 44) (v := nI (0 + (k + 1))) (lv' := [some (.ref 0), some (.int (nI h)), some (.ref (2 + 2 * jr)), some (.int (nI i)), some (.int (nI m)), some (.int ((fitB (fun q => thS (up3 S 3 (up2 (S 3) 4 (upd (S 3 4) h (nI q)))) jr h i m) 0 k) ||| (1 <<< ((nI (0 + k)) &&& 31)))), some (.int (nI (0 + (k + 1))))]) C dX5_fittingSwings_44 rfl (nI_1 (0 + k)) trivial rfl ?_
      refine r_goto (pc := 47) (tgt := 6) C dX5_fittingSwings_47 (by decide) ?_
      show g 0 0 (wC (up3 S 3 (up2 (S 3) 4 (upd (S 3 4) h (nI (0 + k)))))) 6 [some (.ref 0), some (.int (nI h)), some (.ref (2 + 2 * jr)), some (.int (nI i)), some (.int (nI m)), some (.int ((fitB (fun q => thS (up3 S 3 (up2 (S 3) 4 (upd (S 3 4) h (nI q)))) jr h i m) 0 k) ||| (1 <<< ((nI (0 + k)) &&& 31)))), some (.int (nI (0 + (k + 1))))] []
      rw [show ((fitB (fun q => thS (up3 S 3 (up2 (S 3) 4 (upd (S 3 4) h (nI q)))) jr h i m) 0 k) ||| (1 <<< ((nI (0 + k)) &&& 31)) : Int32) = fitB (fun q => thS (up3 S 3 (up2 (S 3) 4 (upd (S 3 4) h (nI q)))) jr h i m) 0 (k + 1) from by simp only [fitB, h_32, if_true, if_false, Bool.false_eq_true]]
      exact ih (k + 1) _ (by omega) (fun x => upd_u) (fun e => by rw [show 0 + k = 5 by omega])
set_option maxHeartbeats 4000000 in
set_option maxRecDepth 100000 in
theorem c_X5_fittingSwings (S : Nat → Nat → Nat → Int32) (jr h i m : Nat) (hjr : jr < 8) (hh : h < 6) (him : i + m ≤ 40) (hW : okW (S 3)) : MetA yX5_fittingSwings (.code yX5_fittingSwings cX5_fittingSwings 7 (some .int) :: TT) rmX5_fittingSwings [.ref 0, .int (nI h), .ref (2 + 2 * jr), .int (nI i), .int (nI m)] (wC S) (fun vr wr => vr = some (.int (fitB (fun q => thS (up3 S 3 (up2 (S 3) 4 (upd (S 3 4) h (nI q)))) jr h i m) 0 6)) ∧ wr = wC (up3 S 3 (up2 (S 3) 4 (upd (S 3 4) h (nI 5))))) 0 0 := by
  refine MetA.of_i (by decide) (fun _ => Nat.le_of_ble_eq_true rfl) (Nat.le_of_ble_eq_true rfl) (fun g C E => ?_)
  replace C : Sem cX5_fittingSwings RX5 "fittingSwings" 7 rmX5_fittingSwings g := C
  show g 0 0 (wC S) 0 [some (.ref 0), some (.int (nI h)), some (.ref (2 + 2 * jr)), some (.int (nI i)), some (.int (nI m)), none, none] []
  refine r_iconst (pc := 0) (v := 0) C dX5_fittingSwings_0 (by decide) ?_
  refine r_istore (pc := 1) (lv' := [some (.ref 0), some (.int (nI h)), some (.ref (2 + 2 * jr)), some (.int (nI i)), some (.int (nI m)), some (.int 0), none]) C dX5_fittingSwings_1 (Nat.le_of_ble_eq_true rfl) trivial rfl ?_
  refine r_iconst (pc := 3) (v := 0) C dX5_fittingSwings_3 (by decide) ?_
  refine r_istore (pc := 4) (lv' := [some (.ref 0), some (.int (nI h)), some (.ref (2 + 2 * jr)), some (.int (nI i)), some (.int (nI m)), some (.int 0), some (.int 0)]) C dX5_fittingSwings_4 (Nat.le_of_ble_eq_true rfl) trivial rfl ?_
  show g 0 0 (wC S) 6 [some (.ref 0), some (.int (nI h)), some (.ref (2 + 2 * jr)), some (.int (nI i)), some (.int (nI m)), some (.int 0), some (.int 0)] []
  exact lp_X5_fittingSwings S jr h i m hjr hh him hW C E 6 0 (S 3 4) (by omega) (fun _ => rfl) (fun e => absurd e (by decide))
set_option maxHeartbeats 4000000 in
set_option maxRecDepth 100000 in
theorem lp_X5_fittingWeights (S : Nat → Nat → Nat → Int32) (jr h i m : Nat) (hjr : jr < 8) (hh : h < 6) (him : i + m ≤ 40) (hW : okW (S 3)) (z : Nat) (hz : S 3 9 0 = nI z) (hz6 : z ≤ 6) {g : Nat → Nat → List xE → Nat → List (Option Value) → List Value → Prop} (C : Sem cX5_fittingWeights RX5 "fittingWeights" 7 rmX5_fittingWeights g) (E : xEi g cX5_fittingWeights .int 0 0 (fun vr wr => vr = some (.int (fitB (fun q => trS (up3 S 3 (up2 (S 3) 3 (upd (S 3 3) h (nI q)))) z jr h i m) 1 20)) ∧ wr = wC (up3 S 3 (up2 (S 3) 3 (upd (S 3 3) h (nI 20)))))) : ∀ (n : Nat) (k : Nat) (gf : Nat → Int32), k + n = 20 → (∀ x, upd gf h x = upd (S 3 3) h x) → (k = 20 → gf = upd (S 3 3) h (nI 20)) → g 0 0 (wC (up3 S 3 (up2 (S 3) 3 gf))) 6 [some (.ref 0), some (.int (nI h)), some (.ref (2 + 2 * jr)), some (.int (nI i)), some (.int (nI m)), some (.int (fitB (fun q => trS (up3 S 3 (up2 (S 3) 3 (upd (S 3 3) h (nI q)))) z jr h i m) 1 k)), some (.int (nI (1 + k)))] [] := by
  intro n
  induction n with
  | zero =>
    intro k gf hk hgf hlast
    have hkc : k = 20 := by omega
    have hl := hlast hkc
    rw [hkc, hl]
    refine r_iload (pc := 6) C dX5_fittingWeights_6 rfl ?_
    refine r_bipush (pc := 8) (v := 20) C dX5_fittingWeights_8 (by decide) ?_
    refine r_icmp_gt (pc := 10) (tgt := 51) C dX5_fittingWeights_10 (by decide) (fun _ => ?_) (fun h => absurd ((nI_ltI (a := 20) (by omega) (by omega)).mpr (by omega)) h)
    refine r_iload (pc := 51) C dX5_fittingWeights_51 rfl ?_
    exact E _ _ _ _ _ _ dX5_fittingWeights_53 (Nat.le_refl _) (Nat.le_refl _) rfl ⟨rfl, rfl⟩
  | succ n ih =>
    intro k gf hk hgf hlast
    refine r_iload (pc := 6) C dX5_fittingWeights_6 rfl ?_
    refine r_bipush (pc := 8) (v := 20) C dX5_fittingWeights_8 (by decide) ?_
    refine r_icmp_gt (pc := 10) (tgt := 51) C dX5_fittingWeights_10 (by decide) (fun h => absurd h (fun z => absurd ((nI_ltI (a := 20) (by omega) (by omega)).mp z) (by omega))) (fun _ => ?_)
    refine r_aload_n (pc := 13) C dX5_fittingWeights_13 rfl rfl ?_
    refine r_getfield (pc := 14) (v := .ref 26) C xf_X5_29 dX5_fittingWeights_14 rfl rfl ?_
    refine r_getfield (pc := 17) (v := .ref 30) C xf_X5_151 dX5_fittingWeights_17 rfl rfl ?_
    refine r_iload_n (pc := 20) C dX5_fittingWeights_20 rfl rfl ?_
    refine r_iload (pc := 21) C dX5_fittingWeights_21 rfl ?_
    show g 0 0 (wC (up3 S 3 (up2 (S 3) 3 gf))) 23 [some (.ref 0), some (.int (nI h)), some (.ref (2 + 2 * jr)), some (.int (nI i)), some (.int (nI m)), some (.int (fitB (fun q => trS (up3 S 3 (up2 (S 3) 3 (upd (S 3 3) h (nI q)))) z jr h i m) 1 k)), some (.int (nI (1 + k)))] [.int (nI (1 + k)), .int (nI h), .ref 30]
    have hg := hgf (nI (1 + k))
    refine r_iastore (pc := 23) (θ' := wC (up3 S 3 (up2 (S 3) 3 (upd (S 3 3) h (nI (1 + k)))))) C h dX5_fittingWeights_23 rfl rfl (by assumption) (by show (wC (up3 S 3 (up2 (S 3) 3 gf))).set 30 (.inl (0, 6, .inl (upd gf h (nI (1 + k))))) = _; rw [hg]; rfl) ?_
    refine r_aload_n (pc := 24) C dX5_fittingWeights_24 rfl rfl ?_
    refine r_iload_n (pc := 25) C dX5_fittingWeights_25 rfl rfl ?_
    refine r_aload_n (pc := 26) C dX5_fittingWeights_26 rfl rfl ?_
    refine r_iload_n (pc := 27) C dX5_fittingWeights_27 rfl rfl ?_
    refine r_iload (pc := 28) C dX5_fittingWeights_28 rfl ?_
    refine r_callV0 (pc := 30) (As := [.int (nI h), .ref (2 + 2 * jr), .int (nI i), .int (nI m)]) (st := []) (θ' := wC (up3 S 3 (up2 (S 3) 3 (upd (S 3 3) h (nI (1 + k)))))) C (c_X5_wasReached (up3 S 3 (up2 (S 3) 3 (upd (S 3 3) h (nI (1 + k))))) jr h i m (by omega) (by omega) (by omega) (okW_1 (by decide) hW) z hz hz6) xm_X5_wasReached xk_X5_258 dX5_fittingWeights_30 rfl rfl rfl rfl (Nat.le_of_ble_eq_true rfl) ⟨Nat.le_of_ble_eq_true rfl, Nat.le_of_ble_eq_true rfl⟩ ⟨rfl, rfl⟩ ⟨Nat.le_of_ble_eq_true rfl, Nat.le_of_ble_eq_true rfl⟩ rfl (Eq.trans (b := 55) rfl rfl) ?_
    show g 0 0 (wC (up3 S 3 (up2 (S 3) 3 (upd (S 3 3) h (nI (1 + k)))))) 33 [some (.ref 0), some (.int (nI h)), some (.ref (2 + 2 * jr)), some (.int (nI i)), some (.int (nI m)), some (.int (fitB (fun q => trS (up3 S 3 (up2 (S 3) 3 (upd (S 3 3) h (nI q)))) z jr h i m) 1 k)), some (.int (nI (1 + k)))] [.int (bB (trS (up3 S 3 (up2 (S 3) 3 (upd (S 3 3) h (nI (1 + k))))) z jr h i m))]
    refine r_if_eq (pc := 33) (tgt := 45) C dX5_fittingWeights_33 (by decide) (fun h_33 => ?_) (fun h_33 => ?_)
    · replace h_33 := bB_f h_33
      refine r_iinc (pc := 45) (v := nI (1 + (k + 1))) (lv' := [some (.ref 0), some (.int (nI h)), some (.ref (2 + 2 * jr)), some (.int (nI i)), some (.int (nI m)), some (.int (fitB (fun q => trS (up3 S 3 (up2 (S 3) 3 (upd (S 3 3) h (nI q)))) z jr h i m) 1 k)), some (.int (nI (1 + (k + 1))))]) C dX5_fittingWeights_45 rfl (nI_1 (1 + k)) trivial rfl ?_
      refine r_goto (pc := 48) (tgt := 6) C dX5_fittingWeights_48 (by decide) ?_
      show g 0 0 (wC (up3 S 3 (up2 (S 3) 3 (upd (S 3 3) h (nI (1 + k)))))) 6 [some (.ref 0), some (.int (nI h)), some (.ref (2 + 2 * jr)), some (.int (nI i)), some (.int (nI m)), some (.int (fitB (fun q => trS (up3 S 3 (up2 (S 3) 3 (upd (S 3 3) h (nI q)))) z jr h i m) 1 k)), some (.int (nI (1 + (k + 1))))] []
      rw [show (fitB (fun q => trS (up3 S 3 (up2 (S 3) 3 (upd (S 3 3) h (nI q)))) z jr h i m) 1 k : Int32) = fitB (fun q => trS (up3 S 3 (up2 (S 3) 3 (upd (S 3 3) h (nI q)))) z jr h i m) 1 (k + 1) from by simp only [fitB, h_33, if_true, if_false, Bool.false_eq_true]]
      exact ih (k + 1) _ (by omega) (fun x => upd_u) (fun e => by rw [show 1 + k = 20 by omega])
    · replace h_33 := bB_t h_33
      refine r_iload (pc := 36) C dX5_fittingWeights_36 rfl ?_
      refine r_iconst (pc := 38) (v := 1) C dX5_fittingWeights_38 (by decide) ?_
      refine r_iload (pc := 39) C dX5_fittingWeights_39 rfl ?_
      refine r_ishl (pc := 41) C dX5_fittingWeights_41 ?_
      refine r_ior (pc := 42) C dX5_fittingWeights_42 ?_
      refine r_istore (pc := 43) (lv' := [some (.ref 0), some (.int (nI h)), some (.ref (2 + 2 * jr)), some (.int (nI i)), some (.int (nI m)), some (.int ((fitB (fun q => trS (up3 S 3 (up2 (S 3) 3 (upd (S 3 3) h (nI q)))) z jr h i m) 1 k) ||| (1 <<< ((nI (1 + k)) &&& 31)))), some (.int (nI (1 + k)))]) C dX5_fittingWeights_43 (Nat.le_of_ble_eq_true rfl) trivial rfl ?_
      refine r_iinc (pc := 45) (v := nI (1 + (k + 1))) (lv' := [some (.ref 0), some (.int (nI h)), some (.ref (2 + 2 * jr)), some (.int (nI i)), some (.int (nI m)), some (.int ((fitB (fun q => trS (up3 S 3 (up2 (S 3) 3 (upd (S 3 3) h (nI q)))) z jr h i m) 1 k) ||| (1 <<< ((nI (1 + k)) &&& 31)))), some (.int (nI (1 + (k + 1))))]) C dX5_fittingWeights_45 rfl (nI_1 (1 + k)) trivial rfl ?_
      refine r_goto (pc := 48) (tgt := 6) C dX5_fittingWeights_48 (by decide) ?_
      show g 0 0 (wC (up3 S 3 (up2 (S 3) 3 (upd (S 3 3) h (nI (1 + k)))))) 6 [some (.ref 0), some (.int (nI h)), some (.ref (2 + 2 * jr)), some (.int (nI i)), some (.int (nI m)), some (.int ((fitB (fun q => trS (up3 S 3 (up2 (S 3) 3 (upd (S 3 3) h (nI q)))) z jr h i m) 1 k) ||| (1 <<< ((nI (1 + k)) &&& 31)))), some (.int (nI (1 + (k + 1))))] []
      rw [show ((fitB (fun q => trS (up3 S 3 (up2 (S 3) 3 (upd (S 3 3) h (nI q)))) z jr h i m) 1 k) ||| (1 <<< ((nI (1 + k)) &&& 31)) : Int32) = fitB (fun q => trS (up3 S 3 (up2 (S 3) 3 (upd (S 3 3) h (nI q)))) z jr h i m) 1 (k + 1) from by simp only [fitB, h_33, if_true, if_false, Bool.false_eq_true]]
      exact ih (k + 1) _ (by omega) (fun x => upd_u) (fun e => by rw [show 1 + k = 20 by omega])
set_option maxHeartbeats 4000000 in
set_option maxRecDepth 100000 in
theorem c_X5_fittingWeights (S : Nat → Nat → Nat → Int32) (jr h i m : Nat) (hjr : jr < 8) (hh : h < 6) (him : i + m ≤ 40) (hW : okW (S 3)) (z : Nat) (hz : S 3 9 0 = nI z) (hz6 : z ≤ 6) : MetA yX5_fittingWeights (.code yX5_fittingWeights cX5_fittingWeights 7 (some .int) :: TT) rmX5_fittingWeights [.ref 0, .int (nI h), .ref (2 + 2 * jr), .int (nI i), .int (nI m)] (wC S) (fun vr wr => vr = some (.int (fitB (fun q => trS (up3 S 3 (up2 (S 3) 3 (upd (S 3 3) h (nI q)))) z jr h i m) 1 20)) ∧ wr = wC (up3 S 3 (up2 (S 3) 3 (upd (S 3 3) h (nI 20))))) 0 0 := by
  refine MetA.of_i (by decide) (fun _ => Nat.le_of_ble_eq_true rfl) (Nat.le_of_ble_eq_true rfl) (fun g C E => ?_)
  replace C : Sem cX5_fittingWeights RX5 "fittingWeights" 7 rmX5_fittingWeights g := C
  show g 0 0 (wC S) 0 [some (.ref 0), some (.int (nI h)), some (.ref (2 + 2 * jr)), some (.int (nI i)), some (.int (nI m)), none, none] []
  refine r_iconst (pc := 0) (v := 0) C dX5_fittingWeights_0 (by decide) ?_
  refine r_istore (pc := 1) (lv' := [some (.ref 0), some (.int (nI h)), some (.ref (2 + 2 * jr)), some (.int (nI i)), some (.int (nI m)), some (.int 0), none]) C dX5_fittingWeights_1 (Nat.le_of_ble_eq_true rfl) trivial rfl ?_
  refine r_iconst (pc := 3) (v := 1) C dX5_fittingWeights_3 (by decide) ?_
  refine r_istore (pc := 4) (lv' := [some (.ref 0), some (.int (nI h)), some (.ref (2 + 2 * jr)), some (.int (nI i)), some (.int (nI m)), some (.int 0), some (.int 1)]) C dX5_fittingWeights_4 (Nat.le_of_ble_eq_true rfl) trivial rfl ?_
  show g 0 0 (wC S) 6 [some (.ref 0), some (.int (nI h)), some (.ref (2 + 2 * jr)), some (.int (nI i)), some (.int (nI m)), some (.int 0), some (.int 1)] []
  exact lp_X5_fittingWeights S jr h i m hjr hh him hW z hz hz6 C E 20 0 (S 3 3) (by omega) (fun _ => rfl) (fun e => absurd e (by decide))
theorem okW_tk {F P : Nat → Nat → Int32} (hW : okW P) : okW (tkS F P) := by
  intro h hh
  show okSw (va_cpy (P 4) (F 4) 0 0 6 h)
  unfold va_cpy
  rw [if_pos (by omega), show 0 + (h - 0) = h by omega]
  exact hW h hh
def fitsC (S : Nat → Nat → Nat → Int32) (z : Nat) (h r i n x : Int32) : Int32 × (Nat → Nat → Nat → Int32) := (if (belS h ((S 2) 9 0)) = true then (if (belS r 8) = true then (if n < 1 then ((-1000001), S) else (if 16 < n then ((-1000001), S) else (if (belS x 3) = true then (if ((S ((ix r) + 8)) 1 0) = (-1) then ((-1000010) - 1, (up3 S 0 (up2 (S 0) 9 (k1 1)))) else (if (spanS (S ((ix r) + 8) 2 0) i n) = true then (if x = 0 then (fitB (fun q => thS (up3 (up3 (up3 S 0 (up2 (S 0) 9 (k1 0))) 3 (tkS (S 3) (S 2))) 3 (up2 ((up3 (up3 S 0 (up2 (S 0) 9 (k1 0))) 3 (tkS (S 3) (S 2))) 3) 0 (upd ((up3 (up3 S 0 (up2 (S 0) 9 (k1 0))) 3 (tkS (S 3) (S 2))) 3 0) (ix h) (nI q)))) (ix r) (ix h) (ix i) (ix n)) 1 5, (up3 (up3 (up3 S 0 (up2 (S 0) 9 (k1 0))) 3 (tkS (S 3) (S 2))) 3 (up2 ((up3 (up3 S 0 (up2 (S 0) 9 (k1 0))) 3 (tkS (S 3) (S 2))) 3) 0 (upd ((up3 (up3 S 0 (up2 (S 0) 9 (k1 0))) 3 (tkS (S 3) (S 2))) 3 0) (ix h) (nI 5))))) else (if x = 1 then (fitB (fun q => thS (up3 (up3 (up3 S 0 (up2 (S 0) 9 (k1 0))) 3 (tkS (S 3) (S 2))) 3 (up2 ((up3 (up3 S 0 (up2 (S 0) 9 (k1 0))) 3 (tkS (S 3) (S 2))) 3) 4 (upd ((up3 (up3 S 0 (up2 (S 0) 9 (k1 0))) 3 (tkS (S 3) (S 2))) 3 4) (ix h) (nI q)))) (ix r) (ix h) (ix i) (ix n)) 0 6, (up3 (up3 (up3 S 0 (up2 (S 0) 9 (k1 0))) 3 (tkS (S 3) (S 2))) 3 (up2 ((up3 (up3 S 0 (up2 (S 0) 9 (k1 0))) 3 (tkS (S 3) (S 2))) 3) 4 (upd ((up3 (up3 S 0 (up2 (S 0) 9 (k1 0))) 3 (tkS (S 3) (S 2))) 3 4) (ix h) (nI 5))))) else (fitB (fun q => trS (up3 (up3 (up3 S 0 (up2 (S 0) 9 (k1 0))) 3 (tkS (S 3) (S 2))) 3 (up2 ((up3 (up3 S 0 (up2 (S 0) 9 (k1 0))) 3 (tkS (S 3) (S 2))) 3) 3 (upd ((up3 (up3 S 0 (up2 (S 0) 9 (k1 0))) 3 (tkS (S 3) (S 2))) 3 3) (ix h) (nI q)))) z (ix r) (ix h) (ix i) (ix n)) 1 20, (up3 (up3 (up3 S 0 (up2 (S 0) 9 (k1 0))) 3 (tkS (S 3) (S 2))) 3 (up2 ((up3 (up3 S 0 (up2 (S 0) 9 (k1 0))) 3 (tkS (S 3) (S 2))) 3) 3 (upd ((up3 (up3 S 0 (up2 (S 0) 9 (k1 0))) 3 (tkS (S 3) (S 2))) 3 3) (ix h) (nI 20))))))) else ((-1000010) - 2, (up3 S 0 (up2 (S 0) 9 (k1 2)))))) else ((-1000001), S)))) else ((-1000001), S)) else ((-1000001), S))
set_option maxHeartbeats 4000000 in
set_option maxRecDepth 100000 in
theorem c_X5_fits (S : Nat → Nat → Nat → Int32) (h r i n x : Int32) (z : Nat) (hS : okS S z) (h52 : S 2 5 0 = 0 ∨ S 2 5 0 = 1) (hsz : ∀ j, j < 8 → S (j + 8) 2 0 = nI (S (j + 8) 2 0).toNatClampNeg ∧ (S (j + 8) 2 0).toNatClampNeg ≤ 40) : MetA yX5_fits (.code yX5_fits cX5_fits 7 (some .int) :: TT) rmX5_fits [.ref 0, .int h, .int r, .int i, .int n, .int x] (wC S) (fun vr wr => vr = some (.int (fitsC S z h r i n x).1) ∧ wr = wC (fitsC S z h r i n x).2) 0 0 := by
  refine MetA.of_i (by decide) (fun _ => Nat.le_of_ble_eq_true rfl) (Nat.le_of_ble_eq_true rfl) (fun g C E => ?_)
  replace C : Sem cX5_fits RX5 "fits" 7 rmX5_fits g := C
  show g 0 0 (wC S) 0 [some (.ref 0), some (.int h), some (.int r), some (.int i), some (.int n), some (.int x), none] []
  refine r_aload_n (pc := 0) C dX5_fits_0 rfl rfl ?_
  refine r_iload_n (pc := 1) C dX5_fits_1 rfl rfl ?_
  refine r_callV0 (pc := 2) (As := [.int h]) (st := []) (θ' := wC S) C (c_X5_isHammock S h) xm_X5_isHammock xk_X5_138 dX5_fits_2 rfl rfl rfl rfl (Nat.le_of_ble_eq_true rfl) ⟨Nat.le_of_ble_eq_true rfl, Nat.le_of_ble_eq_true rfl⟩ ⟨rfl, rfl⟩ ⟨Nat.le_of_ble_eq_true rfl, Nat.le_of_ble_eq_true rfl⟩ rfl (Eq.trans (b := 55) rfl rfl) ?_
  show g 0 0 (wC S) 5 [some (.ref 0), some (.int h), some (.int r), some (.int i), some (.int n), some (.int x), none] [.int (bB (belS h ((S 2) 9 0)))]
  refine r_if_eq (pc := 5) (tgt := 37) C dX5_fits_5 (by decide) (fun h_5 => ?_) (fun h_5 => ?_)
  · replace h_5 := bB_f h_5
    refine r_ldc (pc := 37) (v := (-1000001)) C dX5_fits_37 tw_216 ?_
    show g 0 0 (wC S) 39 [some (.ref 0), some (.int h), some (.int r), some (.int i), some (.int n), some (.int x), none] [.int (-1000001)]
    have hX : fitsC S z h r i n x = ((-1000001), S) := by
      unfold fitsC
      rw [if_neg (nbt h_5)]
    exact E _ _ _ _ _ _ dX5_fits_39 (Nat.le_refl _) (Nat.le_refl _) rfl ⟨by rw [hX], by rw [hX]⟩
  · replace h_5 := bB_t h_5
    obtain ⟨jh, hjh, rfl⟩ := bel_ex hS.1 (by have := hS.2.1; omega) h_5
    have hjh6 : jh < 6 := by have := hS.2.1; omega
    refine r_iload_n (pc := 8) C dX5_fits_8 rfl rfl ?_
    refine r_callS0 (pc := 9) (As := [.int r]) (st := []) C (c_X5_isRow r) xm_X5_isRow xk_X5_55 dX5_fits_9 (fun _ => rfl) (fun _ => rfl) rfl rfl (Nat.le_of_ble_eq_true rfl) ⟨Nat.le_of_ble_eq_true rfl, Nat.le_of_ble_eq_true rfl⟩ ⟨rfl, rfl⟩ ⟨Nat.le_of_ble_eq_true rfl, Nat.le_of_ble_eq_true rfl⟩ rfl ?_
    show g 0 0 (wC S) 12 [some (.ref 0), some (.int (nI jh)), some (.int r), some (.int i), some (.int n), some (.int x), none] [.int (bB (belS r 8))]
    refine r_if_eq (pc := 12) (tgt := 37) C dX5_fits_12 (by decide) (fun h_12 => ?_) (fun h_12 => ?_)
    · replace h_12 := bB_f h_12
      refine r_ldc (pc := 37) (v := (-1000001)) C dX5_fits_37 tw_216 ?_
      show g 0 0 (wC S) 39 [some (.ref 0), some (.int (nI jh)), some (.int r), some (.int i), some (.int n), some (.int x), none] [.int (-1000001)]
      have hX : fitsC S z (nI jh) r i n x = ((-1000001), S) := by
        unfold fitsC
        (try rw [ix_nI (show jh < 2 ^ 31 by omega)])
        rw [if_pos h_5, if_neg (nbt h_12)]
      exact E _ _ _ _ _ _ dX5_fits_39 (Nat.le_refl _) (Nat.le_refl _) rfl ⟨by rw [hX], by rw [hX]⟩
    · replace h_12 := bB_t h_12
      obtain ⟨jr, hjr, rfl⟩ := bel_ex (z := 8) rfl (by omega) h_12
      refine r_iload (pc := 15) C dX5_fits_15 rfl ?_
      refine r_iconst (pc := 17) (v := 1) C dX5_fits_17 (by decide) ?_
      refine r_icmp_lt (pc := 18) (tgt := 37) C dX5_fits_18 (by decide) (fun h_18 => ?_) (fun h_18 => ?_)
      · skip
        refine r_ldc (pc := 37) (v := (-1000001)) C dX5_fits_37 tw_216 ?_
        show g 0 0 (wC S) 39 [some (.ref 0), some (.int (nI jh)), some (.int (nI jr)), some (.int i), some (.int n), some (.int x), none] [.int (-1000001)]
        have hX : fitsC S z (nI jh) (nI jr) i n x = ((-1000001), S) := by
          unfold fitsC
          (try rw [ix_nI (show jh < 2 ^ 31 by omega)])
          (try rw [ix_nI (show jr < 2 ^ 31 by omega)])
          rw [if_pos h_5, if_pos h_12, if_pos h_18]
        exact E _ _ _ _ _ _ dX5_fits_39 (Nat.le_refl _) (Nat.le_refl _) rfl ⟨by rw [hX], by rw [hX]⟩
      · skip
        refine r_iload (pc := 21) C dX5_fits_21 rfl ?_
        refine r_bipush (pc := 23) (v := 16) C dX5_fits_23 (by decide) ?_
        refine r_icmp_gt (pc := 25) (tgt := 37) C dX5_fits_25 (by decide) (fun h_25 => ?_) (fun h_25 => ?_)
        · skip
          refine r_ldc (pc := 37) (v := (-1000001)) C dX5_fits_37 tw_216 ?_
          show g 0 0 (wC S) 39 [some (.ref 0), some (.int (nI jh)), some (.int (nI jr)), some (.int i), some (.int n), some (.int x), none] [.int (-1000001)]
          have hX : fitsC S z (nI jh) (nI jr) i n x = ((-1000001), S) := by
            unfold fitsC
            (try rw [ix_nI (show jh < 2 ^ 31 by omega)])
            (try rw [ix_nI (show jr < 2 ^ 31 by omega)])
            rw [if_pos h_5, if_pos h_12, if_neg h_18, if_pos h_25]
          exact E _ _ _ _ _ _ dX5_fits_39 (Nat.le_refl _) (Nat.le_refl _) rfl ⟨by rw [hX], by rw [hX]⟩
        · skip
          refine r_iload (pc := 28) C dX5_fits_28 rfl ?_
          refine r_iconst (pc := 30) (v := 3) C dX5_fits_30 (by decide) ?_
          refine r_callS0 (pc := 31) (As := [.int x, .int 3]) (st := []) C (c_X5_isBelow x 3) xm_X5_isBelow xk_X5_59 dX5_fits_31 (fun _ => rfl) (fun _ => rfl) rfl rfl (Nat.le_of_ble_eq_true rfl) ⟨Nat.le_of_ble_eq_true rfl, Nat.le_of_ble_eq_true rfl⟩ ⟨rfl, rfl⟩ ⟨Nat.le_of_ble_eq_true rfl, Nat.le_of_ble_eq_true rfl⟩ rfl ?_
          show g 0 0 (wC S) 34 [some (.ref 0), some (.int (nI jh)), some (.int (nI jr)), some (.int i), some (.int n), some (.int x), none] [.int (bB (belS x 3))]
          refine r_if_ne (pc := 34) (tgt := 40) C dX5_fits_34 (by decide) (fun h_34 => ?_) (fun h_34 => ?_)
          · replace h_34 := bB_t h_34
            refine r_aload_n (pc := 40) C dX5_fits_40 rfl rfl ?_
            refine r_getfield (pc := 41) (v := .ref 1) C xf_X5_11 dX5_fits_41 rfl rfl ?_
            refine r_iload_n (pc := 44) C dX5_fits_44 rfl rfl ?_
            refine r_aaload (pc := 45) (b := 2 + 2 * jr) C jr dX5_fits_45 rfl (fun _ => rfl) rfl (by first | assumption | omega) rfl ?_
            refine r_astore (pc := 46) (lv' := [some (.ref 0), some (.int (nI jh)), some (.int (nI jr)), some (.int i), some (.int n), some (.int x), some (.ref (2 + 2 * jr))]) C dX5_fits_46 (Nat.le_of_ble_eq_true rfl) trivial rfl ?_
            refine r_aload (pc := 48) C dX5_fits_48 rfl ?_
            refine r_getfield (pc := 50) (v := .int ((S (jr + 8)) 1 0)) C xf_X5_76 dX5_fits_50 (wC_r0 S jr (by omega)) rfl ?_
            refine r_iconst (pc := 53) (v := (-1)) C dX5_fits_53 (by decide) ?_
            refine r_icmp_ne (pc := 54) (tgt := 63) C dX5_fits_54 (by decide) (fun h_54 => ?_) (fun h_54 => ?_)
            · skip
              refine r_aload (pc := 63) C dX5_fits_63 rfl ?_
              refine r_iload_n (pc := 65) C dX5_fits_65 rfl rfl ?_
              refine r_iload (pc := 66) C dX5_fits_66 rfl ?_
              refine r_callVD (pc := 68) (b := 2 + 2 * jr) (As := [.int i, .int n]) (st := []) (θ2 := wC S) (r2 := some (.int (bB (spanS (S (jr + 8) 2 0) i n)))) C [2 + 2 * jr, 2 + 2 * jr + 1] (c_X3_hasSpan (S (jr + 8)) i n) xm_X3_hasSpan xk_X5_88 dX5_fits_68 (wC_rT S jr (by omega)) (wC_rnd jr (by omega)) rfl (wC_r0 S jr (by omega)) rfl rfl rfl (Nat.le_of_ble_eq_true rfl) ⟨Nat.le_of_ble_eq_true rfl, Nat.le_of_ble_eq_true rfl⟩ ⟨rfl, rfl⟩ ⟨Nat.le_of_ble_eq_true rfl, Nat.le_of_ble_eq_true rfl⟩ rfl (Eq.trans (b := 2) rfl rfl) (wC_rid S jr (by omega)) rfl ?_
              show g 0 0 (wC S) 71 [some (.ref 0), some (.int (nI jh)), some (.int (nI jr)), some (.int i), some (.int n), some (.int x), some (.ref (2 + 2 * jr))] [.int (bB (spanS (S (jr + 8) 2 0) i n))]
              refine r_if_ne (pc := 71) (tgt := 80) C dX5_fits_71 (by decide) (fun h_71 => ?_) (fun h_71 => ?_)
              · replace h_71 := bB_t h_71
                obtain ⟨ki, kn, rfl, rfl, hkin⟩ := span_ex (hsz jr (by omega)).1 (hsz jr (by omega)).2 h_71
                have hk40 : ki + kn ≤ 40 := by have := (hsz jr (by omega)).2; omega
                refine r_aload_n (pc := 80) C dX5_fits_80 rfl rfl ?_
                refine r_iconst (pc := 81) (v := 0) C dX5_fits_81 (by decide) ?_
                refine r_putfield (pc := 82) (θ' := wC (up3 S 0 (up2 (S 0) 9 (k1 0)))) C xf_X5_68 xt_X5_9 dX5_fits_82 rfl (Nat.le_of_ble_eq_true rfl) (fun _ => ⟨rfl, rfl⟩) rfl ?_
                refine r_aload_n (pc := 85) C dX5_fits_85 rfl rfl ?_
                refine r_getfield (pc := 86) (v := .ref 26) C xf_X5_29 dX5_fits_86 rfl rfl ?_
                refine r_aload_n (pc := 89) C dX5_fits_89 rfl rfl ?_
                refine r_getfield (pc := 90) (v := .ref 20) C xf_X5_25 dX5_fits_90 rfl rfl ?_
                refine r_callVD (pc := 93) (b := 26) (As := [.ref 20]) (st := []) (θ2 := wC (up3 (up3 S 0 (up2 (S 0) 9 (k1 0))) 3 (tkS (S 3) (S 2)))) (r2 := none) C [26, 27, 28, 29, 30, 31, 20, 21, 22, 23, 24, 25] (c_X1_takeFrom (S 3) (S 2) h52) xm_X1_takeFrom xk_X5_112 dX5_fits_93 rfl (by decide) rfl rfl rfl rfl rfl (Nat.le_of_ble_eq_true rfl) ⟨Nat.le_of_ble_eq_true rfl, Nat.le_of_ble_eq_true rfl⟩ ⟨rfl, rfl⟩ ⟨Nat.le_of_ble_eq_true rfl, Nat.le_of_ble_eq_true rfl⟩ rfl (Eq.trans (b := 12) rfl rfl) rfl rfl ?_
                show g 0 0 (wC (up3 (up3 S 0 (up2 (S 0) 9 (k1 0))) 3 (tkS (S 3) (S 2)))) 96 [some (.ref 0), some (.int (nI jh)), some (.int (nI jr)), some (.int (nI ki)), some (.int (nI kn)), some (.int x), some (.ref (2 + 2 * jr))] []
                refine r_iload (pc := 96) C dX5_fits_96 rfl ?_
                by_cases q_98_0 : x = 0
                · refine r_lookup (pc := 98) (off := 26) (tgt := 124) C dX5_fits_98 (by decide) (by rw [q_98_0]; decide) (by decide) ?_
                  refine r_aload_n (pc := 124) C dX5_fits_124 rfl rfl ?_
                  refine r_iload_n (pc := 125) C dX5_fits_125 rfl rfl ?_
                  refine r_aload (pc := 126) C dX5_fits_126 rfl ?_
                  refine r_iload_n (pc := 128) C dX5_fits_128 rfl rfl ?_
                  refine r_iload (pc := 129) C dX5_fits_129 rfl ?_
                  refine r_callV0 (pc := 131) (As := [.int (nI jh), .ref (2 + 2 * jr), .int (nI ki), .int (nI kn)]) (st := []) (θ' := wC (up3 (up3 (up3 S 0 (up2 (S 0) 9 (k1 0))) 3 (tkS (S 3) (S 2))) 3 (up2 ((up3 (up3 S 0 (up2 (S 0) 9 (k1 0))) 3 (tkS (S 3) (S 2))) 3) 0 (upd ((up3 (up3 S 0 (up2 (S 0) 9 (k1 0))) 3 (tkS (S 3) (S 2))) 3 0) jh (nI 5))))) C (c_X5_fittingKinds (up3 (up3 S 0 (up2 (S 0) 9 (k1 0))) 3 (tkS (S 3) (S 2))) jr jh ki kn (by omega) (by omega) (by omega) (okW_tk hS.2.2)) xm_X5_fittingKinds xk_X5_206 dX5_fits_131 rfl rfl rfl rfl (Nat.le_of_ble_eq_true rfl) ⟨Nat.le_of_ble_eq_true rfl, Nat.le_of_ble_eq_true rfl⟩ ⟨rfl, rfl⟩ ⟨Nat.le_of_ble_eq_true rfl, Nat.le_of_ble_eq_true rfl⟩ rfl (Eq.trans (b := 55) rfl rfl) ?_
                  show g 0 0 (wC (up3 (up3 (up3 S 0 (up2 (S 0) 9 (k1 0))) 3 (tkS (S 3) (S 2))) 3 (up2 ((up3 (up3 S 0 (up2 (S 0) 9 (k1 0))) 3 (tkS (S 3) (S 2))) 3) 0 (upd ((up3 (up3 S 0 (up2 (S 0) 9 (k1 0))) 3 (tkS (S 3) (S 2))) 3 0) jh (nI 5))))) 134 [some (.ref 0), some (.int (nI jh)), some (.int (nI jr)), some (.int (nI ki)), some (.int (nI kn)), some (.int x), some (.ref (2 + 2 * jr))] [.int (fitB (fun q => thS (up3 (up3 (up3 S 0 (up2 (S 0) 9 (k1 0))) 3 (tkS (S 3) (S 2))) 3 (up2 ((up3 (up3 S 0 (up2 (S 0) 9 (k1 0))) 3 (tkS (S 3) (S 2))) 3) 0 (upd ((up3 (up3 S 0 (up2 (S 0) 9 (k1 0))) 3 (tkS (S 3) (S 2))) 3 0) jh (nI q)))) jr jh ki kn) 1 5)]
                  show g 0 0 (wC (up3 (up3 (up3 S 0 (up2 (S 0) 9 (k1 0))) 3 (tkS (S 3) (S 2))) 3 (up2 ((up3 (up3 S 0 (up2 (S 0) 9 (k1 0))) 3 (tkS (S 3) (S 2))) 3) 0 (upd ((up3 (up3 S 0 (up2 (S 0) 9 (k1 0))) 3 (tkS (S 3) (S 2))) 3 0) jh (nI 5))))) 134 [some (.ref 0), some (.int (nI jh)), some (.int (nI jr)), some (.int (nI ki)), some (.int (nI kn)), some (.int x), some (.ref (2 + 2 * jr))] [.int (fitB (fun q => thS (up3 (up3 (up3 S 0 (up2 (S 0) 9 (k1 0))) 3 (tkS (S 3) (S 2))) 3 (up2 ((up3 (up3 S 0 (up2 (S 0) 9 (k1 0))) 3 (tkS (S 3) (S 2))) 3) 0 (upd ((up3 (up3 S 0 (up2 (S 0) 9 (k1 0))) 3 (tkS (S 3) (S 2))) 3 0) jh (nI q)))) jr jh ki kn) 1 5)]
                  have hX : fitsC S z (nI jh) (nI jr) (nI ki) (nI kn) x = (fitB (fun q => thS (up3 (up3 (up3 S 0 (up2 (S 0) 9 (k1 0))) 3 (tkS (S 3) (S 2))) 3 (up2 ((up3 (up3 S 0 (up2 (S 0) 9 (k1 0))) 3 (tkS (S 3) (S 2))) 3) 0 (upd ((up3 (up3 S 0 (up2 (S 0) 9 (k1 0))) 3 (tkS (S 3) (S 2))) 3 0) jh (nI q)))) jr jh ki kn) 1 5, (up3 (up3 (up3 S 0 (up2 (S 0) 9 (k1 0))) 3 (tkS (S 3) (S 2))) 3 (up2 ((up3 (up3 S 0 (up2 (S 0) 9 (k1 0))) 3 (tkS (S 3) (S 2))) 3) 0 (upd ((up3 (up3 S 0 (up2 (S 0) 9 (k1 0))) 3 (tkS (S 3) (S 2))) 3 0) jh (nI 5))))) := by
                    unfold fitsC
                    (try rw [ix_nI (show jh < 2 ^ 31 by omega)])
                    (try rw [ix_nI (show jr < 2 ^ 31 by omega)])
                    (try rw [ix_nI (show ki < 2 ^ 31 by omega)])
                    (try rw [ix_nI (show kn < 2 ^ 31 by omega)])
                    rw [if_pos h_5, if_pos h_12, if_neg h_18, if_neg h_25, if_pos h_34, if_neg h_54, if_pos h_71, if_pos q_98_0]
                  exact E _ _ _ _ _ _ dX5_fits_134 (Nat.le_refl _) (Nat.le_refl _) rfl ⟨by rw [hX], by rw [hX]⟩
                by_cases q_98_1 : x = 1
                · refine r_lookup (pc := 98) (off := 37) (tgt := 135) C dX5_fits_98 (by decide) (by rw [q_98_1]; decide) (by decide) ?_
                  refine r_aload_n (pc := 135) C dX5_fits_135 rfl rfl ?_
                  refine r_iload_n (pc := 136) C dX5_fits_136 rfl rfl ?_
                  refine r_aload (pc := 137) C dX5_fits_137 rfl ?_
                  refine r_iload_n (pc := 139) C dX5_fits_139 rfl rfl ?_
                  refine r_iload (pc := 140) C dX5_fits_140 rfl ?_
                  refine r_callV0 (pc := 142) (As := [.int (nI jh), .ref (2 + 2 * jr), .int (nI ki), .int (nI kn)]) (st := []) (θ' := wC (up3 (up3 (up3 S 0 (up2 (S 0) 9 (k1 0))) 3 (tkS (S 3) (S 2))) 3 (up2 ((up3 (up3 S 0 (up2 (S 0) 9 (k1 0))) 3 (tkS (S 3) (S 2))) 3) 4 (upd ((up3 (up3 S 0 (up2 (S 0) 9 (k1 0))) 3 (tkS (S 3) (S 2))) 3 4) jh (nI 5))))) C (c_X5_fittingSwings (up3 (up3 S 0 (up2 (S 0) 9 (k1 0))) 3 (tkS (S 3) (S 2))) jr jh ki kn (by omega) (by omega) (by omega) (okW_tk hS.2.2)) xm_X5_fittingSwings xk_X5_210 dX5_fits_142 rfl rfl rfl rfl (Nat.le_of_ble_eq_true rfl) ⟨Nat.le_of_ble_eq_true rfl, Nat.le_of_ble_eq_true rfl⟩ ⟨rfl, rfl⟩ ⟨Nat.le_of_ble_eq_true rfl, Nat.le_of_ble_eq_true rfl⟩ rfl (Eq.trans (b := 55) rfl rfl) ?_
                  show g 0 0 (wC (up3 (up3 (up3 S 0 (up2 (S 0) 9 (k1 0))) 3 (tkS (S 3) (S 2))) 3 (up2 ((up3 (up3 S 0 (up2 (S 0) 9 (k1 0))) 3 (tkS (S 3) (S 2))) 3) 4 (upd ((up3 (up3 S 0 (up2 (S 0) 9 (k1 0))) 3 (tkS (S 3) (S 2))) 3 4) jh (nI 5))))) 145 [some (.ref 0), some (.int (nI jh)), some (.int (nI jr)), some (.int (nI ki)), some (.int (nI kn)), some (.int x), some (.ref (2 + 2 * jr))] [.int (fitB (fun q => thS (up3 (up3 (up3 S 0 (up2 (S 0) 9 (k1 0))) 3 (tkS (S 3) (S 2))) 3 (up2 ((up3 (up3 S 0 (up2 (S 0) 9 (k1 0))) 3 (tkS (S 3) (S 2))) 3) 4 (upd ((up3 (up3 S 0 (up2 (S 0) 9 (k1 0))) 3 (tkS (S 3) (S 2))) 3 4) jh (nI q)))) jr jh ki kn) 0 6)]
                  show g 0 0 (wC (up3 (up3 (up3 S 0 (up2 (S 0) 9 (k1 0))) 3 (tkS (S 3) (S 2))) 3 (up2 ((up3 (up3 S 0 (up2 (S 0) 9 (k1 0))) 3 (tkS (S 3) (S 2))) 3) 4 (upd ((up3 (up3 S 0 (up2 (S 0) 9 (k1 0))) 3 (tkS (S 3) (S 2))) 3 4) jh (nI 5))))) 145 [some (.ref 0), some (.int (nI jh)), some (.int (nI jr)), some (.int (nI ki)), some (.int (nI kn)), some (.int x), some (.ref (2 + 2 * jr))] [.int (fitB (fun q => thS (up3 (up3 (up3 S 0 (up2 (S 0) 9 (k1 0))) 3 (tkS (S 3) (S 2))) 3 (up2 ((up3 (up3 S 0 (up2 (S 0) 9 (k1 0))) 3 (tkS (S 3) (S 2))) 3) 4 (upd ((up3 (up3 S 0 (up2 (S 0) 9 (k1 0))) 3 (tkS (S 3) (S 2))) 3 4) jh (nI q)))) jr jh ki kn) 0 6)]
                  have hX : fitsC S z (nI jh) (nI jr) (nI ki) (nI kn) x = (fitB (fun q => thS (up3 (up3 (up3 S 0 (up2 (S 0) 9 (k1 0))) 3 (tkS (S 3) (S 2))) 3 (up2 ((up3 (up3 S 0 (up2 (S 0) 9 (k1 0))) 3 (tkS (S 3) (S 2))) 3) 4 (upd ((up3 (up3 S 0 (up2 (S 0) 9 (k1 0))) 3 (tkS (S 3) (S 2))) 3 4) jh (nI q)))) jr jh ki kn) 0 6, (up3 (up3 (up3 S 0 (up2 (S 0) 9 (k1 0))) 3 (tkS (S 3) (S 2))) 3 (up2 ((up3 (up3 S 0 (up2 (S 0) 9 (k1 0))) 3 (tkS (S 3) (S 2))) 3) 4 (upd ((up3 (up3 S 0 (up2 (S 0) 9 (k1 0))) 3 (tkS (S 3) (S 2))) 3 4) jh (nI 5))))) := by
                    unfold fitsC
                    (try rw [ix_nI (show jh < 2 ^ 31 by omega)])
                    (try rw [ix_nI (show jr < 2 ^ 31 by omega)])
                    (try rw [ix_nI (show ki < 2 ^ 31 by omega)])
                    (try rw [ix_nI (show kn < 2 ^ 31 by omega)])
                    rw [if_pos h_5, if_pos h_12, if_neg h_18, if_neg h_25, if_pos h_34, if_neg h_54, if_pos h_71, if_neg q_98_0, if_pos q_98_1]
                  exact E _ _ _ _ _ _ dX5_fits_145 (Nat.le_refl _) (Nat.le_refl _) rfl ⟨by rw [hX], by rw [hX]⟩
                refine r_lookup (pc := 98) (off := 48) (tgt := 146) C dX5_fits_98 (by decide) (by show Op.lookupswitch.offset [(0, 26), (1, 37)] 48 _ = _; rw [lv_osw (a := 0) q_98_0 rfl, lv_osw (a := 1) q_98_1 rfl]; rfl) (by decide) ?_
                refine r_aload_n (pc := 146) C dX5_fits_146 rfl rfl ?_
                refine r_iload_n (pc := 147) C dX5_fits_147 rfl rfl ?_
                refine r_aload (pc := 148) C dX5_fits_148 rfl ?_
                refine r_iload_n (pc := 150) C dX5_fits_150 rfl rfl ?_
                refine r_iload (pc := 151) C dX5_fits_151 rfl ?_
                refine r_callV0 (pc := 153) (As := [.int (nI jh), .ref (2 + 2 * jr), .int (nI ki), .int (nI kn)]) (st := []) (θ' := wC (up3 (up3 (up3 S 0 (up2 (S 0) 9 (k1 0))) 3 (tkS (S 3) (S 2))) 3 (up2 ((up3 (up3 S 0 (up2 (S 0) 9 (k1 0))) 3 (tkS (S 3) (S 2))) 3) 3 (upd ((up3 (up3 S 0 (up2 (S 0) 9 (k1 0))) 3 (tkS (S 3) (S 2))) 3 3) jh (nI 20))))) C (c_X5_fittingWeights (up3 (up3 S 0 (up2 (S 0) 9 (k1 0))) 3 (tkS (S 3) (S 2))) jr jh ki kn (by omega) (by omega) (by omega) (okW_tk hS.2.2) z hS.1 hS.2.1) xm_X5_fittingWeights xk_X5_213 dX5_fits_153 rfl rfl rfl rfl (Nat.le_of_ble_eq_true rfl) ⟨Nat.le_of_ble_eq_true rfl, Nat.le_of_ble_eq_true rfl⟩ ⟨rfl, rfl⟩ ⟨Nat.le_of_ble_eq_true rfl, Nat.le_of_ble_eq_true rfl⟩ rfl (Eq.trans (b := 55) rfl rfl) ?_
                show g 0 0 (wC (up3 (up3 (up3 S 0 (up2 (S 0) 9 (k1 0))) 3 (tkS (S 3) (S 2))) 3 (up2 ((up3 (up3 S 0 (up2 (S 0) 9 (k1 0))) 3 (tkS (S 3) (S 2))) 3) 3 (upd ((up3 (up3 S 0 (up2 (S 0) 9 (k1 0))) 3 (tkS (S 3) (S 2))) 3 3) jh (nI 20))))) 156 [some (.ref 0), some (.int (nI jh)), some (.int (nI jr)), some (.int (nI ki)), some (.int (nI kn)), some (.int x), some (.ref (2 + 2 * jr))] [.int (fitB (fun q => trS (up3 (up3 (up3 S 0 (up2 (S 0) 9 (k1 0))) 3 (tkS (S 3) (S 2))) 3 (up2 ((up3 (up3 S 0 (up2 (S 0) 9 (k1 0))) 3 (tkS (S 3) (S 2))) 3) 3 (upd ((up3 (up3 S 0 (up2 (S 0) 9 (k1 0))) 3 (tkS (S 3) (S 2))) 3 3) jh (nI q)))) z jr jh ki kn) 1 20)]
                show g 0 0 (wC (up3 (up3 (up3 S 0 (up2 (S 0) 9 (k1 0))) 3 (tkS (S 3) (S 2))) 3 (up2 ((up3 (up3 S 0 (up2 (S 0) 9 (k1 0))) 3 (tkS (S 3) (S 2))) 3) 3 (upd ((up3 (up3 S 0 (up2 (S 0) 9 (k1 0))) 3 (tkS (S 3) (S 2))) 3 3) jh (nI 20))))) 156 [some (.ref 0), some (.int (nI jh)), some (.int (nI jr)), some (.int (nI ki)), some (.int (nI kn)), some (.int x), some (.ref (2 + 2 * jr))] [.int (fitB (fun q => trS (up3 (up3 (up3 S 0 (up2 (S 0) 9 (k1 0))) 3 (tkS (S 3) (S 2))) 3 (up2 ((up3 (up3 S 0 (up2 (S 0) 9 (k1 0))) 3 (tkS (S 3) (S 2))) 3) 3 (upd ((up3 (up3 S 0 (up2 (S 0) 9 (k1 0))) 3 (tkS (S 3) (S 2))) 3 3) jh (nI q)))) z jr jh ki kn) 1 20)]
                have hX : fitsC S z (nI jh) (nI jr) (nI ki) (nI kn) x = (fitB (fun q => trS (up3 (up3 (up3 S 0 (up2 (S 0) 9 (k1 0))) 3 (tkS (S 3) (S 2))) 3 (up2 ((up3 (up3 S 0 (up2 (S 0) 9 (k1 0))) 3 (tkS (S 3) (S 2))) 3) 3 (upd ((up3 (up3 S 0 (up2 (S 0) 9 (k1 0))) 3 (tkS (S 3) (S 2))) 3 3) jh (nI q)))) z jr jh ki kn) 1 20, (up3 (up3 (up3 S 0 (up2 (S 0) 9 (k1 0))) 3 (tkS (S 3) (S 2))) 3 (up2 ((up3 (up3 S 0 (up2 (S 0) 9 (k1 0))) 3 (tkS (S 3) (S 2))) 3) 3 (upd ((up3 (up3 S 0 (up2 (S 0) 9 (k1 0))) 3 (tkS (S 3) (S 2))) 3 3) jh (nI 20))))) := by
                  unfold fitsC
                  (try rw [ix_nI (show jh < 2 ^ 31 by omega)])
                  (try rw [ix_nI (show jr < 2 ^ 31 by omega)])
                  (try rw [ix_nI (show ki < 2 ^ 31 by omega)])
                  (try rw [ix_nI (show kn < 2 ^ 31 by omega)])
                  rw [if_pos h_5, if_pos h_12, if_neg h_18, if_neg h_25, if_pos h_34, if_neg h_54, if_pos h_71, if_neg q_98_0, if_neg q_98_1]
                exact E _ _ _ _ _ _ dX5_fits_156 (Nat.le_refl _) (Nat.le_refl _) rfl ⟨by rw [hX], by rw [hX]⟩
              · replace h_71 := bB_f h_71
                refine r_aload_n (pc := 74) C dX5_fits_74 rfl rfl ?_
                refine r_iconst (pc := 75) (v := 2) C dX5_fits_75 (by decide) ?_
                refine r_callV0 (pc := 76) (As := [.int 2]) (st := []) (θ' := wC (up3 S 0 (up2 (S 0) 9 (k1 2)))) C (c_X5_finds S 2) xm_X5_finds xk_X5_64 dX5_fits_76 rfl rfl rfl rfl (Nat.le_of_ble_eq_true rfl) ⟨Nat.le_of_ble_eq_true rfl, Nat.le_of_ble_eq_true rfl⟩ ⟨rfl, rfl⟩ ⟨Nat.le_of_ble_eq_true rfl, Nat.le_of_ble_eq_true rfl⟩ rfl (Eq.trans (b := 55) rfl rfl) ?_
                show g 0 0 (wC (up3 S 0 (up2 (S 0) 9 (k1 2)))) 79 [some (.ref 0), some (.int (nI jh)), some (.int (nI jr)), some (.int i), some (.int n), some (.int x), some (.ref (2 + 2 * jr))] [.int ((-1000010) - 2)]
                show g 0 0 (wC (up3 S 0 (up2 (S 0) 9 (k1 2)))) 79 [some (.ref 0), some (.int (nI jh)), some (.int (nI jr)), some (.int i), some (.int n), some (.int x), some (.ref (2 + 2 * jr))] [.int ((-1000010) - 2)]
                have hX : fitsC S z (nI jh) (nI jr) i n x = ((-1000010) - 2, (up3 S 0 (up2 (S 0) 9 (k1 2)))) := by
                  unfold fitsC
                  (try rw [ix_nI (show jh < 2 ^ 31 by omega)])
                  (try rw [ix_nI (show jr < 2 ^ 31 by omega)])
                  rw [if_pos h_5, if_pos h_12, if_neg h_18, if_neg h_25, if_pos h_34, if_neg h_54, if_neg (nbt h_71)]
                exact E _ _ _ _ _ _ dX5_fits_79 (Nat.le_refl _) (Nat.le_refl _) rfl ⟨by rw [hX], by rw [hX]⟩
            · skip
              refine r_aload_n (pc := 57) C dX5_fits_57 rfl rfl ?_
              refine r_iconst (pc := 58) (v := 1) C dX5_fits_58 (by decide) ?_
              refine r_callV0 (pc := 59) (As := [.int 1]) (st := []) (θ' := wC (up3 S 0 (up2 (S 0) 9 (k1 1)))) C (c_X5_finds S 1) xm_X5_finds xk_X5_64 dX5_fits_59 rfl rfl rfl rfl (Nat.le_of_ble_eq_true rfl) ⟨Nat.le_of_ble_eq_true rfl, Nat.le_of_ble_eq_true rfl⟩ ⟨rfl, rfl⟩ ⟨Nat.le_of_ble_eq_true rfl, Nat.le_of_ble_eq_true rfl⟩ rfl (Eq.trans (b := 55) rfl rfl) ?_
              show g 0 0 (wC (up3 S 0 (up2 (S 0) 9 (k1 1)))) 62 [some (.ref 0), some (.int (nI jh)), some (.int (nI jr)), some (.int i), some (.int n), some (.int x), some (.ref (2 + 2 * jr))] [.int ((-1000010) - 1)]
              show g 0 0 (wC (up3 S 0 (up2 (S 0) 9 (k1 1)))) 62 [some (.ref 0), some (.int (nI jh)), some (.int (nI jr)), some (.int i), some (.int n), some (.int x), some (.ref (2 + 2 * jr))] [.int ((-1000010) - 1)]
              have hX : fitsC S z (nI jh) (nI jr) i n x = ((-1000010) - 1, (up3 S 0 (up2 (S 0) 9 (k1 1)))) := by
                unfold fitsC
                (try rw [ix_nI (show jh < 2 ^ 31 by omega)])
                (try rw [ix_nI (show jr < 2 ^ 31 by omega)])
                rw [if_pos h_5, if_pos h_12, if_neg h_18, if_neg h_25, if_pos h_34, if_pos h_54]
              exact E _ _ _ _ _ _ dX5_fits_62 (Nat.le_refl _) (Nat.le_refl _) rfl ⟨by rw [hX], by rw [hX]⟩
          · replace h_34 := bB_f h_34
            refine r_ldc (pc := 37) (v := (-1000001)) C dX5_fits_37 tw_216 ?_
            show g 0 0 (wC S) 39 [some (.ref 0), some (.int (nI jh)), some (.int (nI jr)), some (.int i), some (.int n), some (.int x), none] [.int (-1000001)]
            have hX : fitsC S z (nI jh) (nI jr) i n x = ((-1000001), S) := by
              unfold fitsC
              (try rw [ix_nI (show jh < 2 ^ 31 by omega)])
              (try rw [ix_nI (show jr < 2 ^ 31 by omega)])
              rw [if_pos h_5, if_pos h_12, if_neg h_18, if_neg h_25, if_neg (nbt h_34)]
            exact E _ _ _ _ _ _ dX5_fits_39 (Nat.le_refl _) (Nat.le_refl _) rfl ⟨by rw [hX], by rw [hX]⟩
