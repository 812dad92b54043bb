def kpAll (A : Nat → Nat → Int32) (o q : Nat) (act h f s : Int32) : Nat → Nat → Int32 := if q = 24 then up2 (up2 (kpS A (((o + 1) % 24 + (24 - 1)) % 24) act h f s) 4 (k1 (nI ((o + 1) % 24)))) 5 (k1 (nI (24 - 1 + 1))) else up2 (kpS A ((o + q) % 24) act h f s) 5 (k1 (nI (q + 1)))
theorem c_X0_keep (A : Nat → Nat → Int32) (o : Nat) (ho : A 4 0 = nI o) (ho24 : o < 24) (q : Nat) (hq : A 5 0 = nI q) (hq24 : q ≤ 24) (act h f s : Int32) : MetA yX0_keep (.code yX0_keep cX0_keep 6 none :: TT) rmX0_keep [.ref 0, .int act, .int h, .int f, .int s] (wA 0 A) (fun vr wr => vr = none ∧ wr = wA 0 (kpAll A o q act h f s)) 0 0 := by
  unfold kpAll
  by_cases h24 : q = 24
  · subst h24
    rw [if_pos rfl]
    exact c_X0_keep_full A o ho ho24 hq act h f s
  · rw [if_neg h24]
    exact c_X0_keep_lt A o ho ho24 q hq (by omega) act h f s
noncomputable def frT : (Nat → Nat → Int32) → (Nat → Nat → Int32) → Nat → Nat → Nat → Nat → Int32 := Classical.choose (seal_ex frS)
theorem frT_eq : frT = frS := Classical.choose_spec (seal_ex frS)
theorem frT_z (O F : Nat → Nat → Int32) (z d : Nat) : frT O F z d 3 0 = nI z := by rw [frT_eq]; rfl
noncomputable def arrT : (Nat → Int32) → Nat → Int32 → Int32 → Nat → Int32 → Int32 := Classical.choose (seal_ex arrS)
theorem arrT_eq : arrT = arrS := Classical.choose_spec (seal_ex arrS)
noncomputable def hvT : (Nat → Int32) → Nat → Int32 → Int32 → Nat → Int32 := Classical.choose (seal_ex hvS)
theorem hvT_eq : hvT = hvS := Classical.choose_spec (seal_ex hvS)
theorem c_X2_foreseeT (O F : Nat → Nat → Int32) (d : Nat) (hd : d ≤ 60) (hW : okW F) (z : Nat) (hzF : F 9 0 = nI z) (hz6 : z ≤ 6) : MetA yX2_foresee (.code yX2_foresee cX2_foresee 6 none :: TT) rmX2_foresee [.ref 0, .ref 4, .int (nI d)] (wO 0 O ++ wF 4 F) (fun vr wr => vr = none ∧ wr = wO 0 (frT O F z d) ++ wF 4 F) 0 0 := by
  rw [frT_eq]
  exact c_X2_foresee O F d hd hW z hzF hz6
theorem c_X2_arrivalT (O : Nat → Nat → Int32) (a b : Int32) (d : Nat) (hd : d ≤ 60) (bar : Int32) (z : Nat) (hz : O 3 0 = nI z) (hz6 : z ≤ 6) : MetA yX2_arrival (.code yX2_arrival cX2_arrival 7 (some .int) :: TT) rmX2_arrival [.ref 0, .int a, .int b, .int (nI d), .int bar] (wO 0 O) (fun vr wr => vr = some (.int (arrT (O 1) z a b d bar)) ∧ wr = wO 0 O) 0 0 := by
  rw [arrT_eq]
  exact c_X2_arrival O a b d hd bar z hz hz6
theorem c_X2_holdersT (O : Nat → Nat → Int32) (a : Int32) (d : Nat) (hd : d ≤ 60) (z : Nat) (hz : O 3 0 = nI z) (hz6 : z ≤ 6) : MetA yX2_holders (.code yX2_holders cX2_holders 5 (some .int) :: TT) rmX2_holders [.ref 0, .int a, .int (nI d)] (wO 0 O) (fun vr wr => vr = some (.int (hvT (O 1) z a 0 d)) ∧ wr = wO 0 O) 0 0 := by
  rw [hvT_eq]
  exact c_X2_holders O a d hd z hz hz6
def okA (A : Nat → Nat → Int32) (o q : Nat) : Prop := A 4 0 = nI o ∧ o < 24 ∧ A 5 0 = nI q ∧ q ≤ 24
noncomputable def soonC (S : Nat → Nat → Nat → Int32) (z : Nat) (a b : Int32) : Int32 := if belS a (S 2 9 0) then (if belS b (S 2 9 0) then arrT (frT (S 7) (S 2) z 60 1) z a b 60 0 else -1000001) else -1000001
noncomputable def everyC (S : Nat → Nat → Nat → Int32) (z : Nat) (a d : Int32) : Int32 := if belS a (S 2 9 0) then (if ahB d then hvT (frT (S 7) (S 2) z (ix d) 1) z a 0 (ix d) else -1000001) else -1000001
def meetC (S : Nat → Nat → Nat → Int32) (a b : Int32) : Int32 := if twB S a b then hdFrom (fun d => nrS (S 2) (spS (S 2) (ix a) (S 2 8 0 + nI d)) (spS (S 2) (ix b) (S 2 8 0 + nI d))) 61 0 else -1000001
def loadC (S : Nat → Nat → Nat → Int32) (o q : Nat) (h v : Int32) : Int32 × (Nat → Nat → Nat → Int32) := if belS h (S 2 9 0) then (if v < 1 then (-1000001, S) else if v ≤ 20 then (dipS (up2 (S 2) 3 (upd (S 2 3) (ix h) v)) (ix h) (S 2 8 0), up3 (up3 S 2 (up2 (S 2) 3 (upd (S 2 3) (ix h) v))) 6 (kpAll (S 6) o q 2 h (S 2 3 (ix h)) 0)) else (-1000001, S)) else (-1000001, S)
set_option maxHeartbeats 4000000 in
set_option maxRecDepth 100000 in
theorem c_X5_soonest (S : Nat → Nat → Nat → Int32) (a b : Int32) (z : Nat) (hS : okS S z) : MetA yX5_soonest (.code yX5_soonest cX5_soonest 3 (some .int) :: TT) rmX5_soonest [.ref 0, .int a, .int b] (wC S) (fun vr wr => vr = some (.int (soonC S z a b)) ∧ ∃ O, wr = wC (up3 S 7 O)) 0 0 := by
  refine MetA.of_i (by decide) (fun _ => Nat.le_of_ble_eq_true rfl) (Nat.le_of_ble_eq_true rfl) (fun g C E => ?_)
  replace C : Sem cX5_soonest RX5 "soonest" 3 rmX5_soonest g := C
  show g 0 0 (wC S) 0 [some (.ref 0), some (.int a), some (.int b)] []
  refine r_aload_n (pc := 0) C dX5_soonest_0 rfl rfl ?_
  refine r_iload_n (pc := 1) C dX5_soonest_1 rfl rfl ?_
  refine r_callV0 (pc := 2) (As := [.int a]) (st := []) (θ' := wC S) C (c_X5_isHammock S a) xm_X5_isHammock xk_X5_138 dX5_soonest_2 rfl rfl rfl rfl (Nat.le_of_ble_eq_true rfl) ⟨Nat.le_of_ble_eq_true rfl, Nat.le_of_ble_eq_true rfl⟩ ⟨rfl, rfl⟩ ⟨Nat.le_of_ble_eq_true rfl, Nat.le_of_ble_eq_true rfl⟩ rfl (Eq.trans (b := 55) rfl rfl) ?_
  show g 0 0 (wC S) 5 [some (.ref 0), some (.int a), some (.int b)] [.int (bB (belS a ((S 2) 9 0)))]
  refine r_if_eq (pc := 5) (tgt := 16) C dX5_soonest_5 (by decide) (fun h_5 => ?_) (fun h_5 => ?_)
  · replace h_5 := bB_f h_5
    refine r_ldc (pc := 16) (v := (-1000001)) C dX5_soonest_16 tw_216 ?_
    show g 0 0 (wC S) 18 [some (.ref 0), some (.int a), some (.int b)] [.int (-1000001)]
    exact E _ _ _ _ _ _ dX5_soonest_18 (Nat.le_refl _) (Nat.le_refl _) rfl ⟨congrArg (fun z => some (Value.int z)) (by simp only [soonC, h_5, if_true, if_false, Bool.false_eq_true] <;> (try rfl) <;> (try (repeat rw [ix_nI (by omega)]))), _, rfl⟩
  · replace h_5 := bB_t h_5
    refine r_aload_n (pc := 8) C dX5_soonest_8 rfl rfl ?_
    refine r_iload_n (pc := 9) C dX5_soonest_9 rfl rfl ?_
    refine r_callV0 (pc := 10) (As := [.int b]) (st := []) (θ' := wC S) C (c_X5_isHammock S b) xm_X5_isHammock xk_X5_138 dX5_soonest_10 rfl rfl rfl rfl (Nat.le_of_ble_eq_true rfl) ⟨Nat.le_of_ble_eq_true rfl, Nat.le_of_ble_eq_true rfl⟩ ⟨rfl, rfl⟩ ⟨Nat.le_of_ble_eq_true rfl, Nat.le_of_ble_eq_true rfl⟩ rfl (Eq.trans (b := 55) rfl rfl) ?_
    show g 0 0 (wC S) 13 [some (.ref 0), some (.int a), some (.int b)] [.int (bB (belS b ((S 2) 9 0)))]
    refine r_if_ne (pc := 13) (tgt := 19) C dX5_soonest_13 (by decide) (fun h_13 => ?_) (fun h_13 => ?_)
    · replace h_13 := bB_t h_13
      refine r_aload_n (pc := 19) C dX5_soonest_19 rfl rfl ?_
      refine r_getfield (pc := 20) (v := .ref 50) C xf_X5_46 dX5_soonest_20 rfl rfl ?_
      refine r_aload_n (pc := 23) C dX5_soonest_23 rfl rfl ?_
      refine r_getfield (pc := 24) (v := .ref 20) C xf_X5_25 dX5_soonest_24 rfl rfl ?_
      refine r_bipush (pc := 27) (v := 60) C dX5_soonest_27 (by decide) ?_
      refine r_callVD (pc := 29) (b := 50) (As := [.ref 20, .int 60]) (st := []) (θ2 := wC (up3 S 7 (frT (S 7) (S 2) z 60))) (r2 := none) C [50, 51, 52, 53, 20, 21, 22, 23, 24, 25] (c_X2_foreseeT (S 7) (S 2) 60 (by omega) hS.2.2 z hS.1 hS.2.1) xm_X2_foresee xk_X5_188 dX5_soonest_29 rfl (by decide) rfl rfl rfl rfl rfl (Nat.le_of_ble_eq_true rfl) ⟨Nat.le_of_ble_eq_true rfl, Nat.le_of_ble_eq_true rfl⟩ ⟨rfl, rfl⟩ ⟨Nat.le_of_ble_eq_true rfl, Nat.le_of_ble_eq_true rfl⟩ rfl (Eq.trans (b := 10) rfl rfl) rfl rfl ?_
      show g 0 0 (wC (up3 S 7 (frT (S 7) (S 2) z 60))) 32 [some (.ref 0), some (.int a), some (.int b)] []
      refine r_aload_n (pc := 32) C dX5_soonest_32 rfl rfl ?_
      refine r_getfield (pc := 33) (v := .ref 50) C xf_X5_46 dX5_soonest_33 rfl rfl ?_
      refine r_iload_n (pc := 36) C dX5_soonest_36 rfl rfl ?_
      refine r_iload_n (pc := 37) C dX5_soonest_37 rfl rfl ?_
      refine r_bipush (pc := 38) (v := 60) C dX5_soonest_38 (by decide) ?_
      refine r_iconst (pc := 40) (v := 0) C dX5_soonest_40 (by decide) ?_
      refine r_callVD (pc := 41) (b := 50) (As := [.int a, .int b, .int 60, .int 0]) (st := []) (θ2 := wC (up3 S 7 (frT (S 7) (S 2) z 60))) (r2 := some (.int (arrT (frT (S 7) (S 2) z 60 1) z a b 60 0))) C [50, 51, 52, 53] (c_X2_arrivalT (frT (S 7) (S 2) z 60) a b 60 (by omega) 0 z (frT_z _ _ _ _) hS.2.1) xm_X2_arrival xk_X5_192 dX5_soonest_41 rfl (by decide) rfl rfl rfl rfl rfl (Nat.le_of_ble_eq_true rfl) ⟨Nat.le_of_ble_eq_true rfl, Nat.le_of_ble_eq_true rfl⟩ ⟨rfl, rfl⟩ ⟨Nat.le_of_ble_eq_true rfl, Nat.le_of_ble_eq_true rfl⟩ rfl (Eq.trans (b := 4) rfl rfl) rfl rfl ?_
      show g 0 0 (wC (up3 S 7 (frT (S 7) (S 2) z 60))) 44 [some (.ref 0), some (.int a), some (.int b)] [.int (arrT (frT (S 7) (S 2) z 60 1) z a b 60 0)]
      show g 0 0 (wC (up3 S 7 (frT (S 7) (S 2) z 60))) 44 [some (.ref 0), some (.int a), some (.int b)] [.int (arrT (frT (S 7) (S 2) z 60 1) z a b 60 0)]
      exact E _ _ _ _ _ _ dX5_soonest_44 (Nat.le_refl _) (Nat.le_refl _) rfl ⟨congrArg (fun z => some (Value.int z)) (by simp only [soonC, h_5, h_13, if_true, if_false, Bool.false_eq_true] <;> (try rfl) <;> (try (repeat rw [ix_nI (by omega)]))), _, rfl⟩
    · replace h_13 := bB_f h_13
      refine r_ldc (pc := 16) (v := (-1000001)) C dX5_soonest_16 tw_216 ?_
      show g 0 0 (wC S) 18 [some (.ref 0), some (.int a), some (.int b)] [.int (-1000001)]
      exact E _ _ _ _ _ _ dX5_soonest_18 (Nat.le_refl _) (Nat.le_refl _) rfl ⟨congrArg (fun z => some (Value.int z)) (by simp only [soonC, h_5, h_13, if_true, if_false, Bool.false_eq_true] <;> (try rfl) <;> (try (repeat rw [ix_nI (by omega)]))), _, rfl⟩
set_option maxHeartbeats 4000000 in
set_option maxRecDepth 100000 in
theorem c_X5_everywhere (S : Nat → Nat → Nat → Int32) (a d : Int32) (z : Nat) (hS : okS S z) : MetA yX5_everywhere (.code yX5_everywhere cX5_everywhere 3 (some .int) :: TT) rmX5_everywhere [.ref 0, .int a, .int d] (wC S) (fun vr wr => vr = some (.int (everyC S z a d)) ∧ ∃ O, wr = wC (up3 S 7 O)) 0 0 := by
  refine MetA.of_i (by decide) (fun _ => Nat.le_of_ble_eq_true rfl) (Nat.le_of_ble_eq_true rfl) (fun g C E => ?_)
  replace C : Sem cX5_everywhere RX5 "everywhere" 3 rmX5_everywhere g := C
  show g 0 0 (wC S) 0 [some (.ref 0), some (.int a), some (.int d)] []
  refine r_aload_n (pc := 0) C dX5_everywhere_0 rfl rfl ?_
  refine r_iload_n (pc := 1) C dX5_everywhere_1 rfl rfl ?_
  refine r_callV0 (pc := 2) (As := [.int a]) (st := []) (θ' := wC S) C (c_X5_isHammock S a) xm_X5_isHammock xk_X5_138 dX5_everywhere_2 rfl rfl rfl rfl (Nat.le_of_ble_eq_true rfl) ⟨Nat.le_of_ble_eq_true rfl, Nat.le_of_ble_eq_true rfl⟩ ⟨rfl, rfl⟩ ⟨Nat.le_of_ble_eq_true rfl, Nat.le_of_ble_eq_true rfl⟩ rfl (Eq.trans (b := 55) rfl rfl) ?_
  show g 0 0 (wC S) 5 [some (.ref 0), some (.int a), some (.int d)] [.int (bB (belS a ((S 2) 9 0)))]
  refine r_if_eq (pc := 5) (tgt := 15) C dX5_everywhere_5 (by decide) (fun h_5 => ?_) (fun h_5 => ?_)
  · replace h_5 := bB_f h_5
    refine r_ldc (pc := 15) (v := (-1000001)) C dX5_everywhere_15 tw_216 ?_
    show g 0 0 (wC S) 17 [some (.ref 0), some (.int a), some (.int d)] [.int (-1000001)]
    exact E _ _ _ _ _ _ dX5_everywhere_17 (Nat.le_refl _) (Nat.le_refl _) rfl ⟨congrArg (fun z => some (Value.int z)) (by simp only [everyC, h_5, if_true, if_false, Bool.false_eq_true] <;> (try rfl) <;> (try (repeat rw [ix_nI (by omega)]))), _, rfl⟩
  · replace h_5 := bB_t h_5
    refine r_iload_n (pc := 8) C dX5_everywhere_8 rfl rfl ?_
    refine r_callS0 (pc := 9) (As := [.int d]) (st := []) C (c_X5_isAhead d) xm_X5_isAhead xk_X5_172 dX5_everywhere_9 (fun _ => rfl) (fun _ => rfl) rfl rfl (Nat.le_of_ble_eq_true rfl) ⟨Nat.le_of_ble_eq_true rfl, Nat.le_of_ble_eq_true rfl⟩ ⟨rfl, rfl⟩ ⟨Nat.le_of_ble_eq_true rfl, Nat.le_of_ble_eq_true rfl⟩ rfl ?_
    show g 0 0 (wC S) 12 [some (.ref 0), some (.int a), some (.int d)] [.int (bB (ahB d))]
    refine r_if_ne (pc := 12) (tgt := 18) C dX5_everywhere_12 (by decide) (fun h_12 => ?_) (fun h_12 => ?_)
    · replace h_12 := bB_t h_12
      obtain ⟨j, hj, rfl⟩ := ah_ex h_12
      refine r_aload_n (pc := 18) C dX5_everywhere_18 rfl rfl ?_
      refine r_getfield (pc := 19) (v := .ref 50) C xf_X5_46 dX5_everywhere_19 rfl rfl ?_
      refine r_aload_n (pc := 22) C dX5_everywhere_22 rfl rfl ?_
      refine r_getfield (pc := 23) (v := .ref 20) C xf_X5_25 dX5_everywhere_23 rfl rfl ?_
      refine r_iload_n (pc := 26) C dX5_everywhere_26 rfl rfl ?_
      refine r_callVD (pc := 27) (b := 50) (As := [.ref 20, .int (nI j)]) (st := []) (θ2 := wC (up3 S 7 (frT (S 7) (S 2) z j))) (r2 := none) C [50, 51, 52, 53, 20, 21, 22, 23, 24, 25] (c_X2_foreseeT (S 7) (S 2) j (by omega) hS.2.2 z hS.1 hS.2.1) xm_X2_foresee xk_X5_188 dX5_everywhere_27 rfl (by decide) rfl rfl rfl rfl rfl (Nat.le_of_ble_eq_true rfl) ⟨Nat.le_of_ble_eq_true rfl, Nat.le_of_ble_eq_true rfl⟩ ⟨rfl, rfl⟩ ⟨Nat.le_of_ble_eq_true rfl, Nat.le_of_ble_eq_true rfl⟩ rfl (Eq.trans (b := 10) rfl rfl) rfl rfl ?_
      show g 0 0 (wC (up3 S 7 (frT (S 7) (S 2) z j))) 30 [some (.ref 0), some (.int a), some (.int (nI j))] []
      refine r_aload_n (pc := 30) C dX5_everywhere_30 rfl rfl ?_
      refine r_getfield (pc := 31) (v := .ref 50) C xf_X5_46 dX5_everywhere_31 rfl rfl ?_
      refine r_iload_n (pc := 34) C dX5_everywhere_34 rfl rfl ?_
      refine r_iload_n (pc := 35) C dX5_everywhere_35 rfl rfl ?_
      refine r_callVD (pc := 36) (b := 50) (As := [.int a, .int (nI j)]) (st := []) (θ2 := wC (up3 S 7 (frT (S 7) (S 2) z j))) (r2 := some (.int (hvT (frT (S 7) (S 2) z j 1) z a 0 j))) C [50, 51, 52, 53] (c_X2_holdersT (frT (S 7) (S 2) z j) a j (by omega) z (frT_z _ _ _ _) hS.2.1) xm_X2_holders xk_X5_199 dX5_everywhere_36 rfl (by decide) rfl rfl rfl rfl rfl (Nat.le_of_ble_eq_true rfl) ⟨Nat.le_of_ble_eq_true rfl, Nat.le_of_ble_eq_true rfl⟩ ⟨rfl, rfl⟩ ⟨Nat.le_of_ble_eq_true rfl, Nat.le_of_ble_eq_true rfl⟩ rfl (Eq.trans (b := 4) rfl rfl) rfl rfl ?_
      show g 0 0 (wC (up3 S 7 (frT (S 7) (S 2) z j))) 39 [some (.ref 0), some (.int a), some (.int (nI j))] [.int (hvT (frT (S 7) (S 2) z j 1) z a 0 j)]
      show g 0 0 (wC (up3 S 7 (frT (S 7) (S 2) z j))) 39 [some (.ref 0), some (.int a), some (.int (nI j))] [.int (hvT (frT (S 7) (S 2) z j 1) z a 0 j)]
      exact E _ _ _ _ _ _ dX5_everywhere_39 (Nat.le_refl _) (Nat.le_refl _) rfl ⟨congrArg (fun z => some (Value.int z)) (by simp only [everyC, h_5, h_12, if_true, if_false, Bool.false_eq_true] <;> (try rfl) <;> (try (repeat rw [ix_nI (by omega)]))), _, rfl⟩
    · replace h_12 := bB_f h_12
      refine r_ldc (pc := 15) (v := (-1000001)) C dX5_everywhere_15 tw_216 ?_
      show g 0 0 (wC S) 17 [some (.ref 0), some (.int a), some (.int d)] [.int (-1000001)]
      exact E _ _ _ _ _ _ dX5_everywhere_17 (Nat.le_refl _) (Nat.le_refl _) rfl ⟨congrArg (fun z => some (Value.int z)) (by simp only [everyC, h_5, h_12, if_true, if_false, Bool.false_eq_true] <;> (try rfl) <;> (try (repeat rw [ix_nI (by omega)]))), _, rfl⟩
set_option maxHeartbeats 4000000 in
set_option maxRecDepth 100000 in
theorem c_X5_load (S : Nat → Nat → Nat → Int32) (h v : Int32) (z : Nat) (hS : okS S z) (o q : Nat) (hA : okA (S 6) o q) : MetA yX5_load (.code yX5_load cX5_load 3 (some .int) :: TT) rmX5_load [.ref 0, .int h, .int v] (wC S) (fun vr wr => vr = some (.int (loadC S o q h v).1) ∧ wr = wC (loadC S o q h v).2) 0 0 := by
  refine MetA.of_i (by decide) (fun _ => Nat.le_of_ble_eq_true rfl) (Nat.le_of_ble_eq_true rfl) (fun g C E => ?_)
  replace C : Sem cX5_load RX5 "load" 3 rmX5_load g := C
  show g 0 0 (wC S) 0 [some (.ref 0), some (.int h), some (.int v)] []
  refine r_aload_n (pc := 0) C dX5_load_0 rfl rfl ?_
  refine r_iload_n (pc := 1) C dX5_load_1 rfl rfl ?_
  refine r_callV0 (pc := 2) (As := [.int h]) (st := []) (θ' := wC S) C (c_X5_isHammock S h) xm_X5_isHammock xk_X5_138 dX5_load_2 rfl rfl rfl rfl (Nat.le_of_ble_eq_true rfl) ⟨Nat.le_of_ble_eq_true rfl, Nat.le_of_ble_eq_true rfl⟩ ⟨rfl, rfl⟩ ⟨Nat.le_of_ble_eq_true rfl, Nat.le_of_ble_eq_true rfl⟩ rfl (Eq.trans (b := 55) rfl rfl) ?_
  show g 0 0 (wC S) 5 [some (.ref 0), some (.int h), some (.int v)] [.int (bB (belS h ((S 2) 9 0)))]
  refine r_if_eq (pc := 5) (tgt := 19) C dX5_load_5 (by decide) (fun h_5 => ?_) (fun h_5 => ?_)
  · replace h_5 := bB_f h_5
    refine r_ldc (pc := 19) (v := (-1000001)) C dX5_load_19 tw_216 ?_
    show g 0 0 (wC S) 21 [some (.ref 0), some (.int h), some (.int v)] [.int (-1000001)]
    have hX : loadC S o q h v = ((-1000001), S) := by simp only [loadC, h_5, if_true, if_false, Bool.false_eq_true] <;> (try (repeat rw [ix_nI (by omega)]))
    exact E _ _ _ _ _ _ dX5_load_21 (Nat.le_refl _) (Nat.le_refl _) rfl ⟨by rw [hX], by rw [hX]⟩
  · replace h_5 := bB_t h_5
    obtain ⟨j, hj, rfl⟩ := bel_ex hS.1 (by have := hS.2.1; omega) h_5
    have hj6 : j < 6 := by have := hS.2.1; omega
    refine r_iload_n (pc := 8) C dX5_load_8 rfl rfl ?_
    refine r_iconst (pc := 9) (v := 1) C dX5_load_9 (by decide) ?_
    refine r_icmp_lt (pc := 10) (tgt := 19) C dX5_load_10 (by decide) (fun h_10 => ?_) (fun h_10 => ?_)
    · skip
      refine r_ldc (pc := 19) (v := (-1000001)) C dX5_load_19 tw_216 ?_
      show g 0 0 (wC S) 21 [some (.ref 0), some (.int (nI j)), some (.int v)] [.int (-1000001)]
      have hX : loadC S o q (nI j) v = ((-1000001), S) := by simp only [loadC, h_5, h_10, if_true, if_false, Bool.false_eq_true, ix_nI (show j < 2 ^ 31 by omega)] <;> (try (repeat rw [ix_nI (by omega)]))
      exact E _ _ _ _ _ _ dX5_load_21 (Nat.le_refl _) (Nat.le_refl _) rfl ⟨by rw [hX], by rw [hX]⟩
    · skip
      refine r_iload_n (pc := 13) C dX5_load_13 rfl rfl ?_
      refine r_bipush (pc := 14) (v := 20) C dX5_load_14 (by decide) ?_
      refine r_icmp_le (pc := 16) (tgt := 22) C dX5_load_16 (by decide) (fun h_16 => ?_) (fun h_16 => ?_)
      · skip
        refine r_aload_n (pc := 22) C dX5_load_22 rfl rfl ?_
        refine r_getfield (pc := 23) (v := .ref 45) C xf_X5_39 dX5_load_23 rfl rfl ?_
        refine r_iconst (pc := 26) (v := 2) C dX5_load_26 (by decide) ?_
        refine r_iload_n (pc := 27) C dX5_load_27 rfl rfl ?_
        refine r_aload_n (pc := 28) C dX5_load_28 rfl rfl ?_
        refine r_getfield (pc := 29) (v := .ref 20) C xf_X5_25 dX5_load_29 rfl rfl ?_
        refine r_getfield (pc := 32) (v := .ref 24) C xf_X5_151 dX5_load_32 rfl rfl ?_
        refine r_iload_n (pc := 35) C dX5_load_35 rfl rfl ?_
        refine r_iaload (pc := 36) (v := (S 2) 3 j) C j dX5_load_36 rfl rfl (by first | assumption | omega) rfl ?_
        refine r_iconst (pc := 37) (v := 0) C dX5_load_37 (by decide) ?_
        refine r_callVD (pc := 38) (b := 45) (As := [.int 2, .int (nI j), .int ((S 2) 3 j), .int 0]) (st := []) (θ2 := wC (up3 S 6 (kpAll (S 6) o q 2 (nI j) ((S 2) 3 j) 0))) (r2 := none) C [45, 46, 47, 48, 49] (c_X0_keep (S 6) o hA.1 hA.2.1 q hA.2.2.1 hA.2.2.2 2 (nI j) ((S 2) 3 j) 0) xm_X0_keep xk_X5_131 dX5_load_38 rfl (by decide) rfl rfl rfl rfl rfl (Nat.le_of_ble_eq_true rfl) ⟨Nat.le_of_ble_eq_true rfl, Nat.le_of_ble_eq_true rfl⟩ ⟨rfl, rfl⟩ ⟨Nat.le_of_ble_eq_true rfl, Nat.le_of_ble_eq_true rfl⟩ rfl (Eq.trans (b := 5) rfl rfl) rfl rfl ?_
        show g 0 0 (wC (up3 S 6 (kpAll (S 6) o q 2 (nI j) ((S 2) 3 j) 0))) 41 [some (.ref 0), some (.int (nI j)), some (.int v)] []
        refine r_aload_n (pc := 41) C dX5_load_41 rfl rfl ?_
        refine r_getfield (pc := 42) (v := .ref 20) C xf_X5_25 dX5_load_42 rfl rfl ?_
        refine r_getfield (pc := 45) (v := .ref 24) C xf_X5_151 dX5_load_45 rfl rfl ?_
        refine r_iload_n (pc := 48) C dX5_load_48 rfl rfl ?_
        refine r_iload_n (pc := 49) C dX5_load_49 rfl rfl ?_
        refine r_iastore (pc := 50) (θ' := wC (up3 (up3 S 2 (up2 (S 2) 3 (upd ((S 2) 3) j v))) 6 (kpAll (S 6) o q 2 (nI j) ((S 2) 3 j) 0))) C j dX5_load_50 rfl rfl (by first | assumption | omega) rfl ?_
        refine r_aload_n (pc := 51) C dX5_load_51 rfl rfl ?_
        refine r_getfield (pc := 52) (v := .ref 20) C xf_X5_25 dX5_load_52 rfl rfl ?_
        refine r_iload_n (pc := 55) C dX5_load_55 rfl rfl ?_
        refine r_aload_n (pc := 56) C dX5_load_56 rfl rfl ?_
        refine r_getfield (pc := 57) (v := .ref 20) C xf_X5_25 dX5_load_57 rfl rfl ?_
        refine r_getfield (pc := 60) (v := .int ((S 2) 8 0)) C xf_X5_128 dX5_load_60 rfl rfl ?_
        refine r_callVD (pc := 63) (b := 20) (As := [.int (nI j), .int ((S 2) 8 0)]) (st := []) (θ2 := wC (up3 (up3 S 2 (up2 (S 2) 3 (upd ((S 2) 3) j v))) 6 (kpAll (S 6) o q 2 (nI j) ((S 2) 3 j) 0))) (r2 := some (.int (dipS (up2 (S 2) 3 (upd ((S 2) 3) j v)) j ((S 2) 8 0)))) C [20, 21, 22, 23, 24, 25] (c_X1_dip (up2 (S 2) 3 (upd ((S 2) 3) j v)) j (by omega) ((S 2) 8 0)) xm_X1_dip xk_X5_154 dX5_load_63 rfl (by decide) rfl rfl rfl rfl rfl (Nat.le_of_ble_eq_true rfl) ⟨Nat.le_of_ble_eq_true rfl, Nat.le_of_ble_eq_true rfl⟩ ⟨rfl, rfl⟩ ⟨Nat.le_of_ble_eq_true rfl, Nat.le_of_ble_eq_true rfl⟩ rfl (Eq.trans (b := 6) rfl rfl) rfl rfl ?_
        show g 0 0 (wC (up3 (up3 S 2 (up2 (S 2) 3 (upd ((S 2) 3) j v))) 6 (kpAll (S 6) o q 2 (nI j) ((S 2) 3 j) 0))) 66 [some (.ref 0), some (.int (nI j)), some (.int v)] [.int (dipS (up2 (S 2) 3 (upd ((S 2) 3) j v)) j ((S 2) 8 0))]
        show g 0 0 (wC (up3 (up3 S 2 (up2 (S 2) 3 (upd ((S 2) 3) j v))) 6 (kpAll (S 6) o q 2 (nI j) ((S 2) 3 j) 0))) 66 [some (.ref 0), some (.int (nI j)), some (.int v)] [.int (dipS (up2 (S 2) 3 (upd ((S 2) 3) j v)) j ((S 2) 8 0))]
        have hX : loadC S o q (nI j) v = (dipS (up2 (S 2) 3 (upd ((S 2) 3) j v)) j ((S 2) 8 0), (up3 (up3 S 2 (up2 (S 2) 3 (upd ((S 2) 3) j v))) 6 (kpAll (S 6) o q 2 (nI j) ((S 2) 3 j) 0))) := by simp only [loadC, h_5, h_10, h_16, if_true, if_false, Bool.false_eq_true, ix_nI (show j < 2 ^ 31 by omega)] <;> (try (repeat rw [ix_nI (by omega)]))
        exact E _ _ _ _ _ _ dX5_load_66 (Nat.le_refl _) (Nat.le_refl _) rfl ⟨by rw [hX], by rw [hX]⟩
      · skip
        refine r_ldc (pc := 19) (v := (-1000001)) C dX5_load_19 tw_216 ?_
        show g 0 0 (wC S) 21 [some (.ref 0), some (.int (nI j)), some (.int v)] [.int (-1000001)]
        have hX : loadC S o q (nI j) v = ((-1000001), S) := by simp only [loadC, h_5, h_10, h_16, if_true, if_false, Bool.false_eq_true, ix_nI (show j < 2 ^ 31 by omega)] <;> (try (repeat rw [ix_nI (by omega)]))
        exact E _ _ _ _ _ _ dX5_load_21 (Nat.le_refl _) (Nat.le_refl _) rfl ⟨by rw [hX], by rw [hX]⟩
def slingC (S : Nat → Nat → Nat → Int32) (o q : Nat) (h a b : Int32) : Int32 × (Nat → Nat → Nat → Int32) := if belS h (S 2 9 0) then (if a < 0 then (-1000001, S) else if 12 ≤ b then (-1000001, S) else if a < b then (if S 2 1 (ix h) = a then (if S 2 2 (ix h) = b then (-1000002, S) else (plS (up2 (up2 (S 2) 1 (upd (S 2 1) (ix h) a)) 2 (upd (S 2 2) (ix h) b)) (ix h) (S 2 8 0), up3 (up3 S 2 (up2 (up2 (S 2) 1 (upd (S 2 1) (ix h) a)) 2 (upd (S 2 2) (ix h) b))) 6 (kpAll (S 6) o q 1 h (S 2 1 (ix h)) (S 2 2 (ix h))))) else (plS (up2 (up2 (S 2) 1 (upd (S 2 1) (ix h) a)) 2 (upd (S 2 2) (ix h) b)) (ix h) (S 2 8 0), up3 (up3 S 2 (up2 (up2 (S 2) 1 (upd (S 2 1) (ix h) a)) 2 (upd (S 2 2) (ix h) b))) 6 (kpAll (S 6) o q 1 h (S 2 1 (ix h)) (S 2 2 (ix h))))) else (-1000001, S)) else (-1000001, S)
theorem okW_1 {F : Nat → Nat → Int32} {k : Nat} {f : Nat → Int32} (hk : k ≠ 4) (h : okW F) : okW (up2 F k f) := by
  intro i hi
  have : up2 F k f 4 i = F 4 i := by
    unfold up2
    have : Nat.beq 4 k = false := by
      cases hb : Nat.beq 4 k with
      | false => rfl
      | true => exact absurd (Nat.eq_of_beq_eq_true hb).symm hk
    rw [this]; rfl
  rw [this]
  exact h i hi
set_option maxHeartbeats 4000000 in
set_option maxRecDepth 100000 in
theorem c_X5_sling (S : Nat → Nat → Nat → Int32) (h a b : Int32) (z : Nat) (hS : okS S z) (o q : Nat) (hA : okA (S 6) o q) : MetA yX5_sling (.code yX5_sling cX5_sling 4 (some .int) :: TT) rmX5_sling [.ref 0, .int h, .int a, .int b] (wC S) (fun vr wr => vr = some (.int (slingC S o q h a b).1) ∧ wr = wC (slingC S o q h a b).2) 0 0 := by
  refine MetA.of_i (by decide) (fun _ => Nat.le_of_ble_eq_true rfl) (Nat.le_of_ble_eq_true rfl) (fun g C E => ?_)
  replace C : Sem cX5_sling RX5 "sling" 4 rmX5_sling g := C
  show g 0 0 (wC S) 0 [some (.ref 0), some (.int h), some (.int a), some (.int b)] []
  refine r_aload_n (pc := 0) C dX5_sling_0 rfl rfl ?_
  refine r_iload_n (pc := 1) C dX5_sling_1 rfl rfl ?_
  refine r_callV0 (pc := 2) (As := [.int h]) (st := []) (θ' := wC S) C (c_X5_isHammock S h) xm_X5_isHammock xk_X5_138 dX5_sling_2 rfl rfl rfl rfl (Nat.le_of_ble_eq_true rfl) ⟨Nat.le_of_ble_eq_true rfl, Nat.le_of_ble_eq_true rfl⟩ ⟨rfl, rfl⟩ ⟨Nat.le_of_ble_eq_true rfl, Nat.le_of_ble_eq_true rfl⟩ rfl (Eq.trans (b := 55) rfl rfl) ?_
  show g 0 0 (wC S) 5 [some (.ref 0), some (.int h), some (.int a), some (.int b)] [.int (bB (belS h ((S 2) 9 0)))]
  refine r_if_eq (pc := 5) (tgt := 23) C dX5_sling_5 (by decide) (fun h_5 => ?_) (fun h_5 => ?_)
  · replace h_5 := bB_f h_5
    refine r_ldc (pc := 23) (v := (-1000001)) C dX5_sling_23 tw_216 ?_
    show g 0 0 (wC S) 25 [some (.ref 0), some (.int h), some (.int a), some (.int b)] [.int (-1000001)]
    have hX : slingC S o q h a b = ((-1000001), S) := by simp only [slingC, h_5, if_true, if_false, Bool.false_eq_true] <;> (try (repeat rw [ix_nI (by omega)]))
    exact E _ _ _ _ _ _ dX5_sling_25 (Nat.le_refl _) (Nat.le_refl _) rfl ⟨by rw [hX], by rw [hX]⟩
  · replace h_5 := bB_t h_5
    obtain ⟨j, hj, rfl⟩ := bel_ex hS.1 (by have := hS.2.1; omega) h_5
    have hj6 : j < 6 := by have := hS.2.1; omega
    refine r_iload_n (pc := 8) C dX5_sling_8 rfl rfl ?_
    refine r_if_lt (pc := 9) (tgt := 23) C dX5_sling_9 (by decide) (fun h_9 => ?_) (fun h_9 => ?_)
    · skip
      refine r_ldc (pc := 23) (v := (-1000001)) C dX5_sling_23 tw_216 ?_
      show g 0 0 (wC S) 25 [some (.ref 0), some (.int (nI j)), some (.int a), some (.int b)] [.int (-1000001)]
      have hX : slingC S o q (nI j) a b = ((-1000001), S) := by simp only [slingC, h_5, h_9, if_true, if_false, Bool.false_eq_true, ix_nI (show j < 2 ^ 31 by omega)] <;> (try (repeat rw [ix_nI (by omega)]))
      exact E _ _ _ _ _ _ dX5_sling_25 (Nat.le_refl _) (Nat.le_refl _) rfl ⟨by rw [hX], by rw [hX]⟩
    · skip
      refine r_iload_n (pc := 12) C dX5_sling_12 rfl rfl ?_
      refine r_bipush (pc := 13) (v := 12) C dX5_sling_13 (by decide) ?_
      refine r_icmp_ge (pc := 15) (tgt := 23) C dX5_sling_15 (by decide) (fun h_15 => ?_) (fun h_15 => ?_)
      · skip
        refine r_ldc (pc := 23) (v := (-1000001)) C dX5_sling_23 tw_216 ?_
        show g 0 0 (wC S) 25 [some (.ref 0), some (.int (nI j)), some (.int a), some (.int b)] [.int (-1000001)]
        have hX : slingC S o q (nI j) a b = ((-1000001), S) := by simp only [slingC, h_5, h_9, h_15, if_true, if_false, Bool.false_eq_true, ix_nI (show j < 2 ^ 31 by omega)] <;> (try (repeat rw [ix_nI (by omega)]))
        exact E _ _ _ _ _ _ dX5_sling_25 (Nat.le_refl _) (Nat.le_refl _) rfl ⟨by rw [hX], by rw [hX]⟩
      · skip
        refine r_iload_n (pc := 18) C dX5_sling_18 rfl rfl ?_
        refine r_iload_n (pc := 19) C dX5_sling_19 rfl rfl ?_
        refine r_icmp_gt (pc := 20) (tgt := 26) C dX5_sling_20 (by decide) (fun h_20 => ?_) (fun h_20 => ?_)
        · skip
          refine r_aload_n (pc := 26) C dX5_sling_26 rfl rfl ?_
          refine r_getfield (pc := 27) (v := .ref 20) C xf_X5_25 dX5_sling_27 rfl rfl ?_
          refine r_getfield (pc := 30) (v := .ref 22) C xf_X5_141 dX5_sling_30 rfl rfl ?_
          refine r_iload_n (pc := 33) C dX5_sling_33 rfl rfl ?_
          refine r_iaload (pc := 34) (v := (S 2) 1 j) C j dX5_sling_34 rfl rfl (by first | assumption | omega) rfl ?_
          refine r_iload_n (pc := 35) C dX5_sling_35 rfl rfl ?_
          refine r_icmp_ne (pc := 36) (tgt := 55) C dX5_sling_36 (by decide) (fun h_36 => ?_) (fun h_36 => ?_)
          · skip
            refine r_aload_n (pc := 55) C dX5_sling_55 rfl rfl ?_
            refine r_getfield (pc := 56) (v := .ref 45) C xf_X5_39 dX5_sling_56 rfl rfl ?_
            refine r_iconst (pc := 59) (v := 1) C dX5_sling_59 (by decide) ?_
            refine r_iload_n (pc := 60) C dX5_sling_60 rfl rfl ?_
            refine r_aload_n (pc := 61) C dX5_sling_61 rfl rfl ?_
            refine r_getfield (pc := 62) (v := .ref 20) C xf_X5_25 dX5_sling_62 rfl rfl ?_
            refine r_getfield (pc := 65) (v := .ref 22) C xf_X5_141 dX5_sling_65 rfl rfl ?_
            refine r_iload_n (pc := 68) C dX5_sling_68 rfl rfl ?_
            refine r_iaload (pc := 69) (v := (S 2) 1 j) C j dX5_sling_69 rfl rfl (by first | assumption | omega) rfl ?_
            refine r_aload_n (pc := 70) C dX5_sling_70 rfl rfl ?_
            refine r_getfield (pc := 71) (v := .ref 20) C xf_X5_25 dX5_sling_71 rfl rfl ?_
            refine r_getfield (pc := 74) (v := .ref 23) C xf_X5_144 dX5_sling_74 rfl rfl ?_
            refine r_iload_n (pc := 77) C dX5_sling_77 rfl rfl ?_
            refine r_iaload (pc := 78) (v := (S 2) 2 j) C j dX5_sling_78 rfl rfl (by first | assumption | omega) rfl ?_
            refine r_callVD (pc := 79) (b := 45) (As := [.int 1, .int (nI j), .int ((S 2) 1 j), .int ((S 2) 2 j)]) (st := []) (θ2 := wC (up3 S 6 (kpAll (S 6) o q 1 (nI j) ((S 2) 1 j) ((S 2) 2 j)))) (r2 := none) C [45, 46, 47, 48, 49] (c_X0_keep (S 6) o hA.1 hA.2.1 q hA.2.2.1 hA.2.2.2 1 (nI j) ((S 2) 1 j) ((S 2) 2 j)) xm_X0_keep xk_X5_131 dX5_sling_79 rfl (by decide) rfl rfl rfl rfl rfl (Nat.le_of_ble_eq_true rfl) ⟨Nat.le_of_ble_eq_true rfl, Nat.le_of_ble_eq_true rfl⟩ ⟨rfl, rfl⟩ ⟨Nat.le_of_ble_eq_true rfl, Nat.le_of_ble_eq_true rfl⟩ rfl (Eq.trans (b := 5) rfl rfl) rfl rfl ?_
            show g 0 0 (wC (up3 S 6 (kpAll (S 6) o q 1 (nI j) ((S 2) 1 j) ((S 2) 2 j)))) 82 [some (.ref 0), some (.int (nI j)), some (.int a), some (.int b)] []
            refine r_aload_n (pc := 82) C dX5_sling_82 rfl rfl ?_
            refine r_getfield (pc := 83) (v := .ref 20) C xf_X5_25 dX5_sling_83 rfl rfl ?_
            refine r_getfield (pc := 86) (v := .ref 22) C xf_X5_141 dX5_sling_86 rfl rfl ?_
            refine r_iload_n (pc := 89) C dX5_sling_89 rfl rfl ?_
            refine r_iload_n (pc := 90) C dX5_sling_90 rfl rfl ?_
            refine r_iastore (pc := 91) (θ' := wC (up3 (up3 S 2 (up2 (S 2) 1 (upd ((S 2) 1) j a))) 6 (kpAll (S 6) o q 1 (nI j) ((S 2) 1 j) ((S 2) 2 j)))) C j dX5_sling_91 rfl rfl (by first | assumption | omega) rfl ?_
            refine r_aload_n (pc := 92) C dX5_sling_92 rfl rfl ?_
            refine r_getfield (pc := 93) (v := .ref 20) C xf_X5_25 dX5_sling_93 rfl rfl ?_
            refine r_getfield (pc := 96) (v := .ref 23) C xf_X5_144 dX5_sling_96 rfl rfl ?_
            refine r_iload_n (pc := 99) C dX5_sling_99 rfl rfl ?_
            refine r_iload_n (pc := 100) C dX5_sling_100 rfl rfl ?_
            refine r_iastore (pc := 101) (θ' := wC (up3 (up3 S 2 (up2 (up2 (S 2) 1 (upd ((S 2) 1) j a)) 2 (upd ((S 2) 2) j b))) 6 (kpAll (S 6) o q 1 (nI j) ((S 2) 1 j) ((S 2) 2 j)))) C j dX5_sling_101 rfl rfl (by first | assumption | omega) rfl ?_
            refine r_aload_n (pc := 102) C dX5_sling_102 rfl rfl ?_
            refine r_getfield (pc := 103) (v := .ref 20) C xf_X5_25 dX5_sling_103 rfl rfl ?_
            refine r_iload_n (pc := 106) C dX5_sling_106 rfl rfl ?_
            refine r_aload_n (pc := 107) C dX5_sling_107 rfl rfl ?_
            refine r_getfield (pc := 108) (v := .ref 20) C xf_X5_25 dX5_sling_108 rfl rfl ?_
            refine r_getfield (pc := 111) (v := .int ((S 2) 8 0)) C xf_X5_128 dX5_sling_111 rfl rfl ?_
            refine r_callVD (pc := 114) (b := 20) (As := [.int (nI j), .int ((S 2) 8 0)]) (st := []) (θ2 := wC (up3 (up3 S 2 (up2 (up2 (S 2) 1 (upd ((S 2) 1) j a)) 2 (upd ((S 2) 2) j b))) 6 (kpAll (S 6) o q 1 (nI j) ((S 2) 1 j) ((S 2) 2 j)))) (r2 := some (.int (plS (up2 (up2 (S 2) 1 (upd ((S 2) 1) j a)) 2 (upd ((S 2) 2) j b)) j ((S 2) 8 0)))) C [20, 21, 22, 23, 24, 25] (c_X1_place (up2 (up2 (S 2) 1 (upd ((S 2) 1) j a)) 2 (upd ((S 2) 2) j b)) j (by omega) ((S 2) 8 0) (okW_1 (by decide) (okW_1 (by decide) hS.2.2))) xm_X1_place xk_X5_147 dX5_sling_114 rfl (by decide) rfl rfl rfl rfl rfl (Nat.le_of_ble_eq_true rfl) ⟨Nat.le_of_ble_eq_true rfl, Nat.le_of_ble_eq_true rfl⟩ ⟨rfl, rfl⟩ ⟨Nat.le_of_ble_eq_true rfl, Nat.le_of_ble_eq_true rfl⟩ rfl (Eq.trans (b := 6) rfl rfl) rfl rfl ?_
            show g 0 0 (wC (up3 (up3 S 2 (up2 (up2 (S 2) 1 (upd ((S 2) 1) j a)) 2 (upd ((S 2) 2) j b))) 6 (kpAll (S 6) o q 1 (nI j) ((S 2) 1 j) ((S 2) 2 j)))) 117 [some (.ref 0), some (.int (nI j)), some (.int a), some (.int b)] [.int (plS (up2 (up2 (S 2) 1 (upd ((S 2) 1) j a)) 2 (upd ((S 2) 2) j b)) j ((S 2) 8 0))]
            show g 0 0 (wC (up3 (up3 S 2 (up2 (up2 (S 2) 1 (upd ((S 2) 1) j a)) 2 (upd ((S 2) 2) j b))) 6 (kpAll (S 6) o q 1 (nI j) ((S 2) 1 j) ((S 2) 2 j)))) 117 [some (.ref 0), some (.int (nI j)), some (.int a), some (.int b)] [.int (plS (up2 (up2 (S 2) 1 (upd ((S 2) 1) j a)) 2 (upd ((S 2) 2) j b)) j ((S 2) 8 0))]
            have hX : slingC S o q (nI j) a b = (plS (up2 (up2 (S 2) 1 (upd ((S 2) 1) j a)) 2 (upd ((S 2) 2) j b)) j ((S 2) 8 0), (up3 (up3 S 2 (up2 (up2 (S 2) 1 (upd ((S 2) 1) j a)) 2 (upd ((S 2) 2) j b))) 6 (kpAll (S 6) o q 1 (nI j) ((S 2) 1 j) ((S 2) 2 j)))) := by simp only [slingC, h_5, h_9, h_15, h_20, h_36, if_true, if_false, Bool.false_eq_true, ix_nI (show j < 2 ^ 31 by omega)] <;> (try (repeat rw [ix_nI (by omega)]))
            exact E _ _ _ _ _ _ dX5_sling_117 (Nat.le_refl _) (Nat.le_refl _) rfl ⟨by rw [hX], by rw [hX]⟩
          · skip
            refine r_aload_n (pc := 39) C dX5_sling_39 rfl rfl ?_
            refine r_getfield (pc := 40) (v := .ref 20) C xf_X5_25 dX5_sling_40 rfl rfl ?_
            refine r_getfield (pc := 43) (v := .ref 23) C xf_X5_144 dX5_sling_43 rfl rfl ?_
            refine r_iload_n (pc := 46) C dX5_sling_46 rfl rfl ?_
            refine r_iaload (pc := 47) (v := (S 2) 2 j) C j dX5_sling_47 rfl rfl (by first | assumption | omega) rfl ?_
            refine r_iload_n (pc := 48) C dX5_sling_48 rfl rfl ?_
            refine r_icmp_ne (pc := 49) (tgt := 55) C dX5_sling_49 (by decide) (fun h_49 => ?_) (fun h_49 => ?_)
            · skip
              refine r_aload_n (pc := 55) C dX5_sling_55 rfl rfl ?_
              refine r_getfield (pc := 56) (v := .ref 45) C xf_X5_39 dX5_sling_56 rfl rfl ?_
              refine r_iconst (pc := 59) (v := 1) C dX5_sling_59 (by decide) ?_
              refine r_iload_n (pc := 60) C dX5_sling_60 rfl rfl ?_
              refine r_aload_n (pc := 61) C dX5_sling_61 rfl rfl ?_
              refine r_getfield (pc := 62) (v := .ref 20) C xf_X5_25 dX5_sling_62 rfl rfl ?_
              refine r_getfield (pc := 65) (v := .ref 22) C xf_X5_141 dX5_sling_65 rfl rfl ?_
              refine r_iload_n (pc := 68) C dX5_sling_68 rfl rfl ?_
              refine r_iaload (pc := 69) (v := (S 2) 1 j) C j dX5_sling_69 rfl rfl (by first | assumption | omega) rfl ?_
              refine r_aload_n (pc := 70) C dX5_sling_70 rfl rfl ?_
              refine r_getfield (pc := 71) (v := .ref 20) C xf_X5_25 dX5_sling_71 rfl rfl ?_
              refine r_getfield (pc := 74) (v := .ref 23) C xf_X5_144 dX5_sling_74 rfl rfl ?_
              refine r_iload_n (pc := 77) C dX5_sling_77 rfl rfl ?_
              refine r_iaload (pc := 78) (v := (S 2) 2 j) C j dX5_sling_78 rfl rfl (by first | assumption | omega) rfl ?_
              refine r_callVD (pc := 79) (b := 45) (As := [.int 1, .int (nI j), .int ((S 2) 1 j), .int ((S 2) 2 j)]) (st := []) (θ2 := wC (up3 S 6 (kpAll (S 6) o q 1 (nI j) ((S 2) 1 j) ((S 2) 2 j)))) (r2 := none) C [45, 46, 47, 48, 49] (c_X0_keep (S 6) o hA.1 hA.2.1 q hA.2.2.1 hA.2.2.2 1 (nI j) ((S 2) 1 j) ((S 2) 2 j)) xm_X0_keep xk_X5_131 dX5_sling_79 rfl (by decide) rfl rfl rfl rfl rfl (Nat.le_of_ble_eq_true rfl) ⟨Nat.le_of_ble_eq_true rfl, Nat.le_of_ble_eq_true rfl⟩ ⟨rfl, rfl⟩ ⟨Nat.le_of_ble_eq_true rfl, Nat.le_of_ble_eq_true rfl⟩ rfl (Eq.trans (b := 5) rfl rfl) rfl rfl ?_
              show g 0 0 (wC (up3 S 6 (kpAll (S 6) o q 1 (nI j) ((S 2) 1 j) ((S 2) 2 j)))) 82 [some (.ref 0), some (.int (nI j)), some (.int a), some (.int b)] []
              refine r_aload_n (pc := 82) C dX5_sling_82 rfl rfl ?_
              refine r_getfield (pc := 83) (v := .ref 20) C xf_X5_25 dX5_sling_83 rfl rfl ?_
              refine r_getfield (pc := 86) (v := .ref 22) C xf_X5_141 dX5_sling_86 rfl rfl ?_
              refine r_iload_n (pc := 89) C dX5_sling_89 rfl rfl ?_
              refine r_iload_n (pc := 90) C dX5_sling_90 rfl rfl ?_
              refine r_iastore (pc := 91) (θ' := wC (up3 (up3 S 2 (up2 (S 2) 1 (upd ((S 2) 1) j a))) 6 (kpAll (S 6) o q 1 (nI j) ((S 2) 1 j) ((S 2) 2 j)))) C j dX5_sling_91 rfl rfl (by first | assumption | omega) rfl ?_
              refine r_aload_n (pc := 92) C dX5_sling_92 rfl rfl ?_
              refine r_getfield (pc := 93) (v := .ref 20) C xf_X5_25 dX5_sling_93 rfl rfl ?_
              refine r_getfield (pc := 96) (v := .ref 23) C xf_X5_144 dX5_sling_96 rfl rfl ?_
              refine r_iload_n (pc := 99) C dX5_sling_99 rfl rfl ?_
              refine r_iload_n (pc := 100) C dX5_sling_100 rfl rfl ?_
              refine r_iastore (pc := 101) (θ' := wC (up3 (up3 S 2 (up2 (up2 (S 2) 1 (upd ((S 2) 1) j a)) 2 (upd ((S 2) 2) j b))) 6 (kpAll (S 6) o q 1 (nI j) ((S 2) 1 j) ((S 2) 2 j)))) C j dX5_sling_101 rfl rfl (by first | assumption | omega) rfl ?_
              refine r_aload_n (pc := 102) C dX5_sling_102 rfl rfl ?_
              refine r_getfield (pc := 103) (v := .ref 20) C xf_X5_25 dX5_sling_103 rfl rfl ?_
              refine r_iload_n (pc := 106) C dX5_sling_106 rfl rfl ?_
              refine r_aload_n (pc := 107) C dX5_sling_107 rfl rfl ?_
              refine r_getfield (pc := 108) (v := .ref 20) C xf_X5_25 dX5_sling_108 rfl rfl ?_
              refine r_getfield (pc := 111) (v := .int ((S 2) 8 0)) C xf_X5_128 dX5_sling_111 rfl rfl ?_
              refine r_callVD (pc := 114) (b := 20) (As := [.int (nI j), .int ((S 2) 8 0)]) (st := []) (θ2 := wC (up3 (up3 S 2 (up2 (up2 (S 2) 1 (upd ((S 2) 1) j a)) 2 (upd ((S 2) 2) j b))) 6 (kpAll (S 6) o q 1 (nI j) ((S 2) 1 j) ((S 2) 2 j)))) (r2 := some (.int (plS (up2 (up2 (S 2) 1 (upd ((S 2) 1) j a)) 2 (upd ((S 2) 2) j b)) j ((S 2) 8 0)))) C [20, 21, 22, 23, 24, 25] (c_X1_place (up2 (up2 (S 2) 1 (upd ((S 2) 1) j a)) 2 (upd ((S 2) 2) j b)) j (by omega) ((S 2) 8 0) (okW_1 (by decide) (okW_1 (by decide) hS.2.2))) xm_X1_place xk_X5_147 dX5_sling_114 rfl (by decide) rfl rfl rfl rfl rfl (Nat.le_of_ble_eq_true rfl) ⟨Nat.le_of_ble_eq_true rfl, Nat.le_of_ble_eq_true rfl⟩ ⟨rfl, rfl⟩ ⟨Nat.le_of_ble_eq_true rfl, Nat.le_of_ble_eq_true rfl⟩ rfl (Eq.trans (b := 6) rfl rfl) rfl rfl ?_
              show g 0 0 (wC (up3 (up3 S 2 (up2 (up2 (S 2) 1 (upd ((S 2) 1) j a)) 2 (upd ((S 2) 2) j b))) 6 (kpAll (S 6) o q 1 (nI j) ((S 2) 1 j) ((S 2) 2 j)))) 117 [some (.ref 0), some (.int (nI j)), some (.int a), some (.int b)] [.int (plS (up2 (up2 (S 2) 1 (upd ((S 2) 1) j a)) 2 (upd ((S 2) 2) j b)) j ((S 2) 8 0))]
              show g 0 0 (wC (up3 (up3 S 2 (up2 (up2 (S 2) 1 (upd ((S 2) 1) j a)) 2 (upd ((S 2) 2) j b))) 6 (kpAll (S 6) o q 1 (nI j) ((S 2) 1 j) ((S 2) 2 j)))) 117 [some (.ref 0), some (.int (nI j)), some (.int a), some (.int b)] [.int (plS (up2 (up2 (S 2) 1 (upd ((S 2) 1) j a)) 2 (upd ((S 2) 2) j b)) j ((S 2) 8 0))]
              have hX : slingC S o q (nI j) a b = (plS (up2 (up2 (S 2) 1 (upd ((S 2) 1) j a)) 2 (upd ((S 2) 2) j b)) j ((S 2) 8 0), (up3 (up3 S 2 (up2 (up2 (S 2) 1 (upd ((S 2) 1) j a)) 2 (upd ((S 2) 2) j b))) 6 (kpAll (S 6) o q 1 (nI j) ((S 2) 1 j) ((S 2) 2 j)))) := by simp only [slingC, h_5, h_9, h_15, h_20, h_36, h_49, if_true, if_false, Bool.false_eq_true, ix_nI (show j < 2 ^ 31 by omega)] <;> (try (repeat rw [ix_nI (by omega)]))
              exact E _ _ _ _ _ _ dX5_sling_117 (Nat.le_refl _) (Nat.le_refl _) rfl ⟨by rw [hX], by rw [hX]⟩
            · skip
              refine r_ldc (pc := 52) (v := (-1000002)) C dX5_sling_52 tw_323 ?_
              show g 0 0 (wC S) 54 [some (.ref 0), some (.int (nI j)), some (.int a), some (.int b)] [.int (-1000002)]
              have hX : slingC S o q (nI j) a b = ((-1000002), S) := by simp only [slingC, h_5, h_9, h_15, h_20, h_36, h_49, if_true, if_false, Bool.false_eq_true, ix_nI (show j < 2 ^ 31 by omega)] <;> (try (repeat rw [ix_nI (by omega)]))
              exact E _ _ _ _ _ _ dX5_sling_54 (Nat.le_refl _) (Nat.le_refl _) rfl ⟨by rw [hX], by rw [hX]⟩
        · skip
          refine r_ldc (pc := 23) (v := (-1000001)) C dX5_sling_23 tw_216 ?_
          show g 0 0 (wC S) 25 [some (.ref 0), some (.int (nI j)), some (.int a), some (.int b)] [.int (-1000001)]
          have hX : slingC S o q (nI j) a b = ((-1000001), S) := by simp only [slingC, h_5, h_9, h_15, h_20, if_true, if_false, Bool.false_eq_true, ix_nI (show j < 2 ^ 31 by omega)] <;> (try (repeat rw [ix_nI (by omega)]))
          exact E _ _ _ _ _ _ dX5_sling_25 (Nat.le_refl _) (Nat.le_refl _) rfl ⟨by rw [hX], by rw [hX]⟩
