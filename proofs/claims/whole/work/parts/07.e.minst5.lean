def rmX6_load : Room := { frames := 2, cells := 0, slots := 0, locals := 46 }
def rmX6_cord : Room := { frames := 2, cells := 0, slots := 0, locals := 46 }
def rmX6_sling : Room := { frames := 2, cells := 0, slots := 0, locals := 47 }
def loadM (M : Nat → Nat → Int32) (q : Nat) (h v : Int32) : Int32 × (Nat → Nat → Int32) := if inI h 0 (M 4 0 - 1) then (if inI v 1 20 then (dipS (vw (upd (M 4) (22 + h.toNatClampNeg) v)) h.toNatClampNeg (M 4 35), up2 (up2 (up2 M 7 (rmP M q)) 8 (k1 (rmQ q))) 4 (upd (M 4) (22 + h.toNatClampNeg) v)) else (-1000001, M)) else (-1000001, M)
theorem upd_35 {f : Nat → Int32} {k : Nat} {x : Int32} (h : k < 34) : upd f k x 35 = f 35 := if_neg (by omega)
theorem okK_22 {t : Nat → Int32} {j i : Nat} {x : Int32} (hi : i < 6) (h : okK (vw t) i) : okK (vw (upd t (22 + j) x)) i := by
  have e : vw (upd t (22 + j) x) 0 i = vw t 0 i := if_neg (by omega)
  unfold okK
  rw [e]
  exact h
set_option maxHeartbeats 4000000 in
set_option maxRecDepth 100000 in
theorem c_X6_load (M : Nat → Nat → Int32) (h v : Int32) (z : Nat) (hM : okM M z) (q : Nat) (hq : M 8 0 = nI q) (hq24 : q ≤ 24) : MetA yX6_load (.code yX6_load cX6_load 3 (some .int) :: TT) rmX6_load [.ref 0, .int h, .int v] (wM M) (fun vr wr => vr = some (.int (loadM M q h v).1) ∧ wr = wM (loadM M q h v).2) 0 0 := by
  refine MetA.of_i (by decide) (fun _ => Nat.le_of_ble_eq_true rfl) (Nat.le_of_ble_eq_true rfl) (fun g C E => ?_)
  replace C : Sem cX6_load RX6 "load" 3 rmX6_load g := C
  show g 0 0 (wM M) 0 [some (.ref 0), some (.int h), some (.int v)] []
  refine r_aload_n (pc := 0) C dX6_load_0 rfl rfl ?_
  refine r_iload_n (pc := 1) C dX6_load_1 rfl rfl ?_
  refine r_callV0 (pc := 2) (As := [.int h]) (st := []) (θ' := wM M) C (c_X6_isHammock M h) xm_X6_isHammock xk_X6_181 dX6_load_2 rfl rfl rfl rfl (Nat.le_of_ble_eq_true rfl) ⟨Nat.le_of_ble_eq_true rfl, Nat.le_of_ble_eq_true rfl⟩ ⟨rfl, rfl⟩ ⟨Nat.le_of_ble_eq_true rfl, Nat.le_of_ble_eq_true rfl⟩ rfl (Eq.trans (b := 14) rfl rfl) ?_
  show g 0 0 (wM M) 5 [some (.ref 0), some (.int h), some (.int v)] [.int (bB (inI h 0 (M 4 0 - 1)))]
  refine r_if_eq (pc := 5) (tgt := 20) C dX6_load_5 (by decide) (fun h_5 => ?_) (fun h_5 => ?_)
  · replace h_5 := bB_f h_5
    refine r_ldc (pc := 20) (v := (-1000001)) C dX6_load_20 tw_668 ?_
    show g 0 0 (wM M) 22 [some (.ref 0), some (.int h), some (.int v)] [.int (-1000001)]
    have hX : loadM M q h v = ((-1000001), M) := by simp only [loadM, h_5, if_true, if_false, Bool.false_eq_true]
    exact E _ _ _ _ _ _ dX6_load_22 (Nat.le_refl _) (Nat.le_refl _) rfl ⟨by rw [hX], by rw [hX]⟩
  · replace h_5 := bB_t h_5
    obtain ⟨j, hj, rfl⟩ := in_ex hM.1 hM.2.1 h_5
    have hj6 : j < 6 := by have := hM.2.1; omega
    refine r_iload_n (pc := 8) C dX6_load_8 rfl rfl ?_
    refine r_i2l (pc := 9) (v := v.toInt64) C dX6_load_9 rfl ?_
    refine r_lconst (pc := 10) (v := 1) C dX6_load_10 (by decide) ?_
    refine r_ldc2 (pc := 11) (v := 20) C dX6_load_11 tw_784 ?_
    refine r_callS0 (pc := 14) (As := [.long v.toInt64, .long 1, .long 20]) (st := []) C (c_X6_inI v 1 20 rfl (by decide) (by decide)) xm_X6_in xk_X6_57 dX6_load_14 (fun _ => rfl) (fun _ => rfl) rfl rfl (Nat.le_of_ble_eq_true rfl) ⟨Nat.le_of_ble_eq_true rfl, Nat.le_of_ble_eq_true rfl⟩ ⟨rfl, rfl⟩ ⟨Nat.le_of_ble_eq_true rfl, Nat.le_of_ble_eq_true rfl⟩ rfl ?_
    show g 0 0 (wM M) 17 [some (.ref 0), some (.int (nI j)), some (.int v)] [.int (bB (inI v 1 20))]
    refine r_if_ne (pc := 17) (tgt := 23) C dX6_load_17 (by decide) (fun h_17 => ?_) (fun h_17 => ?_)
    · replace h_17 := bB_t h_17
      refine r_aload_n (pc := 23) C dX6_load_23 rfl rfl ?_
      refine r_callV0 (pc := 24) (As := []) (st := []) (θ' := wM (up2 (up2 M 7 (rmP M q)) 8 (k1 (rmQ q)))) C (c_X6_remember M q hq hq24) xm_X6_remember xk_X6_174 dX6_load_24 rfl rfl rfl rfl (Nat.le_of_ble_eq_true rfl) ⟨Nat.le_of_ble_eq_true rfl, Nat.le_of_ble_eq_true rfl⟩ ⟨rfl, rfl⟩ ⟨Nat.le_of_ble_eq_true rfl, Nat.le_of_ble_eq_true rfl⟩ rfl (Eq.trans (b := 14) rfl rfl) ?_
      show g 0 0 (wM (up2 (up2 M 7 (rmP M q)) 8 (k1 (rmQ q)))) 27 [some (.ref 0), some (.int (nI j)), some (.int v)] []
      refine r_aload_n (pc := 27) C dX6_load_27 rfl rfl ?_
      refine r_getfield (pc := 28) (v := .ref 4) C xf_X6_19 dX6_load_28 rfl rfl ?_
      refine r_bipush (pc := 31) (v := 22) C dX6_load_31 (by decide) ?_
      refine r_iload_n (pc := 33) C dX6_load_33 rfl rfl ?_
      refine r_iadd (pc := 34) C dX6_load_34 ?_
      refine r_iload_n (pc := 35) C dX6_load_35 rfl rfl ?_
      refine r_iastore (pc := 36) (θ' := wM (up2 (up2 (up2 M 7 (rmP M q)) 8 (k1 (rmQ q))) 4 (upd (M 4) (22 + j) v))) C (22 + j) dX6_load_36 rfl (nI_sum rfl rfl) (by first | assumption | omega) rfl ?_
      refine r_aload_n (pc := 37) C dX6_load_37 rfl rfl ?_
      refine r_getfield (pc := 38) (v := .ref 4) C xf_X6_19 dX6_load_38 rfl rfl ?_
      refine r_iload_n (pc := 41) C dX6_load_41 rfl rfl ?_
      refine r_aload_n (pc := 42) C dX6_load_42 rfl rfl ?_
      refine r_getfield (pc := 43) (v := .ref 4) C xf_X6_19 dX6_load_43 rfl rfl ?_
      refine r_bipush (pc := 46) (v := 35) C dX6_load_46 (by decide) ?_
      refine r_iaload (pc := 48) (v := M 4 35) C 35 dX6_load_48 rfl (by decide) (by decide) (upd_35 (by omega)) ?_
      refine r_callSD (pc := 49) (As := [.ref 4, .int (nI j), .int (M 4 35)]) (st := []) (θ2 := wM (up2 (up2 (up2 M 7 (rmP M q)) 8 (k1 (rmQ q))) 4 (upd (M 4) (22 + j) v))) (r2 := some (.int (dipS (vw (upd (M 4) (22 + j) v)) j (M 4 35)))) C [4] (c_X6_dip (upd (M 4) (22 + j) v) j (by omega) (M 4 35) (okK_22 (by omega) (hM.2.2.2 j (by omega)))) xm_X6_dip xk_X6_147 dX6_load_49 rfl (by decide) rfl rfl rfl (Nat.le_of_ble_eq_true rfl) ⟨Nat.le_of_ble_eq_true rfl, Nat.le_of_ble_eq_true rfl⟩ ⟨rfl, rfl⟩ ⟨Nat.le_of_ble_eq_true rfl, Nat.le_of_ble_eq_true rfl⟩ rfl (Eq.trans (b := 1) rfl rfl) rfl rfl ?_
      show g 0 0 (wM (up2 (up2 (up2 M 7 (rmP M q)) 8 (k1 (rmQ q))) 4 (upd (M 4) (22 + j) v))) 52 [some (.ref 0), some (.int (nI j)), some (.int v)] [.int (dipS (vw (upd (M 4) (22 + j) v)) j (M 4 35))]
      show g 0 0 (wM (up2 (up2 (up2 M 7 (rmP M q)) 8 (k1 (rmQ q))) 4 (upd (M 4) (22 + j) v))) 52 [some (.ref 0), some (.int (nI j)), some (.int v)] [.int (dipS (vw (upd (M 4) (22 + j) v)) j (M 4 35))]
      have hX : loadM M q (nI j) v = (dipS (vw (upd (M 4) (22 + j) v)) j (M 4 35), (up2 (up2 (up2 M 7 (rmP M q)) 8 (k1 (rmQ q))) 4 (upd (M 4) (22 + j) v))) := by simp only [loadM, h_5, h_17, if_true, if_false, Bool.false_eq_true, nI_clamp (show j < 2 ^ 31 by omega)]
      exact E _ _ _ _ _ _ dX6_load_52 (Nat.le_refl _) (Nat.le_refl _) rfl ⟨by rw [hX], by rw [hX]⟩
    · replace h_17 := bB_f h_17
      refine r_ldc (pc := 20) (v := (-1000001)) C dX6_load_20 tw_668 ?_
      show g 0 0 (wM M) 22 [some (.ref 0), some (.int (nI j)), some (.int v)] [.int (-1000001)]
      have hX : loadM M q (nI j) v = ((-1000001), M) := by simp only [loadM, h_5, h_17, if_true, if_false, Bool.false_eq_true, nI_clamp (show j < 2 ^ 31 by omega)]
      exact E _ _ _ _ _ _ dX6_load_22 (Nat.le_refl _) (Nat.le_refl _) rfl ⟨by rw [hX], by rw [hX]⟩
