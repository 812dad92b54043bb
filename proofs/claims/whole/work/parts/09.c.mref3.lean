def rmX6_fits : Room := { frames := 4, cells := 0, slots := 0, locals := 95 }
def rmX6_toSling : Room := { frames := 5, cells := 0, slots := 0, locals := 121 }
def markM (M : Nat → Nat → Int32) (q : Nat) (t : Nat) : Int32 × (Nat → Nat → Int32) := (if (M 4 (4 + t)) = 2 then (2 * ((nI t) + (dipS (vw (M 4)) t (M 4 35))), (up2 (up2 M 14 (upd (upd (upd (M 14) (q) 24) (q + 1) 21) (q + 1 + 1) 20)) 15 (k1 (nI (q + 1 + 1 + 1))))) else (if (M 4 (4 + t)) = 3 then (((nI t) + (dipS (vw (M 4)) t (M 4 35))) - 1000, (up2 (up2 M 14 (upd (upd (upd (M 14) (q) 22) (q + 1) 21) (q + 1 + 1) 20)) 15 (k1 (nI (q + 1 + 1 + 1))))) else ((nI t) + (dipS (vw (M 4)) t (M 4 35)), (up2 (up2 M 14 (upd (upd (M 14) (q) 21) (q + 1) 20)) 15 (k1 (nI (q + 1 + 1)))))))
set_option maxHeartbeats 4000000 in
set_option maxRecDepth 100000 in
theorem c_X6_mark (M : Nat → Nat → Int32) (z : Nat) (hM : okM M z) (t : Nat) (htz : t < z) (q : Nat) (hq : M 15 0 = nI q) (hq16 : q + 3 ≤ 16) : MetA yX6_mark (.code yX6_mark cX6_mark 4 (some .int) :: TT) rmX6_mark [.ref 0, .int (nI t)] (wM M) (fun vr wr => vr = some (.int (markM M q t).1) ∧ wr = wM (markM M q t).2) 0 0 := by
  refine MetA.of_i (by decide) (fun _ => Nat.le_of_ble_eq_true rfl) (Nat.le_of_ble_eq_true rfl) (fun g C E => ?_)
  replace C : Sem cX6_mark RX6 "mark" 4 rmX6_mark g := C
  show g 0 0 (wM M) 0 [some (.ref 0), some (.int (nI t)), none, none] []
  have hz6 := hM.2.1
  refine r_aload_n (pc := 0) C dX6_mark_0 rfl rfl ?_
  refine r_getfield (pc := 1) (v := .ref 4) C xf_X6_19 dX6_mark_1 rfl rfl ?_
  refine r_iconst (pc := 4) (v := 4) C dX6_mark_4 (by decide) ?_
  refine r_iload_n (pc := 5) C dX6_mark_5 rfl rfl ?_
  refine r_iadd (pc := 6) C dX6_mark_6 ?_
  refine r_iaload (pc := 7) (v := M 4 (4 + t)) C (4 + t) dX6_mark_7 rfl (nI_sum (m := 4) (n := t) rfl rfl) (by first | assumption | omega) rfl ?_
  refine r_istore_n (pc := 8) (lv' := [some (.ref 0), some (.int (nI t)), some (.int (M 4 (4 + t))), none]) C dX6_mark_8 rfl (Nat.le_of_ble_eq_true rfl) trivial rfl ?_
  refine r_iload_n (pc := 9) C dX6_mark_9 rfl rfl ?_
  refine r_aload_n (pc := 10) C dX6_mark_10 rfl rfl ?_
  refine r_getfield (pc := 11) (v := .ref 4) C xf_X6_19 dX6_mark_11 rfl rfl ?_
  refine r_iload_n (pc := 14) C dX6_mark_14 rfl rfl ?_
  refine r_aload_n (pc := 15) C dX6_mark_15 rfl rfl ?_
  refine r_getfield (pc := 16) (v := .ref 4) C xf_X6_19 dX6_mark_16 rfl rfl ?_
  refine r_bipush (pc := 19) (v := 35) C dX6_mark_19 (by decide) ?_
  refine r_iaload (pc := 21) (v := M 4 35) C 35 dX6_mark_21 rfl (by decide) (by decide) rfl ?_
  refine r_callSD (pc := 22) (As := [.ref 4, .int (nI t), .int (M 4 35)]) (st := [.int (nI t)]) (θ2 := wM M) (r2 := some (.int (dipS (vw (M 4)) t (M 4 35)))) C [4] (c_X6_dip (M 4) t (by omega) (M 4 35) (hM.2.2.2 t (by omega))) xm_X6_dip xk_X6_147 dX6_mark_22 rfl (by decide) rfl rfl rfl (Nat.le_of_ble_eq_true rfl) ⟨Nat.le_of_ble_eq_true rfl, Nat.le_of_ble_eq_true rfl⟩ ⟨rfl, rfl⟩ ⟨Nat.le_of_ble_eq_true rfl, Nat.le_of_ble_eq_true rfl⟩ rfl (Eq.trans (b := 1) rfl rfl) rfl rfl ?_
  show g 0 0 (wM M) 25 [some (.ref 0), some (.int (nI t)), some (.int (M 4 (4 + t))), none] [.int (dipS (vw (M 4)) t (M 4 35)), .int (nI t)]
  refine r_iadd (pc := 25) C dX6_mark_25 ?_
  refine r_istore_n (pc := 26) (lv' := [some (.ref 0), some (.int (nI t)), some (.int (M 4 (4 + t))), some (.int ((nI t) + (dipS (vw (M 4)) t (M 4 35))))]) C dX6_mark_26 rfl (Nat.le_of_ble_eq_true rfl) trivial rfl ?_
  refine r_aload_n (pc := 27) C dX6_mark_27 rfl rfl ?_
  refine r_iload_n (pc := 28) C dX6_mark_28 rfl rfl ?_
  refine r_iconst (pc := 29) (v := 2) C dX6_mark_29 (by decide) ?_
  refine r_icmp_ne (pc := 30) (tgt := 39) C dX6_mark_30 (by decide) (fun h_30 => ?_) (fun h_30 => ?_)
  · skip
    refine r_iload_n (pc := 39) C dX6_mark_39 rfl rfl ?_
    refine r_iconst (pc := 40) (v := 3) C dX6_mark_40 (by decide) ?_
    refine r_icmp_ne (pc := 41) (tgt := 50) C dX6_mark_41 (by decide) (fun h_41 => ?_) (fun h_41 => ?_)
    · skip
      refine r_ldc2 (pc := 50) (v := 2120) C dX6_mark_50 tw_901 ?_
      refine r_callV0 (pc := 53) (As := [.long 2120]) (st := []) (θ' := wM (up2 (up2 M 14 (upd (upd (M 14) (q) 21) (q + 1) 20)) 15 (k1 (nI (q + 1 + 1))))) C (c_X6_leave_2120 M q hq (by omega)) xm_X6_leave xk_X6_227 dX6_mark_53 rfl rfl rfl rfl (Nat.le_of_ble_eq_true rfl) ⟨Nat.le_of_ble_eq_true rfl, Nat.le_of_ble_eq_true rfl⟩ ⟨rfl, rfl⟩ ⟨Nat.le_of_ble_eq_true rfl, Nat.le_of_ble_eq_true rfl⟩ rfl (Eq.trans (b := 14) rfl rfl) ?_
      show g 0 0 (wM (up2 (up2 M 14 (upd (upd (M 14) (q) 21) (q + 1) 20)) 15 (k1 (nI (q + 1 + 1))))) 56 [some (.ref 0), some (.int (nI t)), some (.int (M 4 (4 + t))), some (.int ((nI t) + (dipS (vw (M 4)) t (M 4 35))))] []
      refine r_iload_n (pc := 56) C dX6_mark_56 rfl rfl ?_
      refine r_iconst (pc := 57) (v := 2) C dX6_mark_57 (by decide) ?_
      refine r_icmp_ne (pc := 58) (tgt := 67) C dX6_mark_58 (by decide) (fun _ => ?_) (fun h => absurd h h_30)
      refine r_iload_n (pc := 67) C dX6_mark_67 rfl rfl ?_
      refine r_iconst (pc := 68) (v := 3) C dX6_mark_68 (by decide) ?_
      refine r_icmp_ne (pc := 69) (tgt := 80) C dX6_mark_69 (by decide) (fun _ => ?_) (fun h => absurd h h_41)
      refine r_iload_n (pc := 80) C dX6_mark_80 rfl rfl ?_
      show g 0 0 (wM (up2 (up2 M 14 (upd (upd (M 14) (q) 21) (q + 1) 20)) 15 (k1 (nI (q + 1 + 1))))) 81 [some (.ref 0), some (.int (nI t)), some (.int (M 4 (4 + t))), some (.int ((nI t) + (dipS (vw (M 4)) t (M 4 35))))] [.int ((nI t) + (dipS (vw (M 4)) t (M 4 35)))]
      have hX : markM M q t = ((nI t) + (dipS (vw (M 4)) t (M 4 35)), (up2 (up2 M 14 (upd (upd (M 14) (q) 21) (q + 1) 20)) 15 (k1 (nI (q + 1 + 1))))) := by
        unfold markM
        rw [if_neg h_30, if_neg h_41]
      exact E _ _ _ _ _ _ dX6_mark_81 (Nat.le_refl _) (Nat.le_refl _) rfl ⟨by rw [hX], by rw [hX]⟩
    · skip
      refine r_ldc2 (pc := 44) (v := 222120) C dX6_mark_44 tw_900 ?_
      refine r_goto (pc := 47) (tgt := 53) C dX6_mark_47 (by decide) ?_
      refine r_callV0 (pc := 53) (As := [.long 222120]) (st := []) (θ' := wM (up2 (up2 M 14 (upd (upd (upd (M 14) (q) 22) (q + 1) 21) (q + 1 + 1) 20)) 15 (k1 (nI (q + 1 + 1 + 1))))) C (c_X6_leave_222120 M q hq (by omega)) xm_X6_leave xk_X6_227 dX6_mark_53 rfl rfl rfl rfl (Nat.le_of_ble_eq_true rfl) ⟨Nat.le_of_ble_eq_true rfl, Nat.le_of_ble_eq_true rfl⟩ ⟨rfl, rfl⟩ ⟨Nat.le_of_ble_eq_true rfl, Nat.le_of_ble_eq_true rfl⟩ rfl (Eq.trans (b := 14) rfl rfl) ?_
      show g 0 0 (wM (up2 (up2 M 14 (upd (upd (upd (M 14) (q) 22) (q + 1) 21) (q + 1 + 1) 20)) 15 (k1 (nI (q + 1 + 1 + 1))))) 56 [some (.ref 0), some (.int (nI t)), some (.int (M 4 (4 + t))), some (.int ((nI t) + (dipS (vw (M 4)) t (M 4 35))))] []
      refine r_iload_n (pc := 56) C dX6_mark_56 rfl rfl ?_
      refine r_iconst (pc := 57) (v := 2) C dX6_mark_57 (by decide) ?_
      refine r_icmp_ne (pc := 58) (tgt := 67) C dX6_mark_58 (by decide) (fun _ => ?_) (fun h => absurd h h_30)
      refine r_iload_n (pc := 67) C dX6_mark_67 rfl rfl ?_
      refine r_iconst (pc := 68) (v := 3) C dX6_mark_68 (by decide) ?_
      refine r_icmp_ne (pc := 69) (tgt := 80) C dX6_mark_69 (by decide) (fun h => absurd h_41 h) (fun _ => ?_)
      refine r_iload_n (pc := 72) C dX6_mark_72 rfl rfl ?_
      refine r_sipush (pc := 73) (v := 1000) C dX6_mark_73 (by decide) ?_
      refine r_isub (pc := 76) C dX6_mark_76 ?_
      refine r_goto (pc := 77) (tgt := 81) C dX6_mark_77 (by decide) ?_
      show g 0 0 (wM (up2 (up2 M 14 (upd (upd (upd (M 14) (q) 22) (q + 1) 21) (q + 1 + 1) 20)) 15 (k1 (nI (q + 1 + 1 + 1))))) 81 [some (.ref 0), some (.int (nI t)), some (.int (M 4 (4 + t))), some (.int ((nI t) + (dipS (vw (M 4)) t (M 4 35))))] [.int (((nI t) + (dipS (vw (M 4)) t (M 4 35))) - 1000)]
      have hX : markM M q t = (((nI t) + (dipS (vw (M 4)) t (M 4 35))) - 1000, (up2 (up2 M 14 (upd (upd (upd (M 14) (q) 22) (q + 1) 21) (q + 1 + 1) 20)) 15 (k1 (nI (q + 1 + 1 + 1))))) := by
        unfold markM
        rw [if_neg h_30, if_pos h_41]
      exact E _ _ _ _ _ _ dX6_mark_81 (Nat.le_refl _) (Nat.le_refl _) rfl ⟨by rw [hX], by rw [hX]⟩
  · skip
    refine r_ldc2 (pc := 33) (v := 242120) C dX6_mark_33 tw_899 ?_
    refine r_goto (pc := 36) (tgt := 53) C dX6_mark_36 (by decide) ?_
    refine r_callV0 (pc := 53) (As := [.long 242120]) (st := []) (θ' := wM (up2 (up2 M 14 (upd (upd (upd (M 14) (q) 24) (q + 1) 21) (q + 1 + 1) 20)) 15 (k1 (nI (q + 1 + 1 + 1))))) C (c_X6_leave_242120 M q hq (by omega)) xm_X6_leave xk_X6_227 dX6_mark_53 rfl rfl rfl rfl (Nat.le_of_ble_eq_true rfl) ⟨Nat.le_of_ble_eq_true rfl, Nat.le_of_ble_eq_true rfl⟩ ⟨rfl, rfl⟩ ⟨Nat.le_of_ble_eq_true rfl, Nat.le_of_ble_eq_true rfl⟩ rfl (Eq.trans (b := 14) rfl rfl) ?_
    show g 0 0 (wM (up2 (up2 M 14 (upd (upd (upd (M 14) (q) 24) (q + 1) 21) (q + 1 + 1) 20)) 15 (k1 (nI (q + 1 + 1 + 1))))) 56 [some (.ref 0), some (.int (nI t)), some (.int (M 4 (4 + t))), some (.int ((nI t) + (dipS (vw (M 4)) t (M 4 35))))] []
    refine r_iload_n (pc := 56) C dX6_mark_56 rfl rfl ?_
    refine r_iconst (pc := 57) (v := 2) C dX6_mark_57 (by decide) ?_
    refine r_icmp_ne (pc := 58) (tgt := 67) C dX6_mark_58 (by decide) (fun h => absurd h_30 h) (fun _ => ?_)
    refine r_iconst (pc := 61) (v := 2) C dX6_mark_61 (by decide) ?_
    refine r_iload_n (pc := 62) C dX6_mark_62 rfl rfl ?_
    refine r_imul (pc := 63) C dX6_mark_63 ?_
    refine r_goto (pc := 64) (tgt := 81) C dX6_mark_64 (by decide) ?_
    show g 0 0 (wM (up2 (up2 M 14 (upd (upd (upd (M 14) (q) 24) (q + 1) 21) (q + 1 + 1) 20)) 15 (k1 (nI (q + 1 + 1 + 1))))) 81 [some (.ref 0), some (.int (nI t)), some (.int (M 4 (4 + t))), some (.int ((nI t) + (dipS (vw (M 4)) t (M 4 35))))] [.int (2 * ((nI t) + (dipS (vw (M 4)) t (M 4 35))))]
    have hX : markM M q t = (2 * ((nI t) + (dipS (vw (M 4)) t (M 4 35))), (up2 (up2 M 14 (upd (upd (upd (M 14) (q) 24) (q + 1) 21) (q + 1 + 1) 20)) 15 (k1 (nI (q + 1 + 1 + 1))))) := by
      unfold markM
      rw [if_pos h_30]
    exact E _ _ _ _ _ _ dX6_mark_81 (Nat.le_refl _) (Nat.le_refl _) rfl ⟨by rw [hX], by rw [hX]⟩
def sizeM (M : Nat → Nat → Int32) (q : Nat) (t : Nat) : Int32 × (Nat → Nat → Int32) := (if (M 4 (4 + t)) = 5 then (2 * ((M 4 (22 + t)) - 100), (up2 (up2 M 14 (upd (upd (upd (M 14) (q) 14) (q + 1) 13) (q + 1 + 1) 10)) 15 (k1 (nI (q + 1 + 1 + 1))))) else ((M 4 (22 + t)) - 100, (up2 (up2 M 14 (upd (upd (M 14) (q) 13) (q + 1) 10)) 15 (k1 (nI (q + 1 + 1))))))
set_option maxHeartbeats 4000000 in
set_option maxRecDepth 100000 in
theorem c_X6_sizeOf (M : Nat → Nat → Int32) (z : Nat) (hM : okM M z) (t : Nat) (htz : t < z) (q : Nat) (hq : M 15 0 = nI q) (hq16 : q + 3 ≤ 16) : MetA yX6_sizeOf (.code yX6_sizeOf cX6_sizeOf 4 (some .int) :: TT) rmX6_sizeOf [.ref 0, .int (nI t)] (wM M) (fun vr wr => vr = some (.int (sizeM M q t).1) ∧ wr = wM (sizeM M q t).2) 0 0 := by
  refine MetA.of_i (by decide) (fun _ => Nat.le_of_ble_eq_true rfl) (Nat.le_of_ble_eq_true rfl) (fun g C E => ?_)
  replace C : Sem cX6_sizeOf RX6 "sizeOf" 4 rmX6_sizeOf g := C
  show g 0 0 (wM M) 0 [some (.ref 0), some (.int (nI t)), none, none] []
  have hz6 := hM.2.1
  refine r_aload_n (pc := 0) C dX6_sizeOf_0 rfl rfl ?_
  refine r_getfield (pc := 1) (v := .ref 4) C xf_X6_19 dX6_sizeOf_1 rfl rfl ?_
  refine r_bipush (pc := 4) (v := 22) C dX6_sizeOf_4 (by decide) ?_
  refine r_iload_n (pc := 6) C dX6_sizeOf_6 rfl rfl ?_
  refine r_iadd (pc := 7) C dX6_sizeOf_7 ?_
  refine r_iaload (pc := 8) (v := M 4 (22 + t)) C (22 + t) dX6_sizeOf_8 rfl (nI_sum (m := 22) (n := t) rfl rfl) (by first | assumption | omega) rfl ?_
  refine r_bipush (pc := 9) (v := 100) C dX6_sizeOf_9 (by decide) ?_
  refine r_isub (pc := 11) C dX6_sizeOf_11 ?_
  refine r_istore_n (pc := 12) (lv' := [some (.ref 0), some (.int (nI t)), some (.int ((M 4 (22 + t)) - 100)), none]) C dX6_sizeOf_12 rfl (Nat.le_of_ble_eq_true rfl) trivial rfl ?_
  refine r_aload_n (pc := 13) C dX6_sizeOf_13 rfl rfl ?_
  refine r_getfield (pc := 14) (v := .ref 4) C xf_X6_19 dX6_sizeOf_14 rfl rfl ?_
  refine r_iconst (pc := 17) (v := 4) C dX6_sizeOf_17 (by decide) ?_
  refine r_iload_n (pc := 18) C dX6_sizeOf_18 rfl rfl ?_
  refine r_iadd (pc := 19) C dX6_sizeOf_19 ?_
  refine r_iaload (pc := 20) (v := M 4 (4 + t)) C (4 + t) dX6_sizeOf_20 rfl (nI_sum (m := 4) (n := t) rfl rfl) (by first | assumption | omega) rfl ?_
  refine r_iconst (pc := 21) (v := 5) C dX6_sizeOf_21 (by decide) ?_
  refine r_icmp_ne (pc := 22) (tgt := 29) C dX6_sizeOf_22 (by decide) (fun h_22 => ?_) (fun h_22 => ?_)
  · skip
    refine r_iconst (pc := 29) (v := 0) C dX6_sizeOf_29 (by decide) ?_
    refine r_istore_n (pc := 30) (lv' := [some (.ref 0), some (.int (nI t)), some (.int ((M 4 (22 + t)) - 100)), some (.int 0)]) C dX6_sizeOf_30 rfl (Nat.le_of_ble_eq_true rfl) trivial rfl ?_
    refine r_aload_n (pc := 31) C dX6_sizeOf_31 rfl rfl ?_
    refine r_iload_n (pc := 32) C dX6_sizeOf_32 rfl rfl ?_
    refine r_if_eq (pc := 33) (tgt := 42) C dX6_sizeOf_33 (by decide) (fun _ => ?_) (fun h => absurd (by decide) h)
    refine r_ldc2 (pc := 42) (v := 1310) C dX6_sizeOf_42 tw_914 ?_
    refine r_callV0 (pc := 45) (As := [.long 1310]) (st := []) (θ' := wM (up2 (up2 M 14 (upd (upd (M 14) (q) 13) (q + 1) 10)) 15 (k1 (nI (q + 1 + 1))))) C (c_X6_leave_1310 M q hq (by omega)) xm_X6_leave xk_X6_227 dX6_sizeOf_45 rfl rfl rfl rfl (Nat.le_of_ble_eq_true rfl) ⟨Nat.le_of_ble_eq_true rfl, Nat.le_of_ble_eq_true rfl⟩ ⟨rfl, rfl⟩ ⟨Nat.le_of_ble_eq_true rfl, Nat.le_of_ble_eq_true rfl⟩ rfl (Eq.trans (b := 14) rfl rfl) ?_
    show g 0 0 (wM (up2 (up2 M 14 (upd (upd (M 14) (q) 13) (q + 1) 10)) 15 (k1 (nI (q + 1 + 1))))) 48 [some (.ref 0), some (.int (nI t)), some (.int ((M 4 (22 + t)) - 100)), some (.int 0)] []
    refine r_iload_n (pc := 48) C dX6_sizeOf_48 rfl rfl ?_
    refine r_if_eq (pc := 49) (tgt := 58) C dX6_sizeOf_49 (by decide) (fun _ => ?_) (fun h => absurd (by decide) h)
    refine r_iload_n (pc := 58) C dX6_sizeOf_58 rfl rfl ?_
    show g 0 0 (wM (up2 (up2 M 14 (upd (upd (M 14) (q) 13) (q + 1) 10)) 15 (k1 (nI (q + 1 + 1))))) 59 [some (.ref 0), some (.int (nI t)), some (.int ((M 4 (22 + t)) - 100)), some (.int 0)] [.int ((M 4 (22 + t)) - 100)]
    have hX : sizeM M q t = ((M 4 (22 + t)) - 100, (up2 (up2 M 14 (upd (upd (M 14) (q) 13) (q + 1) 10)) 15 (k1 (nI (q + 1 + 1))))) := by
      unfold sizeM
      rw [if_neg h_22]
    exact E _ _ _ _ _ _ dX6_sizeOf_59 (Nat.le_refl _) (Nat.le_refl _) rfl ⟨by rw [hX], by rw [hX]⟩
  · skip
    refine r_iconst (pc := 25) (v := 1) C dX6_sizeOf_25 (by decide) ?_
    refine r_goto (pc := 26) (tgt := 30) C dX6_sizeOf_26 (by decide) ?_
    refine r_istore_n (pc := 30) (lv' := [some (.ref 0), some (.int (nI t)), some (.int ((M 4 (22 + t)) - 100)), some (.int 1)]) C dX6_sizeOf_30 rfl (Nat.le_of_ble_eq_true rfl) trivial rfl ?_
    refine r_aload_n (pc := 31) C dX6_sizeOf_31 rfl rfl ?_
    refine r_iload_n (pc := 32) C dX6_sizeOf_32 rfl rfl ?_
    refine r_if_eq (pc := 33) (tgt := 42) C dX6_sizeOf_33 (by decide) (fun h => absurd h (by decide)) (fun _ => ?_)
    refine r_ldc2 (pc := 36) (v := 141310) C dX6_sizeOf_36 tw_913 ?_
    refine r_goto (pc := 39) (tgt := 45) C dX6_sizeOf_39 (by decide) ?_
    refine r_callV0 (pc := 45) (As := [.long 141310]) (st := []) (θ' := wM (up2 (up2 M 14 (upd (upd (upd (M 14) (q) 14) (q + 1) 13) (q + 1 + 1) 10)) 15 (k1 (nI (q + 1 + 1 + 1))))) C (c_X6_leave_141310 M q hq (by omega)) xm_X6_leave xk_X6_227 dX6_sizeOf_45 rfl rfl rfl rfl (Nat.le_of_ble_eq_true rfl) ⟨Nat.le_of_ble_eq_true rfl, Nat.le_of_ble_eq_true rfl⟩ ⟨rfl, rfl⟩ ⟨Nat.le_of_ble_eq_true rfl, Nat.le_of_ble_eq_true rfl⟩ rfl (Eq.trans (b := 14) rfl rfl) ?_
    show g 0 0 (wM (up2 (up2 M 14 (upd (upd (upd (M 14) (q) 14) (q + 1) 13) (q + 1 + 1) 10)) 15 (k1 (nI (q + 1 + 1 + 1))))) 48 [some (.ref 0), some (.int (nI t)), some (.int ((M 4 (22 + t)) - 100)), some (.int 1)] []
    refine r_iload_n (pc := 48) C dX6_sizeOf_48 rfl rfl ?_
    refine r_if_eq (pc := 49) (tgt := 58) C dX6_sizeOf_49 (by decide) (fun h => absurd h (by decide)) (fun _ => ?_)
    refine r_iconst (pc := 52) (v := 2) C dX6_sizeOf_52 (by decide) ?_
    refine r_iload_n (pc := 53) C dX6_sizeOf_53 rfl rfl ?_
    refine r_imul (pc := 54) C dX6_sizeOf_54 ?_
    refine r_goto (pc := 55) (tgt := 59) C dX6_sizeOf_55 (by decide) ?_
    show g 0 0 (wM (up2 (up2 M 14 (upd (upd (upd (M 14) (q) 14) (q + 1) 13) (q + 1 + 1) 10)) 15 (k1 (nI (q + 1 + 1 + 1))))) 59 [some (.ref 0), some (.int (nI t)), some (.int ((M 4 (22 + t)) - 100)), some (.int 1)] [.int (2 * ((M 4 (22 + t)) - 100))]
    have hX : sizeM M q t = (2 * ((M 4 (22 + t)) - 100), (up2 (up2 M 14 (upd (upd (upd (M 14) (q) 14) (q + 1) 13) (q + 1 + 1) 10)) 15 (k1 (nI (q + 1 + 1 + 1))))) := by
      unfold sizeM
      rw [if_pos h_22]
    exact E _ _ _ _ _ _ dX6_sizeOf_59 (Nat.le_refl _) (Nat.le_refl _) rfl ⟨by rw [hX], by rw [hX]⟩
def askM (M : Nat → Nat → Int32) (h x : Int32) : Int32 × (Nat → Nat → Int32) := (if (inI h 0 (M 4 0 - 1)) = true then (if (inI x 0 1) = true then (if 4 ≤ (M 4 (4 + (ix h))) then (if x = 0 then ((sizeM (up2 M 15 (k1 0)) 0 (ix h)).1, ((sizeM (up2 M 15 (k1 0)) 0 (ix h)).2)) else (h - ((sizeM (up2 (up2 (up2 M 15 (k1 0)) 14 (upd (upd ((up2 M 15 (k1 0)) 14) (0) 23) (0 + 1) 20)) 15 (k1 (nI (0 + 1 + 1)))) (0 + 1 + 1) (ix h)).1), ((sizeM (up2 (up2 (up2 M 15 (k1 0)) 14 (upd (upd ((up2 M 15 (k1 0)) 14) (0) 23) (0 + 1) 20)) 15 (k1 (nI (0 + 1 + 1)))) (0 + 1 + 1) (ix h)).2))) else (if x = 1 then ((markM (up2 M 15 (k1 0)) 0 (ix h)).1, ((markM (up2 M 15 (k1 0)) 0 (ix h)).2)) else (if (M 4 (4 + (ix h))) = 2 then (-(((up2 M 15 (k1 0)) 4 (22 + (ix h))) + ((markM (up2 (up2 (up2 M 15 (k1 0)) 14 (upd (upd (upd ((up2 M 15 (k1 0)) 14) (0) 12) (0 + 1) 11) (0 + 1 + 1) 10)) 15 (k1 (nI (0 + 1 + 1 + 1)))) (0 + 1 + 1 + 1) (ix h)).1)), ((markM (up2 (up2 (up2 M 15 (k1 0)) 14 (upd (upd (upd ((up2 M 15 (k1 0)) 14) (0) 12) (0 + 1) 11) (0 + 1 + 1) 10)) 15 (k1 (nI (0 + 1 + 1 + 1)))) (0 + 1 + 1 + 1) (ix h)).2)) else (((up2 M 15 (k1 0)) 4 (22 + (ix h))) + ((markM (up2 (up2 (up2 M 15 (k1 0)) 14 (upd (upd ((up2 M 15 (k1 0)) 14) (0) 11) (0 + 1) 10)) 15 (k1 (nI (0 + 1 + 1)))) (0 + 1 + 1) (ix h)).1), ((markM (up2 (up2 (up2 M 15 (k1 0)) 14 (upd (upd ((up2 M 15 (k1 0)) 14) (0) 11) (0 + 1) 10)) 15 (k1 (nI (0 + 1 + 1)))) (0 + 1 + 1) (ix h)).2))))) else ((-1000001), M)) else ((-1000001), M))
set_option maxHeartbeats 4000000 in
set_option maxRecDepth 100000 in
theorem c_X6_ask (M : Nat → Nat → Int32) (h x : Int32) (z : Nat) (hM : okM M z) : MetA yX6_ask (.code yX6_ask cX6_ask 5 (some .int) :: TT) rmX6_ask [.ref 0, .int h, .int x] (wM M) (fun vr wr => vr = some (.int (askM M h x).1) ∧ wr = wM (askM M h x).2) 0 0 := by
  refine MetA.of_i (by decide) (fun _ => Nat.le_of_ble_eq_true rfl) (Nat.le_of_ble_eq_true rfl) (fun g C E => ?_)
  replace C : Sem cX6_ask RX6 "ask" 5 rmX6_ask g := C
  show g 0 0 (wM M) 0 [some (.ref 0), some (.int h), some (.int x), none, none] []
  refine r_aload_n (pc := 0) C dX6_ask_0 rfl rfl ?_
  refine r_iload_n (pc := 1) C dX6_ask_1 rfl rfl ?_
  refine r_callV0 (pc := 2) (As := [.int h]) (st := []) (θ' := wM M) C (c_X6_isHammock M h) xm_X6_isHammock xk_X6_181 dX6_ask_2 rfl rfl rfl rfl (Nat.le_of_ble_eq_true rfl) ⟨Nat.le_of_ble_eq_true rfl, Nat.le_of_ble_eq_true rfl⟩ ⟨rfl, rfl⟩ ⟨Nat.le_of_ble_eq_true rfl, Nat.le_of_ble_eq_true rfl⟩ rfl (Eq.trans (b := 14) rfl rfl) ?_
  show g 0 0 (wM M) 5 [some (.ref 0), some (.int h), some (.int x), none, none] [.int (bB (inI h 0 (M 4 0 - 1)))]
  refine r_if_eq (pc := 5) (tgt := 15) C dX6_ask_5 (by decide) (fun h_5 => ?_) (fun h_5 => ?_)
  · replace h_5 := bB_f h_5
    refine r_ldc (pc := 15) (v := (-1000001)) C dX6_ask_15 tw_668 ?_
    show g 0 0 (wM M) 17 [some (.ref 0), some (.int h), some (.int x), none, none] [.int (-1000001)]
    have hX : askM M h x = ((-1000001), M) := by
      unfold askM
      rw [if_neg (nbt h_5)]
    exact E _ _ _ _ _ _ dX6_ask_17 (Nat.le_refl _) (Nat.le_refl _) rfl ⟨by rw [hX], by rw [hX]⟩
  · replace h_5 := bB_t h_5
    obtain ⟨jh, hjh, rfl⟩ := in_ex hM.1 hM.2.1 h_5
    have hjh6 : jh < 6 := by have := hM.2.1; omega
    have hz6 := hM.2.1
    refine r_iload_n (pc := 8) C dX6_ask_8 rfl rfl ?_
    refine r_callS0 (pc := 9) (As := [.int x]) (st := []) C (c_X6_isTwo x) xm_X6_isTwo xk_X6_188 dX6_ask_9 (fun _ => rfl) (fun _ => rfl) rfl rfl (Nat.le_of_ble_eq_true rfl) ⟨Nat.le_of_ble_eq_true rfl, Nat.le_of_ble_eq_true rfl⟩ ⟨rfl, rfl⟩ ⟨Nat.le_of_ble_eq_true rfl, Nat.le_of_ble_eq_true rfl⟩ rfl ?_
    show g 0 0 (wM M) 12 [some (.ref 0), some (.int (nI jh)), some (.int x), none, none] [.int (bB (inI x 0 1))]
    refine r_if_ne (pc := 12) (tgt := 18) C dX6_ask_12 (by decide) (fun h_12 => ?_) (fun h_12 => ?_)
    · replace h_12 := bB_t h_12
      refine r_aload_n (pc := 18) C dX6_ask_18 rfl rfl ?_
      refine r_iconst (pc := 19) (v := 0) C dX6_ask_19 (by decide) ?_
      refine r_putfield (pc := 20) (θ' := wM (up2 M 15 (k1 0))) C xf_X6_218 xt_X6_15 dX6_ask_20 rfl (Nat.le_of_ble_eq_true rfl) (fun _ => ⟨rfl, rfl⟩) rfl ?_
      refine r_aload_n (pc := 23) C dX6_ask_23 rfl rfl ?_
      refine r_getfield (pc := 24) (v := .ref 4) C xf_X6_19 dX6_ask_24 rfl rfl ?_
      refine r_iconst (pc := 27) (v := 4) C dX6_ask_27 (by decide) ?_
      refine r_iload_n (pc := 28) C dX6_ask_28 rfl rfl ?_
      refine r_iadd (pc := 29) C dX6_ask_29 ?_
      refine r_iaload (pc := 30) (v := M 4 (4 + jh)) C (4 + jh) dX6_ask_30 rfl (nI_sum (m := 4) (n := jh) rfl rfl) (by first | assumption | omega) rfl ?_
      refine r_istore_n (pc := 31) (lv' := [some (.ref 0), some (.int (nI jh)), some (.int x), some (.int (M 4 (4 + jh))), none]) C dX6_ask_31 rfl (Nat.le_of_ble_eq_true rfl) trivial rfl ?_
      refine r_iload_n (pc := 32) C dX6_ask_32 rfl rfl ?_
      refine r_iconst (pc := 33) (v := 4) C dX6_ask_33 (by decide) ?_
      refine r_icmp_ge (pc := 34) (tgt := 97) C dX6_ask_34 (by decide) (fun h_34 => ?_) (fun h_34 => ?_)
      · skip
        refine r_iload_n (pc := 97) C dX6_ask_97 rfl rfl ?_
        refine r_if_ne (pc := 98) (tgt := 107) C dX6_ask_98 (by decide) (fun h_98 => ?_) (fun h_98 => ?_)
        · skip
          refine r_aload_n (pc := 107) C dX6_ask_107 rfl rfl ?_
          refine r_ldc2 (pc := 108) (v := 2320) C dX6_ask_108 tw_915 ?_
          refine r_callV0 (pc := 111) (As := [.long 2320]) (st := []) (θ' := wM (up2 (up2 (up2 M 15 (k1 0)) 14 (upd (upd ((up2 M 15 (k1 0)) 14) (0) 23) (0 + 1) 20)) 15 (k1 (nI (0 + 1 + 1))))) C (c_X6_leave_2320 (up2 M 15 (k1 0)) 0 rfl (by omega)) xm_X6_leave xk_X6_227 dX6_ask_111 rfl rfl rfl rfl (Nat.le_of_ble_eq_true rfl) ⟨Nat.le_of_ble_eq_true rfl, Nat.le_of_ble_eq_true rfl⟩ ⟨rfl, rfl⟩ ⟨Nat.le_of_ble_eq_true rfl, Nat.le_of_ble_eq_true rfl⟩ rfl (Eq.trans (b := 14) rfl rfl) ?_
          show g 0 0 (wM (up2 (up2 (up2 M 15 (k1 0)) 14 (upd (upd ((up2 M 15 (k1 0)) 14) (0) 23) (0 + 1) 20)) 15 (k1 (nI (0 + 1 + 1))))) 114 [some (.ref 0), some (.int (nI jh)), some (.int x), some (.int (M 4 (4 + jh))), none] []
          refine r_iload_n (pc := 114) C dX6_ask_114 rfl rfl ?_
          refine r_aload_n (pc := 115) C dX6_ask_115 rfl rfl ?_
          refine r_iload_n (pc := 116) C dX6_ask_116 rfl rfl ?_
          refine r_callV0 (pc := 117) (As := [.int (nI jh)]) (st := [.int (nI jh)]) (θ' := wM ((sizeM (up2 (up2 (up2 M 15 (k1 0)) 14 (upd (upd ((up2 M 15 (k1 0)) 14) (0) 23) (0 + 1) 20)) 15 (k1 (nI (0 + 1 + 1)))) (0 + 1 + 1) jh).2)) C (c_X6_sizeOf (up2 (up2 (up2 M 15 (k1 0)) 14 (upd (upd ((up2 M 15 (k1 0)) 14) (0) 23) (0 + 1) 20)) 15 (k1 (nI (0 + 1 + 1)))) z hM jh (by omega) (0 + 1 + 1) rfl (by omega)) xm_X6_sizeOf xk_X6_242 dX6_ask_117 rfl rfl rfl rfl (Nat.le_of_ble_eq_true rfl) ⟨Nat.le_of_ble_eq_true rfl, Nat.le_of_ble_eq_true rfl⟩ ⟨rfl, rfl⟩ ⟨Nat.le_of_ble_eq_true rfl, Nat.le_of_ble_eq_true rfl⟩ rfl (Eq.trans (b := 14) rfl rfl) ?_
          show g 0 0 (wM ((sizeM (up2 (up2 (up2 M 15 (k1 0)) 14 (upd (upd ((up2 M 15 (k1 0)) 14) (0) 23) (0 + 1) 20)) 15 (k1 (nI (0 + 1 + 1)))) (0 + 1 + 1) jh).2)) 120 [some (.ref 0), some (.int (nI jh)), some (.int x), some (.int (M 4 (4 + jh))), none] [.int ((sizeM (up2 (up2 (up2 M 15 (k1 0)) 14 (upd (upd ((up2 M 15 (k1 0)) 14) (0) 23) (0 + 1) 20)) 15 (k1 (nI (0 + 1 + 1)))) (0 + 1 + 1) jh).1), .int (nI jh)]
          refine r_isub (pc := 120) C dX6_ask_120 ?_
          show g 0 0 (wM ((sizeM (up2 (up2 (up2 M 15 (k1 0)) 14 (upd (upd ((up2 M 15 (k1 0)) 14) (0) 23) (0 + 1) 20)) 15 (k1 (nI (0 + 1 + 1)))) (0 + 1 + 1) jh).2)) 121 [some (.ref 0), some (.int (nI jh)), some (.int x), some (.int (M 4 (4 + jh))), none] [.int ((nI jh) - ((sizeM (up2 (up2 (up2 M 15 (k1 0)) 14 (upd (upd ((up2 M 15 (k1 0)) 14) (0) 23) (0 + 1) 20)) 15 (k1 (nI (0 + 1 + 1)))) (0 + 1 + 1) jh).1))]
          have hX : askM M (nI jh) x = ((nI jh) - ((sizeM (up2 (up2 (up2 M 15 (k1 0)) 14 (upd (upd ((up2 M 15 (k1 0)) 14) (0) 23) (0 + 1) 20)) 15 (k1 (nI (0 + 1 + 1)))) (0 + 1 + 1) jh).1), ((sizeM (up2 (up2 (up2 M 15 (k1 0)) 14 (upd (upd ((up2 M 15 (k1 0)) 14) (0) 23) (0 + 1) 20)) 15 (k1 (nI (0 + 1 + 1)))) (0 + 1 + 1) jh).2)) := by
            unfold askM
            (try rw [ix_nI (show jh < 2 ^ 31 by omega)])
            rw [if_pos h_5, if_pos h_12, if_pos h_34, if_neg h_98]
          exact E _ _ _ _ _ _ dX6_ask_121 (Nat.le_refl _) (Nat.le_refl _) rfl ⟨by rw [hX], by rw [hX]⟩
        · skip
          refine r_aload_n (pc := 101) C dX6_ask_101 rfl rfl ?_
          refine r_iload_n (pc := 102) C dX6_ask_102 rfl rfl ?_
          refine r_callV0 (pc := 103) (As := [.int (nI jh)]) (st := []) (θ' := wM ((sizeM (up2 M 15 (k1 0)) 0 jh).2)) C (c_X6_sizeOf (up2 M 15 (k1 0)) z hM jh (by omega) 0 rfl (by omega)) xm_X6_sizeOf xk_X6_242 dX6_ask_103 rfl rfl rfl rfl (Nat.le_of_ble_eq_true rfl) ⟨Nat.le_of_ble_eq_true rfl, Nat.le_of_ble_eq_true rfl⟩ ⟨rfl, rfl⟩ ⟨Nat.le_of_ble_eq_true rfl, Nat.le_of_ble_eq_true rfl⟩ rfl (Eq.trans (b := 14) rfl rfl) ?_
          show g 0 0 (wM ((sizeM (up2 M 15 (k1 0)) 0 jh).2)) 106 [some (.ref 0), some (.int (nI jh)), some (.int x), some (.int (M 4 (4 + jh))), none] [.int ((sizeM (up2 M 15 (k1 0)) 0 jh).1)]
          show g 0 0 (wM ((sizeM (up2 M 15 (k1 0)) 0 jh).2)) 106 [some (.ref 0), some (.int (nI jh)), some (.int x), some (.int (M 4 (4 + jh))), none] [.int ((sizeM (up2 M 15 (k1 0)) 0 jh).1)]
          have hX : askM M (nI jh) x = ((sizeM (up2 M 15 (k1 0)) 0 jh).1, ((sizeM (up2 M 15 (k1 0)) 0 jh).2)) := by
            unfold askM
            (try rw [ix_nI (show jh < 2 ^ 31 by omega)])
            rw [if_pos h_5, if_pos h_12, if_pos h_34, if_pos h_98]
          exact E _ _ _ _ _ _ dX6_ask_106 (Nat.le_refl _) (Nat.le_refl _) rfl ⟨by rw [hX], by rw [hX]⟩
      · skip
        refine r_iload_n (pc := 37) C dX6_ask_37 rfl rfl ?_
        refine r_iconst (pc := 38) (v := 1) C dX6_ask_38 (by decide) ?_
        refine r_icmp_ne (pc := 39) (tgt := 48) C dX6_ask_39 (by decide) (fun h_39 => ?_) (fun h_39 => ?_)
        · skip
          refine r_aload_n (pc := 48) C dX6_ask_48 rfl rfl ?_
          refine r_iload_n (pc := 49) C dX6_ask_49 rfl rfl ?_
          refine r_iconst (pc := 50) (v := 2) C dX6_ask_50 (by decide) ?_
          refine r_icmp_ne (pc := 51) (tgt := 60) C dX6_ask_51 (by decide) (fun h_51 => ?_) (fun h_51 => ?_)
          · skip
            refine r_ldc2 (pc := 60) (v := 1110) C dX6_ask_60 tw_908 ?_
            refine r_callV0 (pc := 63) (As := [.long 1110]) (st := []) (θ' := wM (up2 (up2 (up2 M 15 (k1 0)) 14 (upd (upd ((up2 M 15 (k1 0)) 14) (0) 11) (0 + 1) 10)) 15 (k1 (nI (0 + 1 + 1))))) C (c_X6_leave_1110 (up2 M 15 (k1 0)) 0 rfl (by omega)) xm_X6_leave xk_X6_227 dX6_ask_63 rfl rfl rfl rfl (Nat.le_of_ble_eq_true rfl) ⟨Nat.le_of_ble_eq_true rfl, Nat.le_of_ble_eq_true rfl⟩ ⟨rfl, rfl⟩ ⟨Nat.le_of_ble_eq_true rfl, Nat.le_of_ble_eq_true rfl⟩ rfl (Eq.trans (b := 14) rfl rfl) ?_
            show g 0 0 (wM (up2 (up2 (up2 M 15 (k1 0)) 14 (upd (upd ((up2 M 15 (k1 0)) 14) (0) 11) (0 + 1) 10)) 15 (k1 (nI (0 + 1 + 1))))) 66 [some (.ref 0), some (.int (nI jh)), some (.int x), some (.int (M 4 (4 + jh))), none] []
            refine r_aload_n (pc := 66) C dX6_ask_66 rfl rfl ?_
            refine r_getfield (pc := 67) (v := .ref 4) C xf_X6_19 dX6_ask_67 rfl rfl ?_
            refine r_bipush (pc := 70) (v := 22) C dX6_ask_70 (by decide) ?_
            refine r_iload_n (pc := 72) C dX6_ask_72 rfl rfl ?_
            refine r_iadd (pc := 73) C dX6_ask_73 ?_
            refine r_iaload (pc := 74) (v := (up2 M 15 (k1 0)) 4 (22 + jh)) C (22 + jh) dX6_ask_74 rfl (nI_sum (m := 22) (n := jh) rfl rfl) (by first | assumption | omega) rfl ?_
            refine r_aload_n (pc := 75) C dX6_ask_75 rfl rfl ?_
            refine r_iload_n (pc := 76) C dX6_ask_76 rfl rfl ?_
            refine r_callV0 (pc := 77) (As := [.int (nI jh)]) (st := [.int ((up2 M 15 (k1 0)) 4 (22 + jh))]) (θ' := wM ((markM (up2 (up2 (up2 M 15 (k1 0)) 14 (upd (upd ((up2 M 15 (k1 0)) 14) (0) 11) (0 + 1) 10)) 15 (k1 (nI (0 + 1 + 1)))) (0 + 1 + 1) jh).2)) C (c_X6_mark (up2 (up2 (up2 M 15 (k1 0)) 14 (upd (upd ((up2 M 15 (k1 0)) 14) (0) 11) (0 + 1) 10)) 15 (k1 (nI (0 + 1 + 1)))) z hM jh (by omega) (0 + 1 + 1) rfl (by omega)) xm_X6_mark xk_X6_235 dX6_ask_77 rfl rfl rfl rfl (Nat.le_of_ble_eq_true rfl) ⟨Nat.le_of_ble_eq_true rfl, Nat.le_of_ble_eq_true rfl⟩ ⟨rfl, rfl⟩ ⟨Nat.le_of_ble_eq_true rfl, Nat.le_of_ble_eq_true rfl⟩ rfl (Eq.trans (b := 14) rfl rfl) ?_
            show g 0 0 (wM ((markM (up2 (up2 (up2 M 15 (k1 0)) 14 (upd (upd ((up2 M 15 (k1 0)) 14) (0) 11) (0 + 1) 10)) 15 (k1 (nI (0 + 1 + 1)))) (0 + 1 + 1) jh).2)) 80 [some (.ref 0), some (.int (nI jh)), some (.int x), some (.int (M 4 (4 + jh))), none] [.int ((markM (up2 (up2 (up2 M 15 (k1 0)) 14 (upd (upd ((up2 M 15 (k1 0)) 14) (0) 11) (0 + 1) 10)) 15 (k1 (nI (0 + 1 + 1)))) (0 + 1 + 1) jh).1), .int ((up2 M 15 (k1 0)) 4 (22 + jh))]
            refine r_iadd (pc := 80) C dX6_ask_80 ?_
            refine r_istore (pc := 81) (lv' := [some (.ref 0), some (.int (nI jh)), some (.int x), some (.int (M 4 (4 + jh))), some (.int (((up2 M 15 (k1 0)) 4 (22 + jh)) + ((markM (up2 (up2 (up2 M 15 (k1 0)) 14 (upd (upd ((up2 M 15 (k1 0)) 14) (0) 11) (0 + 1) 10)) 15 (k1 (nI (0 + 1 + 1)))) (0 + 1 + 1) jh).1)))]) C dX6_ask_81 (Nat.le_of_ble_eq_true rfl) trivial rfl ?_
            refine r_iload_n (pc := 83) C dX6_ask_83 rfl rfl ?_
            refine r_iconst (pc := 84) (v := 2) C dX6_ask_84 (by decide) ?_
            refine r_icmp_ne (pc := 85) (tgt := 94) C dX6_ask_85 (by decide) (fun _ => ?_) (fun h => absurd h h_51)
            refine r_iload (pc := 94) C dX6_ask_94 rfl ?_
            show g 0 0 (wM ((markM (up2 (up2 (up2 M 15 (k1 0)) 14 (upd (upd ((up2 M 15 (k1 0)) 14) (0) 11) (0 + 1) 10)) 15 (k1 (nI (0 + 1 + 1)))) (0 + 1 + 1) jh).2)) 96 [some (.ref 0), some (.int (nI jh)), some (.int x), some (.int (M 4 (4 + jh))), some (.int (((up2 M 15 (k1 0)) 4 (22 + jh)) + ((markM (up2 (up2 (up2 M 15 (k1 0)) 14 (upd (upd ((up2 M 15 (k1 0)) 14) (0) 11) (0 + 1) 10)) 15 (k1 (nI (0 + 1 + 1)))) (0 + 1 + 1) jh).1)))] [.int (((up2 M 15 (k1 0)) 4 (22 + jh)) + ((markM (up2 (up2 (up2 M 15 (k1 0)) 14 (upd (upd ((up2 M 15 (k1 0)) 14) (0) 11) (0 + 1) 10)) 15 (k1 (nI (0 + 1 + 1)))) (0 + 1 + 1) jh).1))]
            have hX : askM M (nI jh) x = (((up2 M 15 (k1 0)) 4 (22 + jh)) + ((markM (up2 (up2 (up2 M 15 (k1 0)) 14 (upd (upd ((up2 M 15 (k1 0)) 14) (0) 11) (0 + 1) 10)) 15 (k1 (nI (0 + 1 + 1)))) (0 + 1 + 1) jh).1), ((markM (up2 (up2 (up2 M 15 (k1 0)) 14 (upd (upd ((up2 M 15 (k1 0)) 14) (0) 11) (0 + 1) 10)) 15 (k1 (nI (0 + 1 + 1)))) (0 + 1 + 1) jh).2)) := by
              unfold askM
              (try rw [ix_nI (show jh < 2 ^ 31 by omega)])
              rw [if_pos h_5, if_pos h_12, if_neg h_34, if_neg h_39, if_neg h_51]
            exact E _ _ _ _ _ _ dX6_ask_96 (Nat.le_refl _) (Nat.le_refl _) rfl ⟨by rw [hX], by rw [hX]⟩
          · skip
            refine r_ldc2 (pc := 54) (v := 121110) C dX6_ask_54 tw_907 ?_
            refine r_goto (pc := 57) (tgt := 63) C dX6_ask_57 (by decide) ?_
            refine r_callV0 (pc := 63) (As := [.long 121110]) (st := []) (θ' := wM (up2 (up2 (up2 M 15 (k1 0)) 14 (upd (upd (upd ((up2 M 15 (k1 0)) 14) (0) 12) (0 + 1) 11) (0 + 1 + 1) 10)) 15 (k1 (nI (0 + 1 + 1 + 1))))) C (c_X6_leave_121110 (up2 M 15 (k1 0)) 0 rfl (by omega)) xm_X6_leave xk_X6_227 dX6_ask_63 rfl rfl rfl rfl (Nat.le_of_ble_eq_true rfl) ⟨Nat.le_of_ble_eq_true rfl, Nat.le_of_ble_eq_true rfl⟩ ⟨rfl, rfl⟩ ⟨Nat.le_of_ble_eq_true rfl, Nat.le_of_ble_eq_true rfl⟩ rfl (Eq.trans (b := 14) rfl rfl) ?_
            show g 0 0 (wM (up2 (up2 (up2 M 15 (k1 0)) 14 (upd (upd (upd ((up2 M 15 (k1 0)) 14) (0) 12) (0 + 1) 11) (0 + 1 + 1) 10)) 15 (k1 (nI (0 + 1 + 1 + 1))))) 66 [some (.ref 0), some (.int (nI jh)), some (.int x), some (.int (M 4 (4 + jh))), none] []
            refine r_aload_n (pc := 66) C dX6_ask_66 rfl rfl ?_
            refine r_getfield (pc := 67) (v := .ref 4) C xf_X6_19 dX6_ask_67 rfl rfl ?_
            refine r_bipush (pc := 70) (v := 22) C dX6_ask_70 (by decide) ?_
            refine r_iload_n (pc := 72) C dX6_ask_72 rfl rfl ?_
            refine r_iadd (pc := 73) C dX6_ask_73 ?_
            refine r_iaload (pc := 74) (v := (up2 M 15 (k1 0)) 4 (22 + jh)) C (22 + jh) dX6_ask_74 rfl (nI_sum (m := 22) (n := jh) rfl rfl) (by first | assumption | omega) rfl ?_
            refine r_aload_n (pc := 75) C dX6_ask_75 rfl rfl ?_
            refine r_iload_n (pc := 76) C dX6_ask_76 rfl rfl ?_
            refine r_callV0 (pc := 77) (As := [.int (nI jh)]) (st := [.int ((up2 M 15 (k1 0)) 4 (22 + jh))]) (θ' := wM ((markM (up2 (up2 (up2 M 15 (k1 0)) 14 (upd (upd (upd ((up2 M 15 (k1 0)) 14) (0) 12) (0 + 1) 11) (0 + 1 + 1) 10)) 15 (k1 (nI (0 + 1 + 1 + 1)))) (0 + 1 + 1 + 1) jh).2)) C (c_X6_mark (up2 (up2 (up2 M 15 (k1 0)) 14 (upd (upd (upd ((up2 M 15 (k1 0)) 14) (0) 12) (0 + 1) 11) (0 + 1 + 1) 10)) 15 (k1 (nI (0 + 1 + 1 + 1)))) z hM jh (by omega) (0 + 1 + 1 + 1) rfl (by omega)) xm_X6_mark xk_X6_235 dX6_ask_77 rfl rfl rfl rfl (Nat.le_of_ble_eq_true rfl) ⟨Nat.le_of_ble_eq_true rfl, Nat.le_of_ble_eq_true rfl⟩ ⟨rfl, rfl⟩ ⟨Nat.le_of_ble_eq_true rfl, Nat.le_of_ble_eq_true rfl⟩ rfl (Eq.trans (b := 14) rfl rfl) ?_
            show g 0 0 (wM ((markM (up2 (up2 (up2 M 15 (k1 0)) 14 (upd (upd (upd ((up2 M 15 (k1 0)) 14) (0) 12) (0 + 1) 11) (0 + 1 + 1) 10)) 15 (k1 (nI (0 + 1 + 1 + 1)))) (0 + 1 + 1 + 1) jh).2)) 80 [some (.ref 0), some (.int (nI jh)), some (.int x), some (.int (M 4 (4 + jh))), none] [.int ((markM (up2 (up2 (up2 M 15 (k1 0)) 14 (upd (upd (upd ((up2 M 15 (k1 0)) 14) (0) 12) (0 + 1) 11) (0 + 1 + 1) 10)) 15 (k1 (nI (0 + 1 + 1 + 1)))) (0 + 1 + 1 + 1) jh).1), .int ((up2 M 15 (k1 0)) 4 (22 + jh))]
            refine r_iadd (pc := 80) C dX6_ask_80 ?_
            refine r_istore (pc := 81) (lv' := [some (.ref 0), some (.int (nI jh)), some (.int x), some (.int (M 4 (4 + jh))), some (.int (((up2 M 15 (k1 0)) 4 (22 + jh)) + ((markM (up2 (up2 (up2 M 15 (k1 0)) 14 (upd (upd (upd ((up2 M 15 (k1 0)) 14) (0) 12) (0 + 1) 11) (0 + 1 + 1) 10)) 15 (k1 (nI (0 + 1 + 1 + 1)))) (0 + 1 + 1 + 1) jh).1)))]) C dX6_ask_81 (Nat.le_of_ble_eq_true rfl) trivial rfl ?_
            refine r_iload_n (pc := 83) C dX6_ask_83 rfl rfl ?_
            refine r_iconst (pc := 84) (v := 2) C dX6_ask_84 (by decide) ?_
            refine r_icmp_ne (pc := 85) (tgt := 94) C dX6_ask_85 (by decide) (fun h => absurd h_51 h) (fun _ => ?_)
            refine r_iload (pc := 88) C dX6_ask_88 rfl ?_
            refine r_ineg (pc := 90) C dX6_ask_90 ?_
            refine r_goto (pc := 91) (tgt := 96) C dX6_ask_91 (by decide) ?_
            show g 0 0 (wM ((markM (up2 (up2 (up2 M 15 (k1 0)) 14 (upd (upd (upd ((up2 M 15 (k1 0)) 14) (0) 12) (0 + 1) 11) (0 + 1 + 1) 10)) 15 (k1 (nI (0 + 1 + 1 + 1)))) (0 + 1 + 1 + 1) jh).2)) 96 [some (.ref 0), some (.int (nI jh)), some (.int x), some (.int (M 4 (4 + jh))), some (.int (((up2 M 15 (k1 0)) 4 (22 + jh)) + ((markM (up2 (up2 (up2 M 15 (k1 0)) 14 (upd (upd (upd ((up2 M 15 (k1 0)) 14) (0) 12) (0 + 1) 11) (0 + 1 + 1) 10)) 15 (k1 (nI (0 + 1 + 1 + 1)))) (0 + 1 + 1 + 1) jh).1)))] [.int (-(((up2 M 15 (k1 0)) 4 (22 + jh)) + ((markM (up2 (up2 (up2 M 15 (k1 0)) 14 (upd (upd (upd ((up2 M 15 (k1 0)) 14) (0) 12) (0 + 1) 11) (0 + 1 + 1) 10)) 15 (k1 (nI (0 + 1 + 1 + 1)))) (0 + 1 + 1 + 1) jh).1)))]
            have hX : askM M (nI jh) x = (-(((up2 M 15 (k1 0)) 4 (22 + jh)) + ((markM (up2 (up2 (up2 M 15 (k1 0)) 14 (upd (upd (upd ((up2 M 15 (k1 0)) 14) (0) 12) (0 + 1) 11) (0 + 1 + 1) 10)) 15 (k1 (nI (0 + 1 + 1 + 1)))) (0 + 1 + 1 + 1) jh).1)), ((markM (up2 (up2 (up2 M 15 (k1 0)) 14 (upd (upd (upd ((up2 M 15 (k1 0)) 14) (0) 12) (0 + 1) 11) (0 + 1 + 1) 10)) 15 (k1 (nI (0 + 1 + 1 + 1)))) (0 + 1 + 1 + 1) jh).2)) := by
              unfold askM
              (try rw [ix_nI (show jh < 2 ^ 31 by omega)])
              rw [if_pos h_5, if_pos h_12, if_neg h_34, if_neg h_39, if_pos h_51]
            exact E _ _ _ _ _ _ dX6_ask_96 (Nat.le_refl _) (Nat.le_refl _) rfl ⟨by rw [hX], by rw [hX]⟩
        · skip
          refine r_aload_n (pc := 42) C dX6_ask_42 rfl rfl ?_
          refine r_iload_n (pc := 43) C dX6_ask_43 rfl rfl ?_
          refine r_callV0 (pc := 44) (As := [.int (nI jh)]) (st := []) (θ' := wM ((markM (up2 M 15 (k1 0)) 0 jh).2)) C (c_X6_mark (up2 M 15 (k1 0)) z hM jh (by omega) 0 rfl (by omega)) xm_X6_mark xk_X6_235 dX6_ask_44 rfl rfl rfl rfl (Nat.le_of_ble_eq_true rfl) ⟨Nat.le_of_ble_eq_true rfl, Nat.le_of_ble_eq_true rfl⟩ ⟨rfl, rfl⟩ ⟨Nat.le_of_ble_eq_true rfl, Nat.le_of_ble_eq_true rfl⟩ rfl (Eq.trans (b := 14) rfl rfl) ?_
          show g 0 0 (wM ((markM (up2 M 15 (k1 0)) 0 jh).2)) 47 [some (.ref 0), some (.int (nI jh)), some (.int x), some (.int (M 4 (4 + jh))), none] [.int ((markM (up2 M 15 (k1 0)) 0 jh).1)]
          show g 0 0 (wM ((markM (up2 M 15 (k1 0)) 0 jh).2)) 47 [some (.ref 0), some (.int (nI jh)), some (.int x), some (.int (M 4 (4 + jh))), none] [.int ((markM (up2 M 15 (k1 0)) 0 jh).1)]
          have hX : askM M (nI jh) x = ((markM (up2 M 15 (k1 0)) 0 jh).1, ((markM (up2 M 15 (k1 0)) 0 jh).2)) := by
            unfold askM
            (try rw [ix_nI (show jh < 2 ^ 31 by omega)])
            rw [if_pos h_5, if_pos h_12, if_neg h_34, if_pos h_39]
          exact E _ _ _ _ _ _ dX6_ask_47 (Nat.le_refl _) (Nat.le_refl _) rfl ⟨by rw [hX], by rw [hX]⟩
    · replace h_12 := bB_f h_12
      refine r_ldc (pc := 15) (v := (-1000001)) C dX6_ask_15 tw_668 ?_
      show g 0 0 (wM M) 17 [some (.ref 0), some (.int (nI jh)), some (.int x), none, none] [.int (-1000001)]
      have hX : askM M (nI jh) x = ((-1000001), M) := by
        unfold askM
        (try rw [ix_nI (show jh < 2 ^ 31 by omega)])
        rw [if_pos h_5, if_neg (nbt h_12)]
      exact E _ _ _ _ _ _ dX6_ask_17 (Nat.le_refl _) (Nat.le_refl _) rfl ⟨by rw [hX], by rw [hX]⟩
def tsA (M : Nat → Nat → Int32) (A : Nat → Int32) (c p : Nat) : Nat → Int32 := upd (upd (va_cpy (M 4) A 0 0 36) (10 + c) (nI p / 12)) (16 + c) (rmI (nI p) 12)
theorem tsA_k {M : Nat → Nat → Int32} {A : Nat → Int32} {c p k : Nat} (h : k < 36) (h2 : k ≠ 10 + c) (h3 : k ≠ 16 + c) : tsA M A c p k = M 4 k := by
  unfold tsA
  rw [upd_ne h3, upd_ne h2, cpy36 h]
noncomputable def tsB (M : Nat → Nat → Int32) (z c a b p : Nat) (A : Nat → Int32) : Int32 := if rmI (nI p) 12 ≤ nI p / 12 then 1000000 else soonT (vw (tsA M A c p)) z (nI a) (nI b)
noncomputable def tsM (M : Nat → Nat → Int32) (z c a b : Nat) : Nat → Nat → Int32 → Int32 → (Nat → Int32) → Int32 × Int32 × (Nat → Int32)
  | 0, _, least, best, A => (least, best, A)
  | n + 1, p, least, best, A => if least ≤ tsB M z c a b p A then tsM M z c a b n (p + 1) least best (tsA M A c p) else tsM M z c a b n (p + 1) (tsB M z c a b p A) (nI p) (tsA M A c p)
noncomputable def tsMT : (Nat → Nat → Int32) → Nat → Nat → Nat → Nat → Nat → Nat → Int32 → Int32 → (Nat → Int32) → Int32 × Int32 × (Nat → Int32) := Classical.choose (seal_ex tsM)
theorem tsMT_eq : tsMT = tsM := Classical.choose_spec (seal_ex tsM)
def toRM (least best x : Int32) : Int32 := if least = 1000000 then -1000000 else if x = 0 then best else least
set_option maxHeartbeats 4000000 in
set_option maxRecDepth 100000 in
theorem lp_X6_toSling (M : Nat → Nat → Int32) (z : Nat) (hM : okM M z) (ia ib jc : Nat) (hia : ia < z) (hib : ib < z) (hjc : jc < z) (x l0 b0 : Int32) (are : Int32) {g : Nat → Nat → List xE → Nat → List (Option Value) → List Value → Prop} (C : Sem cX6_toSling RX6 "toSling" 10 rmX6_toSling g) (E : xEi g cX6_toSling .int 0 0 (fun vr wr => vr = some (.int (toRM (tsMT M z jc ia ib 144 0 l0 b0 (M 6)).1 (tsMT M z jc ia ib 144 0 l0 b0 (M 6)).2.1 x)) ∧ wr = wM (up2 M 6 (tsMT M z jc ia ib 144 0 l0 b0 (M 6)).2.2))) : ∀ (n : Nat) (p : Nat) (least best : Int32) (A : Nat → Int32), p + n = 144 → tsM M z jc ia ib n p least best A = tsMT M z jc ia ib 144 0 l0 b0 (M 6) → g 0 0 (wM (up2 M 6 A)) 100 [some (.ref 0), some (.int (nI jc)), some (.int (nI ia)), some (.int (nI ib)), some (.int x), some (.int are), some (.int least), some (.int best), some (.int (nI p)), none] [] := by
  intro n
  have hz6 := hM.2.1
  induction n with
  | zero =>
    intro p least best A hp hE
    refine r_iload (pc := 100) C dX6_toSling_100 rfl ?_
    refine r_sipush (pc := 102) (v := 144) C dX6_toSling_102 (by decide) ?_
    refine r_icmp_ge (pc := 105) (tgt := 207) C dX6_toSling_105 (by decide) (fun _ => ?_) (fun h => absurd (nI_le (a := 144) (by omega) (by omega)) h)
    refine r_iload (pc := 207) C dX6_toSling_207 rfl ?_
    refine r_ldc (pc := 209) (v := 1000000) C dX6_toSling_209 tw_834 ?_
    refine r_icmp_ne (pc := 211) (tgt := 219) C dX6_toSling_211 (by decide) (fun h_211 => ?_) (fun h_211 => ?_)
    · skip
      refine r_iload (pc := 219) C dX6_toSling_219 rfl ?_
      refine r_if_ne (pc := 221) (tgt := 229) C dX6_toSling_221 (by decide) (fun h_221 => ?_) (fun h_221 => ?_)
      · skip
        refine r_iload (pc := 229) C dX6_toSling_229 rfl ?_
        show g 0 0 (wM (up2 M 6 A)) 231 [some (.ref 0), some (.int (nI jc)), some (.int (nI ia)), some (.int (nI ib)), some (.int x), some (.int are), some (.int least), some (.int best), some (.int (nI p)), none] [.int least]
        have hX : toRM least best x = least := by unfold toRM; rw [if_neg h_211, if_neg h_221]
        rw [← hE] at E
        exact E _ _ _ _ _ _ dX6_toSling_231 (Nat.le_refl _) (Nat.le_refl _) rfl ⟨by show some (Value.int least) = some (Value.int (toRM least best x)); rw [hX], rfl⟩
      · skip
        refine r_iload (pc := 224) C dX6_toSling_224 rfl ?_
        refine r_goto (pc := 226) (tgt := 231) C dX6_toSling_226 (by decide) ?_
        show g 0 0 (wM (up2 M 6 A)) 231 [some (.ref 0), some (.int (nI jc)), some (.int (nI ia)), some (.int (nI ib)), some (.int x), some (.int are), some (.int least), some (.int best), some (.int (nI p)), none] [.int best]
        have hX : toRM least best x = best := by unfold toRM; rw [if_neg h_211, if_pos h_221]
        rw [← hE] at E
        exact E _ _ _ _ _ _ dX6_toSling_231 (Nat.le_refl _) (Nat.le_refl _) rfl ⟨by show some (Value.int best) = some (Value.int (toRM least best x)); rw [hX], rfl⟩
    · skip
      refine r_ldc (pc := 214) (v := (-1000000)) C dX6_toSling_214 tw_826 ?_
      refine r_goto (pc := 216) (tgt := 231) C dX6_toSling_216 (by decide) ?_
      show g 0 0 (wM (up2 M 6 A)) 231 [some (.ref 0), some (.int (nI jc)), some (.int (nI ia)), some (.int (nI ib)), some (.int x), some (.int are), some (.int least), some (.int best), some (.int (nI p)), none] [.int (-1000000)]
      have hX : toRM least best x = (-1000000) := by unfold toRM; rw [if_pos h_211]
      rw [← hE] at E
      exact E _ _ _ _ _ _ dX6_toSling_231 (Nat.le_refl _) (Nat.le_refl _) rfl ⟨by show some (Value.int (-1000000)) = some (Value.int (toRM least best x)); rw [hX], rfl⟩
  | succ n ih =>
    intro p least best A hp hE
    refine r_iload (pc := 100) C dX6_toSling_100 rfl ?_
    refine r_sipush (pc := 102) (v := 144) C dX6_toSling_102 (by decide) ?_
    refine r_icmp_ge (pc := 105) (tgt := 207) C dX6_toSling_105 (by decide) (fun h => absurd h (nI_ge (b := 144) (by omega) (by omega))) (fun _ => ?_)
    refine r_aload_n (pc := 108) C dX6_toSling_108 rfl rfl ?_
    refine r_callV0 (pc := 109) (As := []) (st := []) (θ' := wM (up2 M 6 (va_cpy (M 4) (A) 0 0 36))) C (c_X6_layAside (up2 M 6 A)) xm_X6_layAside xk_X6_204 dX6_toSling_109 rfl rfl rfl rfl (Nat.le_of_ble_eq_true rfl) ⟨Nat.le_of_ble_eq_true rfl, Nat.le_of_ble_eq_true rfl⟩ ⟨rfl, rfl⟩ ⟨Nat.le_of_ble_eq_true rfl, Nat.le_of_ble_eq_true rfl⟩ rfl (Eq.trans (b := 14) rfl rfl) ?_
    show g 0 0 (wM (up2 M 6 (va_cpy (M 4) (A) 0 0 36))) 112 [some (.ref 0), some (.int (nI jc)), some (.int (nI ia)), some (.int (nI ib)), some (.int x), some (.int are), some (.int least), some (.int best), some (.int (nI p)), none] []
    refine r_aload_n (pc := 112) C dX6_toSling_112 rfl rfl ?_
    refine r_getfield (pc := 113) (v := .ref 6) C xf_X6_25 dX6_toSling_113 rfl rfl ?_
    refine r_bipush (pc := 116) (v := 10) C dX6_toSling_116 (by decide) ?_
    refine r_iload_n (pc := 118) C dX6_toSling_118 rfl rfl ?_
    refine r_iadd (pc := 119) C dX6_toSling_119 ?_
    refine r_iload (pc := 120) C dX6_toSling_120 rfl ?_
    refine r_bipush (pc := 122) (v := 12) C dX6_toSling_122 (by decide) ?_
    refine r_idiv (pc := 124) C dX6_toSling_124 (by decide) ?_
    refine r_iastore (pc := 125) (θ' := wM (up2 M 6 (upd (va_cpy (M 4) (A) 0 0 36) (10 + jc) ((nI p) / 12)))) C (10 + jc) dX6_toSling_125 rfl (nI_sum (m := 10) (n := jc) rfl rfl) (by first | assumption | omega) rfl ?_
    refine r_aload_n (pc := 126) C dX6_toSling_126 rfl rfl ?_
    refine r_getfield (pc := 127) (v := .ref 6) C xf_X6_25 dX6_toSling_127 rfl rfl ?_
    refine r_bipush (pc := 130) (v := 16) C dX6_toSling_130 (by decide) ?_
    refine r_iload_n (pc := 132) C dX6_toSling_132 rfl rfl ?_
    refine r_iadd (pc := 133) C dX6_toSling_133 ?_
    refine r_iload (pc := 134) C dX6_toSling_134 rfl ?_
    refine r_bipush (pc := 136) (v := 12) C dX6_toSling_136 (by decide) ?_
    refine r_irem (pc := 138) C dX6_toSling_138 (by decide) ?_
    show g 0 0 (wM (up2 M 6 (upd (va_cpy (M 4) (A) 0 0 36) (10 + jc) ((nI p) / 12)))) 139 [some (.ref 0), some (.int (nI jc)), some (.int (nI ia)), some (.int (nI ib)), some (.int x), some (.int are), some (.int least), some (.int best), some (.int (nI p)), none] [.int (rmI (nI p) 12), .int (16 + (nI jc)), .ref 6]
    refine r_iastore (pc := 139) (θ' := wM (up2 M 6 (tsA M A jc p))) C (16 + jc) dX6_toSling_139 rfl (nI_sum (m := 16) (n := jc) rfl rfl) (by first | assumption | omega) rfl ?_
    refine r_iload (pc := 140) C dX6_toSling_140 rfl ?_
    refine r_bipush (pc := 142) (v := 12) C dX6_toSling_142 (by decide) ?_
    refine r_idiv (pc := 144) C dX6_toSling_144 (by decide) ?_
    refine r_iload (pc := 145) C dX6_toSling_145 rfl ?_
    refine r_bipush (pc := 147) (v := 12) C dX6_toSling_147 (by decide) ?_
    refine r_irem (pc := 149) C dX6_toSling_149 (by decide) ?_
    show g 0 0 (wM (up2 M 6 (tsA M A jc p))) 150 [some (.ref 0), some (.int (nI jc)), some (.int (nI ia)), some (.int (nI ib)), some (.int x), some (.int are), some (.int least), some (.int best), some (.int (nI p)), none] [.int (rmI (nI p) 12), .int ((nI p) / 12)]
    refine r_icmp_ge (pc := 150) (tgt := 165) C dX6_toSling_150 (by decide) (fun h_150 => ?_) (fun h_150 => ?_)
    · skip
      refine r_ldc (pc := 165) (v := 1000000) C dX6_toSling_165 tw_834 ?_
      refine r_istore (pc := 167) (lv' := [some (.ref 0), some (.int (nI jc)), some (.int (nI ia)), some (.int (nI ib)), some (.int x), some (.int are), some (.int least), some (.int best), some (.int (nI p)), some (.int 1000000)]) C dX6_toSling_167 (Nat.le_of_ble_eq_true rfl) trivial rfl ?_
      refine r_iload (pc := 169) C dX6_toSling_169 rfl ?_
      refine r_iload (pc := 171) C dX6_toSling_171 rfl ?_
      refine r_icmp_ge (pc := 173) (tgt := 181) C dX6_toSling_173 (by decide) (fun h_173 => ?_) (fun h_173 => ?_)
      · skip
        refine r_iload (pc := 181) C dX6_toSling_181 rfl ?_
        refine r_istore (pc := 183) (lv' := [some (.ref 0), some (.int (nI jc)), some (.int (nI ia)), some (.int (nI ib)), some (.int x), some (.int are), some (.int least), some (.int best), some (.int (nI p)), some (.int 1000000)]) C dX6_toSling_183 (Nat.le_of_ble_eq_true rfl) trivial rfl ?_
        refine r_iload (pc := 185) C dX6_toSling_185 rfl ?_
        refine r_iload (pc := 187) C dX6_toSling_187 rfl ?_
        refine r_icmp_ge (pc := 189) (tgt := 197) C dX6_toSling_189 (by decide) (fun _ => ?_) (fun h => absurd h_173 h)
        refine r_iload (pc := 197) C dX6_toSling_197 rfl ?_
        refine r_istore (pc := 199) (lv' := [some (.ref 0), some (.int (nI jc)), some (.int (nI ia)), some (.int (nI ib)), some (.int x), some (.int are), some (.int least), some (.int best), some (.int (nI p)), some (.int 1000000)]) C dX6_toSling_199 (Nat.le_of_ble_eq_true rfl) trivial rfl ?_
        refine r_iinc (pc := 201) (v := nI (p + 1)) (lv' := [some (.ref 0), some (.int (nI jc)), some (.int (nI ia)), some (.int (nI ib)), some (.int x), some (.int are), some (.int least), some (.int best), some (.int (nI (p + 1))), some (.int 1000000)]) C dX6_toSling_201 rfl (nI_1 p) trivial rfl ?_
        refine r_goto (pc := 204) (tgt := 100) C dX6_toSling_204 (by decide) ?_
        show g 0 0 (wM (up2 M 6 (tsA M A jc p))) 100 [some (.ref 0), some (.int (nI jc)), some (.int (nI ia)), some (.int (nI ib)), some (.int x), some (.int are), some (.int least), some (.int best), some (.int (nI (p + 1))), some (.int 1000000)] []
        refine r_drop (lv' := [some (.ref 0), some (.int (nI jc)), some (.int (nI ia)), some (.int (nI ib)), some (.int x), some (.int are), some (.int least), some (.int best), some (.int (nI (p + 1))), none]) C ⟨rfl, rfl, rfl, rfl, rfl, rfl, rfl, rfl, rfl, trivial⟩ ?_
        show g 0 0 (wM (up2 M 6 (tsA M A jc p))) 100 [some (.ref 0), some (.int (nI jc)), some (.int (nI ia)), some (.int (nI ib)), some (.int x), some (.int are), some (.int least), some (.int best), some (.int (nI (p + 1))), none] []
        have hB : tsB M z jc ia ib p A = 1000000 := if_pos h_150
        have hE2 := hE
        rw [tsM, hB, if_pos h_173] at hE2
        exact ih (p + 1) _ _ _ (by omega) hE2
      · skip
        refine r_iload (pc := 176) C dX6_toSling_176 rfl ?_
        refine r_goto (pc := 178) (tgt := 183) C dX6_toSling_178 (by decide) ?_
        refine r_istore (pc := 183) (lv' := [some (.ref 0), some (.int (nI jc)), some (.int (nI ia)), some (.int (nI ib)), some (.int x), some (.int are), some (.int least), some (.int (nI p)), some (.int (nI p)), some (.int 1000000)]) C dX6_toSling_183 (Nat.le_of_ble_eq_true rfl) trivial rfl ?_
        refine r_iload (pc := 185) C dX6_toSling_185 rfl ?_
        refine r_iload (pc := 187) C dX6_toSling_187 rfl ?_
        refine r_icmp_ge (pc := 189) (tgt := 197) C dX6_toSling_189 (by decide) (fun h => absurd h h_173) (fun _ => ?_)
        refine r_iload (pc := 192) C dX6_toSling_192 rfl ?_
        refine r_goto (pc := 194) (tgt := 199) C dX6_toSling_194 (by decide) ?_
        refine r_istore (pc := 199) (lv' := [some (.ref 0), some (.int (nI jc)), some (.int (nI ia)), some (.int (nI ib)), some (.int x), some (.int are), some (.int 1000000), some (.int (nI p)), some (.int (nI p)), some (.int 1000000)]) C dX6_toSling_199 (Nat.le_of_ble_eq_true rfl) trivial rfl ?_
        refine r_iinc (pc := 201) (v := nI (p + 1)) (lv' := [some (.ref 0), some (.int (nI jc)), some (.int (nI ia)), some (.int (nI ib)), some (.int x), some (.int are), some (.int 1000000), some (.int (nI p)), some (.int (nI (p + 1))), some (.int 1000000)]) C dX6_toSling_201 rfl (nI_1 p) trivial rfl ?_
        refine r_goto (pc := 204) (tgt := 100) C dX6_toSling_204 (by decide) ?_
        show g 0 0 (wM (up2 M 6 (tsA M A jc p))) 100 [some (.ref 0), some (.int (nI jc)), some (.int (nI ia)), some (.int (nI ib)), some (.int x), some (.int are), some (.int 1000000), some (.int (nI p)), some (.int (nI (p + 1))), some (.int 1000000)] []
        refine r_drop (lv' := [some (.ref 0), some (.int (nI jc)), some (.int (nI ia)), some (.int (nI ib)), some (.int x), some (.int are), some (.int 1000000), some (.int (nI p)), some (.int (nI (p + 1))), none]) C ⟨rfl, rfl, rfl, rfl, rfl, rfl, rfl, rfl, rfl, trivial⟩ ?_
        show g 0 0 (wM (up2 M 6 (tsA M A jc p))) 100 [some (.ref 0), some (.int (nI jc)), some (.int (nI ia)), some (.int (nI ib)), some (.int x), some (.int are), some (.int 1000000), some (.int (nI p)), some (.int (nI (p + 1))), none] []
        have hB : tsB M z jc ia ib p A = 1000000 := if_pos h_150
        have hE2 := hE
        rw [tsM, hB, if_neg h_173] at hE2
        exact ih (p + 1) _ _ _ (by omega) hE2
    · skip
      refine r_aload_n (pc := 153) C dX6_toSling_153 rfl rfl ?_
      refine r_getfield (pc := 154) (v := .ref 6) C xf_X6_25 dX6_toSling_154 rfl rfl ?_
      refine r_iload_n (pc := 157) C dX6_toSling_157 rfl rfl ?_
      refine r_iload_n (pc := 158) C dX6_toSling_158 rfl rfl ?_
      refine r_callSD (pc := 159) (As := [.ref 6, .int (nI ia), .int (nI ib)]) (st := []) (θ2 := wM (up2 M 6 (tsA M A jc p))) (r2 := some (.int (soonT (vw (tsA M A jc p)) z (nI ia) (nI ib)))) C [6] (c_X6_soonestT (tsA M A jc p) (nI ib) (nI ia) (okT hM (t := tsA M A jc p) (fun k hk => tsA_k (by omega) (by omega) (by omega))).2.1 z (okT hM (t := tsA M A jc p) (fun k hk => tsA_k (by omega) (by omega) (by omega))).1 hM.2.1 (okT hM (t := tsA M A jc p) (fun k hk => tsA_k (by omega) (by omega) (by omega))).2.2) xm_X6_soonestOf xk_X6_195 dX6_toSling_159 rfl (by decide) rfl rfl rfl (Nat.le_of_ble_eq_true rfl) ⟨Nat.le_of_ble_eq_true rfl, Nat.le_of_ble_eq_true rfl⟩ ⟨rfl, rfl⟩ ⟨Nat.le_of_ble_eq_true rfl, Nat.le_of_ble_eq_true rfl⟩ rfl (Eq.trans (b := 1) rfl rfl) rfl rfl ?_
      show g 0 0 (wM (up2 M 6 (tsA M A jc p))) 162 [some (.ref 0), some (.int (nI jc)), some (.int (nI ia)), some (.int (nI ib)), some (.int x), some (.int are), some (.int least), some (.int best), some (.int (nI p)), none] [.int (soonT (vw (tsA M A jc p)) z (nI ia) (nI ib))]
      refine r_goto (pc := 162) (tgt := 167) C dX6_toSling_162 (by decide) ?_
      refine r_istore (pc := 167) (lv' := [some (.ref 0), some (.int (nI jc)), some (.int (nI ia)), some (.int (nI ib)), some (.int x), some (.int are), some (.int least), some (.int best), some (.int (nI p)), some (.int (soonT (vw (tsA M A jc p)) z (nI ia) (nI ib)))]) C dX6_toSling_167 (Nat.le_of_ble_eq_true rfl) trivial rfl ?_
      refine r_iload (pc := 169) C dX6_toSling_169 rfl ?_
      refine r_iload (pc := 171) C dX6_toSling_171 rfl ?_
      refine r_icmp_ge (pc := 173) (tgt := 181) C dX6_toSling_173 (by decide) (fun h_173 => ?_) (fun h_173 => ?_)
      · skip
        refine r_iload (pc := 181) C dX6_toSling_181 rfl ?_
        refine r_istore (pc := 183) (lv' := [some (.ref 0), some (.int (nI jc)), some (.int (nI ia)), some (.int (nI ib)), some (.int x), some (.int are), some (.int least), some (.int best), some (.int (nI p)), some (.int (soonT (vw (tsA M A jc p)) z (nI ia) (nI ib)))]) C dX6_toSling_183 (Nat.le_of_ble_eq_true rfl) trivial rfl ?_
        refine r_iload (pc := 185) C dX6_toSling_185 rfl ?_
        refine r_iload (pc := 187) C dX6_toSling_187 rfl ?_
        refine r_icmp_ge (pc := 189) (tgt := 197) C dX6_toSling_189 (by decide) (fun _ => ?_) (fun h => absurd h_173 h)
        refine r_iload (pc := 197) C dX6_toSling_197 rfl ?_
        refine r_istore (pc := 199) (lv' := [some (.ref 0), some (.int (nI jc)), some (.int (nI ia)), some (.int (nI ib)), some (.int x), some (.int are), some (.int least), some (.int best), some (.int (nI p)), some (.int (soonT (vw (tsA M A jc p)) z (nI ia) (nI ib)))]) C dX6_toSling_199 (Nat.le_of_ble_eq_true rfl) trivial rfl ?_
        refine r_iinc (pc := 201) (v := nI (p + 1)) (lv' := [some (.ref 0), some (.int (nI jc)), some (.int (nI ia)), some (.int (nI ib)), some (.int x), some (.int are), some (.int least), some (.int best), some (.int (nI (p + 1))), some (.int (soonT (vw (tsA M A jc p)) z (nI ia) (nI ib)))]) C dX6_toSling_201 rfl (nI_1 p) trivial rfl ?_
        refine r_goto (pc := 204) (tgt := 100) C dX6_toSling_204 (by decide) ?_
        show g 0 0 (wM (up2 M 6 (tsA M A jc p))) 100 [some (.ref 0), some (.int (nI jc)), some (.int (nI ia)), some (.int (nI ib)), some (.int x), some (.int are), some (.int least), some (.int best), some (.int (nI (p + 1))), some (.int (soonT (vw (tsA M A jc p)) z (nI ia) (nI ib)))] []
        refine r_drop (lv' := [some (.ref 0), some (.int (nI jc)), some (.int (nI ia)), some (.int (nI ib)), some (.int x), some (.int are), some (.int least), some (.int best), some (.int (nI (p + 1))), none]) C ⟨rfl, rfl, rfl, rfl, rfl, rfl, rfl, rfl, rfl, trivial⟩ ?_
        show g 0 0 (wM (up2 M 6 (tsA M A jc p))) 100 [some (.ref 0), some (.int (nI jc)), some (.int (nI ia)), some (.int (nI ib)), some (.int x), some (.int are), some (.int least), some (.int best), some (.int (nI (p + 1))), none] []
        have hB : tsB M z jc ia ib p A = soonT (vw (tsA M A jc p)) z (nI ia) (nI ib) := if_neg h_150
        have hE2 := hE
        rw [tsM, hB, if_pos h_173] at hE2
        exact ih (p + 1) _ _ _ (by omega) hE2
      · skip
        refine r_iload (pc := 176) C dX6_toSling_176 rfl ?_
        refine r_goto (pc := 178) (tgt := 183) C dX6_toSling_178 (by decide) ?_
        refine r_istore (pc := 183) (lv' := [some (.ref 0), some (.int (nI jc)), some (.int (nI ia)), some (.int (nI ib)), some (.int x), some (.int are), some (.int least), some (.int (nI p)), some (.int (nI p)), some (.int (soonT (vw (tsA M A jc p)) z (nI ia) (nI ib)))]) C dX6_toSling_183 (Nat.le_of_ble_eq_true rfl) trivial rfl ?_
        refine r_iload (pc := 185) C dX6_toSling_185 rfl ?_
        refine r_iload (pc := 187) C dX6_toSling_187 rfl ?_
        refine r_icmp_ge (pc := 189) (tgt := 197) C dX6_toSling_189 (by decide) (fun h => absurd h h_173) (fun _ => ?_)
        refine r_iload (pc := 192) C dX6_toSling_192 rfl ?_
        refine r_goto (pc := 194) (tgt := 199) C dX6_toSling_194 (by decide) ?_
        refine r_istore (pc := 199) (lv' := [some (.ref 0), some (.int (nI jc)), some (.int (nI ia)), some (.int (nI ib)), some (.int x), some (.int are), some (.int (soonT (vw (tsA M A jc p)) z (nI ia) (nI ib))), some (.int (nI p)), some (.int (nI p)), some (.int (soonT (vw (tsA M A jc p)) z (nI ia) (nI ib)))]) C dX6_toSling_199 (Nat.le_of_ble_eq_true rfl) trivial rfl ?_
        refine r_iinc (pc := 201) (v := nI (p + 1)) (lv' := [some (.ref 0), some (.int (nI jc)), some (.int (nI ia)), some (.int (nI ib)), some (.int x), some (.int are), some (.int (soonT (vw (tsA M A jc p)) z (nI ia) (nI ib))), some (.int (nI p)), some (.int (nI (p + 1))), some (.int (soonT (vw (tsA M A jc p)) z (nI ia) (nI ib)))]) C dX6_toSling_201 rfl (nI_1 p) trivial rfl ?_
        refine r_goto (pc := 204) (tgt := 100) C dX6_toSling_204 (by decide) ?_
        show g 0 0 (wM (up2 M 6 (tsA M A jc p))) 100 [some (.ref 0), some (.int (nI jc)), some (.int (nI ia)), some (.int (nI ib)), some (.int x), some (.int are), some (.int (soonT (vw (tsA M A jc p)) z (nI ia) (nI ib))), some (.int (nI p)), some (.int (nI (p + 1))), some (.int (soonT (vw (tsA M A jc p)) z (nI ia) (nI ib)))] []
        refine r_drop (lv' := [some (.ref 0), some (.int (nI jc)), some (.int (nI ia)), some (.int (nI ib)), some (.int x), some (.int are), some (.int (soonT (vw (tsA M A jc p)) z (nI ia) (nI ib))), some (.int (nI p)), some (.int (nI (p + 1))), none]) C ⟨rfl, rfl, rfl, rfl, rfl, rfl, rfl, rfl, rfl, trivial⟩ ?_
        show g 0 0 (wM (up2 M 6 (tsA M A jc p))) 100 [some (.ref 0), some (.int (nI jc)), some (.int (nI ia)), some (.int (nI ib)), some (.int x), some (.int are), some (.int (soonT (vw (tsA M A jc p)) z (nI ia) (nI ib))), some (.int (nI p)), some (.int (nI (p + 1))), none] []
        have hB : tsB M z jc ia ib p A = soonT (vw (tsA M A jc p)) z (nI ia) (nI ib) := if_neg h_150
        have hE2 := hE
        rw [tsM, hB, if_neg h_173] at hE2
        exact ih (p + 1) _ _ _ (by omega) hE2
noncomputable def slingToM (M : Nat → Nat → Int32) (z : Nat) (c a b x : Int32) : Int32 × (Nat → Nat → Int32) := (if (inI c 0 (M 4 0 - 1)) = true then (if (inI a 0 (M 4 0 - 1)) = true then (if (inI b 0 (M 4 0 - 1)) = true then (if a = b then ((-1000001), M) else (if a = c then ((-1000001), M) else (if b = c then ((-1000001), M) else (if (inI x 0 1) = true then (toRM (tsMT M z (ix c) (ix a) (ix b) 144 0 (soonT (vw (M 4)) z a b) ((12 * (M 4 (10 + (ix c)))) + (M 4 (16 + (ix c)))) (M 6)).1 (tsMT M z (ix c) (ix a) (ix b) 144 0 (soonT (vw (M 4)) z a b) ((12 * (M 4 (10 + (ix c)))) + (M 4 (16 + (ix c)))) (M 6)).2.1 x, (up2 M 6 (tsMT M z (ix c) (ix a) (ix b) 144 0 (soonT (vw (M 4)) z a b) ((12 * (M 4 (10 + (ix c)))) + (M 4 (16 + (ix c)))) (M 6)).2.2)) else ((-1000001), M))))) else ((-1000001), M)) else ((-1000001), M)) else ((-1000001), M))
set_option maxHeartbeats 4000000 in
set_option maxRecDepth 100000 in
theorem c_X6_toSling (M : Nat → Nat → Int32) (c a b x : Int32) (z : Nat) (hM : okM M z) : MetA yX6_toSling (.code yX6_toSling cX6_toSling 10 (some .int) :: TT) rmX6_toSling [.ref 0, .int c, .int a, .int b, .int x] (wM M) (fun vr wr => vr = some (.int (slingToM M z c a b x).1) ∧ wr = wM (slingToM M z c a b x).2) 0 0 := by
  refine MetA.of_i (by decide) (fun _ => Nat.le_of_ble_eq_true rfl) (Nat.le_of_ble_eq_true rfl) (fun g C E => ?_)
  replace C : Sem cX6_toSling RX6 "toSling" 10 rmX6_toSling g := C
  show g 0 0 (wM M) 0 [some (.ref 0), some (.int c), some (.int a), some (.int b), some (.int x), none, none, none, none, none] []
  refine r_aload_n (pc := 0) C dX6_toSling_0 rfl rfl ?_
  refine r_iload_n (pc := 1) C dX6_toSling_1 rfl rfl ?_
  refine r_callV0 (pc := 2) (As := [.int c]) (st := []) (θ' := wM M) C (c_X6_isHammock M c) xm_X6_isHammock xk_X6_181 dX6_toSling_2 rfl rfl rfl rfl (Nat.le_of_ble_eq_true rfl) ⟨Nat.le_of_ble_eq_true rfl, Nat.le_of_ble_eq_true rfl⟩ ⟨rfl, rfl⟩ ⟨Nat.le_of_ble_eq_true rfl, Nat.le_of_ble_eq_true rfl⟩ rfl (Eq.trans (b := 14) rfl rfl) ?_
  show g 0 0 (wM M) 5 [some (.ref 0), some (.int c), some (.int a), some (.int b), some (.int x), none, none, none, none, none] [.int (bB (inI c 0 (M 4 0 - 1)))]
  refine r_if_eq (pc := 5) (tgt := 28) C dX6_toSling_5 (by decide) (fun h_5 => ?_) (fun h_5 => ?_)
  · replace h_5 := bB_f h_5
    refine r_iconst (pc := 28) (v := 0) C dX6_toSling_28 (by decide) ?_
    refine r_istore (pc := 29) (lv' := [some (.ref 0), some (.int c), some (.int a), some (.int b), some (.int x), some (.int 0), none, none, none, none]) C dX6_toSling_29 (Nat.le_of_ble_eq_true rfl) trivial rfl ?_
    refine r_iload (pc := 31) C dX6_toSling_31 rfl ?_
    refine r_if_eq (pc := 33) (tgt := 59) C dX6_toSling_33 (by decide) (fun _ => ?_) (fun h => absurd (by decide) h)
    refine r_ldc (pc := 59) (v := (-1000001)) C dX6_toSling_59 tw_668 ?_
    show g 0 0 (wM M) 61 [some (.ref 0), some (.int c), some (.int a), some (.int b), some (.int x), some (.int 0), none, none, none, none] [.int (-1000001)]
    have hX : slingToM M z c a b x = ((-1000001), M) := by
      unfold slingToM
      rw [if_neg (nbt h_5)]
    exact E _ _ _ _ _ _ dX6_toSling_61 (Nat.le_refl _) (Nat.le_refl _) rfl ⟨by rw [hX], by rw [hX]⟩
  · replace h_5 := bB_t h_5
    obtain ⟨jc, hjc, rfl⟩ := in_ex hM.1 hM.2.1 h_5
    have hjc6 : jc < 6 := by have := hM.2.1; omega
    have hz6 := hM.2.1
    refine r_aload_n (pc := 8) C dX6_toSling_8 rfl rfl ?_
    refine r_iload_n (pc := 9) C dX6_toSling_9 rfl rfl ?_
    refine r_callV0 (pc := 10) (As := [.int a]) (st := []) (θ' := wM M) C (c_X6_isHammock M a) xm_X6_isHammock xk_X6_181 dX6_toSling_10 rfl rfl rfl rfl (Nat.le_of_ble_eq_true rfl) ⟨Nat.le_of_ble_eq_true rfl, Nat.le_of_ble_eq_true rfl⟩ ⟨rfl, rfl⟩ ⟨Nat.le_of_ble_eq_true rfl, Nat.le_of_ble_eq_true rfl⟩ rfl (Eq.trans (b := 14) rfl rfl) ?_
    show g 0 0 (wM M) 13 [some (.ref 0), some (.int (nI jc)), some (.int a), some (.int b), some (.int x), none, none, none, none, none] [.int (bB (inI a 0 (M 4 0 - 1)))]
    refine r_if_eq (pc := 13) (tgt := 28) C dX6_toSling_13 (by decide) (fun h_13 => ?_) (fun h_13 => ?_)
    · replace h_13 := bB_f h_13
      refine r_iconst (pc := 28) (v := 0) C dX6_toSling_28 (by decide) ?_
      refine r_istore (pc := 29) (lv' := [some (.ref 0), some (.int (nI jc)), some (.int a), some (.int b), some (.int x), some (.int 0), none, none, none, none]) C dX6_toSling_29 (Nat.le_of_ble_eq_true rfl) trivial rfl ?_
      refine r_iload (pc := 31) C dX6_toSling_31 rfl ?_
      refine r_if_eq (pc := 33) (tgt := 59) C dX6_toSling_33 (by decide) (fun _ => ?_) (fun h => absurd (by decide) h)
      refine r_ldc (pc := 59) (v := (-1000001)) C dX6_toSling_59 tw_668 ?_
      show g 0 0 (wM M) 61 [some (.ref 0), some (.int (nI jc)), some (.int a), some (.int b), some (.int x), some (.int 0), none, none, none, none] [.int (-1000001)]
      have hX : slingToM M z (nI jc) a b x = ((-1000001), M) := by
        unfold slingToM
        (try rw [ix_nI (show jc < 2 ^ 31 by omega)])
        rw [if_pos h_5, if_neg (nbt h_13)]
      exact E _ _ _ _ _ _ dX6_toSling_61 (Nat.le_refl _) (Nat.le_refl _) rfl ⟨by rw [hX], by rw [hX]⟩
    · replace h_13 := bB_t h_13
      obtain ⟨ia, hia, rfl⟩ := in_ex hM.1 hM.2.1 h_13
      have hia6 : ia < 6 := by have := hM.2.1; omega
      have hz6 := hM.2.1
      refine r_aload_n (pc := 16) C dX6_toSling_16 rfl rfl ?_
      refine r_iload_n (pc := 17) C dX6_toSling_17 rfl rfl ?_
      refine r_callV0 (pc := 18) (As := [.int b]) (st := []) (θ' := wM M) C (c_X6_isHammock M b) xm_X6_isHammock xk_X6_181 dX6_toSling_18 rfl rfl rfl rfl (Nat.le_of_ble_eq_true rfl) ⟨Nat.le_of_ble_eq_true rfl, Nat.le_of_ble_eq_true rfl⟩ ⟨rfl, rfl⟩ ⟨Nat.le_of_ble_eq_true rfl, Nat.le_of_ble_eq_true rfl⟩ rfl (Eq.trans (b := 14) rfl rfl) ?_
      show g 0 0 (wM M) 21 [some (.ref 0), some (.int (nI jc)), some (.int (nI ia)), some (.int b), some (.int x), none, none, none, none, none] [.int (bB (inI b 0 (M 4 0 - 1)))]
      refine r_if_eq (pc := 21) (tgt := 28) C dX6_toSling_21 (by decide) (fun h_21 => ?_) (fun h_21 => ?_)
      · replace h_21 := bB_f h_21
        refine r_iconst (pc := 28) (v := 0) C dX6_toSling_28 (by decide) ?_
        refine r_istore (pc := 29) (lv' := [some (.ref 0), some (.int (nI jc)), some (.int (nI ia)), some (.int b), some (.int x), some (.int 0), none, none, none, none]) C dX6_toSling_29 (Nat.le_of_ble_eq_true rfl) trivial rfl ?_
        refine r_iload (pc := 31) C dX6_toSling_31 rfl ?_
        refine r_if_eq (pc := 33) (tgt := 59) C dX6_toSling_33 (by decide) (fun _ => ?_) (fun h => absurd (by decide) h)
        refine r_ldc (pc := 59) (v := (-1000001)) C dX6_toSling_59 tw_668 ?_
        show g 0 0 (wM M) 61 [some (.ref 0), some (.int (nI jc)), some (.int (nI ia)), some (.int b), some (.int x), some (.int 0), none, none, none, none] [.int (-1000001)]
        have hX : slingToM M z (nI jc) (nI ia) b x = ((-1000001), M) := by
          unfold slingToM
          (try rw [ix_nI (show jc < 2 ^ 31 by omega)])
          (try rw [ix_nI (show ia < 2 ^ 31 by omega)])
          rw [if_pos h_5, if_pos h_13, if_neg (nbt h_21)]
        exact E _ _ _ _ _ _ dX6_toSling_61 (Nat.le_refl _) (Nat.le_refl _) rfl ⟨by rw [hX], by rw [hX]⟩
      · replace h_21 := bB_t h_21
        obtain ⟨ib, hib, rfl⟩ := in_ex hM.1 hM.2.1 h_21
        have hib6 : ib < 6 := by have := hM.2.1; omega
        have hz6 := hM.2.1
        refine r_iconst (pc := 24) (v := 1) C dX6_toSling_24 (by decide) ?_
        refine r_goto (pc := 25) (tgt := 29) C dX6_toSling_25 (by decide) ?_
        refine r_istore (pc := 29) (lv' := [some (.ref 0), some (.int (nI jc)), some (.int (nI ia)), some (.int (nI ib)), some (.int x), some (.int 1), none, none, none, none]) C dX6_toSling_29 (Nat.le_of_ble_eq_true rfl) trivial rfl ?_
        refine r_iload (pc := 31) C dX6_toSling_31 rfl ?_
        refine r_if_eq (pc := 33) (tgt := 59) C dX6_toSling_33 (by decide) (fun h => absurd h (by decide)) (fun _ => ?_)
        refine r_iload_n (pc := 36) C dX6_toSling_36 rfl rfl ?_
        refine r_iload_n (pc := 37) C dX6_toSling_37 rfl rfl ?_
        refine r_icmp_eq (pc := 38) (tgt := 59) C dX6_toSling_38 (by decide) (fun h_38 => ?_) (fun h_38 => ?_)
        · skip
          refine r_ldc (pc := 59) (v := (-1000001)) C dX6_toSling_59 tw_668 ?_
          show g 0 0 (wM M) 61 [some (.ref 0), some (.int (nI jc)), some (.int (nI ia)), some (.int (nI ib)), some (.int x), some (.int 1), none, none, none, none] [.int (-1000001)]
          have hX : slingToM M z (nI jc) (nI ia) (nI ib) x = ((-1000001), M) := by
            unfold slingToM
            (try rw [ix_nI (show jc < 2 ^ 31 by omega)])
            (try rw [ix_nI (show ia < 2 ^ 31 by omega)])
            (try rw [ix_nI (show ib < 2 ^ 31 by omega)])
            rw [if_pos h_5, if_pos h_13, if_pos h_21, if_pos h_38]
          exact E _ _ _ _ _ _ dX6_toSling_61 (Nat.le_refl _) (Nat.le_refl _) rfl ⟨by rw [hX], by rw [hX]⟩
        · skip
          refine r_iload_n (pc := 41) C dX6_toSling_41 rfl rfl ?_
          refine r_iload_n (pc := 42) C dX6_toSling_42 rfl rfl ?_
          refine r_icmp_eq (pc := 43) (tgt := 59) C dX6_toSling_43 (by decide) (fun h_43 => ?_) (fun h_43 => ?_)
          · skip
            refine r_ldc (pc := 59) (v := (-1000001)) C dX6_toSling_59 tw_668 ?_
            show g 0 0 (wM M) 61 [some (.ref 0), some (.int (nI jc)), some (.int (nI ia)), some (.int (nI ib)), some (.int x), some (.int 1), none, none, none, none] [.int (-1000001)]
            have hX : slingToM M z (nI jc) (nI ia) (nI ib) x = ((-1000001), M) := by
              unfold slingToM
              (try rw [ix_nI (show jc < 2 ^ 31 by omega)])
              (try rw [ix_nI (show ia < 2 ^ 31 by omega)])
              (try rw [ix_nI (show ib < 2 ^ 31 by omega)])
              rw [if_pos h_5, if_pos h_13, if_pos h_21, if_neg h_38, if_pos h_43]
            exact E _ _ _ _ _ _ dX6_toSling_61 (Nat.le_refl _) (Nat.le_refl _) rfl ⟨by rw [hX], by rw [hX]⟩
          · skip
            refine r_iload_n (pc := 46) C dX6_toSling_46 rfl rfl ?_
            refine r_iload_n (pc := 47) C dX6_toSling_47 rfl rfl ?_
            refine r_icmp_eq (pc := 48) (tgt := 59) C dX6_toSling_48 (by decide) (fun h_48 => ?_) (fun h_48 => ?_)
            · skip
              refine r_ldc (pc := 59) (v := (-1000001)) C dX6_toSling_59 tw_668 ?_
              show g 0 0 (wM M) 61 [some (.ref 0), some (.int (nI jc)), some (.int (nI ia)), some (.int (nI ib)), some (.int x), some (.int 1), none, none, none, none] [.int (-1000001)]
              have hX : slingToM M z (nI jc) (nI ia) (nI ib) x = ((-1000001), M) := by
                unfold slingToM
                (try rw [ix_nI (show jc < 2 ^ 31 by omega)])
                (try rw [ix_nI (show ia < 2 ^ 31 by omega)])
                (try rw [ix_nI (show ib < 2 ^ 31 by omega)])
                rw [if_pos h_5, if_pos h_13, if_pos h_21, if_neg h_38, if_neg h_43, if_pos h_48]
              exact E _ _ _ _ _ _ dX6_toSling_61 (Nat.le_refl _) (Nat.le_refl _) rfl ⟨by rw [hX], by rw [hX]⟩
            · skip
              refine r_iload (pc := 51) C dX6_toSling_51 rfl ?_
              refine r_callS0 (pc := 53) (As := [.int x]) (st := []) C (c_X6_isTwo x) xm_X6_isTwo xk_X6_188 dX6_toSling_53 (fun _ => rfl) (fun _ => rfl) rfl rfl (Nat.le_of_ble_eq_true rfl) ⟨Nat.le_of_ble_eq_true rfl, Nat.le_of_ble_eq_true rfl⟩ ⟨rfl, rfl⟩ ⟨Nat.le_of_ble_eq_true rfl, Nat.le_of_ble_eq_true rfl⟩ rfl ?_
              show g 0 0 (wM M) 56 [some (.ref 0), some (.int (nI jc)), some (.int (nI ia)), some (.int (nI ib)), some (.int x), some (.int 1), none, none, none, none] [.int (bB (inI x 0 1))]
              refine r_if_ne (pc := 56) (tgt := 62) C dX6_toSling_56 (by decide) (fun h_56 => ?_) (fun h_56 => ?_)
              · replace h_56 := bB_t h_56
                refine r_aload_n (pc := 62) C dX6_toSling_62 rfl rfl ?_
                refine r_getfield (pc := 63) (v := .ref 4) C xf_X6_19 dX6_toSling_63 rfl rfl ?_
                refine r_iload_n (pc := 66) C dX6_toSling_66 rfl rfl ?_
                refine r_iload_n (pc := 67) C dX6_toSling_67 rfl rfl ?_
                refine r_callSD (pc := 68) (As := [.ref 4, .int (nI ia), .int (nI ib)]) (st := []) (θ2 := wM M) (r2 := some (.int (soonT (vw (M 4)) z (nI ia) (nI ib)))) C [4] (c_X6_soonestT (M 4) (nI ib) (nI ia) hM.2.2.1 z hM.1 hM.2.1 hM.2.2.2) xm_X6_soonestOf xk_X6_195 dX6_toSling_68 rfl (by decide) rfl rfl rfl (Nat.le_of_ble_eq_true rfl) ⟨Nat.le_of_ble_eq_true rfl, Nat.le_of_ble_eq_true rfl⟩ ⟨rfl, rfl⟩ ⟨Nat.le_of_ble_eq_true rfl, Nat.le_of_ble_eq_true rfl⟩ rfl (Eq.trans (b := 1) rfl rfl) rfl rfl ?_
                show g 0 0 (wM M) 71 [some (.ref 0), some (.int (nI jc)), some (.int (nI ia)), some (.int (nI ib)), some (.int x), some (.int 1), none, none, none, none] [.int (soonT (vw (M 4)) z (nI ia) (nI ib))]
                refine r_istore (pc := 71) (lv' := [some (.ref 0), some (.int (nI jc)), some (.int (nI ia)), some (.int (nI ib)), some (.int x), some (.int 1), some (.int (soonT (vw (M 4)) z (nI ia) (nI ib))), none, none, none]) C dX6_toSling_71 (Nat.le_of_ble_eq_true rfl) trivial rfl ?_
                refine r_bipush (pc := 73) (v := 12) C dX6_toSling_73 (by decide) ?_
                refine r_aload_n (pc := 75) C dX6_toSling_75 rfl rfl ?_
                refine r_getfield (pc := 76) (v := .ref 4) C xf_X6_19 dX6_toSling_76 rfl rfl ?_
                refine r_bipush (pc := 79) (v := 10) C dX6_toSling_79 (by decide) ?_
                refine r_iload_n (pc := 81) C dX6_toSling_81 rfl rfl ?_
                refine r_iadd (pc := 82) C dX6_toSling_82 ?_
                refine r_iaload (pc := 83) (v := M 4 (10 + jc)) C (10 + jc) dX6_toSling_83 rfl (nI_sum (m := 10) (n := jc) rfl rfl) (by first | assumption | omega) rfl ?_
                refine r_imul (pc := 84) C dX6_toSling_84 ?_
                refine r_aload_n (pc := 85) C dX6_toSling_85 rfl rfl ?_
                refine r_getfield (pc := 86) (v := .ref 4) C xf_X6_19 dX6_toSling_86 rfl rfl ?_
                refine r_bipush (pc := 89) (v := 16) C dX6_toSling_89 (by decide) ?_
                refine r_iload_n (pc := 91) C dX6_toSling_91 rfl rfl ?_
                refine r_iadd (pc := 92) C dX6_toSling_92 ?_
                refine r_iaload (pc := 93) (v := M 4 (16 + jc)) C (16 + jc) dX6_toSling_93 rfl (nI_sum (m := 16) (n := jc) rfl rfl) (by first | assumption | omega) rfl ?_
                refine r_iadd (pc := 94) C dX6_toSling_94 ?_
                refine r_istore (pc := 95) (lv' := [some (.ref 0), some (.int (nI jc)), some (.int (nI ia)), some (.int (nI ib)), some (.int x), some (.int 1), some (.int (soonT (vw (M 4)) z (nI ia) (nI ib))), some (.int ((12 * (M 4 (10 + jc))) + (M 4 (16 + jc)))), none, none]) C dX6_toSling_95 (Nat.le_of_ble_eq_true rfl) trivial rfl ?_
                refine r_iconst (pc := 97) (v := 0) C dX6_toSling_97 (by decide) ?_
                refine r_istore (pc := 98) (lv' := [some (.ref 0), some (.int (nI jc)), some (.int (nI ia)), some (.int (nI ib)), some (.int x), some (.int 1), some (.int (soonT (vw (M 4)) z (nI ia) (nI ib))), some (.int ((12 * (M 4 (10 + jc))) + (M 4 (16 + jc)))), some (.int 0), none]) C dX6_toSling_98 (Nat.le_of_ble_eq_true rfl) trivial rfl ?_
                show g 0 0 (wM M) 100 [some (.ref 0), some (.int (nI jc)), some (.int (nI ia)), some (.int (nI ib)), some (.int x), some (.int 1), some (.int (soonT (vw (M 4)) z (nI ia) (nI ib))), some (.int ((12 * (M 4 (10 + jc))) + (M 4 (16 + jc)))), some (.int 0), none] []
                have hX : slingToM M z (nI jc) (nI ia) (nI ib) x = (toRM (tsMT M z jc ia ib 144 0 (soonT (vw (M 4)) z (nI ia) (nI ib)) ((12 * (M 4 (10 + jc))) + (M 4 (16 + jc))) (M 6)).1 (tsMT M z jc ia ib 144 0 (soonT (vw (M 4)) z (nI ia) (nI ib)) ((12 * (M 4 (10 + jc))) + (M 4 (16 + jc))) (M 6)).2.1 x, (up2 M 6 (tsMT M z jc ia ib 144 0 (soonT (vw (M 4)) z (nI ia) (nI ib)) ((12 * (M 4 (10 + jc))) + (M 4 (16 + jc))) (M 6)).2.2)) := by
                  unfold slingToM
                  (try rw [ix_nI (show jc < 2 ^ 31 by omega)])
                  (try rw [ix_nI (show ia < 2 ^ 31 by omega)])
                  (try rw [ix_nI (show ib < 2 ^ 31 by omega)])
                  rw [if_pos h_5, if_pos h_13, if_pos h_21, if_neg h_38, if_neg h_43, if_neg h_48, if_pos h_56]
                rw [hX] at E
                exact lp_X6_toSling M z hM ia ib jc hia hib hjc x (soonT (vw (M 4)) z (nI ia) (nI ib)) ((12 * (M 4 (10 + jc))) + (M 4 (16 + jc))) 1 C E 144 0 _ _ (M 6) (by omega) (by rw [tsMT_eq])
              · replace h_56 := bB_f h_56
                refine r_ldc (pc := 59) (v := (-1000001)) C dX6_toSling_59 tw_668 ?_
                show g 0 0 (wM M) 61 [some (.ref 0), some (.int (nI jc)), some (.int (nI ia)), some (.int (nI ib)), some (.int x), some (.int 1), none, none, none, none] [.int (-1000001)]
                have hX : slingToM M z (nI jc) (nI ia) (nI ib) x = ((-1000001), M) := by
                  unfold slingToM
                  (try rw [ix_nI (show jc < 2 ^ 31 by omega)])
                  (try rw [ix_nI (show ia < 2 ^ 31 by omega)])
                  (try rw [ix_nI (show ib < 2 ^ 31 by omega)])
                  rw [if_pos h_5, if_pos h_13, if_pos h_21, if_neg h_38, if_neg h_43, if_neg h_48, if_neg (nbt h_56)]
                exact E _ _ _ _ _ _ dX6_toSling_61 (Nat.le_refl _) (Nat.le_refl _) rfl ⟨by rw [hX], by rw [hX]⟩
