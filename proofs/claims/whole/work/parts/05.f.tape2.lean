set_option maxHeartbeats 4000000 in
set_option maxRecDepth 100000 in
theorem c_X4_readLaw (b : Nat → Int32) (ln p : Nat) (ft : Int32) (hln : ln ≤ 120) (hp : p ≤ ln) (F : Nat → Nat → Int32) : MetA yX4_readLaw (.code yX4_readLaw cX4_readLaw 2 (some .boolean) :: TT) rmX4_readLaw [.ref 0, .ref 2] (wT 0 (tpS b ln p ft) ++ wF 2 F) (fun vr wr => vr = some (.int (bB (rlS b ln p ft F).1)) ∧ wr = (wT 0 (tpS b ln (rlS b ln p ft F).2.1 (rlS b ln p ft F).2.2.1) ++ wF 2 (rlS b ln p ft F).2.2.2)) 0 0 := by
  refine MetA.of_i (by decide) (fun _ => Nat.le_of_ble_eq_true rfl) (Nat.le_of_ble_eq_true rfl) (fun g C E => ?_)
  replace C : Sem cX4_readLaw RX4 "readLaw" 2 rmX4_readLaw g := C
  show g 0 0 (wT 0 (tpS b ln p ft) ++ wF 2 F) 0 [some (.ref 0), some (.ref 2)] []
  refine r_aload_n (pc := 0) C dX4_readLaw_0 rfl rfl ?_
  refine r_bipush (pc := 1) (v := 116) C dX4_readLaw_1 (by decide) ?_
  refine r_callVD (pc := 3) (b := 0) (As := [.int 116]) (st := []) (θ2 := wT 0 (if rsB b ln p 116 then tpS b ln (p + 1) ft else tpS b ln p 1) ++ wF 2 F) (r2 := some (.int (bB (rsB b ln p 116)))) C [0, 1] (c_X4_readSign b ln p ft hln hp 116) xm_X4_readSign xk_X4_34 dX4_readLaw_3 rfl (by decide) rfl rfl rfl rfl rfl (Nat.le_of_ble_eq_true rfl) ⟨Nat.le_of_ble_eq_true rfl, Nat.le_of_ble_eq_true rfl⟩ ⟨rfl, rfl⟩ ⟨Nat.le_of_ble_eq_true rfl, Nat.le_of_ble_eq_true rfl⟩ rfl (Eq.trans (b := 2) rfl rfl) rfl rfl ?_
  show g 0 0 (wT 0 (if rsB b ln p 116 then tpS b ln (p + 1) ft else tpS b ln p 1) ++ wF 2 F) 6 [some (.ref 0), some (.ref 2)] [.int (bB (rsB b ln p 116))]
  refine r_if_ne (pc := 6) (tgt := 11) C dX4_readLaw_6 (by decide) (fun h_6 => ?_) (fun h_6 => ?_)
  · replace h_6 := bB_t h_6
    rw [h_6, if_pos rfl]
    show g 0 0 (wT 0 (tpS b ln (p + 1) ft) ++ wF 2 F) 11 [some (.ref 0), some (.ref 2)] []
    refine r_aload_n (pc := 11) C dX4_readLaw_11 rfl rfl ?_
    refine r_aload_n (pc := 12) C dX4_readLaw_12 rfl rfl ?_
    refine r_iconst (pc := 13) (v := 0) C dX4_readLaw_13 (by decide) ?_
    refine r_bipush (pc := 14) (v := 40) C dX4_readLaw_14 (by decide) ?_
    refine r_callVD (pc := 16) (b := 0) (As := [.int 0, .int 40]) (st := [.ref 2]) (θ2 := wT 0 (tpS b ln (rnP b ln (p + 1) 0 40) (rnFt b ln (p + 1) 0 40 ft)) ++ wF 2 F) (r2 := some (.int (rnR b ln (p + 1) 0 40))) C [0, 1] (c_X4_readNumber b ln (p + 1) ft hln (rs_le h_6 (by decide)) 0 40) xm_X4_readNumber xk_X4_38 dX4_readLaw_16 rfl (by decide) rfl rfl rfl rfl rfl (Nat.le_of_ble_eq_true rfl) ⟨Nat.le_of_ble_eq_true rfl, Nat.le_of_ble_eq_true rfl⟩ ⟨rfl, rfl⟩ ⟨Nat.le_of_ble_eq_true rfl, Nat.le_of_ble_eq_true rfl⟩ rfl (Eq.trans (b := 2) rfl rfl) rfl rfl ?_
    show g 0 0 (wT 0 (tpS b ln (rnP b ln (p + 1) 0 40) (rnFt b ln (p + 1) 0 40 ft)) ++ wF 2 F) 19 [some (.ref 0), some (.ref 2)] [.int (rnR b ln (p + 1) 0 40), .ref 2]
    refine r_putfield (pc := 19) (θ' := wT 0 (tpS b ln (rnP b ln (p + 1) 0 40) (rnFt b ln (p + 1) 0 40 ft)) ++ wF 2 (up2 F 6 (k1 (rnR b ln (p + 1) 0 40)))) C xf_X4_42 xt_X1_6 dX4_readLaw_19 rfl (Nat.le_of_ble_eq_true rfl) (fun _ => ⟨rfl, rfl⟩) rfl ?_
    refine r_aload_n (pc := 22) C dX4_readLaw_22 rfl rfl ?_
    refine r_getfield (pc := 23) (v := .int (rnR b ln (p + 1) 0 40)) C xf_X4_42 dX4_readLaw_23 rfl rfl ?_
    refine r_if_lt (pc := 26) (tgt := 38) C dX4_readLaw_26 (by decide) (fun h_26 => ?_) (fun h_26 => ?_)
    · skip
      refine r_iconst (pc := 38) (v := 0) C dX4_readLaw_38 (by decide) ?_
      show g 0 0 (wT 0 (tpS b ln (rnP b ln (p + 1) 0 40) (rnFt b ln (p + 1) 0 40 ft)) ++ wF 2 (up2 F 6 (k1 (rnR b ln (p + 1) 0 40)))) 39 [some (.ref 0), some (.ref 2)] [.int 0]
      have hX : rlS b ln p ft F = (false, rnP b ln (p + 1) 0 40, rnFt b ln (p + 1) 0 40 ft, (up2 F 6 (k1 (rnR b ln (p + 1) 0 40)))) := by simp only [rlS_eq, rlS0, h_6, h_26, if_true, if_false, Bool.false_eq_true]
      exact E _ _ _ _ _ _ dX4_readLaw_39 (Nat.le_refl _) (Nat.le_refl _) rfl ⟨by rw [(t4 hX).1]; rfl, by rw [(t4 hX).2.1, (t4 hX).2.2.1, (t4 hX).2.2.2]⟩
    · skip
      refine r_aload_n (pc := 29) C dX4_readLaw_29 rfl rfl ?_
      refine r_bipush (pc := 30) (v := 44) C dX4_readLaw_30 (by decide) ?_
      refine r_callVD (pc := 32) (b := 0) (As := [.int 44]) (st := []) (θ2 := wT 0 (if rsB b ln (rnP b ln (p + 1) 0 40) 44 then tpS b ln (rnP b ln (p + 1) 0 40 + 1) (rnFt b ln (p + 1) 0 40 ft) else tpS b ln (rnP b ln (p + 1) 0 40) 1) ++ wF 2 (up2 F 6 (k1 (rnR b ln (p + 1) 0 40)))) (r2 := some (.int (bB (rsB b ln (rnP b ln (p + 1) 0 40) 44)))) C [0, 1] (c_X4_readSign b ln (rnP b ln (p + 1) 0 40) (rnFt b ln (p + 1) 0 40 ft) hln (rn_le (rs_le h_6 (by decide))) 44) xm_X4_readSign xk_X4_34 dX4_readLaw_32 rfl (by decide) rfl rfl rfl rfl rfl (Nat.le_of_ble_eq_true rfl) ⟨Nat.le_of_ble_eq_true rfl, Nat.le_of_ble_eq_true rfl⟩ ⟨rfl, rfl⟩ ⟨Nat.le_of_ble_eq_true rfl, Nat.le_of_ble_eq_true rfl⟩ rfl (Eq.trans (b := 2) rfl rfl) rfl rfl ?_
      show g 0 0 (wT 0 (if rsB b ln (rnP b ln (p + 1) 0 40) 44 then tpS b ln (rnP b ln (p + 1) 0 40 + 1) (rnFt b ln (p + 1) 0 40 ft) else tpS b ln (rnP b ln (p + 1) 0 40) 1) ++ wF 2 (up2 F 6 (k1 (rnR b ln (p + 1) 0 40)))) 35 [some (.ref 0), some (.ref 2)] [.int (bB (rsB b ln (rnP b ln (p + 1) 0 40) 44))]
      refine r_if_ne (pc := 35) (tgt := 40) C dX4_readLaw_35 (by decide) (fun h_35 => ?_) (fun h_35 => ?_)
      · replace h_35 := bB_t h_35
        rw [h_35, if_pos rfl]
        show g 0 0 (wT 0 (tpS b ln (rnP b ln (p + 1) 0 40 + 1) (rnFt b ln (p + 1) 0 40 ft)) ++ wF 2 (up2 F 6 (k1 (rnR b ln (p + 1) 0 40)))) 40 [some (.ref 0), some (.ref 2)] []
        refine r_aload_n (pc := 40) C dX4_readLaw_40 rfl rfl ?_
        refine r_aload_n (pc := 41) C dX4_readLaw_41 rfl rfl ?_
        refine r_iconst (pc := 42) (v := 0) C dX4_readLaw_42 (by decide) ?_
        refine r_iconst (pc := 43) (v := 5) C dX4_readLaw_43 (by decide) ?_
        refine r_callVD (pc := 44) (b := 0) (As := [.int 0, .int 5]) (st := [.ref 2]) (θ2 := wT 0 (tpS b ln (rnP b ln (rnP b ln (p + 1) 0 40 + 1) 0 5) (rnFt b ln (rnP b ln (p + 1) 0 40 + 1) 0 5 (rnFt b ln (p + 1) 0 40 ft))) ++ wF 2 (up2 F 6 (k1 (rnR b ln (p + 1) 0 40)))) (r2 := some (.int (rnR b ln (rnP b ln (p + 1) 0 40 + 1) 0 5))) C [0, 1] (c_X4_readNumber b ln (rnP b ln (p + 1) 0 40 + 1) (rnFt b ln (p + 1) 0 40 ft) hln (rs_le h_35 (by decide)) 0 5) xm_X4_readNumber xk_X4_38 dX4_readLaw_44 rfl (by decide) rfl rfl rfl rfl rfl (Nat.le_of_ble_eq_true rfl) ⟨Nat.le_of_ble_eq_true rfl, Nat.le_of_ble_eq_true rfl⟩ ⟨rfl, rfl⟩ ⟨Nat.le_of_ble_eq_true rfl, Nat.le_of_ble_eq_true rfl⟩ rfl (Eq.trans (b := 2) rfl rfl) rfl rfl ?_
        show g 0 0 (wT 0 (tpS b ln (rnP b ln (rnP b ln (p + 1) 0 40 + 1) 0 5) (rnFt b ln (rnP b ln (p + 1) 0 40 + 1) 0 5 (rnFt b ln (p + 1) 0 40 ft))) ++ wF 2 (up2 F 6 (k1 (rnR b ln (p + 1) 0 40)))) 47 [some (.ref 0), some (.ref 2)] [.int (rnR b ln (rnP b ln (p + 1) 0 40 + 1) 0 5), .ref 2]
        refine r_putfield (pc := 47) (θ' := wT 0 (tpS b ln (rnP b ln (rnP b ln (p + 1) 0 40 + 1) 0 5) (rnFt b ln (rnP b ln (p + 1) 0 40 + 1) 0 5 (rnFt b ln (p + 1) 0 40 ft))) ++ wF 2 (up2 (up2 F 6 (k1 (rnR b ln (p + 1) 0 40))) 7 (k1 (rnR b ln (rnP b ln (p + 1) 0 40 + 1) 0 5)))) C xf_X4_45 xt_X1_7 dX4_readLaw_47 rfl (Nat.le_of_ble_eq_true rfl) (fun _ => ⟨rfl, rfl⟩) rfl ?_
        refine r_aload_n (pc := 50) C dX4_readLaw_50 rfl rfl ?_
        refine r_getfield (pc := 51) (v := .int (rnR b ln (rnP b ln (p + 1) 0 40 + 1) 0 5)) C xf_X4_45 dX4_readLaw_51 rfl rfl ?_
        refine r_if_lt (pc := 54) (tgt := 70) C dX4_readLaw_54 (by decide) (fun h_54 => ?_) (fun h_54 => ?_)
        · skip
          refine r_iconst (pc := 70) (v := 0) C dX4_readLaw_70 (by decide) ?_
          show g 0 0 (wT 0 (tpS b ln (rnP b ln (rnP b ln (p + 1) 0 40 + 1) 0 5) (rnFt b ln (rnP b ln (p + 1) 0 40 + 1) 0 5 (rnFt b ln (p + 1) 0 40 ft))) ++ wF 2 (up2 (up2 F 6 (k1 (rnR b ln (p + 1) 0 40))) 7 (k1 (rnR b ln (rnP b ln (p + 1) 0 40 + 1) 0 5)))) 71 [some (.ref 0), some (.ref 2)] [.int 0]
          have hX : rlS b ln p ft F = (false, rnP b ln (rnP b ln (p + 1) 0 40 + 1) 0 5, rnFt b ln (rnP b ln (p + 1) 0 40 + 1) 0 5 (rnFt b ln (p + 1) 0 40 ft), (up2 (up2 F 6 (k1 (rnR b ln (p + 1) 0 40))) 7 (k1 (rnR b ln (rnP b ln (p + 1) 0 40 + 1) 0 5)))) := by simp only [rlS_eq, rlS0, h_6, h_26, h_35, h_54, if_true, if_false, Bool.false_eq_true]
          exact E _ _ _ _ _ _ dX4_readLaw_71 (Nat.le_refl _) (Nat.le_refl _) rfl ⟨by rw [(t4 hX).1]; rfl, by rw [(t4 hX).2.1, (t4 hX).2.2.1, (t4 hX).2.2.2]⟩
        · skip
          refine r_aload_n (pc := 57) C dX4_readLaw_57 rfl rfl ?_
          refine r_bipush (pc := 58) (v := 59) C dX4_readLaw_58 (by decide) ?_
          refine r_callVD (pc := 60) (b := 0) (As := [.int 59]) (st := []) (θ2 := wT 0 (if rsB b ln (rnP b ln (rnP b ln (p + 1) 0 40 + 1) 0 5) 59 then tpS b ln (rnP b ln (rnP b ln (p + 1) 0 40 + 1) 0 5 + 1) (rnFt b ln (rnP b ln (p + 1) 0 40 + 1) 0 5 (rnFt b ln (p + 1) 0 40 ft)) else tpS b ln (rnP b ln (rnP b ln (p + 1) 0 40 + 1) 0 5) 1) ++ wF 2 (up2 (up2 F 6 (k1 (rnR b ln (p + 1) 0 40))) 7 (k1 (rnR b ln (rnP b ln (p + 1) 0 40 + 1) 0 5)))) (r2 := some (.int (bB (rsB b ln (rnP b ln (rnP b ln (p + 1) 0 40 + 1) 0 5) 59)))) C [0, 1] (c_X4_readSign b ln (rnP b ln (rnP b ln (p + 1) 0 40 + 1) 0 5) (rnFt b ln (rnP b ln (p + 1) 0 40 + 1) 0 5 (rnFt b ln (p + 1) 0 40 ft)) hln (rn_le (rs_le h_35 (by decide))) 59) xm_X4_readSign xk_X4_34 dX4_readLaw_60 rfl (by decide) rfl rfl rfl rfl rfl (Nat.le_of_ble_eq_true rfl) ⟨Nat.le_of_ble_eq_true rfl, Nat.le_of_ble_eq_true rfl⟩ ⟨rfl, rfl⟩ ⟨Nat.le_of_ble_eq_true rfl, Nat.le_of_ble_eq_true rfl⟩ rfl (Eq.trans (b := 2) rfl rfl) rfl rfl ?_
          show g 0 0 (wT 0 (if rsB b ln (rnP b ln (rnP b ln (p + 1) 0 40 + 1) 0 5) 59 then tpS b ln (rnP b ln (rnP b ln (p + 1) 0 40 + 1) 0 5 + 1) (rnFt b ln (rnP b ln (p + 1) 0 40 + 1) 0 5 (rnFt b ln (p + 1) 0 40 ft)) else tpS b ln (rnP b ln (rnP b ln (p + 1) 0 40 + 1) 0 5) 1) ++ wF 2 (up2 (up2 F 6 (k1 (rnR b ln (p + 1) 0 40))) 7 (k1 (rnR b ln (rnP b ln (p + 1) 0 40 + 1) 0 5)))) 63 [some (.ref 0), some (.ref 2)] [.int (bB (rsB b ln (rnP b ln (rnP b ln (p + 1) 0 40 + 1) 0 5) 59))]
          refine r_if_eq (pc := 63) (tgt := 70) C dX4_readLaw_63 (by decide) (fun h_63 => ?_) (fun h_63 => ?_)
          · replace h_63 := bB_f h_63
            rw [h_63, if_neg Bool.false_ne_true]
            show g 0 0 (wT 0 (tpS b ln (rnP b ln (rnP b ln (p + 1) 0 40 + 1) 0 5) 1) ++ wF 2 (up2 (up2 F 6 (k1 (rnR b ln (p + 1) 0 40))) 7 (k1 (rnR b ln (rnP b ln (p + 1) 0 40 + 1) 0 5)))) 70 [some (.ref 0), some (.ref 2)] []
            refine r_iconst (pc := 70) (v := 0) C dX4_readLaw_70 (by decide) ?_
            show g 0 0 (wT 0 (tpS b ln (rnP b ln (rnP b ln (p + 1) 0 40 + 1) 0 5) 1) ++ wF 2 (up2 (up2 F 6 (k1 (rnR b ln (p + 1) 0 40))) 7 (k1 (rnR b ln (rnP b ln (p + 1) 0 40 + 1) 0 5)))) 71 [some (.ref 0), some (.ref 2)] [.int 0]
            have hX : rlS b ln p ft F = (false, rnP b ln (rnP b ln (p + 1) 0 40 + 1) 0 5, 1, (up2 (up2 F 6 (k1 (rnR b ln (p + 1) 0 40))) 7 (k1 (rnR b ln (rnP b ln (p + 1) 0 40 + 1) 0 5)))) := by simp only [rlS_eq, rlS0, h_6, h_26, h_35, h_54, h_63, if_true, if_false, Bool.false_eq_true]
            exact E _ _ _ _ _ _ dX4_readLaw_71 (Nat.le_refl _) (Nat.le_refl _) rfl ⟨by rw [(t4 hX).1]; rfl, by rw [(t4 hX).2.1, (t4 hX).2.2.1, (t4 hX).2.2.2]⟩
          · replace h_63 := bB_t h_63
            rw [h_63, if_pos rfl]
            show g 0 0 (wT 0 (tpS b ln (rnP b ln (rnP b ln (p + 1) 0 40 + 1) 0 5 + 1) (rnFt b ln (rnP b ln (p + 1) 0 40 + 1) 0 5 (rnFt b ln (p + 1) 0 40 ft))) ++ wF 2 (up2 (up2 F 6 (k1 (rnR b ln (p + 1) 0 40))) 7 (k1 (rnR b ln (rnP b ln (p + 1) 0 40 + 1) 0 5)))) 66 [some (.ref 0), some (.ref 2)] []
            refine r_iconst (pc := 66) (v := 1) C dX4_readLaw_66 (by decide) ?_
            refine r_goto (pc := 67) (tgt := 71) C dX4_readLaw_67 (by decide) ?_
            show g 0 0 (wT 0 (tpS b ln (rnP b ln (rnP b ln (p + 1) 0 40 + 1) 0 5 + 1) (rnFt b ln (rnP b ln (p + 1) 0 40 + 1) 0 5 (rnFt b ln (p + 1) 0 40 ft))) ++ wF 2 (up2 (up2 F 6 (k1 (rnR b ln (p + 1) 0 40))) 7 (k1 (rnR b ln (rnP b ln (p + 1) 0 40 + 1) 0 5)))) 71 [some (.ref 0), some (.ref 2)] [.int 1]
            have hX : rlS b ln p ft F = (true, rnP b ln (rnP b ln (p + 1) 0 40 + 1) 0 5 + 1, rnFt b ln (rnP b ln (p + 1) 0 40 + 1) 0 5 (rnFt b ln (p + 1) 0 40 ft), (up2 (up2 F 6 (k1 (rnR b ln (p + 1) 0 40))) 7 (k1 (rnR b ln (rnP b ln (p + 1) 0 40 + 1) 0 5)))) := by simp only [rlS_eq, rlS0, h_6, h_26, h_35, h_54, h_63, if_true, if_false, Bool.false_eq_true]
            exact E _ _ _ _ _ _ dX4_readLaw_71 (Nat.le_refl _) (Nat.le_refl _) rfl ⟨by rw [(t4 hX).1]; rfl, by rw [(t4 hX).2.1, (t4 hX).2.2.1, (t4 hX).2.2.2]⟩
      · replace h_35 := bB_f h_35
        rw [h_35, if_neg Bool.false_ne_true]
        show g 0 0 (wT 0 (tpS b ln (rnP b ln (p + 1) 0 40) 1) ++ wF 2 (up2 F 6 (k1 (rnR b ln (p + 1) 0 40)))) 38 [some (.ref 0), some (.ref 2)] []
        refine r_iconst (pc := 38) (v := 0) C dX4_readLaw_38 (by decide) ?_
        show g 0 0 (wT 0 (tpS b ln (rnP b ln (p + 1) 0 40) 1) ++ wF 2 (up2 F 6 (k1 (rnR b ln (p + 1) 0 40)))) 39 [some (.ref 0), some (.ref 2)] [.int 0]
        have hX : rlS b ln p ft F = (false, rnP b ln (p + 1) 0 40, 1, (up2 F 6 (k1 (rnR b ln (p + 1) 0 40)))) := by simp only [rlS_eq, rlS0, h_6, h_26, h_35, if_true, if_false, Bool.false_eq_true]
        exact E _ _ _ _ _ _ dX4_readLaw_39 (Nat.le_refl _) (Nat.le_refl _) rfl ⟨by rw [(t4 hX).1]; rfl, by rw [(t4 hX).2.1, (t4 hX).2.2.1, (t4 hX).2.2.2]⟩
  · replace h_6 := bB_f h_6
    rw [h_6, if_neg Bool.false_ne_true]
    show g 0 0 (wT 0 (tpS b ln p 1) ++ wF 2 F) 9 [some (.ref 0), some (.ref 2)] []
    refine r_iconst (pc := 9) (v := 0) C dX4_readLaw_9 (by decide) ?_
    show g 0 0 (wT 0 (tpS b ln p 1) ++ wF 2 F) 10 [some (.ref 0), some (.ref 2)] [.int 0]
    have hX : rlS b ln p ft F = (false, p, 1, F) := by simp only [rlS_eq, rlS0, h_6, if_true, if_false, Bool.false_eq_true]
    exact E _ _ _ _ _ _ dX4_readLaw_10 (Nat.le_refl _) (Nat.le_refl _) rfl ⟨by rw [(t4 hX).1]; rfl, by rw [(t4 hX).2.1, (t4 hX).2.2.1, (t4 hX).2.2.2]⟩
set_option maxHeartbeats 4000000 in
set_option maxRecDepth 100000 in
theorem c_X4_readTrees (b : Nat → Int32) (ln p : Nat) (ft : Int32) (hln : ln ≤ 120) (hp : p ≤ ln) (F : Nat → Nat → Int32) (h : Nat) (hh : h < 6) : MetA yX4_readTrees (.code yX4_readTrees cX4_readTrees 3 (some .boolean) :: TT) rmX4_readTrees [.ref 0, .ref 2, .int (nI h)] (wT 0 (tpS b ln p ft) ++ wF 2 F) (fun vr wr => vr = some (.int (bB (rtS b ln p ft F h).1)) ∧ wr = (wT 0 (tpS b ln (rtS b ln p ft F h).2.1 (rtS b ln p ft F h).2.2.1) ++ wF 2 (rtS b ln p ft F h).2.2.2)) 0 0 := by
  refine MetA.of_i (by decide) (fun _ => Nat.le_of_ble_eq_true rfl) (Nat.le_of_ble_eq_true rfl) (fun g C E => ?_)
  replace C : Sem cX4_readTrees RX4 "readTrees" 3 rmX4_readTrees g := C
  show g 0 0 (wT 0 (tpS b ln p ft) ++ wF 2 F) 0 [some (.ref 0), some (.ref 2), some (.int (nI h))] []
  refine r_aload_n (pc := 0) C dX4_readTrees_0 rfl rfl ?_
  refine r_getfield (pc := 1) (v := .ref 4) C xf_X4_71 dX4_readTrees_1 rfl rfl ?_
  refine r_iload_n (pc := 4) C dX4_readTrees_4 rfl rfl ?_
  refine r_aload_n (pc := 5) C dX4_readTrees_5 rfl rfl ?_
  refine r_iconst (pc := 6) (v := 0) C dX4_readTrees_6 (by decide) ?_
  refine r_bipush (pc := 7) (v := 11) C dX4_readTrees_7 (by decide) ?_
  refine r_callVD (pc := 9) (b := 0) (As := [.int 0, .int 11]) (st := [.int (nI h), .ref 4]) (θ2 := wT 0 (tpS b ln (rnP b ln p 0 11) (rnFt b ln p 0 11 ft)) ++ wF 2 F) (r2 := some (.int (rnR b ln p 0 11))) C [0, 1] (c_X4_readNumber b ln p ft hln hp 0 11) xm_X4_readNumber xk_X4_38 dX4_readTrees_9 rfl (by decide) rfl rfl rfl rfl rfl (Nat.le_of_ble_eq_true rfl) ⟨Nat.le_of_ble_eq_true rfl, Nat.le_of_ble_eq_true rfl⟩ ⟨rfl, rfl⟩ ⟨Nat.le_of_ble_eq_true rfl, Nat.le_of_ble_eq_true rfl⟩ rfl (Eq.trans (b := 2) rfl rfl) rfl rfl ?_
  show g 0 0 (wT 0 (tpS b ln (rnP b ln p 0 11) (rnFt b ln p 0 11 ft)) ++ wF 2 F) 12 [some (.ref 0), some (.ref 2), some (.int (nI h))] [.int (rnR b ln p 0 11), .int (nI h), .ref 4]
  refine r_iastore (pc := 12) (θ' := wT 0 (tpS b ln (rnP b ln p 0 11) (rnFt b ln p 0 11 ft)) ++ wF 2 (up2 F 1 (upd (F 1) h (rnR b ln p 0 11)))) C h dX4_readTrees_12 rfl rfl (by first | assumption | omega) rfl ?_
  refine r_aload_n (pc := 13) C dX4_readTrees_13 rfl rfl ?_
  refine r_getfield (pc := 14) (v := .ref 4) C xf_X4_71 dX4_readTrees_14 rfl rfl ?_
  refine r_iload_n (pc := 17) C dX4_readTrees_17 rfl rfl ?_
  refine r_iaload (pc := 18) (v := rnR b ln p 0 11) C h dX4_readTrees_18 rfl rfl (by first | assumption | omega) (if_pos rfl) ?_
  refine r_if_lt (pc := 19) (tgt := 31) C dX4_readTrees_19 (by decide) (fun h_19 => ?_) (fun h_19 => ?_)
  · skip
    refine r_iconst (pc := 31) (v := 0) C dX4_readTrees_31 (by decide) ?_
    show g 0 0 (wT 0 (tpS b ln (rnP b ln p 0 11) (rnFt b ln p 0 11 ft)) ++ wF 2 (up2 F 1 (upd (F 1) h (rnR b ln p 0 11)))) 32 [some (.ref 0), some (.ref 2), some (.int (nI h))] [.int 0]
    have hX : rtS b ln p ft F h = (false, rnP b ln p 0 11, rnFt b ln p 0 11 ft, (up2 F 1 (upd (F 1) h (rnR b ln p 0 11)))) := by simp only [rtS_eq, rtS0, r2S, h_19, if_true, if_false, Bool.false_eq_true]
    exact E _ _ _ _ _ _ dX4_readTrees_32 (Nat.le_refl _) (Nat.le_refl _) rfl ⟨by rw [(t4 hX).1]; rfl, by rw [(t4 hX).2.1, (t4 hX).2.2.1, (t4 hX).2.2.2]⟩
  · skip
    refine r_aload_n (pc := 22) C dX4_readTrees_22 rfl rfl ?_
    refine r_bipush (pc := 23) (v := 44) C dX4_readTrees_23 (by decide) ?_
    refine r_callVD (pc := 25) (b := 0) (As := [.int 44]) (st := []) (θ2 := wT 0 (if rsB b ln (rnP b ln p 0 11) 44 then tpS b ln (rnP b ln p 0 11 + 1) (rnFt b ln p 0 11 ft) else tpS b ln (rnP b ln p 0 11) 1) ++ wF 2 (up2 F 1 (upd (F 1) h (rnR b ln p 0 11)))) (r2 := some (.int (bB (rsB b ln (rnP b ln p 0 11) 44)))) C [0, 1] (c_X4_readSign b ln (rnP b ln p 0 11) (rnFt b ln p 0 11 ft) hln (rn_le hp) 44) xm_X4_readSign xk_X4_34 dX4_readTrees_25 rfl (by decide) rfl rfl rfl rfl rfl (Nat.le_of_ble_eq_true rfl) ⟨Nat.le_of_ble_eq_true rfl, Nat.le_of_ble_eq_true rfl⟩ ⟨rfl, rfl⟩ ⟨Nat.le_of_ble_eq_true rfl, Nat.le_of_ble_eq_true rfl⟩ rfl (Eq.trans (b := 2) rfl rfl) rfl rfl ?_
    show g 0 0 (wT 0 (if rsB b ln (rnP b ln p 0 11) 44 then tpS b ln (rnP b ln p 0 11 + 1) (rnFt b ln p 0 11 ft) else tpS b ln (rnP b ln p 0 11) 1) ++ wF 2 (up2 F 1 (upd (F 1) h (rnR b ln p 0 11)))) 28 [some (.ref 0), some (.ref 2), some (.int (nI h))] [.int (bB (rsB b ln (rnP b ln p 0 11) 44))]
    refine r_if_ne (pc := 28) (tgt := 33) C dX4_readTrees_28 (by decide) (fun h_28 => ?_) (fun h_28 => ?_)
    · replace h_28 := bB_t h_28
      rw [h_28, if_pos rfl]
      show g 0 0 (wT 0 (tpS b ln (rnP b ln p 0 11 + 1) (rnFt b ln p 0 11 ft)) ++ wF 2 (up2 F 1 (upd (F 1) h (rnR b ln p 0 11)))) 33 [some (.ref 0), some (.ref 2), some (.int (nI h))] []
      refine r_aload_n (pc := 33) C dX4_readTrees_33 rfl rfl ?_
      refine r_getfield (pc := 34) (v := .ref 5) C xf_X4_74 dX4_readTrees_34 rfl rfl ?_
      refine r_iload_n (pc := 37) C dX4_readTrees_37 rfl rfl ?_
      refine r_aload_n (pc := 38) C dX4_readTrees_38 rfl rfl ?_
      refine r_aload_n (pc := 39) C dX4_readTrees_39 rfl rfl ?_
      refine r_getfield (pc := 40) (v := .ref 4) C xf_X4_71 dX4_readTrees_40 rfl rfl ?_
      refine r_iload_n (pc := 43) C dX4_readTrees_43 rfl rfl ?_
      refine r_iaload (pc := 44) (v := rnR b ln p 0 11) C h dX4_readTrees_44 rfl rfl (by first | assumption | omega) (if_pos rfl) ?_
      refine r_iconst (pc := 45) (v := 1) C dX4_readTrees_45 (by decide) ?_
      refine r_iadd (pc := 46) C dX4_readTrees_46 ?_
      refine r_bipush (pc := 47) (v := 11) C dX4_readTrees_47 (by decide) ?_
      refine r_callVD (pc := 49) (b := 0) (As := [.int ((rnR b ln p 0 11) + 1), .int 11]) (st := [.int (nI h), .ref 5]) (θ2 := wT 0 (tpS b ln (rnP b ln (rnP b ln p 0 11 + 1) ((rnR b ln p 0 11) + 1) 11) (rnFt b ln (rnP b ln p 0 11 + 1) ((rnR b ln p 0 11) + 1) 11 (rnFt b ln p 0 11 ft))) ++ wF 2 (up2 F 1 (upd (F 1) h (rnR b ln p 0 11)))) (r2 := some (.int (rnR b ln (rnP b ln p 0 11 + 1) ((rnR b ln p 0 11) + 1) 11))) C [0, 1] (c_X4_readNumber b ln (rnP b ln p 0 11 + 1) (rnFt b ln p 0 11 ft) hln (rs_le h_28 (by decide)) ((rnR b ln p 0 11) + 1) 11) xm_X4_readNumber xk_X4_38 dX4_readTrees_49 rfl (by decide) rfl rfl rfl rfl rfl (Nat.le_of_ble_eq_true rfl) ⟨Nat.le_of_ble_eq_true rfl, Nat.le_of_ble_eq_true rfl⟩ ⟨rfl, rfl⟩ ⟨Nat.le_of_ble_eq_true rfl, Nat.le_of_ble_eq_true rfl⟩ rfl (Eq.trans (b := 2) rfl rfl) rfl rfl ?_
      show g 0 0 (wT 0 (tpS b ln (rnP b ln (rnP b ln p 0 11 + 1) ((rnR b ln p 0 11) + 1) 11) (rnFt b ln (rnP b ln p 0 11 + 1) ((rnR b ln p 0 11) + 1) 11 (rnFt b ln p 0 11 ft))) ++ wF 2 (up2 F 1 (upd (F 1) h (rnR b ln p 0 11)))) 52 [some (.ref 0), some (.ref 2), some (.int (nI h))] [.int (rnR b ln (rnP b ln p 0 11 + 1) ((rnR b ln p 0 11) + 1) 11), .int (nI h), .ref 5]
      refine r_iastore (pc := 52) (θ' := wT 0 (tpS b ln (rnP b ln (rnP b ln p 0 11 + 1) ((rnR b ln p 0 11) + 1) 11) (rnFt b ln (rnP b ln p 0 11 + 1) ((rnR b ln p 0 11) + 1) 11 (rnFt b ln p 0 11 ft))) ++ wF 2 (up2 (up2 F 1 (upd (F 1) h (rnR b ln p 0 11))) 2 (upd (F 2) h (rnR b ln (rnP b ln p 0 11 + 1) ((rnR b ln p 0 11) + 1) 11)))) C h dX4_readTrees_52 rfl rfl (by first | assumption | omega) rfl ?_
      refine r_aload_n (pc := 53) C dX4_readTrees_53 rfl rfl ?_
      refine r_getfield (pc := 54) (v := .ref 5) C xf_X4_74 dX4_readTrees_54 rfl rfl ?_
      refine r_iload_n (pc := 57) C dX4_readTrees_57 rfl rfl ?_
      refine r_iaload (pc := 58) (v := rnR b ln (rnP b ln p 0 11 + 1) ((rnR b ln p 0 11) + 1) 11) C h dX4_readTrees_58 rfl rfl (by first | assumption | omega) (if_pos rfl) ?_
      refine r_if_lt (pc := 59) (tgt := 75) C dX4_readTrees_59 (by decide) (fun h_59 => ?_) (fun h_59 => ?_)
      · skip
        refine r_iconst (pc := 75) (v := 0) C dX4_readTrees_75 (by decide) ?_
        show g 0 0 (wT 0 (tpS b ln (rnP b ln (rnP b ln p 0 11 + 1) ((rnR b ln p 0 11) + 1) 11) (rnFt b ln (rnP b ln p 0 11 + 1) ((rnR b ln p 0 11) + 1) 11 (rnFt b ln p 0 11 ft))) ++ wF 2 (up2 (up2 F 1 (upd (F 1) h (rnR b ln p 0 11))) 2 (upd (F 2) h (rnR b ln (rnP b ln p 0 11 + 1) ((rnR b ln p 0 11) + 1) 11)))) 76 [some (.ref 0), some (.ref 2), some (.int (nI h))] [.int 0]
        have hX : rtS b ln p ft F h = (false, rnP b ln (rnP b ln p 0 11 + 1) ((rnR b ln p 0 11) + 1) 11, rnFt b ln (rnP b ln p 0 11 + 1) ((rnR b ln p 0 11) + 1) 11 (rnFt b ln p 0 11 ft), (up2 (up2 F 1 (upd (F 1) h (rnR b ln p 0 11))) 2 (upd (F 2) h (rnR b ln (rnP b ln p 0 11 + 1) ((rnR b ln p 0 11) + 1) 11)))) := by simp only [rtS_eq, rtS0, r2S, h_19, h_28, h_59, if_true, if_false, Bool.false_eq_true]
        exact E _ _ _ _ _ _ dX4_readTrees_76 (Nat.le_refl _) (Nat.le_refl _) rfl ⟨by rw [(t4 hX).1]; rfl, by rw [(t4 hX).2.1, (t4 hX).2.2.1, (t4 hX).2.2.2]⟩
      · skip
        refine r_aload_n (pc := 62) C dX4_readTrees_62 rfl rfl ?_
        refine r_bipush (pc := 63) (v := 44) C dX4_readTrees_63 (by decide) ?_
        refine r_callVD (pc := 65) (b := 0) (As := [.int 44]) (st := []) (θ2 := wT 0 (if rsB b ln (rnP b ln (rnP b ln p 0 11 + 1) ((rnR b ln p 0 11) + 1) 11) 44 then tpS b ln (rnP b ln (rnP b ln p 0 11 + 1) ((rnR b ln p 0 11) + 1) 11 + 1) (rnFt b ln (rnP b ln p 0 11 + 1) ((rnR b ln p 0 11) + 1) 11 (rnFt b ln p 0 11 ft)) else tpS b ln (rnP b ln (rnP b ln p 0 11 + 1) ((rnR b ln p 0 11) + 1) 11) 1) ++ wF 2 (up2 (up2 F 1 (upd (F 1) h (rnR b ln p 0 11))) 2 (upd (F 2) h (rnR b ln (rnP b ln p 0 11 + 1) ((rnR b ln p 0 11) + 1) 11)))) (r2 := some (.int (bB (rsB b ln (rnP b ln (rnP b ln p 0 11 + 1) ((rnR b ln p 0 11) + 1) 11) 44)))) C [0, 1] (c_X4_readSign b ln (rnP b ln (rnP b ln p 0 11 + 1) ((rnR b ln p 0 11) + 1) 11) (rnFt b ln (rnP b ln p 0 11 + 1) ((rnR b ln p 0 11) + 1) 11 (rnFt b ln p 0 11 ft)) hln (rn_le (rs_le h_28 (by decide))) 44) xm_X4_readSign xk_X4_34 dX4_readTrees_65 rfl (by decide) rfl rfl rfl rfl rfl (Nat.le_of_ble_eq_true rfl) ⟨Nat.le_of_ble_eq_true rfl, Nat.le_of_ble_eq_true rfl⟩ ⟨rfl, rfl⟩ ⟨Nat.le_of_ble_eq_true rfl, Nat.le_of_ble_eq_true rfl⟩ rfl (Eq.trans (b := 2) rfl rfl) rfl rfl ?_
        show g 0 0 (wT 0 (if rsB b ln (rnP b ln (rnP b ln p 0 11 + 1) ((rnR b ln p 0 11) + 1) 11) 44 then tpS b ln (rnP b ln (rnP b ln p 0 11 + 1) ((rnR b ln p 0 11) + 1) 11 + 1) (rnFt b ln (rnP b ln p 0 11 + 1) ((rnR b ln p 0 11) + 1) 11 (rnFt b ln p 0 11 ft)) else tpS b ln (rnP b ln (rnP b ln p 0 11 + 1) ((rnR b ln p 0 11) + 1) 11) 1) ++ wF 2 (up2 (up2 F 1 (upd (F 1) h (rnR b ln p 0 11))) 2 (upd (F 2) h (rnR b ln (rnP b ln p 0 11 + 1) ((rnR b ln p 0 11) + 1) 11)))) 68 [some (.ref 0), some (.ref 2), some (.int (nI h))] [.int (bB (rsB b ln (rnP b ln (rnP b ln p 0 11 + 1) ((rnR b ln p 0 11) + 1) 11) 44))]
        refine r_if_eq (pc := 68) (tgt := 75) C dX4_readTrees_68 (by decide) (fun h_68 => ?_) (fun h_68 => ?_)
        · replace h_68 := bB_f h_68
          rw [h_68, if_neg Bool.false_ne_true]
          show g 0 0 (wT 0 (tpS b ln (rnP b ln (rnP b ln p 0 11 + 1) ((rnR b ln p 0 11) + 1) 11) 1) ++ wF 2 (up2 (up2 F 1 (upd (F 1) h (rnR b ln p 0 11))) 2 (upd (F 2) h (rnR b ln (rnP b ln p 0 11 + 1) ((rnR b ln p 0 11) + 1) 11)))) 75 [some (.ref 0), some (.ref 2), some (.int (nI h))] []
          refine r_iconst (pc := 75) (v := 0) C dX4_readTrees_75 (by decide) ?_
          show g 0 0 (wT 0 (tpS b ln (rnP b ln (rnP b ln p 0 11 + 1) ((rnR b ln p 0 11) + 1) 11) 1) ++ wF 2 (up2 (up2 F 1 (upd (F 1) h (rnR b ln p 0 11))) 2 (upd (F 2) h (rnR b ln (rnP b ln p 0 11 + 1) ((rnR b ln p 0 11) + 1) 11)))) 76 [some (.ref 0), some (.ref 2), some (.int (nI h))] [.int 0]
          have hX : rtS b ln p ft F h = (false, rnP b ln (rnP b ln p 0 11 + 1) ((rnR b ln p 0 11) + 1) 11, 1, (up2 (up2 F 1 (upd (F 1) h (rnR b ln p 0 11))) 2 (upd (F 2) h (rnR b ln (rnP b ln p 0 11 + 1) ((rnR b ln p 0 11) + 1) 11)))) := by simp only [rtS_eq, rtS0, r2S, h_19, h_28, h_59, h_68, if_true, if_false, Bool.false_eq_true]
          exact E _ _ _ _ _ _ dX4_readTrees_76 (Nat.le_refl _) (Nat.le_refl _) rfl ⟨by rw [(t4 hX).1]; rfl, by rw [(t4 hX).2.1, (t4 hX).2.2.1, (t4 hX).2.2.2]⟩
        · replace h_68 := bB_t h_68
          rw [h_68, if_pos rfl]
          show g 0 0 (wT 0 (tpS b ln (rnP b ln (rnP b ln p 0 11 + 1) ((rnR b ln p 0 11) + 1) 11 + 1) (rnFt b ln (rnP b ln p 0 11 + 1) ((rnR b ln p 0 11) + 1) 11 (rnFt b ln p 0 11 ft))) ++ wF 2 (up2 (up2 F 1 (upd (F 1) h (rnR b ln p 0 11))) 2 (upd (F 2) h (rnR b ln (rnP b ln p 0 11 + 1) ((rnR b ln p 0 11) + 1) 11)))) 71 [some (.ref 0), some (.ref 2), some (.int (nI h))] []
          refine r_iconst (pc := 71) (v := 1) C dX4_readTrees_71 (by decide) ?_
          refine r_goto (pc := 72) (tgt := 76) C dX4_readTrees_72 (by decide) ?_
          show g 0 0 (wT 0 (tpS b ln (rnP b ln (rnP b ln p 0 11 + 1) ((rnR b ln p 0 11) + 1) 11 + 1) (rnFt b ln (rnP b ln p 0 11 + 1) ((rnR b ln p 0 11) + 1) 11 (rnFt b ln p 0 11 ft))) ++ wF 2 (up2 (up2 F 1 (upd (F 1) h (rnR b ln p 0 11))) 2 (upd (F 2) h (rnR b ln (rnP b ln p 0 11 + 1) ((rnR b ln p 0 11) + 1) 11)))) 76 [some (.ref 0), some (.ref 2), some (.int (nI h))] [.int 1]
          have hX : rtS b ln p ft F h = (true, rnP b ln (rnP b ln p 0 11 + 1) ((rnR b ln p 0 11) + 1) 11 + 1, rnFt b ln (rnP b ln p 0 11 + 1) ((rnR b ln p 0 11) + 1) 11 (rnFt b ln p 0 11 ft), (up2 (up2 F 1 (upd (F 1) h (rnR b ln p 0 11))) 2 (upd (F 2) h (rnR b ln (rnP b ln p 0 11 + 1) ((rnR b ln p 0 11) + 1) 11)))) := by simp only [rtS_eq, rtS0, r2S, h_19, h_28, h_59, h_68, if_true, if_false, Bool.false_eq_true]
          exact E _ _ _ _ _ _ dX4_readTrees_76 (Nat.le_refl _) (Nat.le_refl _) rfl ⟨by rw [(t4 hX).1]; rfl, by rw [(t4 hX).2.1, (t4 hX).2.2.1, (t4 hX).2.2.2]⟩
    · replace h_28 := bB_f h_28
      rw [h_28, if_neg Bool.false_ne_true]
      show g 0 0 (wT 0 (tpS b ln (rnP b ln p 0 11) 1) ++ wF 2 (up2 F 1 (upd (F 1) h (rnR b ln p 0 11)))) 31 [some (.ref 0), some (.ref 2), some (.int (nI h))] []
      refine r_iconst (pc := 31) (v := 0) C dX4_readTrees_31 (by decide) ?_
      show g 0 0 (wT 0 (tpS b ln (rnP b ln p 0 11) 1) ++ wF 2 (up2 F 1 (upd (F 1) h (rnR b ln p 0 11)))) 32 [some (.ref 0), some (.ref 2), some (.int (nI h))] [.int 0]
      have hX : rtS b ln p ft F h = (false, rnP b ln p 0 11, 1, (up2 F 1 (upd (F 1) h (rnR b ln p 0 11)))) := by simp only [rtS_eq, rtS0, r2S, h_19, h_28, if_true, if_false, Bool.false_eq_true]
      exact E _ _ _ _ _ _ dX4_readTrees_32 (Nat.le_refl _) (Nat.le_refl _) rfl ⟨by rw [(t4 hX).1]; rfl, by rw [(t4 hX).2.1, (t4 hX).2.2.1, (t4 hX).2.2.2]⟩
set_option maxHeartbeats 4000000 in
set_option maxRecDepth 100000 in
theorem c_X4_readLoad (b : Nat → Int32) (ln p : Nat) (ft : Int32) (hln : ln ≤ 120) (hp : p ≤ ln) (F : Nat → Nat → Int32) (h : Nat) (hh : h < 6) : MetA yX4_readLoad (.code yX4_readLoad cX4_readLoad 3 (some .boolean) :: TT) rmX4_readLoad [.ref 0, .ref 2, .int (nI h)] (wT 0 (tpS b ln p ft) ++ wF 2 F) (fun vr wr => vr = some (.int (bB (rdS b ln p ft F h).1)) ∧ wr = (wT 0 (tpS b ln (rdS b ln p ft F h).2.1 (rdS b ln p ft F h).2.2.1) ++ wF 2 (rdS b ln p ft F h).2.2.2)) 0 0 := by
  refine MetA.of_i (by decide) (fun _ => Nat.le_of_ble_eq_true rfl) (Nat.le_of_ble_eq_true rfl) (fun g C E => ?_)
  replace C : Sem cX4_readLoad RX4 "readLoad" 3 rmX4_readLoad g := C
  show g 0 0 (wT 0 (tpS b ln p ft) ++ wF 2 F) 0 [some (.ref 0), some (.ref 2), some (.int (nI h))] []
  refine r_aload_n (pc := 0) C dX4_readLoad_0 rfl rfl ?_
  refine r_getfield (pc := 1) (v := .ref 6) C xf_X4_77 dX4_readLoad_1 rfl rfl ?_
  refine r_iload_n (pc := 4) C dX4_readLoad_4 rfl rfl ?_
  refine r_aload_n (pc := 5) C dX4_readLoad_5 rfl rfl ?_
  refine r_iconst (pc := 6) (v := 1) C dX4_readLoad_6 (by decide) ?_
  refine r_bipush (pc := 7) (v := 20) C dX4_readLoad_7 (by decide) ?_
  refine r_callVD (pc := 9) (b := 0) (As := [.int 1, .int 20]) (st := [.int (nI h), .ref 6]) (θ2 := wT 0 (tpS b ln (rnP b ln p 1 20) (rnFt b ln p 1 20 ft)) ++ wF 2 F) (r2 := some (.int (rnR b ln p 1 20))) C [0, 1] (c_X4_readNumber b ln p ft hln hp 1 20) xm_X4_readNumber xk_X4_38 dX4_readLoad_9 rfl (by decide) rfl rfl rfl rfl rfl (Nat.le_of_ble_eq_true rfl) ⟨Nat.le_of_ble_eq_true rfl, Nat.le_of_ble_eq_true rfl⟩ ⟨rfl, rfl⟩ ⟨Nat.le_of_ble_eq_true rfl, Nat.le_of_ble_eq_true rfl⟩ rfl (Eq.trans (b := 2) rfl rfl) rfl rfl ?_
  show g 0 0 (wT 0 (tpS b ln (rnP b ln p 1 20) (rnFt b ln p 1 20 ft)) ++ wF 2 F) 12 [some (.ref 0), some (.ref 2), some (.int (nI h))] [.int (rnR b ln p 1 20), .int (nI h), .ref 6]
  refine r_iastore (pc := 12) (θ' := wT 0 (tpS b ln (rnP b ln p 1 20) (rnFt b ln p 1 20 ft)) ++ wF 2 (up2 F 3 (upd (F 3) h (rnR b ln p 1 20)))) C h dX4_readLoad_12 rfl rfl (by first | assumption | omega) rfl ?_
  refine r_aload_n (pc := 13) C dX4_readLoad_13 rfl rfl ?_
  refine r_getfield (pc := 14) (v := .ref 6) C xf_X4_77 dX4_readLoad_14 rfl rfl ?_
  refine r_iload_n (pc := 17) C dX4_readLoad_17 rfl rfl ?_
  refine r_iaload (pc := 18) (v := rnR b ln p 1 20) C h dX4_readLoad_18 rfl rfl (by first | assumption | omega) (if_pos rfl) ?_
  refine r_if_lt (pc := 19) (tgt := 31) C dX4_readLoad_19 (by decide) (fun h_19 => ?_) (fun h_19 => ?_)
  · skip
    refine r_iconst (pc := 31) (v := 0) C dX4_readLoad_31 (by decide) ?_
    show g 0 0 (wT 0 (tpS b ln (rnP b ln p 1 20) (rnFt b ln p 1 20 ft)) ++ wF 2 (up2 F 3 (upd (F 3) h (rnR b ln p 1 20)))) 32 [some (.ref 0), some (.ref 2), some (.int (nI h))] [.int 0]
    have hX : rdS b ln p ft F h = (false, rnP b ln p 1 20, rnFt b ln p 1 20 ft, (up2 F 3 (upd (F 3) h (rnR b ln p 1 20)))) := by simp only [rdS_eq, rdS0, r2S, h_19, if_true, if_false, Bool.false_eq_true]
    exact E _ _ _ _ _ _ dX4_readLoad_32 (Nat.le_refl _) (Nat.le_refl _) rfl ⟨by rw [(t4 hX).1]; rfl, by rw [(t4 hX).2.1, (t4 hX).2.2.1, (t4 hX).2.2.2]⟩
  · skip
    refine r_aload_n (pc := 22) C dX4_readLoad_22 rfl rfl ?_
    refine r_bipush (pc := 23) (v := 44) C dX4_readLoad_23 (by decide) ?_
    refine r_callVD (pc := 25) (b := 0) (As := [.int 44]) (st := []) (θ2 := wT 0 (if rsB b ln (rnP b ln p 1 20) 44 then tpS b ln (rnP b ln p 1 20 + 1) (rnFt b ln p 1 20 ft) else tpS b ln (rnP b ln p 1 20) 1) ++ wF 2 (up2 F 3 (upd (F 3) h (rnR b ln p 1 20)))) (r2 := some (.int (bB (rsB b ln (rnP b ln p 1 20) 44)))) C [0, 1] (c_X4_readSign b ln (rnP b ln p 1 20) (rnFt b ln p 1 20 ft) hln (rn_le hp) 44) xm_X4_readSign xk_X4_34 dX4_readLoad_25 rfl (by decide) rfl rfl rfl rfl rfl (Nat.le_of_ble_eq_true rfl) ⟨Nat.le_of_ble_eq_true rfl, Nat.le_of_ble_eq_true rfl⟩ ⟨rfl, rfl⟩ ⟨Nat.le_of_ble_eq_true rfl, Nat.le_of_ble_eq_true rfl⟩ rfl (Eq.trans (b := 2) rfl rfl) rfl rfl ?_
    show g 0 0 (wT 0 (if rsB b ln (rnP b ln p 1 20) 44 then tpS b ln (rnP b ln p 1 20 + 1) (rnFt b ln p 1 20 ft) else tpS b ln (rnP b ln p 1 20) 1) ++ wF 2 (up2 F 3 (upd (F 3) h (rnR b ln p 1 20)))) 28 [some (.ref 0), some (.ref 2), some (.int (nI h))] [.int (bB (rsB b ln (rnP b ln p 1 20) 44))]
    refine r_if_ne (pc := 28) (tgt := 33) C dX4_readLoad_28 (by decide) (fun h_28 => ?_) (fun h_28 => ?_)
    · replace h_28 := bB_t h_28
      rw [h_28, if_pos rfl]
      show g 0 0 (wT 0 (tpS b ln (rnP b ln p 1 20 + 1) (rnFt b ln p 1 20 ft)) ++ wF 2 (up2 F 3 (upd (F 3) h (rnR b ln p 1 20)))) 33 [some (.ref 0), some (.ref 2), some (.int (nI h))] []
      refine r_aload_n (pc := 33) C dX4_readLoad_33 rfl rfl ?_
      refine r_getfield (pc := 34) (v := .ref 7) C xf_X4_80 dX4_readLoad_34 rfl rfl ?_
      refine r_iload_n (pc := 37) C dX4_readLoad_37 rfl rfl ?_
      refine r_aload_n (pc := 38) C dX4_readLoad_38 rfl rfl ?_
      refine r_iconst (pc := 39) (v := 0) C dX4_readLoad_39 (by decide) ?_
      refine r_iconst (pc := 40) (v := 5) C dX4_readLoad_40 (by decide) ?_
      refine r_callVD (pc := 41) (b := 0) (As := [.int 0, .int 5]) (st := [.int (nI h), .ref 7]) (θ2 := wT 0 (tpS b ln (rnP b ln (rnP b ln p 1 20 + 1) 0 5) (rnFt b ln (rnP b ln p 1 20 + 1) 0 5 (rnFt b ln p 1 20 ft))) ++ wF 2 (up2 F 3 (upd (F 3) h (rnR b ln p 1 20)))) (r2 := some (.int (rnR b ln (rnP b ln p 1 20 + 1) 0 5))) C [0, 1] (c_X4_readNumber b ln (rnP b ln p 1 20 + 1) (rnFt b ln p 1 20 ft) hln (rs_le h_28 (by decide)) 0 5) xm_X4_readNumber xk_X4_38 dX4_readLoad_41 rfl (by decide) rfl rfl rfl rfl rfl (Nat.le_of_ble_eq_true rfl) ⟨Nat.le_of_ble_eq_true rfl, Nat.le_of_ble_eq_true rfl⟩ ⟨rfl, rfl⟩ ⟨Nat.le_of_ble_eq_true rfl, Nat.le_of_ble_eq_true rfl⟩ rfl (Eq.trans (b := 2) rfl rfl) rfl rfl ?_
      show g 0 0 (wT 0 (tpS b ln (rnP b ln (rnP b ln p 1 20 + 1) 0 5) (rnFt b ln (rnP b ln p 1 20 + 1) 0 5 (rnFt b ln p 1 20 ft))) ++ wF 2 (up2 F 3 (upd (F 3) h (rnR b ln p 1 20)))) 44 [some (.ref 0), some (.ref 2), some (.int (nI h))] [.int (rnR b ln (rnP b ln p 1 20 + 1) 0 5), .int (nI h), .ref 7]
      refine r_iastore (pc := 44) (θ' := wT 0 (tpS b ln (rnP b ln (rnP b ln p 1 20 + 1) 0 5) (rnFt b ln (rnP b ln p 1 20 + 1) 0 5 (rnFt b ln p 1 20 ft))) ++ wF 2 (up2 (up2 F 3 (upd (F 3) h (rnR b ln p 1 20))) 4 (upd (F 4) h (rnR b ln (rnP b ln p 1 20 + 1) 0 5)))) C h dX4_readLoad_44 rfl rfl (by first | assumption | omega) rfl ?_
      refine r_aload_n (pc := 45) C dX4_readLoad_45 rfl rfl ?_
      refine r_getfield (pc := 46) (v := .ref 7) C xf_X4_80 dX4_readLoad_46 rfl rfl ?_
      refine r_iload_n (pc := 49) C dX4_readLoad_49 rfl rfl ?_
      refine r_iaload (pc := 50) (v := rnR b ln (rnP b ln p 1 20 + 1) 0 5) C h dX4_readLoad_50 rfl rfl (by first | assumption | omega) (if_pos rfl) ?_
      refine r_if_lt (pc := 51) (tgt := 67) C dX4_readLoad_51 (by decide) (fun h_51 => ?_) (fun h_51 => ?_)
      · skip
        refine r_iconst (pc := 67) (v := 0) C dX4_readLoad_67 (by decide) ?_
        show g 0 0 (wT 0 (tpS b ln (rnP b ln (rnP b ln p 1 20 + 1) 0 5) (rnFt b ln (rnP b ln p 1 20 + 1) 0 5 (rnFt b ln p 1 20 ft))) ++ wF 2 (up2 (up2 F 3 (upd (F 3) h (rnR b ln p 1 20))) 4 (upd (F 4) h (rnR b ln (rnP b ln p 1 20 + 1) 0 5)))) 68 [some (.ref 0), some (.ref 2), some (.int (nI h))] [.int 0]
        have hX : rdS b ln p ft F h = (false, rnP b ln (rnP b ln p 1 20 + 1) 0 5, rnFt b ln (rnP b ln p 1 20 + 1) 0 5 (rnFt b ln p 1 20 ft), (up2 (up2 F 3 (upd (F 3) h (rnR b ln p 1 20))) 4 (upd (F 4) h (rnR b ln (rnP b ln p 1 20 + 1) 0 5)))) := by simp only [rdS_eq, rdS0, r2S, h_19, h_28, h_51, if_true, if_false, Bool.false_eq_true]
        exact E _ _ _ _ _ _ dX4_readLoad_68 (Nat.le_refl _) (Nat.le_refl _) rfl ⟨by rw [(t4 hX).1]; rfl, by rw [(t4 hX).2.1, (t4 hX).2.2.1, (t4 hX).2.2.2]⟩
      · skip
        refine r_aload_n (pc := 54) C dX4_readLoad_54 rfl rfl ?_
        refine r_bipush (pc := 55) (v := 59) C dX4_readLoad_55 (by decide) ?_
        refine r_callVD (pc := 57) (b := 0) (As := [.int 59]) (st := []) (θ2 := wT 0 (if rsB b ln (rnP b ln (rnP b ln p 1 20 + 1) 0 5) 59 then tpS b ln (rnP b ln (rnP b ln p 1 20 + 1) 0 5 + 1) (rnFt b ln (rnP b ln p 1 20 + 1) 0 5 (rnFt b ln p 1 20 ft)) else tpS b ln (rnP b ln (rnP b ln p 1 20 + 1) 0 5) 1) ++ wF 2 (up2 (up2 F 3 (upd (F 3) h (rnR b ln p 1 20))) 4 (upd (F 4) h (rnR b ln (rnP b ln p 1 20 + 1) 0 5)))) (r2 := some (.int (bB (rsB b ln (rnP b ln (rnP b ln p 1 20 + 1) 0 5) 59)))) C [0, 1] (c_X4_readSign b ln (rnP b ln (rnP b ln p 1 20 + 1) 0 5) (rnFt b ln (rnP b ln p 1 20 + 1) 0 5 (rnFt b ln p 1 20 ft)) hln (rn_le (rs_le h_28 (by decide))) 59) xm_X4_readSign xk_X4_34 dX4_readLoad_57 rfl (by decide) rfl rfl rfl rfl rfl (Nat.le_of_ble_eq_true rfl) ⟨Nat.le_of_ble_eq_true rfl, Nat.le_of_ble_eq_true rfl⟩ ⟨rfl, rfl⟩ ⟨Nat.le_of_ble_eq_true rfl, Nat.le_of_ble_eq_true rfl⟩ rfl (Eq.trans (b := 2) rfl rfl) rfl rfl ?_
        show g 0 0 (wT 0 (if rsB b ln (rnP b ln (rnP b ln p 1 20 + 1) 0 5) 59 then tpS b ln (rnP b ln (rnP b ln p 1 20 + 1) 0 5 + 1) (rnFt b ln (rnP b ln p 1 20 + 1) 0 5 (rnFt b ln p 1 20 ft)) else tpS b ln (rnP b ln (rnP b ln p 1 20 + 1) 0 5) 1) ++ wF 2 (up2 (up2 F 3 (upd (F 3) h (rnR b ln p 1 20))) 4 (upd (F 4) h (rnR b ln (rnP b ln p 1 20 + 1) 0 5)))) 60 [some (.ref 0), some (.ref 2), some (.int (nI h))] [.int (bB (rsB b ln (rnP b ln (rnP b ln p 1 20 + 1) 0 5) 59))]
        refine r_if_eq (pc := 60) (tgt := 67) C dX4_readLoad_60 (by decide) (fun h_60 => ?_) (fun h_60 => ?_)
        · replace h_60 := bB_f h_60
          rw [h_60, if_neg Bool.false_ne_true]
          show g 0 0 (wT 0 (tpS b ln (rnP b ln (rnP b ln p 1 20 + 1) 0 5) 1) ++ wF 2 (up2 (up2 F 3 (upd (F 3) h (rnR b ln p 1 20))) 4 (upd (F 4) h (rnR b ln (rnP b ln p 1 20 + 1) 0 5)))) 67 [some (.ref 0), some (.ref 2), some (.int (nI h))] []
          refine r_iconst (pc := 67) (v := 0) C dX4_readLoad_67 (by decide) ?_
          show g 0 0 (wT 0 (tpS b ln (rnP b ln (rnP b ln p 1 20 + 1) 0 5) 1) ++ wF 2 (up2 (up2 F 3 (upd (F 3) h (rnR b ln p 1 20))) 4 (upd (F 4) h (rnR b ln (rnP b ln p 1 20 + 1) 0 5)))) 68 [some (.ref 0), some (.ref 2), some (.int (nI h))] [.int 0]
          have hX : rdS b ln p ft F h = (false, rnP b ln (rnP b ln p 1 20 + 1) 0 5, 1, (up2 (up2 F 3 (upd (F 3) h (rnR b ln p 1 20))) 4 (upd (F 4) h (rnR b ln (rnP b ln p 1 20 + 1) 0 5)))) := by simp only [rdS_eq, rdS0, r2S, h_19, h_28, h_51, h_60, if_true, if_false, Bool.false_eq_true]
          exact E _ _ _ _ _ _ dX4_readLoad_68 (Nat.le_refl _) (Nat.le_refl _) rfl ⟨by rw [(t4 hX).1]; rfl, by rw [(t4 hX).2.1, (t4 hX).2.2.1, (t4 hX).2.2.2]⟩
        · replace h_60 := bB_t h_60
          rw [h_60, if_pos rfl]
          show g 0 0 (wT 0 (tpS b ln (rnP b ln (rnP b ln p 1 20 + 1) 0 5 + 1) (rnFt b ln (rnP b ln p 1 20 + 1) 0 5 (rnFt b ln p 1 20 ft))) ++ wF 2 (up2 (up2 F 3 (upd (F 3) h (rnR b ln p 1 20))) 4 (upd (F 4) h (rnR b ln (rnP b ln p 1 20 + 1) 0 5)))) 63 [some (.ref 0), some (.ref 2), some (.int (nI h))] []
          refine r_iconst (pc := 63) (v := 1) C dX4_readLoad_63 (by decide) ?_
          refine r_goto (pc := 64) (tgt := 68) C dX4_readLoad_64 (by decide) ?_
          show g 0 0 (wT 0 (tpS b ln (rnP b ln (rnP b ln p 1 20 + 1) 0 5 + 1) (rnFt b ln (rnP b ln p 1 20 + 1) 0 5 (rnFt b ln p 1 20 ft))) ++ wF 2 (up2 (up2 F 3 (upd (F 3) h (rnR b ln p 1 20))) 4 (upd (F 4) h (rnR b ln (rnP b ln p 1 20 + 1) 0 5)))) 68 [some (.ref 0), some (.ref 2), some (.int (nI h))] [.int 1]
          have hX : rdS b ln p ft F h = (true, rnP b ln (rnP b ln p 1 20 + 1) 0 5 + 1, rnFt b ln (rnP b ln p 1 20 + 1) 0 5 (rnFt b ln p 1 20 ft), (up2 (up2 F 3 (upd (F 3) h (rnR b ln p 1 20))) 4 (upd (F 4) h (rnR b ln (rnP b ln p 1 20 + 1) 0 5)))) := by simp only [rdS_eq, rdS0, r2S, h_19, h_28, h_51, h_60, if_true, if_false, Bool.false_eq_true]
          exact E _ _ _ _ _ _ dX4_readLoad_68 (Nat.le_refl _) (Nat.le_refl _) rfl ⟨by rw [(t4 hX).1]; rfl, by rw [(t4 hX).2.1, (t4 hX).2.2.1, (t4 hX).2.2.2]⟩
    · replace h_28 := bB_f h_28
      rw [h_28, if_neg Bool.false_ne_true]
      show g 0 0 (wT 0 (tpS b ln (rnP b ln p 1 20) 1) ++ wF 2 (up2 F 3 (upd (F 3) h (rnR b ln p 1 20)))) 31 [some (.ref 0), some (.ref 2), some (.int (nI h))] []
      refine r_iconst (pc := 31) (v := 0) C dX4_readLoad_31 (by decide) ?_
      show g 0 0 (wT 0 (tpS b ln (rnP b ln p 1 20) 1) ++ wF 2 (up2 F 3 (upd (F 3) h (rnR b ln p 1 20)))) 32 [some (.ref 0), some (.ref 2), some (.int (nI h))] [.int 0]
      have hX : rdS b ln p ft F h = (false, rnP b ln p 1 20, 1, (up2 F 3 (upd (F 3) h (rnR b ln p 1 20)))) := by simp only [rdS_eq, rdS0, r2S, h_19, h_28, if_true, if_false, Bool.false_eq_true]
      exact E _ _ _ _ _ _ dX4_readLoad_32 (Nat.le_refl _) (Nat.le_refl _) rfl ⟨by rw [(t4 hX).1]; rfl, by rw [(t4 hX).2.1, (t4 hX).2.2.1, (t4 hX).2.2.2]⟩
set_option maxHeartbeats 4000000 in
set_option maxRecDepth 100000 in
theorem c_X4_readHammock (b : Nat → Int32) (ln p : Nat) (ft : Int32) (hln : ln ≤ 120) (hp : p ≤ ln) (F : Nat → Nat → Int32) (h : Nat) (hsz : F 9 0 = nI h) (hh : h ≤ 6) : MetA yX4_readHammock (.code yX4_readHammock cX4_readHammock 4 (some .boolean) :: TT) rmX4_readHammock [.ref 0, .ref 2] (wT 0 (tpS b ln p ft) ++ wF 2 F) (fun vr wr => vr = some (.int (bB (rhS b ln p ft F h).1)) ∧ wr = (wT 0 (tpS b ln (rhS b ln p ft F h).2.1 (rhS b ln p ft F h).2.2.1) ++ wF 2 (rhS b ln p ft F h).2.2.2)) 0 0 := by
  refine MetA.of_i (by decide) (fun _ => Nat.le_of_ble_eq_true rfl) (Nat.le_of_ble_eq_true rfl) (fun g C E => ?_)
  replace C : Sem cX4_readHammock RX4 "readHammock" 4 rmX4_readHammock g := C
  show g 0 0 (wT 0 (tpS b ln p ft) ++ wF 2 F) 0 [some (.ref 0), some (.ref 2), none, none] []
  refine r_aload_n (pc := 0) C dX4_readHammock_0 rfl rfl ?_
  refine r_getfield (pc := 1) (v := .int (F 9 0)) C xf_X4_48 dX4_readHammock_1 rfl rfl ?_
  show g 0 0 (wT 0 (tpS b ln p ft) ++ wF 2 F) 4 [some (.ref 0), some (.ref 2), none, none] [.int (F 9 0)]
  rw [show (F 9 0 : Int32) = nI h from hsz]
  refine r_istore_n (pc := 4) (lv' := [some (.ref 0), some (.ref 2), some (.int (nI h)), none]) C dX4_readHammock_4 rfl (Nat.le_of_ble_eq_true rfl) trivial rfl ?_
  refine r_aload_n (pc := 5) C dX4_readHammock_5 rfl rfl ?_
  refine r_aload_n (pc := 6) C dX4_readHammock_6 rfl rfl ?_
  refine r_getfield (pc := 7) (v := .int (nI p)) C xf_X4_15 dX4_readHammock_7 rfl rfl ?_
  refine r_callVD (pc := 10) (b := 0) (As := [.int (nI p)]) (st := []) (θ2 := wT 0 (tpS b ln p ft) ++ wF 2 F) (r2 := some (.int (byteS b ln p))) C [0, 1] (c_X4_byteAt b ln p ft hln hp p (by have := hp; omega)) xm_X4_byteAt xk_X4_51 dX4_readHammock_10 rfl (by decide) rfl rfl rfl rfl rfl (Nat.le_of_ble_eq_true rfl) ⟨Nat.le_of_ble_eq_true rfl, Nat.le_of_ble_eq_true rfl⟩ ⟨rfl, rfl⟩ ⟨Nat.le_of_ble_eq_true rfl, Nat.le_of_ble_eq_true rfl⟩ rfl (Eq.trans (b := 2) rfl rfl) rfl rfl ?_
  show g 0 0 (wT 0 (tpS b ln p ft) ++ wF 2 F) 13 [some (.ref 0), some (.ref 2), some (.int (nI h)), none] [.int (byteS b ln p)]
  refine r_callS0 (pc := 13) (As := [.int (byteS b ln p)]) (st := []) C (c_X4_sortOf (byteS b ln p)) xm_X4_sortOf xk_X4_55 dX4_readHammock_13 (fun _ => rfl) (fun _ => rfl) rfl rfl (Nat.le_of_ble_eq_true rfl) ⟨Nat.le_of_ble_eq_true rfl, Nat.le_of_ble_eq_true rfl⟩ ⟨rfl, rfl⟩ ⟨Nat.le_of_ble_eq_true rfl, Nat.le_of_ble_eq_true rfl⟩ rfl ?_
  show g 0 0 (wT 0 (tpS b ln p ft) ++ wF 2 F) 16 [some (.ref 0), some (.ref 2), some (.int (nI h)), none] [.int (sortM (byteS b ln p))]
  refine r_istore_n (pc := 16) (lv' := [some (.ref 0), some (.ref 2), some (.int (nI h)), some (.int (sortM (byteS b ln p)))]) C dX4_readHammock_16 rfl (Nat.le_of_ble_eq_true rfl) trivial rfl ?_
  refine r_iload_n (pc := 17) C dX4_readHammock_17 rfl rfl ?_
  refine r_if_ne (pc := 18) (tgt := 27) C dX4_readHammock_18 (by decide) (fun h_18 => ?_) (fun h_18 => ?_)
  · skip
    refine r_iload_n (pc := 27) C dX4_readHammock_27 rfl rfl ?_
    refine r_bipush (pc := 28) (v := 6) C dX4_readHammock_28 (by decide) ?_
    refine r_icmp_lt (pc := 30) (tgt := 39) C dX4_readHammock_30 (by decide) (fun h_30 => ?_) (fun h_30 => ?_)
    · skip
      have hh6 : h < 6 := (nI_ltI (b := 6) (by omega) (by omega)).mp h_30
      refine r_aload_n (pc := 39) C dX4_readHammock_39 rfl rfl ?_
      refine r_dup (pc := 40) C dX4_readHammock_40 rfl ?_
      refine r_getfield (pc := 41) (v := .int (nI p)) C xf_X4_15 dX4_readHammock_41 rfl rfl ?_
      refine r_iconst (pc := 44) (v := 1) C dX4_readHammock_44 (by decide) ?_
      refine r_iadd (pc := 45) C dX4_readHammock_45 ?_
      show g 0 0 (wT 0 (tpS b ln p ft) ++ wF 2 F) 46 [some (.ref 0), some (.ref 2), some (.int (nI h)), some (.int (sortM (byteS b ln p)))] [.int ((nI p) + 1), .ref 0]
      rw [show ((nI p) + 1 : Int32) = nI (p + 1) from (nI_sum rfl rfl)]
      refine r_putfield (pc := 46) (θ' := wT 0 (up2 (tpS b ln p ft) 2 (k1 (nI (p + 1)))) ++ wF 2 F) C xf_X4_15 xt_X4_2 dX4_readHammock_46 rfl (Nat.le_of_ble_eq_true rfl) (fun _ => ⟨rfl, rfl⟩) rfl ?_
      refine r_aload_n (pc := 49) C dX4_readHammock_49 rfl rfl ?_
      refine r_getfield (pc := 50) (v := .ref 3) C xf_X4_61 dX4_readHammock_50 rfl rfl ?_
      refine r_iload_n (pc := 53) C dX4_readHammock_53 rfl rfl ?_
      refine r_iload_n (pc := 54) C dX4_readHammock_54 rfl rfl ?_
      refine r_iastore (pc := 55) (θ' := wT 0 (up2 (tpS b ln p ft) 2 (k1 (nI (p + 1)))) ++ wF 2 (up2 F 0 (upd (F 0) h (sortM (byteS b ln p))))) C h dX4_readHammock_55 rfl rfl (by first | assumption | omega) rfl ?_
      refine r_aload_n (pc := 56) C dX4_readHammock_56 rfl rfl ?_
      refine r_iload_n (pc := 57) C dX4_readHammock_57 rfl rfl ?_
      refine r_iconst (pc := 58) (v := 1) C dX4_readHammock_58 (by decide) ?_
      refine r_iadd (pc := 59) C dX4_readHammock_59 ?_
      show g 0 0 (wT 0 (up2 (tpS b ln p ft) 2 (k1 (nI (p + 1)))) ++ wF 2 (up2 F 0 (upd (F 0) h (sortM (byteS b ln p))))) 60 [some (.ref 0), some (.ref 2), some (.int (nI h)), some (.int (sortM (byteS b ln p)))] [.int ((nI h) + 1), .ref 2]
      rw [show ((nI h) + 1 : Int32) = nI (h + 1) from (nI_sum rfl rfl)]
      refine r_putfield (pc := 60) (θ' := wT 0 (up2 (tpS b ln p ft) 2 (k1 (nI (p + 1)))) ++ wF 2 (up2 (up2 F 0 (upd (F 0) h (sortM (byteS b ln p)))) 9 (k1 (nI (h + 1))))) C xf_X4_48 xt_X1_9 dX4_readHammock_60 rfl (Nat.le_of_ble_eq_true rfl) (fun _ => ⟨rfl, rfl⟩) rfl ?_
      refine r_aload_n (pc := 63) C dX4_readHammock_63 rfl rfl ?_
      refine r_aload_n (pc := 64) C dX4_readHammock_64 rfl rfl ?_
      refine r_iload_n (pc := 65) C dX4_readHammock_65 rfl rfl ?_
      refine r_callV0 (pc := 66) (As := [.ref 2, .int (nI h)]) (st := []) (θ' := wT 0 (tpS b ln ((rtS b ln (p + 1) ft (up2 (up2 F 0 (upd (F 0) h (sortM (byteS b ln p)))) 9 (k1 (nI (h + 1)))) h).2.1) ((rtS b ln (p + 1) ft (up2 (up2 F 0 (upd (F 0) h (sortM (byteS b ln p)))) 9 (k1 (nI (h + 1)))) h).2.2.1)) ++ wF 2 ((rtS b ln (p + 1) ft (up2 (up2 F 0 (upd (F 0) h (sortM (byteS b ln p)))) 9 (k1 (nI (h + 1)))) h).2.2.2)) C (c_X4_readTrees b ln (p + 1) ft hln (so_le h_18) (up2 (up2 F 0 (upd (F 0) h (sortM (byteS b ln p)))) 9 (k1 (nI (h + 1)))) h (by omega)) xm_X4_readTrees xk_X4_64 dX4_readHammock_66 rfl rfl rfl rfl (Nat.le_of_ble_eq_true rfl) ⟨Nat.le_of_ble_eq_true rfl, Nat.le_of_ble_eq_true rfl⟩ ⟨rfl, rfl⟩ ⟨Nat.le_of_ble_eq_true rfl, Nat.le_of_ble_eq_true rfl⟩ rfl (Eq.trans (b := 8) rfl rfl) ?_
      show g 0 0 (wT 0 (tpS b ln ((rtS b ln (p + 1) ft (up2 (up2 F 0 (upd (F 0) h (sortM (byteS b ln p)))) 9 (k1 (nI (h + 1)))) h).2.1) ((rtS b ln (p + 1) ft (up2 (up2 F 0 (upd (F 0) h (sortM (byteS b ln p)))) 9 (k1 (nI (h + 1)))) h).2.2.1)) ++ wF 2 ((rtS b ln (p + 1) ft (up2 (up2 F 0 (upd (F 0) h (sortM (byteS b ln p)))) 9 (k1 (nI (h + 1)))) h).2.2.2)) 69 [some (.ref 0), some (.ref 2), some (.int (nI h)), some (.int (sortM (byteS b ln p)))] [.int (bB (rtS b ln (p + 1) ft (up2 (up2 F 0 (upd (F 0) h (sortM (byteS b ln p)))) 9 (k1 (nI (h + 1)))) h).1)]
      refine r_if_eq (pc := 69) (tgt := 85) C dX4_readHammock_69 (by decide) (fun h_69 => ?_) (fun h_69 => ?_)
      · replace h_69 := bB_f h_69
        refine r_iconst (pc := 85) (v := 0) C dX4_readHammock_85 (by decide) ?_
        show g 0 0 (wT 0 (tpS b ln ((rtS b ln (p + 1) ft (up2 (up2 F 0 (upd (F 0) h (sortM (byteS b ln p)))) 9 (k1 (nI (h + 1)))) h).2.1) ((rtS b ln (p + 1) ft (up2 (up2 F 0 (upd (F 0) h (sortM (byteS b ln p)))) 9 (k1 (nI (h + 1)))) h).2.2.1)) ++ wF 2 ((rtS b ln (p + 1) ft (up2 (up2 F 0 (upd (F 0) h (sortM (byteS b ln p)))) 9 (k1 (nI (h + 1)))) h).2.2.2)) 86 [some (.ref 0), some (.ref 2), some (.int (nI h)), some (.int (sortM (byteS b ln p)))] [.int 0]
        have hX : rhS b ln p ft F h = rtS b ln (p + 1) ft (up2 (up2 F 0 (upd (F 0) h (sortM (byteS b ln p)))) 9 (k1 (nI (h + 1)))) h := by rw [rhS_eq]; simp only [rhS0, h_18, h_30, h_69, if_true, if_false, Bool.false_eq_true]
        exact E _ _ _ _ _ _ dX4_readHammock_86 (Nat.le_refl _) (Nat.le_refl _) rfl ⟨by rw [hX, h_69]; rfl, by rw [hX]⟩
      · replace h_69 := bB_t h_69
        refine r_aload_n (pc := 72) C dX4_readHammock_72 rfl rfl ?_
        refine r_aload_n (pc := 73) C dX4_readHammock_73 rfl rfl ?_
        refine r_iload_n (pc := 74) C dX4_readHammock_74 rfl rfl ?_
        refine r_callV0 (pc := 75) (As := [.ref 2, .int (nI h)]) (st := []) (θ' := wT 0 (tpS b ln ((rdS b ln ((rtS b ln (p + 1) ft (up2 (up2 F 0 (upd (F 0) h (sortM (byteS b ln p)))) 9 (k1 (nI (h + 1)))) h).2.1) ((rtS b ln (p + 1) ft (up2 (up2 F 0 (upd (F 0) h (sortM (byteS b ln p)))) 9 (k1 (nI (h + 1)))) h).2.2.1) ((rtS b ln (p + 1) ft (up2 (up2 F 0 (upd (F 0) h (sortM (byteS b ln p)))) 9 (k1 (nI (h + 1)))) h).2.2.2) h).2.1) ((rdS b ln ((rtS b ln (p + 1) ft (up2 (up2 F 0 (upd (F 0) h (sortM (byteS b ln p)))) 9 (k1 (nI (h + 1)))) h).2.1) ((rtS b ln (p + 1) ft (up2 (up2 F 0 (upd (F 0) h (sortM (byteS b ln p)))) 9 (k1 (nI (h + 1)))) h).2.2.1) ((rtS b ln (p + 1) ft (up2 (up2 F 0 (upd (F 0) h (sortM (byteS b ln p)))) 9 (k1 (nI (h + 1)))) h).2.2.2) h).2.2.1)) ++ wF 2 ((rdS b ln ((rtS b ln (p + 1) ft (up2 (up2 F 0 (upd (F 0) h (sortM (byteS b ln p)))) 9 (k1 (nI (h + 1)))) h).2.1) ((rtS b ln (p + 1) ft (up2 (up2 F 0 (upd (F 0) h (sortM (byteS b ln p)))) 9 (k1 (nI (h + 1)))) h).2.2.1) ((rtS b ln (p + 1) ft (up2 (up2 F 0 (upd (F 0) h (sortM (byteS b ln p)))) 9 (k1 (nI (h + 1)))) h).2.2.2) h).2.2.2)) C (c_X4_readLoad b ln ((rtS b ln (p + 1) ft (up2 (up2 F 0 (upd (F 0) h (sortM (byteS b ln p)))) 9 (k1 (nI (h + 1)))) h).2.1) ((rtS b ln (p + 1) ft (up2 (up2 F 0 (upd (F 0) h (sortM (byteS b ln p)))) 9 (k1 (nI (h + 1)))) h).2.2.1) hln (rtS_le (so_le h_18)) ((rtS b ln (p + 1) ft (up2 (up2 F 0 (upd (F 0) h (sortM (byteS b ln p)))) 9 (k1 (nI (h + 1)))) h).2.2.2) h (by omega)) xm_X4_readLoad xk_X4_68 dX4_readHammock_75 rfl rfl rfl rfl (Nat.le_of_ble_eq_true rfl) ⟨Nat.le_of_ble_eq_true rfl, Nat.le_of_ble_eq_true rfl⟩ ⟨rfl, rfl⟩ ⟨Nat.le_of_ble_eq_true rfl, Nat.le_of_ble_eq_true rfl⟩ rfl (Eq.trans (b := 8) rfl rfl) ?_
        show g 0 0 (wT 0 (tpS b ln ((rdS b ln ((rtS b ln (p + 1) ft (up2 (up2 F 0 (upd (F 0) h (sortM (byteS b ln p)))) 9 (k1 (nI (h + 1)))) h).2.1) ((rtS b ln (p + 1) ft (up2 (up2 F 0 (upd (F 0) h (sortM (byteS b ln p)))) 9 (k1 (nI (h + 1)))) h).2.2.1) ((rtS b ln (p + 1) ft (up2 (up2 F 0 (upd (F 0) h (sortM (byteS b ln p)))) 9 (k1 (nI (h + 1)))) h).2.2.2) h).2.1) ((rdS b ln ((rtS b ln (p + 1) ft (up2 (up2 F 0 (upd (F 0) h (sortM (byteS b ln p)))) 9 (k1 (nI (h + 1)))) h).2.1) ((rtS b ln (p + 1) ft (up2 (up2 F 0 (upd (F 0) h (sortM (byteS b ln p)))) 9 (k1 (nI (h + 1)))) h).2.2.1) ((rtS b ln (p + 1) ft (up2 (up2 F 0 (upd (F 0) h (sortM (byteS b ln p)))) 9 (k1 (nI (h + 1)))) h).2.2.2) h).2.2.1)) ++ wF 2 ((rdS b ln ((rtS b ln (p + 1) ft (up2 (up2 F 0 (upd (F 0) h (sortM (byteS b ln p)))) 9 (k1 (nI (h + 1)))) h).2.1) ((rtS b ln (p + 1) ft (up2 (up2 F 0 (upd (F 0) h (sortM (byteS b ln p)))) 9 (k1 (nI (h + 1)))) h).2.2.1) ((rtS b ln (p + 1) ft (up2 (up2 F 0 (upd (F 0) h (sortM (byteS b ln p)))) 9 (k1 (nI (h + 1)))) h).2.2.2) h).2.2.2)) 78 [some (.ref 0), some (.ref 2), some (.int (nI h)), some (.int (sortM (byteS b ln p)))] [.int (bB (rdS b ln ((rtS b ln (p + 1) ft (up2 (up2 F 0 (upd (F 0) h (sortM (byteS b ln p)))) 9 (k1 (nI (h + 1)))) h).2.1) ((rtS b ln (p + 1) ft (up2 (up2 F 0 (upd (F 0) h (sortM (byteS b ln p)))) 9 (k1 (nI (h + 1)))) h).2.2.1) ((rtS b ln (p + 1) ft (up2 (up2 F 0 (upd (F 0) h (sortM (byteS b ln p)))) 9 (k1 (nI (h + 1)))) h).2.2.2) h).1)]
        refine r_if_eq (pc := 78) (tgt := 85) C dX4_readHammock_78 (by decide) (fun h_78 => ?_) (fun h_78 => ?_)
        · replace h_78 := bB_f h_78
          refine r_iconst (pc := 85) (v := 0) C dX4_readHammock_85 (by decide) ?_
          show g 0 0 (wT 0 (tpS b ln ((rdS b ln ((rtS b ln (p + 1) ft (up2 (up2 F 0 (upd (F 0) h (sortM (byteS b ln p)))) 9 (k1 (nI (h + 1)))) h).2.1) ((rtS b ln (p + 1) ft (up2 (up2 F 0 (upd (F 0) h (sortM (byteS b ln p)))) 9 (k1 (nI (h + 1)))) h).2.2.1) ((rtS b ln (p + 1) ft (up2 (up2 F 0 (upd (F 0) h (sortM (byteS b ln p)))) 9 (k1 (nI (h + 1)))) h).2.2.2) h).2.1) ((rdS b ln ((rtS b ln (p + 1) ft (up2 (up2 F 0 (upd (F 0) h (sortM (byteS b ln p)))) 9 (k1 (nI (h + 1)))) h).2.1) ((rtS b ln (p + 1) ft (up2 (up2 F 0 (upd (F 0) h (sortM (byteS b ln p)))) 9 (k1 (nI (h + 1)))) h).2.2.1) ((rtS b ln (p + 1) ft (up2 (up2 F 0 (upd (F 0) h (sortM (byteS b ln p)))) 9 (k1 (nI (h + 1)))) h).2.2.2) h).2.2.1)) ++ wF 2 ((rdS b ln ((rtS b ln (p + 1) ft (up2 (up2 F 0 (upd (F 0) h (sortM (byteS b ln p)))) 9 (k1 (nI (h + 1)))) h).2.1) ((rtS b ln (p + 1) ft (up2 (up2 F 0 (upd (F 0) h (sortM (byteS b ln p)))) 9 (k1 (nI (h + 1)))) h).2.2.1) ((rtS b ln (p + 1) ft (up2 (up2 F 0 (upd (F 0) h (sortM (byteS b ln p)))) 9 (k1 (nI (h + 1)))) h).2.2.2) h).2.2.2)) 86 [some (.ref 0), some (.ref 2), some (.int (nI h)), some (.int (sortM (byteS b ln p)))] [.int 0]
          have hX : rhS b ln p ft F h = rdS b ln ((rtS b ln (p + 1) ft (up2 (up2 F 0 (upd (F 0) h (sortM (byteS b ln p)))) 9 (k1 (nI (h + 1)))) h).2.1) ((rtS b ln (p + 1) ft (up2 (up2 F 0 (upd (F 0) h (sortM (byteS b ln p)))) 9 (k1 (nI (h + 1)))) h).2.2.1) ((rtS b ln (p + 1) ft (up2 (up2 F 0 (upd (F 0) h (sortM (byteS b ln p)))) 9 (k1 (nI (h + 1)))) h).2.2.2) h := by rw [rhS_eq]; simp only [rhS0, h_18, h_30, h_69, h_78, if_true, if_false, Bool.false_eq_true]
          exact E _ _ _ _ _ _ dX4_readHammock_86 (Nat.le_refl _) (Nat.le_refl _) rfl ⟨by rw [hX, h_78]; rfl, by rw [hX]⟩
        · replace h_78 := bB_t h_78
          refine r_iconst (pc := 81) (v := 1) C dX4_readHammock_81 (by decide) ?_
          refine r_goto (pc := 82) (tgt := 86) C dX4_readHammock_82 (by decide) ?_
          show g 0 0 (wT 0 (tpS b ln ((rdS b ln ((rtS b ln (p + 1) ft (up2 (up2 F 0 (upd (F 0) h (sortM (byteS b ln p)))) 9 (k1 (nI (h + 1)))) h).2.1) ((rtS b ln (p + 1) ft (up2 (up2 F 0 (upd (F 0) h (sortM (byteS b ln p)))) 9 (k1 (nI (h + 1)))) h).2.2.1) ((rtS b ln (p + 1) ft (up2 (up2 F 0 (upd (F 0) h (sortM (byteS b ln p)))) 9 (k1 (nI (h + 1)))) h).2.2.2) h).2.1) ((rdS b ln ((rtS b ln (p + 1) ft (up2 (up2 F 0 (upd (F 0) h (sortM (byteS b ln p)))) 9 (k1 (nI (h + 1)))) h).2.1) ((rtS b ln (p + 1) ft (up2 (up2 F 0 (upd (F 0) h (sortM (byteS b ln p)))) 9 (k1 (nI (h + 1)))) h).2.2.1) ((rtS b ln (p + 1) ft (up2 (up2 F 0 (upd (F 0) h (sortM (byteS b ln p)))) 9 (k1 (nI (h + 1)))) h).2.2.2) h).2.2.1)) ++ wF 2 ((rdS b ln ((rtS b ln (p + 1) ft (up2 (up2 F 0 (upd (F 0) h (sortM (byteS b ln p)))) 9 (k1 (nI (h + 1)))) h).2.1) ((rtS b ln (p + 1) ft (up2 (up2 F 0 (upd (F 0) h (sortM (byteS b ln p)))) 9 (k1 (nI (h + 1)))) h).2.2.1) ((rtS b ln (p + 1) ft (up2 (up2 F 0 (upd (F 0) h (sortM (byteS b ln p)))) 9 (k1 (nI (h + 1)))) h).2.2.2) h).2.2.2)) 86 [some (.ref 0), some (.ref 2), some (.int (nI h)), some (.int (sortM (byteS b ln p)))] [.int 1]
          have hX : rhS b ln p ft F h = rdS b ln ((rtS b ln (p + 1) ft (up2 (up2 F 0 (upd (F 0) h (sortM (byteS b ln p)))) 9 (k1 (nI (h + 1)))) h).2.1) ((rtS b ln (p + 1) ft (up2 (up2 F 0 (upd (F 0) h (sortM (byteS b ln p)))) 9 (k1 (nI (h + 1)))) h).2.2.1) ((rtS b ln (p + 1) ft (up2 (up2 F 0 (upd (F 0) h (sortM (byteS b ln p)))) 9 (k1 (nI (h + 1)))) h).2.2.2) h := by rw [rhS_eq]; simp only [rhS0, h_18, h_30, h_69, h_78, if_true, if_false, Bool.false_eq_true]
          exact E _ _ _ _ _ _ dX4_readHammock_86 (Nat.le_refl _) (Nat.le_refl _) rfl ⟨by rw [hX, h_78]; rfl, by rw [hX]⟩
    · skip
      refine r_aload_n (pc := 33) C dX4_readHammock_33 rfl rfl ?_
      refine r_iconst (pc := 34) (v := 3) C dX4_readHammock_34 (by decide) ?_
      refine r_callVD (pc := 35) (b := 0) (As := [.int 3]) (st := []) (θ2 := wT 0 (tpS b ln p 3) ++ wF 2 F) (r2 := some (.int (bB false))) C [0, 1] (c_X4_refuse b ln p ft 3) xm_X4_refuse xk_X4_58 dX4_readHammock_35 rfl (by decide) rfl rfl rfl rfl rfl (Nat.le_of_ble_eq_true rfl) ⟨Nat.le_of_ble_eq_true rfl, Nat.le_of_ble_eq_true rfl⟩ ⟨rfl, rfl⟩ ⟨Nat.le_of_ble_eq_true rfl, Nat.le_of_ble_eq_true rfl⟩ rfl (Eq.trans (b := 2) rfl rfl) rfl rfl ?_
      show g 0 0 (wT 0 (tpS b ln p 3) ++ wF 2 F) 38 [some (.ref 0), some (.ref 2), some (.int (nI h)), some (.int (sortM (byteS b ln p)))] [.int (bB false)]
      show g 0 0 (wT 0 (tpS b ln p 3) ++ wF 2 F) 38 [some (.ref 0), some (.ref 2), some (.int (nI h)), some (.int (sortM (byteS b ln p)))] [.int (bB false)]
      have hX : rhS b ln p ft F h = (false, p, 3, F) := by rw [rhS_eq]; simp only [rhS0, h_18, h_30, if_true, if_false, Bool.false_eq_true]
      exact E _ _ _ _ _ _ dX4_readHammock_38 (Nat.le_refl _) (Nat.le_refl _) rfl ⟨by rw [(t4 hX).1], by rw [(t4 hX).2.1, (t4 hX).2.2.1, (t4 hX).2.2.2]⟩
  · skip
    refine r_aload_n (pc := 21) C dX4_readHammock_21 rfl rfl ?_
    refine r_iconst (pc := 22) (v := 1) C dX4_readHammock_22 (by decide) ?_
    refine r_callVD (pc := 23) (b := 0) (As := [.int 1]) (st := []) (θ2 := wT 0 (tpS b ln p 1) ++ wF 2 F) (r2 := some (.int (bB false))) C [0, 1] (c_X4_refuse b ln p ft 1) xm_X4_refuse xk_X4_58 dX4_readHammock_23 rfl (by decide) rfl rfl rfl rfl rfl (Nat.le_of_ble_eq_true rfl) ⟨Nat.le_of_ble_eq_true rfl, Nat.le_of_ble_eq_true rfl⟩ ⟨rfl, rfl⟩ ⟨Nat.le_of_ble_eq_true rfl, Nat.le_of_ble_eq_true rfl⟩ rfl (Eq.trans (b := 2) rfl rfl) rfl rfl ?_
    show g 0 0 (wT 0 (tpS b ln p 1) ++ wF 2 F) 26 [some (.ref 0), some (.ref 2), some (.int (nI h)), some (.int (sortM (byteS b ln p)))] [.int (bB false)]
    show g 0 0 (wT 0 (tpS b ln p 1) ++ wF 2 F) 26 [some (.ref 0), some (.ref 2), some (.int (nI h)), some (.int (sortM (byteS b ln p)))] [.int (bB false)]
    have hX : rhS b ln p ft F h = (false, p, 1, F) := by rw [rhS_eq]; simp only [rhS0, h_18, if_true, if_false, Bool.false_eq_true]
    exact E _ _ _ _ _ _ dX4_readHammock_26 (Nat.le_refl _) (Nat.le_refl _) rfl ⟨by rw [(t4 hX).1], by rw [(t4 hX).2.1, (t4 hX).2.2.1, (t4 hX).2.2.2]⟩
set_option maxHeartbeats 4000000 in
set_option maxRecDepth 100000 in
theorem lp_X4_readInto (b : Nat → Int32) (ln p0 : Nat) (ft0 : Int32) (F0 : Nat → Nat → Int32) (hln : ln ≤ 120) {g : Nat → Nat → List xE → Nat → List (Option Value) → List Value → Prop} (C : Sem cX4_readInto RX4 "readInto" 3 rmX4_readInto g) (E : xEi g cX4_readInto .boolean 0 0 (fun vr wr => vr = some (.int (bB (riS b ln p0 ft0 F0).1)) ∧ wr = (wT 0 (tpS b ln (riS b ln p0 ft0 F0).2.1 (riS b ln p0 ft0 F0).2.2.1) ++ wF 2 (riS b ln p0 ft0 F0).2.2.2))) : ∀ (n : Nat) (i p : Nat) (ft : Int32) (F : Nat → Nat → Int32), i + n = 7 → p ≤ ln → F 9 0 = nI i → riL b ln n i p ft F = riS b ln p0 ft0 F0 → g 0 0 (wT 0 (tpS b ln p ft) ++ wF 2 F) 21 [some (.ref 0), some (.ref 2), some (.int (nI i))] [] := by
  intro n
  induction n with
  | zero =>
    intro i p ft F hi hp hsz hE
    refine r_iload_n (pc := 21) C dX4_readInto_21 rfl rfl ?_
    refine r_bipush (pc := 22) (v := 6) C dX4_readInto_22 (by decide) ?_
    refine r_icmp_gt (pc := 24) (tgt := 54) C dX4_readInto_24 (by decide) (fun _ => ?_) (fun h => absurd ((nI_ltI (a := 6) (by omega) (by omega)).mpr (by omega)) h)
    refine r_iconst (pc := 54) (v := 1) C dX4_readInto_54 (by decide) ?_
    show g 0 0 (wT 0 (tpS b ln p ft) ++ wF 2 F) 55 [some (.ref 0), some (.ref 2), some (.int (nI i))] [.int 1]
    have hX := (by rw [← hE, riL] : riS b ln p0 ft0 F0 = _)
    exact E _ _ _ _ _ _ dX4_readInto_55 (Nat.le_refl _) (Nat.le_refl _) rfl ⟨by rw [(t4 hX).1]; rfl, by rw [(t4 hX).2.1, (t4 hX).2.2.1, (t4 hX).2.2.2]⟩
  | succ n ih =>
    intro i p ft F hi hp hsz hE
    refine r_iload_n (pc := 21) C dX4_readInto_21 rfl rfl ?_
    refine r_bipush (pc := 22) (v := 6) C dX4_readInto_22 (by decide) ?_
    refine r_icmp_gt (pc := 24) (tgt := 54) C dX4_readInto_24 (by decide) (fun h => absurd h (fun z => absurd ((nI_ltI (a := 6) (by omega) (by omega)).mp z) (by omega))) (fun _ => ?_)
    refine r_aload_n (pc := 27) C dX4_readInto_27 rfl rfl ?_
    refine r_getfield (pc := 28) (v := .int (nI p)) C xf_X4_15 dX4_readInto_28 rfl rfl ?_
    refine r_aload_n (pc := 31) C dX4_readInto_31 rfl rfl ?_
    refine r_getfield (pc := 32) (v := .int (nI ln)) C xf_X4_28 dX4_readInto_32 rfl rfl ?_
    refine r_icmp_ge (pc := 35) (tgt := 54) C dX4_readInto_35 (by decide) (fun h_35 => ?_) (fun h_35 => ?_)
    · skip
      replace h_35 : ¬ p < ln := fun z => absurd h_35 (nI_ge z (by omega))
      refine r_iconst (pc := 54) (v := 1) C dX4_readInto_54 (by decide) ?_
      show g 0 0 (wT 0 (tpS b ln p ft) ++ wF 2 F) 55 [some (.ref 0), some (.ref 2), some (.int (nI i))] [.int 1]
      have hX := (by rw [← hE, riL, if_neg h_35] : riS b ln p0 ft0 F0 = _)
      exact E _ _ _ _ _ _ dX4_readInto_55 (Nat.le_refl _) (Nat.le_refl _) rfl ⟨by rw [(t4 hX).1]; rfl, by rw [(t4 hX).2.1, (t4 hX).2.2.1, (t4 hX).2.2.2]⟩
    · skip
      replace h_35 : p < ln := Nat.lt_of_not_le (fun z => h_35 (nI_le z (by omega)))
      refine r_aload_n (pc := 38) C dX4_readInto_38 rfl rfl ?_
      refine r_aload_n (pc := 39) C dX4_readInto_39 rfl rfl ?_
      refine r_callV0 (pc := 40) (As := [.ref 2]) (st := []) (θ' := wT 0 (tpS b ln ((rhS b ln p ft F i).2.1) ((rhS b ln p ft F i).2.2.1)) ++ wF 2 ((rhS b ln p ft F i).2.2.2)) C (c_X4_readHammock b ln p ft hln hp F i hsz (by omega)) xm_X4_readHammock xk_X4_31 dX4_readInto_40 rfl rfl rfl rfl (Nat.le_of_ble_eq_true rfl) ⟨Nat.le_of_ble_eq_true rfl, Nat.le_of_ble_eq_true rfl⟩ ⟨rfl, rfl⟩ ⟨Nat.le_of_ble_eq_true rfl, Nat.le_of_ble_eq_true rfl⟩ rfl (Eq.trans (b := 8) rfl rfl) ?_
      show g 0 0 (wT 0 (tpS b ln ((rhS b ln p ft F i).2.1) ((rhS b ln p ft F i).2.2.1)) ++ wF 2 ((rhS b ln p ft F i).2.2.2)) 43 [some (.ref 0), some (.ref 2), some (.int (nI i))] [.int (bB (rhS b ln p ft F i).1)]
      refine r_if_ne (pc := 43) (tgt := 48) C dX4_readInto_43 (by decide) (fun h_43 => ?_) (fun h_43 => ?_)
      · replace h_43 := bB_t h_43
        refine r_iinc (pc := 48) (v := nI (i + 1)) (lv' := [some (.ref 0), some (.ref 2), some (.int (nI (i + 1)))]) C dX4_readInto_48 rfl (nI_1 i) trivial rfl ?_
        refine r_goto (pc := 51) (tgt := 21) C dX4_readInto_51 (by decide) ?_
        show g 0 0 (wT 0 (tpS b ln ((rhS b ln p ft F i).2.1) ((rhS b ln p ft F i).2.2.1)) ++ wF 2 ((rhS b ln p ft F i).2.2.2)) 21 [some (.ref 0), some (.ref 2), some (.int (nI (i + 1)))] []
        exact ih (i + 1) _ _ _ (by omega) (rh_le hp) (rh_size hsz h_43) (by rw [← hE, riL, if_pos h_35, if_pos h_43])
      · replace h_43 := bB_f h_43
        refine r_iconst (pc := 46) (v := 0) C dX4_readInto_46 (by decide) ?_
        show g 0 0 (wT 0 (tpS b ln ((rhS b ln p ft F i).2.1) ((rhS b ln p ft F i).2.2.1)) ++ wF 2 ((rhS b ln p ft F i).2.2.2)) 47 [some (.ref 0), some (.ref 2), some (.int (nI i))] [.int 0]
        have hX := (by rw [← hE, riL, if_pos h_35, if_neg (by rw [h_43]; exact Bool.false_ne_true)] : riS b ln p0 ft0 F0 = _)
        exact E _ _ _ _ _ _ dX4_readInto_47 (Nat.le_refl _) (Nat.le_refl _) rfl ⟨by rw [hX, h_43]; rfl, by rw [hX]⟩
set_option maxHeartbeats 4000000 in
set_option maxRecDepth 100000 in
theorem c_X4_readInto (b : Nat → Int32) (ln p : Nat) (ft : Int32) (hln : ln ≤ 120) (hp : p ≤ ln) (F : Nat → Nat → Int32) : MetA yX4_readInto (.code yX4_readInto cX4_readInto 3 (some .boolean) :: TT) rmX4_readInto [.ref 0, .ref 2] (wT 0 (tpS b ln p ft) ++ wF 2 F) (fun vr wr => vr = some (.int (bB (riS b ln p ft F).1)) ∧ wr = (wT 0 (tpS b ln (riS b ln p ft F).2.1 (riS b ln p ft F).2.2.1) ++ wF 2 (riS b ln p ft F).2.2.2)) 0 0 := by
  refine MetA.of_i (by decide) (fun _ => Nat.le_of_ble_eq_true rfl) (Nat.le_of_ble_eq_true rfl) (fun g C E => ?_)
  replace C : Sem cX4_readInto RX4 "readInto" 3 rmX4_readInto g := C
  show g 0 0 (wT 0 (tpS b ln p ft) ++ wF 2 F) 0 [some (.ref 0), some (.ref 2), none] []
  refine r_aload_n (pc := 0) C dX4_readInto_0 rfl rfl ?_
  refine r_iconst (pc := 1) (v := 0) C dX4_readInto_1 (by decide) ?_
  refine r_putfield (pc := 2) (θ' := wT 0 (up2 (tpS b ln p ft) 2 (k1 0)) ++ wF 2 F) C xf_X4_15 xt_X4_2 dX4_readInto_2 rfl (Nat.le_of_ble_eq_true rfl) (fun _ => ⟨rfl, rfl⟩) rfl ?_
  refine r_aload_n (pc := 5) C dX4_readInto_5 rfl rfl ?_
  refine r_callVD (pc := 6) (b := 2) (As := []) (st := []) (θ2 := wT 0 (tpS b ln 0 ft) ++ wF 2 (begS F)) (r2 := none) C [2, 3, 4, 5, 6, 7] (c_X1_begin F) xm_X1_begin xk_X4_19 dX4_readInto_6 rfl (by decide) rfl rfl rfl rfl rfl (Nat.le_of_ble_eq_true rfl) ⟨Nat.le_of_ble_eq_true rfl, Nat.le_of_ble_eq_true rfl⟩ ⟨rfl, rfl⟩ ⟨Nat.le_of_ble_eq_true rfl, Nat.le_of_ble_eq_true rfl⟩ rfl (Eq.trans (b := 6) rfl rfl) rfl rfl ?_
  show g 0 0 (wT 0 (tpS b ln 0 ft) ++ wF 2 (begS F)) 9 [some (.ref 0), some (.ref 2), none] []
  refine r_aload_n (pc := 9) C dX4_readInto_9 rfl rfl ?_
  refine r_aload_n (pc := 10) C dX4_readInto_10 rfl rfl ?_
  refine r_callV0 (pc := 11) (As := [.ref 2]) (st := []) (θ' := wT 0 (tpS b ln ((rlS b ln 0 ft (begS F)).2.1) ((rlS b ln 0 ft (begS F)).2.2.1)) ++ wF 2 ((rlS b ln 0 ft (begS F)).2.2.2)) C (c_X4_readLaw b ln 0 ft hln (Nat.zero_le _) (begS F)) xm_X4_readLaw xk_X4_24 dX4_readInto_11 rfl rfl rfl rfl (Nat.le_of_ble_eq_true rfl) ⟨Nat.le_of_ble_eq_true rfl, Nat.le_of_ble_eq_true rfl⟩ ⟨rfl, rfl⟩ ⟨Nat.le_of_ble_eq_true rfl, Nat.le_of_ble_eq_true rfl⟩ rfl (Eq.trans (b := 8) rfl rfl) ?_
  show g 0 0 (wT 0 (tpS b ln ((rlS b ln 0 ft (begS F)).2.1) ((rlS b ln 0 ft (begS F)).2.2.1)) ++ wF 2 ((rlS b ln 0 ft (begS F)).2.2.2)) 14 [some (.ref 0), some (.ref 2), none] [.int (bB (rlS b ln 0 ft (begS F)).1)]
  refine r_if_ne (pc := 14) (tgt := 19) C dX4_readInto_14 (by decide) (fun h_14 => ?_) (fun h_14 => ?_)
  · replace h_14 := bB_t h_14
    refine r_iconst (pc := 19) (v := 0) C dX4_readInto_19 (by decide) ?_
    refine r_istore_n (pc := 20) (lv' := [some (.ref 0), some (.ref 2), some (.int 0)]) C dX4_readInto_20 rfl (Nat.le_of_ble_eq_true rfl) trivial rfl ?_
    show g 0 0 (wT 0 (tpS b ln ((rlS b ln 0 ft (begS F)).2.1) ((rlS b ln 0 ft (begS F)).2.2.1)) ++ wF 2 ((rlS b ln 0 ft (begS F)).2.2.2)) 21 [some (.ref 0), some (.ref 2), some (.int 0)] []
    exact lp_X4_readInto b ln p ft F hln C E 7 0 _ _ _ (by omega) (rl_le (Nat.zero_le _)) (rl_size rfl) (by rw [riS_eq]; simp only [riS0, h_14, if_true])
  · replace h_14 := bB_f h_14
    refine r_iconst (pc := 17) (v := 0) C dX4_readInto_17 (by decide) ?_
    show g 0 0 (wT 0 (tpS b ln ((rlS b ln 0 ft (begS F)).2.1) ((rlS b ln 0 ft (begS F)).2.2.1)) ++ wF 2 ((rlS b ln 0 ft (begS F)).2.2.2)) 18 [some (.ref 0), some (.ref 2), none] [.int 0]
    have hX : riS b ln p ft F = rlS b ln 0 ft (begS F) := by rw [riS_eq]; simp only [riS0, h_14, Bool.false_eq_true, if_false]
    exact E _ _ _ _ _ _ dX4_readInto_18 (Nat.le_refl _) (Nat.le_refl _) rfl ⟨by rw [hX, h_14]; rfl, by rw [hX]⟩
