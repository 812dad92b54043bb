def cordM (M : Nat → Nat → Int32) (q : Nat) (h c : Int32) : Int32 × (Nat → Nat → Int32) := if inI h 0 (M 4 0 - 1) then (if inI c 0 1 then (if bB (hasS (M 4 34) h) = (if c = 1 then 1 else 0) then (-1000002, M) else (M 4 34 ^^^ (1 <<< (h &&& 31)), up2 (up2 (up2 M 7 (rmP M q)) 8 (k1 (rmQ q))) 4 (upd (M 4) 34 (M 4 34 ^^^ (1 <<< (h &&& 31)))))) else (-1000001, M)) else (-1000001, M)
set_option maxHeartbeats 4000000 in
set_option maxRecDepth 100000 in
theorem c_X6_cord (M : Nat → Nat → Int32) (h c : Int32) (z : Nat) (hM : okM M z) (q : Nat) (hq : M 8 0 = nI q) (hq24 : q ≤ 24) : MetA yX6_cord (.code yX6_cord cX6_cord 3 (some .int) :: TT) rmX6_cord [.ref 0, .int h, .int c] (wM M) (fun vr wr => vr = some (.int (cordM M q h c).1) ∧ wr = wM (cordM M q h c).2) 0 0 := by
  refine MetA.of_i (by decide) (fun _ => Nat.le_of_ble_eq_true rfl) (Nat.le_of_ble_eq_true rfl) (fun g C E => ?_)
  replace C : Sem cX6_cord RX6 "cord" 3 rmX6_cord g := C
  show g 0 0 (wM M) 0 [some (.ref 0), some (.int h), some (.int c)] []
  refine r_aload_n (pc := 0) C dX6_cord_0 rfl rfl ?_
  refine r_iload_n (pc := 1) C dX6_cord_1 rfl rfl ?_
  refine r_callV0 (pc := 2) (As := [.int h]) (st := []) (θ' := wM M) C (c_X6_isHammock M h) xm_X6_isHammock xk_X6_181 dX6_cord_2 rfl rfl rfl rfl (Nat.le_of_ble_eq_true rfl) ⟨Nat.le_of_ble_eq_true rfl, Nat.le_of_ble_eq_true rfl⟩ ⟨rfl, rfl⟩ ⟨Nat.le_of_ble_eq_true rfl, Nat.le_of_ble_eq_true rfl⟩ rfl (Eq.trans (b := 14) rfl rfl) ?_
  show g 0 0 (wM M) 5 [some (.ref 0), some (.int h), some (.int c)] [.int (bB (inI h 0 (M 4 0 - 1)))]
  refine r_if_eq (pc := 5) (tgt := 15) C dX6_cord_5 (by decide) (fun h_5 => ?_) (fun h_5 => ?_)
  · replace h_5 := bB_f h_5
    refine r_ldc (pc := 15) (v := (-1000001)) C dX6_cord_15 tw_668 ?_
    show g 0 0 (wM M) 17 [some (.ref 0), some (.int h), some (.int c)] [.int (-1000001)]
    have hX : cordM M q h c = ((-1000001), M) := by simp only [cordM, h_5, if_true, if_false, Bool.false_eq_true]
    exact E _ _ _ _ _ _ dX6_cord_17 (Nat.le_refl _) (Nat.le_refl _) rfl ⟨by rw [hX], by rw [hX]⟩
  · replace h_5 := bB_t h_5
    obtain ⟨j, hj, rfl⟩ := in_ex hM.1 hM.2.1 h_5
    have hj6 : j < 6 := by have := hM.2.1; omega
    refine r_iload_n (pc := 8) C dX6_cord_8 rfl rfl ?_
    refine r_callS0 (pc := 9) (As := [.int c]) (st := []) C (c_X6_isTwo c) xm_X6_isTwo xk_X6_188 dX6_cord_9 (fun _ => rfl) (fun _ => rfl) rfl rfl (Nat.le_of_ble_eq_true rfl) ⟨Nat.le_of_ble_eq_true rfl, Nat.le_of_ble_eq_true rfl⟩ ⟨rfl, rfl⟩ ⟨Nat.le_of_ble_eq_true rfl, Nat.le_of_ble_eq_true rfl⟩ rfl ?_
    show g 0 0 (wM M) 12 [some (.ref 0), some (.int (nI j)), some (.int c)] [.int (bB (inI c 0 1))]
    refine r_if_ne (pc := 12) (tgt := 18) C dX6_cord_12 (by decide) (fun h_12 => ?_) (fun h_12 => ?_)
    · replace h_12 := bB_t h_12
      refine r_aload_n (pc := 18) C dX6_cord_18 rfl rfl ?_
      refine r_getfield (pc := 19) (v := .ref 4) C xf_X6_19 dX6_cord_19 rfl rfl ?_
      refine r_bipush (pc := 22) (v := 34) C dX6_cord_22 (by decide) ?_
      refine r_iaload (pc := 24) (v := M 4 34) C 34 dX6_cord_24 rfl (by decide) (by decide) rfl ?_
      refine r_iload_n (pc := 25) C dX6_cord_25 rfl rfl ?_
      refine r_callS0 (pc := 26) (As := [.int (M 4 34), .int (nI j)]) (st := []) C (c_X6_has (M 4 34) (nI j)) xm_X6_has xk_X6_143 dX6_cord_26 (fun _ => rfl) (fun _ => rfl) rfl rfl (Nat.le_of_ble_eq_true rfl) ⟨Nat.le_of_ble_eq_true rfl, Nat.le_of_ble_eq_true rfl⟩ ⟨rfl, rfl⟩ ⟨Nat.le_of_ble_eq_true rfl, Nat.le_of_ble_eq_true rfl⟩ rfl ?_
      show g 0 0 (wM M) 29 [some (.ref 0), some (.int (nI j)), some (.int c)] [.int (bB (hasS (M 4 34) (nI j)))]
      refine r_iload_n (pc := 29) C dX6_cord_29 rfl rfl ?_
      refine r_iconst (pc := 30) (v := 1) C dX6_cord_30 (by decide) ?_
      refine r_icmp_ne (pc := 31) (tgt := 38) C dX6_cord_31 (by decide) (fun h_31 => ?_) (fun h_31 => ?_)
      · skip
        refine r_iconst (pc := 38) (v := 0) C dX6_cord_38 (by decide) ?_
        refine r_icmp_ne (pc := 39) (tgt := 45) C dX6_cord_39 (by decide) (fun h_39 => ?_) (fun h_39 => ?_)
        · skip
          refine r_aload_n (pc := 45) C dX6_cord_45 rfl rfl ?_
          refine r_callV0 (pc := 46) (As := []) (st := []) (θ' := wM (up2 (up2 M 7 (rmP M q)) 8 (k1 (rmQ q)))) C (c_X6_remember M q hq hq24) xm_X6_remember xk_X6_174 dX6_cord_46 rfl rfl rfl rfl (Nat.le_of_ble_eq_true rfl) ⟨Nat.le_of_ble_eq_true rfl, Nat.le_of_ble_eq_true rfl⟩ ⟨rfl, rfl⟩ ⟨Nat.le_of_ble_eq_true rfl, Nat.le_of_ble_eq_true rfl⟩ rfl (Eq.trans (b := 14) rfl rfl) ?_
          show g 0 0 (wM (up2 (up2 M 7 (rmP M q)) 8 (k1 (rmQ q)))) 49 [some (.ref 0), some (.int (nI j)), some (.int c)] []
          refine r_aload_n (pc := 49) C dX6_cord_49 rfl rfl ?_
          refine r_getfield (pc := 50) (v := .ref 4) C xf_X6_19 dX6_cord_50 rfl rfl ?_
          refine r_bipush (pc := 53) (v := 34) C dX6_cord_53 (by decide) ?_
          refine r_dup2_11 (pc := 55) C dX6_cord_55 rfl rfl ?_
          refine r_iaload (pc := 56) (v := M 4 34) C 34 dX6_cord_56 rfl (by decide) (by decide) rfl ?_
          refine r_iconst (pc := 57) (v := 1) C dX6_cord_57 (by decide) ?_
          refine r_iload_n (pc := 58) C dX6_cord_58 rfl rfl ?_
          refine r_ishl (pc := 59) C dX6_cord_59 ?_
          refine r_ixor (pc := 60) C dX6_cord_60 ?_
          refine r_iastore (pc := 61) (θ' := wM (up2 (up2 (up2 M 7 (rmP M q)) 8 (k1 (rmQ q))) 4 (upd (M 4) 34 ((M 4 34) ^^^ (1 <<< ((nI j) &&& 31)))))) C 34 dX6_cord_61 rfl (by decide) (by decide) rfl ?_
          refine r_aload_n (pc := 62) C dX6_cord_62 rfl rfl ?_
          refine r_getfield (pc := 63) (v := .ref 4) C xf_X6_19 dX6_cord_63 rfl rfl ?_
          refine r_bipush (pc := 66) (v := 34) C dX6_cord_66 (by decide) ?_
          refine r_iaload (pc := 68) (v := M 4 34 ^^^ (1 <<< (nI j &&& 31))) C 34 dX6_cord_68 rfl (by decide) (by decide) (show upd (M 4) 34 (M 4 34 ^^^ (1 <<< (nI j &&& 31))) 34 = _ from pk_us) ?_
          show g 0 0 (wM (up2 (up2 (up2 M 7 (rmP M q)) 8 (k1 (rmQ q))) 4 (upd (M 4) 34 ((M 4 34) ^^^ (1 <<< ((nI j) &&& 31)))))) 69 [some (.ref 0), some (.int (nI j)), some (.int c)] [.int (M 4 34 ^^^ (1 <<< (nI j &&& 31)))]
          have hX : cordM M q (nI j) c = (M 4 34 ^^^ (1 <<< (nI j &&& 31)), (up2 (up2 (up2 M 7 (rmP M q)) 8 (k1 (rmQ q))) 4 (upd (M 4) 34 ((M 4 34) ^^^ (1 <<< ((nI j) &&& 31)))))) := by simp only [cordM, h_5, h_12, if_true, if_false, Bool.false_eq_true]; rw [if_neg (by simp only [h_31, if_true, if_false]; exact h_39)]
          exact E _ _ _ _ _ _ dX6_cord_69 (Nat.le_refl _) (Nat.le_refl _) rfl ⟨by rw [hX], by rw [hX]⟩
        · skip
          refine r_ldc (pc := 42) (v := (-1000002)) C dX6_cord_42 tw_747 ?_
          show g 0 0 (wM M) 44 [some (.ref 0), some (.int (nI j)), some (.int c)] [.int (-1000002)]
          have hX : cordM M q (nI j) c = ((-1000002), M) := by simp only [cordM, h_5, h_12, if_true, if_false, Bool.false_eq_true]; rw [if_pos (by simp only [h_31, if_true, if_false]; exact h_39)]
          exact E _ _ _ _ _ _ dX6_cord_44 (Nat.le_refl _) (Nat.le_refl _) rfl ⟨by rw [hX], by rw [hX]⟩
      · skip
        refine r_iconst (pc := 34) (v := 1) C dX6_cord_34 (by decide) ?_
        refine r_goto (pc := 35) (tgt := 39) C dX6_cord_35 (by decide) ?_
        refine r_icmp_ne (pc := 39) (tgt := 45) C dX6_cord_39 (by decide) (fun h_39 => ?_) (fun h_39 => ?_)
        · skip
          refine r_aload_n (pc := 45) C dX6_cord_45 rfl rfl ?_
          refine r_callV0 (pc := 46) (As := []) (st := []) (θ' := wM (up2 (up2 M 7 (rmP M q)) 8 (k1 (rmQ q)))) C (c_X6_remember M q hq hq24) xm_X6_remember xk_X6_174 dX6_cord_46 rfl rfl rfl rfl (Nat.le_of_ble_eq_true rfl) ⟨Nat.le_of_ble_eq_true rfl, Nat.le_of_ble_eq_true rfl⟩ ⟨rfl, rfl⟩ ⟨Nat.le_of_ble_eq_true rfl, Nat.le_of_ble_eq_true rfl⟩ rfl (Eq.trans (b := 14) rfl rfl) ?_
          show g 0 0 (wM (up2 (up2 M 7 (rmP M q)) 8 (k1 (rmQ q)))) 49 [some (.ref 0), some (.int (nI j)), some (.int c)] []
          refine r_aload_n (pc := 49) C dX6_cord_49 rfl rfl ?_
          refine r_getfield (pc := 50) (v := .ref 4) C xf_X6_19 dX6_cord_50 rfl rfl ?_
          refine r_bipush (pc := 53) (v := 34) C dX6_cord_53 (by decide) ?_
          refine r_dup2_11 (pc := 55) C dX6_cord_55 rfl rfl ?_
          refine r_iaload (pc := 56) (v := M 4 34) C 34 dX6_cord_56 rfl (by decide) (by decide) rfl ?_
          refine r_iconst (pc := 57) (v := 1) C dX6_cord_57 (by decide) ?_
          refine r_iload_n (pc := 58) C dX6_cord_58 rfl rfl ?_
          refine r_ishl (pc := 59) C dX6_cord_59 ?_
          refine r_ixor (pc := 60) C dX6_cord_60 ?_
          refine r_iastore (pc := 61) (θ' := wM (up2 (up2 (up2 M 7 (rmP M q)) 8 (k1 (rmQ q))) 4 (upd (M 4) 34 ((M 4 34) ^^^ (1 <<< ((nI j) &&& 31)))))) C 34 dX6_cord_61 rfl (by decide) (by decide) rfl ?_
          refine r_aload_n (pc := 62) C dX6_cord_62 rfl rfl ?_
          refine r_getfield (pc := 63) (v := .ref 4) C xf_X6_19 dX6_cord_63 rfl rfl ?_
          refine r_bipush (pc := 66) (v := 34) C dX6_cord_66 (by decide) ?_
          refine r_iaload (pc := 68) (v := M 4 34 ^^^ (1 <<< (nI j &&& 31))) C 34 dX6_cord_68 rfl (by decide) (by decide) (show upd (M 4) 34 (M 4 34 ^^^ (1 <<< (nI j &&& 31))) 34 = _ from pk_us) ?_
          show g 0 0 (wM (up2 (up2 (up2 M 7 (rmP M q)) 8 (k1 (rmQ q))) 4 (upd (M 4) 34 ((M 4 34) ^^^ (1 <<< ((nI j) &&& 31)))))) 69 [some (.ref 0), some (.int (nI j)), some (.int c)] [.int (M 4 34 ^^^ (1 <<< (nI j &&& 31)))]
          have hX : cordM M q (nI j) c = (M 4 34 ^^^ (1 <<< (nI j &&& 31)), (up2 (up2 (up2 M 7 (rmP M q)) 8 (k1 (rmQ q))) 4 (upd (M 4) 34 ((M 4 34) ^^^ (1 <<< ((nI j) &&& 31)))))) := by simp only [cordM, h_5, h_12, if_true, if_false, Bool.false_eq_true]; rw [if_neg (by simp only [h_31, if_true, if_false]; exact h_39)]
          exact E _ _ _ _ _ _ dX6_cord_69 (Nat.le_refl _) (Nat.le_refl _) rfl ⟨by rw [hX], by rw [hX]⟩
        · skip
          refine r_ldc (pc := 42) (v := (-1000002)) C dX6_cord_42 tw_747 ?_
          show g 0 0 (wM M) 44 [some (.ref 0), some (.int (nI j)), some (.int c)] [.int (-1000002)]
          have hX : cordM M q (nI j) c = ((-1000002), M) := by simp only [cordM, h_5, h_12, if_true, if_false, Bool.false_eq_true]; rw [if_pos (by simp only [h_31, if_true, if_false]; exact h_39)]
          exact E _ _ _ _ _ _ dX6_cord_44 (Nat.le_refl _) (Nat.le_refl _) rfl ⟨by rw [hX], by rw [hX]⟩
    · replace h_12 := bB_f h_12
      refine r_ldc (pc := 15) (v := (-1000001)) C dX6_cord_15 tw_668 ?_
      show g 0 0 (wM M) 17 [some (.ref 0), some (.int (nI j)), some (.int c)] [.int (-1000001)]
      have hX : cordM M q (nI j) c = ((-1000001), M) := by simp only [cordM, h_5, h_12, if_true, if_false, Bool.false_eq_true]
      exact E _ _ _ _ _ _ dX6_cord_17 (Nat.le_refl _) (Nat.le_refl _) rfl ⟨by rw [hX], by rw [hX]⟩
set_option maxHeartbeats 4000000 in
set_option maxRecDepth 100000 in
theorem c_X6_undo_0 (M : Nat → Nat → Int32) (hq : M 8 0 = 0) : MetA yX6_undo (.code yX6_undo cX6_undo 1 (some .int) :: TT) rmX6_undo [.ref 0] (wM M) (fun vr wr => vr = some (.int (-1000002)) ∧ wr = wM M) 0 0 := by
  refine MetA.of_i (by decide) (fun _ => Nat.le_of_ble_eq_true rfl) (Nat.le_of_ble_eq_true rfl) (fun g C E => ?_)
  replace C : Sem cX6_undo RX6 "undo" 1 rmX6_undo g := C
  show g 0 0 (wM M) 0 [some (.ref 0)] []
  refine r_aload_n (pc := 0) C dX6_undo_0 rfl rfl ?_
  refine r_getfield (pc := 1) (v := .int (M 8 0)) C xf_X6_136 dX6_undo_1 rfl rfl ?_
  refine r_if_ne (pc := 4) (tgt := 10) C dX6_undo_4 (by decide) (fun h => absurd hq h) (fun _ => ?_)
  refine r_ldc (pc := 7) (v := (-1000002)) C dX6_undo_7 tw_747 ?_
  exact E _ _ _ _ _ _ dX6_undo_9 (Nat.le_refl _) (Nat.le_refl _) rfl ⟨rfl, rfl⟩
set_option maxHeartbeats 4000000 in
set_option maxRecDepth 100000 in
theorem c_X6_undo (M : Nat → Nat → Int32) (q : Nat) (hq : M 8 0 = nI q) (hq0 : 0 < q) (hq24 : q ≤ 24) : MetA yX6_undo (.code yX6_undo cX6_undo 1 (some .int) :: TT) rmX6_undo [.ref 0] (wM M) (fun vr wr => vr = some (.int (nI (q - 1))) ∧ wr = wM (up2 (up2 M 8 (k1 (nI (q - 1)))) 4 (va_cpy (M 7) (M 4) (36 * (q - 1)) 0 36))) 0 0 := by
  refine MetA.of_i (by decide) (fun _ => Nat.le_of_ble_eq_true rfl) (Nat.le_of_ble_eq_true rfl) (fun g C E => ?_)
  replace C : Sem cX6_undo RX6 "undo" 1 rmX6_undo g := C
  show g 0 0 (wM M) 0 [some (.ref 0)] []
  refine r_aload_n (pc := 0) C dX6_undo_0 rfl rfl ?_
  refine r_getfield (pc := 1) (v := .int (M 8 0)) C xf_X6_136 dX6_undo_1 rfl rfl ?_
  refine r_if_ne (pc := 4) (tgt := 10) C dX6_undo_4 (by decide) (fun _ => ?_) (fun h => absurd h (by rw [hq]; exact nI_ne0 hq0 (by omega)))
  refine r_aload_n (pc := 10) C dX6_undo_10 rfl rfl ?_
  refine r_dup (pc := 11) C dX6_undo_11 rfl ?_
  refine r_getfield (pc := 12) (v := .int (M 8 0)) C xf_X6_136 dX6_undo_12 rfl rfl ?_
  refine r_iconst (pc := 15) (v := 1) C dX6_undo_15 (by decide) ?_
  refine r_isub (pc := 16) C dX6_undo_16 ?_
  show g 0 0 (wM M) 17 [some (.ref 0)] [.int ((M 8 0) - 1), .ref 0]
  rw [show ((M 8 0) - 1 : Int32) = nI (q - 1) from (nI_dif hq rfl (by omega))]
  refine r_putfield (pc := 17) (θ' := wM (up2 M 8 (k1 (nI (q - 1))))) C xf_X6_136 xt_X6_8 dX6_undo_17 rfl (Nat.le_of_ble_eq_true rfl) (fun _ => ⟨rfl, rfl⟩) rfl ?_
  refine r_aload_n (pc := 20) C dX6_undo_20 rfl rfl ?_
  refine r_getfield (pc := 21) (v := .ref 7) C xf_X6_28 dX6_undo_21 rfl rfl ?_
  refine r_bipush (pc := 24) (v := 36) C dX6_undo_24 (by decide) ?_
  refine r_aload_n (pc := 26) C dX6_undo_26 rfl rfl ?_
  refine r_getfield (pc := 27) (v := .int (nI (q - 1))) C xf_X6_136 dX6_undo_27 rfl rfl ?_
  refine r_imul (pc := 30) C dX6_undo_30 ?_
  rw [show (36 * (nI (q - 1)) : Int32) = nI (36 * (q - 1)) from (nI_prod (m := 36) rfl rfl)]
  refine r_aload_n (pc := 31) C dX6_undo_31 rfl rfl ?_
  refine r_getfield (pc := 32) (v := .ref 4) C xf_X6_19 dX6_undo_32 rfl rfl ?_
  refine r_iconst (pc := 35) (v := 0) C dX6_undo_35 (by decide) ?_
  refine r_callSD (pc := 36) (As := [.ref 7, .int (nI (36 * (q - 1))), .ref 4, .int 0]) (st := []) (θ2 := wM (up2 (up2 M 8 (k1 (nI (q - 1)))) 4 (va_cpy (M 7) (M 4) (36 * (q - 1)) 0 36))) (r2 := none) C [7, 4] (c_X6_copies 864 36 (by decide) (by decide) (M 7) (M 4) (36 * (q - 1)) 0 (by omega) (by omega)) xm_X6_copies xk_X6_132 dX6_undo_36 rfl (by decide) rfl rfl rfl (Nat.le_of_ble_eq_true rfl) ⟨Nat.le_of_ble_eq_true rfl, Nat.le_of_ble_eq_true rfl⟩ ⟨rfl, rfl⟩ ⟨Nat.le_of_ble_eq_true rfl, Nat.le_of_ble_eq_true rfl⟩ rfl (Eq.trans (b := 2) rfl rfl) rfl rfl ?_
  show g 0 0 (wM (up2 (up2 M 8 (k1 (nI (q - 1)))) 4 (va_cpy (M 7) (M 4) (36 * (q - 1)) 0 36))) 39 [some (.ref 0)] []
  refine r_aload_n (pc := 39) C dX6_undo_39 rfl rfl ?_
  refine r_getfield (pc := 40) (v := .int (nI (q - 1))) C xf_X6_136 dX6_undo_40 rfl rfl ?_
  exact E _ _ _ _ _ _ dX6_undo_43 (Nat.le_refl _) (Nat.le_refl _) rfl ⟨rfl, rfl⟩
