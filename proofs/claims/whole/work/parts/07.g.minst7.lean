def slingM (M : Nat → Nat → Int32) (q : Nat) (h a b : Int32) : Int32 × (Nat → Nat → Int32) := if inI h 0 (M 4 0 - 1) then (if inI a 0 11 then (if inI b 0 11 then (if a < b then (if M 4 (10 + h.toNatClampNeg) = a then (if M 4 (16 + h.toNatClampNeg) = b then (-1000002, M) else (plS (vw (upd (upd (M 4) (10 + h.toNatClampNeg) a) (16 + h.toNatClampNeg) b)) h.toNatClampNeg (M 4 35), up2 (up2 (up2 M 7 (rmP M q)) 8 (k1 (rmQ q))) 4 (upd (upd (M 4) (10 + h.toNatClampNeg) a) (16 + h.toNatClampNeg) b))) else (plS (vw (upd (upd (M 4) (10 + h.toNatClampNeg) a) (16 + h.toNatClampNeg) b)) h.toNatClampNeg (M 4 35), up2 (up2 (up2 M 7 (rmP M q)) 8 (k1 (rmQ q))) 4 (upd (upd (M 4) (10 + h.toNatClampNeg) a) (16 + h.toNatClampNeg) b))) else (-1000001, M)) else (-1000001, M)) else (-1000001, M)) else (-1000001, M)
theorem okK_2 {t : Nat → Int32} {k j i : Nat} {x : Int32} (hk : 10 ≤ k) (hi : i < 6) (h : okK (vw t) i) : okK (vw (upd t (k + j) x)) i := by
  have e : vw (upd t (k + j) x) 0 i = vw t 0 i := if_neg (by omega)
  unfold okK
  rw [e]
  exact h
theorem okW_2 {t : Nat → Int32} {k : Nat} {x : Int32} (hk : k < 28) (h : okWM (vw t)) : okWM (vw (upd t k x)) := by
  intro i hi
  have e : vw (upd t k x) 4 i = vw t 4 i := if_neg (by omega)
  rw [e]
  exact h i hi
set_option maxHeartbeats 4000000 in
set_option maxRecDepth 100000 in
theorem c_X6_sling (M : Nat → Nat → Int32) (h a b : Int32) (z : Nat) (hM : okM M z) (q : Nat) (hq : M 8 0 = nI q) (hq24 : q ≤ 24) : MetA yX6_sling (.code yX6_sling cX6_sling 4 (some .int) :: TT) rmX6_sling [.ref 0, .int h, .int a, .int b] (wM M) (fun vr wr => vr = some (.int (slingM M q h a b).1) ∧ wr = wM (slingM M q h a b).2) 0 0 := by
  refine MetA.of_i (by decide) (fun _ => Nat.le_of_ble_eq_true rfl) (Nat.le_of_ble_eq_true rfl) (fun g C E => ?_)
  replace C : Sem cX6_sling RX6 "sling" 4 rmX6_sling g := C
  show g 0 0 (wM M) 0 [some (.ref 0), some (.int h), some (.int a), some (.int b)] []
  refine r_aload_n (pc := 0) C dX6_sling_0 rfl rfl ?_
  refine r_iload_n (pc := 1) C dX6_sling_1 rfl rfl ?_
  refine r_callV0 (pc := 2) (As := [.int h]) (st := []) (θ' := wM M) C (c_X6_isHammock M h) xm_X6_isHammock xk_X6_181 dX6_sling_2 rfl rfl rfl rfl (Nat.le_of_ble_eq_true rfl) ⟨Nat.le_of_ble_eq_true rfl, Nat.le_of_ble_eq_true rfl⟩ ⟨rfl, rfl⟩ ⟨Nat.le_of_ble_eq_true rfl, Nat.le_of_ble_eq_true rfl⟩ rfl (Eq.trans (b := 14) rfl rfl) ?_
  show g 0 0 (wM M) 5 [some (.ref 0), some (.int h), some (.int a), some (.int b)] [.int (bB (inI h 0 (M 4 0 - 1)))]
  refine r_if_eq (pc := 5) (tgt := 37) C dX6_sling_5 (by decide) (fun h_5 => ?_) (fun h_5 => ?_)
  · replace h_5 := bB_f h_5
    refine r_ldc (pc := 37) (v := (-1000001)) C dX6_sling_37 tw_668 ?_
    show g 0 0 (wM M) 39 [some (.ref 0), some (.int h), some (.int a), some (.int b)] [.int (-1000001)]
    have hX : slingM M q h a b = ((-1000001), M) := by simp only [slingM, h_5, if_true, if_false, Bool.false_eq_true]
    exact E _ _ _ _ _ _ dX6_sling_39 (Nat.le_refl _) (Nat.le_refl _) rfl ⟨by rw [hX], by rw [hX]⟩
  · replace h_5 := bB_t h_5
    obtain ⟨j, hj, rfl⟩ := in_ex hM.1 hM.2.1 h_5
    have hj6 : j < 6 := by have := hM.2.1; omega
    refine r_iload_n (pc := 8) C dX6_sling_8 rfl rfl ?_
    refine r_i2l (pc := 9) (v := a.toInt64) C dX6_sling_9 rfl ?_
    refine r_lconst (pc := 10) (v := 0) C dX6_sling_10 (by decide) ?_
    refine r_ldc2 (pc := 11) (v := 11) C dX6_sling_11 tw_773 ?_
    refine r_callS0 (pc := 14) (As := [.long a.toInt64, .long 0, .long 11]) (st := []) C (c_X6_inI a 0 11 rfl (by decide) (by decide)) xm_X6_in xk_X6_57 dX6_sling_14 (fun _ => rfl) (fun _ => rfl) rfl rfl (Nat.le_of_ble_eq_true rfl) ⟨Nat.le_of_ble_eq_true rfl, Nat.le_of_ble_eq_true rfl⟩ ⟨rfl, rfl⟩ ⟨Nat.le_of_ble_eq_true rfl, Nat.le_of_ble_eq_true rfl⟩ rfl ?_
    show g 0 0 (wM M) 17 [some (.ref 0), some (.int (nI j)), some (.int a), some (.int b)] [.int (bB (inI a 0 11))]
    refine r_if_eq (pc := 17) (tgt := 37) C dX6_sling_17 (by decide) (fun h_17 => ?_) (fun h_17 => ?_)
    · replace h_17 := bB_f h_17
      refine r_ldc (pc := 37) (v := (-1000001)) C dX6_sling_37 tw_668 ?_
      show g 0 0 (wM M) 39 [some (.ref 0), some (.int (nI j)), some (.int a), some (.int b)] [.int (-1000001)]
      have hX : slingM M q (nI j) a b = ((-1000001), M) := by simp only [slingM, h_5, h_17, if_true, if_false, Bool.false_eq_true, nI_clamp (show j < 2 ^ 31 by omega)]
      exact E _ _ _ _ _ _ dX6_sling_39 (Nat.le_refl _) (Nat.le_refl _) rfl ⟨by rw [hX], by rw [hX]⟩
    · replace h_17 := bB_t h_17
      refine r_iload_n (pc := 20) C dX6_sling_20 rfl rfl ?_
      refine r_i2l (pc := 21) (v := b.toInt64) C dX6_sling_21 rfl ?_
      refine r_lconst (pc := 22) (v := 0) C dX6_sling_22 (by decide) ?_
      refine r_ldc2 (pc := 23) (v := 11) C dX6_sling_23 tw_773 ?_
      refine r_callS0 (pc := 26) (As := [.long b.toInt64, .long 0, .long 11]) (st := []) C (c_X6_inI b 0 11 rfl (by decide) (by decide)) xm_X6_in xk_X6_57 dX6_sling_26 (fun _ => rfl) (fun _ => rfl) rfl rfl (Nat.le_of_ble_eq_true rfl) ⟨Nat.le_of_ble_eq_true rfl, Nat.le_of_ble_eq_true rfl⟩ ⟨rfl, rfl⟩ ⟨Nat.le_of_ble_eq_true rfl, Nat.le_of_ble_eq_true rfl⟩ rfl ?_
      show g 0 0 (wM M) 29 [some (.ref 0), some (.int (nI j)), some (.int a), some (.int b)] [.int (bB (inI b 0 11))]
      refine r_if_eq (pc := 29) (tgt := 37) C dX6_sling_29 (by decide) (fun h_29 => ?_) (fun h_29 => ?_)
      · replace h_29 := bB_f h_29
        refine r_ldc (pc := 37) (v := (-1000001)) C dX6_sling_37 tw_668 ?_
        show g 0 0 (wM M) 39 [some (.ref 0), some (.int (nI j)), some (.int a), some (.int b)] [.int (-1000001)]
        have hX : slingM M q (nI j) a b = ((-1000001), M) := by simp only [slingM, h_5, h_17, h_29, if_true, if_false, Bool.false_eq_true, nI_clamp (show j < 2 ^ 31 by omega)]
        exact E _ _ _ _ _ _ dX6_sling_39 (Nat.le_refl _) (Nat.le_refl _) rfl ⟨by rw [hX], by rw [hX]⟩
      · replace h_29 := bB_t h_29
        refine r_iload_n (pc := 32) C dX6_sling_32 rfl rfl ?_
        refine r_iload_n (pc := 33) C dX6_sling_33 rfl rfl ?_
        refine r_icmp_gt (pc := 34) (tgt := 40) C dX6_sling_34 (by decide) (fun h_34 => ?_) (fun h_34 => ?_)
        · skip
          refine r_aload_n (pc := 40) C dX6_sling_40 rfl rfl ?_
          refine r_getfield (pc := 41) (v := .ref 4) C xf_X6_19 dX6_sling_41 rfl rfl ?_
          refine r_bipush (pc := 44) (v := 10) C dX6_sling_44 (by decide) ?_
          refine r_iload_n (pc := 46) C dX6_sling_46 rfl rfl ?_
          refine r_iadd (pc := 47) C dX6_sling_47 ?_
          refine r_iaload (pc := 48) (v := M 4 (10 + j)) C (10 + j) dX6_sling_48 rfl (nI_sum rfl rfl) (by first | assumption | omega) rfl ?_
          refine r_iload_n (pc := 49) C dX6_sling_49 rfl rfl ?_
          refine r_icmp_ne (pc := 50) (tgt := 69) C dX6_sling_50 (by decide) (fun h_50 => ?_) (fun h_50 => ?_)
          · skip
            refine r_aload_n (pc := 69) C dX6_sling_69 rfl rfl ?_
            refine r_callV0 (pc := 70) (As := []) (st := []) (θ' := wM (up2 (up2 M 7 (rmP M q)) 8 (k1 (rmQ q)))) C (c_X6_remember M q hq hq24) xm_X6_remember xk_X6_174 dX6_sling_70 rfl rfl rfl rfl (Nat.le_of_ble_eq_true rfl) ⟨Nat.le_of_ble_eq_true rfl, Nat.le_of_ble_eq_true rfl⟩ ⟨rfl, rfl⟩ ⟨Nat.le_of_ble_eq_true rfl, Nat.le_of_ble_eq_true rfl⟩ rfl (Eq.trans (b := 14) rfl rfl) ?_
            show g 0 0 (wM (up2 (up2 M 7 (rmP M q)) 8 (k1 (rmQ q)))) 73 [some (.ref 0), some (.int (nI j)), some (.int a), some (.int b)] []
            refine r_aload_n (pc := 73) C dX6_sling_73 rfl rfl ?_
            refine r_getfield (pc := 74) (v := .ref 4) C xf_X6_19 dX6_sling_74 rfl rfl ?_
            refine r_bipush (pc := 77) (v := 10) C dX6_sling_77 (by decide) ?_
            refine r_iload_n (pc := 79) C dX6_sling_79 rfl rfl ?_
            refine r_iadd (pc := 80) C dX6_sling_80 ?_
            refine r_iload_n (pc := 81) C dX6_sling_81 rfl rfl ?_
            refine r_iastore (pc := 82) (θ' := wM (up2 (up2 (up2 M 7 (rmP M q)) 8 (k1 (rmQ q))) 4 (upd (M 4) (10 + j) a))) C (10 + j) dX6_sling_82 rfl (nI_sum rfl rfl) (by first | assumption | omega) rfl ?_
            refine r_aload_n (pc := 83) C dX6_sling_83 rfl rfl ?_
            refine r_getfield (pc := 84) (v := .ref 4) C xf_X6_19 dX6_sling_84 rfl rfl ?_
            refine r_bipush (pc := 87) (v := 16) C dX6_sling_87 (by decide) ?_
            refine r_iload_n (pc := 89) C dX6_sling_89 rfl rfl ?_
            refine r_iadd (pc := 90) C dX6_sling_90 ?_
            refine r_iload_n (pc := 91) C dX6_sling_91 rfl rfl ?_
            refine r_iastore (pc := 92) (θ' := wM (up2 (up2 (up2 M 7 (rmP M q)) 8 (k1 (rmQ q))) 4 (upd (upd (M 4) (10 + j) a) (16 + j) b))) C (16 + j) dX6_sling_92 rfl (nI_sum rfl rfl) (by first | assumption | omega) rfl ?_
            refine r_aload_n (pc := 93) C dX6_sling_93 rfl rfl ?_
            refine r_getfield (pc := 94) (v := .ref 4) C xf_X6_19 dX6_sling_94 rfl rfl ?_
            refine r_iload_n (pc := 97) C dX6_sling_97 rfl rfl ?_
            refine r_aload_n (pc := 98) C dX6_sling_98 rfl rfl ?_
            refine r_getfield (pc := 99) (v := .ref 4) C xf_X6_19 dX6_sling_99 rfl rfl ?_
            refine r_bipush (pc := 102) (v := 35) C dX6_sling_102 (by decide) ?_
            refine r_iaload (pc := 104) (v := M 4 35) C 35 dX6_sling_104 rfl (by decide) (by decide) ((upd_35 (by omega)).trans (upd_35 (by omega))) ?_
            refine r_callSD (pc := 105) (As := [.ref 4, .int (nI j), .int (M 4 35)]) (st := []) (θ2 := wM (up2 (up2 (up2 M 7 (rmP M q)) 8 (k1 (rmQ q))) 4 (upd (upd (M 4) (10 + j) a) (16 + j) b))) (r2 := some (.int (plS (vw (upd (upd (M 4) (10 + j) a) (16 + j) b)) j (M 4 35)))) C [4] (c_X6_where (upd (upd (M 4) (10 + j) a) (16 + j) b) j (by omega) (M 4 35) (okK_2 (by omega) (by omega) (okK_2 (by omega) (by omega) (hM.2.2.2 j (by omega)))) (okW_2 (by omega) (okW_2 (by omega) hM.2.2.1))) xm_X6_where xk_X6_155 dX6_sling_105 rfl (by decide) rfl rfl rfl (Nat.le_of_ble_eq_true rfl) ⟨Nat.le_of_ble_eq_true rfl, Nat.le_of_ble_eq_true rfl⟩ ⟨rfl, rfl⟩ ⟨Nat.le_of_ble_eq_true rfl, Nat.le_of_ble_eq_true rfl⟩ rfl (Eq.trans (b := 1) rfl rfl) rfl rfl ?_
            show g 0 0 (wM (up2 (up2 (up2 M 7 (rmP M q)) 8 (k1 (rmQ q))) 4 (upd (upd (M 4) (10 + j) a) (16 + j) b))) 108 [some (.ref 0), some (.int (nI j)), some (.int a), some (.int b)] [.int (plS (vw (upd (upd (M 4) (10 + j) a) (16 + j) b)) j (M 4 35))]
            show g 0 0 (wM (up2 (up2 (up2 M 7 (rmP M q)) 8 (k1 (rmQ q))) 4 (upd (upd (M 4) (10 + j) a) (16 + j) b))) 108 [some (.ref 0), some (.int (nI j)), some (.int a), some (.int b)] [.int (plS (vw (upd (upd (M 4) (10 + j) a) (16 + j) b)) j (M 4 35))]
            have hX : slingM M q (nI j) a b = (plS (vw (upd (upd (M 4) (10 + j) a) (16 + j) b)) j (M 4 35), (up2 (up2 (up2 M 7 (rmP M q)) 8 (k1 (rmQ q))) 4 (upd (upd (M 4) (10 + j) a) (16 + j) b))) := by simp only [slingM, h_5, h_17, h_29, h_34, h_50, if_true, if_false, Bool.false_eq_true, nI_clamp (show j < 2 ^ 31 by omega)]
            exact E _ _ _ _ _ _ dX6_sling_108 (Nat.le_refl _) (Nat.le_refl _) rfl ⟨by rw [hX], by rw [hX]⟩
          · skip
            refine r_aload_n (pc := 53) C dX6_sling_53 rfl rfl ?_
            refine r_getfield (pc := 54) (v := .ref 4) C xf_X6_19 dX6_sling_54 rfl rfl ?_
            refine r_bipush (pc := 57) (v := 16) C dX6_sling_57 (by decide) ?_
            refine r_iload_n (pc := 59) C dX6_sling_59 rfl rfl ?_
            refine r_iadd (pc := 60) C dX6_sling_60 ?_
            refine r_iaload (pc := 61) (v := M 4 (16 + j)) C (16 + j) dX6_sling_61 rfl (nI_sum rfl rfl) (by first | assumption | omega) rfl ?_
            refine r_iload_n (pc := 62) C dX6_sling_62 rfl rfl ?_
            refine r_icmp_ne (pc := 63) (tgt := 69) C dX6_sling_63 (by decide) (fun h_63 => ?_) (fun h_63 => ?_)
            · skip
              refine r_aload_n (pc := 69) C dX6_sling_69 rfl rfl ?_
              refine r_callV0 (pc := 70) (As := []) (st := []) (θ' := wM (up2 (up2 M 7 (rmP M q)) 8 (k1 (rmQ q)))) C (c_X6_remember M q hq hq24) xm_X6_remember xk_X6_174 dX6_sling_70 rfl rfl rfl rfl (Nat.le_of_ble_eq_true rfl) ⟨Nat.le_of_ble_eq_true rfl, Nat.le_of_ble_eq_true rfl⟩ ⟨rfl, rfl⟩ ⟨Nat.le_of_ble_eq_true rfl, Nat.le_of_ble_eq_true rfl⟩ rfl (Eq.trans (b := 14) rfl rfl) ?_
              show g 0 0 (wM (up2 (up2 M 7 (rmP M q)) 8 (k1 (rmQ q)))) 73 [some (.ref 0), some (.int (nI j)), some (.int a), some (.int b)] []
              refine r_aload_n (pc := 73) C dX6_sling_73 rfl rfl ?_
              refine r_getfield (pc := 74) (v := .ref 4) C xf_X6_19 dX6_sling_74 rfl rfl ?_
              refine r_bipush (pc := 77) (v := 10) C dX6_sling_77 (by decide) ?_
              refine r_iload_n (pc := 79) C dX6_sling_79 rfl rfl ?_
              refine r_iadd (pc := 80) C dX6_sling_80 ?_
              refine r_iload_n (pc := 81) C dX6_sling_81 rfl rfl ?_
              refine r_iastore (pc := 82) (θ' := wM (up2 (up2 (up2 M 7 (rmP M q)) 8 (k1 (rmQ q))) 4 (upd (M 4) (10 + j) a))) C (10 + j) dX6_sling_82 rfl (nI_sum rfl rfl) (by first | assumption | omega) rfl ?_
              refine r_aload_n (pc := 83) C dX6_sling_83 rfl rfl ?_
              refine r_getfield (pc := 84) (v := .ref 4) C xf_X6_19 dX6_sling_84 rfl rfl ?_
              refine r_bipush (pc := 87) (v := 16) C dX6_sling_87 (by decide) ?_
              refine r_iload_n (pc := 89) C dX6_sling_89 rfl rfl ?_
              refine r_iadd (pc := 90) C dX6_sling_90 ?_
              refine r_iload_n (pc := 91) C dX6_sling_91 rfl rfl ?_
              refine r_iastore (pc := 92) (θ' := wM (up2 (up2 (up2 M 7 (rmP M q)) 8 (k1 (rmQ q))) 4 (upd (upd (M 4) (10 + j) a) (16 + j) b))) C (16 + j) dX6_sling_92 rfl (nI_sum rfl rfl) (by first | assumption | omega) rfl ?_
              refine r_aload_n (pc := 93) C dX6_sling_93 rfl rfl ?_
              refine r_getfield (pc := 94) (v := .ref 4) C xf_X6_19 dX6_sling_94 rfl rfl ?_
              refine r_iload_n (pc := 97) C dX6_sling_97 rfl rfl ?_
              refine r_aload_n (pc := 98) C dX6_sling_98 rfl rfl ?_
              refine r_getfield (pc := 99) (v := .ref 4) C xf_X6_19 dX6_sling_99 rfl rfl ?_
              refine r_bipush (pc := 102) (v := 35) C dX6_sling_102 (by decide) ?_
              refine r_iaload (pc := 104) (v := M 4 35) C 35 dX6_sling_104 rfl (by decide) (by decide) ((upd_35 (by omega)).trans (upd_35 (by omega))) ?_
              refine r_callSD (pc := 105) (As := [.ref 4, .int (nI j), .int (M 4 35)]) (st := []) (θ2 := wM (up2 (up2 (up2 M 7 (rmP M q)) 8 (k1 (rmQ q))) 4 (upd (upd (M 4) (10 + j) a) (16 + j) b))) (r2 := some (.int (plS (vw (upd (upd (M 4) (10 + j) a) (16 + j) b)) j (M 4 35)))) C [4] (c_X6_where (upd (upd (M 4) (10 + j) a) (16 + j) b) j (by omega) (M 4 35) (okK_2 (by omega) (by omega) (okK_2 (by omega) (by omega) (hM.2.2.2 j (by omega)))) (okW_2 (by omega) (okW_2 (by omega) hM.2.2.1))) xm_X6_where xk_X6_155 dX6_sling_105 rfl (by decide) rfl rfl rfl (Nat.le_of_ble_eq_true rfl) ⟨Nat.le_of_ble_eq_true rfl, Nat.le_of_ble_eq_true rfl⟩ ⟨rfl, rfl⟩ ⟨Nat.le_of_ble_eq_true rfl, Nat.le_of_ble_eq_true rfl⟩ rfl (Eq.trans (b := 1) rfl rfl) rfl rfl ?_
              show g 0 0 (wM (up2 (up2 (up2 M 7 (rmP M q)) 8 (k1 (rmQ q))) 4 (upd (upd (M 4) (10 + j) a) (16 + j) b))) 108 [some (.ref 0), some (.int (nI j)), some (.int a), some (.int b)] [.int (plS (vw (upd (upd (M 4) (10 + j) a) (16 + j) b)) j (M 4 35))]
              show g 0 0 (wM (up2 (up2 (up2 M 7 (rmP M q)) 8 (k1 (rmQ q))) 4 (upd (upd (M 4) (10 + j) a) (16 + j) b))) 108 [some (.ref 0), some (.int (nI j)), some (.int a), some (.int b)] [.int (plS (vw (upd (upd (M 4) (10 + j) a) (16 + j) b)) j (M 4 35))]
              have hX : slingM M q (nI j) a b = (plS (vw (upd (upd (M 4) (10 + j) a) (16 + j) b)) j (M 4 35), (up2 (up2 (up2 M 7 (rmP M q)) 8 (k1 (rmQ q))) 4 (upd (upd (M 4) (10 + j) a) (16 + j) b))) := by simp only [slingM, h_5, h_17, h_29, h_34, h_50, h_63, if_true, if_false, Bool.false_eq_true, nI_clamp (show j < 2 ^ 31 by omega)]
              exact E _ _ _ _ _ _ dX6_sling_108 (Nat.le_refl _) (Nat.le_refl _) rfl ⟨by rw [hX], by rw [hX]⟩
            · skip
              refine r_ldc (pc := 66) (v := (-1000002)) C dX6_sling_66 tw_747 ?_
              show g 0 0 (wM M) 68 [some (.ref 0), some (.int (nI j)), some (.int a), some (.int b)] [.int (-1000002)]
              have hX : slingM M q (nI j) a b = ((-1000002), M) := by simp only [slingM, h_5, h_17, h_29, h_34, h_50, h_63, if_true, if_false, Bool.false_eq_true, nI_clamp (show j < 2 ^ 31 by omega)]
              exact E _ _ _ _ _ _ dX6_sling_68 (Nat.le_refl _) (Nat.le_refl _) rfl ⟨by rw [hX], by rw [hX]⟩
        · skip
          refine r_ldc (pc := 37) (v := (-1000001)) C dX6_sling_37 tw_668 ?_
          show g 0 0 (wM M) 39 [some (.ref 0), some (.int (nI j)), some (.int a), some (.int b)] [.int (-1000001)]
          have hX : slingM M q (nI j) a b = ((-1000001), M) := by simp only [slingM, h_5, h_17, h_29, h_34, if_true, if_false, Bool.false_eq_true, nI_clamp (show j < 2 ^ 31 by omega)]
          exact E _ _ _ _ _ _ dX6_sling_39 (Nat.le_refl _) (Nat.le_refl _) rfl ⟨by rw [hX], by rw [hX]⟩
