theorem span_ex {sz i n : Int32} {s : Nat} (hs : sz = nI s) (h40 : s ≤ 40) (h : spanS sz i n = true) : ∃ a b, i = nI a ∧ n = nI b ∧ a + b ≤ s := by
  subst hs
  unfold spanS at h
  simp only [Bool.and_eq_true, Bool.not_eq_true', decide_eq_false_iff_not] at h
  obtain ⟨⟨⟨h1, h2⟩, h3⟩, h4⟩ := h
  obtain ⟨b, hb, rfl⟩ := nI_of h2
  obtain ⟨a, ha, rfl⟩ := nI_of h1
  have hb2 : b ≤ s := (nI_leI hb (by omega)).mp (Int32.not_lt.mp h3)
  have e : nI s - nI b = nI (s - b) := pk_sub hb2
  rw [e] at h4
  have := (nI_leI ha (by omega)).mp (Int32.not_lt.mp h4)
  exact ⟨a, b, rfl, rfl, by omega⟩
theorem span_ex2 {sz i : Int32} {s n : Nat} (hn : n < 2 ^ 31) (hs : sz = nI s) (h40 : s ≤ 40) (h : spanS sz i (nI n) = true) : ∃ a, i = nI a ∧ a + n ≤ s := by
  obtain ⟨a, b, h1, h2, h3⟩ := span_ex hs h40 h
  have := (nI_eq hn (by omega)).mp h2
  exact ⟨a, h1, by omega⟩
def copyC (S : Nat → Nat → Nat → Int32) (a i b j n : Int32) : Int32 × (Nat → Nat → Nat → Int32) := (if (belS a 8) = true then (if (belS b 8) = true then (if ((S ((ix a) + 8)) 1 0) = (-1) then ((-1000010) - 1, (up3 S 0 (up2 (S 0) 9 (k1 1)))) else (if ((S ((ix b) + 8)) 1 0) = (-1) then ((-1000010) - 1, (up3 S 0 (up2 (S 0) 9 (k1 1)))) else (if ((S ((ix a) + 8)) 1 0) = ((S ((ix b) + 8)) 1 0) then (if (spanS (S ((ix a) + 8) 2 0) i n) = true then (if (spanS (S ((ix b) + 8) 2 0) j n) = true then (n, (up3 (up3 S 0 (up2 (S 0) 9 (k1 0))) ((ix b) + 8) (up2 (S ((ix b) + 8)) 0 (va_cpy (S ((ix a) + 8) 0) (S ((ix b) + 8) 0) (ix i) (ix j) (ix n))))) else ((-1000010) - 2, (up3 S 0 (up2 (S 0) 9 (k1 2))))) else ((-1000010) - 2, (up3 S 0 (up2 (S 0) 9 (k1 2))))) else ((-1000010) - 5, (up3 S 0 (up2 (S 0) 9 (k1 5))))))) else ((-1000001), S)) else ((-1000001), S))
set_option maxHeartbeats 4000000 in
set_option maxRecDepth 100000 in
theorem c_X5_copy (S : Nat → Nat → Nat → Int32) (a i b j n : Int32) (hsz : ∀ j, j < 8 → S (j + 8) 2 0 = nI (S (j + 8) 2 0).toNatClampNeg ∧ (S (j + 8) 2 0).toNatClampNeg ≤ 40) : MetA yX5_copy (.code yX5_copy cX5_copy 8 (some .int) :: TT) rmX5_copy [.ref 0, .int a, .int i, .int b, .int j, .int n] (wC S) (fun vr wr => vr = some (.int (copyC S a i b j n).1) ∧ wr = wC (copyC S a i b j n).2) 0 0 := by
  refine MetA.of_i (by decide) (fun _ => Nat.le_of_ble_eq_true rfl) (Nat.le_of_ble_eq_true rfl) (fun g C E => ?_)
  replace C : Sem cX5_copy RX5 "copy" 8 rmX5_copy g := C
  show g 0 0 (wC S) 0 [some (.ref 0), some (.int a), some (.int i), some (.int b), some (.int j), some (.int n), none, none] []
  refine r_iload_n (pc := 0) C dX5_copy_0 rfl rfl ?_
  refine r_callS0 (pc := 1) (As := [.int a]) (st := []) C (c_X5_isRow a) xm_X5_isRow xk_X5_55 dX5_copy_1 (fun _ => rfl) (fun _ => rfl) rfl rfl (Nat.le_of_ble_eq_true rfl) ⟨Nat.le_of_ble_eq_true rfl, Nat.le_of_ble_eq_true rfl⟩ ⟨rfl, rfl⟩ ⟨Nat.le_of_ble_eq_true rfl, Nat.le_of_ble_eq_true rfl⟩ rfl ?_
  show g 0 0 (wC S) 4 [some (.ref 0), some (.int a), some (.int i), some (.int b), some (.int j), some (.int n), none, none] [.int (bB (belS a 8))]
  refine r_if_eq (pc := 4) (tgt := 14) C dX5_copy_4 (by decide) (fun h_4 => ?_) (fun h_4 => ?_)
  · replace h_4 := bB_f h_4
    refine r_ldc (pc := 14) (v := (-1000001)) C dX5_copy_14 tw_216 ?_
    show g 0 0 (wC S) 16 [some (.ref 0), some (.int a), some (.int i), some (.int b), some (.int j), some (.int n), none, none] [.int (-1000001)]
    have hX : copyC S a i b j n = ((-1000001), S) := by
      unfold copyC
      rw [if_neg (nbt h_4)]
    exact E _ _ _ _ _ _ dX5_copy_16 (Nat.le_refl _) (Nat.le_refl _) rfl ⟨by rw [hX], by rw [hX]⟩
  · replace h_4 := bB_t h_4
    obtain ⟨ja, hja, rfl⟩ := bel_ex (z := 8) rfl (by omega) h_4
    refine r_iload_n (pc := 7) C dX5_copy_7 rfl rfl ?_
    refine r_callS0 (pc := 8) (As := [.int b]) (st := []) C (c_X5_isRow b) xm_X5_isRow xk_X5_55 dX5_copy_8 (fun _ => rfl) (fun _ => rfl) rfl rfl (Nat.le_of_ble_eq_true rfl) ⟨Nat.le_of_ble_eq_true rfl, Nat.le_of_ble_eq_true rfl⟩ ⟨rfl, rfl⟩ ⟨Nat.le_of_ble_eq_true rfl, Nat.le_of_ble_eq_true rfl⟩ rfl ?_
    show g 0 0 (wC S) 11 [some (.ref 0), some (.int (nI ja)), some (.int i), some (.int b), some (.int j), some (.int n), none, none] [.int (bB (belS b 8))]
    refine r_if_ne (pc := 11) (tgt := 17) C dX5_copy_11 (by decide) (fun h_11 => ?_) (fun h_11 => ?_)
    · replace h_11 := bB_t h_11
      obtain ⟨jb, hjb, rfl⟩ := bel_ex (z := 8) rfl (by omega) h_11
      refine r_aload_n (pc := 17) C dX5_copy_17 rfl rfl ?_
      refine r_getfield (pc := 18) (v := .ref 1) C xf_X5_11 dX5_copy_18 rfl rfl ?_
      refine r_iload_n (pc := 21) C dX5_copy_21 rfl rfl ?_
      refine r_aaload (pc := 22) (b := 2 + 2 * ja) C ja dX5_copy_22 rfl (fun _ => rfl) rfl (by first | assumption | omega) rfl ?_
      refine r_astore (pc := 23) (lv' := [some (.ref 0), some (.int (nI ja)), some (.int i), some (.int (nI jb)), some (.int j), some (.int n), some (.ref (2 + 2 * ja)), none]) C dX5_copy_23 (Nat.le_of_ble_eq_true rfl) trivial rfl ?_
      refine r_aload_n (pc := 25) C dX5_copy_25 rfl rfl ?_
      refine r_getfield (pc := 26) (v := .ref 1) C xf_X5_11 dX5_copy_26 rfl rfl ?_
      refine r_iload_n (pc := 29) C dX5_copy_29 rfl rfl ?_
      refine r_aaload (pc := 30) (b := 2 + 2 * jb) C jb dX5_copy_30 rfl (fun _ => rfl) rfl (by first | assumption | omega) rfl ?_
      refine r_astore (pc := 31) (lv' := [some (.ref 0), some (.int (nI ja)), some (.int i), some (.int (nI jb)), some (.int j), some (.int n), some (.ref (2 + 2 * ja)), some (.ref (2 + 2 * jb))]) C dX5_copy_31 (Nat.le_of_ble_eq_true rfl) trivial rfl ?_
      refine r_aload (pc := 33) C dX5_copy_33 rfl ?_
      refine r_getfield (pc := 35) (v := .int ((S (ja + 8)) 1 0)) C xf_X5_76 dX5_copy_35 (wC_r0 S ja (by omega)) rfl ?_
      refine r_iconst (pc := 38) (v := (-1)) C dX5_copy_38 (by decide) ?_
      refine r_icmp_eq (pc := 39) (tgt := 51) C dX5_copy_39 (by decide) (fun h_39 => ?_) (fun h_39 => ?_)
      · skip
        refine r_aload_n (pc := 51) C dX5_copy_51 rfl rfl ?_
        refine r_iconst (pc := 52) (v := 1) C dX5_copy_52 (by decide) ?_
        refine r_callV0 (pc := 53) (As := [.int 1]) (st := []) (θ' := wC (up3 S 0 (up2 (S 0) 9 (k1 1)))) C (c_X5_finds S 1) xm_X5_finds xk_X5_64 dX5_copy_53 rfl rfl rfl rfl (Nat.le_of_ble_eq_true rfl) ⟨Nat.le_of_ble_eq_true rfl, Nat.le_of_ble_eq_true rfl⟩ ⟨rfl, rfl⟩ ⟨Nat.le_of_ble_eq_true rfl, Nat.le_of_ble_eq_true rfl⟩ rfl (Eq.trans (b := 55) rfl rfl) ?_
        show g 0 0 (wC (up3 S 0 (up2 (S 0) 9 (k1 1)))) 56 [some (.ref 0), some (.int (nI ja)), some (.int i), some (.int (nI jb)), some (.int j), some (.int n), some (.ref (2 + 2 * ja)), some (.ref (2 + 2 * jb))] [.int ((-1000010) - 1)]
        show g 0 0 (wC (up3 S 0 (up2 (S 0) 9 (k1 1)))) 56 [some (.ref 0), some (.int (nI ja)), some (.int i), some (.int (nI jb)), some (.int j), some (.int n), some (.ref (2 + 2 * ja)), some (.ref (2 + 2 * jb))] [.int ((-1000010) - 1)]
        have hX : copyC S (nI ja) i (nI jb) j n = ((-1000010) - 1, (up3 S 0 (up2 (S 0) 9 (k1 1)))) := by
          unfold copyC
          (try rw [ix_nI (show ja < 2 ^ 31 by omega)])
          (try rw [ix_nI (show jb < 2 ^ 31 by omega)])
          rw [if_pos h_4, if_pos h_11, if_pos h_39]
        exact E _ _ _ _ _ _ dX5_copy_56 (Nat.le_refl _) (Nat.le_refl _) rfl ⟨by rw [hX], by rw [hX]⟩
      · skip
        refine r_aload (pc := 42) C dX5_copy_42 rfl ?_
        refine r_getfield (pc := 44) (v := .int ((S (jb + 8)) 1 0)) C xf_X5_76 dX5_copy_44 (wC_r0 S jb (by omega)) rfl ?_
        refine r_iconst (pc := 47) (v := (-1)) C dX5_copy_47 (by decide) ?_
        refine r_icmp_ne (pc := 48) (tgt := 57) C dX5_copy_48 (by decide) (fun h_48 => ?_) (fun h_48 => ?_)
        · skip
          refine r_aload (pc := 57) C dX5_copy_57 rfl ?_
          refine r_getfield (pc := 59) (v := .int ((S (ja + 8)) 1 0)) C xf_X5_76 dX5_copy_59 (wC_r0 S ja (by omega)) rfl ?_
          refine r_aload (pc := 62) C dX5_copy_62 rfl ?_
          refine r_getfield (pc := 64) (v := .int ((S (jb + 8)) 1 0)) C xf_X5_76 dX5_copy_64 (wC_r0 S jb (by omega)) rfl ?_
          refine r_icmp_eq (pc := 67) (tgt := 76) C dX5_copy_67 (by decide) (fun h_67 => ?_) (fun h_67 => ?_)
          · skip
            refine r_aload (pc := 76) C dX5_copy_76 rfl ?_
            refine r_iload_n (pc := 78) C dX5_copy_78 rfl rfl ?_
            refine r_iload (pc := 79) C dX5_copy_79 rfl ?_
            refine r_callVD (pc := 81) (b := 2 + 2 * ja) (As := [.int i, .int n]) (st := []) (θ2 := wC S) (r2 := some (.int (bB (spanS (S (ja + 8) 2 0) i n)))) C [2 + 2 * ja, 2 + 2 * ja + 1] (c_X3_hasSpan (S (ja + 8)) i n) xm_X3_hasSpan xk_X5_88 dX5_copy_81 (wC_rT S ja (by omega)) (wC_rnd ja (by omega)) rfl (wC_r0 S ja (by omega)) rfl rfl rfl (Nat.le_of_ble_eq_true rfl) ⟨Nat.le_of_ble_eq_true rfl, Nat.le_of_ble_eq_true rfl⟩ ⟨rfl, rfl⟩ ⟨Nat.le_of_ble_eq_true rfl, Nat.le_of_ble_eq_true rfl⟩ rfl (Eq.trans (b := 2) rfl rfl) (wC_rid S ja (by omega)) rfl ?_
            show g 0 0 (wC S) 84 [some (.ref 0), some (.int (nI ja)), some (.int i), some (.int (nI jb)), some (.int j), some (.int n), some (.ref (2 + 2 * ja)), some (.ref (2 + 2 * jb))] [.int (bB (spanS (S (ja + 8) 2 0) i n))]
            refine r_if_eq (pc := 84) (tgt := 99) C dX5_copy_84 (by decide) (fun h_84 => ?_) (fun h_84 => ?_)
            · replace h_84 := bB_f h_84
              refine r_aload_n (pc := 99) C dX5_copy_99 rfl rfl ?_
              refine r_iconst (pc := 100) (v := 2) C dX5_copy_100 (by decide) ?_
              refine r_callV0 (pc := 101) (As := [.int 2]) (st := []) (θ' := wC (up3 S 0 (up2 (S 0) 9 (k1 2)))) C (c_X5_finds S 2) xm_X5_finds xk_X5_64 dX5_copy_101 rfl rfl rfl rfl (Nat.le_of_ble_eq_true rfl) ⟨Nat.le_of_ble_eq_true rfl, Nat.le_of_ble_eq_true rfl⟩ ⟨rfl, rfl⟩ ⟨Nat.le_of_ble_eq_true rfl, Nat.le_of_ble_eq_true rfl⟩ rfl (Eq.trans (b := 55) rfl rfl) ?_
              show g 0 0 (wC (up3 S 0 (up2 (S 0) 9 (k1 2)))) 104 [some (.ref 0), some (.int (nI ja)), some (.int i), some (.int (nI jb)), some (.int j), some (.int n), some (.ref (2 + 2 * ja)), some (.ref (2 + 2 * jb))] [.int ((-1000010) - 2)]
              show g 0 0 (wC (up3 S 0 (up2 (S 0) 9 (k1 2)))) 104 [some (.ref 0), some (.int (nI ja)), some (.int i), some (.int (nI jb)), some (.int j), some (.int n), some (.ref (2 + 2 * ja)), some (.ref (2 + 2 * jb))] [.int ((-1000010) - 2)]
              have hX : copyC S (nI ja) i (nI jb) j n = ((-1000010) - 2, (up3 S 0 (up2 (S 0) 9 (k1 2)))) := by
                unfold copyC
                (try rw [ix_nI (show ja < 2 ^ 31 by omega)])
                (try rw [ix_nI (show jb < 2 ^ 31 by omega)])
                rw [if_pos h_4, if_pos h_11, if_neg h_39, if_neg h_48, if_pos h_67, if_neg (nbt h_84)]
              exact E _ _ _ _ _ _ dX5_copy_104 (Nat.le_refl _) (Nat.le_refl _) rfl ⟨by rw [hX], by rw [hX]⟩
            · replace h_84 := bB_t h_84
              obtain ⟨ki, kn, rfl, rfl, hkin⟩ := span_ex (hsz ja (by omega)).1 (hsz ja (by omega)).2 h_84
              have hk40 : ki + kn ≤ 40 := by have := (hsz ja (by omega)).2; omega
              refine r_aload (pc := 87) C dX5_copy_87 rfl ?_
              refine r_iload (pc := 89) C dX5_copy_89 rfl ?_
              refine r_iload (pc := 91) C dX5_copy_91 rfl ?_
              refine r_callVD (pc := 93) (b := 2 + 2 * jb) (As := [.int j, .int (nI kn)]) (st := []) (θ2 := wC S) (r2 := some (.int (bB (spanS (S (jb + 8) 2 0) j (nI kn))))) C [2 + 2 * jb, 2 + 2 * jb + 1] (c_X3_hasSpan (S (jb + 8)) j (nI kn)) xm_X3_hasSpan xk_X5_88 dX5_copy_93 (wC_rT S jb (by omega)) (wC_rnd jb (by omega)) rfl (wC_r0 S jb (by omega)) rfl rfl rfl (Nat.le_of_ble_eq_true rfl) ⟨Nat.le_of_ble_eq_true rfl, Nat.le_of_ble_eq_true rfl⟩ ⟨rfl, rfl⟩ ⟨Nat.le_of_ble_eq_true rfl, Nat.le_of_ble_eq_true rfl⟩ rfl (Eq.trans (b := 2) rfl rfl) (wC_rid S jb (by omega)) rfl ?_
              show g 0 0 (wC S) 96 [some (.ref 0), some (.int (nI ja)), some (.int (nI ki)), some (.int (nI jb)), some (.int j), some (.int (nI kn)), some (.ref (2 + 2 * ja)), some (.ref (2 + 2 * jb))] [.int (bB (spanS (S (jb + 8) 2 0) j (nI kn)))]
              refine r_if_ne (pc := 96) (tgt := 105) C dX5_copy_96 (by decide) (fun h_96 => ?_) (fun h_96 => ?_)
              · replace h_96 := bB_t h_96
                obtain ⟨kj, rfl, hkjn⟩ := span_ex2 (by omega) (hsz jb (by omega)).1 (hsz jb (by omega)).2 h_96
                have hkj40 : kj + kn ≤ 40 := by have := (hsz jb (by omega)).2; omega
                refine r_aload_n (pc := 105) C dX5_copy_105 rfl rfl ?_
                refine r_iconst (pc := 106) (v := 0) C dX5_copy_106 (by decide) ?_
                refine r_putfield (pc := 107) (θ' := wC (up3 S 0 (up2 (S 0) 9 (k1 0)))) C xf_X5_68 xt_X5_9 dX5_copy_107 rfl (Nat.le_of_ble_eq_true rfl) (fun _ => ⟨rfl, rfl⟩) rfl ?_
                refine r_aload (pc := 110) C dX5_copy_110 rfl ?_
                refine r_getfield (pc := 112) (v := .ref (2 + 2 * ja + 1)) C xf_X5_82 dX5_copy_112 (wC_r0 (up3 S 0 (up2 (S 0) 9 (k1 0))) ja (by omega)) rfl ?_
                refine r_iload_n (pc := 115) C dX5_copy_115 rfl rfl ?_
                refine r_aload (pc := 116) C dX5_copy_116 rfl ?_
                refine r_getfield (pc := 118) (v := .ref (2 + 2 * jb + 1)) C xf_X5_82 dX5_copy_118 (wC_r0 (up3 S 0 (up2 (S 0) 9 (k1 0))) jb (by omega)) rfl ?_
                refine r_iload (pc := 121) C dX5_copy_121 rfl ?_
                refine r_iload (pc := 123) C dX5_copy_123 rfl ?_
                refine r_copy (pc := 125) (θ' := wC (up3 (up3 S 0 (up2 (S 0) 9 (k1 0))) (jb + 8) (up2 (S (jb + 8)) 0 (va_cpy (S (ja + 8) 0) (S (jb + 8) 0) ki kj kn)))) C ⟨tw_242, cpy_n, cpy_s, cpy_i⟩ ki kj kn dX5_copy_125 rfl ⟨Nat.le_of_ble_eq_true rfl, Nat.le_of_ble_eq_true rfl⟩ (wC_r1 (up3 S 0 (up2 (S 0) 9 (k1 0))) ja (by omega)) (wC_r1 (up3 S 0 (up2 (S 0) 9 (k1 0))) jb (by omega)) rfl rfl rfl (by omega) (by omega) (wC_s1 (up3 S 0 (up2 (S 0) 9 (k1 0))) jb (by omega) _) ?_
                refine r_iload (pc := 128) C dX5_copy_128 rfl ?_
                show g 0 0 (wC (up3 (up3 S 0 (up2 (S 0) 9 (k1 0))) (jb + 8) (up2 (S (jb + 8)) 0 (va_cpy (S (ja + 8) 0) (S (jb + 8) 0) ki kj kn)))) 130 [some (.ref 0), some (.int (nI ja)), some (.int (nI ki)), some (.int (nI jb)), some (.int (nI kj)), some (.int (nI kn)), some (.ref (2 + 2 * ja)), some (.ref (2 + 2 * jb))] [.int (nI kn)]
                have hX : copyC S (nI ja) (nI ki) (nI jb) (nI kj) (nI kn) = (nI kn, (up3 (up3 S 0 (up2 (S 0) 9 (k1 0))) (jb + 8) (up2 (S (jb + 8)) 0 (va_cpy (S (ja + 8) 0) (S (jb + 8) 0) ki kj kn)))) := by
                  unfold copyC
                  (try rw [ix_nI (show ja < 2 ^ 31 by omega)])
                  (try rw [ix_nI (show jb < 2 ^ 31 by omega)])
                  (try rw [ix_nI (show ki < 2 ^ 31 by omega)])
                  (try rw [ix_nI (show kn < 2 ^ 31 by omega)])
                  (try rw [ix_nI (show kj < 2 ^ 31 by omega)])
                  rw [if_pos h_4, if_pos h_11, if_neg h_39, if_neg h_48, if_pos h_67, if_pos h_84, if_pos h_96]
                exact E _ _ _ _ _ _ dX5_copy_130 (Nat.le_refl _) (Nat.le_refl _) rfl ⟨by rw [hX], by rw [hX]⟩
              · replace h_96 := bB_f h_96
                refine r_aload_n (pc := 99) C dX5_copy_99 rfl rfl ?_
                refine r_iconst (pc := 100) (v := 2) C dX5_copy_100 (by decide) ?_
                refine r_callV0 (pc := 101) (As := [.int 2]) (st := []) (θ' := wC (up3 S 0 (up2 (S 0) 9 (k1 2)))) C (c_X5_finds S 2) xm_X5_finds xk_X5_64 dX5_copy_101 rfl rfl rfl rfl (Nat.le_of_ble_eq_true rfl) ⟨Nat.le_of_ble_eq_true rfl, Nat.le_of_ble_eq_true rfl⟩ ⟨rfl, rfl⟩ ⟨Nat.le_of_ble_eq_true rfl, Nat.le_of_ble_eq_true rfl⟩ rfl (Eq.trans (b := 55) rfl rfl) ?_
                show g 0 0 (wC (up3 S 0 (up2 (S 0) 9 (k1 2)))) 104 [some (.ref 0), some (.int (nI ja)), some (.int (nI ki)), some (.int (nI jb)), some (.int j), some (.int (nI kn)), some (.ref (2 + 2 * ja)), some (.ref (2 + 2 * jb))] [.int ((-1000010) - 2)]
                show g 0 0 (wC (up3 S 0 (up2 (S 0) 9 (k1 2)))) 104 [some (.ref 0), some (.int (nI ja)), some (.int (nI ki)), some (.int (nI jb)), some (.int j), some (.int (nI kn)), some (.ref (2 + 2 * ja)), some (.ref (2 + 2 * jb))] [.int ((-1000010) - 2)]
                have hX : copyC S (nI ja) (nI ki) (nI jb) j (nI kn) = ((-1000010) - 2, (up3 S 0 (up2 (S 0) 9 (k1 2)))) := by
                  unfold copyC
                  (try rw [ix_nI (show ja < 2 ^ 31 by omega)])
                  (try rw [ix_nI (show jb < 2 ^ 31 by omega)])
                  (try rw [ix_nI (show ki < 2 ^ 31 by omega)])
                  (try rw [ix_nI (show kn < 2 ^ 31 by omega)])
                  rw [if_pos h_4, if_pos h_11, if_neg h_39, if_neg h_48, if_pos h_67, if_pos h_84, if_neg (nbt h_96)]
                exact E _ _ _ _ _ _ dX5_copy_104 (Nat.le_refl _) (Nat.le_refl _) rfl ⟨by rw [hX], by rw [hX]⟩
          · skip
            refine r_aload_n (pc := 70) C dX5_copy_70 rfl rfl ?_
            refine r_iconst (pc := 71) (v := 5) C dX5_copy_71 (by decide) ?_
            refine r_callV0 (pc := 72) (As := [.int 5]) (st := []) (θ' := wC (up3 S 0 (up2 (S 0) 9 (k1 5)))) C (c_X5_finds S 5) xm_X5_finds xk_X5_64 dX5_copy_72 rfl rfl rfl rfl (Nat.le_of_ble_eq_true rfl) ⟨Nat.le_of_ble_eq_true rfl, Nat.le_of_ble_eq_true rfl⟩ ⟨rfl, rfl⟩ ⟨Nat.le_of_ble_eq_true rfl, Nat.le_of_ble_eq_true rfl⟩ rfl (Eq.trans (b := 55) rfl rfl) ?_
            show g 0 0 (wC (up3 S 0 (up2 (S 0) 9 (k1 5)))) 75 [some (.ref 0), some (.int (nI ja)), some (.int i), some (.int (nI jb)), some (.int j), some (.int n), some (.ref (2 + 2 * ja)), some (.ref (2 + 2 * jb))] [.int ((-1000010) - 5)]
            show g 0 0 (wC (up3 S 0 (up2 (S 0) 9 (k1 5)))) 75 [some (.ref 0), some (.int (nI ja)), some (.int i), some (.int (nI jb)), some (.int j), some (.int n), some (.ref (2 + 2 * ja)), some (.ref (2 + 2 * jb))] [.int ((-1000010) - 5)]
            have hX : copyC S (nI ja) i (nI jb) j n = ((-1000010) - 5, (up3 S 0 (up2 (S 0) 9 (k1 5)))) := by
              unfold copyC
              (try rw [ix_nI (show ja < 2 ^ 31 by omega)])
              (try rw [ix_nI (show jb < 2 ^ 31 by omega)])
              rw [if_pos h_4, if_pos h_11, if_neg h_39, if_neg h_48, if_neg h_67]
            exact E _ _ _ _ _ _ dX5_copy_75 (Nat.le_refl _) (Nat.le_refl _) rfl ⟨by rw [hX], by rw [hX]⟩
        · skip
          refine r_aload_n (pc := 51) C dX5_copy_51 rfl rfl ?_
          refine r_iconst (pc := 52) (v := 1) C dX5_copy_52 (by decide) ?_
          refine r_callV0 (pc := 53) (As := [.int 1]) (st := []) (θ' := wC (up3 S 0 (up2 (S 0) 9 (k1 1)))) C (c_X5_finds S 1) xm_X5_finds xk_X5_64 dX5_copy_53 rfl rfl rfl rfl (Nat.le_of_ble_eq_true rfl) ⟨Nat.le_of_ble_eq_true rfl, Nat.le_of_ble_eq_true rfl⟩ ⟨rfl, rfl⟩ ⟨Nat.le_of_ble_eq_true rfl, Nat.le_of_ble_eq_true rfl⟩ rfl (Eq.trans (b := 55) rfl rfl) ?_
          show g 0 0 (wC (up3 S 0 (up2 (S 0) 9 (k1 1)))) 56 [some (.ref 0), some (.int (nI ja)), some (.int i), some (.int (nI jb)), some (.int j), some (.int n), some (.ref (2 + 2 * ja)), some (.ref (2 + 2 * jb))] [.int ((-1000010) - 1)]
          show g 0 0 (wC (up3 S 0 (up2 (S 0) 9 (k1 1)))) 56 [some (.ref 0), some (.int (nI ja)), some (.int i), some (.int (nI jb)), some (.int j), some (.int n), some (.ref (2 + 2 * ja)), some (.ref (2 + 2 * jb))] [.int ((-1000010) - 1)]
          have hX : copyC S (nI ja) i (nI jb) j n = ((-1000010) - 1, (up3 S 0 (up2 (S 0) 9 (k1 1)))) := by
            unfold copyC
            (try rw [ix_nI (show ja < 2 ^ 31 by omega)])
            (try rw [ix_nI (show jb < 2 ^ 31 by omega)])
            rw [if_pos h_4, if_pos h_11, if_neg h_39, if_pos h_48]
          exact E _ _ _ _ _ _ dX5_copy_56 (Nat.le_refl _) (Nat.le_refl _) rfl ⟨by rw [hX], by rw [hX]⟩
    · replace h_11 := bB_f h_11
      refine r_ldc (pc := 14) (v := (-1000001)) C dX5_copy_14 tw_216 ?_
      show g 0 0 (wC S) 16 [some (.ref 0), some (.int (nI ja)), some (.int i), some (.int b), some (.int j), some (.int n), none, none] [.int (-1000001)]
      have hX : copyC S (nI ja) i b j n = ((-1000001), S) := by
        unfold copyC
        (try rw [ix_nI (show ja < 2 ^ 31 by omega)])
        rw [if_pos h_4, if_neg (nbt h_11)]
      exact E _ _ _ _ _ _ dX5_copy_16 (Nat.le_refl _) (Nat.le_refl _) rfl ⟨by rw [hX], by rw [hX]⟩
theorem okA_kp {A : Nat → Nat → Int32} {o q : Nat} (hA : okA A o q) (act h f s : Int32) : okA (kpAll A o q act h f s) (if q = 24 then (o + 1) % 24 else o) (if q = 24 then 24 else q + 1) := by
  obtain ⟨h1, h2, h3, h4⟩ := hA
  unfold kpAll
  by_cases h : q = 24
  · subst h
    rw [if_pos rfl, if_pos rfl, if_pos rfl]
    exact ⟨rfl, by omega, rfl, by omega⟩
  · rw [if_neg h, if_neg h, if_neg h]
    exact ⟨h1, h2, rfl, by omega⟩
/-- one minute more -/
def minC1 (S : Nat → Nat → Nat → Int32) (o q : Nat) : Nat → Nat → Nat → Int32 := up3 (up3 S 2 (up2 (S 2) 8 (k1 (S 2 8 0 + 1)))) 6 (kpAll (S 6) o q 0 0 0 0)
def minCn (S : Nat → Nat → Nat → Int32) (o q : Nat) : Nat → Nat → Nat → Nat → Int32
  | 0 => S
  | n + 1 => minCn (minC1 S o q) (if q = 24 then (o + 1) % 24 else o) (if q = 24 then 24 else q + 1) n
noncomputable def minT : (Nat → Nat → Nat → Int32) → Nat → Nat → Nat → Nat → Nat → Nat → Int32 := Classical.choose (seal_ex minCn)
theorem minT_eq : minT = minCn := Classical.choose_spec (seal_ex minCn)
theorem minCn_z (n : Nat) : ∀ (S : Nat → Nat → Nat → Int32) (o q : Nat), minCn S o q n 2 9 = S 2 9 ∧ minCn S o q n 2 4 = S 2 4 := by
  induction n with
  | zero => intro S o q; exact ⟨rfl, rfl⟩
  | succ n ih => intro S o q; exact ih _ _ _
theorem okS_min {S : Nat → Nat → Nat → Int32} {z : Nat} (n o q : Nat) (hS : okS S z) : okS (minT S o q n) z := by
  obtain ⟨h1, h2, h3⟩ := hS
  rw [minT_eq]
  refine ⟨by rw [(minCn_z n S o q).1]; exact h1, h2, fun h hh => ?_⟩
  rw [(minCn_z n S o q).2]
  exact h3 h hh
set_option maxHeartbeats 4000000 in
set_option maxRecDepth 100000 in
theorem lp_X5_minutes (S0 : Nat → Nat → Nat → Int32) (o0 q0 nn : Nat) (hn24 : nn ≤ 24) (z : Nat) (hS0 : okS (minT S0 o0 q0 nn) z) {g : Nat → Nat → List xE → Nat → List (Option Value) → List Value → Prop} (C : Sem cX5_minutes RX5 "minutes" 3 rmX5_minutes g) (E : xEi g cX5_minutes .int 0 0 (fun vr wr => vr = some (.int (bitsS (fun h => downS (minT S0 o0 q0 nn 2) h (minT S0 o0 q0 nn 2 8 0)) z)) ∧ wr = wC (minT S0 o0 q0 nn))) : ∀ (n : Nat) (i : Nat) (S : Nat → Nat → Nat → Int32) (o q : Nat), i + n = nn → okA (S 6) o q → minCn S o q n = minT S0 o0 q0 nn → g 0 0 (wC S) 47 [some (.ref 0), some (.int (nI nn)), some (.int (nI i))] [] := by
  intro n
  induction n with
  | zero =>
    intro i S o q hi hA hE
    have hE2 : S = minT S0 o0 q0 nn := hE
    subst hE2
    refine r_iload_n (pc := 47) C dX5_minutes_47 rfl rfl ?_
    refine r_iload_n (pc := 48) C dX5_minutes_48 rfl rfl ?_
    refine r_icmp_ge (pc := 49) (tgt := 82) C dX5_minutes_49 (by decide) (fun _ => ?_) (fun h => absurd (nI_le (by omega) (by omega)) h)
    refine r_aload_n (pc := 82) C dX5_minutes_82 rfl rfl ?_
    refine r_getfield (pc := 83) (v := .ref 20) C xf_X5_25 dX5_minutes_83 rfl rfl ?_
    refine r_aload_n (pc := 86) C dX5_minutes_86 rfl rfl ?_
    refine r_getfield (pc := 87) (v := .ref 20) C xf_X5_25 dX5_minutes_87 rfl rfl ?_
    refine r_getfield (pc := 90) (v := .int (((minT S0 o0 q0 nn) 2) 8 0)) C xf_X5_128 dX5_minutes_90 rfl rfl ?_
    refine r_callVD (pc := 93) (b := 20) (As := [.int (((minT S0 o0 q0 nn) 2) 8 0)]) (st := []) (θ2 := wC (minT S0 o0 q0 nn)) (r2 := some (.int (bitsS (fun h => downS ((minT S0 o0 q0 nn) 2) h (((minT S0 o0 q0 nn) 2) 8 0)) z))) C [20, 21, 22, 23, 24, 25] (c_X1_downBits ((minT S0 o0 q0 nn) 2) (((minT S0 o0 q0 nn) 2) 8 0) z hS0.1 hS0.2.1) xm_X1_downBits xk_X5_135 dX5_minutes_93 rfl (by decide) rfl rfl rfl rfl rfl (Nat.le_of_ble_eq_true rfl) ⟨Nat.le_of_ble_eq_true rfl, Nat.le_of_ble_eq_true rfl⟩ ⟨rfl, rfl⟩ ⟨Nat.le_of_ble_eq_true rfl, Nat.le_of_ble_eq_true rfl⟩ rfl (Eq.trans (b := 6) rfl rfl) rfl rfl ?_
    show g 0 0 (wC (minT S0 o0 q0 nn)) 96 [some (.ref 0), some (.int (nI nn)), some (.int (nI i))] [.int (bitsS (fun h => downS ((minT S0 o0 q0 nn) 2) h (((minT S0 o0 q0 nn) 2) 8 0)) z)]
    exact E _ _ _ _ _ _ dX5_minutes_96 (Nat.le_refl _) (Nat.le_refl _) rfl ⟨rfl, rfl⟩
  | succ n ih =>
    intro i S o q hi hA hE
    refine r_iload_n (pc := 47) C dX5_minutes_47 rfl rfl ?_
    refine r_iload_n (pc := 48) C dX5_minutes_48 rfl rfl ?_
    refine r_icmp_ge (pc := 49) (tgt := 82) C dX5_minutes_49 (by decide) (fun h => absurd h (nI_ge (by omega) (by omega))) (fun _ => ?_)
    refine r_aload_n (pc := 52) C dX5_minutes_52 rfl rfl ?_
    refine r_getfield (pc := 53) (v := .ref 45) C xf_X5_39 dX5_minutes_53 rfl rfl ?_
    refine r_iconst (pc := 56) (v := 0) C dX5_minutes_56 (by decide) ?_
    refine r_iconst (pc := 57) (v := 0) C dX5_minutes_57 (by decide) ?_
    refine r_iconst (pc := 58) (v := 0) C dX5_minutes_58 (by decide) ?_
    refine r_iconst (pc := 59) (v := 0) C dX5_minutes_59 (by decide) ?_
    refine r_callVD (pc := 60) (b := 45) (As := [.int 0, .int 0, .int 0, .int 0]) (st := []) (θ2 := wC (up3 S 6 (kpAll (S 6) o q 0 0 0 0))) (r2 := none) C [45, 46, 47, 48, 49] (c_X0_keep (S 6) o hA.1 hA.2.1 q hA.2.2.1 hA.2.2.2 0 0 0 0) xm_X0_keep xk_X5_131 dX5_minutes_60 rfl (by decide) rfl rfl rfl rfl rfl (Nat.le_of_ble_eq_true rfl) ⟨Nat.le_of_ble_eq_true rfl, Nat.le_of_ble_eq_true rfl⟩ ⟨rfl, rfl⟩ ⟨Nat.le_of_ble_eq_true rfl, Nat.le_of_ble_eq_true rfl⟩ rfl (Eq.trans (b := 5) rfl rfl) rfl rfl ?_
    show g 0 0 (wC (up3 S 6 (kpAll (S 6) o q 0 0 0 0))) 63 [some (.ref 0), some (.int (nI nn)), some (.int (nI i))] []
    refine r_aload_n (pc := 63) C dX5_minutes_63 rfl rfl ?_
    refine r_getfield (pc := 64) (v := .ref 20) C xf_X5_25 dX5_minutes_64 rfl rfl ?_
    refine r_dup (pc := 67) C dX5_minutes_67 rfl ?_
    refine r_getfield (pc := 68) (v := .int ((S 2) 8 0)) C xf_X5_128 dX5_minutes_68 rfl rfl ?_
    refine r_iconst (pc := 71) (v := 1) C dX5_minutes_71 (by decide) ?_
    refine r_iadd (pc := 72) C dX5_minutes_72 ?_
    refine r_putfield (pc := 73) (θ' := wC (up3 (up3 S 2 (up2 (S 2) 8 (k1 (((S 2) 8 0) + 1)))) 6 (kpAll (S 6) o q 0 0 0 0))) C xf_X5_128 xt_X1_8 dX5_minutes_73 rfl (Nat.le_of_ble_eq_true rfl) (fun _ => ⟨rfl, rfl⟩) rfl ?_
    refine r_iinc (pc := 76) (v := nI (i + 1)) (lv' := [some (.ref 0), some (.int (nI nn)), some (.int (nI (i + 1)))]) C dX5_minutes_76 rfl (nI_1 i) trivial rfl ?_
    refine r_goto (pc := 79) (tgt := 47) C dX5_minutes_79 (by decide) ?_
    show g 0 0 (wC (up3 (up3 S 2 (up2 (S 2) 8 (k1 (((S 2) 8 0) + 1)))) 6 (kpAll (S 6) o q 0 0 0 0))) 47 [some (.ref 0), some (.int (nI nn)), some (.int (nI (i + 1)))] []
    exact ih (i + 1) _ _ _ (by omega) (okA_kp hA 0 0 0 0) hE
def inN (n : Int32) (l m : Int32) : Prop := l ≤ n ∧ n ≤ m
theorem n24_ex {n : Int32} (h1 : 1 ≤ n) (h2 : n ≤ 24) : ∃ k, k ≤ 24 ∧ n = nI k := nI_of2 (M := 24) rfl (Int32.not_lt.mpr (Int32.le_trans (by decide) h1)) h2
noncomputable def minC (S : Nat → Nat → Nat → Int32) (z o q : Nat) (n : Int32) : Int32 × (Nat → Nat → Nat → Int32) := (if ((S 2) 5 0) = 0 then ((-1000002), S) else (if n < 1 then ((-1000001), S) else (if n ≤ 24 then (if (((S 2) 8 0) + n) ≤ 999 then (bitsS (fun h => downS (minT S o q (ix n) 2) h (minT S o q (ix n) 2 8 0)) z, minT S o q (ix n)) else ((-1000003), S)) else ((-1000001), S))))
set_option maxHeartbeats 4000000 in
set_option maxRecDepth 100000 in
theorem c_X5_minutes (S : Nat → Nat → Nat → Int32) (n : Int32) (z : Nat) (hS : okS S z) (o q : Nat) (hA : okA (S 6) o q) : MetA yX5_minutes (.code yX5_minutes cX5_minutes 3 (some .int) :: TT) rmX5_minutes [.ref 0, .int n] (wC S) (fun vr wr => vr = some (.int (minC S z o q n).1) ∧ wr = wC (minC S z o q n).2) 0 0 := by
  refine MetA.of_i (by decide) (fun _ => Nat.le_of_ble_eq_true rfl) (Nat.le_of_ble_eq_true rfl) (fun g C E => ?_)
  replace C : Sem cX5_minutes RX5 "minutes" 3 rmX5_minutes g := C
  show g 0 0 (wC S) 0 [some (.ref 0), some (.int n), none] []
  refine r_aload_n (pc := 0) C dX5_minutes_0 rfl rfl ?_
  refine r_getfield (pc := 1) (v := .ref 20) C xf_X5_25 dX5_minutes_1 rfl rfl ?_
  refine r_getfield (pc := 4) (v := .int ((S 2) 5 0)) C xf_X5_123 dX5_minutes_4 rfl rfl ?_
  refine r_if_ne (pc := 7) (tgt := 13) C dX5_minutes_7 (by decide) (fun h_7 => ?_) (fun h_7 => ?_)
  · skip
    refine r_iload_n (pc := 13) C dX5_minutes_13 rfl rfl ?_
    refine r_iconst (pc := 14) (v := 1) C dX5_minutes_14 (by decide) ?_
    refine r_icmp_lt (pc := 15) (tgt := 24) C dX5_minutes_15 (by decide) (fun h_15 => ?_) (fun h_15 => ?_)
    · skip
      refine r_ldc (pc := 24) (v := (-1000001)) C dX5_minutes_24 tw_216 ?_
      show g 0 0 (wC S) 26 [some (.ref 0), some (.int n), none] [.int (-1000001)]
      have hX : minC S z o q n = ((-1000001), S) := by
        unfold minC
        rw [if_neg h_7, if_pos h_15]
      exact E _ _ _ _ _ _ dX5_minutes_26 (Nat.le_refl _) (Nat.le_refl _) rfl ⟨by rw [hX], by rw [hX]⟩
    · skip
      refine r_iload_n (pc := 18) C dX5_minutes_18 rfl rfl ?_
      refine r_bipush (pc := 19) (v := 24) C dX5_minutes_19 (by decide) ?_
      refine r_icmp_le (pc := 21) (tgt := 27) C dX5_minutes_21 (by decide) (fun h_21 => ?_) (fun h_21 => ?_)
      · skip
        refine r_aload_n (pc := 27) C dX5_minutes_27 rfl rfl ?_
        refine r_getfield (pc := 28) (v := .ref 20) C xf_X5_25 dX5_minutes_28 rfl rfl ?_
        refine r_getfield (pc := 31) (v := .int ((S 2) 8 0)) C xf_X5_128 dX5_minutes_31 rfl rfl ?_
        refine r_iload_n (pc := 34) C dX5_minutes_34 rfl rfl ?_
        refine r_iadd (pc := 35) C dX5_minutes_35 ?_
        refine r_sipush (pc := 36) (v := 999) C dX5_minutes_36 (by decide) ?_
        refine r_icmp_le (pc := 39) (tgt := 45) C dX5_minutes_39 (by decide) (fun h_39 => ?_) (fun h_39 => ?_)
        · skip
          refine r_iconst (pc := 45) (v := 0) C dX5_minutes_45 (by decide) ?_
          refine r_istore_n (pc := 46) (lv' := [some (.ref 0), some (.int n), some (.int 0)]) C dX5_minutes_46 rfl (Nat.le_of_ble_eq_true rfl) trivial rfl ?_
          obtain ⟨kn, hkn, rfl⟩ := n24_ex (Int32.not_lt.mp h_15) h_21
          show g 0 0 (wC S) 47 [some (.ref 0), some (.int (nI kn)), some (.int 0)] []
          have hX : minC S z o q (nI kn) = (bitsS (fun h => downS (minT S o q kn 2) h (minT S o q kn 2 8 0)) z, minT S o q kn) := by
            unfold minC
            (try rw [ix_nI (show kn < 2 ^ 31 by omega)])
            rw [if_neg h_7, if_neg h_15, if_pos h_21, if_pos h_39]
          rw [hX] at E
          exact lp_X5_minutes S o q kn hkn z (okS_min _ _ _ hS) C E kn 0 S o q (by omega) hA (by rw [minT_eq])
        · skip
          refine r_ldc (pc := 42) (v := (-1000003)) C dX5_minutes_42 tw_253 ?_
          show g 0 0 (wC S) 44 [some (.ref 0), some (.int n), none] [.int (-1000003)]
          have hX : minC S z o q n = ((-1000003), S) := by
            unfold minC
            rw [if_neg h_7, if_neg h_15, if_pos h_21, if_neg h_39]
          exact E _ _ _ _ _ _ dX5_minutes_44 (Nat.le_refl _) (Nat.le_refl _) rfl ⟨by rw [hX], by rw [hX]⟩
      · skip
        refine r_ldc (pc := 24) (v := (-1000001)) C dX5_minutes_24 tw_216 ?_
        show g 0 0 (wC S) 26 [some (.ref 0), some (.int n), none] [.int (-1000001)]
        have hX : minC S z o q n = ((-1000001), S) := by
          unfold minC
          rw [if_neg h_7, if_neg h_15, if_neg h_21]
        exact E _ _ _ _ _ _ dX5_minutes_26 (Nat.le_refl _) (Nat.le_refl _) rfl ⟨by rw [hX], by rw [hX]⟩
  · skip
    refine r_ldc (pc := 10) (v := (-1000002)) C dX5_minutes_10 tw_323 ?_
    show g 0 0 (wC S) 12 [some (.ref 0), some (.int n), none] [.int (-1000002)]
    have hX : minC S z o q n = ((-1000002), S) := by
      unfold minC
      rw [if_pos h_7]
    exact E _ _ _ _ _ _ dX5_minutes_12 (Nat.le_refl _) (Nat.le_refl _) rfl ⟨by rw [hX], by rw [hX]⟩
