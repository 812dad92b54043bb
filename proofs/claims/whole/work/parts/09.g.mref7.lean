theorem rh_ok {M : Nat → Nat → Int32} {ln p t : Nat} (h : ¬ (rhT M ln p t).1 = 0) : (rhT M ln p t).2 = rhW M ln p t ∧ ¬ nI t = 6 := by
  rw [rhT_eq] at h ⊢
  unfold rhM at h ⊢
  split at h
  · split at h
    · exact absurd rfl h
    · split at h
      · exact absurd rfl h
      · split at h
        · exact absurd rfl h
        · split at h
          · exact absurd rfl h
          · split at h
            · exact absurd rfl h
            · split at h
              · exact absurd rfl h
              · rename_i h1 h2 h3 h4 h5 h6 h7
                rw [if_pos h1, if_neg h2, if_neg h3, if_neg h4, if_neg h5, if_neg h6, if_neg h7]
                exact ⟨rfl, h3⟩
  · exact absurd rfl h
theorem nbW_5 {M : Nat → Nat → Int32} {ln p pl : Nat} (h : 1 ≤ pl) : nbW M ln p pl 5 0 = M 5 0 := upd_ne (by omega)
theorem rhW_5 {M : Nat → Nat → Int32} {ln p t : Nat} : rhW M ln p t 5 0 = nI (t + 1) := by
  unfold rhW
  rw [nbW_5 (by omega), nbW_5 (by omega), nbW_5 (by omega), nbW_5 (by omega)]
  show upd (upd (M 5) (4 + t) (sortM (M 19 0))) 0 (nI t + 1) 0 = _
  rw [pk_us]
  exact nI_1 t
theorem stM_5 {M : Nat → Nat → Int32} {ln p : Nat} : stM M ln p 5 = M 5 := rfl
theorem up2_5 {F : Nat → Nat → Int32} {f : Nat → Int32} : up2 F 5 f 5 = f := rfl
noncomputable def rdL (ln : Nat) : Nat → (Nat → Nat → Int32) → Nat → Nat → Int32 × (Nat → Nat → Int32)
  | 0, M, _, _ => (1, M)
  | n + 1, M, p, t => if M 18 0 = 0 then (1, M) else if (rhT M ln p t).1 = 0 then (0, (rhT M ln p t).2) else rdL ln n (stM (rhW M ln p t) ln (rhP (M 11) ln p)) (stA_ (M 11) ln (rhP (M 11) ln p)) (t + 1)
noncomputable def rdT : Nat → Nat → (Nat → Nat → Int32) → Nat → Nat → Int32 × (Nat → Nat → Int32) := Classical.choose (seal_ex rdL)
theorem rdT_eq : rdT = rdL := Classical.choose_spec (seal_ex rdL)
set_option maxHeartbeats 400000 in
set_option maxRecDepth 100000 in
theorem lp_X6_reads (ln : Nat) (hln : ln ≤ 120) (R : Int32 × (Nat → Nat → Int32)) (x : Int32) {g : Nat → Nat → List xE → Nat → List (Option Value) → List Value → Prop} (C : Sem cX6_reads RX6 "reads" 2 rmX6_reads g) (E : xEi g cX6_reads .boolean 0 0 (fun vr wr => vr = some (.int R.1) ∧ wr = wM R.2)) : ∀ (n : Nat) (M : Nat → Nat → Int32) (p t : Nat), t + n = 7 → t ≤ 6 → M 12 0 = nI ln → M 16 0 = nI p → p ≤ ln → M 5 0 = nI t → rdL ln n M p t = R → g 0 0 (wM M) 91 [some (.ref 0), some (.int x)] [] := by
  intro n
  induction n with
  | zero =>
    intro M p t ht7 ht6 hl hp hpl ht hE
    omega
  | succ n ih =>
    intro M p t ht7 ht6 hl hp hpl ht hE
    refine r_aload_n (pc := 91) C dX6_reads_91 rfl rfl ?_
    refine r_getfield (pc := 92) (v := .int (M 18 0)) C xf_X6_102 dX6_reads_92 rfl rfl ?_
    refine r_if_eq (pc := 95) (tgt := 114) C dX6_reads_95 (by decide) (fun h_95 => ?_) (fun h_95 => ?_)
    · skip
      refine r_iconst (pc := 114) (v := 1) C dX6_reads_114 (by decide) ?_
      show g 0 0 (wM M) 115 [some (.ref 0), some (.int x)] [.int 1]
      rw [rdL, if_pos h_95] at hE
      subst hE
      exact E _ _ _ _ _ _ dX6_reads_115 (Nat.le_refl _) (Nat.le_refl _) rfl ⟨rfl, rfl⟩
    · skip
      refine r_aload_n (pc := 98) C dX6_reads_98 rfl rfl ?_
      refine r_callV0 (pc := 99) (As := []) (st := []) (θ' := wM ((rhT M ln p t).2)) C (c_X6_readsHammock M ln p hl hln hp hpl t ht (by omega)) xm_X6_readsHammock xk_X6_121 dX6_reads_99 rfl rfl rfl rfl (Nat.le_of_ble_eq_true rfl) ⟨Nat.le_of_ble_eq_true rfl, Nat.le_of_ble_eq_true rfl⟩ ⟨rfl, rfl⟩ ⟨Nat.le_of_ble_eq_true rfl, Nat.le_of_ble_eq_true rfl⟩ rfl (Eq.trans (b := 14) rfl rfl) ?_
      show g 0 0 (wM ((rhT M ln p t).2)) 102 [some (.ref 0), some (.int x)] [.int ((rhT M ln p t).1)]
      refine r_if_ne (pc := 102) (tgt := 107) C dX6_reads_102 (by decide) (fun h_102 => ?_) (fun h_102 => ?_)
      · skip
        show g 0 0 (wM ((rhT M ln p t).2)) 107 [some (.ref 0), some (.int x)] []
        have hrk := rh_ok h_102
        rw [hrk.1]
        show g 0 0 (wM (rhW M ln p t)) 107 [some (.ref 0), some (.int x)] []
        refine r_aload_n (pc := 107) C dX6_reads_107 rfl rfl ?_
        refine r_callV0 (pc := 108) (As := []) (st := []) (θ' := wM (stM (rhW M ln p t) ln (rhP (M 11) ln p))) C (c_X6_step (rhW M ln p t) ln (rhP (M 11) ln p) hl hln rfl (rhP_le hpl)) xm_X6_step xk_X6_108 dX6_reads_108 rfl rfl rfl rfl (Nat.le_of_ble_eq_true rfl) ⟨Nat.le_of_ble_eq_true rfl, Nat.le_of_ble_eq_true rfl⟩ ⟨rfl, rfl⟩ ⟨Nat.le_of_ble_eq_true rfl, Nat.le_of_ble_eq_true rfl⟩ rfl (Eq.trans (b := 14) rfl rfl) ?_
        show g 0 0 (wM (stM (rhW M ln p t) ln (rhP (M 11) ln p))) 111 [some (.ref 0), some (.int x)] []
        refine r_goto (pc := 111) (tgt := 91) C dX6_reads_111 (by decide) ?_
        show g 0 0 (wM (stM (rhW M ln p t) ln (rhP (M 11) ln p))) 91 [some (.ref 0), some (.int x)] []
        have ht5 : t ≠ 6 := fun z => hrk.2 (by rw [z]; rfl)
        have hE2 : rdL ln n (stM (rhW M ln p t) ln (rhP (M 11) ln p)) (stA_ (M 11) ln (rhP (M 11) ln p)) (t + 1) = R := by rw [← hE, rdL, if_neg h_95, if_neg h_102]
        have hl2 : stM (rhW M ln p t) ln (rhP (M 11) ln p) 12 0 = nI ln := hl
        have hp2 : stM (rhW M ln p t) ln (rhP (M 11) ln p) 16 0 = nI (stA_ (M 11) ln (rhP (M 11) ln p)) := rfl
        have h52 : stM (rhW M ln p t) ln (rhP (M 11) ln p) 5 0 = nI (t + 1) := by rw [stM_5]; exact rhW_5
        exact ih (stM (rhW M ln p t) ln (rhP (M 11) ln p)) (stA_ (M 11) ln (rhP (M 11) ln p)) (t + 1) (by omega) (by omega) hl2 hp2 (stA_le (rhP_le hpl)) h52 hE2
      · skip
        refine r_iconst (pc := 105) (v := 0) C dX6_reads_105 (by decide) ?_
        show g 0 0 (wM ((rhT M ln p t).2)) 106 [some (.ref 0), some (.int x)] [.int 0]
        rw [rdL, if_neg h_95, if_pos h_102] at hE
        subst hE
        exact E _ _ _ _ _ _ dX6_reads_106 (Nat.le_refl _) (Nat.le_refl _) rfl ⟨rfl, rfl⟩
set_option maxHeartbeats 400000 in
set_option maxRecDepth 100000 in
theorem lpz_X6_reads (M : Nat → Nat → Int32) {g : Nat → Nat → List xE → Nat → List (Option Value) → List Value → Prop} (C : Sem cX6_reads RX6 "reads" 2 rmX6_reads g) (kk : g 0 0 (wM (up2 M 5 (zeroS (M 5) 36))) 21 [some (.ref 0), some (.int (nI 36))] []) : ∀ (n : Nat) (k : Nat), k + n = 36 → g 0 0 (wM (up2 M 5 (zeroS (M 5) k))) 2 [some (.ref 0), some (.int (nI k))] [] := by
  intro n
  induction n with
  | zero =>
    intro k hv
    have hvN : k = 36 := by omega
    rw [hvN]
    refine r_iload_n (pc := 2) C dX6_reads_2 rfl rfl ?_
    refine r_bipush (pc := 3) (v := 36) C dX6_reads_3 (by decide) ?_
    refine r_icmp_ge (pc := 5) (tgt := 21) C dX6_reads_5 (by decide) (fun _ => ?_) (fun h => absurd (nI_le (a := 36) (by omega) (by omega)) h)
    show g 0 0 (wM (up2 M 5 (zeroS (M 5) 36))) 21 [some (.ref 0), some (.int (nI 36))] []
    exact kk
  | succ n ih =>
    intro k hv
    refine r_iload_n (pc := 2) C dX6_reads_2 rfl rfl ?_
    refine r_bipush (pc := 3) (v := 36) C dX6_reads_3 (by decide) ?_
    refine r_icmp_ge (pc := 5) (tgt := 21) C dX6_reads_5 (by decide) (fun h => absurd h (nI_ge (b := 36) (by omega) (by omega))) (fun _ => ?_)
    refine r_aload_n (pc := 8) C dX6_reads_8 rfl rfl ?_
    refine r_getfield (pc := 9) (v := .ref 5) C xf_X6_22 dX6_reads_9 rfl rfl ?_
    refine r_iload_n (pc := 12) C dX6_reads_12 rfl rfl ?_
    refine r_iconst (pc := 13) (v := 0) C dX6_reads_13 (by decide) ?_
    refine r_iastore (pc := 14) (θ' := wM (up2 M 5 (upd (zeroS (M 5) k) k 0))) C k dX6_reads_14 rfl rfl (by first | assumption | omega) rfl ?_
    refine r_iinc (pc := 15) (v := nI (k + 1)) (lv' := [some (.ref 0), some (.int (nI (k + 1)))]) C dX6_reads_15 rfl (nI_1 k) trivial rfl ?_
    refine r_goto (pc := 18) (tgt := 2) C dX6_reads_18 (by decide) ?_
    show g 0 0 (wM (up2 M 5 (upd (zeroS (M 5) k) k 0))) 2 [some (.ref 0), some (.int (nI (k + 1)))] []
    rw [zero_step]
    exact ih (k + 1) (by omega)
noncomputable def rdM (M : Nat → Nat → Int32) (ln : Nat) : Int32 × (Nat → Nat → Int32) := (if (stT (M 11) ln 0) = 1 then (if (stV (M 11) ln 0) = 116 then (if ((nbT (stM (up2 (up2 M 5 (zeroS (M 5) 36)) 16 (k1 0)) ln 0) ln (stA_ (M 11) ln 0) 1 0 40 44).1) = 0 then (0, ((nbT (stM (up2 (up2 M 5 (zeroS (M 5) 36)) 16 (k1 0)) ln 0) ln (stA_ (M 11) ln 0) 1 0 40 44).2)) else (if ((nbT (nbW (stM (up2 (up2 M 5 (zeroS (M 5) 36)) 16 (k1 0)) ln 0) ln (stA_ (M 11) ln 0) 1) ln (nbP (M 11) ln (stA_ (M 11) ln 0)) 2 0 5 59).1) = 0 then (0, ((nbT (nbW (stM (up2 (up2 M 5 (zeroS (M 5) 36)) 16 (k1 0)) ln 0) ln (stA_ (M 11) ln 0) 1) ln (nbP (M 11) ln (stA_ (M 11) ln 0)) 2 0 5 59).2)) else ((rdT ln 7 (stM (up2 (nbW (nbW (stM (up2 (up2 M 5 (zeroS (M 5) 36)) 16 (k1 0)) ln 0) ln (stA_ (M 11) ln 0) 1) ln (nbP (M 11) ln (stA_ (M 11) ln 0)) 2) 5 (upd ((nbW (nbW (stM (up2 (up2 M 5 (zeroS (M 5) 36)) 16 (k1 0)) ln 0) ln (stA_ (M 11) ln 0) 1) ln (nbP (M 11) ln (stA_ (M 11) ln 0)) 2) 5) 3 1)) ln (nbP (M 11) ln (nbP (M 11) ln (stA_ (M 11) ln 0)))) (stA_ (M 11) ln (nbP (M 11) ln (nbP (M 11) ln (stA_ (M 11) ln 0)))) 0).1, (rdT ln 7 (stM (up2 (nbW (nbW (stM (up2 (up2 M 5 (zeroS (M 5) 36)) 16 (k1 0)) ln 0) ln (stA_ (M 11) ln 0) 1) ln (nbP (M 11) ln (stA_ (M 11) ln 0)) 2) 5 (upd ((nbW (nbW (stM (up2 (up2 M 5 (zeroS (M 5) 36)) 16 (k1 0)) ln 0) ln (stA_ (M 11) ln 0) 1) ln (nbP (M 11) ln (stA_ (M 11) ln 0)) 2) 5) 3 1)) ln (nbP (M 11) ln (nbP (M 11) ln (stA_ (M 11) ln 0)))) (stA_ (M 11) ln (nbP (M 11) ln (nbP (M 11) ln (stA_ (M 11) ln 0)))) 0).2))) else (bB false, (up2 (stM (up2 (up2 M 5 (zeroS (M 5) 36)) 16 (k1 0)) ln 0) 20 (k1 1)))) else (bB false, (up2 (stM (up2 (up2 M 5 (zeroS (M 5) 36)) 16 (k1 0)) ln 0) 20 (k1 1))))
set_option maxHeartbeats 400000 in
set_option maxRecDepth 100000 in
theorem c_X6_reads0 (M : Nat → Nat → Int32) (ln : Nat) (hl : M 12 0 = nI ln) (hln : ln ≤ 120) : MetA yX6_reads (.code yX6_reads cX6_reads 2 (some .boolean) :: TT) rmX6_reads [.ref 0] (wM M) (fun vr wr => vr = some (.int (rdM M ln).1) ∧ wr = wM (rdM M ln).2) 0 0 := by
  refine MetA.of_i (by decide) (fun _ => Nat.le_of_ble_eq_true rfl) (Nat.le_of_ble_eq_true rfl) (fun g C E => ?_)
  replace C : Sem cX6_reads RX6 "reads" 2 rmX6_reads g := C
  show g 0 0 (wM M) 0 [some (.ref 0), none] []
  refine r_iconst (pc := 0) (v := 0) C dX6_reads_0 (by decide) ?_
  refine r_istore_n (pc := 1) (lv' := [some (.ref 0), some (.int 0)]) C dX6_reads_1 rfl (Nat.le_of_ble_eq_true rfl) trivial rfl ?_
  show g 0 0 (wM M) 2 [some (.ref 0), some (.int 0)] []
  have hL := fun kk => lpz_X6_reads M C kk 36 0 (by omega)
  simp only [zero_0] at hL
  refine hL ?_
  show g 0 0 (wM (up2 M 5 (zeroS (M 5) 36))) 21 [some (.ref 0), some (.int (nI 36))] []
  refine r_aload_n (pc := 21) C dX6_reads_21 rfl rfl ?_
  refine r_iconst (pc := 22) (v := 0) C dX6_reads_22 (by decide) ?_
  refine r_putfield (pc := 23) (θ' := wM (up2 (up2 M 5 (zeroS (M 5) 36)) 16 (k1 0))) C xf_X6_81 xt_X6_16 dX6_reads_23 rfl (Nat.le_of_ble_eq_true rfl) (fun _ => ⟨rfl, rfl⟩) rfl ?_
  refine r_aload_n (pc := 26) C dX6_reads_26 rfl rfl ?_
  refine r_callV0 (pc := 27) (As := []) (st := []) (θ' := wM (stM (up2 (up2 M 5 (zeroS (M 5) 36)) 16 (k1 0)) ln 0)) C (c_X6_step (up2 (up2 M 5 (zeroS (M 5) 36)) 16 (k1 0)) ln 0 hl hln rfl (Nat.zero_le _)) xm_X6_step xk_X6_108 dX6_reads_27 rfl rfl rfl rfl (Nat.le_of_ble_eq_true rfl) ⟨Nat.le_of_ble_eq_true rfl, Nat.le_of_ble_eq_true rfl⟩ ⟨rfl, rfl⟩ ⟨Nat.le_of_ble_eq_true rfl, Nat.le_of_ble_eq_true rfl⟩ rfl (Eq.trans (b := 14) rfl rfl) ?_
  show g 0 0 (wM (stM (up2 (up2 M 5 (zeroS (M 5) 36)) 16 (k1 0)) ln 0)) 30 [some (.ref 0), some (.int (nI 36))] []
  refine r_aload_n (pc := 30) C dX6_reads_30 rfl rfl ?_
  refine r_getfield (pc := 31) (v := .int (stT (M 11) ln 0)) C xf_X6_102 dX6_reads_31 rfl rfl ?_
  refine r_iconst (pc := 34) (v := 1) C dX6_reads_34 (by decide) ?_
  refine r_icmp_ne (pc := 35) (tgt := 47) C dX6_reads_35 (by decide) (fun h_35 => ?_) (fun h_35 => ?_)
  · skip
    refine r_aload_n (pc := 47) C dX6_reads_47 rfl rfl ?_
    refine r_iconst (pc := 48) (v := 1) C dX6_reads_48 (by decide) ?_
    refine r_callV0 (pc := 49) (As := [.int 1]) (st := []) (θ' := wM (up2 (stM (up2 (up2 M 5 (zeroS (M 5) 36)) 16 (k1 0)) ln 0) 20 (k1 1))) C (c_X6_fails (stM (up2 (up2 M 5 (zeroS (M 5) 36)) 16 (k1 0)) ln 0) 1) xm_X6_fails xk_X6_111 dX6_reads_49 rfl rfl rfl rfl (Nat.le_of_ble_eq_true rfl) ⟨Nat.le_of_ble_eq_true rfl, Nat.le_of_ble_eq_true rfl⟩ ⟨rfl, rfl⟩ ⟨Nat.le_of_ble_eq_true rfl, Nat.le_of_ble_eq_true rfl⟩ rfl (Eq.trans (b := 14) rfl rfl) ?_
    show g 0 0 (wM (up2 (stM (up2 (up2 M 5 (zeroS (M 5) 36)) 16 (k1 0)) ln 0) 20 (k1 1))) 52 [some (.ref 0), some (.int (nI 36))] [.int (bB false)]
    show g 0 0 (wM (up2 (stM (up2 (up2 M 5 (zeroS (M 5) 36)) 16 (k1 0)) ln 0) 20 (k1 1))) 52 [some (.ref 0), some (.int (nI 36))] [.int (bB false)]
    have hX : rdM M ln = (bB false, (up2 (stM (up2 (up2 M 5 (zeroS (M 5) 36)) 16 (k1 0)) ln 0) 20 (k1 1))) := by
      unfold rdM
      rw [if_neg h_35]
    exact E _ _ _ _ _ _ dX6_reads_52 (Nat.le_refl _) (Nat.le_refl _) (bB_nar _) ⟨by rw [hX], by rw [hX]⟩
  · skip
    refine r_aload_n (pc := 38) C dX6_reads_38 rfl rfl ?_
    refine r_getfield (pc := 39) (v := .int (stV (M 11) ln 0)) C xf_X6_91 dX6_reads_39 rfl rfl ?_
    refine r_bipush (pc := 42) (v := 116) C dX6_reads_42 (by decide) ?_
    refine r_icmp_eq (pc := 44) (tgt := 53) C dX6_reads_44 (by decide) (fun h_44 => ?_) (fun h_44 => ?_)
    · skip
      refine r_aload_n (pc := 53) C dX6_reads_53 rfl rfl ?_
      refine r_iconst (pc := 54) (v := 1) C dX6_reads_54 (by decide) ?_
      refine r_iconst (pc := 55) (v := 0) C dX6_reads_55 (by decide) ?_
      refine r_bipush (pc := 56) (v := 40) C dX6_reads_56 (by decide) ?_
      refine r_bipush (pc := 58) (v := 44) C dX6_reads_58 (by decide) ?_
      refine r_callV0 (pc := 60) (As := [.int 1, .int 0, .int 40, .int 44]) (st := []) (θ' := wM ((nbT (stM (up2 (up2 M 5 (zeroS (M 5) 36)) 16 (k1 0)) ln 0) ln (stA_ (M 11) ln 0) 1 0 40 44).2)) C (c_X6_number (stM (up2 (up2 M 5 (zeroS (M 5) 36)) 16 (k1 0)) ln 0) ln (stA_ (M 11) ln 0) hl hln rfl (stA_le (Nat.zero_le _)) 1 (by omega) 0 40 44) xm_X6_number xk_X6_117 dX6_reads_60 rfl rfl rfl rfl (Nat.le_of_ble_eq_true rfl) ⟨Nat.le_of_ble_eq_true rfl, Nat.le_of_ble_eq_true rfl⟩ ⟨rfl, rfl⟩ ⟨Nat.le_of_ble_eq_true rfl, Nat.le_of_ble_eq_true rfl⟩ rfl (Eq.trans (b := 14) rfl rfl) ?_
      show g 0 0 (wM ((nbT (stM (up2 (up2 M 5 (zeroS (M 5) 36)) 16 (k1 0)) ln 0) ln (stA_ (M 11) ln 0) 1 0 40 44).2)) 63 [some (.ref 0), some (.int (nI 36))] [.int ((nbT (stM (up2 (up2 M 5 (zeroS (M 5) 36)) 16 (k1 0)) ln 0) ln (stA_ (M 11) ln 0) 1 0 40 44).1)]
      refine r_if_eq (pc := 63) (tgt := 78) C dX6_reads_63 (by decide) (fun h_63 => ?_) (fun h_63 => ?_)
      · skip
        refine r_iconst (pc := 78) (v := 0) C dX6_reads_78 (by decide) ?_
        show g 0 0 (wM ((nbT (stM (up2 (up2 M 5 (zeroS (M 5) 36)) 16 (k1 0)) ln 0) ln (stA_ (M 11) ln 0) 1 0 40 44).2)) 79 [some (.ref 0), some (.int (nI 36))] [.int 0]
        have hX : rdM M ln = (0, ((nbT (stM (up2 (up2 M 5 (zeroS (M 5) 36)) 16 (k1 0)) ln 0) ln (stA_ (M 11) ln 0) 1 0 40 44).2)) := by
          unfold rdM
          rw [if_pos h_35, if_pos h_44, if_pos h_63]
        exact E _ _ _ _ _ _ dX6_reads_79 (Nat.le_refl _) (Nat.le_refl _) rfl ⟨by rw [hX], by rw [hX]⟩
      · skip
        show g 0 0 (wM ((nbT (stM (up2 (up2 M 5 (zeroS (M 5) 36)) 16 (k1 0)) ln 0) ln (stA_ (M 11) ln 0) 1 0 40 44).2)) 66 [some (.ref 0), some (.int (nI 36))] []
        rw [nb_ok h_63]
        show g 0 0 (wM (nbW (stM (up2 (up2 M 5 (zeroS (M 5) 36)) 16 (k1 0)) ln 0) ln (stA_ (M 11) ln 0) 1)) 66 [some (.ref 0), some (.int (nI 36))] []
        refine r_aload_n (pc := 66) C dX6_reads_66 rfl rfl ?_
        refine r_iconst (pc := 67) (v := 2) C dX6_reads_67 (by decide) ?_
        refine r_iconst (pc := 68) (v := 0) C dX6_reads_68 (by decide) ?_
        refine r_iconst (pc := 69) (v := 5) C dX6_reads_69 (by decide) ?_
        refine r_bipush (pc := 70) (v := 59) C dX6_reads_70 (by decide) ?_
        refine r_callV0 (pc := 72) (As := [.int 2, .int 0, .int 5, .int 59]) (st := []) (θ' := wM ((nbT (nbW (stM (up2 (up2 M 5 (zeroS (M 5) 36)) 16 (k1 0)) ln 0) ln (stA_ (M 11) ln 0) 1) ln (nbP (M 11) ln (stA_ (M 11) ln 0)) 2 0 5 59).2)) C (c_X6_number (nbW (stM (up2 (up2 M 5 (zeroS (M 5) 36)) 16 (k1 0)) ln 0) ln (stA_ (M 11) ln 0) 1) ln (nbP (M 11) ln (stA_ (M 11) ln 0)) hl hln rfl (nbP_le (stA_le (Nat.zero_le _))) 2 (by omega) 0 5 59) xm_X6_number xk_X6_117 dX6_reads_72 rfl rfl rfl rfl (Nat.le_of_ble_eq_true rfl) ⟨Nat.le_of_ble_eq_true rfl, Nat.le_of_ble_eq_true rfl⟩ ⟨rfl, rfl⟩ ⟨Nat.le_of_ble_eq_true rfl, Nat.le_of_ble_eq_true rfl⟩ rfl (Eq.trans (b := 14) rfl rfl) ?_
        show g 0 0 (wM ((nbT (nbW (stM (up2 (up2 M 5 (zeroS (M 5) 36)) 16 (k1 0)) ln 0) ln (stA_ (M 11) ln 0) 1) ln (nbP (M 11) ln (stA_ (M 11) ln 0)) 2 0 5 59).2)) 75 [some (.ref 0), some (.int (nI 36))] [.int ((nbT (nbW (stM (up2 (up2 M 5 (zeroS (M 5) 36)) 16 (k1 0)) ln 0) ln (stA_ (M 11) ln 0) 1) ln (nbP (M 11) ln (stA_ (M 11) ln 0)) 2 0 5 59).1)]
        refine r_if_ne (pc := 75) (tgt := 80) C dX6_reads_75 (by decide) (fun h_75 => ?_) (fun h_75 => ?_)
        · skip
          show g 0 0 (wM ((nbT (nbW (stM (up2 (up2 M 5 (zeroS (M 5) 36)) 16 (k1 0)) ln 0) ln (stA_ (M 11) ln 0) 1) ln (nbP (M 11) ln (stA_ (M 11) ln 0)) 2 0 5 59).2)) 80 [some (.ref 0), some (.int (nI 36))] []
          rw [nb_ok h_75]
          show g 0 0 (wM (nbW (nbW (stM (up2 (up2 M 5 (zeroS (M 5) 36)) 16 (k1 0)) ln 0) ln (stA_ (M 11) ln 0) 1) ln (nbP (M 11) ln (stA_ (M 11) ln 0)) 2)) 80 [some (.ref 0), some (.int (nI 36))] []
          refine r_aload_n (pc := 80) C dX6_reads_80 rfl rfl ?_
          refine r_getfield (pc := 81) (v := .ref 5) C xf_X6_22 dX6_reads_81 rfl rfl ?_
          refine r_iconst (pc := 84) (v := 3) C dX6_reads_84 (by decide) ?_
          refine r_iconst (pc := 85) (v := 1) C dX6_reads_85 (by decide) ?_
          refine r_iastore (pc := 86) (θ' := wM (up2 (nbW (nbW (stM (up2 (up2 M 5 (zeroS (M 5) 36)) 16 (k1 0)) ln 0) ln (stA_ (M 11) ln 0) 1) ln (nbP (M 11) ln (stA_ (M 11) ln 0)) 2) 5 (upd ((nbW (nbW (stM (up2 (up2 M 5 (zeroS (M 5) 36)) 16 (k1 0)) ln 0) ln (stA_ (M 11) ln 0) 1) ln (nbP (M 11) ln (stA_ (M 11) ln 0)) 2) 5) 3 1))) C 3 dX6_reads_86 rfl (by decide) (by decide) rfl ?_
          refine r_aload_n (pc := 87) C dX6_reads_87 rfl rfl ?_
          refine r_callV0 (pc := 88) (As := []) (st := []) (θ' := wM (stM (up2 (nbW (nbW (stM (up2 (up2 M 5 (zeroS (M 5) 36)) 16 (k1 0)) ln 0) ln (stA_ (M 11) ln 0) 1) ln (nbP (M 11) ln (stA_ (M 11) ln 0)) 2) 5 (upd ((nbW (nbW (stM (up2 (up2 M 5 (zeroS (M 5) 36)) 16 (k1 0)) ln 0) ln (stA_ (M 11) ln 0) 1) ln (nbP (M 11) ln (stA_ (M 11) ln 0)) 2) 5) 3 1)) ln (nbP (M 11) ln (nbP (M 11) ln (stA_ (M 11) ln 0))))) C (c_X6_step (up2 (nbW (nbW (stM (up2 (up2 M 5 (zeroS (M 5) 36)) 16 (k1 0)) ln 0) ln (stA_ (M 11) ln 0) 1) ln (nbP (M 11) ln (stA_ (M 11) ln 0)) 2) 5 (upd ((nbW (nbW (stM (up2 (up2 M 5 (zeroS (M 5) 36)) 16 (k1 0)) ln 0) ln (stA_ (M 11) ln 0) 1) ln (nbP (M 11) ln (stA_ (M 11) ln 0)) 2) 5) 3 1)) ln (nbP (M 11) ln (nbP (M 11) ln (stA_ (M 11) ln 0))) hl hln rfl (nbP_le (nbP_le (stA_le (Nat.zero_le _))))) xm_X6_step xk_X6_108 dX6_reads_88 rfl rfl rfl rfl (Nat.le_of_ble_eq_true rfl) ⟨Nat.le_of_ble_eq_true rfl, Nat.le_of_ble_eq_true rfl⟩ ⟨rfl, rfl⟩ ⟨Nat.le_of_ble_eq_true rfl, Nat.le_of_ble_eq_true rfl⟩ rfl (Eq.trans (b := 14) rfl rfl) ?_
          show g 0 0 (wM (stM (up2 (nbW (nbW (stM (up2 (up2 M 5 (zeroS (M 5) 36)) 16 (k1 0)) ln 0) ln (stA_ (M 11) ln 0) 1) ln (nbP (M 11) ln (stA_ (M 11) ln 0)) 2) 5 (upd ((nbW (nbW (stM (up2 (up2 M 5 (zeroS (M 5) 36)) 16 (k1 0)) ln 0) ln (stA_ (M 11) ln 0) 1) ln (nbP (M 11) ln (stA_ (M 11) ln 0)) 2) 5) 3 1)) ln (nbP (M 11) ln (nbP (M 11) ln (stA_ (M 11) ln 0))))) 91 [some (.ref 0), some (.int (nI 36))] []
          show g 0 0 (wM (stM (up2 (nbW (nbW (stM (up2 (up2 M 5 (zeroS (M 5) 36)) 16 (k1 0)) ln 0) ln (stA_ (M 11) ln 0) 1) ln (nbP (M 11) ln (stA_ (M 11) ln 0)) 2) 5 (upd ((nbW (nbW (stM (up2 (up2 M 5 (zeroS (M 5) 36)) 16 (k1 0)) ln 0) ln (stA_ (M 11) ln 0) 1) ln (nbP (M 11) ln (stA_ (M 11) ln 0)) 2) 5) 3 1)) ln (nbP (M 11) ln (nbP (M 11) ln (stA_ (M 11) ln 0))))) 91 [some (.ref 0), some (.int (nI 36))] []
          have hX : rdM M ln = ((rdT ln 7 (stM (up2 (nbW (nbW (stM (up2 (up2 M 5 (zeroS (M 5) 36)) 16 (k1 0)) ln 0) ln (stA_ (M 11) ln 0) 1) ln (nbP (M 11) ln (stA_ (M 11) ln 0)) 2) 5 (upd ((nbW (nbW (stM (up2 (up2 M 5 (zeroS (M 5) 36)) 16 (k1 0)) ln 0) ln (stA_ (M 11) ln 0) 1) ln (nbP (M 11) ln (stA_ (M 11) ln 0)) 2) 5) 3 1)) ln (nbP (M 11) ln (nbP (M 11) ln (stA_ (M 11) ln 0)))) (stA_ (M 11) ln (nbP (M 11) ln (nbP (M 11) ln (stA_ (M 11) ln 0)))) 0).1, (rdT ln 7 (stM (up2 (nbW (nbW (stM (up2 (up2 M 5 (zeroS (M 5) 36)) 16 (k1 0)) ln 0) ln (stA_ (M 11) ln 0) 1) ln (nbP (M 11) ln (stA_ (M 11) ln 0)) 2) 5 (upd ((nbW (nbW (stM (up2 (up2 M 5 (zeroS (M 5) 36)) 16 (k1 0)) ln 0) ln (stA_ (M 11) ln 0) 1) ln (nbP (M 11) ln (stA_ (M 11) ln 0)) 2) 5) 3 1)) ln (nbP (M 11) ln (nbP (M 11) ln (stA_ (M 11) ln 0)))) (stA_ (M 11) ln (nbP (M 11) ln (nbP (M 11) ln (stA_ (M 11) ln 0)))) 0).2) := by
            unfold rdM
            rw [if_pos h_35, if_pos h_44, if_neg h_63, if_neg h_75]
          rw [hX] at E
          have hT5 : (stM (up2 (nbW (nbW (stM (up2 (up2 M 5 (zeroS (M 5) 36)) 16 (k1 0)) ln 0) ln (stA_ (M 11) ln 0) 1) ln (nbP (M 11) ln (stA_ (M 11) ln 0)) 2) 5 (upd ((nbW (nbW (stM (up2 (up2 M 5 (zeroS (M 5) 36)) 16 (k1 0)) ln 0) ln (stA_ (M 11) ln 0) 1) ln (nbP (M 11) ln (stA_ (M 11) ln 0)) 2) 5) 3 1)) ln (nbP (M 11) ln (nbP (M 11) ln (stA_ (M 11) ln 0)))) 5 0 = nI 0 := by
            rw [stM_5, up2_5, upd_ne (by omega), nbW_5 (by omega), nbW_5 (by omega), stM_5]
            show zeroS (M 5) 36 0 = _
            unfold zeroS; rw [if_pos (by omega)]; rfl
          have hT12 : (stM (up2 (nbW (nbW (stM (up2 (up2 M 5 (zeroS (M 5) 36)) 16 (k1 0)) ln 0) ln (stA_ (M 11) ln 0) 1) ln (nbP (M 11) ln (stA_ (M 11) ln 0)) 2) 5 (upd ((nbW (nbW (stM (up2 (up2 M 5 (zeroS (M 5) 36)) 16 (k1 0)) ln 0) ln (stA_ (M 11) ln 0) 1) ln (nbP (M 11) ln (stA_ (M 11) ln 0)) 2) 5) 3 1)) ln (nbP (M 11) ln (nbP (M 11) ln (stA_ (M 11) ln 0)))) 12 0 = nI ln := hl
          have hT16 : (stM (up2 (nbW (nbW (stM (up2 (up2 M 5 (zeroS (M 5) 36)) 16 (k1 0)) ln 0) ln (stA_ (M 11) ln 0) 1) ln (nbP (M 11) ln (stA_ (M 11) ln 0)) 2) 5 (upd ((nbW (nbW (stM (up2 (up2 M 5 (zeroS (M 5) 36)) 16 (k1 0)) ln 0) ln (stA_ (M 11) ln 0) 1) ln (nbP (M 11) ln (stA_ (M 11) ln 0)) 2) 5) 3 1)) ln (nbP (M 11) ln (nbP (M 11) ln (stA_ (M 11) ln 0)))) 16 0 = nI (stA_ (M 11) ln (nbP (M 11) ln (nbP (M 11) ln (stA_ (M 11) ln 0)))) := rfl
          exact lp_X6_reads ln hln (rdT ln 7 (stM (up2 (nbW (nbW (stM (up2 (up2 M 5 (zeroS (M 5) 36)) 16 (k1 0)) ln 0) ln (stA_ (M 11) ln 0) 1) ln (nbP (M 11) ln (stA_ (M 11) ln 0)) 2) 5 (upd ((nbW (nbW (stM (up2 (up2 M 5 (zeroS (M 5) 36)) 16 (k1 0)) ln 0) ln (stA_ (M 11) ln 0) 1) ln (nbP (M 11) ln (stA_ (M 11) ln 0)) 2) 5) 3 1)) ln (nbP (M 11) ln (nbP (M 11) ln (stA_ (M 11) ln 0)))) (stA_ (M 11) ln (nbP (M 11) ln (nbP (M 11) ln (stA_ (M 11) ln 0)))) 0) (nI 36) C E 7 (stM (up2 (nbW (nbW (stM (up2 (up2 M 5 (zeroS (M 5) 36)) 16 (k1 0)) ln 0) ln (stA_ (M 11) ln 0) 1) ln (nbP (M 11) ln (stA_ (M 11) ln 0)) 2) 5 (upd ((nbW (nbW (stM (up2 (up2 M 5 (zeroS (M 5) 36)) 16 (k1 0)) ln 0) ln (stA_ (M 11) ln 0) 1) ln (nbP (M 11) ln (stA_ (M 11) ln 0)) 2) 5) 3 1)) ln (nbP (M 11) ln (nbP (M 11) ln (stA_ (M 11) ln 0)))) (stA_ (M 11) ln (nbP (M 11) ln (nbP (M 11) ln (stA_ (M 11) ln 0)))) 0 (by omega) (by omega) hT12 hT16 (stA_le (nbP_le (nbP_le (stA_le (Nat.zero_le _))))) hT5 (by rw [rdT_eq])
        · skip
          refine r_iconst (pc := 78) (v := 0) C dX6_reads_78 (by decide) ?_
          show g 0 0 (wM ((nbT (nbW (stM (up2 (up2 M 5 (zeroS (M 5) 36)) 16 (k1 0)) ln 0) ln (stA_ (M 11) ln 0) 1) ln (nbP (M 11) ln (stA_ (M 11) ln 0)) 2 0 5 59).2)) 79 [some (.ref 0), some (.int (nI 36))] [.int 0]
          have hX : rdM M ln = (0, ((nbT (nbW (stM (up2 (up2 M 5 (zeroS (M 5) 36)) 16 (k1 0)) ln 0) ln (stA_ (M 11) ln 0) 1) ln (nbP (M 11) ln (stA_ (M 11) ln 0)) 2 0 5 59).2)) := by
            unfold rdM
            rw [if_pos h_35, if_pos h_44, if_neg h_63, if_pos h_75]
          exact E _ _ _ _ _ _ dX6_reads_79 (Nat.le_refl _) (Nat.le_refl _) rfl ⟨by rw [hX], by rw [hX]⟩
    · skip
      refine r_aload_n (pc := 47) C dX6_reads_47 rfl rfl ?_
      refine r_iconst (pc := 48) (v := 1) C dX6_reads_48 (by decide) ?_
      refine r_callV0 (pc := 49) (As := [.int 1]) (st := []) (θ' := wM (up2 (stM (up2 (up2 M 5 (zeroS (M 5) 36)) 16 (k1 0)) ln 0) 20 (k1 1))) C (c_X6_fails (stM (up2 (up2 M 5 (zeroS (M 5) 36)) 16 (k1 0)) ln 0) 1) xm_X6_fails xk_X6_111 dX6_reads_49 rfl rfl rfl rfl (Nat.le_of_ble_eq_true rfl) ⟨Nat.le_of_ble_eq_true rfl, Nat.le_of_ble_eq_true rfl⟩ ⟨rfl, rfl⟩ ⟨Nat.le_of_ble_eq_true rfl, Nat.le_of_ble_eq_true rfl⟩ rfl (Eq.trans (b := 14) rfl rfl) ?_
      show g 0 0 (wM (up2 (stM (up2 (up2 M 5 (zeroS (M 5) 36)) 16 (k1 0)) ln 0) 20 (k1 1))) 52 [some (.ref 0), some (.int (nI 36))] [.int (bB false)]
      show g 0 0 (wM (up2 (stM (up2 (up2 M 5 (zeroS (M 5) 36)) 16 (k1 0)) ln 0) 20 (k1 1))) 52 [some (.ref 0), some (.int (nI 36))] [.int (bB false)]
      have hX : rdM M ln = (bB false, (up2 (stM (up2 (up2 M 5 (zeroS (M 5) 36)) 16 (k1 0)) ln 0) 20 (k1 1))) := by
        unfold rdM
        rw [if_pos h_35, if_neg h_44]
      exact E _ _ _ _ _ _ dX6_reads_52 (Nat.le_refl _) (Nat.le_refl _) (bB_nar _) ⟨by rw [hX], by rw [hX]⟩
noncomputable def rdMT : (Nat → Nat → Int32) → Nat → Int32 × (Nat → Nat → Int32) := Classical.choose (seal_ex rdM)
theorem rdMT_eq : rdMT = rdM := Classical.choose_spec (seal_ex rdM)
theorem c_X6_reads (M : Nat → Nat → Int32) (ln : Nat) (hl : M 12 0 = nI ln) (hln : ln ≤ 120) : MetA yX6_reads (.code yX6_reads cX6_reads 2 (some .boolean) :: TT) rmX6_reads [.ref 0] (wM M) (fun vr wr => vr = some (.int (rdMT M ln).1) ∧ wr = wM (rdMT M ln).2) 0 0 := by
  rw [rdMT_eq]
  exact c_X6_reads0 M ln hl hln
noncomputable def forM (M : Nat → Nat → Int32) (ln : Nat) : Int32 × (Nat → Nat → Int32) := (if ((rdMT M ln).1) = 0 then ((-1000100) - (((rdMT M ln).2) 17 0), (up2 (up2 ((rdMT M ln).2) 12 (k1 0)) 13 (k1 (((rdMT M ln).2) 20 0)))) else ((va_cpy (((rdMT M ln).2) 5) (((rdMT M ln).2) 4) 0 0 36) 0, (up2 (up2 (up2 ((rdMT M ln).2) 12 (k1 0)) 4 (va_cpy (((rdMT M ln).2) 5) (((rdMT M ln).2) 4) 0 0 36)) 8 (k1 0))))
set_option maxHeartbeats 400000 in
set_option maxRecDepth 100000 in
theorem c_X6_forest (M : Nat → Nat → Int32) (ln : Nat) (hl : M 12 0 = nI ln) (hln : ln ≤ 120) : MetA yX6_forest (.code yX6_forest cX6_forest 2 (some .int) :: TT) rmX6_forest [.ref 0] (wM M) (fun vr wr => vr = some (.int (forM M ln).1) ∧ wr = wM (forM M ln).2) 0 0 := by
  refine MetA.of_i (by decide) (fun _ => Nat.le_of_ble_eq_true rfl) (Nat.le_of_ble_eq_true rfl) (fun g C E => ?_)
  replace C : Sem cX6_forest RX6 "forest" 2 rmX6_forest g := C
  show g 0 0 (wM M) 0 [some (.ref 0), none] []
  refine r_aload_n (pc := 0) C dX6_forest_0 rfl rfl ?_
  refine r_callV0 (pc := 1) (As := []) (st := []) (θ' := wM ((rdMT M ln).2)) C (c_X6_reads M ln hl hln) xm_X6_reads xk_X6_125 dX6_forest_1 rfl rfl rfl rfl (Nat.le_of_ble_eq_true rfl) ⟨Nat.le_of_ble_eq_true rfl, Nat.le_of_ble_eq_true rfl⟩ ⟨rfl, rfl⟩ ⟨Nat.le_of_ble_eq_true rfl, Nat.le_of_ble_eq_true rfl⟩ rfl (Eq.trans (b := 14) rfl rfl) ?_
  show g 0 0 (wM ((rdMT M ln).2)) 4 [some (.ref 0), none] [.int ((rdMT M ln).1)]
  refine r_istore_n (pc := 4) (lv' := [some (.ref 0), some (.int ((rdMT M ln).1))]) C dX6_forest_4 rfl (Nat.le_of_ble_eq_true rfl) trivial rfl ?_
  refine r_aload_n (pc := 5) C dX6_forest_5 rfl rfl ?_
  refine r_iconst (pc := 6) (v := 0) C dX6_forest_6 (by decide) ?_
  refine r_putfield (pc := 7) (θ' := wM (up2 ((rdMT M ln).2) 12 (k1 0))) C xf_X6_77 xt_X6_12 dX6_forest_7 rfl (Nat.le_of_ble_eq_true rfl) (fun _ => ⟨rfl, rfl⟩) rfl ?_
  refine r_iload_n (pc := 10) C dX6_forest_10 rfl rfl ?_
  refine r_if_ne (pc := 11) (tgt := 30) C dX6_forest_11 (by decide) (fun h_11 => ?_) (fun h_11 => ?_)
  · skip
    refine r_aload_n (pc := 30) C dX6_forest_30 rfl rfl ?_
    refine r_getfield (pc := 31) (v := .ref 5) C xf_X6_22 dX6_forest_31 rfl rfl ?_
    refine r_iconst (pc := 34) (v := 0) C dX6_forest_34 (by decide) ?_
    refine r_aload_n (pc := 35) C dX6_forest_35 rfl rfl ?_
    refine r_getfield (pc := 36) (v := .ref 4) C xf_X6_19 dX6_forest_36 rfl rfl ?_
    refine r_iconst (pc := 39) (v := 0) C dX6_forest_39 (by decide) ?_
    refine r_callSD (pc := 40) (As := [.ref 5, .int 0, .ref 4, .int 0]) (st := []) (θ2 := wM (up2 (up2 ((rdMT M ln).2) 12 (k1 0)) 4 (va_cpy (((rdMT M ln).2) 5) (((rdMT M ln).2) 4) 0 0 36))) (r2 := none) C [5, 4] (c_X6_copies 36 36 (by decide) (by decide) (((rdMT M ln).2) 5) (((rdMT M ln).2) 4) 0 0 (by omega) (by omega)) xm_X6_copies xk_X6_132 dX6_forest_40 rfl (by decide) rfl rfl rfl (Nat.le_of_ble_eq_true rfl) ⟨Nat.le_of_ble_eq_true rfl, Nat.le_of_ble_eq_true rfl⟩ ⟨rfl, rfl⟩ ⟨Nat.le_of_ble_eq_true rfl, Nat.le_of_ble_eq_true rfl⟩ rfl (Eq.trans (b := 2) rfl rfl) rfl rfl ?_
    show g 0 0 (wM (up2 (up2 ((rdMT M ln).2) 12 (k1 0)) 4 (va_cpy (((rdMT M ln).2) 5) (((rdMT M ln).2) 4) 0 0 36))) 43 [some (.ref 0), some (.int ((rdMT M ln).1))] []
    refine r_aload_n (pc := 43) C dX6_forest_43 rfl rfl ?_
    refine r_iconst (pc := 44) (v := 0) C dX6_forest_44 (by decide) ?_
    refine r_putfield (pc := 45) (θ' := wM (up2 (up2 (up2 ((rdMT M ln).2) 12 (k1 0)) 4 (va_cpy (((rdMT M ln).2) 5) (((rdMT M ln).2) 4) 0 0 36)) 8 (k1 0))) C xf_X6_136 xt_X6_8 dX6_forest_45 rfl (Nat.le_of_ble_eq_true rfl) (fun _ => ⟨rfl, rfl⟩) rfl ?_
    refine r_aload_n (pc := 48) C dX6_forest_48 rfl rfl ?_
    refine r_getfield (pc := 49) (v := .ref 4) C xf_X6_19 dX6_forest_49 rfl rfl ?_
    refine r_iconst (pc := 52) (v := 0) C dX6_forest_52 (by decide) ?_
    refine r_iaload (pc := 53) (v := (va_cpy (((rdMT M ln).2) 5) (((rdMT M ln).2) 4) 0 0 36) 0) C 0 dX6_forest_53 rfl (by decide) (by decide) rfl ?_
    show g 0 0 (wM (up2 (up2 (up2 ((rdMT M ln).2) 12 (k1 0)) 4 (va_cpy (((rdMT M ln).2) 5) (((rdMT M ln).2) 4) 0 0 36)) 8 (k1 0))) 54 [some (.ref 0), some (.int ((rdMT M ln).1))] [.int ((va_cpy (((rdMT M ln).2) 5) (((rdMT M ln).2) 4) 0 0 36) 0)]
    have hX : forM M ln = ((va_cpy (((rdMT M ln).2) 5) (((rdMT M ln).2) 4) 0 0 36) 0, (up2 (up2 (up2 ((rdMT M ln).2) 12 (k1 0)) 4 (va_cpy (((rdMT M ln).2) 5) (((rdMT M ln).2) 4) 0 0 36)) 8 (k1 0))) := by
      unfold forM
      rw [if_neg h_11]
    exact E _ _ _ _ _ _ dX6_forest_54 (Nat.le_refl _) (Nat.le_refl _) rfl ⟨by rw [hX], by rw [hX]⟩
  · skip
    refine r_aload_n (pc := 14) C dX6_forest_14 rfl rfl ?_
    refine r_aload_n (pc := 15) C dX6_forest_15 rfl rfl ?_
    refine r_getfield (pc := 16) (v := .int (((rdMT M ln).2) 20 0)) C xf_X6_105 dX6_forest_16 rfl rfl ?_
    refine r_putfield (pc := 19) (θ' := wM (up2 (up2 ((rdMT M ln).2) 12 (k1 0)) 13 (k1 (((rdMT M ln).2) 20 0)))) C xf_X6_128 xt_X6_13 dX6_forest_19 rfl (Nat.le_of_ble_eq_true rfl) (fun _ => ⟨rfl, rfl⟩) rfl ?_
    refine r_ldc (pc := 22) (v := (-1000100)) C dX6_forest_22 tw_731 ?_
    refine r_aload_n (pc := 24) C dX6_forest_24 rfl rfl ?_
    refine r_getfield (pc := 25) (v := .int (((rdMT M ln).2) 17 0)) C xf_X6_84 dX6_forest_25 rfl rfl ?_
    refine r_isub (pc := 28) C dX6_forest_28 ?_
    show g 0 0 (wM (up2 (up2 ((rdMT M ln).2) 12 (k1 0)) 13 (k1 (((rdMT M ln).2) 20 0)))) 29 [some (.ref 0), some (.int ((rdMT M ln).1))] [.int ((-1000100) - (((rdMT M ln).2) 17 0))]
    have hX : forM M ln = ((-1000100) - (((rdMT M ln).2) 17 0), (up2 (up2 ((rdMT M ln).2) 12 (k1 0)) 13 (k1 (((rdMT M ln).2) 20 0)))) := by
      unfold forM
      rw [if_pos h_11]
    exact E _ _ _ _ _ _ dX6_forest_29 (Nat.le_refl _) (Nat.le_refl _) rfl ⟨by rw [hX], by rw [hX]⟩
