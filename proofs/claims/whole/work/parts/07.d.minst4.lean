def shS (f : Nat → Int32) (k : Nat) : Nat → Int32 := fun p => if p < k then f (p + 36) else f p
theorem sh_0 (f : Nat → Int32) : shS f 0 = f := by funext p; simp [shS]
theorem sh_at (f : Nat → Int32) (k : Nat) : shS f k (k + 36) = f (k + 36) := by unfold shS; rw [if_neg (by omega)]
theorem sh_step (f : Nat → Int32) (k : Nat) : upd (shS f k) k (f (k + 36)) = shS f (k + 1) := by
  funext p
  unfold upd shS
  by_cases h : p = k
  · subst h; rw [if_pos rfl, if_pos (by omega)]
  · rw [if_neg h]
    by_cases h2 : p < k
    · rw [if_pos h2, if_pos (by omega)]
    · rw [if_neg h2, if_neg (by omega)]
def rmP (M : Nat → Nat → Int32) (q : Nat) : Nat → Int32 := if q = 24 then va_cpy (M 4) (shS (M 7) 828) 0 (36 * (24 - 1)) 36 else va_cpy (M 4) (M 7) 0 (36 * q) 36
def rmQ (q : Nat) : Int32 := if q = 24 then nI (24 - 1 + 1) else nI (q + 1)
def rmS (M : Nat → Nat → Int32) (q : Nat) : Nat → Nat → Int32 := up2 (up2 M 7 (rmP M q)) 8 (k1 (rmQ q))
def rmX6_undo : Room := { frames := 1, cells := 0, slots := 0, locals := 24 }
set_option maxHeartbeats 4000000 in
set_option maxRecDepth 100000 in
theorem c_X6_remember_lt (M : Nat → Nat → Int32) (q : Nat) (hq : M 8 0 = nI q) (hq24 : q < 24) : MetA yX6_remember (.code yX6_remember cX6_remember 2 none :: TT) rmX6_remember [.ref 0] (wM M) (fun vr wr => vr = none ∧ wr = wM (up2 (up2 M 7 (va_cpy (M 4) (M 7) 0 (36 * q) 36)) 8 (k1 (nI (q + 1))))) 0 0 := by
  refine MetA.of_v (by decide) (fun _ => Nat.le_of_ble_eq_true rfl) (Nat.le_of_ble_eq_true rfl) (fun g C E => ?_)
  replace C : Sem cX6_remember RX6 "remember" 2 rmX6_remember g := C
  show g 0 0 (wM M) 0 [some (.ref 0), none] []
  refine r_aload_n (pc := 0) C dX6_remember_0 rfl rfl ?_
  refine r_getfield (pc := 1) (v := .int (M 8 0)) C xf_X6_136 dX6_remember_1 rfl rfl ?_
  refine r_bipush (pc := 4) (v := 24) C dX6_remember_4 (by decide) ?_
  refine r_icmp_ne (pc := 6) (tgt := 49) C dX6_remember_6 (by decide) (fun _ => ?_) (fun h => absurd h (by rw [hq]; exact fun z => absurd ((nI_eq (b := 24) (by omega) (by omega)).mp z) (by omega)))
  refine r_aload_n (pc := 49) C dX6_remember_49 rfl rfl ?_
  refine r_getfield (pc := 50) (v := .ref 4) C xf_X6_19 dX6_remember_50 rfl rfl ?_
  refine r_iconst (pc := 53) (v := 0) C dX6_remember_53 (by decide) ?_
  refine r_aload_n (pc := 54) C dX6_remember_54 rfl rfl ?_
  refine r_getfield (pc := 55) (v := .ref 7) C xf_X6_28 dX6_remember_55 rfl rfl ?_
  refine r_bipush (pc := 58) (v := 36) C dX6_remember_58 (by decide) ?_
  refine r_aload_n (pc := 60) C dX6_remember_60 rfl rfl ?_
  refine r_getfield (pc := 61) (v := .int (M 8 0)) C xf_X6_136 dX6_remember_61 rfl rfl ?_
  refine r_imul (pc := 64) C dX6_remember_64 ?_
  rw [show (36 * (M 8 0) : Int32) = nI (36 * q) from (nI_prod (m := 36) rfl hq)]
  refine r_callSD (pc := 65) (As := [.ref 4, .int 0, .ref 7, .int (nI (36 * q))]) (st := []) (θ2 := wM (up2 M 7 (va_cpy (M 4) (M 7) 0 (36 * q) 36))) (r2 := none) C [4, 7] (c_X6_copies 36 864 (by decide) (by decide) (M 4) (M 7) 0 (36 * q) (by omega) (by omega)) xm_X6_copies xk_X6_132 dX6_remember_65 rfl (by decide) rfl rfl rfl (Nat.le_of_ble_eq_true rfl) ⟨Nat.le_of_ble_eq_true rfl, Nat.le_of_ble_eq_true rfl⟩ ⟨rfl, rfl⟩ ⟨Nat.le_of_ble_eq_true rfl, Nat.le_of_ble_eq_true rfl⟩ rfl (Eq.trans (b := 2) rfl rfl) rfl rfl ?_
  show g 0 0 (wM (up2 M 7 (va_cpy (M 4) (M 7) 0 (36 * q) 36))) 68 [some (.ref 0), none] []
  refine r_aload_n (pc := 68) C dX6_remember_68 rfl rfl ?_
  refine r_dup (pc := 69) C dX6_remember_69 rfl ?_
  refine r_getfield (pc := 70) (v := .int (M 8 0)) C xf_X6_136 dX6_remember_70 rfl rfl ?_
  refine r_iconst (pc := 73) (v := 1) C dX6_remember_73 (by decide) ?_
  refine r_iadd (pc := 74) C dX6_remember_74 ?_
  show g 0 0 (wM (up2 M 7 (va_cpy (M 4) (M 7) 0 (36 * q) 36))) 75 [some (.ref 0), none] [.int ((M 8 0) + 1), .ref 0]
  rw [show ((M 8 0) + 1 : Int32) = nI (q + 1) from (nI_sum hq rfl)]
  refine r_putfield (pc := 75) (θ' := wM (up2 (up2 M 7 (va_cpy (M 4) (M 7) 0 (36 * q) 36)) 8 (k1 (nI (q + 1))))) C xf_X6_136 xt_X6_8 dX6_remember_75 rfl (Nat.le_of_ble_eq_true rfl) (fun _ => ⟨rfl, rfl⟩) rfl ?_
  exact E _ _ _ _ _ dX6_remember_78 (Nat.le_refl _) (Nat.le_refl _) ⟨rfl, rfl⟩
set_option maxHeartbeats 4000000 in
set_option maxRecDepth 100000 in
theorem lp_X6_remember (M : Nat → Nat → Int32) (hq : M 8 0 = nI 24) {g : Nat → Nat → List xE → Nat → List (Option Value) → List Value → Prop} (C : Sem cX6_remember RX6 "remember" 2 rmX6_remember g) (E : xEv g cX6_remember 0 0 (fun vr wr => vr = none ∧ wr = wM (up2 (up2 M 7 (va_cpy (M 4) (shS (M 7) 828) 0 (36 * (24 - 1)) 36)) 8 (k1 (nI (24 - 1 + 1)))))) : ∀ (n : Nat) (k : Nat), k + n = 828 → g 0 0 (wM (up2 M 7 (shS (M 7) k))) 11 [some (.ref 0), some (.int (nI k))] [] := by
  intro n
  induction n with
  | zero =>
    intro k hk
    have hkz : k = 828 := by omega
    rw [hkz]
    refine r_iload_n (pc := 11) C dX6_remember_11 rfl rfl ?_
    refine r_sipush (pc := 12) (v := 828) C dX6_remember_12 (by decide) ?_
    refine r_icmp_ge (pc := 15) (tgt := 39) C dX6_remember_15 (by decide) (fun _ => ?_) (fun h => absurd (nI_le (a := 828) (by omega) (by omega)) h)
    refine r_aload_n (pc := 39) C dX6_remember_39 rfl rfl ?_
    refine r_dup (pc := 40) C dX6_remember_40 rfl ?_
    refine r_getfield (pc := 41) (v := .int (M 8 0)) C xf_X6_136 dX6_remember_41 rfl rfl ?_
    refine r_iconst (pc := 44) (v := 1) C dX6_remember_44 (by decide) ?_
    refine r_isub (pc := 45) C dX6_remember_45 ?_
    show g 0 0 (wM (up2 M 7 (shS (M 7) 828))) 46 [some (.ref 0), some (.int (nI 828))] [.int ((M 8 0) - 1), .ref 0]
    rw [show ((M 8 0) - 1 : Int32) = nI (24 - 1) from (nI_dif hq rfl (by omega))]
    refine r_putfield (pc := 46) (θ' := wM (up2 (up2 M 7 (shS (M 7) 828)) 8 (k1 (nI (24 - 1))))) C xf_X6_136 xt_X6_8 dX6_remember_46 rfl (Nat.le_of_ble_eq_true rfl) (fun _ => ⟨rfl, rfl⟩) rfl ?_
    refine r_aload_n (pc := 49) C dX6_remember_49 rfl rfl ?_
    refine r_getfield (pc := 50) (v := .ref 4) C xf_X6_19 dX6_remember_50 rfl rfl ?_
    refine r_iconst (pc := 53) (v := 0) C dX6_remember_53 (by decide) ?_
    refine r_aload_n (pc := 54) C dX6_remember_54 rfl rfl ?_
    refine r_getfield (pc := 55) (v := .ref 7) C xf_X6_28 dX6_remember_55 rfl rfl ?_
    refine r_bipush (pc := 58) (v := 36) C dX6_remember_58 (by decide) ?_
    refine r_aload_n (pc := 60) C dX6_remember_60 rfl rfl ?_
    refine r_getfield (pc := 61) (v := .int (nI (24 - 1))) C xf_X6_136 dX6_remember_61 rfl rfl ?_
    refine r_imul (pc := 64) C dX6_remember_64 ?_
    rw [show (36 * (nI (24 - 1)) : Int32) = nI (36 * (24 - 1)) from (nI_prod (m := 36) rfl rfl)]
    refine r_callSD (pc := 65) (As := [.ref 4, .int 0, .ref 7, .int (nI (36 * (24 - 1)))]) (st := []) (θ2 := wM (up2 (up2 M 8 (k1 (nI (24 - 1)))) 7 (va_cpy (M 4) (shS (M 7) 828) 0 (36 * (24 - 1)) 36))) (r2 := none) C [4, 7] (c_X6_copies 36 864 (by decide) (by decide) (M 4) (shS (M 7) 828) 0 (36 * (24 - 1)) (by omega) (by omega)) xm_X6_copies xk_X6_132 dX6_remember_65 rfl (by decide) rfl rfl rfl (Nat.le_of_ble_eq_true rfl) ⟨Nat.le_of_ble_eq_true rfl, Nat.le_of_ble_eq_true rfl⟩ ⟨rfl, rfl⟩ ⟨Nat.le_of_ble_eq_true rfl, Nat.le_of_ble_eq_true rfl⟩ rfl (Eq.trans (b := 2) rfl rfl) rfl rfl ?_
    show g 0 0 (wM (up2 (up2 M 8 (k1 (nI (24 - 1)))) 7 (va_cpy (M 4) (shS (M 7) 828) 0 (36 * (24 - 1)) 36))) 68 [some (.ref 0), some (.int (nI 828))] []
    refine r_aload_n (pc := 68) C dX6_remember_68 rfl rfl ?_
    refine r_dup (pc := 69) C dX6_remember_69 rfl ?_
    refine r_getfield (pc := 70) (v := .int (nI (24 - 1))) C xf_X6_136 dX6_remember_70 rfl rfl ?_
    refine r_iconst (pc := 73) (v := 1) C dX6_remember_73 (by decide) ?_
    refine r_iadd (pc := 74) C dX6_remember_74 ?_
    show g 0 0 (wM (up2 (up2 M 8 (k1 (nI (24 - 1)))) 7 (va_cpy (M 4) (shS (M 7) 828) 0 (36 * (24 - 1)) 36))) 75 [some (.ref 0), some (.int (nI 828))] [.int ((nI (24 - 1)) + 1), .ref 0]
    rw [show ((nI (24 - 1)) + 1 : Int32) = nI ((24 - 1) + 1) from (nI_sum rfl rfl)]
    refine r_putfield (pc := 75) (θ' := wM (up2 (up2 M 7 (va_cpy (M 4) (shS (M 7) 828) 0 (36 * (24 - 1)) 36)) 8 (k1 (nI ((24 - 1) + 1))))) C xf_X6_136 xt_X6_8 dX6_remember_75 rfl (Nat.le_of_ble_eq_true rfl) (fun _ => ⟨rfl, rfl⟩) rfl ?_
    exact E _ _ _ _ _ dX6_remember_78 (Nat.le_refl _) (Nat.le_refl _) ⟨rfl, rfl⟩
  | succ n ih =>
    intro k hk
    refine r_iload_n (pc := 11) C dX6_remember_11 rfl rfl ?_
    refine r_sipush (pc := 12) (v := 828) C dX6_remember_12 (by decide) ?_
    refine r_icmp_ge (pc := 15) (tgt := 39) C dX6_remember_15 (by decide) (fun h => absurd h (nI_ge (b := 828) (by omega) (by omega))) (fun _ => ?_)
    refine r_aload_n (pc := 18) C dX6_remember_18 rfl rfl ?_
    refine r_getfield (pc := 19) (v := .ref 7) C xf_X6_28 dX6_remember_19 rfl rfl ?_
    refine r_iload_n (pc := 22) C dX6_remember_22 rfl rfl ?_
    refine r_aload_n (pc := 23) C dX6_remember_23 rfl rfl ?_
    refine r_getfield (pc := 24) (v := .ref 7) C xf_X6_28 dX6_remember_24 rfl rfl ?_
    refine r_iload_n (pc := 27) C dX6_remember_27 rfl rfl ?_
    refine r_bipush (pc := 28) (v := 36) C dX6_remember_28 (by decide) ?_
    refine r_iadd (pc := 30) C dX6_remember_30 ?_
    refine r_iaload (pc := 31) (v := M 7 (k + 36)) C (k + 36) dX6_remember_31 rfl (nI_sum rfl rfl) (by first | assumption | omega) (sh_at _ _) ?_
    refine r_iastore (pc := 32) (θ' := wM (up2 M 7 (upd (shS (M 7) k) k (M 7 (k + 36))))) C k dX6_remember_32 rfl rfl (by first | assumption | omega) rfl ?_
    refine r_iinc (pc := 33) (v := nI (k + 1)) (lv' := [some (.ref 0), some (.int (nI (k + 1)))]) C dX6_remember_33 rfl (nI_1 k) trivial rfl ?_
    refine r_goto (pc := 36) (tgt := 11) C dX6_remember_36 (by decide) ?_
    show g 0 0 (wM (up2 M 7 (upd (shS (M 7) k) k (M 7 (k + 36))))) 11 [some (.ref 0), some (.int (nI (k + 1)))] []
    rw [sh_step]
    exact ih (k + 1) (by omega)
set_option maxHeartbeats 4000000 in
set_option maxRecDepth 100000 in
theorem c_X6_remember_full (M : Nat → Nat → Int32) (hq : M 8 0 = nI 24) : MetA yX6_remember (.code yX6_remember cX6_remember 2 none :: TT) rmX6_remember [.ref 0] (wM M) (fun vr wr => vr = none ∧ wr = wM (up2 (up2 M 7 (va_cpy (M 4) (shS (M 7) 828) 0 (36 * (24 - 1)) 36)) 8 (k1 (nI (24 - 1 + 1))))) 0 0 := by
  refine MetA.of_v (by decide) (fun _ => Nat.le_of_ble_eq_true rfl) (Nat.le_of_ble_eq_true rfl) (fun g C E => ?_)
  replace C : Sem cX6_remember RX6 "remember" 2 rmX6_remember g := C
  show g 0 0 (wM M) 0 [some (.ref 0), none] []
  refine r_aload_n (pc := 0) C dX6_remember_0 rfl rfl ?_
  refine r_getfield (pc := 1) (v := .int (M 8 0)) C xf_X6_136 dX6_remember_1 rfl rfl ?_
  refine r_bipush (pc := 4) (v := 24) C dX6_remember_4 (by decide) ?_
  refine r_icmp_ne (pc := 6) (tgt := 49) C dX6_remember_6 (by decide) (fun h => absurd (by rw [hq]; rfl) h) (fun _ => ?_)
  refine r_iconst (pc := 9) (v := 0) C dX6_remember_9 (by decide) ?_
  refine r_istore_n (pc := 10) (lv' := [some (.ref 0), some (.int 0)]) C dX6_remember_10 rfl (Nat.le_of_ble_eq_true rfl) trivial rfl ?_
  have h0 := lp_X6_remember M hq C E 828 0 (by omega)
  rw [sh_0] at h0
  exact h0
theorem c_X6_remember (M : Nat → Nat → Int32) (q : Nat) (hq : M 8 0 = nI q) (hq24 : q ≤ 24) : MetA yX6_remember (.code yX6_remember cX6_remember 2 none :: TT) rmX6_remember [.ref 0] (wM M) (fun vr wr => vr = none ∧ wr = wM (rmS M q)) 0 0 := by
  unfold rmS rmP rmQ
  by_cases h24 : q = 24
  · subst h24
    rw [if_pos rfl, if_pos rfl]
    exact c_X6_remember_full M hq
  · rw [if_neg h24, if_neg h24]
    exact c_X6_remember_lt M q hq (by omega)
