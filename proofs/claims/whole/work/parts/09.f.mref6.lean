def rmX6_here : Room := { frames := 0, cells := 0, slots := 0, locals := 0 }
def rmX6_step : Room := { frames := 1, cells := 0, slots := 0, locals := 25 }
def rmX6_fails : Room := { frames := 0, cells := 0, slots := 0, locals := 0 }
def rmX6_number : Room := { frames := 2, cells := 0, slots := 0, locals := 45 }
def rmX6_readsHammock : Room := { frames := 3, cells := 0, slots := 0, locals := 69 }
def rmX6_reads : Room := { frames := 4, cells := 0, slots := 0, locals := 91 }
def rmX6_forest : Room := { frames := 5, cells := 0, slots := 0, locals := 112 }
/-! ===== the reference's tape ===== -/
noncomputable def dgB (b : Nat → Int32) (ln q : Nat) : Bool := inI (byteS b ln q) 48 57
noncomputable def dgF (b : Nat → Int32) (ln : Nat) : Nat → Nat → Nat
  | 0, _ => 0
  | n + 1, q => if dgB b ln q then dgF b ln n (q + 1) + 1 else 0
noncomputable def dgL (b : Nat → Int32) (ln p : Nat) : Nat := dgF b ln (ln - p) p
noncomputable def dvS (b : Nat → Int32) (ln p : Nat) : Nat → Int32
  | 0 => 0
  | i + 1 => if 2 ≤ nI i then dvS b ln p i else 10 * dvS b ln p i + byteS b ln (p + i) - 48
def tkC (c : Int32) : Int32 := if 0 ≤ c then (if inI c 97 122 then 1 else if inI c 48 57 then 2 else if c = 44 then 3 else if c = 59 then 3 else 4) else 0
noncomputable def stT0 (b : Nat → Int32) (ln p : Nat) : Int32 := if tkC (byteS b ln p) = 2 then (if nI (dgL b ln p) ≤ 2 then 2 else 4) else tkC (byteS b ln p)
noncomputable def stV0 (b : Nat → Int32) (ln p : Nat) : Int32 := if tkC (byteS b ln p) = 2 then dvS b ln p (dgL b ln p) else byteS b ln p
noncomputable def stA0 (b : Nat → Int32) (ln p : Nat) : Nat := if tkC (byteS b ln p) = 2 then p + dgL b ln p else if tkC (byteS b ln p) = 0 then p else p + 1
noncomputable def stT : (Nat → Int32) → Nat → Nat → Int32 := Classical.choose (seal_ex stT0)
theorem stT_eq : stT = stT0 := Classical.choose_spec (seal_ex stT0)
noncomputable def stV : (Nat → Int32) → Nat → Nat → Int32 := Classical.choose (seal_ex stV0)
theorem stV_eq : stV = stV0 := Classical.choose_spec (seal_ex stV0)
noncomputable def stA_ : (Nat → Int32) → Nat → Nat → Nat := Classical.choose (seal_ex stA0)
theorem stA_eq : stA_ = stA0 := Classical.choose_spec (seal_ex stA0)
noncomputable def stM (M : Nat → Nat → Int32) (ln p : Nat) : Nat → Nat → Int32 := up2 (up2 (up2 (up2 M 17 (k1 (nI p))) 19 (k1 (stV (M 11) ln p))) 18 (k1 (stT (M 11) ln p))) 16 (k1 (nI (stA_ (M 11) ln p)))
theorem dgB_lt {b : Nat → Int32} {ln q : Nat} (h : dgB b ln q = true) : q < ln := by
  rcases Nat.lt_or_ge q ln with h1 | h1
  · exact h1
  · exfalso
    unfold dgB at h
    rw [byteS_eq, byteS0, if_neg (by omega)] at h
    revert h
    decide
theorem dgF_le (b : Nat → Int32) (ln : Nat) : ∀ n q, dgF b ln n q ≤ n
  | 0, _ => Nat.le_refl _
  | n + 1, q => by
    unfold dgF
    split
    · have := dgF_le b ln n (q + 1); omega
    · omega
theorem tkC_lt {b : Nat → Int32} {ln p : Nat} (h : 0 ≤ byteS b ln p) : p < ln := by
  rcases Nat.lt_or_ge p ln with h1 | h1
  · exact h1
  · exfalso
    rw [byteS_eq, byteS0, if_neg (by omega)] at h
    revert h
    decide
theorem stA_le {b : Nat → Int32} {ln p : Nat} (h : p ≤ ln) : stA_ b ln p ≤ ln := by
  rw [stA_eq]
  unfold stA0
  by_cases h0 : 0 ≤ byteS b ln p
  · have := tkC_lt h0
    have := dgF_le b ln (ln - p) p
    unfold dgL
    split
    · omega
    · split <;> omega
  · have : tkC (byteS b ln p) = 0 := if_neg h0
    rw [this, if_neg (by decide), if_pos rfl]
    exact h
theorem wM_16 {M : Nat → Nat → Int32} {p : Nat} (hp : M 16 0 = nI p) : wM M = wM (up2 M 16 (k1 (nI p))) := by
  have h : wM M = wM (up2 M 16 (k1 (M 16 0))) := rfl
  rw [hp] at h
  exact h
set_option maxHeartbeats 4000000 in
set_option maxRecDepth 100000 in
theorem c_X6_here (M : Nat → Nat → Int32) (ln p : Nat) (hl : M 12 0 = nI ln) (hln : ln ≤ 120) (hp : M 16 0 = nI p) (hpl : p ≤ ln) : MetA yX6_here (.code yX6_here cX6_here 1 (some .int) :: TT) rmX6_here [.ref 0] (wM M) (fun vr wr => vr = some (.int (byteS (M 11) ln p)) ∧ wr = wM M) 0 0 := by
  refine MetA.of_i (by decide) (fun _ => Nat.le_of_ble_eq_true rfl) (Nat.le_of_ble_eq_true rfl) (fun g C E => ?_)
  replace C : Sem cX6_here RX6 "here" 1 rmX6_here g := C
  show g 0 0 (wM M) 0 [some (.ref 0)] []
  refine r_aload_n (pc := 0) C dX6_here_0 rfl rfl ?_
  refine r_getfield (pc := 1) (v := .int (M 16 0)) C xf_X6_81 dX6_here_1 rfl rfl ?_
  refine r_aload_n (pc := 4) C dX6_here_4 rfl rfl ?_
  refine r_getfield (pc := 5) (v := .int (M 12 0)) C xf_X6_77 dX6_here_5 rfl rfl ?_
  refine r_icmp_ge (pc := 8) (tgt := 23) C dX6_here_8 (by decide) (fun h_8 => ?_) (fun h_8 => ?_)
  · skip
    replace h_8 : ¬ p < ln := fun z => absurd (by rw [hl, hp] at h_8; exact h_8) (nI_ge z (by omega))
    refine r_iconst (pc := 23) (v := (-1)) C dX6_here_23 (by decide) ?_
    show g 0 0 (wM M) 24 [some (.ref 0)] [.int (-1)]
    exact E _ _ _ _ _ _ dX6_here_24 (Nat.le_refl _) (Nat.le_refl _) rfl ⟨congrArg (fun z => some (Value.int z)) (by rw [byteS_eq, byteS0]; first | rw [if_pos h_8] | rw [if_neg h_8]), rfl⟩
  · skip
    replace h_8 : p < ln := Nat.lt_of_not_le (fun z => h_8 (by rw [hl, hp]; exact nI_le z (by omega)))
    refine r_aload_n (pc := 11) C dX6_here_11 rfl rfl ?_
    refine r_getfield (pc := 12) (v := .ref 10) C xf_X6_38 dX6_here_12 rfl rfl ?_
    refine r_aload_n (pc := 15) C dX6_here_15 rfl rfl ?_
    refine r_getfield (pc := 16) (v := .int (M 16 0)) C xf_X6_81 dX6_here_16 rfl rfl ?_
    refine r_iaload (pc := 19) (v := M 11 p) C p dX6_here_19 rfl hp (by first | assumption | omega) rfl ?_
    refine r_goto (pc := 20) (tgt := 24) C dX6_here_20 (by decide) ?_
    show g 0 0 (wM M) 24 [some (.ref 0)] [.int (M 11 p)]
    exact E _ _ _ _ _ _ dX6_here_24 (Nat.le_refl _) (Nat.le_refl _) rfl ⟨congrArg (fun z => some (Value.int z)) (by rw [byteS_eq, byteS0]; first | rw [if_pos h_8] | rw [if_neg h_8]), rfl⟩
set_option maxHeartbeats 4000000 in
set_option maxRecDepth 100000 in
theorem c_X6_fails (M : Nat → Nat → Int32) (v : Int32) : MetA yX6_fails (.code yX6_fails cX6_fails 2 (some .boolean) :: TT) rmX6_fails [.ref 0, .int v] (wM M) (fun vr wr => vr = some (.int (bB false)) ∧ wr = wM (up2 M 20 (k1 v))) 0 0 := by
  refine MetA.of_i (by decide) (fun _ => Nat.le_of_ble_eq_true rfl) (Nat.le_of_ble_eq_true rfl) (fun g C E => ?_)
  replace C : Sem cX6_fails RX6 "fails" 2 rmX6_fails g := C
  show g 0 0 (wM M) 0 [some (.ref 0), some (.int v)] []
  refine r_aload_n (pc := 0) C dX6_fails_0 rfl rfl ?_
  refine r_iload_n (pc := 1) C dX6_fails_1 rfl rfl ?_
  refine r_putfield (pc := 2) (θ' := wM (up2 M 20 (k1 v))) C xf_X6_105 xt_X6_20 dX6_fails_2 rfl (Nat.le_of_ble_eq_true rfl) (fun _ => ⟨rfl, rfl⟩) rfl ?_
  refine r_iconst (pc := 5) (v := 0) C dX6_fails_5 (by decide) ?_
  exact E _ _ _ _ _ _ dX6_fails_6 (Nat.le_refl _) (Nat.le_refl _) rfl ⟨rfl, rfl⟩
set_option maxHeartbeats 4000000 in
set_option maxRecDepth 100000 in
theorem lp_X6_step (M : Nat → Nat → Int32) (ln p : Nat) (hl : M 12 0 = nI ln) (hln : ln ≤ 120) (hp : M 16 0 = nI p) (hpl : p ≤ ln) {g : Nat → Nat → List xE → Nat → List (Option Value) → List Value → Prop} (C : Sem cX6_step RX6 "step" 1 rmX6_step g) (kk : g 0 0 (wM (up2 (up2 (up2 (up2 M 17 (k1 (nI p))) 18 (k1 2)) 19 (k1 (dvS (M 11) ln p (dgL (M 11) ln p)))) 16 (k1 (nI (p + dgL (M 11) ln p))))) 200 [some (.ref 0)] []) : ∀ (n : Nat) (i : Nat), p + i + n = ln → i + dgF (M 11) ln n (p + i) = dgL (M 11) ln p → g 0 0 (wM (up2 (up2 (up2 (up2 M 17 (k1 (nI p))) 18 (k1 2)) 19 (k1 (dvS (M 11) ln p i))) 16 (k1 (nI (p + i))))) 131 [some (.ref 0)] [] := by
  intro n
  induction n with
  | zero =>
    intro i hi hL
    refine r_aload_n (pc := 131) C dX6_step_131 rfl rfl ?_
    refine r_callV0 (pc := 132) (As := []) (st := []) (θ' := wM (up2 (up2 (up2 (up2 M 17 (k1 (nI p))) 18 (k1 2)) 19 (k1 (dvS (M 11) ln p i))) 16 (k1 (nI (p + i))))) C (c_X6_here (up2 (up2 (up2 (up2 M 17 (k1 (nI p))) 18 (k1 2)) 19 (k1 (dvS (M 11) ln p i))) 16 (k1 (nI (p + i)))) ln (p + i) hl hln rfl (by omega)) xm_X6_here xk_X6_87 dX6_step_132 rfl rfl rfl rfl (Nat.le_of_ble_eq_true rfl) ⟨Nat.le_of_ble_eq_true rfl, Nat.le_of_ble_eq_true rfl⟩ ⟨rfl, rfl⟩ ⟨Nat.le_of_ble_eq_true rfl, Nat.le_of_ble_eq_true rfl⟩ rfl (Eq.trans (b := 14) rfl rfl) ?_
    show g 0 0 (wM (up2 (up2 (up2 (up2 M 17 (k1 (nI p))) 18 (k1 2)) 19 (k1 (dvS (M 11) ln p i))) 16 (k1 (nI (p + i))))) 135 [some (.ref 0)] [.int (byteS (M 11) ln (p + i))]
    refine r_i2l (pc := 135) (v := (byteS (M 11) ln (p + i)).toInt64) C dX6_step_135 rfl ?_
    refine r_ldc2 (pc := 136) (v := 48) C dX6_step_136 tw_714 ?_
    refine r_ldc2 (pc := 139) (v := 57) C dX6_step_139 tw_715 ?_
    refine r_callS0 (pc := 142) (As := [.long ((byteS (M 11) ln (p + i)).toInt64), .long 48, .long 57]) (st := []) C (c_X6_inI (byteS (M 11) ln (p + i)) 48 57 rfl (by decide) (by decide)) xm_X6_in xk_X6_57 dX6_step_142 (fun _ => rfl) (fun _ => rfl) rfl rfl (Nat.le_of_ble_eq_true rfl) ⟨Nat.le_of_ble_eq_true rfl, Nat.le_of_ble_eq_true rfl⟩ ⟨rfl, rfl⟩ ⟨Nat.le_of_ble_eq_true rfl, Nat.le_of_ble_eq_true rfl⟩ rfl ?_
    show g 0 0 (wM (up2 (up2 (up2 (up2 M 17 (k1 (nI p))) 18 (k1 2)) 19 (k1 (dvS (M 11) ln p i))) 16 (k1 (nI (p + i))))) 145 [some (.ref 0)] [.int (bB (inI (byteS (M 11) ln (p + i)) 48 57))]
    refine r_if_eq (pc := 145) (tgt := 200) C dX6_step_145 (by decide) (fun h_145 => ?_) (fun h_145 => ?_)
    · replace h_145 := bB_f h_145
      replace h_145 : dgB (M 11) ln (p + i) = false := h_145
      have hLi : i = dgL (M 11) ln p := by
        rw [dgF] at hL; omega
      subst hLi
      exact kk
    · replace h_145 := bB_t h_145
      replace h_145 : dgB (M 11) ln (p + i) = true := h_145
      refine r_aload_n (pc := 148) C dX6_step_148 rfl rfl ?_
      refine r_aload_n (pc := 149) C dX6_step_149 rfl rfl ?_
      refine r_getfield (pc := 150) (v := .int (nI (p + i))) C xf_X6_81 dX6_step_150 rfl rfl ?_
      refine r_aload_n (pc := 153) C dX6_step_153 rfl rfl ?_
      refine r_getfield (pc := 154) (v := .int (nI p)) C xf_X6_84 dX6_step_154 rfl rfl ?_
      refine r_isub (pc := 157) C dX6_step_157 ?_
      rw [show ((nI (p + i)) - (nI p) : Int32) = nI i from (by rw [pk_sub (by omega), show p + i - p = i by omega])]
      refine r_iconst (pc := 158) (v := 2) C dX6_step_158 (by decide) ?_
      refine r_icmp_ge (pc := 159) (tgt := 180) C dX6_step_159 (by decide) (fun h_159 => ?_) (fun h_159 => ?_)
      · skip
        refine r_aload_n (pc := 180) C dX6_step_180 rfl rfl ?_
        refine r_getfield (pc := 181) (v := .int (dvS (M 11) ln p i)) C xf_X6_91 dX6_step_181 rfl rfl ?_
        refine r_putfield (pc := 184) (θ' := wM (up2 (up2 (up2 (up2 M 17 (k1 (nI p))) 18 (k1 2)) 16 (k1 (nI (p + i)))) 19 (k1 (dvS (M 11) ln p i)))) C xf_X6_91 xt_X6_19 dX6_step_184 rfl (Nat.le_of_ble_eq_true rfl) (fun _ => ⟨rfl, rfl⟩) rfl ?_
        refine r_aload_n (pc := 187) C dX6_step_187 rfl rfl ?_
        refine r_dup (pc := 188) C dX6_step_188 rfl ?_
        refine r_getfield (pc := 189) (v := .int (nI (p + i))) C xf_X6_81 dX6_step_189 rfl rfl ?_
        refine r_iconst (pc := 192) (v := 1) C dX6_step_192 (by decide) ?_
        refine r_iadd (pc := 193) C dX6_step_193 ?_
        show g 0 0 (wM (up2 (up2 (up2 (up2 M 17 (k1 (nI p))) 18 (k1 2)) 16 (k1 (nI (p + i)))) 19 (k1 (dvS (M 11) ln p i)))) 194 [some (.ref 0)] [.int ((nI (p + i)) + 1), .ref 0]
        rw [show ((nI (p + i)) + 1 : Int32) = nI ((p + i) + 1) from (nI_sum (m := (p + i)) (n := 1) rfl rfl)]
        refine r_putfield (pc := 194) (θ' := wM (up2 (up2 (up2 (up2 M 17 (k1 (nI p))) 18 (k1 2)) 19 (k1 (dvS (M 11) ln p i))) 16 (k1 (nI ((p + i) + 1))))) C xf_X6_81 xt_X6_16 dX6_step_194 rfl (Nat.le_of_ble_eq_true rfl) (fun _ => ⟨rfl, rfl⟩) rfl ?_
        refine r_goto (pc := 197) (tgt := 131) C dX6_step_197 (by decide) ?_
        show g 0 0 (wM (up2 (up2 (up2 (up2 M 17 (k1 (nI p))) 18 (k1 2)) 19 (k1 (dvS (M 11) ln p i))) 16 (k1 (nI ((p + i) + 1))))) 131 [some (.ref 0)] []
        exact absurd (dgB_lt h_145) (by omega)
      · skip
        refine r_bipush (pc := 162) (v := 10) C dX6_step_162 (by decide) ?_
        refine r_aload_n (pc := 164) C dX6_step_164 rfl rfl ?_
        refine r_getfield (pc := 165) (v := .int (dvS (M 11) ln p i)) C xf_X6_91 dX6_step_165 rfl rfl ?_
        refine r_imul (pc := 168) C dX6_step_168 ?_
        refine r_aload_n (pc := 169) C dX6_step_169 rfl rfl ?_
        refine r_callV0 (pc := 170) (As := []) (st := [.int (10 * (dvS (M 11) ln p i)), .ref 0]) (θ' := wM (up2 (up2 (up2 (up2 M 17 (k1 (nI p))) 18 (k1 2)) 19 (k1 (dvS (M 11) ln p i))) 16 (k1 (nI (p + i))))) C (c_X6_here (up2 (up2 (up2 (up2 M 17 (k1 (nI p))) 18 (k1 2)) 19 (k1 (dvS (M 11) ln p i))) 16 (k1 (nI (p + i)))) ln (p + i) hl hln rfl (by omega)) xm_X6_here xk_X6_87 dX6_step_170 rfl rfl rfl rfl (Nat.le_of_ble_eq_true rfl) ⟨Nat.le_of_ble_eq_true rfl, Nat.le_of_ble_eq_true rfl⟩ ⟨rfl, rfl⟩ ⟨Nat.le_of_ble_eq_true rfl, Nat.le_of_ble_eq_true rfl⟩ rfl (Eq.trans (b := 14) rfl rfl) ?_
        show g 0 0 (wM (up2 (up2 (up2 (up2 M 17 (k1 (nI p))) 18 (k1 2)) 19 (k1 (dvS (M 11) ln p i))) 16 (k1 (nI (p + i))))) 173 [some (.ref 0)] [.int (byteS (M 11) ln (p + i)), .int (10 * (dvS (M 11) ln p i)), .ref 0]
        refine r_iadd (pc := 173) C dX6_step_173 ?_
        refine r_bipush (pc := 174) (v := 48) C dX6_step_174 (by decide) ?_
        refine r_isub (pc := 176) C dX6_step_176 ?_
        refine r_goto (pc := 177) (tgt := 184) C dX6_step_177 (by decide) ?_
        refine r_putfield (pc := 184) (θ' := wM (up2 (up2 (up2 (up2 M 17 (k1 (nI p))) 18 (k1 2)) 16 (k1 (nI (p + i)))) 19 (k1 (((10 * (dvS (M 11) ln p i)) + (byteS (M 11) ln (p + i))) - 48)))) C xf_X6_91 xt_X6_19 dX6_step_184 rfl (Nat.le_of_ble_eq_true rfl) (fun _ => ⟨rfl, rfl⟩) rfl ?_
        refine r_aload_n (pc := 187) C dX6_step_187 rfl rfl ?_
        refine r_dup (pc := 188) C dX6_step_188 rfl ?_
        refine r_getfield (pc := 189) (v := .int (nI (p + i))) C xf_X6_81 dX6_step_189 rfl rfl ?_
        refine r_iconst (pc := 192) (v := 1) C dX6_step_192 (by decide) ?_
        refine r_iadd (pc := 193) C dX6_step_193 ?_
        show g 0 0 (wM (up2 (up2 (up2 (up2 M 17 (k1 (nI p))) 18 (k1 2)) 16 (k1 (nI (p + i)))) 19 (k1 (((10 * (dvS (M 11) ln p i)) + (byteS (M 11) ln (p + i))) - 48)))) 194 [some (.ref 0)] [.int ((nI (p + i)) + 1), .ref 0]
        rw [show ((nI (p + i)) + 1 : Int32) = nI ((p + i) + 1) from (nI_sum (m := (p + i)) (n := 1) rfl rfl)]
        refine r_putfield (pc := 194) (θ' := wM (up2 (up2 (up2 (up2 M 17 (k1 (nI p))) 18 (k1 2)) 19 (k1 (((10 * (dvS (M 11) ln p i)) + (byteS (M 11) ln (p + i))) - 48))) 16 (k1 (nI ((p + i) + 1))))) C xf_X6_81 xt_X6_16 dX6_step_194 rfl (Nat.le_of_ble_eq_true rfl) (fun _ => ⟨rfl, rfl⟩) rfl ?_
        refine r_goto (pc := 197) (tgt := 131) C dX6_step_197 (by decide) ?_
        show g 0 0 (wM (up2 (up2 (up2 (up2 M 17 (k1 (nI p))) 18 (k1 2)) 19 (k1 (((10 * (dvS (M 11) ln p i)) + (byteS (M 11) ln (p + i))) - 48))) 16 (k1 (nI ((p + i) + 1))))) 131 [some (.ref 0)] []
        exact absurd (dgB_lt h_145) (by omega)
  | succ n ih =>
    intro i hi hL
    refine r_aload_n (pc := 131) C dX6_step_131 rfl rfl ?_
    refine r_callV0 (pc := 132) (As := []) (st := []) (θ' := wM (up2 (up2 (up2 (up2 M 17 (k1 (nI p))) 18 (k1 2)) 19 (k1 (dvS (M 11) ln p i))) 16 (k1 (nI (p + i))))) C (c_X6_here (up2 (up2 (up2 (up2 M 17 (k1 (nI p))) 18 (k1 2)) 19 (k1 (dvS (M 11) ln p i))) 16 (k1 (nI (p + i)))) ln (p + i) hl hln rfl (by omega)) xm_X6_here xk_X6_87 dX6_step_132 rfl rfl rfl rfl (Nat.le_of_ble_eq_true rfl) ⟨Nat.le_of_ble_eq_true rfl, Nat.le_of_ble_eq_true rfl⟩ ⟨rfl, rfl⟩ ⟨Nat.le_of_ble_eq_true rfl, Nat.le_of_ble_eq_true rfl⟩ rfl (Eq.trans (b := 14) rfl rfl) ?_
    show g 0 0 (wM (up2 (up2 (up2 (up2 M 17 (k1 (nI p))) 18 (k1 2)) 19 (k1 (dvS (M 11) ln p i))) 16 (k1 (nI (p + i))))) 135 [some (.ref 0)] [.int (byteS (M 11) ln (p + i))]
    refine r_i2l (pc := 135) (v := (byteS (M 11) ln (p + i)).toInt64) C dX6_step_135 rfl ?_
    refine r_ldc2 (pc := 136) (v := 48) C dX6_step_136 tw_714 ?_
    refine r_ldc2 (pc := 139) (v := 57) C dX6_step_139 tw_715 ?_
    refine r_callS0 (pc := 142) (As := [.long ((byteS (M 11) ln (p + i)).toInt64), .long 48, .long 57]) (st := []) C (c_X6_inI (byteS (M 11) ln (p + i)) 48 57 rfl (by decide) (by decide)) xm_X6_in xk_X6_57 dX6_step_142 (fun _ => rfl) (fun _ => rfl) rfl rfl (Nat.le_of_ble_eq_true rfl) ⟨Nat.le_of_ble_eq_true rfl, Nat.le_of_ble_eq_true rfl⟩ ⟨rfl, rfl⟩ ⟨Nat.le_of_ble_eq_true rfl, Nat.le_of_ble_eq_true rfl⟩ rfl ?_
    show g 0 0 (wM (up2 (up2 (up2 (up2 M 17 (k1 (nI p))) 18 (k1 2)) 19 (k1 (dvS (M 11) ln p i))) 16 (k1 (nI (p + i))))) 145 [some (.ref 0)] [.int (bB (inI (byteS (M 11) ln (p + i)) 48 57))]
    refine r_if_eq (pc := 145) (tgt := 200) C dX6_step_145 (by decide) (fun h_145 => ?_) (fun h_145 => ?_)
    · replace h_145 := bB_f h_145
      replace h_145 : dgB (M 11) ln (p + i) = false := h_145
      have hLi : i = dgL (M 11) ln p := by
        rw [dgF, if_neg (nbt h_145)] at hL; omega
      subst hLi
      exact kk
    · replace h_145 := bB_t h_145
      replace h_145 : dgB (M 11) ln (p + i) = true := h_145
      refine r_aload_n (pc := 148) C dX6_step_148 rfl rfl ?_
      refine r_aload_n (pc := 149) C dX6_step_149 rfl rfl ?_
      refine r_getfield (pc := 150) (v := .int (nI (p + i))) C xf_X6_81 dX6_step_150 rfl rfl ?_
      refine r_aload_n (pc := 153) C dX6_step_153 rfl rfl ?_
      refine r_getfield (pc := 154) (v := .int (nI p)) C xf_X6_84 dX6_step_154 rfl rfl ?_
      refine r_isub (pc := 157) C dX6_step_157 ?_
      rw [show ((nI (p + i)) - (nI p) : Int32) = nI i from (by rw [pk_sub (by omega), show p + i - p = i by omega])]
      refine r_iconst (pc := 158) (v := 2) C dX6_step_158 (by decide) ?_
      refine r_icmp_ge (pc := 159) (tgt := 180) C dX6_step_159 (by decide) (fun h_159 => ?_) (fun h_159 => ?_)
      · skip
        refine r_aload_n (pc := 180) C dX6_step_180 rfl rfl ?_
        refine r_getfield (pc := 181) (v := .int (dvS (M 11) ln p i)) C xf_X6_91 dX6_step_181 rfl rfl ?_
        refine r_putfield (pc := 184) (θ' := wM (up2 (up2 (up2 (up2 M 17 (k1 (nI p))) 18 (k1 2)) 16 (k1 (nI (p + i)))) 19 (k1 (dvS (M 11) ln p i)))) C xf_X6_91 xt_X6_19 dX6_step_184 rfl (Nat.le_of_ble_eq_true rfl) (fun _ => ⟨rfl, rfl⟩) rfl ?_
        refine r_aload_n (pc := 187) C dX6_step_187 rfl rfl ?_
        refine r_dup (pc := 188) C dX6_step_188 rfl ?_
        refine r_getfield (pc := 189) (v := .int (nI (p + i))) C xf_X6_81 dX6_step_189 rfl rfl ?_
        refine r_iconst (pc := 192) (v := 1) C dX6_step_192 (by decide) ?_
        refine r_iadd (pc := 193) C dX6_step_193 ?_
        show g 0 0 (wM (up2 (up2 (up2 (up2 M 17 (k1 (nI p))) 18 (k1 2)) 16 (k1 (nI (p + i)))) 19 (k1 (dvS (M 11) ln p i)))) 194 [some (.ref 0)] [.int ((nI (p + i)) + 1), .ref 0]
        rw [show ((nI (p + i)) + 1 : Int32) = nI ((p + i) + 1) from (nI_sum (m := (p + i)) (n := 1) rfl rfl)]
        refine r_putfield (pc := 194) (θ' := wM (up2 (up2 (up2 (up2 M 17 (k1 (nI p))) 18 (k1 2)) 19 (k1 (dvS (M 11) ln p i))) 16 (k1 (nI ((p + i) + 1))))) C xf_X6_81 xt_X6_16 dX6_step_194 rfl (Nat.le_of_ble_eq_true rfl) (fun _ => ⟨rfl, rfl⟩) rfl ?_
        refine r_goto (pc := 197) (tgt := 131) C dX6_step_197 (by decide) ?_
        show g 0 0 (wM (up2 (up2 (up2 (up2 M 17 (k1 (nI p))) 18 (k1 2)) 19 (k1 (dvS (M 11) ln p i))) 16 (k1 (nI ((p + i) + 1))))) 131 [some (.ref 0)] []
        have hD : dvS (M 11) ln p (i + 1) = dvS (M 11) ln p i := by rw [dvS, if_pos h_159]
        have hK := ih (i + 1) (by omega) (by rw [dgF, if_pos h_145] at hL; rw [show p + (i + 1) = p + i + 1 by omega]; omega)
        rw [hD] at hK
        exact hK
      · skip
        refine r_bipush (pc := 162) (v := 10) C dX6_step_162 (by decide) ?_
        refine r_aload_n (pc := 164) C dX6_step_164 rfl rfl ?_
        refine r_getfield (pc := 165) (v := .int (dvS (M 11) ln p i)) C xf_X6_91 dX6_step_165 rfl rfl ?_
        refine r_imul (pc := 168) C dX6_step_168 ?_
        refine r_aload_n (pc := 169) C dX6_step_169 rfl rfl ?_
        refine r_callV0 (pc := 170) (As := []) (st := [.int (10 * (dvS (M 11) ln p i)), .ref 0]) (θ' := wM (up2 (up2 (up2 (up2 M 17 (k1 (nI p))) 18 (k1 2)) 19 (k1 (dvS (M 11) ln p i))) 16 (k1 (nI (p + i))))) C (c_X6_here (up2 (up2 (up2 (up2 M 17 (k1 (nI p))) 18 (k1 2)) 19 (k1 (dvS (M 11) ln p i))) 16 (k1 (nI (p + i)))) ln (p + i) hl hln rfl (by omega)) xm_X6_here xk_X6_87 dX6_step_170 rfl rfl rfl rfl (Nat.le_of_ble_eq_true rfl) ⟨Nat.le_of_ble_eq_true rfl, Nat.le_of_ble_eq_true rfl⟩ ⟨rfl, rfl⟩ ⟨Nat.le_of_ble_eq_true rfl, Nat.le_of_ble_eq_true rfl⟩ rfl (Eq.trans (b := 14) rfl rfl) ?_
        show g 0 0 (wM (up2 (up2 (up2 (up2 M 17 (k1 (nI p))) 18 (k1 2)) 19 (k1 (dvS (M 11) ln p i))) 16 (k1 (nI (p + i))))) 173 [some (.ref 0)] [.int (byteS (M 11) ln (p + i)), .int (10 * (dvS (M 11) ln p i)), .ref 0]
        refine r_iadd (pc := 173) C dX6_step_173 ?_
        refine r_bipush (pc := 174) (v := 48) C dX6_step_174 (by decide) ?_
        refine r_isub (pc := 176) C dX6_step_176 ?_
        refine r_goto (pc := 177) (tgt := 184) C dX6_step_177 (by decide) ?_
        refine r_putfield (pc := 184) (θ' := wM (up2 (up2 (up2 (up2 M 17 (k1 (nI p))) 18 (k1 2)) 16 (k1 (nI (p + i)))) 19 (k1 (((10 * (dvS (M 11) ln p i)) + (byteS (M 11) ln (p + i))) - 48)))) C xf_X6_91 xt_X6_19 dX6_step_184 rfl (Nat.le_of_ble_eq_true rfl) (fun _ => ⟨rfl, rfl⟩) rfl ?_
        refine r_aload_n (pc := 187) C dX6_step_187 rfl rfl ?_
        refine r_dup (pc := 188) C dX6_step_188 rfl ?_
        refine r_getfield (pc := 189) (v := .int (nI (p + i))) C xf_X6_81 dX6_step_189 rfl rfl ?_
        refine r_iconst (pc := 192) (v := 1) C dX6_step_192 (by decide) ?_
        refine r_iadd (pc := 193) C dX6_step_193 ?_
        show g 0 0 (wM (up2 (up2 (up2 (up2 M 17 (k1 (nI p))) 18 (k1 2)) 16 (k1 (nI (p + i)))) 19 (k1 (((10 * (dvS (M 11) ln p i)) + (byteS (M 11) ln (p + i))) - 48)))) 194 [some (.ref 0)] [.int ((nI (p + i)) + 1), .ref 0]
        rw [show ((nI (p + i)) + 1 : Int32) = nI ((p + i) + 1) from (nI_sum (m := (p + i)) (n := 1) rfl rfl)]
        refine r_putfield (pc := 194) (θ' := wM (up2 (up2 (up2 (up2 M 17 (k1 (nI p))) 18 (k1 2)) 19 (k1 (((10 * (dvS (M 11) ln p i)) + (byteS (M 11) ln (p + i))) - 48))) 16 (k1 (nI ((p + i) + 1))))) C xf_X6_81 xt_X6_16 dX6_step_194 rfl (Nat.le_of_ble_eq_true rfl) (fun _ => ⟨rfl, rfl⟩) rfl ?_
        refine r_goto (pc := 197) (tgt := 131) C dX6_step_197 (by decide) ?_
        show g 0 0 (wM (up2 (up2 (up2 (up2 M 17 (k1 (nI p))) 18 (k1 2)) 19 (k1 (((10 * (dvS (M 11) ln p i)) + (byteS (M 11) ln (p + i))) - 48))) 16 (k1 (nI ((p + i) + 1))))) 131 [some (.ref 0)] []
        have hD : dvS (M 11) ln p (i + 1) = ((10 * (dvS (M 11) ln p i)) + (byteS (M 11) ln (p + i))) - 48 := by rw [dvS, if_neg h_159]
        have hK := ih (i + 1) (by omega) (by rw [dgF, if_pos h_145] at hL; rw [show p + (i + 1) = p + i + 1 by omega]; omega)
        rw [hD] at hK
        exact hK
set_option maxHeartbeats 4000000 in
set_option maxRecDepth 100000 in
theorem c_X6_step (M : Nat → Nat → Int32) (ln p : Nat) (hl : M 12 0 = nI ln) (hln : ln ≤ 120) (hp : M 16 0 = nI p) (hpl : p ≤ ln) : MetA yX6_step (.code yX6_step cX6_step 1 none :: TT) rmX6_step [.ref 0] (wM M) (fun vr wr => vr = none ∧ wr = wM (stM M ln p)) 0 0 := by
  refine MetA.of_v (by decide) (fun _ => Nat.le_of_ble_eq_true rfl) (Nat.le_of_ble_eq_true rfl) (fun g C E => ?_)
  replace C : Sem cX6_step RX6 "step" 1 rmX6_step g := C
  show g 0 0 (wM M) 0 [some (.ref 0)] []
  refine r_aload_n (pc := 0) C dX6_step_0 rfl rfl ?_
  refine r_aload_n (pc := 1) C dX6_step_1 rfl rfl ?_
  refine r_getfield (pc := 2) (v := .int (M 16 0)) C xf_X6_81 dX6_step_2 rfl rfl ?_
  show g 0 0 (wM M) 5 [some (.ref 0)] [.int (M 16 0), .ref 0]
  rw [show (M 16 0 : Int32) = nI p from hp]
  refine r_putfield (pc := 5) (θ' := wM (up2 M 17 (k1 (nI p)))) C xf_X6_84 xt_X6_17 dX6_step_5 rfl (Nat.le_of_ble_eq_true rfl) (fun _ => ⟨rfl, rfl⟩) rfl ?_
  refine r_aload_n (pc := 8) C dX6_step_8 rfl rfl ?_
  refine r_aload_n (pc := 9) C dX6_step_9 rfl rfl ?_
  refine r_callV0 (pc := 10) (As := []) (st := [.ref 0]) (θ' := wM (up2 M 17 (k1 (nI p)))) C (c_X6_here (up2 M 17 (k1 (nI p))) ln (p) hl hln hp hpl) xm_X6_here xk_X6_87 dX6_step_10 rfl rfl rfl rfl (Nat.le_of_ble_eq_true rfl) ⟨Nat.le_of_ble_eq_true rfl, Nat.le_of_ble_eq_true rfl⟩ ⟨rfl, rfl⟩ ⟨Nat.le_of_ble_eq_true rfl, Nat.le_of_ble_eq_true rfl⟩ rfl (Eq.trans (b := 14) rfl rfl) ?_
  show g 0 0 (wM (up2 M 17 (k1 (nI p)))) 13 [some (.ref 0)] [.int (byteS (M 11) ln (p)), .ref 0]
  refine r_putfield (pc := 13) (θ' := wM (up2 (up2 M 17 (k1 (nI p))) 19 (k1 (byteS (M 11) ln (p))))) C xf_X6_91 xt_X6_19 dX6_step_13 rfl (Nat.le_of_ble_eq_true rfl) (fun _ => ⟨rfl, rfl⟩) rfl ?_
  refine r_aload_n (pc := 16) C dX6_step_16 rfl rfl ?_
  refine r_aload_n (pc := 17) C dX6_step_17 rfl rfl ?_
  refine r_getfield (pc := 18) (v := .int (byteS (M 11) ln (p))) C xf_X6_91 dX6_step_18 rfl rfl ?_
  refine r_if_ge (pc := 21) (tgt := 28) C dX6_step_21 (by decide) (fun h_21 => ?_) (fun h_21 => ?_)
  · skip
    refine r_aload_n (pc := 28) C dX6_step_28 rfl rfl ?_
    refine r_getfield (pc := 29) (v := .int (byteS (M 11) ln (p))) C xf_X6_91 dX6_step_29 rfl rfl ?_
    refine r_i2l (pc := 32) (v := (byteS (M 11) ln (p)).toInt64) C dX6_step_32 rfl ?_
    refine r_ldc2 (pc := 33) (v := 97) C dX6_step_33 tw_712 ?_
    refine r_ldc2 (pc := 36) (v := 122) C dX6_step_36 tw_713 ?_
    refine r_callS0 (pc := 39) (As := [.long ((byteS (M 11) ln (p)).toInt64), .long 97, .long 122]) (st := [.ref 0]) C (c_X6_inI (byteS (M 11) ln (p)) 97 122 rfl (by decide) (by decide)) xm_X6_in xk_X6_57 dX6_step_39 (fun _ => rfl) (fun _ => rfl) rfl rfl (Nat.le_of_ble_eq_true rfl) ⟨Nat.le_of_ble_eq_true rfl, Nat.le_of_ble_eq_true rfl⟩ ⟨rfl, rfl⟩ ⟨Nat.le_of_ble_eq_true rfl, Nat.le_of_ble_eq_true rfl⟩ rfl ?_
    show g 0 0 (wM (up2 (up2 M 17 (k1 (nI p))) 19 (k1 (byteS (M 11) ln (p))))) 42 [some (.ref 0)] [.int (bB (inI (byteS (M 11) ln (p)) 97 122)), .ref 0]
    refine r_if_eq (pc := 42) (tgt := 49) C dX6_step_42 (by decide) (fun h_42 => ?_) (fun h_42 => ?_)
    · replace h_42 := bB_f h_42
      refine r_aload_n (pc := 49) C dX6_step_49 rfl rfl ?_
      refine r_getfield (pc := 50) (v := .int (byteS (M 11) ln (p))) C xf_X6_91 dX6_step_50 rfl rfl ?_
      refine r_i2l (pc := 53) (v := (byteS (M 11) ln (p)).toInt64) C dX6_step_53 rfl ?_
      refine r_ldc2 (pc := 54) (v := 48) C dX6_step_54 tw_714 ?_
      refine r_ldc2 (pc := 57) (v := 57) C dX6_step_57 tw_715 ?_
      refine r_callS0 (pc := 60) (As := [.long ((byteS (M 11) ln (p)).toInt64), .long 48, .long 57]) (st := [.ref 0]) C (c_X6_inI (byteS (M 11) ln (p)) 48 57 rfl (by decide) (by decide)) xm_X6_in xk_X6_57 dX6_step_60 (fun _ => rfl) (fun _ => rfl) rfl rfl (Nat.le_of_ble_eq_true rfl) ⟨Nat.le_of_ble_eq_true rfl, Nat.le_of_ble_eq_true rfl⟩ ⟨rfl, rfl⟩ ⟨Nat.le_of_ble_eq_true rfl, Nat.le_of_ble_eq_true rfl⟩ rfl ?_
      show g 0 0 (wM (up2 (up2 M 17 (k1 (nI p))) 19 (k1 (byteS (M 11) ln (p))))) 63 [some (.ref 0)] [.int (bB (inI (byteS (M 11) ln (p)) 48 57)), .ref 0]
      refine r_if_eq (pc := 63) (tgt := 70) C dX6_step_63 (by decide) (fun h_63 => ?_) (fun h_63 => ?_)
      · replace h_63 := bB_f h_63
        refine r_aload_n (pc := 70) C dX6_step_70 rfl rfl ?_
        refine r_getfield (pc := 71) (v := .int (byteS (M 11) ln (p))) C xf_X6_91 dX6_step_71 rfl rfl ?_
        refine r_bipush (pc := 74) (v := 44) C dX6_step_74 (by decide) ?_
        refine r_icmp_eq (pc := 76) (tgt := 88) C dX6_step_76 (by decide) (fun h_76 => ?_) (fun h_76 => ?_)
        · skip
          refine r_iconst (pc := 88) (v := 3) C dX6_step_88 (by decide) ?_
          refine r_goto (pc := 89) (tgt := 93) C dX6_step_89 (by decide) ?_
          refine r_putfield (pc := 93) (θ' := wM (up2 (up2 (up2 M 17 (k1 (nI p))) 19 (k1 (byteS (M 11) ln (p)))) 18 (k1 3))) C xf_X6_102 xt_X6_18 dX6_step_93 rfl (Nat.le_of_ble_eq_true rfl) (fun _ => ⟨rfl, rfl⟩) rfl ?_
          refine r_aload_n (pc := 96) C dX6_step_96 rfl rfl ?_
          refine r_getfield (pc := 97) (v := .int 3) C xf_X6_102 dX6_step_97 rfl rfl ?_
          refine r_iconst (pc := 100) (v := 2) C dX6_step_100 (by decide) ?_
          refine r_icmp_eq (pc := 101) (tgt := 126) C dX6_step_101 (by decide) (fun h => absurd h (by decide)) (fun _ => ?_)
          refine r_aload_n (pc := 104) C dX6_step_104 rfl rfl ?_
          refine r_dup (pc := 105) C dX6_step_105 rfl ?_
          refine r_getfield (pc := 106) (v := .int (M 16 0)) C xf_X6_81 dX6_step_106 rfl rfl ?_
          refine r_aload_n (pc := 109) C dX6_step_109 rfl rfl ?_
          refine r_getfield (pc := 110) (v := .int 3) C xf_X6_102 dX6_step_110 rfl rfl ?_
          refine r_if_ne (pc := 113) (tgt := 120) C dX6_step_113 (by decide) (fun _ => ?_) (fun h => absurd h (by decide))
          refine r_iconst (pc := 120) (v := 1) C dX6_step_120 (by decide) ?_
          refine r_iadd (pc := 121) C dX6_step_121 ?_
          show g 0 0 (wM (up2 (up2 (up2 M 17 (k1 (nI p))) 19 (k1 (byteS (M 11) ln (p)))) 18 (k1 3))) 122 [some (.ref 0)] [.int ((M 16 0) + 1), .ref 0]
          rw [show ((M 16 0) + 1 : Int32) = nI (p + 1) from (nI_sum (m := p) (n := 1) hp rfl)]
          refine r_putfield (pc := 122) (θ' := wM (up2 (up2 (up2 (up2 M 17 (k1 (nI p))) 19 (k1 (byteS (M 11) ln (p)))) 18 (k1 3)) 16 (k1 (nI (p + 1))))) C xf_X6_81 xt_X6_16 dX6_step_122 rfl (Nat.le_of_ble_eq_true rfl) (fun _ => ⟨rfl, rfl⟩) rfl ?_
          show g 0 0 (wM (up2 (up2 (up2 (up2 M 17 (k1 (nI p))) 19 (k1 (byteS (M 11) ln (p)))) 18 (k1 3)) 16 (k1 (nI (p + 1))))) 125 [some (.ref 0)] []
          have hk : tkC (byteS (M 11) ln p) = 3 := by
            unfold tkC
            rw [if_pos h_21, if_neg (nbt h_42), if_neg (nbt h_63), if_pos h_76]
          have hT : stT (M 11) ln p = 3 := by rw [stT_eq, stT0, hk, if_neg (by decide)]
          have hV : stV (M 11) ln p = byteS (M 11) ln p := by rw [stV_eq, stV0, hk, if_neg (by decide)]
          have hA : stA_ (M 11) ln p = p + 1 := by rw [stA_eq, stA0, hk, if_neg (by decide), if_neg (by decide)]
          exact E _ _ _ _ _ dX6_step_125 (Nat.le_refl _) (Nat.le_refl _) ⟨rfl, by unfold stM; rw [hT, hV, hA] <;> rfl⟩
        · skip
          refine r_aload_n (pc := 79) C dX6_step_79 rfl rfl ?_
          refine r_getfield (pc := 80) (v := .int (byteS (M 11) ln (p))) C xf_X6_91 dX6_step_80 rfl rfl ?_
          refine r_bipush (pc := 83) (v := 59) C dX6_step_83 (by decide) ?_
          refine r_icmp_ne (pc := 85) (tgt := 92) C dX6_step_85 (by decide) (fun h_85 => ?_) (fun h_85 => ?_)
          · skip
            refine r_iconst (pc := 92) (v := 4) C dX6_step_92 (by decide) ?_
            refine r_putfield (pc := 93) (θ' := wM (up2 (up2 (up2 M 17 (k1 (nI p))) 19 (k1 (byteS (M 11) ln (p)))) 18 (k1 4))) C xf_X6_102 xt_X6_18 dX6_step_93 rfl (Nat.le_of_ble_eq_true rfl) (fun _ => ⟨rfl, rfl⟩) rfl ?_
            refine r_aload_n (pc := 96) C dX6_step_96 rfl rfl ?_
            refine r_getfield (pc := 97) (v := .int 4) C xf_X6_102 dX6_step_97 rfl rfl ?_
            refine r_iconst (pc := 100) (v := 2) C dX6_step_100 (by decide) ?_
            refine r_icmp_eq (pc := 101) (tgt := 126) C dX6_step_101 (by decide) (fun h => absurd h (by decide)) (fun _ => ?_)
            refine r_aload_n (pc := 104) C dX6_step_104 rfl rfl ?_
            refine r_dup (pc := 105) C dX6_step_105 rfl ?_
            refine r_getfield (pc := 106) (v := .int (M 16 0)) C xf_X6_81 dX6_step_106 rfl rfl ?_
            refine r_aload_n (pc := 109) C dX6_step_109 rfl rfl ?_
            refine r_getfield (pc := 110) (v := .int 4) C xf_X6_102 dX6_step_110 rfl rfl ?_
            refine r_if_ne (pc := 113) (tgt := 120) C dX6_step_113 (by decide) (fun _ => ?_) (fun h => absurd h (by decide))
            refine r_iconst (pc := 120) (v := 1) C dX6_step_120 (by decide) ?_
            refine r_iadd (pc := 121) C dX6_step_121 ?_
            show g 0 0 (wM (up2 (up2 (up2 M 17 (k1 (nI p))) 19 (k1 (byteS (M 11) ln (p)))) 18 (k1 4))) 122 [some (.ref 0)] [.int ((M 16 0) + 1), .ref 0]
            rw [show ((M 16 0) + 1 : Int32) = nI (p + 1) from (nI_sum (m := p) (n := 1) hp rfl)]
            refine r_putfield (pc := 122) (θ' := wM (up2 (up2 (up2 (up2 M 17 (k1 (nI p))) 19 (k1 (byteS (M 11) ln (p)))) 18 (k1 4)) 16 (k1 (nI (p + 1))))) C xf_X6_81 xt_X6_16 dX6_step_122 rfl (Nat.le_of_ble_eq_true rfl) (fun _ => ⟨rfl, rfl⟩) rfl ?_
            show g 0 0 (wM (up2 (up2 (up2 (up2 M 17 (k1 (nI p))) 19 (k1 (byteS (M 11) ln (p)))) 18 (k1 4)) 16 (k1 (nI (p + 1))))) 125 [some (.ref 0)] []
            have hk : tkC (byteS (M 11) ln p) = 4 := by
              unfold tkC
              rw [if_pos h_21, if_neg (nbt h_42), if_neg (nbt h_63), if_neg h_76, if_neg h_85]
            have hT : stT (M 11) ln p = 4 := by rw [stT_eq, stT0, hk, if_neg (by decide)]
            have hV : stV (M 11) ln p = byteS (M 11) ln p := by rw [stV_eq, stV0, hk, if_neg (by decide)]
            have hA : stA_ (M 11) ln p = p + 1 := by rw [stA_eq, stA0, hk, if_neg (by decide), if_neg (by decide)]
            exact E _ _ _ _ _ dX6_step_125 (Nat.le_refl _) (Nat.le_refl _) ⟨rfl, by unfold stM; rw [hT, hV, hA] <;> rfl⟩
          · skip
            refine r_iconst (pc := 88) (v := 3) C dX6_step_88 (by decide) ?_
            refine r_goto (pc := 89) (tgt := 93) C dX6_step_89 (by decide) ?_
            refine r_putfield (pc := 93) (θ' := wM (up2 (up2 (up2 M 17 (k1 (nI p))) 19 (k1 (byteS (M 11) ln (p)))) 18 (k1 3))) C xf_X6_102 xt_X6_18 dX6_step_93 rfl (Nat.le_of_ble_eq_true rfl) (fun _ => ⟨rfl, rfl⟩) rfl ?_
            refine r_aload_n (pc := 96) C dX6_step_96 rfl rfl ?_
            refine r_getfield (pc := 97) (v := .int 3) C xf_X6_102 dX6_step_97 rfl rfl ?_
            refine r_iconst (pc := 100) (v := 2) C dX6_step_100 (by decide) ?_
            refine r_icmp_eq (pc := 101) (tgt := 126) C dX6_step_101 (by decide) (fun h => absurd h (by decide)) (fun _ => ?_)
            refine r_aload_n (pc := 104) C dX6_step_104 rfl rfl ?_
            refine r_dup (pc := 105) C dX6_step_105 rfl ?_
            refine r_getfield (pc := 106) (v := .int (M 16 0)) C xf_X6_81 dX6_step_106 rfl rfl ?_
            refine r_aload_n (pc := 109) C dX6_step_109 rfl rfl ?_
            refine r_getfield (pc := 110) (v := .int 3) C xf_X6_102 dX6_step_110 rfl rfl ?_
            refine r_if_ne (pc := 113) (tgt := 120) C dX6_step_113 (by decide) (fun _ => ?_) (fun h => absurd h (by decide))
            refine r_iconst (pc := 120) (v := 1) C dX6_step_120 (by decide) ?_
            refine r_iadd (pc := 121) C dX6_step_121 ?_
            show g 0 0 (wM (up2 (up2 (up2 M 17 (k1 (nI p))) 19 (k1 (byteS (M 11) ln (p)))) 18 (k1 3))) 122 [some (.ref 0)] [.int ((M 16 0) + 1), .ref 0]
            rw [show ((M 16 0) + 1 : Int32) = nI (p + 1) from (nI_sum (m := p) (n := 1) hp rfl)]
            refine r_putfield (pc := 122) (θ' := wM (up2 (up2 (up2 (up2 M 17 (k1 (nI p))) 19 (k1 (byteS (M 11) ln (p)))) 18 (k1 3)) 16 (k1 (nI (p + 1))))) C xf_X6_81 xt_X6_16 dX6_step_122 rfl (Nat.le_of_ble_eq_true rfl) (fun _ => ⟨rfl, rfl⟩) rfl ?_
            show g 0 0 (wM (up2 (up2 (up2 (up2 M 17 (k1 (nI p))) 19 (k1 (byteS (M 11) ln (p)))) 18 (k1 3)) 16 (k1 (nI (p + 1))))) 125 [some (.ref 0)] []
            have hk : tkC (byteS (M 11) ln p) = 3 := by
              unfold tkC
              rw [if_pos h_21, if_neg (nbt h_42), if_neg (nbt h_63), if_neg h_76, if_pos h_85]
            have hT : stT (M 11) ln p = 3 := by rw [stT_eq, stT0, hk, if_neg (by decide)]
            have hV : stV (M 11) ln p = byteS (M 11) ln p := by rw [stV_eq, stV0, hk, if_neg (by decide)]
            have hA : stA_ (M 11) ln p = p + 1 := by rw [stA_eq, stA0, hk, if_neg (by decide), if_neg (by decide)]
            exact E _ _ _ _ _ dX6_step_125 (Nat.le_refl _) (Nat.le_refl _) ⟨rfl, by unfold stM; rw [hT, hV, hA] <;> rfl⟩
      · replace h_63 := bB_t h_63
        refine r_iconst (pc := 66) (v := 2) C dX6_step_66 (by decide) ?_
        refine r_goto (pc := 67) (tgt := 93) C dX6_step_67 (by decide) ?_
        refine r_putfield (pc := 93) (θ' := wM (up2 (up2 (up2 M 17 (k1 (nI p))) 19 (k1 (byteS (M 11) ln (p)))) 18 (k1 2))) C xf_X6_102 xt_X6_18 dX6_step_93 rfl (Nat.le_of_ble_eq_true rfl) (fun _ => ⟨rfl, rfl⟩) rfl ?_
        refine r_aload_n (pc := 96) C dX6_step_96 rfl rfl ?_
        refine r_getfield (pc := 97) (v := .int 2) C xf_X6_102 dX6_step_97 rfl rfl ?_
        refine r_iconst (pc := 100) (v := 2) C dX6_step_100 (by decide) ?_
        refine r_icmp_eq (pc := 101) (tgt := 126) C dX6_step_101 (by decide) (fun _ => ?_) (fun h => absurd (by decide) h)
        refine r_aload_n (pc := 126) C dX6_step_126 rfl rfl ?_
        refine r_iconst (pc := 127) (v := 0) C dX6_step_127 (by decide) ?_
        refine r_putfield (pc := 128) (θ' := wM (up2 (up2 (up2 M 17 (k1 (nI p))) 18 (k1 2)) 19 (k1 0))) C xf_X6_91 xt_X6_19 dX6_step_128 rfl (Nat.le_of_ble_eq_true rfl) (fun _ => ⟨rfl, rfl⟩) rfl ?_
        show g 0 0 (wM (up2 (up2 (up2 M 17 (k1 (nI p))) 18 (k1 2)) 19 (k1 0))) 131 [some (.ref 0)] []
        have hk2 : tkC (byteS (M 11) ln p) = 2 := by
          unfold tkC
          rw [if_pos h_21, if_neg (nbt h_42), if_pos h_63]
        rw [wM_16 (M := (up2 (up2 (up2 M 17 (k1 (nI p))) 18 (k1 2)) 19 (k1 0))) (p := p) hp]
        refine lp_X6_step M ln p hl hln hp hpl C ?_ (ln - p) 0 (by omega) (by rw [Nat.zero_add]; rfl)
        have hdl : p + dgL (M 11) ln p ≤ ln := by have := dgF_le (M 11) ln (ln - p) p; unfold dgL; omega
        show g 0 0 (wM (up2 (up2 (up2 (up2 M 17 (k1 (nI p))) 18 (k1 2)) 19 (k1 (dvS (M 11) ln p (dgL (M 11) ln p)))) 16 (k1 (nI (p + dgL (M 11) ln p))))) 200 [some (.ref 0)] []
        refine r_aload_n (pc := 200) C dX6_step_200 rfl rfl ?_
        refine r_aload_n (pc := 201) C dX6_step_201 rfl rfl ?_
        refine r_getfield (pc := 202) (v := .int (nI (p + dgL (M 11) ln p))) C xf_X6_81 dX6_step_202 rfl rfl ?_
        refine r_aload_n (pc := 205) C dX6_step_205 rfl rfl ?_
        refine r_getfield (pc := 206) (v := .int (nI p)) C xf_X6_84 dX6_step_206 rfl rfl ?_
        refine r_isub (pc := 209) C dX6_step_209 ?_
        rw [show ((nI (p + dgL (M 11) ln p)) - (nI p) : Int32) = nI (dgL (M 11) ln p) from (by rw [pk_sub (by omega), show p + dgL (M 11) ln p - p = dgL (M 11) ln p by omega])]
        refine r_iconst (pc := 210) (v := 2) C dX6_step_210 (by decide) ?_
        refine r_icmp_le (pc := 211) (tgt := 218) C dX6_step_211 (by decide) (fun h_211 => ?_) (fun h_211 => ?_)
        · skip
          refine r_iconst (pc := 218) (v := 2) C dX6_step_218 (by decide) ?_
          refine r_putfield (pc := 219) (θ' := wM (up2 (up2 (up2 (up2 M 17 (k1 (nI p))) 19 (k1 (dvS (M 11) ln p (dgL (M 11) ln p)))) 16 (k1 (nI (p + dgL (M 11) ln p)))) 18 (k1 2))) C xf_X6_102 xt_X6_18 dX6_step_219 rfl (Nat.le_of_ble_eq_true rfl) (fun _ => ⟨rfl, rfl⟩) rfl ?_
          show g 0 0 (wM (up2 (up2 (up2 (up2 M 17 (k1 (nI p))) 19 (k1 (dvS (M 11) ln p (dgL (M 11) ln p)))) 16 (k1 (nI (p + dgL (M 11) ln p)))) 18 (k1 2))) 222 [some (.ref 0)] []
          have hk : tkC (byteS (M 11) ln p) = 2 := hk2
          have hT : stT (M 11) ln p = 2 := by rw [stT_eq, stT0, hk, if_pos rfl, if_pos h_211]
          have hV : stV (M 11) ln p = dvS (M 11) ln p (dgL (M 11) ln p) := by rw [stV_eq, stV0, hk, if_pos rfl]
          have hA : stA_ (M 11) ln p = p + dgL (M 11) ln p := by rw [stA_eq, stA0, hk, if_pos rfl]
          exact E _ _ _ _ _ dX6_step_222 (Nat.le_refl _) (Nat.le_refl _) ⟨rfl, by unfold stM; rw [hT, hV, hA] <;> rfl⟩
        · skip
          refine r_iconst (pc := 214) (v := 4) C dX6_step_214 (by decide) ?_
          refine r_goto (pc := 215) (tgt := 219) C dX6_step_215 (by decide) ?_
          refine r_putfield (pc := 219) (θ' := wM (up2 (up2 (up2 (up2 M 17 (k1 (nI p))) 19 (k1 (dvS (M 11) ln p (dgL (M 11) ln p)))) 16 (k1 (nI (p + dgL (M 11) ln p)))) 18 (k1 4))) C xf_X6_102 xt_X6_18 dX6_step_219 rfl (Nat.le_of_ble_eq_true rfl) (fun _ => ⟨rfl, rfl⟩) rfl ?_
          show g 0 0 (wM (up2 (up2 (up2 (up2 M 17 (k1 (nI p))) 19 (k1 (dvS (M 11) ln p (dgL (M 11) ln p)))) 16 (k1 (nI (p + dgL (M 11) ln p)))) 18 (k1 4))) 222 [some (.ref 0)] []
          have hk : tkC (byteS (M 11) ln p) = 2 := hk2
          have hT : stT (M 11) ln p = 4 := by rw [stT_eq, stT0, hk, if_pos rfl, if_neg h_211]
          have hV : stV (M 11) ln p = dvS (M 11) ln p (dgL (M 11) ln p) := by rw [stV_eq, stV0, hk, if_pos rfl]
          have hA : stA_ (M 11) ln p = p + dgL (M 11) ln p := by rw [stA_eq, stA0, hk, if_pos rfl]
          exact E _ _ _ _ _ dX6_step_222 (Nat.le_refl _) (Nat.le_refl _) ⟨rfl, by unfold stM; rw [hT, hV, hA] <;> rfl⟩
    · replace h_42 := bB_t h_42
      refine r_iconst (pc := 45) (v := 1) C dX6_step_45 (by decide) ?_
      refine r_goto (pc := 46) (tgt := 93) C dX6_step_46 (by decide) ?_
      refine r_putfield (pc := 93) (θ' := wM (up2 (up2 (up2 M 17 (k1 (nI p))) 19 (k1 (byteS (M 11) ln (p)))) 18 (k1 1))) C xf_X6_102 xt_X6_18 dX6_step_93 rfl (Nat.le_of_ble_eq_true rfl) (fun _ => ⟨rfl, rfl⟩) rfl ?_
      refine r_aload_n (pc := 96) C dX6_step_96 rfl rfl ?_
      refine r_getfield (pc := 97) (v := .int 1) C xf_X6_102 dX6_step_97 rfl rfl ?_
      refine r_iconst (pc := 100) (v := 2) C dX6_step_100 (by decide) ?_
      refine r_icmp_eq (pc := 101) (tgt := 126) C dX6_step_101 (by decide) (fun h => absurd h (by decide)) (fun _ => ?_)
      refine r_aload_n (pc := 104) C dX6_step_104 rfl rfl ?_
      refine r_dup (pc := 105) C dX6_step_105 rfl ?_
      refine r_getfield (pc := 106) (v := .int (M 16 0)) C xf_X6_81 dX6_step_106 rfl rfl ?_
      refine r_aload_n (pc := 109) C dX6_step_109 rfl rfl ?_
      refine r_getfield (pc := 110) (v := .int 1) C xf_X6_102 dX6_step_110 rfl rfl ?_
      refine r_if_ne (pc := 113) (tgt := 120) C dX6_step_113 (by decide) (fun _ => ?_) (fun h => absurd h (by decide))
      refine r_iconst (pc := 120) (v := 1) C dX6_step_120 (by decide) ?_
      refine r_iadd (pc := 121) C dX6_step_121 ?_
      show g 0 0 (wM (up2 (up2 (up2 M 17 (k1 (nI p))) 19 (k1 (byteS (M 11) ln (p)))) 18 (k1 1))) 122 [some (.ref 0)] [.int ((M 16 0) + 1), .ref 0]
      rw [show ((M 16 0) + 1 : Int32) = nI (p + 1) from (nI_sum (m := p) (n := 1) hp rfl)]
      refine r_putfield (pc := 122) (θ' := wM (up2 (up2 (up2 (up2 M 17 (k1 (nI p))) 19 (k1 (byteS (M 11) ln (p)))) 18 (k1 1)) 16 (k1 (nI (p + 1))))) C xf_X6_81 xt_X6_16 dX6_step_122 rfl (Nat.le_of_ble_eq_true rfl) (fun _ => ⟨rfl, rfl⟩) rfl ?_
      show g 0 0 (wM (up2 (up2 (up2 (up2 M 17 (k1 (nI p))) 19 (k1 (byteS (M 11) ln (p)))) 18 (k1 1)) 16 (k1 (nI (p + 1))))) 125 [some (.ref 0)] []
      have hk : tkC (byteS (M 11) ln p) = 1 := by
        unfold tkC
        rw [if_pos h_21, if_pos h_42]
      have hT : stT (M 11) ln p = 1 := by rw [stT_eq, stT0, hk, if_neg (by decide)]
      have hV : stV (M 11) ln p = byteS (M 11) ln p := by rw [stV_eq, stV0, hk, if_neg (by decide)]
      have hA : stA_ (M 11) ln p = p + 1 := by rw [stA_eq, stA0, hk, if_neg (by decide), if_neg (by decide)]
      exact E _ _ _ _ _ dX6_step_125 (Nat.le_refl _) (Nat.le_refl _) ⟨rfl, by unfold stM; rw [hT, hV, hA] <;> rfl⟩
  · skip
    refine r_iconst (pc := 24) (v := 0) C dX6_step_24 (by decide) ?_
    refine r_goto (pc := 25) (tgt := 93) C dX6_step_25 (by decide) ?_
    refine r_putfield (pc := 93) (θ' := wM (up2 (up2 (up2 M 17 (k1 (nI p))) 19 (k1 (byteS (M 11) ln (p)))) 18 (k1 0))) C xf_X6_102 xt_X6_18 dX6_step_93 rfl (Nat.le_of_ble_eq_true rfl) (fun _ => ⟨rfl, rfl⟩) rfl ?_
    refine r_aload_n (pc := 96) C dX6_step_96 rfl rfl ?_
    refine r_getfield (pc := 97) (v := .int 0) C xf_X6_102 dX6_step_97 rfl rfl ?_
    refine r_iconst (pc := 100) (v := 2) C dX6_step_100 (by decide) ?_
    refine r_icmp_eq (pc := 101) (tgt := 126) C dX6_step_101 (by decide) (fun h => absurd h (by decide)) (fun _ => ?_)
    refine r_aload_n (pc := 104) C dX6_step_104 rfl rfl ?_
    refine r_dup (pc := 105) C dX6_step_105 rfl ?_
    refine r_getfield (pc := 106) (v := .int (M 16 0)) C xf_X6_81 dX6_step_106 rfl rfl ?_
    refine r_aload_n (pc := 109) C dX6_step_109 rfl rfl ?_
    refine r_getfield (pc := 110) (v := .int 0) C xf_X6_102 dX6_step_110 rfl rfl ?_
    refine r_if_ne (pc := 113) (tgt := 120) C dX6_step_113 (by decide) (fun h => absurd (by decide) h) (fun _ => ?_)
    refine r_iconst (pc := 116) (v := 0) C dX6_step_116 (by decide) ?_
    refine r_goto (pc := 117) (tgt := 121) C dX6_step_117 (by decide) ?_
    refine r_iadd (pc := 121) C dX6_step_121 ?_
    show g 0 0 (wM (up2 (up2 (up2 M 17 (k1 (nI p))) 19 (k1 (byteS (M 11) ln (p)))) 18 (k1 0))) 122 [some (.ref 0)] [.int ((M 16 0) + 0), .ref 0]
    rw [show ((M 16 0) + 0 : Int32) = nI (p + 0) from (nI_sum (m := p) (n := 0) hp rfl)]
    refine r_putfield (pc := 122) (θ' := wM (up2 (up2 (up2 (up2 M 17 (k1 (nI p))) 19 (k1 (byteS (M 11) ln (p)))) 18 (k1 0)) 16 (k1 (nI (p + 0))))) C xf_X6_81 xt_X6_16 dX6_step_122 rfl (Nat.le_of_ble_eq_true rfl) (fun _ => ⟨rfl, rfl⟩) rfl ?_
    show g 0 0 (wM (up2 (up2 (up2 (up2 M 17 (k1 (nI p))) 19 (k1 (byteS (M 11) ln (p)))) 18 (k1 0)) 16 (k1 (nI (p + 0))))) 125 [some (.ref 0)] []
    have hk : tkC (byteS (M 11) ln p) = 0 := by
      unfold tkC
      rw [if_neg h_21]
    have hT : stT (M 11) ln p = 0 := by rw [stT_eq, stT0, hk, if_neg (by decide)]
    have hV : stV (M 11) ln p = byteS (M 11) ln p := by rw [stV_eq, stV0, hk, if_neg (by decide)]
    have hA : stA_ (M 11) ln p = p := by rw [stA_eq, stA0, hk, if_neg (by decide), if_pos rfl]
    exact E _ _ _ _ _ dX6_step_125 (Nat.le_refl _) (Nat.le_refl _) ⟨rfl, by unfold stM; rw [hT, hV, hA] <;> rfl⟩
noncomputable def nbM (M : Nat → Nat → Int32) (ln p pl : Nat) (l m sg : Int32) : Int32 × (Nat → Nat → Int32) := (if (stT (M 11) ln p) = 2 then (if (inI (stV (M 11) ln p) l m) = true then (if (stT (M 11) ln (stA_ (M 11) ln p)) = 3 then (if (stV (M 11) ln (stA_ (M 11) ln p)) = sg then (1, (stM (up2 (stM M ln p) 5 (upd ((stM M ln p) 5) pl (stV (M 11) ln p))) ln (stA_ (M 11) ln p))) else (if false = true then (1, (up2 (stM (up2 (stM M ln p) 5 (upd ((stM M ln p) 5) pl (stV (M 11) ln p))) ln (stA_ (M 11) ln p)) 20 (k1 1))) else (0, (up2 (stM (up2 (stM M ln p) 5 (upd ((stM M ln p) 5) pl (stV (M 11) ln p))) ln (stA_ (M 11) ln p)) 20 (k1 1))))) else (if false = true then (1, (up2 (stM (up2 (stM M ln p) 5 (upd ((stM M ln p) 5) pl (stV (M 11) ln p))) ln (stA_ (M 11) ln p)) 20 (k1 1))) else (0, (up2 (stM (up2 (stM M ln p) 5 (upd ((stM M ln p) 5) pl (stV (M 11) ln p))) ln (stA_ (M 11) ln p)) 20 (k1 1))))) else (bB false, (up2 (stM M ln p) 20 (k1 2)))) else (bB false, (up2 (stM M ln p) 20 (k1 1))))
set_option maxHeartbeats 4000000 in
set_option maxRecDepth 100000 in
theorem c_X6_number0 (M : Nat → Nat → Int32) (ln p : Nat) (hl : M 12 0 = nI ln) (hln : ln ≤ 120) (hp : M 16 0 = nI p) (hpl : p ≤ ln) (pl : Nat) (hpl36 : pl < 36) (l m sg : Int32) : MetA yX6_number (.code yX6_number cX6_number 5 (some .boolean) :: TT) rmX6_number [.ref 0, .int (nI pl), .int l, .int m, .int sg] (wM M) (fun vr wr => vr = some (.int (nbM M ln p pl l m sg).1) ∧ wr = wM (nbM M ln p pl l m sg).2) 0 0 := by
  refine MetA.of_i (by decide) (fun _ => Nat.le_of_ble_eq_true rfl) (Nat.le_of_ble_eq_true rfl) (fun g C E => ?_)
  replace C : Sem cX6_number RX6 "number" 5 rmX6_number g := C
  show g 0 0 (wM M) 0 [some (.ref 0), some (.int (nI pl)), some (.int l), some (.int m), some (.int sg)] []
  refine r_aload_n (pc := 0) C dX6_number_0 rfl rfl ?_
  refine r_callV0 (pc := 1) (As := []) (st := []) (θ' := wM (stM M ln p)) C (c_X6_step M ln p hl hln hp hpl) xm_X6_step xk_X6_108 dX6_number_1 rfl rfl rfl rfl (Nat.le_of_ble_eq_true rfl) ⟨Nat.le_of_ble_eq_true rfl, Nat.le_of_ble_eq_true rfl⟩ ⟨rfl, rfl⟩ ⟨Nat.le_of_ble_eq_true rfl, Nat.le_of_ble_eq_true rfl⟩ rfl (Eq.trans (b := 14) rfl rfl) ?_
  show g 0 0 (wM (stM M ln p)) 4 [some (.ref 0), some (.int (nI pl)), some (.int l), some (.int m), some (.int sg)] []
  refine r_aload_n (pc := 4) C dX6_number_4 rfl rfl ?_
  refine r_getfield (pc := 5) (v := .int (stT (M 11) ln p)) C xf_X6_102 dX6_number_5 rfl rfl ?_
  refine r_iconst (pc := 8) (v := 2) C dX6_number_8 (by decide) ?_
  refine r_icmp_eq (pc := 9) (tgt := 18) C dX6_number_9 (by decide) (fun h_9 => ?_) (fun h_9 => ?_)
  · skip
    refine r_aload_n (pc := 18) C dX6_number_18 rfl rfl ?_
    refine r_getfield (pc := 19) (v := .int (stV (M 11) ln p)) C xf_X6_91 dX6_number_19 rfl rfl ?_
    refine r_i2l (pc := 22) (v := (stV (M 11) ln p).toInt64) C dX6_number_22 rfl ?_
    refine r_iload_n (pc := 23) C dX6_number_23 rfl rfl ?_
    refine r_i2l (pc := 24) (v := l.toInt64) C dX6_number_24 rfl ?_
    refine r_iload_n (pc := 25) C dX6_number_25 rfl rfl ?_
    refine r_i2l (pc := 26) (v := m.toInt64) C dX6_number_26 rfl ?_
    refine r_callS0 (pc := 27) (As := [.long ((stV (M 11) ln p).toInt64), .long l.toInt64, .long m.toInt64]) (st := []) C (c_X6_inI (stV (M 11) ln p) l m rfl rfl rfl) xm_X6_in xk_X6_57 dX6_number_27 (fun _ => rfl) (fun _ => rfl) rfl rfl (Nat.le_of_ble_eq_true rfl) ⟨Nat.le_of_ble_eq_true rfl, Nat.le_of_ble_eq_true rfl⟩ ⟨rfl, rfl⟩ ⟨Nat.le_of_ble_eq_true rfl, Nat.le_of_ble_eq_true rfl⟩ rfl ?_
    show g 0 0 (wM (stM M ln p)) 30 [some (.ref 0), some (.int (nI pl)), some (.int l), some (.int m), some (.int sg)] [.int (bB (inI (stV (M 11) ln p) l m))]
    refine r_if_ne (pc := 30) (tgt := 39) C dX6_number_30 (by decide) (fun h_30 => ?_) (fun h_30 => ?_)
    · replace h_30 := bB_t h_30
      refine r_aload_n (pc := 39) C dX6_number_39 rfl rfl ?_
      refine r_getfield (pc := 40) (v := .ref 5) C xf_X6_22 dX6_number_40 rfl rfl ?_
      refine r_iload_n (pc := 43) C dX6_number_43 rfl rfl ?_
      refine r_aload_n (pc := 44) C dX6_number_44 rfl rfl ?_
      refine r_getfield (pc := 45) (v := .int (stV (M 11) ln p)) C xf_X6_91 dX6_number_45 rfl rfl ?_
      refine r_iastore (pc := 48) (θ' := wM (up2 (stM M ln p) 5 (upd ((stM M ln p) 5) pl (stV (M 11) ln p)))) C pl dX6_number_48 rfl rfl (by first | assumption | omega) rfl ?_
      refine r_aload_n (pc := 49) C dX6_number_49 rfl rfl ?_
      refine r_callV0 (pc := 50) (As := []) (st := []) (θ' := wM (stM (up2 (stM M ln p) 5 (upd ((stM M ln p) 5) pl (stV (M 11) ln p))) ln (stA_ (M 11) ln p))) C (c_X6_step (up2 (stM M ln p) 5 (upd ((stM M ln p) 5) pl (stV (M 11) ln p))) ln (stA_ (M 11) ln p) hl hln rfl (stA_le hpl)) xm_X6_step xk_X6_108 dX6_number_50 rfl rfl rfl rfl (Nat.le_of_ble_eq_true rfl) ⟨Nat.le_of_ble_eq_true rfl, Nat.le_of_ble_eq_true rfl⟩ ⟨rfl, rfl⟩ ⟨Nat.le_of_ble_eq_true rfl, Nat.le_of_ble_eq_true rfl⟩ rfl (Eq.trans (b := 14) rfl rfl) ?_
      show g 0 0 (wM (stM (up2 (stM M ln p) 5 (upd ((stM M ln p) 5) pl (stV (M 11) ln p))) ln (stA_ (M 11) ln p))) 53 [some (.ref 0), some (.int (nI pl)), some (.int l), some (.int m), some (.int sg)] []
      refine r_aload_n (pc := 53) C dX6_number_53 rfl rfl ?_
      refine r_getfield (pc := 54) (v := .int (stT (M 11) ln (stA_ (M 11) ln p))) C xf_X6_102 dX6_number_54 rfl rfl ?_
      refine r_iconst (pc := 57) (v := 3) C dX6_number_57 (by decide) ?_
      refine r_icmp_ne (pc := 58) (tgt := 70) C dX6_number_58 (by decide) (fun h_58 => ?_) (fun h_58 => ?_)
      · skip
        refine r_aload_n (pc := 70) C dX6_number_70 rfl rfl ?_
        refine r_iconst (pc := 71) (v := 1) C dX6_number_71 (by decide) ?_
        refine r_callV0 (pc := 72) (As := [.int 1]) (st := []) (θ' := wM (up2 (stM (up2 (stM M ln p) 5 (upd ((stM M ln p) 5) pl (stV (M 11) ln p))) ln (stA_ (M 11) ln p)) 20 (k1 1))) C (c_X6_fails (stM (up2 (stM M ln p) 5 (upd ((stM M ln p) 5) pl (stV (M 11) ln p))) ln (stA_ (M 11) ln p)) 1) xm_X6_fails xk_X6_111 dX6_number_72 rfl rfl rfl rfl (Nat.le_of_ble_eq_true rfl) ⟨Nat.le_of_ble_eq_true rfl, Nat.le_of_ble_eq_true rfl⟩ ⟨rfl, rfl⟩ ⟨Nat.le_of_ble_eq_true rfl, Nat.le_of_ble_eq_true rfl⟩ rfl (Eq.trans (b := 14) rfl rfl) ?_
        show g 0 0 (wM (up2 (stM (up2 (stM M ln p) 5 (upd ((stM M ln p) 5) pl (stV (M 11) ln p))) ln (stA_ (M 11) ln p)) 20 (k1 1))) 75 [some (.ref 0), some (.int (nI pl)), some (.int l), some (.int m), some (.int sg)] [.int (bB false)]
        refine r_if_eq (pc := 75) (tgt := 82) C dX6_number_75 (by decide) (fun h_75 => ?_) (fun h_75 => ?_)
        · replace h_75 := bB_f h_75
          refine r_iconst (pc := 82) (v := 0) C dX6_number_82 (by decide) ?_
          show g 0 0 (wM (up2 (stM (up2 (stM M ln p) 5 (upd ((stM M ln p) 5) pl (stV (M 11) ln p))) ln (stA_ (M 11) ln p)) 20 (k1 1))) 83 [some (.ref 0), some (.int (nI pl)), some (.int l), some (.int m), some (.int sg)] [.int 0]
          have hX : nbM M ln p pl l m sg = (0, (up2 (stM (up2 (stM M ln p) 5 (upd ((stM M ln p) 5) pl (stV (M 11) ln p))) ln (stA_ (M 11) ln p)) 20 (k1 1))) := by
            unfold nbM
            rw [if_pos h_9, if_pos h_30, if_neg h_58, if_neg (nbt h_75)]
          exact E _ _ _ _ _ _ dX6_number_83 (Nat.le_refl _) (Nat.le_refl _) rfl ⟨by rw [hX], by rw [hX]⟩
        · replace h_75 := bB_t h_75
          refine r_iconst (pc := 78) (v := 1) C dX6_number_78 (by decide) ?_
          refine r_goto (pc := 79) (tgt := 83) C dX6_number_79 (by decide) ?_
          show g 0 0 (wM (up2 (stM (up2 (stM M ln p) 5 (upd ((stM M ln p) 5) pl (stV (M 11) ln p))) ln (stA_ (M 11) ln p)) 20 (k1 1))) 83 [some (.ref 0), some (.int (nI pl)), some (.int l), some (.int m), some (.int sg)] [.int 1]
          have hX : nbM M ln p pl l m sg = (1, (up2 (stM (up2 (stM M ln p) 5 (upd ((stM M ln p) 5) pl (stV (M 11) ln p))) ln (stA_ (M 11) ln p)) 20 (k1 1))) := by
            unfold nbM
            rw [if_pos h_9, if_pos h_30, if_neg h_58, if_pos h_75]
          exact E _ _ _ _ _ _ dX6_number_83 (Nat.le_refl _) (Nat.le_refl _) rfl ⟨by rw [hX], by rw [hX]⟩
      · skip
        refine r_aload_n (pc := 61) C dX6_number_61 rfl rfl ?_
        refine r_getfield (pc := 62) (v := .int (stV (M 11) ln (stA_ (M 11) ln p))) C xf_X6_91 dX6_number_62 rfl rfl ?_
        refine r_iload (pc := 65) C dX6_number_65 rfl ?_
        refine r_icmp_eq (pc := 67) (tgt := 78) C dX6_number_67 (by decide) (fun h_67 => ?_) (fun h_67 => ?_)
        · skip
          refine r_iconst (pc := 78) (v := 1) C dX6_number_78 (by decide) ?_
          refine r_goto (pc := 79) (tgt := 83) C dX6_number_79 (by decide) ?_
          show g 0 0 (wM (stM (up2 (stM M ln p) 5 (upd ((stM M ln p) 5) pl (stV (M 11) ln p))) ln (stA_ (M 11) ln p))) 83 [some (.ref 0), some (.int (nI pl)), some (.int l), some (.int m), some (.int sg)] [.int 1]
          have hX : nbM M ln p pl l m sg = (1, (stM (up2 (stM M ln p) 5 (upd ((stM M ln p) 5) pl (stV (M 11) ln p))) ln (stA_ (M 11) ln p))) := by
            unfold nbM
            rw [if_pos h_9, if_pos h_30, if_pos h_58, if_pos h_67]
          exact E _ _ _ _ _ _ dX6_number_83 (Nat.le_refl _) (Nat.le_refl _) rfl ⟨by rw [hX], by rw [hX]⟩
        · skip
          refine r_aload_n (pc := 70) C dX6_number_70 rfl rfl ?_
          refine r_iconst (pc := 71) (v := 1) C dX6_number_71 (by decide) ?_
          refine r_callV0 (pc := 72) (As := [.int 1]) (st := []) (θ' := wM (up2 (stM (up2 (stM M ln p) 5 (upd ((stM M ln p) 5) pl (stV (M 11) ln p))) ln (stA_ (M 11) ln p)) 20 (k1 1))) C (c_X6_fails (stM (up2 (stM M ln p) 5 (upd ((stM M ln p) 5) pl (stV (M 11) ln p))) ln (stA_ (M 11) ln p)) 1) xm_X6_fails xk_X6_111 dX6_number_72 rfl rfl rfl rfl (Nat.le_of_ble_eq_true rfl) ⟨Nat.le_of_ble_eq_true rfl, Nat.le_of_ble_eq_true rfl⟩ ⟨rfl, rfl⟩ ⟨Nat.le_of_ble_eq_true rfl, Nat.le_of_ble_eq_true rfl⟩ rfl (Eq.trans (b := 14) rfl rfl) ?_
          show g 0 0 (wM (up2 (stM (up2 (stM M ln p) 5 (upd ((stM M ln p) 5) pl (stV (M 11) ln p))) ln (stA_ (M 11) ln p)) 20 (k1 1))) 75 [some (.ref 0), some (.int (nI pl)), some (.int l), some (.int m), some (.int sg)] [.int (bB false)]
          refine r_if_eq (pc := 75) (tgt := 82) C dX6_number_75 (by decide) (fun h_75 => ?_) (fun h_75 => ?_)
          · replace h_75 := bB_f h_75
            refine r_iconst (pc := 82) (v := 0) C dX6_number_82 (by decide) ?_
            show g 0 0 (wM (up2 (stM (up2 (stM M ln p) 5 (upd ((stM M ln p) 5) pl (stV (M 11) ln p))) ln (stA_ (M 11) ln p)) 20 (k1 1))) 83 [some (.ref 0), some (.int (nI pl)), some (.int l), some (.int m), some (.int sg)] [.int 0]
            have hX : nbM M ln p pl l m sg = (0, (up2 (stM (up2 (stM M ln p) 5 (upd ((stM M ln p) 5) pl (stV (M 11) ln p))) ln (stA_ (M 11) ln p)) 20 (k1 1))) := by
              unfold nbM
              rw [if_pos h_9, if_pos h_30, if_pos h_58, if_neg h_67, if_neg (nbt h_75)]
            exact E _ _ _ _ _ _ dX6_number_83 (Nat.le_refl _) (Nat.le_refl _) rfl ⟨by rw [hX], by rw [hX]⟩
          · replace h_75 := bB_t h_75
            refine r_iconst (pc := 78) (v := 1) C dX6_number_78 (by decide) ?_
            refine r_goto (pc := 79) (tgt := 83) C dX6_number_79 (by decide) ?_
            show g 0 0 (wM (up2 (stM (up2 (stM M ln p) 5 (upd ((stM M ln p) 5) pl (stV (M 11) ln p))) ln (stA_ (M 11) ln p)) 20 (k1 1))) 83 [some (.ref 0), some (.int (nI pl)), some (.int l), some (.int m), some (.int sg)] [.int 1]
            have hX : nbM M ln p pl l m sg = (1, (up2 (stM (up2 (stM M ln p) 5 (upd ((stM M ln p) 5) pl (stV (M 11) ln p))) ln (stA_ (M 11) ln p)) 20 (k1 1))) := by
              unfold nbM
              rw [if_pos h_9, if_pos h_30, if_pos h_58, if_neg h_67, if_pos h_75]
            exact E _ _ _ _ _ _ dX6_number_83 (Nat.le_refl _) (Nat.le_refl _) rfl ⟨by rw [hX], by rw [hX]⟩
    · replace h_30 := bB_f h_30
      refine r_aload_n (pc := 33) C dX6_number_33 rfl rfl ?_
      refine r_iconst (pc := 34) (v := 2) C dX6_number_34 (by decide) ?_
      refine r_callV0 (pc := 35) (As := [.int 2]) (st := []) (θ' := wM (up2 (stM M ln p) 20 (k1 2))) C (c_X6_fails (stM M ln p) 2) xm_X6_fails xk_X6_111 dX6_number_35 rfl rfl rfl rfl (Nat.le_of_ble_eq_true rfl) ⟨Nat.le_of_ble_eq_true rfl, Nat.le_of_ble_eq_true rfl⟩ ⟨rfl, rfl⟩ ⟨Nat.le_of_ble_eq_true rfl, Nat.le_of_ble_eq_true rfl⟩ rfl (Eq.trans (b := 14) rfl rfl) ?_
      show g 0 0 (wM (up2 (stM M ln p) 20 (k1 2))) 38 [some (.ref 0), some (.int (nI pl)), some (.int l), some (.int m), some (.int sg)] [.int (bB false)]
      show g 0 0 (wM (up2 (stM M ln p) 20 (k1 2))) 38 [some (.ref 0), some (.int (nI pl)), some (.int l), some (.int m), some (.int sg)] [.int (bB false)]
      have hX : nbM M ln p pl l m sg = (bB false, (up2 (stM M ln p) 20 (k1 2))) := by
        unfold nbM
        rw [if_pos h_9, if_neg (nbt h_30)]
      exact E _ _ _ _ _ _ dX6_number_38 (Nat.le_refl _) (Nat.le_refl _) (bB_nar _) ⟨by rw [hX], by rw [hX]⟩
  · skip
    refine r_aload_n (pc := 12) C dX6_number_12 rfl rfl ?_
    refine r_iconst (pc := 13) (v := 1) C dX6_number_13 (by decide) ?_
    refine r_callV0 (pc := 14) (As := [.int 1]) (st := []) (θ' := wM (up2 (stM M ln p) 20 (k1 1))) C (c_X6_fails (stM M ln p) 1) xm_X6_fails xk_X6_111 dX6_number_14 rfl rfl rfl rfl (Nat.le_of_ble_eq_true rfl) ⟨Nat.le_of_ble_eq_true rfl, Nat.le_of_ble_eq_true rfl⟩ ⟨rfl, rfl⟩ ⟨Nat.le_of_ble_eq_true rfl, Nat.le_of_ble_eq_true rfl⟩ rfl (Eq.trans (b := 14) rfl rfl) ?_
    show g 0 0 (wM (up2 (stM M ln p) 20 (k1 1))) 17 [some (.ref 0), some (.int (nI pl)), some (.int l), some (.int m), some (.int sg)] [.int (bB false)]
    show g 0 0 (wM (up2 (stM M ln p) 20 (k1 1))) 17 [some (.ref 0), some (.int (nI pl)), some (.int l), some (.int m), some (.int sg)] [.int (bB false)]
    have hX : nbM M ln p pl l m sg = (bB false, (up2 (stM M ln p) 20 (k1 1))) := by
      unfold nbM
      rw [if_neg h_9]
    exact E _ _ _ _ _ _ dX6_number_17 (Nat.le_refl _) (Nat.le_refl _) (bB_nar _) ⟨by rw [hX], by rw [hX]⟩
noncomputable def nbT : (Nat → Nat → Int32) → Nat → Nat → Nat → Int32 → Int32 → Int32 → Int32 × (Nat → Nat → Int32) := Classical.choose (seal_ex nbM)
theorem nbT_eq : nbT = nbM := Classical.choose_spec (seal_ex nbM)
theorem c_X6_number (M : Nat → Nat → Int32) (ln p : Nat) (hl : M 12 0 = nI ln) (hln : ln ≤ 120) (hp : M 16 0 = nI p) (hpl : p ≤ ln) (pl : Nat) (hpl36 : pl < 36) (l m sg : Int32) : MetA yX6_number (.code yX6_number cX6_number 5 (some .boolean) :: TT) rmX6_number [.ref 0, .int (nI pl), .int l, .int m, .int sg] (wM M) (fun vr wr => vr = some (.int (nbT M ln p pl l m sg).1) ∧ wr = wM (nbT M ln p pl l m sg).2) 0 0 := by
  rw [nbT_eq]
  exact c_X6_number0 M ln p hl hln hp hpl pl hpl36 l m sg
/-- the world behind a number that is read well -/
noncomputable def nbW (M : Nat → Nat → Int32) (ln p pl : Nat) : Nat → Nat → Int32 := stM (up2 (stM M ln p) 5 (upd (M 5) pl (stV (M 11) ln p))) ln (stA_ (M 11) ln p)
theorem nb_ok {M : Nat → Nat → Int32} {ln p pl : Nat} {l m sg : Int32} (h : ¬ (nbT M ln p pl l m sg).1 = 0) : (nbT M ln p pl l m sg).2 = nbW M ln p pl := by
  rw [nbT_eq] at h ⊢
  unfold nbM at h ⊢
  split at h
  · split at h
    · split at h
      · split at h
        · rename_i h1 h2 h3 h4
          rw [if_pos h1, if_pos h2, if_pos h3, if_pos h4]
          rfl
        · exact absurd rfl h
      · exact absurd rfl h
    · exact absurd rfl h
  · exact absurd rfl h
noncomputable def nbP (b : Nat → Int32) (ln p : Nat) : Nat := stA_ b ln (stA_ b ln p)
theorem nbP_le {b : Nat → Int32} {ln p : Nat} (h : p ≤ ln) : nbP b ln p ≤ ln := stA_le (stA_le h)
noncomputable def rhM (M : Nat → Nat → Int32) (ln p t : Nat) : Int32 × (Nat → Nat → Int32) := (if (M 18 0) = 1 then (if (sortM (M 19 0)) = 0 then (bB false, (up2 M 20 (k1 1))) else (if (nI t) = 6 then (bB false, (up2 M 20 (k1 3))) else (if ((nbT (up2 M 5 (upd (upd (M 5) (4 + t) (sortM (M 19 0))) 0 ((nI t) + 1))) ln p (10 + t) 0 11 44).1) = 0 then (0, ((nbT (up2 M 5 (upd (upd (M 5) (4 + t) (sortM (M 19 0))) 0 ((nI t) + 1))) ln p (10 + t) 0 11 44).2)) else (if ((nbT (nbW (up2 M 5 (upd (upd (M 5) (4 + t) (sortM (M 19 0))) 0 ((nI t) + 1))) ln p (10 + t)) ln (nbP (M 11) ln p) (16 + t) ((stV (M 11) ln p) + 1) 11 44).1) = 0 then (0, ((nbT (nbW (up2 M 5 (upd (upd (M 5) (4 + t) (sortM (M 19 0))) 0 ((nI t) + 1))) ln p (10 + t)) ln (nbP (M 11) ln p) (16 + t) ((stV (M 11) ln p) + 1) 11 44).2)) else (if ((nbT (nbW (nbW (up2 M 5 (upd (upd (M 5) (4 + t) (sortM (M 19 0))) 0 ((nI t) + 1))) ln p (10 + t)) ln (nbP (M 11) ln p) (16 + t)) ln (nbP (M 11) ln (nbP (M 11) ln p)) (22 + t) 1 20 44).1) = 0 then (0, ((nbT (nbW (nbW (up2 M 5 (upd (upd (M 5) (4 + t) (sortM (M 19 0))) 0 ((nI t) + 1))) ln p (10 + t)) ln (nbP (M 11) ln p) (16 + t)) ln (nbP (M 11) ln (nbP (M 11) ln p)) (22 + t) 1 20 44).2)) else (if ((nbT (nbW (nbW (nbW (up2 M 5 (upd (upd (M 5) (4 + t) (sortM (M 19 0))) 0 ((nI t) + 1))) ln p (10 + t)) ln (nbP (M 11) ln p) (16 + t)) ln (nbP (M 11) ln (nbP (M 11) ln p)) (22 + t)) ln (nbP (M 11) ln (nbP (M 11) ln (nbP (M 11) ln p))) (28 + t) 0 5 59).1) = 0 then (0, ((nbT (nbW (nbW (nbW (up2 M 5 (upd (upd (M 5) (4 + t) (sortM (M 19 0))) 0 ((nI t) + 1))) ln p (10 + t)) ln (nbP (M 11) ln p) (16 + t)) ln (nbP (M 11) ln (nbP (M 11) ln p)) (22 + t)) ln (nbP (M 11) ln (nbP (M 11) ln (nbP (M 11) ln p))) (28 + t) 0 5 59).2)) else (1, (nbW (nbW (nbW (nbW (up2 M 5 (upd (upd (M 5) (4 + t) (sortM (M 19 0))) 0 ((nI t) + 1))) ln p (10 + t)) ln (nbP (M 11) ln p) (16 + t)) ln (nbP (M 11) ln (nbP (M 11) ln p)) (22 + t)) ln (nbP (M 11) ln (nbP (M 11) ln (nbP (M 11) ln p))) (28 + t))))))))) else (bB false, (up2 M 20 (k1 1))))
set_option maxHeartbeats 4000000 in
set_option maxRecDepth 100000 in
theorem c_X6_readsHammock0 (M : Nat → Nat → Int32) (ln p : Nat) (hl : M 12 0 = nI ln) (hln : ln ≤ 120) (hp : M 16 0 = nI p) (hpl : p ≤ ln) (t : Nat) (ht : M 5 0 = nI t) (ht6 : t ≤ 6) : MetA yX6_readsHammock (.code yX6_readsHammock cX6_readsHammock 3 (some .boolean) :: TT) rmX6_readsHammock [.ref 0] (wM M) (fun vr wr => vr = some (.int (rhM M ln p t).1) ∧ wr = wM (rhM M ln p t).2) 0 0 := by
  refine MetA.of_i (by decide) (fun _ => Nat.le_of_ble_eq_true rfl) (Nat.le_of_ble_eq_true rfl) (fun g C E => ?_)
  replace C : Sem cX6_readsHammock RX6 "readsHammock" 3 rmX6_readsHammock g := C
  show g 0 0 (wM M) 0 [some (.ref 0), none, none] []
  refine r_aload_n (pc := 0) C dX6_readsHammock_0 rfl rfl ?_
  refine r_getfield (pc := 1) (v := .ref 5) C xf_X6_22 dX6_readsHammock_1 rfl rfl ?_
  refine r_iconst (pc := 4) (v := 0) C dX6_readsHammock_4 (by decide) ?_
  refine r_iaload (pc := 5) (v := M 5 0) C 0 dX6_readsHammock_5 rfl (by decide) (by decide) rfl ?_
  rw [show (M 5 0 : Int32) = nI t from ht]
  refine r_istore_n (pc := 6) (lv' := [some (.ref 0), some (.int (nI t)), none]) C dX6_readsHammock_6 rfl (Nat.le_of_ble_eq_true rfl) trivial rfl ?_
  refine r_aload_n (pc := 7) C dX6_readsHammock_7 rfl rfl ?_
  refine r_getfield (pc := 8) (v := .int (M 18 0)) C xf_X6_102 dX6_readsHammock_8 rfl rfl ?_
  refine r_iconst (pc := 11) (v := 1) C dX6_readsHammock_11 (by decide) ?_
  refine r_icmp_ne (pc := 12) (tgt := 25) C dX6_readsHammock_12 (by decide) (fun h_12 => ?_) (fun h_12 => ?_)
  · skip
    refine r_iconst (pc := 25) (v := 0) C dX6_readsHammock_25 (by decide) ?_
    refine r_istore_n (pc := 26) (lv' := [some (.ref 0), some (.int (nI t)), some (.int 0)]) C dX6_readsHammock_26 rfl (Nat.le_of_ble_eq_true rfl) trivial rfl ?_
    refine r_iload_n (pc := 27) C dX6_readsHammock_27 rfl rfl ?_
    refine r_if_ne (pc := 28) (tgt := 37) C dX6_readsHammock_28 (by decide) (fun h => absurd (by decide) h) (fun _ => ?_)
    refine r_aload_n (pc := 31) C dX6_readsHammock_31 rfl rfl ?_
    refine r_iconst (pc := 32) (v := 1) C dX6_readsHammock_32 (by decide) ?_
    refine r_callV0 (pc := 33) (As := [.int 1]) (st := []) (θ' := wM (up2 M 20 (k1 1))) C (c_X6_fails M 1) xm_X6_fails xk_X6_111 dX6_readsHammock_33 rfl rfl rfl rfl (Nat.le_of_ble_eq_true rfl) ⟨Nat.le_of_ble_eq_true rfl, Nat.le_of_ble_eq_true rfl⟩ ⟨rfl, rfl⟩ ⟨Nat.le_of_ble_eq_true rfl, Nat.le_of_ble_eq_true rfl⟩ rfl (Eq.trans (b := 14) rfl rfl) ?_
    show g 0 0 (wM (up2 M 20 (k1 1))) 36 [some (.ref 0), some (.int (nI t)), some (.int 0)] [.int (bB false)]
    show g 0 0 (wM (up2 M 20 (k1 1))) 36 [some (.ref 0), some (.int (nI t)), some (.int 0)] [.int (bB false)]
    have hX : rhM M ln p t = (bB false, (up2 M 20 (k1 1))) := by
      unfold rhM
      rw [if_neg h_12]
    exact E _ _ _ _ _ _ dX6_readsHammock_36 (Nat.le_refl _) (Nat.le_refl _) (bB_nar _) ⟨by rw [hX], by rw [hX]⟩
  · skip
    refine r_aload_n (pc := 15) C dX6_readsHammock_15 rfl rfl ?_
    refine r_getfield (pc := 16) (v := .int (M 19 0)) C xf_X6_91 dX6_readsHammock_16 rfl rfl ?_
    refine r_callS0 (pc := 19) (As := [.int (M 19 0)]) (st := []) C (c_X6_sortOf (M 19 0)) xm_X6_sortOf xk_X6_114 dX6_readsHammock_19 (fun _ => rfl) (fun _ => rfl) rfl rfl (Nat.le_of_ble_eq_true rfl) ⟨Nat.le_of_ble_eq_true rfl, Nat.le_of_ble_eq_true rfl⟩ ⟨rfl, rfl⟩ ⟨Nat.le_of_ble_eq_true rfl, Nat.le_of_ble_eq_true rfl⟩ rfl ?_
    show g 0 0 (wM M) 22 [some (.ref 0), some (.int (nI t)), none] [.int (sortM (M 19 0))]
    refine r_goto (pc := 22) (tgt := 26) C dX6_readsHammock_22 (by decide) ?_
    refine r_istore_n (pc := 26) (lv' := [some (.ref 0), some (.int (nI t)), some (.int (sortM (M 19 0)))]) C dX6_readsHammock_26 rfl (Nat.le_of_ble_eq_true rfl) trivial rfl ?_
    refine r_iload_n (pc := 27) C dX6_readsHammock_27 rfl rfl ?_
    refine r_if_ne (pc := 28) (tgt := 37) C dX6_readsHammock_28 (by decide) (fun h_28 => ?_) (fun h_28 => ?_)
    · skip
      refine r_iload_n (pc := 37) C dX6_readsHammock_37 rfl rfl ?_
      refine r_bipush (pc := 38) (v := 6) C dX6_readsHammock_38 (by decide) ?_
      refine r_icmp_ne (pc := 40) (tgt := 49) C dX6_readsHammock_40 (by decide) (fun h_40 => ?_) (fun h_40 => ?_)
      · skip
        have ht5 : t < 6 := by (have h9 : ¬ t = 6 := fun z => h_40 (by rw [z]; rfl)); omega
        refine r_aload_n (pc := 49) C dX6_readsHammock_49 rfl rfl ?_
        refine r_getfield (pc := 50) (v := .ref 5) C xf_X6_22 dX6_readsHammock_50 rfl rfl ?_
        refine r_iconst (pc := 53) (v := 4) C dX6_readsHammock_53 (by decide) ?_
        refine r_iload_n (pc := 54) C dX6_readsHammock_54 rfl rfl ?_
        refine r_iadd (pc := 55) C dX6_readsHammock_55 ?_
        refine r_iload_n (pc := 56) C dX6_readsHammock_56 rfl rfl ?_
        refine r_iastore (pc := 57) (θ' := wM (up2 M 5 (upd (M 5) (4 + t) (sortM (M 19 0))))) C (4 + t) dX6_readsHammock_57 rfl (nI_sum (m := 4) (n := t) rfl rfl) (by first | assumption | omega) rfl ?_
        refine r_aload_n (pc := 58) C dX6_readsHammock_58 rfl rfl ?_
        refine r_getfield (pc := 59) (v := .ref 5) C xf_X6_22 dX6_readsHammock_59 rfl rfl ?_
        refine r_iconst (pc := 62) (v := 0) C dX6_readsHammock_62 (by decide) ?_
        refine r_dup2_11 (pc := 63) C dX6_readsHammock_63 rfl rfl ?_
        refine r_iaload (pc := 64) (v := nI t) C 0 dX6_readsHammock_64 rfl (by decide) (by decide) ((upd_ne (by omega)).trans ht) ?_
        refine r_iconst (pc := 65) (v := 1) C dX6_readsHammock_65 (by decide) ?_
        refine r_iadd (pc := 66) C dX6_readsHammock_66 ?_
        refine r_iastore (pc := 67) (θ' := wM (up2 M 5 (upd (upd (M 5) (4 + t) (sortM (M 19 0))) 0 ((nI t) + 1)))) C 0 dX6_readsHammock_67 rfl (by decide) (by decide) rfl ?_
        refine r_aload_n (pc := 68) C dX6_readsHammock_68 rfl rfl ?_
        refine r_bipush (pc := 69) (v := 10) C dX6_readsHammock_69 (by decide) ?_
        refine r_iload_n (pc := 71) C dX6_readsHammock_71 rfl rfl ?_
        refine r_iadd (pc := 72) C dX6_readsHammock_72 ?_
        rw [show (10 + (nI t) : Int32) = nI (10 + t) from (nI_sum (m := 10) (n := t) rfl rfl)]
        refine r_iconst (pc := 73) (v := 0) C dX6_readsHammock_73 (by decide) ?_
        refine r_bipush (pc := 74) (v := 11) C dX6_readsHammock_74 (by decide) ?_
        refine r_bipush (pc := 76) (v := 44) C dX6_readsHammock_76 (by decide) ?_
        refine r_callV0 (pc := 78) (As := [.int (nI (10 + t)), .int 0, .int 11, .int 44]) (st := []) (θ' := wM ((nbT (up2 M 5 (upd (upd (M 5) (4 + t) (sortM (M 19 0))) 0 ((nI t) + 1))) ln p (10 + t) 0 11 44).2)) C (c_X6_number (up2 M 5 (upd (upd (M 5) (4 + t) (sortM (M 19 0))) 0 ((nI t) + 1))) ln p hl hln hp hpl (10 + t) (by omega) 0 11 44) xm_X6_number xk_X6_117 dX6_readsHammock_78 rfl rfl rfl rfl (Nat.le_of_ble_eq_true rfl) ⟨Nat.le_of_ble_eq_true rfl, Nat.le_of_ble_eq_true rfl⟩ ⟨rfl, rfl⟩ ⟨Nat.le_of_ble_eq_true rfl, Nat.le_of_ble_eq_true rfl⟩ rfl (Eq.trans (b := 14) rfl rfl) ?_
        show g 0 0 (wM ((nbT (up2 M 5 (upd (upd (M 5) (4 + t) (sortM (M 19 0))) 0 ((nI t) + 1))) ln p (10 + t) 0 11 44).2)) 81 [some (.ref 0), some (.int (nI t)), some (.int (sortM (M 19 0)))] [.int ((nbT (up2 M 5 (upd (upd (M 5) (4 + t) (sortM (M 19 0))) 0 ((nI t) + 1))) ln p (10 + t) 0 11 44).1)]
        refine r_if_eq (pc := 81) (tgt := 145) C dX6_readsHammock_81 (by decide) (fun h_81 => ?_) (fun h_81 => ?_)
        · skip
          refine r_iconst (pc := 145) (v := 0) C dX6_readsHammock_145 (by decide) ?_
          show g 0 0 (wM ((nbT (up2 M 5 (upd (upd (M 5) (4 + t) (sortM (M 19 0))) 0 ((nI t) + 1))) ln p (10 + t) 0 11 44).2)) 146 [some (.ref 0), some (.int (nI t)), some (.int (sortM (M 19 0)))] [.int 0]
          have hX : rhM M ln p t = (0, ((nbT (up2 M 5 (upd (upd (M 5) (4 + t) (sortM (M 19 0))) 0 ((nI t) + 1))) ln p (10 + t) 0 11 44).2)) := by
            unfold rhM
            rw [if_pos h_12, if_neg h_28, if_neg h_40, if_pos h_81]
          exact E _ _ _ _ _ _ dX6_readsHammock_146 (Nat.le_refl _) (Nat.le_refl _) rfl ⟨by rw [hX], by rw [hX]⟩
        · skip
          show g 0 0 (wM ((nbT (up2 M 5 (upd (upd (M 5) (4 + t) (sortM (M 19 0))) 0 ((nI t) + 1))) ln p (10 + t) 0 11 44).2)) 84 [some (.ref 0), some (.int (nI t)), some (.int (sortM (M 19 0)))] []
          rw [nb_ok h_81]
          show g 0 0 (wM (nbW (up2 M 5 (upd (upd (M 5) (4 + t) (sortM (M 19 0))) 0 ((nI t) + 1))) ln p (10 + t))) 84 [some (.ref 0), some (.int (nI t)), some (.int (sortM (M 19 0)))] []
          refine r_aload_n (pc := 84) C dX6_readsHammock_84 rfl rfl ?_
          refine r_bipush (pc := 85) (v := 16) C dX6_readsHammock_85 (by decide) ?_
          refine r_iload_n (pc := 87) C dX6_readsHammock_87 rfl rfl ?_
          refine r_iadd (pc := 88) C dX6_readsHammock_88 ?_
          rw [show (16 + (nI t) : Int32) = nI (16 + t) from (nI_sum (m := 16) (n := t) rfl rfl)]
          refine r_aload_n (pc := 89) C dX6_readsHammock_89 rfl rfl ?_
          refine r_getfield (pc := 90) (v := .ref 5) C xf_X6_22 dX6_readsHammock_90 rfl rfl ?_
          refine r_bipush (pc := 93) (v := 10) C dX6_readsHammock_93 (by decide) ?_
          refine r_iload_n (pc := 95) C dX6_readsHammock_95 rfl rfl ?_
          refine r_iadd (pc := 96) C dX6_readsHammock_96 ?_
          refine r_iaload (pc := 97) (v := stV (M 11) ln p) C (10 + t) dX6_readsHammock_97 rfl (nI_sum (m := 10) (n := t) rfl rfl) (by first | assumption | omega) pk_us ?_
          refine r_iconst (pc := 98) (v := 1) C dX6_readsHammock_98 (by decide) ?_
          refine r_iadd (pc := 99) C dX6_readsHammock_99 ?_
          refine r_bipush (pc := 100) (v := 11) C dX6_readsHammock_100 (by decide) ?_
          refine r_bipush (pc := 102) (v := 44) C dX6_readsHammock_102 (by decide) ?_
          refine r_callV0 (pc := 104) (As := [.int (nI (16 + t)), .int ((stV (M 11) ln p) + 1), .int 11, .int 44]) (st := []) (θ' := wM ((nbT (nbW (up2 M 5 (upd (upd (M 5) (4 + t) (sortM (M 19 0))) 0 ((nI t) + 1))) ln p (10 + t)) ln (nbP (M 11) ln p) (16 + t) ((stV (M 11) ln p) + 1) 11 44).2)) C (c_X6_number (nbW (up2 M 5 (upd (upd (M 5) (4 + t) (sortM (M 19 0))) 0 ((nI t) + 1))) ln p (10 + t)) ln (nbP (M 11) ln p) hl hln rfl (nbP_le hpl) (16 + t) (by omega) ((stV (M 11) ln p) + 1) 11 44) xm_X6_number xk_X6_117 dX6_readsHammock_104 rfl rfl rfl rfl (Nat.le_of_ble_eq_true rfl) ⟨Nat.le_of_ble_eq_true rfl, Nat.le_of_ble_eq_true rfl⟩ ⟨rfl, rfl⟩ ⟨Nat.le_of_ble_eq_true rfl, Nat.le_of_ble_eq_true rfl⟩ rfl (Eq.trans (b := 14) rfl rfl) ?_
          show g 0 0 (wM ((nbT (nbW (up2 M 5 (upd (upd (M 5) (4 + t) (sortM (M 19 0))) 0 ((nI t) + 1))) ln p (10 + t)) ln (nbP (M 11) ln p) (16 + t) ((stV (M 11) ln p) + 1) 11 44).2)) 107 [some (.ref 0), some (.int (nI t)), some (.int (sortM (M 19 0)))] [.int ((nbT (nbW (up2 M 5 (upd (upd (M 5) (4 + t) (sortM (M 19 0))) 0 ((nI t) + 1))) ln p (10 + t)) ln (nbP (M 11) ln p) (16 + t) ((stV (M 11) ln p) + 1) 11 44).1)]
          refine r_if_eq (pc := 107) (tgt := 145) C dX6_readsHammock_107 (by decide) (fun h_107 => ?_) (fun h_107 => ?_)
          · skip
            refine r_iconst (pc := 145) (v := 0) C dX6_readsHammock_145 (by decide) ?_
            show g 0 0 (wM ((nbT (nbW (up2 M 5 (upd (upd (M 5) (4 + t) (sortM (M 19 0))) 0 ((nI t) + 1))) ln p (10 + t)) ln (nbP (M 11) ln p) (16 + t) ((stV (M 11) ln p) + 1) 11 44).2)) 146 [some (.ref 0), some (.int (nI t)), some (.int (sortM (M 19 0)))] [.int 0]
            have hX : rhM M ln p t = (0, ((nbT (nbW (up2 M 5 (upd (upd (M 5) (4 + t) (sortM (M 19 0))) 0 ((nI t) + 1))) ln p (10 + t)) ln (nbP (M 11) ln p) (16 + t) ((stV (M 11) ln p) + 1) 11 44).2)) := by
              unfold rhM
              rw [if_pos h_12, if_neg h_28, if_neg h_40, if_neg h_81, if_pos h_107]
            exact E _ _ _ _ _ _ dX6_readsHammock_146 (Nat.le_refl _) (Nat.le_refl _) rfl ⟨by rw [hX], by rw [hX]⟩
          · skip
            show g 0 0 (wM ((nbT (nbW (up2 M 5 (upd (upd (M 5) (4 + t) (sortM (M 19 0))) 0 ((nI t) + 1))) ln p (10 + t)) ln (nbP (M 11) ln p) (16 + t) ((stV (M 11) ln p) + 1) 11 44).2)) 110 [some (.ref 0), some (.int (nI t)), some (.int (sortM (M 19 0)))] []
            rw [nb_ok h_107]
            show g 0 0 (wM (nbW (nbW (up2 M 5 (upd (upd (M 5) (4 + t) (sortM (M 19 0))) 0 ((nI t) + 1))) ln p (10 + t)) ln (nbP (M 11) ln p) (16 + t))) 110 [some (.ref 0), some (.int (nI t)), some (.int (sortM (M 19 0)))] []
            refine r_aload_n (pc := 110) C dX6_readsHammock_110 rfl rfl ?_
            refine r_bipush (pc := 111) (v := 22) C dX6_readsHammock_111 (by decide) ?_
            refine r_iload_n (pc := 113) C dX6_readsHammock_113 rfl rfl ?_
            refine r_iadd (pc := 114) C dX6_readsHammock_114 ?_
            rw [show (22 + (nI t) : Int32) = nI (22 + t) from (nI_sum (m := 22) (n := t) rfl rfl)]
            refine r_iconst (pc := 115) (v := 1) C dX6_readsHammock_115 (by decide) ?_
            refine r_bipush (pc := 116) (v := 20) C dX6_readsHammock_116 (by decide) ?_
            refine r_bipush (pc := 118) (v := 44) C dX6_readsHammock_118 (by decide) ?_
            refine r_callV0 (pc := 120) (As := [.int (nI (22 + t)), .int 1, .int 20, .int 44]) (st := []) (θ' := wM ((nbT (nbW (nbW (up2 M 5 (upd (upd (M 5) (4 + t) (sortM (M 19 0))) 0 ((nI t) + 1))) ln p (10 + t)) ln (nbP (M 11) ln p) (16 + t)) ln (nbP (M 11) ln (nbP (M 11) ln p)) (22 + t) 1 20 44).2)) C (c_X6_number (nbW (nbW (up2 M 5 (upd (upd (M 5) (4 + t) (sortM (M 19 0))) 0 ((nI t) + 1))) ln p (10 + t)) ln (nbP (M 11) ln p) (16 + t)) ln (nbP (M 11) ln (nbP (M 11) ln p)) hl hln rfl (nbP_le (nbP_le hpl)) (22 + t) (by omega) 1 20 44) xm_X6_number xk_X6_117 dX6_readsHammock_120 rfl rfl rfl rfl (Nat.le_of_ble_eq_true rfl) ⟨Nat.le_of_ble_eq_true rfl, Nat.le_of_ble_eq_true rfl⟩ ⟨rfl, rfl⟩ ⟨Nat.le_of_ble_eq_true rfl, Nat.le_of_ble_eq_true rfl⟩ rfl (Eq.trans (b := 14) rfl rfl) ?_
            show g 0 0 (wM ((nbT (nbW (nbW (up2 M 5 (upd (upd (M 5) (4 + t) (sortM (M 19 0))) 0 ((nI t) + 1))) ln p (10 + t)) ln (nbP (M 11) ln p) (16 + t)) ln (nbP (M 11) ln (nbP (M 11) ln p)) (22 + t) 1 20 44).2)) 123 [some (.ref 0), some (.int (nI t)), some (.int (sortM (M 19 0)))] [.int ((nbT (nbW (nbW (up2 M 5 (upd (upd (M 5) (4 + t) (sortM (M 19 0))) 0 ((nI t) + 1))) ln p (10 + t)) ln (nbP (M 11) ln p) (16 + t)) ln (nbP (M 11) ln (nbP (M 11) ln p)) (22 + t) 1 20 44).1)]
            refine r_if_eq (pc := 123) (tgt := 145) C dX6_readsHammock_123 (by decide) (fun h_123 => ?_) (fun h_123 => ?_)
            · skip
              refine r_iconst (pc := 145) (v := 0) C dX6_readsHammock_145 (by decide) ?_
              show g 0 0 (wM ((nbT (nbW (nbW (up2 M 5 (upd (upd (M 5) (4 + t) (sortM (M 19 0))) 0 ((nI t) + 1))) ln p (10 + t)) ln (nbP (M 11) ln p) (16 + t)) ln (nbP (M 11) ln (nbP (M 11) ln p)) (22 + t) 1 20 44).2)) 146 [some (.ref 0), some (.int (nI t)), some (.int (sortM (M 19 0)))] [.int 0]
              have hX : rhM M ln p t = (0, ((nbT (nbW (nbW (up2 M 5 (upd (upd (M 5) (4 + t) (sortM (M 19 0))) 0 ((nI t) + 1))) ln p (10 + t)) ln (nbP (M 11) ln p) (16 + t)) ln (nbP (M 11) ln (nbP (M 11) ln p)) (22 + t) 1 20 44).2)) := by
                unfold rhM
                rw [if_pos h_12, if_neg h_28, if_neg h_40, if_neg h_81, if_neg h_107, if_pos h_123]
              exact E _ _ _ _ _ _ dX6_readsHammock_146 (Nat.le_refl _) (Nat.le_refl _) rfl ⟨by rw [hX], by rw [hX]⟩
            · skip
              show g 0 0 (wM ((nbT (nbW (nbW (up2 M 5 (upd (upd (M 5) (4 + t) (sortM (M 19 0))) 0 ((nI t) + 1))) ln p (10 + t)) ln (nbP (M 11) ln p) (16 + t)) ln (nbP (M 11) ln (nbP (M 11) ln p)) (22 + t) 1 20 44).2)) 126 [some (.ref 0), some (.int (nI t)), some (.int (sortM (M 19 0)))] []
              rw [nb_ok h_123]
              show g 0 0 (wM (nbW (nbW (nbW (up2 M 5 (upd (upd (M 5) (4 + t) (sortM (M 19 0))) 0 ((nI t) + 1))) ln p (10 + t)) ln (nbP (M 11) ln p) (16 + t)) ln (nbP (M 11) ln (nbP (M 11) ln p)) (22 + t))) 126 [some (.ref 0), some (.int (nI t)), some (.int (sortM (M 19 0)))] []
              refine r_aload_n (pc := 126) C dX6_readsHammock_126 rfl rfl ?_
              refine r_bipush (pc := 127) (v := 28) C dX6_readsHammock_127 (by decide) ?_
              refine r_iload_n (pc := 129) C dX6_readsHammock_129 rfl rfl ?_
              refine r_iadd (pc := 130) C dX6_readsHammock_130 ?_
              rw [show (28 + (nI t) : Int32) = nI (28 + t) from (nI_sum (m := 28) (n := t) rfl rfl)]
              refine r_iconst (pc := 131) (v := 0) C dX6_readsHammock_131 (by decide) ?_
              refine r_iconst (pc := 132) (v := 5) C dX6_readsHammock_132 (by decide) ?_
              refine r_bipush (pc := 133) (v := 59) C dX6_readsHammock_133 (by decide) ?_
              refine r_callV0 (pc := 135) (As := [.int (nI (28 + t)), .int 0, .int 5, .int 59]) (st := []) (θ' := wM ((nbT (nbW (nbW (nbW (up2 M 5 (upd (upd (M 5) (4 + t) (sortM (M 19 0))) 0 ((nI t) + 1))) ln p (10 + t)) ln (nbP (M 11) ln p) (16 + t)) ln (nbP (M 11) ln (nbP (M 11) ln p)) (22 + t)) ln (nbP (M 11) ln (nbP (M 11) ln (nbP (M 11) ln p))) (28 + t) 0 5 59).2)) C (c_X6_number (nbW (nbW (nbW (up2 M 5 (upd (upd (M 5) (4 + t) (sortM (M 19 0))) 0 ((nI t) + 1))) ln p (10 + t)) ln (nbP (M 11) ln p) (16 + t)) ln (nbP (M 11) ln (nbP (M 11) ln p)) (22 + t)) ln (nbP (M 11) ln (nbP (M 11) ln (nbP (M 11) ln p))) hl hln rfl (nbP_le (nbP_le (nbP_le hpl))) (28 + t) (by omega) 0 5 59) xm_X6_number xk_X6_117 dX6_readsHammock_135 rfl rfl rfl rfl (Nat.le_of_ble_eq_true rfl) ⟨Nat.le_of_ble_eq_true rfl, Nat.le_of_ble_eq_true rfl⟩ ⟨rfl, rfl⟩ ⟨Nat.le_of_ble_eq_true rfl, Nat.le_of_ble_eq_true rfl⟩ rfl (Eq.trans (b := 14) rfl rfl) ?_
              show g 0 0 (wM ((nbT (nbW (nbW (nbW (up2 M 5 (upd (upd (M 5) (4 + t) (sortM (M 19 0))) 0 ((nI t) + 1))) ln p (10 + t)) ln (nbP (M 11) ln p) (16 + t)) ln (nbP (M 11) ln (nbP (M 11) ln p)) (22 + t)) ln (nbP (M 11) ln (nbP (M 11) ln (nbP (M 11) ln p))) (28 + t) 0 5 59).2)) 138 [some (.ref 0), some (.int (nI t)), some (.int (sortM (M 19 0)))] [.int ((nbT (nbW (nbW (nbW (up2 M 5 (upd (upd (M 5) (4 + t) (sortM (M 19 0))) 0 ((nI t) + 1))) ln p (10 + t)) ln (nbP (M 11) ln p) (16 + t)) ln (nbP (M 11) ln (nbP (M 11) ln p)) (22 + t)) ln (nbP (M 11) ln (nbP (M 11) ln (nbP (M 11) ln p))) (28 + t) 0 5 59).1)]
              refine r_if_eq (pc := 138) (tgt := 145) C dX6_readsHammock_138 (by decide) (fun h_138 => ?_) (fun h_138 => ?_)
              · skip
                refine r_iconst (pc := 145) (v := 0) C dX6_readsHammock_145 (by decide) ?_
                show g 0 0 (wM ((nbT (nbW (nbW (nbW (up2 M 5 (upd (upd (M 5) (4 + t) (sortM (M 19 0))) 0 ((nI t) + 1))) ln p (10 + t)) ln (nbP (M 11) ln p) (16 + t)) ln (nbP (M 11) ln (nbP (M 11) ln p)) (22 + t)) ln (nbP (M 11) ln (nbP (M 11) ln (nbP (M 11) ln p))) (28 + t) 0 5 59).2)) 146 [some (.ref 0), some (.int (nI t)), some (.int (sortM (M 19 0)))] [.int 0]
                have hX : rhM M ln p t = (0, ((nbT (nbW (nbW (nbW (up2 M 5 (upd (upd (M 5) (4 + t) (sortM (M 19 0))) 0 ((nI t) + 1))) ln p (10 + t)) ln (nbP (M 11) ln p) (16 + t)) ln (nbP (M 11) ln (nbP (M 11) ln p)) (22 + t)) ln (nbP (M 11) ln (nbP (M 11) ln (nbP (M 11) ln p))) (28 + t) 0 5 59).2)) := by
                  unfold rhM
                  rw [if_pos h_12, if_neg h_28, if_neg h_40, if_neg h_81, if_neg h_107, if_neg h_123, if_pos h_138]
                exact E _ _ _ _ _ _ dX6_readsHammock_146 (Nat.le_refl _) (Nat.le_refl _) rfl ⟨by rw [hX], by rw [hX]⟩
              · skip
                show g 0 0 (wM ((nbT (nbW (nbW (nbW (up2 M 5 (upd (upd (M 5) (4 + t) (sortM (M 19 0))) 0 ((nI t) + 1))) ln p (10 + t)) ln (nbP (M 11) ln p) (16 + t)) ln (nbP (M 11) ln (nbP (M 11) ln p)) (22 + t)) ln (nbP (M 11) ln (nbP (M 11) ln (nbP (M 11) ln p))) (28 + t) 0 5 59).2)) 141 [some (.ref 0), some (.int (nI t)), some (.int (sortM (M 19 0)))] []
                rw [nb_ok h_138]
                show g 0 0 (wM (nbW (nbW (nbW (nbW (up2 M 5 (upd (upd (M 5) (4 + t) (sortM (M 19 0))) 0 ((nI t) + 1))) ln p (10 + t)) ln (nbP (M 11) ln p) (16 + t)) ln (nbP (M 11) ln (nbP (M 11) ln p)) (22 + t)) ln (nbP (M 11) ln (nbP (M 11) ln (nbP (M 11) ln p))) (28 + t))) 141 [some (.ref 0), some (.int (nI t)), some (.int (sortM (M 19 0)))] []
                refine r_iconst (pc := 141) (v := 1) C dX6_readsHammock_141 (by decide) ?_
                refine r_goto (pc := 142) (tgt := 146) C dX6_readsHammock_142 (by decide) ?_
                show g 0 0 (wM (nbW (nbW (nbW (nbW (up2 M 5 (upd (upd (M 5) (4 + t) (sortM (M 19 0))) 0 ((nI t) + 1))) ln p (10 + t)) ln (nbP (M 11) ln p) (16 + t)) ln (nbP (M 11) ln (nbP (M 11) ln p)) (22 + t)) ln (nbP (M 11) ln (nbP (M 11) ln (nbP (M 11) ln p))) (28 + t))) 146 [some (.ref 0), some (.int (nI t)), some (.int (sortM (M 19 0)))] [.int 1]
                have hX : rhM M ln p t = (1, (nbW (nbW (nbW (nbW (up2 M 5 (upd (upd (M 5) (4 + t) (sortM (M 19 0))) 0 ((nI t) + 1))) ln p (10 + t)) ln (nbP (M 11) ln p) (16 + t)) ln (nbP (M 11) ln (nbP (M 11) ln p)) (22 + t)) ln (nbP (M 11) ln (nbP (M 11) ln (nbP (M 11) ln p))) (28 + t))) := by
                  unfold rhM
                  rw [if_pos h_12, if_neg h_28, if_neg h_40, if_neg h_81, if_neg h_107, if_neg h_123, if_neg h_138]
                exact E _ _ _ _ _ _ dX6_readsHammock_146 (Nat.le_refl _) (Nat.le_refl _) rfl ⟨by rw [hX], by rw [hX]⟩
      · skip
        refine r_aload_n (pc := 43) C dX6_readsHammock_43 rfl rfl ?_
        refine r_iconst (pc := 44) (v := 3) C dX6_readsHammock_44 (by decide) ?_
        refine r_callV0 (pc := 45) (As := [.int 3]) (st := []) (θ' := wM (up2 M 20 (k1 3))) C (c_X6_fails M 3) xm_X6_fails xk_X6_111 dX6_readsHammock_45 rfl rfl rfl rfl (Nat.le_of_ble_eq_true rfl) ⟨Nat.le_of_ble_eq_true rfl, Nat.le_of_ble_eq_true rfl⟩ ⟨rfl, rfl⟩ ⟨Nat.le_of_ble_eq_true rfl, Nat.le_of_ble_eq_true rfl⟩ rfl (Eq.trans (b := 14) rfl rfl) ?_
        show g 0 0 (wM (up2 M 20 (k1 3))) 48 [some (.ref 0), some (.int (nI t)), some (.int (sortM (M 19 0)))] [.int (bB false)]
        show g 0 0 (wM (up2 M 20 (k1 3))) 48 [some (.ref 0), some (.int (nI t)), some (.int (sortM (M 19 0)))] [.int (bB false)]
        have hX : rhM M ln p t = (bB false, (up2 M 20 (k1 3))) := by
          unfold rhM
          rw [if_pos h_12, if_neg h_28, if_pos h_40]
        exact E _ _ _ _ _ _ dX6_readsHammock_48 (Nat.le_refl _) (Nat.le_refl _) (bB_nar _) ⟨by rw [hX], by rw [hX]⟩
    · skip
      refine r_aload_n (pc := 31) C dX6_readsHammock_31 rfl rfl ?_
      refine r_iconst (pc := 32) (v := 1) C dX6_readsHammock_32 (by decide) ?_
      refine r_callV0 (pc := 33) (As := [.int 1]) (st := []) (θ' := wM (up2 M 20 (k1 1))) C (c_X6_fails M 1) xm_X6_fails xk_X6_111 dX6_readsHammock_33 rfl rfl rfl rfl (Nat.le_of_ble_eq_true rfl) ⟨Nat.le_of_ble_eq_true rfl, Nat.le_of_ble_eq_true rfl⟩ ⟨rfl, rfl⟩ ⟨Nat.le_of_ble_eq_true rfl, Nat.le_of_ble_eq_true rfl⟩ rfl (Eq.trans (b := 14) rfl rfl) ?_
      show g 0 0 (wM (up2 M 20 (k1 1))) 36 [some (.ref 0), some (.int (nI t)), some (.int (sortM (M 19 0)))] [.int (bB false)]
      show g 0 0 (wM (up2 M 20 (k1 1))) 36 [some (.ref 0), some (.int (nI t)), some (.int (sortM (M 19 0)))] [.int (bB false)]
      have hX : rhM M ln p t = (bB false, (up2 M 20 (k1 1))) := by
        unfold rhM
        rw [if_pos h_12, if_pos h_28]
      exact E _ _ _ _ _ _ dX6_readsHammock_36 (Nat.le_refl _) (Nat.le_refl _) (bB_nar _) ⟨by rw [hX], by rw [hX]⟩
noncomputable def rhT : (Nat → Nat → Int32) → Nat → Nat → Nat → Int32 × (Nat → Nat → Int32) := Classical.choose (seal_ex rhM)
theorem rhT_eq : rhT = rhM := Classical.choose_spec (seal_ex rhM)
theorem c_X6_readsHammock (M : Nat → Nat → Int32) (ln p : Nat) (hl : M 12 0 = nI ln) (hln : ln ≤ 120) (hp : M 16 0 = nI p) (hpl : p ≤ ln) (t : Nat) (ht : M 5 0 = nI t) (ht6 : t ≤ 6) : MetA yX6_readsHammock (.code yX6_readsHammock cX6_readsHammock 3 (some .boolean) :: TT) rmX6_readsHammock [.ref 0] (wM M) (fun vr wr => vr = some (.int (rhT M ln p t).1) ∧ wr = wM (rhT M ln p t).2) 0 0 := by
  rw [rhT_eq]
  exact c_X6_readsHammock0 M ln p hl hln hp hpl t ht ht6
noncomputable def rhP (b : Nat → Int32) (ln p : Nat) : Nat := nbP b ln (nbP b ln (nbP b ln (nbP b ln p)))
theorem rhP_le {b : Nat → Int32} {ln p : Nat} (h : p ≤ ln) : rhP b ln p ≤ ln := nbP_le (nbP_le (nbP_le (nbP_le h)))
/-- the world behind a hammock that is read well -/
noncomputable def rhW (M : Nat → Nat → Int32) (ln p t : Nat) : Nat → Nat → Int32 := nbW (nbW (nbW (nbW (up2 M 5 (upd (upd (M 5) (4 + t) (sortM (M 19 0))) 0 ((nI t) + 1))) ln p (10 + t)) ln (nbP (M 11) ln p) (16 + t)) ln (nbP (M 11) ln (nbP (M 11) ln p)) (22 + t)) ln (nbP (M 11) ln (nbP (M 11) ln (nbP (M 11) ln p))) (28 + t)
