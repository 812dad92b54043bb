def rmX6_row : Room := { frames := 2, cells := 0, slots := 0, locals := 45 }
def rmX6_set : Room := { frames := 2, cells := 0, slots := 0, locals := 45 }
def rmX6_copy : Room := { frames := 2, cells := 0, slots := 0, locals := 45 }
def rmX6_drop : Room := { frames := 2, cells := 0, slots := 0, locals := 45 }
def rmX6_feed : Room := { frames := 1, cells := 0, slots := 0, locals := 25 }
def rmX6_image : Room := { frames := 2, cells := 0, slots := 0, locals := 45 }
def rmX6_restore : Room := { frames := 2, cells := 0, slots := 0, locals := 45 }
def rmX6_as : Room := { frames := 2, cells := 0, slots := 0, locals := 46 }
def rmX6_trace : Room := { frames := 1, cells := 0, slots := 0, locals := 25 }
def rmX6_count : Room := { frames := 1, cells := 0, slots := 0, locals := 21 }
def rmX6_minutes : Room := { frames := 3, cells := 0, slots := 0, locals := 69 }
/-! ===== the reference's methods ===== -/
theorem inr_ex {v : Int32} {m : Nat} {M : Int32} (hM : M.toInt = m) (h : inI v 0 M = true) : ∃ j, j ≤ m ∧ v = nI j := by
  unfold inI at h
  simp only [Bool.and_eq_true, decide_eq_true_eq] at h
  exact nI_of2 hM (Int32.not_lt.mpr h.1) h.2
theorem inz_ex {h x : Int32} {z : Nat} (hz : x = nI z) (hz6 : z ≤ 1000) (hb : inI h 0 (x - 1) = true) : ∃ j, j < z ∧ h = nI j := by
  subst hz
  unfold inI at hb
  simp only [Bool.and_eq_true, decide_eq_true_eq] at hb
  obtain ⟨j, hj, rfl⟩ := nI_of (Int32.not_lt.mpr hb.1)
  refine ⟨j, ?_, rfl⟩
  rcases Nat.eq_zero_or_pos z with rfl | h0
  · exact absurd (Int32.le_trans hb.1 hb.2) (by decide)
  · have h1 : nI z - 1 = nI (z - 1) := pk_sub (b := 1) h0
    rw [h1] at hb
    have := (nI_leI hj (by omega)).mp hb.2
    omega
def okSz (M : Nat → Nat → Int32) : Prop := ∀ j, j < 8 → M 1 j = -1 ∨ ∃ s, s ≤ 40 ∧ M 1 j = nI s
theorem sz_ex {x : Int32} (h : x = -1 ∨ ∃ s, s ≤ 40 ∧ x = nI s) (h0 : 0 ≤ x) : ∃ s, s ≤ 40 ∧ x = nI s := by
  rcases h with rfl | h
  · exact absurd h0 (by decide)
  · exact h
def zrS (f : Nat → Int32) (r k : Nat) : Nat → Int32 := fun q => if 40 * r ≤ q ∧ q < 40 * r + k then 0 else f q
theorem zr_0 (f : Nat → Int32) (r : Nat) : zrS f r 0 = f := by
  funext q
  unfold zrS
  rw [if_neg (by omega)]
theorem zr_step (f : Nat → Int32) (r k : Nat) : upd (zrS f r k) (40 * r + k) 0 = zrS f r (k + 1) := by
  funext q
  unfold upd zrS
  by_cases h : q = 40 * r + k
  · rw [if_pos h, if_pos (by omega)]
  · rw [if_neg h]
    by_cases h2 : 40 * r ≤ q ∧ q < 40 * r + k
    · rw [if_pos h2, if_pos (by omega)]
    · rw [if_neg h2, if_neg (by omega)]
set_option maxHeartbeats 4000000 in
set_option maxRecDepth 100000 in
theorem lp_X6_row (M : Nat → Nat → Int32) (r : Nat) (hr : r ≤ 7) (l v : Int32) {g : Nat → Nat → List xE → Nat → List (Option Value) → List Value → Prop} (C : Sem cX6_row RX6 "row" 5 rmX6_row g) (kk : g 0 0 (wM (up2 M 2 (zrS (M 2) r 40))) 81 [some (.ref 0), some (.int (nI r)), some (.int l), some (.int v), none] []) : ∀ (n : Nat) (k : Nat), k + n = 40 → g 0 0 (wM (up2 M 2 (zrS (M 2) r k))) 55 [some (.ref 0), some (.int (nI r)), some (.int l), some (.int v), some (.int (nI k))] [] := by
  intro n
  induction n with
  | zero =>
    intro k hv
    have hvN : k = 40 := by omega
    rw [hvN]
    refine r_iload (pc := 55) C dX6_row_55 rfl ?_
    refine r_bipush (pc := 57) (v := 40) C dX6_row_57 (by decide) ?_
    refine r_icmp_ge (pc := 59) (tgt := 81) C dX6_row_59 (by decide) (fun _ => ?_) (fun h => absurd (nI_le (a := 40) (by omega) (by omega)) h)
    show g 0 0 (wM (up2 M 2 (zrS (M 2) r 40))) 81 [some (.ref 0), some (.int (nI r)), some (.int l), some (.int v), some (.int (nI 40))] []
    refine r_drop (lv' := [some (.ref 0), some (.int (nI r)), some (.int l), some (.int v), none]) C ⟨rfl, rfl, rfl, rfl, trivial⟩ ?_
    show g 0 0 (wM (up2 M 2 (zrS (M 2) r 40))) 81 [some (.ref 0), some (.int (nI r)), some (.int l), some (.int v), none] []
    exact kk
  | succ n ih =>
    intro k hv
    refine r_iload (pc := 55) C dX6_row_55 rfl ?_
    refine r_bipush (pc := 57) (v := 40) C dX6_row_57 (by decide) ?_
    refine r_icmp_ge (pc := 59) (tgt := 81) C dX6_row_59 (by decide) (fun h => absurd h (nI_ge (b := 40) (by omega) (by omega))) (fun _ => ?_)
    refine r_aload_n (pc := 62) C dX6_row_62 rfl rfl ?_
    refine r_getfield (pc := 63) (v := .ref 3) C xf_X6_16 dX6_row_63 rfl rfl ?_
    refine r_bipush (pc := 66) (v := 40) C dX6_row_66 (by decide) ?_
    refine r_iload_n (pc := 68) C dX6_row_68 rfl rfl ?_
    refine r_imul (pc := 69) C dX6_row_69 ?_
    refine r_iload (pc := 70) C dX6_row_70 rfl ?_
    refine r_iadd (pc := 72) C dX6_row_72 ?_
    refine r_iconst (pc := 73) (v := 0) C dX6_row_73 (by decide) ?_
    refine r_iastore (pc := 74) (θ' := wM (up2 M 2 (upd (zrS (M 2) r k) (40 * r + k) 0))) C (40 * r + k) dX6_row_74 rfl (nI_sum (m := (40 * r)) (n := k) (nI_prod (m := 40) (n := r) rfl rfl) rfl) (by first | assumption | omega) rfl ?_
    refine r_iinc (pc := 75) (v := nI (k + 1)) (lv' := [some (.ref 0), some (.int (nI r)), some (.int l), some (.int v), some (.int (nI (k + 1)))]) C dX6_row_75 rfl (nI_1 k) trivial rfl ?_
    refine r_goto (pc := 78) (tgt := 55) C dX6_row_78 (by decide) ?_
    show g 0 0 (wM (up2 M 2 (upd (zrS (M 2) r k) (40 * r + k) 0))) 55 [some (.ref 0), some (.int (nI r)), some (.int l), some (.int v), some (.int (nI (k + 1)))] []
    rw [zr_step]
    exact ih (k + 1) (by omega)
theorem lq_X6_row (M : Nat → Nat → Int32) (r : Nat) (hr : r ≤ 7) (l v : Int32) {g : Nat → Nat → List xE → Nat → List (Option Value) → List Value → Prop} (C : Sem cX6_row RX6 "row" 5 rmX6_row g) (kk : g 0 0 (wM (up2 M 2 (zrS (M 2) r 40))) 81 [some (.ref 0), some (.int (nI r)), some (.int l), some (.int v), none] []) : g 0 0 (wM M) 55 [some (.ref 0), some (.int (nI r)), some (.int l), some (.int v), some (.int 0)] [] := by
  have h0 := lp_X6_row M r hr l v C kk 40 0 (by omega)
  rw [zr_0] at h0
  exact h0
def rowM (M : Nat → Nat → Int32) (r l n : Int32) : Int32 × (Nat → Nat → Int32) := (if (inI r 0 7) = true then (if (inI l 0 2) = true then (if n ≤ 40 then (if 0 ≤ n then (n, (up2 (up2 (up2 (up2 M 0 (upd (M 0) (ix r) l)) 1 (upd (M 1) (ix r) n)) 2 (zrS ((up2 (up2 M 0 (upd (M 0) (ix r) l)) 1 (upd (M 1) (ix r) n)) 2) (ix r) 40)) 3 (k1 0))) else ((-1000010) - 4, (up2 M 3 (k1 4)))) else ((-1000001), M)) else ((-1000001), M)) else ((-1000001), M))
set_option maxHeartbeats 4000000 in
set_option maxRecDepth 100000 in
theorem c_X6_row (M : Nat → Nat → Int32) (r l n : Int32) : MetA yX6_row (.code yX6_row cX6_row 5 (some .int) :: TT) rmX6_row [.ref 0, .int r, .int l, .int n] (wM M) (fun vr wr => vr = some (.int (rowM M r l n).1) ∧ wr = wM (rowM M r l n).2) 0 0 := by
  refine MetA.of_i (by decide) (fun _ => Nat.le_of_ble_eq_true rfl) (Nat.le_of_ble_eq_true rfl) (fun g C E => ?_)
  replace C : Sem cX6_row RX6 "row" 5 rmX6_row g := C
  show g 0 0 (wM M) 0 [some (.ref 0), some (.int r), some (.int l), some (.int n), none] []
  refine r_iload_n (pc := 0) C dX6_row_0 rfl rfl ?_
  refine r_callS0 (pc := 1) (As := [.int r]) (st := []) C (c_X6_isRow r) xm_X6_isRow xk_X6_61 dX6_row_1 (fun _ => rfl) (fun _ => rfl) rfl rfl (Nat.le_of_ble_eq_true rfl) ⟨Nat.le_of_ble_eq_true rfl, Nat.le_of_ble_eq_true rfl⟩ ⟨rfl, rfl⟩ ⟨Nat.le_of_ble_eq_true rfl, Nat.le_of_ble_eq_true rfl⟩ rfl ?_
  show g 0 0 (wM M) 4 [some (.ref 0), some (.int r), some (.int l), some (.int n), none] [.int (bB (inI r 0 7))]
  refine r_if_eq (pc := 4) (tgt := 25) C dX6_row_4 (by decide) (fun h_4 => ?_) (fun h_4 => ?_)
  · replace h_4 := bB_f h_4
    refine r_ldc (pc := 25) (v := (-1000001)) C dX6_row_25 tw_668 ?_
    show g 0 0 (wM M) 27 [some (.ref 0), some (.int r), some (.int l), some (.int n), none] [.int (-1000001)]
    have hX : rowM M r l n = ((-1000001), M) := by
      unfold rowM
      rw [if_neg (nbt h_4)]
    exact E _ _ _ _ _ _ dX6_row_27 (Nat.le_refl _) (Nat.le_refl _) rfl ⟨by rw [hX], by rw [hX]⟩
  · replace h_4 := bB_t h_4
    obtain ⟨jr, hjr, rfl⟩ := inr_ex (m := 7) rfl h_4
    refine r_iload_n (pc := 7) C dX6_row_7 rfl rfl ?_
    refine r_i2l (pc := 8) (v := l.toInt64) C dX6_row_8 rfl ?_
    refine r_lconst (pc := 9) (v := 0) C dX6_row_9 (by decide) ?_
    refine r_ldc2 (pc := 10) (v := 2) C dX6_row_10 tw_667 ?_
    refine r_callS0 (pc := 13) (As := [.long l.toInt64, .long 0, .long 2]) (st := []) C (c_X6_inI l 0 2 rfl (by decide) (by decide)) xm_X6_in xk_X6_57 dX6_row_13 (fun _ => rfl) (fun _ => rfl) rfl rfl (Nat.le_of_ble_eq_true rfl) ⟨Nat.le_of_ble_eq_true rfl, Nat.le_of_ble_eq_true rfl⟩ ⟨rfl, rfl⟩ ⟨Nat.le_of_ble_eq_true rfl, Nat.le_of_ble_eq_true rfl⟩ rfl ?_
    show g 0 0 (wM M) 16 [some (.ref 0), some (.int (nI jr)), some (.int l), some (.int n), none] [.int (bB (inI l 0 2))]
    refine r_if_eq (pc := 16) (tgt := 25) C dX6_row_16 (by decide) (fun h_16 => ?_) (fun h_16 => ?_)
    · replace h_16 := bB_f h_16
      refine r_ldc (pc := 25) (v := (-1000001)) C dX6_row_25 tw_668 ?_
      show g 0 0 (wM M) 27 [some (.ref 0), some (.int (nI jr)), some (.int l), some (.int n), none] [.int (-1000001)]
      have hX : rowM M (nI jr) l n = ((-1000001), M) := by
        unfold rowM
        (try rw [ix_nI (show jr < 2 ^ 31 by omega)])
        rw [if_pos h_4, if_neg (nbt h_16)]
      exact E _ _ _ _ _ _ dX6_row_27 (Nat.le_refl _) (Nat.le_refl _) rfl ⟨by rw [hX], by rw [hX]⟩
    · replace h_16 := bB_t h_16
      refine r_iload_n (pc := 19) C dX6_row_19 rfl rfl ?_
      refine r_bipush (pc := 20) (v := 40) C dX6_row_20 (by decide) ?_
      refine r_icmp_le (pc := 22) (tgt := 28) C dX6_row_22 (by decide) (fun h_22 => ?_) (fun h_22 => ?_)
      · skip
        refine r_iload_n (pc := 28) C dX6_row_28 rfl rfl ?_
        refine r_if_ge (pc := 29) (tgt := 38) C dX6_row_29 (by decide) (fun h_29 => ?_) (fun h_29 => ?_)
        · skip
          refine r_aload_n (pc := 38) C dX6_row_38 rfl rfl ?_
          refine r_getfield (pc := 39) (v := .ref 1) C xf_X6_7 dX6_row_39 rfl rfl ?_
          refine r_iload_n (pc := 42) C dX6_row_42 rfl rfl ?_
          refine r_iload_n (pc := 43) C dX6_row_43 rfl rfl ?_
          refine r_iastore (pc := 44) (θ' := wM (up2 M 0 (upd (M 0) jr l))) C jr dX6_row_44 rfl rfl (by first | assumption | omega) rfl ?_
          refine r_aload_n (pc := 45) C dX6_row_45 rfl rfl ?_
          refine r_getfield (pc := 46) (v := .ref 2) C xf_X6_13 dX6_row_46 rfl rfl ?_
          refine r_iload_n (pc := 49) C dX6_row_49 rfl rfl ?_
          refine r_iload_n (pc := 50) C dX6_row_50 rfl rfl ?_
          refine r_iastore (pc := 51) (θ' := wM (up2 (up2 M 0 (upd (M 0) jr l)) 1 (upd (M 1) jr n))) C jr dX6_row_51 rfl rfl (by first | assumption | omega) rfl ?_
          refine r_iconst (pc := 52) (v := 0) C dX6_row_52 (by decide) ?_
          refine r_istore (pc := 53) (lv' := [some (.ref 0), some (.int (nI jr)), some (.int l), some (.int n), some (.int 0)]) C dX6_row_53 (Nat.le_of_ble_eq_true rfl) trivial rfl ?_
          show g 0 0 (wM (up2 (up2 M 0 (upd (M 0) jr l)) 1 (upd (M 1) jr n))) 55 [some (.ref 0), some (.int (nI jr)), some (.int l), some (.int n), some (.int 0)] []
          refine lq_X6_row (up2 (up2 M 0 (upd (M 0) jr l)) 1 (upd (M 1) jr n)) jr hjr l n C ?_
          show g 0 0 (wM (up2 (up2 (up2 M 0 (upd (M 0) jr l)) 1 (upd (M 1) jr n)) 2 (zrS ((up2 (up2 M 0 (upd (M 0) jr l)) 1 (upd (M 1) jr n)) 2) jr 40))) 81 [some (.ref 0), some (.int (nI jr)), some (.int l), some (.int n), none] []
          refine r_aload_n (pc := 81) C dX6_row_81 rfl rfl ?_
          refine r_iload_n (pc := 82) C dX6_row_82 rfl rfl ?_
          refine r_callV0 (pc := 83) (As := [.int n]) (st := []) (θ' := wM (up2 (up2 (up2 (up2 M 0 (upd (M 0) jr l)) 1 (upd (M 1) jr n)) 2 (zrS ((up2 (up2 M 0 (upd (M 0) jr l)) 1 (upd (M 1) jr n)) 2) jr 40)) 3 (k1 0))) C (c_X6_well (up2 (up2 (up2 M 0 (upd (M 0) jr l)) 1 (upd (M 1) jr n)) 2 (zrS ((up2 (up2 M 0 (upd (M 0) jr l)) 1 (upd (M 1) jr n)) 2) jr 40)) n) xm_X6_well xk_X6_72 dX6_row_83 rfl rfl rfl rfl (Nat.le_of_ble_eq_true rfl) ⟨Nat.le_of_ble_eq_true rfl, Nat.le_of_ble_eq_true rfl⟩ ⟨rfl, rfl⟩ ⟨Nat.le_of_ble_eq_true rfl, Nat.le_of_ble_eq_true rfl⟩ rfl (Eq.trans (b := 14) rfl rfl) ?_
          show g 0 0 (wM (up2 (up2 (up2 (up2 M 0 (upd (M 0) jr l)) 1 (upd (M 1) jr n)) 2 (zrS ((up2 (up2 M 0 (upd (M 0) jr l)) 1 (upd (M 1) jr n)) 2) jr 40)) 3 (k1 0))) 86 [some (.ref 0), some (.int (nI jr)), some (.int l), some (.int n), none] [.int n]
          show g 0 0 (wM (up2 (up2 (up2 (up2 M 0 (upd (M 0) jr l)) 1 (upd (M 1) jr n)) 2 (zrS ((up2 (up2 M 0 (upd (M 0) jr l)) 1 (upd (M 1) jr n)) 2) jr 40)) 3 (k1 0))) 86 [some (.ref 0), some (.int (nI jr)), some (.int l), some (.int n), none] [.int n]
          have hX : rowM M (nI jr) l n = (n, (up2 (up2 (up2 (up2 M 0 (upd (M 0) jr l)) 1 (upd (M 1) jr n)) 2 (zrS ((up2 (up2 M 0 (upd (M 0) jr l)) 1 (upd (M 1) jr n)) 2) jr 40)) 3 (k1 0))) := by
            unfold rowM
            (try rw [ix_nI (show jr < 2 ^ 31 by omega)])
            rw [if_pos h_4, if_pos h_16, if_pos h_22, if_pos h_29]
          exact E _ _ _ _ _ _ dX6_row_86 (Nat.le_refl _) (Nat.le_refl _) rfl ⟨by rw [hX], by rw [hX]⟩
        · skip
          refine r_aload_n (pc := 32) C dX6_row_32 rfl rfl ?_
          refine r_iconst (pc := 33) (v := 4) C dX6_row_33 (by decide) ?_
          refine r_callV0 (pc := 34) (As := [.int 4]) (st := []) (θ' := wM (up2 M 3 (k1 4))) C (c_X6_found M 4) xm_X6_found xk_X6_68 dX6_row_34 rfl rfl rfl rfl (Nat.le_of_ble_eq_true rfl) ⟨Nat.le_of_ble_eq_true rfl, Nat.le_of_ble_eq_true rfl⟩ ⟨rfl, rfl⟩ ⟨Nat.le_of_ble_eq_true rfl, Nat.le_of_ble_eq_true rfl⟩ rfl (Eq.trans (b := 14) rfl rfl) ?_
          show g 0 0 (wM (up2 M 3 (k1 4))) 37 [some (.ref 0), some (.int (nI jr)), some (.int l), some (.int n), none] [.int ((-1000010) - 4)]
          show g 0 0 (wM (up2 M 3 (k1 4))) 37 [some (.ref 0), some (.int (nI jr)), some (.int l), some (.int n), none] [.int ((-1000010) - 4)]
          have hX : rowM M (nI jr) l n = ((-1000010) - 4, (up2 M 3 (k1 4))) := by
            unfold rowM
            (try rw [ix_nI (show jr < 2 ^ 31 by omega)])
            rw [if_pos h_4, if_pos h_16, if_pos h_22, if_neg h_29]
          exact E _ _ _ _ _ _ dX6_row_37 (Nat.le_refl _) (Nat.le_refl _) rfl ⟨by rw [hX], by rw [hX]⟩
      · skip
        refine r_ldc (pc := 25) (v := (-1000001)) C dX6_row_25 tw_668 ?_
        show g 0 0 (wM M) 27 [some (.ref 0), some (.int (nI jr)), some (.int l), some (.int n), none] [.int (-1000001)]
        have hX : rowM M (nI jr) l n = ((-1000001), M) := by
          unfold rowM
          (try rw [ix_nI (show jr < 2 ^ 31 by omega)])
          rw [if_pos h_4, if_pos h_16, if_neg h_22]
        exact E _ _ _ _ _ _ dX6_row_27 (Nat.le_refl _) (Nat.le_refl _) rfl ⟨by rw [hX], by rw [hX]⟩
def setM_ (M : Nat → Nat → Int32) (r i v : Int32) : Int32 × (Nat → Nat → Int32) := (if (inI r 0 7) = true then (if 0 ≤ (M 1 (ix r)) then (if (inI i 0 ((M 1 (ix r)) - 1)) = true then (if (M 0 (ix r)) = 0 then (v.toInt8.toInt32, (up2 (up2 M 2 (upd (M 2) (40 * (ix r) + (ix i)) v.toInt8.toInt32)) 3 (k1 0))) else (if (M 0 (ix r)) = 1 then (v.toInt16.toInt32, (up2 (up2 M 2 (upd (M 2) (40 * (ix r) + (ix i)) v.toInt16.toInt32)) 3 (k1 0))) else (v, (up2 (up2 M 2 (upd (M 2) (40 * (ix r) + (ix i)) v)) 3 (k1 0))))) else ((-1000010) - 2, (up2 M 3 (k1 2)))) else ((-1000010) - 1, (up2 M 3 (k1 1)))) else ((-1000001), M))
set_option maxHeartbeats 4000000 in
set_option maxRecDepth 100000 in
theorem c_X6_set (M : Nat → Nat → Int32) (r i v : Int32) (hM1 : okSz M) : MetA yX6_set (.code yX6_set cX6_set 4 (some .int) :: TT) rmX6_set [.ref 0, .int r, .int i, .int v] (wM M) (fun vr wr => vr = some (.int (setM_ M r i v).1) ∧ wr = wM (setM_ M r i v).2) 0 0 := by
  refine MetA.of_i (by decide) (fun _ => Nat.le_of_ble_eq_true rfl) (Nat.le_of_ble_eq_true rfl) (fun g C E => ?_)
  replace C : Sem cX6_set RX6 "set" 4 rmX6_set g := C
  show g 0 0 (wM M) 0 [some (.ref 0), some (.int r), some (.int i), some (.int v)] []
  refine r_iload_n (pc := 0) C dX6_set_0 rfl rfl ?_
  refine r_callS0 (pc := 1) (As := [.int r]) (st := []) C (c_X6_isRow r) xm_X6_isRow xk_X6_61 dX6_set_1 (fun _ => rfl) (fun _ => rfl) rfl rfl (Nat.le_of_ble_eq_true rfl) ⟨Nat.le_of_ble_eq_true rfl, Nat.le_of_ble_eq_true rfl⟩ ⟨rfl, rfl⟩ ⟨Nat.le_of_ble_eq_true rfl, Nat.le_of_ble_eq_true rfl⟩ rfl ?_
  show g 0 0 (wM M) 4 [some (.ref 0), some (.int r), some (.int i), some (.int v)] [.int (bB (inI r 0 7))]
  refine r_if_ne (pc := 4) (tgt := 10) C dX6_set_4 (by decide) (fun h_4 => ?_) (fun h_4 => ?_)
  · replace h_4 := bB_t h_4
    obtain ⟨jr, hjr, rfl⟩ := inr_ex (m := 7) rfl h_4
    refine r_aload_n (pc := 10) C dX6_set_10 rfl rfl ?_
    refine r_getfield (pc := 11) (v := .ref 2) C xf_X6_13 dX6_set_11 rfl rfl ?_
    refine r_iload_n (pc := 14) C dX6_set_14 rfl rfl ?_
    refine r_iaload (pc := 15) (v := M 1 jr) C jr dX6_set_15 rfl rfl (by first | assumption | omega) rfl ?_
    refine r_if_ge (pc := 16) (tgt := 25) C dX6_set_16 (by decide) (fun h_16 => ?_) (fun h_16 => ?_)
    · skip
      refine r_iload_n (pc := 25) C dX6_set_25 rfl rfl ?_
      refine r_i2l (pc := 26) (v := i.toInt64) C dX6_set_26 rfl ?_
      refine r_lconst (pc := 27) (v := 0) C dX6_set_27 (by decide) ?_
      refine r_aload_n (pc := 28) C dX6_set_28 rfl rfl ?_
      refine r_getfield (pc := 29) (v := .ref 2) C xf_X6_13 dX6_set_29 rfl rfl ?_
      refine r_iload_n (pc := 32) C dX6_set_32 rfl rfl ?_
      refine r_iaload (pc := 33) (v := M 1 jr) C jr dX6_set_33 rfl rfl (by first | assumption | omega) rfl ?_
      refine r_iconst (pc := 34) (v := 1) C dX6_set_34 (by decide) ?_
      refine r_isub (pc := 35) C dX6_set_35 ?_
      refine r_i2l (pc := 36) (v := ((M 1 jr) - 1).toInt64) C dX6_set_36 rfl ?_
      refine r_callS0 (pc := 37) (As := [.long i.toInt64, .long 0, .long (((M 1 jr) - 1).toInt64)]) (st := []) C (c_X6_inI i 0 ((M 1 jr) - 1) rfl (by decide) rfl) xm_X6_in xk_X6_57 dX6_set_37 (fun _ => rfl) (fun _ => rfl) rfl rfl (Nat.le_of_ble_eq_true rfl) ⟨Nat.le_of_ble_eq_true rfl, Nat.le_of_ble_eq_true rfl⟩ ⟨rfl, rfl⟩ ⟨Nat.le_of_ble_eq_true rfl, Nat.le_of_ble_eq_true rfl⟩ rfl ?_
      show g 0 0 (wM M) 40 [some (.ref 0), some (.int (nI jr)), some (.int i), some (.int v)] [.int (bB (inI i 0 ((M 1 jr) - 1)))]
      refine r_if_ne (pc := 40) (tgt := 49) C dX6_set_40 (by decide) (fun h_40 => ?_) (fun h_40 => ?_)
      · replace h_40 := bB_t h_40
        obtain ⟨sz, hsz40, hsz⟩ := sz_ex (hM1 jr (by omega)) h_16
        obtain ⟨ji, hji, rfl⟩ := inz_ex hsz (by omega) h_40
        have hji40 : ji < 40 := by omega
        refine r_aload_n (pc := 49) C dX6_set_49 rfl rfl ?_
        refine r_getfield (pc := 50) (v := .ref 3) C xf_X6_16 dX6_set_50 rfl rfl ?_
        refine r_bipush (pc := 53) (v := 40) C dX6_set_53 (by decide) ?_
        refine r_iload_n (pc := 55) C dX6_set_55 rfl rfl ?_
        refine r_imul (pc := 56) C dX6_set_56 ?_
        refine r_iload_n (pc := 57) C dX6_set_57 rfl rfl ?_
        refine r_iadd (pc := 58) C dX6_set_58 ?_
        refine r_aload_n (pc := 59) C dX6_set_59 rfl rfl ?_
        refine r_getfield (pc := 60) (v := .ref 1) C xf_X6_7 dX6_set_60 rfl rfl ?_
        refine r_iload_n (pc := 63) C dX6_set_63 rfl rfl ?_
        refine r_iaload (pc := 64) (v := M 0 jr) C jr dX6_set_64 rfl rfl (by first | assumption | omega) rfl ?_
        refine r_if_ne (pc := 65) (tgt := 73) C dX6_set_65 (by decide) (fun h_65 => ?_) (fun h_65 => ?_)
        · skip
          refine r_aload_n (pc := 73) C dX6_set_73 rfl rfl ?_
          refine r_getfield (pc := 74) (v := .ref 1) C xf_X6_7 dX6_set_74 rfl rfl ?_
          refine r_iload_n (pc := 77) C dX6_set_77 rfl rfl ?_
          refine r_iaload (pc := 78) (v := M 0 jr) C jr dX6_set_78 rfl rfl (by first | assumption | omega) rfl ?_
          refine r_iconst (pc := 79) (v := 1) C dX6_set_79 (by decide) ?_
          refine r_icmp_ne (pc := 80) (tgt := 88) C dX6_set_80 (by decide) (fun h_80 => ?_) (fun h_80 => ?_)
          · skip
            refine r_iload_n (pc := 88) C dX6_set_88 rfl rfl ?_
            refine r_iastore (pc := 89) (θ' := wM (up2 M 2 (upd (M 2) (40 * jr + ji) v))) C (40 * jr + ji) dX6_set_89 rfl (nI_sum (m := (40 * jr)) (n := ji) (nI_prod (m := 40) (n := jr) rfl rfl) rfl) (by first | assumption | omega) rfl ?_
            refine r_aload_n (pc := 90) C dX6_set_90 rfl rfl ?_
            refine r_aload_n (pc := 91) C dX6_set_91 rfl rfl ?_
            refine r_getfield (pc := 92) (v := .ref 3) C xf_X6_16 dX6_set_92 rfl rfl ?_
            refine r_bipush (pc := 95) (v := 40) C dX6_set_95 (by decide) ?_
            refine r_iload_n (pc := 97) C dX6_set_97 rfl rfl ?_
            refine r_imul (pc := 98) C dX6_set_98 ?_
            refine r_iload_n (pc := 99) C dX6_set_99 rfl rfl ?_
            refine r_iadd (pc := 100) C dX6_set_100 ?_
            refine r_iaload (pc := 101) (v := v) C (40 * jr + ji) dX6_set_101 rfl (nI_sum (m := (40 * jr)) (n := ji) (nI_prod (m := 40) (n := jr) rfl rfl) rfl) (by first | assumption | omega) pk_us ?_
            refine r_callV0 (pc := 102) (As := [.int v]) (st := []) (θ' := wM (up2 (up2 M 2 (upd (M 2) (40 * jr + ji) v)) 3 (k1 0))) C (c_X6_well (up2 M 2 (upd (M 2) (40 * jr + ji) v)) v) xm_X6_well xk_X6_72 dX6_set_102 rfl rfl rfl rfl (Nat.le_of_ble_eq_true rfl) ⟨Nat.le_of_ble_eq_true rfl, Nat.le_of_ble_eq_true rfl⟩ ⟨rfl, rfl⟩ ⟨Nat.le_of_ble_eq_true rfl, Nat.le_of_ble_eq_true rfl⟩ rfl (Eq.trans (b := 14) rfl rfl) ?_
            show g 0 0 (wM (up2 (up2 M 2 (upd (M 2) (40 * jr + ji) v)) 3 (k1 0))) 105 [some (.ref 0), some (.int (nI jr)), some (.int (nI ji)), some (.int v)] [.int v]
            show g 0 0 (wM (up2 (up2 M 2 (upd (M 2) (40 * jr + ji) v)) 3 (k1 0))) 105 [some (.ref 0), some (.int (nI jr)), some (.int (nI ji)), some (.int v)] [.int v]
            have hX : setM_ M (nI jr) (nI ji) v = (v, (up2 (up2 M 2 (upd (M 2) (40 * jr + ji) v)) 3 (k1 0))) := by
              unfold setM_
              (try rw [ix_nI (show jr < 2 ^ 31 by omega)])
              (try rw [ix_nI (show ji < 2 ^ 31 by omega)])
              rw [if_pos h_4, if_pos h_16, if_pos h_40, if_neg h_65, if_neg h_80]
            exact E _ _ _ _ _ _ dX6_set_105 (Nat.le_refl _) (Nat.le_refl _) rfl ⟨by rw [hX], by rw [hX]⟩
          · skip
            refine r_iload_n (pc := 83) C dX6_set_83 rfl rfl ?_
            refine r_i2s (pc := 84) (v := v.toInt16.toInt32) C dX6_set_84 rfl ?_
            refine r_goto (pc := 85) (tgt := 89) C dX6_set_85 (by decide) ?_
            refine r_iastore (pc := 89) (θ' := wM (up2 M 2 (upd (M 2) (40 * jr + ji) v.toInt16.toInt32))) C (40 * jr + ji) dX6_set_89 rfl (nI_sum (m := (40 * jr)) (n := ji) (nI_prod (m := 40) (n := jr) rfl rfl) rfl) (by first | assumption | omega) rfl ?_
            refine r_aload_n (pc := 90) C dX6_set_90 rfl rfl ?_
            refine r_aload_n (pc := 91) C dX6_set_91 rfl rfl ?_
            refine r_getfield (pc := 92) (v := .ref 3) C xf_X6_16 dX6_set_92 rfl rfl ?_
            refine r_bipush (pc := 95) (v := 40) C dX6_set_95 (by decide) ?_
            refine r_iload_n (pc := 97) C dX6_set_97 rfl rfl ?_
            refine r_imul (pc := 98) C dX6_set_98 ?_
            refine r_iload_n (pc := 99) C dX6_set_99 rfl rfl ?_
            refine r_iadd (pc := 100) C dX6_set_100 ?_
            refine r_iaload (pc := 101) (v := v.toInt16.toInt32) C (40 * jr + ji) dX6_set_101 rfl (nI_sum (m := (40 * jr)) (n := ji) (nI_prod (m := 40) (n := jr) rfl rfl) rfl) (by first | assumption | omega) pk_us ?_
            refine r_callV0 (pc := 102) (As := [.int v.toInt16.toInt32]) (st := []) (θ' := wM (up2 (up2 M 2 (upd (M 2) (40 * jr + ji) v.toInt16.toInt32)) 3 (k1 0))) C (c_X6_well (up2 M 2 (upd (M 2) (40 * jr + ji) v.toInt16.toInt32)) v.toInt16.toInt32) xm_X6_well xk_X6_72 dX6_set_102 rfl rfl rfl rfl (Nat.le_of_ble_eq_true rfl) ⟨Nat.le_of_ble_eq_true rfl, Nat.le_of_ble_eq_true rfl⟩ ⟨rfl, rfl⟩ ⟨Nat.le_of_ble_eq_true rfl, Nat.le_of_ble_eq_true rfl⟩ rfl (Eq.trans (b := 14) rfl rfl) ?_
            show g 0 0 (wM (up2 (up2 M 2 (upd (M 2) (40 * jr + ji) v.toInt16.toInt32)) 3 (k1 0))) 105 [some (.ref 0), some (.int (nI jr)), some (.int (nI ji)), some (.int v)] [.int v.toInt16.toInt32]
            show g 0 0 (wM (up2 (up2 M 2 (upd (M 2) (40 * jr + ji) v.toInt16.toInt32)) 3 (k1 0))) 105 [some (.ref 0), some (.int (nI jr)), some (.int (nI ji)), some (.int v)] [.int v.toInt16.toInt32]
            have hX : setM_ M (nI jr) (nI ji) v = (v.toInt16.toInt32, (up2 (up2 M 2 (upd (M 2) (40 * jr + ji) v.toInt16.toInt32)) 3 (k1 0))) := by
              unfold setM_
              (try rw [ix_nI (show jr < 2 ^ 31 by omega)])
              (try rw [ix_nI (show ji < 2 ^ 31 by omega)])
              rw [if_pos h_4, if_pos h_16, if_pos h_40, if_neg h_65, if_pos h_80]
            exact E _ _ _ _ _ _ dX6_set_105 (Nat.le_refl _) (Nat.le_refl _) rfl ⟨by rw [hX], by rw [hX]⟩
        · skip
          refine r_iload_n (pc := 68) C dX6_set_68 rfl rfl ?_
          refine r_i2b (pc := 69) (v := v.toInt8.toInt32) C dX6_set_69 rfl ?_
          refine r_goto (pc := 70) (tgt := 89) C dX6_set_70 (by decide) ?_
          refine r_iastore (pc := 89) (θ' := wM (up2 M 2 (upd (M 2) (40 * jr + ji) v.toInt8.toInt32))) C (40 * jr + ji) dX6_set_89 rfl (nI_sum (m := (40 * jr)) (n := ji) (nI_prod (m := 40) (n := jr) rfl rfl) rfl) (by first | assumption | omega) rfl ?_
          refine r_aload_n (pc := 90) C dX6_set_90 rfl rfl ?_
          refine r_aload_n (pc := 91) C dX6_set_91 rfl rfl ?_
          refine r_getfield (pc := 92) (v := .ref 3) C xf_X6_16 dX6_set_92 rfl rfl ?_
          refine r_bipush (pc := 95) (v := 40) C dX6_set_95 (by decide) ?_
          refine r_iload_n (pc := 97) C dX6_set_97 rfl rfl ?_
          refine r_imul (pc := 98) C dX6_set_98 ?_
          refine r_iload_n (pc := 99) C dX6_set_99 rfl rfl ?_
          refine r_iadd (pc := 100) C dX6_set_100 ?_
          refine r_iaload (pc := 101) (v := v.toInt8.toInt32) C (40 * jr + ji) dX6_set_101 rfl (nI_sum (m := (40 * jr)) (n := ji) (nI_prod (m := 40) (n := jr) rfl rfl) rfl) (by first | assumption | omega) pk_us ?_
          refine r_callV0 (pc := 102) (As := [.int v.toInt8.toInt32]) (st := []) (θ' := wM (up2 (up2 M 2 (upd (M 2) (40 * jr + ji) v.toInt8.toInt32)) 3 (k1 0))) C (c_X6_well (up2 M 2 (upd (M 2) (40 * jr + ji) v.toInt8.toInt32)) v.toInt8.toInt32) xm_X6_well xk_X6_72 dX6_set_102 rfl rfl rfl rfl (Nat.le_of_ble_eq_true rfl) ⟨Nat.le_of_ble_eq_true rfl, Nat.le_of_ble_eq_true rfl⟩ ⟨rfl, rfl⟩ ⟨Nat.le_of_ble_eq_true rfl, Nat.le_of_ble_eq_true rfl⟩ rfl (Eq.trans (b := 14) rfl rfl) ?_
          show g 0 0 (wM (up2 (up2 M 2 (upd (M 2) (40 * jr + ji) v.toInt8.toInt32)) 3 (k1 0))) 105 [some (.ref 0), some (.int (nI jr)), some (.int (nI ji)), some (.int v)] [.int v.toInt8.toInt32]
          show g 0 0 (wM (up2 (up2 M 2 (upd (M 2) (40 * jr + ji) v.toInt8.toInt32)) 3 (k1 0))) 105 [some (.ref 0), some (.int (nI jr)), some (.int (nI ji)), some (.int v)] [.int v.toInt8.toInt32]
          have hX : setM_ M (nI jr) (nI ji) v = (v.toInt8.toInt32, (up2 (up2 M 2 (upd (M 2) (40 * jr + ji) v.toInt8.toInt32)) 3 (k1 0))) := by
            unfold setM_
            (try rw [ix_nI (show jr < 2 ^ 31 by omega)])
            (try rw [ix_nI (show ji < 2 ^ 31 by omega)])
            rw [if_pos h_4, if_pos h_16, if_pos h_40, if_pos h_65]
          exact E _ _ _ _ _ _ dX6_set_105 (Nat.le_refl _) (Nat.le_refl _) rfl ⟨by rw [hX], by rw [hX]⟩
      · replace h_40 := bB_f h_40
        refine r_aload_n (pc := 43) C dX6_set_43 rfl rfl ?_
        refine r_iconst (pc := 44) (v := 2) C dX6_set_44 (by decide) ?_
        refine r_callV0 (pc := 45) (As := [.int 2]) (st := []) (θ' := wM (up2 M 3 (k1 2))) C (c_X6_found M 2) xm_X6_found xk_X6_68 dX6_set_45 rfl rfl rfl rfl (Nat.le_of_ble_eq_true rfl) ⟨Nat.le_of_ble_eq_true rfl, Nat.le_of_ble_eq_true rfl⟩ ⟨rfl, rfl⟩ ⟨Nat.le_of_ble_eq_true rfl, Nat.le_of_ble_eq_true rfl⟩ rfl (Eq.trans (b := 14) rfl rfl) ?_
        show g 0 0 (wM (up2 M 3 (k1 2))) 48 [some (.ref 0), some (.int (nI jr)), some (.int i), some (.int v)] [.int ((-1000010) - 2)]
        show g 0 0 (wM (up2 M 3 (k1 2))) 48 [some (.ref 0), some (.int (nI jr)), some (.int i), some (.int v)] [.int ((-1000010) - 2)]
        have hX : setM_ M (nI jr) i v = ((-1000010) - 2, (up2 M 3 (k1 2))) := by
          unfold setM_
          (try rw [ix_nI (show jr < 2 ^ 31 by omega)])
          rw [if_pos h_4, if_pos h_16, if_neg (nbt h_40)]
        exact E _ _ _ _ _ _ dX6_set_48 (Nat.le_refl _) (Nat.le_refl _) rfl ⟨by rw [hX], by rw [hX]⟩
    · skip
      refine r_aload_n (pc := 19) C dX6_set_19 rfl rfl ?_
      refine r_iconst (pc := 20) (v := 1) C dX6_set_20 (by decide) ?_
      refine r_callV0 (pc := 21) (As := [.int 1]) (st := []) (θ' := wM (up2 M 3 (k1 1))) C (c_X6_found M 1) xm_X6_found xk_X6_68 dX6_set_21 rfl rfl rfl rfl (Nat.le_of_ble_eq_true rfl) ⟨Nat.le_of_ble_eq_true rfl, Nat.le_of_ble_eq_true rfl⟩ ⟨rfl, rfl⟩ ⟨Nat.le_of_ble_eq_true rfl, Nat.le_of_ble_eq_true rfl⟩ rfl (Eq.trans (b := 14) rfl rfl) ?_
      show g 0 0 (wM (up2 M 3 (k1 1))) 24 [some (.ref 0), some (.int (nI jr)), some (.int i), some (.int v)] [.int ((-1000010) - 1)]
      show g 0 0 (wM (up2 M 3 (k1 1))) 24 [some (.ref 0), some (.int (nI jr)), some (.int i), some (.int v)] [.int ((-1000010) - 1)]
      have hX : setM_ M (nI jr) i v = ((-1000010) - 1, (up2 M 3 (k1 1))) := by
        unfold setM_
        (try rw [ix_nI (show jr < 2 ^ 31 by omega)])
        rw [if_pos h_4, if_neg h_16]
      exact E _ _ _ _ _ _ dX6_set_24 (Nat.le_refl _) (Nat.le_refl _) rfl ⟨by rw [hX], by rw [hX]⟩
  · replace h_4 := bB_f h_4
    refine r_ldc (pc := 7) (v := (-1000001)) C dX6_set_7 tw_668 ?_
    show g 0 0 (wM M) 9 [some (.ref 0), some (.int r), some (.int i), some (.int v)] [.int (-1000001)]
    have hX : setM_ M r i v = ((-1000001), M) := by
      unfold setM_
      rw [if_neg (nbt h_4)]
    exact E _ _ _ _ _ _ dX6_set_9 (Nat.le_refl _) (Nat.le_refl _) rfl ⟨by rw [hX], by rw [hX]⟩
def dropM (M : Nat → Nat → Int32) (r : Int32) : Int32 × (Nat → Nat → Int32) := (if (inI r 0 7) = true then (if 0 ≤ (M 1 (ix r)) then ((M 1 (ix r)), (up2 (up2 M 1 (upd (M 1) (ix r) (-1))) 3 (k1 0))) else ((-1000010) - 1, (up2 M 3 (k1 1)))) else ((-1000001), M))
set_option maxHeartbeats 4000000 in
set_option maxRecDepth 100000 in
theorem c_X6_drop (M : Nat → Nat → Int32) (r : Int32) : MetA yX6_drop (.code yX6_drop cX6_drop 3 (some .int) :: TT) rmX6_drop [.ref 0, .int r] (wM M) (fun vr wr => vr = some (.int (dropM M r).1) ∧ wr = wM (dropM M r).2) 0 0 := by
  refine MetA.of_i (by decide) (fun _ => Nat.le_of_ble_eq_true rfl) (Nat.le_of_ble_eq_true rfl) (fun g C E => ?_)
  replace C : Sem cX6_drop RX6 "drop" 3 rmX6_drop g := C
  show g 0 0 (wM M) 0 [some (.ref 0), some (.int r), none] []
  refine r_iload_n (pc := 0) C dX6_drop_0 rfl rfl ?_
  refine r_callS0 (pc := 1) (As := [.int r]) (st := []) C (c_X6_isRow r) xm_X6_isRow xk_X6_61 dX6_drop_1 (fun _ => rfl) (fun _ => rfl) rfl rfl (Nat.le_of_ble_eq_true rfl) ⟨Nat.le_of_ble_eq_true rfl, Nat.le_of_ble_eq_true rfl⟩ ⟨rfl, rfl⟩ ⟨Nat.le_of_ble_eq_true rfl, Nat.le_of_ble_eq_true rfl⟩ rfl ?_
  show g 0 0 (wM M) 4 [some (.ref 0), some (.int r), none] [.int (bB (inI r 0 7))]
  refine r_if_ne (pc := 4) (tgt := 10) C dX6_drop_4 (by decide) (fun h_4 => ?_) (fun h_4 => ?_)
  · replace h_4 := bB_t h_4
    obtain ⟨jr, hjr, rfl⟩ := inr_ex (m := 7) rfl h_4
    refine r_aload_n (pc := 10) C dX6_drop_10 rfl rfl ?_
    refine r_getfield (pc := 11) (v := .ref 2) C xf_X6_13 dX6_drop_11 rfl rfl ?_
    refine r_iload_n (pc := 14) C dX6_drop_14 rfl rfl ?_
    refine r_iaload (pc := 15) (v := M 1 jr) C jr dX6_drop_15 rfl rfl (by first | assumption | omega) rfl ?_
    refine r_if_ge (pc := 16) (tgt := 25) C dX6_drop_16 (by decide) (fun h_16 => ?_) (fun h_16 => ?_)
    · skip
      refine r_aload_n (pc := 25) C dX6_drop_25 rfl rfl ?_
      refine r_getfield (pc := 26) (v := .ref 2) C xf_X6_13 dX6_drop_26 rfl rfl ?_
      refine r_iload_n (pc := 29) C dX6_drop_29 rfl rfl ?_
      refine r_iaload (pc := 30) (v := M 1 jr) C jr dX6_drop_30 rfl rfl (by first | assumption | omega) rfl ?_
      refine r_istore_n (pc := 31) (lv' := [some (.ref 0), some (.int (nI jr)), some (.int (M 1 jr))]) C dX6_drop_31 rfl (Nat.le_of_ble_eq_true rfl) trivial rfl ?_
      refine r_aload_n (pc := 32) C dX6_drop_32 rfl rfl ?_
      refine r_getfield (pc := 33) (v := .ref 2) C xf_X6_13 dX6_drop_33 rfl rfl ?_
      refine r_iload_n (pc := 36) C dX6_drop_36 rfl rfl ?_
      refine r_iconst (pc := 37) (v := (-1)) C dX6_drop_37 (by decide) ?_
      refine r_iastore (pc := 38) (θ' := wM (up2 M 1 (upd (M 1) jr (-1)))) C jr dX6_drop_38 rfl rfl (by first | assumption | omega) rfl ?_
      refine r_aload_n (pc := 39) C dX6_drop_39 rfl rfl ?_
      refine r_iload_n (pc := 40) C dX6_drop_40 rfl rfl ?_
      refine r_callV0 (pc := 41) (As := [.int (M 1 jr)]) (st := []) (θ' := wM (up2 (up2 M 1 (upd (M 1) jr (-1))) 3 (k1 0))) C (c_X6_well (up2 M 1 (upd (M 1) jr (-1))) (M 1 jr)) xm_X6_well xk_X6_72 dX6_drop_41 rfl rfl rfl rfl (Nat.le_of_ble_eq_true rfl) ⟨Nat.le_of_ble_eq_true rfl, Nat.le_of_ble_eq_true rfl⟩ ⟨rfl, rfl⟩ ⟨Nat.le_of_ble_eq_true rfl, Nat.le_of_ble_eq_true rfl⟩ rfl (Eq.trans (b := 14) rfl rfl) ?_
      show g 0 0 (wM (up2 (up2 M 1 (upd (M 1) jr (-1))) 3 (k1 0))) 44 [some (.ref 0), some (.int (nI jr)), some (.int (M 1 jr))] [.int (M 1 jr)]
      show g 0 0 (wM (up2 (up2 M 1 (upd (M 1) jr (-1))) 3 (k1 0))) 44 [some (.ref 0), some (.int (nI jr)), some (.int (M 1 jr))] [.int (M 1 jr)]
      have hX : dropM M (nI jr) = ((M 1 jr), (up2 (up2 M 1 (upd (M 1) jr (-1))) 3 (k1 0))) := by
        unfold dropM
        (try rw [ix_nI (show jr < 2 ^ 31 by omega)])
        rw [if_pos h_4, if_pos h_16]
      exact E _ _ _ _ _ _ dX6_drop_44 (Nat.le_refl _) (Nat.le_refl _) rfl ⟨by rw [hX], by rw [hX]⟩
    · skip
      refine r_aload_n (pc := 19) C dX6_drop_19 rfl rfl ?_
      refine r_iconst (pc := 20) (v := 1) C dX6_drop_20 (by decide) ?_
      refine r_callV0 (pc := 21) (As := [.int 1]) (st := []) (θ' := wM (up2 M 3 (k1 1))) C (c_X6_found M 1) xm_X6_found xk_X6_68 dX6_drop_21 rfl rfl rfl rfl (Nat.le_of_ble_eq_true rfl) ⟨Nat.le_of_ble_eq_true rfl, Nat.le_of_ble_eq_true rfl⟩ ⟨rfl, rfl⟩ ⟨Nat.le_of_ble_eq_true rfl, Nat.le_of_ble_eq_true rfl⟩ rfl (Eq.trans (b := 14) rfl rfl) ?_
      show g 0 0 (wM (up2 M 3 (k1 1))) 24 [some (.ref 0), some (.int (nI jr)), none] [.int ((-1000010) - 1)]
      show g 0 0 (wM (up2 M 3 (k1 1))) 24 [some (.ref 0), some (.int (nI jr)), none] [.int ((-1000010) - 1)]
      have hX : dropM M (nI jr) = ((-1000010) - 1, (up2 M 3 (k1 1))) := by
        unfold dropM
        (try rw [ix_nI (show jr < 2 ^ 31 by omega)])
        rw [if_pos h_4, if_neg h_16]
      exact E _ _ _ _ _ _ dX6_drop_24 (Nat.le_refl _) (Nat.le_refl _) rfl ⟨by rw [hX], by rw [hX]⟩
  · replace h_4 := bB_f h_4
    refine r_ldc (pc := 7) (v := (-1000001)) C dX6_drop_7 tw_668 ?_
    show g 0 0 (wM M) 9 [some (.ref 0), some (.int r), none] [.int (-1000001)]
    have hX : dropM M r = ((-1000001), M) := by
      unfold dropM
      rw [if_neg (nbt h_4)]
    exact E _ _ _ _ _ _ dX6_drop_9 (Nat.le_refl _) (Nat.le_refl _) rfl ⟨by rw [hX], by rw [hX]⟩
def feedM (M : Nat → Nat → Int32) (ln : Nat) (x : Int32) : Int32 × (Nat → Nat → Int32) := (if (inI x 0 255) = true then (if (M 12 0) = 120 then ((-1000003), M) else (nI (ln + 1), (up2 (up2 M 11 (upd (M 11) ln x)) 12 (k1 (nI (ln + 1)))))) else ((-1000001), M))
set_option maxHeartbeats 4000000 in
set_option maxRecDepth 100000 in
theorem c_X6_feed (M : Nat → Nat → Int32) (ln : Nat) (x : Int32) (hl : M 12 0 = nI ln) (hl120 : ln ≤ 120) : MetA yX6_feed (.code yX6_feed cX6_feed 2 (some .int) :: TT) rmX6_feed [.ref 0, .int x] (wM M) (fun vr wr => vr = some (.int (feedM M ln x).1) ∧ wr = wM (feedM M ln x).2) 0 0 := by
  refine MetA.of_i (by decide) (fun _ => Nat.le_of_ble_eq_true rfl) (Nat.le_of_ble_eq_true rfl) (fun g C E => ?_)
  replace C : Sem cX6_feed RX6 "feed" 2 rmX6_feed g := C
  show g 0 0 (wM M) 0 [some (.ref 0), some (.int x)] []
  refine r_iload_n (pc := 0) C dX6_feed_0 rfl rfl ?_
  refine r_i2l (pc := 1) (v := x.toInt64) C dX6_feed_1 rfl ?_
  refine r_lconst (pc := 2) (v := 0) C dX6_feed_2 (by decide) ?_
  refine r_ldc2 (pc := 3) (v := 255) C dX6_feed_3 tw_694 ?_
  refine r_callS0 (pc := 6) (As := [.long x.toInt64, .long 0, .long 255]) (st := []) C (c_X6_inI x 0 255 rfl (by decide) (by decide)) xm_X6_in xk_X6_57 dX6_feed_6 (fun _ => rfl) (fun _ => rfl) rfl rfl (Nat.le_of_ble_eq_true rfl) ⟨Nat.le_of_ble_eq_true rfl, Nat.le_of_ble_eq_true rfl⟩ ⟨rfl, rfl⟩ ⟨Nat.le_of_ble_eq_true rfl, Nat.le_of_ble_eq_true rfl⟩ rfl ?_
  show g 0 0 (wM M) 9 [some (.ref 0), some (.int x)] [.int (bB (inI x 0 255))]
  refine r_if_ne (pc := 9) (tgt := 15) C dX6_feed_9 (by decide) (fun h_9 => ?_) (fun h_9 => ?_)
  · replace h_9 := bB_t h_9
    refine r_aload_n (pc := 15) C dX6_feed_15 rfl rfl ?_
    refine r_getfield (pc := 16) (v := .int (M 12 0)) C xf_X6_77 dX6_feed_16 rfl rfl ?_
    refine r_bipush (pc := 19) (v := 120) C dX6_feed_19 (by decide) ?_
    refine r_icmp_ne (pc := 21) (tgt := 27) C dX6_feed_21 (by decide) (fun h_21 => ?_) (fun h_21 => ?_)
    · skip
      have hln0 : ln ≠ 120 := fun e => h_21 (by rw [hl, e]; rfl)
      refine r_aload_n (pc := 27) C dX6_feed_27 rfl rfl ?_
      refine r_getfield (pc := 28) (v := .ref 10) C xf_X6_38 dX6_feed_28 rfl rfl ?_
      refine r_aload_n (pc := 31) C dX6_feed_31 rfl rfl ?_
      refine r_getfield (pc := 32) (v := .int (M 12 0)) C xf_X6_77 dX6_feed_32 rfl rfl ?_
      refine r_iload_n (pc := 35) C dX6_feed_35 rfl rfl ?_
      refine r_iastore (pc := 36) (θ' := wM (up2 M 11 (upd (M 11) ln x))) C ln dX6_feed_36 rfl hl (by first | assumption | omega) rfl ?_
      refine r_aload_n (pc := 37) C dX6_feed_37 rfl rfl ?_
      refine r_dup (pc := 38) C dX6_feed_38 rfl ?_
      refine r_getfield (pc := 39) (v := .int (M 12 0)) C xf_X6_77 dX6_feed_39 rfl rfl ?_
      refine r_iconst (pc := 42) (v := 1) C dX6_feed_42 (by decide) ?_
      refine r_iadd (pc := 43) C dX6_feed_43 ?_
      show g 0 0 (wM (up2 M 11 (upd (M 11) ln x))) 44 [some (.ref 0), some (.int x)] [.int ((M 12 0) + 1), .ref 0]
      rw [show ((M 12 0) + 1 : Int32) = nI (ln + 1) from (nI_sum (m := ln) (n := 1) hl rfl)]
      refine r_putfield (pc := 44) (θ' := wM (up2 (up2 M 11 (upd (M 11) ln x)) 12 (k1 (nI (ln + 1))))) C xf_X6_77 xt_X6_12 dX6_feed_44 rfl (Nat.le_of_ble_eq_true rfl) (fun _ => ⟨rfl, rfl⟩) rfl ?_
      refine r_aload_n (pc := 47) C dX6_feed_47 rfl rfl ?_
      refine r_getfield (pc := 48) (v := .int (nI (ln + 1))) C xf_X6_77 dX6_feed_48 rfl rfl ?_
      show g 0 0 (wM (up2 (up2 M 11 (upd (M 11) ln x)) 12 (k1 (nI (ln + 1))))) 51 [some (.ref 0), some (.int x)] [.int (nI (ln + 1))]
      have hX : feedM M ln x = (nI (ln + 1), (up2 (up2 M 11 (upd (M 11) ln x)) 12 (k1 (nI (ln + 1))))) := by
        unfold feedM
        rw [if_pos h_9, if_neg h_21]
      exact E _ _ _ _ _ _ dX6_feed_51 (Nat.le_refl _) (Nat.le_refl _) rfl ⟨by rw [hX], by rw [hX]⟩
    · skip
      refine r_ldc (pc := 24) (v := (-1000003)) C dX6_feed_24 tw_695 ?_
      show g 0 0 (wM M) 26 [some (.ref 0), some (.int x)] [.int (-1000003)]
      have hX : feedM M ln x = ((-1000003), M) := by
        unfold feedM
        rw [if_pos h_9, if_pos h_21]
      exact E _ _ _ _ _ _ dX6_feed_26 (Nat.le_refl _) (Nat.le_refl _) rfl ⟨by rw [hX], by rw [hX]⟩
  · replace h_9 := bB_f h_9
    refine r_ldc (pc := 12) (v := (-1000001)) C dX6_feed_12 tw_668 ?_
    show g 0 0 (wM M) 14 [some (.ref 0), some (.int x)] [.int (-1000001)]
    have hX : feedM M ln x = ((-1000001), M) := by
      unfold feedM
      rw [if_neg (nbt h_9)]
    exact E _ _ _ _ _ _ dX6_feed_14 (Nat.le_refl _) (Nat.le_refl _) rfl ⟨by rw [hX], by rw [hX]⟩
def hamM (M : Nat → Nat → Int32) (h w : Int32) : Int32 × (Nat → Nat → Int32) := (if (inI h 0 (M 4 0 - 1)) = true then (if w = 0 then (M 4 (10 + (6 * 0) + (ix h)), M) else (if w = 1 then (M 4 (10 + (6 * 1) + (ix h)), M) else (if w = 2 then (M 4 (10 + (6 * 2) + (ix h)), M) else (if w = 3 then (M 4 (10 + (6 * 3) + (ix h)), M) else (if w = 4 then (if (hasS (M 4 34) h) = true then (1, M) else (0, M)) else (if w = 5 then (dipS (vw (M 4)) (ix h) (M 4 35), M) else (if w = 6 then (plS (vw (M 4)) (ix h) (M 4 35), M) else ((-1000001), M)))))))) else ((-1000001), M))
set_option maxHeartbeats 4000000 in
set_option maxRecDepth 100000 in
theorem c_X6_hammock (M : Nat → Nat → Int32) (h w : Int32) (z : Nat) (hM : okM M z) : MetA yX6_hammock (.code yX6_hammock cX6_hammock 3 (some .int) :: TT) rmX6_hammock [.ref 0, .int h, .int w] (wM M) (fun vr wr => vr = some (.int (hamM M h w).1) ∧ wr = wM (hamM M h w).2) 0 0 := by
  refine MetA.of_i (by decide) (fun _ => Nat.le_of_ble_eq_true rfl) (Nat.le_of_ble_eq_true rfl) (fun g C E => ?_)
  replace C : Sem cX6_hammock RX6 "hammock" 3 rmX6_hammock g := C
  show g 0 0 (wM M) 0 [some (.ref 0), some (.int h), some (.int w)] []
  refine r_aload_n (pc := 0) C dX6_hammock_0 rfl rfl ?_
  refine r_iload_n (pc := 1) C dX6_hammock_1 rfl rfl ?_
  refine r_callV0 (pc := 2) (As := [.int h]) (st := []) (θ' := wM M) C (c_X6_isHammock M h) xm_X6_isHammock xk_X6_181 dX6_hammock_2 rfl rfl rfl rfl (Nat.le_of_ble_eq_true rfl) ⟨Nat.le_of_ble_eq_true rfl, Nat.le_of_ble_eq_true rfl⟩ ⟨rfl, rfl⟩ ⟨Nat.le_of_ble_eq_true rfl, Nat.le_of_ble_eq_true rfl⟩ rfl (Eq.trans (b := 14) rfl rfl) ?_
  show g 0 0 (wM M) 5 [some (.ref 0), some (.int h), some (.int w)] [.int (bB (inI h 0 (M 4 0 - 1)))]
  refine r_if_ne (pc := 5) (tgt := 11) C dX6_hammock_5 (by decide) (fun h_5 => ?_) (fun h_5 => ?_)
  · replace h_5 := bB_t h_5
    obtain ⟨jh, hjh, rfl⟩ := in_ex hM.1 hM.2.1 h_5
    have hjh6 : jh < 6 := by have := hM.2.1; omega
    have hz6 := hM.2.1
    refine r_iload_n (pc := 11) C dX6_hammock_11 rfl rfl ?_
    by_cases q_12_0 : w = 0
    · refine r_tableIn (pc := 12) (off := 44) (tgt := 56) C dX6_hammock_12 (by rw [q_12_0]; decide) (by rw [q_12_0]; decide) (by rw [q_12_0]; rfl) (by decide) ?_
      subst q_12_0
      refine r_aload_n (pc := 56) C dX6_hammock_56 rfl rfl ?_
      refine r_getfield (pc := 57) (v := .ref 4) C xf_X6_19 dX6_hammock_57 rfl rfl ?_
      refine r_bipush (pc := 60) (v := 10) C dX6_hammock_60 (by decide) ?_
      refine r_bipush (pc := 62) (v := 6) C dX6_hammock_62 (by decide) ?_
      refine r_iload_n (pc := 64) C dX6_hammock_64 rfl rfl ?_
      refine r_imul (pc := 65) C dX6_hammock_65 ?_
      refine r_iadd (pc := 66) C dX6_hammock_66 ?_
      refine r_iload_n (pc := 67) C dX6_hammock_67 rfl rfl ?_
      refine r_iadd (pc := 68) C dX6_hammock_68 ?_
      refine r_iaload (pc := 69) (v := M 4 (10 + (6 * 0) + jh)) C (10 + (6 * 0) + jh) dX6_hammock_69 rfl (nI_sum (m := (10 + (6 * 0))) (n := jh) (nI_sum (m := 10) (n := (6 * 0)) rfl (nI_prod (m := 6) (n := 0) rfl rfl)) rfl) (by first | assumption | omega) rfl ?_
      show g 0 0 (wM M) 70 [some (.ref 0), some (.int (nI jh)), some (.int 0)] [.int (M 4 (10 + (6 * 0) + jh))]
      have hX : hamM M (nI jh) 0 = (M 4 (10 + (6 * 0) + jh), M) := by
        unfold hamM
        (try rw [ix_nI (show jh < 2 ^ 31 by omega)])
        rw [if_pos h_5, if_pos (rfl : (0 : Int32) = 0)]
      exact E _ _ _ _ _ _ dX6_hammock_70 (Nat.le_refl _) (Nat.le_refl _) rfl ⟨by rw [hX], by rw [hX]⟩
    by_cases q_12_1 : w = 1
    · refine r_tableIn (pc := 12) (off := 44) (tgt := 56) C dX6_hammock_12 (by rw [q_12_1]; decide) (by rw [q_12_1]; decide) (by rw [q_12_1]; rfl) (by decide) ?_
      subst q_12_1
      refine r_aload_n (pc := 56) C dX6_hammock_56 rfl rfl ?_
      refine r_getfield (pc := 57) (v := .ref 4) C xf_X6_19 dX6_hammock_57 rfl rfl ?_
      refine r_bipush (pc := 60) (v := 10) C dX6_hammock_60 (by decide) ?_
      refine r_bipush (pc := 62) (v := 6) C dX6_hammock_62 (by decide) ?_
      refine r_iload_n (pc := 64) C dX6_hammock_64 rfl rfl ?_
      refine r_imul (pc := 65) C dX6_hammock_65 ?_
      refine r_iadd (pc := 66) C dX6_hammock_66 ?_
      refine r_iload_n (pc := 67) C dX6_hammock_67 rfl rfl ?_
      refine r_iadd (pc := 68) C dX6_hammock_68 ?_
      refine r_iaload (pc := 69) (v := M 4 (10 + (6 * 1) + jh)) C (10 + (6 * 1) + jh) dX6_hammock_69 rfl (nI_sum (m := (10 + (6 * 1))) (n := jh) (nI_sum (m := 10) (n := (6 * 1)) rfl (nI_prod (m := 6) (n := 1) rfl rfl)) rfl) (by first | assumption | omega) rfl ?_
      show g 0 0 (wM M) 70 [some (.ref 0), some (.int (nI jh)), some (.int 1)] [.int (M 4 (10 + (6 * 1) + jh))]
      have hX : hamM M (nI jh) 1 = (M 4 (10 + (6 * 1) + jh), M) := by
        unfold hamM
        (try rw [ix_nI (show jh < 2 ^ 31 by omega)])
        rw [if_pos h_5, if_neg q_12_0, if_pos (rfl : (1 : Int32) = 1)]
      exact E _ _ _ _ _ _ dX6_hammock_70 (Nat.le_refl _) (Nat.le_refl _) rfl ⟨by rw [hX], by rw [hX]⟩
    by_cases q_12_2 : w = 2
    · refine r_tableIn (pc := 12) (off := 44) (tgt := 56) C dX6_hammock_12 (by rw [q_12_2]; decide) (by rw [q_12_2]; decide) (by rw [q_12_2]; rfl) (by decide) ?_
      subst q_12_2
      refine r_aload_n (pc := 56) C dX6_hammock_56 rfl rfl ?_
      refine r_getfield (pc := 57) (v := .ref 4) C xf_X6_19 dX6_hammock_57 rfl rfl ?_
      refine r_bipush (pc := 60) (v := 10) C dX6_hammock_60 (by decide) ?_
      refine r_bipush (pc := 62) (v := 6) C dX6_hammock_62 (by decide) ?_
      refine r_iload_n (pc := 64) C dX6_hammock_64 rfl rfl ?_
      refine r_imul (pc := 65) C dX6_hammock_65 ?_
      refine r_iadd (pc := 66) C dX6_hammock_66 ?_
      refine r_iload_n (pc := 67) C dX6_hammock_67 rfl rfl ?_
      refine r_iadd (pc := 68) C dX6_hammock_68 ?_
      refine r_iaload (pc := 69) (v := M 4 (10 + (6 * 2) + jh)) C (10 + (6 * 2) + jh) dX6_hammock_69 rfl (nI_sum (m := (10 + (6 * 2))) (n := jh) (nI_sum (m := 10) (n := (6 * 2)) rfl (nI_prod (m := 6) (n := 2) rfl rfl)) rfl) (by first | assumption | omega) rfl ?_
      show g 0 0 (wM M) 70 [some (.ref 0), some (.int (nI jh)), some (.int 2)] [.int (M 4 (10 + (6 * 2) + jh))]
      have hX : hamM M (nI jh) 2 = (M 4 (10 + (6 * 2) + jh), M) := by
        unfold hamM
        (try rw [ix_nI (show jh < 2 ^ 31 by omega)])
        rw [if_pos h_5, if_neg q_12_0, if_neg q_12_1, if_pos (rfl : (2 : Int32) = 2)]
      exact E _ _ _ _ _ _ dX6_hammock_70 (Nat.le_refl _) (Nat.le_refl _) rfl ⟨by rw [hX], by rw [hX]⟩
    by_cases q_12_3 : w = 3
    · refine r_tableIn (pc := 12) (off := 44) (tgt := 56) C dX6_hammock_12 (by rw [q_12_3]; decide) (by rw [q_12_3]; decide) (by rw [q_12_3]; rfl) (by decide) ?_
      subst q_12_3
      refine r_aload_n (pc := 56) C dX6_hammock_56 rfl rfl ?_
      refine r_getfield (pc := 57) (v := .ref 4) C xf_X6_19 dX6_hammock_57 rfl rfl ?_
      refine r_bipush (pc := 60) (v := 10) C dX6_hammock_60 (by decide) ?_
      refine r_bipush (pc := 62) (v := 6) C dX6_hammock_62 (by decide) ?_
      refine r_iload_n (pc := 64) C dX6_hammock_64 rfl rfl ?_
      refine r_imul (pc := 65) C dX6_hammock_65 ?_
      refine r_iadd (pc := 66) C dX6_hammock_66 ?_
      refine r_iload_n (pc := 67) C dX6_hammock_67 rfl rfl ?_
      refine r_iadd (pc := 68) C dX6_hammock_68 ?_
      refine r_iaload (pc := 69) (v := M 4 (10 + (6 * 3) + jh)) C (10 + (6 * 3) + jh) dX6_hammock_69 rfl (nI_sum (m := (10 + (6 * 3))) (n := jh) (nI_sum (m := 10) (n := (6 * 3)) rfl (nI_prod (m := 6) (n := 3) rfl rfl)) rfl) (by first | assumption | omega) rfl ?_
      show g 0 0 (wM M) 70 [some (.ref 0), some (.int (nI jh)), some (.int 3)] [.int (M 4 (10 + (6 * 3) + jh))]
      have hX : hamM M (nI jh) 3 = (M 4 (10 + (6 * 3) + jh), M) := by
        unfold hamM
        (try rw [ix_nI (show jh < 2 ^ 31 by omega)])
        rw [if_pos h_5, if_neg q_12_0, if_neg q_12_1, if_neg q_12_2, if_pos (rfl : (3 : Int32) = 3)]
      exact E _ _ _ _ _ _ dX6_hammock_70 (Nat.le_refl _) (Nat.le_refl _) rfl ⟨by rw [hX], by rw [hX]⟩
    by_cases q_12_4 : w = 4
    · refine r_tableIn (pc := 12) (off := 59) (tgt := 71) C dX6_hammock_12 (by rw [q_12_4]; decide) (by rw [q_12_4]; decide) (by rw [q_12_4]; rfl) (by decide) ?_
      refine r_aload_n (pc := 71) C dX6_hammock_71 rfl rfl ?_
      refine r_getfield (pc := 72) (v := .ref 4) C xf_X6_19 dX6_hammock_72 rfl rfl ?_
      refine r_bipush (pc := 75) (v := 34) C dX6_hammock_75 (by decide) ?_
      refine r_iaload (pc := 77) (v := M 4 34) C 34 dX6_hammock_77 rfl (by decide) (by decide) rfl ?_
      refine r_iload_n (pc := 78) C dX6_hammock_78 rfl rfl ?_
      refine r_callS0 (pc := 79) (As := [.int (M 4 34), .int (nI jh)]) (st := []) C (c_X6_has (M 4 34) (nI jh)) xm_X6_has xk_X6_143 dX6_hammock_79 (fun _ => rfl) (fun _ => rfl) rfl rfl (Nat.le_of_ble_eq_true rfl) ⟨Nat.le_of_ble_eq_true rfl, Nat.le_of_ble_eq_true rfl⟩ ⟨rfl, rfl⟩ ⟨Nat.le_of_ble_eq_true rfl, Nat.le_of_ble_eq_true rfl⟩ rfl ?_
      show g 0 0 (wM M) 82 [some (.ref 0), some (.int (nI jh)), some (.int w)] [.int (bB (hasS (M 4 34) (nI jh)))]
      refine r_if_eq (pc := 82) (tgt := 89) C dX6_hammock_82 (by decide) (fun h_82 => ?_) (fun h_82 => ?_)
      · replace h_82 := bB_f h_82
        refine r_iconst (pc := 89) (v := 0) C dX6_hammock_89 (by decide) ?_
        show g 0 0 (wM M) 90 [some (.ref 0), some (.int (nI jh)), some (.int w)] [.int 0]
        have hX : hamM M (nI jh) w = (0, M) := by
          unfold hamM
          (try rw [ix_nI (show jh < 2 ^ 31 by omega)])
          rw [if_pos h_5, if_neg q_12_0, if_neg q_12_1, if_neg q_12_2, if_neg q_12_3, if_pos q_12_4, if_neg (nbt h_82)]
        exact E _ _ _ _ _ _ dX6_hammock_90 (Nat.le_refl _) (Nat.le_refl _) rfl ⟨by rw [hX], by rw [hX]⟩
      · replace h_82 := bB_t h_82
        refine r_iconst (pc := 85) (v := 1) C dX6_hammock_85 (by decide) ?_
        refine r_goto (pc := 86) (tgt := 90) C dX6_hammock_86 (by decide) ?_
        show g 0 0 (wM M) 90 [some (.ref 0), some (.int (nI jh)), some (.int w)] [.int 1]
        have hX : hamM M (nI jh) w = (1, M) := by
          unfold hamM
          (try rw [ix_nI (show jh < 2 ^ 31 by omega)])
          rw [if_pos h_5, if_neg q_12_0, if_neg q_12_1, if_neg q_12_2, if_neg q_12_3, if_pos q_12_4, if_pos h_82]
        exact E _ _ _ _ _ _ dX6_hammock_90 (Nat.le_refl _) (Nat.le_refl _) rfl ⟨by rw [hX], by rw [hX]⟩
    by_cases q_12_5 : w = 5
    · refine r_tableIn (pc := 12) (off := 79) (tgt := 91) C dX6_hammock_12 (by rw [q_12_5]; decide) (by rw [q_12_5]; decide) (by rw [q_12_5]; rfl) (by decide) ?_
      refine r_aload_n (pc := 91) C dX6_hammock_91 rfl rfl ?_
      refine r_getfield (pc := 92) (v := .ref 4) C xf_X6_19 dX6_hammock_92 rfl rfl ?_
      refine r_iload_n (pc := 95) C dX6_hammock_95 rfl rfl ?_
      refine r_aload_n (pc := 96) C dX6_hammock_96 rfl rfl ?_
      refine r_getfield (pc := 97) (v := .ref 4) C xf_X6_19 dX6_hammock_97 rfl rfl ?_
      refine r_bipush (pc := 100) (v := 35) C dX6_hammock_100 (by decide) ?_
      refine r_iaload (pc := 102) (v := M 4 35) C 35 dX6_hammock_102 rfl (by decide) (by decide) rfl ?_
      refine r_callSD (pc := 103) (As := [.ref 4, .int (nI jh), .int (M 4 35)]) (st := []) (θ2 := wM M) (r2 := some (.int (dipS (vw (M 4)) jh (M 4 35)))) C [4] (c_X6_dip (M 4) jh (by omega) (M 4 35) (hM.2.2.2 jh (by omega))) xm_X6_dip xk_X6_147 dX6_hammock_103 rfl (by decide) rfl rfl rfl (Nat.le_of_ble_eq_true rfl) ⟨Nat.le_of_ble_eq_true rfl, Nat.le_of_ble_eq_true rfl⟩ ⟨rfl, rfl⟩ ⟨Nat.le_of_ble_eq_true rfl, Nat.le_of_ble_eq_true rfl⟩ rfl (Eq.trans (b := 1) rfl rfl) rfl rfl ?_
      show g 0 0 (wM M) 106 [some (.ref 0), some (.int (nI jh)), some (.int w)] [.int (dipS (vw (M 4)) jh (M 4 35))]
      show g 0 0 (wM M) 106 [some (.ref 0), some (.int (nI jh)), some (.int w)] [.int (dipS (vw (M 4)) jh (M 4 35))]
      have hX : hamM M (nI jh) w = (dipS (vw (M 4)) jh (M 4 35), M) := by
        unfold hamM
        (try rw [ix_nI (show jh < 2 ^ 31 by omega)])
        rw [if_pos h_5, if_neg q_12_0, if_neg q_12_1, if_neg q_12_2, if_neg q_12_3, if_neg q_12_4, if_pos q_12_5]
      exact E _ _ _ _ _ _ dX6_hammock_106 (Nat.le_refl _) (Nat.le_refl _) rfl ⟨by rw [hX], by rw [hX]⟩
    by_cases q_12_6 : w = 6
    · refine r_tableIn (pc := 12) (off := 95) (tgt := 107) C dX6_hammock_12 (by rw [q_12_6]; decide) (by rw [q_12_6]; decide) (by rw [q_12_6]; rfl) (by decide) ?_
      refine r_aload_n (pc := 107) C dX6_hammock_107 rfl rfl ?_
      refine r_getfield (pc := 108) (v := .ref 4) C xf_X6_19 dX6_hammock_108 rfl rfl ?_
      refine r_iload_n (pc := 111) C dX6_hammock_111 rfl rfl ?_
      refine r_aload_n (pc := 112) C dX6_hammock_112 rfl rfl ?_
      refine r_getfield (pc := 113) (v := .ref 4) C xf_X6_19 dX6_hammock_113 rfl rfl ?_
      refine r_bipush (pc := 116) (v := 35) C dX6_hammock_116 (by decide) ?_
      refine r_iaload (pc := 118) (v := M 4 35) C 35 dX6_hammock_118 rfl (by decide) (by decide) rfl ?_
      refine r_callSD (pc := 119) (As := [.ref 4, .int (nI jh), .int (M 4 35)]) (st := []) (θ2 := wM M) (r2 := some (.int (plS (vw (M 4)) jh (M 4 35)))) C [4] (c_X6_where (M 4) jh (by omega) (M 4 35) (hM.2.2.2 jh (by omega)) hM.2.2.1) xm_X6_where xk_X6_155 dX6_hammock_119 rfl (by decide) rfl rfl rfl (Nat.le_of_ble_eq_true rfl) ⟨Nat.le_of_ble_eq_true rfl, Nat.le_of_ble_eq_true rfl⟩ ⟨rfl, rfl⟩ ⟨Nat.le_of_ble_eq_true rfl, Nat.le_of_ble_eq_true rfl⟩ rfl (Eq.trans (b := 1) rfl rfl) rfl rfl ?_
      show g 0 0 (wM M) 122 [some (.ref 0), some (.int (nI jh)), some (.int w)] [.int (plS (vw (M 4)) jh (M 4 35))]
      show g 0 0 (wM M) 122 [some (.ref 0), some (.int (nI jh)), some (.int w)] [.int (plS (vw (M 4)) jh (M 4 35))]
      have hX : hamM M (nI jh) w = (plS (vw (M 4)) jh (M 4 35), M) := by
        unfold hamM
        (try rw [ix_nI (show jh < 2 ^ 31 by omega)])
        rw [if_pos h_5, if_neg q_12_0, if_neg q_12_1, if_neg q_12_2, if_neg q_12_3, if_neg q_12_4, if_neg q_12_5, if_pos q_12_6]
      exact E _ _ _ _ _ _ dX6_hammock_122 (Nat.le_refl _) (Nat.le_refl _) rfl ⟨by rw [hX], by rw [hX]⟩
    refine r_tableOut (pc := 12) (tgt := 123) C dX6_hammock_12 (by have t_0 := lv_neT (a := 0) q_12_0 rfl; have t_1 := lv_neT (a := 1) q_12_1 rfl; have t_2 := lv_neT (a := 2) q_12_2 rfl; have t_3 := lv_neT (a := 3) q_12_3 rfl; have t_4 := lv_neT (a := 4) q_12_4 rfl; have t_5 := lv_neT (a := 5) q_12_5 rfl; have t_6 := lv_neT (a := 6) q_12_6 rfl; omega) (by decide) ?_
    refine r_ldc (pc := 123) (v := (-1000001)) C dX6_hammock_123 tw_668 ?_
    show g 0 0 (wM M) 125 [some (.ref 0), some (.int (nI jh)), some (.int w)] [.int (-1000001)]
    have hX : hamM M (nI jh) w = ((-1000001), M) := by
      unfold hamM
      (try rw [ix_nI (show jh < 2 ^ 31 by omega)])
      rw [if_pos h_5, if_neg q_12_0, if_neg q_12_1, if_neg q_12_2, if_neg q_12_3, if_neg q_12_4, if_neg q_12_5, if_neg q_12_6]
    exact E _ _ _ _ _ _ dX6_hammock_125 (Nat.le_refl _) (Nat.le_refl _) rfl ⟨by rw [hX], by rw [hX]⟩
  · replace h_5 := bB_f h_5
    refine r_ldc (pc := 8) (v := (-1000001)) C dX6_hammock_8 tw_668 ?_
    show g 0 0 (wM M) 10 [some (.ref 0), some (.int h), some (.int w)] [.int (-1000001)]
    have hX : hamM M h w = ((-1000001), M) := by
      unfold hamM
      rw [if_neg (nbt h_5)]
    exact E _ _ _ _ _ _ dX6_hammock_10 (Nat.le_refl _) (Nat.le_refl _) rfl ⟨by rw [hX], by rw [hX]⟩
set_option maxHeartbeats 4000000 in
set_option maxRecDepth 100000 in
theorem lp_X6_meet (M : Nat → Nat → Int32) (z : Nat) (hM : okM M z) (ia ib : Nat) (hia : ia < z) (hib : ib < z) {g : Nat → Nat → List xE → Nat → List (Option Value) → List Value → Prop} (C : Sem cX6_meet RX6 "meet" 4 rmX6_meet g) (E : xEi g cX6_meet .int 0 0 (fun vr wr => vr = some (.int (hdFrom (fun d => nrM (vw (M 4)) ia ib (M 4 35 + nI d)) 61 0)) ∧ wr = wM M)) : ∀ (n : Nat) (d : Nat), d + n = 61 → hdFrom (fun d => nrM (vw (M 4)) ia ib (M 4 35 + nI d)) n d = hdFrom (fun d => nrM (vw (M 4)) ia ib (M 4 35 + nI d)) 61 0 → g 0 0 (wM M) 26 [some (.ref 0), some (.int (nI ia)), some (.int (nI ib)), some (.int (nI d))] [] := by
  intro n
  induction n with
  | zero =>
    intro d hd hE
    have hz6 := hM.2.1
    refine r_iload_n (pc := 26) C dX6_meet_26 rfl rfl ?_
    refine r_bipush (pc := 27) (v := 61) C dX6_meet_27 (by decide) ?_
    refine r_icmp_ge (pc := 29) (tgt := 61) C dX6_meet_29 (by decide) (fun _ => ?_) (fun h => absurd (nI_le (a := 61) (by omega) (by omega)) h)
    refine r_ldc (pc := 61) (v := (-1000000)) C dX6_meet_61 tw_826 ?_
    exact E _ _ _ _ _ _ dX6_meet_63 (Nat.le_refl _) (Nat.le_refl _) rfl ⟨congrArg (fun z => some (Value.int z)) (by rw [← hE]; rfl), rfl⟩
  | succ n ih =>
    intro d hd hE
    have hz6 := hM.2.1
    refine r_iload_n (pc := 26) C dX6_meet_26 rfl rfl ?_
    refine r_bipush (pc := 27) (v := 61) C dX6_meet_27 (by decide) ?_
    refine r_icmp_ge (pc := 29) (tgt := 61) C dX6_meet_29 (by decide) (fun h => absurd h (nI_ge (b := 61) (by omega) (by omega))) (fun _ => ?_)
    refine r_aload_n (pc := 32) C dX6_meet_32 rfl rfl ?_
    refine r_getfield (pc := 33) (v := .ref 4) C xf_X6_19 dX6_meet_33 rfl rfl ?_
    refine r_iload_n (pc := 36) C dX6_meet_36 rfl rfl ?_
    refine r_iload_n (pc := 37) C dX6_meet_37 rfl rfl ?_
    refine r_aload_n (pc := 38) C dX6_meet_38 rfl rfl ?_
    refine r_getfield (pc := 39) (v := .ref 4) C xf_X6_19 dX6_meet_39 rfl rfl ?_
    refine r_bipush (pc := 42) (v := 35) C dX6_meet_42 (by decide) ?_
    refine r_iaload (pc := 44) (v := M 4 35) C 35 dX6_meet_44 rfl (by decide) (by decide) rfl ?_
    refine r_iload_n (pc := 45) C dX6_meet_45 rfl rfl ?_
    refine r_iadd (pc := 46) C dX6_meet_46 ?_
    refine r_callSD (pc := 47) (As := [.ref 4, .int (nI ia), .int (nI ib), .int ((M 4 35) + (nI d))]) (st := []) (θ2 := wM M) (r2 := some (.int (bB (nrM (vw (M 4)) ia ib ((M 4 35) + (nI d)))))) C [4] (c_X6_areNear (M 4) ia (by omega) ib (by omega) ((M 4 35) + (nI d)) (hM.2.2.2 ia (by omega)) (hM.2.2.2 ib (by omega)) hM.2.2.1) xm_X6_areNear xk_X6_158 dX6_meet_47 rfl (by decide) rfl rfl rfl (Nat.le_of_ble_eq_true rfl) ⟨Nat.le_of_ble_eq_true rfl, Nat.le_of_ble_eq_true rfl⟩ ⟨rfl, rfl⟩ ⟨Nat.le_of_ble_eq_true rfl, Nat.le_of_ble_eq_true rfl⟩ rfl (Eq.trans (b := 1) rfl rfl) rfl rfl ?_
    show g 0 0 (wM M) 50 [some (.ref 0), some (.int (nI ia)), some (.int (nI ib)), some (.int (nI d))] [.int (bB (nrM (vw (M 4)) ia ib ((M 4 35) + (nI d))))]
    refine r_if_eq (pc := 50) (tgt := 55) C dX6_meet_50 (by decide) (fun h_50 => ?_) (fun h_50 => ?_)
    · replace h_50 := bB_f h_50
      refine r_iinc (pc := 55) (v := nI (d + 1)) (lv' := [some (.ref 0), some (.int (nI ia)), some (.int (nI ib)), some (.int (nI (d + 1)))]) C dX6_meet_55 rfl (nI_1 d) trivial rfl ?_
      refine r_goto (pc := 58) (tgt := 26) C dX6_meet_58 (by decide) ?_
      show g 0 0 (wM M) 26 [some (.ref 0), some (.int (nI ia)), some (.int (nI ib)), some (.int (nI (d + 1)))] []
      exact ih (d + 1) (by omega) (by rw [← hE]; simp only [hdFrom, h_50, Bool.false_eq_true, if_false])
    · replace h_50 := bB_t h_50
      refine r_iload_n (pc := 53) C dX6_meet_53 rfl rfl ?_
      exact E _ _ _ _ _ _ dX6_meet_54 (Nat.le_refl _) (Nat.le_refl _) rfl ⟨congrArg (fun z => some (Value.int z)) (by rw [← hE]; simp only [hdFrom, h_50, if_true]), rfl⟩
def meetM (M : Nat → Nat → Int32) (a b : Int32) : Int32 × (Nat → Nat → Int32) := (if (inI a 0 (M 4 0 - 1)) = true then (if (inI b 0 (M 4 0 - 1)) = true then (if a = b then ((-1000001), M) else (hdFrom (fun d => nrM (vw (M 4)) (ix a) (ix b) (M 4 35 + nI d)) 61 0, M)) else ((-1000001), M)) else ((-1000001), M))
set_option maxHeartbeats 4000000 in
set_option maxRecDepth 100000 in
theorem c_X6_meet (M : Nat → Nat → Int32) (a b : Int32) (z : Nat) (hM : okM M z) : MetA yX6_meet (.code yX6_meet cX6_meet 4 (some .int) :: TT) rmX6_meet [.ref 0, .int a, .int b] (wM M) (fun vr wr => vr = some (.int (meetM M a b).1) ∧ wr = wM (meetM M a b).2) 0 0 := by
  refine MetA.of_i (by decide) (fun _ => Nat.le_of_ble_eq_true rfl) (Nat.le_of_ble_eq_true rfl) (fun g C E => ?_)
  replace C : Sem cX6_meet RX6 "meet" 4 rmX6_meet g := C
  show g 0 0 (wM M) 0 [some (.ref 0), some (.int a), some (.int b), none] []
  refine r_aload_n (pc := 0) C dX6_meet_0 rfl rfl ?_
  refine r_iload_n (pc := 1) C dX6_meet_1 rfl rfl ?_
  refine r_callV0 (pc := 2) (As := [.int a]) (st := []) (θ' := wM M) C (c_X6_isHammock M a) xm_X6_isHammock xk_X6_181 dX6_meet_2 rfl rfl rfl rfl (Nat.le_of_ble_eq_true rfl) ⟨Nat.le_of_ble_eq_true rfl, Nat.le_of_ble_eq_true rfl⟩ ⟨rfl, rfl⟩ ⟨Nat.le_of_ble_eq_true rfl, Nat.le_of_ble_eq_true rfl⟩ rfl (Eq.trans (b := 14) rfl rfl) ?_
  show g 0 0 (wM M) 5 [some (.ref 0), some (.int a), some (.int b), none] [.int (bB (inI a 0 (M 4 0 - 1)))]
  refine r_if_eq (pc := 5) (tgt := 21) C dX6_meet_5 (by decide) (fun h_5 => ?_) (fun h_5 => ?_)
  · replace h_5 := bB_f h_5
    refine r_ldc (pc := 21) (v := (-1000001)) C dX6_meet_21 tw_668 ?_
    show g 0 0 (wM M) 23 [some (.ref 0), some (.int a), some (.int b), none] [.int (-1000001)]
    have hX : meetM M a b = ((-1000001), M) := by
      unfold meetM
      rw [if_neg (nbt h_5)]
    exact E _ _ _ _ _ _ dX6_meet_23 (Nat.le_refl _) (Nat.le_refl _) rfl ⟨by rw [hX], by rw [hX]⟩
  · replace h_5 := bB_t h_5
    obtain ⟨ia, hia, rfl⟩ := in_ex hM.1 hM.2.1 h_5
    have hia6 : ia < 6 := by have := hM.2.1; omega
    have hz6 := hM.2.1
    refine r_aload_n (pc := 8) C dX6_meet_8 rfl rfl ?_
    refine r_iload_n (pc := 9) C dX6_meet_9 rfl rfl ?_
    refine r_callV0 (pc := 10) (As := [.int b]) (st := []) (θ' := wM M) C (c_X6_isHammock M b) xm_X6_isHammock xk_X6_181 dX6_meet_10 rfl rfl rfl rfl (Nat.le_of_ble_eq_true rfl) ⟨Nat.le_of_ble_eq_true rfl, Nat.le_of_ble_eq_true rfl⟩ ⟨rfl, rfl⟩ ⟨Nat.le_of_ble_eq_true rfl, Nat.le_of_ble_eq_true rfl⟩ rfl (Eq.trans (b := 14) rfl rfl) ?_
    show g 0 0 (wM M) 13 [some (.ref 0), some (.int (nI ia)), some (.int b), none] [.int (bB (inI b 0 (M 4 0 - 1)))]
    refine r_if_eq (pc := 13) (tgt := 21) C dX6_meet_13 (by decide) (fun h_13 => ?_) (fun h_13 => ?_)
    · replace h_13 := bB_f h_13
      refine r_ldc (pc := 21) (v := (-1000001)) C dX6_meet_21 tw_668 ?_
      show g 0 0 (wM M) 23 [some (.ref 0), some (.int (nI ia)), some (.int b), none] [.int (-1000001)]
      have hX : meetM M (nI ia) b = ((-1000001), M) := by
        unfold meetM
        (try rw [ix_nI (show ia < 2 ^ 31 by omega)])
        rw [if_pos h_5, if_neg (nbt h_13)]
      exact E _ _ _ _ _ _ dX6_meet_23 (Nat.le_refl _) (Nat.le_refl _) rfl ⟨by rw [hX], by rw [hX]⟩
    · replace h_13 := bB_t h_13
      obtain ⟨ib, hib, rfl⟩ := in_ex hM.1 hM.2.1 h_13
      have hib6 : ib < 6 := by have := hM.2.1; omega
      have hz6 := hM.2.1
      refine r_iload_n (pc := 16) C dX6_meet_16 rfl rfl ?_
      refine r_iload_n (pc := 17) C dX6_meet_17 rfl rfl ?_
      refine r_icmp_ne (pc := 18) (tgt := 24) C dX6_meet_18 (by decide) (fun h_18 => ?_) (fun h_18 => ?_)
      · skip
        refine r_iconst (pc := 24) (v := 0) C dX6_meet_24 (by decide) ?_
        refine r_istore_n (pc := 25) (lv' := [some (.ref 0), some (.int (nI ia)), some (.int (nI ib)), some (.int 0)]) C dX6_meet_25 rfl (Nat.le_of_ble_eq_true rfl) trivial rfl ?_
        show g 0 0 (wM M) 26 [some (.ref 0), some (.int (nI ia)), some (.int (nI ib)), some (.int 0)] []
        have hX : meetM M (nI ia) (nI ib) = (hdFrom (fun d => nrM (vw (M 4)) ia ib (M 4 35 + nI d)) 61 0, M) := by
          unfold meetM
          (try rw [ix_nI (show ia < 2 ^ 31 by omega)])
          (try rw [ix_nI (show ib < 2 ^ 31 by omega)])
          rw [if_pos h_5, if_pos h_13, if_neg h_18]
        rw [hX] at E
        exact lp_X6_meet M z hM ia ib hia hib C E 61 0 (by omega) rfl
      · skip
        refine r_ldc (pc := 21) (v := (-1000001)) C dX6_meet_21 tw_668 ?_
        show g 0 0 (wM M) 23 [some (.ref 0), some (.int (nI ia)), some (.int (nI ib)), none] [.int (-1000001)]
        have hX : meetM M (nI ia) (nI ib) = ((-1000001), M) := by
          unfold meetM
          (try rw [ix_nI (show ia < 2 ^ 31 by omega)])
          (try rw [ix_nI (show ib < 2 ^ 31 by omega)])
          rw [if_pos h_5, if_pos h_13, if_pos h_18]
        exact E _ _ _ _ _ _ dX6_meet_23 (Nat.le_refl _) (Nat.le_refl _) rfl ⟨by rw [hX], by rw [hX]⟩
def imgM (M : Nat → Nat → Int32) (k : Int32) : Int32 × (Nat → Nat → Int32) := (if (inI k 0 1) = true then (if (decide (M 4 3 = 1)) = true then (1, (up2 (up2 M 9 (va_cpy (M 4) (M 9) 0 (36 * (ix k)) 36)) 10 (upd (M 10) (ix k) 1))) else ((-1000002), M)) else ((-1000001), M))
set_option maxHeartbeats 4000000 in
set_option maxRecDepth 100000 in
theorem c_X6_image (M : Nat → Nat → Int32) (k : Int32) : MetA yX6_image (.code yX6_image cX6_image 2 (some .int) :: TT) rmX6_image [.ref 0, .int k] (wM M) (fun vr wr => vr = some (.int (imgM M k).1) ∧ wr = wM (imgM M k).2) 0 0 := by
  refine MetA.of_i (by decide) (fun _ => Nat.le_of_ble_eq_true rfl) (Nat.le_of_ble_eq_true rfl) (fun g C E => ?_)
  replace C : Sem cX6_image RX6 "image" 2 rmX6_image g := C
  show g 0 0 (wM M) 0 [some (.ref 0), some (.int k)] []
  refine r_iload_n (pc := 0) C dX6_image_0 rfl rfl ?_
  refine r_callS0 (pc := 1) (As := [.int k]) (st := []) C (c_X6_isTwo k) xm_X6_isTwo xk_X6_188 dX6_image_1 (fun _ => rfl) (fun _ => rfl) rfl rfl (Nat.le_of_ble_eq_true rfl) ⟨Nat.le_of_ble_eq_true rfl, Nat.le_of_ble_eq_true rfl⟩ ⟨rfl, rfl⟩ ⟨Nat.le_of_ble_eq_true rfl, Nat.le_of_ble_eq_true rfl⟩ rfl ?_
  show g 0 0 (wM M) 4 [some (.ref 0), some (.int k)] [.int (bB (inI k 0 1))]
  refine r_if_ne (pc := 4) (tgt := 10) C dX6_image_4 (by decide) (fun h_4 => ?_) (fun h_4 => ?_)
  · replace h_4 := bB_t h_4
    obtain ⟨jk, hjk, rfl⟩ := inr_ex (m := 1) rfl h_4
    refine r_aload_n (pc := 10) C dX6_image_10 rfl rfl ?_
    refine r_callV0 (pc := 11) (As := []) (st := []) (θ' := wM M) C (c_X6_isForest M ) xm_X6_isForest xk_X6_168 dX6_image_11 rfl rfl rfl rfl (Nat.le_of_ble_eq_true rfl) ⟨Nat.le_of_ble_eq_true rfl, Nat.le_of_ble_eq_true rfl⟩ ⟨rfl, rfl⟩ ⟨Nat.le_of_ble_eq_true rfl, Nat.le_of_ble_eq_true rfl⟩ rfl (Eq.trans (b := 14) rfl rfl) ?_
    show g 0 0 (wM M) 14 [some (.ref 0), some (.int (nI jk))] [.int (bB (decide (M 4 3 = 1)))]
    refine r_if_ne (pc := 14) (tgt := 20) C dX6_image_14 (by decide) (fun h_14 => ?_) (fun h_14 => ?_)
    · replace h_14 := bB_t h_14
      refine r_aload_n (pc := 20) C dX6_image_20 rfl rfl ?_
      refine r_getfield (pc := 21) (v := .ref 4) C xf_X6_19 dX6_image_21 rfl rfl ?_
      refine r_iconst (pc := 24) (v := 0) C dX6_image_24 (by decide) ?_
      refine r_aload_n (pc := 25) C dX6_image_25 rfl rfl ?_
      refine r_getfield (pc := 26) (v := .ref 8) C xf_X6_31 dX6_image_26 rfl rfl ?_
      refine r_bipush (pc := 29) (v := 36) C dX6_image_29 (by decide) ?_
      refine r_iload_n (pc := 31) C dX6_image_31 rfl rfl ?_
      refine r_imul (pc := 32) C dX6_image_32 ?_
      rw [show (36 * (nI jk) : Int32) = nI (36 * jk) from (nI_prod (m := 36) rfl rfl)]
      refine r_callSD (pc := 33) (As := [.ref 4, .int 0, .ref 8, .int (nI (36 * jk))]) (st := []) (θ2 := wM (up2 M 9 (va_cpy (M 4) (M 9) 0 (36 * jk) 36))) (r2 := none) C [4, 8] (c_X6_copies 36 72 (by decide) (by decide) (M 4) (M 9) 0 (36 * jk) (by omega) (by omega)) xm_X6_copies xk_X6_132 dX6_image_33 rfl (by decide) rfl rfl rfl (Nat.le_of_ble_eq_true rfl) ⟨Nat.le_of_ble_eq_true rfl, Nat.le_of_ble_eq_true rfl⟩ ⟨rfl, rfl⟩ ⟨Nat.le_of_ble_eq_true rfl, Nat.le_of_ble_eq_true rfl⟩ rfl (Eq.trans (b := 2) rfl rfl) rfl rfl ?_
      show g 0 0 (wM (up2 M 9 (va_cpy (M 4) (M 9) 0 (36 * jk) 36))) 36 [some (.ref 0), some (.int (nI jk))] []
      refine r_aload_n (pc := 36) C dX6_image_36 rfl rfl ?_
      refine r_getfield (pc := 37) (v := .ref 9) C xf_X6_34 dX6_image_37 rfl rfl ?_
      refine r_iload_n (pc := 40) C dX6_image_40 rfl rfl ?_
      refine r_iconst (pc := 41) (v := 1) C dX6_image_41 (by decide) ?_
      refine r_bastore (pc := 42) (θ' := wM (up2 (up2 M 9 (va_cpy (M 4) (M 9) 0 (36 * jk) 36)) 10 (upd (M 10) jk 1))) C jk dX6_image_42 rfl rfl (by first | assumption | omega) rfl rfl ?_
      refine r_iconst (pc := 43) (v := 1) C dX6_image_43 (by decide) ?_
      show g 0 0 (wM (up2 (up2 M 9 (va_cpy (M 4) (M 9) 0 (36 * jk) 36)) 10 (upd (M 10) jk 1))) 44 [some (.ref 0), some (.int (nI jk))] [.int 1]
      have hX : imgM M (nI jk) = (1, (up2 (up2 M 9 (va_cpy (M 4) (M 9) 0 (36 * jk) 36)) 10 (upd (M 10) jk 1))) := by
        unfold imgM
        (try rw [ix_nI (show jk < 2 ^ 31 by omega)])
        rw [if_pos h_4, if_pos h_14]
      exact E _ _ _ _ _ _ dX6_image_44 (Nat.le_refl _) (Nat.le_refl _) rfl ⟨by rw [hX], by rw [hX]⟩
    · replace h_14 := bB_f h_14
      refine r_ldc (pc := 17) (v := (-1000002)) C dX6_image_17 tw_747 ?_
      show g 0 0 (wM M) 19 [some (.ref 0), some (.int (nI jk))] [.int (-1000002)]
      have hX : imgM M (nI jk) = ((-1000002), M) := by
        unfold imgM
        (try rw [ix_nI (show jk < 2 ^ 31 by omega)])
        rw [if_pos h_4, if_neg (nbt h_14)]
      exact E _ _ _ _ _ _ dX6_image_19 (Nat.le_refl _) (Nat.le_refl _) rfl ⟨by rw [hX], by rw [hX]⟩
  · replace h_4 := bB_f h_4
    refine r_ldc (pc := 7) (v := (-1000001)) C dX6_image_7 tw_668 ?_
    show g 0 0 (wM M) 9 [some (.ref 0), some (.int k)] [.int (-1000001)]
    have hX : imgM M k = ((-1000001), M) := by
      unfold imgM
      rw [if_neg (nbt h_4)]
    exact E _ _ _ _ _ _ dX6_image_9 (Nat.le_refl _) (Nat.le_refl _) rfl ⟨by rw [hX], by rw [hX]⟩
def restM (M : Nat → Nat → Int32) (k : Int32) : Int32 × (Nat → Nat → Int32) := (if (inI k 0 1) = true then (if (M 10 (ix k)) = 0 then ((-1000002), M) else (1, (up2 (up2 M 4 (va_cpy (M 9) (M 4) (36 * (ix k)) 0 36)) 8 (k1 0)))) else ((-1000001), M))
set_option maxHeartbeats 4000000 in
set_option maxRecDepth 100000 in
theorem c_X6_restore (M : Nat → Nat → Int32) (k : Int32) : MetA yX6_restore (.code yX6_restore cX6_restore 2 (some .int) :: TT) rmX6_restore [.ref 0, .int k] (wM M) (fun vr wr => vr = some (.int (restM M k).1) ∧ wr = wM (restM M k).2) 0 0 := by
  refine MetA.of_i (by decide) (fun _ => Nat.le_of_ble_eq_true rfl) (Nat.le_of_ble_eq_true rfl) (fun g C E => ?_)
  replace C : Sem cX6_restore RX6 "restore" 2 rmX6_restore g := C
  show g 0 0 (wM M) 0 [some (.ref 0), some (.int k)] []
  refine r_iload_n (pc := 0) C dX6_restore_0 rfl rfl ?_
  refine r_callS0 (pc := 1) (As := [.int k]) (st := []) C (c_X6_isTwo k) xm_X6_isTwo xk_X6_188 dX6_restore_1 (fun _ => rfl) (fun _ => rfl) rfl rfl (Nat.le_of_ble_eq_true rfl) ⟨Nat.le_of_ble_eq_true rfl, Nat.le_of_ble_eq_true rfl⟩ ⟨rfl, rfl⟩ ⟨Nat.le_of_ble_eq_true rfl, Nat.le_of_ble_eq_true rfl⟩ rfl ?_
  show g 0 0 (wM M) 4 [some (.ref 0), some (.int k)] [.int (bB (inI k 0 1))]
  refine r_if_ne (pc := 4) (tgt := 10) C dX6_restore_4 (by decide) (fun h_4 => ?_) (fun h_4 => ?_)
  · replace h_4 := bB_t h_4
    obtain ⟨jk, hjk, rfl⟩ := inr_ex (m := 1) rfl h_4
    refine r_aload_n (pc := 10) C dX6_restore_10 rfl rfl ?_
    refine r_getfield (pc := 11) (v := .ref 9) C xf_X6_34 dX6_restore_11 rfl rfl ?_
    refine r_iload_n (pc := 14) C dX6_restore_14 rfl rfl ?_
    refine r_baload (pc := 15) (v := M 10 jk) C jk dX6_restore_15 rfl rfl (by first | assumption | omega) rfl ?_
    refine r_if_ne (pc := 16) (tgt := 22) C dX6_restore_16 (by decide) (fun h_16 => ?_) (fun h_16 => ?_)
    · skip
      refine r_aload_n (pc := 22) C dX6_restore_22 rfl rfl ?_
      refine r_getfield (pc := 23) (v := .ref 8) C xf_X6_31 dX6_restore_23 rfl rfl ?_
      refine r_bipush (pc := 26) (v := 36) C dX6_restore_26 (by decide) ?_
      refine r_iload_n (pc := 28) C dX6_restore_28 rfl rfl ?_
      refine r_imul (pc := 29) C dX6_restore_29 ?_
      rw [show (36 * (nI jk) : Int32) = nI (36 * jk) from (nI_prod (m := 36) rfl rfl)]
      refine r_aload_n (pc := 30) C dX6_restore_30 rfl rfl ?_
      refine r_getfield (pc := 31) (v := .ref 4) C xf_X6_19 dX6_restore_31 rfl rfl ?_
      refine r_iconst (pc := 34) (v := 0) C dX6_restore_34 (by decide) ?_
      refine r_callSD (pc := 35) (As := [.ref 8, .int (nI (36 * jk)), .ref 4, .int 0]) (st := []) (θ2 := wM (up2 M 4 (va_cpy (M 9) (M 4) (36 * jk) 0 36))) (r2 := none) C [8, 4] (c_X6_copies 72 36 (by decide) (by decide) (M 9) (M 4) (36 * jk) 0 (by omega) (by omega)) xm_X6_copies xk_X6_132 dX6_restore_35 rfl (by decide) rfl rfl rfl (Nat.le_of_ble_eq_true rfl) ⟨Nat.le_of_ble_eq_true rfl, Nat.le_of_ble_eq_true rfl⟩ ⟨rfl, rfl⟩ ⟨Nat.le_of_ble_eq_true rfl, Nat.le_of_ble_eq_true rfl⟩ rfl (Eq.trans (b := 2) rfl rfl) rfl rfl ?_
      show g 0 0 (wM (up2 M 4 (va_cpy (M 9) (M 4) (36 * jk) 0 36))) 38 [some (.ref 0), some (.int (nI jk))] []
      refine r_aload_n (pc := 38) C dX6_restore_38 rfl rfl ?_
      refine r_iconst (pc := 39) (v := 0) C dX6_restore_39 (by decide) ?_
      refine r_putfield (pc := 40) (θ' := wM (up2 (up2 M 4 (va_cpy (M 9) (M 4) (36 * jk) 0 36)) 8 (k1 0))) C xf_X6_136 xt_X6_8 dX6_restore_40 rfl (Nat.le_of_ble_eq_true rfl) (fun _ => ⟨rfl, rfl⟩) rfl ?_
      refine r_iconst (pc := 43) (v := 1) C dX6_restore_43 (by decide) ?_
      show g 0 0 (wM (up2 (up2 M 4 (va_cpy (M 9) (M 4) (36 * jk) 0 36)) 8 (k1 0))) 44 [some (.ref 0), some (.int (nI jk))] [.int 1]
      have hX : restM M (nI jk) = (1, (up2 (up2 M 4 (va_cpy (M 9) (M 4) (36 * jk) 0 36)) 8 (k1 0))) := by
        unfold restM
        (try rw [ix_nI (show jk < 2 ^ 31 by omega)])
        rw [if_pos h_4, if_neg h_16]
      exact E _ _ _ _ _ _ dX6_restore_44 (Nat.le_refl _) (Nat.le_refl _) rfl ⟨by rw [hX], by rw [hX]⟩
    · skip
      refine r_ldc (pc := 19) (v := (-1000002)) C dX6_restore_19 tw_747 ?_
      show g 0 0 (wM M) 21 [some (.ref 0), some (.int (nI jk))] [.int (-1000002)]
      have hX : restM M (nI jk) = ((-1000002), M) := by
        unfold restM
        (try rw [ix_nI (show jk < 2 ^ 31 by omega)])
        rw [if_pos h_4, if_pos h_16]
      exact E _ _ _ _ _ _ dX6_restore_21 (Nat.le_refl _) (Nat.le_refl _) rfl ⟨by rw [hX], by rw [hX]⟩
  · replace h_4 := bB_f h_4
    refine r_ldc (pc := 7) (v := (-1000001)) C dX6_restore_7 tw_668 ?_
    show g 0 0 (wM M) 9 [some (.ref 0), some (.int k)] [.int (-1000001)]
    have hX : restM M k = ((-1000001), M) := by
      unfold restM
      rw [if_neg (nbt h_4)]
    exact E _ _ _ _ _ _ dX6_restore_9 (Nat.le_refl _) (Nat.le_refl _) rfl ⟨by rw [hX], by rw [hX]⟩
def asM (M : Nat → Nat → Int32) (h k : Int32) : Int32 × (Nat → Nat → Int32) := (if (inI h 0 (M 4 0 - 1)) = true then (if (inI k 0 5) = true then (if (isOfM (M 4 (4 + (ix h))) k) = true then (h, (up2 M 3 (k1 0))) else ((-1000010) - 3, (up2 M 3 (k1 3)))) else ((-1000001), M)) else ((-1000001), M))
set_option maxHeartbeats 4000000 in
set_option maxRecDepth 100000 in
theorem c_X6_as (M : Nat → Nat → Int32) (h k : Int32) (z : Nat) (hM : okM M z) : MetA yX6_as (.code yX6_as cX6_as 3 (some .int) :: TT) rmX6_as [.ref 0, .int h, .int k] (wM M) (fun vr wr => vr = some (.int (asM M h k).1) ∧ wr = wM (asM M h k).2) 0 0 := by
  refine MetA.of_i (by decide) (fun _ => Nat.le_of_ble_eq_true rfl) (Nat.le_of_ble_eq_true rfl) (fun g C E => ?_)
  replace C : Sem cX6_as RX6 "as" 3 rmX6_as g := C
  show g 0 0 (wM M) 0 [some (.ref 0), some (.int h), some (.int k)] []
  refine r_aload_n (pc := 0) C dX6_as_0 rfl rfl ?_
  refine r_iload_n (pc := 1) C dX6_as_1 rfl rfl ?_
  refine r_callV0 (pc := 2) (As := [.int h]) (st := []) (θ' := wM M) C (c_X6_isHammock M h) xm_X6_isHammock xk_X6_181 dX6_as_2 rfl rfl rfl rfl (Nat.le_of_ble_eq_true rfl) ⟨Nat.le_of_ble_eq_true rfl, Nat.le_of_ble_eq_true rfl⟩ ⟨rfl, rfl⟩ ⟨Nat.le_of_ble_eq_true rfl, Nat.le_of_ble_eq_true rfl⟩ rfl (Eq.trans (b := 14) rfl rfl) ?_
  show g 0 0 (wM M) 5 [some (.ref 0), some (.int h), some (.int k)] [.int (bB (inI h 0 (M 4 0 - 1)))]
  refine r_if_eq (pc := 5) (tgt := 20) C dX6_as_5 (by decide) (fun h_5 => ?_) (fun h_5 => ?_)
  · replace h_5 := bB_f h_5
    refine r_ldc (pc := 20) (v := (-1000001)) C dX6_as_20 tw_668 ?_
    show g 0 0 (wM M) 22 [some (.ref 0), some (.int h), some (.int k)] [.int (-1000001)]
    have hX : asM M h k = ((-1000001), M) := by
      unfold asM
      rw [if_neg (nbt h_5)]
    exact E _ _ _ _ _ _ dX6_as_22 (Nat.le_refl _) (Nat.le_refl _) rfl ⟨by rw [hX], by rw [hX]⟩
  · replace h_5 := bB_t h_5
    obtain ⟨jh, hjh, rfl⟩ := in_ex hM.1 hM.2.1 h_5
    have hjh6 : jh < 6 := by have := hM.2.1; omega
    have hz6 := hM.2.1
    refine r_iload_n (pc := 8) C dX6_as_8 rfl rfl ?_
    refine r_i2l (pc := 9) (v := k.toInt64) C dX6_as_9 rfl ?_
    refine r_lconst (pc := 10) (v := 0) C dX6_as_10 (by decide) ?_
    refine r_ldc2 (pc := 11) (v := 5) C dX6_as_11 tw_887 ?_
    refine r_callS0 (pc := 14) (As := [.long k.toInt64, .long 0, .long 5]) (st := []) C (c_X6_inI k 0 5 rfl (by decide) (by decide)) xm_X6_in xk_X6_57 dX6_as_14 (fun _ => rfl) (fun _ => rfl) rfl rfl (Nat.le_of_ble_eq_true rfl) ⟨Nat.le_of_ble_eq_true rfl, Nat.le_of_ble_eq_true rfl⟩ ⟨rfl, rfl⟩ ⟨Nat.le_of_ble_eq_true rfl, Nat.le_of_ble_eq_true rfl⟩ rfl ?_
    show g 0 0 (wM M) 17 [some (.ref 0), some (.int (nI jh)), some (.int k)] [.int (bB (inI k 0 5))]
    refine r_if_ne (pc := 17) (tgt := 23) C dX6_as_17 (by decide) (fun h_17 => ?_) (fun h_17 => ?_)
    · replace h_17 := bB_t h_17
      refine r_aload_n (pc := 23) C dX6_as_23 rfl rfl ?_
      refine r_getfield (pc := 24) (v := .ref 4) C xf_X6_19 dX6_as_24 rfl rfl ?_
      refine r_iconst (pc := 27) (v := 4) C dX6_as_27 (by decide) ?_
      refine r_iload_n (pc := 28) C dX6_as_28 rfl rfl ?_
      refine r_iadd (pc := 29) C dX6_as_29 ?_
      refine r_iaload (pc := 30) (v := M 4 (4 + jh)) C (4 + jh) dX6_as_30 rfl (nI_sum (m := 4) (n := jh) rfl rfl) (by first | assumption | omega) rfl ?_
      refine r_iload_n (pc := 31) C dX6_as_31 rfl rfl ?_
      refine r_callS0 (pc := 32) (As := [.int (M 4 (4 + jh)), .int k]) (st := []) C (c_X6_isOf (M 4 (4 + jh)) k) xm_X6_isOf xk_X6_213 dX6_as_32 (fun _ => rfl) (fun _ => rfl) rfl rfl (Nat.le_of_ble_eq_true rfl) ⟨Nat.le_of_ble_eq_true rfl, Nat.le_of_ble_eq_true rfl⟩ ⟨rfl, rfl⟩ ⟨Nat.le_of_ble_eq_true rfl, Nat.le_of_ble_eq_true rfl⟩ rfl ?_
      show g 0 0 (wM M) 35 [some (.ref 0), some (.int (nI jh)), some (.int k)] [.int (bB (isOfM (M 4 (4 + jh)) k))]
      refine r_if_eq (pc := 35) (tgt := 46) C dX6_as_35 (by decide) (fun h_35 => ?_) (fun h_35 => ?_)
      · replace h_35 := bB_f h_35
        refine r_aload_n (pc := 46) C dX6_as_46 rfl rfl ?_
        refine r_iconst (pc := 47) (v := 3) C dX6_as_47 (by decide) ?_
        refine r_callV0 (pc := 48) (As := [.int 3]) (st := []) (θ' := wM (up2 M 3 (k1 3))) C (c_X6_found M 3) xm_X6_found xk_X6_68 dX6_as_48 rfl rfl rfl rfl (Nat.le_of_ble_eq_true rfl) ⟨Nat.le_of_ble_eq_true rfl, Nat.le_of_ble_eq_true rfl⟩ ⟨rfl, rfl⟩ ⟨Nat.le_of_ble_eq_true rfl, Nat.le_of_ble_eq_true rfl⟩ rfl (Eq.trans (b := 14) rfl rfl) ?_
        show g 0 0 (wM (up2 M 3 (k1 3))) 51 [some (.ref 0), some (.int (nI jh)), some (.int k)] [.int ((-1000010) - 3)]
        show g 0 0 (wM (up2 M 3 (k1 3))) 51 [some (.ref 0), some (.int (nI jh)), some (.int k)] [.int ((-1000010) - 3)]
        have hX : asM M (nI jh) k = ((-1000010) - 3, (up2 M 3 (k1 3))) := by
          unfold asM
          (try rw [ix_nI (show jh < 2 ^ 31 by omega)])
          rw [if_pos h_5, if_pos h_17, if_neg (nbt h_35)]
        exact E _ _ _ _ _ _ dX6_as_51 (Nat.le_refl _) (Nat.le_refl _) rfl ⟨by rw [hX], by rw [hX]⟩
      · replace h_35 := bB_t h_35
        refine r_aload_n (pc := 38) C dX6_as_38 rfl rfl ?_
        refine r_iload_n (pc := 39) C dX6_as_39 rfl rfl ?_
        refine r_callV0 (pc := 40) (As := [.int (nI jh)]) (st := []) (θ' := wM (up2 M 3 (k1 0))) C (c_X6_well M (nI jh)) xm_X6_well xk_X6_72 dX6_as_40 rfl rfl rfl rfl (Nat.le_of_ble_eq_true rfl) ⟨Nat.le_of_ble_eq_true rfl, Nat.le_of_ble_eq_true rfl⟩ ⟨rfl, rfl⟩ ⟨Nat.le_of_ble_eq_true rfl, Nat.le_of_ble_eq_true rfl⟩ rfl (Eq.trans (b := 14) rfl rfl) ?_
        show g 0 0 (wM (up2 M 3 (k1 0))) 43 [some (.ref 0), some (.int (nI jh)), some (.int k)] [.int (nI jh)]
        refine r_goto (pc := 43) (tgt := 51) C dX6_as_43 (by decide) ?_
        show g 0 0 (wM (up2 M 3 (k1 0))) 51 [some (.ref 0), some (.int (nI jh)), some (.int k)] [.int (nI jh)]
        have hX : asM M (nI jh) k = ((nI jh), (up2 M 3 (k1 0))) := by
          unfold asM
          (try rw [ix_nI (show jh < 2 ^ 31 by omega)])
          rw [if_pos h_5, if_pos h_17, if_pos h_35]
        exact E _ _ _ _ _ _ dX6_as_51 (Nat.le_refl _) (Nat.le_refl _) rfl ⟨by rw [hX], by rw [hX]⟩
    · replace h_17 := bB_f h_17
      refine r_ldc (pc := 20) (v := (-1000001)) C dX6_as_20 tw_668 ?_
      show g 0 0 (wM M) 22 [some (.ref 0), some (.int (nI jh)), some (.int k)] [.int (-1000001)]
      have hX : asM M (nI jh) k = ((-1000001), M) := by
        unfold asM
        (try rw [ix_nI (show jh < 2 ^ 31 by omega)])
        rw [if_pos h_5, if_neg (nbt h_17)]
      exact E _ _ _ _ _ _ dX6_as_22 (Nat.le_refl _) (Nat.le_refl _) rfl ⟨by rw [hX], by rw [hX]⟩
def traceM (M : Nat → Nat → Int32) (i : Int32) : Int32 × (Nat → Nat → Int32) := (if (inI i 0 ((M 15 0) - 1)) = true then (M 14 (ix i), M) else ((-1000000), M))
set_option maxHeartbeats 4000000 in
set_option maxRecDepth 100000 in
theorem c_X6_trace (M : Nat → Nat → Int32) (i : Int32) (q : Nat) (hq : M 15 0 = nI q) (hq16 : q ≤ 16) : MetA yX6_trace (.code yX6_trace cX6_trace 2 (some .int) :: TT) rmX6_trace [.ref 0, .int i] (wM M) (fun vr wr => vr = some (.int (traceM M i).1) ∧ wr = wM (traceM M i).2) 0 0 := by
  refine MetA.of_i (by decide) (fun _ => Nat.le_of_ble_eq_true rfl) (Nat.le_of_ble_eq_true rfl) (fun g C E => ?_)
  replace C : Sem cX6_trace RX6 "trace" 2 rmX6_trace g := C
  show g 0 0 (wM M) 0 [some (.ref 0), some (.int i)] []
  refine r_iload_n (pc := 0) C dX6_trace_0 rfl rfl ?_
  refine r_i2l (pc := 1) (v := i.toInt64) C dX6_trace_1 rfl ?_
  refine r_lconst (pc := 2) (v := 0) C dX6_trace_2 (by decide) ?_
  refine r_aload_n (pc := 3) C dX6_trace_3 rfl rfl ?_
  refine r_getfield (pc := 4) (v := .int (M 15 0)) C xf_X6_218 dX6_trace_4 rfl rfl ?_
  refine r_iconst (pc := 7) (v := 1) C dX6_trace_7 (by decide) ?_
  refine r_isub (pc := 8) C dX6_trace_8 ?_
  refine r_i2l (pc := 9) (v := ((M 15 0) - 1).toInt64) C dX6_trace_9 rfl ?_
  refine r_callS0 (pc := 10) (As := [.long i.toInt64, .long 0, .long (((M 15 0) - 1).toInt64)]) (st := []) C (c_X6_inI i 0 ((M 15 0) - 1) rfl (by decide) rfl) xm_X6_in xk_X6_57 dX6_trace_10 (fun _ => rfl) (fun _ => rfl) rfl rfl (Nat.le_of_ble_eq_true rfl) ⟨Nat.le_of_ble_eq_true rfl, Nat.le_of_ble_eq_true rfl⟩ ⟨rfl, rfl⟩ ⟨Nat.le_of_ble_eq_true rfl, Nat.le_of_ble_eq_true rfl⟩ rfl ?_
  show g 0 0 (wM M) 13 [some (.ref 0), some (.int i)] [.int (bB (inI i 0 ((M 15 0) - 1)))]
  refine r_if_eq (pc := 13) (tgt := 25) C dX6_trace_13 (by decide) (fun h_13 => ?_) (fun h_13 => ?_)
  · replace h_13 := bB_f h_13
    refine r_ldc (pc := 25) (v := (-1000000)) C dX6_trace_25 tw_826 ?_
    show g 0 0 (wM M) 27 [some (.ref 0), some (.int i)] [.int (-1000000)]
    have hX : traceM M i = ((-1000000), M) := by
      unfold traceM
      rw [if_neg (nbt h_13)]
    exact E _ _ _ _ _ _ dX6_trace_27 (Nat.le_refl _) (Nat.le_refl _) rfl ⟨by rw [hX], by rw [hX]⟩
  · replace h_13 := bB_t h_13
    obtain ⟨ji, hji, rfl⟩ := inz_ex hq (by omega) h_13
    refine r_aload_n (pc := 16) C dX6_trace_16 rfl rfl ?_
    refine r_getfield (pc := 17) (v := .ref 11) C xf_X6_41 dX6_trace_17 rfl rfl ?_
    refine r_iload_n (pc := 20) C dX6_trace_20 rfl rfl ?_
    refine r_iaload (pc := 21) (v := M 14 ji) C ji dX6_trace_21 rfl rfl (by first | assumption | omega) rfl ?_
    refine r_goto (pc := 22) (tgt := 27) C dX6_trace_22 (by decide) ?_
    show g 0 0 (wM M) 27 [some (.ref 0), some (.int (nI ji))] [.int (M 14 ji)]
    have hX : traceM M (nI ji) = (M 14 ji, M) := by
      unfold traceM
      (try rw [ix_nI (show ji < 2 ^ 31 by omega)])
      rw [if_pos h_13]
    exact E _ _ _ _ _ _ dX6_trace_27 (Nat.le_refl _) (Nat.le_refl _) rfl ⟨by rw [hX], by rw [hX]⟩
def cntM (M : Nat → Nat → Int32) : Nat → Int32
  | 0 => 0
  | k + 1 => cntM M k + (if 0 ≤ M 1 k then 1 else 0)
def crdM (M : Nat → Nat → Int32) : Nat → Int32
  | 0 => 0
  | k + 1 => crdM M k + (if hasS (M 4 34) (nI k) then 1 else 0)
set_option maxHeartbeats 4000000 in
set_option maxRecDepth 100000 in
theorem lp_X6_count (M : Nat → Nat → Int32) (x : Int32) {g : Nat → Nat → List xE → Nat → List (Option Value) → List Value → Prop} (C : Sem cX6_count RX6 "count" 5 rmX6_count g) (kk : g 0 0 (wM M) 38 [some (.ref 0), some (.int x), some (.int (cntM M 8)), some (.int 0), none] []) : ∀ (n : Nat) (k : Nat), k + n = 8 → g 0 0 (wM M) 7 [some (.ref 0), some (.int x), some (.int (cntM M k)), some (.int 0), some (.int (nI k))] [] := by
  intro n
  induction n with
  | zero =>
    intro k hv
    have hvN : k = 8 := by omega
    rw [hvN]
    refine r_iload (pc := 7) C dX6_count_7 rfl ?_
    refine r_bipush (pc := 9) (v := 8) C dX6_count_9 (by decide) ?_
    refine r_icmp_ge (pc := 11) (tgt := 38) C dX6_count_11 (by decide) (fun _ => ?_) (fun h => absurd (nI_le (a := 8) (by omega) (by omega)) h)
    show g 0 0 (wM M) 38 [some (.ref 0), some (.int x), some (.int (cntM M 8)), some (.int 0), some (.int (nI 8))] []
    refine r_drop (lv' := [some (.ref 0), some (.int x), some (.int (cntM M 8)), some (.int 0), none]) C ⟨rfl, rfl, rfl, rfl, trivial⟩ ?_
    show g 0 0 (wM M) 38 [some (.ref 0), some (.int x), some (.int (cntM M 8)), some (.int 0), none] []
    exact kk
  | succ n ih =>
    intro k hv
    refine r_iload (pc := 7) C dX6_count_7 rfl ?_
    refine r_bipush (pc := 9) (v := 8) C dX6_count_9 (by decide) ?_
    refine r_icmp_ge (pc := 11) (tgt := 38) C dX6_count_11 (by decide) (fun h => absurd h (nI_ge (b := 8) (by omega) (by omega))) (fun _ => ?_)
    refine r_iload_n (pc := 14) C dX6_count_14 rfl rfl ?_
    refine r_aload_n (pc := 15) C dX6_count_15 rfl rfl ?_
    refine r_getfield (pc := 16) (v := .ref 2) C xf_X6_13 dX6_count_16 rfl rfl ?_
    refine r_iload (pc := 19) C dX6_count_19 rfl ?_
    refine r_iaload (pc := 21) (v := M 1 k) C k dX6_count_21 rfl rfl (by first | assumption | omega) rfl ?_
    refine r_if_ge (pc := 22) (tgt := 29) C dX6_count_22 (by decide) (fun h_22 => ?_) (fun h_22 => ?_)
    · skip
      refine r_iconst (pc := 29) (v := 1) C dX6_count_29 (by decide) ?_
      refine r_iadd (pc := 30) C dX6_count_30 ?_
      refine r_istore_n (pc := 31) (lv' := [some (.ref 0), some (.int x), some (.int ((cntM M k) + 1)), some (.int 0), some (.int (nI k))]) C dX6_count_31 rfl (Nat.le_of_ble_eq_true rfl) trivial rfl ?_
      refine r_iinc (pc := 32) (v := nI (k + 1)) (lv' := [some (.ref 0), some (.int x), some (.int ((cntM M k) + 1)), some (.int 0), some (.int (nI (k + 1)))]) C dX6_count_32 rfl (nI_1 k) trivial rfl ?_
      refine r_goto (pc := 35) (tgt := 7) C dX6_count_35 (by decide) ?_
      show g 0 0 (wM M) 7 [some (.ref 0), some (.int x), some (.int ((cntM M k) + 1)), some (.int 0), some (.int (nI (k + 1)))] []
      rw [show ((cntM M k) + 1 : Int32) = cntM M (k + 1) from by simp only [cntM, h_22, if_true, if_false]]
      exact ih (k + 1) (by omega)
    · skip
      refine r_iconst (pc := 25) (v := 0) C dX6_count_25 (by decide) ?_
      refine r_goto (pc := 26) (tgt := 30) C dX6_count_26 (by decide) ?_
      refine r_iadd (pc := 30) C dX6_count_30 ?_
      refine r_istore_n (pc := 31) (lv' := [some (.ref 0), some (.int x), some (.int ((cntM M k) + 0)), some (.int 0), some (.int (nI k))]) C dX6_count_31 rfl (Nat.le_of_ble_eq_true rfl) trivial rfl ?_
      refine r_iinc (pc := 32) (v := nI (k + 1)) (lv' := [some (.ref 0), some (.int x), some (.int ((cntM M k) + 0)), some (.int 0), some (.int (nI (k + 1)))]) C dX6_count_32 rfl (nI_1 k) trivial rfl ?_
      refine r_goto (pc := 35) (tgt := 7) C dX6_count_35 (by decide) ?_
      show g 0 0 (wM M) 7 [some (.ref 0), some (.int x), some (.int ((cntM M k) + 0)), some (.int 0), some (.int (nI (k + 1)))] []
      rw [show ((cntM M k) + 0 : Int32) = cntM M (k + 1) from by simp only [cntM, h_22, if_true, if_false]]
      exact ih (k + 1) (by omega)
set_option maxHeartbeats 4000000 in
set_option maxRecDepth 100000 in
theorem lp2_X6_count (M : Nat → Nat → Int32) (x y : Int32) {g : Nat → Nat → List xE → Nat → List (Option Value) → List Value → Prop} (C : Sem cX6_count RX6 "count" 5 rmX6_count g) (kk : g 0 0 (wM M) 77 [some (.ref 0), some (.int x), some (.int y), some (.int (crdM M 6)), none] []) : ∀ (n : Nat) (k : Nat), k + n = 6 → g 0 0 (wM M) 41 [some (.ref 0), some (.int x), some (.int y), some (.int (crdM M k)), some (.int (nI k))] [] := by
  intro n
  induction n with
  | zero =>
    intro k hv
    have hvN : k = 6 := by omega
    rw [hvN]
    refine r_iload (pc := 41) C dX6_count_41 rfl ?_
    refine r_bipush (pc := 43) (v := 6) C dX6_count_43 (by decide) ?_
    refine r_icmp_ge (pc := 45) (tgt := 77) C dX6_count_45 (by decide) (fun _ => ?_) (fun h => absurd (nI_le (a := 6) (by omega) (by omega)) h)
    show g 0 0 (wM M) 77 [some (.ref 0), some (.int x), some (.int y), some (.int (crdM M 6)), some (.int (nI 6))] []
    refine r_drop (lv' := [some (.ref 0), some (.int x), some (.int y), some (.int (crdM M 6)), none]) C ⟨rfl, rfl, rfl, rfl, trivial⟩ ?_
    show g 0 0 (wM M) 77 [some (.ref 0), some (.int x), some (.int y), some (.int (crdM M 6)), none] []
    exact kk
  | succ n ih =>
    intro k hv
    refine r_iload (pc := 41) C dX6_count_41 rfl ?_
    refine r_bipush (pc := 43) (v := 6) C dX6_count_43 (by decide) ?_
    refine r_icmp_ge (pc := 45) (tgt := 77) C dX6_count_45 (by decide) (fun h => absurd h (nI_ge (b := 6) (by omega) (by omega))) (fun _ => ?_)
    refine r_iload_n (pc := 48) C dX6_count_48 rfl rfl ?_
    refine r_aload_n (pc := 49) C dX6_count_49 rfl rfl ?_
    refine r_getfield (pc := 50) (v := .ref 4) C xf_X6_19 dX6_count_50 rfl rfl ?_
    refine r_bipush (pc := 53) (v := 34) C dX6_count_53 (by decide) ?_
    refine r_iaload (pc := 55) (v := M 4 34) C 34 dX6_count_55 rfl (by decide) (by decide) rfl ?_
    refine r_iload (pc := 56) C dX6_count_56 rfl ?_
    refine r_callS0 (pc := 58) (As := [.int (M 4 34), .int (nI k)]) (st := [.int (crdM M k)]) C (c_X6_has (M 4 34) (nI k)) xm_X6_has xk_X6_143 dX6_count_58 (fun _ => rfl) (fun _ => rfl) rfl rfl (Nat.le_of_ble_eq_true rfl) ⟨Nat.le_of_ble_eq_true rfl, Nat.le_of_ble_eq_true rfl⟩ ⟨rfl, rfl⟩ ⟨Nat.le_of_ble_eq_true rfl, Nat.le_of_ble_eq_true rfl⟩ rfl ?_
    show g 0 0 (wM M) 61 [some (.ref 0), some (.int x), some (.int y), some (.int (crdM M k)), some (.int (nI k))] [.int (bB (hasS (M 4 34) (nI k))), .int (crdM M k)]
    refine r_if_eq (pc := 61) (tgt := 68) C dX6_count_61 (by decide) (fun h_61 => ?_) (fun h_61 => ?_)
    · replace h_61 := bB_f h_61
      refine r_iconst (pc := 68) (v := 0) C dX6_count_68 (by decide) ?_
      refine r_iadd (pc := 69) C dX6_count_69 ?_
      refine r_istore_n (pc := 70) (lv' := [some (.ref 0), some (.int x), some (.int y), some (.int ((crdM M k) + 0)), some (.int (nI k))]) C dX6_count_70 rfl (Nat.le_of_ble_eq_true rfl) trivial rfl ?_
      refine r_iinc (pc := 71) (v := nI (k + 1)) (lv' := [some (.ref 0), some (.int x), some (.int y), some (.int ((crdM M k) + 0)), some (.int (nI (k + 1)))]) C dX6_count_71 rfl (nI_1 k) trivial rfl ?_
      refine r_goto (pc := 74) (tgt := 41) C dX6_count_74 (by decide) ?_
      show g 0 0 (wM M) 41 [some (.ref 0), some (.int x), some (.int y), some (.int ((crdM M k) + 0)), some (.int (nI (k + 1)))] []
      rw [show ((crdM M k) + 0 : Int32) = crdM M (k + 1) from by simp only [crdM, h_61, if_true, if_false, Bool.false_eq_true]]
      exact ih (k + 1) (by omega)
    · replace h_61 := bB_t h_61
      refine r_iconst (pc := 64) (v := 1) C dX6_count_64 (by decide) ?_
      refine r_goto (pc := 65) (tgt := 69) C dX6_count_65 (by decide) ?_
      refine r_iadd (pc := 69) C dX6_count_69 ?_
      refine r_istore_n (pc := 70) (lv' := [some (.ref 0), some (.int x), some (.int y), some (.int ((crdM M k) + 1)), some (.int (nI k))]) C dX6_count_70 rfl (Nat.le_of_ble_eq_true rfl) trivial rfl ?_
      refine r_iinc (pc := 71) (v := nI (k + 1)) (lv' := [some (.ref 0), some (.int x), some (.int y), some (.int ((crdM M k) + 1)), some (.int (nI (k + 1)))]) C dX6_count_71 rfl (nI_1 k) trivial rfl ?_
      refine r_goto (pc := 74) (tgt := 41) C dX6_count_74 (by decide) ?_
      show g 0 0 (wM M) 41 [some (.ref 0), some (.int x), some (.int y), some (.int ((crdM M k) + 1)), some (.int (nI (k + 1)))] []
      rw [show ((crdM M k) + 1 : Int32) = crdM M (k + 1) from by simp only [crdM, h_61, if_true, if_false, Bool.false_eq_true]]
      exact ih (k + 1) (by omega)
def countM (M : Nat → Nat → Int32) (x : Int32) : Int32 × (Nat → Nat → Int32) := (if x = 0 then (cntM M 8, M) else (if x = 1 then (M 4 0, M) else (if x = 2 then (M 4 35, M) else (if x = 3 then (M 4 1, M) else (if x = 4 then (M 4 2, M) else (if x = 5 then (crdM M 6, M) else (if x = 6 then (M 8 0, M) else (if x = 7 then (M 12 0, M) else ((-1000001), M)))))))))
set_option maxHeartbeats 4000000 in
set_option maxRecDepth 100000 in
theorem c_X6_count (M : Nat → Nat → Int32) (x : Int32) : MetA yX6_count (.code yX6_count cX6_count 5 (some .int) :: TT) rmX6_count [.ref 0, .int x] (wM M) (fun vr wr => vr = some (.int (countM M x).1) ∧ wr = wM (countM M x).2) 0 0 := by
  refine MetA.of_i (by decide) (fun _ => Nat.le_of_ble_eq_true rfl) (Nat.le_of_ble_eq_true rfl) (fun g C E => ?_)
  replace C : Sem cX6_count RX6 "count" 5 rmX6_count g := C
  show g 0 0 (wM M) 0 [some (.ref 0), some (.int x), none, none, none] []
  refine r_iconst (pc := 0) (v := 0) C dX6_count_0 (by decide) ?_
  refine r_istore_n (pc := 1) (lv' := [some (.ref 0), some (.int x), some (.int 0), none, none]) C dX6_count_1 rfl (Nat.le_of_ble_eq_true rfl) trivial rfl ?_
  refine r_iconst (pc := 2) (v := 0) C dX6_count_2 (by decide) ?_
  refine r_istore_n (pc := 3) (lv' := [some (.ref 0), some (.int x), some (.int 0), some (.int 0), none]) C dX6_count_3 rfl (Nat.le_of_ble_eq_true rfl) trivial rfl ?_
  refine r_iconst (pc := 4) (v := 0) C dX6_count_4 (by decide) ?_
  refine r_istore (pc := 5) (lv' := [some (.ref 0), some (.int x), some (.int 0), some (.int 0), some (.int 0)]) C dX6_count_5 (Nat.le_of_ble_eq_true rfl) trivial rfl ?_
  show g 0 0 (wM M) 7 [some (.ref 0), some (.int x), some (.int 0), some (.int 0), some (.int 0)] []
  refine lp_X6_count M x C ?_ 8 0 (by omega)
  show g 0 0 (wM M) 38 [some (.ref 0), some (.int x), some (.int (cntM M 8)), some (.int 0), none] []
  refine r_iconst (pc := 38) (v := 0) C dX6_count_38 (by decide) ?_
  refine r_istore (pc := 39) (lv' := [some (.ref 0), some (.int x), some (.int (cntM M 8)), some (.int 0), some (.int 0)]) C dX6_count_39 (Nat.le_of_ble_eq_true rfl) trivial rfl ?_
  show g 0 0 (wM M) 41 [some (.ref 0), some (.int x), some (.int (cntM M 8)), some (.int 0), some (.int 0)] []
  refine lp2_X6_count M x (cntM M 8) C ?_ 6 0 (by omega)
  show g 0 0 (wM M) 77 [some (.ref 0), some (.int x), some (.int (cntM M 8)), some (.int (crdM M 6)), none] []
  refine r_iload_n (pc := 77) C dX6_count_77 rfl rfl ?_
  by_cases q_78_0 : x = 0
  · refine r_tableIn (pc := 78) (off := 46) (tgt := 124) C dX6_count_78 (by rw [q_78_0]; decide) (by rw [q_78_0]; decide) (by rw [q_78_0]; rfl) (by decide) ?_
    refine r_iload_n (pc := 124) C dX6_count_124 rfl rfl ?_
    show g 0 0 (wM M) 125 [some (.ref 0), some (.int x), some (.int (cntM M 8)), some (.int (crdM M 6)), none] [.int (cntM M 8)]
    have hX : countM M x = (cntM M 8, M) := by
      unfold countM
      rw [if_pos q_78_0]
    exact E _ _ _ _ _ _ dX6_count_125 (Nat.le_refl _) (Nat.le_refl _) rfl ⟨by rw [hX], by rw [hX]⟩
  by_cases q_78_1 : x = 1
  · refine r_tableIn (pc := 78) (off := 48) (tgt := 126) C dX6_count_78 (by rw [q_78_1]; decide) (by rw [q_78_1]; decide) (by rw [q_78_1]; rfl) (by decide) ?_
    refine r_aload_n (pc := 126) C dX6_count_126 rfl rfl ?_
    refine r_getfield (pc := 127) (v := .ref 4) C xf_X6_19 dX6_count_127 rfl rfl ?_
    refine r_iconst (pc := 130) (v := 0) C dX6_count_130 (by decide) ?_
    refine r_iaload (pc := 131) (v := M 4 0) C 0 dX6_count_131 rfl (by decide) (by decide) rfl ?_
    show g 0 0 (wM M) 132 [some (.ref 0), some (.int x), some (.int (cntM M 8)), some (.int (crdM M 6)), none] [.int (M 4 0)]
    have hX : countM M x = (M 4 0, M) := by
      unfold countM
      rw [if_neg q_78_0, if_pos q_78_1]
    exact E _ _ _ _ _ _ dX6_count_132 (Nat.le_refl _) (Nat.le_refl _) rfl ⟨by rw [hX], by rw [hX]⟩
  by_cases q_78_2 : x = 2
  · refine r_tableIn (pc := 78) (off := 55) (tgt := 133) C dX6_count_78 (by rw [q_78_2]; decide) (by rw [q_78_2]; decide) (by rw [q_78_2]; rfl) (by decide) ?_
    refine r_aload_n (pc := 133) C dX6_count_133 rfl rfl ?_
    refine r_getfield (pc := 134) (v := .ref 4) C xf_X6_19 dX6_count_134 rfl rfl ?_
    refine r_bipush (pc := 137) (v := 35) C dX6_count_137 (by decide) ?_
    refine r_iaload (pc := 139) (v := M 4 35) C 35 dX6_count_139 rfl (by decide) (by decide) rfl ?_
    show g 0 0 (wM M) 140 [some (.ref 0), some (.int x), some (.int (cntM M 8)), some (.int (crdM M 6)), none] [.int (M 4 35)]
    have hX : countM M x = (M 4 35, M) := by
      unfold countM
      rw [if_neg q_78_0, if_neg q_78_1, if_pos q_78_2]
    exact E _ _ _ _ _ _ dX6_count_140 (Nat.le_refl _) (Nat.le_refl _) rfl ⟨by rw [hX], by rw [hX]⟩
  by_cases q_78_3 : x = 3
  · refine r_tableIn (pc := 78) (off := 63) (tgt := 141) C dX6_count_78 (by rw [q_78_3]; decide) (by rw [q_78_3]; decide) (by rw [q_78_3]; rfl) (by decide) ?_
    refine r_aload_n (pc := 141) C dX6_count_141 rfl rfl ?_
    refine r_getfield (pc := 142) (v := .ref 4) C xf_X6_19 dX6_count_142 rfl rfl ?_
    refine r_iconst (pc := 145) (v := 1) C dX6_count_145 (by decide) ?_
    refine r_iaload (pc := 146) (v := M 4 1) C 1 dX6_count_146 rfl (by decide) (by decide) rfl ?_
    show g 0 0 (wM M) 147 [some (.ref 0), some (.int x), some (.int (cntM M 8)), some (.int (crdM M 6)), none] [.int (M 4 1)]
    have hX : countM M x = (M 4 1, M) := by
      unfold countM
      rw [if_neg q_78_0, if_neg q_78_1, if_neg q_78_2, if_pos q_78_3]
    exact E _ _ _ _ _ _ dX6_count_147 (Nat.le_refl _) (Nat.le_refl _) rfl ⟨by rw [hX], by rw [hX]⟩
  by_cases q_78_4 : x = 4
  · refine r_tableIn (pc := 78) (off := 70) (tgt := 148) C dX6_count_78 (by rw [q_78_4]; decide) (by rw [q_78_4]; decide) (by rw [q_78_4]; rfl) (by decide) ?_
    refine r_aload_n (pc := 148) C dX6_count_148 rfl rfl ?_
    refine r_getfield (pc := 149) (v := .ref 4) C xf_X6_19 dX6_count_149 rfl rfl ?_
    refine r_iconst (pc := 152) (v := 2) C dX6_count_152 (by decide) ?_
    refine r_iaload (pc := 153) (v := M 4 2) C 2 dX6_count_153 rfl (by decide) (by decide) rfl ?_
    show g 0 0 (wM M) 154 [some (.ref 0), some (.int x), some (.int (cntM M 8)), some (.int (crdM M 6)), none] [.int (M 4 2)]
    have hX : countM M x = (M 4 2, M) := by
      unfold countM
      rw [if_neg q_78_0, if_neg q_78_1, if_neg q_78_2, if_neg q_78_3, if_pos q_78_4]
    exact E _ _ _ _ _ _ dX6_count_154 (Nat.le_refl _) (Nat.le_refl _) rfl ⟨by rw [hX], by rw [hX]⟩
  by_cases q_78_5 : x = 5
  · refine r_tableIn (pc := 78) (off := 77) (tgt := 155) C dX6_count_78 (by rw [q_78_5]; decide) (by rw [q_78_5]; decide) (by rw [q_78_5]; rfl) (by decide) ?_
    refine r_iload_n (pc := 155) C dX6_count_155 rfl rfl ?_
    show g 0 0 (wM M) 156 [some (.ref 0), some (.int x), some (.int (cntM M 8)), some (.int (crdM M 6)), none] [.int (crdM M 6)]
    have hX : countM M x = (crdM M 6, M) := by
      unfold countM
      rw [if_neg q_78_0, if_neg q_78_1, if_neg q_78_2, if_neg q_78_3, if_neg q_78_4, if_pos q_78_5]
    exact E _ _ _ _ _ _ dX6_count_156 (Nat.le_refl _) (Nat.le_refl _) rfl ⟨by rw [hX], by rw [hX]⟩
  by_cases q_78_6 : x = 6
  · refine r_tableIn (pc := 78) (off := 79) (tgt := 157) C dX6_count_78 (by rw [q_78_6]; decide) (by rw [q_78_6]; decide) (by rw [q_78_6]; rfl) (by decide) ?_
    refine r_aload_n (pc := 157) C dX6_count_157 rfl rfl ?_
    refine r_getfield (pc := 158) (v := .int (M 8 0)) C xf_X6_136 dX6_count_158 rfl rfl ?_
    show g 0 0 (wM M) 161 [some (.ref 0), some (.int x), some (.int (cntM M 8)), some (.int (crdM M 6)), none] [.int (M 8 0)]
    have hX : countM M x = (M 8 0, M) := by
      unfold countM
      rw [if_neg q_78_0, if_neg q_78_1, if_neg q_78_2, if_neg q_78_3, if_neg q_78_4, if_neg q_78_5, if_pos q_78_6]
    exact E _ _ _ _ _ _ dX6_count_161 (Nat.le_refl _) (Nat.le_refl _) rfl ⟨by rw [hX], by rw [hX]⟩
  by_cases q_78_7 : x = 7
  · refine r_tableIn (pc := 78) (off := 84) (tgt := 162) C dX6_count_78 (by rw [q_78_7]; decide) (by rw [q_78_7]; decide) (by rw [q_78_7]; rfl) (by decide) ?_
    refine r_aload_n (pc := 162) C dX6_count_162 rfl rfl ?_
    refine r_getfield (pc := 163) (v := .int (M 12 0)) C xf_X6_77 dX6_count_163 rfl rfl ?_
    show g 0 0 (wM M) 166 [some (.ref 0), some (.int x), some (.int (cntM M 8)), some (.int (crdM M 6)), none] [.int (M 12 0)]
    have hX : countM M x = (M 12 0, M) := by
      unfold countM
      rw [if_neg q_78_0, if_neg q_78_1, if_neg q_78_2, if_neg q_78_3, if_neg q_78_4, if_neg q_78_5, if_neg q_78_6, if_pos q_78_7]
    exact E _ _ _ _ _ _ dX6_count_166 (Nat.le_refl _) (Nat.le_refl _) rfl ⟨by rw [hX], by rw [hX]⟩
  refine r_tableOut (pc := 78) (tgt := 167) C dX6_count_78 (by have t_0 := lv_neT (a := 0) q_78_0 rfl; have t_1 := lv_neT (a := 1) q_78_1 rfl; have t_2 := lv_neT (a := 2) q_78_2 rfl; have t_3 := lv_neT (a := 3) q_78_3 rfl; have t_4 := lv_neT (a := 4) q_78_4 rfl; have t_5 := lv_neT (a := 5) q_78_5 rfl; have t_6 := lv_neT (a := 6) q_78_6 rfl; have t_7 := lv_neT (a := 7) q_78_7 rfl; omega) (by decide) ?_
  refine r_ldc (pc := 167) (v := (-1000001)) C dX6_count_167 tw_668 ?_
  show g 0 0 (wM M) 169 [some (.ref 0), some (.int x), some (.int (cntM M 8)), some (.int (crdM M 6)), none] [.int (-1000001)]
  have hX : countM M x = ((-1000001), M) := by
    unfold countM
    rw [if_neg q_78_0, if_neg q_78_1, if_neg q_78_2, if_neg q_78_3, if_neg q_78_4, if_neg q_78_5, if_neg q_78_6, if_neg q_78_7]
  exact E _ _ _ _ _ _ dX6_count_169 (Nat.le_refl _) (Nat.le_refl _) rfl ⟨by rw [hX], by rw [hX]⟩
theorem rmQ_eq (q : Nat) : rmQ q = nI (if q = 24 then 24 else q + 1) := by
  unfold rmQ
  by_cases h : q = 24
  · rw [if_pos h, if_pos h]
  · rw [if_neg h, if_neg h]
def minM1 (M : Nat → Nat → Int32) (q : Nat) : Nat → Nat → Int32 := up2 (rmS M q) 4 (upd (M 4) 35 (M 4 35 + 1))
def minMn (M : Nat → Nat → Int32) (q : Nat) : Nat → Nat → Nat → Int32
  | 0 => M
  | n + 1 => minMn (minM1 M q) (if q = 24 then 24 else q + 1) n
noncomputable def minMT : (Nat → Nat → Int32) → Nat → Nat → Nat → Nat → Int32 := Classical.choose (seal_ex minMn)
theorem minMT_eq : minMT = minMn := Classical.choose_spec (seal_ex minMn)
theorem minMn_z (n : Nat) : ∀ (M : Nat → Nat → Int32) (q k : Nat), k < 35 → minMn M q n 4 k = M 4 k := by
  induction n with
  | zero => intro M q k _; rfl
  | succ n ih =>
    intro M q k hk
    rw [minMn, ih _ _ _ hk]
    exact if_neg (by omega)
theorem vw_eq {t t' : Nat → Int32} (h : ∀ k, k < 35 → t' k = t k) {k i : Nat} (hk : k < 5) (hi : i < 6) : vw t' k i = vw t k i := by
  match k, hk with
  | 0, _ => exact h _ (by omega)
  | 1, _ => exact h _ (by omega)
  | 2, _ => exact h _ (by omega)
  | 3, _ => exact h _ (by omega)
  | 4, _ => exact h _ (by omega)
theorem okM_eq {M M' : Nat → Nat → Int32} {z : Nat} (h : ∀ k, k < 35 → M' 4 k = M 4 k) (hM : okM M z) : okM M' z := by
  obtain ⟨h1, h2, h3, h4⟩ := hM
  refine ⟨by rw [h 0 (by omega)]; exact h1, h2, fun i hi => ?_, fun i hi => ?_⟩
  · rw [vw_eq h (by omega) hi]; exact h3 i hi
  · unfold okK
    rw [vw_eq h (by omega) (by omega)]
    exact h4 i hi
theorem okM_min {M : Nat → Nat → Int32} {z : Nat} (q n : Nat) (hM : okM M z) : okM (minMT M q n) z := by
  rw [minMT_eq]
  exact okM_eq (fun k hk => minMn_z n M q k hk) hM
theorem n24M_ex {n : Int32} (h : inI n 1 24 = true) : ∃ k, k ≤ 24 ∧ n = nI k := by
  unfold inI at h
  simp only [Bool.and_eq_true, decide_eq_true_eq] at h
  exact nI_of2 (M := 24) rfl (Int32.not_lt.mpr (Int32.le_trans (by decide) h.1)) h.2
set_option maxHeartbeats 4000000 in
set_option maxRecDepth 100000 in
theorem lp_X6_minutes (M0 : Nat → Nat → Int32) (q0 nn : Nat) (hn24 : nn ≤ 24) (z : Nat) (hM0 : okM (minMT M0 q0 nn) z) {g : Nat → Nat → List xE → Nat → List (Option Value) → List Value → Prop} (C : Sem cX6_minutes RX6 "minutes" 3 rmX6_minutes g) (E : xEi g cX6_minutes .int 0 0 (fun vr wr => vr = some (.int (bitsS (fun i => downS (vw (minMT M0 q0 nn 4)) i (minMT M0 q0 nn 4 35)) z)) ∧ wr = wM (minMT M0 q0 nn))) : ∀ (n : Nat) (i : Nat) (M : Nat → Nat → Int32) (q : Nat), i + n = nn → M 8 0 = nI q → q ≤ 24 → minMn M q n = minMT M0 q0 nn → g 0 0 (wM M) 45 [some (.ref 0), some (.int (nI nn)), some (.int (nI i))] [] := by
  intro n
  induction n with
  | zero =>
    intro i M q hi hq hq24 hE
    have hE2 : M = minMT M0 q0 nn := hE
    subst hE2
    refine r_iload_n (pc := 45) C dX6_minutes_45 rfl rfl ?_
    refine r_iload_n (pc := 46) C dX6_minutes_46 rfl rfl ?_
    refine r_icmp_ge (pc := 47) (tgt := 71) C dX6_minutes_47 (by decide) (fun _ => ?_) (fun h => absurd (nI_le (by omega) (by omega)) h)
    refine r_aload_n (pc := 71) C dX6_minutes_71 rfl rfl ?_
    refine r_getfield (pc := 72) (v := .ref 4) C xf_X6_19 dX6_minutes_72 rfl rfl ?_
    refine r_aload_n (pc := 75) C dX6_minutes_75 rfl rfl ?_
    refine r_getfield (pc := 76) (v := .ref 4) C xf_X6_19 dX6_minutes_76 rfl rfl ?_
    refine r_bipush (pc := 79) (v := 35) C dX6_minutes_79 (by decide) ?_
    refine r_iaload (pc := 81) (v := (minMT M0 q0 nn) 4 35) C 35 dX6_minutes_81 rfl (by decide) (by decide) rfl ?_
    refine r_callSD (pc := 82) (As := [.ref 4, .int ((minMT M0 q0 nn) 4 35)]) (st := []) (θ2 := wM (minMT M0 q0 nn)) (r2 := some (.int (bitsS (fun i => downS (vw ((minMT M0 q0 nn) 4)) i ((minMT M0 q0 nn) 4 35)) z))) C [4] (c_X6_downOf ((minMT M0 q0 nn) 4) ((minMT M0 q0 nn) 4 35) z hM0.1 hM0.2.1 hM0.2.2.2) xm_X6_downOf xk_X6_177 dX6_minutes_82 rfl (by decide) rfl rfl rfl (Nat.le_of_ble_eq_true rfl) ⟨Nat.le_of_ble_eq_true rfl, Nat.le_of_ble_eq_true rfl⟩ ⟨rfl, rfl⟩ ⟨Nat.le_of_ble_eq_true rfl, Nat.le_of_ble_eq_true rfl⟩ rfl (Eq.trans (b := 1) rfl rfl) rfl rfl ?_
    show g 0 0 (wM (minMT M0 q0 nn)) 85 [some (.ref 0), some (.int (nI nn)), some (.int (nI i))] [.int (bitsS (fun i => downS (vw ((minMT M0 q0 nn) 4)) i ((minMT M0 q0 nn) 4 35)) z)]
    exact E _ _ _ _ _ _ dX6_minutes_85 (Nat.le_refl _) (Nat.le_refl _) rfl ⟨rfl, rfl⟩
  | succ n ih =>
    intro i M q hi hq hq24 hE
    refine r_iload_n (pc := 45) C dX6_minutes_45 rfl rfl ?_
    refine r_iload_n (pc := 46) C dX6_minutes_46 rfl rfl ?_
    refine r_icmp_ge (pc := 47) (tgt := 71) C dX6_minutes_47 (by decide) (fun h => absurd h (nI_ge (by omega) (by omega))) (fun _ => ?_)
    refine r_aload_n (pc := 50) C dX6_minutes_50 rfl rfl ?_
    refine r_callV0 (pc := 51) (As := []) (st := []) (θ' := wM (up2 (up2 M 7 (rmP M q)) 8 (k1 (rmQ q)))) C (c_X6_remember M q hq hq24) xm_X6_remember xk_X6_174 dX6_minutes_51 rfl rfl rfl rfl (Nat.le_of_ble_eq_true rfl) ⟨Nat.le_of_ble_eq_true rfl, Nat.le_of_ble_eq_true rfl⟩ ⟨rfl, rfl⟩ ⟨Nat.le_of_ble_eq_true rfl, Nat.le_of_ble_eq_true rfl⟩ rfl (Eq.trans (b := 14) rfl rfl) ?_
    show g 0 0 (wM (up2 (up2 M 7 (rmP M q)) 8 (k1 (rmQ q)))) 54 [some (.ref 0), some (.int (nI nn)), some (.int (nI i))] []
    refine r_aload_n (pc := 54) C dX6_minutes_54 rfl rfl ?_
    refine r_getfield (pc := 55) (v := .ref 4) C xf_X6_19 dX6_minutes_55 rfl rfl ?_
    refine r_bipush (pc := 58) (v := 35) C dX6_minutes_58 (by decide) ?_
    refine r_dup2_11 (pc := 60) C dX6_minutes_60 rfl rfl ?_
    refine r_iaload (pc := 61) (v := M 4 35) C 35 dX6_minutes_61 rfl (by decide) (by decide) rfl ?_
    refine r_iconst (pc := 62) (v := 1) C dX6_minutes_62 (by decide) ?_
    refine r_iadd (pc := 63) C dX6_minutes_63 ?_
    refine r_iastore (pc := 64) (θ' := wM (up2 (up2 (up2 M 7 (rmP M q)) 8 (k1 (rmQ q))) 4 (upd (M 4) 35 ((M 4 35) + 1)))) C 35 dX6_minutes_64 rfl (by decide) (by decide) rfl ?_
    refine r_iinc (pc := 65) (v := nI (i + 1)) (lv' := [some (.ref 0), some (.int (nI nn)), some (.int (nI (i + 1)))]) C dX6_minutes_65 rfl (nI_1 i) trivial rfl ?_
    refine r_goto (pc := 68) (tgt := 45) C dX6_minutes_68 (by decide) ?_
    show g 0 0 (wM (up2 (up2 (up2 M 7 (rmP M q)) 8 (k1 (rmQ q))) 4 (upd (M 4) 35 ((M 4 35) + 1)))) 45 [some (.ref 0), some (.int (nI nn)), some (.int (nI (i + 1)))] []
    exact ih (i + 1) _ _ (by omega) (rmQ_eq q) (by split <;> omega) hE
noncomputable def minM (M : Nat → Nat → Int32) (z q : Nat) (n : Int32) : Int32 × (Nat → Nat → Int32) := (if (decide (M 4 3 = 1)) = true then (if (inI n 1 24) = true then (if ((M 4 35) + n) ≤ 999 then (bitsS (fun i => downS (vw (minMT M q (ix n) 4)) i (minMT M q (ix n) 4 35)) z, minMT M q (ix n)) else ((-1000003), M)) else ((-1000001), M)) else ((-1000002), M))
set_option maxHeartbeats 4000000 in
set_option maxRecDepth 100000 in
theorem c_X6_minutes (M : Nat → Nat → Int32) (n : Int32) (z : Nat) (hM : okM M z) (q : Nat) (hq : M 8 0 = nI q) (hq24 : q ≤ 24) : MetA yX6_minutes (.code yX6_minutes cX6_minutes 3 (some .int) :: TT) rmX6_minutes [.ref 0, .int n] (wM M) (fun vr wr => vr = some (.int (minM M z q n).1) ∧ wr = wM (minM M z q n).2) 0 0 := by
  refine MetA.of_i (by decide) (fun _ => Nat.le_of_ble_eq_true rfl) (Nat.le_of_ble_eq_true rfl) (fun g C E => ?_)
  replace C : Sem cX6_minutes RX6 "minutes" 3 rmX6_minutes g := C
  show g 0 0 (wM M) 0 [some (.ref 0), some (.int n), none] []
  refine r_aload_n (pc := 0) C dX6_minutes_0 rfl rfl ?_
  refine r_callV0 (pc := 1) (As := []) (st := []) (θ' := wM M) C (c_X6_isForest M ) xm_X6_isForest xk_X6_168 dX6_minutes_1 rfl rfl rfl rfl (Nat.le_of_ble_eq_true rfl) ⟨Nat.le_of_ble_eq_true rfl, Nat.le_of_ble_eq_true rfl⟩ ⟨rfl, rfl⟩ ⟨Nat.le_of_ble_eq_true rfl, Nat.le_of_ble_eq_true rfl⟩ rfl (Eq.trans (b := 14) rfl rfl) ?_
  show g 0 0 (wM M) 4 [some (.ref 0), some (.int n), none] [.int (bB (decide (M 4 3 = 1)))]
  refine r_if_ne (pc := 4) (tgt := 10) C dX6_minutes_4 (by decide) (fun h_4 => ?_) (fun h_4 => ?_)
  · replace h_4 := bB_t h_4
    refine r_iload_n (pc := 10) C dX6_minutes_10 rfl rfl ?_
    refine r_i2l (pc := 11) (v := n.toInt64) C dX6_minutes_11 rfl ?_
    refine r_lconst (pc := 12) (v := 1) C dX6_minutes_12 (by decide) ?_
    refine r_ldc2 (pc := 13) (v := 24) C dX6_minutes_13 tw_748 ?_
    refine r_callS0 (pc := 16) (As := [.long n.toInt64, .long 1, .long 24]) (st := []) C (c_X6_inI n 1 24 rfl (by decide) (by decide)) xm_X6_in xk_X6_57 dX6_minutes_16 (fun _ => rfl) (fun _ => rfl) rfl rfl (Nat.le_of_ble_eq_true rfl) ⟨Nat.le_of_ble_eq_true rfl, Nat.le_of_ble_eq_true rfl⟩ ⟨rfl, rfl⟩ ⟨Nat.le_of_ble_eq_true rfl, Nat.le_of_ble_eq_true rfl⟩ rfl ?_
    show g 0 0 (wM M) 19 [some (.ref 0), some (.int n), none] [.int (bB (inI n 1 24))]
    refine r_if_ne (pc := 19) (tgt := 25) C dX6_minutes_19 (by decide) (fun h_19 => ?_) (fun h_19 => ?_)
    · replace h_19 := bB_t h_19
      refine r_aload_n (pc := 25) C dX6_minutes_25 rfl rfl ?_
      refine r_getfield (pc := 26) (v := .ref 4) C xf_X6_19 dX6_minutes_26 rfl rfl ?_
      refine r_bipush (pc := 29) (v := 35) C dX6_minutes_29 (by decide) ?_
      refine r_iaload (pc := 31) (v := M 4 35) C 35 dX6_minutes_31 rfl (by decide) (by decide) rfl ?_
      refine r_iload_n (pc := 32) C dX6_minutes_32 rfl rfl ?_
      refine r_iadd (pc := 33) C dX6_minutes_33 ?_
      refine r_sipush (pc := 34) (v := 999) C dX6_minutes_34 (by decide) ?_
      refine r_icmp_le (pc := 37) (tgt := 43) C dX6_minutes_37 (by decide) (fun h_37 => ?_) (fun h_37 => ?_)
      · skip
        refine r_iconst (pc := 43) (v := 0) C dX6_minutes_43 (by decide) ?_
        refine r_istore_n (pc := 44) (lv' := [some (.ref 0), some (.int n), some (.int 0)]) C dX6_minutes_44 rfl (Nat.le_of_ble_eq_true rfl) trivial rfl ?_
        obtain ⟨kn, hkn, rfl⟩ := n24M_ex h_19
        show g 0 0 (wM M) 45 [some (.ref 0), some (.int (nI kn)), some (.int 0)] []
        have hX : minM M z q (nI kn) = (bitsS (fun i => downS (vw (minMT M q kn 4)) i (minMT M q kn 4 35)) z, minMT M q kn) := by
          unfold minM
          (try rw [ix_nI (show kn < 2 ^ 31 by omega)])
          rw [if_pos h_4, if_pos h_19, if_pos h_37]
        rw [hX] at E
        exact lp_X6_minutes M q kn hkn z (okM_min _ _ hM) C E kn 0 M q (by omega) hq hq24 (by rw [minMT_eq])
      · skip
        refine r_ldc (pc := 40) (v := (-1000003)) C dX6_minutes_40 tw_695 ?_
        show g 0 0 (wM M) 42 [some (.ref 0), some (.int n), none] [.int (-1000003)]
        have hX : minM M z q n = ((-1000003), M) := by
          unfold minM
          rw [if_pos h_4, if_pos h_19, if_neg h_37]
        exact E _ _ _ _ _ _ dX6_minutes_42 (Nat.le_refl _) (Nat.le_refl _) rfl ⟨by rw [hX], by rw [hX]⟩
    · replace h_19 := bB_f h_19
      refine r_ldc (pc := 22) (v := (-1000001)) C dX6_minutes_22 tw_668 ?_
      show g 0 0 (wM M) 24 [some (.ref 0), some (.int n), none] [.int (-1000001)]
      have hX : minM M z q n = ((-1000001), M) := by
        unfold minM
        rw [if_pos h_4, if_neg (nbt h_19)]
      exact E _ _ _ _ _ _ dX6_minutes_24 (Nat.le_refl _) (Nat.le_refl _) rfl ⟨by rw [hX], by rw [hX]⟩
  · replace h_4 := bB_f h_4
    refine r_ldc (pc := 7) (v := (-1000002)) C dX6_minutes_7 tw_747 ?_
    show g 0 0 (wM M) 9 [some (.ref 0), some (.int n), none] [.int (-1000002)]
    have hX : minM M z q n = ((-1000002), M) := by
      unfold minM
      rw [if_neg (nbt h_4)]
    exact E _ _ _ _ _ _ dX6_minutes_9 (Nat.le_refl _) (Nat.le_refl _) rfl ⟨by rw [hX], by rw [hX]⟩
