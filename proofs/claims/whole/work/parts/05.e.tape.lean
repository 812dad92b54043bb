def rmX4_readInto : Room := { frames := 5, cells := 0, slots := 0, locals := 112 }
def rmX4_readLaw : Room := { frames := 3, cells := 0, slots := 0, locals := 67 }
def rmX4_readHammock : Room := { frames := 4, cells := 0, slots := 0, locals := 89 }
def rmX4_readTrees : Room := { frames := 3, cells := 0, slots := 0, locals := 67 }
def rmX4_readLoad : Room := { frames := 3, cells := 0, slots := 0, locals := 67 }
def rmX4_readSign : Room := { frames := 2, cells := 0, slots := 0, locals := 42 }
def rmX4_readNumber : Room := { frames := 2, cells := 0, slots := 0, locals := 42 }
def rmX4_refuse : Room := { frames := 0, cells := 0, slots := 0, locals := 0 }
def rmX4_byteAt : Room := { frames := 1, cells := 0, slots := 0, locals := 21 }
def rmX4_isFigure : Room := { frames := 0, cells := 0, slots := 0, locals := 0 }
def rmX4_sortOf : Room := { frames := 0, cells := 0, slots := 0, locals := 0 }
def rmX5_isBelow : Room := { frames := 0, cells := 0, slots := 0, locals := 0 }

/-! ===== the tape ===== -/
def belS (i n : Int32) : Bool := !decide (i < 0) && !decide (n ≤ i)
def tpS (b : Nat → Int32) (ln p : Nat) (ft : Int32) : Nat → Nat → Int32 := fun k => match k with
  | 0 => b
  | 1 => k1 (nI ln)
  | 2 => k1 (nI p)
  | _ => k1 ft
def byteS (b : Nat → Int32) (ln p : Nat) : Int32 := if p < ln then b p else -1
def figS (x : Int32) : Bool := !decide (x < 48) && !decide (57 < x)
def rsB (b : Nat → Int32) (ln p : Nat) (s : Int32) : Bool := decide (byteS b ln p = s)
def fgB (b : Nat → Int32) (ln p : Nat) : Bool := decide (p < ln) && figS (byteS b ln p)
/-- how many figures stand at p, three at most; and their number -/
def rnK (b : Nat → Int32) (ln p : Nat) : Nat := if fgB b ln p then (if fgB b ln (p + 1) then (if fgB b ln (p + 1 + 1) then 3 else 2) else 1) else 0
def rnV (b : Nat → Int32) (ln p : Nat) : Int32 := if fgB b ln p then (if fgB b ln (p + 1) then (if fgB b ln (p + 1 + 1) then 10 * (10 * (10 * 0 + byteS b ln p - 48) + byteS b ln (p + 1) - 48) + byteS b ln (p + 1 + 1) - 48 else 10 * (10 * 0 + byteS b ln p - 48) + byteS b ln (p + 1) - 48) else 10 * 0 + byteS b ln p - 48) else 0
/-- 0 good, 1 no number, 2 not as told -/
def rnF (b : Nat → Int32) (ln p : Nat) (l m : Int32) : Int32 := if rnK b ln p = 0 ∨ rnK b ln p = 3 then 1 else if rnV b ln p < l ∨ m < rnV b ln p then 2 else 0
def rnR (b : Nat → Int32) (ln p : Nat) (l m : Int32) : Int32 := if rnF b ln p l m = 0 then rnV b ln p else -1
def rnP (b : Nat → Int32) (ln p : Nat) (l m : Int32) : Nat := if rnF b ln p l m = 0 then p + rnK b ln p else p
def rnFt (b : Nat → Int32) (ln p : Nat) (l m ft : Int32) : Int32 := if rnF b ln p l m = 0 then ft else rnF b ln p l m
theorem rs_le {b : Nat → Int32} {ln p : Nat} {s : Int32} (h : rsB b ln p s = true) (hs : s ≠ -1) : p + 1 ≤ ln := by
  unfold rsB byteS at h
  by_cases q : p < ln
  · omega
  · rw [if_neg q] at h
    exact absurd (of_decide_eq_true h).symm hs
theorem fg_lt {b : Nat → Int32} {ln p : Nat} (h : fgB b ln p = true) : p < ln := by
  unfold fgB at h
  simp at h
  exact h.1
theorem rn_le {b : Nat → Int32} {ln p : Nat} {l m : Int32} (hp : p ≤ ln) : rnP b ln p l m ≤ ln := by
  unfold rnP
  split
  · unfold rnK
    split
    · have := fg_lt (by assumption : fgB b ln p = true)
      split
      · have := fg_lt (by assumption : fgB b ln (p + 1) = true)
        split
        · have := fg_lt (by assumption : fgB b ln (p + 1 + 1) = true)
          omega
        · omega
      · omega
    · omega
  · exact hp
theorem so_le {b : Nat → Int32} {ln p : Nat} (h : ¬ sortM (byteS b ln p) = 0) : p + 1 ≤ ln := by
  by_cases q : p < ln
  · omega
  · exact absurd (by rw [byteS, if_neg q]; decide) h
def rlS (b : Nat → Int32) (ln p : Nat) (ft : Int32) (F : Nat → Nat → Int32) : Bool × Nat × Int32 × (Nat → Nat → Int32) :=
  if rsB b ln p 116 then
    if rnR b ln (p + 1) 0 40 < 0 then (false, rnP b ln (p + 1) 0 40, rnFt b ln (p + 1) 0 40 ft, up2 F 6 (k1 (rnR b ln (p + 1) 0 40)))
    else if rsB b ln (rnP b ln (p + 1) 0 40) 44 then
      if rnR b ln (rnP b ln (p + 1) 0 40 + 1) 0 5 < 0 then (false, rnP b ln (rnP b ln (p + 1) 0 40 + 1) 0 5, rnFt b ln (rnP b ln (p + 1) 0 40 + 1) 0 5 (rnFt b ln (p + 1) 0 40 ft), up2 (up2 F 6 (k1 (rnR b ln (p + 1) 0 40))) 7 (k1 (rnR b ln (rnP b ln (p + 1) 0 40 + 1) 0 5)))
      else if rsB b ln (rnP b ln (rnP b ln (p + 1) 0 40 + 1) 0 5) 59 then (true, rnP b ln (rnP b ln (p + 1) 0 40 + 1) 0 5 + 1, rnFt b ln (rnP b ln (p + 1) 0 40 + 1) 0 5 (rnFt b ln (p + 1) 0 40 ft), up2 (up2 F 6 (k1 (rnR b ln (p + 1) 0 40))) 7 (k1 (rnR b ln (rnP b ln (p + 1) 0 40 + 1) 0 5)))
      else (false, rnP b ln (rnP b ln (p + 1) 0 40 + 1) 0 5, 1, up2 (up2 F 6 (k1 (rnR b ln (p + 1) 0 40))) 7 (k1 (rnR b ln (rnP b ln (p + 1) 0 40 + 1) 0 5)))
    else (false, rnP b ln (p + 1) 0 40, 1, up2 F 6 (k1 (rnR b ln (p + 1) 0 40)))
  else (false, p, 1, F)
/-- two numbers, into the rows ka and kb of F at h: the first from la to ma, behind it the sign 44; the second from lb to mb, behind it the sign sg -/
def r2S (b : Nat → Int32) (ln p : Nat) (ft : Int32) (F : Nat → Nat → Int32) (h ka kb : Nat) (la ma : Int32) (lb : Int32 → Int32) (mb sg : Int32) : Bool × Nat × Int32 × (Nat → Nat → Int32) :=
  if rnR b ln p la ma < 0 then (false, rnP b ln p la ma, rnFt b ln p la ma ft, up2 F ka (upd (F ka) h (rnR b ln p la ma)))
  else if rsB b ln (rnP b ln p la ma) 44 then
    if rnR b ln (rnP b ln p la ma + 1) (lb (rnR b ln p la ma)) mb < 0 then (false, rnP b ln (rnP b ln p la ma + 1) (lb (rnR b ln p la ma)) mb, rnFt b ln (rnP b ln p la ma + 1) (lb (rnR b ln p la ma)) mb (rnFt b ln p la ma ft), up2 (up2 F ka (upd (F ka) h (rnR b ln p la ma))) kb (upd (F kb) h (rnR b ln (rnP b ln p la ma + 1) (lb (rnR b ln p la ma)) mb)))
    else if rsB b ln (rnP b ln (rnP b ln p la ma + 1) (lb (rnR b ln p la ma)) mb) sg then (true, rnP b ln (rnP b ln p la ma + 1) (lb (rnR b ln p la ma)) mb + 1, rnFt b ln (rnP b ln p la ma + 1) (lb (rnR b ln p la ma)) mb (rnFt b ln p la ma ft), up2 (up2 F ka (upd (F ka) h (rnR b ln p la ma))) kb (upd (F kb) h (rnR b ln (rnP b ln p la ma + 1) (lb (rnR b ln p la ma)) mb)))
    else (false, rnP b ln (rnP b ln p la ma + 1) (lb (rnR b ln p la ma)) mb, 1, up2 (up2 F ka (upd (F ka) h (rnR b ln p la ma))) kb (upd (F kb) h (rnR b ln (rnP b ln p la ma + 1) (lb (rnR b ln p la ma)) mb)))
  else (false, rnP b ln p la ma, 1, up2 F ka (upd (F ka) h (rnR b ln p la ma)))
def rtS (b : Nat → Int32) (ln p : Nat) (ft : Int32) (F : Nat → Nat → Int32) (h : Nat) : Bool × Nat × Int32 × (Nat → Nat → Int32) := r2S b ln p ft F h 1 2 0 11 (fun r => r + 1) 11 44
def rdS (b : Nat → Int32) (ln p : Nat) (ft : Int32) (F : Nat → Nat → Int32) (h : Nat) : Bool × Nat × Int32 × (Nat → Nat → Int32) := r2S b ln p ft F h 3 4 1 20 (fun _ => 0) 5 59
theorem r2_le {b : Nat → Int32} {ln p h ka kb : Nat} {ft la ma mb sg : Int32} {lb : Int32 → Int32} {F : Nat → Nat → Int32} (hp : p ≤ ln) (hs : sg ≠ -1) : (r2S b ln p ft F h ka kb la ma lb mb sg).2.1 ≤ ln := by
  unfold r2S
  split
  · exact rn_le hp
  · split
    · have h1 := rs_le (by assumption : rsB b ln (rnP b ln p la ma) 44 = true) (by decide)
      split
      · exact rn_le h1
      · split
        · exact rs_le (by assumption) hs
        · exact rn_le h1
    · exact rn_le hp
theorem rl_le {b : Nat → Int32} {ln p : Nat} {ft : Int32} {F : Nat → Nat → Int32} (hp : p ≤ ln) : (rlS b ln p ft F).2.1 ≤ ln := by
  unfold rlS
  split
  · have h0 := rs_le (by assumption : rsB b ln p 116 = true) (by decide)
    split
    · exact rn_le h0
    · split
      · have h1 := rs_le (by assumption : rsB b ln (rnP b ln (p + 1) 0 40) 44 = true) (by decide)
        split
        · exact rn_le h1
        · split
          · exact rs_le (by assumption) (by decide)
          · exact rn_le h1
      · exact rn_le h0
  · exact hp
def rhS (b : Nat → Int32) (ln p : Nat) (ft : Int32) (F : Nat → Nat → Int32) (h : Nat) : Bool × Nat × Int32 × (Nat → Nat → Int32) :=
  if sortM (byteS b ln p) = 0 then (false, p, 1, F)
  else if nI h < 6 then
    if (rtS b ln (p + 1) ft (up2 (up2 F 0 (upd (F 0) h (sortM (byteS b ln p)))) 9 (k1 (nI (h + 1)))) h).1 then
      rdS b ln (rtS b ln (p + 1) ft (up2 (up2 F 0 (upd (F 0) h (sortM (byteS b ln p)))) 9 (k1 (nI (h + 1)))) h).2.1 (rtS b ln (p + 1) ft (up2 (up2 F 0 (upd (F 0) h (sortM (byteS b ln p)))) 9 (k1 (nI (h + 1)))) h).2.2.1 (rtS b ln (p + 1) ft (up2 (up2 F 0 (upd (F 0) h (sortM (byteS b ln p)))) 9 (k1 (nI (h + 1)))) h).2.2.2 h
    else rtS b ln (p + 1) ft (up2 (up2 F 0 (upd (F 0) h (sortM (byteS b ln p)))) 9 (k1 (nI (h + 1)))) h
  else (false, p, 3, F)
set_option maxHeartbeats 4000000 in
set_option maxRecDepth 100000 in
theorem c_X5_isBelow (i n : Int32) : MetA yX5_isBelow (.code yX5_isBelow cX5_isBelow 2 (some .boolean) :: TT) rmX5_isBelow [.int i, .int n] ([]) (fun vr wr => vr = some (.int (bB (belS i n))) ∧ wr = []) 0 0 := by
  refine MetA.of_i (by decide) (fun _ => Nat.le_of_ble_eq_true rfl) (Nat.le_of_ble_eq_true rfl) (fun g C E => ?_)
  replace C : Sem cX5_isBelow RX5 "isBelow" 2 rmX5_isBelow g := C
  show g 0 0 ([]) 0 [some (.int i), some (.int n)] []
  refine r_iload_n (pc := 0) C dX5_isBelow_0 rfl rfl ?_
  refine r_if_lt (pc := 1) (tgt := 13) C dX5_isBelow_1 (by decide) (fun h_1 => ?_) (fun h_1 => ?_)
  · skip
    refine r_iconst (pc := 13) (v := 0) C dX5_isBelow_13 (by decide) ?_
    exact E _ _ _ _ _ _ dX5_isBelow_14 (Nat.le_refl _) (Nat.le_refl _) rfl ⟨congrArg (fun z => some (Value.int z)) (by simp [belS, bB, h_1]), rfl⟩
  · skip
    refine r_iload_n (pc := 4) C dX5_isBelow_4 rfl rfl ?_
    refine r_iload_n (pc := 5) C dX5_isBelow_5 rfl rfl ?_
    refine r_icmp_ge (pc := 6) (tgt := 13) C dX5_isBelow_6 (by decide) (fun h_6 => ?_) (fun h_6 => ?_)
    · skip
      refine r_iconst (pc := 13) (v := 0) C dX5_isBelow_13 (by decide) ?_
      exact E _ _ _ _ _ _ dX5_isBelow_14 (Nat.le_refl _) (Nat.le_refl _) rfl ⟨congrArg (fun z => some (Value.int z)) (by simp [belS, bB, h_1, h_6]), rfl⟩
    · skip
      refine r_iconst (pc := 9) (v := 1) C dX5_isBelow_9 (by decide) ?_
      refine r_goto (pc := 10) (tgt := 14) C dX5_isBelow_10 (by decide) ?_
      exact E _ _ _ _ _ _ dX5_isBelow_14 (Nat.le_refl _) (Nat.le_refl _) rfl ⟨congrArg (fun z => some (Value.int z)) (by simp [belS, bB, h_1, h_6]), rfl⟩
theorem bel_nI {p ln : Nat} (hp : p < 2 ^ 31) (hl : ln < 2 ^ 31) : belS (nI p) (nI ln) = decide (p < ln) := by
  unfold belS
  rw [decide_eq_false (nI_pos hp), Bool.not_false, Bool.true_and]
  by_cases h : p < ln
  · rw [decide_eq_true h, decide_eq_false (nI_ge h hl)]; rfl
  · rw [decide_eq_false h, decide_eq_true (nI_le (by omega) hp)]; rfl
set_option maxHeartbeats 4000000 in
set_option maxRecDepth 100000 in
theorem c_X4_byteAt (b : Nat → Int32) (ln p : Nat) (ft : Int32) (hln : ln ≤ 120) (hp : p ≤ ln) (q : Nat) (hq : q ≤ ln + 3) : MetA yX4_byteAt (.code yX4_byteAt cX4_byteAt 2 (some .int) :: TT) rmX4_byteAt [.ref 0, .int (nI q)] (wT 0 (tpS b ln p ft)) (fun vr wr => vr = some (.int (byteS b ln q)) ∧ wr = wT 0 (tpS b ln p ft)) 0 0 := by
  refine MetA.of_i (by decide) (fun _ => Nat.le_of_ble_eq_true rfl) (Nat.le_of_ble_eq_true rfl) (fun g C E => ?_)
  replace C : Sem cX4_byteAt RX4 "byteAt" 2 rmX4_byteAt g := C
  show g 0 0 (wT 0 (tpS b ln p ft)) 0 [some (.ref 0), some (.int (nI q))] []
  refine r_iload_n (pc := 0) C dX4_byteAt_0 rfl rfl ?_
  refine r_aload_n (pc := 1) C dX4_byteAt_1 rfl rfl ?_
  refine r_getfield (pc := 2) (v := .int (nI ln)) C xf_X4_28 dX4_byteAt_2 rfl rfl ?_
  refine r_callSN0 (pc := 5) (As := [.int (nI q), .int (nI ln)]) (st := []) C (c_X5_isBelow (nI q) (nI ln)) xm_X5_isBelow (by decide) dX4_byteAt_5 (fun _ => rfl) (fun _ => rfl) rfl rfl (Nat.le_of_ble_eq_true rfl) ⟨Nat.le_of_ble_eq_true rfl, Nat.le_of_ble_eq_true rfl⟩ ⟨rfl, rfl⟩ ⟨Nat.le_of_ble_eq_true rfl, Nat.le_of_ble_eq_true rfl⟩ rfl ?_
  show g 0 0 (wT 0 (tpS b ln p ft)) 8 [some (.ref 0), some (.int (nI q))] [.int (bB (belS (nI q) (nI ln)))]
  refine r_if_eq (pc := 8) (tgt := 20) C dX4_byteAt_8 (by decide) (fun h_8 => ?_) (fun h_8 => ?_)
  · replace h_8 := bB_f h_8
    rw [bel_nI (by omega) (by omega)] at h_8
    replace h_8 := of_decide_eq_false h_8
    refine r_iconst (pc := 20) (v := (-1)) C dX4_byteAt_20 (by decide) ?_
    exact E _ _ _ _ _ _ dX4_byteAt_21 (Nat.le_refl _) (Nat.le_refl _) rfl ⟨congrArg (fun z => some (Value.int z)) (by simp [byteS, h_8]), rfl⟩
  · replace h_8 := bB_t h_8
    rw [bel_nI (by omega) (by omega)] at h_8
    replace h_8 := of_decide_eq_true h_8
    refine r_aload_n (pc := 11) C dX4_byteAt_11 rfl rfl ?_
    refine r_getfield (pc := 12) (v := .ref 1) C xf_X4_9 dX4_byteAt_12 rfl rfl ?_
    refine r_iload_n (pc := 15) C dX4_byteAt_15 rfl rfl ?_
    refine r_iaload (pc := 16) (v := b q) C q dX4_byteAt_16 rfl rfl (by first | assumption | omega) rfl ?_
    refine r_goto (pc := 17) (tgt := 21) C dX4_byteAt_17 (by decide) ?_
    exact E _ _ _ _ _ _ dX4_byteAt_21 (Nat.le_refl _) (Nat.le_refl _) rfl ⟨congrArg (fun z => some (Value.int z)) (by simp [byteS, h_8]), rfl⟩
set_option maxHeartbeats 4000000 in
set_option maxRecDepth 100000 in
theorem c_X4_isFigure (x : Int32) : MetA yX4_isFigure (.code yX4_isFigure cX4_isFigure 1 (some .boolean) :: TT) rmX4_isFigure [.int x] ([]) (fun vr wr => vr = some (.int (bB (figS x))) ∧ wr = []) 0 0 := by
  refine MetA.of_i (by decide) (fun _ => Nat.le_of_ble_eq_true rfl) (Nat.le_of_ble_eq_true rfl) (fun g C E => ?_)
  replace C : Sem cX4_isFigure RX4 "isFigure" 1 rmX4_isFigure g := C
  show g 0 0 ([]) 0 [some (.int x)] []
  refine r_iload_n (pc := 0) C dX4_isFigure_0 rfl rfl ?_
  refine r_bipush (pc := 1) (v := 48) C dX4_isFigure_1 (by decide) ?_
  refine r_icmp_lt (pc := 3) (tgt := 16) C dX4_isFigure_3 (by decide) (fun h_3 => ?_) (fun h_3 => ?_)
  · skip
    refine r_iconst (pc := 16) (v := 0) C dX4_isFigure_16 (by decide) ?_
    exact E _ _ _ _ _ _ dX4_isFigure_17 (Nat.le_refl _) (Nat.le_refl _) rfl ⟨congrArg (fun z => some (Value.int z)) (by simp [figS, bB, h_3]), rfl⟩
  · skip
    refine r_iload_n (pc := 6) C dX4_isFigure_6 rfl rfl ?_
    refine r_bipush (pc := 7) (v := 57) C dX4_isFigure_7 (by decide) ?_
    refine r_icmp_gt (pc := 9) (tgt := 16) C dX4_isFigure_9 (by decide) (fun h_9 => ?_) (fun h_9 => ?_)
    · skip
      refine r_iconst (pc := 16) (v := 0) C dX4_isFigure_16 (by decide) ?_
      exact E _ _ _ _ _ _ dX4_isFigure_17 (Nat.le_refl _) (Nat.le_refl _) rfl ⟨congrArg (fun z => some (Value.int z)) (by simp [figS, bB, h_3, h_9]), rfl⟩
    · skip
      refine r_iconst (pc := 12) (v := 1) C dX4_isFigure_12 (by decide) ?_
      refine r_goto (pc := 13) (tgt := 17) C dX4_isFigure_13 (by decide) ?_
      exact E _ _ _ _ _ _ dX4_isFigure_17 (Nat.le_refl _) (Nat.le_refl _) rfl ⟨congrArg (fun z => some (Value.int z)) (by simp [figS, bB, h_3, h_9]), rfl⟩
set_option maxHeartbeats 4000000 in
set_option maxRecDepth 100000 in
theorem c_X4_sortOf (x : Int32) : MetA yX4_sortOf (.code yX4_sortOf cX4_sortOf 1 (some .int) :: TT) rmX4_sortOf [.int x] ([]) (fun vr wr => vr = some (.int (sortM x)) ∧ wr = []) 0 0 := by
  refine MetA.of_i (by decide) (fun _ => Nat.le_of_ble_eq_true rfl) (Nat.le_of_ble_eq_true rfl) (fun g C E => ?_)
  replace C : Sem cX4_sortOf RX4 "sortOf" 1 rmX4_sortOf g := C
  show g 0 0 ([]) 0 [some (.int x)] []
  refine r_iload_n (pc := 0) C dX4_sortOf_0 rfl rfl ?_
  by_cases q_1_99 : x = 99
  · refine r_lookup (pc := 1) (off := 51) (tgt := 52) C dX4_sortOf_1 (by decide) (by rw [q_1_99]; decide) (by decide) ?_
    refine r_iconst (pc := 52) (v := 1) C dX4_sortOf_52 (by decide) ?_
    exact E _ _ _ _ _ _ dX4_sortOf_53 (Nat.le_refl _) (Nat.le_refl _) rfl ⟨congrArg (fun z => some (Value.int z)) (by simp [sortM, q_1_99]), rfl⟩
  by_cases q_1_111 : x = 111
  · refine r_lookup (pc := 1) (off := 59) (tgt := 60) C dX4_sortOf_1 (by decide) (by rw [q_1_111]; decide) (by decide) ?_
    refine r_iconst (pc := 60) (v := 5) C dX4_sortOf_60 (by decide) ?_
    exact E _ _ _ _ _ _ dX4_sortOf_61 (Nat.le_refl _) (Nat.le_refl _) rfl ⟨congrArg (fun z => some (Value.int z)) (by simp [sortM, q_1_99, q_1_111]), rfl⟩
  by_cases q_1_114 : x = 114
  · refine r_lookup (pc := 1) (off := 57) (tgt := 58) C dX4_sortOf_1 (by decide) (by rw [q_1_114]; decide) (by decide) ?_
    refine r_iconst (pc := 58) (v := 4) C dX4_sortOf_58 (by decide) ?_
    exact E _ _ _ _ _ _ dX4_sortOf_59 (Nat.le_refl _) (Nat.le_refl _) rfl ⟨congrArg (fun z => some (Value.int z)) (by simp [sortM, q_1_99, q_1_111, q_1_114]), rfl⟩
  by_cases q_1_115 : x = 115
  · refine r_lookup (pc := 1) (off := 53) (tgt := 54) C dX4_sortOf_1 (by decide) (by rw [q_1_115]; decide) (by decide) ?_
    refine r_iconst (pc := 54) (v := 2) C dX4_sortOf_54 (by decide) ?_
    exact E _ _ _ _ _ _ dX4_sortOf_55 (Nat.le_refl _) (Nat.le_refl _) rfl ⟨congrArg (fun z => some (Value.int z)) (by simp [sortM, q_1_99, q_1_111, q_1_114, q_1_115]), rfl⟩
  by_cases q_1_118 : x = 118
  · refine r_lookup (pc := 1) (off := 55) (tgt := 56) C dX4_sortOf_1 (by decide) (by rw [q_1_118]; decide) (by decide) ?_
    refine r_iconst (pc := 56) (v := 3) C dX4_sortOf_56 (by decide) ?_
    exact E _ _ _ _ _ _ dX4_sortOf_57 (Nat.le_refl _) (Nat.le_refl _) rfl ⟨congrArg (fun z => some (Value.int z)) (by simp [sortM, q_1_99, q_1_111, q_1_114, q_1_115, q_1_118]), rfl⟩
  refine r_lookup (pc := 1) (off := 61) (tgt := 62) C dX4_sortOf_1 (by decide) (by show Op.lookupswitch.offset [(99, 51), (111, 59), (114, 57), (115, 53), (118, 55)] 61 _ = _; rw [lv_osw (a := 99) q_1_99 rfl, lv_osw (a := 111) q_1_111 rfl, lv_osw (a := 114) q_1_114 rfl, lv_osw (a := 115) q_1_115 rfl, lv_osw (a := 118) q_1_118 rfl]; rfl) (by decide) ?_
  refine r_iconst (pc := 62) (v := 0) C dX4_sortOf_62 (by decide) ?_
  exact E _ _ _ _ _ _ dX4_sortOf_63 (Nat.le_refl _) (Nat.le_refl _) rfl ⟨congrArg (fun z => some (Value.int z)) (by simp [sortM, q_1_99, q_1_111, q_1_114, q_1_115, q_1_118]), rfl⟩
set_option maxHeartbeats 4000000 in
set_option maxRecDepth 100000 in
theorem c_X4_refuse (b : Nat → Int32) (ln p : Nat) (ft v : Int32) : MetA yX4_refuse (.code yX4_refuse cX4_refuse 2 (some .boolean) :: TT) rmX4_refuse [.ref 0, .int v] (wT 0 (tpS b ln p ft)) (fun vr wr => vr = some (.int (bB false)) ∧ wr = wT 0 (tpS b ln p v)) 0 0 := by
  refine MetA.of_i (by decide) (fun _ => Nat.le_of_ble_eq_true rfl) (Nat.le_of_ble_eq_true rfl) (fun g C E => ?_)
  replace C : Sem cX4_refuse RX4 "refuse" 2 rmX4_refuse g := C
  show g 0 0 (wT 0 (tpS b ln p ft)) 0 [some (.ref 0), some (.int v)] []
  refine r_aload_n (pc := 0) C dX4_refuse_0 rfl rfl ?_
  refine r_iload_n (pc := 1) C dX4_refuse_1 rfl rfl ?_
  refine r_putfield (pc := 2) (θ' := wT 0 (up2 (tpS b ln p ft) 3 (k1 v))) C xf_X4_86 xt_X4_3 dX4_refuse_2 rfl (Nat.le_of_ble_eq_true rfl) (fun _ => ⟨rfl, rfl⟩) rfl ?_
  refine r_iconst (pc := 5) (v := 0) C dX4_refuse_5 (by decide) ?_
  exact E _ _ _ _ _ _ dX4_refuse_6 (Nat.le_refl _) (Nat.le_refl _) rfl ⟨rfl, rfl⟩
set_option maxHeartbeats 4000000 in
set_option maxRecDepth 100000 in
theorem c_X4_readSign (b : Nat → Int32) (ln p : Nat) (ft : Int32) (hln : ln ≤ 120) (hp : p ≤ ln) (sg : Int32) : MetA yX4_readSign (.code yX4_readSign cX4_readSign 2 (some .boolean) :: TT) rmX4_readSign [.ref 0, .int sg] (wT 0 (tpS b ln p ft)) (fun vr wr => vr = some (.int (bB (rsB b ln p sg))) ∧ wr = wT 0 (if rsB b ln p sg then tpS b ln (p + 1) ft else tpS b ln p 1)) 0 0 := by
  refine MetA.of_i (by decide) (fun _ => Nat.le_of_ble_eq_true rfl) (Nat.le_of_ble_eq_true rfl) (fun g C E => ?_)
  replace C : Sem cX4_readSign RX4 "readSign" 2 rmX4_readSign g := C
  show g 0 0 (wT 0 (tpS b ln p ft)) 0 [some (.ref 0), some (.int sg)] []
  refine r_aload_n (pc := 0) C dX4_readSign_0 rfl rfl ?_
  refine r_aload_n (pc := 1) C dX4_readSign_1 rfl rfl ?_
  refine r_getfield (pc := 2) (v := .int (nI p)) C xf_X4_15 dX4_readSign_2 rfl rfl ?_
  refine r_callV0 (pc := 5) (As := [.int (nI p)]) (st := []) (θ' := wT 0 (tpS b ln p ft)) C (c_X4_byteAt b ln p ft hln hp p (by have := hp; omega)) xm_X4_byteAt xk_X4_51 dX4_readSign_5 rfl rfl rfl rfl (Nat.le_of_ble_eq_true rfl) ⟨Nat.le_of_ble_eq_true rfl, Nat.le_of_ble_eq_true rfl⟩ ⟨rfl, rfl⟩ ⟨Nat.le_of_ble_eq_true rfl, Nat.le_of_ble_eq_true rfl⟩ rfl rfl ?_
  show g 0 0 (wT 0 (tpS b ln p ft)) 8 [some (.ref 0), some (.int sg)] [.int (byteS b ln p)]
  refine r_iload_n (pc := 8) C dX4_readSign_8 rfl rfl ?_
  refine r_icmp_eq (pc := 9) (tgt := 18) C dX4_readSign_9 (by decide) (fun h_9 => ?_) (fun h_9 => ?_)
  · skip
    refine r_aload_n (pc := 18) C dX4_readSign_18 rfl rfl ?_
    refine r_dup (pc := 19) C dX4_readSign_19 rfl ?_
    refine r_getfield (pc := 20) (v := .int (nI p)) C xf_X4_15 dX4_readSign_20 rfl rfl ?_
    refine r_iconst (pc := 23) (v := 1) C dX4_readSign_23 (by decide) ?_
    refine r_iadd (pc := 24) C dX4_readSign_24 ?_
    show g 0 0 (wT 0 (tpS b ln p ft)) 25 [some (.ref 0), some (.int sg)] [.int ((nI p) + 1), .ref 0]
    rw [show ((nI p) + 1 : Int32) = nI (p + 1) from (nI_sum rfl rfl)]
    refine r_putfield (pc := 25) (θ' := wT 0 (up2 (tpS b ln p ft) 2 (k1 (nI (p + 1))))) C xf_X4_15 xt_X4_2 dX4_readSign_25 rfl (Nat.le_of_ble_eq_true rfl) (fun _ => ⟨rfl, rfl⟩) rfl ?_
    refine r_iconst (pc := 28) (v := 1) C dX4_readSign_28 (by decide) ?_
    exact E _ _ _ _ _ _ dX4_readSign_29 (Nat.le_refl _) (Nat.le_refl _) rfl ⟨congrArg (fun z => some (Value.int z)) (by simp [bB, rsB, h_9]), by simp [rsB, h_9] <;> rfl⟩
  · skip
    refine r_aload_n (pc := 12) C dX4_readSign_12 rfl rfl ?_
    refine r_iconst (pc := 13) (v := 1) C dX4_readSign_13 (by decide) ?_
    refine r_callV0 (pc := 14) (As := [.int 1]) (st := []) (θ' := wT 0 (tpS b ln p 1)) C (c_X4_refuse b ln p ft 1) xm_X4_refuse xk_X4_58 dX4_readSign_14 rfl rfl rfl rfl (Nat.le_of_ble_eq_true rfl) ⟨Nat.le_of_ble_eq_true rfl, Nat.le_of_ble_eq_true rfl⟩ ⟨rfl, rfl⟩ ⟨Nat.le_of_ble_eq_true rfl, Nat.le_of_ble_eq_true rfl⟩ rfl rfl ?_
    show g 0 0 (wT 0 (tpS b ln p 1)) 17 [some (.ref 0), some (.int sg)] [.int (bB false)]
    exact E _ _ _ _ _ _ dX4_readSign_17 (Nat.le_refl _) (Nat.le_refl _) (bB_nar _) ⟨congrArg (fun z => some (Value.int z)) (by simp [bB, rsB, h_9]), by simp [rsB, h_9] <;> rfl⟩
set_option maxHeartbeats 4000000 in
set_option maxRecDepth 100000 in
theorem c_X4_readNumber (b : Nat → Int32) (ln p : Nat) (ft : Int32) (hln : ln ≤ 120) (hp : p ≤ ln) (l m : Int32) : MetA yX4_readNumber (.code yX4_readNumber cX4_readNumber 6 (some .int) :: TT) rmX4_readNumber [.ref 0, .int l, .int m] (wT 0 (tpS b ln p ft)) (fun vr wr => vr = some (.int (rnR b ln p l m)) ∧ wr = wT 0 (tpS b ln (rnP b ln p l m) (rnFt b ln p l m ft))) 0 0 := by
  refine MetA.of_i (by decide) (fun _ => Nat.le_of_ble_eq_true rfl) (Nat.le_of_ble_eq_true rfl) (fun g C E => ?_)
  replace C : Sem cX4_readNumber RX4 "readNumber" 6 rmX4_readNumber g := C
  show g 0 0 (wT 0 (tpS b ln p ft)) 0 [some (.ref 0), some (.int l), some (.int m), none, none, none] []
  refine r_iconst (pc := 0) (v := 0) C dX4_readNumber_0 (by decide) ?_
  refine r_istore_n (pc := 1) (lv' := [some (.ref 0), some (.int l), some (.int m), some (.int 0), none, none]) C dX4_readNumber_1 rfl (Nat.le_of_ble_eq_true rfl) trivial rfl ?_
  refine r_iconst (pc := 2) (v := 0) C dX4_readNumber_2 (by decide) ?_
  refine r_istore (pc := 3) (lv' := [some (.ref 0), some (.int l), some (.int m), some (.int 0), some (.int 0), none]) C dX4_readNumber_3 (Nat.le_of_ble_eq_true rfl) trivial rfl ?_
  refine r_aload_n (pc := 5) C dX4_readNumber_5 rfl rfl ?_
  refine r_getfield (pc := 6) (v := .int (nI p)) C xf_X4_15 dX4_readNumber_6 rfl rfl ?_
  refine r_istore (pc := 9) (lv' := [some (.ref 0), some (.int l), some (.int m), some (.int 0), some (.int 0), some (.int (nI p))]) C dX4_readNumber_9 (Nat.le_of_ble_eq_true rfl) trivial rfl ?_
  refine r_iload (pc := 11) C dX4_readNumber_11 rfl ?_
  refine r_aload_n (pc := 13) C dX4_readNumber_13 rfl rfl ?_
  refine r_getfield (pc := 14) (v := .int (nI ln)) C xf_X4_28 dX4_readNumber_14 rfl rfl ?_
  refine r_icmp_ge (pc := 17) (tgt := 62) C dX4_readNumber_17 (by decide) (fun h_17 => ?_) (fun h_17 => ?_)
  · skip
    have n_17_0 : fgB b ln (p) = false := by unfold fgB; rw [decide_eq_false (by intro z; exact absurd h_17 (nI_ge (by omega) (by omega)))]; rfl
    refine r_iload (pc := 62) C dX4_readNumber_62 rfl ?_
    refine r_if_eq (pc := 64) (tgt := 73) C dX4_readNumber_64 (by decide) (fun _ => ?_) (fun h => absurd (by decide) h)
    refine r_aload_n (pc := 73) C dX4_readNumber_73 rfl rfl ?_
    refine r_iconst (pc := 74) (v := 1) C dX4_readNumber_74 (by decide) ?_
    refine r_callV0 (pc := 75) (As := [.int 1]) (st := []) (θ' := wT 0 (tpS b ln p 1)) C (c_X4_refuse b ln p ft 1) xm_X4_refuse xk_X4_58 dX4_readNumber_75 rfl rfl rfl rfl (Nat.le_of_ble_eq_true rfl) ⟨Nat.le_of_ble_eq_true rfl, Nat.le_of_ble_eq_true rfl⟩ ⟨rfl, rfl⟩ ⟨Nat.le_of_ble_eq_true rfl, Nat.le_of_ble_eq_true rfl⟩ rfl rfl ?_
    show g 0 0 (wT 0 (tpS b ln p 1)) 78 [some (.ref 0), some (.int l), some (.int m), some (.int 0), some (.int 0), some (.int (nI p))] [.int (bB false)]
    refine r_pop (pc := 78) C dX4_readNumber_78 rfl ?_
    refine r_iconst (pc := 79) (v := (-1)) C dX4_readNumber_79 (by decide) ?_
    show g 0 0 (wT 0 (tpS b ln p 1)) 80 [some (.ref 0), some (.int l), some (.int m), some (.int 0), some (.int 0), some (.int (nI p))] [.int (-1)]
    have hR : rnR b ln p l m = (-1) := by simp [rnR, rnF, rnV, rnK, rnP, rnFt, n_17_0]
    have hP : rnP b ln p l m = p := by simp [rnR, rnF, rnV, rnK, rnP, rnFt, n_17_0]
    have hF : rnFt b ln p l m ft = 1 := by simp [rnR, rnF, rnV, rnK, rnP, rnFt, n_17_0]
    exact E _ _ _ _ _ _ dX4_readNumber_80 (Nat.le_refl _) (Nat.le_refl _) rfl ⟨congrArg (fun z => some (Value.int z)) hR.symm, by rw [hP, hF] <;> rfl⟩
  · skip
    have n_17_0 : p < ln := Nat.lt_of_not_le (fun z => h_17 (nI_le z (by omega)))
    refine r_aload_n (pc := 20) C dX4_readNumber_20 rfl rfl ?_
    refine r_iload (pc := 21) C dX4_readNumber_21 rfl ?_
    refine r_callV0 (pc := 23) (As := [.int (nI p)]) (st := []) (θ' := wT 0 (tpS b ln p ft)) C (c_X4_byteAt b ln p ft hln hp p (by have := hp; omega)) xm_X4_byteAt xk_X4_51 dX4_readNumber_23 rfl rfl rfl rfl (Nat.le_of_ble_eq_true rfl) ⟨Nat.le_of_ble_eq_true rfl, Nat.le_of_ble_eq_true rfl⟩ ⟨rfl, rfl⟩ ⟨Nat.le_of_ble_eq_true rfl, Nat.le_of_ble_eq_true rfl⟩ rfl rfl ?_
    show g 0 0 (wT 0 (tpS b ln p ft)) 26 [some (.ref 0), some (.int l), some (.int m), some (.int 0), some (.int 0), some (.int (nI p))] [.int (byteS b ln p)]
    refine r_callS0 (pc := 26) (As := [.int (byteS b ln p)]) (st := []) C (c_X4_isFigure (byteS b ln p)) xm_X4_isFigure xk_X4_83 dX4_readNumber_26 (fun _ => rfl) (fun _ => rfl) rfl rfl (Nat.le_of_ble_eq_true rfl) ⟨Nat.le_of_ble_eq_true rfl, Nat.le_of_ble_eq_true rfl⟩ ⟨rfl, rfl⟩ ⟨Nat.le_of_ble_eq_true rfl, Nat.le_of_ble_eq_true rfl⟩ rfl ?_
    show g 0 0 (wT 0 (tpS b ln p ft)) 29 [some (.ref 0), some (.int l), some (.int m), some (.int 0), some (.int 0), some (.int (nI p))] [.int (bB (figS (byteS b ln p)))]
    refine r_if_eq (pc := 29) (tgt := 62) C dX4_readNumber_29 (by decide) (fun h_29 => ?_) (fun h_29 => ?_)
    · replace h_29 := bB_f h_29
      have n_29_0 : fgB b ln (p) = false := by unfold fgB; rw [decide_eq_true n_17_0, h_29]; rfl
      refine r_iload (pc := 62) C dX4_readNumber_62 rfl ?_
      refine r_if_eq (pc := 64) (tgt := 73) C dX4_readNumber_64 (by decide) (fun _ => ?_) (fun h => absurd (by decide) h)
      refine r_aload_n (pc := 73) C dX4_readNumber_73 rfl rfl ?_
      refine r_iconst (pc := 74) (v := 1) C dX4_readNumber_74 (by decide) ?_
      refine r_callV0 (pc := 75) (As := [.int 1]) (st := []) (θ' := wT 0 (tpS b ln p 1)) C (c_X4_refuse b ln p ft 1) xm_X4_refuse xk_X4_58 dX4_readNumber_75 rfl rfl rfl rfl (Nat.le_of_ble_eq_true rfl) ⟨Nat.le_of_ble_eq_true rfl, Nat.le_of_ble_eq_true rfl⟩ ⟨rfl, rfl⟩ ⟨Nat.le_of_ble_eq_true rfl, Nat.le_of_ble_eq_true rfl⟩ rfl rfl ?_
      show g 0 0 (wT 0 (tpS b ln p 1)) 78 [some (.ref 0), some (.int l), some (.int m), some (.int 0), some (.int 0), some (.int (nI p))] [.int (bB false)]
      refine r_pop (pc := 78) C dX4_readNumber_78 rfl ?_
      refine r_iconst (pc := 79) (v := (-1)) C dX4_readNumber_79 (by decide) ?_
      show g 0 0 (wT 0 (tpS b ln p 1)) 80 [some (.ref 0), some (.int l), some (.int m), some (.int 0), some (.int 0), some (.int (nI p))] [.int (-1)]
      have hR : rnR b ln p l m = (-1) := by simp [rnR, rnF, rnV, rnK, rnP, rnFt, n_29_0]
      have hP : rnP b ln p l m = p := by simp [rnR, rnF, rnV, rnK, rnP, rnFt, n_29_0]
      have hF : rnFt b ln p l m ft = 1 := by simp [rnR, rnF, rnV, rnK, rnP, rnFt, n_29_0]
      exact E _ _ _ _ _ _ dX4_readNumber_80 (Nat.le_refl _) (Nat.le_refl _) rfl ⟨congrArg (fun z => some (Value.int z)) hR.symm, by rw [hP, hF] <;> rfl⟩
    · replace h_29 := bB_t h_29
      have n_29_0 : fgB b ln (p) = true := by unfold fgB; rw [decide_eq_true n_17_0, h_29]; rfl
      refine r_iload (pc := 32) C dX4_readNumber_32 rfl ?_
      refine r_iconst (pc := 34) (v := 3) C dX4_readNumber_34 (by decide) ?_
      refine r_icmp_ge (pc := 35) (tgt := 62) C dX4_readNumber_35 (by decide) (fun h => absurd h (by decide)) (fun _ => ?_)
      refine r_bipush (pc := 38) (v := 10) C dX4_readNumber_38 (by decide) ?_
      refine r_iload_n (pc := 40) C dX4_readNumber_40 rfl rfl ?_
      refine r_imul (pc := 41) C dX4_readNumber_41 ?_
      refine r_aload_n (pc := 42) C dX4_readNumber_42 rfl rfl ?_
      refine r_iload (pc := 43) C dX4_readNumber_43 rfl ?_
      refine r_callV0 (pc := 45) (As := [.int (nI p)]) (st := [.int (10 * 0)]) (θ' := wT 0 (tpS b ln p ft)) C (c_X4_byteAt b ln p ft hln hp p (by have := hp; omega)) xm_X4_byteAt xk_X4_51 dX4_readNumber_45 rfl rfl rfl rfl (Nat.le_of_ble_eq_true rfl) ⟨Nat.le_of_ble_eq_true rfl, Nat.le_of_ble_eq_true rfl⟩ ⟨rfl, rfl⟩ ⟨Nat.le_of_ble_eq_true rfl, Nat.le_of_ble_eq_true rfl⟩ rfl rfl ?_
      show g 0 0 (wT 0 (tpS b ln p ft)) 48 [some (.ref 0), some (.int l), some (.int m), some (.int 0), some (.int 0), some (.int (nI p))] [.int (byteS b ln p), .int (10 * 0)]
      refine r_iadd (pc := 48) C dX4_readNumber_48 ?_
      refine r_bipush (pc := 49) (v := 48) C dX4_readNumber_49 (by decide) ?_
      refine r_isub (pc := 51) C dX4_readNumber_51 ?_
      refine r_istore_n (pc := 52) (lv' := [some (.ref 0), some (.int l), some (.int m), some (.int (((10 * 0) + (byteS b ln p)) - 48)), some (.int 0), some (.int (nI p))]) C dX4_readNumber_52 rfl (Nat.le_of_ble_eq_true rfl) trivial rfl ?_
      refine r_iinc (pc := 53) (v := 1) (lv' := [some (.ref 0), some (.int l), some (.int m), some (.int (((10 * 0) + (byteS b ln p)) - 48)), some (.int 1), some (.int (nI p))]) C dX4_readNumber_53 rfl (by decide) trivial rfl ?_
      refine r_iinc (pc := 56) (v := nI (p + 1)) (lv' := [some (.ref 0), some (.int l), some (.int m), some (.int (((10 * 0) + (byteS b ln p)) - 48)), some (.int 1), some (.int (nI (p + 1)))]) C dX4_readNumber_56 rfl (nI_1 p) trivial rfl ?_
      refine r_goto (pc := 59) (tgt := 11) C dX4_readNumber_59 (by decide) ?_
      refine r_iload (pc := 11) C dX4_readNumber_11 rfl ?_
      refine r_aload_n (pc := 13) C dX4_readNumber_13 rfl rfl ?_
      refine r_getfield (pc := 14) (v := .int (nI ln)) C xf_X4_28 dX4_readNumber_14 rfl rfl ?_
      refine r_icmp_ge (pc := 17) (tgt := 62) C dX4_readNumber_17 (by decide) (fun h_17 => ?_) (fun h_17 => ?_)
      · skip
        have n_17_1 : fgB b ln ((p + 1)) = false := by unfold fgB; rw [decide_eq_false (by intro z; exact absurd h_17 (nI_ge (by omega) (by omega)))]; rfl
        refine r_iload (pc := 62) C dX4_readNumber_62 rfl ?_
        refine r_if_eq (pc := 64) (tgt := 73) C dX4_readNumber_64 (by decide) (fun h => absurd h (by decide)) (fun _ => ?_)
        refine r_iload (pc := 67) C dX4_readNumber_67 rfl ?_
        refine r_iconst (pc := 69) (v := 3) C dX4_readNumber_69 (by decide) ?_
        refine r_icmp_ne (pc := 70) (tgt := 81) C dX4_readNumber_70 (by decide) (fun _ => ?_) (fun h => absurd h (by decide))
        refine r_iload_n (pc := 81) C dX4_readNumber_81 rfl rfl ?_
        refine r_iload_n (pc := 82) C dX4_readNumber_82 rfl rfl ?_
        refine r_icmp_lt (pc := 83) (tgt := 91) C dX4_readNumber_83 (by decide) (fun h_83 => ?_) (fun h_83 => ?_)
        · skip
          refine r_aload_n (pc := 91) C dX4_readNumber_91 rfl rfl ?_
          refine r_iconst (pc := 92) (v := 2) C dX4_readNumber_92 (by decide) ?_
          refine r_callV0 (pc := 93) (As := [.int 2]) (st := []) (θ' := wT 0 (tpS b ln p 2)) C (c_X4_refuse b ln p ft 2) xm_X4_refuse xk_X4_58 dX4_readNumber_93 rfl rfl rfl rfl (Nat.le_of_ble_eq_true rfl) ⟨Nat.le_of_ble_eq_true rfl, Nat.le_of_ble_eq_true rfl⟩ ⟨rfl, rfl⟩ ⟨Nat.le_of_ble_eq_true rfl, Nat.le_of_ble_eq_true rfl⟩ rfl rfl ?_
          show g 0 0 (wT 0 (tpS b ln p 2)) 96 [some (.ref 0), some (.int l), some (.int m), some (.int (((10 * 0) + (byteS b ln p)) - 48)), some (.int 1), some (.int (nI (p + 1)))] [.int (bB false)]
          refine r_pop (pc := 96) C dX4_readNumber_96 rfl ?_
          refine r_iconst (pc := 97) (v := (-1)) C dX4_readNumber_97 (by decide) ?_
          show g 0 0 (wT 0 (tpS b ln p 2)) 98 [some (.ref 0), some (.int l), some (.int m), some (.int (((10 * 0) + (byteS b ln p)) - 48)), some (.int 1), some (.int (nI (p + 1)))] [.int (-1)]
          have hR : rnR b ln p l m = (-1) := by simp [rnR, rnF, rnV, rnK, rnP, rnFt, n_29_0, n_17_1, h_83]
          have hP : rnP b ln p l m = p := by simp [rnR, rnF, rnV, rnK, rnP, rnFt, n_29_0, n_17_1, h_83]
          have hF : rnFt b ln p l m ft = 2 := by simp [rnR, rnF, rnV, rnK, rnP, rnFt, n_29_0, n_17_1, h_83]
          exact E _ _ _ _ _ _ dX4_readNumber_98 (Nat.le_refl _) (Nat.le_refl _) rfl ⟨congrArg (fun z => some (Value.int z)) hR.symm, by rw [hP, hF] <;> rfl⟩
        · skip
          refine r_iload_n (pc := 86) C dX4_readNumber_86 rfl rfl ?_
          refine r_iload_n (pc := 87) C dX4_readNumber_87 rfl rfl ?_
          refine r_icmp_le (pc := 88) (tgt := 99) C dX4_readNumber_88 (by decide) (fun h_88 => ?_) (fun h_88 => ?_)
          · skip
            refine r_aload_n (pc := 99) C dX4_readNumber_99 rfl rfl ?_
            refine r_dup (pc := 100) C dX4_readNumber_100 rfl ?_
            refine r_getfield (pc := 101) (v := .int (nI p)) C xf_X4_15 dX4_readNumber_101 rfl rfl ?_
            refine r_iload (pc := 104) C dX4_readNumber_104 rfl ?_
            refine r_iadd (pc := 106) C dX4_readNumber_106 ?_
            show g 0 0 (wT 0 (tpS b ln p ft)) 107 [some (.ref 0), some (.int l), some (.int m), some (.int (((10 * 0) + (byteS b ln p)) - 48)), some (.int 1), some (.int (nI (p + 1)))] [.int ((nI p) + 1), .ref 0]
            rw [show ((nI p) + 1 : Int32) = nI (p + 1) from (nI_sum rfl rfl)]
            refine r_putfield (pc := 107) (θ' := wT 0 (up2 (tpS b ln p ft) 2 (k1 (nI (p + 1))))) C xf_X4_15 xt_X4_2 dX4_readNumber_107 rfl (Nat.le_of_ble_eq_true rfl) (fun _ => ⟨rfl, rfl⟩) rfl ?_
            refine r_iload_n (pc := 110) C dX4_readNumber_110 rfl rfl ?_
            show g 0 0 (wT 0 (up2 (tpS b ln p ft) 2 (k1 (nI (p + 1))))) 111 [some (.ref 0), some (.int l), some (.int m), some (.int (((10 * 0) + (byteS b ln p)) - 48)), some (.int 1), some (.int (nI (p + 1)))] [.int (((10 * 0) + (byteS b ln p)) - 48)]
            have hR : rnR b ln p l m = ((10 * 0) + (byteS b ln p)) - 48 := by simp [rnR, rnF, rnV, rnK, rnP, rnFt, n_29_0, n_17_1, h_83, h_88]
            have hP : rnP b ln p l m = (p + 1) := by simp [rnR, rnF, rnV, rnK, rnP, rnFt, n_29_0, n_17_1, h_83, h_88]
            have hF : rnFt b ln p l m ft = ft := by simp [rnR, rnF, rnV, rnK, rnP, rnFt, n_29_0, n_17_1, h_83, h_88]
            exact E _ _ _ _ _ _ dX4_readNumber_111 (Nat.le_refl _) (Nat.le_refl _) rfl ⟨congrArg (fun z => some (Value.int z)) hR.symm, by rw [hP, hF] <;> rfl⟩
          · skip
            refine r_aload_n (pc := 91) C dX4_readNumber_91 rfl rfl ?_
            refine r_iconst (pc := 92) (v := 2) C dX4_readNumber_92 (by decide) ?_
            refine r_callV0 (pc := 93) (As := [.int 2]) (st := []) (θ' := wT 0 (tpS b ln p 2)) C (c_X4_refuse b ln p ft 2) xm_X4_refuse xk_X4_58 dX4_readNumber_93 rfl rfl rfl rfl (Nat.le_of_ble_eq_true rfl) ⟨Nat.le_of_ble_eq_true rfl, Nat.le_of_ble_eq_true rfl⟩ ⟨rfl, rfl⟩ ⟨Nat.le_of_ble_eq_true rfl, Nat.le_of_ble_eq_true rfl⟩ rfl rfl ?_
            show g 0 0 (wT 0 (tpS b ln p 2)) 96 [some (.ref 0), some (.int l), some (.int m), some (.int (((10 * 0) + (byteS b ln p)) - 48)), some (.int 1), some (.int (nI (p + 1)))] [.int (bB false)]
            refine r_pop (pc := 96) C dX4_readNumber_96 rfl ?_
            refine r_iconst (pc := 97) (v := (-1)) C dX4_readNumber_97 (by decide) ?_
            show g 0 0 (wT 0 (tpS b ln p 2)) 98 [some (.ref 0), some (.int l), some (.int m), some (.int (((10 * 0) + (byteS b ln p)) - 48)), some (.int 1), some (.int (nI (p + 1)))] [.int (-1)]
            have hR : rnR b ln p l m = (-1) := by simp [rnR, rnF, rnV, rnK, rnP, rnFt, n_29_0, n_17_1, h_83, h_88]
            have hP : rnP b ln p l m = p := by simp [rnR, rnF, rnV, rnK, rnP, rnFt, n_29_0, n_17_1, h_83, h_88]
            have hF : rnFt b ln p l m ft = 2 := by simp [rnR, rnF, rnV, rnK, rnP, rnFt, n_29_0, n_17_1, h_83, h_88]
            exact E _ _ _ _ _ _ dX4_readNumber_98 (Nat.le_refl _) (Nat.le_refl _) rfl ⟨congrArg (fun z => some (Value.int z)) hR.symm, by rw [hP, hF] <;> rfl⟩
      · skip
        have n_17_1 : (p + 1) < ln := Nat.lt_of_not_le (fun z => h_17 (nI_le z (by omega)))
        refine r_aload_n (pc := 20) C dX4_readNumber_20 rfl rfl ?_
        refine r_iload (pc := 21) C dX4_readNumber_21 rfl ?_
        refine r_callV0 (pc := 23) (As := [.int (nI (p + 1))]) (st := []) (θ' := wT 0 (tpS b ln p ft)) C (c_X4_byteAt b ln p ft hln hp (p + 1) (by have := hp; omega)) xm_X4_byteAt xk_X4_51 dX4_readNumber_23 rfl rfl rfl rfl (Nat.le_of_ble_eq_true rfl) ⟨Nat.le_of_ble_eq_true rfl, Nat.le_of_ble_eq_true rfl⟩ ⟨rfl, rfl⟩ ⟨Nat.le_of_ble_eq_true rfl, Nat.le_of_ble_eq_true rfl⟩ rfl rfl ?_
        show g 0 0 (wT 0 (tpS b ln p ft)) 26 [some (.ref 0), some (.int l), some (.int m), some (.int (((10 * 0) + (byteS b ln p)) - 48)), some (.int 1), some (.int (nI (p + 1)))] [.int (byteS b ln (p + 1))]
        refine r_callS0 (pc := 26) (As := [.int (byteS b ln (p + 1))]) (st := []) C (c_X4_isFigure (byteS b ln (p + 1))) xm_X4_isFigure xk_X4_83 dX4_readNumber_26 (fun _ => rfl) (fun _ => rfl) rfl rfl (Nat.le_of_ble_eq_true rfl) ⟨Nat.le_of_ble_eq_true rfl, Nat.le_of_ble_eq_true rfl⟩ ⟨rfl, rfl⟩ ⟨Nat.le_of_ble_eq_true rfl, Nat.le_of_ble_eq_true rfl⟩ rfl ?_
        show g 0 0 (wT 0 (tpS b ln p ft)) 29 [some (.ref 0), some (.int l), some (.int m), some (.int (((10 * 0) + (byteS b ln p)) - 48)), some (.int 1), some (.int (nI (p + 1)))] [.int (bB (figS (byteS b ln (p + 1))))]
        refine r_if_eq (pc := 29) (tgt := 62) C dX4_readNumber_29 (by decide) (fun h_29 => ?_) (fun h_29 => ?_)
        · replace h_29 := bB_f h_29
          have n_29_1 : fgB b ln ((p + 1)) = false := by unfold fgB; rw [decide_eq_true n_17_1, h_29]; rfl
          refine r_iload (pc := 62) C dX4_readNumber_62 rfl ?_
          refine r_if_eq (pc := 64) (tgt := 73) C dX4_readNumber_64 (by decide) (fun h => absurd h (by decide)) (fun _ => ?_)
          refine r_iload (pc := 67) C dX4_readNumber_67 rfl ?_
          refine r_iconst (pc := 69) (v := 3) C dX4_readNumber_69 (by decide) ?_
          refine r_icmp_ne (pc := 70) (tgt := 81) C dX4_readNumber_70 (by decide) (fun _ => ?_) (fun h => absurd h (by decide))
          refine r_iload_n (pc := 81) C dX4_readNumber_81 rfl rfl ?_
          refine r_iload_n (pc := 82) C dX4_readNumber_82 rfl rfl ?_
          refine r_icmp_lt (pc := 83) (tgt := 91) C dX4_readNumber_83 (by decide) (fun h_83 => ?_) (fun h_83 => ?_)
          · skip
            refine r_aload_n (pc := 91) C dX4_readNumber_91 rfl rfl ?_
            refine r_iconst (pc := 92) (v := 2) C dX4_readNumber_92 (by decide) ?_
            refine r_callV0 (pc := 93) (As := [.int 2]) (st := []) (θ' := wT 0 (tpS b ln p 2)) C (c_X4_refuse b ln p ft 2) xm_X4_refuse xk_X4_58 dX4_readNumber_93 rfl rfl rfl rfl (Nat.le_of_ble_eq_true rfl) ⟨Nat.le_of_ble_eq_true rfl, Nat.le_of_ble_eq_true rfl⟩ ⟨rfl, rfl⟩ ⟨Nat.le_of_ble_eq_true rfl, Nat.le_of_ble_eq_true rfl⟩ rfl rfl ?_
            show g 0 0 (wT 0 (tpS b ln p 2)) 96 [some (.ref 0), some (.int l), some (.int m), some (.int (((10 * 0) + (byteS b ln p)) - 48)), some (.int 1), some (.int (nI (p + 1)))] [.int (bB false)]
            refine r_pop (pc := 96) C dX4_readNumber_96 rfl ?_
            refine r_iconst (pc := 97) (v := (-1)) C dX4_readNumber_97 (by decide) ?_
            show g 0 0 (wT 0 (tpS b ln p 2)) 98 [some (.ref 0), some (.int l), some (.int m), some (.int (((10 * 0) + (byteS b ln p)) - 48)), some (.int 1), some (.int (nI (p + 1)))] [.int (-1)]
            have hR : rnR b ln p l m = (-1) := by simp [rnR, rnF, rnV, rnK, rnP, rnFt, n_29_0, n_29_1, h_83]
            have hP : rnP b ln p l m = p := by simp [rnR, rnF, rnV, rnK, rnP, rnFt, n_29_0, n_29_1, h_83]
            have hF : rnFt b ln p l m ft = 2 := by simp [rnR, rnF, rnV, rnK, rnP, rnFt, n_29_0, n_29_1, h_83]
            exact E _ _ _ _ _ _ dX4_readNumber_98 (Nat.le_refl _) (Nat.le_refl _) rfl ⟨congrArg (fun z => some (Value.int z)) hR.symm, by rw [hP, hF] <;> rfl⟩
          · skip
            refine r_iload_n (pc := 86) C dX4_readNumber_86 rfl rfl ?_
            refine r_iload_n (pc := 87) C dX4_readNumber_87 rfl rfl ?_
            refine r_icmp_le (pc := 88) (tgt := 99) C dX4_readNumber_88 (by decide) (fun h_88 => ?_) (fun h_88 => ?_)
            · skip
              refine r_aload_n (pc := 99) C dX4_readNumber_99 rfl rfl ?_
              refine r_dup (pc := 100) C dX4_readNumber_100 rfl ?_
              refine r_getfield (pc := 101) (v := .int (nI p)) C xf_X4_15 dX4_readNumber_101 rfl rfl ?_
              refine r_iload (pc := 104) C dX4_readNumber_104 rfl ?_
              refine r_iadd (pc := 106) C dX4_readNumber_106 ?_
              show g 0 0 (wT 0 (tpS b ln p ft)) 107 [some (.ref 0), some (.int l), some (.int m), some (.int (((10 * 0) + (byteS b ln p)) - 48)), some (.int 1), some (.int (nI (p + 1)))] [.int ((nI p) + 1), .ref 0]
              rw [show ((nI p) + 1 : Int32) = nI (p + 1) from (nI_sum rfl rfl)]
              refine r_putfield (pc := 107) (θ' := wT 0 (up2 (tpS b ln p ft) 2 (k1 (nI (p + 1))))) C xf_X4_15 xt_X4_2 dX4_readNumber_107 rfl (Nat.le_of_ble_eq_true rfl) (fun _ => ⟨rfl, rfl⟩) rfl ?_
              refine r_iload_n (pc := 110) C dX4_readNumber_110 rfl rfl ?_
              show g 0 0 (wT 0 (up2 (tpS b ln p ft) 2 (k1 (nI (p + 1))))) 111 [some (.ref 0), some (.int l), some (.int m), some (.int (((10 * 0) + (byteS b ln p)) - 48)), some (.int 1), some (.int (nI (p + 1)))] [.int (((10 * 0) + (byteS b ln p)) - 48)]
              have hR : rnR b ln p l m = ((10 * 0) + (byteS b ln p)) - 48 := by simp [rnR, rnF, rnV, rnK, rnP, rnFt, n_29_0, n_29_1, h_83, h_88]
              have hP : rnP b ln p l m = (p + 1) := by simp [rnR, rnF, rnV, rnK, rnP, rnFt, n_29_0, n_29_1, h_83, h_88]
              have hF : rnFt b ln p l m ft = ft := by simp [rnR, rnF, rnV, rnK, rnP, rnFt, n_29_0, n_29_1, h_83, h_88]
              exact E _ _ _ _ _ _ dX4_readNumber_111 (Nat.le_refl _) (Nat.le_refl _) rfl ⟨congrArg (fun z => some (Value.int z)) hR.symm, by rw [hP, hF] <;> rfl⟩
            · skip
              refine r_aload_n (pc := 91) C dX4_readNumber_91 rfl rfl ?_
              refine r_iconst (pc := 92) (v := 2) C dX4_readNumber_92 (by decide) ?_
              refine r_callV0 (pc := 93) (As := [.int 2]) (st := []) (θ' := wT 0 (tpS b ln p 2)) C (c_X4_refuse b ln p ft 2) xm_X4_refuse xk_X4_58 dX4_readNumber_93 rfl rfl rfl rfl (Nat.le_of_ble_eq_true rfl) ⟨Nat.le_of_ble_eq_true rfl, Nat.le_of_ble_eq_true rfl⟩ ⟨rfl, rfl⟩ ⟨Nat.le_of_ble_eq_true rfl, Nat.le_of_ble_eq_true rfl⟩ rfl rfl ?_
              show g 0 0 (wT 0 (tpS b ln p 2)) 96 [some (.ref 0), some (.int l), some (.int m), some (.int (((10 * 0) + (byteS b ln p)) - 48)), some (.int 1), some (.int (nI (p + 1)))] [.int (bB false)]
              refine r_pop (pc := 96) C dX4_readNumber_96 rfl ?_
              refine r_iconst (pc := 97) (v := (-1)) C dX4_readNumber_97 (by decide) ?_
              show g 0 0 (wT 0 (tpS b ln p 2)) 98 [some (.ref 0), some (.int l), some (.int m), some (.int (((10 * 0) + (byteS b ln p)) - 48)), some (.int 1), some (.int (nI (p + 1)))] [.int (-1)]
              have hR : rnR b ln p l m = (-1) := by simp [rnR, rnF, rnV, rnK, rnP, rnFt, n_29_0, n_29_1, h_83, h_88]
              have hP : rnP b ln p l m = p := by simp [rnR, rnF, rnV, rnK, rnP, rnFt, n_29_0, n_29_1, h_83, h_88]
              have hF : rnFt b ln p l m ft = 2 := by simp [rnR, rnF, rnV, rnK, rnP, rnFt, n_29_0, n_29_1, h_83, h_88]
              exact E _ _ _ _ _ _ dX4_readNumber_98 (Nat.le_refl _) (Nat.le_refl _) rfl ⟨congrArg (fun z => some (Value.int z)) hR.symm, by rw [hP, hF] <;> rfl⟩
        · replace h_29 := bB_t h_29
          have n_29_1 : fgB b ln ((p + 1)) = true := by unfold fgB; rw [decide_eq_true n_17_1, h_29]; rfl
          refine r_iload (pc := 32) C dX4_readNumber_32 rfl ?_
          refine r_iconst (pc := 34) (v := 3) C dX4_readNumber_34 (by decide) ?_
          refine r_icmp_ge (pc := 35) (tgt := 62) C dX4_readNumber_35 (by decide) (fun h => absurd h (by decide)) (fun _ => ?_)
          refine r_bipush (pc := 38) (v := 10) C dX4_readNumber_38 (by decide) ?_
          refine r_iload_n (pc := 40) C dX4_readNumber_40 rfl rfl ?_
          refine r_imul (pc := 41) C dX4_readNumber_41 ?_
          refine r_aload_n (pc := 42) C dX4_readNumber_42 rfl rfl ?_
          refine r_iload (pc := 43) C dX4_readNumber_43 rfl ?_
          refine r_callV0 (pc := 45) (As := [.int (nI (p + 1))]) (st := [.int (10 * (((10 * 0) + (byteS b ln p)) - 48))]) (θ' := wT 0 (tpS b ln p ft)) C (c_X4_byteAt b ln p ft hln hp (p + 1) (by have := hp; omega)) xm_X4_byteAt xk_X4_51 dX4_readNumber_45 rfl rfl rfl rfl (Nat.le_of_ble_eq_true rfl) ⟨Nat.le_of_ble_eq_true rfl, Nat.le_of_ble_eq_true rfl⟩ ⟨rfl, rfl⟩ ⟨Nat.le_of_ble_eq_true rfl, Nat.le_of_ble_eq_true rfl⟩ rfl rfl ?_
          show g 0 0 (wT 0 (tpS b ln p ft)) 48 [some (.ref 0), some (.int l), some (.int m), some (.int (((10 * 0) + (byteS b ln p)) - 48)), some (.int 1), some (.int (nI (p + 1)))] [.int (byteS b ln (p + 1)), .int (10 * (((10 * 0) + (byteS b ln p)) - 48))]
          refine r_iadd (pc := 48) C dX4_readNumber_48 ?_
          refine r_bipush (pc := 49) (v := 48) C dX4_readNumber_49 (by decide) ?_
          refine r_isub (pc := 51) C dX4_readNumber_51 ?_
          refine r_istore_n (pc := 52) (lv' := [some (.ref 0), some (.int l), some (.int m), some (.int (((10 * (((10 * 0) + (byteS b ln p)) - 48)) + (byteS b ln (p + 1))) - 48)), some (.int 1), some (.int (nI (p + 1)))]) C dX4_readNumber_52 rfl (Nat.le_of_ble_eq_true rfl) trivial rfl ?_
          refine r_iinc (pc := 53) (v := 2) (lv' := [some (.ref 0), some (.int l), some (.int m), some (.int (((10 * (((10 * 0) + (byteS b ln p)) - 48)) + (byteS b ln (p + 1))) - 48)), some (.int 2), some (.int (nI (p + 1)))]) C dX4_readNumber_53 rfl (by decide) trivial rfl ?_
          refine r_iinc (pc := 56) (v := nI ((p + 1) + 1)) (lv' := [some (.ref 0), some (.int l), some (.int m), some (.int (((10 * (((10 * 0) + (byteS b ln p)) - 48)) + (byteS b ln (p + 1))) - 48)), some (.int 2), some (.int (nI ((p + 1) + 1)))]) C dX4_readNumber_56 rfl (nI_1 (p + 1)) trivial rfl ?_
          refine r_goto (pc := 59) (tgt := 11) C dX4_readNumber_59 (by decide) ?_
          refine r_iload (pc := 11) C dX4_readNumber_11 rfl ?_
          refine r_aload_n (pc := 13) C dX4_readNumber_13 rfl rfl ?_
          refine r_getfield (pc := 14) (v := .int (nI ln)) C xf_X4_28 dX4_readNumber_14 rfl rfl ?_
          refine r_icmp_ge (pc := 17) (tgt := 62) C dX4_readNumber_17 (by decide) (fun h_17 => ?_) (fun h_17 => ?_)
          · skip
            have n_17_2 : fgB b ln (((p + 1) + 1)) = false := by unfold fgB; rw [decide_eq_false (by intro z; exact absurd h_17 (nI_ge (by omega) (by omega)))]; rfl
            refine r_iload (pc := 62) C dX4_readNumber_62 rfl ?_
            refine r_if_eq (pc := 64) (tgt := 73) C dX4_readNumber_64 (by decide) (fun h => absurd h (by decide)) (fun _ => ?_)
            refine r_iload (pc := 67) C dX4_readNumber_67 rfl ?_
            refine r_iconst (pc := 69) (v := 3) C dX4_readNumber_69 (by decide) ?_
            refine r_icmp_ne (pc := 70) (tgt := 81) C dX4_readNumber_70 (by decide) (fun _ => ?_) (fun h => absurd h (by decide))
            refine r_iload_n (pc := 81) C dX4_readNumber_81 rfl rfl ?_
            refine r_iload_n (pc := 82) C dX4_readNumber_82 rfl rfl ?_
            refine r_icmp_lt (pc := 83) (tgt := 91) C dX4_readNumber_83 (by decide) (fun h_83 => ?_) (fun h_83 => ?_)
            · skip
              refine r_aload_n (pc := 91) C dX4_readNumber_91 rfl rfl ?_
              refine r_iconst (pc := 92) (v := 2) C dX4_readNumber_92 (by decide) ?_
              refine r_callV0 (pc := 93) (As := [.int 2]) (st := []) (θ' := wT 0 (tpS b ln p 2)) C (c_X4_refuse b ln p ft 2) xm_X4_refuse xk_X4_58 dX4_readNumber_93 rfl rfl rfl rfl (Nat.le_of_ble_eq_true rfl) ⟨Nat.le_of_ble_eq_true rfl, Nat.le_of_ble_eq_true rfl⟩ ⟨rfl, rfl⟩ ⟨Nat.le_of_ble_eq_true rfl, Nat.le_of_ble_eq_true rfl⟩ rfl rfl ?_
              show g 0 0 (wT 0 (tpS b ln p 2)) 96 [some (.ref 0), some (.int l), some (.int m), some (.int (((10 * (((10 * 0) + (byteS b ln p)) - 48)) + (byteS b ln (p + 1))) - 48)), some (.int 2), some (.int (nI ((p + 1) + 1)))] [.int (bB false)]
              refine r_pop (pc := 96) C dX4_readNumber_96 rfl ?_
              refine r_iconst (pc := 97) (v := (-1)) C dX4_readNumber_97 (by decide) ?_
              show g 0 0 (wT 0 (tpS b ln p 2)) 98 [some (.ref 0), some (.int l), some (.int m), some (.int (((10 * (((10 * 0) + (byteS b ln p)) - 48)) + (byteS b ln (p + 1))) - 48)), some (.int 2), some (.int (nI ((p + 1) + 1)))] [.int (-1)]
              have hR : rnR b ln p l m = (-1) := by simp [rnR, rnF, rnV, rnK, rnP, rnFt, n_29_0, n_29_1, n_17_2, h_83]
              have hP : rnP b ln p l m = p := by simp [rnR, rnF, rnV, rnK, rnP, rnFt, n_29_0, n_29_1, n_17_2, h_83]
              have hF : rnFt b ln p l m ft = 2 := by simp [rnR, rnF, rnV, rnK, rnP, rnFt, n_29_0, n_29_1, n_17_2, h_83]
              exact E _ _ _ _ _ _ dX4_readNumber_98 (Nat.le_refl _) (Nat.le_refl _) rfl ⟨congrArg (fun z => some (Value.int z)) hR.symm, by rw [hP, hF] <;> rfl⟩
            · skip
              refine r_iload_n (pc := 86) C dX4_readNumber_86 rfl rfl ?_
              refine r_iload_n (pc := 87) C dX4_readNumber_87 rfl rfl ?_
              refine r_icmp_le (pc := 88) (tgt := 99) C dX4_readNumber_88 (by decide) (fun h_88 => ?_) (fun h_88 => ?_)
              · skip
                refine r_aload_n (pc := 99) C dX4_readNumber_99 rfl rfl ?_
                refine r_dup (pc := 100) C dX4_readNumber_100 rfl ?_
                refine r_getfield (pc := 101) (v := .int (nI p)) C xf_X4_15 dX4_readNumber_101 rfl rfl ?_
                refine r_iload (pc := 104) C dX4_readNumber_104 rfl ?_
                refine r_iadd (pc := 106) C dX4_readNumber_106 ?_
                show g 0 0 (wT 0 (tpS b ln p ft)) 107 [some (.ref 0), some (.int l), some (.int m), some (.int (((10 * (((10 * 0) + (byteS b ln p)) - 48)) + (byteS b ln (p + 1))) - 48)), some (.int 2), some (.int (nI ((p + 1) + 1)))] [.int ((nI p) + 2), .ref 0]
                rw [show ((nI p) + 2 : Int32) = nI (p + 2) from (nI_sum rfl rfl)]
                refine r_putfield (pc := 107) (θ' := wT 0 (up2 (tpS b ln p ft) 2 (k1 (nI (p + 2))))) C xf_X4_15 xt_X4_2 dX4_readNumber_107 rfl (Nat.le_of_ble_eq_true rfl) (fun _ => ⟨rfl, rfl⟩) rfl ?_
                refine r_iload_n (pc := 110) C dX4_readNumber_110 rfl rfl ?_
                show g 0 0 (wT 0 (up2 (tpS b ln p ft) 2 (k1 (nI (p + 2))))) 111 [some (.ref 0), some (.int l), some (.int m), some (.int (((10 * (((10 * 0) + (byteS b ln p)) - 48)) + (byteS b ln (p + 1))) - 48)), some (.int 2), some (.int (nI ((p + 1) + 1)))] [.int (((10 * (((10 * 0) + (byteS b ln p)) - 48)) + (byteS b ln (p + 1))) - 48)]
                have hR : rnR b ln p l m = ((10 * (((10 * 0) + (byteS b ln p)) - 48)) + (byteS b ln (p + 1))) - 48 := by simp [rnR, rnF, rnV, rnK, rnP, rnFt, n_29_0, n_29_1, n_17_2, h_83, h_88]
                have hP : rnP b ln p l m = (p + 2) := by simp [rnR, rnF, rnV, rnK, rnP, rnFt, n_29_0, n_29_1, n_17_2, h_83, h_88]
                have hF : rnFt b ln p l m ft = ft := by simp [rnR, rnF, rnV, rnK, rnP, rnFt, n_29_0, n_29_1, n_17_2, h_83, h_88]
                exact E _ _ _ _ _ _ dX4_readNumber_111 (Nat.le_refl _) (Nat.le_refl _) rfl ⟨congrArg (fun z => some (Value.int z)) hR.symm, by rw [hP, hF] <;> rfl⟩
              · skip
                refine r_aload_n (pc := 91) C dX4_readNumber_91 rfl rfl ?_
                refine r_iconst (pc := 92) (v := 2) C dX4_readNumber_92 (by decide) ?_
                refine r_callV0 (pc := 93) (As := [.int 2]) (st := []) (θ' := wT 0 (tpS b ln p 2)) C (c_X4_refuse b ln p ft 2) xm_X4_refuse xk_X4_58 dX4_readNumber_93 rfl rfl rfl rfl (Nat.le_of_ble_eq_true rfl) ⟨Nat.le_of_ble_eq_true rfl, Nat.le_of_ble_eq_true rfl⟩ ⟨rfl, rfl⟩ ⟨Nat.le_of_ble_eq_true rfl, Nat.le_of_ble_eq_true rfl⟩ rfl rfl ?_
                show g 0 0 (wT 0 (tpS b ln p 2)) 96 [some (.ref 0), some (.int l), some (.int m), some (.int (((10 * (((10 * 0) + (byteS b ln p)) - 48)) + (byteS b ln (p + 1))) - 48)), some (.int 2), some (.int (nI ((p + 1) + 1)))] [.int (bB false)]
                refine r_pop (pc := 96) C dX4_readNumber_96 rfl ?_
                refine r_iconst (pc := 97) (v := (-1)) C dX4_readNumber_97 (by decide) ?_
                show g 0 0 (wT 0 (tpS b ln p 2)) 98 [some (.ref 0), some (.int l), some (.int m), some (.int (((10 * (((10 * 0) + (byteS b ln p)) - 48)) + (byteS b ln (p + 1))) - 48)), some (.int 2), some (.int (nI ((p + 1) + 1)))] [.int (-1)]
                have hR : rnR b ln p l m = (-1) := by simp [rnR, rnF, rnV, rnK, rnP, rnFt, n_29_0, n_29_1, n_17_2, h_83, h_88]
                have hP : rnP b ln p l m = p := by simp [rnR, rnF, rnV, rnK, rnP, rnFt, n_29_0, n_29_1, n_17_2, h_83, h_88]
                have hF : rnFt b ln p l m ft = 2 := by simp [rnR, rnF, rnV, rnK, rnP, rnFt, n_29_0, n_29_1, n_17_2, h_83, h_88]
                exact E _ _ _ _ _ _ dX4_readNumber_98 (Nat.le_refl _) (Nat.le_refl _) rfl ⟨congrArg (fun z => some (Value.int z)) hR.symm, by rw [hP, hF] <;> rfl⟩
          · skip
            have n_17_2 : ((p + 1) + 1) < ln := Nat.lt_of_not_le (fun z => h_17 (nI_le z (by omega)))
            refine r_aload_n (pc := 20) C dX4_readNumber_20 rfl rfl ?_
            refine r_iload (pc := 21) C dX4_readNumber_21 rfl ?_
            refine r_callV0 (pc := 23) (As := [.int (nI ((p + 1) + 1))]) (st := []) (θ' := wT 0 (tpS b ln p ft)) C (c_X4_byteAt b ln p ft hln hp ((p + 1) + 1) (by have := hp; omega)) xm_X4_byteAt xk_X4_51 dX4_readNumber_23 rfl rfl rfl rfl (Nat.le_of_ble_eq_true rfl) ⟨Nat.le_of_ble_eq_true rfl, Nat.le_of_ble_eq_true rfl⟩ ⟨rfl, rfl⟩ ⟨Nat.le_of_ble_eq_true rfl, Nat.le_of_ble_eq_true rfl⟩ rfl rfl ?_
            show g 0 0 (wT 0 (tpS b ln p ft)) 26 [some (.ref 0), some (.int l), some (.int m), some (.int (((10 * (((10 * 0) + (byteS b ln p)) - 48)) + (byteS b ln (p + 1))) - 48)), some (.int 2), some (.int (nI ((p + 1) + 1)))] [.int (byteS b ln ((p + 1) + 1))]
            refine r_callS0 (pc := 26) (As := [.int (byteS b ln ((p + 1) + 1))]) (st := []) C (c_X4_isFigure (byteS b ln ((p + 1) + 1))) xm_X4_isFigure xk_X4_83 dX4_readNumber_26 (fun _ => rfl) (fun _ => rfl) rfl rfl (Nat.le_of_ble_eq_true rfl) ⟨Nat.le_of_ble_eq_true rfl, Nat.le_of_ble_eq_true rfl⟩ ⟨rfl, rfl⟩ ⟨Nat.le_of_ble_eq_true rfl, Nat.le_of_ble_eq_true rfl⟩ rfl ?_
            show g 0 0 (wT 0 (tpS b ln p ft)) 29 [some (.ref 0), some (.int l), some (.int m), some (.int (((10 * (((10 * 0) + (byteS b ln p)) - 48)) + (byteS b ln (p + 1))) - 48)), some (.int 2), some (.int (nI ((p + 1) + 1)))] [.int (bB (figS (byteS b ln ((p + 1) + 1))))]
            refine r_if_eq (pc := 29) (tgt := 62) C dX4_readNumber_29 (by decide) (fun h_29 => ?_) (fun h_29 => ?_)
            · replace h_29 := bB_f h_29
              have n_29_2 : fgB b ln (((p + 1) + 1)) = false := by unfold fgB; rw [decide_eq_true n_17_2, h_29]; rfl
              refine r_iload (pc := 62) C dX4_readNumber_62 rfl ?_
              refine r_if_eq (pc := 64) (tgt := 73) C dX4_readNumber_64 (by decide) (fun h => absurd h (by decide)) (fun _ => ?_)
              refine r_iload (pc := 67) C dX4_readNumber_67 rfl ?_
              refine r_iconst (pc := 69) (v := 3) C dX4_readNumber_69 (by decide) ?_
              refine r_icmp_ne (pc := 70) (tgt := 81) C dX4_readNumber_70 (by decide) (fun _ => ?_) (fun h => absurd h (by decide))
              refine r_iload_n (pc := 81) C dX4_readNumber_81 rfl rfl ?_
              refine r_iload_n (pc := 82) C dX4_readNumber_82 rfl rfl ?_
              refine r_icmp_lt (pc := 83) (tgt := 91) C dX4_readNumber_83 (by decide) (fun h_83 => ?_) (fun h_83 => ?_)
              · skip
                refine r_aload_n (pc := 91) C dX4_readNumber_91 rfl rfl ?_
                refine r_iconst (pc := 92) (v := 2) C dX4_readNumber_92 (by decide) ?_
                refine r_callV0 (pc := 93) (As := [.int 2]) (st := []) (θ' := wT 0 (tpS b ln p 2)) C (c_X4_refuse b ln p ft 2) xm_X4_refuse xk_X4_58 dX4_readNumber_93 rfl rfl rfl rfl (Nat.le_of_ble_eq_true rfl) ⟨Nat.le_of_ble_eq_true rfl, Nat.le_of_ble_eq_true rfl⟩ ⟨rfl, rfl⟩ ⟨Nat.le_of_ble_eq_true rfl, Nat.le_of_ble_eq_true rfl⟩ rfl rfl ?_
                show g 0 0 (wT 0 (tpS b ln p 2)) 96 [some (.ref 0), some (.int l), some (.int m), some (.int (((10 * (((10 * 0) + (byteS b ln p)) - 48)) + (byteS b ln (p + 1))) - 48)), some (.int 2), some (.int (nI ((p + 1) + 1)))] [.int (bB false)]
                refine r_pop (pc := 96) C dX4_readNumber_96 rfl ?_
                refine r_iconst (pc := 97) (v := (-1)) C dX4_readNumber_97 (by decide) ?_
                show g 0 0 (wT 0 (tpS b ln p 2)) 98 [some (.ref 0), some (.int l), some (.int m), some (.int (((10 * (((10 * 0) + (byteS b ln p)) - 48)) + (byteS b ln (p + 1))) - 48)), some (.int 2), some (.int (nI ((p + 1) + 1)))] [.int (-1)]
                have hR : rnR b ln p l m = (-1) := by simp [rnR, rnF, rnV, rnK, rnP, rnFt, n_29_0, n_29_1, n_29_2, h_83]
                have hP : rnP b ln p l m = p := by simp [rnR, rnF, rnV, rnK, rnP, rnFt, n_29_0, n_29_1, n_29_2, h_83]
                have hF : rnFt b ln p l m ft = 2 := by simp [rnR, rnF, rnV, rnK, rnP, rnFt, n_29_0, n_29_1, n_29_2, h_83]
                exact E _ _ _ _ _ _ dX4_readNumber_98 (Nat.le_refl _) (Nat.le_refl _) rfl ⟨congrArg (fun z => some (Value.int z)) hR.symm, by rw [hP, hF] <;> rfl⟩
              · skip
                refine r_iload_n (pc := 86) C dX4_readNumber_86 rfl rfl ?_
                refine r_iload_n (pc := 87) C dX4_readNumber_87 rfl rfl ?_
                refine r_icmp_le (pc := 88) (tgt := 99) C dX4_readNumber_88 (by decide) (fun h_88 => ?_) (fun h_88 => ?_)
                · skip
                  refine r_aload_n (pc := 99) C dX4_readNumber_99 rfl rfl ?_
                  refine r_dup (pc := 100) C dX4_readNumber_100 rfl ?_
                  refine r_getfield (pc := 101) (v := .int (nI p)) C xf_X4_15 dX4_readNumber_101 rfl rfl ?_
                  refine r_iload (pc := 104) C dX4_readNumber_104 rfl ?_
                  refine r_iadd (pc := 106) C dX4_readNumber_106 ?_
                  show g 0 0 (wT 0 (tpS b ln p ft)) 107 [some (.ref 0), some (.int l), some (.int m), some (.int (((10 * (((10 * 0) + (byteS b ln p)) - 48)) + (byteS b ln (p + 1))) - 48)), some (.int 2), some (.int (nI ((p + 1) + 1)))] [.int ((nI p) + 2), .ref 0]
                  rw [show ((nI p) + 2 : Int32) = nI (p + 2) from (nI_sum rfl rfl)]
                  refine r_putfield (pc := 107) (θ' := wT 0 (up2 (tpS b ln p ft) 2 (k1 (nI (p + 2))))) C xf_X4_15 xt_X4_2 dX4_readNumber_107 rfl (Nat.le_of_ble_eq_true rfl) (fun _ => ⟨rfl, rfl⟩) rfl ?_
                  refine r_iload_n (pc := 110) C dX4_readNumber_110 rfl rfl ?_
                  show g 0 0 (wT 0 (up2 (tpS b ln p ft) 2 (k1 (nI (p + 2))))) 111 [some (.ref 0), some (.int l), some (.int m), some (.int (((10 * (((10 * 0) + (byteS b ln p)) - 48)) + (byteS b ln (p + 1))) - 48)), some (.int 2), some (.int (nI ((p + 1) + 1)))] [.int (((10 * (((10 * 0) + (byteS b ln p)) - 48)) + (byteS b ln (p + 1))) - 48)]
                  have hR : rnR b ln p l m = ((10 * (((10 * 0) + (byteS b ln p)) - 48)) + (byteS b ln (p + 1))) - 48 := by simp [rnR, rnF, rnV, rnK, rnP, rnFt, n_29_0, n_29_1, n_29_2, h_83, h_88]
                  have hP : rnP b ln p l m = (p + 2) := by simp [rnR, rnF, rnV, rnK, rnP, rnFt, n_29_0, n_29_1, n_29_2, h_83, h_88]
                  have hF : rnFt b ln p l m ft = ft := by simp [rnR, rnF, rnV, rnK, rnP, rnFt, n_29_0, n_29_1, n_29_2, h_83, h_88]
                  exact E _ _ _ _ _ _ dX4_readNumber_111 (Nat.le_refl _) (Nat.le_refl _) rfl ⟨congrArg (fun z => some (Value.int z)) hR.symm, by rw [hP, hF] <;> rfl⟩
                · skip
                  refine r_aload_n (pc := 91) C dX4_readNumber_91 rfl rfl ?_
                  refine r_iconst (pc := 92) (v := 2) C dX4_readNumber_92 (by decide) ?_
                  refine r_callV0 (pc := 93) (As := [.int 2]) (st := []) (θ' := wT 0 (tpS b ln p 2)) C (c_X4_refuse b ln p ft 2) xm_X4_refuse xk_X4_58 dX4_readNumber_93 rfl rfl rfl rfl (Nat.le_of_ble_eq_true rfl) ⟨Nat.le_of_ble_eq_true rfl, Nat.le_of_ble_eq_true rfl⟩ ⟨rfl, rfl⟩ ⟨Nat.le_of_ble_eq_true rfl, Nat.le_of_ble_eq_true rfl⟩ rfl rfl ?_
                  show g 0 0 (wT 0 (tpS b ln p 2)) 96 [some (.ref 0), some (.int l), some (.int m), some (.int (((10 * (((10 * 0) + (byteS b ln p)) - 48)) + (byteS b ln (p + 1))) - 48)), some (.int 2), some (.int (nI ((p + 1) + 1)))] [.int (bB false)]
                  refine r_pop (pc := 96) C dX4_readNumber_96 rfl ?_
                  refine r_iconst (pc := 97) (v := (-1)) C dX4_readNumber_97 (by decide) ?_
                  show g 0 0 (wT 0 (tpS b ln p 2)) 98 [some (.ref 0), some (.int l), some (.int m), some (.int (((10 * (((10 * 0) + (byteS b ln p)) - 48)) + (byteS b ln (p + 1))) - 48)), some (.int 2), some (.int (nI ((p + 1) + 1)))] [.int (-1)]
                  have hR : rnR b ln p l m = (-1) := by simp [rnR, rnF, rnV, rnK, rnP, rnFt, n_29_0, n_29_1, n_29_2, h_83, h_88]
                  have hP : rnP b ln p l m = p := by simp [rnR, rnF, rnV, rnK, rnP, rnFt, n_29_0, n_29_1, n_29_2, h_83, h_88]
                  have hF : rnFt b ln p l m ft = 2 := by simp [rnR, rnF, rnV, rnK, rnP, rnFt, n_29_0, n_29_1, n_29_2, h_83, h_88]
                  exact E _ _ _ _ _ _ dX4_readNumber_98 (Nat.le_refl _) (Nat.le_refl _) rfl ⟨congrArg (fun z => some (Value.int z)) hR.symm, by rw [hP, hF] <;> rfl⟩
            · replace h_29 := bB_t h_29
              have n_29_2 : fgB b ln (((p + 1) + 1)) = true := by unfold fgB; rw [decide_eq_true n_17_2, h_29]; rfl
              refine r_iload (pc := 32) C dX4_readNumber_32 rfl ?_
              refine r_iconst (pc := 34) (v := 3) C dX4_readNumber_34 (by decide) ?_
              refine r_icmp_ge (pc := 35) (tgt := 62) C dX4_readNumber_35 (by decide) (fun h => absurd h (by decide)) (fun _ => ?_)
              refine r_bipush (pc := 38) (v := 10) C dX4_readNumber_38 (by decide) ?_
              refine r_iload_n (pc := 40) C dX4_readNumber_40 rfl rfl ?_
              refine r_imul (pc := 41) C dX4_readNumber_41 ?_
              refine r_aload_n (pc := 42) C dX4_readNumber_42 rfl rfl ?_
              refine r_iload (pc := 43) C dX4_readNumber_43 rfl ?_
              refine r_callV0 (pc := 45) (As := [.int (nI ((p + 1) + 1))]) (st := [.int (10 * (((10 * (((10 * 0) + (byteS b ln p)) - 48)) + (byteS b ln (p + 1))) - 48))]) (θ' := wT 0 (tpS b ln p ft)) C (c_X4_byteAt b ln p ft hln hp ((p + 1) + 1) (by have := hp; omega)) xm_X4_byteAt xk_X4_51 dX4_readNumber_45 rfl rfl rfl rfl (Nat.le_of_ble_eq_true rfl) ⟨Nat.le_of_ble_eq_true rfl, Nat.le_of_ble_eq_true rfl⟩ ⟨rfl, rfl⟩ ⟨Nat.le_of_ble_eq_true rfl, Nat.le_of_ble_eq_true rfl⟩ rfl rfl ?_
              show g 0 0 (wT 0 (tpS b ln p ft)) 48 [some (.ref 0), some (.int l), some (.int m), some (.int (((10 * (((10 * 0) + (byteS b ln p)) - 48)) + (byteS b ln (p + 1))) - 48)), some (.int 2), some (.int (nI ((p + 1) + 1)))] [.int (byteS b ln ((p + 1) + 1)), .int (10 * (((10 * (((10 * 0) + (byteS b ln p)) - 48)) + (byteS b ln (p + 1))) - 48))]
              refine r_iadd (pc := 48) C dX4_readNumber_48 ?_
              refine r_bipush (pc := 49) (v := 48) C dX4_readNumber_49 (by decide) ?_
              refine r_isub (pc := 51) C dX4_readNumber_51 ?_
              refine r_istore_n (pc := 52) (lv' := [some (.ref 0), some (.int l), some (.int m), some (.int (((10 * (((10 * (((10 * 0) + (byteS b ln p)) - 48)) + (byteS b ln (p + 1))) - 48)) + (byteS b ln ((p + 1) + 1))) - 48)), some (.int 2), some (.int (nI ((p + 1) + 1)))]) C dX4_readNumber_52 rfl (Nat.le_of_ble_eq_true rfl) trivial rfl ?_
              refine r_iinc (pc := 53) (v := 3) (lv' := [some (.ref 0), some (.int l), some (.int m), some (.int (((10 * (((10 * (((10 * 0) + (byteS b ln p)) - 48)) + (byteS b ln (p + 1))) - 48)) + (byteS b ln ((p + 1) + 1))) - 48)), some (.int 3), some (.int (nI ((p + 1) + 1)))]) C dX4_readNumber_53 rfl (by decide) trivial rfl ?_
              refine r_iinc (pc := 56) (v := nI (((p + 1) + 1) + 1)) (lv' := [some (.ref 0), some (.int l), some (.int m), some (.int (((10 * (((10 * (((10 * 0) + (byteS b ln p)) - 48)) + (byteS b ln (p + 1))) - 48)) + (byteS b ln ((p + 1) + 1))) - 48)), some (.int 3), some (.int (nI (((p + 1) + 1) + 1)))]) C dX4_readNumber_56 rfl (nI_1 ((p + 1) + 1)) trivial rfl ?_
              refine r_goto (pc := 59) (tgt := 11) C dX4_readNumber_59 (by decide) ?_
              refine r_iload (pc := 11) C dX4_readNumber_11 rfl ?_
              refine r_aload_n (pc := 13) C dX4_readNumber_13 rfl rfl ?_
              refine r_getfield (pc := 14) (v := .int (nI ln)) C xf_X4_28 dX4_readNumber_14 rfl rfl ?_
              refine r_icmp_ge (pc := 17) (tgt := 62) C dX4_readNumber_17 (by decide) (fun h_17 => ?_) (fun h_17 => ?_)
              · skip
                have n_17_3 : fgB b ln ((((p + 1) + 1) + 1)) = false := by unfold fgB; rw [decide_eq_false (by intro z; exact absurd h_17 (nI_ge (by omega) (by omega)))]; rfl
                refine r_iload (pc := 62) C dX4_readNumber_62 rfl ?_
                refine r_if_eq (pc := 64) (tgt := 73) C dX4_readNumber_64 (by decide) (fun h => absurd h (by decide)) (fun _ => ?_)
                refine r_iload (pc := 67) C dX4_readNumber_67 rfl ?_
                refine r_iconst (pc := 69) (v := 3) C dX4_readNumber_69 (by decide) ?_
                refine r_icmp_ne (pc := 70) (tgt := 81) C dX4_readNumber_70 (by decide) (fun h => absurd (by decide) h) (fun _ => ?_)
                refine r_aload_n (pc := 73) C dX4_readNumber_73 rfl rfl ?_
                refine r_iconst (pc := 74) (v := 1) C dX4_readNumber_74 (by decide) ?_
                refine r_callV0 (pc := 75) (As := [.int 1]) (st := []) (θ' := wT 0 (tpS b ln p 1)) C (c_X4_refuse b ln p ft 1) xm_X4_refuse xk_X4_58 dX4_readNumber_75 rfl rfl rfl rfl (Nat.le_of_ble_eq_true rfl) ⟨Nat.le_of_ble_eq_true rfl, Nat.le_of_ble_eq_true rfl⟩ ⟨rfl, rfl⟩ ⟨Nat.le_of_ble_eq_true rfl, Nat.le_of_ble_eq_true rfl⟩ rfl rfl ?_
                show g 0 0 (wT 0 (tpS b ln p 1)) 78 [some (.ref 0), some (.int l), some (.int m), some (.int (((10 * (((10 * (((10 * 0) + (byteS b ln p)) - 48)) + (byteS b ln (p + 1))) - 48)) + (byteS b ln ((p + 1) + 1))) - 48)), some (.int 3), some (.int (nI (((p + 1) + 1) + 1)))] [.int (bB false)]
                refine r_pop (pc := 78) C dX4_readNumber_78 rfl ?_
                refine r_iconst (pc := 79) (v := (-1)) C dX4_readNumber_79 (by decide) ?_
                show g 0 0 (wT 0 (tpS b ln p 1)) 80 [some (.ref 0), some (.int l), some (.int m), some (.int (((10 * (((10 * (((10 * 0) + (byteS b ln p)) - 48)) + (byteS b ln (p + 1))) - 48)) + (byteS b ln ((p + 1) + 1))) - 48)), some (.int 3), some (.int (nI (((p + 1) + 1) + 1)))] [.int (-1)]
                have hR : rnR b ln p l m = (-1) := by simp [rnR, rnF, rnV, rnK, rnP, rnFt, n_29_0, n_29_1, n_29_2, n_17_3]
                have hP : rnP b ln p l m = p := by simp [rnR, rnF, rnV, rnK, rnP, rnFt, n_29_0, n_29_1, n_29_2, n_17_3]
                have hF : rnFt b ln p l m ft = 1 := by simp [rnR, rnF, rnV, rnK, rnP, rnFt, n_29_0, n_29_1, n_29_2, n_17_3]
                exact E _ _ _ _ _ _ dX4_readNumber_80 (Nat.le_refl _) (Nat.le_refl _) rfl ⟨congrArg (fun z => some (Value.int z)) hR.symm, by rw [hP, hF] <;> rfl⟩
              · skip
                have n_17_3 : (((p + 1) + 1) + 1) < ln := Nat.lt_of_not_le (fun z => h_17 (nI_le z (by omega)))
                refine r_aload_n (pc := 20) C dX4_readNumber_20 rfl rfl ?_
                refine r_iload (pc := 21) C dX4_readNumber_21 rfl ?_
                refine r_callV0 (pc := 23) (As := [.int (nI (((p + 1) + 1) + 1))]) (st := []) (θ' := wT 0 (tpS b ln p ft)) C (c_X4_byteAt b ln p ft hln hp (((p + 1) + 1) + 1) (by have := hp; omega)) xm_X4_byteAt xk_X4_51 dX4_readNumber_23 rfl rfl rfl rfl (Nat.le_of_ble_eq_true rfl) ⟨Nat.le_of_ble_eq_true rfl, Nat.le_of_ble_eq_true rfl⟩ ⟨rfl, rfl⟩ ⟨Nat.le_of_ble_eq_true rfl, Nat.le_of_ble_eq_true rfl⟩ rfl rfl ?_
                show g 0 0 (wT 0 (tpS b ln p ft)) 26 [some (.ref 0), some (.int l), some (.int m), some (.int (((10 * (((10 * (((10 * 0) + (byteS b ln p)) - 48)) + (byteS b ln (p + 1))) - 48)) + (byteS b ln ((p + 1) + 1))) - 48)), some (.int 3), some (.int (nI (((p + 1) + 1) + 1)))] [.int (byteS b ln (((p + 1) + 1) + 1))]
                refine r_callS0 (pc := 26) (As := [.int (byteS b ln (((p + 1) + 1) + 1))]) (st := []) C (c_X4_isFigure (byteS b ln (((p + 1) + 1) + 1))) xm_X4_isFigure xk_X4_83 dX4_readNumber_26 (fun _ => rfl) (fun _ => rfl) rfl rfl (Nat.le_of_ble_eq_true rfl) ⟨Nat.le_of_ble_eq_true rfl, Nat.le_of_ble_eq_true rfl⟩ ⟨rfl, rfl⟩ ⟨Nat.le_of_ble_eq_true rfl, Nat.le_of_ble_eq_true rfl⟩ rfl ?_
                show g 0 0 (wT 0 (tpS b ln p ft)) 29 [some (.ref 0), some (.int l), some (.int m), some (.int (((10 * (((10 * (((10 * 0) + (byteS b ln p)) - 48)) + (byteS b ln (p + 1))) - 48)) + (byteS b ln ((p + 1) + 1))) - 48)), some (.int 3), some (.int (nI (((p + 1) + 1) + 1)))] [.int (bB (figS (byteS b ln (((p + 1) + 1) + 1))))]
                refine r_if_eq (pc := 29) (tgt := 62) C dX4_readNumber_29 (by decide) (fun h_29 => ?_) (fun h_29 => ?_)
                · replace h_29 := bB_f h_29
                  have n_29_3 : fgB b ln ((((p + 1) + 1) + 1)) = false := by unfold fgB; rw [decide_eq_true n_17_3, h_29]; rfl
                  refine r_iload (pc := 62) C dX4_readNumber_62 rfl ?_
                  refine r_if_eq (pc := 64) (tgt := 73) C dX4_readNumber_64 (by decide) (fun h => absurd h (by decide)) (fun _ => ?_)
                  refine r_iload (pc := 67) C dX4_readNumber_67 rfl ?_
                  refine r_iconst (pc := 69) (v := 3) C dX4_readNumber_69 (by decide) ?_
                  refine r_icmp_ne (pc := 70) (tgt := 81) C dX4_readNumber_70 (by decide) (fun h => absurd (by decide) h) (fun _ => ?_)
                  refine r_aload_n (pc := 73) C dX4_readNumber_73 rfl rfl ?_
                  refine r_iconst (pc := 74) (v := 1) C dX4_readNumber_74 (by decide) ?_
                  refine r_callV0 (pc := 75) (As := [.int 1]) (st := []) (θ' := wT 0 (tpS b ln p 1)) C (c_X4_refuse b ln p ft 1) xm_X4_refuse xk_X4_58 dX4_readNumber_75 rfl rfl rfl rfl (Nat.le_of_ble_eq_true rfl) ⟨Nat.le_of_ble_eq_true rfl, Nat.le_of_ble_eq_true rfl⟩ ⟨rfl, rfl⟩ ⟨Nat.le_of_ble_eq_true rfl, Nat.le_of_ble_eq_true rfl⟩ rfl rfl ?_
                  show g 0 0 (wT 0 (tpS b ln p 1)) 78 [some (.ref 0), some (.int l), some (.int m), some (.int (((10 * (((10 * (((10 * 0) + (byteS b ln p)) - 48)) + (byteS b ln (p + 1))) - 48)) + (byteS b ln ((p + 1) + 1))) - 48)), some (.int 3), some (.int (nI (((p + 1) + 1) + 1)))] [.int (bB false)]
                  refine r_pop (pc := 78) C dX4_readNumber_78 rfl ?_
                  refine r_iconst (pc := 79) (v := (-1)) C dX4_readNumber_79 (by decide) ?_
                  show g 0 0 (wT 0 (tpS b ln p 1)) 80 [some (.ref 0), some (.int l), some (.int m), some (.int (((10 * (((10 * (((10 * 0) + (byteS b ln p)) - 48)) + (byteS b ln (p + 1))) - 48)) + (byteS b ln ((p + 1) + 1))) - 48)), some (.int 3), some (.int (nI (((p + 1) + 1) + 1)))] [.int (-1)]
                  have hR : rnR b ln p l m = (-1) := by simp [rnR, rnF, rnV, rnK, rnP, rnFt, n_29_0, n_29_1, n_29_2, n_29_3]
                  have hP : rnP b ln p l m = p := by simp [rnR, rnF, rnV, rnK, rnP, rnFt, n_29_0, n_29_1, n_29_2, n_29_3]
                  have hF : rnFt b ln p l m ft = 1 := by simp [rnR, rnF, rnV, rnK, rnP, rnFt, n_29_0, n_29_1, n_29_2, n_29_3]
                  exact E _ _ _ _ _ _ dX4_readNumber_80 (Nat.le_refl _) (Nat.le_refl _) rfl ⟨congrArg (fun z => some (Value.int z)) hR.symm, by rw [hP, hF] <;> rfl⟩
                · replace h_29 := bB_t h_29
                  have n_29_3 : fgB b ln ((((p + 1) + 1) + 1)) = true := by unfold fgB; rw [decide_eq_true n_17_3, h_29]; rfl
                  refine r_iload (pc := 32) C dX4_readNumber_32 rfl ?_
                  refine r_iconst (pc := 34) (v := 3) C dX4_readNumber_34 (by decide) ?_
                  refine r_icmp_ge (pc := 35) (tgt := 62) C dX4_readNumber_35 (by decide) (fun _ => ?_) (fun h => absurd (by decide) h)
                  refine r_iload (pc := 62) C dX4_readNumber_62 rfl ?_
                  refine r_if_eq (pc := 64) (tgt := 73) C dX4_readNumber_64 (by decide) (fun h => absurd h (by decide)) (fun _ => ?_)
                  refine r_iload (pc := 67) C dX4_readNumber_67 rfl ?_
                  refine r_iconst (pc := 69) (v := 3) C dX4_readNumber_69 (by decide) ?_
                  refine r_icmp_ne (pc := 70) (tgt := 81) C dX4_readNumber_70 (by decide) (fun h => absurd (by decide) h) (fun _ => ?_)
                  refine r_aload_n (pc := 73) C dX4_readNumber_73 rfl rfl ?_
                  refine r_iconst (pc := 74) (v := 1) C dX4_readNumber_74 (by decide) ?_
                  refine r_callV0 (pc := 75) (As := [.int 1]) (st := []) (θ' := wT 0 (tpS b ln p 1)) C (c_X4_refuse b ln p ft 1) xm_X4_refuse xk_X4_58 dX4_readNumber_75 rfl rfl rfl rfl (Nat.le_of_ble_eq_true rfl) ⟨Nat.le_of_ble_eq_true rfl, Nat.le_of_ble_eq_true rfl⟩ ⟨rfl, rfl⟩ ⟨Nat.le_of_ble_eq_true rfl, Nat.le_of_ble_eq_true rfl⟩ rfl rfl ?_
                  show g 0 0 (wT 0 (tpS b ln p 1)) 78 [some (.ref 0), some (.int l), some (.int m), some (.int (((10 * (((10 * (((10 * 0) + (byteS b ln p)) - 48)) + (byteS b ln (p + 1))) - 48)) + (byteS b ln ((p + 1) + 1))) - 48)), some (.int 3), some (.int (nI (((p + 1) + 1) + 1)))] [.int (bB false)]
                  refine r_pop (pc := 78) C dX4_readNumber_78 rfl ?_
                  refine r_iconst (pc := 79) (v := (-1)) C dX4_readNumber_79 (by decide) ?_
                  show g 0 0 (wT 0 (tpS b ln p 1)) 80 [some (.ref 0), some (.int l), some (.int m), some (.int (((10 * (((10 * (((10 * 0) + (byteS b ln p)) - 48)) + (byteS b ln (p + 1))) - 48)) + (byteS b ln ((p + 1) + 1))) - 48)), some (.int 3), some (.int (nI (((p + 1) + 1) + 1)))] [.int (-1)]
                  have hR : rnR b ln p l m = (-1) := by simp [rnR, rnF, rnV, rnK, rnP, rnFt, n_29_0, n_29_1, n_29_2, n_29_3]
                  have hP : rnP b ln p l m = p := by simp [rnR, rnF, rnV, rnK, rnP, rnFt, n_29_0, n_29_1, n_29_2, n_29_3]
                  have hF : rnFt b ln p l m ft = 1 := by simp [rnR, rnF, rnV, rnK, rnP, rnFt, n_29_0, n_29_1, n_29_2, n_29_3]
                  exact E _ _ _ _ _ _ dX4_readNumber_80 (Nat.le_refl _) (Nat.le_refl _) rfl ⟨congrArg (fun z => some (Value.int z)) hR.symm, by rw [hP, hF] <;> rfl⟩
set_option maxHeartbeats 4000000 in
set_option maxRecDepth 100000 in
theorem c_X4_readLaw (b : Nat → Int32) (ln p : Nat) (ft : Int32) (hln : ln ≤ 120) (hp : p ≤ ln) (F : Nat → Nat → Int32) : MetA yX4_readLaw (.code yX4_readLaw cX4_readLaw 2 (some .boolean) :: TT) rmX4_readLaw [.ref 0, .ref 2] (wT 0 (tpS b ln p ft) ++ wF 2 F) (fun vr wr => vr = some (.int (bB (rlS b ln p ft F).1)) ∧ wr = (wT 0 (tpS b ln (rlS b ln p ft F).2.1 (rlS b ln p ft F).2.2.1) ++ wF 2 (rlS b ln p ft F).2.2.2)) 0 0 := by
  refine MetA.of_i (by decide) (fun _ => Nat.le_of_ble_eq_true rfl) (Nat.le_of_ble_eq_true rfl) (fun g C E => ?_)
  replace C : Sem cX4_readLaw RX4 "readLaw" 2 rmX4_readLaw g := C
  show g 0 0 (wT 0 (tpS b ln p ft) ++ wF 2 F) 0 [some (.ref 0), some (.ref 2)] []
  refine r_aload_n (pc := 0) C dX4_readLaw_0 rfl rfl ?_
  refine r_bipush (pc := 1) (v := 116) C dX4_readLaw_1 (by decide) ?_
  refine r_callVD (pc := 3) (b := 0) (As := [.int 116]) (st := []) (θ2 := wT 0 (if rsB b ln p 116 then tpS b ln (p + 1) ft else tpS b ln p 1) ++ wF 2 F) (r2 := some (.int (bB (rsB b ln p 116)))) C [0, 1] (c_X4_readSign b ln p ft hln hp 116) xm_X4_readSign xk_X4_34 dX4_readLaw_3 rfl (by decide) rfl rfl rfl rfl rfl (Nat.le_of_ble_eq_true rfl) ⟨Nat.le_of_ble_eq_true rfl, Nat.le_of_ble_eq_true rfl⟩ ⟨rfl, rfl⟩ ⟨Nat.le_of_ble_eq_true rfl, Nat.le_of_ble_eq_true rfl⟩ rfl rfl rfl rfl ?_
  show g 0 0 (wT 0 (if rsB b ln p 116 then tpS b ln (p + 1) ft else tpS b ln p 1) ++ wF 2 F) 6 [some (.ref 0), some (.ref 2)] [.int (bB (rsB b ln p 116))]
  refine r_if_ne (pc := 6) (tgt := 11) C dX4_readLaw_6 (by decide) (fun h_6 => ?_) (fun h_6 => ?_)
  · replace h_6 := bB_t h_6
    rw [h_6]
    show g 0 0 (wT 0 (tpS b ln (p + 1) ft) ++ wF 2 F) 11 [some (.ref 0), some (.ref 2)] []
    refine r_aload_n (pc := 11) C dX4_readLaw_11 rfl rfl ?_
    refine r_aload_n (pc := 12) C dX4_readLaw_12 rfl rfl ?_
    refine r_iconst (pc := 13) (v := 0) C dX4_readLaw_13 (by decide) ?_
    refine r_bipush (pc := 14) (v := 40) C dX4_readLaw_14 (by decide) ?_
    refine r_callVD (pc := 16) (b := 0) (As := [.int 0, .int 40]) (st := [.ref 2]) (θ2 := wT 0 (tpS b ln (rnP b ln (p + 1) 0 40) (rnFt b ln (p + 1) 0 40 ft)) ++ wF 2 F) (r2 := some (.int (rnR b ln (p + 1) 0 40))) C [0, 1] (c_X4_readNumber b ln (p + 1) ft hln (rs_le h_6 (by decide)) 0 40) xm_X4_readNumber xk_X4_38 dX4_readLaw_16 rfl (by decide) rfl rfl rfl rfl rfl (Nat.le_of_ble_eq_true rfl) ⟨Nat.le_of_ble_eq_true rfl, Nat.le_of_ble_eq_true rfl⟩ ⟨rfl, rfl⟩ ⟨Nat.le_of_ble_eq_true rfl, Nat.le_of_ble_eq_true rfl⟩ rfl rfl rfl rfl ?_
    show g 0 0 (wT 0 (tpS b ln (rnP b ln (p + 1) 0 40) (rnFt b ln (p + 1) 0 40 ft)) ++ wF 2 F) 19 [some (.ref 0), some (.ref 2)] [.int (rnR b ln (p + 1) 0 40), .ref 2]
    refine r_putfield (pc := 19) (θ' := wT 0 (tpS b ln (rnP b ln (p + 1) 0 40) (rnFt b ln (p + 1) 0 40 ft)) ++ wF 2 (up2 F 6 (k1 (rnR b ln (p + 1) 0 40)))) C xf_X4_42 xt_X1_6 dX4_readLaw_19 rfl (Nat.le_of_ble_eq_true rfl) (fun _ => ⟨rfl, rfl⟩) rfl ?_
    refine r_aload_n (pc := 22) C dX4_readLaw_22 rfl rfl ?_
    refine r_getfield (pc := 23) (v := .int (rnR b ln (p + 1) 0 40)) C xf_X4_42 dX4_readLaw_23 rfl rfl ?_
    refine r_if_lt (pc := 26) (tgt := 38) C dX4_readLaw_26 (by decide) (fun h_26 => ?_) (fun h_26 => ?_)
    · skip
      refine r_iconst (pc := 38) (v := 0) C dX4_readLaw_38 (by decide) ?_
      show g 0 0 (wT 0 (tpS b ln (rnP b ln (p + 1) 0 40) (rnFt b ln (p + 1) 0 40 ft)) ++ wF 2 (up2 F 6 (k1 (rnR b ln (p + 1) 0 40)))) 39 [some (.ref 0), some (.ref 2)] [.int 0]
      have hX : rlS b ln p ft F = (false, rnP b ln (p + 1) 0 40, rnFt b ln (p + 1) 0 40 ft, (up2 F 6 (k1 (rnR b ln (p + 1) 0 40)))) := by simp only [rlS, h_6, h_26, if_true, if_false, Bool.false_eq_true]
      exact E _ _ _ _ _ _ dX4_readLaw_39 (Nat.le_refl _) (Nat.le_refl _) rfl ⟨by rw [hX]; rfl, by rw [hX] <;> rfl⟩
    · skip
      refine r_aload_n (pc := 29) C dX4_readLaw_29 rfl rfl ?_
      refine r_bipush (pc := 30) (v := 44) C dX4_readLaw_30 (by decide) ?_
      refine r_callVD (pc := 32) (b := 0) (As := [.int 44]) (st := []) (θ2 := wT 0 (if rsB b ln (rnP b ln (p + 1) 0 40) 44 then tpS b ln (rnP b ln (p + 1) 0 40 + 1) (rnFt b ln (p + 1) 0 40 ft) else tpS b ln (rnP b ln (p + 1) 0 40) 1) ++ wF 2 (up2 F 6 (k1 (rnR b ln (p + 1) 0 40)))) (r2 := some (.int (bB (rsB b ln (rnP b ln (p + 1) 0 40) 44)))) C [0, 1] (c_X4_readSign b ln (rnP b ln (p + 1) 0 40) (rnFt b ln (p + 1) 0 40 ft) hln (rn_le (rs_le h_6 (by decide))) 44) xm_X4_readSign xk_X4_34 dX4_readLaw_32 rfl (by decide) rfl rfl rfl rfl rfl (Nat.le_of_ble_eq_true rfl) ⟨Nat.le_of_ble_eq_true rfl, Nat.le_of_ble_eq_true rfl⟩ ⟨rfl, rfl⟩ ⟨Nat.le_of_ble_eq_true rfl, Nat.le_of_ble_eq_true rfl⟩ rfl rfl rfl rfl ?_
      show g 0 0 (wT 0 (if rsB b ln (rnP b ln (p + 1) 0 40) 44 then tpS b ln (rnP b ln (p + 1) 0 40 + 1) (rnFt b ln (p + 1) 0 40 ft) else tpS b ln (rnP b ln (p + 1) 0 40) 1) ++ wF 2 (up2 F 6 (k1 (rnR b ln (p + 1) 0 40)))) 35 [some (.ref 0), some (.ref 2)] [.int (bB (rsB b ln (rnP b ln (p + 1) 0 40) 44))]
      refine r_if_ne (pc := 35) (tgt := 40) C dX4_readLaw_35 (by decide) (fun h_35 => ?_) (fun h_35 => ?_)
      · replace h_35 := bB_t h_35
        rw [h_35]
        show g 0 0 (wT 0 (tpS b ln (rnP b ln (p + 1) 0 40 + 1) (rnFt b ln (p + 1) 0 40 ft)) ++ wF 2 (up2 F 6 (k1 (rnR b ln (p + 1) 0 40)))) 40 [some (.ref 0), some (.ref 2)] []
        refine r_aload_n (pc := 40) C dX4_readLaw_40 rfl rfl ?_
        refine r_aload_n (pc := 41) C dX4_readLaw_41 rfl rfl ?_
        refine r_iconst (pc := 42) (v := 0) C dX4_readLaw_42 (by decide) ?_
        refine r_iconst (pc := 43) (v := 5) C dX4_readLaw_43 (by decide) ?_
        refine r_callVD (pc := 44) (b := 0) (As := [.int 0, .int 5]) (st := [.ref 2]) (θ2 := wT 0 (tpS b ln (rnP b ln (rnP b ln (p + 1) 0 40 + 1) 0 5) (rnFt b ln (rnP b ln (p + 1) 0 40 + 1) 0 5 (rnFt b ln (p + 1) 0 40 ft))) ++ wF 2 (up2 F 6 (k1 (rnR b ln (p + 1) 0 40)))) (r2 := some (.int (rnR b ln (rnP b ln (p + 1) 0 40 + 1) 0 5))) C [0, 1] (c_X4_readNumber b ln (rnP b ln (p + 1) 0 40 + 1) (rnFt b ln (p + 1) 0 40 ft) hln (rs_le h_35 (by decide)) 0 5) xm_X4_readNumber xk_X4_38 dX4_readLaw_44 rfl (by decide) rfl rfl rfl rfl rfl (Nat.le_of_ble_eq_true rfl) ⟨Nat.le_of_ble_eq_true rfl, Nat.le_of_ble_eq_true rfl⟩ ⟨rfl, rfl⟩ ⟨Nat.le_of_ble_eq_true rfl, Nat.le_of_ble_eq_true rfl⟩ rfl rfl rfl rfl ?_
        show g 0 0 (wT 0 (tpS b ln (rnP b ln (rnP b ln (p + 1) 0 40 + 1) 0 5) (rnFt b ln (rnP b ln (p + 1) 0 40 + 1) 0 5 (rnFt b ln (p + 1) 0 40 ft))) ++ wF 2 (up2 F 6 (k1 (rnR b ln (p + 1) 0 40)))) 47 [some (.ref 0), some (.ref 2)] [.int (rnR b ln (rnP b ln (p + 1) 0 40 + 1) 0 5), .ref 2]
        refine r_putfield (pc := 47) (θ' := wT 0 (tpS b ln (rnP b ln (rnP b ln (p + 1) 0 40 + 1) 0 5) (rnFt b ln (rnP b ln (p + 1) 0 40 + 1) 0 5 (rnFt b ln (p + 1) 0 40 ft))) ++ wF 2 (up2 (up2 F 6 (k1 (rnR b ln (p + 1) 0 40))) 7 (k1 (rnR b ln (rnP b ln (p + 1) 0 40 + 1) 0 5)))) C xf_X4_45 xt_X1_7 dX4_readLaw_47 rfl (Nat.le_of_ble_eq_true rfl) (fun _ => ⟨rfl, rfl⟩) rfl ?_
        refine r_aload_n (pc := 50) C dX4_readLaw_50 rfl rfl ?_
        refine r_getfield (pc := 51) (v := .int (rnR b ln (rnP b ln (p + 1) 0 40 + 1) 0 5)) C xf_X4_45 dX4_readLaw_51 rfl rfl ?_
        refine r_if_lt (pc := 54) (tgt := 70) C dX4_readLaw_54 (by decide) (fun h_54 => ?_) (fun h_54 => ?_)
        · skip
          refine r_iconst (pc := 70) (v := 0) C dX4_readLaw_70 (by decide) ?_
          show g 0 0 (wT 0 (tpS b ln (rnP b ln (rnP b ln (p + 1) 0 40 + 1) 0 5) (rnFt b ln (rnP b ln (p + 1) 0 40 + 1) 0 5 (rnFt b ln (p + 1) 0 40 ft))) ++ wF 2 (up2 (up2 F 6 (k1 (rnR b ln (p + 1) 0 40))) 7 (k1 (rnR b ln (rnP b ln (p + 1) 0 40 + 1) 0 5)))) 71 [some (.ref 0), some (.ref 2)] [.int 0]
          have hX : rlS b ln p ft F = (false, rnP b ln (rnP b ln (p + 1) 0 40 + 1) 0 5, rnFt b ln (rnP b ln (p + 1) 0 40 + 1) 0 5 (rnFt b ln (p + 1) 0 40 ft), (up2 (up2 F 6 (k1 (rnR b ln (p + 1) 0 40))) 7 (k1 (rnR b ln (rnP b ln (p + 1) 0 40 + 1) 0 5)))) := by simp only [rlS, h_6, h_26, h_35, h_54, if_true, if_false, Bool.false_eq_true]
          exact E _ _ _ _ _ _ dX4_readLaw_71 (Nat.le_refl _) (Nat.le_refl _) rfl ⟨by rw [hX]; rfl, by rw [hX] <;> rfl⟩
        · skip
          refine r_aload_n (pc := 57) C dX4_readLaw_57 rfl rfl ?_
          refine r_bipush (pc := 58) (v := 59) C dX4_readLaw_58 (by decide) ?_
          refine r_callVD (pc := 60) (b := 0) (As := [.int 59]) (st := []) (θ2 := wT 0 (if rsB b ln (rnP b ln (rnP b ln (p + 1) 0 40 + 1) 0 5) 59 then tpS b ln (rnP b ln (rnP b ln (p + 1) 0 40 + 1) 0 5 + 1) (rnFt b ln (rnP b ln (p + 1) 0 40 + 1) 0 5 (rnFt b ln (p + 1) 0 40 ft)) else tpS b ln (rnP b ln (rnP b ln (p + 1) 0 40 + 1) 0 5) 1) ++ wF 2 (up2 (up2 F 6 (k1 (rnR b ln (p + 1) 0 40))) 7 (k1 (rnR b ln (rnP b ln (p + 1) 0 40 + 1) 0 5)))) (r2 := some (.int (bB (rsB b ln (rnP b ln (rnP b ln (p + 1) 0 40 + 1) 0 5) 59)))) C [0, 1] (c_X4_readSign b ln (rnP b ln (rnP b ln (p + 1) 0 40 + 1) 0 5) (rnFt b ln (rnP b ln (p + 1) 0 40 + 1) 0 5 (rnFt b ln (p + 1) 0 40 ft)) hln (rn_le (rs_le h_35 (by decide))) 59) xm_X4_readSign xk_X4_34 dX4_readLaw_60 rfl (by decide) rfl rfl rfl rfl rfl (Nat.le_of_ble_eq_true rfl) ⟨Nat.le_of_ble_eq_true rfl, Nat.le_of_ble_eq_true rfl⟩ ⟨rfl, rfl⟩ ⟨Nat.le_of_ble_eq_true rfl, Nat.le_of_ble_eq_true rfl⟩ rfl rfl rfl rfl ?_
          show g 0 0 (wT 0 (if rsB b ln (rnP b ln (rnP b ln (p + 1) 0 40 + 1) 0 5) 59 then tpS b ln (rnP b ln (rnP b ln (p + 1) 0 40 + 1) 0 5 + 1) (rnFt b ln (rnP b ln (p + 1) 0 40 + 1) 0 5 (rnFt b ln (p + 1) 0 40 ft)) else tpS b ln (rnP b ln (rnP b ln (p + 1) 0 40 + 1) 0 5) 1) ++ wF 2 (up2 (up2 F 6 (k1 (rnR b ln (p + 1) 0 40))) 7 (k1 (rnR b ln (rnP b ln (p + 1) 0 40 + 1) 0 5)))) 63 [some (.ref 0), some (.ref 2)] [.int (bB (rsB b ln (rnP b ln (rnP b ln (p + 1) 0 40 + 1) 0 5) 59))]
          refine r_if_eq (pc := 63) (tgt := 70) C dX4_readLaw_63 (by decide) (fun h_63 => ?_) (fun h_63 => ?_)
          · replace h_63 := bB_f h_63
            rw [h_63]
            show g 0 0 (wT 0 (tpS b ln (rnP b ln (rnP b ln (p + 1) 0 40 + 1) 0 5) 1) ++ wF 2 (up2 (up2 F 6 (k1 (rnR b ln (p + 1) 0 40))) 7 (k1 (rnR b ln (rnP b ln (p + 1) 0 40 + 1) 0 5)))) 70 [some (.ref 0), some (.ref 2)] []
            refine r_iconst (pc := 70) (v := 0) C dX4_readLaw_70 (by decide) ?_
            show g 0 0 (wT 0 (tpS b ln (rnP b ln (rnP b ln (p + 1) 0 40 + 1) 0 5) 1) ++ wF 2 (up2 (up2 F 6 (k1 (rnR b ln (p + 1) 0 40))) 7 (k1 (rnR b ln (rnP b ln (p + 1) 0 40 + 1) 0 5)))) 71 [some (.ref 0), some (.ref 2)] [.int 0]
            have hX : rlS b ln p ft F = (false, rnP b ln (rnP b ln (p + 1) 0 40 + 1) 0 5, 1, (up2 (up2 F 6 (k1 (rnR b ln (p + 1) 0 40))) 7 (k1 (rnR b ln (rnP b ln (p + 1) 0 40 + 1) 0 5)))) := by simp only [rlS, h_6, h_26, h_35, h_54, h_63, if_true, if_false, Bool.false_eq_true]
            exact E _ _ _ _ _ _ dX4_readLaw_71 (Nat.le_refl _) (Nat.le_refl _) rfl ⟨by rw [hX]; rfl, by rw [hX] <;> rfl⟩
          · replace h_63 := bB_t h_63
            rw [h_63]
            show g 0 0 (wT 0 (tpS b ln (rnP b ln (rnP b ln (p + 1) 0 40 + 1) 0 5 + 1) (rnFt b ln (rnP b ln (p + 1) 0 40 + 1) 0 5 (rnFt b ln (p + 1) 0 40 ft))) ++ wF 2 (up2 (up2 F 6 (k1 (rnR b ln (p + 1) 0 40))) 7 (k1 (rnR b ln (rnP b ln (p + 1) 0 40 + 1) 0 5)))) 66 [some (.ref 0), some (.ref 2)] []
            refine r_iconst (pc := 66) (v := 1) C dX4_readLaw_66 (by decide) ?_
            refine r_goto (pc := 67) (tgt := 71) C dX4_readLaw_67 (by decide) ?_
            show g 0 0 (wT 0 (tpS b ln (rnP b ln (rnP b ln (p + 1) 0 40 + 1) 0 5 + 1) (rnFt b ln (rnP b ln (p + 1) 0 40 + 1) 0 5 (rnFt b ln (p + 1) 0 40 ft))) ++ wF 2 (up2 (up2 F 6 (k1 (rnR b ln (p + 1) 0 40))) 7 (k1 (rnR b ln (rnP b ln (p + 1) 0 40 + 1) 0 5)))) 71 [some (.ref 0), some (.ref 2)] [.int 1]
            have hX : rlS b ln p ft F = (true, rnP b ln (rnP b ln (p + 1) 0 40 + 1) 0 5 + 1, rnFt b ln (rnP b ln (p + 1) 0 40 + 1) 0 5 (rnFt b ln (p + 1) 0 40 ft), (up2 (up2 F 6 (k1 (rnR b ln (p + 1) 0 40))) 7 (k1 (rnR b ln (rnP b ln (p + 1) 0 40 + 1) 0 5)))) := by simp only [rlS, h_6, h_26, h_35, h_54, h_63, if_true, if_false, Bool.false_eq_true]
            exact E _ _ _ _ _ _ dX4_readLaw_71 (Nat.le_refl _) (Nat.le_refl _) rfl ⟨by rw [hX]; rfl, by rw [hX] <;> rfl⟩
      · replace h_35 := bB_f h_35
        rw [h_35]
        show g 0 0 (wT 0 (tpS b ln (rnP b ln (p + 1) 0 40) 1) ++ wF 2 (up2 F 6 (k1 (rnR b ln (p + 1) 0 40)))) 38 [some (.ref 0), some (.ref 2)] []
        refine r_iconst (pc := 38) (v := 0) C dX4_readLaw_38 (by decide) ?_
        show g 0 0 (wT 0 (tpS b ln (rnP b ln (p + 1) 0 40) 1) ++ wF 2 (up2 F 6 (k1 (rnR b ln (p + 1) 0 40)))) 39 [some (.ref 0), some (.ref 2)] [.int 0]
        have hX : rlS b ln p ft F = (false, rnP b ln (p + 1) 0 40, 1, (up2 F 6 (k1 (rnR b ln (p + 1) 0 40)))) := by simp only [rlS, h_6, h_26, h_35, if_true, if_false, Bool.false_eq_true]
        exact E _ _ _ _ _ _ dX4_readLaw_39 (Nat.le_refl _) (Nat.le_refl _) rfl ⟨by rw [hX]; rfl, by rw [hX] <;> rfl⟩
  · replace h_6 := bB_f h_6
    rw [h_6]
    show g 0 0 (wT 0 (tpS b ln p 1) ++ wF 2 F) 9 [some (.ref 0), some (.ref 2)] []
    refine r_iconst (pc := 9) (v := 0) C dX4_readLaw_9 (by decide) ?_
    show g 0 0 (wT 0 (tpS b ln p 1) ++ wF 2 F) 10 [some (.ref 0), some (.ref 2)] [.int 0]
    have hX : rlS b ln p ft F = (false, p, 1, F) := by simp only [rlS, h_6, if_true, if_false, Bool.false_eq_true]
    exact E _ _ _ _ _ _ dX4_readLaw_10 (Nat.le_refl _) (Nat.le_refl _) rfl ⟨by rw [hX]; rfl, by rw [hX] <;> rfl⟩
set_option maxHeartbeats 4000000 in
set_option maxRecDepth 100000 in
theorem c_X4_readTrees (b : Nat → Int32) (ln p : Nat) (ft : Int32) (hln : ln ≤ 120) (hp : p ≤ ln) (F : Nat → Nat → Int32) (h : Nat) (hh : h < 6) : MetA yX4_readTrees (.code yX4_readTrees cX4_readTrees 3 (some .boolean) :: TT) rmX4_readTrees [.ref 0, .ref 2, .int (nI h)] (wT 0 (tpS b ln p ft) ++ wF 2 F) (fun vr wr => vr = some (.int (bB (rtS b ln p ft F h).1)) ∧ wr = (wT 0 (tpS b ln (rtS b ln p ft F h).2.1 (rtS b ln p ft F h).2.2.1) ++ wF 2 (rtS b ln p ft F h).2.2.2)) 0 0 := by
  refine MetA.of_i (by decide) (fun _ => Nat.le_of_ble_eq_true rfl) (Nat.le_of_ble_eq_true rfl) (fun g C E => ?_)
  replace C : Sem cX4_readTrees RX4 "readTrees" 3 rmX4_readTrees g := C
  show g 0 0 (wT 0 (tpS b ln p ft) ++ wF 2 F) 0 [some (.ref 0), some (.ref 2), some (.int (nI h))] []
  refine r_aload_n (pc := 0) C dX4_readTrees_0 rfl rfl ?_
  refine r_getfield (pc := 1) (v := .ref 4) C xf_X4_71 dX4_readTrees_1 rfl rfl ?_
  refine r_iload_n (pc := 4) C dX4_readTrees_4 rfl rfl ?_
  refine r_aload_n (pc := 5) C dX4_readTrees_5 rfl rfl ?_
  refine r_iconst (pc := 6) (v := 0) C dX4_readTrees_6 (by decide) ?_
  refine r_bipush (pc := 7) (v := 11) C dX4_readTrees_7 (by decide) ?_
  refine r_callVD (pc := 9) (b := 0) (As := [.int 0, .int 11]) (st := [.int (nI h), .ref 4]) (θ2 := wT 0 (tpS b ln (rnP b ln p 0 11) (rnFt b ln p 0 11 ft)) ++ wF 2 F) (r2 := some (.int (rnR b ln p 0 11))) C [0, 1] (c_X4_readNumber b ln p ft hln hp 0 11) xm_X4_readNumber xk_X4_38 dX4_readTrees_9 rfl (by decide) rfl rfl rfl rfl rfl (Nat.le_of_ble_eq_true rfl) ⟨Nat.le_of_ble_eq_true rfl, Nat.le_of_ble_eq_true rfl⟩ ⟨rfl, rfl⟩ ⟨Nat.le_of_ble_eq_true rfl, Nat.le_of_ble_eq_true rfl⟩ rfl rfl rfl rfl ?_
  show g 0 0 (wT 0 (tpS b ln (rnP b ln p 0 11) (rnFt b ln p 0 11 ft)) ++ wF 2 F) 12 [some (.ref 0), some (.ref 2), some (.int (nI h))] [.int (rnR b ln p 0 11), .int (nI h), .ref 4]
  refine r_iastore (pc := 12) (θ' := wT 0 (tpS b ln (rnP b ln p 0 11) (rnFt b ln p 0 11 ft)) ++ wF 2 (up2 F 1 (upd (F 1) h (rnR b ln p 0 11)))) C h dX4_readTrees_12 rfl rfl (by first | assumption | omega) rfl ?_
  refine r_aload_n (pc := 13) C dX4_readTrees_13 rfl rfl ?_
  refine r_getfield (pc := 14) (v := .ref 4) C xf_X4_71 dX4_readTrees_14 rfl rfl ?_
  refine r_iload_n (pc := 17) C dX4_readTrees_17 rfl rfl ?_
  refine r_iaload (pc := 18) (v := rnR b ln p 0 11) C h dX4_readTrees_18 rfl rfl (by first | assumption | omega) (if_pos rfl) ?_
  refine r_if_lt (pc := 19) (tgt := 31) C dX4_readTrees_19 (by decide) (fun h_19 => ?_) (fun h_19 => ?_)
  · skip
    refine r_iconst (pc := 31) (v := 0) C dX4_readTrees_31 (by decide) ?_
    show g 0 0 (wT 0 (tpS b ln (rnP b ln p 0 11) (rnFt b ln p 0 11 ft)) ++ wF 2 (up2 F 1 (upd (F 1) h (rnR b ln p 0 11)))) 32 [some (.ref 0), some (.ref 2), some (.int (nI h))] [.int 0]
    have hX : rtS b ln p ft F h = (false, rnP b ln p 0 11, rnFt b ln p 0 11 ft, (up2 F 1 (upd (F 1) h (rnR b ln p 0 11)))) := by simp only [rtS, r2S, h_19, if_true, if_false, Bool.false_eq_true]
    exact E _ _ _ _ _ _ dX4_readTrees_32 (Nat.le_refl _) (Nat.le_refl _) rfl ⟨by rw [hX]; rfl, by rw [hX] <;> rfl⟩
  · skip
    refine r_aload_n (pc := 22) C dX4_readTrees_22 rfl rfl ?_
    refine r_bipush (pc := 23) (v := 44) C dX4_readTrees_23 (by decide) ?_
    refine r_callVD (pc := 25) (b := 0) (As := [.int 44]) (st := []) (θ2 := wT 0 (if rsB b ln (rnP b ln p 0 11) 44 then tpS b ln (rnP b ln p 0 11 + 1) (rnFt b ln p 0 11 ft) else tpS b ln (rnP b ln p 0 11) 1) ++ wF 2 (up2 F 1 (upd (F 1) h (rnR b ln p 0 11)))) (r2 := some (.int (bB (rsB b ln (rnP b ln p 0 11) 44)))) C [0, 1] (c_X4_readSign b ln (rnP b ln p 0 11) (rnFt b ln p 0 11 ft) hln (rn_le hp) 44) xm_X4_readSign xk_X4_34 dX4_readTrees_25 rfl (by decide) rfl rfl rfl rfl rfl (Nat.le_of_ble_eq_true rfl) ⟨Nat.le_of_ble_eq_true rfl, Nat.le_of_ble_eq_true rfl⟩ ⟨rfl, rfl⟩ ⟨Nat.le_of_ble_eq_true rfl, Nat.le_of_ble_eq_true rfl⟩ rfl rfl rfl rfl ?_
    show g 0 0 (wT 0 (if rsB b ln (rnP b ln p 0 11) 44 then tpS b ln (rnP b ln p 0 11 + 1) (rnFt b ln p 0 11 ft) else tpS b ln (rnP b ln p 0 11) 1) ++ wF 2 (up2 F 1 (upd (F 1) h (rnR b ln p 0 11)))) 28 [some (.ref 0), some (.ref 2), some (.int (nI h))] [.int (bB (rsB b ln (rnP b ln p 0 11) 44))]
    refine r_if_ne (pc := 28) (tgt := 33) C dX4_readTrees_28 (by decide) (fun h_28 => ?_) (fun h_28 => ?_)
    · replace h_28 := bB_t h_28
      rw [h_28]
      show g 0 0 (wT 0 (tpS b ln (rnP b ln p 0 11 + 1) (rnFt b ln p 0 11 ft)) ++ wF 2 (up2 F 1 (upd (F 1) h (rnR b ln p 0 11)))) 33 [some (.ref 0), some (.ref 2), some (.int (nI h))] []
      refine r_aload_n (pc := 33) C dX4_readTrees_33 rfl rfl ?_
      refine r_getfield (pc := 34) (v := .ref 5) C xf_X4_74 dX4_readTrees_34 rfl rfl ?_
      refine r_iload_n (pc := 37) C dX4_readTrees_37 rfl rfl ?_
      refine r_aload_n (pc := 38) C dX4_readTrees_38 rfl rfl ?_
      refine r_aload_n (pc := 39) C dX4_readTrees_39 rfl rfl ?_
      refine r_getfield (pc := 40) (v := .ref 4) C xf_X4_71 dX4_readTrees_40 rfl rfl ?_
      refine r_iload_n (pc := 43) C dX4_readTrees_43 rfl rfl ?_
      refine r_iaload (pc := 44) (v := rnR b ln p 0 11) C h dX4_readTrees_44 rfl rfl (by first | assumption | omega) (if_pos rfl) ?_
      refine r_iconst (pc := 45) (v := 1) C dX4_readTrees_45 (by decide) ?_
      refine r_iadd (pc := 46) C dX4_readTrees_46 ?_
      refine r_bipush (pc := 47) (v := 11) C dX4_readTrees_47 (by decide) ?_
      refine r_callVD (pc := 49) (b := 0) (As := [.int ((rnR b ln p 0 11) + 1), .int 11]) (st := [.int (nI h), .ref 5]) (θ2 := wT 0 (tpS b ln (rnP b ln (rnP b ln p 0 11 + 1) ((rnR b ln p 0 11) + 1) 11) (rnFt b ln (rnP b ln p 0 11 + 1) ((rnR b ln p 0 11) + 1) 11 (rnFt b ln p 0 11 ft))) ++ wF 2 (up2 F 1 (upd (F 1) h (rnR b ln p 0 11)))) (r2 := some (.int (rnR b ln (rnP b ln p 0 11 + 1) ((rnR b ln p 0 11) + 1) 11))) C [0, 1] (c_X4_readNumber b ln (rnP b ln p 0 11 + 1) (rnFt b ln p 0 11 ft) hln (rs_le h_28 (by decide)) ((rnR b ln p 0 11) + 1) 11) xm_X4_readNumber xk_X4_38 dX4_readTrees_49 rfl (by decide) rfl rfl rfl rfl rfl (Nat.le_of_ble_eq_true rfl) ⟨Nat.le_of_ble_eq_true rfl, Nat.le_of_ble_eq_true rfl⟩ ⟨rfl, rfl⟩ ⟨Nat.le_of_ble_eq_true rfl, Nat.le_of_ble_eq_true rfl⟩ rfl rfl rfl rfl ?_
      show g 0 0 (wT 0 (tpS b ln (rnP b ln (rnP b ln p 0 11 + 1) ((rnR b ln p 0 11) + 1) 11) (rnFt b ln (rnP b ln p 0 11 + 1) ((rnR b ln p 0 11) + 1) 11 (rnFt b ln p 0 11 ft))) ++ wF 2 (up2 F 1 (upd (F 1) h (rnR b ln p 0 11)))) 52 [some (.ref 0), some (.ref 2), some (.int (nI h))] [.int (rnR b ln (rnP b ln p 0 11 + 1) ((rnR b ln p 0 11) + 1) 11), .int (nI h), .ref 5]
      refine r_iastore (pc := 52) (θ' := wT 0 (tpS b ln (rnP b ln (rnP b ln p 0 11 + 1) ((rnR b ln p 0 11) + 1) 11) (rnFt b ln (rnP b ln p 0 11 + 1) ((rnR b ln p 0 11) + 1) 11 (rnFt b ln p 0 11 ft))) ++ wF 2 (up2 (up2 F 1 (upd (F 1) h (rnR b ln p 0 11))) 2 (upd (F 2) h (rnR b ln (rnP b ln p 0 11 + 1) ((rnR b ln p 0 11) + 1) 11)))) C h dX4_readTrees_52 rfl rfl (by first | assumption | omega) rfl ?_
      refine r_aload_n (pc := 53) C dX4_readTrees_53 rfl rfl ?_
      refine r_getfield (pc := 54) (v := .ref 5) C xf_X4_74 dX4_readTrees_54 rfl rfl ?_
      refine r_iload_n (pc := 57) C dX4_readTrees_57 rfl rfl ?_
      refine r_iaload (pc := 58) (v := rnR b ln (rnP b ln p 0 11 + 1) ((rnR b ln p 0 11) + 1) 11) C h dX4_readTrees_58 rfl rfl (by first | assumption | omega) (if_pos rfl) ?_
      refine r_if_lt (pc := 59) (tgt := 75) C dX4_readTrees_59 (by decide) (fun h_59 => ?_) (fun h_59 => ?_)
      · skip
        refine r_iconst (pc := 75) (v := 0) C dX4_readTrees_75 (by decide) ?_
        show g 0 0 (wT 0 (tpS b ln (rnP b ln (rnP b ln p 0 11 + 1) ((rnR b ln p 0 11) + 1) 11) (rnFt b ln (rnP b ln p 0 11 + 1) ((rnR b ln p 0 11) + 1) 11 (rnFt b ln p 0 11 ft))) ++ wF 2 (up2 (up2 F 1 (upd (F 1) h (rnR b ln p 0 11))) 2 (upd (F 2) h (rnR b ln (rnP b ln p 0 11 + 1) ((rnR b ln p 0 11) + 1) 11)))) 76 [some (.ref 0), some (.ref 2), some (.int (nI h))] [.int 0]
        have hX : rtS b ln p ft F h = (false, rnP b ln (rnP b ln p 0 11 + 1) ((rnR b ln p 0 11) + 1) 11, rnFt b ln (rnP b ln p 0 11 + 1) ((rnR b ln p 0 11) + 1) 11 (rnFt b ln p 0 11 ft), (up2 (up2 F 1 (upd (F 1) h (rnR b ln p 0 11))) 2 (upd (F 2) h (rnR b ln (rnP b ln p 0 11 + 1) ((rnR b ln p 0 11) + 1) 11)))) := by simp only [rtS, r2S, h_19, h_28, h_59, if_true, if_false, Bool.false_eq_true]
        exact E _ _ _ _ _ _ dX4_readTrees_76 (Nat.le_refl _) (Nat.le_refl _) rfl ⟨by rw [hX]; rfl, by rw [hX] <;> rfl⟩
      · skip
        refine r_aload_n (pc := 62) C dX4_readTrees_62 rfl rfl ?_
        refine r_bipush (pc := 63) (v := 44) C dX4_readTrees_63 (by decide) ?_
        refine r_callVD (pc := 65) (b := 0) (As := [.int 44]) (st := []) (θ2 := wT 0 (if rsB b ln (rnP b ln (rnP b ln p 0 11 + 1) ((rnR b ln p 0 11) + 1) 11) 44 then tpS b ln (rnP b ln (rnP b ln p 0 11 + 1) ((rnR b ln p 0 11) + 1) 11 + 1) (rnFt b ln (rnP b ln p 0 11 + 1) ((rnR b ln p 0 11) + 1) 11 (rnFt b ln p 0 11 ft)) else tpS b ln (rnP b ln (rnP b ln p 0 11 + 1) ((rnR b ln p 0 11) + 1) 11) 1) ++ wF 2 (up2 (up2 F 1 (upd (F 1) h (rnR b ln p 0 11))) 2 (upd (F 2) h (rnR b ln (rnP b ln p 0 11 + 1) ((rnR b ln p 0 11) + 1) 11)))) (r2 := some (.int (bB (rsB b ln (rnP b ln (rnP b ln p 0 11 + 1) ((rnR b ln p 0 11) + 1) 11) 44)))) C [0, 1] (c_X4_readSign b ln (rnP b ln (rnP b ln p 0 11 + 1) ((rnR b ln p 0 11) + 1) 11) (rnFt b ln (rnP b ln p 0 11 + 1) ((rnR b ln p 0 11) + 1) 11 (rnFt b ln p 0 11 ft)) hln (rn_le (rs_le h_28 (by decide))) 44) xm_X4_readSign xk_X4_34 dX4_readTrees_65 rfl (by decide) rfl rfl rfl rfl rfl (Nat.le_of_ble_eq_true rfl) ⟨Nat.le_of_ble_eq_true rfl, Nat.le_of_ble_eq_true rfl⟩ ⟨rfl, rfl⟩ ⟨Nat.le_of_ble_eq_true rfl, Nat.le_of_ble_eq_true rfl⟩ rfl rfl rfl rfl ?_
        show g 0 0 (wT 0 (if rsB b ln (rnP b ln (rnP b ln p 0 11 + 1) ((rnR b ln p 0 11) + 1) 11) 44 then tpS b ln (rnP b ln (rnP b ln p 0 11 + 1) ((rnR b ln p 0 11) + 1) 11 + 1) (rnFt b ln (rnP b ln p 0 11 + 1) ((rnR b ln p 0 11) + 1) 11 (rnFt b ln p 0 11 ft)) else tpS b ln (rnP b ln (rnP b ln p 0 11 + 1) ((rnR b ln p 0 11) + 1) 11) 1) ++ wF 2 (up2 (up2 F 1 (upd (F 1) h (rnR b ln p 0 11))) 2 (upd (F 2) h (rnR b ln (rnP b ln p 0 11 + 1) ((rnR b ln p 0 11) + 1) 11)))) 68 [some (.ref 0), some (.ref 2), some (.int (nI h))] [.int (bB (rsB b ln (rnP b ln (rnP b ln p 0 11 + 1) ((rnR b ln p 0 11) + 1) 11) 44))]
        refine r_if_eq (pc := 68) (tgt := 75) C dX4_readTrees_68 (by decide) (fun h_68 => ?_) (fun h_68 => ?_)
        · replace h_68 := bB_f h_68
          rw [h_68]
          show g 0 0 (wT 0 (tpS b ln (rnP b ln (rnP b ln p 0 11 + 1) ((rnR b ln p 0 11) + 1) 11) 1) ++ wF 2 (up2 (up2 F 1 (upd (F 1) h (rnR b ln p 0 11))) 2 (upd (F 2) h (rnR b ln (rnP b ln p 0 11 + 1) ((rnR b ln p 0 11) + 1) 11)))) 75 [some (.ref 0), some (.ref 2), some (.int (nI h))] []
          refine r_iconst (pc := 75) (v := 0) C dX4_readTrees_75 (by decide) ?_
          show g 0 0 (wT 0 (tpS b ln (rnP b ln (rnP b ln p 0 11 + 1) ((rnR b ln p 0 11) + 1) 11) 1) ++ wF 2 (up2 (up2 F 1 (upd (F 1) h (rnR b ln p 0 11))) 2 (upd (F 2) h (rnR b ln (rnP b ln p 0 11 + 1) ((rnR b ln p 0 11) + 1) 11)))) 76 [some (.ref 0), some (.ref 2), some (.int (nI h))] [.int 0]
          have hX : rtS b ln p ft F h = (false, rnP b ln (rnP b ln p 0 11 + 1) ((rnR b ln p 0 11) + 1) 11, 1, (up2 (up2 F 1 (upd (F 1) h (rnR b ln p 0 11))) 2 (upd (F 2) h (rnR b ln (rnP b ln p 0 11 + 1) ((rnR b ln p 0 11) + 1) 11)))) := by simp only [rtS, r2S, h_19, h_28, h_59, h_68, if_true, if_false, Bool.false_eq_true]
          exact E _ _ _ _ _ _ dX4_readTrees_76 (Nat.le_refl _) (Nat.le_refl _) rfl ⟨by rw [hX]; rfl, by rw [hX] <;> rfl⟩
        · replace h_68 := bB_t h_68
          rw [h_68]
          show g 0 0 (wT 0 (tpS b ln (rnP b ln (rnP b ln p 0 11 + 1) ((rnR b ln p 0 11) + 1) 11 + 1) (rnFt b ln (rnP b ln p 0 11 + 1) ((rnR b ln p 0 11) + 1) 11 (rnFt b ln p 0 11 ft))) ++ wF 2 (up2 (up2 F 1 (upd (F 1) h (rnR b ln p 0 11))) 2 (upd (F 2) h (rnR b ln (rnP b ln p 0 11 + 1) ((rnR b ln p 0 11) + 1) 11)))) 71 [some (.ref 0), some (.ref 2), some (.int (nI h))] []
          refine r_iconst (pc := 71) (v := 1) C dX4_readTrees_71 (by decide) ?_
          refine r_goto (pc := 72) (tgt := 76) C dX4_readTrees_72 (by decide) ?_
          show g 0 0 (wT 0 (tpS b ln (rnP b ln (rnP b ln p 0 11 + 1) ((rnR b ln p 0 11) + 1) 11 + 1) (rnFt b ln (rnP b ln p 0 11 + 1) ((rnR b ln p 0 11) + 1) 11 (rnFt b ln p 0 11 ft))) ++ wF 2 (up2 (up2 F 1 (upd (F 1) h (rnR b ln p 0 11))) 2 (upd (F 2) h (rnR b ln (rnP b ln p 0 11 + 1) ((rnR b ln p 0 11) + 1) 11)))) 76 [some (.ref 0), some (.ref 2), some (.int (nI h))] [.int 1]
          have hX : rtS b ln p ft F h = (true, rnP b ln (rnP b ln p 0 11 + 1) ((rnR b ln p 0 11) + 1) 11 + 1, rnFt b ln (rnP b ln p 0 11 + 1) ((rnR b ln p 0 11) + 1) 11 (rnFt b ln p 0 11 ft), (up2 (up2 F 1 (upd (F 1) h (rnR b ln p 0 11))) 2 (upd (F 2) h (rnR b ln (rnP b ln p 0 11 + 1) ((rnR b ln p 0 11) + 1) 11)))) := by simp only [rtS, r2S, h_19, h_28, h_59, h_68, if_true, if_false, Bool.false_eq_true]
          exact E _ _ _ _ _ _ dX4_readTrees_76 (Nat.le_refl _) (Nat.le_refl _) rfl ⟨by rw [hX]; rfl, by rw [hX] <;> rfl⟩
    · replace h_28 := bB_f h_28
      rw [h_28]
      show g 0 0 (wT 0 (tpS b ln (rnP b ln p 0 11) 1) ++ wF 2 (up2 F 1 (upd (F 1) h (rnR b ln p 0 11)))) 31 [some (.ref 0), some (.ref 2), some (.int (nI h))] []
      refine r_iconst (pc := 31) (v := 0) C dX4_readTrees_31 (by decide) ?_
      show g 0 0 (wT 0 (tpS b ln (rnP b ln p 0 11) 1) ++ wF 2 (up2 F 1 (upd (F 1) h (rnR b ln p 0 11)))) 32 [some (.ref 0), some (.ref 2), some (.int (nI h))] [.int 0]
      have hX : rtS b ln p ft F h = (false, rnP b ln p 0 11, 1, (up2 F 1 (upd (F 1) h (rnR b ln p 0 11)))) := by simp only [rtS, r2S, h_19, h_28, if_true, if_false, Bool.false_eq_true]
      exact E _ _ _ _ _ _ dX4_readTrees_32 (Nat.le_refl _) (Nat.le_refl _) rfl ⟨by rw [hX]; rfl, by rw [hX] <;> rfl⟩
set_option maxHeartbeats 4000000 in
set_option maxRecDepth 100000 in
theorem c_X4_readLoad (b : Nat → Int32) (ln p : Nat) (ft : Int32) (hln : ln ≤ 120) (hp : p ≤ ln) (F : Nat → Nat → Int32) (h : Nat) (hh : h < 6) : MetA yX4_readLoad (.code yX4_readLoad cX4_readLoad 3 (some .boolean) :: TT) rmX4_readLoad [.ref 0, .ref 2, .int (nI h)] (wT 0 (tpS b ln p ft) ++ wF 2 F) (fun vr wr => vr = some (.int (bB (rdS b ln p ft F h).1)) ∧ wr = (wT 0 (tpS b ln (rdS b ln p ft F h).2.1 (rdS b ln p ft F h).2.2.1) ++ wF 2 (rdS b ln p ft F h).2.2.2)) 0 0 := by
  refine MetA.of_i (by decide) (fun _ => Nat.le_of_ble_eq_true rfl) (Nat.le_of_ble_eq_true rfl) (fun g C E => ?_)
  replace C : Sem cX4_readLoad RX4 "readLoad" 3 rmX4_readLoad g := C
  show g 0 0 (wT 0 (tpS b ln p ft) ++ wF 2 F) 0 [some (.ref 0), some (.ref 2), some (.int (nI h))] []
  refine r_aload_n (pc := 0) C dX4_readLoad_0 rfl rfl ?_
  refine r_getfield (pc := 1) (v := .ref 6) C xf_X4_77 dX4_readLoad_1 rfl rfl ?_
  refine r_iload_n (pc := 4) C dX4_readLoad_4 rfl rfl ?_
  refine r_aload_n (pc := 5) C dX4_readLoad_5 rfl rfl ?_
  refine r_iconst (pc := 6) (v := 1) C dX4_readLoad_6 (by decide) ?_
  refine r_bipush (pc := 7) (v := 20) C dX4_readLoad_7 (by decide) ?_
  refine r_callVD (pc := 9) (b := 0) (As := [.int 1, .int 20]) (st := [.int (nI h), .ref 6]) (θ2 := wT 0 (tpS b ln (rnP b ln p 1 20) (rnFt b ln p 1 20 ft)) ++ wF 2 F) (r2 := some (.int (rnR b ln p 1 20))) C [0, 1] (c_X4_readNumber b ln p ft hln hp 1 20) xm_X4_readNumber xk_X4_38 dX4_readLoad_9 rfl (by decide) rfl rfl rfl rfl rfl (Nat.le_of_ble_eq_true rfl) ⟨Nat.le_of_ble_eq_true rfl, Nat.le_of_ble_eq_true rfl⟩ ⟨rfl, rfl⟩ ⟨Nat.le_of_ble_eq_true rfl, Nat.le_of_ble_eq_true rfl⟩ rfl rfl rfl rfl ?_
  show g 0 0 (wT 0 (tpS b ln (rnP b ln p 1 20) (rnFt b ln p 1 20 ft)) ++ wF 2 F) 12 [some (.ref 0), some (.ref 2), some (.int (nI h))] [.int (rnR b ln p 1 20), .int (nI h), .ref 6]
  refine r_iastore (pc := 12) (θ' := wT 0 (tpS b ln (rnP b ln p 1 20) (rnFt b ln p 1 20 ft)) ++ wF 2 (up2 F 3 (upd (F 3) h (rnR b ln p 1 20)))) C h dX4_readLoad_12 rfl rfl (by first | assumption | omega) rfl ?_
  refine r_aload_n (pc := 13) C dX4_readLoad_13 rfl rfl ?_
  refine r_getfield (pc := 14) (v := .ref 6) C xf_X4_77 dX4_readLoad_14 rfl rfl ?_
  refine r_iload_n (pc := 17) C dX4_readLoad_17 rfl rfl ?_
  refine r_iaload (pc := 18) (v := rnR b ln p 1 20) C h dX4_readLoad_18 rfl rfl (by first | assumption | omega) (if_pos rfl) ?_
  refine r_if_lt (pc := 19) (tgt := 31) C dX4_readLoad_19 (by decide) (fun h_19 => ?_) (fun h_19 => ?_)
  · skip
    refine r_iconst (pc := 31) (v := 0) C dX4_readLoad_31 (by decide) ?_
    show g 0 0 (wT 0 (tpS b ln (rnP b ln p 1 20) (rnFt b ln p 1 20 ft)) ++ wF 2 (up2 F 3 (upd (F 3) h (rnR b ln p 1 20)))) 32 [some (.ref 0), some (.ref 2), some (.int (nI h))] [.int 0]
    have hX : rdS b ln p ft F h = (false, rnP b ln p 1 20, rnFt b ln p 1 20 ft, (up2 F 3 (upd (F 3) h (rnR b ln p 1 20)))) := by simp only [rdS, r2S, h_19, if_true, if_false, Bool.false_eq_true]
    exact E _ _ _ _ _ _ dX4_readLoad_32 (Nat.le_refl _) (Nat.le_refl _) rfl ⟨by rw [hX]; rfl, by rw [hX] <;> rfl⟩
  · skip
    refine r_aload_n (pc := 22) C dX4_readLoad_22 rfl rfl ?_
    refine r_bipush (pc := 23) (v := 44) C dX4_readLoad_23 (by decide) ?_
    refine r_callVD (pc := 25) (b := 0) (As := [.int 44]) (st := []) (θ2 := wT 0 (if rsB b ln (rnP b ln p 1 20) 44 then tpS b ln (rnP b ln p 1 20 + 1) (rnFt b ln p 1 20 ft) else tpS b ln (rnP b ln p 1 20) 1) ++ wF 2 (up2 F 3 (upd (F 3) h (rnR b ln p 1 20)))) (r2 := some (.int (bB (rsB b ln (rnP b ln p 1 20) 44)))) C [0, 1] (c_X4_readSign b ln (rnP b ln p 1 20) (rnFt b ln p 1 20 ft) hln (rn_le hp) 44) xm_X4_readSign xk_X4_34 dX4_readLoad_25 rfl (by decide) rfl rfl rfl rfl rfl (Nat.le_of_ble_eq_true rfl) ⟨Nat.le_of_ble_eq_true rfl, Nat.le_of_ble_eq_true rfl⟩ ⟨rfl, rfl⟩ ⟨Nat.le_of_ble_eq_true rfl, Nat.le_of_ble_eq_true rfl⟩ rfl rfl rfl rfl ?_
    show g 0 0 (wT 0 (if rsB b ln (rnP b ln p 1 20) 44 then tpS b ln (rnP b ln p 1 20 + 1) (rnFt b ln p 1 20 ft) else tpS b ln (rnP b ln p 1 20) 1) ++ wF 2 (up2 F 3 (upd (F 3) h (rnR b ln p 1 20)))) 28 [some (.ref 0), some (.ref 2), some (.int (nI h))] [.int (bB (rsB b ln (rnP b ln p 1 20) 44))]
    refine r_if_ne (pc := 28) (tgt := 33) C dX4_readLoad_28 (by decide) (fun h_28 => ?_) (fun h_28 => ?_)
    · replace h_28 := bB_t h_28
      rw [h_28]
      show g 0 0 (wT 0 (tpS b ln (rnP b ln p 1 20 + 1) (rnFt b ln p 1 20 ft)) ++ wF 2 (up2 F 3 (upd (F 3) h (rnR b ln p 1 20)))) 33 [some (.ref 0), some (.ref 2), some (.int (nI h))] []
      refine r_aload_n (pc := 33) C dX4_readLoad_33 rfl rfl ?_
      refine r_getfield (pc := 34) (v := .ref 7) C xf_X4_80 dX4_readLoad_34 rfl rfl ?_
      refine r_iload_n (pc := 37) C dX4_readLoad_37 rfl rfl ?_
      refine r_aload_n (pc := 38) C dX4_readLoad_38 rfl rfl ?_
      refine r_iconst (pc := 39) (v := 0) C dX4_readLoad_39 (by decide) ?_
      refine r_iconst (pc := 40) (v := 5) C dX4_readLoad_40 (by decide) ?_
      refine r_callVD (pc := 41) (b := 0) (As := [.int 0, .int 5]) (st := [.int (nI h), .ref 7]) (θ2 := wT 0 (tpS b ln (rnP b ln (rnP b ln p 1 20 + 1) 0 5) (rnFt b ln (rnP b ln p 1 20 + 1) 0 5 (rnFt b ln p 1 20 ft))) ++ wF 2 (up2 F 3 (upd (F 3) h (rnR b ln p 1 20)))) (r2 := some (.int (rnR b ln (rnP b ln p 1 20 + 1) 0 5))) C [0, 1] (c_X4_readNumber b ln (rnP b ln p 1 20 + 1) (rnFt b ln p 1 20 ft) hln (rs_le h_28 (by decide)) 0 5) xm_X4_readNumber xk_X4_38 dX4_readLoad_41 rfl (by decide) rfl rfl rfl rfl rfl (Nat.le_of_ble_eq_true rfl) ⟨Nat.le_of_ble_eq_true rfl, Nat.le_of_ble_eq_true rfl⟩ ⟨rfl, rfl⟩ ⟨Nat.le_of_ble_eq_true rfl, Nat.le_of_ble_eq_true rfl⟩ rfl rfl rfl rfl ?_
      show g 0 0 (wT 0 (tpS b ln (rnP b ln (rnP b ln p 1 20 + 1) 0 5) (rnFt b ln (rnP b ln p 1 20 + 1) 0 5 (rnFt b ln p 1 20 ft))) ++ wF 2 (up2 F 3 (upd (F 3) h (rnR b ln p 1 20)))) 44 [some (.ref 0), some (.ref 2), some (.int (nI h))] [.int (rnR b ln (rnP b ln p 1 20 + 1) 0 5), .int (nI h), .ref 7]
      refine r_iastore (pc := 44) (θ' := wT 0 (tpS b ln (rnP b ln (rnP b ln p 1 20 + 1) 0 5) (rnFt b ln (rnP b ln p 1 20 + 1) 0 5 (rnFt b ln p 1 20 ft))) ++ wF 2 (up2 (up2 F 3 (upd (F 3) h (rnR b ln p 1 20))) 4 (upd (F 4) h (rnR b ln (rnP b ln p 1 20 + 1) 0 5)))) C h dX4_readLoad_44 rfl rfl (by first | assumption | omega) rfl ?_
      refine r_aload_n (pc := 45) C dX4_readLoad_45 rfl rfl ?_
      refine r_getfield (pc := 46) (v := .ref 7) C xf_X4_80 dX4_readLoad_46 rfl rfl ?_
      refine r_iload_n (pc := 49) C dX4_readLoad_49 rfl rfl ?_
      refine r_iaload (pc := 50) (v := rnR b ln (rnP b ln p 1 20 + 1) 0 5) C h dX4_readLoad_50 rfl rfl (by first | assumption | omega) (if_pos rfl) ?_
      refine r_if_lt (pc := 51) (tgt := 67) C dX4_readLoad_51 (by decide) (fun h_51 => ?_) (fun h_51 => ?_)
      · skip
        refine r_iconst (pc := 67) (v := 0) C dX4_readLoad_67 (by decide) ?_
        show g 0 0 (wT 0 (tpS b ln (rnP b ln (rnP b ln p 1 20 + 1) 0 5) (rnFt b ln (rnP b ln p 1 20 + 1) 0 5 (rnFt b ln p 1 20 ft))) ++ wF 2 (up2 (up2 F 3 (upd (F 3) h (rnR b ln p 1 20))) 4 (upd (F 4) h (rnR b ln (rnP b ln p 1 20 + 1) 0 5)))) 68 [some (.ref 0), some (.ref 2), some (.int (nI h))] [.int 0]
        have hX : rdS b ln p ft F h = (false, rnP b ln (rnP b ln p 1 20 + 1) 0 5, rnFt b ln (rnP b ln p 1 20 + 1) 0 5 (rnFt b ln p 1 20 ft), (up2 (up2 F 3 (upd (F 3) h (rnR b ln p 1 20))) 4 (upd (F 4) h (rnR b ln (rnP b ln p 1 20 + 1) 0 5)))) := by simp only [rdS, r2S, h_19, h_28, h_51, if_true, if_false, Bool.false_eq_true]
        exact E _ _ _ _ _ _ dX4_readLoad_68 (Nat.le_refl _) (Nat.le_refl _) rfl ⟨by rw [hX]; rfl, by rw [hX] <;> rfl⟩
      · skip
        refine r_aload_n (pc := 54) C dX4_readLoad_54 rfl rfl ?_
        refine r_bipush (pc := 55) (v := 59) C dX4_readLoad_55 (by decide) ?_
        refine r_callVD (pc := 57) (b := 0) (As := [.int 59]) (st := []) (θ2 := wT 0 (if rsB b ln (rnP b ln (rnP b ln p 1 20 + 1) 0 5) 59 then tpS b ln (rnP b ln (rnP b ln p 1 20 + 1) 0 5 + 1) (rnFt b ln (rnP b ln p 1 20 + 1) 0 5 (rnFt b ln p 1 20 ft)) else tpS b ln (rnP b ln (rnP b ln p 1 20 + 1) 0 5) 1) ++ wF 2 (up2 (up2 F 3 (upd (F 3) h (rnR b ln p 1 20))) 4 (upd (F 4) h (rnR b ln (rnP b ln p 1 20 + 1) 0 5)))) (r2 := some (.int (bB (rsB b ln (rnP b ln (rnP b ln p 1 20 + 1) 0 5) 59)))) C [0, 1] (c_X4_readSign b ln (rnP b ln (rnP b ln p 1 20 + 1) 0 5) (rnFt b ln (rnP b ln p 1 20 + 1) 0 5 (rnFt b ln p 1 20 ft)) hln (rn_le (rs_le h_28 (by decide))) 59) xm_X4_readSign xk_X4_34 dX4_readLoad_57 rfl (by decide) rfl rfl rfl rfl rfl (Nat.le_of_ble_eq_true rfl) ⟨Nat.le_of_ble_eq_true rfl, Nat.le_of_ble_eq_true rfl⟩ ⟨rfl, rfl⟩ ⟨Nat.le_of_ble_eq_true rfl, Nat.le_of_ble_eq_true rfl⟩ rfl rfl rfl rfl ?_
        show g 0 0 (wT 0 (if rsB b ln (rnP b ln (rnP b ln p 1 20 + 1) 0 5) 59 then tpS b ln (rnP b ln (rnP b ln p 1 20 + 1) 0 5 + 1) (rnFt b ln (rnP b ln p 1 20 + 1) 0 5 (rnFt b ln p 1 20 ft)) else tpS b ln (rnP b ln (rnP b ln p 1 20 + 1) 0 5) 1) ++ wF 2 (up2 (up2 F 3 (upd (F 3) h (rnR b ln p 1 20))) 4 (upd (F 4) h (rnR b ln (rnP b ln p 1 20 + 1) 0 5)))) 60 [some (.ref 0), some (.ref 2), some (.int (nI h))] [.int (bB (rsB b ln (rnP b ln (rnP b ln p 1 20 + 1) 0 5) 59))]
        refine r_if_eq (pc := 60) (tgt := 67) C dX4_readLoad_60 (by decide) (fun h_60 => ?_) (fun h_60 => ?_)
        · replace h_60 := bB_f h_60
          rw [h_60]
          show g 0 0 (wT 0 (tpS b ln (rnP b ln (rnP b ln p 1 20 + 1) 0 5) 1) ++ wF 2 (up2 (up2 F 3 (upd (F 3) h (rnR b ln p 1 20))) 4 (upd (F 4) h (rnR b ln (rnP b ln p 1 20 + 1) 0 5)))) 67 [some (.ref 0), some (.ref 2), some (.int (nI h))] []
          refine r_iconst (pc := 67) (v := 0) C dX4_readLoad_67 (by decide) ?_
          show g 0 0 (wT 0 (tpS b ln (rnP b ln (rnP b ln p 1 20 + 1) 0 5) 1) ++ wF 2 (up2 (up2 F 3 (upd (F 3) h (rnR b ln p 1 20))) 4 (upd (F 4) h (rnR b ln (rnP b ln p 1 20 + 1) 0 5)))) 68 [some (.ref 0), some (.ref 2), some (.int (nI h))] [.int 0]
          have hX : rdS b ln p ft F h = (false, rnP b ln (rnP b ln p 1 20 + 1) 0 5, 1, (up2 (up2 F 3 (upd (F 3) h (rnR b ln p 1 20))) 4 (upd (F 4) h (rnR b ln (rnP b ln p 1 20 + 1) 0 5)))) := by simp only [rdS, r2S, h_19, h_28, h_51, h_60, if_true, if_false, Bool.false_eq_true]
          exact E _ _ _ _ _ _ dX4_readLoad_68 (Nat.le_refl _) (Nat.le_refl _) rfl ⟨by rw [hX]; rfl, by rw [hX] <;> rfl⟩
        · replace h_60 := bB_t h_60
          rw [h_60]
          show g 0 0 (wT 0 (tpS b ln (rnP b ln (rnP b ln p 1 20 + 1) 0 5 + 1) (rnFt b ln (rnP b ln p 1 20 + 1) 0 5 (rnFt b ln p 1 20 ft))) ++ wF 2 (up2 (up2 F 3 (upd (F 3) h (rnR b ln p 1 20))) 4 (upd (F 4) h (rnR b ln (rnP b ln p 1 20 + 1) 0 5)))) 63 [some (.ref 0), some (.ref 2), some (.int (nI h))] []
          refine r_iconst (pc := 63) (v := 1) C dX4_readLoad_63 (by decide) ?_
          refine r_goto (pc := 64) (tgt := 68) C dX4_readLoad_64 (by decide) ?_
          show g 0 0 (wT 0 (tpS b ln (rnP b ln (rnP b ln p 1 20 + 1) 0 5 + 1) (rnFt b ln (rnP b ln p 1 20 + 1) 0 5 (rnFt b ln p 1 20 ft))) ++ wF 2 (up2 (up2 F 3 (upd (F 3) h (rnR b ln p 1 20))) 4 (upd (F 4) h (rnR b ln (rnP b ln p 1 20 + 1) 0 5)))) 68 [some (.ref 0), some (.ref 2), some (.int (nI h))] [.int 1]
          have hX : rdS b ln p ft F h = (true, rnP b ln (rnP b ln p 1 20 + 1) 0 5 + 1, rnFt b ln (rnP b ln p 1 20 + 1) 0 5 (rnFt b ln p 1 20 ft), (up2 (up2 F 3 (upd (F 3) h (rnR b ln p 1 20))) 4 (upd (F 4) h (rnR b ln (rnP b ln p 1 20 + 1) 0 5)))) := by simp only [rdS, r2S, h_19, h_28, h_51, h_60, if_true, if_false, Bool.false_eq_true]
          exact E _ _ _ _ _ _ dX4_readLoad_68 (Nat.le_refl _) (Nat.le_refl _) rfl ⟨by rw [hX]; rfl, by rw [hX] <;> rfl⟩
    · replace h_28 := bB_f h_28
      rw [h_28]
      show g 0 0 (wT 0 (tpS b ln (rnP b ln p 1 20) 1) ++ wF 2 (up2 F 3 (upd (F 3) h (rnR b ln p 1 20)))) 31 [some (.ref 0), some (.ref 2), some (.int (nI h))] []
      refine r_iconst (pc := 31) (v := 0) C dX4_readLoad_31 (by decide) ?_
      show g 0 0 (wT 0 (tpS b ln (rnP b ln p 1 20) 1) ++ wF 2 (up2 F 3 (upd (F 3) h (rnR b ln p 1 20)))) 32 [some (.ref 0), some (.ref 2), some (.int (nI h))] [.int 0]
      have hX : rdS b ln p ft F h = (false, rnP b ln p 1 20, 1, (up2 F 3 (upd (F 3) h (rnR b ln p 1 20)))) := by simp only [rdS, r2S, h_19, h_28, if_true, if_false, Bool.false_eq_true]
      exact E _ _ _ _ _ _ dX4_readLoad_32 (Nat.le_refl _) (Nat.le_refl _) rfl ⟨by rw [hX]; rfl, by rw [hX] <;> rfl⟩
