def rmX4_readInto : Room := { frames := 5, cells := 0, slots := 0, locals := 112 }
def rmX4_readLaw : Room := { frames := 3, cells := 0, slots := 0, locals := 67 }
def rmX4_readHammock : Room := { frames := 4, cells := 0, slots := 0, locals := 89 }
def rmX4_readTrees : Room := { frames := 3, cells := 0, slots := 0, locals := 67 }
def rmX4_readLoad : Room := { frames := 3, cells := 0, slots := 0, locals := 67 }
def rmX4_readSign : Room := { frames := 2, cells := 0, slots := 0, locals := 42 }
def rmX4_readNumber : Room := { frames := 2, cells := 0, slots := 0, locals := 42 }
def rmX4_refuse : Room := { frames := 0, cells := 0, slots := 0, locals := 0 }
def rmX4_byteAt : Room := { frames := 1, cells := 0, slots := 0, locals := 21 }
def rmX4_isFigure : Room := { frames := 0, cells := 0, slots := 0, locals := 0 }
def rmX4_sortOf : Room := { frames := 0, cells := 0, slots := 0, locals := 0 }
def rmX5_isBelow : Room := { frames := 0, cells := 0, slots := 0, locals := 0 }
/-! ===== the tape ===== -/
noncomputable section
def belS (i n : Int32) : Bool := !decide (i < 0) && !decide (n ≤ i)
def tpS (b : Nat → Int32) (ln p : Nat) (ft : Int32) : Nat → Nat → Int32 := fun k => match k with
  | 0 => b
  | 1 => k1 (nI ln)
  | 2 => k1 (nI p)
  | _ => k1 ft
theorem seal_ex {α : Type} (a : α) : ∃ x, x = a := ⟨a, rfl⟩
def byteS0 (b : Nat → Int32) (ln p : Nat) : Int32 := if p < ln then b p else -1
noncomputable def byteS : (Nat → Int32) → Nat → Nat → Int32 := Classical.choose (seal_ex byteS0)
theorem byteS_eq : byteS = byteS0 := Classical.choose_spec (seal_ex byteS0)
def figS (x : Int32) : Bool := !decide (x < 48) && !decide (57 < x)
def rsB0 (b : Nat → Int32) (ln p : Nat) (s : Int32) : Bool := decide (byteS b ln p = s)
noncomputable def rsB : (Nat → Int32) → Nat → Nat → Int32 → Bool := Classical.choose (seal_ex rsB0)
theorem rsB_eq : rsB = rsB0 := Classical.choose_spec (seal_ex rsB0)
def fgB (b : Nat → Int32) (ln p : Nat) : Bool := decide (p < ln) && figS (byteS b ln p)
/-- how many figures stand at p, three at most; and their number -/
def rnK (b : Nat → Int32) (ln p : Nat) : Nat := if fgB b ln p then (if fgB b ln (p + 1) then (if fgB b ln (p + 1 + 1) then 3 else 2) else 1) else 0
def rnV (b : Nat → Int32) (ln p : Nat) : Int32 := if fgB b ln p then (if fgB b ln (p + 1) then (if fgB b ln (p + 1 + 1) then 10 * (10 * (10 * 0 + byteS b ln p - 48) + byteS b ln (p + 1) - 48) + byteS b ln (p + 1 + 1) - 48 else 10 * (10 * 0 + byteS b ln p - 48) + byteS b ln (p + 1) - 48) else 10 * 0 + byteS b ln p - 48) else 0
/-- 0 good, 1 no number, 2 not as told -/
def rnF (b : Nat → Int32) (ln p : Nat) (l m : Int32) : Int32 := if rnK b ln p = 0 ∨ rnK b ln p = 3 then 1 else if rnV b ln p < l ∨ m < rnV b ln p then 2 else 0
def rnR0 (b : Nat → Int32) (ln p : Nat) (l m : Int32) : Int32 := if rnF b ln p l m = 0 then rnV b ln p else -1
noncomputable def rnR : (Nat → Int32) → Nat → Nat → Int32 → Int32 → Int32 := Classical.choose (seal_ex rnR0)
theorem rnR_eq : rnR = rnR0 := Classical.choose_spec (seal_ex rnR0)
def rnP0 (b : Nat → Int32) (ln p : Nat) (l m : Int32) : Nat := if rnF b ln p l m = 0 then p + rnK b ln p else p
noncomputable def rnP : (Nat → Int32) → Nat → Nat → Int32 → Int32 → Nat := Classical.choose (seal_ex rnP0)
theorem rnP_eq : rnP = rnP0 := Classical.choose_spec (seal_ex rnP0)
def rnFt0 (b : Nat → Int32) (ln p : Nat) (l m ft : Int32) : Int32 := if rnF b ln p l m = 0 then ft else rnF b ln p l m
noncomputable def rnFt : (Nat → Int32) → Nat → Nat → Int32 → Int32 → Int32 → Int32 := Classical.choose (seal_ex rnFt0)
theorem rnFt_eq : rnFt = rnFt0 := Classical.choose_spec (seal_ex rnFt0)
theorem rs_le {b : Nat → Int32} {ln p : Nat} {s : Int32} (h : rsB b ln p s = true) (hs : s ≠ -1) : p + 1 ≤ ln := by
  rw [rsB_eq, rsB0, byteS_eq] at h
  unfold byteS0 at h
  by_cases q : p < ln
  · omega
  · rw [if_neg q] at h
    exact absurd (of_decide_eq_true h).symm hs
theorem fg_lt {b : Nat → Int32} {ln p : Nat} (h : fgB b ln p = true) : p < ln := by
  unfold fgB at h
  simp at h
  exact h.1
theorem rn_le {b : Nat → Int32} {ln p : Nat} {l m : Int32} (hp : p ≤ ln) : rnP b ln p l m ≤ ln := by
  rw [rnP_eq]
  unfold rnP0
  split
  · unfold rnK
    split
    · have := fg_lt (by assumption : fgB b ln p = true)
      split
      · have := fg_lt (by assumption : fgB b ln (p + 1) = true)
        split
        · have := fg_lt (by assumption : fgB b ln (p + 1 + 1) = true)
          omega
        · omega
      · omega
    · omega
  · exact hp
theorem so_le {b : Nat → Int32} {ln p : Nat} (h : ¬ sortM (byteS b ln p) = 0) : p + 1 ≤ ln := by
  by_cases q : p < ln
  · omega
  · exact absurd (by rw [byteS_eq, byteS0, if_neg q]; decide) h
def rlS0 (b : Nat → Int32) (ln p : Nat) (ft : Int32) (F : Nat → Nat → Int32) : Bool × Nat × Int32 × (Nat → Nat → Int32) :=
  if rsB b ln p 116 then
    if rnR b ln (p + 1) 0 40 < 0 then (false, rnP b ln (p + 1) 0 40, rnFt b ln (p + 1) 0 40 ft, up2 F 6 (k1 (rnR b ln (p + 1) 0 40)))
    else if rsB b ln (rnP b ln (p + 1) 0 40) 44 then
      if rnR b ln (rnP b ln (p + 1) 0 40 + 1) 0 5 < 0 then (false, rnP b ln (rnP b ln (p + 1) 0 40 + 1) 0 5, rnFt b ln (rnP b ln (p + 1) 0 40 + 1) 0 5 (rnFt b ln (p + 1) 0 40 ft), up2 (up2 F 6 (k1 (rnR b ln (p + 1) 0 40))) 7 (k1 (rnR b ln (rnP b ln (p + 1) 0 40 + 1) 0 5)))
      else if rsB b ln (rnP b ln (rnP b ln (p + 1) 0 40 + 1) 0 5) 59 then (true, rnP b ln (rnP b ln (p + 1) 0 40 + 1) 0 5 + 1, rnFt b ln (rnP b ln (p + 1) 0 40 + 1) 0 5 (rnFt b ln (p + 1) 0 40 ft), up2 (up2 F 6 (k1 (rnR b ln (p + 1) 0 40))) 7 (k1 (rnR b ln (rnP b ln (p + 1) 0 40 + 1) 0 5)))
      else (false, rnP b ln (rnP b ln (p + 1) 0 40 + 1) 0 5, 1, up2 (up2 F 6 (k1 (rnR b ln (p + 1) 0 40))) 7 (k1 (rnR b ln (rnP b ln (p + 1) 0 40 + 1) 0 5)))
    else (false, rnP b ln (p + 1) 0 40, 1, up2 F 6 (k1 (rnR b ln (p + 1) 0 40)))
  else (false, p, 1, F)
noncomputable def rlS : (Nat → Int32) → Nat → Nat → Int32 → (Nat → Nat → Int32) → Bool × Nat × Int32 × (Nat → Nat → Int32) := Classical.choose (seal_ex rlS0)
theorem rlS_eq : rlS = rlS0 := Classical.choose_spec (seal_ex rlS0)
/-- two numbers, into the rows ka and kb of F at h: the first from la to ma, behind it the sign 44; the second from lb to mb, behind it the sign sg -/
def r2S (b : Nat → Int32) (ln p : Nat) (ft : Int32) (F : Nat → Nat → Int32) (h ka kb : Nat) (la ma : Int32) (lb : Int32 → Int32) (mb sg : Int32) : Bool × Nat × Int32 × (Nat → Nat → Int32) :=
  if rnR b ln p la ma < 0 then (false, rnP b ln p la ma, rnFt b ln p la ma ft, up2 F ka (upd (F ka) h (rnR b ln p la ma)))
  else if rsB b ln (rnP b ln p la ma) 44 then
    if rnR b ln (rnP b ln p la ma + 1) (lb (rnR b ln p la ma)) mb < 0 then (false, rnP b ln (rnP b ln p la ma + 1) (lb (rnR b ln p la ma)) mb, rnFt b ln (rnP b ln p la ma + 1) (lb (rnR b ln p la ma)) mb (rnFt b ln p la ma ft), up2 (up2 F ka (upd (F ka) h (rnR b ln p la ma))) kb (upd (F kb) h (rnR b ln (rnP b ln p la ma + 1) (lb (rnR b ln p la ma)) mb)))
    else if rsB b ln (rnP b ln (rnP b ln p la ma + 1) (lb (rnR b ln p la ma)) mb) sg then (true, rnP b ln (rnP b ln p la ma + 1) (lb (rnR b ln p la ma)) mb + 1, rnFt b ln (rnP b ln p la ma + 1) (lb (rnR b ln p la ma)) mb (rnFt b ln p la ma ft), up2 (up2 F ka (upd (F ka) h (rnR b ln p la ma))) kb (upd (F kb) h (rnR b ln (rnP b ln p la ma + 1) (lb (rnR b ln p la ma)) mb)))
    else (false, rnP b ln (rnP b ln p la ma + 1) (lb (rnR b ln p la ma)) mb, 1, up2 (up2 F ka (upd (F ka) h (rnR b ln p la ma))) kb (upd (F kb) h (rnR b ln (rnP b ln p la ma + 1) (lb (rnR b ln p la ma)) mb)))
  else (false, rnP b ln p la ma, 1, up2 F ka (upd (F ka) h (rnR b ln p la ma)))
def rtS0 (b : Nat → Int32) (ln p : Nat) (ft : Int32) (F : Nat → Nat → Int32) (h : Nat) : Bool × Nat × Int32 × (Nat → Nat → Int32) := r2S b ln p ft F h 1 2 0 11 (fun r => r + 1) 11 44
noncomputable def rtS : (Nat → Int32) → Nat → Nat → Int32 → (Nat → Nat → Int32) → Nat → Bool × Nat × Int32 × (Nat → Nat → Int32) := Classical.choose (seal_ex rtS0)
theorem rtS_eq : rtS = rtS0 := Classical.choose_spec (seal_ex rtS0)
def rdS0 (b : Nat → Int32) (ln p : Nat) (ft : Int32) (F : Nat → Nat → Int32) (h : Nat) : Bool × Nat × Int32 × (Nat → Nat → Int32) := r2S b ln p ft F h 3 4 1 20 (fun _ => 0) 5 59
noncomputable def rdS : (Nat → Int32) → Nat → Nat → Int32 → (Nat → Nat → Int32) → Nat → Bool × Nat × Int32 × (Nat → Nat → Int32) := Classical.choose (seal_ex rdS0)
theorem rdS_eq : rdS = rdS0 := Classical.choose_spec (seal_ex rdS0)
theorem r2_le {b : Nat → Int32} {ln p h ka kb : Nat} {ft la ma mb sg : Int32} {lb : Int32 → Int32} {F : Nat → Nat → Int32} (hp : p ≤ ln) (hs : sg ≠ -1) : (r2S b ln p ft F h ka kb la ma lb mb sg).2.1 ≤ ln := by
  unfold r2S
  split
  · exact rn_le hp
  · split
    · have h1 := rs_le (by assumption : rsB b ln (rnP b ln p la ma) 44 = true) (by decide)
      split
      · exact rn_le h1
      · split
        · exact rs_le (by assumption) hs
        · exact rn_le h1
    · exact rn_le hp
theorem rl_le {b : Nat → Int32} {ln p : Nat} {ft : Int32} {F : Nat → Nat → Int32} (hp : p ≤ ln) : (rlS b ln p ft F).2.1 ≤ ln := by
  rw [rlS_eq]
  unfold rlS0
  split
  · have h0 := rs_le (by assumption : rsB b ln p 116 = true) (by decide)
    split
    · exact rn_le h0
    · split
      · have h1 := rs_le (by assumption : rsB b ln (rnP b ln (p + 1) 0 40) 44 = true) (by decide)
        split
        · exact rn_le h1
        · split
          · exact rs_le (by assumption) (by decide)
          · exact rn_le h1
      · exact rn_le h0
  · exact hp
theorem rtS_le {b : Nat → Int32} {ln p h : Nat} {ft : Int32} {F : Nat → Nat → Int32} (hp : p ≤ ln) : (rtS b ln p ft F h).2.1 ≤ ln := by
  rw [rtS_eq]
  exact r2_le hp (by decide)
theorem rdS_le {b : Nat → Int32} {ln p h : Nat} {ft : Int32} {F : Nat → Nat → Int32} (hp : p ≤ ln) : (rdS b ln p ft F h).2.1 ≤ ln := by
  rw [rdS_eq]
  exact r2_le hp (by decide)
theorem t4 {x : Bool × Nat × Int32 × (Nat → Nat → Int32)} {o : Bool} {P : Nat} {f : Int32} {F : Nat → Nat → Int32} (h : x = (o, P, f, F)) : x.1 = o ∧ x.2.1 = P ∧ x.2.2.1 = f ∧ x.2.2.2 = F := by
  subst h
  exact ⟨rfl, rfl, rfl, rfl⟩
def rhS0 (b : Nat → Int32) (ln p : Nat) (ft : Int32) (F : Nat → Nat → Int32) (h : Nat) : Bool × Nat × Int32 × (Nat → Nat → Int32) :=
  if sortM (byteS b ln p) = 0 then (false, p, 1, F)
  else if nI h < 6 then
    if (rtS b ln (p + 1) ft (up2 (up2 F 0 (upd (F 0) h (sortM (byteS b ln p)))) 9 (k1 (nI (h + 1)))) h).1 then
      rdS b ln (rtS b ln (p + 1) ft (up2 (up2 F 0 (upd (F 0) h (sortM (byteS b ln p)))) 9 (k1 (nI (h + 1)))) h).2.1 (rtS b ln (p + 1) ft (up2 (up2 F 0 (upd (F 0) h (sortM (byteS b ln p)))) 9 (k1 (nI (h + 1)))) h).2.2.1 (rtS b ln (p + 1) ft (up2 (up2 F 0 (upd (F 0) h (sortM (byteS b ln p)))) 9 (k1 (nI (h + 1)))) h).2.2.2 h
    else rtS b ln (p + 1) ft (up2 (up2 F 0 (upd (F 0) h (sortM (byteS b ln p)))) 9 (k1 (nI (h + 1)))) h
  else (false, p, 3, F)
noncomputable def rhS : (Nat → Int32) → Nat → Nat → Int32 → (Nat → Nat → Int32) → Nat → Bool × Nat × Int32 × (Nat → Nat → Int32) := Classical.choose (seal_ex rhS0)
theorem rhS_eq : rhS = rhS0 := Classical.choose_spec (seal_ex rhS0)
theorem r2_size {b : Nat → Int32} {ln p h ka kb : Nat} {ft la ma mb sg : Int32} {lb : Int32 → Int32} {F : Nat → Nat → Int32} (ha : ka = 1 ∨ ka = 3) (hb : kb = 2 ∨ kb = 4) : (r2S b ln p ft F h ka kb la ma lb mb sg).2.2.2 9 = F 9 := by
  unfold r2S
  rcases ha with rfl | rfl <;> rcases hb with rfl | rfl <;> (split <;> (try split) <;> (try split) <;> (try split) <;> rfl)
theorem rh_le {b : Nat → Int32} {ln p h : Nat} {ft : Int32} {F : Nat → Nat → Int32} (hp : p ≤ ln) : (rhS b ln p ft F h).2.1 ≤ ln := by
  rw [rhS_eq]
  unfold rhS0
  split
  · exact hp
  · split
    · have h0 := so_le (by assumption : ¬ sortM (byteS b ln p) = 0)
      split
      · exact rdS_le (rtS_le h0)
      · exact rtS_le h0
    · exact hp
theorem rh_size {b : Nat → Int32} {ln p h : Nat} {ft : Int32} {F : Nat → Nat → Int32} (hs : F 9 0 = nI h) (ho : (rhS b ln p ft F h).1 = true) : (rhS b ln p ft F h).2.2.2 9 0 = nI (h + 1) := by
  rw [rhS_eq] at ho ⊢
  unfold rhS0 at ho ⊢
  split at ho
  · cases ho
  · rename_i h1
    rw [if_neg h1]
    split at ho
    · rename_i h2
      rw [if_pos h2]
      split at ho
      · rename_i h3
        rw [if_pos h3, rdS_eq, rdS0, r2_size (Or.inr rfl) (Or.inr rfl), rtS_eq, rtS0, r2_size (Or.inl rfl) (Or.inl rfl)]
        rfl
      · rename_i h3
        exact absurd ho h3
    · cases ho
theorem rl_size {b : Nat → Int32} {ln p : Nat} {ft : Int32} {F : Nat → Nat → Int32} {x : Int32} (hs : F 9 0 = x) : (rlS b ln p ft F).2.2.2 9 0 = x := by
  rw [rlS_eq]
  unfold rlS0
  split <;> (try split) <;> (try split) <;> (try split) <;> (try split) <;> exact hs
def riL (b : Nat → Int32) (ln : Nat) : Nat → Nat → Nat → Int32 → (Nat → Nat → Int32) → Bool × Nat × Int32 × (Nat → Nat → Int32)
  | 0, _, p, ft, F => (true, p, ft, F)
  | n + 1, i, p, ft, F => if p < ln then (if (rhS b ln p ft F i).1 then riL b ln n (i + 1) (rhS b ln p ft F i).2.1 (rhS b ln p ft F i).2.2.1 (rhS b ln p ft F i).2.2.2 else rhS b ln p ft F i) else (true, p, ft, F)
def riS0 (b : Nat → Int32) (ln _p : Nat) (ft : Int32) (F : Nat → Nat → Int32) : Bool × Nat × Int32 × (Nat → Nat → Int32) := if (rlS b ln 0 ft (begS F)).1 then riL b ln 7 0 (rlS b ln 0 ft (begS F)).2.1 (rlS b ln 0 ft (begS F)).2.2.1 (rlS b ln 0 ft (begS F)).2.2.2 else rlS b ln 0 ft (begS F)
noncomputable def riS : (Nat → Int32) → Nat → Nat → Int32 → (Nat → Nat → Int32) → Bool × Nat × Int32 × (Nat → Nat → Int32) := Classical.choose (seal_ex riS0)
theorem riS_eq : riS = riS0 := Classical.choose_spec (seal_ex riS0)
end
set_option maxHeartbeats 4000000 in
set_option maxRecDepth 100000 in
theorem c_X5_isBelow (i n : Int32) : MetA yX5_isBelow (.code yX5_isBelow cX5_isBelow 2 (some .boolean) :: TT) rmX5_isBelow [.int i, .int n] ([]) (fun vr wr => vr = some (.int (bB (belS i n))) ∧ wr = []) 0 0 := by
  refine MetA.of_i (by decide) (fun _ => Nat.le_of_ble_eq_true rfl) (Nat.le_of_ble_eq_true rfl) (fun g C E => ?_)
  replace C : Sem cX5_isBelow RX5 "isBelow" 2 rmX5_isBelow g := C
  show g 0 0 ([]) 0 [some (.int i), some (.int n)] []
  refine r_iload_n (pc := 0) C dX5_isBelow_0 rfl rfl ?_
  refine r_if_lt (pc := 1) (tgt := 13) C dX5_isBelow_1 (by decide) (fun h_1 => ?_) (fun h_1 => ?_)
  · skip
    refine r_iconst (pc := 13) (v := 0) C dX5_isBelow_13 (by decide) ?_
    exact E _ _ _ _ _ _ dX5_isBelow_14 (Nat.le_refl _) (Nat.le_refl _) rfl ⟨congrArg (fun z => some (Value.int z)) (by simp [belS, bB, h_1]), rfl⟩
  · skip
    refine r_iload_n (pc := 4) C dX5_isBelow_4 rfl rfl ?_
    refine r_iload_n (pc := 5) C dX5_isBelow_5 rfl rfl ?_
    refine r_icmp_ge (pc := 6) (tgt := 13) C dX5_isBelow_6 (by decide) (fun h_6 => ?_) (fun h_6 => ?_)
    · skip
      refine r_iconst (pc := 13) (v := 0) C dX5_isBelow_13 (by decide) ?_
      exact E _ _ _ _ _ _ dX5_isBelow_14 (Nat.le_refl _) (Nat.le_refl _) rfl ⟨congrArg (fun z => some (Value.int z)) (by simp [belS, bB, h_1, h_6]), rfl⟩
    · skip
      refine r_iconst (pc := 9) (v := 1) C dX5_isBelow_9 (by decide) ?_
      refine r_goto (pc := 10) (tgt := 14) C dX5_isBelow_10 (by decide) ?_
      exact E _ _ _ _ _ _ dX5_isBelow_14 (Nat.le_refl _) (Nat.le_refl _) rfl ⟨congrArg (fun z => some (Value.int z)) (by simp [belS, bB, h_1, h_6]), rfl⟩
theorem bel_nI {p ln : Nat} (hp : p < 2 ^ 31) (hl : ln < 2 ^ 31) : belS (nI p) (nI ln) = decide (p < ln) := by
  unfold belS
  rw [decide_eq_false (nI_pos hp), Bool.not_false, Bool.true_and]
  by_cases h : p < ln
  · rw [decide_eq_true h, decide_eq_false (nI_ge h hl)]; rfl
  · rw [decide_eq_false h, decide_eq_true (nI_le (by omega) hp)]; rfl
set_option maxHeartbeats 4000000 in
set_option maxRecDepth 100000 in
theorem c_X4_byteAt (b : Nat → Int32) (ln p : Nat) (ft : Int32) (hln : ln ≤ 120) (hp : p ≤ ln) (q : Nat) (hq : q ≤ ln + 3) : MetA yX4_byteAt (.code yX4_byteAt cX4_byteAt 2 (some .int) :: TT) rmX4_byteAt [.ref 0, .int (nI q)] (wT 0 (tpS b ln p ft)) (fun vr wr => vr = some (.int (byteS b ln q)) ∧ wr = wT 0 (tpS b ln p ft)) 0 0 := by
  refine MetA.of_i (by decide) (fun _ => Nat.le_of_ble_eq_true rfl) (Nat.le_of_ble_eq_true rfl) (fun g C E => ?_)
  replace C : Sem cX4_byteAt RX4 "byteAt" 2 rmX4_byteAt g := C
  show g 0 0 (wT 0 (tpS b ln p ft)) 0 [some (.ref 0), some (.int (nI q))] []
  refine r_iload_n (pc := 0) C dX4_byteAt_0 rfl rfl ?_
  refine r_aload_n (pc := 1) C dX4_byteAt_1 rfl rfl ?_
  refine r_getfield (pc := 2) (v := .int (nI ln)) C xf_X4_28 dX4_byteAt_2 rfl rfl ?_
  refine r_callSN0 (pc := 5) (As := [.int (nI q), .int (nI ln)]) (st := []) C (c_X5_isBelow (nI q) (nI ln)) xm_X5_isBelow (by decide) dX4_byteAt_5 (fun _ => rfl) (fun _ => rfl) rfl rfl (Nat.le_of_ble_eq_true rfl) ⟨Nat.le_of_ble_eq_true rfl, Nat.le_of_ble_eq_true rfl⟩ ⟨rfl, rfl⟩ ⟨Nat.le_of_ble_eq_true rfl, Nat.le_of_ble_eq_true rfl⟩ rfl ?_
  show g 0 0 (wT 0 (tpS b ln p ft)) 8 [some (.ref 0), some (.int (nI q))] [.int (bB (belS (nI q) (nI ln)))]
  refine r_if_eq (pc := 8) (tgt := 20) C dX4_byteAt_8 (by decide) (fun h_8 => ?_) (fun h_8 => ?_)
  · replace h_8 := bB_f h_8
    rw [bel_nI (by omega) (by omega)] at h_8
    replace h_8 := of_decide_eq_false h_8
    refine r_iconst (pc := 20) (v := (-1)) C dX4_byteAt_20 (by decide) ?_
    exact E _ _ _ _ _ _ dX4_byteAt_21 (Nat.le_refl _) (Nat.le_refl _) rfl ⟨congrArg (fun z => some (Value.int z)) (by simp [byteS_eq, byteS0, h_8]), rfl⟩
  · replace h_8 := bB_t h_8
    rw [bel_nI (by omega) (by omega)] at h_8
    replace h_8 := of_decide_eq_true h_8
    refine r_aload_n (pc := 11) C dX4_byteAt_11 rfl rfl ?_
    refine r_getfield (pc := 12) (v := .ref 1) C xf_X4_9 dX4_byteAt_12 rfl rfl ?_
    refine r_iload_n (pc := 15) C dX4_byteAt_15 rfl rfl ?_
    refine r_iaload (pc := 16) (v := b q) C q dX4_byteAt_16 rfl rfl (by first | assumption | omega) rfl ?_
    refine r_goto (pc := 17) (tgt := 21) C dX4_byteAt_17 (by decide) ?_
    exact E _ _ _ _ _ _ dX4_byteAt_21 (Nat.le_refl _) (Nat.le_refl _) rfl ⟨congrArg (fun z => some (Value.int z)) (by simp [byteS_eq, byteS0, h_8]), rfl⟩
set_option maxHeartbeats 4000000 in
set_option maxRecDepth 100000 in
theorem c_X4_isFigure (x : Int32) : MetA yX4_isFigure (.code yX4_isFigure cX4_isFigure 1 (some .boolean) :: TT) rmX4_isFigure [.int x] ([]) (fun vr wr => vr = some (.int (bB (figS x))) ∧ wr = []) 0 0 := by
  refine MetA.of_i (by decide) (fun _ => Nat.le_of_ble_eq_true rfl) (Nat.le_of_ble_eq_true rfl) (fun g C E => ?_)
  replace C : Sem cX4_isFigure RX4 "isFigure" 1 rmX4_isFigure g := C
  show g 0 0 ([]) 0 [some (.int x)] []
  refine r_iload_n (pc := 0) C dX4_isFigure_0 rfl rfl ?_
  refine r_bipush (pc := 1) (v := 48) C dX4_isFigure_1 (by decide) ?_
  refine r_icmp_lt (pc := 3) (tgt := 16) C dX4_isFigure_3 (by decide) (fun h_3 => ?_) (fun h_3 => ?_)
  · skip
    refine r_iconst (pc := 16) (v := 0) C dX4_isFigure_16 (by decide) ?_
    exact E _ _ _ _ _ _ dX4_isFigure_17 (Nat.le_refl _) (Nat.le_refl _) rfl ⟨congrArg (fun z => some (Value.int z)) (by simp [figS, bB, h_3]), rfl⟩
  · skip
    refine r_iload_n (pc := 6) C dX4_isFigure_6 rfl rfl ?_
    refine r_bipush (pc := 7) (v := 57) C dX4_isFigure_7 (by decide) ?_
    refine r_icmp_gt (pc := 9) (tgt := 16) C dX4_isFigure_9 (by decide) (fun h_9 => ?_) (fun h_9 => ?_)
    · skip
      refine r_iconst (pc := 16) (v := 0) C dX4_isFigure_16 (by decide) ?_
      exact E _ _ _ _ _ _ dX4_isFigure_17 (Nat.le_refl _) (Nat.le_refl _) rfl ⟨congrArg (fun z => some (Value.int z)) (by simp [figS, bB, h_3, h_9]), rfl⟩
    · skip
      refine r_iconst (pc := 12) (v := 1) C dX4_isFigure_12 (by decide) ?_
      refine r_goto (pc := 13) (tgt := 17) C dX4_isFigure_13 (by decide) ?_
      exact E _ _ _ _ _ _ dX4_isFigure_17 (Nat.le_refl _) (Nat.le_refl _) rfl ⟨congrArg (fun z => some (Value.int z)) (by simp [figS, bB, h_3, h_9]), rfl⟩
set_option maxHeartbeats 4000000 in
set_option maxRecDepth 100000 in
theorem c_X4_sortOf (x : Int32) : MetA yX4_sortOf (.code yX4_sortOf cX4_sortOf 1 (some .int) :: TT) rmX4_sortOf [.int x] ([]) (fun vr wr => vr = some (.int (sortM x)) ∧ wr = []) 0 0 := by
  refine MetA.of_i (by decide) (fun _ => Nat.le_of_ble_eq_true rfl) (Nat.le_of_ble_eq_true rfl) (fun g C E => ?_)
  replace C : Sem cX4_sortOf RX4 "sortOf" 1 rmX4_sortOf g := C
  show g 0 0 ([]) 0 [some (.int x)] []
  refine r_iload_n (pc := 0) C dX4_sortOf_0 rfl rfl ?_
  by_cases q_1_99 : x = 99
  · refine r_lookup (pc := 1) (off := 51) (tgt := 52) C dX4_sortOf_1 (by decide) (by rw [q_1_99]; decide) (by decide) ?_
    refine r_iconst (pc := 52) (v := 1) C dX4_sortOf_52 (by decide) ?_
    exact E _ _ _ _ _ _ dX4_sortOf_53 (Nat.le_refl _) (Nat.le_refl _) rfl ⟨congrArg (fun z => some (Value.int z)) (by simp [sortM, q_1_99]), rfl⟩
  by_cases q_1_111 : x = 111
  · refine r_lookup (pc := 1) (off := 59) (tgt := 60) C dX4_sortOf_1 (by decide) (by rw [q_1_111]; decide) (by decide) ?_
    refine r_iconst (pc := 60) (v := 5) C dX4_sortOf_60 (by decide) ?_
    exact E _ _ _ _ _ _ dX4_sortOf_61 (Nat.le_refl _) (Nat.le_refl _) rfl ⟨congrArg (fun z => some (Value.int z)) (by simp [sortM, q_1_99, q_1_111]), rfl⟩
  by_cases q_1_114 : x = 114
  · refine r_lookup (pc := 1) (off := 57) (tgt := 58) C dX4_sortOf_1 (by decide) (by rw [q_1_114]; decide) (by decide) ?_
    refine r_iconst (pc := 58) (v := 4) C dX4_sortOf_58 (by decide) ?_
    exact E _ _ _ _ _ _ dX4_sortOf_59 (Nat.le_refl _) (Nat.le_refl _) rfl ⟨congrArg (fun z => some (Value.int z)) (by simp [sortM, q_1_99, q_1_111, q_1_114]), rfl⟩
  by_cases q_1_115 : x = 115
  · refine r_lookup (pc := 1) (off := 53) (tgt := 54) C dX4_sortOf_1 (by decide) (by rw [q_1_115]; decide) (by decide) ?_
    refine r_iconst (pc := 54) (v := 2) C dX4_sortOf_54 (by decide) ?_
    exact E _ _ _ _ _ _ dX4_sortOf_55 (Nat.le_refl _) (Nat.le_refl _) rfl ⟨congrArg (fun z => some (Value.int z)) (by simp [sortM, q_1_99, q_1_111, q_1_114, q_1_115]), rfl⟩
  by_cases q_1_118 : x = 118
  · refine r_lookup (pc := 1) (off := 55) (tgt := 56) C dX4_sortOf_1 (by decide) (by rw [q_1_118]; decide) (by decide) ?_
    refine r_iconst (pc := 56) (v := 3) C dX4_sortOf_56 (by decide) ?_
    exact E _ _ _ _ _ _ dX4_sortOf_57 (Nat.le_refl _) (Nat.le_refl _) rfl ⟨congrArg (fun z => some (Value.int z)) (by simp [sortM, q_1_99, q_1_111, q_1_114, q_1_115, q_1_118]), rfl⟩
  refine r_lookup (pc := 1) (off := 61) (tgt := 62) C dX4_sortOf_1 (by decide) (by show Op.lookupswitch.offset [(99, 51), (111, 59), (114, 57), (115, 53), (118, 55)] 61 _ = _; rw [lv_osw (a := 99) q_1_99 rfl, lv_osw (a := 111) q_1_111 rfl, lv_osw (a := 114) q_1_114 rfl, lv_osw (a := 115) q_1_115 rfl, lv_osw (a := 118) q_1_118 rfl]; rfl) (by decide) ?_
  refine r_iconst (pc := 62) (v := 0) C dX4_sortOf_62 (by decide) ?_
  exact E _ _ _ _ _ _ dX4_sortOf_63 (Nat.le_refl _) (Nat.le_refl _) rfl ⟨congrArg (fun z => some (Value.int z)) (by simp [sortM, q_1_99, q_1_111, q_1_114, q_1_115, q_1_118]), rfl⟩
set_option maxHeartbeats 4000000 in
set_option maxRecDepth 100000 in
theorem c_X4_refuse (b : Nat → Int32) (ln p : Nat) (ft v : Int32) : MetA yX4_refuse (.code yX4_refuse cX4_refuse 2 (some .boolean) :: TT) rmX4_refuse [.ref 0, .int v] (wT 0 (tpS b ln p ft)) (fun vr wr => vr = some (.int (bB false)) ∧ wr = wT 0 (tpS b ln p v)) 0 0 := by
  refine MetA.of_i (by decide) (fun _ => Nat.le_of_ble_eq_true rfl) (Nat.le_of_ble_eq_true rfl) (fun g C E => ?_)
  replace C : Sem cX4_refuse RX4 "refuse" 2 rmX4_refuse g := C
  show g 0 0 (wT 0 (tpS b ln p ft)) 0 [some (.ref 0), some (.int v)] []
  refine r_aload_n (pc := 0) C dX4_refuse_0 rfl rfl ?_
  refine r_iload_n (pc := 1) C dX4_refuse_1 rfl rfl ?_
  refine r_putfield (pc := 2) (θ' := wT 0 (up2 (tpS b ln p ft) 3 (k1 v))) C xf_X4_86 xt_X4_3 dX4_refuse_2 rfl (Nat.le_of_ble_eq_true rfl) (fun _ => ⟨rfl, rfl⟩) rfl ?_
  refine r_iconst (pc := 5) (v := 0) C dX4_refuse_5 (by decide) ?_
  exact E _ _ _ _ _ _ dX4_refuse_6 (Nat.le_refl _) (Nat.le_refl _) rfl ⟨rfl, rfl⟩
set_option maxHeartbeats 4000000 in
set_option maxRecDepth 100000 in
theorem c_X4_readSign (b : Nat → Int32) (ln p : Nat) (ft : Int32) (hln : ln ≤ 120) (hp : p ≤ ln) (sg : Int32) : MetA yX4_readSign (.code yX4_readSign cX4_readSign 2 (some .boolean) :: TT) rmX4_readSign [.ref 0, .int sg] (wT 0 (tpS b ln p ft)) (fun vr wr => vr = some (.int (bB (rsB b ln p sg))) ∧ wr = wT 0 (if rsB b ln p sg then tpS b ln (p + 1) ft else tpS b ln p 1)) 0 0 := by
  refine MetA.of_i (by decide) (fun _ => Nat.le_of_ble_eq_true rfl) (Nat.le_of_ble_eq_true rfl) (fun g C E => ?_)
  replace C : Sem cX4_readSign RX4 "readSign" 2 rmX4_readSign g := C
  show g 0 0 (wT 0 (tpS b ln p ft)) 0 [some (.ref 0), some (.int sg)] []
  refine r_aload_n (pc := 0) C dX4_readSign_0 rfl rfl ?_
  refine r_aload_n (pc := 1) C dX4_readSign_1 rfl rfl ?_
  refine r_getfield (pc := 2) (v := .int (nI p)) C xf_X4_15 dX4_readSign_2 rfl rfl ?_
  refine r_callV0 (pc := 5) (As := [.int (nI p)]) (st := []) (θ' := wT 0 (tpS b ln p ft)) C (c_X4_byteAt b ln p ft hln hp p (by have := hp; omega)) xm_X4_byteAt xk_X4_51 dX4_readSign_5 rfl rfl rfl rfl (Nat.le_of_ble_eq_true rfl) ⟨Nat.le_of_ble_eq_true rfl, Nat.le_of_ble_eq_true rfl⟩ ⟨rfl, rfl⟩ ⟨Nat.le_of_ble_eq_true rfl, Nat.le_of_ble_eq_true rfl⟩ rfl (Eq.trans (b := 2) rfl rfl) ?_
  show g 0 0 (wT 0 (tpS b ln p ft)) 8 [some (.ref 0), some (.int sg)] [.int (byteS b ln p)]
  refine r_iload_n (pc := 8) C dX4_readSign_8 rfl rfl ?_
  refine r_icmp_eq (pc := 9) (tgt := 18) C dX4_readSign_9 (by decide) (fun h_9 => ?_) (fun h_9 => ?_)
  · skip
    refine r_aload_n (pc := 18) C dX4_readSign_18 rfl rfl ?_
    refine r_dup (pc := 19) C dX4_readSign_19 rfl ?_
    refine r_getfield (pc := 20) (v := .int (nI p)) C xf_X4_15 dX4_readSign_20 rfl rfl ?_
    refine r_iconst (pc := 23) (v := 1) C dX4_readSign_23 (by decide) ?_
    refine r_iadd (pc := 24) C dX4_readSign_24 ?_
    show g 0 0 (wT 0 (tpS b ln p ft)) 25 [some (.ref 0), some (.int sg)] [.int ((nI p) + 1), .ref 0]
    rw [show ((nI p) + 1 : Int32) = nI (p + 1) from (nI_sum rfl rfl)]
    refine r_putfield (pc := 25) (θ' := wT 0 (up2 (tpS b ln p ft) 2 (k1 (nI (p + 1))))) C xf_X4_15 xt_X4_2 dX4_readSign_25 rfl (Nat.le_of_ble_eq_true rfl) (fun _ => ⟨rfl, rfl⟩) rfl ?_
    refine r_iconst (pc := 28) (v := 1) C dX4_readSign_28 (by decide) ?_
    exact E _ _ _ _ _ _ dX4_readSign_29 (Nat.le_refl _) (Nat.le_refl _) rfl ⟨congrArg (fun z => some (Value.int z)) (by simp [bB, rsB_eq, rsB0, h_9]), by simp [rsB_eq, rsB0, h_9] <;> rfl⟩
  · skip
    refine r_aload_n (pc := 12) C dX4_readSign_12 rfl rfl ?_
    refine r_iconst (pc := 13) (v := 1) C dX4_readSign_13 (by decide) ?_
    refine r_callV0 (pc := 14) (As := [.int 1]) (st := []) (θ' := wT 0 (tpS b ln p 1)) C (c_X4_refuse b ln p ft 1) xm_X4_refuse xk_X4_58 dX4_readSign_14 rfl rfl rfl rfl (Nat.le_of_ble_eq_true rfl) ⟨Nat.le_of_ble_eq_true rfl, Nat.le_of_ble_eq_true rfl⟩ ⟨rfl, rfl⟩ ⟨Nat.le_of_ble_eq_true rfl, Nat.le_of_ble_eq_true rfl⟩ rfl (Eq.trans (b := 2) rfl rfl) ?_
    show g 0 0 (wT 0 (tpS b ln p 1)) 17 [some (.ref 0), some (.int sg)] [.int (bB false)]
    exact E _ _ _ _ _ _ dX4_readSign_17 (Nat.le_refl _) (Nat.le_refl _) (bB_nar _) ⟨congrArg (fun z => some (Value.int z)) (by simp [bB, rsB_eq, rsB0, h_9]), by simp [rsB_eq, rsB0, h_9] <;> rfl⟩
set_option maxHeartbeats 4000000 in
set_option maxRecDepth 100000 in
theorem c_X4_readNumber (b : Nat → Int32) (ln p : Nat) (ft : Int32) (hln : ln ≤ 120) (hp : p ≤ ln) (l m : Int32) : MetA yX4_readNumber (.code yX4_readNumber cX4_readNumber 6 (some .int) :: TT) rmX4_readNumber [.ref 0, .int l, .int m] (wT 0 (tpS b ln p ft)) (fun vr wr => vr = some (.int (rnR b ln p l m)) ∧ wr = wT 0 (tpS b ln (rnP b ln p l m) (rnFt b ln p l m ft))) 0 0 := by
  refine MetA.of_i (by decide) (fun _ => Nat.le_of_ble_eq_true rfl) (Nat.le_of_ble_eq_true rfl) (fun g C E => ?_)
  replace C : Sem cX4_readNumber RX4 "readNumber" 6 rmX4_readNumber g := C
  show g 0 0 (wT 0 (tpS b ln p ft)) 0 [some (.ref 0), some (.int l), some (.int m), none, none, none] []
  refine r_iconst (pc := 0) (v := 0) C dX4_readNumber_0 (by decide) ?_
  refine r_istore_n (pc := 1) (lv' := [some (.ref 0), some (.int l), some (.int m), some (.int 0), none, none]) C dX4_readNumber_1 rfl (Nat.le_of_ble_eq_true rfl) trivial rfl ?_
  refine r_iconst (pc := 2) (v := 0) C dX4_readNumber_2 (by decide) ?_
  refine r_istore (pc := 3) (lv' := [some (.ref 0), some (.int l), some (.int m), some (.int 0), some (.int 0), none]) C dX4_readNumber_3 (Nat.le_of_ble_eq_true rfl) trivial rfl ?_
  refine r_aload_n (pc := 5) C dX4_readNumber_5 rfl rfl ?_
  refine r_getfield (pc := 6) (v := .int (nI p)) C xf_X4_15 dX4_readNumber_6 rfl rfl ?_
  refine r_istore (pc := 9) (lv' := [some (.ref 0), some (.int l), some (.int m), some (.int 0), some (.int 0), some (.int (nI p))]) C dX4_readNumber_9 (Nat.le_of_ble_eq_true rfl) trivial rfl ?_
  refine r_iload (pc := 11) C dX4_readNumber_11 rfl ?_
  refine r_aload_n (pc := 13) C dX4_readNumber_13 rfl rfl ?_
  refine r_getfield (pc := 14) (v := .int (nI ln)) C xf_X4_28 dX4_readNumber_14 rfl rfl ?_
  refine r_icmp_ge (pc := 17) (tgt := 62) C dX4_readNumber_17 (by decide) (fun h_17 => ?_) (fun h_17 => ?_)
  · skip
    have n_17_0 : fgB b ln (p) = false := by unfold fgB; rw [decide_eq_false (by intro z; exact absurd h_17 (nI_ge (by omega) (by omega)))]; rfl
    refine r_iload (pc := 62) C dX4_readNumber_62 rfl ?_
    refine r_if_eq (pc := 64) (tgt := 73) C dX4_readNumber_64 (by decide) (fun _ => ?_) (fun h => absurd (by decide) h)
    refine r_aload_n (pc := 73) C dX4_readNumber_73 rfl rfl ?_
    refine r_iconst (pc := 74) (v := 1) C dX4_readNumber_74 (by decide) ?_
    refine r_callV0 (pc := 75) (As := [.int 1]) (st := []) (θ' := wT 0 (tpS b ln p 1)) C (c_X4_refuse b ln p ft 1) xm_X4_refuse xk_X4_58 dX4_readNumber_75 rfl rfl rfl rfl (Nat.le_of_ble_eq_true rfl) ⟨Nat.le_of_ble_eq_true rfl, Nat.le_of_ble_eq_true rfl⟩ ⟨rfl, rfl⟩ ⟨Nat.le_of_ble_eq_true rfl, Nat.le_of_ble_eq_true rfl⟩ rfl (Eq.trans (b := 2) rfl rfl) ?_
    show g 0 0 (wT 0 (tpS b ln p 1)) 78 [some (.ref 0), some (.int l), some (.int m), some (.int 0), some (.int 0), some (.int (nI p))] [.int (bB false)]
    refine r_pop (pc := 78) C dX4_readNumber_78 rfl ?_
    refine r_iconst (pc := 79) (v := (-1)) C dX4_readNumber_79 (by decide) ?_
    show g 0 0 (wT 0 (tpS b ln p 1)) 80 [some (.ref 0), some (.int l), some (.int m), some (.int 0), some (.int 0), some (.int (nI p))] [.int (-1)]
    have hK : rnK b ln p = 0 := by simp only [rnK, n_17_0, if_true, if_false, Bool.false_eq_true]
    have hFl : rnF b ln p l m = 1 := by rw [rnF, hK, if_pos (by decide)]
    exact E _ _ _ _ _ _ dX4_readNumber_80 (Nat.le_refl _) (Nat.le_refl _) rfl ⟨congrArg (fun z => some (Value.int z)) (by rw [rnR_eq, rnR0, hFl, if_neg (by decide)]), by rw [rnP_eq, rnFt_eq, rnP0, rnFt0, hFl, if_neg (by decide), if_neg (by decide)]⟩
  · skip
    have n_17_0 : p < ln := Nat.lt_of_not_le (fun z => h_17 (nI_le z (by omega)))
    refine r_aload_n (pc := 20) C dX4_readNumber_20 rfl rfl ?_
    refine r_iload (pc := 21) C dX4_readNumber_21 rfl ?_
    refine r_callV0 (pc := 23) (As := [.int (nI p)]) (st := []) (θ' := wT 0 (tpS b ln p ft)) C (c_X4_byteAt b ln p ft hln hp p (by have := hp; omega)) xm_X4_byteAt xk_X4_51 dX4_readNumber_23 rfl rfl rfl rfl (Nat.le_of_ble_eq_true rfl) ⟨Nat.le_of_ble_eq_true rfl, Nat.le_of_ble_eq_true rfl⟩ ⟨rfl, rfl⟩ ⟨Nat.le_of_ble_eq_true rfl, Nat.le_of_ble_eq_true rfl⟩ rfl (Eq.trans (b := 2) rfl rfl) ?_
    show g 0 0 (wT 0 (tpS b ln p ft)) 26 [some (.ref 0), some (.int l), some (.int m), some (.int 0), some (.int 0), some (.int (nI p))] [.int (byteS b ln p)]
    refine r_callS0 (pc := 26) (As := [.int (byteS b ln p)]) (st := []) C (c_X4_isFigure (byteS b ln p)) xm_X4_isFigure xk_X4_83 dX4_readNumber_26 (fun _ => rfl) (fun _ => rfl) rfl rfl (Nat.le_of_ble_eq_true rfl) ⟨Nat.le_of_ble_eq_true rfl, Nat.le_of_ble_eq_true rfl⟩ ⟨rfl, rfl⟩ ⟨Nat.le_of_ble_eq_true rfl, Nat.le_of_ble_eq_true rfl⟩ rfl ?_
    show g 0 0 (wT 0 (tpS b ln p ft)) 29 [some (.ref 0), some (.int l), some (.int m), some (.int 0), some (.int 0), some (.int (nI p))] [.int (bB (figS (byteS b ln p)))]
    refine r_if_eq (pc := 29) (tgt := 62) C dX4_readNumber_29 (by decide) (fun h_29 => ?_) (fun h_29 => ?_)
    · replace h_29 := bB_f h_29
      have n_29_0 : fgB b ln (p) = false := by unfold fgB; rw [decide_eq_true n_17_0, h_29]; rfl
      refine r_iload (pc := 62) C dX4_readNumber_62 rfl ?_
      refine r_if_eq (pc := 64) (tgt := 73) C dX4_readNumber_64 (by decide) (fun _ => ?_) (fun h => absurd (by decide) h)
      refine r_aload_n (pc := 73) C dX4_readNumber_73 rfl rfl ?_
      refine r_iconst (pc := 74) (v := 1) C dX4_readNumber_74 (by decide) ?_
      refine r_callV0 (pc := 75) (As := [.int 1]) (st := []) (θ' := wT 0 (tpS b ln p 1)) C (c_X4_refuse b ln p ft 1) xm_X4_refuse xk_X4_58 dX4_readNumber_75 rfl rfl rfl rfl (Nat.le_of_ble_eq_true rfl) ⟨Nat.le_of_ble_eq_true rfl, Nat.le_of_ble_eq_true rfl⟩ ⟨rfl, rfl⟩ ⟨Nat.le_of_ble_eq_true rfl, Nat.le_of_ble_eq_true rfl⟩ rfl (Eq.trans (b := 2) rfl rfl) ?_
      show g 0 0 (wT 0 (tpS b ln p 1)) 78 [some (.ref 0), some (.int l), some (.int m), some (.int 0), some (.int 0), some (.int (nI p))] [.int (bB false)]
      refine r_pop (pc := 78) C dX4_readNumber_78 rfl ?_
      refine r_iconst (pc := 79) (v := (-1)) C dX4_readNumber_79 (by decide) ?_
      show g 0 0 (wT 0 (tpS b ln p 1)) 80 [some (.ref 0), some (.int l), some (.int m), some (.int 0), some (.int 0), some (.int (nI p))] [.int (-1)]
      have hK : rnK b ln p = 0 := by simp only [rnK, n_29_0, if_true, if_false, Bool.false_eq_true]
      have hFl : rnF b ln p l m = 1 := by rw [rnF, hK, if_pos (by decide)]
      exact E _ _ _ _ _ _ dX4_readNumber_80 (Nat.le_refl _) (Nat.le_refl _) rfl ⟨congrArg (fun z => some (Value.int z)) (by rw [rnR_eq, rnR0, hFl, if_neg (by decide)]), by rw [rnP_eq, rnFt_eq, rnP0, rnFt0, hFl, if_neg (by decide), if_neg (by decide)]⟩
    · replace h_29 := bB_t h_29
      have n_29_0 : fgB b ln (p) = true := by unfold fgB; rw [decide_eq_true n_17_0, h_29]; rfl
      refine r_iload (pc := 32) C dX4_readNumber_32 rfl ?_
      refine r_iconst (pc := 34) (v := 3) C dX4_readNumber_34 (by decide) ?_
      refine r_icmp_ge (pc := 35) (tgt := 62) C dX4_readNumber_35 (by decide) (fun h => absurd h (by decide)) (fun _ => ?_)
      refine r_bipush (pc := 38) (v := 10) C dX4_readNumber_38 (by decide) ?_
      refine r_iload_n (pc := 40) C dX4_readNumber_40 rfl rfl ?_
      refine r_imul (pc := 41) C dX4_readNumber_41 ?_
      refine r_aload_n (pc := 42) C dX4_readNumber_42 rfl rfl ?_
      refine r_iload (pc := 43) C dX4_readNumber_43 rfl ?_
      refine r_callV0 (pc := 45) (As := [.int (nI p)]) (st := [.int (10 * 0)]) (θ' := wT 0 (tpS b ln p ft)) C (c_X4_byteAt b ln p ft hln hp p (by have := hp; omega)) xm_X4_byteAt xk_X4_51 dX4_readNumber_45 rfl rfl rfl rfl (Nat.le_of_ble_eq_true rfl) ⟨Nat.le_of_ble_eq_true rfl, Nat.le_of_ble_eq_true rfl⟩ ⟨rfl, rfl⟩ ⟨Nat.le_of_ble_eq_true rfl, Nat.le_of_ble_eq_true rfl⟩ rfl (Eq.trans (b := 2) rfl rfl) ?_
      show g 0 0 (wT 0 (tpS b ln p ft)) 48 [some (.ref 0), some (.int l), some (.int m), some (.int 0), some (.int 0), some (.int (nI p))] [.int (byteS b ln p), .int (10 * 0)]
      refine r_iadd (pc := 48) C dX4_readNumber_48 ?_
      refine r_bipush (pc := 49) (v := 48) C dX4_readNumber_49 (by decide) ?_
      refine r_isub (pc := 51) C dX4_readNumber_51 ?_
      refine r_istore_n (pc := 52) (lv' := [some (.ref 0), some (.int l), some (.int m), some (.int (((10 * 0) + (byteS b ln p)) - 48)), some (.int 0), some (.int (nI p))]) C dX4_readNumber_52 rfl (Nat.le_of_ble_eq_true rfl) trivial rfl ?_
      refine r_iinc (pc := 53) (v := 1) (lv' := [some (.ref 0), some (.int l), some (.int m), some (.int (((10 * 0) + (byteS b ln p)) - 48)), some (.int 1), some (.int (nI p))]) C dX4_readNumber_53 rfl (by decide) trivial rfl ?_
      refine r_iinc (pc := 56) (v := nI (p + 1)) (lv' := [some (.ref 0), some (.int l), some (.int m), some (.int (((10 * 0) + (byteS b ln p)) - 48)), some (.int 1), some (.int (nI (p + 1)))]) C dX4_readNumber_56 rfl (nI_1 p) trivial rfl ?_
      refine r_goto (pc := 59) (tgt := 11) C dX4_readNumber_59 (by decide) ?_
      refine r_iload (pc := 11) C dX4_readNumber_11 rfl ?_
      refine r_aload_n (pc := 13) C dX4_readNumber_13 rfl rfl ?_
      refine r_getfield (pc := 14) (v := .int (nI ln)) C xf_X4_28 dX4_readNumber_14 rfl rfl ?_
      refine r_icmp_ge (pc := 17) (tgt := 62) C dX4_readNumber_17 (by decide) (fun h_17 => ?_) (fun h_17 => ?_)
      · skip
        have n_17_1 : fgB b ln ((p + 1)) = false := by unfold fgB; rw [decide_eq_false (by intro z; exact absurd h_17 (nI_ge (by omega) (by omega)))]; rfl
        refine r_iload (pc := 62) C dX4_readNumber_62 rfl ?_
        refine r_if_eq (pc := 64) (tgt := 73) C dX4_readNumber_64 (by decide) (fun h => absurd h (by decide)) (fun _ => ?_)
        refine r_iload (pc := 67) C dX4_readNumber_67 rfl ?_
        refine r_iconst (pc := 69) (v := 3) C dX4_readNumber_69 (by decide) ?_
        refine r_icmp_ne (pc := 70) (tgt := 81) C dX4_readNumber_70 (by decide) (fun _ => ?_) (fun h => absurd h (by decide))
        refine r_iload_n (pc := 81) C dX4_readNumber_81 rfl rfl ?_
        refine r_iload_n (pc := 82) C dX4_readNumber_82 rfl rfl ?_
        refine r_icmp_lt (pc := 83) (tgt := 91) C dX4_readNumber_83 (by decide) (fun h_83 => ?_) (fun h_83 => ?_)
        · skip
          refine r_aload_n (pc := 91) C dX4_readNumber_91 rfl rfl ?_
          refine r_iconst (pc := 92) (v := 2) C dX4_readNumber_92 (by decide) ?_
          refine r_callV0 (pc := 93) (As := [.int 2]) (st := []) (θ' := wT 0 (tpS b ln p 2)) C (c_X4_refuse b ln p ft 2) xm_X4_refuse xk_X4_58 dX4_readNumber_93 rfl rfl rfl rfl (Nat.le_of_ble_eq_true rfl) ⟨Nat.le_of_ble_eq_true rfl, Nat.le_of_ble_eq_true rfl⟩ ⟨rfl, rfl⟩ ⟨Nat.le_of_ble_eq_true rfl, Nat.le_of_ble_eq_true rfl⟩ rfl (Eq.trans (b := 2) rfl rfl) ?_
          show g 0 0 (wT 0 (tpS b ln p 2)) 96 [some (.ref 0), some (.int l), some (.int m), some (.int (((10 * 0) + (byteS b ln p)) - 48)), some (.int 1), some (.int (nI (p + 1)))] [.int (bB false)]
          refine r_pop (pc := 96) C dX4_readNumber_96 rfl ?_
          refine r_iconst (pc := 97) (v := (-1)) C dX4_readNumber_97 (by decide) ?_
          show g 0 0 (wT 0 (tpS b ln p 2)) 98 [some (.ref 0), some (.int l), some (.int m), some (.int (((10 * 0) + (byteS b ln p)) - 48)), some (.int 1), some (.int (nI (p + 1)))] [.int (-1)]
          have hK : rnK b ln p = 1 := by simp only [rnK, n_29_0, n_17_1, if_true, if_false, Bool.false_eq_true]
          have hV : rnV b ln p = ((10 * 0) + (byteS b ln p)) - 48 := by simp only [rnV, n_29_0, n_17_1, if_true, if_false, Bool.false_eq_true]
          have hFl : rnF b ln p l m = 2 := by rw [rnF, hK, if_neg (by decide), hV, if_pos (Or.inl h_83)]
          exact E _ _ _ _ _ _ dX4_readNumber_98 (Nat.le_refl _) (Nat.le_refl _) rfl ⟨congrArg (fun z => some (Value.int z)) (by rw [rnR_eq, rnR0, hFl, if_neg (by decide)]), by rw [rnP_eq, rnFt_eq, rnP0, rnFt0, hFl, if_neg (by decide), if_neg (by decide)]⟩
        · skip
          refine r_iload_n (pc := 86) C dX4_readNumber_86 rfl rfl ?_
          refine r_iload_n (pc := 87) C dX4_readNumber_87 rfl rfl ?_
          refine r_icmp_le (pc := 88) (tgt := 99) C dX4_readNumber_88 (by decide) (fun h_88 => ?_) (fun h_88 => ?_)
          · skip
            refine r_aload_n (pc := 99) C dX4_readNumber_99 rfl rfl ?_
            refine r_dup (pc := 100) C dX4_readNumber_100 rfl ?_
            refine r_getfield (pc := 101) (v := .int (nI p)) C xf_X4_15 dX4_readNumber_101 rfl rfl ?_
            refine r_iload (pc := 104) C dX4_readNumber_104 rfl ?_
            refine r_iadd (pc := 106) C dX4_readNumber_106 ?_
            show g 0 0 (wT 0 (tpS b ln p ft)) 107 [some (.ref 0), some (.int l), some (.int m), some (.int (((10 * 0) + (byteS b ln p)) - 48)), some (.int 1), some (.int (nI (p + 1)))] [.int ((nI p) + 1), .ref 0]
            rw [show ((nI p) + 1 : Int32) = nI (p + 1) from (nI_sum rfl rfl)]
            refine r_putfield (pc := 107) (θ' := wT 0 (up2 (tpS b ln p ft) 2 (k1 (nI (p + 1))))) C xf_X4_15 xt_X4_2 dX4_readNumber_107 rfl (Nat.le_of_ble_eq_true rfl) (fun _ => ⟨rfl, rfl⟩) rfl ?_
            refine r_iload_n (pc := 110) C dX4_readNumber_110 rfl rfl ?_
            show g 0 0 (wT 0 (up2 (tpS b ln p ft) 2 (k1 (nI (p + 1))))) 111 [some (.ref 0), some (.int l), some (.int m), some (.int (((10 * 0) + (byteS b ln p)) - 48)), some (.int 1), some (.int (nI (p + 1)))] [.int (((10 * 0) + (byteS b ln p)) - 48)]
            have hK : rnK b ln p = 1 := by simp only [rnK, n_29_0, n_17_1, if_true, if_false, Bool.false_eq_true]
            have hV : rnV b ln p = ((10 * 0) + (byteS b ln p)) - 48 := by simp only [rnV, n_29_0, n_17_1, if_true, if_false, Bool.false_eq_true]
            have hFl : rnF b ln p l m = 0 := by rw [rnF, hK, if_neg (by decide), hV, if_neg (by rintro (z | z); exact h_83 z; exact absurd h_88 (Int32.not_le.mpr z))]
            exact E _ _ _ _ _ _ dX4_readNumber_111 (Nat.le_refl _) (Nat.le_refl _) rfl ⟨congrArg (fun z => some (Value.int z)) (by rw [rnR_eq, rnR0, hFl, if_pos rfl, hV]), by rw [rnP_eq, rnFt_eq, rnP0, rnFt0, hFl, if_pos rfl, if_pos rfl, hK] <;> rfl⟩
          · skip
            refine r_aload_n (pc := 91) C dX4_readNumber_91 rfl rfl ?_
            refine r_iconst (pc := 92) (v := 2) C dX4_readNumber_92 (by decide) ?_
            refine r_callV0 (pc := 93) (As := [.int 2]) (st := []) (θ' := wT 0 (tpS b ln p 2)) C (c_X4_refuse b ln p ft 2) xm_X4_refuse xk_X4_58 dX4_readNumber_93 rfl rfl rfl rfl (Nat.le_of_ble_eq_true rfl) ⟨Nat.le_of_ble_eq_true rfl, Nat.le_of_ble_eq_true rfl⟩ ⟨rfl, rfl⟩ ⟨Nat.le_of_ble_eq_true rfl, Nat.le_of_ble_eq_true rfl⟩ rfl (Eq.trans (b := 2) rfl rfl) ?_
            show g 0 0 (wT 0 (tpS b ln p 2)) 96 [some (.ref 0), some (.int l), some (.int m), some (.int (((10 * 0) + (byteS b ln p)) - 48)), some (.int 1), some (.int (nI (p + 1)))] [.int (bB false)]
            refine r_pop (pc := 96) C dX4_readNumber_96 rfl ?_
            refine r_iconst (pc := 97) (v := (-1)) C dX4_readNumber_97 (by decide) ?_
            show g 0 0 (wT 0 (tpS b ln p 2)) 98 [some (.ref 0), some (.int l), some (.int m), some (.int (((10 * 0) + (byteS b ln p)) - 48)), some (.int 1), some (.int (nI (p + 1)))] [.int (-1)]
            have hK : rnK b ln p = 1 := by simp only [rnK, n_29_0, n_17_1, if_true, if_false, Bool.false_eq_true]
            have hV : rnV b ln p = ((10 * 0) + (byteS b ln p)) - 48 := by simp only [rnV, n_29_0, n_17_1, if_true, if_false, Bool.false_eq_true]
            have hFl : rnF b ln p l m = 2 := by rw [rnF, hK, if_neg (by decide), hV, if_pos (Or.inr (Int32.not_le.mp h_88))]
            exact E _ _ _ _ _ _ dX4_readNumber_98 (Nat.le_refl _) (Nat.le_refl _) rfl ⟨congrArg (fun z => some (Value.int z)) (by rw [rnR_eq, rnR0, hFl, if_neg (by decide)]), by rw [rnP_eq, rnFt_eq, rnP0, rnFt0, hFl, if_neg (by decide), if_neg (by decide)]⟩
      · skip
        have n_17_1 : (p + 1) < ln := Nat.lt_of_not_le (fun z => h_17 (nI_le z (by omega)))
        refine r_aload_n (pc := 20) C dX4_readNumber_20 rfl rfl ?_
        refine r_iload (pc := 21) C dX4_readNumber_21 rfl ?_
        refine r_callV0 (pc := 23) (As := [.int (nI (p + 1))]) (st := []) (θ' := wT 0 (tpS b ln p ft)) C (c_X4_byteAt b ln p ft hln hp (p + 1) (by have := hp; omega)) xm_X4_byteAt xk_X4_51 dX4_readNumber_23 rfl rfl rfl rfl (Nat.le_of_ble_eq_true rfl) ⟨Nat.le_of_ble_eq_true rfl, Nat.le_of_ble_eq_true rfl⟩ ⟨rfl, rfl⟩ ⟨Nat.le_of_ble_eq_true rfl, Nat.le_of_ble_eq_true rfl⟩ rfl (Eq.trans (b := 2) rfl rfl) ?_
        show g 0 0 (wT 0 (tpS b ln p ft)) 26 [some (.ref 0), some (.int l), some (.int m), some (.int (((10 * 0) + (byteS b ln p)) - 48)), some (.int 1), some (.int (nI (p + 1)))] [.int (byteS b ln (p + 1))]
        refine r_callS0 (pc := 26) (As := [.int (byteS b ln (p + 1))]) (st := []) C (c_X4_isFigure (byteS b ln (p + 1))) xm_X4_isFigure xk_X4_83 dX4_readNumber_26 (fun _ => rfl) (fun _ => rfl) rfl rfl (Nat.le_of_ble_eq_true rfl) ⟨Nat.le_of_ble_eq_true rfl, Nat.le_of_ble_eq_true rfl⟩ ⟨rfl, rfl⟩ ⟨Nat.le_of_ble_eq_true rfl, Nat.le_of_ble_eq_true rfl⟩ rfl ?_
        show g 0 0 (wT 0 (tpS b ln p ft)) 29 [some (.ref 0), some (.int l), some (.int m), some (.int (((10 * 0) + (byteS b ln p)) - 48)), some (.int 1), some (.int (nI (p + 1)))] [.int (bB (figS (byteS b ln (p + 1))))]
        refine r_if_eq (pc := 29) (tgt := 62) C dX4_readNumber_29 (by decide) (fun h_29 => ?_) (fun h_29 => ?_)
        · replace h_29 := bB_f h_29
          have n_29_1 : fgB b ln ((p + 1)) = false := by unfold fgB; rw [decide_eq_true n_17_1, h_29]; rfl
          refine r_iload (pc := 62) C dX4_readNumber_62 rfl ?_
          refine r_if_eq (pc := 64) (tgt := 73) C dX4_readNumber_64 (by decide) (fun h => absurd h (by decide)) (fun _ => ?_)
          refine r_iload (pc := 67) C dX4_readNumber_67 rfl ?_
          refine r_iconst (pc := 69) (v := 3) C dX4_readNumber_69 (by decide) ?_
          refine r_icmp_ne (pc := 70) (tgt := 81) C dX4_readNumber_70 (by decide) (fun _ => ?_) (fun h => absurd h (by decide))
          refine r_iload_n (pc := 81) C dX4_readNumber_81 rfl rfl ?_
          refine r_iload_n (pc := 82) C dX4_readNumber_82 rfl rfl ?_
          refine r_icmp_lt (pc := 83) (tgt := 91) C dX4_readNumber_83 (by decide) (fun h_83 => ?_) (fun h_83 => ?_)
          · skip
            refine r_aload_n (pc := 91) C dX4_readNumber_91 rfl rfl ?_
            refine r_iconst (pc := 92) (v := 2) C dX4_readNumber_92 (by decide) ?_
            refine r_callV0 (pc := 93) (As := [.int 2]) (st := []) (θ' := wT 0 (tpS b ln p 2)) C (c_X4_refuse b ln p ft 2) xm_X4_refuse xk_X4_58 dX4_readNumber_93 rfl rfl rfl rfl (Nat.le_of_ble_eq_true rfl) ⟨Nat.le_of_ble_eq_true rfl, Nat.le_of_ble_eq_true rfl⟩ ⟨rfl, rfl⟩ ⟨Nat.le_of_ble_eq_true rfl, Nat.le_of_ble_eq_true rfl⟩ rfl (Eq.trans (b := 2) rfl rfl) ?_
            show g 0 0 (wT 0 (tpS b ln p 2)) 96 [some (.ref 0), some (.int l), some (.int m), some (.int (((10 * 0) + (byteS b ln p)) - 48)), some (.int 1), some (.int (nI (p + 1)))] [.int (bB false)]
            refine r_pop (pc := 96) C dX4_readNumber_96 rfl ?_
            refine r_iconst (pc := 97) (v := (-1)) C dX4_readNumber_97 (by decide) ?_
            show g 0 0 (wT 0 (tpS b ln p 2)) 98 [some (.ref 0), some (.int l), some (.int m), some (.int (((10 * 0) + (byteS b ln p)) - 48)), some (.int 1), some (.int (nI (p + 1)))] [.int (-1)]
            have hK : rnK b ln p = 1 := by simp only [rnK, n_29_0, n_29_1, if_true, if_false, Bool.false_eq_true]
            have hV : rnV b ln p = ((10 * 0) + (byteS b ln p)) - 48 := by simp only [rnV, n_29_0, n_29_1, if_true, if_false, Bool.false_eq_true]
            have hFl : rnF b ln p l m = 2 := by rw [rnF, hK, if_neg (by decide), hV, if_pos (Or.inl h_83)]
            exact E _ _ _ _ _ _ dX4_readNumber_98 (Nat.le_refl _) (Nat.le_refl _) rfl ⟨congrArg (fun z => some (Value.int z)) (by rw [rnR_eq, rnR0, hFl, if_neg (by decide)]), by rw [rnP_eq, rnFt_eq, rnP0, rnFt0, hFl, if_neg (by decide), if_neg (by decide)]⟩
          · skip
            refine r_iload_n (pc := 86) C dX4_readNumber_86 rfl rfl ?_
            refine r_iload_n (pc := 87) C dX4_readNumber_87 rfl rfl ?_
            refine r_icmp_le (pc := 88) (tgt := 99) C dX4_readNumber_88 (by decide) (fun h_88 => ?_) (fun h_88 => ?_)
            · skip
              refine r_aload_n (pc := 99) C dX4_readNumber_99 rfl rfl ?_
              refine r_dup (pc := 100) C dX4_readNumber_100 rfl ?_
              refine r_getfield (pc := 101) (v := .int (nI p)) C xf_X4_15 dX4_readNumber_101 rfl rfl ?_
              refine r_iload (pc := 104) C dX4_readNumber_104 rfl ?_
              refine r_iadd (pc := 106) C dX4_readNumber_106 ?_
              show g 0 0 (wT 0 (tpS b ln p ft)) 107 [some (.ref 0), some (.int l), some (.int m), some (.int (((10 * 0) + (byteS b ln p)) - 48)), some (.int 1), some (.int (nI (p + 1)))] [.int ((nI p) + 1), .ref 0]
              rw [show ((nI p) + 1 : Int32) = nI (p + 1) from (nI_sum rfl rfl)]
              refine r_putfield (pc := 107) (θ' := wT 0 (up2 (tpS b ln p ft) 2 (k1 (nI (p + 1))))) C xf_X4_15 xt_X4_2 dX4_readNumber_107 rfl (Nat.le_of_ble_eq_true rfl) (fun _ => ⟨rfl, rfl⟩) rfl ?_
              refine r_iload_n (pc := 110) C dX4_readNumber_110 rfl rfl ?_
              show g 0 0 (wT 0 (up2 (tpS b ln p ft) 2 (k1 (nI (p + 1))))) 111 [some (.ref 0), some (.int l), some (.int m), some (.int (((10 * 0) + (byteS b ln p)) - 48)), some (.int 1), some (.int (nI (p + 1)))] [.int (((10 * 0) + (byteS b ln p)) - 48)]
              have hK : rnK b ln p = 1 := by simp only [rnK, n_29_0, n_29_1, if_true, if_false, Bool.false_eq_true]
              have hV : rnV b ln p = ((10 * 0) + (byteS b ln p)) - 48 := by simp only [rnV, n_29_0, n_29_1, if_true, if_false, Bool.false_eq_true]
              have hFl : rnF b ln p l m = 0 := by rw [rnF, hK, if_neg (by decide), hV, if_neg (by rintro (z | z); exact h_83 z; exact absurd h_88 (Int32.not_le.mpr z))]
              exact E _ _ _ _ _ _ dX4_readNumber_111 (Nat.le_refl _) (Nat.le_refl _) rfl ⟨congrArg (fun z => some (Value.int z)) (by rw [rnR_eq, rnR0, hFl, if_pos rfl, hV]), by rw [rnP_eq, rnFt_eq, rnP0, rnFt0, hFl, if_pos rfl, if_pos rfl, hK] <;> rfl⟩
            · skip
              refine r_aload_n (pc := 91) C dX4_readNumber_91 rfl rfl ?_
              refine r_iconst (pc := 92) (v := 2) C dX4_readNumber_92 (by decide) ?_
              refine r_callV0 (pc := 93) (As := [.int 2]) (st := []) (θ' := wT 0 (tpS b ln p 2)) C (c_X4_refuse b ln p ft 2) xm_X4_refuse xk_X4_58 dX4_readNumber_93 rfl rfl rfl rfl (Nat.le_of_ble_eq_true rfl) ⟨Nat.le_of_ble_eq_true rfl, Nat.le_of_ble_eq_true rfl⟩ ⟨rfl, rfl⟩ ⟨Nat.le_of_ble_eq_true rfl, Nat.le_of_ble_eq_true rfl⟩ rfl (Eq.trans (b := 2) rfl rfl) ?_
              show g 0 0 (wT 0 (tpS b ln p 2)) 96 [some (.ref 0), some (.int l), some (.int m), some (.int (((10 * 0) + (byteS b ln p)) - 48)), some (.int 1), some (.int (nI (p + 1)))] [.int (bB false)]
              refine r_pop (pc := 96) C dX4_readNumber_96 rfl ?_
              refine r_iconst (pc := 97) (v := (-1)) C dX4_readNumber_97 (by decide) ?_
              show g 0 0 (wT 0 (tpS b ln p 2)) 98 [some (.ref 0), some (.int l), some (.int m), some (.int (((10 * 0) + (byteS b ln p)) - 48)), some (.int 1), some (.int (nI (p + 1)))] [.int (-1)]
              have hK : rnK b ln p = 1 := by simp only [rnK, n_29_0, n_29_1, if_true, if_false, Bool.false_eq_true]
              have hV : rnV b ln p = ((10 * 0) + (byteS b ln p)) - 48 := by simp only [rnV, n_29_0, n_29_1, if_true, if_false, Bool.false_eq_true]
              have hFl : rnF b ln p l m = 2 := by rw [rnF, hK, if_neg (by decide), hV, if_pos (Or.inr (Int32.not_le.mp h_88))]
              exact E _ _ _ _ _ _ dX4_readNumber_98 (Nat.le_refl _) (Nat.le_refl _) rfl ⟨congrArg (fun z => some (Value.int z)) (by rw [rnR_eq, rnR0, hFl, if_neg (by decide)]), by rw [rnP_eq, rnFt_eq, rnP0, rnFt0, hFl, if_neg (by decide), if_neg (by decide)]⟩
        · replace h_29 := bB_t h_29
          have n_29_1 : fgB b ln ((p + 1)) = true := by unfold fgB; rw [decide_eq_true n_17_1, h_29]; rfl
          refine r_iload (pc := 32) C dX4_readNumber_32 rfl ?_
          refine r_iconst (pc := 34) (v := 3) C dX4_readNumber_34 (by decide) ?_
          refine r_icmp_ge (pc := 35) (tgt := 62) C dX4_readNumber_35 (by decide) (fun h => absurd h (by decide)) (fun _ => ?_)
          refine r_bipush (pc := 38) (v := 10) C dX4_readNumber_38 (by decide) ?_
          refine r_iload_n (pc := 40) C dX4_readNumber_40 rfl rfl ?_
          refine r_imul (pc := 41) C dX4_readNumber_41 ?_
          refine r_aload_n (pc := 42) C dX4_readNumber_42 rfl rfl ?_
          refine r_iload (pc := 43) C dX4_readNumber_43 rfl ?_
          refine r_callV0 (pc := 45) (As := [.int (nI (p + 1))]) (st := [.int (10 * (((10 * 0) + (byteS b ln p)) - 48))]) (θ' := wT 0 (tpS b ln p ft)) C (c_X4_byteAt b ln p ft hln hp (p + 1) (by have := hp; omega)) xm_X4_byteAt xk_X4_51 dX4_readNumber_45 rfl rfl rfl rfl (Nat.le_of_ble_eq_true rfl) ⟨Nat.le_of_ble_eq_true rfl, Nat.le_of_ble_eq_true rfl⟩ ⟨rfl, rfl⟩ ⟨Nat.le_of_ble_eq_true rfl, Nat.le_of_ble_eq_true rfl⟩ rfl (Eq.trans (b := 2) rfl rfl) ?_
          show g 0 0 (wT 0 (tpS b ln p ft)) 48 [some (.ref 0), some (.int l), some (.int m), some (.int (((10 * 0) + (byteS b ln p)) - 48)), some (.int 1), some (.int (nI (p + 1)))] [.int (byteS b ln (p + 1)), .int (10 * (((10 * 0) + (byteS b ln p)) - 48))]
          refine r_iadd (pc := 48) C dX4_readNumber_48 ?_
          refine r_bipush (pc := 49) (v := 48) C dX4_readNumber_49 (by decide) ?_
          refine r_isub (pc := 51) C dX4_readNumber_51 ?_
          refine r_istore_n (pc := 52) (lv' := [some (.ref 0), some (.int l), some (.int m), some (.int (((10 * (((10 * 0) + (byteS b ln p)) - 48)) + (byteS b ln (p + 1))) - 48)), some (.int 1), some (.int (nI (p + 1)))]) C dX4_readNumber_52 rfl (Nat.le_of_ble_eq_true rfl) trivial rfl ?_
          refine r_iinc (pc := 53) (v := 2) (lv' := [some (.ref 0), some (.int l), some (.int m), some (.int (((10 * (((10 * 0) + (byteS b ln p)) - 48)) + (byteS b ln (p + 1))) - 48)), some (.int 2), some (.int (nI (p + 1)))]) C dX4_readNumber_53 rfl (by decide) trivial rfl ?_
          refine r_iinc (pc := 56) (v := nI ((p + 1) + 1)) (lv' := [some (.ref 0), some (.int l), some (.int m), some (.int (((10 * (((10 * 0) + (byteS b ln p)) - 48)) + (byteS b ln (p + 1))) - 48)), some (.int 2), some (.int (nI ((p + 1) + 1)))]) C dX4_readNumber_56 rfl (nI_1 (p + 1)) trivial rfl ?_
          refine r_goto (pc := 59) (tgt := 11) C dX4_readNumber_59 (by decide) ?_
          refine r_iload (pc := 11) C dX4_readNumber_11 rfl ?_
          refine r_aload_n (pc := 13) C dX4_readNumber_13 rfl rfl ?_
          refine r_getfield (pc := 14) (v := .int (nI ln)) C xf_X4_28 dX4_readNumber_14 rfl rfl ?_
          refine r_icmp_ge (pc := 17) (tgt := 62) C dX4_readNumber_17 (by decide) (fun h_17 => ?_) (fun h_17 => ?_)
          · skip
            have n_17_2 : fgB b ln (((p + 1) + 1)) = false := by unfold fgB; rw [decide_eq_false (by intro z; exact absurd h_17 (nI_ge (by omega) (by omega)))]; rfl
            refine r_iload (pc := 62) C dX4_readNumber_62 rfl ?_
            refine r_if_eq (pc := 64) (tgt := 73) C dX4_readNumber_64 (by decide) (fun h => absurd h (by decide)) (fun _ => ?_)
            refine r_iload (pc := 67) C dX4_readNumber_67 rfl ?_
            refine r_iconst (pc := 69) (v := 3) C dX4_readNumber_69 (by decide) ?_
            refine r_icmp_ne (pc := 70) (tgt := 81) C dX4_readNumber_70 (by decide) (fun _ => ?_) (fun h => absurd h (by decide))
            refine r_iload_n (pc := 81) C dX4_readNumber_81 rfl rfl ?_
            refine r_iload_n (pc := 82) C dX4_readNumber_82 rfl rfl ?_
            refine r_icmp_lt (pc := 83) (tgt := 91) C dX4_readNumber_83 (by decide) (fun h_83 => ?_) (fun h_83 => ?_)
            · skip
              refine r_aload_n (pc := 91) C dX4_readNumber_91 rfl rfl ?_
              refine r_iconst (pc := 92) (v := 2) C dX4_readNumber_92 (by decide) ?_
              refine r_callV0 (pc := 93) (As := [.int 2]) (st := []) (θ' := wT 0 (tpS b ln p 2)) C (c_X4_refuse b ln p ft 2) xm_X4_refuse xk_X4_58 dX4_readNumber_93 rfl rfl rfl rfl (Nat.le_of_ble_eq_true rfl) ⟨Nat.le_of_ble_eq_true rfl, Nat.le_of_ble_eq_true rfl⟩ ⟨rfl, rfl⟩ ⟨Nat.le_of_ble_eq_true rfl, Nat.le_of_ble_eq_true rfl⟩ rfl (Eq.trans (b := 2) rfl rfl) ?_
              show g 0 0 (wT 0 (tpS b ln p 2)) 96 [some (.ref 0), some (.int l), some (.int m), some (.int (((10 * (((10 * 0) + (byteS b ln p)) - 48)) + (byteS b ln (p + 1))) - 48)), some (.int 2), some (.int (nI ((p + 1) + 1)))] [.int (bB false)]
              refine r_pop (pc := 96) C dX4_readNumber_96 rfl ?_
              refine r_iconst (pc := 97) (v := (-1)) C dX4_readNumber_97 (by decide) ?_
              show g 0 0 (wT 0 (tpS b ln p 2)) 98 [some (.ref 0), some (.int l), some (.int m), some (.int (((10 * (((10 * 0) + (byteS b ln p)) - 48)) + (byteS b ln (p + 1))) - 48)), some (.int 2), some (.int (nI ((p + 1) + 1)))] [.int (-1)]
              have hK : rnK b ln p = 2 := by simp only [rnK, n_29_0, n_29_1, n_17_2, if_true, if_false, Bool.false_eq_true]
              have hV : rnV b ln p = ((10 * (((10 * 0) + (byteS b ln p)) - 48)) + (byteS b ln (p + 1))) - 48 := by simp only [rnV, n_29_0, n_29_1, n_17_2, if_true, if_false, Bool.false_eq_true]
              have hFl : rnF b ln p l m = 2 := by rw [rnF, hK, if_neg (by decide), hV, if_pos (Or.inl h_83)]
              exact E _ _ _ _ _ _ dX4_readNumber_98 (Nat.le_refl _) (Nat.le_refl _) rfl ⟨congrArg (fun z => some (Value.int z)) (by rw [rnR_eq, rnR0, hFl, if_neg (by decide)]), by rw [rnP_eq, rnFt_eq, rnP0, rnFt0, hFl, if_neg (by decide), if_neg (by decide)]⟩
            · skip
              refine r_iload_n (pc := 86) C dX4_readNumber_86 rfl rfl ?_
              refine r_iload_n (pc := 87) C dX4_readNumber_87 rfl rfl ?_
              refine r_icmp_le (pc := 88) (tgt := 99) C dX4_readNumber_88 (by decide) (fun h_88 => ?_) (fun h_88 => ?_)
              · skip
                refine r_aload_n (pc := 99) C dX4_readNumber_99 rfl rfl ?_
                refine r_dup (pc := 100) C dX4_readNumber_100 rfl ?_
                refine r_getfield (pc := 101) (v := .int (nI p)) C xf_X4_15 dX4_readNumber_101 rfl rfl ?_
                refine r_iload (pc := 104) C dX4_readNumber_104 rfl ?_
                refine r_iadd (pc := 106) C dX4_readNumber_106 ?_
                show g 0 0 (wT 0 (tpS b ln p ft)) 107 [some (.ref 0), some (.int l), some (.int m), some (.int (((10 * (((10 * 0) + (byteS b ln p)) - 48)) + (byteS b ln (p + 1))) - 48)), some (.int 2), some (.int (nI ((p + 1) + 1)))] [.int ((nI p) + 2), .ref 0]
                rw [show ((nI p) + 2 : Int32) = nI (p + 2) from (nI_sum rfl rfl)]
                refine r_putfield (pc := 107) (θ' := wT 0 (up2 (tpS b ln p ft) 2 (k1 (nI (p + 2))))) C xf_X4_15 xt_X4_2 dX4_readNumber_107 rfl (Nat.le_of_ble_eq_true rfl) (fun _ => ⟨rfl, rfl⟩) rfl ?_
                refine r_iload_n (pc := 110) C dX4_readNumber_110 rfl rfl ?_
                show g 0 0 (wT 0 (up2 (tpS b ln p ft) 2 (k1 (nI (p + 2))))) 111 [some (.ref 0), some (.int l), some (.int m), some (.int (((10 * (((10 * 0) + (byteS b ln p)) - 48)) + (byteS b ln (p + 1))) - 48)), some (.int 2), some (.int (nI ((p + 1) + 1)))] [.int (((10 * (((10 * 0) + (byteS b ln p)) - 48)) + (byteS b ln (p + 1))) - 48)]
                have hK : rnK b ln p = 2 := by simp only [rnK, n_29_0, n_29_1, n_17_2, if_true, if_false, Bool.false_eq_true]
                have hV : rnV b ln p = ((10 * (((10 * 0) + (byteS b ln p)) - 48)) + (byteS b ln (p + 1))) - 48 := by simp only [rnV, n_29_0, n_29_1, n_17_2, if_true, if_false, Bool.false_eq_true]
                have hFl : rnF b ln p l m = 0 := by rw [rnF, hK, if_neg (by decide), hV, if_neg (by rintro (z | z); exact h_83 z; exact absurd h_88 (Int32.not_le.mpr z))]
                exact E _ _ _ _ _ _ dX4_readNumber_111 (Nat.le_refl _) (Nat.le_refl _) rfl ⟨congrArg (fun z => some (Value.int z)) (by rw [rnR_eq, rnR0, hFl, if_pos rfl, hV]), by rw [rnP_eq, rnFt_eq, rnP0, rnFt0, hFl, if_pos rfl, if_pos rfl, hK] <;> rfl⟩
              · skip
                refine r_aload_n (pc := 91) C dX4_readNumber_91 rfl rfl ?_
                refine r_iconst (pc := 92) (v := 2) C dX4_readNumber_92 (by decide) ?_
                refine r_callV0 (pc := 93) (As := [.int 2]) (st := []) (θ' := wT 0 (tpS b ln p 2)) C (c_X4_refuse b ln p ft 2) xm_X4_refuse xk_X4_58 dX4_readNumber_93 rfl rfl rfl rfl (Nat.le_of_ble_eq_true rfl) ⟨Nat.le_of_ble_eq_true rfl, Nat.le_of_ble_eq_true rfl⟩ ⟨rfl, rfl⟩ ⟨Nat.le_of_ble_eq_true rfl, Nat.le_of_ble_eq_true rfl⟩ rfl (Eq.trans (b := 2) rfl rfl) ?_
                show g 0 0 (wT 0 (tpS b ln p 2)) 96 [some (.ref 0), some (.int l), some (.int m), some (.int (((10 * (((10 * 0) + (byteS b ln p)) - 48)) + (byteS b ln (p + 1))) - 48)), some (.int 2), some (.int (nI ((p + 1) + 1)))] [.int (bB false)]
                refine r_pop (pc := 96) C dX4_readNumber_96 rfl ?_
                refine r_iconst (pc := 97) (v := (-1)) C dX4_readNumber_97 (by decide) ?_
                show g 0 0 (wT 0 (tpS b ln p 2)) 98 [some (.ref 0), some (.int l), some (.int m), some (.int (((10 * (((10 * 0) + (byteS b ln p)) - 48)) + (byteS b ln (p + 1))) - 48)), some (.int 2), some (.int (nI ((p + 1) + 1)))] [.int (-1)]
                have hK : rnK b ln p = 2 := by simp only [rnK, n_29_0, n_29_1, n_17_2, if_true, if_false, Bool.false_eq_true]
                have hV : rnV b ln p = ((10 * (((10 * 0) + (byteS b ln p)) - 48)) + (byteS b ln (p + 1))) - 48 := by simp only [rnV, n_29_0, n_29_1, n_17_2, if_true, if_false, Bool.false_eq_true]
                have hFl : rnF b ln p l m = 2 := by rw [rnF, hK, if_neg (by decide), hV, if_pos (Or.inr (Int32.not_le.mp h_88))]
                exact E _ _ _ _ _ _ dX4_readNumber_98 (Nat.le_refl _) (Nat.le_refl _) rfl ⟨congrArg (fun z => some (Value.int z)) (by rw [rnR_eq, rnR0, hFl, if_neg (by decide)]), by rw [rnP_eq, rnFt_eq, rnP0, rnFt0, hFl, if_neg (by decide), if_neg (by decide)]⟩
          · skip
            have n_17_2 : ((p + 1) + 1) < ln := Nat.lt_of_not_le (fun z => h_17 (nI_le z (by omega)))
            refine r_aload_n (pc := 20) C dX4_readNumber_20 rfl rfl ?_
            refine r_iload (pc := 21) C dX4_readNumber_21 rfl ?_
            refine r_callV0 (pc := 23) (As := [.int (nI ((p + 1) + 1))]) (st := []) (θ' := wT 0 (tpS b ln p ft)) C (c_X4_byteAt b ln p ft hln hp ((p + 1) + 1) (by have := hp; omega)) xm_X4_byteAt xk_X4_51 dX4_readNumber_23 rfl rfl rfl rfl (Nat.le_of_ble_eq_true rfl) ⟨Nat.le_of_ble_eq_true rfl, Nat.le_of_ble_eq_true rfl⟩ ⟨rfl, rfl⟩ ⟨Nat.le_of_ble_eq_true rfl, Nat.le_of_ble_eq_true rfl⟩ rfl (Eq.trans (b := 2) rfl rfl) ?_
            show g 0 0 (wT 0 (tpS b ln p ft)) 26 [some (.ref 0), some (.int l), some (.int m), some (.int (((10 * (((10 * 0) + (byteS b ln p)) - 48)) + (byteS b ln (p + 1))) - 48)), some (.int 2), some (.int (nI ((p + 1) + 1)))] [.int (byteS b ln ((p + 1) + 1))]
            refine r_callS0 (pc := 26) (As := [.int (byteS b ln ((p + 1) + 1))]) (st := []) C (c_X4_isFigure (byteS b ln ((p + 1) + 1))) xm_X4_isFigure xk_X4_83 dX4_readNumber_26 (fun _ => rfl) (fun _ => rfl) rfl rfl (Nat.le_of_ble_eq_true rfl) ⟨Nat.le_of_ble_eq_true rfl, Nat.le_of_ble_eq_true rfl⟩ ⟨rfl, rfl⟩ ⟨Nat.le_of_ble_eq_true rfl, Nat.le_of_ble_eq_true rfl⟩ rfl ?_
            show g 0 0 (wT 0 (tpS b ln p ft)) 29 [some (.ref 0), some (.int l), some (.int m), some (.int (((10 * (((10 * 0) + (byteS b ln p)) - 48)) + (byteS b ln (p + 1))) - 48)), some (.int 2), some (.int (nI ((p + 1) + 1)))] [.int (bB (figS (byteS b ln ((p + 1) + 1))))]
            refine r_if_eq (pc := 29) (tgt := 62) C dX4_readNumber_29 (by decide) (fun h_29 => ?_) (fun h_29 => ?_)
            · replace h_29 := bB_f h_29
              have n_29_2 : fgB b ln (((p + 1) + 1)) = false := by unfold fgB; rw [decide_eq_true n_17_2, h_29]; rfl
              refine r_iload (pc := 62) C dX4_readNumber_62 rfl ?_
              refine r_if_eq (pc := 64) (tgt := 73) C dX4_readNumber_64 (by decide) (fun h => absurd h (by decide)) (fun _ => ?_)
              refine r_iload (pc := 67) C dX4_readNumber_67 rfl ?_
              refine r_iconst (pc := 69) (v := 3) C dX4_readNumber_69 (by decide) ?_
              refine r_icmp_ne (pc := 70) (tgt := 81) C dX4_readNumber_70 (by decide) (fun _ => ?_) (fun h => absurd h (by decide))
              refine r_iload_n (pc := 81) C dX4_readNumber_81 rfl rfl ?_
              refine r_iload_n (pc := 82) C dX4_readNumber_82 rfl rfl ?_
              refine r_icmp_lt (pc := 83) (tgt := 91) C dX4_readNumber_83 (by decide) (fun h_83 => ?_) (fun h_83 => ?_)
              · skip
                refine r_aload_n (pc := 91) C dX4_readNumber_91 rfl rfl ?_
                refine r_iconst (pc := 92) (v := 2) C dX4_readNumber_92 (by decide) ?_
                refine r_callV0 (pc := 93) (As := [.int 2]) (st := []) (θ' := wT 0 (tpS b ln p 2)) C (c_X4_refuse b ln p ft 2) xm_X4_refuse xk_X4_58 dX4_readNumber_93 rfl rfl rfl rfl (Nat.le_of_ble_eq_true rfl) ⟨Nat.le_of_ble_eq_true rfl, Nat.le_of_ble_eq_true rfl⟩ ⟨rfl, rfl⟩ ⟨Nat.le_of_ble_eq_true rfl, Nat.le_of_ble_eq_true rfl⟩ rfl (Eq.trans (b := 2) rfl rfl) ?_
                show g 0 0 (wT 0 (tpS b ln p 2)) 96 [some (.ref 0), some (.int l), some (.int m), some (.int (((10 * (((10 * 0) + (byteS b ln p)) - 48)) + (byteS b ln (p + 1))) - 48)), some (.int 2), some (.int (nI ((p + 1) + 1)))] [.int (bB false)]
                refine r_pop (pc := 96) C dX4_readNumber_96 rfl ?_
                refine r_iconst (pc := 97) (v := (-1)) C dX4_readNumber_97 (by decide) ?_
                show g 0 0 (wT 0 (tpS b ln p 2)) 98 [some (.ref 0), some (.int l), some (.int m), some (.int (((10 * (((10 * 0) + (byteS b ln p)) - 48)) + (byteS b ln (p + 1))) - 48)), some (.int 2), some (.int (nI ((p + 1) + 1)))] [.int (-1)]
                have hK : rnK b ln p = 2 := by simp only [rnK, n_29_0, n_29_1, n_29_2, if_true, if_false, Bool.false_eq_true]
                have hV : rnV b ln p = ((10 * (((10 * 0) + (byteS b ln p)) - 48)) + (byteS b ln (p + 1))) - 48 := by simp only [rnV, n_29_0, n_29_1, n_29_2, if_true, if_false, Bool.false_eq_true]
                have hFl : rnF b ln p l m = 2 := by rw [rnF, hK, if_neg (by decide), hV, if_pos (Or.inl h_83)]
                exact E _ _ _ _ _ _ dX4_readNumber_98 (Nat.le_refl _) (Nat.le_refl _) rfl ⟨congrArg (fun z => some (Value.int z)) (by rw [rnR_eq, rnR0, hFl, if_neg (by decide)]), by rw [rnP_eq, rnFt_eq, rnP0, rnFt0, hFl, if_neg (by decide), if_neg (by decide)]⟩
              · skip
                refine r_iload_n (pc := 86) C dX4_readNumber_86 rfl rfl ?_
                refine r_iload_n (pc := 87) C dX4_readNumber_87 rfl rfl ?_
                refine r_icmp_le (pc := 88) (tgt := 99) C dX4_readNumber_88 (by decide) (fun h_88 => ?_) (fun h_88 => ?_)
                · skip
                  refine r_aload_n (pc := 99) C dX4_readNumber_99 rfl rfl ?_
                  refine r_dup (pc := 100) C dX4_readNumber_100 rfl ?_
                  refine r_getfield (pc := 101) (v := .int (nI p)) C xf_X4_15 dX4_readNumber_101 rfl rfl ?_
                  refine r_iload (pc := 104) C dX4_readNumber_104 rfl ?_
                  refine r_iadd (pc := 106) C dX4_readNumber_106 ?_
                  show g 0 0 (wT 0 (tpS b ln p ft)) 107 [some (.ref 0), some (.int l), some (.int m), some (.int (((10 * (((10 * 0) + (byteS b ln p)) - 48)) + (byteS b ln (p + 1))) - 48)), some (.int 2), some (.int (nI ((p + 1) + 1)))] [.int ((nI p) + 2), .ref 0]
                  rw [show ((nI p) + 2 : Int32) = nI (p + 2) from (nI_sum rfl rfl)]
                  refine r_putfield (pc := 107) (θ' := wT 0 (up2 (tpS b ln p ft) 2 (k1 (nI (p + 2))))) C xf_X4_15 xt_X4_2 dX4_readNumber_107 rfl (Nat.le_of_ble_eq_true rfl) (fun _ => ⟨rfl, rfl⟩) rfl ?_
                  refine r_iload_n (pc := 110) C dX4_readNumber_110 rfl rfl ?_
                  show g 0 0 (wT 0 (up2 (tpS b ln p ft) 2 (k1 (nI (p + 2))))) 111 [some (.ref 0), some (.int l), some (.int m), some (.int (((10 * (((10 * 0) + (byteS b ln p)) - 48)) + (byteS b ln (p + 1))) - 48)), some (.int 2), some (.int (nI ((p + 1) + 1)))] [.int (((10 * (((10 * 0) + (byteS b ln p)) - 48)) + (byteS b ln (p + 1))) - 48)]
                  have hK : rnK b ln p = 2 := by simp only [rnK, n_29_0, n_29_1, n_29_2, if_true, if_false, Bool.false_eq_true]
                  have hV : rnV b ln p = ((10 * (((10 * 0) + (byteS b ln p)) - 48)) + (byteS b ln (p + 1))) - 48 := by simp only [rnV, n_29_0, n_29_1, n_29_2, if_true, if_false, Bool.false_eq_true]
                  have hFl : rnF b ln p l m = 0 := by rw [rnF, hK, if_neg (by decide), hV, if_neg (by rintro (z | z); exact h_83 z; exact absurd h_88 (Int32.not_le.mpr z))]
                  exact E _ _ _ _ _ _ dX4_readNumber_111 (Nat.le_refl _) (Nat.le_refl _) rfl ⟨congrArg (fun z => some (Value.int z)) (by rw [rnR_eq, rnR0, hFl, if_pos rfl, hV]), by rw [rnP_eq, rnFt_eq, rnP0, rnFt0, hFl, if_pos rfl, if_pos rfl, hK] <;> rfl⟩
                · skip
                  refine r_aload_n (pc := 91) C dX4_readNumber_91 rfl rfl ?_
                  refine r_iconst (pc := 92) (v := 2) C dX4_readNumber_92 (by decide) ?_
                  refine r_callV0 (pc := 93) (As := [.int 2]) (st := []) (θ' := wT 0 (tpS b ln p 2)) C (c_X4_refuse b ln p ft 2) xm_X4_refuse xk_X4_58 dX4_readNumber_93 rfl rfl rfl rfl (Nat.le_of_ble_eq_true rfl) ⟨Nat.le_of_ble_eq_true rfl, Nat.le_of_ble_eq_true rfl⟩ ⟨rfl, rfl⟩ ⟨Nat.le_of_ble_eq_true rfl, Nat.le_of_ble_eq_true rfl⟩ rfl (Eq.trans (b := 2) rfl rfl) ?_
                  show g 0 0 (wT 0 (tpS b ln p 2)) 96 [some (.ref 0), some (.int l), some (.int m), some (.int (((10 * (((10 * 0) + (byteS b ln p)) - 48)) + (byteS b ln (p + 1))) - 48)), some (.int 2), some (.int (nI ((p + 1) + 1)))] [.int (bB false)]
                  refine r_pop (pc := 96) C dX4_readNumber_96 rfl ?_
                  refine r_iconst (pc := 97) (v := (-1)) C dX4_readNumber_97 (by decide) ?_
                  show g 0 0 (wT 0 (tpS b ln p 2)) 98 [some (.ref 0), some (.int l), some (.int m), some (.int (((10 * (((10 * 0) + (byteS b ln p)) - 48)) + (byteS b ln (p + 1))) - 48)), some (.int 2), some (.int (nI ((p + 1) + 1)))] [.int (-1)]
                  have hK : rnK b ln p = 2 := by simp only [rnK, n_29_0, n_29_1, n_29_2, if_true, if_false, Bool.false_eq_true]
                  have hV : rnV b ln p = ((10 * (((10 * 0) + (byteS b ln p)) - 48)) + (byteS b ln (p + 1))) - 48 := by simp only [rnV, n_29_0, n_29_1, n_29_2, if_true, if_false, Bool.false_eq_true]
                  have hFl : rnF b ln p l m = 2 := by rw [rnF, hK, if_neg (by decide), hV, if_pos (Or.inr (Int32.not_le.mp h_88))]
                  exact E _ _ _ _ _ _ dX4_readNumber_98 (Nat.le_refl _) (Nat.le_refl _) rfl ⟨congrArg (fun z => some (Value.int z)) (by rw [rnR_eq, rnR0, hFl, if_neg (by decide)]), by rw [rnP_eq, rnFt_eq, rnP0, rnFt0, hFl, if_neg (by decide), if_neg (by decide)]⟩
            · replace h_29 := bB_t h_29
              have n_29_2 : fgB b ln (((p + 1) + 1)) = true := by unfold fgB; rw [decide_eq_true n_17_2, h_29]; rfl
              refine r_iload (pc := 32) C dX4_readNumber_32 rfl ?_
              refine r_iconst (pc := 34) (v := 3) C dX4_readNumber_34 (by decide) ?_
              refine r_icmp_ge (pc := 35) (tgt := 62) C dX4_readNumber_35 (by decide) (fun h => absurd h (by decide)) (fun _ => ?_)
              refine r_bipush (pc := 38) (v := 10) C dX4_readNumber_38 (by decide) ?_
              refine r_iload_n (pc := 40) C dX4_readNumber_40 rfl rfl ?_
              refine r_imul (pc := 41) C dX4_readNumber_41 ?_
              refine r_aload_n (pc := 42) C dX4_readNumber_42 rfl rfl ?_
              refine r_iload (pc := 43) C dX4_readNumber_43 rfl ?_
              refine r_callV0 (pc := 45) (As := [.int (nI ((p + 1) + 1))]) (st := [.int (10 * (((10 * (((10 * 0) + (byteS b ln p)) - 48)) + (byteS b ln (p + 1))) - 48))]) (θ' := wT 0 (tpS b ln p ft)) C (c_X4_byteAt b ln p ft hln hp ((p + 1) + 1) (by have := hp; omega)) xm_X4_byteAt xk_X4_51 dX4_readNumber_45 rfl rfl rfl rfl (Nat.le_of_ble_eq_true rfl) ⟨Nat.le_of_ble_eq_true rfl, Nat.le_of_ble_eq_true rfl⟩ ⟨rfl, rfl⟩ ⟨Nat.le_of_ble_eq_true rfl, Nat.le_of_ble_eq_true rfl⟩ rfl (Eq.trans (b := 2) rfl rfl) ?_
              show g 0 0 (wT 0 (tpS b ln p ft)) 48 [some (.ref 0), some (.int l), some (.int m), some (.int (((10 * (((10 * 0) + (byteS b ln p)) - 48)) + (byteS b ln (p + 1))) - 48)), some (.int 2), some (.int (nI ((p + 1) + 1)))] [.int (byteS b ln ((p + 1) + 1)), .int (10 * (((10 * (((10 * 0) + (byteS b ln p)) - 48)) + (byteS b ln (p + 1))) - 48))]
              refine r_iadd (pc := 48) C dX4_readNumber_48 ?_
              refine r_bipush (pc := 49) (v := 48) C dX4_readNumber_49 (by decide) ?_
              refine r_isub (pc := 51) C dX4_readNumber_51 ?_
              refine r_istore_n (pc := 52) (lv' := [some (.ref 0), some (.int l), some (.int m), some (.int (((10 * (((10 * (((10 * 0) + (byteS b ln p)) - 48)) + (byteS b ln (p + 1))) - 48)) + (byteS b ln ((p + 1) + 1))) - 48)), some (.int 2), some (.int (nI ((p + 1) + 1)))]) C dX4_readNumber_52 rfl (Nat.le_of_ble_eq_true rfl) trivial rfl ?_
              refine r_iinc (pc := 53) (v := 3) (lv' := [some (.ref 0), some (.int l), some (.int m), some (.int (((10 * (((10 * (((10 * 0) + (byteS b ln p)) - 48)) + (byteS b ln (p + 1))) - 48)) + (byteS b ln ((p + 1) + 1))) - 48)), some (.int 3), some (.int (nI ((p + 1) + 1)))]) C dX4_readNumber_53 rfl (by decide) trivial rfl ?_
              refine r_iinc (pc := 56) (v := nI (((p + 1) + 1) + 1)) (lv' := [some (.ref 0), some (.int l), some (.int m), some (.int (((10 * (((10 * (((10 * 0) + (byteS b ln p)) - 48)) + (byteS b ln (p + 1))) - 48)) + (byteS b ln ((p + 1) + 1))) - 48)), some (.int 3), some (.int (nI (((p + 1) + 1) + 1)))]) C dX4_readNumber_56 rfl (nI_1 ((p + 1) + 1)) trivial rfl ?_
              refine r_goto (pc := 59) (tgt := 11) C dX4_readNumber_59 (by decide) ?_
              refine r_iload (pc := 11) C dX4_readNumber_11 rfl ?_
              refine r_aload_n (pc := 13) C dX4_readNumber_13 rfl rfl ?_
              refine r_getfield (pc := 14) (v := .int (nI ln)) C xf_X4_28 dX4_readNumber_14 rfl rfl ?_
              refine r_icmp_ge (pc := 17) (tgt := 62) C dX4_readNumber_17 (by decide) (fun h_17 => ?_) (fun h_17 => ?_)
              · skip
                have n_17_3 : fgB b ln ((((p + 1) + 1) + 1)) = false := by unfold fgB; rw [decide_eq_false (by intro z; exact absurd h_17 (nI_ge (by omega) (by omega)))]; rfl
                refine r_iload (pc := 62) C dX4_readNumber_62 rfl ?_
                refine r_if_eq (pc := 64) (tgt := 73) C dX4_readNumber_64 (by decide) (fun h => absurd h (by decide)) (fun _ => ?_)
                refine r_iload (pc := 67) C dX4_readNumber_67 rfl ?_
                refine r_iconst (pc := 69) (v := 3) C dX4_readNumber_69 (by decide) ?_
                refine r_icmp_ne (pc := 70) (tgt := 81) C dX4_readNumber_70 (by decide) (fun h => absurd (by decide) h) (fun _ => ?_)
                refine r_aload_n (pc := 73) C dX4_readNumber_73 rfl rfl ?_
                refine r_iconst (pc := 74) (v := 1) C dX4_readNumber_74 (by decide) ?_
                refine r_callV0 (pc := 75) (As := [.int 1]) (st := []) (θ' := wT 0 (tpS b ln p 1)) C (c_X4_refuse b ln p ft 1) xm_X4_refuse xk_X4_58 dX4_readNumber_75 rfl rfl rfl rfl (Nat.le_of_ble_eq_true rfl) ⟨Nat.le_of_ble_eq_true rfl, Nat.le_of_ble_eq_true rfl⟩ ⟨rfl, rfl⟩ ⟨Nat.le_of_ble_eq_true rfl, Nat.le_of_ble_eq_true rfl⟩ rfl (Eq.trans (b := 2) rfl rfl) ?_
                show g 0 0 (wT 0 (tpS b ln p 1)) 78 [some (.ref 0), some (.int l), some (.int m), some (.int (((10 * (((10 * (((10 * 0) + (byteS b ln p)) - 48)) + (byteS b ln (p + 1))) - 48)) + (byteS b ln ((p + 1) + 1))) - 48)), some (.int 3), some (.int (nI (((p + 1) + 1) + 1)))] [.int (bB false)]
                refine r_pop (pc := 78) C dX4_readNumber_78 rfl ?_
                refine r_iconst (pc := 79) (v := (-1)) C dX4_readNumber_79 (by decide) ?_
                show g 0 0 (wT 0 (tpS b ln p 1)) 80 [some (.ref 0), some (.int l), some (.int m), some (.int (((10 * (((10 * (((10 * 0) + (byteS b ln p)) - 48)) + (byteS b ln (p + 1))) - 48)) + (byteS b ln ((p + 1) + 1))) - 48)), some (.int 3), some (.int (nI (((p + 1) + 1) + 1)))] [.int (-1)]
                have hK : rnK b ln p = 3 := by simp only [rnK, n_29_0, n_29_1, n_29_2, n_17_3, if_true, if_false, Bool.false_eq_true]
                have hFl : rnF b ln p l m = 1 := by rw [rnF, hK, if_pos (by decide)]
                exact E _ _ _ _ _ _ dX4_readNumber_80 (Nat.le_refl _) (Nat.le_refl _) rfl ⟨congrArg (fun z => some (Value.int z)) (by rw [rnR_eq, rnR0, hFl, if_neg (by decide)]), by rw [rnP_eq, rnFt_eq, rnP0, rnFt0, hFl, if_neg (by decide), if_neg (by decide)]⟩
              · skip
                have n_17_3 : (((p + 1) + 1) + 1) < ln := Nat.lt_of_not_le (fun z => h_17 (nI_le z (by omega)))
                refine r_aload_n (pc := 20) C dX4_readNumber_20 rfl rfl ?_
                refine r_iload (pc := 21) C dX4_readNumber_21 rfl ?_
                refine r_callV0 (pc := 23) (As := [.int (nI (((p + 1) + 1) + 1))]) (st := []) (θ' := wT 0 (tpS b ln p ft)) C (c_X4_byteAt b ln p ft hln hp (((p + 1) + 1) + 1) (by have := hp; omega)) xm_X4_byteAt xk_X4_51 dX4_readNumber_23 rfl rfl rfl rfl (Nat.le_of_ble_eq_true rfl) ⟨Nat.le_of_ble_eq_true rfl, Nat.le_of_ble_eq_true rfl⟩ ⟨rfl, rfl⟩ ⟨Nat.le_of_ble_eq_true rfl, Nat.le_of_ble_eq_true rfl⟩ rfl (Eq.trans (b := 2) rfl rfl) ?_
                show g 0 0 (wT 0 (tpS b ln p ft)) 26 [some (.ref 0), some (.int l), some (.int m), some (.int (((10 * (((10 * (((10 * 0) + (byteS b ln p)) - 48)) + (byteS b ln (p + 1))) - 48)) + (byteS b ln ((p + 1) + 1))) - 48)), some (.int 3), some (.int (nI (((p + 1) + 1) + 1)))] [.int (byteS b ln (((p + 1) + 1) + 1))]
                refine r_callS0 (pc := 26) (As := [.int (byteS b ln (((p + 1) + 1) + 1))]) (st := []) C (c_X4_isFigure (byteS b ln (((p + 1) + 1) + 1))) xm_X4_isFigure xk_X4_83 dX4_readNumber_26 (fun _ => rfl) (fun _ => rfl) rfl rfl (Nat.le_of_ble_eq_true rfl) ⟨Nat.le_of_ble_eq_true rfl, Nat.le_of_ble_eq_true rfl⟩ ⟨rfl, rfl⟩ ⟨Nat.le_of_ble_eq_true rfl, Nat.le_of_ble_eq_true rfl⟩ rfl ?_
                show g 0 0 (wT 0 (tpS b ln p ft)) 29 [some (.ref 0), some (.int l), some (.int m), some (.int (((10 * (((10 * (((10 * 0) + (byteS b ln p)) - 48)) + (byteS b ln (p + 1))) - 48)) + (byteS b ln ((p + 1) + 1))) - 48)), some (.int 3), some (.int (nI (((p + 1) + 1) + 1)))] [.int (bB (figS (byteS b ln (((p + 1) + 1) + 1))))]
                refine r_if_eq (pc := 29) (tgt := 62) C dX4_readNumber_29 (by decide) (fun h_29 => ?_) (fun h_29 => ?_)
                · replace h_29 := bB_f h_29
                  have n_29_3 : fgB b ln ((((p + 1) + 1) + 1)) = false := by unfold fgB; rw [decide_eq_true n_17_3, h_29]; rfl
                  refine r_iload (pc := 62) C dX4_readNumber_62 rfl ?_
                  refine r_if_eq (pc := 64) (tgt := 73) C dX4_readNumber_64 (by decide) (fun h => absurd h (by decide)) (fun _ => ?_)
                  refine r_iload (pc := 67) C dX4_readNumber_67 rfl ?_
                  refine r_iconst (pc := 69) (v := 3) C dX4_readNumber_69 (by decide) ?_
                  refine r_icmp_ne (pc := 70) (tgt := 81) C dX4_readNumber_70 (by decide) (fun h => absurd (by decide) h) (fun _ => ?_)
                  refine r_aload_n (pc := 73) C dX4_readNumber_73 rfl rfl ?_
                  refine r_iconst (pc := 74) (v := 1) C dX4_readNumber_74 (by decide) ?_
                  refine r_callV0 (pc := 75) (As := [.int 1]) (st := []) (θ' := wT 0 (tpS b ln p 1)) C (c_X4_refuse b ln p ft 1) xm_X4_refuse xk_X4_58 dX4_readNumber_75 rfl rfl rfl rfl (Nat.le_of_ble_eq_true rfl) ⟨Nat.le_of_ble_eq_true rfl, Nat.le_of_ble_eq_true rfl⟩ ⟨rfl, rfl⟩ ⟨Nat.le_of_ble_eq_true rfl, Nat.le_of_ble_eq_true rfl⟩ rfl (Eq.trans (b := 2) rfl rfl) ?_
                  show g 0 0 (wT 0 (tpS b ln p 1)) 78 [some (.ref 0), some (.int l), some (.int m), some (.int (((10 * (((10 * (((10 * 0) + (byteS b ln p)) - 48)) + (byteS b ln (p + 1))) - 48)) + (byteS b ln ((p + 1) + 1))) - 48)), some (.int 3), some (.int (nI (((p + 1) + 1) + 1)))] [.int (bB false)]
                  refine r_pop (pc := 78) C dX4_readNumber_78 rfl ?_
                  refine r_iconst (pc := 79) (v := (-1)) C dX4_readNumber_79 (by decide) ?_
                  show g 0 0 (wT 0 (tpS b ln p 1)) 80 [some (.ref 0), some (.int l), some (.int m), some (.int (((10 * (((10 * (((10 * 0) + (byteS b ln p)) - 48)) + (byteS b ln (p + 1))) - 48)) + (byteS b ln ((p + 1) + 1))) - 48)), some (.int 3), some (.int (nI (((p + 1) + 1) + 1)))] [.int (-1)]
                  have hK : rnK b ln p = 3 := by simp only [rnK, n_29_0, n_29_1, n_29_2, n_29_3, if_true, if_false, Bool.false_eq_true]
                  have hFl : rnF b ln p l m = 1 := by rw [rnF, hK, if_pos (by decide)]
                  exact E _ _ _ _ _ _ dX4_readNumber_80 (Nat.le_refl _) (Nat.le_refl _) rfl ⟨congrArg (fun z => some (Value.int z)) (by rw [rnR_eq, rnR0, hFl, if_neg (by decide)]), by rw [rnP_eq, rnFt_eq, rnP0, rnFt0, hFl, if_neg (by decide), if_neg (by decide)]⟩
                · replace h_29 := bB_t h_29
                  have n_29_3 : fgB b ln ((((p + 1) + 1) + 1)) = true := by unfold fgB; rw [decide_eq_true n_17_3, h_29]; rfl
                  refine r_iload (pc := 32) C dX4_readNumber_32 rfl ?_
                  refine r_iconst (pc := 34) (v := 3) C dX4_readNumber_34 (by decide) ?_
                  refine r_icmp_ge (pc := 35) (tgt := 62) C dX4_readNumber_35 (by decide) (fun _ => ?_) (fun h => absurd (by decide) h)
                  refine r_iload (pc := 62) C dX4_readNumber_62 rfl ?_
                  refine r_if_eq (pc := 64) (tgt := 73) C dX4_readNumber_64 (by decide) (fun h => absurd h (by decide)) (fun _ => ?_)
                  refine r_iload (pc := 67) C dX4_readNumber_67 rfl ?_
                  refine r_iconst (pc := 69) (v := 3) C dX4_readNumber_69 (by decide) ?_
                  refine r_icmp_ne (pc := 70) (tgt := 81) C dX4_readNumber_70 (by decide) (fun h => absurd (by decide) h) (fun _ => ?_)
                  refine r_aload_n (pc := 73) C dX4_readNumber_73 rfl rfl ?_
                  refine r_iconst (pc := 74) (v := 1) C dX4_readNumber_74 (by decide) ?_
                  refine r_callV0 (pc := 75) (As := [.int 1]) (st := []) (θ' := wT 0 (tpS b ln p 1)) C (c_X4_refuse b ln p ft 1) xm_X4_refuse xk_X4_58 dX4_readNumber_75 rfl rfl rfl rfl (Nat.le_of_ble_eq_true rfl) ⟨Nat.le_of_ble_eq_true rfl, Nat.le_of_ble_eq_true rfl⟩ ⟨rfl, rfl⟩ ⟨Nat.le_of_ble_eq_true rfl, Nat.le_of_ble_eq_true rfl⟩ rfl (Eq.trans (b := 2) rfl rfl) ?_
                  show g 0 0 (wT 0 (tpS b ln p 1)) 78 [some (.ref 0), some (.int l), some (.int m), some (.int (((10 * (((10 * (((10 * 0) + (byteS b ln p)) - 48)) + (byteS b ln (p + 1))) - 48)) + (byteS b ln ((p + 1) + 1))) - 48)), some (.int 3), some (.int (nI (((p + 1) + 1) + 1)))] [.int (bB false)]
                  refine r_pop (pc := 78) C dX4_readNumber_78 rfl ?_
                  refine r_iconst (pc := 79) (v := (-1)) C dX4_readNumber_79 (by decide) ?_
                  show g 0 0 (wT 0 (tpS b ln p 1)) 80 [some (.ref 0), some (.int l), some (.int m), some (.int (((10 * (((10 * (((10 * 0) + (byteS b ln p)) - 48)) + (byteS b ln (p + 1))) - 48)) + (byteS b ln ((p + 1) + 1))) - 48)), some (.int 3), some (.int (nI (((p + 1) + 1) + 1)))] [.int (-1)]
                  have hK : rnK b ln p = 3 := by simp only [rnK, n_29_0, n_29_1, n_29_2, n_29_3, if_true, if_false, Bool.false_eq_true]
                  have hFl : rnF b ln p l m = 1 := by rw [rnF, hK, if_pos (by decide)]
                  exact E _ _ _ _ _ _ dX4_readNumber_80 (Nat.le_refl _) (Nat.le_refl _) rfl ⟨congrArg (fun z => some (Value.int z)) (by rw [rnR_eq, rnR0, hFl, if_neg (by decide)]), by rw [rnP_eq, rnFt_eq, rnP0, rnFt0, hFl, if_neg (by decide), if_neg (by decide)]⟩
