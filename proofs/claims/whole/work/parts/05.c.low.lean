def rmX0_forget : Room := { frames := 0, cells := 0, slots := 0, locals := 0 }
def rmX0_keep : Room := { frames := 0, cells := 0, slots := 0, locals := 0 }
def rmX0_takeBack : Room := { frames := 0, cells := 0, slots := 0, locals := 0 }
def rmX3_begin : Room := { frames := 0, cells := 0, slots := 0, locals := 0 }
def rmX3_narrowed : Room := { frames := 0, cells := 0, slots := 0, locals := 0 }
def rmX3_hasSpan : Room := { frames := 0, cells := 0, slots := 0, locals := 0 }
def kpS (A : Nat → Nat → Int32) (sl : Nat) (act h f s : Int32) : Nat → Nat → Int32 := up2 (up2 (up2 (up2 A 0 (upd (A 0) sl act)) 1 (upd (A 1) sl h)) 2 (upd (A 2) sl f)) 3 (upd (A 3) sl s)
def zeroS (f : Nat → Int32) (k : Nat) : Nat → Int32 := fun q => if q < k then 0 else f q
theorem zero_0 (f : Nat → Int32) : zeroS f 0 = f := by funext q; simp [zeroS]
theorem zero_step (f : Nat → Int32) (k : Nat) : upd (zeroS f k) k 0 = zeroS f (k + 1) := by
  funext q
  unfold upd zeroS
  by_cases h : q = k
  · rw [if_pos h, if_pos (by omega)]
  · rw [if_neg h]
    by_cases h2 : q < k
    · rw [if_pos h2, if_pos (by omega)]
    · rw [if_neg h2, if_neg (by omega)]
def nrwS (lane v : Int32) : Int32 := if lane = 0 then v.toInt8.toInt32 else if lane = 1 then v.toInt16.toInt32 else v
def spanS (size i n : Int32) : Bool := !decide (i < 0) && !decide (n < 0) && !decide (size < n) && !decide (size - n < i)
/-- an act undone: what stood in the forest before it -/
def tbS (F : Nat → Nat → Int32) (what : Int32) (j : Nat) (b0 b1 : Int32) : Nat → Nat → Int32 := if what = 1 then up2 (up2 F 1 (upd (F 1) j b0)) 2 (upd (F 2) j b1) else if what = 2 then up2 F 3 (upd (F 3) j b0) else if what = 3 then up2 F 10 (k1 (F 10 0 ^^^ (1 <<< (nI j &&& 31)))) else up2 F 8 (k1 (F 8 0 - 1))
set_option maxHeartbeats 4000000 in
set_option maxRecDepth 100000 in
theorem c_X0_forget (A : Nat → Nat → Int32) : MetA yX0_forget (.code yX0_forget cX0_forget 1 none :: TT) rmX0_forget [.ref 0] (wA 0 A) (fun vr wr => vr = none ∧ wr = wA 0 (up2 A 5 (k1 0))) 0 0 := by
  refine MetA.of_v (by decide) (fun _ => Nat.le_of_ble_eq_true rfl) (Nat.le_of_ble_eq_true rfl) (fun g C E => ?_)
  replace C : Sem cX0_forget RX0 "forget" 1 rmX0_forget g := C
  show g 0 0 (wA 0 A) 0 [some (.ref 0)] []
  refine r_aload_n (pc := 0) C dX0_forget_0 rfl rfl ?_
  refine r_iconst (pc := 1) (v := 0) C dX0_forget_1 (by decide) ?_
  refine r_putfield (pc := 2) (θ' := wA 0 (up2 A 5 (k1 0))) C xf_X0_24 xt_X0_5 dX0_forget_2 rfl (Nat.le_of_ble_eq_true rfl) (fun _ => ⟨rfl, rfl⟩) rfl ?_
  exact E _ _ _ _ _ dX0_forget_5 (Nat.le_refl _) (Nat.le_refl _) ⟨rfl, rfl⟩
set_option maxHeartbeats 4000000 in
set_option maxRecDepth 100000 in
theorem c_X0_keep_lt (A : Nat → Nat → Int32) (o : Nat) (ho : A 4 0 = nI o) (ho24 : o < 24) (q : Nat) (hq : A 5 0 = nI q) (hq24 : q < 24) (act h f s : Int32) : MetA yX0_keep (.code yX0_keep cX0_keep 6 none :: TT) rmX0_keep [.ref 0, .int act, .int h, .int f, .int s] (wA 0 A) (fun vr wr => vr = none ∧ wr = wA 0 (up2 (kpS A ((o + q) % 24) act h f s) 5 (k1 (nI (q + 1))))) 0 0 := by
  refine MetA.of_v (by decide) (fun _ => Nat.le_of_ble_eq_true rfl) (Nat.le_of_ble_eq_true rfl) (fun g C E => ?_)
  replace C : Sem cX0_keep RX0 "keep" 6 rmX0_keep g := C
  show g 0 0 (wA 0 A) 0 [some (.ref 0), some (.int act), some (.int h), some (.int f), some (.int s), none] []
  refine r_aload_n (pc := 0) C dX0_keep_0 rfl rfl ?_
  refine r_getfield (pc := 1) (v := .int (A 5 0)) C xf_X0_24 dX0_keep_1 rfl rfl ?_
  refine r_bipush (pc := 4) (v := 24) C dX0_keep_4 (by decide) ?_
  refine r_icmp_ne (pc := 6) (tgt := 32) C dX0_keep_6 (by decide) (fun _ => ?_) (fun h => absurd h (by rw [hq]; exact fun z => absurd ((nI_eq (b := 24) (by omega) (by omega)).mp z) (by omega)))
  refine r_aload_n (pc := 32) C dX0_keep_32 rfl rfl ?_
  refine r_getfield (pc := 33) (v := .int (A 4 0)) C xf_X0_28 dX0_keep_33 rfl rfl ?_
  refine r_aload_n (pc := 36) C dX0_keep_36 rfl rfl ?_
  refine r_getfield (pc := 37) (v := .int (A 5 0)) C xf_X0_24 dX0_keep_37 rfl rfl ?_
  refine r_iadd (pc := 40) C dX0_keep_40 ?_
  refine r_bipush (pc := 41) (v := 24) C dX0_keep_41 (by decide) ?_
  refine r_irem (pc := 43) C dX0_keep_43 (by decide) ?_
  show g 0 0 (wA 0 A) 44 [some (.ref 0), some (.int act), some (.int h), some (.int f), some (.int s), none] [.int (rmI ((A 4 0) + (A 5 0)) 24)]
  show g 0 0 (wA 0 A) 44 [some (.ref 0), some (.int act), some (.int h), some (.int f), some (.int s), none] [.int (rmI ((A 4 0) + (A 5 0)) 24)]
  rw [show (rmI ((A 4 0) + (A 5 0)) 24 : Int32) = nI ((o + q) % 24) from (nI_rem (nI_sum ho hq) (by rfl : (24 : Int32) = nI 24) (by omega) (by omega) (by omega))]
  refine r_istore (pc := 44) (lv' := [some (.ref 0), some (.int act), some (.int h), some (.int f), some (.int s), some (.int (nI ((o + q) % 24)))]) C dX0_keep_44 (Nat.le_of_ble_eq_true rfl) trivial rfl ?_
  refine r_aload_n (pc := 46) C dX0_keep_46 rfl rfl ?_
  refine r_getfield (pc := 47) (v := .ref 1) C xf_X0_9 dX0_keep_47 rfl rfl ?_
  refine r_iload (pc := 50) C dX0_keep_50 rfl ?_
  refine r_iload_n (pc := 52) C dX0_keep_52 rfl rfl ?_
  refine r_iastore (pc := 53) (θ' := wA 0 (up2 A 0 (upd (A 0) ((o + q) % 24) act))) C ((o + q) % 24) dX0_keep_53 rfl rfl (by first | assumption | omega) rfl ?_
  refine r_aload_n (pc := 54) C dX0_keep_54 rfl rfl ?_
  refine r_getfield (pc := 55) (v := .ref 2) C xf_X0_15 dX0_keep_55 rfl rfl ?_
  refine r_iload (pc := 58) C dX0_keep_58 rfl ?_
  refine r_iload_n (pc := 60) C dX0_keep_60 rfl rfl ?_
  refine r_iastore (pc := 61) (θ' := wA 0 (up2 (up2 A 0 (upd (A 0) ((o + q) % 24) act)) 1 (upd (A 1) ((o + q) % 24) h))) C ((o + q) % 24) dX0_keep_61 rfl rfl (by first | assumption | omega) rfl ?_
  refine r_aload_n (pc := 62) C dX0_keep_62 rfl rfl ?_
  refine r_getfield (pc := 63) (v := .ref 3) C xf_X0_18 dX0_keep_63 rfl rfl ?_
  refine r_iload (pc := 66) C dX0_keep_66 rfl ?_
  refine r_iload_n (pc := 68) C dX0_keep_68 rfl rfl ?_
  refine r_iastore (pc := 69) (θ' := wA 0 (up2 (up2 (up2 A 0 (upd (A 0) ((o + q) % 24) act)) 1 (upd (A 1) ((o + q) % 24) h)) 2 (upd (A 2) ((o + q) % 24) f))) C ((o + q) % 24) dX0_keep_69 rfl rfl (by first | assumption | omega) rfl ?_
  refine r_aload_n (pc := 70) C dX0_keep_70 rfl rfl ?_
  refine r_getfield (pc := 71) (v := .ref 4) C xf_X0_21 dX0_keep_71 rfl rfl ?_
  refine r_iload (pc := 74) C dX0_keep_74 rfl ?_
  refine r_iload (pc := 76) C dX0_keep_76 rfl ?_
  refine r_iastore (pc := 78) (θ' := wA 0 (up2 (up2 (up2 (up2 A 0 (upd (A 0) ((o + q) % 24) act)) 1 (upd (A 1) ((o + q) % 24) h)) 2 (upd (A 2) ((o + q) % 24) f)) 3 (upd (A 3) ((o + q) % 24) s))) C ((o + q) % 24) dX0_keep_78 rfl rfl (by first | assumption | omega) rfl ?_
  refine r_aload_n (pc := 79) C dX0_keep_79 rfl rfl ?_
  refine r_dup (pc := 80) C dX0_keep_80 rfl ?_
  refine r_getfield (pc := 81) (v := .int (A 5 0)) C xf_X0_24 dX0_keep_81 rfl rfl ?_
  refine r_iconst (pc := 84) (v := 1) C dX0_keep_84 (by decide) ?_
  refine r_iadd (pc := 85) C dX0_keep_85 ?_
  show g 0 0 (wA 0 (up2 (up2 (up2 (up2 A 0 (upd (A 0) ((o + q) % 24) act)) 1 (upd (A 1) ((o + q) % 24) h)) 2 (upd (A 2) ((o + q) % 24) f)) 3 (upd (A 3) ((o + q) % 24) s))) 86 [some (.ref 0), some (.int act), some (.int h), some (.int f), some (.int s), some (.int (nI ((o + q) % 24)))] [.int ((A 5 0) + 1), .ref 0]
  rw [show ((A 5 0) + 1 : Int32) = nI (q + 1) from (nI_sum hq rfl)]
  refine r_putfield (pc := 86) (θ' := wA 0 (up2 (up2 (up2 (up2 (up2 A 0 (upd (A 0) ((o + q) % 24) act)) 1 (upd (A 1) ((o + q) % 24) h)) 2 (upd (A 2) ((o + q) % 24) f)) 3 (upd (A 3) ((o + q) % 24) s)) 5 (k1 (nI (q + 1))))) C xf_X0_24 xt_X0_5 dX0_keep_86 rfl (Nat.le_of_ble_eq_true rfl) (fun _ => ⟨rfl, rfl⟩) rfl ?_
  exact E _ _ _ _ _ dX0_keep_89 (Nat.le_refl _) (Nat.le_refl _) ⟨rfl, rfl⟩
set_option maxHeartbeats 4000000 in
set_option maxRecDepth 100000 in
theorem c_X0_keep_full (A : Nat → Nat → Int32) (o : Nat) (ho : A 4 0 = nI o) (ho24 : o < 24) (hq : A 5 0 = nI 24) (act h f s : Int32) : MetA yX0_keep (.code yX0_keep cX0_keep 6 none :: TT) rmX0_keep [.ref 0, .int act, .int h, .int f, .int s] (wA 0 A) (fun vr wr => vr = none ∧ wr = wA 0 (up2 (up2 (kpS A (((o + 1) % 24 + (24 - 1)) % 24) act h f s) 4 (k1 (nI ((o + 1) % 24)))) 5 (k1 (nI (24 - 1 + 1))))) 0 0 := by
  refine MetA.of_v (by decide) (fun _ => Nat.le_of_ble_eq_true rfl) (Nat.le_of_ble_eq_true rfl) (fun g C E => ?_)
  replace C : Sem cX0_keep RX0 "keep" 6 rmX0_keep g := C
  show g 0 0 (wA 0 A) 0 [some (.ref 0), some (.int act), some (.int h), some (.int f), some (.int s), none] []
  refine r_aload_n (pc := 0) C dX0_keep_0 rfl rfl ?_
  refine r_getfield (pc := 1) (v := .int (A 5 0)) C xf_X0_24 dX0_keep_1 rfl rfl ?_
  refine r_bipush (pc := 4) (v := 24) C dX0_keep_4 (by decide) ?_
  refine r_icmp_ne (pc := 6) (tgt := 32) C dX0_keep_6 (by decide) (fun h => absurd (by rw [hq]; rfl) h) (fun _ => ?_)
  refine r_aload_n (pc := 9) C dX0_keep_9 rfl rfl ?_
  refine r_aload_n (pc := 10) C dX0_keep_10 rfl rfl ?_
  refine r_getfield (pc := 11) (v := .int (A 4 0)) C xf_X0_28 dX0_keep_11 rfl rfl ?_
  refine r_iconst (pc := 14) (v := 1) C dX0_keep_14 (by decide) ?_
  refine r_iadd (pc := 15) C dX0_keep_15 ?_
  refine r_bipush (pc := 16) (v := 24) C dX0_keep_16 (by decide) ?_
  refine r_irem (pc := 18) C dX0_keep_18 (by decide) ?_
  show g 0 0 (wA 0 A) 19 [some (.ref 0), some (.int act), some (.int h), some (.int f), some (.int s), none] [.int (rmI ((A 4 0) + 1) 24), .ref 0]
  show g 0 0 (wA 0 A) 19 [some (.ref 0), some (.int act), some (.int h), some (.int f), some (.int s), none] [.int (rmI ((A 4 0) + 1) 24), .ref 0]
  rw [show (rmI ((A 4 0) + 1) 24 : Int32) = nI ((o + 1) % 24) from (nI_rem (nI_sum ho rfl) (by rfl : (24 : Int32) = nI 24) (by omega) (by omega) (by omega))]
  refine r_putfield (pc := 19) (θ' := wA 0 (up2 A 4 (k1 (nI ((o + 1) % 24))))) C xf_X0_28 xt_X0_4 dX0_keep_19 rfl (Nat.le_of_ble_eq_true rfl) (fun _ => ⟨rfl, rfl⟩) rfl ?_
  refine r_aload_n (pc := 22) C dX0_keep_22 rfl rfl ?_
  refine r_dup (pc := 23) C dX0_keep_23 rfl ?_
  refine r_getfield (pc := 24) (v := .int (A 5 0)) C xf_X0_24 dX0_keep_24 rfl rfl ?_
  refine r_iconst (pc := 27) (v := 1) C dX0_keep_27 (by decide) ?_
  refine r_isub (pc := 28) C dX0_keep_28 ?_
  show g 0 0 (wA 0 (up2 A 4 (k1 (nI ((o + 1) % 24))))) 29 [some (.ref 0), some (.int act), some (.int h), some (.int f), some (.int s), none] [.int ((A 5 0) - 1), .ref 0]
  rw [show ((A 5 0) - 1 : Int32) = nI (24 - 1) from (nI_dif hq rfl (by omega))]
  refine r_putfield (pc := 29) (θ' := wA 0 (up2 (up2 A 4 (k1 (nI ((o + 1) % 24)))) 5 (k1 (nI (24 - 1))))) C xf_X0_24 xt_X0_5 dX0_keep_29 rfl (Nat.le_of_ble_eq_true rfl) (fun _ => ⟨rfl, rfl⟩) rfl ?_
  refine r_aload_n (pc := 32) C dX0_keep_32 rfl rfl ?_
  refine r_getfield (pc := 33) (v := .int (nI ((o + 1) % 24))) C xf_X0_28 dX0_keep_33 rfl rfl ?_
  refine r_aload_n (pc := 36) C dX0_keep_36 rfl rfl ?_
  refine r_getfield (pc := 37) (v := .int (nI (24 - 1))) C xf_X0_24 dX0_keep_37 rfl rfl ?_
  refine r_iadd (pc := 40) C dX0_keep_40 ?_
  refine r_bipush (pc := 41) (v := 24) C dX0_keep_41 (by decide) ?_
  refine r_irem (pc := 43) C dX0_keep_43 (by decide) ?_
  show g 0 0 (wA 0 (up2 (up2 A 4 (k1 (nI ((o + 1) % 24)))) 5 (k1 (nI (24 - 1))))) 44 [some (.ref 0), some (.int act), some (.int h), some (.int f), some (.int s), none] [.int (rmI ((nI ((o + 1) % 24)) + (nI (24 - 1))) 24)]
  show g 0 0 (wA 0 (up2 (up2 A 4 (k1 (nI ((o + 1) % 24)))) 5 (k1 (nI (24 - 1))))) 44 [some (.ref 0), some (.int act), some (.int h), some (.int f), some (.int s), none] [.int (rmI ((nI ((o + 1) % 24)) + (nI (24 - 1))) 24)]
  rw [show (rmI ((nI ((o + 1) % 24)) + (nI (24 - 1))) 24 : Int32) = nI ((((o + 1) % 24) + (24 - 1)) % 24) from (nI_rem (nI_sum rfl rfl) (by rfl : (24 : Int32) = nI 24) (by omega) (by omega) (by omega))]
  refine r_istore (pc := 44) (lv' := [some (.ref 0), some (.int act), some (.int h), some (.int f), some (.int s), some (.int (nI ((((o + 1) % 24) + (24 - 1)) % 24)))]) C dX0_keep_44 (Nat.le_of_ble_eq_true rfl) trivial rfl ?_
  refine r_aload_n (pc := 46) C dX0_keep_46 rfl rfl ?_
  refine r_getfield (pc := 47) (v := .ref 1) C xf_X0_9 dX0_keep_47 rfl rfl ?_
  refine r_iload (pc := 50) C dX0_keep_50 rfl ?_
  refine r_iload_n (pc := 52) C dX0_keep_52 rfl rfl ?_
  refine r_iastore (pc := 53) (θ' := wA 0 (up2 (up2 (up2 A 4 (k1 (nI ((o + 1) % 24)))) 5 (k1 (nI (24 - 1)))) 0 (upd (A 0) ((((o + 1) % 24) + (24 - 1)) % 24) act))) C ((((o + 1) % 24) + (24 - 1)) % 24) dX0_keep_53 rfl rfl (by first | assumption | omega) rfl ?_
  refine r_aload_n (pc := 54) C dX0_keep_54 rfl rfl ?_
  refine r_getfield (pc := 55) (v := .ref 2) C xf_X0_15 dX0_keep_55 rfl rfl ?_
  refine r_iload (pc := 58) C dX0_keep_58 rfl ?_
  refine r_iload_n (pc := 60) C dX0_keep_60 rfl rfl ?_
  refine r_iastore (pc := 61) (θ' := wA 0 (up2 (up2 (up2 (up2 A 4 (k1 (nI ((o + 1) % 24)))) 5 (k1 (nI (24 - 1)))) 0 (upd (A 0) ((((o + 1) % 24) + (24 - 1)) % 24) act)) 1 (upd (A 1) ((((o + 1) % 24) + (24 - 1)) % 24) h))) C ((((o + 1) % 24) + (24 - 1)) % 24) dX0_keep_61 rfl rfl (by first | assumption | omega) rfl ?_
  refine r_aload_n (pc := 62) C dX0_keep_62 rfl rfl ?_
  refine r_getfield (pc := 63) (v := .ref 3) C xf_X0_18 dX0_keep_63 rfl rfl ?_
  refine r_iload (pc := 66) C dX0_keep_66 rfl ?_
  refine r_iload_n (pc := 68) C dX0_keep_68 rfl rfl ?_
  refine r_iastore (pc := 69) (θ' := wA 0 (up2 (up2 (up2 (up2 (up2 A 4 (k1 (nI ((o + 1) % 24)))) 5 (k1 (nI (24 - 1)))) 0 (upd (A 0) ((((o + 1) % 24) + (24 - 1)) % 24) act)) 1 (upd (A 1) ((((o + 1) % 24) + (24 - 1)) % 24) h)) 2 (upd (A 2) ((((o + 1) % 24) + (24 - 1)) % 24) f))) C ((((o + 1) % 24) + (24 - 1)) % 24) dX0_keep_69 rfl rfl (by first | assumption | omega) rfl ?_
  refine r_aload_n (pc := 70) C dX0_keep_70 rfl rfl ?_
  refine r_getfield (pc := 71) (v := .ref 4) C xf_X0_21 dX0_keep_71 rfl rfl ?_
  refine r_iload (pc := 74) C dX0_keep_74 rfl ?_
  refine r_iload (pc := 76) C dX0_keep_76 rfl ?_
  refine r_iastore (pc := 78) (θ' := wA 0 (up2 (up2 (up2 (up2 (up2 (up2 A 4 (k1 (nI ((o + 1) % 24)))) 5 (k1 (nI (24 - 1)))) 0 (upd (A 0) ((((o + 1) % 24) + (24 - 1)) % 24) act)) 1 (upd (A 1) ((((o + 1) % 24) + (24 - 1)) % 24) h)) 2 (upd (A 2) ((((o + 1) % 24) + (24 - 1)) % 24) f)) 3 (upd (A 3) ((((o + 1) % 24) + (24 - 1)) % 24) s))) C ((((o + 1) % 24) + (24 - 1)) % 24) dX0_keep_78 rfl rfl (by first | assumption | omega) rfl ?_
  refine r_aload_n (pc := 79) C dX0_keep_79 rfl rfl ?_
  refine r_dup (pc := 80) C dX0_keep_80 rfl ?_
  refine r_getfield (pc := 81) (v := .int (nI (24 - 1))) C xf_X0_24 dX0_keep_81 rfl rfl ?_
  refine r_iconst (pc := 84) (v := 1) C dX0_keep_84 (by decide) ?_
  refine r_iadd (pc := 85) C dX0_keep_85 ?_
  show g 0 0 (wA 0 (up2 (up2 (up2 (up2 (up2 (up2 A 4 (k1 (nI ((o + 1) % 24)))) 5 (k1 (nI (24 - 1)))) 0 (upd (A 0) ((((o + 1) % 24) + (24 - 1)) % 24) act)) 1 (upd (A 1) ((((o + 1) % 24) + (24 - 1)) % 24) h)) 2 (upd (A 2) ((((o + 1) % 24) + (24 - 1)) % 24) f)) 3 (upd (A 3) ((((o + 1) % 24) + (24 - 1)) % 24) s))) 86 [some (.ref 0), some (.int act), some (.int h), some (.int f), some (.int s), some (.int (nI ((((o + 1) % 24) + (24 - 1)) % 24)))] [.int ((nI (24 - 1)) + 1), .ref 0]
  rw [show ((nI (24 - 1)) + 1 : Int32) = nI ((24 - 1) + 1) from (nI_sum rfl rfl)]
  refine r_putfield (pc := 86) (θ' := wA 0 (up2 (up2 (up2 (up2 (up2 (up2 A 4 (k1 (nI ((o + 1) % 24)))) 0 (upd (A 0) ((((o + 1) % 24) + (24 - 1)) % 24) act)) 1 (upd (A 1) ((((o + 1) % 24) + (24 - 1)) % 24) h)) 2 (upd (A 2) ((((o + 1) % 24) + (24 - 1)) % 24) f)) 3 (upd (A 3) ((((o + 1) % 24) + (24 - 1)) % 24) s)) 5 (k1 (nI ((24 - 1) + 1))))) C xf_X0_24 xt_X0_5 dX0_keep_86 rfl (Nat.le_of_ble_eq_true rfl) (fun _ => ⟨rfl, rfl⟩) rfl ?_
  exact E _ _ _ _ _ dX0_keep_89 (Nat.le_refl _) (Nat.le_refl _) ⟨rfl, rfl⟩
set_option maxHeartbeats 4000000 in
set_option maxRecDepth 100000 in
theorem c_X0_takeBack (A F : Nat → Nat → Int32) (o : Nat) (ho : A 4 0 = nI o) (ho24 : o < 24) (q : Nat) (hq : A 5 0 = nI q) (hq0 : 0 < q) (hq24 : q ≤ 24) (j : Nat) (hj : A 1 ((o + (q - 1)) % 24) = nI j) (hj6 : j < 6) : MetA yX0_takeBack (.code yX0_takeBack cX0_takeBack 4 none :: TT) rmX0_takeBack [.ref 0, .ref 5] (wA 0 A ++ wF 5 F) (fun vr wr => vr = none ∧ wr = (wA 0 (up2 A 5 (k1 (nI (q - 1)))) ++ wF 5 (tbS F (A 0 ((o + (q - 1)) % 24)) j (A 2 ((o + (q - 1)) % 24)) (A 3 ((o + (q - 1)) % 24))))) 0 0 := by
  refine MetA.of_v (by decide) (fun _ => Nat.le_of_ble_eq_true rfl) (Nat.le_of_ble_eq_true rfl) (fun g C E => ?_)
  replace C : Sem cX0_takeBack RX0 "takeBack" 4 rmX0_takeBack g := C
  show g 0 0 (wA 0 A ++ wF 5 F) 0 [some (.ref 0), some (.ref 5), none, none] []
  refine r_aload_n (pc := 0) C dX0_takeBack_0 rfl rfl ?_
  refine r_getfield (pc := 1) (v := .int (A 5 0)) C xf_X0_24 dX0_takeBack_1 rfl rfl ?_
  refine r_if_ne (pc := 4) (tgt := 8) C dX0_takeBack_4 (by decide) (fun _ => ?_) (fun h => absurd h (by rw [hq]; exact nI_ne0 (by omega) (by omega)))
  refine r_aload_n (pc := 8) C dX0_takeBack_8 rfl rfl ?_
  refine r_dup (pc := 9) C dX0_takeBack_9 rfl ?_
  refine r_getfield (pc := 10) (v := .int (A 5 0)) C xf_X0_24 dX0_takeBack_10 rfl rfl ?_
  refine r_iconst (pc := 13) (v := 1) C dX0_takeBack_13 (by decide) ?_
  refine r_isub (pc := 14) C dX0_takeBack_14 ?_
  show g 0 0 (wA 0 A ++ wF 5 F) 15 [some (.ref 0), some (.ref 5), none, none] [.int ((A 5 0) - 1), .ref 0]
  rw [show ((A 5 0) - 1 : Int32) = nI (q - 1) from (nI_dif hq rfl (by omega))]
  refine r_putfield (pc := 15) (θ' := wA 0 (up2 A 5 (k1 (nI (q - 1)))) ++ wF 5 F) C xf_X0_24 xt_X0_5 dX0_takeBack_15 rfl (Nat.le_of_ble_eq_true rfl) (fun _ => ⟨rfl, rfl⟩) rfl ?_
  refine r_aload_n (pc := 18) C dX0_takeBack_18 rfl rfl ?_
  refine r_getfield (pc := 19) (v := .int (A 4 0)) C xf_X0_28 dX0_takeBack_19 rfl rfl ?_
  refine r_aload_n (pc := 22) C dX0_takeBack_22 rfl rfl ?_
  refine r_getfield (pc := 23) (v := .int (nI (q - 1))) C xf_X0_24 dX0_takeBack_23 rfl rfl ?_
  refine r_iadd (pc := 26) C dX0_takeBack_26 ?_
  refine r_bipush (pc := 27) (v := 24) C dX0_takeBack_27 (by decide) ?_
  refine r_irem (pc := 29) C dX0_takeBack_29 (by decide) ?_
  show g 0 0 (wA 0 (up2 A 5 (k1 (nI (q - 1)))) ++ wF 5 F) 30 [some (.ref 0), some (.ref 5), none, none] [.int (rmI ((A 4 0) + (nI (q - 1))) 24)]
  show g 0 0 (wA 0 (up2 A 5 (k1 (nI (q - 1)))) ++ wF 5 F) 30 [some (.ref 0), some (.ref 5), none, none] [.int (rmI ((A 4 0) + (nI (q - 1))) 24)]
  rw [show (rmI ((A 4 0) + (nI (q - 1))) 24 : Int32) = nI ((o + (q - 1)) % 24) from (nI_rem (nI_sum ho rfl) (by rfl : (24 : Int32) = nI 24) (by omega) (by omega) (by omega))]
  refine r_istore_n (pc := 30) (lv' := [some (.ref 0), some (.ref 5), some (.int (nI ((o + (q - 1)) % 24))), none]) C dX0_takeBack_30 rfl (Nat.le_of_ble_eq_true rfl) trivial rfl ?_
  refine r_aload_n (pc := 31) C dX0_takeBack_31 rfl rfl ?_
  refine r_getfield (pc := 32) (v := .ref 2) C xf_X0_15 dX0_takeBack_32 rfl rfl ?_
  refine r_iload_n (pc := 35) C dX0_takeBack_35 rfl rfl ?_
  refine r_iaload (pc := 36) (v := A 1 ((o + (q - 1)) % 24)) C ((o + (q - 1)) % 24) dX0_takeBack_36 rfl rfl (by first | assumption | omega) rfl ?_
  show g 0 0 (wA 0 (up2 A 5 (k1 (nI (q - 1)))) ++ wF 5 F) 37 [some (.ref 0), some (.ref 5), some (.int (nI ((o + (q - 1)) % 24))), none] [.int (A 1 ((o + (q - 1)) % 24))]
  rw [show (A 1 ((o + (q - 1)) % 24) : Int32) = nI j from hj]
  refine r_istore_n (pc := 37) (lv' := [some (.ref 0), some (.ref 5), some (.int (nI ((o + (q - 1)) % 24))), some (.int (nI j))]) C dX0_takeBack_37 rfl (Nat.le_of_ble_eq_true rfl) trivial rfl ?_
  refine r_aload_n (pc := 38) C dX0_takeBack_38 rfl rfl ?_
  refine r_getfield (pc := 39) (v := .ref 1) C xf_X0_9 dX0_takeBack_39 rfl rfl ?_
  refine r_iload_n (pc := 42) C dX0_takeBack_42 rfl rfl ?_
  refine r_iaload (pc := 43) (v := A 0 ((o + (q - 1)) % 24)) C ((o + (q - 1)) % 24) dX0_takeBack_43 rfl rfl (by first | assumption | omega) rfl ?_
  by_cases q_44_1 : A 0 ((o + (q - 1)) % 24) = 1
  · refine r_tableIn (pc := 44) (off := 28) (tgt := 72) C dX0_takeBack_44 (by rw [q_44_1]; decide) (by rw [q_44_1]; decide) (by rw [q_44_1]; rfl) (by decide) ?_
    refine r_aload_n (pc := 72) C dX0_takeBack_72 rfl rfl ?_
    refine r_getfield (pc := 73) (v := .ref 7) C xf_X0_31 dX0_takeBack_73 rfl rfl ?_
    refine r_iload_n (pc := 76) C dX0_takeBack_76 rfl rfl ?_
    refine r_aload_n (pc := 77) C dX0_takeBack_77 rfl rfl ?_
    refine r_getfield (pc := 78) (v := .ref 3) C xf_X0_18 dX0_takeBack_78 rfl rfl ?_
    refine r_iload_n (pc := 81) C dX0_takeBack_81 rfl rfl ?_
    refine r_iaload (pc := 82) (v := A 2 ((o + (q - 1)) % 24)) C ((o + (q - 1)) % 24) dX0_takeBack_82 rfl rfl (by first | assumption | omega) rfl ?_
    refine r_iastore (pc := 83) (θ' := wA 0 (up2 A 5 (k1 (nI (q - 1)))) ++ wF 5 (up2 F 1 (upd (F 1) j (A 2 ((o + (q - 1)) % 24))))) C j dX0_takeBack_83 rfl rfl (by first | assumption | omega) rfl ?_
    refine r_aload_n (pc := 84) C dX0_takeBack_84 rfl rfl ?_
    refine r_getfield (pc := 85) (v := .ref 8) C xf_X0_36 dX0_takeBack_85 rfl rfl ?_
    refine r_iload_n (pc := 88) C dX0_takeBack_88 rfl rfl ?_
    refine r_aload_n (pc := 89) C dX0_takeBack_89 rfl rfl ?_
    refine r_getfield (pc := 90) (v := .ref 4) C xf_X0_21 dX0_takeBack_90 rfl rfl ?_
    refine r_iload_n (pc := 93) C dX0_takeBack_93 rfl rfl ?_
    refine r_iaload (pc := 94) (v := A 3 ((o + (q - 1)) % 24)) C ((o + (q - 1)) % 24) dX0_takeBack_94 rfl rfl (by first | assumption | omega) rfl ?_
    refine r_iastore (pc := 95) (θ' := wA 0 (up2 A 5 (k1 (nI (q - 1)))) ++ wF 5 (up2 (up2 F 1 (upd (F 1) j (A 2 ((o + (q - 1)) % 24)))) 2 (upd (F 2) j (A 3 ((o + (q - 1)) % 24))))) C j dX0_takeBack_95 rfl rfl (by first | assumption | omega) rfl ?_
    refine r_goto (pc := 96) (tgt := 139) C dX0_takeBack_96 (by decide) ?_
    exact E _ _ _ _ _ dX0_takeBack_139 (Nat.le_refl _) (Nat.le_refl _) ⟨rfl, by rw [tbS, if_pos q_44_1]⟩
  by_cases q_44_2 : A 0 ((o + (q - 1)) % 24) = 2
  · refine r_tableIn (pc := 44) (off := 55) (tgt := 99) C dX0_takeBack_44 (by rw [q_44_2]; decide) (by rw [q_44_2]; decide) (by rw [q_44_2]; rfl) (by decide) ?_
    refine r_aload_n (pc := 99) C dX0_takeBack_99 rfl rfl ?_
    refine r_getfield (pc := 100) (v := .ref 9) C xf_X0_39 dX0_takeBack_100 rfl rfl ?_
    refine r_iload_n (pc := 103) C dX0_takeBack_103 rfl rfl ?_
    refine r_aload_n (pc := 104) C dX0_takeBack_104 rfl rfl ?_
    refine r_getfield (pc := 105) (v := .ref 3) C xf_X0_18 dX0_takeBack_105 rfl rfl ?_
    refine r_iload_n (pc := 108) C dX0_takeBack_108 rfl rfl ?_
    refine r_iaload (pc := 109) (v := A 2 ((o + (q - 1)) % 24)) C ((o + (q - 1)) % 24) dX0_takeBack_109 rfl rfl (by first | assumption | omega) rfl ?_
    refine r_iastore (pc := 110) (θ' := wA 0 (up2 A 5 (k1 (nI (q - 1)))) ++ wF 5 (up2 F 3 (upd (F 3) j (A 2 ((o + (q - 1)) % 24))))) C j dX0_takeBack_110 rfl rfl (by first | assumption | omega) rfl ?_
    refine r_goto (pc := 111) (tgt := 139) C dX0_takeBack_111 (by decide) ?_
    exact E _ _ _ _ _ dX0_takeBack_139 (Nat.le_refl _) (Nat.le_refl _) ⟨rfl, by rw [tbS, if_neg q_44_1, if_pos q_44_2]⟩
  by_cases q_44_3 : A 0 ((o + (q - 1)) % 24) = 3
  · refine r_tableIn (pc := 44) (off := 70) (tgt := 114) C dX0_takeBack_44 (by rw [q_44_3]; decide) (by rw [q_44_3]; decide) (by rw [q_44_3]; rfl) (by decide) ?_
    refine r_aload_n (pc := 114) C dX0_takeBack_114 rfl rfl ?_
    refine r_dup (pc := 115) C dX0_takeBack_115 rfl ?_
    refine r_getfield (pc := 116) (v := .int (F 10 0)) C xf_X0_42 dX0_takeBack_116 rfl rfl ?_
    refine r_iconst (pc := 119) (v := 1) C dX0_takeBack_119 (by decide) ?_
    refine r_iload_n (pc := 120) C dX0_takeBack_120 rfl rfl ?_
    refine r_ishl (pc := 121) C dX0_takeBack_121 ?_
    refine r_ixor (pc := 122) C dX0_takeBack_122 ?_
    refine r_putfield (pc := 123) (θ' := wA 0 (up2 A 5 (k1 (nI (q - 1)))) ++ wF 5 (up2 F 10 (k1 ((F 10 0) ^^^ (1 <<< ((nI j) &&& 31)))))) C xf_X0_42 xt_X1_10 dX0_takeBack_123 rfl (Nat.le_of_ble_eq_true rfl) (fun _ => ⟨rfl, rfl⟩) rfl ?_
    refine r_goto (pc := 126) (tgt := 139) C dX0_takeBack_126 (by decide) ?_
    exact E _ _ _ _ _ dX0_takeBack_139 (Nat.le_refl _) (Nat.le_refl _) ⟨rfl, by rw [tbS, if_neg q_44_1, if_neg q_44_2, if_pos q_44_3]⟩
  refine r_tableOut (pc := 44) (tgt := 129) C dX0_takeBack_44 (by have t_1 := lv_neT (a := 1) q_44_1 rfl; have t_2 := lv_neT (a := 2) q_44_2 rfl; have t_3 := lv_neT (a := 3) q_44_3 rfl; omega) (by decide) ?_
  refine r_aload_n (pc := 129) C dX0_takeBack_129 rfl rfl ?_
  refine r_dup (pc := 130) C dX0_takeBack_130 rfl ?_
  refine r_getfield (pc := 131) (v := .int (F 8 0)) C xf_X0_45 dX0_takeBack_131 rfl rfl ?_
  refine r_iconst (pc := 134) (v := 1) C dX0_takeBack_134 (by decide) ?_
  refine r_isub (pc := 135) C dX0_takeBack_135 ?_
  refine r_putfield (pc := 136) (θ' := wA 0 (up2 A 5 (k1 (nI (q - 1)))) ++ wF 5 (up2 F 8 (k1 ((F 8 0) - 1)))) C xf_X0_45 xt_X1_8 dX0_takeBack_136 rfl (Nat.le_of_ble_eq_true rfl) (fun _ => ⟨rfl, rfl⟩) rfl ?_
  exact E _ _ _ _ _ dX0_takeBack_139 (Nat.le_refl _) (Nat.le_refl _) ⟨rfl, by rw [tbS, if_neg q_44_1, if_neg q_44_2, if_neg q_44_3]⟩
set_option maxHeartbeats 4000000 in
set_option maxRecDepth 100000 in
theorem lp_X3_begin (X : Nat → Nat → Int32) (a b : Int32) {g : Nat → Nat → List xE → Nat → List (Option Value) → List Value → Prop} (C : Sem cX3_begin RX3 "begin" 4 rmX3_begin g) (E : xEv g cX3_begin 0 0 (fun vr wr => vr = none ∧ wr = wR 0 (up2 (up2 (up2 X 1 (k1 a)) 2 (k1 b)) 0 (zeroS (X 0) 40)))) : ∀ (n : Nat) (k : Nat), k + n = 40 → g 0 0 (wR 0 (up2 (up2 (up2 X 1 (k1 a)) 2 (k1 b)) 0 (zeroS (X 0) k))) 12 [some (.ref 0), some (.int a), some (.int b), some (.int (nI k))] [] := by
  intro n
  induction n with
  | zero =>
    intro k hk
    refine r_iload_n (pc := 12) C dX3_begin_12 rfl rfl ?_
    refine r_bipush (pc := 13) (v := 40) C dX3_begin_13 (by decide) ?_
    refine r_icmp_ge (pc := 15) (tgt := 31) C dX3_begin_15 (by decide) (fun _ => ?_) (fun h => absurd (nI_le (a := 40) (by omega) (by omega)) h)
    obtain rfl : k = 40 := by omega
    exact E _ _ _ _ _ dX3_begin_31 (Nat.le_refl _) (Nat.le_refl _) ⟨rfl, rfl⟩
  | succ n ih =>
    intro k hk
    refine r_iload_n (pc := 12) C dX3_begin_12 rfl rfl ?_
    refine r_bipush (pc := 13) (v := 40) C dX3_begin_13 (by decide) ?_
    refine r_icmp_ge (pc := 15) (tgt := 31) C dX3_begin_15 (by decide) (fun h => absurd h (nI_ge (b := 40) (by omega) (by omega))) (fun _ => ?_)
    refine r_aload_n (pc := 18) C dX3_begin_18 rfl rfl ?_
    refine r_getfield (pc := 19) (v := .ref 1) C xf_X3_9 dX3_begin_19 rfl rfl ?_
    refine r_iload_n (pc := 22) C dX3_begin_22 rfl rfl ?_
    refine r_iconst (pc := 23) (v := 0) C dX3_begin_23 (by decide) ?_
    refine r_iastore (pc := 24) (θ' := wR 0 (up2 (up2 (up2 X 1 (k1 a)) 2 (k1 b)) 0 (upd (zeroS (X 0) k) k 0))) C k dX3_begin_24 rfl rfl (by first | assumption | omega) rfl ?_
    refine r_iinc (pc := 25) (v := nI (k + 1)) (lv' := [some (.ref 0), some (.int a), some (.int b), some (.int (nI (k + 1)))]) C dX3_begin_25 rfl (nI_1 k) trivial rfl ?_
    refine r_goto (pc := 28) (tgt := 12) C dX3_begin_28 (by decide) ?_
    show g 0 0 (wR 0 (up2 (up2 (up2 X 1 (k1 a)) 2 (k1 b)) 0 (upd (zeroS (X 0) k) k 0))) 12 [some (.ref 0), some (.int a), some (.int b), some (.int (nI (k + 1)))] []
    rw [zero_step]
    exact ih (k + 1) (by omega)
set_option maxHeartbeats 4000000 in
set_option maxRecDepth 100000 in
theorem c_X3_begin (X : Nat → Nat → Int32) (a b : Int32) : MetA yX3_begin (.code yX3_begin cX3_begin 4 none :: TT) rmX3_begin [.ref 0, .int a, .int b] (wR 0 X) (fun vr wr => vr = none ∧ wr = wR 0 (up2 (up2 (up2 X 1 (k1 a)) 2 (k1 b)) 0 (zeroS (X 0) 40))) 0 0 := by
  refine MetA.of_v (by decide) (fun _ => Nat.le_of_ble_eq_true rfl) (Nat.le_of_ble_eq_true rfl) (fun g C E => ?_)
  replace C : Sem cX3_begin RX3 "begin" 4 rmX3_begin g := C
  show g 0 0 (wR 0 X) 0 [some (.ref 0), some (.int a), some (.int b), none] []
  refine r_aload_n (pc := 0) C dX3_begin_0 rfl rfl ?_
  refine r_iload_n (pc := 1) C dX3_begin_1 rfl rfl ?_
  refine r_putfield (pc := 2) (θ' := wR 0 (up2 X 1 (k1 a))) C xf_X3_15 xt_X3_1 dX3_begin_2 rfl (Nat.le_of_ble_eq_true rfl) (fun _ => ⟨rfl, rfl⟩) rfl ?_
  refine r_aload_n (pc := 5) C dX3_begin_5 rfl rfl ?_
  refine r_iload_n (pc := 6) C dX3_begin_6 rfl rfl ?_
  refine r_putfield (pc := 7) (θ' := wR 0 (up2 (up2 X 1 (k1 a)) 2 (k1 b))) C xf_X3_19 xt_X3_2 dX3_begin_7 rfl (Nat.le_of_ble_eq_true rfl) (fun _ => ⟨rfl, rfl⟩) rfl ?_
  refine r_iconst (pc := 10) (v := 0) C dX3_begin_10 (by decide) ?_
  refine r_istore_n (pc := 11) (lv' := [some (.ref 0), some (.int a), some (.int b), some (.int 0)]) C dX3_begin_11 rfl (Nat.le_of_ble_eq_true rfl) trivial rfl ?_
  have h0 := lp_X3_begin X a b C E 40 0 (by omega)
  rw [zero_0] at h0
  exact h0
set_option maxHeartbeats 4000000 in
set_option maxRecDepth 100000 in
theorem c_X3_narrowed (X : Nat → Nat → Int32) (v : Int32) : MetA yX3_narrowed (.code yX3_narrowed cX3_narrowed 2 (some .int) :: TT) rmX3_narrowed [.ref 0, .int v] (wR 0 X) (fun vr wr => vr = some (.int (nrwS (X 1 0) v)) ∧ wr = wR 0 X) 0 0 := by
  refine MetA.of_i (by decide) (fun _ => Nat.le_of_ble_eq_true rfl) (Nat.le_of_ble_eq_true rfl) (fun g C E => ?_)
  replace C : Sem cX3_narrowed RX3 "narrowed" 2 rmX3_narrowed g := C
  show g 0 0 (wR 0 X) 0 [some (.ref 0), some (.int v)] []
  refine r_aload_n (pc := 0) C dX3_narrowed_0 rfl rfl ?_
  refine r_getfield (pc := 1) (v := .int (X 1 0)) C xf_X3_15 dX3_narrowed_1 rfl rfl ?_
  by_cases q_4_0 : X 1 0 = 0
  · refine r_lookup (pc := 4) (off := 28) (tgt := 32) C dX3_narrowed_4 (by decide) (by rw [q_4_0]; decide) (by decide) ?_
    refine r_iload_n (pc := 32) C dX3_narrowed_32 rfl rfl ?_
    refine r_i2b (pc := 33) (v := v.toInt8.toInt32) C dX3_narrowed_33 rfl ?_
    exact E _ _ _ _ _ _ dX3_narrowed_34 (Nat.le_refl _) (Nat.le_refl _) rfl ⟨congrArg (fun z => some (Value.int z)) (by simp [nrwS, q_4_0]), rfl⟩
  by_cases q_4_1 : X 1 0 = 1
  · refine r_lookup (pc := 4) (off := 31) (tgt := 35) C dX3_narrowed_4 (by decide) (by rw [q_4_1]; decide) (by decide) ?_
    refine r_iload_n (pc := 35) C dX3_narrowed_35 rfl rfl ?_
    refine r_i2s (pc := 36) (v := v.toInt16.toInt32) C dX3_narrowed_36 rfl ?_
    exact E _ _ _ _ _ _ dX3_narrowed_37 (Nat.le_refl _) (Nat.le_refl _) rfl ⟨congrArg (fun z => some (Value.int z)) (by simp [nrwS, q_4_0, q_4_1]), rfl⟩
  refine r_lookup (pc := 4) (off := 34) (tgt := 38) C dX3_narrowed_4 (by decide) (by show Op.lookupswitch.offset [(0, 28), (1, 31)] 34 _ = _; rw [lv_osw (a := 0) q_4_0 rfl, lv_osw (a := 1) q_4_1 rfl]; rfl) (by decide) ?_
  refine r_iload_n (pc := 38) C dX3_narrowed_38 rfl rfl ?_
  exact E _ _ _ _ _ _ dX3_narrowed_39 (Nat.le_refl _) (Nat.le_refl _) rfl ⟨congrArg (fun z => some (Value.int z)) (by simp [nrwS, q_4_0, q_4_1]), rfl⟩
set_option maxHeartbeats 4000000 in
set_option maxRecDepth 100000 in
theorem c_X3_hasSpan (X : Nat → Nat → Int32) (i n : Int32) : MetA yX3_hasSpan (.code yX3_hasSpan cX3_hasSpan 3 (some .boolean) :: TT) rmX3_hasSpan [.ref 0, .int i, .int n] (wR 0 X) (fun vr wr => vr = some (.int (bB (spanS (X 2 0) i n))) ∧ wr = wR 0 X) 0 0 := by
  refine MetA.of_i (by decide) (fun _ => Nat.le_of_ble_eq_true rfl) (Nat.le_of_ble_eq_true rfl) (fun g C E => ?_)
  replace C : Sem cX3_hasSpan RX3 "hasSpan" 3 rmX3_hasSpan g := C
  show g 0 0 (wR 0 X) 0 [some (.ref 0), some (.int i), some (.int n)] []
  refine r_iload_n (pc := 0) C dX3_hasSpan_0 rfl rfl ?_
  refine r_if_lt (pc := 1) (tgt := 30) C dX3_hasSpan_1 (by decide) (fun h_1 => ?_) (fun h_1 => ?_)
  · skip
    refine r_iconst (pc := 30) (v := 0) C dX3_hasSpan_30 (by decide) ?_
    exact E _ _ _ _ _ _ dX3_hasSpan_31 (Nat.le_refl _) (Nat.le_refl _) rfl ⟨congrArg (fun z => some (Value.int z)) (by simp [spanS, bB, h_1]), rfl⟩
  · skip
    refine r_iload_n (pc := 4) C dX3_hasSpan_4 rfl rfl ?_
    refine r_if_lt (pc := 5) (tgt := 30) C dX3_hasSpan_5 (by decide) (fun h_5 => ?_) (fun h_5 => ?_)
    · skip
      refine r_iconst (pc := 30) (v := 0) C dX3_hasSpan_30 (by decide) ?_
      exact E _ _ _ _ _ _ dX3_hasSpan_31 (Nat.le_refl _) (Nat.le_refl _) rfl ⟨congrArg (fun z => some (Value.int z)) (by simp [spanS, bB, h_1, h_5]), rfl⟩
    · skip
      refine r_iload_n (pc := 8) C dX3_hasSpan_8 rfl rfl ?_
      refine r_aload_n (pc := 9) C dX3_hasSpan_9 rfl rfl ?_
      refine r_getfield (pc := 10) (v := .int (X 2 0)) C xf_X3_19 dX3_hasSpan_10 rfl rfl ?_
      refine r_icmp_gt (pc := 13) (tgt := 30) C dX3_hasSpan_13 (by decide) (fun h_13 => ?_) (fun h_13 => ?_)
      · skip
        refine r_iconst (pc := 30) (v := 0) C dX3_hasSpan_30 (by decide) ?_
        exact E _ _ _ _ _ _ dX3_hasSpan_31 (Nat.le_refl _) (Nat.le_refl _) rfl ⟨congrArg (fun z => some (Value.int z)) (by simp [spanS, bB, h_1, h_5, h_13]), rfl⟩
      · skip
        refine r_iload_n (pc := 16) C dX3_hasSpan_16 rfl rfl ?_
        refine r_aload_n (pc := 17) C dX3_hasSpan_17 rfl rfl ?_
        refine r_getfield (pc := 18) (v := .int (X 2 0)) C xf_X3_19 dX3_hasSpan_18 rfl rfl ?_
        refine r_iload_n (pc := 21) C dX3_hasSpan_21 rfl rfl ?_
        refine r_isub (pc := 22) C dX3_hasSpan_22 ?_
        refine r_icmp_gt (pc := 23) (tgt := 30) C dX3_hasSpan_23 (by decide) (fun h_23 => ?_) (fun h_23 => ?_)
        · skip
          refine r_iconst (pc := 30) (v := 0) C dX3_hasSpan_30 (by decide) ?_
          exact E _ _ _ _ _ _ dX3_hasSpan_31 (Nat.le_refl _) (Nat.le_refl _) rfl ⟨congrArg (fun z => some (Value.int z)) (by simp [spanS, bB, h_1, h_5, h_13, h_23]), rfl⟩
        · skip
          refine r_iconst (pc := 26) (v := 1) C dX3_hasSpan_26 (by decide) ?_
          refine r_goto (pc := 27) (tgt := 31) C dX3_hasSpan_27 (by decide) ?_
          exact E _ _ _ _ _ _ dX3_hasSpan_31 (Nat.le_refl _) (Nat.le_refl _) rfl ⟨congrArg (fun z => some (Value.int z)) (by simp [spanS, bB, h_1, h_5, h_13, h_23]), rfl⟩
