def rmX2_foresee : Room := { frames := 4, cells := 0, slots := 0, locals := 88 }
def rmX2_foreseeAnew : Room := { frames := 4, cells := 0, slots := 0, locals := 88 }
def rmX2_link : Room := { frames := 2, cells := 0, slots := 0, locals := 52 }
def rmX2_spread : Room := { frames := 0, cells := 0, slots := 0, locals := 0 }
def rmX2_holders : Room := { frames := 1, cells := 0, slots := 0, locals := 25 }
def rmX2_arrival : Room := { frames := 1, cells := 0, slots := 0, locals := 25 }
def rmX2_fewestHands : Room := { frames := 1, cells := 0, slots := 0, locals := 25 }
/-! ===== who is near whom, by minutes ===== -/
def rowS (F : Nat → Nat → Int32) (m : Int32) (f : Nat → Int32) (st : Nat) : Nat → Nat → Int32
  | 0 => f
  | i + 1 => upd (rowS F m f st i) (st + i) (spS F i m)
def lnkS (nr : Nat → Bool) (f : Nat → Int32) (st h : Nat) : Nat → Nat → Int32
  | 0 => f
  | i + 1 => if (!decide (i = h) && nr i) then upd (lnkS nr f st h i) (st + i) (lnkS nr f st h i (st + i) ||| (1 <<< (nI h &&& 31))) else upd (lnkS nr f st h i) (st + i) (lnkS nr f st h i (st + i) &&& ((1 <<< (nI h &&& 31)) ^^^ (-1)))
def lnk1 (nr : Nat → Bool) (f : Nat → Int32) (st h z : Nat) : Nat → Int32 := upd (lnkS nr f st h z) (st + h) (bitsS (fun o => !decide (o = h) && nr o) z)
def lnkA (F : Nat → Nat → Int32) (sp f : Nat → Int32) (st z : Nat) : Nat → Nat → Int32
  | 0 => f
  | i + 1 => lnk1 (fun o => nrS F (sp (st + i)) (sp (st + o))) (lnkA F sp f st z i) st i z
def frSp (F : Nat → Nat → Int32) (z : Nat) (s0 : Nat → Int32) : Nat → Nat → Int32
  | 0 => s0
  | t + 1 => rowS F (F 8 0 + nI t) (frSp F z s0 t) (t * 6) z
def frNr (F : Nat → Nat → Int32) (z : Nat) (s0 n0 : Nat → Int32) : Nat → Nat → Int32
  | 0 => n0
  | t + 1 => lnkA F (frSp F z s0 (t + 1)) (frNr F z s0 n0 t) (t * 6) z z
def frS (O F : Nat → Nat → Int32) (z d : Nat) : Nat → Nat → Int32 := up2 (up2 (up2 O 3 (k1 (nI z))) 0 (frSp F z (O 0) d)) 1 (frNr F z (O 0) (O 1) d)
def faSp (F : Nat → Nat → Int32) (c : Nat) (s0 : Nat → Int32) : Nat → Nat → Int32
  | 0 => s0
  | t + 1 => upd (faSp F c s0 t) (t * 6 + c) (spS F c (F 8 0 + nI t))
def faNr (F : Nat → Nat → Int32) (z c : Nat) (s0 n0 : Nat → Int32) : Nat → Nat → Int32
  | 0 => n0
  | t + 1 => lnk1 (fun o => nrS F (faSp F c s0 (t + 1) (t * 6 + c)) (faSp F c s0 (t + 1) (t * 6 + o))) (faNr F z c s0 n0 t) (t * 6) c z
def spdS (nr : Nat → Int32) (t : Nat) (have_ bar : Int32) : Nat → Int32
  | 0 => have_
  | i + 1 => if hasS (have_ &&& (bar ^^^ (-1))) (nI i) then spdS nr t have_ bar i ||| (nr (t * 6 + i) &&& (bar ^^^ (-1))) else spdS nr t have_ bar i
def hvS (nr : Nat → Int32) (z : Nat) (a bar : Int32) : Nat → Int32
  | 0 => 1 <<< (a &&& 31)
  | t + 1 => spdS nr t (hvS nr z a bar t) bar z
def arrFrom (has : Nat → Bool) : Nat → Nat → Int32
  | 0, t => if has t then nI t else -1000000
  | n + 1, t => if has t then nI t else arrFrom has n (t + 1)
def arrS (nr : Nat → Int32) (z : Nat) (a b : Int32) (d : Nat) (bar : Int32) : Int32 := arrFrom (fun t => hasS (hvS nr z a bar t) b) d 0
theorem has_p {x y : Int32} (h : (x >>> (y &&& 31)) &&& 1 = 1) : hasS x y = true := decide_eq_true h
theorem has_n {x y : Int32} (h : ¬ (x >>> (y &&& 31)) &&& 1 = 1) : hasS x y = false := decide_eq_false h
theorem bit01 (x : Int32) : x &&& 1 = 0 ∨ x &&& 1 = 1 := by
  obtain ⟨j, hj, e⟩ := pk_andE x (m := 1) 1 (by decide)
  rcases (show j = 0 ∨ j = 1 by omega) with rfl | rfl
  · exact Or.inl e
  · exact Or.inr e
theorem has_f {x y : Int32} (h : (x >>> (y &&& 31)) &&& 1 = 0) : hasS x y = false := by simp [hasS, h]
theorem has_t {x y : Int32} (h : ¬ (x >>> (y &&& 31)) &&& 1 = 0) : hasS x y = true := by
  rcases bit01 (x >>> (y &&& 31)) with q | q
  · exact absurd q h
  · simp [hasS, q]
def fhI (nr : Nat → Int32) (z t : Nat) (w : Nat → Int32) : Nat → Nat → Int32
  | 0 => w
  | n + 1 => upd (fhI nr z t w n) (5 - n) (fhI nr z t w n (5 - n) ||| spdS nr t (fhI nr z t w n (5 - n - 1)) 0 z)
def fhW (nr : Nat → Int32) (z : Nat) (w : Nat → Int32) : Nat → Nat → Int32
  | 0 => w
  | t + 1 => fhI nr z t (fhW nr z w t) 5
def hdFrom (has : Nat → Bool) : Nat → Nat → Int32
  | 0, _ => -1000000
  | n + 1, k => if has k then nI k else hdFrom has n (k + 1)
theorem nI_m1 {q : Nat} (h : q < 5) : nI (5 - q) + Int32.ofInt (-1) = nI (5 - (q + 1)) := by
  have : ∀ q, q < 5 → nI (5 - q) + Int32.ofInt (-1) = nI (5 - (q + 1)) := by decide +kernel
  exact this q h
def fill (f : Nat → Int32) (v : Int32) : Nat → Nat → Int32
  | 0 => f
  | k + 1 => upd (fill f v k) k v
set_option maxHeartbeats 4000000 in
set_option maxRecDepth 100000 in
theorem lp_X2_link (O : Nat → Nat → Int32) (F : Nat → Nat → Int32) (st h : Nat) (hst : st + 6 ≤ 360) (hh : h < 6) (z : Nat) (hz : O 3 0 = nI z) (hz6 : z ≤ 6) (hhz : h < z) {g : Nat → Nat → List xE → Nat → List (Option Value) → List Value → Prop} (C : Sem cX2_link RX2 "link" 6 rmX2_link g) (E : xEv g cX2_link 0 0 (fun vr wr => vr = none ∧ wr = (wO 0 (up2 O 1 (lnk1 (fun o => nrS F (O 0 (st + h)) (O 0 (st + o))) (O 1) st h z)) ++ wF 4 F))) : ∀ (n : Nat) (i : Nat), i + n = z → g 0 0 (wO 0 (up2 O 1 (lnkS (fun o => nrS F (O 0 (st + h)) (O 0 (st + o))) (O 1) st h i)) ++ wF 4 F) 6 [some (.ref 0), some (.ref 4), some (.int (nI st)), some (.int (nI h)), some (.int (bitsS (fun o => !decide (o = h) && nrS F (O 0 (st + h)) (O 0 (st + o))) i)), some (.int (nI i))] [] := by
  intro n
  induction n with
  | zero =>
    intro i hi
    obtain rfl : i = z := by omega
    refine r_iload (pc := 6) C dX2_link_6 rfl ?_
    refine r_aload_n (pc := 8) C dX2_link_8 rfl rfl ?_
    refine r_getfield (pc := 9) (v := .int (O 3 0)) C xf_X2_27 dX2_link_9 rfl rfl ?_
    refine r_icmp_ge (pc := 12) (tgt := 95) C dX2_link_12 (by decide) (fun _ => ?_) (fun h => absurd (by rw [hz]; exact nI_le (by omega) (by omega)) h)
    refine r_aload_n (pc := 95) C dX2_link_95 rfl rfl ?_
    refine r_getfield (pc := 96) (v := .ref 2) C xf_X2_15 dX2_link_96 rfl rfl ?_
    refine r_iload_n (pc := 99) C dX2_link_99 rfl rfl ?_
    refine r_iload_n (pc := 100) C dX2_link_100 rfl rfl ?_
    refine r_iadd (pc := 101) C dX2_link_101 ?_
    refine r_iload (pc := 102) C dX2_link_102 rfl ?_
    refine r_iastore (pc := 104) (θ' := wO 0 (up2 O 1 (upd (lnkS (fun o => nrS F (O 0 (st + h)) (O 0 (st + o))) (O 1) st h i) (st + h) (bitsS (fun o => !decide (o = h) && nrS F (O 0 (st + h)) (O 0 (st + o))) i))) ++ wF 4 F) C (st + h) dX2_link_104 rfl (nI_sum rfl rfl) (by first | assumption | omega) rfl ?_
    exact E _ _ _ _ _ dX2_link_105 (Nat.le_refl _) (Nat.le_refl _) ⟨rfl, rfl⟩
  | succ n ih =>
    intro i hi
    refine r_iload (pc := 6) C dX2_link_6 rfl ?_
    refine r_aload_n (pc := 8) C dX2_link_8 rfl rfl ?_
    refine r_getfield (pc := 9) (v := .int (O 3 0)) C xf_X2_27 dX2_link_9 rfl rfl ?_
    refine r_icmp_ge (pc := 12) (tgt := 95) C dX2_link_12 (by decide) (fun h => absurd h (by rw [hz]; exact nI_ge (by omega) (by omega))) (fun _ => ?_)
    refine r_iload (pc := 15) C dX2_link_15 rfl ?_
    refine r_iload_n (pc := 17) C dX2_link_17 rfl rfl ?_
    refine r_icmp_eq (pc := 18) (tgt := 72) C dX2_link_18 (by decide) (fun h_18 => ?_) (fun h_18 => ?_)
    · skip
      replace h_18 := (nI_eq (by omega) (by omega)).mp h_18
      refine r_aload_n (pc := 72) C dX2_link_72 rfl rfl ?_
      refine r_getfield (pc := 73) (v := .ref 2) C xf_X2_15 dX2_link_73 rfl rfl ?_
      refine r_iload_n (pc := 76) C dX2_link_76 rfl rfl ?_
      refine r_iload (pc := 77) C dX2_link_77 rfl ?_
      refine r_iadd (pc := 79) C dX2_link_79 ?_
      refine r_dup2_11 (pc := 80) C dX2_link_80 rfl rfl ?_
      refine r_iaload (pc := 81) (v := (lnkS (fun o => nrS F (O 0 (st + h)) (O 0 (st + o))) (O 1) st h i) (st + i)) C (st + i) dX2_link_81 rfl (nI_sum rfl rfl) (by first | assumption | omega) rfl ?_
      refine r_iconst (pc := 82) (v := 1) C dX2_link_82 (by decide) ?_
      refine r_iload_n (pc := 83) C dX2_link_83 rfl rfl ?_
      refine r_ishl (pc := 84) C dX2_link_84 ?_
      refine r_iconst (pc := 85) (v := (-1)) C dX2_link_85 (by decide) ?_
      refine r_ixor (pc := 86) C dX2_link_86 ?_
      refine r_iand (pc := 87) C dX2_link_87 ?_
      refine r_iastore (pc := 88) (θ' := wO 0 (up2 O 1 (upd (lnkS (fun o => nrS F (O 0 (st + h)) (O 0 (st + o))) (O 1) st h i) (st + i) (((lnkS (fun o => nrS F (O 0 (st + h)) (O 0 (st + o))) (O 1) st h i) (st + i)) &&& ((1 <<< ((nI h) &&& 31)) ^^^ (-1))))) ++ wF 4 F) C (st + i) dX2_link_88 rfl (nI_sum rfl rfl) (by first | assumption | omega) rfl ?_
      refine r_iinc (pc := 89) (v := nI (i + 1)) (lv' := [some (.ref 0), some (.ref 4), some (.int (nI st)), some (.int (nI h)), some (.int (bitsS (fun o => !decide (o = h) && nrS F (O 0 (st + h)) (O 0 (st + o))) i)), some (.int (nI (i + 1)))]) C dX2_link_89 rfl (nI_1 i) trivial rfl ?_
      refine r_goto (pc := 92) (tgt := 6) C dX2_link_92 (by decide) ?_
      show g 0 0 (wO 0 (up2 O 1 (upd (lnkS (fun o => nrS F (O 0 (st + h)) (O 0 (st + o))) (O 1) st h i) (st + i) (((lnkS (fun o => nrS F (O 0 (st + h)) (O 0 (st + o))) (O 1) st h i) (st + i)) &&& ((1 <<< ((nI h) &&& 31)) ^^^ (-1))))) ++ wF 4 F) 6 [some (.ref 0), some (.ref 4), some (.int (nI st)), some (.int (nI h)), some (.int (bitsS (fun o => !decide (o = h) && nrS F (O 0 (st + h)) (O 0 (st + o))) i)), some (.int (nI (i + 1)))] []
      rw [show (bitsS (fun o => !decide (o = h) && nrS F (O 0 (st + h)) (O 0 (st + o))) i : Int32) = bitsS (fun o => !decide (o = h) && nrS F (O 0 (st + h)) (O 0 (st + o))) (i + 1) from by simp [bitsS, h_18]]
      rw [show (upd (lnkS (fun o => nrS F (O 0 (st + h)) (O 0 (st + o))) (O 1) st h i) (st + i) (((lnkS (fun o => nrS F (O 0 (st + h)) (O 0 (st + o))) (O 1) st h i) (st + i)) &&& ((1 <<< ((nI h) &&& 31)) ^^^ (-1)))) = lnkS (fun o => nrS F (O 0 (st + h)) (O 0 (st + o))) (O 1) st h (i + 1) from by simp [lnkS, h_18]]
      exact ih (i + 1) (by omega)
    · skip
      replace h_18 : ¬ i = h := fun q => h_18 (congrArg nI q)
      refine r_aload_n (pc := 21) C dX2_link_21 rfl rfl ?_
      refine r_aload_n (pc := 22) C dX2_link_22 rfl rfl ?_
      refine r_getfield (pc := 23) (v := .ref 1) C xf_X2_9 dX2_link_23 rfl rfl ?_
      refine r_iload_n (pc := 26) C dX2_link_26 rfl rfl ?_
      refine r_iload_n (pc := 27) C dX2_link_27 rfl rfl ?_
      refine r_iadd (pc := 28) C dX2_link_28 ?_
      refine r_iaload (pc := 29) (v := O 0 (st + h)) C (st + h) dX2_link_29 rfl (nI_sum rfl rfl) (by first | assumption | omega) rfl ?_
      refine r_aload_n (pc := 30) C dX2_link_30 rfl rfl ?_
      refine r_getfield (pc := 31) (v := .ref 1) C xf_X2_9 dX2_link_31 rfl rfl ?_
      refine r_iload_n (pc := 34) C dX2_link_34 rfl rfl ?_
      refine r_iload (pc := 35) C dX2_link_35 rfl ?_
      refine r_iadd (pc := 37) C dX2_link_37 ?_
      refine r_iaload (pc := 38) (v := O 0 (st + i)) C (st + i) dX2_link_38 rfl (nI_sum rfl rfl) (by first | assumption | omega) rfl ?_
      refine r_callVD (pc := 39) (b := 4) (As := [.int (O 0 (st + h)), .int (O 0 (st + i))]) (st := []) (θ2 := wO 0 (up2 O 1 (lnkS (fun o => nrS F (O 0 (st + h)) (O 0 (st + o))) (O 1) st h i)) ++ wF 4 F) (r2 := some (.int (bB (nrS F (O 0 (st + h)) (O 0 (st + i)))))) C [4, 5, 6, 7, 8, 9] (c_X1_areNear F (O 0 (st + h)) (O 0 (st + i))) xm_X1_areNear xk_X2_39 dX2_link_39 rfl (by decide) rfl rfl rfl rfl rfl (Nat.le_of_ble_eq_true rfl) ⟨Nat.le_of_ble_eq_true rfl, Nat.le_of_ble_eq_true rfl⟩ ⟨rfl, rfl⟩ ⟨Nat.le_of_ble_eq_true rfl, Nat.le_of_ble_eq_true rfl⟩ rfl (Eq.trans (b := 6) rfl rfl) rfl rfl ?_
      show g 0 0 (wO 0 (up2 O 1 (lnkS (fun o => nrS F (O 0 (st + h)) (O 0 (st + o))) (O 1) st h i)) ++ wF 4 F) 42 [some (.ref 0), some (.ref 4), some (.int (nI st)), some (.int (nI h)), some (.int (bitsS (fun o => !decide (o = h) && nrS F (O 0 (st + h)) (O 0 (st + o))) i)), some (.int (nI i))] [.int (bB (nrS F (O 0 (st + h)) (O 0 (st + i))))]
      refine r_if_eq (pc := 42) (tgt := 72) C dX2_link_42 (by decide) (fun h_42 => ?_) (fun h_42 => ?_)
      · replace h_42 := bB_f h_42
        refine r_aload_n (pc := 72) C dX2_link_72 rfl rfl ?_
        refine r_getfield (pc := 73) (v := .ref 2) C xf_X2_15 dX2_link_73 rfl rfl ?_
        refine r_iload_n (pc := 76) C dX2_link_76 rfl rfl ?_
        refine r_iload (pc := 77) C dX2_link_77 rfl ?_
        refine r_iadd (pc := 79) C dX2_link_79 ?_
        refine r_dup2_11 (pc := 80) C dX2_link_80 rfl rfl ?_
        refine r_iaload (pc := 81) (v := (lnkS (fun o => nrS F (O 0 (st + h)) (O 0 (st + o))) (O 1) st h i) (st + i)) C (st + i) dX2_link_81 rfl (nI_sum rfl rfl) (by first | assumption | omega) rfl ?_
        refine r_iconst (pc := 82) (v := 1) C dX2_link_82 (by decide) ?_
        refine r_iload_n (pc := 83) C dX2_link_83 rfl rfl ?_
        refine r_ishl (pc := 84) C dX2_link_84 ?_
        refine r_iconst (pc := 85) (v := (-1)) C dX2_link_85 (by decide) ?_
        refine r_ixor (pc := 86) C dX2_link_86 ?_
        refine r_iand (pc := 87) C dX2_link_87 ?_
        refine r_iastore (pc := 88) (θ' := wO 0 (up2 O 1 (upd (lnkS (fun o => nrS F (O 0 (st + h)) (O 0 (st + o))) (O 1) st h i) (st + i) (((lnkS (fun o => nrS F (O 0 (st + h)) (O 0 (st + o))) (O 1) st h i) (st + i)) &&& ((1 <<< ((nI h) &&& 31)) ^^^ (-1))))) ++ wF 4 F) C (st + i) dX2_link_88 rfl (nI_sum rfl rfl) (by first | assumption | omega) rfl ?_
        refine r_iinc (pc := 89) (v := nI (i + 1)) (lv' := [some (.ref 0), some (.ref 4), some (.int (nI st)), some (.int (nI h)), some (.int (bitsS (fun o => !decide (o = h) && nrS F (O 0 (st + h)) (O 0 (st + o))) i)), some (.int (nI (i + 1)))]) C dX2_link_89 rfl (nI_1 i) trivial rfl ?_
        refine r_goto (pc := 92) (tgt := 6) C dX2_link_92 (by decide) ?_
        show g 0 0 (wO 0 (up2 O 1 (upd (lnkS (fun o => nrS F (O 0 (st + h)) (O 0 (st + o))) (O 1) st h i) (st + i) (((lnkS (fun o => nrS F (O 0 (st + h)) (O 0 (st + o))) (O 1) st h i) (st + i)) &&& ((1 <<< ((nI h) &&& 31)) ^^^ (-1))))) ++ wF 4 F) 6 [some (.ref 0), some (.ref 4), some (.int (nI st)), some (.int (nI h)), some (.int (bitsS (fun o => !decide (o = h) && nrS F (O 0 (st + h)) (O 0 (st + o))) i)), some (.int (nI (i + 1)))] []
        rw [show (bitsS (fun o => !decide (o = h) && nrS F (O 0 (st + h)) (O 0 (st + o))) i : Int32) = bitsS (fun o => !decide (o = h) && nrS F (O 0 (st + h)) (O 0 (st + o))) (i + 1) from by simp [bitsS, h_18, h_42]]
        rw [show (upd (lnkS (fun o => nrS F (O 0 (st + h)) (O 0 (st + o))) (O 1) st h i) (st + i) (((lnkS (fun o => nrS F (O 0 (st + h)) (O 0 (st + o))) (O 1) st h i) (st + i)) &&& ((1 <<< ((nI h) &&& 31)) ^^^ (-1)))) = lnkS (fun o => nrS F (O 0 (st + h)) (O 0 (st + o))) (O 1) st h (i + 1) from by simp [lnkS, h_18, h_42]]
        exact ih (i + 1) (by omega)
      · replace h_42 := bB_t h_42
        refine r_iload (pc := 45) C dX2_link_45 rfl ?_
        refine r_iconst (pc := 47) (v := 1) C dX2_link_47 (by decide) ?_
        refine r_iload (pc := 48) C dX2_link_48 rfl ?_
        refine r_ishl (pc := 50) C dX2_link_50 ?_
        refine r_ior (pc := 51) C dX2_link_51 ?_
        refine r_istore (pc := 52) (lv' := [some (.ref 0), some (.ref 4), some (.int (nI st)), some (.int (nI h)), some (.int ((bitsS (fun o => !decide (o = h) && nrS F (O 0 (st + h)) (O 0 (st + o))) i) ||| (1 <<< ((nI i) &&& 31)))), some (.int (nI i))]) C dX2_link_52 (Nat.le_of_ble_eq_true rfl) trivial rfl ?_
        refine r_aload_n (pc := 54) C dX2_link_54 rfl rfl ?_
        refine r_getfield (pc := 55) (v := .ref 2) C xf_X2_15 dX2_link_55 rfl rfl ?_
        refine r_iload_n (pc := 58) C dX2_link_58 rfl rfl ?_
        refine r_iload (pc := 59) C dX2_link_59 rfl ?_
        refine r_iadd (pc := 61) C dX2_link_61 ?_
        refine r_dup2_11 (pc := 62) C dX2_link_62 rfl rfl ?_
        refine r_iaload (pc := 63) (v := (lnkS (fun o => nrS F (O 0 (st + h)) (O 0 (st + o))) (O 1) st h i) (st + i)) C (st + i) dX2_link_63 rfl (nI_sum rfl rfl) (by first | assumption | omega) rfl ?_
        refine r_iconst (pc := 64) (v := 1) C dX2_link_64 (by decide) ?_
        refine r_iload_n (pc := 65) C dX2_link_65 rfl rfl ?_
        refine r_ishl (pc := 66) C dX2_link_66 ?_
        refine r_ior (pc := 67) C dX2_link_67 ?_
        refine r_iastore (pc := 68) (θ' := wO 0 (up2 O 1 (upd (lnkS (fun o => nrS F (O 0 (st + h)) (O 0 (st + o))) (O 1) st h i) (st + i) (((lnkS (fun o => nrS F (O 0 (st + h)) (O 0 (st + o))) (O 1) st h i) (st + i)) ||| (1 <<< ((nI h) &&& 31))))) ++ wF 4 F) C (st + i) dX2_link_68 rfl (nI_sum rfl rfl) (by first | assumption | omega) rfl ?_
        refine r_goto (pc := 69) (tgt := 89) C dX2_link_69 (by decide) ?_
        refine r_iinc (pc := 89) (v := nI (i + 1)) (lv' := [some (.ref 0), some (.ref 4), some (.int (nI st)), some (.int (nI h)), some (.int ((bitsS (fun o => !decide (o = h) && nrS F (O 0 (st + h)) (O 0 (st + o))) i) ||| (1 <<< ((nI i) &&& 31)))), some (.int (nI (i + 1)))]) C dX2_link_89 rfl (nI_1 i) trivial rfl ?_
        refine r_goto (pc := 92) (tgt := 6) C dX2_link_92 (by decide) ?_
        show g 0 0 (wO 0 (up2 O 1 (upd (lnkS (fun o => nrS F (O 0 (st + h)) (O 0 (st + o))) (O 1) st h i) (st + i) (((lnkS (fun o => nrS F (O 0 (st + h)) (O 0 (st + o))) (O 1) st h i) (st + i)) ||| (1 <<< ((nI h) &&& 31))))) ++ wF 4 F) 6 [some (.ref 0), some (.ref 4), some (.int (nI st)), some (.int (nI h)), some (.int ((bitsS (fun o => !decide (o = h) && nrS F (O 0 (st + h)) (O 0 (st + o))) i) ||| (1 <<< ((nI i) &&& 31)))), some (.int (nI (i + 1)))] []
        rw [show ((bitsS (fun o => !decide (o = h) && nrS F (O 0 (st + h)) (O 0 (st + o))) i) ||| (1 <<< ((nI i) &&& 31)) : Int32) = bitsS (fun o => !decide (o = h) && nrS F (O 0 (st + h)) (O 0 (st + o))) (i + 1) from by simp [bitsS, h_18, h_42]]
        rw [show (upd (lnkS (fun o => nrS F (O 0 (st + h)) (O 0 (st + o))) (O 1) st h i) (st + i) (((lnkS (fun o => nrS F (O 0 (st + h)) (O 0 (st + o))) (O 1) st h i) (st + i)) ||| (1 <<< ((nI h) &&& 31)))) = lnkS (fun o => nrS F (O 0 (st + h)) (O 0 (st + o))) (O 1) st h (i + 1) from by simp [lnkS, h_18, h_42]]
        exact ih (i + 1) (by omega)
set_option maxHeartbeats 4000000 in
set_option maxRecDepth 100000 in
theorem c_X2_link (O : Nat → Nat → Int32) (F : Nat → Nat → Int32) (st h : Nat) (hst : st + 6 ≤ 360) (hh : h < 6) (z : Nat) (hz : O 3 0 = nI z) (hz6 : z ≤ 6) (hhz : h < z) : MetA yX2_link (.code yX2_link cX2_link 6 none :: TT) rmX2_link [.ref 0, .ref 4, .int (nI st), .int (nI h)] (wO 0 O ++ wF 4 F) (fun vr wr => vr = none ∧ wr = (wO 0 (up2 O 1 (lnk1 (fun o => nrS F (O 0 (st + h)) (O 0 (st + o))) (O 1) st h z)) ++ wF 4 F)) 0 0 := by
  refine MetA.of_v (by decide) (fun _ => Nat.le_of_ble_eq_true rfl) (Nat.le_of_ble_eq_true rfl) (fun g C E => ?_)
  replace C : Sem cX2_link RX2 "link" 6 rmX2_link g := C
  show g 0 0 (wO 0 O ++ wF 4 F) 0 [some (.ref 0), some (.ref 4), some (.int (nI st)), some (.int (nI h)), none, none] []
  refine r_iconst (pc := 0) (v := 0) C dX2_link_0 (by decide) ?_
  refine r_istore (pc := 1) (lv' := [some (.ref 0), some (.ref 4), some (.int (nI st)), some (.int (nI h)), some (.int 0), none]) C dX2_link_1 (Nat.le_of_ble_eq_true rfl) trivial rfl ?_
  refine r_iconst (pc := 3) (v := 0) C dX2_link_3 (by decide) ?_
  refine r_istore (pc := 4) (lv' := [some (.ref 0), some (.ref 4), some (.int (nI st)), some (.int (nI h)), some (.int 0), some (.int 0)]) C dX2_link_4 (Nat.le_of_ble_eq_true rfl) trivial rfl ?_
  exact lp_X2_link O F st h hst hh z hz hz6 hhz C E z 0 (by omega)
set_option maxHeartbeats 4000000 in
set_option maxRecDepth 100000 in
theorem lp_X2_spread (O : Nat → Nat → Int32) (hv : Int32) (t : Nat) (ht : t < 60) (bar : Int32) (z : Nat) (hz : O 3 0 = nI z) (hz6 : z ≤ 6) {g : Nat → Nat → List xE → Nat → List (Option Value) → List Value → Prop} (C : Sem cX2_spread RX2 "spread" 6 rmX2_spread g) (E : xEi g cX2_spread .int 0 0 (fun vr wr => vr = some (.int (spdS (O 1) t hv bar z)) ∧ wr = wO 0 O)) : ∀ (n : Nat) (i : Nat), i + n = z → g 0 0 (wO 0 O) 6 [some (.ref 0), some (.int hv), some (.int (nI t)), some (.int bar), some (.int (spdS (O 1) t hv bar i)), some (.int (nI i))] [] := by
  intro n
  induction n with
  | zero =>
    intro i hi
    obtain rfl : i = z := by omega
    refine r_iload (pc := 6) C dX2_spread_6 rfl ?_
    refine r_aload_n (pc := 8) C dX2_spread_8 rfl rfl ?_
    refine r_getfield (pc := 9) (v := .int (O 3 0)) C xf_X2_27 dX2_spread_9 rfl rfl ?_
    refine r_icmp_ge (pc := 12) (tgt := 56) C dX2_spread_12 (by decide) (fun _ => ?_) (fun h => absurd (by rw [hz]; exact nI_le (by omega) (by omega)) h)
    refine r_iload (pc := 56) C dX2_spread_56 rfl ?_
    exact E _ _ _ _ _ _ dX2_spread_58 (Nat.le_refl _) (Nat.le_refl _) rfl ⟨rfl, rfl⟩
  | succ n ih =>
    intro i hi
    refine r_iload (pc := 6) C dX2_spread_6 rfl ?_
    refine r_aload_n (pc := 8) C dX2_spread_8 rfl rfl ?_
    refine r_getfield (pc := 9) (v := .int (O 3 0)) C xf_X2_27 dX2_spread_9 rfl rfl ?_
    refine r_icmp_ge (pc := 12) (tgt := 56) C dX2_spread_12 (by decide) (fun h => absurd h (by rw [hz]; exact nI_ge (by omega) (by omega))) (fun _ => ?_)
    refine r_iload_n (pc := 15) C dX2_spread_15 rfl rfl ?_
    refine r_iload_n (pc := 16) C dX2_spread_16 rfl rfl ?_
    refine r_iconst (pc := 17) (v := (-1)) C dX2_spread_17 (by decide) ?_
    refine r_ixor (pc := 18) C dX2_spread_18 ?_
    refine r_iand (pc := 19) C dX2_spread_19 ?_
    refine r_iload (pc := 20) C dX2_spread_20 rfl ?_
    refine r_ishr (pc := 22) C dX2_spread_22 ?_
    refine r_iconst (pc := 23) (v := 1) C dX2_spread_23 (by decide) ?_
    refine r_iand (pc := 24) C dX2_spread_24 ?_
    refine r_iconst (pc := 25) (v := 1) C dX2_spread_25 (by decide) ?_
    refine r_icmp_ne (pc := 26) (tgt := 50) C dX2_spread_26 (by decide) (fun h_26 => ?_) (fun h_26 => ?_)
    · skip
      refine r_iinc (pc := 50) (v := nI (i + 1)) (lv' := [some (.ref 0), some (.int hv), some (.int (nI t)), some (.int bar), some (.int (spdS (O 1) t hv bar i)), some (.int (nI (i + 1)))]) C dX2_spread_50 rfl (nI_1 i) trivial rfl ?_
      refine r_goto (pc := 53) (tgt := 6) C dX2_spread_53 (by decide) ?_
      show g 0 0 (wO 0 O) 6 [some (.ref 0), some (.int hv), some (.int (nI t)), some (.int bar), some (.int (spdS (O 1) t hv bar i)), some (.int (nI (i + 1)))] []
      rw [show (spdS (O 1) t hv bar i : Int32) = spdS (O 1) t hv bar (i + 1) from by simp only [spdS, has_n h_26, Bool.false_eq_true, if_false]]
      exact ih (i + 1) (by omega)
    · skip
      refine r_iload (pc := 29) C dX2_spread_29 rfl ?_
      refine r_aload_n (pc := 31) C dX2_spread_31 rfl rfl ?_
      refine r_getfield (pc := 32) (v := .ref 2) C xf_X2_15 dX2_spread_32 rfl rfl ?_
      refine r_iload_n (pc := 35) C dX2_spread_35 rfl rfl ?_
      refine r_bipush (pc := 36) (v := 6) C dX2_spread_36 (by decide) ?_
      refine r_imul (pc := 38) C dX2_spread_38 ?_
      refine r_iload (pc := 39) C dX2_spread_39 rfl ?_
      refine r_iadd (pc := 41) C dX2_spread_41 ?_
      refine r_iaload (pc := 42) (v := O 1 (t * 6 + i)) C (t * 6 + i) dX2_spread_42 rfl (nI_sum (nI_prod rfl rfl) rfl) (by first | assumption | omega) rfl ?_
      refine r_iload_n (pc := 43) C dX2_spread_43 rfl rfl ?_
      refine r_iconst (pc := 44) (v := (-1)) C dX2_spread_44 (by decide) ?_
      refine r_ixor (pc := 45) C dX2_spread_45 ?_
      refine r_iand (pc := 46) C dX2_spread_46 ?_
      refine r_ior (pc := 47) C dX2_spread_47 ?_
      refine r_istore (pc := 48) (lv' := [some (.ref 0), some (.int hv), some (.int (nI t)), some (.int bar), some (.int ((spdS (O 1) t hv bar i) ||| ((O 1 (t * 6 + i)) &&& (bar ^^^ (-1))))), some (.int (nI i))]) C dX2_spread_48 (Nat.le_of_ble_eq_true rfl) trivial rfl ?_
      refine r_iinc (pc := 50) (v := nI (i + 1)) (lv' := [some (.ref 0), some (.int hv), some (.int (nI t)), some (.int bar), some (.int ((spdS (O 1) t hv bar i) ||| ((O 1 (t * 6 + i)) &&& (bar ^^^ (-1))))), some (.int (nI (i + 1)))]) C dX2_spread_50 rfl (nI_1 i) trivial rfl ?_
      refine r_goto (pc := 53) (tgt := 6) C dX2_spread_53 (by decide) ?_
      show g 0 0 (wO 0 O) 6 [some (.ref 0), some (.int hv), some (.int (nI t)), some (.int bar), some (.int ((spdS (O 1) t hv bar i) ||| ((O 1 (t * 6 + i)) &&& (bar ^^^ (-1))))), some (.int (nI (i + 1)))] []
      rw [show ((spdS (O 1) t hv bar i) ||| ((O 1 (t * 6 + i)) &&& (bar ^^^ (-1))) : Int32) = spdS (O 1) t hv bar (i + 1) from by simp only [spdS, has_p h_26, if_true]]
      exact ih (i + 1) (by omega)
set_option maxHeartbeats 4000000 in
set_option maxRecDepth 100000 in
theorem c_X2_spread (O : Nat → Nat → Int32) (hv : Int32) (t : Nat) (ht : t < 60) (bar : Int32) (z : Nat) (hz : O 3 0 = nI z) (hz6 : z ≤ 6) : MetA yX2_spread (.code yX2_spread cX2_spread 6 (some .int) :: TT) rmX2_spread [.ref 0, .int hv, .int (nI t), .int bar] (wO 0 O) (fun vr wr => vr = some (.int (spdS (O 1) t hv bar z)) ∧ wr = wO 0 O) 0 0 := by
  refine MetA.of_i (by decide) (fun _ => Nat.le_of_ble_eq_true rfl) (Nat.le_of_ble_eq_true rfl) (fun g C E => ?_)
  replace C : Sem cX2_spread RX2 "spread" 6 rmX2_spread g := C
  show g 0 0 (wO 0 O) 0 [some (.ref 0), some (.int hv), some (.int (nI t)), some (.int bar), none, none] []
  refine r_iload_n (pc := 0) C dX2_spread_0 rfl rfl ?_
  refine r_istore (pc := 1) (lv' := [some (.ref 0), some (.int hv), some (.int (nI t)), some (.int bar), some (.int hv), none]) C dX2_spread_1 (Nat.le_of_ble_eq_true rfl) trivial rfl ?_
  refine r_iconst (pc := 3) (v := 0) C dX2_spread_3 (by decide) ?_
  refine r_istore (pc := 4) (lv' := [some (.ref 0), some (.int hv), some (.int (nI t)), some (.int bar), some (.int hv), some (.int 0)]) C dX2_spread_4 (Nat.le_of_ble_eq_true rfl) trivial rfl ?_
  exact lp_X2_spread O hv t ht bar z hz hz6 C E z 0 (by omega)
set_option maxHeartbeats 4000000 in
set_option maxRecDepth 100000 in
theorem lp_X2_holders (O : Nat → Nat → Int32) (a : Int32) (d : Nat) (hd : d ≤ 60) (z : Nat) (hz : O 3 0 = nI z) (hz6 : z ≤ 6) {g : Nat → Nat → List xE → Nat → List (Option Value) → List Value → Prop} (C : Sem cX2_holders RX2 "holders" 5 rmX2_holders g) (E : xEi g cX2_holders .int 0 0 (fun vr wr => vr = some (.int (hvS (O 1) z a 0 d)) ∧ wr = wO 0 O)) : ∀ (n : Nat) (t : Nat), t + n = d → g 0 0 (wO 0 O) 7 [some (.ref 0), some (.int a), some (.int (nI d)), some (.int (hvS (O 1) z a 0 t)), some (.int (nI t))] [] := by
  intro n
  induction n with
  | zero =>
    intro t ht
    obtain rfl : t = d := by omega
    refine r_iload (pc := 7) C dX2_holders_7 rfl ?_
    refine r_iload_n (pc := 9) C dX2_holders_9 rfl rfl ?_
    refine r_icmp_ge (pc := 10) (tgt := 35) C dX2_holders_10 (by decide) (fun _ => ?_) (fun h => absurd (nI_le (by omega) (by omega)) h)
    refine r_iload_n (pc := 35) C dX2_holders_35 rfl rfl ?_
    exact E _ _ _ _ _ _ dX2_holders_36 (Nat.le_refl _) (Nat.le_refl _) rfl ⟨rfl, rfl⟩
  | succ n ih =>
    intro t ht
    refine r_iload (pc := 7) C dX2_holders_7 rfl ?_
    refine r_iload_n (pc := 9) C dX2_holders_9 rfl rfl ?_
    refine r_icmp_ge (pc := 10) (tgt := 35) C dX2_holders_10 (by decide) (fun h => absurd h (nI_ge (by omega) (by omega))) (fun _ => ?_)
    refine r_iload (pc := 13) C dX2_holders_13 rfl ?_
    refine r_bipush (pc := 15) (v := 60) C dX2_holders_15 (by decide) ?_
    refine r_icmp_ge (pc := 17) (tgt := 35) C dX2_holders_17 (by decide) (fun h => absurd h (nI_ge (b := 60) (by omega) (by omega))) (fun _ => ?_)
    refine r_aload_n (pc := 20) C dX2_holders_20 rfl rfl ?_
    refine r_iload_n (pc := 21) C dX2_holders_21 rfl rfl ?_
    refine r_iload (pc := 22) C dX2_holders_22 rfl ?_
    refine r_iconst (pc := 24) (v := 0) C dX2_holders_24 (by decide) ?_
    refine r_callV0 (pc := 25) (As := [.int (hvS (O 1) z a 0 t), .int (nI t), .int 0]) (st := []) (θ' := wO 0 O) C (c_X2_spread O (hvS (O 1) z a 0 t) t (by omega) 0 z hz hz6) xm_X2_spread xk_X2_43 dX2_holders_25 rfl rfl rfl rfl (Nat.le_of_ble_eq_true rfl) ⟨Nat.le_of_ble_eq_true rfl, Nat.le_of_ble_eq_true rfl⟩ ⟨rfl, rfl⟩ ⟨Nat.le_of_ble_eq_true rfl, Nat.le_of_ble_eq_true rfl⟩ rfl (Eq.trans (b := 4) rfl rfl) ?_
    show g 0 0 (wO 0 O) 28 [some (.ref 0), some (.int a), some (.int (nI d)), some (.int (hvS (O 1) z a 0 t)), some (.int (nI t))] [.int (spdS (O 1) t (hvS (O 1) z a 0 t) 0 z)]
    refine r_istore_n (pc := 28) (lv' := [some (.ref 0), some (.int a), some (.int (nI d)), some (.int (spdS (O 1) t (hvS (O 1) z a 0 t) 0 z)), some (.int (nI t))]) C dX2_holders_28 rfl (Nat.le_of_ble_eq_true rfl) trivial rfl ?_
    refine r_iinc (pc := 29) (v := nI (t + 1)) (lv' := [some (.ref 0), some (.int a), some (.int (nI d)), some (.int (spdS (O 1) t (hvS (O 1) z a 0 t) 0 z)), some (.int (nI (t + 1)))]) C dX2_holders_29 rfl (nI_1 t) trivial rfl ?_
    refine r_goto (pc := 32) (tgt := 7) C dX2_holders_32 (by decide) ?_
    show g 0 0 (wO 0 O) 7 [some (.ref 0), some (.int a), some (.int (nI d)), some (.int (spdS (O 1) t (hvS (O 1) z a 0 t) 0 z)), some (.int (nI (t + 1)))] []
    exact ih (t + 1) (by omega)
set_option maxHeartbeats 4000000 in
set_option maxRecDepth 100000 in
theorem c_X2_holders (O : Nat → Nat → Int32) (a : Int32) (d : Nat) (hd : d ≤ 60) (z : Nat) (hz : O 3 0 = nI z) (hz6 : z ≤ 6) : MetA yX2_holders (.code yX2_holders cX2_holders 5 (some .int) :: TT) rmX2_holders [.ref 0, .int a, .int (nI d)] (wO 0 O) (fun vr wr => vr = some (.int (hvS (O 1) z a 0 d)) ∧ wr = wO 0 O) 0 0 := by
  refine MetA.of_i (by decide) (fun _ => Nat.le_of_ble_eq_true rfl) (Nat.le_of_ble_eq_true rfl) (fun g C E => ?_)
  replace C : Sem cX2_holders RX2 "holders" 5 rmX2_holders g := C
  show g 0 0 (wO 0 O) 0 [some (.ref 0), some (.int a), some (.int (nI d)), none, none] []
  refine r_iconst (pc := 0) (v := 1) C dX2_holders_0 (by decide) ?_
  refine r_iload_n (pc := 1) C dX2_holders_1 rfl rfl ?_
  refine r_ishl (pc := 2) C dX2_holders_2 ?_
  refine r_istore_n (pc := 3) (lv' := [some (.ref 0), some (.int a), some (.int (nI d)), some (.int (1 <<< (a &&& 31))), none]) C dX2_holders_3 rfl (Nat.le_of_ble_eq_true rfl) trivial rfl ?_
  refine r_iconst (pc := 4) (v := 0) C dX2_holders_4 (by decide) ?_
  refine r_istore (pc := 5) (lv' := [some (.ref 0), some (.int a), some (.int (nI d)), some (.int (1 <<< (a &&& 31))), some (.int 0)]) C dX2_holders_5 (Nat.le_of_ble_eq_true rfl) trivial rfl ?_
  exact lp_X2_holders O a d hd z hz hz6 C E d 0 (by omega)
set_option maxHeartbeats 4000000 in
set_option maxRecDepth 100000 in
theorem lp_X2_arrival (O : Nat → Nat → Int32) (a b : Int32) (d : Nat) (hd : d ≤ 60) (bar : Int32) (z : Nat) (hz : O 3 0 = nI z) (hz6 : z ≤ 6) {g : Nat → Nat → List xE → Nat → List (Option Value) → List Value → Prop} (C : Sem cX2_arrival RX2 "arrival" 7 rmX2_arrival g) (E : xEi g cX2_arrival .int 0 0 (fun vr wr => vr = some (.int (arrS (O 1) z a b d bar)) ∧ wr = wO 0 O)) : ∀ (n : Nat) (t : Nat), t + n = d → arrFrom (fun t => hasS (hvS (O 1) z a bar t) b) n t = arrFrom (fun t => hasS (hvS (O 1) z a bar t) b) d 0 → g 0 0 (wO 0 O) 8 [some (.ref 0), some (.int a), some (.int b), some (.int (nI d)), some (.int bar), some (.int (hvS (O 1) z a bar t)), some (.int (nI t))] [] := by
  intro n
  induction n with
  | zero =>
    intro t ht hE
    refine r_iload (pc := 8) C dX2_arrival_8 rfl ?_
    refine r_iload_n (pc := 10) C dX2_arrival_10 rfl rfl ?_
    refine r_icmp_ge (pc := 11) (tgt := 48) C dX2_arrival_11 (by decide) (fun _ => ?_) (fun h => absurd (nI_le (by omega) (by omega)) h)
    refine r_iload (pc := 48) C dX2_arrival_48 rfl ?_
    refine r_iload_n (pc := 50) C dX2_arrival_50 rfl rfl ?_
    refine r_ishr (pc := 51) C dX2_arrival_51 ?_
    refine r_iconst (pc := 52) (v := 1) C dX2_arrival_52 (by decide) ?_
    refine r_iand (pc := 53) C dX2_arrival_53 ?_
    refine r_iconst (pc := 54) (v := 1) C dX2_arrival_54 (by decide) ?_
    refine r_icmp_ne (pc := 55) (tgt := 63) C dX2_arrival_55 (by decide) (fun h_55 => ?_) (fun h_55 => ?_)
    · skip
      refine r_ldc (pc := 63) (v := (-1000000)) C dX2_arrival_63 tw_449 ?_
      exact E _ _ _ _ _ _ dX2_arrival_65 (Nat.le_refl _) (Nat.le_refl _) rfl ⟨congrArg (fun z => some (Value.int z)) (by unfold arrS; rw [← hE]; simp [arrFrom, hasS, h_55]), rfl⟩
    · skip
      refine r_iload (pc := 58) C dX2_arrival_58 rfl ?_
      refine r_goto (pc := 60) (tgt := 65) C dX2_arrival_60 (by decide) ?_
      exact E _ _ _ _ _ _ dX2_arrival_65 (Nat.le_refl _) (Nat.le_refl _) rfl ⟨congrArg (fun z => some (Value.int z)) (by unfold arrS; rw [← hE]; simp [arrFrom, hasS, h_55]), rfl⟩
  | succ n ih =>
    intro t ht hE
    refine r_iload (pc := 8) C dX2_arrival_8 rfl ?_
    refine r_iload_n (pc := 10) C dX2_arrival_10 rfl rfl ?_
    refine r_icmp_ge (pc := 11) (tgt := 48) C dX2_arrival_11 (by decide) (fun h => absurd h (nI_ge (by omega) (by omega))) (fun _ => ?_)
    refine r_iload (pc := 14) C dX2_arrival_14 rfl ?_
    refine r_bipush (pc := 16) (v := 60) C dX2_arrival_16 (by decide) ?_
    refine r_icmp_ge (pc := 18) (tgt := 48) C dX2_arrival_18 (by decide) (fun h => absurd h (nI_ge (b := 60) (by omega) (by omega))) (fun _ => ?_)
    refine r_iload (pc := 21) C dX2_arrival_21 rfl ?_
    refine r_iload_n (pc := 23) C dX2_arrival_23 rfl rfl ?_
    refine r_ishr (pc := 24) C dX2_arrival_24 ?_
    refine r_iconst (pc := 25) (v := 1) C dX2_arrival_25 (by decide) ?_
    refine r_iand (pc := 26) C dX2_arrival_26 ?_
    refine r_if_ne (pc := 27) (tgt := 48) C dX2_arrival_27 (by decide) (fun h_27 => ?_) (fun h_27 => ?_)
    · skip
      refine r_iload (pc := 48) C dX2_arrival_48 rfl ?_
      refine r_iload_n (pc := 50) C dX2_arrival_50 rfl rfl ?_
      refine r_ishr (pc := 51) C dX2_arrival_51 ?_
      refine r_iconst (pc := 52) (v := 1) C dX2_arrival_52 (by decide) ?_
      refine r_iand (pc := 53) C dX2_arrival_53 ?_
      refine r_iconst (pc := 54) (v := 1) C dX2_arrival_54 (by decide) ?_
      refine r_icmp_ne (pc := 55) (tgt := 63) C dX2_arrival_55 (by decide) (fun h_55 => ?_) (fun h_55 => ?_)
      · skip
        refine r_ldc (pc := 63) (v := (-1000000)) C dX2_arrival_63 tw_449 ?_
        exact absurd (by rcases bit01 _ with q | q; exact absurd q h_27; exact q) h_55
      · skip
        refine r_iload (pc := 58) C dX2_arrival_58 rfl ?_
        refine r_goto (pc := 60) (tgt := 65) C dX2_arrival_60 (by decide) ?_
        exact E _ _ _ _ _ _ dX2_arrival_65 (Nat.le_refl _) (Nat.le_refl _) rfl ⟨congrArg (fun z => some (Value.int z)) (by unfold arrS; rw [← hE]; simp [arrFrom, hasS, h_27, h_55]), rfl⟩
    · skip
      refine r_aload_n (pc := 30) C dX2_arrival_30 rfl rfl ?_
      refine r_iload (pc := 31) C dX2_arrival_31 rfl ?_
      refine r_iload (pc := 33) C dX2_arrival_33 rfl ?_
      refine r_iload (pc := 35) C dX2_arrival_35 rfl ?_
      refine r_callV0 (pc := 37) (As := [.int (hvS (O 1) z a bar t), .int (nI t), .int bar]) (st := []) (θ' := wO 0 O) C (c_X2_spread O (hvS (O 1) z a bar t) t (by omega) bar z hz hz6) xm_X2_spread xk_X2_43 dX2_arrival_37 rfl rfl rfl rfl (Nat.le_of_ble_eq_true rfl) ⟨Nat.le_of_ble_eq_true rfl, Nat.le_of_ble_eq_true rfl⟩ ⟨rfl, rfl⟩ ⟨Nat.le_of_ble_eq_true rfl, Nat.le_of_ble_eq_true rfl⟩ rfl (Eq.trans (b := 4) rfl rfl) ?_
      show g 0 0 (wO 0 O) 40 [some (.ref 0), some (.int a), some (.int b), some (.int (nI d)), some (.int bar), some (.int (hvS (O 1) z a bar t)), some (.int (nI t))] [.int (spdS (O 1) t (hvS (O 1) z a bar t) bar z)]
      refine r_istore (pc := 40) (lv' := [some (.ref 0), some (.int a), some (.int b), some (.int (nI d)), some (.int bar), some (.int (spdS (O 1) t (hvS (O 1) z a bar t) bar z)), some (.int (nI t))]) C dX2_arrival_40 (Nat.le_of_ble_eq_true rfl) trivial rfl ?_
      refine r_iinc (pc := 42) (v := nI (t + 1)) (lv' := [some (.ref 0), some (.int a), some (.int b), some (.int (nI d)), some (.int bar), some (.int (spdS (O 1) t (hvS (O 1) z a bar t) bar z)), some (.int (nI (t + 1)))]) C dX2_arrival_42 rfl (nI_1 t) trivial rfl ?_
      refine r_goto (pc := 45) (tgt := 8) C dX2_arrival_45 (by decide) ?_
      show g 0 0 (wO 0 O) 8 [some (.ref 0), some (.int a), some (.int b), some (.int (nI d)), some (.int bar), some (.int (spdS (O 1) t (hvS (O 1) z a bar t) bar z)), some (.int (nI (t + 1)))] []
      exact ih (t + 1) (by omega) (by rw [← hE]; simp [arrFrom, has_f h_27])
set_option maxHeartbeats 4000000 in
set_option maxRecDepth 100000 in
theorem c_X2_arrival (O : Nat → Nat → Int32) (a b : Int32) (d : Nat) (hd : d ≤ 60) (bar : Int32) (z : Nat) (hz : O 3 0 = nI z) (hz6 : z ≤ 6) : MetA yX2_arrival (.code yX2_arrival cX2_arrival 7 (some .int) :: TT) rmX2_arrival [.ref 0, .int a, .int b, .int (nI d), .int bar] (wO 0 O) (fun vr wr => vr = some (.int (arrS (O 1) z a b d bar)) ∧ wr = wO 0 O) 0 0 := by
  refine MetA.of_i (by decide) (fun _ => Nat.le_of_ble_eq_true rfl) (Nat.le_of_ble_eq_true rfl) (fun g C E => ?_)
  replace C : Sem cX2_arrival RX2 "arrival" 7 rmX2_arrival g := C
  show g 0 0 (wO 0 O) 0 [some (.ref 0), some (.int a), some (.int b), some (.int (nI d)), some (.int bar), none, none] []
  refine r_iconst (pc := 0) (v := 1) C dX2_arrival_0 (by decide) ?_
  refine r_iload_n (pc := 1) C dX2_arrival_1 rfl rfl ?_
  refine r_ishl (pc := 2) C dX2_arrival_2 ?_
  refine r_istore (pc := 3) (lv' := [some (.ref 0), some (.int a), some (.int b), some (.int (nI d)), some (.int bar), some (.int (1 <<< (a &&& 31))), none]) C dX2_arrival_3 (Nat.le_of_ble_eq_true rfl) trivial rfl ?_
  refine r_iconst (pc := 5) (v := 0) C dX2_arrival_5 (by decide) ?_
  refine r_istore (pc := 6) (lv' := [some (.ref 0), some (.int a), some (.int b), some (.int (nI d)), some (.int bar), some (.int (1 <<< (a &&& 31))), some (.int 0)]) C dX2_arrival_6 (Nat.le_of_ble_eq_true rfl) trivial rfl ?_
  exact lp_X2_arrival O a b d hd bar z hz hz6 C E d 0 (by omega) rfl
set_option maxHeartbeats 4000000 in
set_option maxRecDepth 100000 in
theorem lp_X2_foreseeAnew (O : Nat → Nat → Int32) (F : Nat → Nat → Int32) (z : Nat) (hz : O 3 0 = nI z) (hz6 : z ≤ 6) (c : Nat) (hc : c < z) (d : Nat) (hd : d ≤ 60) (hW : okW F) {g : Nat → Nat → List xE → Nat → List (Option Value) → List Value → Prop} (C : Sem cX2_foreseeAnew RX2 "foreseeAnew" 6 rmX2_foreseeAnew g) (E : xEv g cX2_foreseeAnew 0 0 (fun vr wr => vr = none ∧ wr = wO 0 (up2 (up2 O 0 (faSp F c (O 0) d)) 1 (faNr F z c (O 0) (O 1) d)) ++ wF 4 F)) : ∀ (n : Nat) (t : Nat), t + n = d → g 0 0 (wO 0 (up2 (up2 O 0 (faSp F c (O 0) t)) 1 (faNr F z c (O 0) (O 1) t)) ++ wF 4 F) 3 [some (.ref 0), some (.ref 4), some (.int (nI c)), some (.int (nI d)), some (.int (nI t)), none] [] := by
  intro n
  induction n with
  | zero =>
    intro t ht
    obtain rfl : t = d := by omega
    refine r_iload (pc := 3) C dX2_foreseeAnew_3 rfl ?_
    refine r_iload_n (pc := 5) C dX2_foreseeAnew_5 rfl rfl ?_
    refine r_icmp_ge (pc := 6) (tgt := 58) C dX2_foreseeAnew_6 (by decide) (fun _ => ?_) (fun h => absurd (nI_le (by omega) (by omega)) h)
    exact E _ _ _ _ _ dX2_foreseeAnew_58 (Nat.le_refl _) (Nat.le_refl _) ⟨rfl, rfl⟩
  | succ n ih =>
    intro t ht
    refine r_iload (pc := 3) C dX2_foreseeAnew_3 rfl ?_
    refine r_iload_n (pc := 5) C dX2_foreseeAnew_5 rfl rfl ?_
    refine r_icmp_ge (pc := 6) (tgt := 58) C dX2_foreseeAnew_6 (by decide) (fun h => absurd h (nI_ge (by omega) (by omega))) (fun _ => ?_)
    refine r_iload (pc := 9) C dX2_foreseeAnew_9 rfl ?_
    refine r_bipush (pc := 11) (v := 60) C dX2_foreseeAnew_11 (by decide) ?_
    refine r_icmp_ge (pc := 13) (tgt := 58) C dX2_foreseeAnew_13 (by decide) (fun h => absurd h (nI_ge (b := 60) (by omega) (by omega))) (fun _ => ?_)
    refine r_iload (pc := 16) C dX2_foreseeAnew_16 rfl ?_
    refine r_bipush (pc := 18) (v := 6) C dX2_foreseeAnew_18 (by decide) ?_
    refine r_imul (pc := 20) C dX2_foreseeAnew_20 ?_
    show g 0 0 (wO 0 (up2 (up2 O 0 (faSp F c (O 0) t)) 1 (faNr F z c (O 0) (O 1) t)) ++ wF 4 F) 21 [some (.ref 0), some (.ref 4), some (.int (nI c)), some (.int (nI d)), some (.int (nI t)), none] [.int ((nI t) * 6)]
    rw [show ((nI t) * 6 : Int32) = nI (t * 6) from (nI_prod rfl rfl)]
    refine r_istore (pc := 21) (lv' := [some (.ref 0), some (.ref 4), some (.int (nI c)), some (.int (nI d)), some (.int (nI t)), some (.int (nI (t * 6)))]) C dX2_foreseeAnew_21 (Nat.le_of_ble_eq_true rfl) trivial rfl ?_
    refine r_aload_n (pc := 23) C dX2_foreseeAnew_23 rfl rfl ?_
    refine r_getfield (pc := 24) (v := .ref 1) C xf_X2_9 dX2_foreseeAnew_24 rfl rfl ?_
    refine r_iload (pc := 27) C dX2_foreseeAnew_27 rfl ?_
    refine r_iload_n (pc := 29) C dX2_foreseeAnew_29 rfl rfl ?_
    refine r_iadd (pc := 30) C dX2_foreseeAnew_30 ?_
    refine r_aload_n (pc := 31) C dX2_foreseeAnew_31 rfl rfl ?_
    refine r_iload_n (pc := 32) C dX2_foreseeAnew_32 rfl rfl ?_
    refine r_aload_n (pc := 33) C dX2_foreseeAnew_33 rfl rfl ?_
    refine r_getfield (pc := 34) (v := .int (F 8 0)) C xf_X2_28 dX2_foreseeAnew_34 rfl rfl ?_
    refine r_iload (pc := 37) C dX2_foreseeAnew_37 rfl ?_
    refine r_iadd (pc := 39) C dX2_foreseeAnew_39 ?_
    refine r_callVD (pc := 40) (b := 4) (As := [.int (nI c), .int ((F 8 0) + (nI t))]) (st := [.int ((nI (t * 6)) + (nI c)), .ref 1]) (θ2 := wO 0 (up2 (up2 O 0 (faSp F c (O 0) t)) 1 (faNr F z c (O 0) (O 1) t)) ++ wF 4 F) (r2 := some (.int (spS F c ((F 8 0) + (nI t))))) C [4, 5, 6, 7, 8, 9] (c_X1_spot F c (by omega) ((F 8 0) + (nI t)) hW) xm_X1_spot xk_X2_31 dX2_foreseeAnew_40 rfl (by decide) rfl rfl rfl rfl rfl (Nat.le_of_ble_eq_true rfl) ⟨Nat.le_of_ble_eq_true rfl, Nat.le_of_ble_eq_true rfl⟩ ⟨rfl, rfl⟩ ⟨Nat.le_of_ble_eq_true rfl, Nat.le_of_ble_eq_true rfl⟩ rfl (Eq.trans (b := 6) rfl rfl) rfl rfl ?_
    show g 0 0 (wO 0 (up2 (up2 O 0 (faSp F c (O 0) t)) 1 (faNr F z c (O 0) (O 1) t)) ++ wF 4 F) 43 [some (.ref 0), some (.ref 4), some (.int (nI c)), some (.int (nI d)), some (.int (nI t)), some (.int (nI (t * 6)))] [.int (spS F c ((F 8 0) + (nI t))), .int ((nI (t * 6)) + (nI c)), .ref 1]
    refine r_iastore (pc := 43) (θ' := wO 0 (up2 (up2 O 1 (faNr F z c (O 0) (O 1) t)) 0 (upd (faSp F c (O 0) t) ((t * 6) + c) (spS F c ((F 8 0) + (nI t))))) ++ wF 4 F) C ((t * 6) + c) dX2_foreseeAnew_43 rfl (nI_sum rfl rfl) (by first | assumption | omega) rfl ?_
    refine r_aload_n (pc := 44) C dX2_foreseeAnew_44 rfl rfl ?_
    refine r_aload_n (pc := 45) C dX2_foreseeAnew_45 rfl rfl ?_
    refine r_iload (pc := 46) C dX2_foreseeAnew_46 rfl ?_
    refine r_iload_n (pc := 48) C dX2_foreseeAnew_48 rfl rfl ?_
    refine r_callV0 (pc := 49) (As := [.ref 4, .int (nI (t * 6)), .int (nI c)]) (st := []) (θ' := wO 0 (up2 (up2 O 0 (upd (faSp F c (O 0) t) ((t * 6) + c) (spS F c ((F 8 0) + (nI t))))) 1 (lnk1 (fun o => nrS F (upd (faSp F c (O 0) t) ((t * 6) + c) (spS F c ((F 8 0) + (nI t))) ((t * 6) + c)) (upd (faSp F c (O 0) t) ((t * 6) + c) (spS F c ((F 8 0) + (nI t))) ((t * 6) + o))) (faNr F z c (O 0) (O 1) t) ((t * 6)) (c) z)) ++ wF 4 F) C (c_X2_link (up2 (up2 O 1 (faNr F z c (O 0) (O 1) t)) 0 (upd (faSp F c (O 0) t) ((t * 6) + c) (spS F c ((F 8 0) + (nI t))))) F ((t * 6)) (c) (by omega) (by omega) z hz hz6 (by omega)) xm_X2_link xk_X2_35 dX2_foreseeAnew_49 rfl rfl rfl rfl (Nat.le_of_ble_eq_true rfl) ⟨Nat.le_of_ble_eq_true rfl, Nat.le_of_ble_eq_true rfl⟩ ⟨rfl, rfl⟩ ⟨Nat.le_of_ble_eq_true rfl, Nat.le_of_ble_eq_true rfl⟩ rfl (Eq.trans (b := 10) rfl rfl) ?_
    show g 0 0 (wO 0 (up2 (up2 O 0 (upd (faSp F c (O 0) t) ((t * 6) + c) (spS F c ((F 8 0) + (nI t))))) 1 (lnk1 (fun o => nrS F (upd (faSp F c (O 0) t) ((t * 6) + c) (spS F c ((F 8 0) + (nI t))) ((t * 6) + c)) (upd (faSp F c (O 0) t) ((t * 6) + c) (spS F c ((F 8 0) + (nI t))) ((t * 6) + o))) (faNr F z c (O 0) (O 1) t) ((t * 6)) (c) z)) ++ wF 4 F) 52 [some (.ref 0), some (.ref 4), some (.int (nI c)), some (.int (nI d)), some (.int (nI t)), some (.int (nI (t * 6)))] []
    refine r_iinc (pc := 52) (v := nI (t + 1)) (lv' := [some (.ref 0), some (.ref 4), some (.int (nI c)), some (.int (nI d)), some (.int (nI (t + 1))), some (.int (nI (t * 6)))]) C dX2_foreseeAnew_52 rfl (nI_1 t) trivial rfl ?_
    refine r_goto (pc := 55) (tgt := 3) C dX2_foreseeAnew_55 (by decide) ?_
    show g 0 0 (wO 0 (up2 (up2 O 0 (upd (faSp F c (O 0) t) ((t * 6) + c) (spS F c ((F 8 0) + (nI t))))) 1 (lnk1 (fun o => nrS F (upd (faSp F c (O 0) t) ((t * 6) + c) (spS F c ((F 8 0) + (nI t))) ((t * 6) + c)) (upd (faSp F c (O 0) t) ((t * 6) + c) (spS F c ((F 8 0) + (nI t))) ((t * 6) + o))) (faNr F z c (O 0) (O 1) t) ((t * 6)) (c) z)) ++ wF 4 F) 3 [some (.ref 0), some (.ref 4), some (.int (nI c)), some (.int (nI d)), some (.int (nI (t + 1))), some (.int (nI (t * 6)))] []
    refine r_drop (lv' := [some (.ref 0), some (.ref 4), some (.int (nI c)), some (.int (nI d)), some (.int (nI (t + 1))), none]) C ⟨rfl, rfl, rfl, rfl, rfl, trivial⟩ ?_
    show g 0 0 (wO 0 (up2 (up2 O 0 (upd (faSp F c (O 0) t) ((t * 6) + c) (spS F c ((F 8 0) + (nI t))))) 1 (lnk1 (fun o => nrS F (upd (faSp F c (O 0) t) ((t * 6) + c) (spS F c ((F 8 0) + (nI t))) ((t * 6) + c)) (upd (faSp F c (O 0) t) ((t * 6) + c) (spS F c ((F 8 0) + (nI t))) ((t * 6) + o))) (faNr F z c (O 0) (O 1) t) ((t * 6)) (c) z)) ++ wF 4 F) 3 [some (.ref 0), some (.ref 4), some (.int (nI c)), some (.int (nI d)), some (.int (nI (t + 1))), none] []
    exact ih (t + 1) (by omega)
set_option maxHeartbeats 4000000 in
set_option maxRecDepth 100000 in
theorem c_X2_foreseeAnew (O : Nat → Nat → Int32) (F : Nat → Nat → Int32) (z : Nat) (hz : O 3 0 = nI z) (hz6 : z ≤ 6) (c : Nat) (hc : c < z) (d : Nat) (hd : d ≤ 60) (hW : okW F) : MetA yX2_foreseeAnew (.code yX2_foreseeAnew cX2_foreseeAnew 6 none :: TT) rmX2_foreseeAnew [.ref 0, .ref 4, .int (nI c), .int (nI d)] (wO 0 O ++ wF 4 F) (fun vr wr => vr = none ∧ wr = wO 0 (up2 (up2 O 0 (faSp F c (O 0) d)) 1 (faNr F z c (O 0) (O 1) d)) ++ wF 4 F) 0 0 := by
  refine MetA.of_v (by decide) (fun _ => Nat.le_of_ble_eq_true rfl) (Nat.le_of_ble_eq_true rfl) (fun g C E => ?_)
  replace C : Sem cX2_foreseeAnew RX2 "foreseeAnew" 6 rmX2_foreseeAnew g := C
  show g 0 0 (wO 0 O ++ wF 4 F) 0 [some (.ref 0), some (.ref 4), some (.int (nI c)), some (.int (nI d)), none, none] []
  refine r_iconst (pc := 0) (v := 0) C dX2_foreseeAnew_0 (by decide) ?_
  refine r_istore (pc := 1) (lv' := [some (.ref 0), some (.ref 4), some (.int (nI c)), some (.int (nI d)), some (.int 0), none]) C dX2_foreseeAnew_1 (Nat.le_of_ble_eq_true rfl) trivial rfl ?_
  exact lp_X2_foreseeAnew O F z hz hz6 c hc d hd hW C E d 0 (by omega)
set_option maxHeartbeats 4000000 in
set_option maxRecDepth 100000 in
theorem lp3_X2_foresee (O : Nat → Nat → Int32) (F : Nat → Nat → Int32) (d : Nat) (hd : d ≤ 60) (hW : okW F) (z : Nat) (hzF : F 9 0 = nI z) (hz6 : z ≤ 6) {g : Nat → Nat → List xE → Nat → List (Option Value) → List Value → Prop} (C : Sem cX2_foresee RX2 "foresee" 6 rmX2_foresee g) (t : Nat) (ht : t < d) (kk : g 0 0 (wO 0 (up2 (up2 (up2 O 3 (k1 (nI z))) 0 (frSp F z (O 0) (t + 1))) 1 (frNr F z (O 0) (O 1) (t + 1))) ++ wF 4 F) 10 [some (.ref 0), some (.ref 4), some (.int (nI d)), some (.int (nI (t + 1))), none, none] []) : ∀ (n : Nat) (i : Nat), i + n = z → g 0 0 (wO 0 (up2 (up2 (up2 O 3 (k1 (nI z))) 0 (frSp F z (O 0) (t + 1))) 1 (lnkA F (frSp F z (O 0) (t + 1)) (frNr F z (O 0) (O 1) t) (t * 6) z i)) ++ wF 4 F) 70 [some (.ref 0), some (.ref 4), some (.int (nI d)), some (.int (nI t)), some (.int (nI (t * 6))), some (.int (nI i))] [] := by
  intro n
  induction n with
  | zero =>
    intro i hi
    have hiz : i = z := by omega
    rw [hiz]
    refine r_iload (pc := 70) C dX2_foresee_70 rfl ?_
    refine r_aload_n (pc := 72) C dX2_foresee_72 rfl rfl ?_
    refine r_getfield (pc := 73) (v := .int (nI z)) C xf_X2_27 dX2_foresee_73 rfl rfl ?_
    refine r_icmp_ge (pc := 76) (tgt := 94) C dX2_foresee_76 (by decide) (fun _ => ?_) (fun h => absurd (nI_le (by omega) (by omega)) h)
    refine r_iinc (pc := 94) (v := nI (t + 1)) (lv' := [some (.ref 0), some (.ref 4), some (.int (nI d)), some (.int (nI (t + 1))), some (.int (nI (t * 6))), some (.int (nI z))]) C dX2_foresee_94 rfl (nI_1 t) trivial rfl ?_
    refine r_goto (pc := 97) (tgt := 10) C dX2_foresee_97 (by decide) ?_
    show g 0 0 (wO 0 (up2 (up2 (up2 O 3 (k1 (nI z))) 0 (frSp F z (O 0) (t + 1))) 1 (lnkA F (frSp F z (O 0) (t + 1)) (frNr F z (O 0) (O 1) t) (t * 6) z z)) ++ wF 4 F) 10 [some (.ref 0), some (.ref 4), some (.int (nI d)), some (.int (nI (t + 1))), some (.int (nI (t * 6))), some (.int (nI z))] []
    refine r_drop (lv' := [some (.ref 0), some (.ref 4), some (.int (nI d)), some (.int (nI (t + 1))), none, none]) C ⟨rfl, rfl, rfl, rfl, trivial⟩ ?_
    show g 0 0 (wO 0 (up2 (up2 (up2 O 3 (k1 (nI z))) 0 (frSp F z (O 0) (t + 1))) 1 (lnkA F (frSp F z (O 0) (t + 1)) (frNr F z (O 0) (O 1) t) (t * 6) z z)) ++ wF 4 F) 10 [some (.ref 0), some (.ref 4), some (.int (nI d)), some (.int (nI (t + 1))), none, none] []
    exact kk
  | succ n ih =>
    intro i hi
    refine r_iload (pc := 70) C dX2_foresee_70 rfl ?_
    refine r_aload_n (pc := 72) C dX2_foresee_72 rfl rfl ?_
    refine r_getfield (pc := 73) (v := .int (nI z)) C xf_X2_27 dX2_foresee_73 rfl rfl ?_
    refine r_icmp_ge (pc := 76) (tgt := 94) C dX2_foresee_76 (by decide) (fun h => absurd h (nI_ge (by omega) (by omega))) (fun _ => ?_)
    refine r_aload_n (pc := 79) C dX2_foresee_79 rfl rfl ?_
    refine r_aload_n (pc := 80) C dX2_foresee_80 rfl rfl ?_
    refine r_iload (pc := 81) C dX2_foresee_81 rfl ?_
    refine r_iload (pc := 83) C dX2_foresee_83 rfl ?_
    refine r_callV0 (pc := 85) (As := [.ref 4, .int (nI (t * 6)), .int (nI i)]) (st := []) (θ' := wO 0 (up2 (up2 (up2 O 3 (k1 (nI z))) 0 (frSp F z (O 0) (t + 1))) 1 (lnk1 (fun o => nrS F (frSp F z (O 0) (t + 1) (t * 6 + i)) (frSp F z (O 0) (t + 1) (t * 6 + o))) (lnkA F (frSp F z (O 0) (t + 1)) (frNr F z (O 0) (O 1) t) (t * 6) z i) (t * 6) (i) z)) ++ wF 4 F) C (c_X2_link (up2 (up2 (up2 O 3 (k1 (nI z))) 0 (frSp F z (O 0) (t + 1))) 1 (lnkA F (frSp F z (O 0) (t + 1)) (frNr F z (O 0) (O 1) t) (t * 6) z i)) F (t * 6) (i) (by omega) (by omega) z rfl hz6 (by omega)) xm_X2_link xk_X2_35 dX2_foresee_85 rfl rfl rfl rfl (Nat.le_of_ble_eq_true rfl) ⟨Nat.le_of_ble_eq_true rfl, Nat.le_of_ble_eq_true rfl⟩ ⟨rfl, rfl⟩ ⟨Nat.le_of_ble_eq_true rfl, Nat.le_of_ble_eq_true rfl⟩ rfl (Eq.trans (b := 10) rfl rfl) ?_
    show g 0 0 (wO 0 (up2 (up2 (up2 O 3 (k1 (nI z))) 0 (frSp F z (O 0) (t + 1))) 1 (lnk1 (fun o => nrS F (frSp F z (O 0) (t + 1) (t * 6 + i)) (frSp F z (O 0) (t + 1) (t * 6 + o))) (lnkA F (frSp F z (O 0) (t + 1)) (frNr F z (O 0) (O 1) t) (t * 6) z i) (t * 6) (i) z)) ++ wF 4 F) 88 [some (.ref 0), some (.ref 4), some (.int (nI d)), some (.int (nI t)), some (.int (nI (t * 6))), some (.int (nI i))] []
    refine r_iinc (pc := 88) (v := nI (i + 1)) (lv' := [some (.ref 0), some (.ref 4), some (.int (nI d)), some (.int (nI t)), some (.int (nI (t * 6))), some (.int (nI (i + 1)))]) C dX2_foresee_88 rfl (nI_1 i) trivial rfl ?_
    refine r_goto (pc := 91) (tgt := 70) C dX2_foresee_91 (by decide) ?_
    show g 0 0 (wO 0 (up2 (up2 (up2 O 3 (k1 (nI z))) 0 (frSp F z (O 0) (t + 1))) 1 (lnk1 (fun o => nrS F (frSp F z (O 0) (t + 1) (t * 6 + i)) (frSp F z (O 0) (t + 1) (t * 6 + o))) (lnkA F (frSp F z (O 0) (t + 1)) (frNr F z (O 0) (O 1) t) (t * 6) z i) (t * 6) (i) z)) ++ wF 4 F) 70 [some (.ref 0), some (.ref 4), some (.int (nI d)), some (.int (nI t)), some (.int (nI (t * 6))), some (.int (nI (i + 1)))] []
    exact ih (i + 1) (by omega)
set_option maxHeartbeats 4000000 in
set_option maxRecDepth 100000 in
theorem lp2_X2_foresee (O : Nat → Nat → Int32) (F : Nat → Nat → Int32) (d : Nat) (hd : d ≤ 60) (hW : okW F) (z : Nat) (hzF : F 9 0 = nI z) (hz6 : z ≤ 6) {g : Nat → Nat → List xE → Nat → List (Option Value) → List Value → Prop} (C : Sem cX2_foresee RX2 "foresee" 6 rmX2_foresee g) (t : Nat) (ht : t < d) (kk : g 0 0 (wO 0 (up2 (up2 (up2 O 3 (k1 (nI z))) 0 (frSp F z (O 0) (t + 1))) 1 (frNr F z (O 0) (O 1) (t + 1))) ++ wF 4 F) 10 [some (.ref 0), some (.ref 4), some (.int (nI d)), some (.int (nI (t + 1))), none, none] []) : ∀ (n : Nat) (i : Nat), i + n = z → g 0 0 (wO 0 (up2 (up2 (up2 O 3 (k1 (nI z))) 0 (rowS F (F 8 0 + nI t) (frSp F z (O 0) t) (t * 6) i)) 1 (frNr F z (O 0) (O 1) t)) ++ wF 4 F) 30 [some (.ref 0), some (.ref 4), some (.int (nI d)), some (.int (nI t)), some (.int (nI (t * 6))), some (.int (nI i))] [] := by
  intro n
  induction n with
  | zero =>
    intro i hi
    have hiz : i = z := by omega
    rw [hiz]
    refine r_iload (pc := 30) C dX2_foresee_30 rfl ?_
    refine r_aload_n (pc := 32) C dX2_foresee_32 rfl rfl ?_
    refine r_getfield (pc := 33) (v := .int (nI z)) C xf_X2_27 dX2_foresee_33 rfl rfl ?_
    refine r_icmp_ge (pc := 36) (tgt := 67) C dX2_foresee_36 (by decide) (fun _ => ?_) (fun h => absurd (nI_le (by omega) (by omega)) h)
    refine r_iconst (pc := 67) (v := 0) C dX2_foresee_67 (by decide) ?_
    refine r_istore (pc := 68) (lv' := [some (.ref 0), some (.ref 4), some (.int (nI d)), some (.int (nI t)), some (.int (nI (t * 6))), some (.int 0)]) C dX2_foresee_68 (Nat.le_of_ble_eq_true rfl) trivial rfl ?_
    show g 0 0 (wO 0 (up2 (up2 (up2 O 3 (k1 (nI z))) 0 (rowS F (F 8 0 + nI t) (frSp F z (O 0) t) (t * 6) z)) 1 (frNr F z (O 0) (O 1) t)) ++ wF 4 F) 70 [some (.ref 0), some (.ref 4), some (.int (nI d)), some (.int (nI t)), some (.int (nI (t * 6))), some (.int 0)] []
    exact lp3_X2_foresee O F d hd hW z hzF hz6 C t ht kk z 0 (by omega)
  | succ n ih =>
    intro i hi
    refine r_iload (pc := 30) C dX2_foresee_30 rfl ?_
    refine r_aload_n (pc := 32) C dX2_foresee_32 rfl rfl ?_
    refine r_getfield (pc := 33) (v := .int (nI z)) C xf_X2_27 dX2_foresee_33 rfl rfl ?_
    refine r_icmp_ge (pc := 36) (tgt := 67) C dX2_foresee_36 (by decide) (fun h => absurd h (nI_ge (by omega) (by omega))) (fun _ => ?_)
    refine r_aload_n (pc := 39) C dX2_foresee_39 rfl rfl ?_
    refine r_getfield (pc := 40) (v := .ref 1) C xf_X2_9 dX2_foresee_40 rfl rfl ?_
    refine r_iload (pc := 43) C dX2_foresee_43 rfl ?_
    refine r_iload (pc := 45) C dX2_foresee_45 rfl ?_
    refine r_iadd (pc := 47) C dX2_foresee_47 ?_
    refine r_aload_n (pc := 48) C dX2_foresee_48 rfl rfl ?_
    refine r_iload (pc := 49) C dX2_foresee_49 rfl ?_
    refine r_aload_n (pc := 51) C dX2_foresee_51 rfl rfl ?_
    refine r_getfield (pc := 52) (v := .int (F 8 0)) C xf_X2_28 dX2_foresee_52 rfl rfl ?_
    refine r_iload_n (pc := 55) C dX2_foresee_55 rfl rfl ?_
    refine r_iadd (pc := 56) C dX2_foresee_56 ?_
    refine r_callVD (pc := 57) (b := 4) (As := [.int (nI i), .int ((F 8 0) + (nI t))]) (st := [.int ((nI (t * 6)) + (nI i)), .ref 1]) (θ2 := wO 0 (up2 (up2 (up2 O 3 (k1 (nI z))) 0 (rowS F (F 8 0 + nI t) (frSp F z (O 0) t) (t * 6) i)) 1 (frNr F z (O 0) (O 1) t)) ++ wF 4 F) (r2 := some (.int (spS F i ((F 8 0) + (nI t))))) C [4, 5, 6, 7, 8, 9] (c_X1_spot F i (by omega) ((F 8 0) + (nI t)) hW) xm_X1_spot xk_X2_31 dX2_foresee_57 rfl (by decide) rfl rfl rfl rfl rfl (Nat.le_of_ble_eq_true rfl) ⟨Nat.le_of_ble_eq_true rfl, Nat.le_of_ble_eq_true rfl⟩ ⟨rfl, rfl⟩ ⟨Nat.le_of_ble_eq_true rfl, Nat.le_of_ble_eq_true rfl⟩ rfl (Eq.trans (b := 6) rfl rfl) rfl rfl ?_
    show g 0 0 (wO 0 (up2 (up2 (up2 O 3 (k1 (nI z))) 0 (rowS F (F 8 0 + nI t) (frSp F z (O 0) t) (t * 6) i)) 1 (frNr F z (O 0) (O 1) t)) ++ wF 4 F) 60 [some (.ref 0), some (.ref 4), some (.int (nI d)), some (.int (nI t)), some (.int (nI (t * 6))), some (.int (nI i))] [.int (spS F i ((F 8 0) + (nI t))), .int ((nI (t * 6)) + (nI i)), .ref 1]
    refine r_iastore (pc := 60) (θ' := wO 0 (up2 (up2 (up2 O 3 (k1 (nI z))) 1 (frNr F z (O 0) (O 1) t)) 0 (upd (rowS F (F 8 0 + nI t) (frSp F z (O 0) t) (t * 6) i) (t * 6 + i) (spS F i ((F 8 0) + (nI t))))) ++ wF 4 F) C (t * 6 + i) dX2_foresee_60 rfl (nI_sum rfl rfl) (by first | assumption | omega) rfl ?_
    refine r_iinc (pc := 61) (v := nI (i + 1)) (lv' := [some (.ref 0), some (.ref 4), some (.int (nI d)), some (.int (nI t)), some (.int (nI (t * 6))), some (.int (nI (i + 1)))]) C dX2_foresee_61 rfl (nI_1 i) trivial rfl ?_
    refine r_goto (pc := 64) (tgt := 30) C dX2_foresee_64 (by decide) ?_
    show g 0 0 (wO 0 (up2 (up2 (up2 O 3 (k1 (nI z))) 1 (frNr F z (O 0) (O 1) t)) 0 (upd (rowS F (F 8 0 + nI t) (frSp F z (O 0) t) (t * 6) i) (t * 6 + i) (spS F i ((F 8 0) + (nI t))))) ++ wF 4 F) 30 [some (.ref 0), some (.ref 4), some (.int (nI d)), some (.int (nI t)), some (.int (nI (t * 6))), some (.int (nI (i + 1)))] []
    exact ih (i + 1) (by omega)
set_option maxHeartbeats 4000000 in
set_option maxRecDepth 100000 in
theorem lp_X2_foresee (O : Nat → Nat → Int32) (F : Nat → Nat → Int32) (d : Nat) (hd : d ≤ 60) (hW : okW F) (z : Nat) (hzF : F 9 0 = nI z) (hz6 : z ≤ 6) {g : Nat → Nat → List xE → Nat → List (Option Value) → List Value → Prop} (C : Sem cX2_foresee RX2 "foresee" 6 rmX2_foresee g) (E : xEv g cX2_foresee 0 0 (fun vr wr => vr = none ∧ wr = wO 0 (up2 (up2 (up2 O 3 (k1 (nI z))) 0 (frSp F z (O 0) d)) 1 (frNr F z (O 0) (O 1) d)) ++ wF 4 F)) : ∀ (n : Nat) (t : Nat), t + n = d → g 0 0 (wO 0 (up2 (up2 (up2 O 3 (k1 (nI z))) 0 (frSp F z (O 0) t)) 1 (frNr F z (O 0) (O 1) t)) ++ wF 4 F) 10 [some (.ref 0), some (.ref 4), some (.int (nI d)), some (.int (nI t)), none, none] [] := by
  intro n
  induction n with
  | zero =>
    intro t ht
    obtain rfl : t = d := by omega
    refine r_iload_n (pc := 10) C dX2_foresee_10 rfl rfl ?_
    refine r_iload_n (pc := 11) C dX2_foresee_11 rfl rfl ?_
    refine r_icmp_ge (pc := 12) (tgt := 100) C dX2_foresee_12 (by decide) (fun _ => ?_) (fun h => absurd (nI_le (by omega) (by omega)) h)
    exact E _ _ _ _ _ dX2_foresee_100 (Nat.le_refl _) (Nat.le_refl _) ⟨rfl, rfl⟩
  | succ n ih =>
    intro t ht
    refine r_iload_n (pc := 10) C dX2_foresee_10 rfl rfl ?_
    refine r_iload_n (pc := 11) C dX2_foresee_11 rfl rfl ?_
    refine r_icmp_ge (pc := 12) (tgt := 100) C dX2_foresee_12 (by decide) (fun h => absurd h (nI_ge (by omega) (by omega))) (fun _ => ?_)
    refine r_iload_n (pc := 15) C dX2_foresee_15 rfl rfl ?_
    refine r_bipush (pc := 16) (v := 60) C dX2_foresee_16 (by decide) ?_
    refine r_icmp_ge (pc := 18) (tgt := 100) C dX2_foresee_18 (by decide) (fun h => absurd h (nI_ge (b := 60) (by omega) (by omega))) (fun _ => ?_)
    refine r_iload_n (pc := 21) C dX2_foresee_21 rfl rfl ?_
    refine r_bipush (pc := 22) (v := 6) C dX2_foresee_22 (by decide) ?_
    refine r_imul (pc := 24) C dX2_foresee_24 ?_
    show g 0 0 (wO 0 (up2 (up2 (up2 O 3 (k1 (nI z))) 0 (frSp F z (O 0) t)) 1 (frNr F z (O 0) (O 1) t)) ++ wF 4 F) 25 [some (.ref 0), some (.ref 4), some (.int (nI d)), some (.int (nI t)), none, none] [.int ((nI t) * 6)]
    rw [show ((nI t) * 6 : Int32) = nI (t * 6) from (nI_prod rfl rfl)]
    refine r_istore (pc := 25) (lv' := [some (.ref 0), some (.ref 4), some (.int (nI d)), some (.int (nI t)), some (.int (nI (t * 6))), none]) C dX2_foresee_25 (Nat.le_of_ble_eq_true rfl) trivial rfl ?_
    refine r_iconst (pc := 27) (v := 0) C dX2_foresee_27 (by decide) ?_
    refine r_istore (pc := 28) (lv' := [some (.ref 0), some (.ref 4), some (.int (nI d)), some (.int (nI t)), some (.int (nI (t * 6))), some (.int 0)]) C dX2_foresee_28 (Nat.le_of_ble_eq_true rfl) trivial rfl ?_
    show g 0 0 (wO 0 (up2 (up2 (up2 O 3 (k1 (nI z))) 0 (frSp F z (O 0) t)) 1 (frNr F z (O 0) (O 1) t)) ++ wF 4 F) 30 [some (.ref 0), some (.ref 4), some (.int (nI d)), some (.int (nI t)), some (.int (nI (t * 6))), some (.int 0)] []
    exact lp2_X2_foresee O F d hd hW z hzF hz6 C t (by omega) (ih (t + 1) (by omega)) z 0 (by omega)
set_option maxHeartbeats 4000000 in
set_option maxRecDepth 100000 in
theorem c_X2_foresee (O : Nat → Nat → Int32) (F : Nat → Nat → Int32) (d : Nat) (hd : d ≤ 60) (hW : okW F) (z : Nat) (hzF : F 9 0 = nI z) (hz6 : z ≤ 6) : MetA yX2_foresee (.code yX2_foresee cX2_foresee 6 none :: TT) rmX2_foresee [.ref 0, .ref 4, .int (nI d)] (wO 0 O ++ wF 4 F) (fun vr wr => vr = none ∧ wr = (wO 0 (frS O F z d) ++ wF 4 F)) 0 0 := by
  refine MetA.of_v (by decide) (fun _ => Nat.le_of_ble_eq_true rfl) (Nat.le_of_ble_eq_true rfl) (fun g C E => ?_)
  replace C : Sem cX2_foresee RX2 "foresee" 6 rmX2_foresee g := C
  show g 0 0 (wO 0 O ++ wF 4 F) 0 [some (.ref 0), some (.ref 4), some (.int (nI d)), none, none, none] []
  refine r_aload_n (pc := 0) C dX2_foresee_0 rfl rfl ?_
  refine r_aload_n (pc := 1) C dX2_foresee_1 rfl rfl ?_
  refine r_getfield (pc := 2) (v := .int (F 9 0)) C xf_X2_21 dX2_foresee_2 rfl rfl ?_
  show g 0 0 (wO 0 O ++ wF 4 F) 5 [some (.ref 0), some (.ref 4), some (.int (nI d)), none, none, none] [.int (F 9 0), .ref 0]
  rw [show (F 9 0 : Int32) = nI z from hzF]
  refine r_putfield (pc := 5) (θ' := wO 0 (up2 O 3 (k1 (nI z))) ++ wF 4 F) C xf_X2_27 xt_X2_3 dX2_foresee_5 rfl (Nat.le_of_ble_eq_true rfl) (fun _ => ⟨rfl, rfl⟩) rfl ?_
  refine r_iconst (pc := 8) (v := 0) C dX2_foresee_8 (by decide) ?_
  refine r_istore_n (pc := 9) (lv' := [some (.ref 0), some (.ref 4), some (.int (nI d)), some (.int 0), none, none]) C dX2_foresee_9 rfl (Nat.le_of_ble_eq_true rfl) trivial rfl ?_
  show g 0 0 (wO 0 (up2 O 3 (k1 (nI z))) ++ wF 4 F) 10 [some (.ref 0), some (.ref 4), some (.int (nI d)), some (.int 0), none, none] []
  exact lp_X2_foresee O F d hd hW z hzF hz6 C E d 0 (by omega)
set_option maxHeartbeats 4000000 in
set_option maxRecDepth 100000 in
theorem lp3_X2_fewestHands (O : Nat → Nat → Int32) (a b : Int32) (z : Nat) (hz : O 3 0 = nI z) (hz6 : z ≤ 6) {g : Nat → Nat → List xE → Nat → List (Option Value) → List Value → Prop} (C : Sem cX2_fewestHands RX2 "fewestHands" 5 rmX2_fewestHands g) (E : xEi g cX2_fewestHands .int 0 0 (fun vr wr => vr = some (.int (hdFrom (fun k => hasS (fhW (O 1) z (fill (O 2) (1 <<< (a &&& 31)) 6) 60 k) b) 6 0)) ∧ wr = wO 0 (up2 O 2 (fhW (O 1) z (fill (O 2) (1 <<< (a &&& 31)) 6) 60)))) : ∀ (n : Nat) (k : Nat), k + n = 6 → hdFrom (fun k => hasS (fhW (O 1) z (fill (O 2) (1 <<< (a &&& 31)) 6) 60 k) b) n k = hdFrom (fun k => hasS (fhW (O 1) z (fill (O 2) (1 <<< (a &&& 31)) 6) 60 k) b) 6 0 → g 0 0 (wO 0 (up2 O 2 (fhW (O 1) z (fill (O 2) (1 <<< (a &&& 31)) 6) 60))) 78 [some (.ref 0), some (.int a), some (.int b), some (.int (nI k)), none] [] := by
  intro n
  induction n with
  | zero =>
    intro k hk hE
    refine r_iload_n (pc := 78) C dX2_fewestHands_78 rfl rfl ?_
    refine r_bipush (pc := 79) (v := 6) C dX2_fewestHands_79 (by decide) ?_
    refine r_icmp_ge (pc := 81) (tgt := 106) C dX2_fewestHands_81 (by decide) (fun _ => ?_) (fun h => absurd (nI_le (a := 6) (by omega) (by omega)) h)
    refine r_ldc (pc := 106) (v := (-1000000)) C dX2_fewestHands_106 tw_449 ?_
    exact E _ _ _ _ _ _ dX2_fewestHands_108 (Nat.le_refl _) (Nat.le_refl _) rfl ⟨congrArg (fun z => some (Value.int z)) (by rw [← hE]; rfl), rfl⟩
  | succ n ih =>
    intro k hk hE
    refine r_iload_n (pc := 78) C dX2_fewestHands_78 rfl rfl ?_
    refine r_bipush (pc := 79) (v := 6) C dX2_fewestHands_79 (by decide) ?_
    refine r_icmp_ge (pc := 81) (tgt := 106) C dX2_fewestHands_81 (by decide) (fun h => absurd h (nI_ge (b := 6) (by omega) (by omega))) (fun _ => ?_)
    refine r_aload_n (pc := 84) C dX2_fewestHands_84 rfl rfl ?_
    refine r_getfield (pc := 85) (v := .ref 3) C xf_X2_18 dX2_fewestHands_85 rfl rfl ?_
    refine r_iload_n (pc := 88) C dX2_fewestHands_88 rfl rfl ?_
    refine r_iaload (pc := 89) (v := (fhW (O 1) z (fill (O 2) (1 <<< (a &&& 31)) 6) 60) k) C k dX2_fewestHands_89 rfl rfl (by first | assumption | omega) rfl ?_
    refine r_iload_n (pc := 90) C dX2_fewestHands_90 rfl rfl ?_
    refine r_ishr (pc := 91) C dX2_fewestHands_91 ?_
    refine r_iconst (pc := 92) (v := 1) C dX2_fewestHands_92 (by decide) ?_
    refine r_iand (pc := 93) C dX2_fewestHands_93 ?_
    refine r_iconst (pc := 94) (v := 1) C dX2_fewestHands_94 (by decide) ?_
    refine r_icmp_ne (pc := 95) (tgt := 100) C dX2_fewestHands_95 (by decide) (fun h_95 => ?_) (fun h_95 => ?_)
    · skip
      refine r_iinc (pc := 100) (v := nI (k + 1)) (lv' := [some (.ref 0), some (.int a), some (.int b), some (.int (nI (k + 1))), none]) C dX2_fewestHands_100 rfl (nI_1 k) trivial rfl ?_
      refine r_goto (pc := 103) (tgt := 78) C dX2_fewestHands_103 (by decide) ?_
      show g 0 0 (wO 0 (up2 O 2 (fhW (O 1) z (fill (O 2) (1 <<< (a &&& 31)) 6) 60))) 78 [some (.ref 0), some (.int a), some (.int b), some (.int (nI (k + 1))), none] []
      exact ih (k + 1) (by omega) (by rw [← hE]; simp only [hdFrom, has_n h_95, Bool.false_eq_true, if_false])
    · skip
      refine r_iload_n (pc := 98) C dX2_fewestHands_98 rfl rfl ?_
      exact E _ _ _ _ _ _ dX2_fewestHands_99 (Nat.le_refl _) (Nat.le_refl _) rfl ⟨congrArg (fun z => some (Value.int z)) (by rw [← hE]; simp only [hdFrom, has_p h_95, if_true]), rfl⟩
set_option maxHeartbeats 4000000 in
set_option maxRecDepth 100000 in
theorem lpi_X2_fewestHands (O : Nat → Nat → Int32) (a b : Int32) (z : Nat) (hz : O 3 0 = nI z) (hz6 : z ≤ 6) {g : Nat → Nat → List xE → Nat → List (Option Value) → List Value → Prop} (C : Sem cX2_fewestHands RX2 "fewestHands" 5 rmX2_fewestHands g) (t : Nat) (ht : t < 60) (kk : g 0 0 (wO 0 (up2 O 2 (fhW (O 1) z (fill (O 2) (1 <<< (a &&& 31)) 6) (t + 1)))) 25 [some (.ref 0), some (.int a), some (.int b), some (.int (nI (t + 1))), none] []) : ∀ (n : Nat) (q : Nat), q + n = 5 → g 0 0 (wO 0 (up2 O 2 (fhI (O 1) z t (fhW (O 1) z (fill (O 2) (1 <<< (a &&& 31)) 6) t) q))) 34 [some (.ref 0), some (.int a), some (.int b), some (.int (nI t)), some (.int (nI (5 - q)))] [] := by
  intro n
  induction n with
  | zero =>
    intro q hq
    have hiz : q = 5 := by omega
    rw [hiz]
    refine r_iload (pc := 34) C dX2_fewestHands_34 rfl ?_
    refine r_if_le (pc := 36) (tgt := 70) C dX2_fewestHands_36 (by decide) (fun _ => ?_) (fun h => absurd (by decide) h)
    refine r_iinc (pc := 70) (v := nI (t + 1)) (lv' := [some (.ref 0), some (.int a), some (.int b), some (.int (nI (t + 1))), some (.int (nI (5 - 5)))]) C dX2_fewestHands_70 rfl (nI_1 t) trivial rfl ?_
    refine r_goto (pc := 73) (tgt := 25) C dX2_fewestHands_73 (by decide) ?_
    show g 0 0 (wO 0 (up2 O 2 (fhI (O 1) z t (fhW (O 1) z (fill (O 2) (1 <<< (a &&& 31)) 6) t) 5))) 25 [some (.ref 0), some (.int a), some (.int b), some (.int (nI (t + 1))), some (.int (nI (5 - 5)))] []
    refine r_drop (lv' := [some (.ref 0), some (.int a), some (.int b), some (.int (nI (t + 1))), none]) C ⟨rfl, rfl, rfl, rfl, trivial⟩ ?_
    show g 0 0 (wO 0 (up2 O 2 (fhI (O 1) z t (fhW (O 1) z (fill (O 2) (1 <<< (a &&& 31)) 6) t) 5))) 25 [some (.ref 0), some (.int a), some (.int b), some (.int (nI (t + 1))), none] []
    exact kk
  | succ n ih =>
    intro q hq
    refine r_iload (pc := 34) C dX2_fewestHands_34 rfl ?_
    refine r_if_le (pc := 36) (tgt := 70) C dX2_fewestHands_36 (by decide) (fun h => absurd h (nI_nle (by omega) (by omega))) (fun _ => ?_)
    refine r_aload_n (pc := 39) C dX2_fewestHands_39 rfl rfl ?_
    refine r_getfield (pc := 40) (v := .ref 3) C xf_X2_18 dX2_fewestHands_40 rfl rfl ?_
    refine r_iload (pc := 43) C dX2_fewestHands_43 rfl ?_
    refine r_dup2_11 (pc := 45) C dX2_fewestHands_45 rfl rfl ?_
    refine r_iaload (pc := 46) (v := (fhI (O 1) z t (fhW (O 1) z (fill (O 2) (1 <<< (a &&& 31)) 6) t) q) (5 - q)) C (5 - q) dX2_fewestHands_46 rfl rfl (by first | assumption | omega) rfl ?_
    refine r_aload_n (pc := 47) C dX2_fewestHands_47 rfl rfl ?_
    refine r_aload_n (pc := 48) C dX2_fewestHands_48 rfl rfl ?_
    refine r_getfield (pc := 49) (v := .ref 3) C xf_X2_18 dX2_fewestHands_49 rfl rfl ?_
    refine r_iload (pc := 52) C dX2_fewestHands_52 rfl ?_
    refine r_iconst (pc := 54) (v := 1) C dX2_fewestHands_54 (by decide) ?_
    refine r_isub (pc := 55) C dX2_fewestHands_55 ?_
    refine r_iaload (pc := 56) (v := (fhI (O 1) z t (fhW (O 1) z (fill (O 2) (1 <<< (a &&& 31)) 6) t) q) ((5 - q) - 1)) C ((5 - q) - 1) dX2_fewestHands_56 rfl (nI_dif rfl rfl (by omega)) (by first | assumption | omega) rfl ?_
    refine r_iload_n (pc := 57) C dX2_fewestHands_57 rfl rfl ?_
    refine r_iconst (pc := 58) (v := 0) C dX2_fewestHands_58 (by decide) ?_
    refine r_callV0 (pc := 59) (As := [.int ((fhI (O 1) z t (fhW (O 1) z (fill (O 2) (1 <<< (a &&& 31)) 6) t) q) ((5 - q) - 1)), .int (nI t), .int 0]) (st := [.int ((fhI (O 1) z t (fhW (O 1) z (fill (O 2) (1 <<< (a &&& 31)) 6) t) q) (5 - q)), .int (nI (5 - q)), .ref 3]) (θ' := wO 0 (up2 O 2 (fhI (O 1) z t (fhW (O 1) z (fill (O 2) (1 <<< (a &&& 31)) 6) t) q))) C (c_X2_spread (up2 O 2 (fhI (O 1) z t (fhW (O 1) z (fill (O 2) (1 <<< (a &&& 31)) 6) t) q)) ((fhI (O 1) z t (fhW (O 1) z (fill (O 2) (1 <<< (a &&& 31)) 6) t) q) ((5 - q) - 1)) t (by omega) 0 z hz hz6) xm_X2_spread xk_X2_43 dX2_fewestHands_59 rfl rfl rfl rfl (Nat.le_of_ble_eq_true rfl) ⟨Nat.le_of_ble_eq_true rfl, Nat.le_of_ble_eq_true rfl⟩ ⟨rfl, rfl⟩ ⟨Nat.le_of_ble_eq_true rfl, Nat.le_of_ble_eq_true rfl⟩ rfl (Eq.trans (b := 4) rfl rfl) ?_
    show g 0 0 (wO 0 (up2 O 2 (fhI (O 1) z t (fhW (O 1) z (fill (O 2) (1 <<< (a &&& 31)) 6) t) q))) 62 [some (.ref 0), some (.int a), some (.int b), some (.int (nI t)), some (.int (nI (5 - q)))] [.int (spdS (O 1) t ((fhI (O 1) z t (fhW (O 1) z (fill (O 2) (1 <<< (a &&& 31)) 6) t) q) ((5 - q) - 1)) 0 z), .int ((fhI (O 1) z t (fhW (O 1) z (fill (O 2) (1 <<< (a &&& 31)) 6) t) q) (5 - q)), .int (nI (5 - q)), .ref 3]
    refine r_ior (pc := 62) C dX2_fewestHands_62 ?_
    refine r_iastore (pc := 63) (θ' := wO 0 (up2 O 2 (upd (fhI (O 1) z t (fhW (O 1) z (fill (O 2) (1 <<< (a &&& 31)) 6) t) q) (5 - q) (((fhI (O 1) z t (fhW (O 1) z (fill (O 2) (1 <<< (a &&& 31)) 6) t) q) (5 - q)) ||| (spdS (O 1) t ((fhI (O 1) z t (fhW (O 1) z (fill (O 2) (1 <<< (a &&& 31)) 6) t) q) ((5 - q) - 1)) 0 z))))) C (5 - q) dX2_fewestHands_63 rfl rfl (by first | assumption | omega) rfl ?_
    refine r_iinc (pc := 64) (v := nI (5 - (q + 1))) (lv' := [some (.ref 0), some (.int a), some (.int b), some (.int (nI t)), some (.int (nI (5 - (q + 1))))]) C dX2_fewestHands_64 rfl (nI_m1 (by omega)) trivial rfl ?_
    refine r_goto (pc := 67) (tgt := 34) C dX2_fewestHands_67 (by decide) ?_
    show g 0 0 (wO 0 (up2 O 2 (upd (fhI (O 1) z t (fhW (O 1) z (fill (O 2) (1 <<< (a &&& 31)) 6) t) q) (5 - q) (((fhI (O 1) z t (fhW (O 1) z (fill (O 2) (1 <<< (a &&& 31)) 6) t) q) (5 - q)) ||| (spdS (O 1) t ((fhI (O 1) z t (fhW (O 1) z (fill (O 2) (1 <<< (a &&& 31)) 6) t) q) ((5 - q) - 1)) 0 z))))) 34 [some (.ref 0), some (.int a), some (.int b), some (.int (nI t)), some (.int (nI (5 - (q + 1))))] []
    exact ih (q + 1) (by omega)
set_option maxHeartbeats 4000000 in
set_option maxRecDepth 100000 in
theorem lp2_X2_fewestHands (O : Nat → Nat → Int32) (a b : Int32) (z : Nat) (hz : O 3 0 = nI z) (hz6 : z ≤ 6) {g : Nat → Nat → List xE → Nat → List (Option Value) → List Value → Prop} (C : Sem cX2_fewestHands RX2 "fewestHands" 5 rmX2_fewestHands g) (E : xEi g cX2_fewestHands .int 0 0 (fun vr wr => vr = some (.int (hdFrom (fun k => hasS (fhW (O 1) z (fill (O 2) (1 <<< (a &&& 31)) 6) 60 k) b) 6 0)) ∧ wr = wO 0 (up2 O 2 (fhW (O 1) z (fill (O 2) (1 <<< (a &&& 31)) 6) 60)))) : ∀ (n : Nat) (t : Nat), t + n = 60 → g 0 0 (wO 0 (up2 O 2 (fhW (O 1) z (fill (O 2) (1 <<< (a &&& 31)) 6) t))) 25 [some (.ref 0), some (.int a), some (.int b), some (.int (nI t)), none] [] := by
  intro n
  induction n with
  | zero =>
    intro t ht
    have htz : t = 60 := by omega
    rw [htz]
    refine r_iload_n (pc := 25) C dX2_fewestHands_25 rfl rfl ?_
    refine r_bipush (pc := 26) (v := 60) C dX2_fewestHands_26 (by decide) ?_
    refine r_icmp_ge (pc := 28) (tgt := 76) C dX2_fewestHands_28 (by decide) (fun _ => ?_) (fun h => absurd (nI_le (a := 60) (by omega) (by omega)) h)
    refine r_iconst (pc := 76) (v := 0) C dX2_fewestHands_76 (by decide) ?_
    refine r_istore_n (pc := 77) (lv' := [some (.ref 0), some (.int a), some (.int b), some (.int 0), none]) C dX2_fewestHands_77 rfl (Nat.le_of_ble_eq_true rfl) trivial rfl ?_
    show g 0 0 (wO 0 (up2 O 2 (fhW (O 1) z (fill (O 2) (1 <<< (a &&& 31)) 6) 60))) 78 [some (.ref 0), some (.int a), some (.int b), some (.int 0), none] []
    exact lp3_X2_fewestHands O a b z hz hz6 C E 6 0 (by omega) rfl
  | succ n ih =>
    intro t ht
    refine r_iload_n (pc := 25) C dX2_fewestHands_25 rfl rfl ?_
    refine r_bipush (pc := 26) (v := 60) C dX2_fewestHands_26 (by decide) ?_
    refine r_icmp_ge (pc := 28) (tgt := 76) C dX2_fewestHands_28 (by decide) (fun h => absurd h (nI_ge (b := 60) (by omega) (by omega))) (fun _ => ?_)
    refine r_iconst (pc := 31) (v := 5) C dX2_fewestHands_31 (by decide) ?_
    refine r_istore (pc := 32) (lv' := [some (.ref 0), some (.int a), some (.int b), some (.int (nI t)), some (.int 5)]) C dX2_fewestHands_32 (Nat.le_of_ble_eq_true rfl) trivial rfl ?_
    show g 0 0 (wO 0 (up2 O 2 (fhW (O 1) z (fill (O 2) (1 <<< (a &&& 31)) 6) t))) 34 [some (.ref 0), some (.int a), some (.int b), some (.int (nI t)), some (.int 5)] []
    exact lpi_X2_fewestHands O a b z hz hz6 C t (by omega) (ih (t + 1) (by omega)) 5 0 (by omega)
set_option maxHeartbeats 4000000 in
set_option maxRecDepth 100000 in
theorem lp1_X2_fewestHands (O : Nat → Nat → Int32) (a b : Int32) (z : Nat) (hz : O 3 0 = nI z) (hz6 : z ≤ 6) {g : Nat → Nat → List xE → Nat → List (Option Value) → List Value → Prop} (C : Sem cX2_fewestHands RX2 "fewestHands" 5 rmX2_fewestHands g) (E : xEi g cX2_fewestHands .int 0 0 (fun vr wr => vr = some (.int (hdFrom (fun k => hasS (fhW (O 1) z (fill (O 2) (1 <<< (a &&& 31)) 6) 60 k) b) 6 0)) ∧ wr = wO 0 (up2 O 2 (fhW (O 1) z (fill (O 2) (1 <<< (a &&& 31)) 6) 60)))) : ∀ (n : Nat) (k : Nat), k + n = 6 → g 0 0 (wO 0 (up2 O 2 (fill (O 2) (1 <<< (a &&& 31)) k))) 2 [some (.ref 0), some (.int a), some (.int b), some (.int (nI k)), none] [] := by
  intro n
  induction n with
  | zero =>
    intro k hk
    have htz : k = 6 := by omega
    rw [htz]
    refine r_iload_n (pc := 2) C dX2_fewestHands_2 rfl rfl ?_
    refine r_bipush (pc := 3) (v := 6) C dX2_fewestHands_3 (by decide) ?_
    refine r_icmp_ge (pc := 5) (tgt := 23) C dX2_fewestHands_5 (by decide) (fun _ => ?_) (fun h => absurd (nI_le (a := 6) (by omega) (by omega)) h)
    refine r_iconst (pc := 23) (v := 0) C dX2_fewestHands_23 (by decide) ?_
    refine r_istore_n (pc := 24) (lv' := [some (.ref 0), some (.int a), some (.int b), some (.int 0), none]) C dX2_fewestHands_24 rfl (Nat.le_of_ble_eq_true rfl) trivial rfl ?_
    show g 0 0 (wO 0 (up2 O 2 (fill (O 2) (1 <<< (a &&& 31)) 6))) 25 [some (.ref 0), some (.int a), some (.int b), some (.int 0), none] []
    exact lp2_X2_fewestHands O a b z hz hz6 C E 60 0 (by omega)
  | succ n ih =>
    intro k hk
    refine r_iload_n (pc := 2) C dX2_fewestHands_2 rfl rfl ?_
    refine r_bipush (pc := 3) (v := 6) C dX2_fewestHands_3 (by decide) ?_
    refine r_icmp_ge (pc := 5) (tgt := 23) C dX2_fewestHands_5 (by decide) (fun h => absurd h (nI_ge (b := 6) (by omega) (by omega))) (fun _ => ?_)
    refine r_aload_n (pc := 8) C dX2_fewestHands_8 rfl rfl ?_
    refine r_getfield (pc := 9) (v := .ref 3) C xf_X2_18 dX2_fewestHands_9 rfl rfl ?_
    refine r_iload_n (pc := 12) C dX2_fewestHands_12 rfl rfl ?_
    refine r_iconst (pc := 13) (v := 1) C dX2_fewestHands_13 (by decide) ?_
    refine r_iload_n (pc := 14) C dX2_fewestHands_14 rfl rfl ?_
    refine r_ishl (pc := 15) C dX2_fewestHands_15 ?_
    refine r_iastore (pc := 16) (θ' := wO 0 (up2 O 2 (upd (fill (O 2) (1 <<< (a &&& 31)) k) k (1 <<< (a &&& 31))))) C k dX2_fewestHands_16 rfl rfl (by first | assumption | omega) rfl ?_
    refine r_iinc (pc := 17) (v := nI (k + 1)) (lv' := [some (.ref 0), some (.int a), some (.int b), some (.int (nI (k + 1))), none]) C dX2_fewestHands_17 rfl (nI_1 k) trivial rfl ?_
    refine r_goto (pc := 20) (tgt := 2) C dX2_fewestHands_20 (by decide) ?_
    show g 0 0 (wO 0 (up2 O 2 (upd (fill (O 2) (1 <<< (a &&& 31)) k) k (1 <<< (a &&& 31))))) 2 [some (.ref 0), some (.int a), some (.int b), some (.int (nI (k + 1))), none] []
    exact ih (k + 1) (by omega)
set_option maxHeartbeats 4000000 in
set_option maxRecDepth 100000 in
theorem c_X2_fewestHands (O : Nat → Nat → Int32) (a b : Int32) (z : Nat) (hz : O 3 0 = nI z) (hz6 : z ≤ 6) : MetA yX2_fewestHands (.code yX2_fewestHands cX2_fewestHands 5 (some .int) :: TT) rmX2_fewestHands [.ref 0, .int a, .int b] (wO 0 O) (fun vr wr => vr = some (.int (hdFrom (fun k => hasS (fhW (O 1) z (fill (O 2) (1 <<< (a &&& 31)) 6) 60 k) b) 6 0)) ∧ wr = wO 0 (up2 O 2 (fhW (O 1) z (fill (O 2) (1 <<< (a &&& 31)) 6) 60))) 0 0 := by
  refine MetA.of_i (by decide) (fun _ => Nat.le_of_ble_eq_true rfl) (Nat.le_of_ble_eq_true rfl) (fun g C E => ?_)
  replace C : Sem cX2_fewestHands RX2 "fewestHands" 5 rmX2_fewestHands g := C
  show g 0 0 (wO 0 O) 0 [some (.ref 0), some (.int a), some (.int b), none, none] []
  refine r_iconst (pc := 0) (v := 0) C dX2_fewestHands_0 (by decide) ?_
  refine r_istore_n (pc := 1) (lv' := [some (.ref 0), some (.int a), some (.int b), some (.int 0), none]) C dX2_fewestHands_1 rfl (Nat.le_of_ble_eq_true rfl) trivial rfl ?_
  show g 0 0 (wO 0 O) 2 [some (.ref 0), some (.int a), some (.int b), some (.int 0), none] []
  exact lp1_X2_fewestHands O a b z hz hz6 C E 6 0 (by omega)
