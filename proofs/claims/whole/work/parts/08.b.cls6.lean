def rmJ6_bitCount_0f7a4 : Room := { frames := 0, cells := 0, slots := 0, locals := 0 }
def ushI (x y : Int32) : Int32 := (x.toUInt32 >>> (y.toUInt32 &&& Int32.toUInt32 31)).toInt32
section FW
variable {cc : ByteArray} {own nm : String} {nL : Nat} {R : Room} {g : Nat → Nat → List xE → Nat → List (Option Value) → List Value → Prop} {k n : Nat} {θ : List xE} {pc : Nat} {lv : List (Option Value)} {st : List Value}
theorem r_ldc_w (C : Sem cc own nm nL R g) {ix : Nat} {v : Int32} (d : decode cc pc = .ok (.ldc_w ix, 3)) (hw : Cond.constant own ix v ∈ TT) (kk : g k n θ (pc + 3) lv (.int v :: st)) : g k n θ pc lv st := by
  obtain ⟨p, l, e, s, m, args, below, meth, c, D, A, τ, ρ0, n0, Q, ⟨hx, hb, hts, hown, hnm, hml⟩, ⟨hK, hA, hT⟩, rfl⟩ := C
  exact fun ρ H locs ls h1 h3 h4 h5 h6 => lv_ldcw hx hb hown (hts _ hw) d (kk ρ H locs ls h1 h3 h4 h5 h6)
end FW
def bcS (i : Int32) : Int32 := (((((((i - ((ushI i 1) &&& 1431655765)) &&& 858993459) + ((ushI (i - ((ushI i 1) &&& 1431655765)) 2) &&& 858993459)) + (ushI (((i - ((ushI i 1) &&& 1431655765)) &&& 858993459) + ((ushI (i - ((ushI i 1) &&& 1431655765)) 2) &&& 858993459)) 4)) &&& 252645135) + (ushI (((((i - ((ushI i 1) &&& 1431655765)) &&& 858993459) + ((ushI (i - ((ushI i 1) &&& 1431655765)) 2) &&& 858993459)) + (ushI (((i - ((ushI i 1) &&& 1431655765)) &&& 858993459) + ((ushI (i - ((ushI i 1) &&& 1431655765)) 2) &&& 858993459)) 4)) &&& 252645135) 8)) + (ushI ((((((i - ((ushI i 1) &&& 1431655765)) &&& 858993459) + ((ushI (i - ((ushI i 1) &&& 1431655765)) 2) &&& 858993459)) + (ushI (((i - ((ushI i 1) &&& 1431655765)) &&& 858993459) + ((ushI (i - ((ushI i 1) &&& 1431655765)) 2) &&& 858993459)) 4)) &&& 252645135) + (ushI (((((i - ((ushI i 1) &&& 1431655765)) &&& 858993459) + ((ushI (i - ((ushI i 1) &&& 1431655765)) 2) &&& 858993459)) + (ushI (((i - ((ushI i 1) &&& 1431655765)) &&& 858993459) + ((ushI (i - ((ushI i 1) &&& 1431655765)) 2) &&& 858993459)) 4)) &&& 252645135) 8)) 16)) &&& 63
set_option maxHeartbeats 4000000 in
set_option maxRecDepth 100000 in
theorem c_J6_bitCount (i : Int32) : MetA yJ6_bitCount_0f7a4 (.code yJ6_bitCount_0f7a4 cJ6_bitCount_0f7a4 1 (some .int) :: TT) rmJ6_bitCount_0f7a4 [.int i] ([]) (fun vr wr => vr = some (.int (bcS i)) ∧ wr = []) 0 0 := by
  refine MetA.of_i (by decide) (fun _ => Nat.le_of_ble_eq_true rfl) (Nat.le_of_ble_eq_true rfl) (fun g C E => ?_)
  replace C : Sem cJ6_bitCount_0f7a4 RJ6 "bitCount" 1 rmJ6_bitCount_0f7a4 g := C
  show g 0 0 ([]) 0 [some (.int i)] []
  refine r_iload_n (pc := 0) C dJ6_bitCount_0f7a4_0 rfl rfl ?_
  refine r_iload_n (pc := 1) C dJ6_bitCount_0f7a4_1 rfl rfl ?_
  refine r_iconst (pc := 2) (v := 1) C dJ6_bitCount_0f7a4_2 (by decide) ?_
  refine r_iushr (pc := 3) (v := ushI i 1) C dJ6_bitCount_0f7a4_3 rfl ?_
  refine r_ldc_w (pc := 4) (v := 1431655765) C dJ6_bitCount_0f7a4_4 tw_572 ?_
  refine r_iand (pc := 7) C dJ6_bitCount_0f7a4_7 ?_
  refine r_isub (pc := 8) C dJ6_bitCount_0f7a4_8 ?_
  refine r_istore_n (pc := 9) (lv' := [some (.int (i - ((ushI i 1) &&& 1431655765)))]) C dJ6_bitCount_0f7a4_9 rfl (Nat.le_of_ble_eq_true rfl) trivial rfl ?_
  refine r_iload_n (pc := 10) C dJ6_bitCount_0f7a4_10 rfl rfl ?_
  refine r_ldc_w (pc := 11) (v := 858993459) C dJ6_bitCount_0f7a4_11 tw_573 ?_
  refine r_iand (pc := 14) C dJ6_bitCount_0f7a4_14 ?_
  refine r_iload_n (pc := 15) C dJ6_bitCount_0f7a4_15 rfl rfl ?_
  refine r_iconst (pc := 16) (v := 2) C dJ6_bitCount_0f7a4_16 (by decide) ?_
  refine r_iushr (pc := 17) (v := ushI (i - ((ushI i 1) &&& 1431655765)) 2) C dJ6_bitCount_0f7a4_17 rfl ?_
  refine r_ldc_w (pc := 18) (v := 858993459) C dJ6_bitCount_0f7a4_18 tw_573 ?_
  refine r_iand (pc := 21) C dJ6_bitCount_0f7a4_21 ?_
  refine r_iadd (pc := 22) C dJ6_bitCount_0f7a4_22 ?_
  refine r_istore_n (pc := 23) (lv' := [some (.int (((i - ((ushI i 1) &&& 1431655765)) &&& 858993459) + ((ushI (i - ((ushI i 1) &&& 1431655765)) 2) &&& 858993459)))]) C dJ6_bitCount_0f7a4_23 rfl (Nat.le_of_ble_eq_true rfl) trivial rfl ?_
  refine r_iload_n (pc := 24) C dJ6_bitCount_0f7a4_24 rfl rfl ?_
  refine r_iload_n (pc := 25) C dJ6_bitCount_0f7a4_25 rfl rfl ?_
  refine r_iconst (pc := 26) (v := 4) C dJ6_bitCount_0f7a4_26 (by decide) ?_
  refine r_iushr (pc := 27) (v := ushI (((i - ((ushI i 1) &&& 1431655765)) &&& 858993459) + ((ushI (i - ((ushI i 1) &&& 1431655765)) 2) &&& 858993459)) 4) C dJ6_bitCount_0f7a4_27 rfl ?_
  refine r_iadd (pc := 28) C dJ6_bitCount_0f7a4_28 ?_
  refine r_ldc_w (pc := 29) (v := 252645135) C dJ6_bitCount_0f7a4_29 tw_574 ?_
  refine r_iand (pc := 32) C dJ6_bitCount_0f7a4_32 ?_
  refine r_istore_n (pc := 33) (lv' := [some (.int (((((i - ((ushI i 1) &&& 1431655765)) &&& 858993459) + ((ushI (i - ((ushI i 1) &&& 1431655765)) 2) &&& 858993459)) + (ushI (((i - ((ushI i 1) &&& 1431655765)) &&& 858993459) + ((ushI (i - ((ushI i 1) &&& 1431655765)) 2) &&& 858993459)) 4)) &&& 252645135))]) C dJ6_bitCount_0f7a4_33 rfl (Nat.le_of_ble_eq_true rfl) trivial rfl ?_
  refine r_iload_n (pc := 34) C dJ6_bitCount_0f7a4_34 rfl rfl ?_
  refine r_iload_n (pc := 35) C dJ6_bitCount_0f7a4_35 rfl rfl ?_
  refine r_bipush (pc := 36) (v := 8) C dJ6_bitCount_0f7a4_36 (by decide) ?_
  refine r_iushr (pc := 38) (v := ushI (((((i - ((ushI i 1) &&& 1431655765)) &&& 858993459) + ((ushI (i - ((ushI i 1) &&& 1431655765)) 2) &&& 858993459)) + (ushI (((i - ((ushI i 1) &&& 1431655765)) &&& 858993459) + ((ushI (i - ((ushI i 1) &&& 1431655765)) 2) &&& 858993459)) 4)) &&& 252645135) 8) C dJ6_bitCount_0f7a4_38 rfl ?_
  refine r_iadd (pc := 39) C dJ6_bitCount_0f7a4_39 ?_
  refine r_istore_n (pc := 40) (lv' := [some (.int ((((((i - ((ushI i 1) &&& 1431655765)) &&& 858993459) + ((ushI (i - ((ushI i 1) &&& 1431655765)) 2) &&& 858993459)) + (ushI (((i - ((ushI i 1) &&& 1431655765)) &&& 858993459) + ((ushI (i - ((ushI i 1) &&& 1431655765)) 2) &&& 858993459)) 4)) &&& 252645135) + (ushI (((((i - ((ushI i 1) &&& 1431655765)) &&& 858993459) + ((ushI (i - ((ushI i 1) &&& 1431655765)) 2) &&& 858993459)) + (ushI (((i - ((ushI i 1) &&& 1431655765)) &&& 858993459) + ((ushI (i - ((ushI i 1) &&& 1431655765)) 2) &&& 858993459)) 4)) &&& 252645135) 8)))]) C dJ6_bitCount_0f7a4_40 rfl (Nat.le_of_ble_eq_true rfl) trivial rfl ?_
  refine r_iload_n (pc := 41) C dJ6_bitCount_0f7a4_41 rfl rfl ?_
  refine r_iload_n (pc := 42) C dJ6_bitCount_0f7a4_42 rfl rfl ?_
  refine r_bipush (pc := 43) (v := 16) C dJ6_bitCount_0f7a4_43 (by decide) ?_
  refine r_iushr (pc := 45) (v := ushI ((((((i - ((ushI i 1) &&& 1431655765)) &&& 858993459) + ((ushI (i - ((ushI i 1) &&& 1431655765)) 2) &&& 858993459)) + (ushI (((i - ((ushI i 1) &&& 1431655765)) &&& 858993459) + ((ushI (i - ((ushI i 1) &&& 1431655765)) 2) &&& 858993459)) 4)) &&& 252645135) + (ushI (((((i - ((ushI i 1) &&& 1431655765)) &&& 858993459) + ((ushI (i - ((ushI i 1) &&& 1431655765)) 2) &&& 858993459)) + (ushI (((i - ((ushI i 1) &&& 1431655765)) &&& 858993459) + ((ushI (i - ((ushI i 1) &&& 1431655765)) 2) &&& 858993459)) 4)) &&& 252645135) 8)) 16) C dJ6_bitCount_0f7a4_45 rfl ?_
  refine r_iadd (pc := 46) C dJ6_bitCount_0f7a4_46 ?_
  refine r_istore_n (pc := 47) (lv' := [some (.int (((((((i - ((ushI i 1) &&& 1431655765)) &&& 858993459) + ((ushI (i - ((ushI i 1) &&& 1431655765)) 2) &&& 858993459)) + (ushI (((i - ((ushI i 1) &&& 1431655765)) &&& 858993459) + ((ushI (i - ((ushI i 1) &&& 1431655765)) 2) &&& 858993459)) 4)) &&& 252645135) + (ushI (((((i - ((ushI i 1) &&& 1431655765)) &&& 858993459) + ((ushI (i - ((ushI i 1) &&& 1431655765)) 2) &&& 858993459)) + (ushI (((i - ((ushI i 1) &&& 1431655765)) &&& 858993459) + ((ushI (i - ((ushI i 1) &&& 1431655765)) 2) &&& 858993459)) 4)) &&& 252645135) 8)) + (ushI ((((((i - ((ushI i 1) &&& 1431655765)) &&& 858993459) + ((ushI (i - ((ushI i 1) &&& 1431655765)) 2) &&& 858993459)) + (ushI (((i - ((ushI i 1) &&& 1431655765)) &&& 858993459) + ((ushI (i - ((ushI i 1) &&& 1431655765)) 2) &&& 858993459)) 4)) &&& 252645135) + (ushI (((((i - ((ushI i 1) &&& 1431655765)) &&& 858993459) + ((ushI (i - ((ushI i 1) &&& 1431655765)) 2) &&& 858993459)) + (ushI (((i - ((ushI i 1) &&& 1431655765)) &&& 858993459) + ((ushI (i - ((ushI i 1) &&& 1431655765)) 2) &&& 858993459)) 4)) &&& 252645135) 8)) 16)))]) C dJ6_bitCount_0f7a4_47 rfl (Nat.le_of_ble_eq_true rfl) trivial rfl ?_
  refine r_iload_n (pc := 48) C dJ6_bitCount_0f7a4_48 rfl rfl ?_
  refine r_bipush (pc := 49) (v := 63) C dJ6_bitCount_0f7a4_49 (by decide) ?_
  refine r_iand (pc := 51) C dJ6_bitCount_0f7a4_51 ?_
  show g 0 0 ([]) 52 [some (.int (((((((i - ((ushI i 1) &&& 1431655765)) &&& 858993459) + ((ushI (i - ((ushI i 1) &&& 1431655765)) 2) &&& 858993459)) + (ushI (((i - ((ushI i 1) &&& 1431655765)) &&& 858993459) + ((ushI (i - ((ushI i 1) &&& 1431655765)) 2) &&& 858993459)) 4)) &&& 252645135) + (ushI (((((i - ((ushI i 1) &&& 1431655765)) &&& 858993459) + ((ushI (i - ((ushI i 1) &&& 1431655765)) 2) &&& 858993459)) + (ushI (((i - ((ushI i 1) &&& 1431655765)) &&& 858993459) + ((ushI (i - ((ushI i 1) &&& 1431655765)) 2) &&& 858993459)) 4)) &&& 252645135) 8)) + (ushI ((((((i - ((ushI i 1) &&& 1431655765)) &&& 858993459) + ((ushI (i - ((ushI i 1) &&& 1431655765)) 2) &&& 858993459)) + (ushI (((i - ((ushI i 1) &&& 1431655765)) &&& 858993459) + ((ushI (i - ((ushI i 1) &&& 1431655765)) 2) &&& 858993459)) 4)) &&& 252645135) + (ushI (((((i - ((ushI i 1) &&& 1431655765)) &&& 858993459) + ((ushI (i - ((ushI i 1) &&& 1431655765)) 2) &&& 858993459)) + (ushI (((i - ((ushI i 1) &&& 1431655765)) &&& 858993459) + ((ushI (i - ((ushI i 1) &&& 1431655765)) 2) &&& 858993459)) 4)) &&& 252645135) 8)) 16)))] [.int ((((((((i - ((ushI i 1) &&& 1431655765)) &&& 858993459) + ((ushI (i - ((ushI i 1) &&& 1431655765)) 2) &&& 858993459)) + (ushI (((i - ((ushI i 1) &&& 1431655765)) &&& 858993459) + ((ushI (i - ((ushI i 1) &&& 1431655765)) 2) &&& 858993459)) 4)) &&& 252645135) + (ushI (((((i - ((ushI i 1) &&& 1431655765)) &&& 858993459) + ((ushI (i - ((ushI i 1) &&& 1431655765)) 2) &&& 858993459)) + (ushI (((i - ((ushI i 1) &&& 1431655765)) &&& 858993459) + ((ushI (i - ((ushI i 1) &&& 1431655765)) 2) &&& 858993459)) 4)) &&& 252645135) 8)) + (ushI ((((((i - ((ushI i 1) &&& 1431655765)) &&& 858993459) + ((ushI (i - ((ushI i 1) &&& 1431655765)) 2) &&& 858993459)) + (ushI (((i - ((ushI i 1) &&& 1431655765)) &&& 858993459) + ((ushI (i - ((ushI i 1) &&& 1431655765)) 2) &&& 858993459)) 4)) &&& 252645135) + (ushI (((((i - ((ushI i 1) &&& 1431655765)) &&& 858993459) + ((ushI (i - ((ushI i 1) &&& 1431655765)) 2) &&& 858993459)) + (ushI (((i - ((ushI i 1) &&& 1431655765)) &&& 858993459) + ((ushI (i - ((ushI i 1) &&& 1431655765)) 2) &&& 858993459)) 4)) &&& 252645135) 8)) 16)) &&& 63)]
  exact E _ _ _ _ _ _ dJ6_bitCount_0f7a4_52 (Nat.le_refl _) (Nat.le_refl _) rfl ⟨congrArg (fun z => some (Value.int z)) (by rfl), rfl⟩
def cntS (S : Nat → Nat → Nat → Int32) : Nat → Int32
  | 0 => 0
  | k + 1 => if S (k + 8) 1 0 = -1 then cntS S k else cntS S k + 1
set_option maxHeartbeats 4000000 in
set_option maxRecDepth 100000 in
theorem lp_X5_countRows (S : Nat → Nat → Nat → Int32) {g : Nat → Nat → List xE → Nat → List (Option Value) → List Value → Prop} (C : Sem cX5_countRows RX5 "countRows" 3 rmX5_countRows g) (E : xEi g cX5_countRows .int 0 0 (fun vr wr => vr = some (.int (cntS S 8)) ∧ wr = wC S)) : ∀ (n : Nat) (k : Nat), k + n = 8 → g 0 0 (wC S) 4 [some (.ref 0), some (.int (cntS S k)), some (.int (nI k))] [] := by
  intro n
  induction n with
  | zero =>
    intro k hk
    obtain rfl : k = 8 := by omega
    refine r_iload_n (pc := 4) C dX5_countRows_4 rfl rfl ?_
    refine r_bipush (pc := 5) (v := 8) C dX5_countRows_5 (by decide) ?_
    refine r_icmp_ge (pc := 7) (tgt := 32) C dX5_countRows_7 (by decide) (fun _ => ?_) (fun h => absurd (nI_le (a := 8) (by omega) (by omega)) h)
    refine r_iload_n (pc := 32) C dX5_countRows_32 rfl rfl ?_
    exact E _ _ _ _ _ _ dX5_countRows_33 (Nat.le_refl _) (Nat.le_refl _) rfl ⟨rfl, rfl⟩
  | succ n ih =>
    intro k hk
    refine r_iload_n (pc := 4) C dX5_countRows_4 rfl rfl ?_
    refine r_bipush (pc := 5) (v := 8) C dX5_countRows_5 (by decide) ?_
    refine r_icmp_ge (pc := 7) (tgt := 32) C dX5_countRows_7 (by decide) (fun h => absurd h (nI_ge (b := 8) (by omega) (by omega))) (fun _ => ?_)
    refine r_aload_n (pc := 10) C dX5_countRows_10 rfl rfl ?_
    refine r_getfield (pc := 11) (v := .ref 1) C xf_X5_11 dX5_countRows_11 rfl rfl ?_
    refine r_iload_n (pc := 14) C dX5_countRows_14 rfl rfl ?_
    refine r_aaload (pc := 15) (b := 2 + 2 * k) C k dX5_countRows_15 rfl (fun _ => rfl) rfl (by first | assumption | omega) rfl ?_
    refine r_getfield (pc := 16) (v := .int ((S (k + 8)) 1 0)) C xf_X5_76 dX5_countRows_16 (wC_r0 S k (by omega)) rfl ?_
    refine r_iconst (pc := 19) (v := (-1)) C dX5_countRows_19 (by decide) ?_
    refine r_icmp_eq (pc := 20) (tgt := 26) C dX5_countRows_20 (by decide) (fun h_20 => ?_) (fun h_20 => ?_)
    · skip
      refine r_iinc (pc := 26) (v := nI (k + 1)) (lv' := [some (.ref 0), some (.int (cntS S k)), some (.int (nI (k + 1)))]) C dX5_countRows_26 rfl (nI_1 k) trivial rfl ?_
      refine r_goto (pc := 29) (tgt := 4) C dX5_countRows_29 (by decide) ?_
      show g 0 0 (wC S) 4 [some (.ref 0), some (.int (cntS S k)), some (.int (nI (k + 1)))] []
      rw [show (cntS S k : Int32) = cntS S (k + 1) from by simp only [cntS, if_pos h_20]]
      exact ih (k + 1) (by omega)
    · skip
      refine r_iinc (pc := 23) (v := (cntS S k) + 1) (lv' := [some (.ref 0), some (.int ((cntS S k) + 1)), some (.int (nI k))]) C dX5_countRows_23 rfl rfl trivial rfl ?_
      refine r_iinc (pc := 26) (v := nI (k + 1)) (lv' := [some (.ref 0), some (.int ((cntS S k) + 1)), some (.int (nI (k + 1)))]) C dX5_countRows_26 rfl (nI_1 k) trivial rfl ?_
      refine r_goto (pc := 29) (tgt := 4) C dX5_countRows_29 (by decide) ?_
      show g 0 0 (wC S) 4 [some (.ref 0), some (.int ((cntS S k) + 1)), some (.int (nI (k + 1)))] []
      rw [show ((cntS S k) + 1 : Int32) = cntS S (k + 1) from by simp only [cntS, if_neg h_20]]
      exact ih (k + 1) (by omega)
set_option maxHeartbeats 4000000 in
set_option maxRecDepth 100000 in
theorem c_X5_countRows (S : Nat → Nat → Nat → Int32) : MetA yX5_countRows (.code yX5_countRows cX5_countRows 3 (some .int) :: TT) rmX5_countRows [.ref 0] (wC S) (fun vr wr => vr = some (.int (cntS S 8)) ∧ wr = wC S) 0 0 := by
  refine MetA.of_i (by decide) (fun _ => Nat.le_of_ble_eq_true rfl) (Nat.le_of_ble_eq_true rfl) (fun g C E => ?_)
  replace C : Sem cX5_countRows RX5 "countRows" 3 rmX5_countRows g := C
  show g 0 0 (wC S) 0 [some (.ref 0), none, none] []
  refine r_iconst (pc := 0) (v := 0) C dX5_countRows_0 (by decide) ?_
  refine r_istore_n (pc := 1) (lv' := [some (.ref 0), some (.int 0), none]) C dX5_countRows_1 rfl (Nat.le_of_ble_eq_true rfl) trivial rfl ?_
  refine r_iconst (pc := 2) (v := 0) C dX5_countRows_2 (by decide) ?_
  refine r_istore_n (pc := 3) (lv' := [some (.ref 0), some (.int 0), some (.int 0)]) C dX5_countRows_3 rfl (Nat.le_of_ble_eq_true rfl) trivial rfl ?_
  show g 0 0 (wC S) 4 [some (.ref 0), some (.int 0), some (.int 0)] []
  exact lp_X5_countRows S C E 8 0 (by omega)
def countC (S : Nat → Nat → Nat → Int32) (x : Int32) : Int32 × (Nat → Nat → Nat → Int32) := (if x = 0 then (cntS S 8, S) else (if x = 1 then ((S 2) 9 0, S) else (if x = 2 then ((S 2) 8 0, S) else (if x = 3 then ((S 2) 6 0, S) else (if x = 4 then ((S 2) 7 0, S) else (if x = 5 then (bcS ((S 2) 10 0), S) else (if x = 6 then ((S 6) 5 0, S) else (if x = 7 then ((S 1) 1 0, S) else ((-1000001), S)))))))))
set_option maxHeartbeats 4000000 in
set_option maxRecDepth 100000 in
theorem c_X5_count (S : Nat → Nat → Nat → Int32) (x : Int32) : MetA yX5_count (.code yX5_count cX5_count 2 (some .int) :: TT) rmX5_count [.ref 0, .int x] (wC S) (fun vr wr => vr = some (.int (countC S x).1) ∧ wr = wC (countC S x).2) 0 0 := by
  refine MetA.of_i (by decide) (fun _ => Nat.le_of_ble_eq_true rfl) (Nat.le_of_ble_eq_true rfl) (fun g C E => ?_)
  replace C : Sem cX5_count RX5 "count" 2 rmX5_count g := C
  show g 0 0 (wC S) 0 [some (.ref 0), some (.int x)] []
  refine r_iload_n (pc := 0) C dX5_count_0 rfl rfl ?_
  by_cases q_1_0 : x = 0
  · refine r_tableIn (pc := 1) (off := 47) (tgt := 48) C dX5_count_1 (by rw [q_1_0]; decide) (by rw [q_1_0]; decide) (by rw [q_1_0]; rfl) (by decide) ?_
    refine r_aload_n (pc := 48) C dX5_count_48 rfl rfl ?_
    refine r_callV0 (pc := 49) (As := []) (st := []) (θ' := wC S) C (c_X5_countRows S ) xm_X5_countRows xk_X5_239 dX5_count_49 rfl rfl rfl rfl (Nat.le_of_ble_eq_true rfl) ⟨Nat.le_of_ble_eq_true rfl, Nat.le_of_ble_eq_true rfl⟩ ⟨rfl, rfl⟩ ⟨Nat.le_of_ble_eq_true rfl, Nat.le_of_ble_eq_true rfl⟩ rfl (Eq.trans (b := 55) rfl rfl) ?_
    show g 0 0 (wC S) 52 [some (.ref 0), some (.int x)] [.int (cntS S 8)]
    show g 0 0 (wC S) 52 [some (.ref 0), some (.int x)] [.int (cntS S 8)]
    have hX : countC S x = (cntS S 8, S) := by
      unfold countC
      rw [if_pos q_1_0]
    exact E _ _ _ _ _ _ dX5_count_52 (Nat.le_refl _) (Nat.le_refl _) rfl ⟨by rw [hX], by rw [hX]⟩
  by_cases q_1_1 : x = 1
  · refine r_tableIn (pc := 1) (off := 52) (tgt := 53) C dX5_count_1 (by rw [q_1_1]; decide) (by rw [q_1_1]; decide) (by rw [q_1_1]; rfl) (by decide) ?_
    refine r_aload_n (pc := 53) C dX5_count_53 rfl rfl ?_
    refine r_getfield (pc := 54) (v := .ref 20) C xf_X5_25 dX5_count_54 rfl rfl ?_
    refine r_getfield (pc := 57) (v := .int ((S 2) 9 0)) C xf_X5_119 dX5_count_57 rfl rfl ?_
    show g 0 0 (wC S) 60 [some (.ref 0), some (.int x)] [.int ((S 2) 9 0)]
    have hX : countC S x = ((S 2) 9 0, S) := by
      unfold countC
      rw [if_neg q_1_0, if_pos q_1_1]
    exact E _ _ _ _ _ _ dX5_count_60 (Nat.le_refl _) (Nat.le_refl _) rfl ⟨by rw [hX], by rw [hX]⟩
  by_cases q_1_2 : x = 2
  · refine r_tableIn (pc := 1) (off := 60) (tgt := 61) C dX5_count_1 (by rw [q_1_2]; decide) (by rw [q_1_2]; decide) (by rw [q_1_2]; rfl) (by decide) ?_
    refine r_aload_n (pc := 61) C dX5_count_61 rfl rfl ?_
    refine r_getfield (pc := 62) (v := .ref 20) C xf_X5_25 dX5_count_62 rfl rfl ?_
    refine r_getfield (pc := 65) (v := .int ((S 2) 8 0)) C xf_X5_128 dX5_count_65 rfl rfl ?_
    show g 0 0 (wC S) 68 [some (.ref 0), some (.int x)] [.int ((S 2) 8 0)]
    have hX : countC S x = ((S 2) 8 0, S) := by
      unfold countC
      rw [if_neg q_1_0, if_neg q_1_1, if_pos q_1_2]
    exact E _ _ _ _ _ _ dX5_count_68 (Nat.le_refl _) (Nat.le_refl _) rfl ⟨by rw [hX], by rw [hX]⟩
  by_cases q_1_3 : x = 3
  · refine r_tableIn (pc := 1) (off := 68) (tgt := 69) C dX5_count_1 (by rw [q_1_3]; decide) (by rw [q_1_3]; decide) (by rw [q_1_3]; rfl) (by decide) ?_
    refine r_aload_n (pc := 69) C dX5_count_69 rfl rfl ?_
    refine r_getfield (pc := 70) (v := .ref 20) C xf_X5_25 dX5_count_70 rfl rfl ?_
    refine r_getfield (pc := 73) (v := .int ((S 2) 6 0)) C xf_X5_242 dX5_count_73 rfl rfl ?_
    show g 0 0 (wC S) 76 [some (.ref 0), some (.int x)] [.int ((S 2) 6 0)]
    have hX : countC S x = ((S 2) 6 0, S) := by
      unfold countC
      rw [if_neg q_1_0, if_neg q_1_1, if_neg q_1_2, if_pos q_1_3]
    exact E _ _ _ _ _ _ dX5_count_76 (Nat.le_refl _) (Nat.le_refl _) rfl ⟨by rw [hX], by rw [hX]⟩
  by_cases q_1_4 : x = 4
  · refine r_tableIn (pc := 1) (off := 76) (tgt := 77) C dX5_count_1 (by rw [q_1_4]; decide) (by rw [q_1_4]; decide) (by rw [q_1_4]; rfl) (by decide) ?_
    refine r_aload_n (pc := 77) C dX5_count_77 rfl rfl ?_
    refine r_getfield (pc := 78) (v := .ref 20) C xf_X5_25 dX5_count_78 rfl rfl ?_
    refine r_getfield (pc := 81) (v := .int ((S 2) 7 0)) C xf_X5_245 dX5_count_81 rfl rfl ?_
    show g 0 0 (wC S) 84 [some (.ref 0), some (.int x)] [.int ((S 2) 7 0)]
    have hX : countC S x = ((S 2) 7 0, S) := by
      unfold countC
      rw [if_neg q_1_0, if_neg q_1_1, if_neg q_1_2, if_neg q_1_3, if_pos q_1_4]
    exact E _ _ _ _ _ _ dX5_count_84 (Nat.le_refl _) (Nat.le_refl _) rfl ⟨by rw [hX], by rw [hX]⟩
  by_cases q_1_5 : x = 5
  · refine r_tableIn (pc := 1) (off := 84) (tgt := 85) C dX5_count_1 (by rw [q_1_5]; decide) (by rw [q_1_5]; decide) (by rw [q_1_5]; rfl) (by decide) ?_
    refine r_aload_n (pc := 85) C dX5_count_85 rfl rfl ?_
    refine r_getfield (pc := 86) (v := .ref 20) C xf_X5_25 dX5_count_86 rfl rfl ?_
    refine r_getfield (pc := 89) (v := .int ((S 2) 10 0)) C xf_X5_160 dX5_count_89 rfl rfl ?_
    refine r_callS0 (pc := 92) (As := [.int ((S 2) 10 0)]) (st := []) C (c_J6_bitCount ((S 2) 10 0)) xm_J6_bitCount_0f7a4 xk_X5_248 dX5_count_92 (fun _ => rfl) (fun _ => rfl) rfl rfl (Nat.le_of_ble_eq_true rfl) ⟨Nat.le_of_ble_eq_true rfl, Nat.le_of_ble_eq_true rfl⟩ ⟨rfl, rfl⟩ ⟨Nat.le_of_ble_eq_true rfl, Nat.le_of_ble_eq_true rfl⟩ rfl ?_
    show g 0 0 (wC S) 95 [some (.ref 0), some (.int x)] [.int (bcS ((S 2) 10 0))]
    show g 0 0 (wC S) 95 [some (.ref 0), some (.int x)] [.int (bcS ((S 2) 10 0))]
    have hX : countC S x = (bcS ((S 2) 10 0), S) := by
      unfold countC
      rw [if_neg q_1_0, if_neg q_1_1, if_neg q_1_2, if_neg q_1_3, if_neg q_1_4, if_pos q_1_5]
    exact E _ _ _ _ _ _ dX5_count_95 (Nat.le_refl _) (Nat.le_refl _) rfl ⟨by rw [hX], by rw [hX]⟩
  by_cases q_1_6 : x = 6
  · refine r_tableIn (pc := 1) (off := 95) (tgt := 96) C dX5_count_1 (by rw [q_1_6]; decide) (by rw [q_1_6]; decide) (by rw [q_1_6]; rfl) (by decide) ?_
    refine r_aload_n (pc := 96) C dX5_count_96 rfl rfl ?_
    refine r_getfield (pc := 97) (v := .ref 45) C xf_X5_39 dX5_count_97 rfl rfl ?_
    refine r_getfield (pc := 100) (v := .int ((S 6) 5 0)) C xf_X5_163 dX5_count_100 rfl rfl ?_
    show g 0 0 (wC S) 103 [some (.ref 0), some (.int x)] [.int ((S 6) 5 0)]
    have hX : countC S x = ((S 6) 5 0, S) := by
      unfold countC
      rw [if_neg q_1_0, if_neg q_1_1, if_neg q_1_2, if_neg q_1_3, if_neg q_1_4, if_neg q_1_5, if_pos q_1_6]
    exact E _ _ _ _ _ _ dX5_count_103 (Nat.le_refl _) (Nat.le_refl _) rfl ⟨by rw [hX], by rw [hX]⟩
  by_cases q_1_7 : x = 7
  · refine r_tableIn (pc := 1) (off := 103) (tgt := 104) C dX5_count_1 (by rw [q_1_7]; decide) (by rw [q_1_7]; decide) (by rw [q_1_7]; rfl) (by decide) ?_
    refine r_aload_n (pc := 104) C dX5_count_104 rfl rfl ?_
    refine r_getfield (pc := 105) (v := .ref 18) C xf_X5_18 dX5_count_105 rfl rfl ?_
    refine r_getfield (pc := 108) (v := .int ((S 1) 1 0)) C xf_X5_97 dX5_count_108 rfl rfl ?_
    show g 0 0 (wC S) 111 [some (.ref 0), some (.int x)] [.int ((S 1) 1 0)]
    have hX : countC S x = ((S 1) 1 0, S) := by
      unfold countC
      rw [if_neg q_1_0, if_neg q_1_1, if_neg q_1_2, if_neg q_1_3, if_neg q_1_4, if_neg q_1_5, if_neg q_1_6, if_pos q_1_7]
    exact E _ _ _ _ _ _ dX5_count_111 (Nat.le_refl _) (Nat.le_refl _) rfl ⟨by rw [hX], by rw [hX]⟩
  refine r_tableOut (pc := 1) (tgt := 112) C dX5_count_1 (by have t_0 := lv_neT (a := 0) q_1_0 rfl; have t_1 := lv_neT (a := 1) q_1_1 rfl; have t_2 := lv_neT (a := 2) q_1_2 rfl; have t_3 := lv_neT (a := 3) q_1_3 rfl; have t_4 := lv_neT (a := 4) q_1_4 rfl; have t_5 := lv_neT (a := 5) q_1_5 rfl; have t_6 := lv_neT (a := 6) q_1_6 rfl; have t_7 := lv_neT (a := 7) q_1_7 rfl; omega) (by decide) ?_
  refine r_ldc (pc := 112) (v := (-1000001)) C dX5_count_112 tw_216 ?_
  show g 0 0 (wC S) 114 [some (.ref 0), some (.int x)] [.int (-1000001)]
  have hX : countC S x = ((-1000001), S) := by
    unfold countC
    rw [if_neg q_1_0, if_neg q_1_1, if_neg q_1_2, if_neg q_1_3, if_neg q_1_4, if_neg q_1_5, if_neg q_1_6, if_neg q_1_7]
  exact E _ _ _ _ _ _ dX5_count_114 (Nat.le_refl _) (Nat.le_refl _) rfl ⟨by rw [hX], by rw [hX]⟩
theorem isOf_f (k : Int32) : (k = 0 ∨ k = 1 ∨ k = 2 ∨ k = 3 ∨ k = 4 ∨ k = 5) ∨ (¬ k = 0 ∧ ¬ k = 1 ∧ ¬ k = 2 ∧ ¬ k = 3 ∧ ¬ k = 4 ∧ ¬ k = 5) := by
  by_cases h0 : k = 0
  · exact Or.inl (Or.inl h0)
  by_cases h1 : k = 1
  · exact Or.inl (Or.inr (Or.inl h1))
  by_cases h2 : k = 2
  · exact Or.inl (Or.inr (Or.inr (Or.inl h2)))
  by_cases h3 : k = 3
  · exact Or.inl (Or.inr (Or.inr (Or.inr (Or.inl h3))))
  by_cases h4 : k = 4
  · exact Or.inl (Or.inr (Or.inr (Or.inr (Or.inr (Or.inl h4)))))
  by_cases h5 : k = 5
  · exact Or.inl (Or.inr (Or.inr (Or.inr (Or.inr (Or.inr h5)))))
  exact Or.inr ⟨h0, h1, h2, h3, h4, h5⟩
set_option maxHeartbeats 4000000 in
set_option maxRecDepth 100000 in
theorem c_X5_isOfKind_1 (k : Int32) : MetA yX5_isOfKind (.code yX5_isOfKind cX5_isOfKind 4 (some .boolean) :: TT) rmX5_isOfKind [.int 1, .int k] ([]) (fun vr wr => vr = some (.int (bB (isOfM 1 k))) ∧ wr = []) 0 0 := by
  refine MetA.of_i (by decide) (fun _ => Nat.le_of_ble_eq_true rfl) (Nat.le_of_ble_eq_true rfl) (fun g C E => ?_)
  replace C : Sem cX5_isOfKind RX5 "isOfKind" 4 rmX5_isOfKind g := C
  show g 0 0 ([]) 0 [some (.int 1), some (.int k), none, none] []
  refine r_iload_n (pc := 0) C dX5_isOfKind_0 rfl rfl ?_
  refine r_istore_n (pc := 1) (lv' := [some (.int 1), some (.int k), some (.int 1), none]) C dX5_isOfKind_1 rfl (Nat.le_of_ble_eq_true rfl) trivial rfl ?_
  refine r_iconst (pc := 2) (v := 0) C dX5_isOfKind_2 (by decide) ?_
  refine r_istore_n (pc := 3) (lv' := [some (.int 1), some (.int k), some (.int 1), some (.int 0)]) C dX5_isOfKind_3 rfl (Nat.le_of_ble_eq_true rfl) trivial rfl ?_
  refine r_iload_n (pc := 4) C dX5_isOfKind_4 rfl rfl ?_
  refine r_bipush (pc := 5) (v := 6) C dX5_isOfKind_5 (by decide) ?_
  refine r_icmp_ge (pc := 7) (tgt := 31) C dX5_isOfKind_7 (by decide) (fun h => absurd h (by decide)) (fun _ => ?_)
  refine r_iload_n (pc := 10) C dX5_isOfKind_10 rfl rfl ?_
  refine r_iload_n (pc := 11) C dX5_isOfKind_11 rfl rfl ?_
  refine r_icmp_eq (pc := 12) (tgt := 31) C dX5_isOfKind_12 (by decide) (fun h_12 => ?_) (fun h_12 => ?_)
  · skip
    refine r_iload_n (pc := 31) C dX5_isOfKind_31 rfl rfl ?_
    refine r_iload_n (pc := 32) C dX5_isOfKind_32 rfl rfl ?_
    refine r_icmp_ne (pc := 33) (tgt := 40) C dX5_isOfKind_33 (by decide) (fun h_33 => ?_) (fun h_33 => ?_)
    · skip
      refine r_iconst (pc := 40) (v := 0) C dX5_isOfKind_40 (by decide) ?_
      show g 0 0 ([]) 41 [some (.int 1), some (.int k), some (.int 1), some (.int 0)] [.int 0]
      clear C
      exact absurd h_12 h_33
    · skip
      refine r_iconst (pc := 36) (v := 1) C dX5_isOfKind_36 (by decide) ?_
      refine r_goto (pc := 37) (tgt := 41) C dX5_isOfKind_37 (by decide) ?_
      show g 0 0 ([]) 41 [some (.int 1), some (.int k), some (.int 1), some (.int 0)] [.int 1]
      clear C
      have hX : bB (isOfM 1 k) = 1 := by rw [← h_12]; decide
      exact E _ _ _ _ _ _ dX5_isOfKind_41 (Nat.le_refl _) (Nat.le_refl _) rfl ⟨by rw [hX], rfl⟩
  · skip
    refine r_iload_n (pc := 15) C dX5_isOfKind_15 rfl rfl ?_
    refine r_if_eq (pc := 16) (tgt := 31) C dX5_isOfKind_16 (by decide) (fun h => absurd h (by decide)) (fun _ => ?_)
    refine r_tabL (pc := 19) (f := xtab1) C 1 ⟨tw_536, Or.inl ⟨rfl, rfl⟩⟩ dX5_isOfKind_19 dX5_isOfKind_22 dX5_isOfKind_23 rfl rfl (by decide) (by decide) ?_
    rw [show (xtab1 1 : Int32) = 0 from rfl]
    refine r_istore_n (pc := 24) (lv' := [some (.int 1), some (.int k), some (.int 0), some (.int 0)]) C dX5_isOfKind_24 rfl (Nat.le_of_ble_eq_true rfl) trivial rfl ?_
    refine r_iinc (pc := 25) (v := 1) (lv' := [some (.int 1), some (.int k), some (.int 0), some (.int 1)]) C dX5_isOfKind_25 rfl (by decide) trivial rfl ?_
    refine r_goto (pc := 28) (tgt := 4) C dX5_isOfKind_28 (by decide) ?_
    refine r_iload_n (pc := 4) C dX5_isOfKind_4 rfl rfl ?_
    refine r_bipush (pc := 5) (v := 6) C dX5_isOfKind_5 (by decide) ?_
    refine r_icmp_ge (pc := 7) (tgt := 31) C dX5_isOfKind_7 (by decide) (fun h => absurd h (by decide)) (fun _ => ?_)
    refine r_iload_n (pc := 10) C dX5_isOfKind_10 rfl rfl ?_
    refine r_iload_n (pc := 11) C dX5_isOfKind_11 rfl rfl ?_
    refine r_icmp_eq (pc := 12) (tgt := 31) C dX5_isOfKind_12 (by decide) (fun h_12x => ?_) (fun h_12x => ?_)
    · skip
      refine r_iload_n (pc := 31) C dX5_isOfKind_31 rfl rfl ?_
      refine r_iload_n (pc := 32) C dX5_isOfKind_32 rfl rfl ?_
      refine r_icmp_ne (pc := 33) (tgt := 40) C dX5_isOfKind_33 (by decide) (fun h_33 => ?_) (fun h_33 => ?_)
      · skip
        refine r_iconst (pc := 40) (v := 0) C dX5_isOfKind_40 (by decide) ?_
        show g 0 0 ([]) 41 [some (.int 1), some (.int k), some (.int 0), some (.int 1)] [.int 0]
        clear C
        exact absurd h_12x h_33
      · skip
        refine r_iconst (pc := 36) (v := 1) C dX5_isOfKind_36 (by decide) ?_
        refine r_goto (pc := 37) (tgt := 41) C dX5_isOfKind_37 (by decide) ?_
        show g 0 0 ([]) 41 [some (.int 1), some (.int k), some (.int 0), some (.int 1)] [.int 1]
        clear C
        have hX : bB (isOfM 1 k) = 1 := by rw [← h_12x]; decide
        exact E _ _ _ _ _ _ dX5_isOfKind_41 (Nat.le_refl _) (Nat.le_refl _) rfl ⟨by rw [hX], rfl⟩
    · skip
      refine r_iload_n (pc := 15) C dX5_isOfKind_15 rfl rfl ?_
      refine r_if_eq (pc := 16) (tgt := 31) C dX5_isOfKind_16 (by decide) (fun _ => ?_) (fun h => absurd (by decide) h)
      refine r_iload_n (pc := 31) C dX5_isOfKind_31 rfl rfl ?_
      refine r_iload_n (pc := 32) C dX5_isOfKind_32 rfl rfl ?_
      refine r_icmp_ne (pc := 33) (tgt := 40) C dX5_isOfKind_33 (by decide) (fun h_33 => ?_) (fun h_33 => ?_)
      · skip
        refine r_iconst (pc := 40) (v := 0) C dX5_isOfKind_40 (by decide) ?_
        show g 0 0 ([]) 41 [some (.int 1), some (.int k), some (.int 0), some (.int 1)] [.int 0]
        clear C
        have hX : bB (isOfM 1 k) = 0 := by
          unfold isOfM
          try rw [show decide (k = 1) = false from decide_eq_false (fun z => h_12 z.symm)]
          try rw [show decide (k = 0) = false from decide_eq_false (fun z => h_12x z.symm)]
          try rw [show decide (k = 0) = false from decide_eq_false (fun z => h_33 z.symm)]
          try rw [show decide (1 = k) = false from decide_eq_false h_12]
          first | rfl | (cases hd : decide (k = 1) <;> rfl) | (cases hd : decide (k = 4) <;> rfl) | (cases hd : decide (k = 1) <;> cases hd2 : decide (k = 4) <;> rfl)
        exact E _ _ _ _ _ _ dX5_isOfKind_41 (Nat.le_refl _) (Nat.le_refl _) rfl ⟨by rw [hX], rfl⟩
      · skip
        refine r_iconst (pc := 36) (v := 1) C dX5_isOfKind_36 (by decide) ?_
        refine r_goto (pc := 37) (tgt := 41) C dX5_isOfKind_37 (by decide) ?_
        show g 0 0 ([]) 41 [some (.int 1), some (.int k), some (.int 0), some (.int 1)] [.int 1]
        clear C
        exact absurd h_33 h_12x
set_option maxHeartbeats 4000000 in
set_option maxRecDepth 100000 in
theorem c_X5_isOfKind_2 (k : Int32) : MetA yX5_isOfKind (.code yX5_isOfKind cX5_isOfKind 4 (some .boolean) :: TT) rmX5_isOfKind [.int 2, .int k] ([]) (fun vr wr => vr = some (.int (bB (isOfM 2 k))) ∧ wr = []) 0 0 := by
  refine MetA.of_i (by decide) (fun _ => Nat.le_of_ble_eq_true rfl) (Nat.le_of_ble_eq_true rfl) (fun g C E => ?_)
  replace C : Sem cX5_isOfKind RX5 "isOfKind" 4 rmX5_isOfKind g := C
  show g 0 0 ([]) 0 [some (.int 2), some (.int k), none, none] []
  refine r_iload_n (pc := 0) C dX5_isOfKind_0 rfl rfl ?_
  refine r_istore_n (pc := 1) (lv' := [some (.int 2), some (.int k), some (.int 2), none]) C dX5_isOfKind_1 rfl (Nat.le_of_ble_eq_true rfl) trivial rfl ?_
  refine r_iconst (pc := 2) (v := 0) C dX5_isOfKind_2 (by decide) ?_
  refine r_istore_n (pc := 3) (lv' := [some (.int 2), some (.int k), some (.int 2), some (.int 0)]) C dX5_isOfKind_3 rfl (Nat.le_of_ble_eq_true rfl) trivial rfl ?_
  refine r_iload_n (pc := 4) C dX5_isOfKind_4 rfl rfl ?_
  refine r_bipush (pc := 5) (v := 6) C dX5_isOfKind_5 (by decide) ?_
  refine r_icmp_ge (pc := 7) (tgt := 31) C dX5_isOfKind_7 (by decide) (fun h => absurd h (by decide)) (fun _ => ?_)
  refine r_iload_n (pc := 10) C dX5_isOfKind_10 rfl rfl ?_
  refine r_iload_n (pc := 11) C dX5_isOfKind_11 rfl rfl ?_
  refine r_icmp_eq (pc := 12) (tgt := 31) C dX5_isOfKind_12 (by decide) (fun h_12 => ?_) (fun h_12 => ?_)
  · skip
    refine r_iload_n (pc := 31) C dX5_isOfKind_31 rfl rfl ?_
    refine r_iload_n (pc := 32) C dX5_isOfKind_32 rfl rfl ?_
    refine r_icmp_ne (pc := 33) (tgt := 40) C dX5_isOfKind_33 (by decide) (fun h_33 => ?_) (fun h_33 => ?_)
    · skip
      refine r_iconst (pc := 40) (v := 0) C dX5_isOfKind_40 (by decide) ?_
      show g 0 0 ([]) 41 [some (.int 2), some (.int k), some (.int 2), some (.int 0)] [.int 0]
      clear C
      exact absurd h_12 h_33
    · skip
      refine r_iconst (pc := 36) (v := 1) C dX5_isOfKind_36 (by decide) ?_
      refine r_goto (pc := 37) (tgt := 41) C dX5_isOfKind_37 (by decide) ?_
      show g 0 0 ([]) 41 [some (.int 2), some (.int k), some (.int 2), some (.int 0)] [.int 1]
      clear C
      have hX : bB (isOfM 2 k) = 1 := by rw [← h_12]; decide
      exact E _ _ _ _ _ _ dX5_isOfKind_41 (Nat.le_refl _) (Nat.le_refl _) rfl ⟨by rw [hX], rfl⟩
  · skip
    refine r_iload_n (pc := 15) C dX5_isOfKind_15 rfl rfl ?_
    refine r_if_eq (pc := 16) (tgt := 31) C dX5_isOfKind_16 (by decide) (fun h => absurd h (by decide)) (fun _ => ?_)
    refine r_tabL (pc := 19) (f := xtab1) C 2 ⟨tw_536, Or.inl ⟨rfl, rfl⟩⟩ dX5_isOfKind_19 dX5_isOfKind_22 dX5_isOfKind_23 rfl rfl (by decide) (by decide) ?_
    rw [show (xtab1 2 : Int32) = 1 from rfl]
    refine r_istore_n (pc := 24) (lv' := [some (.int 2), some (.int k), some (.int 1), some (.int 0)]) C dX5_isOfKind_24 rfl (Nat.le_of_ble_eq_true rfl) trivial rfl ?_
    refine r_iinc (pc := 25) (v := 1) (lv' := [some (.int 2), some (.int k), some (.int 1), some (.int 1)]) C dX5_isOfKind_25 rfl (by decide) trivial rfl ?_
    refine r_goto (pc := 28) (tgt := 4) C dX5_isOfKind_28 (by decide) ?_
    refine r_iload_n (pc := 4) C dX5_isOfKind_4 rfl rfl ?_
    refine r_bipush (pc := 5) (v := 6) C dX5_isOfKind_5 (by decide) ?_
    refine r_icmp_ge (pc := 7) (tgt := 31) C dX5_isOfKind_7 (by decide) (fun h => absurd h (by decide)) (fun _ => ?_)
    refine r_iload_n (pc := 10) C dX5_isOfKind_10 rfl rfl ?_
    refine r_iload_n (pc := 11) C dX5_isOfKind_11 rfl rfl ?_
    refine r_icmp_eq (pc := 12) (tgt := 31) C dX5_isOfKind_12 (by decide) (fun h_12x => ?_) (fun h_12x => ?_)
    · skip
      refine r_iload_n (pc := 31) C dX5_isOfKind_31 rfl rfl ?_
      refine r_iload_n (pc := 32) C dX5_isOfKind_32 rfl rfl ?_
      refine r_icmp_ne (pc := 33) (tgt := 40) C dX5_isOfKind_33 (by decide) (fun h_33 => ?_) (fun h_33 => ?_)
      · skip
        refine r_iconst (pc := 40) (v := 0) C dX5_isOfKind_40 (by decide) ?_
        show g 0 0 ([]) 41 [some (.int 2), some (.int k), some (.int 1), some (.int 1)] [.int 0]
        clear C
        exact absurd h_12x h_33
      · skip
        refine r_iconst (pc := 36) (v := 1) C dX5_isOfKind_36 (by decide) ?_
        refine r_goto (pc := 37) (tgt := 41) C dX5_isOfKind_37 (by decide) ?_
        show g 0 0 ([]) 41 [some (.int 2), some (.int k), some (.int 1), some (.int 1)] [.int 1]
        clear C
        have hX : bB (isOfM 2 k) = 1 := by rw [← h_12x]; decide
        exact E _ _ _ _ _ _ dX5_isOfKind_41 (Nat.le_refl _) (Nat.le_refl _) rfl ⟨by rw [hX], rfl⟩
    · skip
      refine r_iload_n (pc := 15) C dX5_isOfKind_15 rfl rfl ?_
      refine r_if_eq (pc := 16) (tgt := 31) C dX5_isOfKind_16 (by decide) (fun h => absurd h (by decide)) (fun _ => ?_)
      refine r_tabL (pc := 19) (f := xtab1) C 1 ⟨tw_536, Or.inl ⟨rfl, rfl⟩⟩ dX5_isOfKind_19 dX5_isOfKind_22 dX5_isOfKind_23 rfl rfl (by decide) (by decide) ?_
      rw [show (xtab1 1 : Int32) = 0 from rfl]
      refine r_istore_n (pc := 24) (lv' := [some (.int 2), some (.int k), some (.int 0), some (.int 1)]) C dX5_isOfKind_24 rfl (Nat.le_of_ble_eq_true rfl) trivial rfl ?_
      refine r_iinc (pc := 25) (v := 2) (lv' := [some (.int 2), some (.int k), some (.int 0), some (.int 2)]) C dX5_isOfKind_25 rfl (by decide) trivial rfl ?_
      refine r_goto (pc := 28) (tgt := 4) C dX5_isOfKind_28 (by decide) ?_
      refine r_iload_n (pc := 4) C dX5_isOfKind_4 rfl rfl ?_
      refine r_bipush (pc := 5) (v := 6) C dX5_isOfKind_5 (by decide) ?_
      refine r_icmp_ge (pc := 7) (tgt := 31) C dX5_isOfKind_7 (by decide) (fun h => absurd h (by decide)) (fun _ => ?_)
      refine r_iload_n (pc := 10) C dX5_isOfKind_10 rfl rfl ?_
      refine r_iload_n (pc := 11) C dX5_isOfKind_11 rfl rfl ?_
      refine r_icmp_eq (pc := 12) (tgt := 31) C dX5_isOfKind_12 (by decide) (fun h_12xx => ?_) (fun h_12xx => ?_)
      · skip
        refine r_iload_n (pc := 31) C dX5_isOfKind_31 rfl rfl ?_
        refine r_iload_n (pc := 32) C dX5_isOfKind_32 rfl rfl ?_
        refine r_icmp_ne (pc := 33) (tgt := 40) C dX5_isOfKind_33 (by decide) (fun h_33 => ?_) (fun h_33 => ?_)
        · skip
          refine r_iconst (pc := 40) (v := 0) C dX5_isOfKind_40 (by decide) ?_
          show g 0 0 ([]) 41 [some (.int 2), some (.int k), some (.int 0), some (.int 2)] [.int 0]
          clear C
          exact absurd h_12xx h_33
        · skip
          refine r_iconst (pc := 36) (v := 1) C dX5_isOfKind_36 (by decide) ?_
          refine r_goto (pc := 37) (tgt := 41) C dX5_isOfKind_37 (by decide) ?_
          show g 0 0 ([]) 41 [some (.int 2), some (.int k), some (.int 0), some (.int 2)] [.int 1]
          clear C
          have hX : bB (isOfM 2 k) = 1 := by rw [← h_12xx]; decide
          exact E _ _ _ _ _ _ dX5_isOfKind_41 (Nat.le_refl _) (Nat.le_refl _) rfl ⟨by rw [hX], rfl⟩
      · skip
        refine r_iload_n (pc := 15) C dX5_isOfKind_15 rfl rfl ?_
        refine r_if_eq (pc := 16) (tgt := 31) C dX5_isOfKind_16 (by decide) (fun _ => ?_) (fun h => absurd (by decide) h)
        refine r_iload_n (pc := 31) C dX5_isOfKind_31 rfl rfl ?_
        refine r_iload_n (pc := 32) C dX5_isOfKind_32 rfl rfl ?_
        refine r_icmp_ne (pc := 33) (tgt := 40) C dX5_isOfKind_33 (by decide) (fun h_33 => ?_) (fun h_33 => ?_)
        · skip
          refine r_iconst (pc := 40) (v := 0) C dX5_isOfKind_40 (by decide) ?_
          show g 0 0 ([]) 41 [some (.int 2), some (.int k), some (.int 0), some (.int 2)] [.int 0]
          clear C
          have hX : bB (isOfM 2 k) = 0 := by
            unfold isOfM
            try rw [show decide (k = 2) = false from decide_eq_false (fun z => h_12 z.symm)]
            try rw [show decide (k = 1) = false from decide_eq_false (fun z => h_12x z.symm)]
            try rw [show decide (k = 0) = false from decide_eq_false (fun z => h_12xx z.symm)]
            try rw [show decide (k = 0) = false from decide_eq_false (fun z => h_33 z.symm)]
            try rw [show decide (2 = k) = false from decide_eq_false h_12]
            first | rfl | (cases hd : decide (k = 1) <;> rfl) | (cases hd : decide (k = 4) <;> rfl) | (cases hd : decide (k = 1) <;> cases hd2 : decide (k = 4) <;> rfl)
          exact E _ _ _ _ _ _ dX5_isOfKind_41 (Nat.le_refl _) (Nat.le_refl _) rfl ⟨by rw [hX], rfl⟩
        · skip
          refine r_iconst (pc := 36) (v := 1) C dX5_isOfKind_36 (by decide) ?_
          refine r_goto (pc := 37) (tgt := 41) C dX5_isOfKind_37 (by decide) ?_
          show g 0 0 ([]) 41 [some (.int 2), some (.int k), some (.int 0), some (.int 2)] [.int 1]
          clear C
          exact absurd h_33 h_12xx
set_option maxHeartbeats 4000000 in
set_option maxRecDepth 100000 in
theorem c_X5_isOfKind_3 (k : Int32) : MetA yX5_isOfKind (.code yX5_isOfKind cX5_isOfKind 4 (some .boolean) :: TT) rmX5_isOfKind [.int 3, .int k] ([]) (fun vr wr => vr = some (.int (bB (isOfM 3 k))) ∧ wr = []) 0 0 := by
  refine MetA.of_i (by decide) (fun _ => Nat.le_of_ble_eq_true rfl) (Nat.le_of_ble_eq_true rfl) (fun g C E => ?_)
  replace C : Sem cX5_isOfKind RX5 "isOfKind" 4 rmX5_isOfKind g := C
  show g 0 0 ([]) 0 [some (.int 3), some (.int k), none, none] []
  refine r_iload_n (pc := 0) C dX5_isOfKind_0 rfl rfl ?_
  refine r_istore_n (pc := 1) (lv' := [some (.int 3), some (.int k), some (.int 3), none]) C dX5_isOfKind_1 rfl (Nat.le_of_ble_eq_true rfl) trivial rfl ?_
  refine r_iconst (pc := 2) (v := 0) C dX5_isOfKind_2 (by decide) ?_
  refine r_istore_n (pc := 3) (lv' := [some (.int 3), some (.int k), some (.int 3), some (.int 0)]) C dX5_isOfKind_3 rfl (Nat.le_of_ble_eq_true rfl) trivial rfl ?_
  refine r_iload_n (pc := 4) C dX5_isOfKind_4 rfl rfl ?_
  refine r_bipush (pc := 5) (v := 6) C dX5_isOfKind_5 (by decide) ?_
  refine r_icmp_ge (pc := 7) (tgt := 31) C dX5_isOfKind_7 (by decide) (fun h => absurd h (by decide)) (fun _ => ?_)
  refine r_iload_n (pc := 10) C dX5_isOfKind_10 rfl rfl ?_
  refine r_iload_n (pc := 11) C dX5_isOfKind_11 rfl rfl ?_
  refine r_icmp_eq (pc := 12) (tgt := 31) C dX5_isOfKind_12 (by decide) (fun h_12 => ?_) (fun h_12 => ?_)
  · skip
    refine r_iload_n (pc := 31) C dX5_isOfKind_31 rfl rfl ?_
    refine r_iload_n (pc := 32) C dX5_isOfKind_32 rfl rfl ?_
    refine r_icmp_ne (pc := 33) (tgt := 40) C dX5_isOfKind_33 (by decide) (fun h_33 => ?_) (fun h_33 => ?_)
    · skip
      refine r_iconst (pc := 40) (v := 0) C dX5_isOfKind_40 (by decide) ?_
      show g 0 0 ([]) 41 [some (.int 3), some (.int k), some (.int 3), some (.int 0)] [.int 0]
      clear C
      exact absurd h_12 h_33
    · skip
      refine r_iconst (pc := 36) (v := 1) C dX5_isOfKind_36 (by decide) ?_
      refine r_goto (pc := 37) (tgt := 41) C dX5_isOfKind_37 (by decide) ?_
      show g 0 0 ([]) 41 [some (.int 3), some (.int k), some (.int 3), some (.int 0)] [.int 1]
      clear C
      have hX : bB (isOfM 3 k) = 1 := by rw [← h_12]; decide
      exact E _ _ _ _ _ _ dX5_isOfKind_41 (Nat.le_refl _) (Nat.le_refl _) rfl ⟨by rw [hX], rfl⟩
  · skip
    refine r_iload_n (pc := 15) C dX5_isOfKind_15 rfl rfl ?_
    refine r_if_eq (pc := 16) (tgt := 31) C dX5_isOfKind_16 (by decide) (fun h => absurd h (by decide)) (fun _ => ?_)
    refine r_tabL (pc := 19) (f := xtab1) C 3 ⟨tw_536, Or.inl ⟨rfl, rfl⟩⟩ dX5_isOfKind_19 dX5_isOfKind_22 dX5_isOfKind_23 rfl rfl (by decide) (by decide) ?_
    rw [show (xtab1 3 : Int32) = 1 from rfl]
    refine r_istore_n (pc := 24) (lv' := [some (.int 3), some (.int k), some (.int 1), some (.int 0)]) C dX5_isOfKind_24 rfl (Nat.le_of_ble_eq_true rfl) trivial rfl ?_
    refine r_iinc (pc := 25) (v := 1) (lv' := [some (.int 3), some (.int k), some (.int 1), some (.int 1)]) C dX5_isOfKind_25 rfl (by decide) trivial rfl ?_
    refine r_goto (pc := 28) (tgt := 4) C dX5_isOfKind_28 (by decide) ?_
    refine r_iload_n (pc := 4) C dX5_isOfKind_4 rfl rfl ?_
    refine r_bipush (pc := 5) (v := 6) C dX5_isOfKind_5 (by decide) ?_
    refine r_icmp_ge (pc := 7) (tgt := 31) C dX5_isOfKind_7 (by decide) (fun h => absurd h (by decide)) (fun _ => ?_)
    refine r_iload_n (pc := 10) C dX5_isOfKind_10 rfl rfl ?_
    refine r_iload_n (pc := 11) C dX5_isOfKind_11 rfl rfl ?_
    refine r_icmp_eq (pc := 12) (tgt := 31) C dX5_isOfKind_12 (by decide) (fun h_12x => ?_) (fun h_12x => ?_)
    · skip
      refine r_iload_n (pc := 31) C dX5_isOfKind_31 rfl rfl ?_
      refine r_iload_n (pc := 32) C dX5_isOfKind_32 rfl rfl ?_
      refine r_icmp_ne (pc := 33) (tgt := 40) C dX5_isOfKind_33 (by decide) (fun h_33 => ?_) (fun h_33 => ?_)
      · skip
        refine r_iconst (pc := 40) (v := 0) C dX5_isOfKind_40 (by decide) ?_
        show g 0 0 ([]) 41 [some (.int 3), some (.int k), some (.int 1), some (.int 1)] [.int 0]
        clear C
        exact absurd h_12x h_33
      · skip
        refine r_iconst (pc := 36) (v := 1) C dX5_isOfKind_36 (by decide) ?_
        refine r_goto (pc := 37) (tgt := 41) C dX5_isOfKind_37 (by decide) ?_
        show g 0 0 ([]) 41 [some (.int 3), some (.int k), some (.int 1), some (.int 1)] [.int 1]
        clear C
        have hX : bB (isOfM 3 k) = 1 := by rw [← h_12x]; decide
        exact E _ _ _ _ _ _ dX5_isOfKind_41 (Nat.le_refl _) (Nat.le_refl _) rfl ⟨by rw [hX], rfl⟩
    · skip
      refine r_iload_n (pc := 15) C dX5_isOfKind_15 rfl rfl ?_
      refine r_if_eq (pc := 16) (tgt := 31) C dX5_isOfKind_16 (by decide) (fun h => absurd h (by decide)) (fun _ => ?_)
      refine r_tabL (pc := 19) (f := xtab1) C 1 ⟨tw_536, Or.inl ⟨rfl, rfl⟩⟩ dX5_isOfKind_19 dX5_isOfKind_22 dX5_isOfKind_23 rfl rfl (by decide) (by decide) ?_
      rw [show (xtab1 1 : Int32) = 0 from rfl]
      refine r_istore_n (pc := 24) (lv' := [some (.int 3), some (.int k), some (.int 0), some (.int 1)]) C dX5_isOfKind_24 rfl (Nat.le_of_ble_eq_true rfl) trivial rfl ?_
      refine r_iinc (pc := 25) (v := 2) (lv' := [some (.int 3), some (.int k), some (.int 0), some (.int 2)]) C dX5_isOfKind_25 rfl (by decide) trivial rfl ?_
      refine r_goto (pc := 28) (tgt := 4) C dX5_isOfKind_28 (by decide) ?_
      refine r_iload_n (pc := 4) C dX5_isOfKind_4 rfl rfl ?_
      refine r_bipush (pc := 5) (v := 6) C dX5_isOfKind_5 (by decide) ?_
      refine r_icmp_ge (pc := 7) (tgt := 31) C dX5_isOfKind_7 (by decide) (fun h => absurd h (by decide)) (fun _ => ?_)
      refine r_iload_n (pc := 10) C dX5_isOfKind_10 rfl rfl ?_
      refine r_iload_n (pc := 11) C dX5_isOfKind_11 rfl rfl ?_
      refine r_icmp_eq (pc := 12) (tgt := 31) C dX5_isOfKind_12 (by decide) (fun h_12xx => ?_) (fun h_12xx => ?_)
      · skip
        refine r_iload_n (pc := 31) C dX5_isOfKind_31 rfl rfl ?_
        refine r_iload_n (pc := 32) C dX5_isOfKind_32 rfl rfl ?_
        refine r_icmp_ne (pc := 33) (tgt := 40) C dX5_isOfKind_33 (by decide) (fun h_33 => ?_) (fun h_33 => ?_)
        · skip
          refine r_iconst (pc := 40) (v := 0) C dX5_isOfKind_40 (by decide) ?_
          show g 0 0 ([]) 41 [some (.int 3), some (.int k), some (.int 0), some (.int 2)] [.int 0]
          clear C
          exact absurd h_12xx h_33
        · skip
          refine r_iconst (pc := 36) (v := 1) C dX5_isOfKind_36 (by decide) ?_
          refine r_goto (pc := 37) (tgt := 41) C dX5_isOfKind_37 (by decide) ?_
          show g 0 0 ([]) 41 [some (.int 3), some (.int k), some (.int 0), some (.int 2)] [.int 1]
          clear C
          have hX : bB (isOfM 3 k) = 1 := by rw [← h_12xx]; decide
          exact E _ _ _ _ _ _ dX5_isOfKind_41 (Nat.le_refl _) (Nat.le_refl _) rfl ⟨by rw [hX], rfl⟩
      · skip
        refine r_iload_n (pc := 15) C dX5_isOfKind_15 rfl rfl ?_
        refine r_if_eq (pc := 16) (tgt := 31) C dX5_isOfKind_16 (by decide) (fun _ => ?_) (fun h => absurd (by decide) h)
        refine r_iload_n (pc := 31) C dX5_isOfKind_31 rfl rfl ?_
        refine r_iload_n (pc := 32) C dX5_isOfKind_32 rfl rfl ?_
        refine r_icmp_ne (pc := 33) (tgt := 40) C dX5_isOfKind_33 (by decide) (fun h_33 => ?_) (fun h_33 => ?_)
        · skip
          refine r_iconst (pc := 40) (v := 0) C dX5_isOfKind_40 (by decide) ?_
          show g 0 0 ([]) 41 [some (.int 3), some (.int k), some (.int 0), some (.int 2)] [.int 0]
          clear C
          have hX : bB (isOfM 3 k) = 0 := by
            unfold isOfM
            try rw [show decide (k = 3) = false from decide_eq_false (fun z => h_12 z.symm)]
            try rw [show decide (k = 1) = false from decide_eq_false (fun z => h_12x z.symm)]
            try rw [show decide (k = 0) = false from decide_eq_false (fun z => h_12xx z.symm)]
            try rw [show decide (k = 0) = false from decide_eq_false (fun z => h_33 z.symm)]
            try rw [show decide (3 = k) = false from decide_eq_false h_12]
            first | rfl | (cases hd : decide (k = 1) <;> rfl) | (cases hd : decide (k = 4) <;> rfl) | (cases hd : decide (k = 1) <;> cases hd2 : decide (k = 4) <;> rfl)
          exact E _ _ _ _ _ _ dX5_isOfKind_41 (Nat.le_refl _) (Nat.le_refl _) rfl ⟨by rw [hX], rfl⟩
        · skip
          refine r_iconst (pc := 36) (v := 1) C dX5_isOfKind_36 (by decide) ?_
          refine r_goto (pc := 37) (tgt := 41) C dX5_isOfKind_37 (by decide) ?_
          show g 0 0 ([]) 41 [some (.int 3), some (.int k), some (.int 0), some (.int 2)] [.int 1]
          clear C
          exact absurd h_33 h_12xx
set_option maxHeartbeats 4000000 in
set_option maxRecDepth 100000 in
theorem c_X5_isOfKind_4 (k : Int32) : MetA yX5_isOfKind (.code yX5_isOfKind cX5_isOfKind 4 (some .boolean) :: TT) rmX5_isOfKind [.int 4, .int k] ([]) (fun vr wr => vr = some (.int (bB (isOfM 4 k))) ∧ wr = []) 0 0 := by
  refine MetA.of_i (by decide) (fun _ => Nat.le_of_ble_eq_true rfl) (Nat.le_of_ble_eq_true rfl) (fun g C E => ?_)
  replace C : Sem cX5_isOfKind RX5 "isOfKind" 4 rmX5_isOfKind g := C
  show g 0 0 ([]) 0 [some (.int 4), some (.int k), none, none] []
  refine r_iload_n (pc := 0) C dX5_isOfKind_0 rfl rfl ?_
  refine r_istore_n (pc := 1) (lv' := [some (.int 4), some (.int k), some (.int 4), none]) C dX5_isOfKind_1 rfl (Nat.le_of_ble_eq_true rfl) trivial rfl ?_
  refine r_iconst (pc := 2) (v := 0) C dX5_isOfKind_2 (by decide) ?_
  refine r_istore_n (pc := 3) (lv' := [some (.int 4), some (.int k), some (.int 4), some (.int 0)]) C dX5_isOfKind_3 rfl (Nat.le_of_ble_eq_true rfl) trivial rfl ?_
  refine r_iload_n (pc := 4) C dX5_isOfKind_4 rfl rfl ?_
  refine r_bipush (pc := 5) (v := 6) C dX5_isOfKind_5 (by decide) ?_
  refine r_icmp_ge (pc := 7) (tgt := 31) C dX5_isOfKind_7 (by decide) (fun h => absurd h (by decide)) (fun _ => ?_)
  refine r_iload_n (pc := 10) C dX5_isOfKind_10 rfl rfl ?_
  refine r_iload_n (pc := 11) C dX5_isOfKind_11 rfl rfl ?_
  refine r_icmp_eq (pc := 12) (tgt := 31) C dX5_isOfKind_12 (by decide) (fun h_12 => ?_) (fun h_12 => ?_)
  · skip
    refine r_iload_n (pc := 31) C dX5_isOfKind_31 rfl rfl ?_
    refine r_iload_n (pc := 32) C dX5_isOfKind_32 rfl rfl ?_
    refine r_icmp_ne (pc := 33) (tgt := 40) C dX5_isOfKind_33 (by decide) (fun h_33 => ?_) (fun h_33 => ?_)
    · skip
      refine r_iconst (pc := 40) (v := 0) C dX5_isOfKind_40 (by decide) ?_
      show g 0 0 ([]) 41 [some (.int 4), some (.int k), some (.int 4), some (.int 0)] [.int 0]
      clear C
      exact absurd h_12 h_33
    · skip
      refine r_iconst (pc := 36) (v := 1) C dX5_isOfKind_36 (by decide) ?_
      refine r_goto (pc := 37) (tgt := 41) C dX5_isOfKind_37 (by decide) ?_
      show g 0 0 ([]) 41 [some (.int 4), some (.int k), some (.int 4), some (.int 0)] [.int 1]
      clear C
      have hX : bB (isOfM 4 k) = 1 := by rw [← h_12]; decide
      exact E _ _ _ _ _ _ dX5_isOfKind_41 (Nat.le_refl _) (Nat.le_refl _) rfl ⟨by rw [hX], rfl⟩
  · skip
    refine r_iload_n (pc := 15) C dX5_isOfKind_15 rfl rfl ?_
    refine r_if_eq (pc := 16) (tgt := 31) C dX5_isOfKind_16 (by decide) (fun h => absurd h (by decide)) (fun _ => ?_)
    refine r_tabL (pc := 19) (f := xtab1) C 4 ⟨tw_536, Or.inl ⟨rfl, rfl⟩⟩ dX5_isOfKind_19 dX5_isOfKind_22 dX5_isOfKind_23 rfl rfl (by decide) (by decide) ?_
    rw [show (xtab1 4 : Int32) = 0 from rfl]
    refine r_istore_n (pc := 24) (lv' := [some (.int 4), some (.int k), some (.int 0), some (.int 0)]) C dX5_isOfKind_24 rfl (Nat.le_of_ble_eq_true rfl) trivial rfl ?_
    refine r_iinc (pc := 25) (v := 1) (lv' := [some (.int 4), some (.int k), some (.int 0), some (.int 1)]) C dX5_isOfKind_25 rfl (by decide) trivial rfl ?_
    refine r_goto (pc := 28) (tgt := 4) C dX5_isOfKind_28 (by decide) ?_
    refine r_iload_n (pc := 4) C dX5_isOfKind_4 rfl rfl ?_
    refine r_bipush (pc := 5) (v := 6) C dX5_isOfKind_5 (by decide) ?_
    refine r_icmp_ge (pc := 7) (tgt := 31) C dX5_isOfKind_7 (by decide) (fun h => absurd h (by decide)) (fun _ => ?_)
    refine r_iload_n (pc := 10) C dX5_isOfKind_10 rfl rfl ?_
    refine r_iload_n (pc := 11) C dX5_isOfKind_11 rfl rfl ?_
    refine r_icmp_eq (pc := 12) (tgt := 31) C dX5_isOfKind_12 (by decide) (fun h_12x => ?_) (fun h_12x => ?_)
    · skip
      refine r_iload_n (pc := 31) C dX5_isOfKind_31 rfl rfl ?_
      refine r_iload_n (pc := 32) C dX5_isOfKind_32 rfl rfl ?_
      refine r_icmp_ne (pc := 33) (tgt := 40) C dX5_isOfKind_33 (by decide) (fun h_33 => ?_) (fun h_33 => ?_)
      · skip
        refine r_iconst (pc := 40) (v := 0) C dX5_isOfKind_40 (by decide) ?_
        show g 0 0 ([]) 41 [some (.int 4), some (.int k), some (.int 0), some (.int 1)] [.int 0]
        clear C
        exact absurd h_12x h_33
      · skip
        refine r_iconst (pc := 36) (v := 1) C dX5_isOfKind_36 (by decide) ?_
        refine r_goto (pc := 37) (tgt := 41) C dX5_isOfKind_37 (by decide) ?_
        show g 0 0 ([]) 41 [some (.int 4), some (.int k), some (.int 0), some (.int 1)] [.int 1]
        clear C
        have hX : bB (isOfM 4 k) = 1 := by rw [← h_12x]; decide
        exact E _ _ _ _ _ _ dX5_isOfKind_41 (Nat.le_refl _) (Nat.le_refl _) rfl ⟨by rw [hX], rfl⟩
    · skip
      refine r_iload_n (pc := 15) C dX5_isOfKind_15 rfl rfl ?_
      refine r_if_eq (pc := 16) (tgt := 31) C dX5_isOfKind_16 (by decide) (fun _ => ?_) (fun h => absurd (by decide) h)
      refine r_iload_n (pc := 31) C dX5_isOfKind_31 rfl rfl ?_
      refine r_iload_n (pc := 32) C dX5_isOfKind_32 rfl rfl ?_
      refine r_icmp_ne (pc := 33) (tgt := 40) C dX5_isOfKind_33 (by decide) (fun h_33 => ?_) (fun h_33 => ?_)
      · skip
        refine r_iconst (pc := 40) (v := 0) C dX5_isOfKind_40 (by decide) ?_
        show g 0 0 ([]) 41 [some (.int 4), some (.int k), some (.int 0), some (.int 1)] [.int 0]
        clear C
        have hX : bB (isOfM 4 k) = 0 := by
          unfold isOfM
          try rw [show decide (k = 4) = false from decide_eq_false (fun z => h_12 z.symm)]
          try rw [show decide (k = 0) = false from decide_eq_false (fun z => h_12x z.symm)]
          try rw [show decide (k = 0) = false from decide_eq_false (fun z => h_33 z.symm)]
          try rw [show decide (4 = k) = false from decide_eq_false h_12]
          first | rfl | (cases hd : decide (k = 1) <;> rfl) | (cases hd : decide (k = 4) <;> rfl) | (cases hd : decide (k = 1) <;> cases hd2 : decide (k = 4) <;> rfl)
        exact E _ _ _ _ _ _ dX5_isOfKind_41 (Nat.le_refl _) (Nat.le_refl _) rfl ⟨by rw [hX], rfl⟩
      · skip
        refine r_iconst (pc := 36) (v := 1) C dX5_isOfKind_36 (by decide) ?_
        refine r_goto (pc := 37) (tgt := 41) C dX5_isOfKind_37 (by decide) ?_
        show g 0 0 ([]) 41 [some (.int 4), some (.int k), some (.int 0), some (.int 1)] [.int 1]
        clear C
        exact absurd h_33 h_12x
set_option maxHeartbeats 4000000 in
set_option maxRecDepth 100000 in
theorem c_X5_isOfKind_5 (k : Int32) : MetA yX5_isOfKind (.code yX5_isOfKind cX5_isOfKind 4 (some .boolean) :: TT) rmX5_isOfKind [.int 5, .int k] ([]) (fun vr wr => vr = some (.int (bB (isOfM 5 k))) ∧ wr = []) 0 0 := by
  refine MetA.of_i (by decide) (fun _ => Nat.le_of_ble_eq_true rfl) (Nat.le_of_ble_eq_true rfl) (fun g C E => ?_)
  replace C : Sem cX5_isOfKind RX5 "isOfKind" 4 rmX5_isOfKind g := C
  show g 0 0 ([]) 0 [some (.int 5), some (.int k), none, none] []
  refine r_iload_n (pc := 0) C dX5_isOfKind_0 rfl rfl ?_
  refine r_istore_n (pc := 1) (lv' := [some (.int 5), some (.int k), some (.int 5), none]) C dX5_isOfKind_1 rfl (Nat.le_of_ble_eq_true rfl) trivial rfl ?_
  refine r_iconst (pc := 2) (v := 0) C dX5_isOfKind_2 (by decide) ?_
  refine r_istore_n (pc := 3) (lv' := [some (.int 5), some (.int k), some (.int 5), some (.int 0)]) C dX5_isOfKind_3 rfl (Nat.le_of_ble_eq_true rfl) trivial rfl ?_
  refine r_iload_n (pc := 4) C dX5_isOfKind_4 rfl rfl ?_
  refine r_bipush (pc := 5) (v := 6) C dX5_isOfKind_5 (by decide) ?_
  refine r_icmp_ge (pc := 7) (tgt := 31) C dX5_isOfKind_7 (by decide) (fun h => absurd h (by decide)) (fun _ => ?_)
  refine r_iload_n (pc := 10) C dX5_isOfKind_10 rfl rfl ?_
  refine r_iload_n (pc := 11) C dX5_isOfKind_11 rfl rfl ?_
  refine r_icmp_eq (pc := 12) (tgt := 31) C dX5_isOfKind_12 (by decide) (fun h_12 => ?_) (fun h_12 => ?_)
  · skip
    refine r_iload_n (pc := 31) C dX5_isOfKind_31 rfl rfl ?_
    refine r_iload_n (pc := 32) C dX5_isOfKind_32 rfl rfl ?_
    refine r_icmp_ne (pc := 33) (tgt := 40) C dX5_isOfKind_33 (by decide) (fun h_33 => ?_) (fun h_33 => ?_)
    · skip
      refine r_iconst (pc := 40) (v := 0) C dX5_isOfKind_40 (by decide) ?_
      show g 0 0 ([]) 41 [some (.int 5), some (.int k), some (.int 5), some (.int 0)] [.int 0]
      clear C
      exact absurd h_12 h_33
    · skip
      refine r_iconst (pc := 36) (v := 1) C dX5_isOfKind_36 (by decide) ?_
      refine r_goto (pc := 37) (tgt := 41) C dX5_isOfKind_37 (by decide) ?_
      show g 0 0 ([]) 41 [some (.int 5), some (.int k), some (.int 5), some (.int 0)] [.int 1]
      clear C
      have hX : bB (isOfM 5 k) = 1 := by rw [← h_12]; decide
      exact E _ _ _ _ _ _ dX5_isOfKind_41 (Nat.le_refl _) (Nat.le_refl _) rfl ⟨by rw [hX], rfl⟩
  · skip
    refine r_iload_n (pc := 15) C dX5_isOfKind_15 rfl rfl ?_
    refine r_if_eq (pc := 16) (tgt := 31) C dX5_isOfKind_16 (by decide) (fun h => absurd h (by decide)) (fun _ => ?_)
    refine r_tabL (pc := 19) (f := xtab1) C 5 ⟨tw_536, Or.inl ⟨rfl, rfl⟩⟩ dX5_isOfKind_19 dX5_isOfKind_22 dX5_isOfKind_23 rfl rfl (by decide) (by decide) ?_
    rw [show (xtab1 5 : Int32) = 4 from rfl]
    refine r_istore_n (pc := 24) (lv' := [some (.int 5), some (.int k), some (.int 4), some (.int 0)]) C dX5_isOfKind_24 rfl (Nat.le_of_ble_eq_true rfl) trivial rfl ?_
    refine r_iinc (pc := 25) (v := 1) (lv' := [some (.int 5), some (.int k), some (.int 4), some (.int 1)]) C dX5_isOfKind_25 rfl (by decide) trivial rfl ?_
    refine r_goto (pc := 28) (tgt := 4) C dX5_isOfKind_28 (by decide) ?_
    refine r_iload_n (pc := 4) C dX5_isOfKind_4 rfl rfl ?_
    refine r_bipush (pc := 5) (v := 6) C dX5_isOfKind_5 (by decide) ?_
    refine r_icmp_ge (pc := 7) (tgt := 31) C dX5_isOfKind_7 (by decide) (fun h => absurd h (by decide)) (fun _ => ?_)
    refine r_iload_n (pc := 10) C dX5_isOfKind_10 rfl rfl ?_
    refine r_iload_n (pc := 11) C dX5_isOfKind_11 rfl rfl ?_
    refine r_icmp_eq (pc := 12) (tgt := 31) C dX5_isOfKind_12 (by decide) (fun h_12x => ?_) (fun h_12x => ?_)
    · skip
      refine r_iload_n (pc := 31) C dX5_isOfKind_31 rfl rfl ?_
      refine r_iload_n (pc := 32) C dX5_isOfKind_32 rfl rfl ?_
      refine r_icmp_ne (pc := 33) (tgt := 40) C dX5_isOfKind_33 (by decide) (fun h_33 => ?_) (fun h_33 => ?_)
      · skip
        refine r_iconst (pc := 40) (v := 0) C dX5_isOfKind_40 (by decide) ?_
        show g 0 0 ([]) 41 [some (.int 5), some (.int k), some (.int 4), some (.int 1)] [.int 0]
        clear C
        exact absurd h_12x h_33
      · skip
        refine r_iconst (pc := 36) (v := 1) C dX5_isOfKind_36 (by decide) ?_
        refine r_goto (pc := 37) (tgt := 41) C dX5_isOfKind_37 (by decide) ?_
        show g 0 0 ([]) 41 [some (.int 5), some (.int k), some (.int 4), some (.int 1)] [.int 1]
        clear C
        have hX : bB (isOfM 5 k) = 1 := by rw [← h_12x]; decide
        exact E _ _ _ _ _ _ dX5_isOfKind_41 (Nat.le_refl _) (Nat.le_refl _) rfl ⟨by rw [hX], rfl⟩
    · skip
      refine r_iload_n (pc := 15) C dX5_isOfKind_15 rfl rfl ?_
      refine r_if_eq (pc := 16) (tgt := 31) C dX5_isOfKind_16 (by decide) (fun h => absurd h (by decide)) (fun _ => ?_)
      refine r_tabL (pc := 19) (f := xtab1) C 4 ⟨tw_536, Or.inl ⟨rfl, rfl⟩⟩ dX5_isOfKind_19 dX5_isOfKind_22 dX5_isOfKind_23 rfl rfl (by decide) (by decide) ?_
      rw [show (xtab1 4 : Int32) = 0 from rfl]
      refine r_istore_n (pc := 24) (lv' := [some (.int 5), some (.int k), some (.int 0), some (.int 1)]) C dX5_isOfKind_24 rfl (Nat.le_of_ble_eq_true rfl) trivial rfl ?_
      refine r_iinc (pc := 25) (v := 2) (lv' := [some (.int 5), some (.int k), some (.int 0), some (.int 2)]) C dX5_isOfKind_25 rfl (by decide) trivial rfl ?_
      refine r_goto (pc := 28) (tgt := 4) C dX5_isOfKind_28 (by decide) ?_
      refine r_iload_n (pc := 4) C dX5_isOfKind_4 rfl rfl ?_
      refine r_bipush (pc := 5) (v := 6) C dX5_isOfKind_5 (by decide) ?_
      refine r_icmp_ge (pc := 7) (tgt := 31) C dX5_isOfKind_7 (by decide) (fun h => absurd h (by decide)) (fun _ => ?_)
      refine r_iload_n (pc := 10) C dX5_isOfKind_10 rfl rfl ?_
      refine r_iload_n (pc := 11) C dX5_isOfKind_11 rfl rfl ?_
      refine r_icmp_eq (pc := 12) (tgt := 31) C dX5_isOfKind_12 (by decide) (fun h_12xx => ?_) (fun h_12xx => ?_)
      · skip
        refine r_iload_n (pc := 31) C dX5_isOfKind_31 rfl rfl ?_
        refine r_iload_n (pc := 32) C dX5_isOfKind_32 rfl rfl ?_
        refine r_icmp_ne (pc := 33) (tgt := 40) C dX5_isOfKind_33 (by decide) (fun h_33 => ?_) (fun h_33 => ?_)
        · skip
          refine r_iconst (pc := 40) (v := 0) C dX5_isOfKind_40 (by decide) ?_
          show g 0 0 ([]) 41 [some (.int 5), some (.int k), some (.int 0), some (.int 2)] [.int 0]
          clear C
          exact absurd h_12xx h_33
        · skip
          refine r_iconst (pc := 36) (v := 1) C dX5_isOfKind_36 (by decide) ?_
          refine r_goto (pc := 37) (tgt := 41) C dX5_isOfKind_37 (by decide) ?_
          show g 0 0 ([]) 41 [some (.int 5), some (.int k), some (.int 0), some (.int 2)] [.int 1]
          clear C
          have hX : bB (isOfM 5 k) = 1 := by rw [← h_12xx]; decide
          exact E _ _ _ _ _ _ dX5_isOfKind_41 (Nat.le_refl _) (Nat.le_refl _) rfl ⟨by rw [hX], rfl⟩
      · skip
        refine r_iload_n (pc := 15) C dX5_isOfKind_15 rfl rfl ?_
        refine r_if_eq (pc := 16) (tgt := 31) C dX5_isOfKind_16 (by decide) (fun _ => ?_) (fun h => absurd (by decide) h)
        refine r_iload_n (pc := 31) C dX5_isOfKind_31 rfl rfl ?_
        refine r_iload_n (pc := 32) C dX5_isOfKind_32 rfl rfl ?_
        refine r_icmp_ne (pc := 33) (tgt := 40) C dX5_isOfKind_33 (by decide) (fun h_33 => ?_) (fun h_33 => ?_)
        · skip
          refine r_iconst (pc := 40) (v := 0) C dX5_isOfKind_40 (by decide) ?_
          show g 0 0 ([]) 41 [some (.int 5), some (.int k), some (.int 0), some (.int 2)] [.int 0]
          clear C
          have hX : bB (isOfM 5 k) = 0 := by
            unfold isOfM
            try rw [show decide (k = 5) = false from decide_eq_false (fun z => h_12 z.symm)]
            try rw [show decide (k = 4) = false from decide_eq_false (fun z => h_12x z.symm)]
            try rw [show decide (k = 0) = false from decide_eq_false (fun z => h_12xx z.symm)]
            try rw [show decide (k = 0) = false from decide_eq_false (fun z => h_33 z.symm)]
            try rw [show decide (5 = k) = false from decide_eq_false h_12]
            first | rfl | (cases hd : decide (k = 1) <;> rfl) | (cases hd : decide (k = 4) <;> rfl) | (cases hd : decide (k = 1) <;> cases hd2 : decide (k = 4) <;> rfl)
          exact E _ _ _ _ _ _ dX5_isOfKind_41 (Nat.le_refl _) (Nat.le_refl _) rfl ⟨by rw [hX], rfl⟩
        · skip
          refine r_iconst (pc := 36) (v := 1) C dX5_isOfKind_36 (by decide) ?_
          refine r_goto (pc := 37) (tgt := 41) C dX5_isOfKind_37 (by decide) ?_
          show g 0 0 ([]) 41 [some (.int 5), some (.int k), some (.int 0), some (.int 2)] [.int 1]
          clear C
          exact absurd h_33 h_12xx
theorem c_X5_isOfKind (v k : Int32) (hv : v = 1 ∨ v = 2 ∨ v = 3 ∨ v = 4 ∨ v = 5) : MetA yX5_isOfKind (.code yX5_isOfKind cX5_isOfKind 4 (some .boolean) :: TT) rmX5_isOfKind [.int v, .int k] [] (fun vr wr => vr = some (.int (bB (isOfM v k))) ∧ wr = []) 0 0 := by
  rcases hv with rfl | rfl | rfl | rfl | rfl
  · exact c_X5_isOfKind_1 k
  · exact c_X5_isOfKind_2 k
  · exact c_X5_isOfKind_3 k
  · exact c_X5_isOfKind_4 k
  · exact c_X5_isOfKind_5 k
def asC (S : Nat → Nat → Nat → Int32) (h k : Int32) : Int32 × (Nat → Nat → Nat → Int32) := (if (belS h ((S 2) 9 0)) = true then (if (belS k 6) = true then (if (isOfM ((S 2) 0 (ix h)) k) = true then (h, (up3 S 0 (up2 (S 0) 9 (k1 0)))) else ((-1000010) - 3, (up3 S 0 (up2 (S 0) 9 (k1 3))))) else ((-1000001), S)) else ((-1000001), S))
set_option maxHeartbeats 4000000 in
set_option maxRecDepth 100000 in
theorem c_X5_as (S : Nat → Nat → Nat → Int32) (h k : Int32) (z : Nat) (hS : okS S z) (hk : ∀ i, i < z → okK (S 2) i) : MetA yX5_as (.code yX5_as cX5_as 3 (some .int) :: TT) rmX5_as [.ref 0, .int h, .int k] (wC S) (fun vr wr => vr = some (.int (asC S h k).1) ∧ wr = wC (asC S h k).2) 0 0 := by
  refine MetA.of_i (by decide) (fun _ => Nat.le_of_ble_eq_true rfl) (Nat.le_of_ble_eq_true rfl) (fun g C E => ?_)
  replace C : Sem cX5_as RX5 "as" 3 rmX5_as g := C
  show g 0 0 (wC S) 0 [some (.ref 0), some (.int h), some (.int k)] []
  refine r_aload_n (pc := 0) C dX5_as_0 rfl rfl ?_
  refine r_iload_n (pc := 1) C dX5_as_1 rfl rfl ?_
  refine r_callV0 (pc := 2) (As := [.int h]) (st := []) (θ' := wC S) C (c_X5_isHammock S h) xm_X5_isHammock xk_X5_138 dX5_as_2 rfl rfl rfl rfl (Nat.le_of_ble_eq_true rfl) ⟨Nat.le_of_ble_eq_true rfl, Nat.le_of_ble_eq_true rfl⟩ ⟨rfl, rfl⟩ ⟨Nat.le_of_ble_eq_true rfl, Nat.le_of_ble_eq_true rfl⟩ rfl (Eq.trans (b := 55) rfl rfl) ?_
  show g 0 0 (wC S) 5 [some (.ref 0), some (.int h), some (.int k)] [.int (bB (belS h ((S 2) 9 0)))]
  refine r_if_eq (pc := 5) (tgt := 17) C dX5_as_5 (by decide) (fun h_5 => ?_) (fun h_5 => ?_)
  · replace h_5 := bB_f h_5
    refine r_ldc (pc := 17) (v := (-1000001)) C dX5_as_17 tw_216 ?_
    show g 0 0 (wC S) 19 [some (.ref 0), some (.int h), some (.int k)] [.int (-1000001)]
    have hX : asC S h k = ((-1000001), S) := by
      unfold asC
      rw [if_neg (nbt h_5)]
    exact E _ _ _ _ _ _ dX5_as_19 (Nat.le_refl _) (Nat.le_refl _) rfl ⟨by rw [hX], by rw [hX]⟩
  · replace h_5 := bB_t h_5
    obtain ⟨jh, hjh, rfl⟩ := bel_ex hS.1 (by have := hS.2.1; omega) h_5
    have hjh6 : jh < 6 := by have := hS.2.1; omega
    refine r_iload_n (pc := 8) C dX5_as_8 rfl rfl ?_
    refine r_bipush (pc := 9) (v := 6) C dX5_as_9 (by decide) ?_
    refine r_callS0 (pc := 11) (As := [.int k, .int 6]) (st := []) C (c_X5_isBelow k 6) xm_X5_isBelow xk_X5_59 dX5_as_11 (fun _ => rfl) (fun _ => rfl) rfl rfl (Nat.le_of_ble_eq_true rfl) ⟨Nat.le_of_ble_eq_true rfl, Nat.le_of_ble_eq_true rfl⟩ ⟨rfl, rfl⟩ ⟨Nat.le_of_ble_eq_true rfl, Nat.le_of_ble_eq_true rfl⟩ rfl ?_
    show g 0 0 (wC S) 14 [some (.ref 0), some (.int (nI jh)), some (.int k)] [.int (bB (belS k 6))]
    refine r_if_ne (pc := 14) (tgt := 20) C dX5_as_14 (by decide) (fun h_14 => ?_) (fun h_14 => ?_)
    · replace h_14 := bB_t h_14
      refine r_aload_n (pc := 20) C dX5_as_20 rfl rfl ?_
      refine r_getfield (pc := 21) (v := .ref 20) C xf_X5_25 dX5_as_21 rfl rfl ?_
      refine r_getfield (pc := 24) (v := .ref 21) C xf_X5_226 dX5_as_24 rfl rfl ?_
      refine r_iload_n (pc := 27) C dX5_as_27 rfl rfl ?_
      refine r_iaload (pc := 28) (v := (S 2) 0 jh) C jh dX5_as_28 rfl rfl (by first | assumption | omega) rfl ?_
      refine r_iload_n (pc := 29) C dX5_as_29 rfl rfl ?_
      refine r_callS0 (pc := 30) (As := [.int ((S 2) 0 jh), .int k]) (st := []) C (c_X5_isOfKind ((S 2) 0 jh) k (hk jh (by omega))) xm_X5_isOfKind xk_X5_229 dX5_as_30 (fun _ => rfl) (fun _ => rfl) rfl rfl (Nat.le_of_ble_eq_true rfl) ⟨Nat.le_of_ble_eq_true rfl, Nat.le_of_ble_eq_true rfl⟩ ⟨rfl, rfl⟩ ⟨Nat.le_of_ble_eq_true rfl, Nat.le_of_ble_eq_true rfl⟩ rfl ?_
      show g 0 0 (wC S) 33 [some (.ref 0), some (.int (nI jh)), some (.int k)] [.int (bB (isOfM ((S 2) 0 jh) k))]
      refine r_if_ne (pc := 33) (tgt := 42) C dX5_as_33 (by decide) (fun h_33 => ?_) (fun h_33 => ?_)
      · replace h_33 := bB_t h_33
        refine r_aload_n (pc := 42) C dX5_as_42 rfl rfl ?_
        refine r_iconst (pc := 43) (v := 0) C dX5_as_43 (by decide) ?_
        refine r_putfield (pc := 44) (θ' := wC (up3 S 0 (up2 (S 0) 9 (k1 0)))) C xf_X5_68 xt_X5_9 dX5_as_44 rfl (Nat.le_of_ble_eq_true rfl) (fun _ => ⟨rfl, rfl⟩) rfl ?_
        refine r_iload_n (pc := 47) C dX5_as_47 rfl rfl ?_
        show g 0 0 (wC (up3 S 0 (up2 (S 0) 9 (k1 0)))) 48 [some (.ref 0), some (.int (nI jh)), some (.int k)] [.int (nI jh)]
        have hX : asC S (nI jh) k = (nI jh, (up3 S 0 (up2 (S 0) 9 (k1 0)))) := by
          unfold asC
          (try rw [ix_nI (show jh < 2 ^ 31 by omega)])
          rw [if_pos h_5, if_pos h_14, if_pos h_33]
        exact E _ _ _ _ _ _ dX5_as_48 (Nat.le_refl _) (Nat.le_refl _) rfl ⟨by rw [hX], by rw [hX]⟩
      · replace h_33 := bB_f h_33
        refine r_aload_n (pc := 36) C dX5_as_36 rfl rfl ?_
        refine r_iconst (pc := 37) (v := 3) C dX5_as_37 (by decide) ?_
        refine r_callV0 (pc := 38) (As := [.int 3]) (st := []) (θ' := wC (up3 S 0 (up2 (S 0) 9 (k1 3)))) C (c_X5_finds S 3) xm_X5_finds xk_X5_64 dX5_as_38 rfl rfl rfl rfl (Nat.le_of_ble_eq_true rfl) ⟨Nat.le_of_ble_eq_true rfl, Nat.le_of_ble_eq_true rfl⟩ ⟨rfl, rfl⟩ ⟨Nat.le_of_ble_eq_true rfl, Nat.le_of_ble_eq_true rfl⟩ rfl (Eq.trans (b := 55) rfl rfl) ?_
        show g 0 0 (wC (up3 S 0 (up2 (S 0) 9 (k1 3)))) 41 [some (.ref 0), some (.int (nI jh)), some (.int k)] [.int ((-1000010) - 3)]
        show g 0 0 (wC (up3 S 0 (up2 (S 0) 9 (k1 3)))) 41 [some (.ref 0), some (.int (nI jh)), some (.int k)] [.int ((-1000010) - 3)]
        have hX : asC S (nI jh) k = ((-1000010) - 3, (up3 S 0 (up2 (S 0) 9 (k1 3)))) := by
          unfold asC
          (try rw [ix_nI (show jh < 2 ^ 31 by omega)])
          rw [if_pos h_5, if_pos h_14, if_neg (nbt h_33)]
        exact E _ _ _ _ _ _ dX5_as_41 (Nat.le_refl _) (Nat.le_refl _) rfl ⟨by rw [hX], by rw [hX]⟩
    · replace h_14 := bB_f h_14
      refine r_ldc (pc := 17) (v := (-1000001)) C dX5_as_17 tw_216 ?_
      show g 0 0 (wC S) 19 [some (.ref 0), some (.int (nI jh)), some (.int k)] [.int (-1000001)]
      have hX : asC S (nI jh) k = ((-1000001), S) := by
        unfold asC
        (try rw [ix_nI (show jh < 2 ^ 31 by omega)])
        rw [if_pos h_5, if_neg (nbt h_14)]
      exact E _ _ _ _ _ _ dX5_as_19 (Nat.le_refl _) (Nat.le_refl _) rfl ⟨by rw [hX], by rw [hX]⟩
def imgC (S : Nat → Nat → Nat → Int32) (k : Int32) : Int32 × (Nat → Nat → Nat → Int32) := (if (belS k 2) = true then (if k = 0 then (if ((S 2) 5 0) = 0 then ((-1000002), S) else (1, (up3 S 4 (tkS (S 4) (S 2))))) else (if ((S 2) 5 0) = 0 then ((-1000002), S) else (1, (up3 S 5 (tkS (S 5) (S 2)))))) else ((-1000001), S))
set_option maxHeartbeats 4000000 in
set_option maxRecDepth 100000 in
theorem c_X5_image (S : Nat → Nat → Nat → Int32) (k : Int32) (h52 : S 2 5 0 = 0 ∨ S 2 5 0 = 1) : MetA yX5_image (.code yX5_image cX5_image 2 (some .int) :: TT) rmX5_image [.ref 0, .int k] (wC S) (fun vr wr => vr = some (.int (imgC S k).1) ∧ wr = wC (imgC S k).2) 0 0 := by
  refine MetA.of_i (by decide) (fun _ => Nat.le_of_ble_eq_true rfl) (Nat.le_of_ble_eq_true rfl) (fun g C E => ?_)
  replace C : Sem cX5_image RX5 "image" 2 rmX5_image g := C
  show g 0 0 (wC S) 0 [some (.ref 0), some (.int k)] []
  refine r_iload_n (pc := 0) C dX5_image_0 rfl rfl ?_
  refine r_iconst (pc := 1) (v := 2) C dX5_image_1 (by decide) ?_
  refine r_callS0 (pc := 2) (As := [.int k, .int 2]) (st := []) C (c_X5_isBelow k 2) xm_X5_isBelow xk_X5_59 dX5_image_2 (fun _ => rfl) (fun _ => rfl) rfl rfl (Nat.le_of_ble_eq_true rfl) ⟨Nat.le_of_ble_eq_true rfl, Nat.le_of_ble_eq_true rfl⟩ ⟨rfl, rfl⟩ ⟨Nat.le_of_ble_eq_true rfl, Nat.le_of_ble_eq_true rfl⟩ rfl ?_
  show g 0 0 (wC S) 5 [some (.ref 0), some (.int k)] [.int (bB (belS k 2))]
  refine r_if_ne (pc := 5) (tgt := 11) C dX5_image_5 (by decide) (fun h_5 => ?_) (fun h_5 => ?_)
  · replace h_5 := bB_t h_5
    obtain ⟨jk, hjk, rfl⟩ := bel_ex (z := 2) rfl (by omega) h_5
    rcases (by omega : jk = 0 ∨ jk = 1) with rfl | rfl
    · skip
      refine r_aload_n (pc := 11) C dX5_image_11 rfl rfl ?_
      refine r_getfield (pc := 12) (v := .ref 20) C xf_X5_25 dX5_image_12 rfl rfl ?_
      refine r_getfield (pc := 15) (v := .int ((S 2) 5 0)) C xf_X5_123 dX5_image_15 rfl rfl ?_
      refine r_if_ne (pc := 18) (tgt := 24) C dX5_image_18 (by decide) (fun h_18 => ?_) (fun h_18 => ?_)
      · skip
        refine r_aload_n (pc := 24) C dX5_image_24 rfl rfl ?_
        refine r_getfield (pc := 25) (v := .ref 32) C xf_X5_32 dX5_image_25 rfl rfl ?_
        refine r_iload_n (pc := 28) C dX5_image_28 rfl rfl ?_
        refine r_aaload (pc := 29) (b := 33) C 0 dX5_image_29 rfl (fun _ => rfl) rfl (by decide) rfl ?_
        refine r_aload_n (pc := 30) C dX5_image_30 rfl rfl ?_
        refine r_getfield (pc := 31) (v := .ref 20) C xf_X5_25 dX5_image_31 rfl rfl ?_
        refine r_callVD (pc := 34) (b := 33) (As := [.ref 20]) (st := []) (θ2 := wC (up3 S 4 (tkS (S 4) (S 2)))) (r2 := none) C [33, 34, 35, 36, 37, 38, 20, 21, 22, 23, 24, 25] (c_X1_takeFrom (S 4) (S 2) h52) xm_X1_takeFrom xk_X5_112 dX5_image_34 rfl (by decide) rfl rfl rfl rfl rfl (Nat.le_of_ble_eq_true rfl) ⟨Nat.le_of_ble_eq_true rfl, Nat.le_of_ble_eq_true rfl⟩ ⟨rfl, rfl⟩ ⟨Nat.le_of_ble_eq_true rfl, Nat.le_of_ble_eq_true rfl⟩ rfl (Eq.trans (b := 12) rfl rfl) rfl rfl ?_
        show g 0 0 (wC (up3 S 4 (tkS (S 4) (S 2)))) 37 [some (.ref 0), some (.int (nI 0))] []
        refine r_iconst (pc := 37) (v := 1) C dX5_image_37 (by decide) ?_
        show g 0 0 (wC (up3 S 4 (tkS (S 4) (S 2)))) 38 [some (.ref 0), some (.int (nI 0))] [.int 1]
        have hX : imgC S (nI 0) = (1, (up3 S 4 (tkS (S 4) (S 2)))) := by
          unfold imgC
          rw [if_pos h_5, if_pos (show nI 0 = 0 from rfl), if_neg h_18]
        exact E _ _ _ _ _ _ dX5_image_38 (Nat.le_refl _) (Nat.le_refl _) rfl ⟨by rw [hX], by rw [hX]⟩
      · skip
        refine r_ldc (pc := 21) (v := (-1000002)) C dX5_image_21 tw_323 ?_
        show g 0 0 (wC S) 23 [some (.ref 0), some (.int (nI 0))] [.int (-1000002)]
        have hX : imgC S (nI 0) = ((-1000002), S) := by
          unfold imgC
          rw [if_pos h_5, if_pos (show nI 0 = 0 from rfl), if_pos h_18]
        exact E _ _ _ _ _ _ dX5_image_23 (Nat.le_refl _) (Nat.le_refl _) rfl ⟨by rw [hX], by rw [hX]⟩
    · skip
      refine r_aload_n (pc := 11) C dX5_image_11 rfl rfl ?_
      refine r_getfield (pc := 12) (v := .ref 20) C xf_X5_25 dX5_image_12 rfl rfl ?_
      refine r_getfield (pc := 15) (v := .int ((S 2) 5 0)) C xf_X5_123 dX5_image_15 rfl rfl ?_
      refine r_if_ne (pc := 18) (tgt := 24) C dX5_image_18 (by decide) (fun h_18 => ?_) (fun h_18 => ?_)
      · skip
        refine r_aload_n (pc := 24) C dX5_image_24 rfl rfl ?_
        refine r_getfield (pc := 25) (v := .ref 32) C xf_X5_32 dX5_image_25 rfl rfl ?_
        refine r_iload_n (pc := 28) C dX5_image_28 rfl rfl ?_
        refine r_aaload (pc := 29) (b := 39) C 1 dX5_image_29 rfl (fun _ => rfl) rfl (by decide) rfl ?_
        refine r_aload_n (pc := 30) C dX5_image_30 rfl rfl ?_
        refine r_getfield (pc := 31) (v := .ref 20) C xf_X5_25 dX5_image_31 rfl rfl ?_
        refine r_callVD (pc := 34) (b := 39) (As := [.ref 20]) (st := []) (θ2 := wC (up3 S 5 (tkS (S 5) (S 2)))) (r2 := none) C [39, 40, 41, 42, 43, 44, 20, 21, 22, 23, 24, 25] (c_X1_takeFrom (S 5) (S 2) h52) xm_X1_takeFrom xk_X5_112 dX5_image_34 rfl (by decide) rfl rfl rfl rfl rfl (Nat.le_of_ble_eq_true rfl) ⟨Nat.le_of_ble_eq_true rfl, Nat.le_of_ble_eq_true rfl⟩ ⟨rfl, rfl⟩ ⟨Nat.le_of_ble_eq_true rfl, Nat.le_of_ble_eq_true rfl⟩ rfl (Eq.trans (b := 12) rfl rfl) rfl rfl ?_
        show g 0 0 (wC (up3 S 5 (tkS (S 5) (S 2)))) 37 [some (.ref 0), some (.int (nI 1))] []
        refine r_iconst (pc := 37) (v := 1) C dX5_image_37 (by decide) ?_
        show g 0 0 (wC (up3 S 5 (tkS (S 5) (S 2)))) 38 [some (.ref 0), some (.int (nI 1))] [.int 1]
        have hX : imgC S (nI 1) = (1, (up3 S 5 (tkS (S 5) (S 2)))) := by
          unfold imgC
          rw [if_pos h_5, if_neg (show ¬ nI 1 = 0 by decide), if_neg h_18]
        exact E _ _ _ _ _ _ dX5_image_38 (Nat.le_refl _) (Nat.le_refl _) rfl ⟨by rw [hX], by rw [hX]⟩
      · skip
        refine r_ldc (pc := 21) (v := (-1000002)) C dX5_image_21 tw_323 ?_
        show g 0 0 (wC S) 23 [some (.ref 0), some (.int (nI 1))] [.int (-1000002)]
        have hX : imgC S (nI 1) = ((-1000002), S) := by
          unfold imgC
          rw [if_pos h_5, if_neg (show ¬ nI 1 = 0 by decide), if_pos h_18]
        exact E _ _ _ _ _ _ dX5_image_23 (Nat.le_refl _) (Nat.le_refl _) rfl ⟨by rw [hX], by rw [hX]⟩
  · replace h_5 := bB_f h_5
    refine r_ldc (pc := 8) (v := (-1000001)) C dX5_image_8 tw_216 ?_
    show g 0 0 (wC S) 10 [some (.ref 0), some (.int k)] [.int (-1000001)]
    have hX : imgC S k = ((-1000001), S) := by
      unfold imgC
      rw [if_neg (nbt h_5)]
    exact E _ _ _ _ _ _ dX5_image_10 (Nat.le_refl _) (Nat.le_refl _) rfl ⟨by rw [hX], by rw [hX]⟩
def restC (S : Nat → Nat → Nat → Int32) (k : Int32) : Int32 × (Nat → Nat → Nat → Int32) := (if (belS k 2) = true then (if k = 0 then (if ((S 4) 5 0) = 0 then ((-1000002), S) else (1, (up3 (up3 S 2 (tkS (S 2) (S 4))) 6 (up2 (S 6) 5 (k1 0))))) else (if ((S 5) 5 0) = 0 then ((-1000002), S) else (1, (up3 (up3 S 2 (tkS (S 2) (S 5))) 6 (up2 (S 6) 5 (k1 0)))))) else ((-1000001), S))
set_option maxHeartbeats 4000000 in
set_option maxRecDepth 100000 in
theorem c_X5_restore (S : Nat → Nat → Nat → Int32) (k : Int32) (h54 : S 4 5 0 = 0 ∨ S 4 5 0 = 1) (h55 : S 5 5 0 = 0 ∨ S 5 5 0 = 1) : MetA yX5_restore (.code yX5_restore cX5_restore 2 (some .int) :: TT) rmX5_restore [.ref 0, .int k] (wC S) (fun vr wr => vr = some (.int (restC S k).1) ∧ wr = wC (restC S k).2) 0 0 := by
  refine MetA.of_i (by decide) (fun _ => Nat.le_of_ble_eq_true rfl) (Nat.le_of_ble_eq_true rfl) (fun g C E => ?_)
  replace C : Sem cX5_restore RX5 "restore" 2 rmX5_restore g := C
  show g 0 0 (wC S) 0 [some (.ref 0), some (.int k)] []
  refine r_iload_n (pc := 0) C dX5_restore_0 rfl rfl ?_
  refine r_iconst (pc := 1) (v := 2) C dX5_restore_1 (by decide) ?_
  refine r_callS0 (pc := 2) (As := [.int k, .int 2]) (st := []) C (c_X5_isBelow k 2) xm_X5_isBelow xk_X5_59 dX5_restore_2 (fun _ => rfl) (fun _ => rfl) rfl rfl (Nat.le_of_ble_eq_true rfl) ⟨Nat.le_of_ble_eq_true rfl, Nat.le_of_ble_eq_true rfl⟩ ⟨rfl, rfl⟩ ⟨Nat.le_of_ble_eq_true rfl, Nat.le_of_ble_eq_true rfl⟩ rfl ?_
  show g 0 0 (wC S) 5 [some (.ref 0), some (.int k)] [.int (bB (belS k 2))]
  refine r_if_ne (pc := 5) (tgt := 11) C dX5_restore_5 (by decide) (fun h_5 => ?_) (fun h_5 => ?_)
  · replace h_5 := bB_t h_5
    obtain ⟨jk, hjk, rfl⟩ := bel_ex (z := 2) rfl (by omega) h_5
    rcases (by omega : jk = 0 ∨ jk = 1) with rfl | rfl
    · skip
      refine r_aload_n (pc := 11) C dX5_restore_11 rfl rfl ?_
      refine r_getfield (pc := 12) (v := .ref 32) C xf_X5_32 dX5_restore_12 rfl rfl ?_
      refine r_iload_n (pc := 15) C dX5_restore_15 rfl rfl ?_
      refine r_aaload (pc := 16) (b := 33) C 0 dX5_restore_16 rfl (fun _ => rfl) rfl (by decide) rfl ?_
      refine r_getfield (pc := 17) (v := .int ((S 4) 5 0)) C xf_X5_123 dX5_restore_17 rfl rfl ?_
      refine r_if_ne (pc := 20) (tgt := 26) C dX5_restore_20 (by decide) (fun h_20 => ?_) (fun h_20 => ?_)
      · skip
        refine r_aload_n (pc := 26) C dX5_restore_26 rfl rfl ?_
        refine r_getfield (pc := 27) (v := .ref 20) C xf_X5_25 dX5_restore_27 rfl rfl ?_
        refine r_aload_n (pc := 30) C dX5_restore_30 rfl rfl ?_
        refine r_getfield (pc := 31) (v := .ref 32) C xf_X5_32 dX5_restore_31 rfl rfl ?_
        refine r_iload_n (pc := 34) C dX5_restore_34 rfl rfl ?_
        refine r_aaload (pc := 35) (b := 33) C 0 dX5_restore_35 rfl (fun _ => rfl) rfl (by decide) rfl ?_
        refine r_callVD (pc := 36) (b := 20) (As := [.ref 33]) (st := []) (θ2 := wC (up3 S 2 (tkS (S 2) (S 4)))) (r2 := none) C [20, 21, 22, 23, 24, 25, 33, 34, 35, 36, 37, 38] (c_X1_takeFrom (S 2) (S 4) h54) xm_X1_takeFrom xk_X5_112 dX5_restore_36 rfl (by decide) rfl rfl rfl rfl rfl (Nat.le_of_ble_eq_true rfl) ⟨Nat.le_of_ble_eq_true rfl, Nat.le_of_ble_eq_true rfl⟩ ⟨rfl, rfl⟩ ⟨Nat.le_of_ble_eq_true rfl, Nat.le_of_ble_eq_true rfl⟩ rfl (Eq.trans (b := 12) rfl rfl) rfl rfl ?_
        show g 0 0 (wC (up3 S 2 (tkS (S 2) (S 4)))) 39 [some (.ref 0), some (.int (nI 0))] []
        refine r_aload_n (pc := 39) C dX5_restore_39 rfl rfl ?_
        refine r_getfield (pc := 40) (v := .ref 45) C xf_X5_39 dX5_restore_40 rfl rfl ?_
        refine r_callVD (pc := 43) (b := 45) (As := []) (st := []) (θ2 := wC (up3 (up3 S 2 (tkS (S 2) (S 4))) 6 (up2 (S 6) 5 (k1 0)))) (r2 := none) C [45, 46, 47, 48, 49] (c_X0_forget (S 6)) xm_X0_forget xk_X5_116 dX5_restore_43 rfl (by decide) rfl rfl rfl rfl rfl (Nat.le_of_ble_eq_true rfl) ⟨Nat.le_of_ble_eq_true rfl, Nat.le_of_ble_eq_true rfl⟩ ⟨rfl, rfl⟩ ⟨Nat.le_of_ble_eq_true rfl, Nat.le_of_ble_eq_true rfl⟩ rfl (Eq.trans (b := 5) rfl rfl) rfl rfl ?_
        show g 0 0 (wC (up3 (up3 S 2 (tkS (S 2) (S 4))) 6 (up2 (S 6) 5 (k1 0)))) 46 [some (.ref 0), some (.int (nI 0))] []
        refine r_iconst (pc := 46) (v := 1) C dX5_restore_46 (by decide) ?_
        show g 0 0 (wC (up3 (up3 S 2 (tkS (S 2) (S 4))) 6 (up2 (S 6) 5 (k1 0)))) 47 [some (.ref 0), some (.int (nI 0))] [.int 1]
        have hX : restC S (nI 0) = (1, (up3 (up3 S 2 (tkS (S 2) (S 4))) 6 (up2 (S 6) 5 (k1 0)))) := by
          unfold restC
          rw [if_pos h_5, if_pos (show nI 0 = 0 from rfl), if_neg h_20]
        exact E _ _ _ _ _ _ dX5_restore_47 (Nat.le_refl _) (Nat.le_refl _) rfl ⟨by rw [hX], by rw [hX]⟩
      · skip
        refine r_ldc (pc := 23) (v := (-1000002)) C dX5_restore_23 tw_323 ?_
        show g 0 0 (wC S) 25 [some (.ref 0), some (.int (nI 0))] [.int (-1000002)]
        have hX : restC S (nI 0) = ((-1000002), S) := by
          unfold restC
          rw [if_pos h_5, if_pos (show nI 0 = 0 from rfl), if_pos h_20]
        exact E _ _ _ _ _ _ dX5_restore_25 (Nat.le_refl _) (Nat.le_refl _) rfl ⟨by rw [hX], by rw [hX]⟩
    · skip
      refine r_aload_n (pc := 11) C dX5_restore_11 rfl rfl ?_
      refine r_getfield (pc := 12) (v := .ref 32) C xf_X5_32 dX5_restore_12 rfl rfl ?_
      refine r_iload_n (pc := 15) C dX5_restore_15 rfl rfl ?_
      refine r_aaload (pc := 16) (b := 39) C 1 dX5_restore_16 rfl (fun _ => rfl) rfl (by decide) rfl ?_
      refine r_getfield (pc := 17) (v := .int ((S 5) 5 0)) C xf_X5_123 dX5_restore_17 rfl rfl ?_
      refine r_if_ne (pc := 20) (tgt := 26) C dX5_restore_20 (by decide) (fun h_20 => ?_) (fun h_20 => ?_)
      · skip
        refine r_aload_n (pc := 26) C dX5_restore_26 rfl rfl ?_
        refine r_getfield (pc := 27) (v := .ref 20) C xf_X5_25 dX5_restore_27 rfl rfl ?_
        refine r_aload_n (pc := 30) C dX5_restore_30 rfl rfl ?_
        refine r_getfield (pc := 31) (v := .ref 32) C xf_X5_32 dX5_restore_31 rfl rfl ?_
        refine r_iload_n (pc := 34) C dX5_restore_34 rfl rfl ?_
        refine r_aaload (pc := 35) (b := 39) C 1 dX5_restore_35 rfl (fun _ => rfl) rfl (by decide) rfl ?_
        refine r_callVD (pc := 36) (b := 20) (As := [.ref 39]) (st := []) (θ2 := wC (up3 S 2 (tkS (S 2) (S 5)))) (r2 := none) C [20, 21, 22, 23, 24, 25, 39, 40, 41, 42, 43, 44] (c_X1_takeFrom (S 2) (S 5) h55) xm_X1_takeFrom xk_X5_112 dX5_restore_36 rfl (by decide) rfl rfl rfl rfl rfl (Nat.le_of_ble_eq_true rfl) ⟨Nat.le_of_ble_eq_true rfl, Nat.le_of_ble_eq_true rfl⟩ ⟨rfl, rfl⟩ ⟨Nat.le_of_ble_eq_true rfl, Nat.le_of_ble_eq_true rfl⟩ rfl (Eq.trans (b := 12) rfl rfl) rfl rfl ?_
        show g 0 0 (wC (up3 S 2 (tkS (S 2) (S 5)))) 39 [some (.ref 0), some (.int (nI 1))] []
        refine r_aload_n (pc := 39) C dX5_restore_39 rfl rfl ?_
        refine r_getfield (pc := 40) (v := .ref 45) C xf_X5_39 dX5_restore_40 rfl rfl ?_
        refine r_callVD (pc := 43) (b := 45) (As := []) (st := []) (θ2 := wC (up3 (up3 S 2 (tkS (S 2) (S 5))) 6 (up2 (S 6) 5 (k1 0)))) (r2 := none) C [45, 46, 47, 48, 49] (c_X0_forget (S 6)) xm_X0_forget xk_X5_116 dX5_restore_43 rfl (by decide) rfl rfl rfl rfl rfl (Nat.le_of_ble_eq_true rfl) ⟨Nat.le_of_ble_eq_true rfl, Nat.le_of_ble_eq_true rfl⟩ ⟨rfl, rfl⟩ ⟨Nat.le_of_ble_eq_true rfl, Nat.le_of_ble_eq_true rfl⟩ rfl (Eq.trans (b := 5) rfl rfl) rfl rfl ?_
        show g 0 0 (wC (up3 (up3 S 2 (tkS (S 2) (S 5))) 6 (up2 (S 6) 5 (k1 0)))) 46 [some (.ref 0), some (.int (nI 1))] []
        refine r_iconst (pc := 46) (v := 1) C dX5_restore_46 (by decide) ?_
        show g 0 0 (wC (up3 (up3 S 2 (tkS (S 2) (S 5))) 6 (up2 (S 6) 5 (k1 0)))) 47 [some (.ref 0), some (.int (nI 1))] [.int 1]
        have hX : restC S (nI 1) = (1, (up3 (up3 S 2 (tkS (S 2) (S 5))) 6 (up2 (S 6) 5 (k1 0)))) := by
          unfold restC
          rw [if_pos h_5, if_neg (show ¬ nI 1 = 0 by decide), if_neg h_20]
        exact E _ _ _ _ _ _ dX5_restore_47 (Nat.le_refl _) (Nat.le_refl _) rfl ⟨by rw [hX], by rw [hX]⟩
      · skip
        refine r_ldc (pc := 23) (v := (-1000002)) C dX5_restore_23 tw_323 ?_
        show g 0 0 (wC S) 25 [some (.ref 0), some (.int (nI 1))] [.int (-1000002)]
        have hX : restC S (nI 1) = ((-1000002), S) := by
          unfold restC
          rw [if_pos h_5, if_neg (show ¬ nI 1 = 0 by decide), if_pos h_20]
        exact E _ _ _ _ _ _ dX5_restore_25 (Nat.le_refl _) (Nat.le_refl _) rfl ⟨by rw [hX], by rw [hX]⟩
  · replace h_5 := bB_f h_5
    refine r_ldc (pc := 8) (v := (-1000001)) C dX5_restore_8 tw_216 ?_
    show g 0 0 (wC S) 10 [some (.ref 0), some (.int k)] [.int (-1000001)]
    have hX : restC S k = ((-1000001), S) := by
      unfold restC
      rw [if_neg (nbt h_5)]
    exact E _ _ _ _ _ _ dX5_restore_10 (Nat.le_refl _) (Nat.le_refl _) rfl ⟨by rw [hX], by rw [hX]⟩
noncomputable def fwV : (Nat → Int32) → (Nat → Int32) → Nat → Int32 → Nat → Int32 := Classical.choose (seal_ex (fun (nr w : Nat → Int32) (z : Nat) (a : Int32) => fhW nr z (fill w (1 <<< (a &&& 31)) 6) 60))
theorem fwV_eq (nr w : Nat → Int32) (z : Nat) (a : Int32) : fwV nr w z a = fhW nr z (fill w (1 <<< (a &&& 31)) 6) 60 := by
  have h := Classical.choose_spec (seal_ex (fun (nr w : Nat → Int32) (z : Nat) (a : Int32) => fhW nr z (fill w (1 <<< (a &&& 31)) 6) 60))
  exact congrFun (congrFun (congrFun (congrFun h nr) w) z) a
noncomputable def hdT : (Nat → Int32) → Int32 → Int32 := Classical.choose (seal_ex (fun (f : Nat → Int32) (b : Int32) => hdFrom (fun k => hasS (f k) b) 6 0))
theorem hdT_eq (f : Nat → Int32) (b : Int32) : hdT f b = hdFrom (fun k => hasS (f k) b) 6 0 := by
  have h := Classical.choose_spec (seal_ex (fun (f : Nat → Int32) (b : Int32) => hdFrom (fun k => hasS (f k) b) 6 0))
  exact congrFun (congrFun h f) b
theorem c_X2_fewestHandsT (O : Nat → Nat → Int32) (a b : Int32) (z : Nat) (hz : O 3 0 = nI z) (hz6 : z ≤ 6) : MetA yX2_fewestHands (.code yX2_fewestHands cX2_fewestHands 5 (some .int) :: TT) rmX2_fewestHands [.ref 0, .int a, .int b] (wO 0 O) (fun vr wr => vr = some (.int (hdT (fwV (O 1) (O 2) z a) b)) ∧ wr = wO 0 (up2 O 2 (fwV (O 1) (O 2) z a))) 0 0 := by
  rw [hdT_eq, fwV_eq]
  exact c_X2_fewestHands O a b z hz hz6
noncomputable def handsC (S : Nat → Nat → Nat → Int32) (z : Nat) (a b : Int32) : Int32 × (Nat → Nat → Nat → Int32) := (if (belS a ((S 2) 9 0)) = true then (if (belS b ((S 2) 9 0)) = true then (hdT (fwV (frT (S 7) (S 2) z 60 1) (frT (S 7) (S 2) z 60 2) z a) b, (up3 S 7 (up2 (frT (S 7) (S 2) z 60) 2 (fwV (frT (S 7) (S 2) z 60 1) (frT (S 7) (S 2) z 60 2) z a)))) else ((-1000001), S)) else ((-1000001), S))
set_option maxHeartbeats 4000000 in
set_option maxRecDepth 100000 in
theorem c_X5_hands (S : Nat → Nat → Nat → Int32) (a b : Int32) (z : Nat) (hS : okS S z) : MetA yX5_hands (.code yX5_hands cX5_hands 3 (some .int) :: TT) rmX5_hands [.ref 0, .int a, .int b] (wC S) (fun vr wr => vr = some (.int (handsC S z a b).1) ∧ wr = wC (handsC S z a b).2) 0 0 := by
  refine MetA.of_i (by decide) (fun _ => Nat.le_of_ble_eq_true rfl) (Nat.le_of_ble_eq_true rfl) (fun g C E => ?_)
  replace C : Sem cX5_hands RX5 "hands" 3 rmX5_hands g := C
  show g 0 0 (wC S) 0 [some (.ref 0), some (.int a), some (.int b)] []
  refine r_aload_n (pc := 0) C dX5_hands_0 rfl rfl ?_
  refine r_iload_n (pc := 1) C dX5_hands_1 rfl rfl ?_
  refine r_callV0 (pc := 2) (As := [.int a]) (st := []) (θ' := wC S) C (c_X5_isHammock S a) xm_X5_isHammock xk_X5_138 dX5_hands_2 rfl rfl rfl rfl (Nat.le_of_ble_eq_true rfl) ⟨Nat.le_of_ble_eq_true rfl, Nat.le_of_ble_eq_true rfl⟩ ⟨rfl, rfl⟩ ⟨Nat.le_of_ble_eq_true rfl, Nat.le_of_ble_eq_true rfl⟩ rfl (Eq.trans (b := 55) rfl rfl) ?_
  show g 0 0 (wC S) 5 [some (.ref 0), some (.int a), some (.int b)] [.int (bB (belS a ((S 2) 9 0)))]
  refine r_if_eq (pc := 5) (tgt := 16) C dX5_hands_5 (by decide) (fun h_5 => ?_) (fun h_5 => ?_)
  · replace h_5 := bB_f h_5
    refine r_ldc (pc := 16) (v := (-1000001)) C dX5_hands_16 tw_216 ?_
    show g 0 0 (wC S) 18 [some (.ref 0), some (.int a), some (.int b)] [.int (-1000001)]
    have hX : handsC S z a b = ((-1000001), S) := by
      unfold handsC
      rw [if_neg (nbt h_5)]
    exact E _ _ _ _ _ _ dX5_hands_18 (Nat.le_refl _) (Nat.le_refl _) rfl ⟨by rw [hX], by rw [hX]⟩
  · replace h_5 := bB_t h_5
    refine r_aload_n (pc := 8) C dX5_hands_8 rfl rfl ?_
    refine r_iload_n (pc := 9) C dX5_hands_9 rfl rfl ?_
    refine r_callV0 (pc := 10) (As := [.int b]) (st := []) (θ' := wC S) C (c_X5_isHammock S b) xm_X5_isHammock xk_X5_138 dX5_hands_10 rfl rfl rfl rfl (Nat.le_of_ble_eq_true rfl) ⟨Nat.le_of_ble_eq_true rfl, Nat.le_of_ble_eq_true rfl⟩ ⟨rfl, rfl⟩ ⟨Nat.le_of_ble_eq_true rfl, Nat.le_of_ble_eq_true rfl⟩ rfl (Eq.trans (b := 55) rfl rfl) ?_
    show g 0 0 (wC S) 13 [some (.ref 0), some (.int a), some (.int b)] [.int (bB (belS b ((S 2) 9 0)))]
    refine r_if_ne (pc := 13) (tgt := 19) C dX5_hands_13 (by decide) (fun h_13 => ?_) (fun h_13 => ?_)
    · replace h_13 := bB_t h_13
      refine r_aload_n (pc := 19) C dX5_hands_19 rfl rfl ?_
      refine r_getfield (pc := 20) (v := .ref 50) C xf_X5_46 dX5_hands_20 rfl rfl ?_
      refine r_aload_n (pc := 23) C dX5_hands_23 rfl rfl ?_
      refine r_getfield (pc := 24) (v := .ref 20) C xf_X5_25 dX5_hands_24 rfl rfl ?_
      refine r_bipush (pc := 27) (v := 60) C dX5_hands_27 (by decide) ?_
      refine r_callVD (pc := 29) (b := 50) (As := [.ref 20, .int 60]) (st := []) (θ2 := wC (up3 S 7 (frT (S 7) (S 2) z 60))) (r2 := none) C [50, 51, 52, 53, 20, 21, 22, 23, 24, 25] (c_X2_foreseeT (S 7) (S 2) 60 (by omega) hS.2.2 z hS.1 hS.2.1) xm_X2_foresee xk_X5_188 dX5_hands_29 rfl (by decide) rfl rfl rfl rfl rfl (Nat.le_of_ble_eq_true rfl) ⟨Nat.le_of_ble_eq_true rfl, Nat.le_of_ble_eq_true rfl⟩ ⟨rfl, rfl⟩ ⟨Nat.le_of_ble_eq_true rfl, Nat.le_of_ble_eq_true rfl⟩ rfl (Eq.trans (b := 10) rfl rfl) rfl rfl ?_
      show g 0 0 (wC (up3 S 7 (frT (S 7) (S 2) z 60))) 32 [some (.ref 0), some (.int a), some (.int b)] []
      refine r_aload_n (pc := 32) C dX5_hands_32 rfl rfl ?_
      refine r_getfield (pc := 33) (v := .ref 50) C xf_X5_46 dX5_hands_33 rfl rfl ?_
      refine r_iload_n (pc := 36) C dX5_hands_36 rfl rfl ?_
      refine r_iload_n (pc := 37) C dX5_hands_37 rfl rfl ?_
      refine r_callVD (pc := 38) (b := 50) (As := [.int a, .int b]) (st := []) (θ2 := wC (up3 S 7 (up2 (frT (S 7) (S 2) z 60) 2 (fwV (frT (S 7) (S 2) z 60 1) (frT (S 7) (S 2) z 60 2) z a)))) (r2 := some (.int (hdT (fwV (frT (S 7) (S 2) z 60 1) (frT (S 7) (S 2) z 60 2) z a) b))) C [50, 51, 52, 53] (c_X2_fewestHandsT (frT (S 7) (S 2) z 60) a b z (frT_z _ _ _ _) hS.2.1) xm_X2_fewestHands xk_X5_196 dX5_hands_38 rfl (by decide) rfl rfl rfl rfl rfl (Nat.le_of_ble_eq_true rfl) ⟨Nat.le_of_ble_eq_true rfl, Nat.le_of_ble_eq_true rfl⟩ ⟨rfl, rfl⟩ ⟨Nat.le_of_ble_eq_true rfl, Nat.le_of_ble_eq_true rfl⟩ rfl (Eq.trans (b := 4) rfl rfl) rfl rfl ?_
      show g 0 0 (wC (up3 S 7 (up2 (frT (S 7) (S 2) z 60) 2 (fwV (frT (S 7) (S 2) z 60 1) (frT (S 7) (S 2) z 60 2) z a)))) 41 [some (.ref 0), some (.int a), some (.int b)] [.int (hdT (fwV (frT (S 7) (S 2) z 60 1) (frT (S 7) (S 2) z 60 2) z a) b)]
      show g 0 0 (wC (up3 S 7 (up2 (frT (S 7) (S 2) z 60) 2 (fwV (frT (S 7) (S 2) z 60 1) (frT (S 7) (S 2) z 60 2) z a)))) 41 [some (.ref 0), some (.int a), some (.int b)] [.int (hdT (fwV (frT (S 7) (S 2) z 60 1) (frT (S 7) (S 2) z 60 2) z a) b)]
      have hX : handsC S z a b = (hdT (fwV (frT (S 7) (S 2) z 60 1) (frT (S 7) (S 2) z 60 2) z a) b, (up3 S 7 (up2 (frT (S 7) (S 2) z 60) 2 (fwV (frT (S 7) (S 2) z 60 1) (frT (S 7) (S 2) z 60 2) z a)))) := by
        unfold handsC
        rw [if_pos h_5, if_pos h_13]
      exact E _ _ _ _ _ _ dX5_hands_41 (Nat.le_refl _) (Nat.le_refl _) rfl ⟨by rw [hX], by rw [hX]⟩
    · replace h_13 := bB_f h_13
      refine r_ldc (pc := 16) (v := (-1000001)) C dX5_hands_16 tw_216 ?_
      show g 0 0 (wC S) 18 [some (.ref 0), some (.int a), some (.int b)] [.int (-1000001)]
      have hX : handsC S z a b = ((-1000001), S) := by
        unfold handsC
        rw [if_pos h_5, if_neg (nbt h_13)]
      exact E _ _ _ _ _ _ dX5_hands_18 (Nat.le_refl _) (Nat.le_refl _) rfl ⟨by rw [hX], by rw [hX]⟩
theorem tp0 {T : Nat → Nat → Int32} {ln : Nat} (hl : T 1 0 = nI ln) : wT 0 (up2 T 2 (k1 0)) = wT 0 (tpS (T 0) ln 0 (T 3 0)) := by
  show ([.inr (4, [.ref (0 + 1), .int (T 1 0), .int 0, .int (T 3 0)]), .inl (0, 120, .inl (T 0))] : List xE) = [.inr (4, [.ref (0 + 1), .int (nI ln), .int 0, .int (T 3 0)]), .inl (0, 120, .inl (T 0))]
  rw [hl]
set_option maxHeartbeats 4000000 in
set_option maxRecDepth 100000 in
theorem c_X4_readIntoT (T F : Nat → Nat → Int32) (ln : Nat) (hl : T 1 0 = nI ln) (hln : ln ≤ 120) : MetA yX4_readInto (.code yX4_readInto cX4_readInto 3 (some .boolean) :: TT) rmX4_readInto [.ref 0, .ref 2] (wT 0 T ++ wF 2 F) (fun vr wr => vr = some (.int (bB (riS (T 0) ln 0 (T 3 0) F).1)) ∧ wr = (wT 0 (tpS (T 0) ln (riS (T 0) ln 0 (T 3 0) F).2.1 (riS (T 0) ln 0 (T 3 0) F).2.2.1) ++ wF 2 (riS (T 0) ln 0 (T 3 0) F).2.2.2)) 0 0 := by
  refine MetA.of_i (by decide) (fun _ => Nat.le_of_ble_eq_true rfl) (Nat.le_of_ble_eq_true rfl) (fun g C E => ?_)
  replace C : Sem cX4_readInto RX4 "readInto" 3 rmX4_readInto g := C
  show g 0 0 (wT 0 T ++ wF 2 F) 0 [some (.ref 0), some (.ref 2), none] []
  refine r_aload_n (pc := 0) C dX4_readInto_0 rfl rfl ?_
  refine r_iconst (pc := 1) (v := 0) C dX4_readInto_1 (by decide) ?_
  refine r_putfield (pc := 2) (θ' := wT 0 (up2 T 2 (k1 0)) ++ wF 2 F) C xf_X4_15 xt_X4_2 dX4_readInto_2 rfl (Nat.le_of_ble_eq_true rfl) (fun _ => ⟨rfl, rfl⟩) rfl ?_
  refine r_aload_n (pc := 5) C dX4_readInto_5 rfl rfl ?_
  refine r_callVD (pc := 6) (b := 2) (As := []) (st := []) (θ2 := wT 0 (up2 T 2 (k1 0)) ++ wF 2 (begS F)) (r2 := none) C [2, 3, 4, 5, 6, 7] (c_X1_begin F) xm_X1_begin xk_X4_19 dX4_readInto_6 rfl (by decide) rfl rfl rfl rfl rfl (Nat.le_of_ble_eq_true rfl) ⟨Nat.le_of_ble_eq_true rfl, Nat.le_of_ble_eq_true rfl⟩ ⟨rfl, rfl⟩ ⟨Nat.le_of_ble_eq_true rfl, Nat.le_of_ble_eq_true rfl⟩ rfl (Eq.trans (b := 6) rfl rfl) rfl rfl ?_
  show g 0 0 (wT 0 (up2 T 2 (k1 0)) ++ wF 2 (begS F)) 9 [some (.ref 0), some (.ref 2), none] []
  show g 0 0 (wT 0 (up2 T 2 (k1 0)) ++ wF 2 (begS F)) 9 [some (.ref 0), some (.ref 2), none] []
  rw [tp0 hl]
  show g 0 0 (wT 0 (tpS (T 0) ln 0 (T 3 0)) ++ wF 2 (begS F)) 9 [some (.ref 0), some (.ref 2), none] []
  refine r_aload_n (pc := 9) C dX4_readInto_9 rfl rfl ?_
  refine r_aload_n (pc := 10) C dX4_readInto_10 rfl rfl ?_
  refine r_callV0 (pc := 11) (As := [.ref 2]) (st := []) (θ' := wT 0 (tpS (T 0) ln ((rlS (T 0) ln 0 (T 3 0) (begS F)).2.1) ((rlS (T 0) ln 0 (T 3 0) (begS F)).2.2.1)) ++ wF 2 ((rlS (T 0) ln 0 (T 3 0) (begS F)).2.2.2)) C (c_X4_readLaw (T 0) ln 0 (T 3 0) hln (Nat.zero_le _) (begS F)) xm_X4_readLaw xk_X4_24 dX4_readInto_11 rfl rfl rfl rfl (Nat.le_of_ble_eq_true rfl) ⟨Nat.le_of_ble_eq_true rfl, Nat.le_of_ble_eq_true rfl⟩ ⟨rfl, rfl⟩ ⟨Nat.le_of_ble_eq_true rfl, Nat.le_of_ble_eq_true rfl⟩ rfl (Eq.trans (b := 8) rfl rfl) ?_
  show g 0 0 (wT 0 (tpS (T 0) ln ((rlS (T 0) ln 0 (T 3 0) (begS F)).2.1) ((rlS (T 0) ln 0 (T 3 0) (begS F)).2.2.1)) ++ wF 2 ((rlS (T 0) ln 0 (T 3 0) (begS F)).2.2.2)) 14 [some (.ref 0), some (.ref 2), none] [.int (bB (rlS (T 0) ln 0 (T 3 0) (begS F)).1)]
  refine r_if_ne (pc := 14) (tgt := 19) C dX4_readInto_14 (by decide) (fun h_14 => ?_) (fun h_14 => ?_)
  · replace h_14 := bB_t h_14
    refine r_iconst (pc := 19) (v := 0) C dX4_readInto_19 (by decide) ?_
    refine r_istore_n (pc := 20) (lv' := [some (.ref 0), some (.ref 2), some (.int 0)]) C dX4_readInto_20 rfl (Nat.le_of_ble_eq_true rfl) trivial rfl ?_
    exact lp_X4_readInto (T 0) ln 0 (T 3 0) F hln C E 7 0 _ _ _ (by omega) (rl_le (Nat.zero_le _)) (rl_size rfl) (by rw [riS_eq]; simp only [riS0, h_14, if_true])
  · replace h_14 := bB_f h_14
    refine r_iconst (pc := 17) (v := 0) C dX4_readInto_17 (by decide) ?_
    have hX : riS (T 0) ln 0 (T 3 0) F = rlS (T 0) ln 0 (T 3 0) (begS F) := by rw [riS_eq]; simp only [riS0, h_14, Bool.false_eq_true, if_false]
    exact E _ _ _ _ _ _ dX4_readInto_18 (Nat.le_refl _) (Nat.le_refl _) rfl ⟨by rw [hX, h_14]; rfl, by rw [hX]⟩
noncomputable def forC (S : Nat → Nat → Nat → Int32) (ln : Nat) : Int32 × (Nat → Nat → Nat → Int32) := (if ((riS (S 1 0) ln 0 (S 1 3 0) (S 3)).1) = true then ((tkS (S 2) ((riS (S 1 0) ln 0 (S 1 3 0) (S 3)).2.2.2)) 9 0, (up3 (up3 (up3 (up3 S 1 (up2 (tpS (S 1 0) ln (riS (S 1 0) ln 0 (S 1 3 0) (S 3)).2.1 (riS (S 1 0) ln 0 (S 1 3 0) (S 3)).2.2.1) 1 (k1 0))) 2 (tkS (S 2) ((riS (S 1 0) ln 0 (S 1 3 0) (S 3)).2.2.2))) 3 ((riS (S 1 0) ln 0 (S 1 3 0) (S 3)).2.2.2)) 6 (up2 (S 6) 5 (k1 0)))) else ((-1000100) - (nI (riS (S 1 0) ln 0 (S 1 3 0) (S 3)).2.1), (up3 (up3 S 1 (up2 (tpS (S 1 0) ln (riS (S 1 0) ln 0 (S 1 3 0) (S 3)).2.1 (riS (S 1 0) ln 0 (S 1 3 0) (S 3)).2.2.1) 1 (k1 0))) 3 ((riS (S 1 0) ln 0 (S 1 3 0) (S 3)).2.2.2))))
set_option maxHeartbeats 4000000 in
set_option maxRecDepth 100000 in
theorem c_X5_forest (S : Nat → Nat → Nat → Int32) (ln : Nat) (hl : S 1 1 0 = nI ln) (hl120 : ln ≤ 120) (h53 : (riS (S 1 0) ln 0 (S 1 3 0) (S 3)).2.2.2 5 0 = 0 ∨ (riS (S 1 0) ln 0 (S 1 3 0) (S 3)).2.2.2 5 0 = 1) : MetA yX5_forest (.code yX5_forest cX5_forest 2 (some .int) :: TT) rmX5_forest [.ref 0] (wC S) (fun vr wr => vr = some (.int (forC S ln).1) ∧ wr = wC (forC S ln).2) 0 0 := by
  refine MetA.of_i (by decide) (fun _ => Nat.le_of_ble_eq_true rfl) (Nat.le_of_ble_eq_true rfl) (fun g C E => ?_)
  replace C : Sem cX5_forest RX5 "forest" 2 rmX5_forest g := C
  show g 0 0 (wC S) 0 [some (.ref 0), none] []
  refine r_aload_n (pc := 0) C dX5_forest_0 rfl rfl ?_
  refine r_getfield (pc := 1) (v := .ref 18) C xf_X5_18 dX5_forest_1 rfl rfl ?_
  refine r_aload_n (pc := 4) C dX5_forest_4 rfl rfl ?_
  refine r_getfield (pc := 5) (v := .ref 26) C xf_X5_29 dX5_forest_5 rfl rfl ?_
  refine r_callVD (pc := 8) (b := 18) (As := [.ref 26]) (st := []) (θ2 := wC (up3 (up3 S 1 (tpS (S 1 0) ln (riS (S 1 0) ln 0 (S 1 3 0) (S 3)).2.1 (riS (S 1 0) ln 0 (S 1 3 0) (S 3)).2.2.1)) 3 ((riS (S 1 0) ln 0 (S 1 3 0) (S 3)).2.2.2))) (r2 := some (.int (bB (riS (S 1 0) ln 0 (S 1 3 0) (S 3)).1))) C [18, 19, 26, 27, 28, 29, 30, 31] (c_X4_readIntoT (S 1) (S 3) ln hl hl120) xm_X4_readInto xk_X5_104 dX5_forest_8 rfl (by decide) rfl rfl rfl rfl rfl (Nat.le_of_ble_eq_true rfl) ⟨Nat.le_of_ble_eq_true rfl, Nat.le_of_ble_eq_true rfl⟩ ⟨rfl, rfl⟩ ⟨Nat.le_of_ble_eq_true rfl, Nat.le_of_ble_eq_true rfl⟩ rfl (Eq.trans (b := 8) rfl rfl) rfl rfl ?_
  show g 0 0 (wC (up3 (up3 S 1 (tpS (S 1 0) ln (riS (S 1 0) ln 0 (S 1 3 0) (S 3)).2.1 (riS (S 1 0) ln 0 (S 1 3 0) (S 3)).2.2.1)) 3 ((riS (S 1 0) ln 0 (S 1 3 0) (S 3)).2.2.2))) 11 [some (.ref 0), none] [.int (bB (riS (S 1 0) ln 0 (S 1 3 0) (S 3)).1)]
  refine r_istore_n (pc := 11) (lv' := [some (.ref 0), some (.int (bB (riS (S 1 0) ln 0 (S 1 3 0) (S 3)).1))]) C dX5_forest_11 rfl (Nat.le_of_ble_eq_true rfl) trivial rfl ?_
  refine r_aload_n (pc := 12) C dX5_forest_12 rfl rfl ?_
  refine r_getfield (pc := 13) (v := .ref 18) C xf_X5_18 dX5_forest_13 rfl rfl ?_
  refine r_iconst (pc := 16) (v := 0) C dX5_forest_16 (by decide) ?_
  refine r_putfield (pc := 17) (θ' := wC (up3 (up3 S 1 (up2 (tpS (S 1 0) ln (riS (S 1 0) ln 0 (S 1 3 0) (S 3)).2.1 (riS (S 1 0) ln 0 (S 1 3 0) (S 3)).2.2.1) 1 (k1 0))) 3 ((riS (S 1 0) ln 0 (S 1 3 0) (S 3)).2.2.2))) C xf_X5_97 xt_X4_1 dX5_forest_17 rfl (Nat.le_of_ble_eq_true rfl) (fun _ => ⟨rfl, rfl⟩) rfl ?_
  refine r_iload_n (pc := 20) C dX5_forest_20 rfl rfl ?_
  refine r_if_ne (pc := 21) (tgt := 35) C dX5_forest_21 (by decide) (fun h_21 => ?_) (fun h_21 => ?_)
  · replace h_21 := bB_t h_21
    refine r_aload_n (pc := 35) C dX5_forest_35 rfl rfl ?_
    refine r_getfield (pc := 36) (v := .ref 20) C xf_X5_25 dX5_forest_36 rfl rfl ?_
    refine r_aload_n (pc := 39) C dX5_forest_39 rfl rfl ?_
    refine r_getfield (pc := 40) (v := .ref 26) C xf_X5_29 dX5_forest_40 rfl rfl ?_
    refine r_callVD (pc := 43) (b := 20) (As := [.ref 26]) (st := []) (θ2 := wC (up3 (up3 (up3 S 1 (up2 (tpS (S 1 0) ln (riS (S 1 0) ln 0 (S 1 3 0) (S 3)).2.1 (riS (S 1 0) ln 0 (S 1 3 0) (S 3)).2.2.1) 1 (k1 0))) 2 (tkS (S 2) ((riS (S 1 0) ln 0 (S 1 3 0) (S 3)).2.2.2))) 3 ((riS (S 1 0) ln 0 (S 1 3 0) (S 3)).2.2.2))) (r2 := none) C [20, 21, 22, 23, 24, 25, 26, 27, 28, 29, 30, 31] (c_X1_takeFrom (S 2) ((riS (S 1 0) ln 0 (S 1 3 0) (S 3)).2.2.2) h53) xm_X1_takeFrom xk_X5_112 dX5_forest_43 rfl (by decide) rfl rfl rfl rfl rfl (Nat.le_of_ble_eq_true rfl) ⟨Nat.le_of_ble_eq_true rfl, Nat.le_of_ble_eq_true rfl⟩ ⟨rfl, rfl⟩ ⟨Nat.le_of_ble_eq_true rfl, Nat.le_of_ble_eq_true rfl⟩ rfl (Eq.trans (b := 12) rfl rfl) rfl rfl ?_
    show g 0 0 (wC (up3 (up3 (up3 S 1 (up2 (tpS (S 1 0) ln (riS (S 1 0) ln 0 (S 1 3 0) (S 3)).2.1 (riS (S 1 0) ln 0 (S 1 3 0) (S 3)).2.2.1) 1 (k1 0))) 2 (tkS (S 2) ((riS (S 1 0) ln 0 (S 1 3 0) (S 3)).2.2.2))) 3 ((riS (S 1 0) ln 0 (S 1 3 0) (S 3)).2.2.2))) 46 [some (.ref 0), some (.int (bB (riS (S 1 0) ln 0 (S 1 3 0) (S 3)).1))] []
    refine r_aload_n (pc := 46) C dX5_forest_46 rfl rfl ?_
    refine r_getfield (pc := 47) (v := .ref 45) C xf_X5_39 dX5_forest_47 rfl rfl ?_
    refine r_callVD (pc := 50) (b := 45) (As := []) (st := []) (θ2 := wC (up3 (up3 (up3 (up3 S 1 (up2 (tpS (S 1 0) ln (riS (S 1 0) ln 0 (S 1 3 0) (S 3)).2.1 (riS (S 1 0) ln 0 (S 1 3 0) (S 3)).2.2.1) 1 (k1 0))) 2 (tkS (S 2) ((riS (S 1 0) ln 0 (S 1 3 0) (S 3)).2.2.2))) 3 ((riS (S 1 0) ln 0 (S 1 3 0) (S 3)).2.2.2)) 6 (up2 (S 6) 5 (k1 0)))) (r2 := none) C [45, 46, 47, 48, 49] (c_X0_forget (S 6)) xm_X0_forget xk_X5_116 dX5_forest_50 rfl (by decide) rfl rfl rfl rfl rfl (Nat.le_of_ble_eq_true rfl) ⟨Nat.le_of_ble_eq_true rfl, Nat.le_of_ble_eq_true rfl⟩ ⟨rfl, rfl⟩ ⟨Nat.le_of_ble_eq_true rfl, Nat.le_of_ble_eq_true rfl⟩ rfl (Eq.trans (b := 5) rfl rfl) rfl rfl ?_
    show g 0 0 (wC (up3 (up3 (up3 (up3 S 1 (up2 (tpS (S 1 0) ln (riS (S 1 0) ln 0 (S 1 3 0) (S 3)).2.1 (riS (S 1 0) ln 0 (S 1 3 0) (S 3)).2.2.1) 1 (k1 0))) 2 (tkS (S 2) ((riS (S 1 0) ln 0 (S 1 3 0) (S 3)).2.2.2))) 3 ((riS (S 1 0) ln 0 (S 1 3 0) (S 3)).2.2.2)) 6 (up2 (S 6) 5 (k1 0)))) 53 [some (.ref 0), some (.int (bB (riS (S 1 0) ln 0 (S 1 3 0) (S 3)).1))] []
    refine r_aload_n (pc := 53) C dX5_forest_53 rfl rfl ?_
    refine r_getfield (pc := 54) (v := .ref 20) C xf_X5_25 dX5_forest_54 rfl rfl ?_
    refine r_getfield (pc := 57) (v := .int ((tkS (S 2) ((riS (S 1 0) ln 0 (S 1 3 0) (S 3)).2.2.2)) 9 0)) C xf_X5_119 dX5_forest_57 rfl rfl ?_
    show g 0 0 (wC (up3 (up3 (up3 (up3 S 1 (up2 (tpS (S 1 0) ln (riS (S 1 0) ln 0 (S 1 3 0) (S 3)).2.1 (riS (S 1 0) ln 0 (S 1 3 0) (S 3)).2.2.1) 1 (k1 0))) 2 (tkS (S 2) ((riS (S 1 0) ln 0 (S 1 3 0) (S 3)).2.2.2))) 3 ((riS (S 1 0) ln 0 (S 1 3 0) (S 3)).2.2.2)) 6 (up2 (S 6) 5 (k1 0)))) 60 [some (.ref 0), some (.int (bB (riS (S 1 0) ln 0 (S 1 3 0) (S 3)).1))] [.int ((tkS (S 2) ((riS (S 1 0) ln 0 (S 1 3 0) (S 3)).2.2.2)) 9 0)]
    have hX : forC S ln = ((tkS (S 2) ((riS (S 1 0) ln 0 (S 1 3 0) (S 3)).2.2.2)) 9 0, (up3 (up3 (up3 (up3 S 1 (up2 (tpS (S 1 0) ln (riS (S 1 0) ln 0 (S 1 3 0) (S 3)).2.1 (riS (S 1 0) ln 0 (S 1 3 0) (S 3)).2.2.1) 1 (k1 0))) 2 (tkS (S 2) ((riS (S 1 0) ln 0 (S 1 3 0) (S 3)).2.2.2))) 3 ((riS (S 1 0) ln 0 (S 1 3 0) (S 3)).2.2.2)) 6 (up2 (S 6) 5 (k1 0)))) := by
      unfold forC
      rw [if_pos h_21]
    exact E _ _ _ _ _ _ dX5_forest_60 (Nat.le_refl _) (Nat.le_refl _) rfl ⟨by rw [hX], by rw [hX]⟩
  · replace h_21 := bB_f h_21
    refine r_ldc (pc := 24) (v := (-1000100)) C dX5_forest_24 tw_305 ?_
    refine r_aload_n (pc := 26) C dX5_forest_26 rfl rfl ?_
    refine r_getfield (pc := 27) (v := .ref 18) C xf_X5_18 dX5_forest_27 rfl rfl ?_
    refine r_getfield (pc := 30) (v := .int (nI (riS (S 1 0) ln 0 (S 1 3 0) (S 3)).2.1)) C xf_X5_109 dX5_forest_30 rfl rfl ?_
    refine r_isub (pc := 33) C dX5_forest_33 ?_
    show g 0 0 (wC (up3 (up3 S 1 (up2 (tpS (S 1 0) ln (riS (S 1 0) ln 0 (S 1 3 0) (S 3)).2.1 (riS (S 1 0) ln 0 (S 1 3 0) (S 3)).2.2.1) 1 (k1 0))) 3 ((riS (S 1 0) ln 0 (S 1 3 0) (S 3)).2.2.2))) 34 [some (.ref 0), some (.int (bB (riS (S 1 0) ln 0 (S 1 3 0) (S 3)).1))] [.int ((-1000100) - (nI (riS (S 1 0) ln 0 (S 1 3 0) (S 3)).2.1))]
    have hX : forC S ln = ((-1000100) - (nI (riS (S 1 0) ln 0 (S 1 3 0) (S 3)).2.1), (up3 (up3 S 1 (up2 (tpS (S 1 0) ln (riS (S 1 0) ln 0 (S 1 3 0) (S 3)).2.1 (riS (S 1 0) ln 0 (S 1 3 0) (S 3)).2.2.1) 1 (k1 0))) 3 ((riS (S 1 0) ln 0 (S 1 3 0) (S 3)).2.2.2))) := by
      unfold forC
      rw [if_neg (nbt h_21)]
    exact E _ _ _ _ _ _ dX5_forest_34 (Nat.le_refl _) (Nat.le_refl _) rfl ⟨by rw [hX], by rw [hX]⟩
