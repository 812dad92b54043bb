def feedC (S : Nat → Nat → Nat → Int32) (ln : Nat) (x : Int32) : Int32 × (Nat → Nat → Nat → Int32) := if belS x 256 then (if S 1 1 0 < 120 then (nI (ln + 1), up3 S 1 (up2 (up2 (S 1) 0 (upd (S 1 0) ln x)) 1 (k1 (nI (ln + 1))))) else (-1000003, S)) else (-1000001, S)
set_option maxHeartbeats 4000000 in
set_option maxRecDepth 100000 in
theorem c_X5_feed (S : Nat → Nat → Nat → Int32) (x : Int32) (ln : Nat) (hl : S 1 1 0 = nI ln) (hl120 : ln ≤ 120) : MetA yX5_feed (.code yX5_feed cX5_feed 2 (some .int) :: TT) rmX5_feed [.ref 0, .int x] (wC S) (fun vr wr => vr = some (.int (feedC S ln x).1) ∧ wr = wC (feedC S ln x).2) 0 0 := by
  refine MetA.of_i (by decide) (fun _ => Nat.le_of_ble_eq_true rfl) (Nat.le_of_ble_eq_true rfl) (fun g C E => ?_)
  replace C : Sem cX5_feed RX5 "feed" 2 rmX5_feed g := C
  show g 0 0 (wC S) 0 [some (.ref 0), some (.int x)] []
  refine r_iload_n (pc := 0) C dX5_feed_0 rfl rfl ?_
  refine r_sipush (pc := 1) (v := 256) C dX5_feed_1 (by decide) ?_
  refine r_callS0 (pc := 4) (As := [.int x, .int 256]) (st := []) C (c_X5_isBelow x 256) xm_X5_isBelow xk_X5_59 dX5_feed_4 (fun _ => rfl) (fun _ => rfl) rfl rfl (Nat.le_of_ble_eq_true rfl) ⟨Nat.le_of_ble_eq_true rfl, Nat.le_of_ble_eq_true rfl⟩ ⟨rfl, rfl⟩ ⟨Nat.le_of_ble_eq_true rfl, Nat.le_of_ble_eq_true rfl⟩ rfl ?_
  show g 0 0 (wC S) 7 [some (.ref 0), some (.int x)] [.int (bB (belS x 256))]
  refine r_if_ne (pc := 7) (tgt := 13) C dX5_feed_7 (by decide) (fun h_7 => ?_) (fun h_7 => ?_)
  · replace h_7 := bB_t h_7
    refine r_aload_n (pc := 13) C dX5_feed_13 rfl rfl ?_
    refine r_getfield (pc := 14) (v := .ref 18) C xf_X5_18 dX5_feed_14 rfl rfl ?_
    refine r_getfield (pc := 17) (v := .int ((S 1) 1 0)) C xf_X5_97 dX5_feed_17 rfl rfl ?_
    refine r_bipush (pc := 20) (v := 120) C dX5_feed_20 (by decide) ?_
    refine r_icmp_lt (pc := 22) (tgt := 28) C dX5_feed_22 (by decide) (fun h_22 => ?_) (fun h_22 => ?_)
    · skip
      have hln : ln < 120 := (nI_ltI (b := 120) (by omega) (by omega)).mp (by rw [← hl]; exact h_22)
      refine r_aload_n (pc := 28) C dX5_feed_28 rfl rfl ?_
      refine r_getfield (pc := 29) (v := .ref 18) C xf_X5_18 dX5_feed_29 rfl rfl ?_
      refine r_getfield (pc := 32) (v := .ref 19) C xf_X5_101 dX5_feed_32 rfl rfl ?_
      refine r_aload_n (pc := 35) C dX5_feed_35 rfl rfl ?_
      refine r_getfield (pc := 36) (v := .ref 18) C xf_X5_18 dX5_feed_36 rfl rfl ?_
      refine r_getfield (pc := 39) (v := .int ((S 1) 1 0)) C xf_X5_97 dX5_feed_39 rfl rfl ?_
      refine r_iload_n (pc := 42) C dX5_feed_42 rfl rfl ?_
      refine r_iastore (pc := 43) (θ' := wC (up3 S 1 (up2 (S 1) 0 (upd ((S 1) 0) ln x)))) C ln dX5_feed_43 rfl hl (by first | assumption | omega) rfl ?_
      refine r_aload_n (pc := 44) C dX5_feed_44 rfl rfl ?_
      refine r_getfield (pc := 45) (v := .ref 18) C xf_X5_18 dX5_feed_45 rfl rfl ?_
      refine r_dup (pc := 48) C dX5_feed_48 rfl ?_
      refine r_getfield (pc := 49) (v := .int ((S 1) 1 0)) C xf_X5_97 dX5_feed_49 rfl rfl ?_
      refine r_iconst (pc := 52) (v := 1) C dX5_feed_52 (by decide) ?_
      refine r_iadd (pc := 53) C dX5_feed_53 ?_
      show g 0 0 (wC (up3 S 1 (up2 (S 1) 0 (upd ((S 1) 0) ln x)))) 54 [some (.ref 0), some (.int x)] [.int (((S 1) 1 0) + 1), .ref 18]
      rw [show (((S 1) 1 0) + 1 : Int32) = nI (ln + 1) from (nI_sum hl rfl)]
      refine r_putfield (pc := 54) (θ' := wC (up3 S 1 (up2 (up2 (S 1) 0 (upd ((S 1) 0) ln x)) 1 (k1 (nI (ln + 1)))))) C xf_X5_97 xt_X4_1 dX5_feed_54 rfl (Nat.le_of_ble_eq_true rfl) (fun _ => ⟨rfl, rfl⟩) rfl ?_
      refine r_aload_n (pc := 57) C dX5_feed_57 rfl rfl ?_
      refine r_getfield (pc := 58) (v := .ref 18) C xf_X5_18 dX5_feed_58 rfl rfl ?_
      refine r_getfield (pc := 61) (v := .int (nI (ln + 1))) C xf_X5_97 dX5_feed_61 rfl rfl ?_
      show g 0 0 (wC (up3 S 1 (up2 (up2 (S 1) 0 (upd ((S 1) 0) ln x)) 1 (k1 (nI (ln + 1)))))) 64 [some (.ref 0), some (.int x)] [.int (nI (ln + 1))]
      have hX : feedC S ln x = (nI (ln + 1), (up3 S 1 (up2 (up2 (S 1) 0 (upd ((S 1) 0) ln x)) 1 (k1 (nI (ln + 1)))))) := by simp only [feedC, h_7, h_22, if_true, if_false, Bool.false_eq_true] <;> (try (repeat rw [ix_nI (by omega)]))
      exact E _ _ _ _ _ _ dX5_feed_64 (Nat.le_refl _) (Nat.le_refl _) rfl ⟨by rw [hX], by rw [hX]⟩
    · skip
      refine r_ldc (pc := 25) (v := (-1000003)) C dX5_feed_25 tw_253 ?_
      show g 0 0 (wC S) 27 [some (.ref 0), some (.int x)] [.int (-1000003)]
      have hX : feedC S ln x = ((-1000003), S) := by simp only [feedC, h_7, h_22, if_true, if_false, Bool.false_eq_true] <;> (try (repeat rw [ix_nI (by omega)]))
      exact E _ _ _ _ _ _ dX5_feed_27 (Nat.le_refl _) (Nat.le_refl _) rfl ⟨by rw [hX], by rw [hX]⟩
  · replace h_7 := bB_f h_7
    refine r_ldc (pc := 10) (v := (-1000001)) C dX5_feed_10 tw_216 ?_
    show g 0 0 (wC S) 12 [some (.ref 0), some (.int x)] [.int (-1000001)]
    have hX : feedC S ln x = ((-1000001), S) := by simp only [feedC, h_7, if_true, if_false, Bool.false_eq_true] <;> (try (repeat rw [ix_nI (by omega)]))
    exact E _ _ _ _ _ _ dX5_feed_12 (Nat.le_refl _) (Nat.le_refl _) rfl ⟨by rw [hX], by rw [hX]⟩
