def rmX6_stops : Room := { frames := 5, cells := 0, slots := 0, locals := 121 }
def rmX6_hands : Room := { frames := 3, cells := 0, slots := 0, locals := 71 }
def rmX6_leave : Room := { frames := 0, cells := 0, slots := 0, locals := 0 }
def rmX6_mark : Room := { frames := 1, cells := 0, slots := 0, locals := 26 }
def rmX6_sizeOf : Room := { frames := 1, cells := 0, slots := 0, locals := 26 }
def rmX6_ask : Room := { frames := 2, cells := 0, slots := 0, locals := 49 }
theorem le64 {a b s : Nat} (ha : a < 2 ^ 31) (hb : b < 2 ^ 31) (hs : s < 2 ^ 31) : (nI a).toInt64 + (nI b).toInt64 ≤ (nI s).toInt64 ↔ a + b ≤ s := by
  rw [Int64.le_iff_toInt_le, Int64.toInt_add, Int32.toInt_toInt64, Int32.toInt_toInt64, Int32.toInt_toInt64, nI_toInt ha, nI_toInt hb, nI_toInt hs, Int.bmod_eq_of_le (by omega) (by omega)]
  omega
theorem cp_ex {i n x : Int32} {s : Nat} (hs : x = nI s) (h40 : s ≤ 40) (hi : ¬ i < 0) (hn : ¬ n < 0) (h : ¬ 0 < lg_cmp (i.toInt64 + n.toInt64) x.toInt64) : ∃ a b, i = nI a ∧ n = nI b ∧ a + b ≤ s := by
  subst hs
  obtain ⟨a, ha, rfl⟩ := nI_of hi
  obtain ⟨b, hb, rfl⟩ := nI_of hn
  rw [lg_cmp_gt, Int64.not_lt] at h
  exact ⟨a, b, rfl, rfl, (le64 ha hb (by omega)).mp h⟩
theorem cp_ex2 {i x : Int32} {s n : Nat} (hs : x = nI s) (h40 : s ≤ 40) (hn : n < 2 ^ 31) (hi : ¬ i < 0) (h : lg_cmp (i.toInt64 + (nI n).toInt64) x.toInt64 ≤ 0) : ∃ a, i = nI a ∧ a + n ≤ s := by
  subst hs
  obtain ⟨a, ha, rfl⟩ := nI_of hi
  have h2 := Int32.not_lt.mpr h
  rw [lg_cmp_gt, Int64.not_lt] at h2
  exact ⟨a, rfl, (le64 ha hn (by omega)).mp h2⟩
def cpL (f : Nat → Int32) (a0 b0 n : Nat) (dir : Bool) : Nat → Nat → Int32
  | 0 => f
  | k + 1 => upd (cpL f a0 b0 n dir k) (b0 + cond dir (n - 1 - k) k) (cpL f a0 b0 n dir k (a0 + cond dir (n - 1 - k) k))
theorem cpL_t {f : Nat → Int32} {a0 b0 n k i j : Nat} (h : ¬ j ≤ i) : upd (cpL f a0 b0 n (!decide (j ≤ i)) k) (b0 + (n - 1 - k)) (cpL f a0 b0 n (!decide (j ≤ i)) k (a0 + (n - 1 - k))) = cpL f a0 b0 n (!decide (j ≤ i)) (k + 1) := by
  rw [cpL, decide_eq_false h]
  rfl
theorem cpL_f {f : Nat → Int32} {a0 b0 n k i j : Nat} (h : j ≤ i) : upd (cpL f a0 b0 n (!decide (j ≤ i)) k) (b0 + k) (cpL f a0 b0 n (!decide (j ≤ i)) k (a0 + k)) = cpL f a0 b0 n (!decide (j ≤ i)) (k + 1) := by
  rw [cpL, decide_eq_true h]
  rfl
set_option maxHeartbeats 4000000 in
set_option maxRecDepth 100000 in
theorem lp_X6_copy (M : Nat → Nat → Int32) (ra rb ki kj kn : Nat) (hra : ra ≤ 7) (hrb : rb ≤ 7) (hik : ki + kn ≤ 40) (hjk : kj + kn ≤ 40) {g : Nat → Nat → List xE → Nat → List (Option Value) → List Value → Prop} (C : Sem cX6_copy RX6 "copy" 8 rmX6_copy g) (kk : g 0 0 (wM (up2 M 2 (cpL (M 2) (40 * ra + ki) (40 * rb + kj) kn (!decide (kj ≤ ki)) kn))) 182 [some (.ref 0), some (.int (nI ra)), some (.int (nI ki)), some (.int (nI rb)), some (.int (nI kj)), some (.int (nI kn)), none, none] []) : ∀ (n : Nat) (k : Nat), k + n = kn → g 0 0 (wM (up2 M 2 (cpL (M 2) (40 * ra + ki) (40 * rb + kj) kn (!decide (kj ≤ ki)) k))) 120 [some (.ref 0), some (.int (nI ra)), some (.int (nI ki)), some (.int (nI rb)), some (.int (nI kj)), some (.int (nI kn)), some (.int (nI k)), none] [] := by
  intro n
  induction n with
  | zero =>
    intro k hv
    have hvN : k = kn := by omega
    rw [hvN]
    refine r_iload (pc := 120) C dX6_copy_120 rfl ?_
    refine r_iload (pc := 122) C dX6_copy_122 rfl ?_
    refine r_icmp_ge (pc := 124) (tgt := 182) C dX6_copy_124 (by decide) (fun _ => ?_) (fun h => absurd (nI_le (by omega) (by omega)) h)
    show g 0 0 (wM (up2 M 2 (cpL (M 2) (40 * ra + ki) (40 * rb + kj) kn (!decide (kj ≤ ki)) kn))) 182 [some (.ref 0), some (.int (nI ra)), some (.int (nI ki)), some (.int (nI rb)), some (.int (nI kj)), some (.int (nI kn)), some (.int (nI kn)), none] []
    refine r_drop (lv' := [some (.ref 0), some (.int (nI ra)), some (.int (nI ki)), some (.int (nI rb)), some (.int (nI kj)), some (.int (nI kn)), none, none]) C ⟨rfl, rfl, rfl, rfl, rfl, rfl, trivial⟩ ?_
    show g 0 0 (wM (up2 M 2 (cpL (M 2) (40 * ra + ki) (40 * rb + kj) kn (!decide (kj ≤ ki)) kn))) 182 [some (.ref 0), some (.int (nI ra)), some (.int (nI ki)), some (.int (nI rb)), some (.int (nI kj)), some (.int (nI kn)), none, none] []
    exact kk
  | succ n ih =>
    intro k hv
    refine r_iload (pc := 120) C dX6_copy_120 rfl ?_
    refine r_iload (pc := 122) C dX6_copy_122 rfl ?_
    refine r_icmp_ge (pc := 124) (tgt := 182) C dX6_copy_124 (by decide) (fun h => absurd h (nI_ge (by omega) (by omega))) (fun _ => ?_)
    refine r_iload (pc := 127) C dX6_copy_127 rfl ?_
    refine r_iload_n (pc := 129) C dX6_copy_129 rfl rfl ?_
    refine r_icmp_le (pc := 130) (tgt := 143) C dX6_copy_130 (by decide) (fun h_130 => ?_) (fun h_130 => ?_)
    · skip
      refine r_iload (pc := 143) C dX6_copy_143 rfl ?_
      refine r_istore (pc := 145) (lv' := [some (.ref 0), some (.int (nI ra)), some (.int (nI ki)), some (.int (nI rb)), some (.int (nI kj)), some (.int (nI kn)), some (.int (nI k)), some (.int (nI k))]) C dX6_copy_145 (Nat.le_of_ble_eq_true rfl) trivial rfl ?_
      refine r_aload_n (pc := 147) C dX6_copy_147 rfl rfl ?_
      refine r_getfield (pc := 148) (v := .ref 3) C xf_X6_16 dX6_copy_148 rfl rfl ?_
      refine r_bipush (pc := 151) (v := 40) C dX6_copy_151 (by decide) ?_
      refine r_iload_n (pc := 153) C dX6_copy_153 rfl rfl ?_
      refine r_imul (pc := 154) C dX6_copy_154 ?_
      refine r_iload (pc := 155) C dX6_copy_155 rfl ?_
      refine r_iadd (pc := 157) C dX6_copy_157 ?_
      refine r_iload (pc := 158) C dX6_copy_158 rfl ?_
      refine r_iadd (pc := 160) C dX6_copy_160 ?_
      refine r_aload_n (pc := 161) C dX6_copy_161 rfl rfl ?_
      refine r_getfield (pc := 162) (v := .ref 3) C xf_X6_16 dX6_copy_162 rfl rfl ?_
      refine r_bipush (pc := 165) (v := 40) C dX6_copy_165 (by decide) ?_
      refine r_iload_n (pc := 167) C dX6_copy_167 rfl rfl ?_
      refine r_imul (pc := 168) C dX6_copy_168 ?_
      refine r_iload_n (pc := 169) C dX6_copy_169 rfl rfl ?_
      refine r_iadd (pc := 170) C dX6_copy_170 ?_
      refine r_iload (pc := 171) C dX6_copy_171 rfl ?_
      refine r_iadd (pc := 173) C dX6_copy_173 ?_
      refine r_iaload (pc := 174) (v := (cpL (M 2) (40 * ra + ki) (40 * rb + kj) kn (!decide (kj ≤ ki)) k) (40 * ra + ki + k)) C (40 * ra + ki + k) dX6_copy_174 rfl (nI_sum (m := (40 * ra + ki)) (n := k) (nI_sum (m := (40 * ra)) (n := ki) (nI_prod (m := 40) (n := ra) rfl rfl) rfl) rfl) (by first | assumption | omega) rfl ?_
      refine r_iastore (pc := 175) (θ' := wM (up2 M 2 (upd (cpL (M 2) (40 * ra + ki) (40 * rb + kj) kn (!decide (kj ≤ ki)) k) (40 * rb + kj + k) ((cpL (M 2) (40 * ra + ki) (40 * rb + kj) kn (!decide (kj ≤ ki)) k) (40 * ra + ki + k))))) C (40 * rb + kj + k) dX6_copy_175 rfl (nI_sum (m := (40 * rb + kj)) (n := k) (nI_sum (m := (40 * rb)) (n := kj) (nI_prod (m := 40) (n := rb) rfl rfl) rfl) rfl) (by first | assumption | omega) rfl ?_
      refine r_iinc (pc := 176) (v := nI (k + 1)) (lv' := [some (.ref 0), some (.int (nI ra)), some (.int (nI ki)), some (.int (nI rb)), some (.int (nI kj)), some (.int (nI kn)), some (.int (nI (k + 1))), some (.int (nI k))]) C dX6_copy_176 rfl (nI_1 k) trivial rfl ?_
      refine r_goto (pc := 179) (tgt := 120) C dX6_copy_179 (by decide) ?_
      show g 0 0 (wM (up2 M 2 (upd (cpL (M 2) (40 * ra + ki) (40 * rb + kj) kn (!decide (kj ≤ ki)) k) (40 * rb + kj + k) ((cpL (M 2) (40 * ra + ki) (40 * rb + kj) kn (!decide (kj ≤ ki)) k) (40 * ra + ki + k))))) 120 [some (.ref 0), some (.int (nI ra)), some (.int (nI ki)), some (.int (nI rb)), some (.int (nI kj)), some (.int (nI kn)), some (.int (nI (k + 1))), some (.int (nI k))] []
      rw [cpL_f ((nI_leI (by omega) (by omega)).mp h_130)]
      show g 0 0 (wM (up2 M 2 (cpL (M 2) (40 * ra + ki) (40 * rb + kj) kn (!decide (kj ≤ ki)) (k + 1)))) 120 [some (.ref 0), some (.int (nI ra)), some (.int (nI ki)), some (.int (nI rb)), some (.int (nI kj)), some (.int (nI kn)), some (.int (nI (k + 1))), some (.int (nI k))] []
      refine r_drop (lv' := [some (.ref 0), some (.int (nI ra)), some (.int (nI ki)), some (.int (nI rb)), some (.int (nI kj)), some (.int (nI kn)), some (.int (nI (k + 1))), none]) C ⟨rfl, rfl, rfl, rfl, rfl, rfl, rfl, trivial⟩ ?_
      exact ih (k + 1) (by omega)
    · skip
      refine r_iload (pc := 133) C dX6_copy_133 rfl ?_
      refine r_iconst (pc := 135) (v := 1) C dX6_copy_135 (by decide) ?_
      refine r_isub (pc := 136) C dX6_copy_136 ?_
      refine r_iload (pc := 137) C dX6_copy_137 rfl ?_
      refine r_isub (pc := 139) C dX6_copy_139 ?_
      refine r_goto (pc := 140) (tgt := 145) C dX6_copy_140 (by decide) ?_
      show g 0 0 (wM (up2 M 2 (cpL (M 2) (40 * ra + ki) (40 * rb + kj) kn (!decide (kj ≤ ki)) k))) 145 [some (.ref 0), some (.int (nI ra)), some (.int (nI ki)), some (.int (nI rb)), some (.int (nI kj)), some (.int (nI kn)), some (.int (nI k)), none] [.int (((nI kn) - 1) - (nI k))]
      rw [show (((nI kn) - 1) - (nI k) : Int32) = nI (kn - 1 - k) from (nI_dif (m := (kn - 1)) (n := k) (nI_dif (m := kn) (n := 1) rfl rfl (by omega)) rfl (by omega))]
      refine r_istore (pc := 145) (lv' := [some (.ref 0), some (.int (nI ra)), some (.int (nI ki)), some (.int (nI rb)), some (.int (nI kj)), some (.int (nI kn)), some (.int (nI k)), some (.int (nI (kn - 1 - k)))]) C dX6_copy_145 (Nat.le_of_ble_eq_true rfl) trivial rfl ?_
      refine r_aload_n (pc := 147) C dX6_copy_147 rfl rfl ?_
      refine r_getfield (pc := 148) (v := .ref 3) C xf_X6_16 dX6_copy_148 rfl rfl ?_
      refine r_bipush (pc := 151) (v := 40) C dX6_copy_151 (by decide) ?_
      refine r_iload_n (pc := 153) C dX6_copy_153 rfl rfl ?_
      refine r_imul (pc := 154) C dX6_copy_154 ?_
      refine r_iload (pc := 155) C dX6_copy_155 rfl ?_
      refine r_iadd (pc := 157) C dX6_copy_157 ?_
      refine r_iload (pc := 158) C dX6_copy_158 rfl ?_
      refine r_iadd (pc := 160) C dX6_copy_160 ?_
      refine r_aload_n (pc := 161) C dX6_copy_161 rfl rfl ?_
      refine r_getfield (pc := 162) (v := .ref 3) C xf_X6_16 dX6_copy_162 rfl rfl ?_
      refine r_bipush (pc := 165) (v := 40) C dX6_copy_165 (by decide) ?_
      refine r_iload_n (pc := 167) C dX6_copy_167 rfl rfl ?_
      refine r_imul (pc := 168) C dX6_copy_168 ?_
      refine r_iload_n (pc := 169) C dX6_copy_169 rfl rfl ?_
      refine r_iadd (pc := 170) C dX6_copy_170 ?_
      refine r_iload (pc := 171) C dX6_copy_171 rfl ?_
      refine r_iadd (pc := 173) C dX6_copy_173 ?_
      refine r_iaload (pc := 174) (v := (cpL (M 2) (40 * ra + ki) (40 * rb + kj) kn (!decide (kj ≤ ki)) k) (40 * ra + ki + (kn - 1 - k))) C (40 * ra + ki + (kn - 1 - k)) dX6_copy_174 rfl (nI_sum (m := (40 * ra + ki)) (n := (kn - 1 - k)) (nI_sum (m := (40 * ra)) (n := ki) (nI_prod (m := 40) (n := ra) rfl rfl) rfl) rfl) (by first | assumption | omega) rfl ?_
      refine r_iastore (pc := 175) (θ' := wM (up2 M 2 (upd (cpL (M 2) (40 * ra + ki) (40 * rb + kj) kn (!decide (kj ≤ ki)) k) (40 * rb + kj + (kn - 1 - k)) ((cpL (M 2) (40 * ra + ki) (40 * rb + kj) kn (!decide (kj ≤ ki)) k) (40 * ra + ki + (kn - 1 - k)))))) C (40 * rb + kj + (kn - 1 - k)) dX6_copy_175 rfl (nI_sum (m := (40 * rb + kj)) (n := (kn - 1 - k)) (nI_sum (m := (40 * rb)) (n := kj) (nI_prod (m := 40) (n := rb) rfl rfl) rfl) rfl) (by first | assumption | omega) rfl ?_
      refine r_iinc (pc := 176) (v := nI (k + 1)) (lv' := [some (.ref 0), some (.int (nI ra)), some (.int (nI ki)), some (.int (nI rb)), some (.int (nI kj)), some (.int (nI kn)), some (.int (nI (k + 1))), some (.int (nI (kn - 1 - k)))]) C dX6_copy_176 rfl (nI_1 k) trivial rfl ?_
      refine r_goto (pc := 179) (tgt := 120) C dX6_copy_179 (by decide) ?_
      show g 0 0 (wM (up2 M 2 (upd (cpL (M 2) (40 * ra + ki) (40 * rb + kj) kn (!decide (kj ≤ ki)) k) (40 * rb + kj + (kn - 1 - k)) ((cpL (M 2) (40 * ra + ki) (40 * rb + kj) kn (!decide (kj ≤ ki)) k) (40 * ra + ki + (kn - 1 - k)))))) 120 [some (.ref 0), some (.int (nI ra)), some (.int (nI ki)), some (.int (nI rb)), some (.int (nI kj)), some (.int (nI kn)), some (.int (nI (k + 1))), some (.int (nI (kn - 1 - k)))] []
      rw [cpL_t (fun z => h_130 ((nI_leI (by omega) (by omega)).mpr z))]
      show g 0 0 (wM (up2 M 2 (cpL (M 2) (40 * ra + ki) (40 * rb + kj) kn (!decide (kj ≤ ki)) (k + 1)))) 120 [some (.ref 0), some (.int (nI ra)), some (.int (nI ki)), some (.int (nI rb)), some (.int (nI kj)), some (.int (nI kn)), some (.int (nI (k + 1))), some (.int (nI (kn - 1 - k)))] []
      refine r_drop (lv' := [some (.ref 0), some (.int (nI ra)), some (.int (nI ki)), some (.int (nI rb)), some (.int (nI kj)), some (.int (nI kn)), some (.int (nI (k + 1))), none]) C ⟨rfl, rfl, rfl, rfl, rfl, rfl, rfl, trivial⟩ ?_
      exact ih (k + 1) (by omega)
theorem lq_X6_copy (M : Nat → Nat → Int32) (ra rb ki kj kn : Nat) (hra : ra ≤ 7) (hrb : rb ≤ 7) (hik : ki + kn ≤ 40) (hjk : kj + kn ≤ 40) {g : Nat → Nat → List xE → Nat → List (Option Value) → List Value → Prop} (C : Sem cX6_copy RX6 "copy" 8 rmX6_copy g) (kk : g 0 0 (wM (up2 M 2 (cpL (M 2) (40 * ra + ki) (40 * rb + kj) kn (!decide (kj ≤ ki)) kn))) 182 [some (.ref 0), some (.int (nI ra)), some (.int (nI ki)), some (.int (nI rb)), some (.int (nI kj)), some (.int (nI kn)), none, none] []) : g 0 0 (wM M) 120 [some (.ref 0), some (.int (nI ra)), some (.int (nI ki)), some (.int (nI rb)), some (.int (nI kj)), some (.int (nI kn)), some (.int 0), none] [] := lp_X6_copy M ra rb ki kj kn hra hrb hik hjk C kk kn 0 (by omega)
def copyM (M : Nat → Nat → Int32) (a i b j n : Int32) : Int32 × (Nat → Nat → Int32) := (if (inI a 0 7) = true then (if (inI b 0 7) = true then (if (M 1 (ix a)) < 0 then ((-1000010) - 1, (up2 M 3 (k1 1))) else (if 0 ≤ (M 1 (ix b)) then (if (M 0 (ix a)) = (M 0 (ix b)) then (if i < 0 then ((-1000010) - 2, (up2 M 3 (k1 2))) else (if j < 0 then ((-1000010) - 2, (up2 M 3 (k1 2))) else (if n < 0 then ((-1000010) - 2, (up2 M 3 (k1 2))) else (if 0 < (lg_cmp (i.toInt64 + n.toInt64) ((M 1 (ix a)).toInt64)) then ((-1000010) - 2, (up2 M 3 (k1 2))) else (if (lg_cmp (j.toInt64 + n.toInt64) ((M 1 (ix b)).toInt64)) ≤ 0 then (n, (up2 (up2 M 2 (cpL (M 2) (40 * (ix a) + (ix i)) (40 * (ix b) + (ix j)) (ix n) (!decide ((ix j) ≤ (ix i))) (ix n))) 3 (k1 0))) else ((-1000010) - 2, (up2 M 3 (k1 2)))))))) else ((-1000010) - 5, (up2 M 3 (k1 5)))) else ((-1000010) - 1, (up2 M 3 (k1 1))))) else ((-1000001), M)) else ((-1000001), M))
set_option maxHeartbeats 4000000 in
set_option maxRecDepth 100000 in
theorem c_X6_copy (M : Nat → Nat → Int32) (a i b j n : Int32) (hM1 : okSz M) : MetA yX6_copy (.code yX6_copy cX6_copy 8 (some .int) :: TT) rmX6_copy [.ref 0, .int a, .int i, .int b, .int j, .int n] (wM M) (fun vr wr => vr = some (.int (copyM M a i b j n).1) ∧ wr = wM (copyM M a i b j n).2) 0 0 := by
  refine MetA.of_i (by decide) (fun _ => Nat.le_of_ble_eq_true rfl) (Nat.le_of_ble_eq_true rfl) (fun g C E => ?_)
  replace C : Sem cX6_copy RX6 "copy" 8 rmX6_copy g := C
  show g 0 0 (wM M) 0 [some (.ref 0), some (.int a), some (.int i), some (.int b), some (.int j), some (.int n), none, none] []
  refine r_iload_n (pc := 0) C dX6_copy_0 rfl rfl ?_
  refine r_callS0 (pc := 1) (As := [.int a]) (st := []) C (c_X6_isRow a) xm_X6_isRow xk_X6_61 dX6_copy_1 (fun _ => rfl) (fun _ => rfl) rfl rfl (Nat.le_of_ble_eq_true rfl) ⟨Nat.le_of_ble_eq_true rfl, Nat.le_of_ble_eq_true rfl⟩ ⟨rfl, rfl⟩ ⟨Nat.le_of_ble_eq_true rfl, Nat.le_of_ble_eq_true rfl⟩ rfl ?_
  show g 0 0 (wM M) 4 [some (.ref 0), some (.int a), some (.int i), some (.int b), some (.int j), some (.int n), none, none] [.int (bB (inI a 0 7))]
  refine r_if_eq (pc := 4) (tgt := 14) C dX6_copy_4 (by decide) (fun h_4 => ?_) (fun h_4 => ?_)
  · replace h_4 := bB_f h_4
    refine r_ldc (pc := 14) (v := (-1000001)) C dX6_copy_14 tw_668 ?_
    show g 0 0 (wM M) 16 [some (.ref 0), some (.int a), some (.int i), some (.int b), some (.int j), some (.int n), none, none] [.int (-1000001)]
    have hX : copyM M a i b j n = ((-1000001), M) := by
      unfold copyM
      rw [if_neg (nbt h_4)]
    exact E _ _ _ _ _ _ dX6_copy_16 (Nat.le_refl _) (Nat.le_refl _) rfl ⟨by rw [hX], by rw [hX]⟩
  · replace h_4 := bB_t h_4
    obtain ⟨ja, hja, rfl⟩ := inr_ex (m := 7) rfl h_4
    refine r_iload_n (pc := 7) C dX6_copy_7 rfl rfl ?_
    refine r_callS0 (pc := 8) (As := [.int b]) (st := []) C (c_X6_isRow b) xm_X6_isRow xk_X6_61 dX6_copy_8 (fun _ => rfl) (fun _ => rfl) rfl rfl (Nat.le_of_ble_eq_true rfl) ⟨Nat.le_of_ble_eq_true rfl, Nat.le_of_ble_eq_true rfl⟩ ⟨rfl, rfl⟩ ⟨Nat.le_of_ble_eq_true rfl, Nat.le_of_ble_eq_true rfl⟩ rfl ?_
    show g 0 0 (wM M) 11 [some (.ref 0), some (.int (nI ja)), some (.int i), some (.int b), some (.int j), some (.int n), none, none] [.int (bB (inI b 0 7))]
    refine r_if_ne (pc := 11) (tgt := 17) C dX6_copy_11 (by decide) (fun h_11 => ?_) (fun h_11 => ?_)
    · replace h_11 := bB_t h_11
      obtain ⟨jb, hjb, rfl⟩ := inr_ex (m := 7) rfl h_11
      refine r_aload_n (pc := 17) C dX6_copy_17 rfl rfl ?_
      refine r_getfield (pc := 18) (v := .ref 2) C xf_X6_13 dX6_copy_18 rfl rfl ?_
      refine r_iload_n (pc := 21) C dX6_copy_21 rfl rfl ?_
      refine r_iaload (pc := 22) (v := M 1 ja) C ja dX6_copy_22 rfl rfl (by first | assumption | omega) rfl ?_
      refine r_if_lt (pc := 23) (tgt := 35) C dX6_copy_23 (by decide) (fun h_23 => ?_) (fun h_23 => ?_)
      · skip
        refine r_aload_n (pc := 35) C dX6_copy_35 rfl rfl ?_
        refine r_iconst (pc := 36) (v := 1) C dX6_copy_36 (by decide) ?_
        refine r_callV0 (pc := 37) (As := [.int 1]) (st := []) (θ' := wM (up2 M 3 (k1 1))) C (c_X6_found M 1) xm_X6_found xk_X6_68 dX6_copy_37 rfl rfl rfl rfl (Nat.le_of_ble_eq_true rfl) ⟨Nat.le_of_ble_eq_true rfl, Nat.le_of_ble_eq_true rfl⟩ ⟨rfl, rfl⟩ ⟨Nat.le_of_ble_eq_true rfl, Nat.le_of_ble_eq_true rfl⟩ rfl (Eq.trans (b := 14) rfl rfl) ?_
        show g 0 0 (wM (up2 M 3 (k1 1))) 40 [some (.ref 0), some (.int (nI ja)), some (.int i), some (.int (nI jb)), some (.int j), some (.int n), none, none] [.int ((-1000010) - 1)]
        show g 0 0 (wM (up2 M 3 (k1 1))) 40 [some (.ref 0), some (.int (nI ja)), some (.int i), some (.int (nI jb)), some (.int j), some (.int n), none, none] [.int ((-1000010) - 1)]
        have hX : copyM M (nI ja) i (nI jb) j n = ((-1000010) - 1, (up2 M 3 (k1 1))) := by
          unfold copyM
          (try rw [ix_nI (show ja < 2 ^ 31 by omega)])
          (try rw [ix_nI (show jb < 2 ^ 31 by omega)])
          rw [if_pos h_4, if_pos h_11, if_pos h_23]
        exact E _ _ _ _ _ _ dX6_copy_40 (Nat.le_refl _) (Nat.le_refl _) rfl ⟨by rw [hX], by rw [hX]⟩
      · skip
        refine r_aload_n (pc := 26) C dX6_copy_26 rfl rfl ?_
        refine r_getfield (pc := 27) (v := .ref 2) C xf_X6_13 dX6_copy_27 rfl rfl ?_
        refine r_iload_n (pc := 30) C dX6_copy_30 rfl rfl ?_
        refine r_iaload (pc := 31) (v := M 1 jb) C jb dX6_copy_31 rfl rfl (by first | assumption | omega) rfl ?_
        refine r_if_ge (pc := 32) (tgt := 41) C dX6_copy_32 (by decide) (fun h_32 => ?_) (fun h_32 => ?_)
        · skip
          refine r_aload_n (pc := 41) C dX6_copy_41 rfl rfl ?_
          refine r_getfield (pc := 42) (v := .ref 1) C xf_X6_7 dX6_copy_42 rfl rfl ?_
          refine r_iload_n (pc := 45) C dX6_copy_45 rfl rfl ?_
          refine r_iaload (pc := 46) (v := M 0 ja) C ja dX6_copy_46 rfl rfl (by first | assumption | omega) rfl ?_
          refine r_aload_n (pc := 47) C dX6_copy_47 rfl rfl ?_
          refine r_getfield (pc := 48) (v := .ref 1) C xf_X6_7 dX6_copy_48 rfl rfl ?_
          refine r_iload_n (pc := 51) C dX6_copy_51 rfl rfl ?_
          refine r_iaload (pc := 52) (v := M 0 jb) C jb dX6_copy_52 rfl rfl (by first | assumption | omega) rfl ?_
          refine r_icmp_eq (pc := 53) (tgt := 62) C dX6_copy_53 (by decide) (fun h_53 => ?_) (fun h_53 => ?_)
          · skip
            refine r_iload_n (pc := 62) C dX6_copy_62 rfl rfl ?_
            refine r_if_lt (pc := 63) (tgt := 111) C dX6_copy_63 (by decide) (fun h_63 => ?_) (fun h_63 => ?_)
            · skip
              refine r_aload_n (pc := 111) C dX6_copy_111 rfl rfl ?_
              refine r_iconst (pc := 112) (v := 2) C dX6_copy_112 (by decide) ?_
              refine r_callV0 (pc := 113) (As := [.int 2]) (st := []) (θ' := wM (up2 M 3 (k1 2))) C (c_X6_found M 2) xm_X6_found xk_X6_68 dX6_copy_113 rfl rfl rfl rfl (Nat.le_of_ble_eq_true rfl) ⟨Nat.le_of_ble_eq_true rfl, Nat.le_of_ble_eq_true rfl⟩ ⟨rfl, rfl⟩ ⟨Nat.le_of_ble_eq_true rfl, Nat.le_of_ble_eq_true rfl⟩ rfl (Eq.trans (b := 14) rfl rfl) ?_
              show g 0 0 (wM (up2 M 3 (k1 2))) 116 [some (.ref 0), some (.int (nI ja)), some (.int i), some (.int (nI jb)), some (.int j), some (.int n), none, none] [.int ((-1000010) - 2)]
              show g 0 0 (wM (up2 M 3 (k1 2))) 116 [some (.ref 0), some (.int (nI ja)), some (.int i), some (.int (nI jb)), some (.int j), some (.int n), none, none] [.int ((-1000010) - 2)]
              have hX : copyM M (nI ja) i (nI jb) j n = ((-1000010) - 2, (up2 M 3 (k1 2))) := by
                unfold copyM
                (try rw [ix_nI (show ja < 2 ^ 31 by omega)])
                (try rw [ix_nI (show jb < 2 ^ 31 by omega)])
                rw [if_pos h_4, if_pos h_11, if_neg h_23, if_pos h_32, if_pos h_53, if_pos h_63]
              exact E _ _ _ _ _ _ dX6_copy_116 (Nat.le_refl _) (Nat.le_refl _) rfl ⟨by rw [hX], by rw [hX]⟩
            · skip
              refine r_iload (pc := 66) C dX6_copy_66 rfl ?_
              refine r_if_lt (pc := 68) (tgt := 111) C dX6_copy_68 (by decide) (fun h_68 => ?_) (fun h_68 => ?_)
              · skip
                refine r_aload_n (pc := 111) C dX6_copy_111 rfl rfl ?_
                refine r_iconst (pc := 112) (v := 2) C dX6_copy_112 (by decide) ?_
                refine r_callV0 (pc := 113) (As := [.int 2]) (st := []) (θ' := wM (up2 M 3 (k1 2))) C (c_X6_found M 2) xm_X6_found xk_X6_68 dX6_copy_113 rfl rfl rfl rfl (Nat.le_of_ble_eq_true rfl) ⟨Nat.le_of_ble_eq_true rfl, Nat.le_of_ble_eq_true rfl⟩ ⟨rfl, rfl⟩ ⟨Nat.le_of_ble_eq_true rfl, Nat.le_of_ble_eq_true rfl⟩ rfl (Eq.trans (b := 14) rfl rfl) ?_
                show g 0 0 (wM (up2 M 3 (k1 2))) 116 [some (.ref 0), some (.int (nI ja)), some (.int i), some (.int (nI jb)), some (.int j), some (.int n), none, none] [.int ((-1000010) - 2)]
                show g 0 0 (wM (up2 M 3 (k1 2))) 116 [some (.ref 0), some (.int (nI ja)), some (.int i), some (.int (nI jb)), some (.int j), some (.int n), none, none] [.int ((-1000010) - 2)]
                have hX : copyM M (nI ja) i (nI jb) j n = ((-1000010) - 2, (up2 M 3 (k1 2))) := by
                  unfold copyM
                  (try rw [ix_nI (show ja < 2 ^ 31 by omega)])
                  (try rw [ix_nI (show jb < 2 ^ 31 by omega)])
                  rw [if_pos h_4, if_pos h_11, if_neg h_23, if_pos h_32, if_pos h_53, if_neg h_63, if_pos h_68]
                exact E _ _ _ _ _ _ dX6_copy_116 (Nat.le_refl _) (Nat.le_refl _) rfl ⟨by rw [hX], by rw [hX]⟩
              · skip
                refine r_iload (pc := 71) C dX6_copy_71 rfl ?_
                refine r_if_lt (pc := 73) (tgt := 111) C dX6_copy_73 (by decide) (fun h_73 => ?_) (fun h_73 => ?_)
                · skip
                  refine r_aload_n (pc := 111) C dX6_copy_111 rfl rfl ?_
                  refine r_iconst (pc := 112) (v := 2) C dX6_copy_112 (by decide) ?_
                  refine r_callV0 (pc := 113) (As := [.int 2]) (st := []) (θ' := wM (up2 M 3 (k1 2))) C (c_X6_found M 2) xm_X6_found xk_X6_68 dX6_copy_113 rfl rfl rfl rfl (Nat.le_of_ble_eq_true rfl) ⟨Nat.le_of_ble_eq_true rfl, Nat.le_of_ble_eq_true rfl⟩ ⟨rfl, rfl⟩ ⟨Nat.le_of_ble_eq_true rfl, Nat.le_of_ble_eq_true rfl⟩ rfl (Eq.trans (b := 14) rfl rfl) ?_
                  show g 0 0 (wM (up2 M 3 (k1 2))) 116 [some (.ref 0), some (.int (nI ja)), some (.int i), some (.int (nI jb)), some (.int j), some (.int n), none, none] [.int ((-1000010) - 2)]
                  show g 0 0 (wM (up2 M 3 (k1 2))) 116 [some (.ref 0), some (.int (nI ja)), some (.int i), some (.int (nI jb)), some (.int j), some (.int n), none, none] [.int ((-1000010) - 2)]
                  have hX : copyM M (nI ja) i (nI jb) j n = ((-1000010) - 2, (up2 M 3 (k1 2))) := by
                    unfold copyM
                    (try rw [ix_nI (show ja < 2 ^ 31 by omega)])
                    (try rw [ix_nI (show jb < 2 ^ 31 by omega)])
                    rw [if_pos h_4, if_pos h_11, if_neg h_23, if_pos h_32, if_pos h_53, if_neg h_63, if_neg h_68, if_pos h_73]
                  exact E _ _ _ _ _ _ dX6_copy_116 (Nat.le_refl _) (Nat.le_refl _) rfl ⟨by rw [hX], by rw [hX]⟩
                · skip
                  refine r_iload_n (pc := 76) C dX6_copy_76 rfl rfl ?_
                  refine r_i2l (pc := 77) (v := i.toInt64) C dX6_copy_77 rfl ?_
                  refine r_iload (pc := 78) C dX6_copy_78 rfl ?_
                  refine r_i2l (pc := 80) (v := n.toInt64) C dX6_copy_80 rfl ?_
                  refine r_ladd (pc := 81) C dX6_copy_81 ?_
                  refine r_aload_n (pc := 82) C dX6_copy_82 rfl rfl ?_
                  refine r_getfield (pc := 83) (v := .ref 2) C xf_X6_13 dX6_copy_83 rfl rfl ?_
                  refine r_iload_n (pc := 86) C dX6_copy_86 rfl rfl ?_
                  refine r_iaload (pc := 87) (v := M 1 ja) C ja dX6_copy_87 rfl rfl (by first | assumption | omega) rfl ?_
                  refine r_i2l (pc := 88) (v := (M 1 ja).toInt64) C dX6_copy_88 rfl ?_
                  refine r_lcmp (pc := 89) C dX6_copy_89 ?_
                  refine r_if_gt (pc := 90) (tgt := 111) C dX6_copy_90 (by decide) (fun h_90 => ?_) (fun h_90 => ?_)
                  · skip
                    refine r_aload_n (pc := 111) C dX6_copy_111 rfl rfl ?_
                    refine r_iconst (pc := 112) (v := 2) C dX6_copy_112 (by decide) ?_
                    refine r_callV0 (pc := 113) (As := [.int 2]) (st := []) (θ' := wM (up2 M 3 (k1 2))) C (c_X6_found M 2) xm_X6_found xk_X6_68 dX6_copy_113 rfl rfl rfl rfl (Nat.le_of_ble_eq_true rfl) ⟨Nat.le_of_ble_eq_true rfl, Nat.le_of_ble_eq_true rfl⟩ ⟨rfl, rfl⟩ ⟨Nat.le_of_ble_eq_true rfl, Nat.le_of_ble_eq_true rfl⟩ rfl (Eq.trans (b := 14) rfl rfl) ?_
                    show g 0 0 (wM (up2 M 3 (k1 2))) 116 [some (.ref 0), some (.int (nI ja)), some (.int i), some (.int (nI jb)), some (.int j), some (.int n), none, none] [.int ((-1000010) - 2)]
                    show g 0 0 (wM (up2 M 3 (k1 2))) 116 [some (.ref 0), some (.int (nI ja)), some (.int i), some (.int (nI jb)), some (.int j), some (.int n), none, none] [.int ((-1000010) - 2)]
                    have hX : copyM M (nI ja) i (nI jb) j n = ((-1000010) - 2, (up2 M 3 (k1 2))) := by
                      unfold copyM
                      (try rw [ix_nI (show ja < 2 ^ 31 by omega)])
                      (try rw [ix_nI (show jb < 2 ^ 31 by omega)])
                      rw [if_pos h_4, if_pos h_11, if_neg h_23, if_pos h_32, if_pos h_53, if_neg h_63, if_neg h_68, if_neg h_73, if_pos h_90]
                    exact E _ _ _ _ _ _ dX6_copy_116 (Nat.le_refl _) (Nat.le_refl _) rfl ⟨by rw [hX], by rw [hX]⟩
                  · skip
                    refine r_iload (pc := 93) C dX6_copy_93 rfl ?_
                    refine r_i2l (pc := 95) (v := j.toInt64) C dX6_copy_95 rfl ?_
                    refine r_iload (pc := 96) C dX6_copy_96 rfl ?_
                    refine r_i2l (pc := 98) (v := n.toInt64) C dX6_copy_98 rfl ?_
                    refine r_ladd (pc := 99) C dX6_copy_99 ?_
                    refine r_aload_n (pc := 100) C dX6_copy_100 rfl rfl ?_
                    refine r_getfield (pc := 101) (v := .ref 2) C xf_X6_13 dX6_copy_101 rfl rfl ?_
                    refine r_iload_n (pc := 104) C dX6_copy_104 rfl rfl ?_
                    refine r_iaload (pc := 105) (v := M 1 jb) C jb dX6_copy_105 rfl rfl (by first | assumption | omega) rfl ?_
                    refine r_i2l (pc := 106) (v := (M 1 jb).toInt64) C dX6_copy_106 rfl ?_
                    refine r_lcmp (pc := 107) C dX6_copy_107 ?_
                    refine r_if_le (pc := 108) (tgt := 117) C dX6_copy_108 (by decide) (fun h_108 => ?_) (fun h_108 => ?_)
                    · skip
                      refine r_iconst (pc := 117) (v := 0) C dX6_copy_117 (by decide) ?_
                      refine r_istore (pc := 118) (lv' := [some (.ref 0), some (.int (nI ja)), some (.int i), some (.int (nI jb)), some (.int j), some (.int n), some (.int 0), none]) C dX6_copy_118 (Nat.le_of_ble_eq_true rfl) trivial rfl ?_
                      obtain ⟨sa, hsa40, hsa⟩ := sz_ex (hM1 ja (by omega)) (Int32.not_lt.mp h_23)
                      obtain ⟨sb, hsb40, hsb⟩ := sz_ex (hM1 jb (by omega)) h_32
                      obtain ⟨ki, kn, rfl, rfl, hkin⟩ := cp_ex hsa hsa40 h_63 h_73 h_90
                      obtain ⟨kj, rfl, hkjn⟩ := cp_ex2 hsb hsb40 (by omega) h_68 h_108
                      show g 0 0 (wM M) 120 [some (.ref 0), some (.int (nI ja)), some (.int (nI ki)), some (.int (nI jb)), some (.int (nI kj)), some (.int (nI kn)), some (.int 0), none] []
                      refine lq_X6_copy M ja jb ki kj kn hja hjb (by omega) (by omega) C ?_
                      show g 0 0 (wM (up2 M 2 (cpL (M 2) (40 * ja + ki) (40 * jb + kj) kn (!decide (kj ≤ ki)) kn))) 182 [some (.ref 0), some (.int (nI ja)), some (.int (nI ki)), some (.int (nI jb)), some (.int (nI kj)), some (.int (nI kn)), none, none] []
                      refine r_aload_n (pc := 182) C dX6_copy_182 rfl rfl ?_
                      refine r_iload (pc := 183) C dX6_copy_183 rfl ?_
                      refine r_callV0 (pc := 185) (As := [.int (nI kn)]) (st := []) (θ' := wM (up2 (up2 M 2 (cpL (M 2) (40 * ja + ki) (40 * jb + kj) kn (!decide (kj ≤ ki)) kn)) 3 (k1 0))) C (c_X6_well (up2 M 2 (cpL (M 2) (40 * ja + ki) (40 * jb + kj) kn (!decide (kj ≤ ki)) kn)) (nI kn)) xm_X6_well xk_X6_72 dX6_copy_185 rfl rfl rfl rfl (Nat.le_of_ble_eq_true rfl) ⟨Nat.le_of_ble_eq_true rfl, Nat.le_of_ble_eq_true rfl⟩ ⟨rfl, rfl⟩ ⟨Nat.le_of_ble_eq_true rfl, Nat.le_of_ble_eq_true rfl⟩ rfl (Eq.trans (b := 14) rfl rfl) ?_
                      show g 0 0 (wM (up2 (up2 M 2 (cpL (M 2) (40 * ja + ki) (40 * jb + kj) kn (!decide (kj ≤ ki)) kn)) 3 (k1 0))) 188 [some (.ref 0), some (.int (nI ja)), some (.int (nI ki)), some (.int (nI jb)), some (.int (nI kj)), some (.int (nI kn)), none, none] [.int (nI kn)]
                      show g 0 0 (wM (up2 (up2 M 2 (cpL (M 2) (40 * ja + ki) (40 * jb + kj) kn (!decide (kj ≤ ki)) kn)) 3 (k1 0))) 188 [some (.ref 0), some (.int (nI ja)), some (.int (nI ki)), some (.int (nI jb)), some (.int (nI kj)), some (.int (nI kn)), none, none] [.int (nI kn)]
                      have hX : copyM M (nI ja) (nI ki) (nI jb) (nI kj) (nI kn) = ((nI kn), (up2 (up2 M 2 (cpL (M 2) (40 * ja + ki) (40 * jb + kj) kn (!decide (kj ≤ ki)) kn)) 3 (k1 0))) := by
                        unfold copyM
                        (try rw [ix_nI (show ja < 2 ^ 31 by omega)])
                        (try rw [ix_nI (show jb < 2 ^ 31 by omega)])
                        (try rw [ix_nI (show ki < 2 ^ 31 by omega)])
                        (try rw [ix_nI (show kn < 2 ^ 31 by omega)])
                        (try rw [ix_nI (show kj < 2 ^ 31 by omega)])
                        rw [if_pos h_4, if_pos h_11, if_neg h_23, if_pos h_32, if_pos h_53, if_neg h_63, if_neg h_68, if_neg h_73, if_neg h_90, if_pos h_108]
                      exact E _ _ _ _ _ _ dX6_copy_188 (Nat.le_refl _) (Nat.le_refl _) rfl ⟨by rw [hX], by rw [hX]⟩
                    · skip
                      refine r_aload_n (pc := 111) C dX6_copy_111 rfl rfl ?_
                      refine r_iconst (pc := 112) (v := 2) C dX6_copy_112 (by decide) ?_
                      refine r_callV0 (pc := 113) (As := [.int 2]) (st := []) (θ' := wM (up2 M 3 (k1 2))) C (c_X6_found M 2) xm_X6_found xk_X6_68 dX6_copy_113 rfl rfl rfl rfl (Nat.le_of_ble_eq_true rfl) ⟨Nat.le_of_ble_eq_true rfl, Nat.le_of_ble_eq_true rfl⟩ ⟨rfl, rfl⟩ ⟨Nat.le_of_ble_eq_true rfl, Nat.le_of_ble_eq_true rfl⟩ rfl (Eq.trans (b := 14) rfl rfl) ?_
                      show g 0 0 (wM (up2 M 3 (k1 2))) 116 [some (.ref 0), some (.int (nI ja)), some (.int i), some (.int (nI jb)), some (.int j), some (.int n), none, none] [.int ((-1000010) - 2)]
                      show g 0 0 (wM (up2 M 3 (k1 2))) 116 [some (.ref 0), some (.int (nI ja)), some (.int i), some (.int (nI jb)), some (.int j), some (.int n), none, none] [.int ((-1000010) - 2)]
                      have hX : copyM M (nI ja) i (nI jb) j n = ((-1000010) - 2, (up2 M 3 (k1 2))) := by
                        unfold copyM
                        (try rw [ix_nI (show ja < 2 ^ 31 by omega)])
                        (try rw [ix_nI (show jb < 2 ^ 31 by omega)])
                        rw [if_pos h_4, if_pos h_11, if_neg h_23, if_pos h_32, if_pos h_53, if_neg h_63, if_neg h_68, if_neg h_73, if_neg h_90, if_neg h_108]
                      exact E _ _ _ _ _ _ dX6_copy_116 (Nat.le_refl _) (Nat.le_refl _) rfl ⟨by rw [hX], by rw [hX]⟩
          · skip
            refine r_aload_n (pc := 56) C dX6_copy_56 rfl rfl ?_
            refine r_iconst (pc := 57) (v := 5) C dX6_copy_57 (by decide) ?_
            refine r_callV0 (pc := 58) (As := [.int 5]) (st := []) (θ' := wM (up2 M 3 (k1 5))) C (c_X6_found M 5) xm_X6_found xk_X6_68 dX6_copy_58 rfl rfl rfl rfl (Nat.le_of_ble_eq_true rfl) ⟨Nat.le_of_ble_eq_true rfl, Nat.le_of_ble_eq_true rfl⟩ ⟨rfl, rfl⟩ ⟨Nat.le_of_ble_eq_true rfl, Nat.le_of_ble_eq_true rfl⟩ rfl (Eq.trans (b := 14) rfl rfl) ?_
            show g 0 0 (wM (up2 M 3 (k1 5))) 61 [some (.ref 0), some (.int (nI ja)), some (.int i), some (.int (nI jb)), some (.int j), some (.int n), none, none] [.int ((-1000010) - 5)]
            show g 0 0 (wM (up2 M 3 (k1 5))) 61 [some (.ref 0), some (.int (nI ja)), some (.int i), some (.int (nI jb)), some (.int j), some (.int n), none, none] [.int ((-1000010) - 5)]
            have hX : copyM M (nI ja) i (nI jb) j n = ((-1000010) - 5, (up2 M 3 (k1 5))) := by
              unfold copyM
              (try rw [ix_nI (show ja < 2 ^ 31 by omega)])
              (try rw [ix_nI (show jb < 2 ^ 31 by omega)])
              rw [if_pos h_4, if_pos h_11, if_neg h_23, if_pos h_32, if_neg h_53]
            exact E _ _ _ _ _ _ dX6_copy_61 (Nat.le_refl _) (Nat.le_refl _) rfl ⟨by rw [hX], by rw [hX]⟩
        · skip
          refine r_aload_n (pc := 35) C dX6_copy_35 rfl rfl ?_
          refine r_iconst (pc := 36) (v := 1) C dX6_copy_36 (by decide) ?_
          refine r_callV0 (pc := 37) (As := [.int 1]) (st := []) (θ' := wM (up2 M 3 (k1 1))) C (c_X6_found M 1) xm_X6_found xk_X6_68 dX6_copy_37 rfl rfl rfl rfl (Nat.le_of_ble_eq_true rfl) ⟨Nat.le_of_ble_eq_true rfl, Nat.le_of_ble_eq_true rfl⟩ ⟨rfl, rfl⟩ ⟨Nat.le_of_ble_eq_true rfl, Nat.le_of_ble_eq_true rfl⟩ rfl (Eq.trans (b := 14) rfl rfl) ?_
          show g 0 0 (wM (up2 M 3 (k1 1))) 40 [some (.ref 0), some (.int (nI ja)), some (.int i), some (.int (nI jb)), some (.int j), some (.int n), none, none] [.int ((-1000010) - 1)]
          show g 0 0 (wM (up2 M 3 (k1 1))) 40 [some (.ref 0), some (.int (nI ja)), some (.int i), some (.int (nI jb)), some (.int j), some (.int n), none, none] [.int ((-1000010) - 1)]
          have hX : copyM M (nI ja) i (nI jb) j n = ((-1000010) - 1, (up2 M 3 (k1 1))) := by
            unfold copyM
            (try rw [ix_nI (show ja < 2 ^ 31 by omega)])
            (try rw [ix_nI (show jb < 2 ^ 31 by omega)])
            rw [if_pos h_4, if_pos h_11, if_neg h_23, if_neg h_32]
          exact E _ _ _ _ _ _ dX6_copy_40 (Nat.le_refl _) (Nat.le_refl _) rfl ⟨by rw [hX], by rw [hX]⟩
    · replace h_11 := bB_f h_11
      refine r_ldc (pc := 14) (v := (-1000001)) C dX6_copy_14 tw_668 ?_
      show g 0 0 (wM M) 16 [some (.ref 0), some (.int (nI ja)), some (.int i), some (.int b), some (.int j), some (.int n), none, none] [.int (-1000001)]
      have hX : copyM M (nI ja) i b j n = ((-1000001), M) := by
        unfold copyM
        (try rw [ix_nI (show ja < 2 ^ 31 by omega)])
        rw [if_pos h_4, if_neg (nbt h_11)]
      exact E _ _ _ _ _ _ dX6_copy_16 (Nat.le_refl _) (Nat.le_refl _) rfl ⟨by rw [hX], by rw [hX]⟩
theorem okT {M : Nat → Nat → Int32} {z : Nat} {t : Nat → Int32} (hM : okM M z) (h : ∀ k, k < 10 ∨ (28 ≤ k ∧ k < 34) → t k = M 4 k) : t 0 = nI z ∧ okWM (vw t) ∧ ∀ i, i < z → okK (vw t) i := by
  obtain ⟨h1, h2, h3, h4⟩ := hM
  refine ⟨by rw [h 0 (by omega)]; exact h1, fun i hi => ?_, fun i hi => ?_⟩
  · obtain ⟨u, hu, e⟩ := h3 i hi
    refine ⟨u, hu, ?_⟩
    rw [← e]
    exact h (28 + i) (by omega)
  · have := h4 i hi
    unfold okK at this ⊢
    rw [show vw t 0 i = vw (M 4) 0 i from h (4 + i) (by omega)]
    exact this
theorem cpy36 {f u : Nat → Int32} {k : Nat} (h : k < 36) : va_cpy f u 0 0 36 k = f k := by
  unfold va_cpy
  rw [if_pos (by omega), show 0 + (k - 0) = k by omega]
theorem upd_ne {f : Nat → Int32} {k q : Nat} {x : Int32} (h : q ≠ k) : upd f k x q = f q := if_neg h
def stA (M : Nat → Nat → Int32) : Nat → Nat → Int32
  | 0 => M 6
  | c + 1 => upd (va_cpy (M 4) (stA M c) 0 0 36) 34 (M 4 34 ||| (1 <<< (nI c &&& 31)))
noncomputable def stAT : (Nat → Nat → Int32) → Nat → Nat → Int32 := Classical.choose (seal_ex stA)
theorem stAT_eq : stAT = stA := Classical.choose_spec (seal_ex stA)
theorem stA_s {M : Nat → Nat → Int32} {c : Nat} : upd (va_cpy (M 4) (stAT M c) 0 0 36) 34 (M 4 34 ||| (1 <<< (nI c &&& 31))) = stAT M (c + 1) := by rw [stAT_eq]; rfl
theorem stA_0 {M : Nat → Nat → Int32} : stAT M 0 = M 6 := by rw [stAT_eq]; rfl
theorem stA_k {M : Nat → Nat → Int32} {c k : Nat} (h : k < 36) (h2 : k ≠ 34) : stAT M (c + 1) k = M 4 k := by
  rw [stAT_eq]
  show upd _ 34 _ k = _
  rw [upd_ne h2, cpy36 h]
theorem stA_34 {M : Nat → Nat → Int32} {c : Nat} : stAT M (c + 1) 34 = M 4 34 ||| (1 <<< (nI c &&& 31)) := by
  rw [stAT_eq]
  show upd _ 34 _ 34 = _
  exact if_pos rfl
theorem or_zero (x : Int32) : x ||| 0 = x := Int32.or_zero
theorem gt_nle {x y : Int32} (h : x < y) : (y ≤ x) = False := by simp only [← Int32.not_lt, h, not_true_eq_false]
theorem le_nlt {x y : Int32} (h : x ≤ y) : (y < x) = False := by
  have := Int32.not_lt.mpr h
  simp only [this]
set_option maxHeartbeats 4000000 in
set_option maxRecDepth 100000 in
theorem lp_X6_stops (M : Nat → Nat → Int32) (z : Nat) (hM : okM M z) (ia ib jd : Nat) (hia : ia < z) (hib : ib < z) (hso : soonT (vw (M 4)) z (nI ia) (nI ib) ≤ nI jd) {g : Nat → Nat → List xE → Nat → List (Option Value) → List Value → Prop} (C : Sem cX6_stops RX6 "stops" 6 rmX6_stops g) (E : xEi g cX6_stops .int 0 0 (fun vr wr => vr = some (.int (bitsS (fun c => !decide (c = ia) && (!decide (c = ib) && decide (nI jd < soonT (vw (stAT M (c + 1))) z (nI ia) (nI ib)))) z)) ∧ wr = wM (up2 M 6 (stAT M z)))) : ∀ (n : Nat) (c : Nat), c + n = z → g 0 0 (wM (up2 M 6 (stAT M c))) 37 [some (.ref 0), some (.int (nI ia)), some (.int (nI ib)), some (.int (nI jd)), some (.int (bitsS (fun c => !decide (c = ia) && (!decide (c = ib) && decide (nI jd < soonT (vw (stAT M (c + 1))) z (nI ia) (nI ib)))) c)), some (.int (nI c))] [] := by
  intro n
  induction n with
  | zero =>
    intro c hc
    have hz6 := hM.2.1
    obtain rfl : c = z := by omega
    refine r_iload (pc := 37) C dX6_stops_37 rfl ?_
    refine r_aload_n (pc := 39) C dX6_stops_39 rfl rfl ?_
    refine r_getfield (pc := 40) (v := .ref 4) C xf_X6_19 dX6_stops_40 rfl rfl ?_
    refine r_iconst (pc := 43) (v := 0) C dX6_stops_43 (by decide) ?_
    refine r_iaload (pc := 44) (v := M 4 0) C 0 dX6_stops_44 rfl (by decide) (by decide) rfl ?_
    refine r_icmp_ge (pc := 45) (tgt := 123) C dX6_stops_45 (by decide) (fun _ => ?_) (fun h => absurd (by rw [hM.1]; exact nI_le (by omega) (by omega)) h)
    refine r_iload (pc := 123) C dX6_stops_123 rfl ?_
    exact E _ _ _ _ _ _ dX6_stops_125 (Nat.le_refl _) (Nat.le_refl _) rfl ⟨rfl, rfl⟩
  | succ n ih =>
    intro c hc
    have hz6 := hM.2.1
    refine r_iload (pc := 37) C dX6_stops_37 rfl ?_
    refine r_aload_n (pc := 39) C dX6_stops_39 rfl rfl ?_
    refine r_getfield (pc := 40) (v := .ref 4) C xf_X6_19 dX6_stops_40 rfl rfl ?_
    refine r_iconst (pc := 43) (v := 0) C dX6_stops_43 (by decide) ?_
    refine r_iaload (pc := 44) (v := M 4 0) C 0 dX6_stops_44 rfl (by decide) (by decide) rfl ?_
    refine r_icmp_ge (pc := 45) (tgt := 123) C dX6_stops_45 (by decide) (fun h => absurd h (by rw [hM.1]; exact nI_ge (by omega) (by omega))) (fun _ => ?_)
    refine r_aload_n (pc := 48) C dX6_stops_48 rfl rfl ?_
    refine r_getfield (pc := 49) (v := .ref 4) C xf_X6_19 dX6_stops_49 rfl rfl ?_
    refine r_iload_n (pc := 52) C dX6_stops_52 rfl rfl ?_
    refine r_iload_n (pc := 53) C dX6_stops_53 rfl rfl ?_
    refine r_callSD (pc := 54) (As := [.ref 4, .int (nI ia), .int (nI ib)]) (st := []) (θ2 := wM (up2 M 6 (stAT M c))) (r2 := some (.int (soonT (vw (M 4)) z (nI ia) (nI ib)))) C [4] (c_X6_soonestT (M 4) (nI ib) (nI ia) hM.2.2.1 z hM.1 hM.2.1 hM.2.2.2) xm_X6_soonestOf xk_X6_195 dX6_stops_54 rfl (by decide) rfl rfl rfl (Nat.le_of_ble_eq_true rfl) ⟨Nat.le_of_ble_eq_true rfl, Nat.le_of_ble_eq_true rfl⟩ ⟨rfl, rfl⟩ ⟨Nat.le_of_ble_eq_true rfl, Nat.le_of_ble_eq_true rfl⟩ rfl (Eq.trans (b := 1) rfl rfl) rfl rfl ?_
    show g 0 0 (wM (up2 M 6 (stAT M c))) 57 [some (.ref 0), some (.int (nI ia)), some (.int (nI ib)), some (.int (nI jd)), some (.int (bitsS (fun c => !decide (c = ia) && (!decide (c = ib) && decide (nI jd < soonT (vw (stAT M (c + 1))) z (nI ia) (nI ib)))) c)), some (.int (nI c))] [.int (soonT (vw (M 4)) z (nI ia) (nI ib))]
    refine r_iload_n (pc := 57) C dX6_stops_57 rfl rfl ?_
    refine r_icmp_gt (pc := 58) (tgt := 123) C dX6_stops_58 (by decide) (fun h => absurd h (Int32.not_lt.mpr hso)) (fun _ => ?_)
    refine r_aload_n (pc := 61) C dX6_stops_61 rfl rfl ?_
    refine r_callV0 (pc := 62) (As := []) (st := []) (θ' := wM (up2 M 6 (va_cpy (M 4) (stAT M c) 0 0 36))) C (c_X6_layAside (up2 M 6 (stAT M c))) xm_X6_layAside xk_X6_204 dX6_stops_62 rfl rfl rfl rfl (Nat.le_of_ble_eq_true rfl) ⟨Nat.le_of_ble_eq_true rfl, Nat.le_of_ble_eq_true rfl⟩ ⟨rfl, rfl⟩ ⟨Nat.le_of_ble_eq_true rfl, Nat.le_of_ble_eq_true rfl⟩ rfl (Eq.trans (b := 14) rfl rfl) ?_
    show g 0 0 (wM (up2 M 6 (va_cpy (M 4) (stAT M c) 0 0 36))) 65 [some (.ref 0), some (.int (nI ia)), some (.int (nI ib)), some (.int (nI jd)), some (.int (bitsS (fun c => !decide (c = ia) && (!decide (c = ib) && decide (nI jd < soonT (vw (stAT M (c + 1))) z (nI ia) (nI ib)))) c)), some (.int (nI c))] []
    refine r_aload_n (pc := 65) C dX6_stops_65 rfl rfl ?_
    refine r_getfield (pc := 66) (v := .ref 6) C xf_X6_25 dX6_stops_66 rfl rfl ?_
    refine r_bipush (pc := 69) (v := 34) C dX6_stops_69 (by decide) ?_
    refine r_dup2_11 (pc := 71) C dX6_stops_71 rfl rfl ?_
    refine r_iaload (pc := 72) (v := M 4 34) C 34 dX6_stops_72 rfl (by decide) (by decide) (show va_cpy (M 4) (stAT M c) 0 0 36 34 = M 4 34 from cpy36 (by decide)) ?_
    refine r_iconst (pc := 73) (v := 1) C dX6_stops_73 (by decide) ?_
    refine r_iload (pc := 74) C dX6_stops_74 rfl ?_
    refine r_ishl (pc := 76) C dX6_stops_76 ?_
    refine r_ior (pc := 77) C dX6_stops_77 ?_
    refine r_iastore (pc := 78) (θ' := wM (up2 M 6 (stAT M (c + 1)))) C 34 dX6_stops_78 rfl (by decide) (by decide) (by rw [← stA_s]; rfl) ?_
    refine r_iload (pc := 79) C dX6_stops_79 rfl ?_
    refine r_iload (pc := 81) C dX6_stops_81 rfl ?_
    refine r_iload_n (pc := 83) C dX6_stops_83 rfl rfl ?_
    refine r_icmp_eq (pc := 84) (tgt := 113) C dX6_stops_84 (by decide) (fun h_84 => ?_) (fun h_84 => ?_)
    · skip
      replace h_84 := (nI_eq (by omega) (by omega)).mp h_84
      refine r_iconst (pc := 113) (v := 0) C dX6_stops_113 (by decide) ?_
      refine r_ior (pc := 114) C dX6_stops_114 ?_
      refine r_istore (pc := 115) (lv' := [some (.ref 0), some (.int (nI ia)), some (.int (nI ib)), some (.int (nI jd)), some (.int ((bitsS (fun c => !decide (c = ia) && (!decide (c = ib) && decide (nI jd < soonT (vw (stAT M (c + 1))) z (nI ia) (nI ib)))) c) ||| 0)), some (.int (nI c))]) C dX6_stops_115 (Nat.le_of_ble_eq_true rfl) trivial rfl ?_
      refine r_iinc (pc := 117) (v := nI (c + 1)) (lv' := [some (.ref 0), some (.int (nI ia)), some (.int (nI ib)), some (.int (nI jd)), some (.int ((bitsS (fun c => !decide (c = ia) && (!decide (c = ib) && decide (nI jd < soonT (vw (stAT M (c + 1))) z (nI ia) (nI ib)))) c) ||| 0)), some (.int (nI (c + 1)))]) C dX6_stops_117 rfl (nI_1 c) trivial rfl ?_
      refine r_goto (pc := 120) (tgt := 37) C dX6_stops_120 (by decide) ?_
      show g 0 0 (wM (up2 M 6 (stAT M (c + 1)))) 37 [some (.ref 0), some (.int (nI ia)), some (.int (nI ib)), some (.int (nI jd)), some (.int ((bitsS (fun c => !decide (c = ia) && (!decide (c = ib) && decide (nI jd < soonT (vw (stAT M (c + 1))) z (nI ia) (nI ib)))) c) ||| 0)), some (.int (nI (c + 1)))] []
      rw [show ((bitsS (fun c => !decide (c = ia) && (!decide (c = ib) && decide (nI jd < soonT (vw (stAT M (c + 1))) z (nI ia) (nI ib)))) c) ||| 0 : Int32) = bitsS (fun c => !decide (c = ia) && (!decide (c = ib) && decide (nI jd < soonT (vw (stAT M (c + 1))) z (nI ia) (nI ib)))) (c + 1) from by simp only [bitsS, h_84, decide_true, decide_false, Bool.not_true, Bool.not_false, Bool.true_and, Bool.false_and, Bool.and_true, Bool.and_false, Bool.false_eq_true, if_true, if_false, eq_self, or_zero]]
      exact ih (c + 1) (by omega)
    · skip
      replace h_84 : ¬ c = ia := fun q => h_84 (congrArg nI q)
      refine r_iload (pc := 87) C dX6_stops_87 rfl ?_
      refine r_iload_n (pc := 89) C dX6_stops_89 rfl rfl ?_
      refine r_icmp_eq (pc := 90) (tgt := 113) C dX6_stops_90 (by decide) (fun h_90 => ?_) (fun h_90 => ?_)
      · skip
        replace h_90 := (nI_eq (by omega) (by omega)).mp h_90
        refine r_iconst (pc := 113) (v := 0) C dX6_stops_113 (by decide) ?_
        refine r_ior (pc := 114) C dX6_stops_114 ?_
        refine r_istore (pc := 115) (lv' := [some (.ref 0), some (.int (nI ia)), some (.int (nI ib)), some (.int (nI jd)), some (.int ((bitsS (fun c => !decide (c = ia) && (!decide (c = ib) && decide (nI jd < soonT (vw (stAT M (c + 1))) z (nI ia) (nI ib)))) c) ||| 0)), some (.int (nI c))]) C dX6_stops_115 (Nat.le_of_ble_eq_true rfl) trivial rfl ?_
        refine r_iinc (pc := 117) (v := nI (c + 1)) (lv' := [some (.ref 0), some (.int (nI ia)), some (.int (nI ib)), some (.int (nI jd)), some (.int ((bitsS (fun c => !decide (c = ia) && (!decide (c = ib) && decide (nI jd < soonT (vw (stAT M (c + 1))) z (nI ia) (nI ib)))) c) ||| 0)), some (.int (nI (c + 1)))]) C dX6_stops_117 rfl (nI_1 c) trivial rfl ?_
        refine r_goto (pc := 120) (tgt := 37) C dX6_stops_120 (by decide) ?_
        show g 0 0 (wM (up2 M 6 (stAT M (c + 1)))) 37 [some (.ref 0), some (.int (nI ia)), some (.int (nI ib)), some (.int (nI jd)), some (.int ((bitsS (fun c => !decide (c = ia) && (!decide (c = ib) && decide (nI jd < soonT (vw (stAT M (c + 1))) z (nI ia) (nI ib)))) c) ||| 0)), some (.int (nI (c + 1)))] []
        rw [show ((bitsS (fun c => !decide (c = ia) && (!decide (c = ib) && decide (nI jd < soonT (vw (stAT M (c + 1))) z (nI ia) (nI ib)))) c) ||| 0 : Int32) = bitsS (fun c => !decide (c = ia) && (!decide (c = ib) && decide (nI jd < soonT (vw (stAT M (c + 1))) z (nI ia) (nI ib)))) (c + 1) from by simp only [bitsS, h_84, h_90, decide_true, decide_false, Bool.not_true, Bool.not_false, Bool.true_and, Bool.false_and, Bool.and_true, Bool.and_false, Bool.false_eq_true, if_true, if_false, eq_self, or_zero]]
        exact ih (c + 1) (by omega)
      · skip
        replace h_90 : ¬ c = ib := fun q => h_90 (congrArg nI q)
        refine r_aload_n (pc := 93) C dX6_stops_93 rfl rfl ?_
        refine r_getfield (pc := 94) (v := .ref 6) C xf_X6_25 dX6_stops_94 rfl rfl ?_
        refine r_iload_n (pc := 97) C dX6_stops_97 rfl rfl ?_
        refine r_iload_n (pc := 98) C dX6_stops_98 rfl rfl ?_
        refine r_callSD (pc := 99) (As := [.ref 6, .int (nI ia), .int (nI ib)]) (st := [.int (bitsS (fun c => !decide (c = ia) && (!decide (c = ib) && decide (nI jd < soonT (vw (stAT M (c + 1))) z (nI ia) (nI ib)))) c)]) (θ2 := wM (up2 M 6 (stAT M (c + 1)))) (r2 := some (.int (soonT (vw (stAT M (c + 1))) z (nI ia) (nI ib)))) C [6] (c_X6_soonestT (stAT M (c + 1)) (nI ib) (nI ia) (okT hM (t := stAT M (c + 1)) (fun k hk => stA_k (by omega) (by omega))).2.1 z (okT hM (t := stAT M (c + 1)) (fun k hk => stA_k (by omega) (by omega))).1 hM.2.1 (okT hM (t := stAT M (c + 1)) (fun k hk => stA_k (by omega) (by omega))).2.2) xm_X6_soonestOf xk_X6_195 dX6_stops_99 rfl (by decide) rfl rfl rfl (Nat.le_of_ble_eq_true rfl) ⟨Nat.le_of_ble_eq_true rfl, Nat.le_of_ble_eq_true rfl⟩ ⟨rfl, rfl⟩ ⟨Nat.le_of_ble_eq_true rfl, Nat.le_of_ble_eq_true rfl⟩ rfl (Eq.trans (b := 1) rfl rfl) rfl rfl ?_
        show g 0 0 (wM (up2 M 6 (stAT M (c + 1)))) 102 [some (.ref 0), some (.int (nI ia)), some (.int (nI ib)), some (.int (nI jd)), some (.int (bitsS (fun c => !decide (c = ia) && (!decide (c = ib) && decide (nI jd < soonT (vw (stAT M (c + 1))) z (nI ia) (nI ib)))) c)), some (.int (nI c))] [.int (soonT (vw (stAT M (c + 1))) z (nI ia) (nI ib)), .int (bitsS (fun c => !decide (c = ia) && (!decide (c = ib) && decide (nI jd < soonT (vw (stAT M (c + 1))) z (nI ia) (nI ib)))) c)]
        refine r_iload_n (pc := 102) C dX6_stops_102 rfl rfl ?_
        refine r_icmp_le (pc := 103) (tgt := 113) C dX6_stops_103 (by decide) (fun h_103 => ?_) (fun h_103 => ?_)
        · skip
          refine r_iconst (pc := 113) (v := 0) C dX6_stops_113 (by decide) ?_
          refine r_ior (pc := 114) C dX6_stops_114 ?_
          refine r_istore (pc := 115) (lv' := [some (.ref 0), some (.int (nI ia)), some (.int (nI ib)), some (.int (nI jd)), some (.int ((bitsS (fun c => !decide (c = ia) && (!decide (c = ib) && decide (nI jd < soonT (vw (stAT M (c + 1))) z (nI ia) (nI ib)))) c) ||| 0)), some (.int (nI c))]) C dX6_stops_115 (Nat.le_of_ble_eq_true rfl) trivial rfl ?_
          refine r_iinc (pc := 117) (v := nI (c + 1)) (lv' := [some (.ref 0), some (.int (nI ia)), some (.int (nI ib)), some (.int (nI jd)), some (.int ((bitsS (fun c => !decide (c = ia) && (!decide (c = ib) && decide (nI jd < soonT (vw (stAT M (c + 1))) z (nI ia) (nI ib)))) c) ||| 0)), some (.int (nI (c + 1)))]) C dX6_stops_117 rfl (nI_1 c) trivial rfl ?_
          refine r_goto (pc := 120) (tgt := 37) C dX6_stops_120 (by decide) ?_
          show g 0 0 (wM (up2 M 6 (stAT M (c + 1)))) 37 [some (.ref 0), some (.int (nI ia)), some (.int (nI ib)), some (.int (nI jd)), some (.int ((bitsS (fun c => !decide (c = ia) && (!decide (c = ib) && decide (nI jd < soonT (vw (stAT M (c + 1))) z (nI ia) (nI ib)))) c) ||| 0)), some (.int (nI (c + 1)))] []
          rw [show ((bitsS (fun c => !decide (c = ia) && (!decide (c = ib) && decide (nI jd < soonT (vw (stAT M (c + 1))) z (nI ia) (nI ib)))) c) ||| 0 : Int32) = bitsS (fun c => !decide (c = ia) && (!decide (c = ib) && decide (nI jd < soonT (vw (stAT M (c + 1))) z (nI ia) (nI ib)))) (c + 1) from by simp only [bitsS, h_84, h_90, le_nlt h_103, decide_true, decide_false, Bool.not_true, Bool.not_false, Bool.true_and, Bool.false_and, Bool.and_true, Bool.and_false, Bool.false_eq_true, if_true, if_false, eq_self, or_zero]]
          exact ih (c + 1) (by omega)
        · skip
          refine r_iconst (pc := 106) (v := 1) C dX6_stops_106 (by decide) ?_
          refine r_iload (pc := 107) C dX6_stops_107 rfl ?_
          refine r_ishl (pc := 109) C dX6_stops_109 ?_
          refine r_goto (pc := 110) (tgt := 114) C dX6_stops_110 (by decide) ?_
          refine r_ior (pc := 114) C dX6_stops_114 ?_
          refine r_istore (pc := 115) (lv' := [some (.ref 0), some (.int (nI ia)), some (.int (nI ib)), some (.int (nI jd)), some (.int ((bitsS (fun c => !decide (c = ia) && (!decide (c = ib) && decide (nI jd < soonT (vw (stAT M (c + 1))) z (nI ia) (nI ib)))) c) ||| (1 <<< ((nI c) &&& 31)))), some (.int (nI c))]) C dX6_stops_115 (Nat.le_of_ble_eq_true rfl) trivial rfl ?_
          refine r_iinc (pc := 117) (v := nI (c + 1)) (lv' := [some (.ref 0), some (.int (nI ia)), some (.int (nI ib)), some (.int (nI jd)), some (.int ((bitsS (fun c => !decide (c = ia) && (!decide (c = ib) && decide (nI jd < soonT (vw (stAT M (c + 1))) z (nI ia) (nI ib)))) c) ||| (1 <<< ((nI c) &&& 31)))), some (.int (nI (c + 1)))]) C dX6_stops_117 rfl (nI_1 c) trivial rfl ?_
          refine r_goto (pc := 120) (tgt := 37) C dX6_stops_120 (by decide) ?_
          show g 0 0 (wM (up2 M 6 (stAT M (c + 1)))) 37 [some (.ref 0), some (.int (nI ia)), some (.int (nI ib)), some (.int (nI jd)), some (.int ((bitsS (fun c => !decide (c = ia) && (!decide (c = ib) && decide (nI jd < soonT (vw (stAT M (c + 1))) z (nI ia) (nI ib)))) c) ||| (1 <<< ((nI c) &&& 31)))), some (.int (nI (c + 1)))] []
          rw [show ((bitsS (fun c => !decide (c = ia) && (!decide (c = ib) && decide (nI jd < soonT (vw (stAT M (c + 1))) z (nI ia) (nI ib)))) c) ||| (1 <<< ((nI c) &&& 31)) : Int32) = bitsS (fun c => !decide (c = ia) && (!decide (c = ib) && decide (nI jd < soonT (vw (stAT M (c + 1))) z (nI ia) (nI ib)))) (c + 1) from by simp only [bitsS, h_84, h_90, Int32.not_le.mp h_103, decide_true, decide_false, Bool.not_true, Bool.not_false, Bool.true_and, Bool.false_and, Bool.and_true, Bool.and_false, Bool.false_eq_true, if_true, if_false, eq_self, or_zero]]
          exact ih (c + 1) (by omega)
noncomputable def stopsM (M : Nat → Nat → Int32) (z : Nat) (a b d : Int32) : Int32 × (Nat → Nat → Int32) := (if (inI a 0 (M 4 0 - 1)) = true then (if (inI b 0 (M 4 0 - 1)) = true then (if a = b then ((-1000001), M) else (if (inI d 0 60) = true then (if soonT (vw (M 4)) z a b ≤ d then (bitsS (fun c => !decide (c = (ix a)) && (!decide (c = (ix b)) && decide (d < soonT (vw (stAT M (c + 1))) z a b))) z, (up2 M 6 (stAT M z))) else (0, M)) else ((-1000001), M))) else ((-1000001), M)) else ((-1000001), M))
set_option maxHeartbeats 4000000 in
set_option maxRecDepth 100000 in
theorem c_X6_stops (M : Nat → Nat → Int32) (a b d : Int32) (z : Nat) (hM : okM M z) : MetA yX6_stops (.code yX6_stops cX6_stops 6 (some .int) :: TT) rmX6_stops [.ref 0, .int a, .int b, .int d] (wM M) (fun vr wr => vr = some (.int (stopsM M z a b d).1) ∧ wr = wM (stopsM M z a b d).2) 0 0 := by
  refine MetA.of_i (by decide) (fun _ => Nat.le_of_ble_eq_true rfl) (Nat.le_of_ble_eq_true rfl) (fun g C E => ?_)
  replace C : Sem cX6_stops RX6 "stops" 6 rmX6_stops g := C
  show g 0 0 (wM M) 0 [some (.ref 0), some (.int a), some (.int b), some (.int d), none, none] []
  refine r_aload_n (pc := 0) C dX6_stops_0 rfl rfl ?_
  refine r_iload_n (pc := 1) C dX6_stops_1 rfl rfl ?_
  refine r_callV0 (pc := 2) (As := [.int a]) (st := []) (θ' := wM M) C (c_X6_isHammock M a) xm_X6_isHammock xk_X6_181 dX6_stops_2 rfl rfl rfl rfl (Nat.le_of_ble_eq_true rfl) ⟨Nat.le_of_ble_eq_true rfl, Nat.le_of_ble_eq_true rfl⟩ ⟨rfl, rfl⟩ ⟨Nat.le_of_ble_eq_true rfl, Nat.le_of_ble_eq_true rfl⟩ rfl (Eq.trans (b := 14) rfl rfl) ?_
  show g 0 0 (wM M) 5 [some (.ref 0), some (.int a), some (.int b), some (.int d), none, none] [.int (bB (inI a 0 (M 4 0 - 1)))]
  refine r_if_eq (pc := 5) (tgt := 28) C dX6_stops_5 (by decide) (fun h_5 => ?_) (fun h_5 => ?_)
  · replace h_5 := bB_f h_5
    refine r_ldc (pc := 28) (v := (-1000001)) C dX6_stops_28 tw_668 ?_
    show g 0 0 (wM M) 30 [some (.ref 0), some (.int a), some (.int b), some (.int d), none, none] [.int (-1000001)]
    have hX : stopsM M z a b d = ((-1000001), M) := by
      unfold stopsM
      rw [if_neg (nbt h_5)]
    exact E _ _ _ _ _ _ dX6_stops_30 (Nat.le_refl _) (Nat.le_refl _) rfl ⟨by rw [hX], by rw [hX]⟩
  · replace h_5 := bB_t h_5
    obtain ⟨ia, hia, rfl⟩ := in_ex hM.1 hM.2.1 h_5
    have hia6 : ia < 6 := by have := hM.2.1; omega
    have hz6 := hM.2.1
    refine r_aload_n (pc := 8) C dX6_stops_8 rfl rfl ?_
    refine r_iload_n (pc := 9) C dX6_stops_9 rfl rfl ?_
    refine r_callV0 (pc := 10) (As := [.int b]) (st := []) (θ' := wM M) C (c_X6_isHammock M b) xm_X6_isHammock xk_X6_181 dX6_stops_10 rfl rfl rfl rfl (Nat.le_of_ble_eq_true rfl) ⟨Nat.le_of_ble_eq_true rfl, Nat.le_of_ble_eq_true rfl⟩ ⟨rfl, rfl⟩ ⟨Nat.le_of_ble_eq_true rfl, Nat.le_of_ble_eq_true rfl⟩ rfl (Eq.trans (b := 14) rfl rfl) ?_
    show g 0 0 (wM M) 13 [some (.ref 0), some (.int (nI ia)), some (.int b), some (.int d), none, none] [.int (bB (inI b 0 (M 4 0 - 1)))]
    refine r_if_eq (pc := 13) (tgt := 28) C dX6_stops_13 (by decide) (fun h_13 => ?_) (fun h_13 => ?_)
    · replace h_13 := bB_f h_13
      refine r_ldc (pc := 28) (v := (-1000001)) C dX6_stops_28 tw_668 ?_
      show g 0 0 (wM M) 30 [some (.ref 0), some (.int (nI ia)), some (.int b), some (.int d), none, none] [.int (-1000001)]
      have hX : stopsM M z (nI ia) b d = ((-1000001), M) := by
        unfold stopsM
        (try rw [ix_nI (show ia < 2 ^ 31 by omega)])
        rw [if_pos h_5, if_neg (nbt h_13)]
      exact E _ _ _ _ _ _ dX6_stops_30 (Nat.le_refl _) (Nat.le_refl _) rfl ⟨by rw [hX], by rw [hX]⟩
    · replace h_13 := bB_t h_13
      obtain ⟨ib, hib, rfl⟩ := in_ex hM.1 hM.2.1 h_13
      have hib6 : ib < 6 := by have := hM.2.1; omega
      have hz6 := hM.2.1
      refine r_iload_n (pc := 16) C dX6_stops_16 rfl rfl ?_
      refine r_iload_n (pc := 17) C dX6_stops_17 rfl rfl ?_
      refine r_icmp_eq (pc := 18) (tgt := 28) C dX6_stops_18 (by decide) (fun h_18 => ?_) (fun h_18 => ?_)
      · skip
        refine r_ldc (pc := 28) (v := (-1000001)) C dX6_stops_28 tw_668 ?_
        show g 0 0 (wM M) 30 [some (.ref 0), some (.int (nI ia)), some (.int (nI ib)), some (.int d), none, none] [.int (-1000001)]
        have hX : stopsM M z (nI ia) (nI ib) d = ((-1000001), M) := by
          unfold stopsM
          (try rw [ix_nI (show ia < 2 ^ 31 by omega)])
          (try rw [ix_nI (show ib < 2 ^ 31 by omega)])
          rw [if_pos h_5, if_pos h_13, if_pos h_18]
        exact E _ _ _ _ _ _ dX6_stops_30 (Nat.le_refl _) (Nat.le_refl _) rfl ⟨by rw [hX], by rw [hX]⟩
      · skip
        refine r_iload_n (pc := 21) C dX6_stops_21 rfl rfl ?_
        refine r_callS0 (pc := 22) (As := [.int d]) (st := []) C (c_X6_isSpan d) xm_X6_isSpan xk_X6_191 dX6_stops_22 (fun _ => rfl) (fun _ => rfl) rfl rfl (Nat.le_of_ble_eq_true rfl) ⟨Nat.le_of_ble_eq_true rfl, Nat.le_of_ble_eq_true rfl⟩ ⟨rfl, rfl⟩ ⟨Nat.le_of_ble_eq_true rfl, Nat.le_of_ble_eq_true rfl⟩ rfl ?_
        show g 0 0 (wM M) 25 [some (.ref 0), some (.int (nI ia)), some (.int (nI ib)), some (.int d), none, none] [.int (bB (inI d 0 60))]
        refine r_if_ne (pc := 25) (tgt := 31) C dX6_stops_25 (by decide) (fun h_25 => ?_) (fun h_25 => ?_)
        · replace h_25 := bB_t h_25
          obtain ⟨jd, hjd, rfl⟩ := sp_ex h_25
          refine r_iconst (pc := 31) (v := 0) C dX6_stops_31 (by decide) ?_
          refine r_istore (pc := 32) (lv' := [some (.ref 0), some (.int (nI ia)), some (.int (nI ib)), some (.int (nI jd)), some (.int 0), none]) C dX6_stops_32 (Nat.le_of_ble_eq_true rfl) trivial rfl ?_
          refine r_iconst (pc := 34) (v := 0) C dX6_stops_34 (by decide) ?_
          refine r_istore (pc := 35) (lv' := [some (.ref 0), some (.int (nI ia)), some (.int (nI ib)), some (.int (nI jd)), some (.int 0), some (.int 0)]) C dX6_stops_35 (Nat.le_of_ble_eq_true rfl) trivial rfl ?_
          show g 0 0 (wM M) 37 [some (.ref 0), some (.int (nI ia)), some (.int (nI ib)), some (.int (nI jd)), some (.int 0), some (.int 0)] []
          by_cases hso : soonT (vw (M 4)) z (nI ia) (nI ib) ≤ nI jd
          · skip
            have hX : stopsM M z (nI ia) (nI ib) (nI jd) = (bitsS (fun c => !decide (c = ia) && (!decide (c = ib) && decide (nI jd < soonT (vw (stAT M (c + 1))) z (nI ia) (nI ib)))) z, (up2 M 6 (stAT M z))) := by
              unfold stopsM
              (try rw [ix_nI (show ia < 2 ^ 31 by omega)])
              (try rw [ix_nI (show ib < 2 ^ 31 by omega)])
              (try rw [ix_nI (show jd < 2 ^ 31 by omega)])
              rw [if_pos h_5, if_pos h_13, if_neg h_18, if_pos h_25, if_pos hso]
            rw [hX] at E
            have h0 := lp_X6_stops M z hM ia ib jd hia hib hso C E z 0 (by omega)
            rw [stA_0] at h0
            exact h0
          · skip
            refine r_iload (pc := 37) C dX6_stops_37 rfl ?_
            refine r_aload_n (pc := 39) C dX6_stops_39 rfl rfl ?_
            refine r_getfield (pc := 40) (v := .ref 4) C xf_X6_19 dX6_stops_40 rfl rfl ?_
            refine r_iconst (pc := 43) (v := 0) C dX6_stops_43 (by decide) ?_
            refine r_iaload (pc := 44) (v := M 4 0) C 0 dX6_stops_44 rfl (by decide) (by decide) rfl ?_
            refine r_icmp_ge (pc := 45) (tgt := 123) C dX6_stops_45 (by decide) (fun h => absurd h (by rw [hM.1]; exact nI_ge (b := z) (a := 0) (by omega) (by omega))) (fun _ => ?_)
            refine r_aload_n (pc := 48) C dX6_stops_48 rfl rfl ?_
            refine r_getfield (pc := 49) (v := .ref 4) C xf_X6_19 dX6_stops_49 rfl rfl ?_
            refine r_iload_n (pc := 52) C dX6_stops_52 rfl rfl ?_
            refine r_iload_n (pc := 53) C dX6_stops_53 rfl rfl ?_
            refine r_callSD (pc := 54) (As := [.ref 4, .int (nI ia), .int (nI ib)]) (st := []) (θ2 := wM M) (r2 := some (.int (soonT (vw (M 4)) z (nI ia) (nI ib)))) C [4] (c_X6_soonestT (M 4) (nI ib) (nI ia) hM.2.2.1 z hM.1 hM.2.1 hM.2.2.2) xm_X6_soonestOf xk_X6_195 dX6_stops_54 rfl (by decide) rfl rfl rfl (Nat.le_of_ble_eq_true rfl) ⟨Nat.le_of_ble_eq_true rfl, Nat.le_of_ble_eq_true rfl⟩ ⟨rfl, rfl⟩ ⟨Nat.le_of_ble_eq_true rfl, Nat.le_of_ble_eq_true rfl⟩ rfl (Eq.trans (b := 1) rfl rfl) rfl rfl ?_
            show g 0 0 (wM M) 57 [some (.ref 0), some (.int (nI ia)), some (.int (nI ib)), some (.int (nI jd)), some (.int 0), some (.int 0)] [.int (soonT (vw (M 4)) z (nI ia) (nI ib))]
            refine r_iload_n (pc := 57) C dX6_stops_57 rfl rfl ?_
            refine r_icmp_gt (pc := 58) (tgt := 123) C dX6_stops_58 (by decide) (fun _ => ?_) (fun h => absurd (Int32.not_le.mp hso) h)
            refine r_iload (pc := 123) C dX6_stops_123 rfl ?_
            show g 0 0 (wM M) 125 [some (.ref 0), some (.int (nI ia)), some (.int (nI ib)), some (.int (nI jd)), some (.int 0), some (.int 0)] [.int 0]
            have hX : stopsM M z (nI ia) (nI ib) (nI jd) = (0, M) := by
              unfold stopsM
              (try rw [ix_nI (show ia < 2 ^ 31 by omega)])
              (try rw [ix_nI (show ib < 2 ^ 31 by omega)])
              (try rw [ix_nI (show jd < 2 ^ 31 by omega)])
              rw [if_pos h_5, if_pos h_13, if_neg h_18, if_pos h_25, if_neg hso]
            exact E _ _ _ _ _ _ dX6_stops_125 (Nat.le_refl _) (Nat.le_refl _) rfl ⟨by rw [hX], by rw [hX]⟩
        · replace h_25 := bB_f h_25
          refine r_ldc (pc := 28) (v := (-1000001)) C dX6_stops_28 tw_668 ?_
          show g 0 0 (wM M) 30 [some (.ref 0), some (.int (nI ia)), some (.int (nI ib)), some (.int d), none, none] [.int (-1000001)]
          have hX : stopsM M z (nI ia) (nI ib) d = ((-1000001), M) := by
            unfold stopsM
            (try rw [ix_nI (show ia < 2 ^ 31 by omega)])
            (try rw [ix_nI (show ib < 2 ^ 31 by omega)])
            rw [if_pos h_5, if_pos h_13, if_neg h_18, if_neg (nbt h_25)]
          exact E _ _ _ _ _ _ dX6_stops_30 (Nat.le_refl _) (Nat.le_refl _) rfl ⟨by rw [hX], by rw [hX]⟩
set_option maxHeartbeats 4000000 in
set_option maxRecDepth 100000 in
theorem c_X6_leave_242120 (M : Nat → Nat → Int32) (q : Nat) (hq : M 15 0 = nI q) (hq16 : q + 3 ≤ 16) : MetA yX6_leave (.code yX6_leave cX6_leave 7 none :: TT) rmX6_leave [.ref 0, .long 242120] (wM M) (fun vr wr => vr = none ∧ wr = wM (up2 (up2 M 14 (upd (upd (upd (M 14) (q) 24) (q + 1) 21) (q + 1 + 1) 20)) 15 (k1 (nI (q + 1 + 1 + 1))))) 0 0 := by
  refine MetA.of_v (by decide) (fun _ => Nat.le_of_ble_eq_true rfl) (Nat.le_of_ble_eq_true rfl) (fun g C E => ?_)
  replace C : Sem cX6_leave RX6 "leave" 7 rmX6_leave g := C
  show g 0 0 (wM M) 0 [some (.ref 0), some (.long 242120), none, none, none, none, none] []
  refine r_lconst (pc := 0) (v := 1) C dX6_leave_0 (by decide) ?_
  refine r_lstore_n (pc := 1) (lv' := [some (.ref 0), some (.long 242120), none, some (.long 1), none, none, none]) C dX6_leave_1 rfl (Nat.le_of_ble_eq_true rfl) trivial rfl ?_
  refine r_lload_n (pc := 2) C dX6_leave_2 rfl rfl ?_
  refine r_ldc2 (pc := 3) (v := 100) C dX6_leave_3 tw_906 ?_
  refine r_lmul (pc := 6) C dX6_leave_6 ?_
  rw [show (1 * 100 : Int64) = 100 from by decide]
  refine r_lload_n (pc := 7) C dX6_leave_7 rfl rfl ?_
  refine r_lcmp (pc := 8) C dX6_leave_8 ?_
  rw [show (lg_cmp 100 242120 : Int32) = (-1) from by decide]
  refine r_if_gt (pc := 9) (tgt := 21) C dX6_leave_9 (by decide) (fun h => absurd h (by decide)) (fun _ => ?_)
  refine r_lload_n (pc := 12) C dX6_leave_12 rfl rfl ?_
  refine r_ldc2 (pc := 13) (v := 100) C dX6_leave_13 tw_906 ?_
  refine r_lmul (pc := 16) C dX6_leave_16 ?_
  rw [show (1 * 100 : Int64) = 100 from by decide]
  refine r_lstore_n (pc := 17) (lv' := [some (.ref 0), some (.long 242120), none, some (.long 100), none, none, none]) C dX6_leave_17 rfl (Nat.le_of_ble_eq_true rfl) trivial rfl ?_
  refine r_goto (pc := 18) (tgt := 2) C dX6_leave_18 (by decide) ?_
  refine r_lload_n (pc := 2) C dX6_leave_2 rfl rfl ?_
  refine r_ldc2 (pc := 3) (v := 100) C dX6_leave_3 tw_906 ?_
  refine r_lmul (pc := 6) C dX6_leave_6 ?_
  rw [show (100 * 100 : Int64) = 10000 from by decide]
  refine r_lload_n (pc := 7) C dX6_leave_7 rfl rfl ?_
  refine r_lcmp (pc := 8) C dX6_leave_8 ?_
  rw [show (lg_cmp 10000 242120 : Int32) = (-1) from by decide]
  refine r_if_gt (pc := 9) (tgt := 21) C dX6_leave_9 (by decide) (fun h => absurd h (by decide)) (fun _ => ?_)
  refine r_lload_n (pc := 12) C dX6_leave_12 rfl rfl ?_
  refine r_ldc2 (pc := 13) (v := 100) C dX6_leave_13 tw_906 ?_
  refine r_lmul (pc := 16) C dX6_leave_16 ?_
  rw [show (100 * 100 : Int64) = 10000 from by decide]
  refine r_lstore_n (pc := 17) (lv' := [some (.ref 0), some (.long 242120), none, some (.long 10000), none, none, none]) C dX6_leave_17 rfl (Nat.le_of_ble_eq_true rfl) trivial rfl ?_
  refine r_goto (pc := 18) (tgt := 2) C dX6_leave_18 (by decide) ?_
  refine r_lload_n (pc := 2) C dX6_leave_2 rfl rfl ?_
  refine r_ldc2 (pc := 3) (v := 100) C dX6_leave_3 tw_906 ?_
  refine r_lmul (pc := 6) C dX6_leave_6 ?_
  rw [show (10000 * 100 : Int64) = 1000000 from by decide]
  refine r_lload_n (pc := 7) C dX6_leave_7 rfl rfl ?_
  refine r_lcmp (pc := 8) C dX6_leave_8 ?_
  rw [show (lg_cmp 1000000 242120 : Int32) = 1 from by decide]
  refine r_if_gt (pc := 9) (tgt := 21) C dX6_leave_9 (by decide) (fun _ => ?_) (fun h => absurd (by decide) h)
  refine r_lload_n (pc := 21) C dX6_leave_21 rfl rfl ?_
  refine r_lstore (pc := 22) (lv' := [some (.ref 0), some (.long 242120), none, some (.long 10000), none, some (.long 242120), none]) C dX6_leave_22 (Nat.le_of_ble_eq_true rfl) trivial rfl ?_
  refine r_lload_n (pc := 24) C dX6_leave_24 rfl rfl ?_
  refine r_lconst (pc := 25) (v := 0) C dX6_leave_25 (by decide) ?_
  refine r_lcmp (pc := 26) C dX6_leave_26 ?_
  rw [show (lg_cmp 10000 0 : Int32) = 1 from by decide]
  refine r_if_le (pc := 27) (tgt := 69) C dX6_leave_27 (by decide) (fun h => absurd h (by decide)) (fun _ => ?_)
  refine r_aload_n (pc := 30) C dX6_leave_30 rfl rfl ?_
  refine r_getfield (pc := 31) (v := .ref 11) C xf_X6_41 dX6_leave_31 rfl rfl ?_
  refine r_aload_n (pc := 34) C dX6_leave_34 rfl rfl ?_
  refine r_getfield (pc := 35) (v := .int (M 15 0)) C xf_X6_218 dX6_leave_35 rfl rfl ?_
  refine r_lload (pc := 38) C dX6_leave_38 rfl ?_
  refine r_lload_n (pc := 40) C dX6_leave_40 rfl rfl ?_
  refine r_ldiv (pc := 41) C dX6_leave_41 (by decide) ?_
  rw [show (242120 / 10000 : Int64) = 24 from by decide]
  refine r_l2i (pc := 42) (v := 24) C dX6_leave_42 (by decide) ?_
  refine r_iastore (pc := 43) (θ' := wM (up2 M 14 (upd (M 14) q 24))) C q dX6_leave_43 rfl hq (by first | assumption | omega) rfl ?_
  refine r_lload (pc := 44) C dX6_leave_44 rfl ?_
  refine r_lload_n (pc := 46) C dX6_leave_46 rfl rfl ?_
  refine r_lrem (pc := 47) C dX6_leave_47 (by decide) ?_
  show g 0 0 (wM (up2 M 14 (upd (M 14) q 24))) 48 [some (.ref 0), some (.long 242120), none, some (.long 10000), none, some (.long 242120), none] [.long (rmL 242120 10000)]
  rw [show (rmL 242120 10000 : Int64) = 2120 from by decide]
  refine r_lstore (pc := 48) (lv' := [some (.ref 0), some (.long 242120), none, some (.long 10000), none, some (.long 2120), none]) C dX6_leave_48 (Nat.le_of_ble_eq_true rfl) trivial rfl ?_
  refine r_aload_n (pc := 50) C dX6_leave_50 rfl rfl ?_
  refine r_dup (pc := 51) C dX6_leave_51 rfl ?_
  refine r_getfield (pc := 52) (v := .int (M 15 0)) C xf_X6_218 dX6_leave_52 rfl rfl ?_
  refine r_iconst (pc := 55) (v := 1) C dX6_leave_55 (by decide) ?_
  refine r_iadd (pc := 56) C dX6_leave_56 ?_
  show g 0 0 (wM (up2 M 14 (upd (M 14) q 24))) 57 [some (.ref 0), some (.long 242120), none, some (.long 10000), none, some (.long 2120), none] [.int ((M 15 0) + 1), .ref 0]
  rw [show ((M 15 0) + 1 : Int32) = nI (q + 1) from (nI_sum (m := q) (n := 1) hq rfl)]
  refine r_putfield (pc := 57) (θ' := wM (up2 (up2 M 14 (upd (M 14) q 24)) 15 (k1 (nI (q + 1))))) C xf_X6_218 xt_X6_15 dX6_leave_57 rfl (Nat.le_of_ble_eq_true rfl) (fun _ => ⟨rfl, rfl⟩) rfl ?_
  refine r_lload_n (pc := 60) C dX6_leave_60 rfl rfl ?_
  refine r_ldc2 (pc := 61) (v := 100) C dX6_leave_61 tw_906 ?_
  refine r_ldiv (pc := 64) C dX6_leave_64 (by decide) ?_
  rw [show (10000 / 100 : Int64) = 100 from by decide]
  refine r_lstore_n (pc := 65) (lv' := [some (.ref 0), some (.long 242120), none, some (.long 100), none, some (.long 2120), none]) C dX6_leave_65 rfl (Nat.le_of_ble_eq_true rfl) trivial rfl ?_
  refine r_goto (pc := 66) (tgt := 24) C dX6_leave_66 (by decide) ?_
  refine r_lload_n (pc := 24) C dX6_leave_24 rfl rfl ?_
  refine r_lconst (pc := 25) (v := 0) C dX6_leave_25 (by decide) ?_
  refine r_lcmp (pc := 26) C dX6_leave_26 ?_
  rw [show (lg_cmp 100 0 : Int32) = 1 from by decide]
  refine r_if_le (pc := 27) (tgt := 69) C dX6_leave_27 (by decide) (fun h => absurd h (by decide)) (fun _ => ?_)
  refine r_aload_n (pc := 30) C dX6_leave_30 rfl rfl ?_
  refine r_getfield (pc := 31) (v := .ref 11) C xf_X6_41 dX6_leave_31 rfl rfl ?_
  refine r_aload_n (pc := 34) C dX6_leave_34 rfl rfl ?_
  refine r_getfield (pc := 35) (v := .int (nI (q + 1))) C xf_X6_218 dX6_leave_35 rfl rfl ?_
  refine r_lload (pc := 38) C dX6_leave_38 rfl ?_
  refine r_lload_n (pc := 40) C dX6_leave_40 rfl rfl ?_
  refine r_ldiv (pc := 41) C dX6_leave_41 (by decide) ?_
  rw [show (2120 / 100 : Int64) = 21 from by decide]
  refine r_l2i (pc := 42) (v := 21) C dX6_leave_42 (by decide) ?_
  refine r_iastore (pc := 43) (θ' := wM (up2 (up2 M 15 (k1 (nI (q + 1)))) 14 (upd (upd (M 14) q 24) (q + 1) 21))) C (q + 1) dX6_leave_43 rfl rfl (by first | assumption | omega) rfl ?_
  refine r_lload (pc := 44) C dX6_leave_44 rfl ?_
  refine r_lload_n (pc := 46) C dX6_leave_46 rfl rfl ?_
  refine r_lrem (pc := 47) C dX6_leave_47 (by decide) ?_
  show g 0 0 (wM (up2 (up2 M 15 (k1 (nI (q + 1)))) 14 (upd (upd (M 14) q 24) (q + 1) 21))) 48 [some (.ref 0), some (.long 242120), none, some (.long 100), none, some (.long 2120), none] [.long (rmL 2120 100)]
  rw [show (rmL 2120 100 : Int64) = 20 from by decide]
  refine r_lstore (pc := 48) (lv' := [some (.ref 0), some (.long 242120), none, some (.long 100), none, some (.long 20), none]) C dX6_leave_48 (Nat.le_of_ble_eq_true rfl) trivial rfl ?_
  refine r_aload_n (pc := 50) C dX6_leave_50 rfl rfl ?_
  refine r_dup (pc := 51) C dX6_leave_51 rfl ?_
  refine r_getfield (pc := 52) (v := .int (nI (q + 1))) C xf_X6_218 dX6_leave_52 rfl rfl ?_
  refine r_iconst (pc := 55) (v := 1) C dX6_leave_55 (by decide) ?_
  refine r_iadd (pc := 56) C dX6_leave_56 ?_
  show g 0 0 (wM (up2 (up2 M 15 (k1 (nI (q + 1)))) 14 (upd (upd (M 14) q 24) (q + 1) 21))) 57 [some (.ref 0), some (.long 242120), none, some (.long 100), none, some (.long 20), none] [.int ((nI (q + 1)) + 1), .ref 0]
  rw [show ((nI (q + 1)) + 1 : Int32) = nI ((q + 1) + 1) from (nI_sum (m := (q + 1)) (n := 1) rfl rfl)]
  refine r_putfield (pc := 57) (θ' := wM (up2 (up2 M 14 (upd (upd (M 14) q 24) (q + 1) 21)) 15 (k1 (nI ((q + 1) + 1))))) C xf_X6_218 xt_X6_15 dX6_leave_57 rfl (Nat.le_of_ble_eq_true rfl) (fun _ => ⟨rfl, rfl⟩) rfl ?_
  refine r_lload_n (pc := 60) C dX6_leave_60 rfl rfl ?_
  refine r_ldc2 (pc := 61) (v := 100) C dX6_leave_61 tw_906 ?_
  refine r_ldiv (pc := 64) C dX6_leave_64 (by decide) ?_
  rw [show (100 / 100 : Int64) = 1 from by decide]
  refine r_lstore_n (pc := 65) (lv' := [some (.ref 0), some (.long 242120), none, some (.long 1), none, some (.long 20), none]) C dX6_leave_65 rfl (Nat.le_of_ble_eq_true rfl) trivial rfl ?_
  refine r_goto (pc := 66) (tgt := 24) C dX6_leave_66 (by decide) ?_
  refine r_lload_n (pc := 24) C dX6_leave_24 rfl rfl ?_
  refine r_lconst (pc := 25) (v := 0) C dX6_leave_25 (by decide) ?_
  refine r_lcmp (pc := 26) C dX6_leave_26 ?_
  rw [show (lg_cmp 1 0 : Int32) = 1 from by decide]
  refine r_if_le (pc := 27) (tgt := 69) C dX6_leave_27 (by decide) (fun h => absurd h (by decide)) (fun _ => ?_)
  refine r_aload_n (pc := 30) C dX6_leave_30 rfl rfl ?_
  refine r_getfield (pc := 31) (v := .ref 11) C xf_X6_41 dX6_leave_31 rfl rfl ?_
  refine r_aload_n (pc := 34) C dX6_leave_34 rfl rfl ?_
  refine r_getfield (pc := 35) (v := .int (nI ((q + 1) + 1))) C xf_X6_218 dX6_leave_35 rfl rfl ?_
  refine r_lload (pc := 38) C dX6_leave_38 rfl ?_
  refine r_lload_n (pc := 40) C dX6_leave_40 rfl rfl ?_
  refine r_ldiv (pc := 41) C dX6_leave_41 (by decide) ?_
  rw [show (20 / 1 : Int64) = 20 from by decide]
  refine r_l2i (pc := 42) (v := 20) C dX6_leave_42 (by decide) ?_
  refine r_iastore (pc := 43) (θ' := wM (up2 (up2 M 15 (k1 (nI ((q + 1) + 1)))) 14 (upd (upd (upd (M 14) q 24) (q + 1) 21) ((q + 1) + 1) 20))) C ((q + 1) + 1) dX6_leave_43 rfl rfl (by first | assumption | omega) rfl ?_
  refine r_lload (pc := 44) C dX6_leave_44 rfl ?_
  refine r_lload_n (pc := 46) C dX6_leave_46 rfl rfl ?_
  refine r_lrem (pc := 47) C dX6_leave_47 (by decide) ?_
  show g 0 0 (wM (up2 (up2 M 15 (k1 (nI ((q + 1) + 1)))) 14 (upd (upd (upd (M 14) q 24) (q + 1) 21) ((q + 1) + 1) 20))) 48 [some (.ref 0), some (.long 242120), none, some (.long 1), none, some (.long 20), none] [.long (rmL 20 1)]
  rw [show (rmL 20 1 : Int64) = 0 from by decide]
  refine r_lstore (pc := 48) (lv' := [some (.ref 0), some (.long 242120), none, some (.long 1), none, some (.long 0), none]) C dX6_leave_48 (Nat.le_of_ble_eq_true rfl) trivial rfl ?_
  refine r_aload_n (pc := 50) C dX6_leave_50 rfl rfl ?_
  refine r_dup (pc := 51) C dX6_leave_51 rfl ?_
  refine r_getfield (pc := 52) (v := .int (nI ((q + 1) + 1))) C xf_X6_218 dX6_leave_52 rfl rfl ?_
  refine r_iconst (pc := 55) (v := 1) C dX6_leave_55 (by decide) ?_
  refine r_iadd (pc := 56) C dX6_leave_56 ?_
  show g 0 0 (wM (up2 (up2 M 15 (k1 (nI ((q + 1) + 1)))) 14 (upd (upd (upd (M 14) q 24) (q + 1) 21) ((q + 1) + 1) 20))) 57 [some (.ref 0), some (.long 242120), none, some (.long 1), none, some (.long 0), none] [.int ((nI ((q + 1) + 1)) + 1), .ref 0]
  rw [show ((nI ((q + 1) + 1)) + 1 : Int32) = nI (((q + 1) + 1) + 1) from (nI_sum (m := ((q + 1) + 1)) (n := 1) rfl rfl)]
  refine r_putfield (pc := 57) (θ' := wM (up2 (up2 M 14 (upd (upd (upd (M 14) q 24) (q + 1) 21) ((q + 1) + 1) 20)) 15 (k1 (nI (((q + 1) + 1) + 1))))) C xf_X6_218 xt_X6_15 dX6_leave_57 rfl (Nat.le_of_ble_eq_true rfl) (fun _ => ⟨rfl, rfl⟩) rfl ?_
  refine r_lload_n (pc := 60) C dX6_leave_60 rfl rfl ?_
  refine r_ldc2 (pc := 61) (v := 100) C dX6_leave_61 tw_906 ?_
  refine r_ldiv (pc := 64) C dX6_leave_64 (by decide) ?_
  rw [show (1 / 100 : Int64) = 0 from by decide]
  refine r_lstore_n (pc := 65) (lv' := [some (.ref 0), some (.long 242120), none, some (.long 0), none, some (.long 0), none]) C dX6_leave_65 rfl (Nat.le_of_ble_eq_true rfl) trivial rfl ?_
  refine r_goto (pc := 66) (tgt := 24) C dX6_leave_66 (by decide) ?_
  refine r_lload_n (pc := 24) C dX6_leave_24 rfl rfl ?_
  refine r_lconst (pc := 25) (v := 0) C dX6_leave_25 (by decide) ?_
  refine r_lcmp (pc := 26) C dX6_leave_26 ?_
  rw [show (lg_cmp 0 0 : Int32) = 0 from by decide]
  refine r_if_le (pc := 27) (tgt := 69) C dX6_leave_27 (by decide) (fun _ => ?_) (fun h => absurd (by decide) h)
  show g 0 0 (wM (up2 (up2 M 14 (upd (upd (upd (M 14) q 24) (q + 1) 21) ((q + 1) + 1) 20)) 15 (k1 (nI (((q + 1) + 1) + 1))))) 69 [some (.ref 0), some (.long 242120), none, some (.long 0), none, some (.long 0), none] []
  exact E _ _ _ _ _ dX6_leave_69 (Nat.le_refl _) (Nat.le_refl _) ⟨rfl, rfl⟩
set_option maxHeartbeats 4000000 in
set_option maxRecDepth 100000 in
theorem c_X6_leave_222120 (M : Nat → Nat → Int32) (q : Nat) (hq : M 15 0 = nI q) (hq16 : q + 3 ≤ 16) : MetA yX6_leave (.code yX6_leave cX6_leave 7 none :: TT) rmX6_leave [.ref 0, .long 222120] (wM M) (fun vr wr => vr = none ∧ wr = wM (up2 (up2 M 14 (upd (upd (upd (M 14) (q) 22) (q + 1) 21) (q + 1 + 1) 20)) 15 (k1 (nI (q + 1 + 1 + 1))))) 0 0 := by
  refine MetA.of_v (by decide) (fun _ => Nat.le_of_ble_eq_true rfl) (Nat.le_of_ble_eq_true rfl) (fun g C E => ?_)
  replace C : Sem cX6_leave RX6 "leave" 7 rmX6_leave g := C
  show g 0 0 (wM M) 0 [some (.ref 0), some (.long 222120), none, none, none, none, none] []
  refine r_lconst (pc := 0) (v := 1) C dX6_leave_0 (by decide) ?_
  refine r_lstore_n (pc := 1) (lv' := [some (.ref 0), some (.long 222120), none, some (.long 1), none, none, none]) C dX6_leave_1 rfl (Nat.le_of_ble_eq_true rfl) trivial rfl ?_
  refine r_lload_n (pc := 2) C dX6_leave_2 rfl rfl ?_
  refine r_ldc2 (pc := 3) (v := 100) C dX6_leave_3 tw_906 ?_
  refine r_lmul (pc := 6) C dX6_leave_6 ?_
  rw [show (1 * 100 : Int64) = 100 from by decide]
  refine r_lload_n (pc := 7) C dX6_leave_7 rfl rfl ?_
  refine r_lcmp (pc := 8) C dX6_leave_8 ?_
  rw [show (lg_cmp 100 222120 : Int32) = (-1) from by decide]
  refine r_if_gt (pc := 9) (tgt := 21) C dX6_leave_9 (by decide) (fun h => absurd h (by decide)) (fun _ => ?_)
  refine r_lload_n (pc := 12) C dX6_leave_12 rfl rfl ?_
  refine r_ldc2 (pc := 13) (v := 100) C dX6_leave_13 tw_906 ?_
  refine r_lmul (pc := 16) C dX6_leave_16 ?_
  rw [show (1 * 100 : Int64) = 100 from by decide]
  refine r_lstore_n (pc := 17) (lv' := [some (.ref 0), some (.long 222120), none, some (.long 100), none, none, none]) C dX6_leave_17 rfl (Nat.le_of_ble_eq_true rfl) trivial rfl ?_
  refine r_goto (pc := 18) (tgt := 2) C dX6_leave_18 (by decide) ?_
  refine r_lload_n (pc := 2) C dX6_leave_2 rfl rfl ?_
  refine r_ldc2 (pc := 3) (v := 100) C dX6_leave_3 tw_906 ?_
  refine r_lmul (pc := 6) C dX6_leave_6 ?_
  rw [show (100 * 100 : Int64) = 10000 from by decide]
  refine r_lload_n (pc := 7) C dX6_leave_7 rfl rfl ?_
  refine r_lcmp (pc := 8) C dX6_leave_8 ?_
  rw [show (lg_cmp 10000 222120 : Int32) = (-1) from by decide]
  refine r_if_gt (pc := 9) (tgt := 21) C dX6_leave_9 (by decide) (fun h => absurd h (by decide)) (fun _ => ?_)
  refine r_lload_n (pc := 12) C dX6_leave_12 rfl rfl ?_
  refine r_ldc2 (pc := 13) (v := 100) C dX6_leave_13 tw_906 ?_
  refine r_lmul (pc := 16) C dX6_leave_16 ?_
  rw [show (100 * 100 : Int64) = 10000 from by decide]
  refine r_lstore_n (pc := 17) (lv' := [some (.ref 0), some (.long 222120), none, some (.long 10000), none, none, none]) C dX6_leave_17 rfl (Nat.le_of_ble_eq_true rfl) trivial rfl ?_
  refine r_goto (pc := 18) (tgt := 2) C dX6_leave_18 (by decide) ?_
  refine r_lload_n (pc := 2) C dX6_leave_2 rfl rfl ?_
  refine r_ldc2 (pc := 3) (v := 100) C dX6_leave_3 tw_906 ?_
  refine r_lmul (pc := 6) C dX6_leave_6 ?_
  rw [show (10000 * 100 : Int64) = 1000000 from by decide]
  refine r_lload_n (pc := 7) C dX6_leave_7 rfl rfl ?_
  refine r_lcmp (pc := 8) C dX6_leave_8 ?_
  rw [show (lg_cmp 1000000 222120 : Int32) = 1 from by decide]
  refine r_if_gt (pc := 9) (tgt := 21) C dX6_leave_9 (by decide) (fun _ => ?_) (fun h => absurd (by decide) h)
  refine r_lload_n (pc := 21) C dX6_leave_21 rfl rfl ?_
  refine r_lstore (pc := 22) (lv' := [some (.ref 0), some (.long 222120), none, some (.long 10000), none, some (.long 222120), none]) C dX6_leave_22 (Nat.le_of_ble_eq_true rfl) trivial rfl ?_
  refine r_lload_n (pc := 24) C dX6_leave_24 rfl rfl ?_
  refine r_lconst (pc := 25) (v := 0) C dX6_leave_25 (by decide) ?_
  refine r_lcmp (pc := 26) C dX6_leave_26 ?_
  rw [show (lg_cmp 10000 0 : Int32) = 1 from by decide]
  refine r_if_le (pc := 27) (tgt := 69) C dX6_leave_27 (by decide) (fun h => absurd h (by decide)) (fun _ => ?_)
  refine r_aload_n (pc := 30) C dX6_leave_30 rfl rfl ?_
  refine r_getfield (pc := 31) (v := .ref 11) C xf_X6_41 dX6_leave_31 rfl rfl ?_
  refine r_aload_n (pc := 34) C dX6_leave_34 rfl rfl ?_
  refine r_getfield (pc := 35) (v := .int (M 15 0)) C xf_X6_218 dX6_leave_35 rfl rfl ?_
  refine r_lload (pc := 38) C dX6_leave_38 rfl ?_
  refine r_lload_n (pc := 40) C dX6_leave_40 rfl rfl ?_
  refine r_ldiv (pc := 41) C dX6_leave_41 (by decide) ?_
  rw [show (222120 / 10000 : Int64) = 22 from by decide]
  refine r_l2i (pc := 42) (v := 22) C dX6_leave_42 (by decide) ?_
  refine r_iastore (pc := 43) (θ' := wM (up2 M 14 (upd (M 14) q 22))) C q dX6_leave_43 rfl hq (by first | assumption | omega) rfl ?_
  refine r_lload (pc := 44) C dX6_leave_44 rfl ?_
  refine r_lload_n (pc := 46) C dX6_leave_46 rfl rfl ?_
  refine r_lrem (pc := 47) C dX6_leave_47 (by decide) ?_
  show g 0 0 (wM (up2 M 14 (upd (M 14) q 22))) 48 [some (.ref 0), some (.long 222120), none, some (.long 10000), none, some (.long 222120), none] [.long (rmL 222120 10000)]
  rw [show (rmL 222120 10000 : Int64) = 2120 from by decide]
  refine r_lstore (pc := 48) (lv' := [some (.ref 0), some (.long 222120), none, some (.long 10000), none, some (.long 2120), none]) C dX6_leave_48 (Nat.le_of_ble_eq_true rfl) trivial rfl ?_
  refine r_aload_n (pc := 50) C dX6_leave_50 rfl rfl ?_
  refine r_dup (pc := 51) C dX6_leave_51 rfl ?_
  refine r_getfield (pc := 52) (v := .int (M 15 0)) C xf_X6_218 dX6_leave_52 rfl rfl ?_
  refine r_iconst (pc := 55) (v := 1) C dX6_leave_55 (by decide) ?_
  refine r_iadd (pc := 56) C dX6_leave_56 ?_
  show g 0 0 (wM (up2 M 14 (upd (M 14) q 22))) 57 [some (.ref 0), some (.long 222120), none, some (.long 10000), none, some (.long 2120), none] [.int ((M 15 0) + 1), .ref 0]
  rw [show ((M 15 0) + 1 : Int32) = nI (q + 1) from (nI_sum (m := q) (n := 1) hq rfl)]
  refine r_putfield (pc := 57) (θ' := wM (up2 (up2 M 14 (upd (M 14) q 22)) 15 (k1 (nI (q + 1))))) C xf_X6_218 xt_X6_15 dX6_leave_57 rfl (Nat.le_of_ble_eq_true rfl) (fun _ => ⟨rfl, rfl⟩) rfl ?_
  refine r_lload_n (pc := 60) C dX6_leave_60 rfl rfl ?_
  refine r_ldc2 (pc := 61) (v := 100) C dX6_leave_61 tw_906 ?_
  refine r_ldiv (pc := 64) C dX6_leave_64 (by decide) ?_
  rw [show (10000 / 100 : Int64) = 100 from by decide]
  refine r_lstore_n (pc := 65) (lv' := [some (.ref 0), some (.long 222120), none, some (.long 100), none, some (.long 2120), none]) C dX6_leave_65 rfl (Nat.le_of_ble_eq_true rfl) trivial rfl ?_
  refine r_goto (pc := 66) (tgt := 24) C dX6_leave_66 (by decide) ?_
  refine r_lload_n (pc := 24) C dX6_leave_24 rfl rfl ?_
  refine r_lconst (pc := 25) (v := 0) C dX6_leave_25 (by decide) ?_
  refine r_lcmp (pc := 26) C dX6_leave_26 ?_
  rw [show (lg_cmp 100 0 : Int32) = 1 from by decide]
  refine r_if_le (pc := 27) (tgt := 69) C dX6_leave_27 (by decide) (fun h => absurd h (by decide)) (fun _ => ?_)
  refine r_aload_n (pc := 30) C dX6_leave_30 rfl rfl ?_
  refine r_getfield (pc := 31) (v := .ref 11) C xf_X6_41 dX6_leave_31 rfl rfl ?_
  refine r_aload_n (pc := 34) C dX6_leave_34 rfl rfl ?_
  refine r_getfield (pc := 35) (v := .int (nI (q + 1))) C xf_X6_218 dX6_leave_35 rfl rfl ?_
  refine r_lload (pc := 38) C dX6_leave_38 rfl ?_
  refine r_lload_n (pc := 40) C dX6_leave_40 rfl rfl ?_
  refine r_ldiv (pc := 41) C dX6_leave_41 (by decide) ?_
  rw [show (2120 / 100 : Int64) = 21 from by decide]
  refine r_l2i (pc := 42) (v := 21) C dX6_leave_42 (by decide) ?_
  refine r_iastore (pc := 43) (θ' := wM (up2 (up2 M 15 (k1 (nI (q + 1)))) 14 (upd (upd (M 14) q 22) (q + 1) 21))) C (q + 1) dX6_leave_43 rfl rfl (by first | assumption | omega) rfl ?_
  refine r_lload (pc := 44) C dX6_leave_44 rfl ?_
  refine r_lload_n (pc := 46) C dX6_leave_46 rfl rfl ?_
  refine r_lrem (pc := 47) C dX6_leave_47 (by decide) ?_
  show g 0 0 (wM (up2 (up2 M 15 (k1 (nI (q + 1)))) 14 (upd (upd (M 14) q 22) (q + 1) 21))) 48 [some (.ref 0), some (.long 222120), none, some (.long 100), none, some (.long 2120), none] [.long (rmL 2120 100)]
  rw [show (rmL 2120 100 : Int64) = 20 from by decide]
  refine r_lstore (pc := 48) (lv' := [some (.ref 0), some (.long 222120), none, some (.long 100), none, some (.long 20), none]) C dX6_leave_48 (Nat.le_of_ble_eq_true rfl) trivial rfl ?_
  refine r_aload_n (pc := 50) C dX6_leave_50 rfl rfl ?_
  refine r_dup (pc := 51) C dX6_leave_51 rfl ?_
  refine r_getfield (pc := 52) (v := .int (nI (q + 1))) C xf_X6_218 dX6_leave_52 rfl rfl ?_
  refine r_iconst (pc := 55) (v := 1) C dX6_leave_55 (by decide) ?_
  refine r_iadd (pc := 56) C dX6_leave_56 ?_
  show g 0 0 (wM (up2 (up2 M 15 (k1 (nI (q + 1)))) 14 (upd (upd (M 14) q 22) (q + 1) 21))) 57 [some (.ref 0), some (.long 222120), none, some (.long 100), none, some (.long 20), none] [.int ((nI (q + 1)) + 1), .ref 0]
  rw [show ((nI (q + 1)) + 1 : Int32) = nI ((q + 1) + 1) from (nI_sum (m := (q + 1)) (n := 1) rfl rfl)]
  refine r_putfield (pc := 57) (θ' := wM (up2 (up2 M 14 (upd (upd (M 14) q 22) (q + 1) 21)) 15 (k1 (nI ((q + 1) + 1))))) C xf_X6_218 xt_X6_15 dX6_leave_57 rfl (Nat.le_of_ble_eq_true rfl) (fun _ => ⟨rfl, rfl⟩) rfl ?_
  refine r_lload_n (pc := 60) C dX6_leave_60 rfl rfl ?_
  refine r_ldc2 (pc := 61) (v := 100) C dX6_leave_61 tw_906 ?_
  refine r_ldiv (pc := 64) C dX6_leave_64 (by decide) ?_
  rw [show (100 / 100 : Int64) = 1 from by decide]
  refine r_lstore_n (pc := 65) (lv' := [some (.ref 0), some (.long 222120), none, some (.long 1), none, some (.long 20), none]) C dX6_leave_65 rfl (Nat.le_of_ble_eq_true rfl) trivial rfl ?_
  refine r_goto (pc := 66) (tgt := 24) C dX6_leave_66 (by decide) ?_
  refine r_lload_n (pc := 24) C dX6_leave_24 rfl rfl ?_
  refine r_lconst (pc := 25) (v := 0) C dX6_leave_25 (by decide) ?_
  refine r_lcmp (pc := 26) C dX6_leave_26 ?_
  rw [show (lg_cmp 1 0 : Int32) = 1 from by decide]
  refine r_if_le (pc := 27) (tgt := 69) C dX6_leave_27 (by decide) (fun h => absurd h (by decide)) (fun _ => ?_)
  refine r_aload_n (pc := 30) C dX6_leave_30 rfl rfl ?_
  refine r_getfield (pc := 31) (v := .ref 11) C xf_X6_41 dX6_leave_31 rfl rfl ?_
  refine r_aload_n (pc := 34) C dX6_leave_34 rfl rfl ?_
  refine r_getfield (pc := 35) (v := .int (nI ((q + 1) + 1))) C xf_X6_218 dX6_leave_35 rfl rfl ?_
  refine r_lload (pc := 38) C dX6_leave_38 rfl ?_
  refine r_lload_n (pc := 40) C dX6_leave_40 rfl rfl ?_
  refine r_ldiv (pc := 41) C dX6_leave_41 (by decide) ?_
  rw [show (20 / 1 : Int64) = 20 from by decide]
  refine r_l2i (pc := 42) (v := 20) C dX6_leave_42 (by decide) ?_
  refine r_iastore (pc := 43) (θ' := wM (up2 (up2 M 15 (k1 (nI ((q + 1) + 1)))) 14 (upd (upd (upd (M 14) q 22) (q + 1) 21) ((q + 1) + 1) 20))) C ((q + 1) + 1) dX6_leave_43 rfl rfl (by first | assumption | omega) rfl ?_
  refine r_lload (pc := 44) C dX6_leave_44 rfl ?_
  refine r_lload_n (pc := 46) C dX6_leave_46 rfl rfl ?_
  refine r_lrem (pc := 47) C dX6_leave_47 (by decide) ?_
  show g 0 0 (wM (up2 (up2 M 15 (k1 (nI ((q + 1) + 1)))) 14 (upd (upd (upd (M 14) q 22) (q + 1) 21) ((q + 1) + 1) 20))) 48 [some (.ref 0), some (.long 222120), none, some (.long 1), none, some (.long 20), none] [.long (rmL 20 1)]
  rw [show (rmL 20 1 : Int64) = 0 from by decide]
  refine r_lstore (pc := 48) (lv' := [some (.ref 0), some (.long 222120), none, some (.long 1), none, some (.long 0), none]) C dX6_leave_48 (Nat.le_of_ble_eq_true rfl) trivial rfl ?_
  refine r_aload_n (pc := 50) C dX6_leave_50 rfl rfl ?_
  refine r_dup (pc := 51) C dX6_leave_51 rfl ?_
  refine r_getfield (pc := 52) (v := .int (nI ((q + 1) + 1))) C xf_X6_218 dX6_leave_52 rfl rfl ?_
  refine r_iconst (pc := 55) (v := 1) C dX6_leave_55 (by decide) ?_
  refine r_iadd (pc := 56) C dX6_leave_56 ?_
  show g 0 0 (wM (up2 (up2 M 15 (k1 (nI ((q + 1) + 1)))) 14 (upd (upd (upd (M 14) q 22) (q + 1) 21) ((q + 1) + 1) 20))) 57 [some (.ref 0), some (.long 222120), none, some (.long 1), none, some (.long 0), none] [.int ((nI ((q + 1) + 1)) + 1), .ref 0]
  rw [show ((nI ((q + 1) + 1)) + 1 : Int32) = nI (((q + 1) + 1) + 1) from (nI_sum (m := ((q + 1) + 1)) (n := 1) rfl rfl)]
  refine r_putfield (pc := 57) (θ' := wM (up2 (up2 M 14 (upd (upd (upd (M 14) q 22) (q + 1) 21) ((q + 1) + 1) 20)) 15 (k1 (nI (((q + 1) + 1) + 1))))) C xf_X6_218 xt_X6_15 dX6_leave_57 rfl (Nat.le_of_ble_eq_true rfl) (fun _ => ⟨rfl, rfl⟩) rfl ?_
  refine r_lload_n (pc := 60) C dX6_leave_60 rfl rfl ?_
  refine r_ldc2 (pc := 61) (v := 100) C dX6_leave_61 tw_906 ?_
  refine r_ldiv (pc := 64) C dX6_leave_64 (by decide) ?_
  rw [show (1 / 100 : Int64) = 0 from by decide]
  refine r_lstore_n (pc := 65) (lv' := [some (.ref 0), some (.long 222120), none, some (.long 0), none, some (.long 0), none]) C dX6_leave_65 rfl (Nat.le_of_ble_eq_true rfl) trivial rfl ?_
  refine r_goto (pc := 66) (tgt := 24) C dX6_leave_66 (by decide) ?_
  refine r_lload_n (pc := 24) C dX6_leave_24 rfl rfl ?_
  refine r_lconst (pc := 25) (v := 0) C dX6_leave_25 (by decide) ?_
  refine r_lcmp (pc := 26) C dX6_leave_26 ?_
  rw [show (lg_cmp 0 0 : Int32) = 0 from by decide]
  refine r_if_le (pc := 27) (tgt := 69) C dX6_leave_27 (by decide) (fun _ => ?_) (fun h => absurd (by decide) h)
  show g 0 0 (wM (up2 (up2 M 14 (upd (upd (upd (M 14) q 22) (q + 1) 21) ((q + 1) + 1) 20)) 15 (k1 (nI (((q + 1) + 1) + 1))))) 69 [some (.ref 0), some (.long 222120), none, some (.long 0), none, some (.long 0), none] []
  exact E _ _ _ _ _ dX6_leave_69 (Nat.le_refl _) (Nat.le_refl _) ⟨rfl, rfl⟩
set_option maxHeartbeats 4000000 in
set_option maxRecDepth 100000 in
theorem c_X6_leave_2120 (M : Nat → Nat → Int32) (q : Nat) (hq : M 15 0 = nI q) (hq16 : q + 2 ≤ 16) : MetA yX6_leave (.code yX6_leave cX6_leave 7 none :: TT) rmX6_leave [.ref 0, .long 2120] (wM M) (fun vr wr => vr = none ∧ wr = wM (up2 (up2 M 14 (upd (upd (M 14) (q) 21) (q + 1) 20)) 15 (k1 (nI (q + 1 + 1))))) 0 0 := by
  refine MetA.of_v (by decide) (fun _ => Nat.le_of_ble_eq_true rfl) (Nat.le_of_ble_eq_true rfl) (fun g C E => ?_)
  replace C : Sem cX6_leave RX6 "leave" 7 rmX6_leave g := C
  show g 0 0 (wM M) 0 [some (.ref 0), some (.long 2120), none, none, none, none, none] []
  refine r_lconst (pc := 0) (v := 1) C dX6_leave_0 (by decide) ?_
  refine r_lstore_n (pc := 1) (lv' := [some (.ref 0), some (.long 2120), none, some (.long 1), none, none, none]) C dX6_leave_1 rfl (Nat.le_of_ble_eq_true rfl) trivial rfl ?_
  refine r_lload_n (pc := 2) C dX6_leave_2 rfl rfl ?_
  refine r_ldc2 (pc := 3) (v := 100) C dX6_leave_3 tw_906 ?_
  refine r_lmul (pc := 6) C dX6_leave_6 ?_
  rw [show (1 * 100 : Int64) = 100 from by decide]
  refine r_lload_n (pc := 7) C dX6_leave_7 rfl rfl ?_
  refine r_lcmp (pc := 8) C dX6_leave_8 ?_
  rw [show (lg_cmp 100 2120 : Int32) = (-1) from by decide]
  refine r_if_gt (pc := 9) (tgt := 21) C dX6_leave_9 (by decide) (fun h => absurd h (by decide)) (fun _ => ?_)
  refine r_lload_n (pc := 12) C dX6_leave_12 rfl rfl ?_
  refine r_ldc2 (pc := 13) (v := 100) C dX6_leave_13 tw_906 ?_
  refine r_lmul (pc := 16) C dX6_leave_16 ?_
  rw [show (1 * 100 : Int64) = 100 from by decide]
  refine r_lstore_n (pc := 17) (lv' := [some (.ref 0), some (.long 2120), none, some (.long 100), none, none, none]) C dX6_leave_17 rfl (Nat.le_of_ble_eq_true rfl) trivial rfl ?_
  refine r_goto (pc := 18) (tgt := 2) C dX6_leave_18 (by decide) ?_
  refine r_lload_n (pc := 2) C dX6_leave_2 rfl rfl ?_
  refine r_ldc2 (pc := 3) (v := 100) C dX6_leave_3 tw_906 ?_
  refine r_lmul (pc := 6) C dX6_leave_6 ?_
  rw [show (100 * 100 : Int64) = 10000 from by decide]
  refine r_lload_n (pc := 7) C dX6_leave_7 rfl rfl ?_
  refine r_lcmp (pc := 8) C dX6_leave_8 ?_
  rw [show (lg_cmp 10000 2120 : Int32) = 1 from by decide]
  refine r_if_gt (pc := 9) (tgt := 21) C dX6_leave_9 (by decide) (fun _ => ?_) (fun h => absurd (by decide) h)
  refine r_lload_n (pc := 21) C dX6_leave_21 rfl rfl ?_
  refine r_lstore (pc := 22) (lv' := [some (.ref 0), some (.long 2120), none, some (.long 100), none, some (.long 2120), none]) C dX6_leave_22 (Nat.le_of_ble_eq_true rfl) trivial rfl ?_
  refine r_lload_n (pc := 24) C dX6_leave_24 rfl rfl ?_
  refine r_lconst (pc := 25) (v := 0) C dX6_leave_25 (by decide) ?_
  refine r_lcmp (pc := 26) C dX6_leave_26 ?_
  rw [show (lg_cmp 100 0 : Int32) = 1 from by decide]
  refine r_if_le (pc := 27) (tgt := 69) C dX6_leave_27 (by decide) (fun h => absurd h (by decide)) (fun _ => ?_)
  refine r_aload_n (pc := 30) C dX6_leave_30 rfl rfl ?_
  refine r_getfield (pc := 31) (v := .ref 11) C xf_X6_41 dX6_leave_31 rfl rfl ?_
  refine r_aload_n (pc := 34) C dX6_leave_34 rfl rfl ?_
  refine r_getfield (pc := 35) (v := .int (M 15 0)) C xf_X6_218 dX6_leave_35 rfl rfl ?_
  refine r_lload (pc := 38) C dX6_leave_38 rfl ?_
  refine r_lload_n (pc := 40) C dX6_leave_40 rfl rfl ?_
  refine r_ldiv (pc := 41) C dX6_leave_41 (by decide) ?_
  rw [show (2120 / 100 : Int64) = 21 from by decide]
  refine r_l2i (pc := 42) (v := 21) C dX6_leave_42 (by decide) ?_
  refine r_iastore (pc := 43) (θ' := wM (up2 M 14 (upd (M 14) q 21))) C q dX6_leave_43 rfl hq (by first | assumption | omega) rfl ?_
  refine r_lload (pc := 44) C dX6_leave_44 rfl ?_
  refine r_lload_n (pc := 46) C dX6_leave_46 rfl rfl ?_
  refine r_lrem (pc := 47) C dX6_leave_47 (by decide) ?_
  show g 0 0 (wM (up2 M 14 (upd (M 14) q 21))) 48 [some (.ref 0), some (.long 2120), none, some (.long 100), none, some (.long 2120), none] [.long (rmL 2120 100)]
  rw [show (rmL 2120 100 : Int64) = 20 from by decide]
  refine r_lstore (pc := 48) (lv' := [some (.ref 0), some (.long 2120), none, some (.long 100), none, some (.long 20), none]) C dX6_leave_48 (Nat.le_of_ble_eq_true rfl) trivial rfl ?_
  refine r_aload_n (pc := 50) C dX6_leave_50 rfl rfl ?_
  refine r_dup (pc := 51) C dX6_leave_51 rfl ?_
  refine r_getfield (pc := 52) (v := .int (M 15 0)) C xf_X6_218 dX6_leave_52 rfl rfl ?_
  refine r_iconst (pc := 55) (v := 1) C dX6_leave_55 (by decide) ?_
  refine r_iadd (pc := 56) C dX6_leave_56 ?_
  show g 0 0 (wM (up2 M 14 (upd (M 14) q 21))) 57 [some (.ref 0), some (.long 2120), none, some (.long 100), none, some (.long 20), none] [.int ((M 15 0) + 1), .ref 0]
  rw [show ((M 15 0) + 1 : Int32) = nI (q + 1) from (nI_sum (m := q) (n := 1) hq rfl)]
  refine r_putfield (pc := 57) (θ' := wM (up2 (up2 M 14 (upd (M 14) q 21)) 15 (k1 (nI (q + 1))))) C xf_X6_218 xt_X6_15 dX6_leave_57 rfl (Nat.le_of_ble_eq_true rfl) (fun _ => ⟨rfl, rfl⟩) rfl ?_
  refine r_lload_n (pc := 60) C dX6_leave_60 rfl rfl ?_
  refine r_ldc2 (pc := 61) (v := 100) C dX6_leave_61 tw_906 ?_
  refine r_ldiv (pc := 64) C dX6_leave_64 (by decide) ?_
  rw [show (100 / 100 : Int64) = 1 from by decide]
  refine r_lstore_n (pc := 65) (lv' := [some (.ref 0), some (.long 2120), none, some (.long 1), none, some (.long 20), none]) C dX6_leave_65 rfl (Nat.le_of_ble_eq_true rfl) trivial rfl ?_
  refine r_goto (pc := 66) (tgt := 24) C dX6_leave_66 (by decide) ?_
  refine r_lload_n (pc := 24) C dX6_leave_24 rfl rfl ?_
  refine r_lconst (pc := 25) (v := 0) C dX6_leave_25 (by decide) ?_
  refine r_lcmp (pc := 26) C dX6_leave_26 ?_
  rw [show (lg_cmp 1 0 : Int32) = 1 from by decide]
  refine r_if_le (pc := 27) (tgt := 69) C dX6_leave_27 (by decide) (fun h => absurd h (by decide)) (fun _ => ?_)
  refine r_aload_n (pc := 30) C dX6_leave_30 rfl rfl ?_
  refine r_getfield (pc := 31) (v := .ref 11) C xf_X6_41 dX6_leave_31 rfl rfl ?_
  refine r_aload_n (pc := 34) C dX6_leave_34 rfl rfl ?_
  refine r_getfield (pc := 35) (v := .int (nI (q + 1))) C xf_X6_218 dX6_leave_35 rfl rfl ?_
  refine r_lload (pc := 38) C dX6_leave_38 rfl ?_
  refine r_lload_n (pc := 40) C dX6_leave_40 rfl rfl ?_
  refine r_ldiv (pc := 41) C dX6_leave_41 (by decide) ?_
  rw [show (20 / 1 : Int64) = 20 from by decide]
  refine r_l2i (pc := 42) (v := 20) C dX6_leave_42 (by decide) ?_
  refine r_iastore (pc := 43) (θ' := wM (up2 (up2 M 15 (k1 (nI (q + 1)))) 14 (upd (upd (M 14) q 21) (q + 1) 20))) C (q + 1) dX6_leave_43 rfl rfl (by first | assumption | omega) rfl ?_
  refine r_lload (pc := 44) C dX6_leave_44 rfl ?_
  refine r_lload_n (pc := 46) C dX6_leave_46 rfl rfl ?_
  refine r_lrem (pc := 47) C dX6_leave_47 (by decide) ?_
  show g 0 0 (wM (up2 (up2 M 15 (k1 (nI (q + 1)))) 14 (upd (upd (M 14) q 21) (q + 1) 20))) 48 [some (.ref 0), some (.long 2120), none, some (.long 1), none, some (.long 20), none] [.long (rmL 20 1)]
  rw [show (rmL 20 1 : Int64) = 0 from by decide]
  refine r_lstore (pc := 48) (lv' := [some (.ref 0), some (.long 2120), none, some (.long 1), none, some (.long 0), none]) C dX6_leave_48 (Nat.le_of_ble_eq_true rfl) trivial rfl ?_
  refine r_aload_n (pc := 50) C dX6_leave_50 rfl rfl ?_
  refine r_dup (pc := 51) C dX6_leave_51 rfl ?_
  refine r_getfield (pc := 52) (v := .int (nI (q + 1))) C xf_X6_218 dX6_leave_52 rfl rfl ?_
  refine r_iconst (pc := 55) (v := 1) C dX6_leave_55 (by decide) ?_
  refine r_iadd (pc := 56) C dX6_leave_56 ?_
  show g 0 0 (wM (up2 (up2 M 15 (k1 (nI (q + 1)))) 14 (upd (upd (M 14) q 21) (q + 1) 20))) 57 [some (.ref 0), some (.long 2120), none, some (.long 1), none, some (.long 0), none] [.int ((nI (q + 1)) + 1), .ref 0]
  rw [show ((nI (q + 1)) + 1 : Int32) = nI ((q + 1) + 1) from (nI_sum (m := (q + 1)) (n := 1) rfl rfl)]
  refine r_putfield (pc := 57) (θ' := wM (up2 (up2 M 14 (upd (upd (M 14) q 21) (q + 1) 20)) 15 (k1 (nI ((q + 1) + 1))))) C xf_X6_218 xt_X6_15 dX6_leave_57 rfl (Nat.le_of_ble_eq_true rfl) (fun _ => ⟨rfl, rfl⟩) rfl ?_
  refine r_lload_n (pc := 60) C dX6_leave_60 rfl rfl ?_
  refine r_ldc2 (pc := 61) (v := 100) C dX6_leave_61 tw_906 ?_
  refine r_ldiv (pc := 64) C dX6_leave_64 (by decide) ?_
  rw [show (1 / 100 : Int64) = 0 from by decide]
  refine r_lstore_n (pc := 65) (lv' := [some (.ref 0), some (.long 2120), none, some (.long 0), none, some (.long 0), none]) C dX6_leave_65 rfl (Nat.le_of_ble_eq_true rfl) trivial rfl ?_
  refine r_goto (pc := 66) (tgt := 24) C dX6_leave_66 (by decide) ?_
  refine r_lload_n (pc := 24) C dX6_leave_24 rfl rfl ?_
  refine r_lconst (pc := 25) (v := 0) C dX6_leave_25 (by decide) ?_
  refine r_lcmp (pc := 26) C dX6_leave_26 ?_
  rw [show (lg_cmp 0 0 : Int32) = 0 from by decide]
  refine r_if_le (pc := 27) (tgt := 69) C dX6_leave_27 (by decide) (fun _ => ?_) (fun h => absurd (by decide) h)
  show g 0 0 (wM (up2 (up2 M 14 (upd (upd (M 14) q 21) (q + 1) 20)) 15 (k1 (nI ((q + 1) + 1))))) 69 [some (.ref 0), some (.long 2120), none, some (.long 0), none, some (.long 0), none] []
  exact E _ _ _ _ _ dX6_leave_69 (Nat.le_refl _) (Nat.le_refl _) ⟨rfl, rfl⟩
set_option maxHeartbeats 4000000 in
set_option maxRecDepth 100000 in
theorem c_X6_leave_141310 (M : Nat → Nat → Int32) (q : Nat) (hq : M 15 0 = nI q) (hq16 : q + 3 ≤ 16) : MetA yX6_leave (.code yX6_leave cX6_leave 7 none :: TT) rmX6_leave [.ref 0, .long 141310] (wM M) (fun vr wr => vr = none ∧ wr = wM (up2 (up2 M 14 (upd (upd (upd (M 14) (q) 14) (q + 1) 13) (q + 1 + 1) 10)) 15 (k1 (nI (q + 1 + 1 + 1))))) 0 0 := by
  refine MetA.of_v (by decide) (fun _ => Nat.le_of_ble_eq_true rfl) (Nat.le_of_ble_eq_true rfl) (fun g C E => ?_)
  replace C : Sem cX6_leave RX6 "leave" 7 rmX6_leave g := C
  show g 0 0 (wM M) 0 [some (.ref 0), some (.long 141310), none, none, none, none, none] []
  refine r_lconst (pc := 0) (v := 1) C dX6_leave_0 (by decide) ?_
  refine r_lstore_n (pc := 1) (lv' := [some (.ref 0), some (.long 141310), none, some (.long 1), none, none, none]) C dX6_leave_1 rfl (Nat.le_of_ble_eq_true rfl) trivial rfl ?_
  refine r_lload_n (pc := 2) C dX6_leave_2 rfl rfl ?_
  refine r_ldc2 (pc := 3) (v := 100) C dX6_leave_3 tw_906 ?_
  refine r_lmul (pc := 6) C dX6_leave_6 ?_
  rw [show (1 * 100 : Int64) = 100 from by decide]
  refine r_lload_n (pc := 7) C dX6_leave_7 rfl rfl ?_
  refine r_lcmp (pc := 8) C dX6_leave_8 ?_
  rw [show (lg_cmp 100 141310 : Int32) = (-1) from by decide]
  refine r_if_gt (pc := 9) (tgt := 21) C dX6_leave_9 (by decide) (fun h => absurd h (by decide)) (fun _ => ?_)
  refine r_lload_n (pc := 12) C dX6_leave_12 rfl rfl ?_
  refine r_ldc2 (pc := 13) (v := 100) C dX6_leave_13 tw_906 ?_
  refine r_lmul (pc := 16) C dX6_leave_16 ?_
  rw [show (1 * 100 : Int64) = 100 from by decide]
  refine r_lstore_n (pc := 17) (lv' := [some (.ref 0), some (.long 141310), none, some (.long 100), none, none, none]) C dX6_leave_17 rfl (Nat.le_of_ble_eq_true rfl) trivial rfl ?_
  refine r_goto (pc := 18) (tgt := 2) C dX6_leave_18 (by decide) ?_
  refine r_lload_n (pc := 2) C dX6_leave_2 rfl rfl ?_
  refine r_ldc2 (pc := 3) (v := 100) C dX6_leave_3 tw_906 ?_
  refine r_lmul (pc := 6) C dX6_leave_6 ?_
  rw [show (100 * 100 : Int64) = 10000 from by decide]
  refine r_lload_n (pc := 7) C dX6_leave_7 rfl rfl ?_
  refine r_lcmp (pc := 8) C dX6_leave_8 ?_
  rw [show (lg_cmp 10000 141310 : Int32) = (-1) from by decide]
  refine r_if_gt (pc := 9) (tgt := 21) C dX6_leave_9 (by decide) (fun h => absurd h (by decide)) (fun _ => ?_)
  refine r_lload_n (pc := 12) C dX6_leave_12 rfl rfl ?_
  refine r_ldc2 (pc := 13) (v := 100) C dX6_leave_13 tw_906 ?_
  refine r_lmul (pc := 16) C dX6_leave_16 ?_
  rw [show (100 * 100 : Int64) = 10000 from by decide]
  refine r_lstore_n (pc := 17) (lv' := [some (.ref 0), some (.long 141310), none, some (.long 10000), none, none, none]) C dX6_leave_17 rfl (Nat.le_of_ble_eq_true rfl) trivial rfl ?_
  refine r_goto (pc := 18) (tgt := 2) C dX6_leave_18 (by decide) ?_
  refine r_lload_n (pc := 2) C dX6_leave_2 rfl rfl ?_
  refine r_ldc2 (pc := 3) (v := 100) C dX6_leave_3 tw_906 ?_
  refine r_lmul (pc := 6) C dX6_leave_6 ?_
  rw [show (10000 * 100 : Int64) = 1000000 from by decide]
  refine r_lload_n (pc := 7) C dX6_leave_7 rfl rfl ?_
  refine r_lcmp (pc := 8) C dX6_leave_8 ?_
  rw [show (lg_cmp 1000000 141310 : Int32) = 1 from by decide]
  refine r_if_gt (pc := 9) (tgt := 21) C dX6_leave_9 (by decide) (fun _ => ?_) (fun h => absurd (by decide) h)
  refine r_lload_n (pc := 21) C dX6_leave_21 rfl rfl ?_
  refine r_lstore (pc := 22) (lv' := [some (.ref 0), some (.long 141310), none, some (.long 10000), none, some (.long 141310), none]) C dX6_leave_22 (Nat.le_of_ble_eq_true rfl) trivial rfl ?_
  refine r_lload_n (pc := 24) C dX6_leave_24 rfl rfl ?_
  refine r_lconst (pc := 25) (v := 0) C dX6_leave_25 (by decide) ?_
  refine r_lcmp (pc := 26) C dX6_leave_26 ?_
  rw [show (lg_cmp 10000 0 : Int32) = 1 from by decide]
  refine r_if_le (pc := 27) (tgt := 69) C dX6_leave_27 (by decide) (fun h => absurd h (by decide)) (fun _ => ?_)
  refine r_aload_n (pc := 30) C dX6_leave_30 rfl rfl ?_
  refine r_getfield (pc := 31) (v := .ref 11) C xf_X6_41 dX6_leave_31 rfl rfl ?_
  refine r_aload_n (pc := 34) C dX6_leave_34 rfl rfl ?_
  refine r_getfield (pc := 35) (v := .int (M 15 0)) C xf_X6_218 dX6_leave_35 rfl rfl ?_
  refine r_lload (pc := 38) C dX6_leave_38 rfl ?_
  refine r_lload_n (pc := 40) C dX6_leave_40 rfl rfl ?_
  refine r_ldiv (pc := 41) C dX6_leave_41 (by decide) ?_
  rw [show (141310 / 10000 : Int64) = 14 from by decide]
  refine r_l2i (pc := 42) (v := 14) C dX6_leave_42 (by decide) ?_
  refine r_iastore (pc := 43) (θ' := wM (up2 M 14 (upd (M 14) q 14))) C q dX6_leave_43 rfl hq (by first | assumption | omega) rfl ?_
  refine r_lload (pc := 44) C dX6_leave_44 rfl ?_
  refine r_lload_n (pc := 46) C dX6_leave_46 rfl rfl ?_
  refine r_lrem (pc := 47) C dX6_leave_47 (by decide) ?_
  show g 0 0 (wM (up2 M 14 (upd (M 14) q 14))) 48 [some (.ref 0), some (.long 141310), none, some (.long 10000), none, some (.long 141310), none] [.long (rmL 141310 10000)]
  rw [show (rmL 141310 10000 : Int64) = 1310 from by decide]
  refine r_lstore (pc := 48) (lv' := [some (.ref 0), some (.long 141310), none, some (.long 10000), none, some (.long 1310), none]) C dX6_leave_48 (Nat.le_of_ble_eq_true rfl) trivial rfl ?_
  refine r_aload_n (pc := 50) C dX6_leave_50 rfl rfl ?_
  refine r_dup (pc := 51) C dX6_leave_51 rfl ?_
  refine r_getfield (pc := 52) (v := .int (M 15 0)) C xf_X6_218 dX6_leave_52 rfl rfl ?_
  refine r_iconst (pc := 55) (v := 1) C dX6_leave_55 (by decide) ?_
  refine r_iadd (pc := 56) C dX6_leave_56 ?_
  show g 0 0 (wM (up2 M 14 (upd (M 14) q 14))) 57 [some (.ref 0), some (.long 141310), none, some (.long 10000), none, some (.long 1310), none] [.int ((M 15 0) + 1), .ref 0]
  rw [show ((M 15 0) + 1 : Int32) = nI (q + 1) from (nI_sum (m := q) (n := 1) hq rfl)]
  refine r_putfield (pc := 57) (θ' := wM (up2 (up2 M 14 (upd (M 14) q 14)) 15 (k1 (nI (q + 1))))) C xf_X6_218 xt_X6_15 dX6_leave_57 rfl (Nat.le_of_ble_eq_true rfl) (fun _ => ⟨rfl, rfl⟩) rfl ?_
  refine r_lload_n (pc := 60) C dX6_leave_60 rfl rfl ?_
  refine r_ldc2 (pc := 61) (v := 100) C dX6_leave_61 tw_906 ?_
  refine r_ldiv (pc := 64) C dX6_leave_64 (by decide) ?_
  rw [show (10000 / 100 : Int64) = 100 from by decide]
  refine r_lstore_n (pc := 65) (lv' := [some (.ref 0), some (.long 141310), none, some (.long 100), none, some (.long 1310), none]) C dX6_leave_65 rfl (Nat.le_of_ble_eq_true rfl) trivial rfl ?_
  refine r_goto (pc := 66) (tgt := 24) C dX6_leave_66 (by decide) ?_
  refine r_lload_n (pc := 24) C dX6_leave_24 rfl rfl ?_
  refine r_lconst (pc := 25) (v := 0) C dX6_leave_25 (by decide) ?_
  refine r_lcmp (pc := 26) C dX6_leave_26 ?_
  rw [show (lg_cmp 100 0 : Int32) = 1 from by decide]
  refine r_if_le (pc := 27) (tgt := 69) C dX6_leave_27 (by decide) (fun h => absurd h (by decide)) (fun _ => ?_)
  refine r_aload_n (pc := 30) C dX6_leave_30 rfl rfl ?_
  refine r_getfield (pc := 31) (v := .ref 11) C xf_X6_41 dX6_leave_31 rfl rfl ?_
  refine r_aload_n (pc := 34) C dX6_leave_34 rfl rfl ?_
  refine r_getfield (pc := 35) (v := .int (nI (q + 1))) C xf_X6_218 dX6_leave_35 rfl rfl ?_
  refine r_lload (pc := 38) C dX6_leave_38 rfl ?_
  refine r_lload_n (pc := 40) C dX6_leave_40 rfl rfl ?_
  refine r_ldiv (pc := 41) C dX6_leave_41 (by decide) ?_
  rw [show (1310 / 100 : Int64) = 13 from by decide]
  refine r_l2i (pc := 42) (v := 13) C dX6_leave_42 (by decide) ?_
  refine r_iastore (pc := 43) (θ' := wM (up2 (up2 M 15 (k1 (nI (q + 1)))) 14 (upd (upd (M 14) q 14) (q + 1) 13))) C (q + 1) dX6_leave_43 rfl rfl (by first | assumption | omega) rfl ?_
  refine r_lload (pc := 44) C dX6_leave_44 rfl ?_
  refine r_lload_n (pc := 46) C dX6_leave_46 rfl rfl ?_
  refine r_lrem (pc := 47) C dX6_leave_47 (by decide) ?_
  show g 0 0 (wM (up2 (up2 M 15 (k1 (nI (q + 1)))) 14 (upd (upd (M 14) q 14) (q + 1) 13))) 48 [some (.ref 0), some (.long 141310), none, some (.long 100), none, some (.long 1310), none] [.long (rmL 1310 100)]
  rw [show (rmL 1310 100 : Int64) = 10 from by decide]
  refine r_lstore (pc := 48) (lv' := [some (.ref 0), some (.long 141310), none, some (.long 100), none, some (.long 10), none]) C dX6_leave_48 (Nat.le_of_ble_eq_true rfl) trivial rfl ?_
  refine r_aload_n (pc := 50) C dX6_leave_50 rfl rfl ?_
  refine r_dup (pc := 51) C dX6_leave_51 rfl ?_
  refine r_getfield (pc := 52) (v := .int (nI (q + 1))) C xf_X6_218 dX6_leave_52 rfl rfl ?_
  refine r_iconst (pc := 55) (v := 1) C dX6_leave_55 (by decide) ?_
  refine r_iadd (pc := 56) C dX6_leave_56 ?_
  show g 0 0 (wM (up2 (up2 M 15 (k1 (nI (q + 1)))) 14 (upd (upd (M 14) q 14) (q + 1) 13))) 57 [some (.ref 0), some (.long 141310), none, some (.long 100), none, some (.long 10), none] [.int ((nI (q + 1)) + 1), .ref 0]
  rw [show ((nI (q + 1)) + 1 : Int32) = nI ((q + 1) + 1) from (nI_sum (m := (q + 1)) (n := 1) rfl rfl)]
  refine r_putfield (pc := 57) (θ' := wM (up2 (up2 M 14 (upd (upd (M 14) q 14) (q + 1) 13)) 15 (k1 (nI ((q + 1) + 1))))) C xf_X6_218 xt_X6_15 dX6_leave_57 rfl (Nat.le_of_ble_eq_true rfl) (fun _ => ⟨rfl, rfl⟩) rfl ?_
  refine r_lload_n (pc := 60) C dX6_leave_60 rfl rfl ?_
  refine r_ldc2 (pc := 61) (v := 100) C dX6_leave_61 tw_906 ?_
  refine r_ldiv (pc := 64) C dX6_leave_64 (by decide) ?_
  rw [show (100 / 100 : Int64) = 1 from by decide]
  refine r_lstore_n (pc := 65) (lv' := [some (.ref 0), some (.long 141310), none, some (.long 1), none, some (.long 10), none]) C dX6_leave_65 rfl (Nat.le_of_ble_eq_true rfl) trivial rfl ?_
  refine r_goto (pc := 66) (tgt := 24) C dX6_leave_66 (by decide) ?_
  refine r_lload_n (pc := 24) C dX6_leave_24 rfl rfl ?_
  refine r_lconst (pc := 25) (v := 0) C dX6_leave_25 (by decide) ?_
  refine r_lcmp (pc := 26) C dX6_leave_26 ?_
  rw [show (lg_cmp 1 0 : Int32) = 1 from by decide]
  refine r_if_le (pc := 27) (tgt := 69) C dX6_leave_27 (by decide) (fun h => absurd h (by decide)) (fun _ => ?_)
  refine r_aload_n (pc := 30) C dX6_leave_30 rfl rfl ?_
  refine r_getfield (pc := 31) (v := .ref 11) C xf_X6_41 dX6_leave_31 rfl rfl ?_
  refine r_aload_n (pc := 34) C dX6_leave_34 rfl rfl ?_
  refine r_getfield (pc := 35) (v := .int (nI ((q + 1) + 1))) C xf_X6_218 dX6_leave_35 rfl rfl ?_
  refine r_lload (pc := 38) C dX6_leave_38 rfl ?_
  refine r_lload_n (pc := 40) C dX6_leave_40 rfl rfl ?_
  refine r_ldiv (pc := 41) C dX6_leave_41 (by decide) ?_
  rw [show (10 / 1 : Int64) = 10 from by decide]
  refine r_l2i (pc := 42) (v := 10) C dX6_leave_42 (by decide) ?_
  refine r_iastore (pc := 43) (θ' := wM (up2 (up2 M 15 (k1 (nI ((q + 1) + 1)))) 14 (upd (upd (upd (M 14) q 14) (q + 1) 13) ((q + 1) + 1) 10))) C ((q + 1) + 1) dX6_leave_43 rfl rfl (by first | assumption | omega) rfl ?_
  refine r_lload (pc := 44) C dX6_leave_44 rfl ?_
  refine r_lload_n (pc := 46) C dX6_leave_46 rfl rfl ?_
  refine r_lrem (pc := 47) C dX6_leave_47 (by decide) ?_
  show g 0 0 (wM (up2 (up2 M 15 (k1 (nI ((q + 1) + 1)))) 14 (upd (upd (upd (M 14) q 14) (q + 1) 13) ((q + 1) + 1) 10))) 48 [some (.ref 0), some (.long 141310), none, some (.long 1), none, some (.long 10), none] [.long (rmL 10 1)]
  rw [show (rmL 10 1 : Int64) = 0 from by decide]
  refine r_lstore (pc := 48) (lv' := [some (.ref 0), some (.long 141310), none, some (.long 1), none, some (.long 0), none]) C dX6_leave_48 (Nat.le_of_ble_eq_true rfl) trivial rfl ?_
  refine r_aload_n (pc := 50) C dX6_leave_50 rfl rfl ?_
  refine r_dup (pc := 51) C dX6_leave_51 rfl ?_
  refine r_getfield (pc := 52) (v := .int (nI ((q + 1) + 1))) C xf_X6_218 dX6_leave_52 rfl rfl ?_
  refine r_iconst (pc := 55) (v := 1) C dX6_leave_55 (by decide) ?_
  refine r_iadd (pc := 56) C dX6_leave_56 ?_
  show g 0 0 (wM (up2 (up2 M 15 (k1 (nI ((q + 1) + 1)))) 14 (upd (upd (upd (M 14) q 14) (q + 1) 13) ((q + 1) + 1) 10))) 57 [some (.ref 0), some (.long 141310), none, some (.long 1), none, some (.long 0), none] [.int ((nI ((q + 1) + 1)) + 1), .ref 0]
  rw [show ((nI ((q + 1) + 1)) + 1 : Int32) = nI (((q + 1) + 1) + 1) from (nI_sum (m := ((q + 1) + 1)) (n := 1) rfl rfl)]
  refine r_putfield (pc := 57) (θ' := wM (up2 (up2 M 14 (upd (upd (upd (M 14) q 14) (q + 1) 13) ((q + 1) + 1) 10)) 15 (k1 (nI (((q + 1) + 1) + 1))))) C xf_X6_218 xt_X6_15 dX6_leave_57 rfl (Nat.le_of_ble_eq_true rfl) (fun _ => ⟨rfl, rfl⟩) rfl ?_
  refine r_lload_n (pc := 60) C dX6_leave_60 rfl rfl ?_
  refine r_ldc2 (pc := 61) (v := 100) C dX6_leave_61 tw_906 ?_
  refine r_ldiv (pc := 64) C dX6_leave_64 (by decide) ?_
  rw [show (1 / 100 : Int64) = 0 from by decide]
  refine r_lstore_n (pc := 65) (lv' := [some (.ref 0), some (.long 141310), none, some (.long 0), none, some (.long 0), none]) C dX6_leave_65 rfl (Nat.le_of_ble_eq_true rfl) trivial rfl ?_
  refine r_goto (pc := 66) (tgt := 24) C dX6_leave_66 (by decide) ?_
  refine r_lload_n (pc := 24) C dX6_leave_24 rfl rfl ?_
  refine r_lconst (pc := 25) (v := 0) C dX6_leave_25 (by decide) ?_
  refine r_lcmp (pc := 26) C dX6_leave_26 ?_
  rw [show (lg_cmp 0 0 : Int32) = 0 from by decide]
  refine r_if_le (pc := 27) (tgt := 69) C dX6_leave_27 (by decide) (fun _ => ?_) (fun h => absurd (by decide) h)
  show g 0 0 (wM (up2 (up2 M 14 (upd (upd (upd (M 14) q 14) (q + 1) 13) ((q + 1) + 1) 10)) 15 (k1 (nI (((q + 1) + 1) + 1))))) 69 [some (.ref 0), some (.long 141310), none, some (.long 0), none, some (.long 0), none] []
  exact E _ _ _ _ _ dX6_leave_69 (Nat.le_refl _) (Nat.le_refl _) ⟨rfl, rfl⟩
set_option maxHeartbeats 4000000 in
set_option maxRecDepth 100000 in
theorem c_X6_leave_1310 (M : Nat → Nat → Int32) (q : Nat) (hq : M 15 0 = nI q) (hq16 : q + 2 ≤ 16) : MetA yX6_leave (.code yX6_leave cX6_leave 7 none :: TT) rmX6_leave [.ref 0, .long 1310] (wM M) (fun vr wr => vr = none ∧ wr = wM (up2 (up2 M 14 (upd (upd (M 14) (q) 13) (q + 1) 10)) 15 (k1 (nI (q + 1 + 1))))) 0 0 := by
  refine MetA.of_v (by decide) (fun _ => Nat.le_of_ble_eq_true rfl) (Nat.le_of_ble_eq_true rfl) (fun g C E => ?_)
  replace C : Sem cX6_leave RX6 "leave" 7 rmX6_leave g := C
  show g 0 0 (wM M) 0 [some (.ref 0), some (.long 1310), none, none, none, none, none] []
  refine r_lconst (pc := 0) (v := 1) C dX6_leave_0 (by decide) ?_
  refine r_lstore_n (pc := 1) (lv' := [some (.ref 0), some (.long 1310), none, some (.long 1), none, none, none]) C dX6_leave_1 rfl (Nat.le_of_ble_eq_true rfl) trivial rfl ?_
  refine r_lload_n (pc := 2) C dX6_leave_2 rfl rfl ?_
  refine r_ldc2 (pc := 3) (v := 100) C dX6_leave_3 tw_906 ?_
  refine r_lmul (pc := 6) C dX6_leave_6 ?_
  rw [show (1 * 100 : Int64) = 100 from by decide]
  refine r_lload_n (pc := 7) C dX6_leave_7 rfl rfl ?_
  refine r_lcmp (pc := 8) C dX6_leave_8 ?_
  rw [show (lg_cmp 100 1310 : Int32) = (-1) from by decide]
  refine r_if_gt (pc := 9) (tgt := 21) C dX6_leave_9 (by decide) (fun h => absurd h (by decide)) (fun _ => ?_)
  refine r_lload_n (pc := 12) C dX6_leave_12 rfl rfl ?_
  refine r_ldc2 (pc := 13) (v := 100) C dX6_leave_13 tw_906 ?_
  refine r_lmul (pc := 16) C dX6_leave_16 ?_
  rw [show (1 * 100 : Int64) = 100 from by decide]
  refine r_lstore_n (pc := 17) (lv' := [some (.ref 0), some (.long 1310), none, some (.long 100), none, none, none]) C dX6_leave_17 rfl (Nat.le_of_ble_eq_true rfl) trivial rfl ?_
  refine r_goto (pc := 18) (tgt := 2) C dX6_leave_18 (by decide) ?_
  refine r_lload_n (pc := 2) C dX6_leave_2 rfl rfl ?_
  refine r_ldc2 (pc := 3) (v := 100) C dX6_leave_3 tw_906 ?_
  refine r_lmul (pc := 6) C dX6_leave_6 ?_
  rw [show (100 * 100 : Int64) = 10000 from by decide]
  refine r_lload_n (pc := 7) C dX6_leave_7 rfl rfl ?_
  refine r_lcmp (pc := 8) C dX6_leave_8 ?_
  rw [show (lg_cmp 10000 1310 : Int32) = 1 from by decide]
  refine r_if_gt (pc := 9) (tgt := 21) C dX6_leave_9 (by decide) (fun _ => ?_) (fun h => absurd (by decide) h)
  refine r_lload_n (pc := 21) C dX6_leave_21 rfl rfl ?_
  refine r_lstore (pc := 22) (lv' := [some (.ref 0), some (.long 1310), none, some (.long 100), none, some (.long 1310), none]) C dX6_leave_22 (Nat.le_of_ble_eq_true rfl) trivial rfl ?_
  refine r_lload_n (pc := 24) C dX6_leave_24 rfl rfl ?_
  refine r_lconst (pc := 25) (v := 0) C dX6_leave_25 (by decide) ?_
  refine r_lcmp (pc := 26) C dX6_leave_26 ?_
  rw [show (lg_cmp 100 0 : Int32) = 1 from by decide]
  refine r_if_le (pc := 27) (tgt := 69) C dX6_leave_27 (by decide) (fun h => absurd h (by decide)) (fun _ => ?_)
  refine r_aload_n (pc := 30) C dX6_leave_30 rfl rfl ?_
  refine r_getfield (pc := 31) (v := .ref 11) C xf_X6_41 dX6_leave_31 rfl rfl ?_
  refine r_aload_n (pc := 34) C dX6_leave_34 rfl rfl ?_
  refine r_getfield (pc := 35) (v := .int (M 15 0)) C xf_X6_218 dX6_leave_35 rfl rfl ?_
  refine r_lload (pc := 38) C dX6_leave_38 rfl ?_
  refine r_lload_n (pc := 40) C dX6_leave_40 rfl rfl ?_
  refine r_ldiv (pc := 41) C dX6_leave_41 (by decide) ?_
  rw [show (1310 / 100 : Int64) = 13 from by decide]
  refine r_l2i (pc := 42) (v := 13) C dX6_leave_42 (by decide) ?_
  refine r_iastore (pc := 43) (θ' := wM (up2 M 14 (upd (M 14) q 13))) C q dX6_leave_43 rfl hq (by first | assumption | omega) rfl ?_
  refine r_lload (pc := 44) C dX6_leave_44 rfl ?_
  refine r_lload_n (pc := 46) C dX6_leave_46 rfl rfl ?_
  refine r_lrem (pc := 47) C dX6_leave_47 (by decide) ?_
  show g 0 0 (wM (up2 M 14 (upd (M 14) q 13))) 48 [some (.ref 0), some (.long 1310), none, some (.long 100), none, some (.long 1310), none] [.long (rmL 1310 100)]
  rw [show (rmL 1310 100 : Int64) = 10 from by decide]
  refine r_lstore (pc := 48) (lv' := [some (.ref 0), some (.long 1310), none, some (.long 100), none, some (.long 10), none]) C dX6_leave_48 (Nat.le_of_ble_eq_true rfl) trivial rfl ?_
  refine r_aload_n (pc := 50) C dX6_leave_50 rfl rfl ?_
  refine r_dup (pc := 51) C dX6_leave_51 rfl ?_
  refine r_getfield (pc := 52) (v := .int (M 15 0)) C xf_X6_218 dX6_leave_52 rfl rfl ?_
  refine r_iconst (pc := 55) (v := 1) C dX6_leave_55 (by decide) ?_
  refine r_iadd (pc := 56) C dX6_leave_56 ?_
  show g 0 0 (wM (up2 M 14 (upd (M 14) q 13))) 57 [some (.ref 0), some (.long 1310), none, some (.long 100), none, some (.long 10), none] [.int ((M 15 0) + 1), .ref 0]
  rw [show ((M 15 0) + 1 : Int32) = nI (q + 1) from (nI_sum (m := q) (n := 1) hq rfl)]
  refine r_putfield (pc := 57) (θ' := wM (up2 (up2 M 14 (upd (M 14) q 13)) 15 (k1 (nI (q + 1))))) C xf_X6_218 xt_X6_15 dX6_leave_57 rfl (Nat.le_of_ble_eq_true rfl) (fun _ => ⟨rfl, rfl⟩) rfl ?_
  refine r_lload_n (pc := 60) C dX6_leave_60 rfl rfl ?_
  refine r_ldc2 (pc := 61) (v := 100) C dX6_leave_61 tw_906 ?_
  refine r_ldiv (pc := 64) C dX6_leave_64 (by decide) ?_
  rw [show (100 / 100 : Int64) = 1 from by decide]
  refine r_lstore_n (pc := 65) (lv' := [some (.ref 0), some (.long 1310), none, some (.long 1), none, some (.long 10), none]) C dX6_leave_65 rfl (Nat.le_of_ble_eq_true rfl) trivial rfl ?_
  refine r_goto (pc := 66) (tgt := 24) C dX6_leave_66 (by decide) ?_
  refine r_lload_n (pc := 24) C dX6_leave_24 rfl rfl ?_
  refine r_lconst (pc := 25) (v := 0) C dX6_leave_25 (by decide) ?_
  refine r_lcmp (pc := 26) C dX6_leave_26 ?_
  rw [show (lg_cmp 1 0 : Int32) = 1 from by decide]
  refine r_if_le (pc := 27) (tgt := 69) C dX6_leave_27 (by decide) (fun h => absurd h (by decide)) (fun _ => ?_)
  refine r_aload_n (pc := 30) C dX6_leave_30 rfl rfl ?_
  refine r_getfield (pc := 31) (v := .ref 11) C xf_X6_41 dX6_leave_31 rfl rfl ?_
  refine r_aload_n (pc := 34) C dX6_leave_34 rfl rfl ?_
  refine r_getfield (pc := 35) (v := .int (nI (q + 1))) C xf_X6_218 dX6_leave_35 rfl rfl ?_
  refine r_lload (pc := 38) C dX6_leave_38 rfl ?_
  refine r_lload_n (pc := 40) C dX6_leave_40 rfl rfl ?_
  refine r_ldiv (pc := 41) C dX6_leave_41 (by decide) ?_
  rw [show (10 / 1 : Int64) = 10 from by decide]
  refine r_l2i (pc := 42) (v := 10) C dX6_leave_42 (by decide) ?_
  refine r_iastore (pc := 43) (θ' := wM (up2 (up2 M 15 (k1 (nI (q + 1)))) 14 (upd (upd (M 14) q 13) (q + 1) 10))) C (q + 1) dX6_leave_43 rfl rfl (by first | assumption | omega) rfl ?_
  refine r_lload (pc := 44) C dX6_leave_44 rfl ?_
  refine r_lload_n (pc := 46) C dX6_leave_46 rfl rfl ?_
  refine r_lrem (pc := 47) C dX6_leave_47 (by decide) ?_
  show g 0 0 (wM (up2 (up2 M 15 (k1 (nI (q + 1)))) 14 (upd (upd (M 14) q 13) (q + 1) 10))) 48 [some (.ref 0), some (.long 1310), none, some (.long 1), none, some (.long 10), none] [.long (rmL 10 1)]
  rw [show (rmL 10 1 : Int64) = 0 from by decide]
  refine r_lstore (pc := 48) (lv' := [some (.ref 0), some (.long 1310), none, some (.long 1), none, some (.long 0), none]) C dX6_leave_48 (Nat.le_of_ble_eq_true rfl) trivial rfl ?_
  refine r_aload_n (pc := 50) C dX6_leave_50 rfl rfl ?_
  refine r_dup (pc := 51) C dX6_leave_51 rfl ?_
  refine r_getfield (pc := 52) (v := .int (nI (q + 1))) C xf_X6_218 dX6_leave_52 rfl rfl ?_
  refine r_iconst (pc := 55) (v := 1) C dX6_leave_55 (by decide) ?_
  refine r_iadd (pc := 56) C dX6_leave_56 ?_
  show g 0 0 (wM (up2 (up2 M 15 (k1 (nI (q + 1)))) 14 (upd (upd (M 14) q 13) (q + 1) 10))) 57 [some (.ref 0), some (.long 1310), none, some (.long 1), none, some (.long 0), none] [.int ((nI (q + 1)) + 1), .ref 0]
  rw [show ((nI (q + 1)) + 1 : Int32) = nI ((q + 1) + 1) from (nI_sum (m := (q + 1)) (n := 1) rfl rfl)]
  refine r_putfield (pc := 57) (θ' := wM (up2 (up2 M 14 (upd (upd (M 14) q 13) (q + 1) 10)) 15 (k1 (nI ((q + 1) + 1))))) C xf_X6_218 xt_X6_15 dX6_leave_57 rfl (Nat.le_of_ble_eq_true rfl) (fun _ => ⟨rfl, rfl⟩) rfl ?_
  refine r_lload_n (pc := 60) C dX6_leave_60 rfl rfl ?_
  refine r_ldc2 (pc := 61) (v := 100) C dX6_leave_61 tw_906 ?_
  refine r_ldiv (pc := 64) C dX6_leave_64 (by decide) ?_
  rw [show (1 / 100 : Int64) = 0 from by decide]
  refine r_lstore_n (pc := 65) (lv' := [some (.ref 0), some (.long 1310), none, some (.long 0), none, some (.long 0), none]) C dX6_leave_65 rfl (Nat.le_of_ble_eq_true rfl) trivial rfl ?_
  refine r_goto (pc := 66) (tgt := 24) C dX6_leave_66 (by decide) ?_
  refine r_lload_n (pc := 24) C dX6_leave_24 rfl rfl ?_
  refine r_lconst (pc := 25) (v := 0) C dX6_leave_25 (by decide) ?_
  refine r_lcmp (pc := 26) C dX6_leave_26 ?_
  rw [show (lg_cmp 0 0 : Int32) = 0 from by decide]
  refine r_if_le (pc := 27) (tgt := 69) C dX6_leave_27 (by decide) (fun _ => ?_) (fun h => absurd (by decide) h)
  show g 0 0 (wM (up2 (up2 M 14 (upd (upd (M 14) q 13) (q + 1) 10)) 15 (k1 (nI ((q + 1) + 1))))) 69 [some (.ref 0), some (.long 1310), none, some (.long 0), none, some (.long 0), none] []
  exact E _ _ _ _ _ dX6_leave_69 (Nat.le_refl _) (Nat.le_refl _) ⟨rfl, rfl⟩
set_option maxHeartbeats 4000000 in
set_option maxRecDepth 100000 in
theorem c_X6_leave_121110 (M : Nat → Nat → Int32) (q : Nat) (hq : M 15 0 = nI q) (hq16 : q + 3 ≤ 16) : MetA yX6_leave (.code yX6_leave cX6_leave 7 none :: TT) rmX6_leave [.ref 0, .long 121110] (wM M) (fun vr wr => vr = none ∧ wr = wM (up2 (up2 M 14 (upd (upd (upd (M 14) (q) 12) (q + 1) 11) (q + 1 + 1) 10)) 15 (k1 (nI (q + 1 + 1 + 1))))) 0 0 := by
  refine MetA.of_v (by decide) (fun _ => Nat.le_of_ble_eq_true rfl) (Nat.le_of_ble_eq_true rfl) (fun g C E => ?_)
  replace C : Sem cX6_leave RX6 "leave" 7 rmX6_leave g := C
  show g 0 0 (wM M) 0 [some (.ref 0), some (.long 121110), none, none, none, none, none] []
  refine r_lconst (pc := 0) (v := 1) C dX6_leave_0 (by decide) ?_
  refine r_lstore_n (pc := 1) (lv' := [some (.ref 0), some (.long 121110), none, some (.long 1), none, none, none]) C dX6_leave_1 rfl (Nat.le_of_ble_eq_true rfl) trivial rfl ?_
  refine r_lload_n (pc := 2) C dX6_leave_2 rfl rfl ?_
  refine r_ldc2 (pc := 3) (v := 100) C dX6_leave_3 tw_906 ?_
  refine r_lmul (pc := 6) C dX6_leave_6 ?_
  rw [show (1 * 100 : Int64) = 100 from by decide]
  refine r_lload_n (pc := 7) C dX6_leave_7 rfl rfl ?_
  refine r_lcmp (pc := 8) C dX6_leave_8 ?_
  rw [show (lg_cmp 100 121110 : Int32) = (-1) from by decide]
  refine r_if_gt (pc := 9) (tgt := 21) C dX6_leave_9 (by decide) (fun h => absurd h (by decide)) (fun _ => ?_)
  refine r_lload_n (pc := 12) C dX6_leave_12 rfl rfl ?_
  refine r_ldc2 (pc := 13) (v := 100) C dX6_leave_13 tw_906 ?_
  refine r_lmul (pc := 16) C dX6_leave_16 ?_
  rw [show (1 * 100 : Int64) = 100 from by decide]
  refine r_lstore_n (pc := 17) (lv' := [some (.ref 0), some (.long 121110), none, some (.long 100), none, none, none]) C dX6_leave_17 rfl (Nat.le_of_ble_eq_true rfl) trivial rfl ?_
  refine r_goto (pc := 18) (tgt := 2) C dX6_leave_18 (by decide) ?_
  refine r_lload_n (pc := 2) C dX6_leave_2 rfl rfl ?_
  refine r_ldc2 (pc := 3) (v := 100) C dX6_leave_3 tw_906 ?_
  refine r_lmul (pc := 6) C dX6_leave_6 ?_
  rw [show (100 * 100 : Int64) = 10000 from by decide]
  refine r_lload_n (pc := 7) C dX6_leave_7 rfl rfl ?_
  refine r_lcmp (pc := 8) C dX6_leave_8 ?_
  rw [show (lg_cmp 10000 121110 : Int32) = (-1) from by decide]
  refine r_if_gt (pc := 9) (tgt := 21) C dX6_leave_9 (by decide) (fun h => absurd h (by decide)) (fun _ => ?_)
  refine r_lload_n (pc := 12) C dX6_leave_12 rfl rfl ?_
  refine r_ldc2 (pc := 13) (v := 100) C dX6_leave_13 tw_906 ?_
  refine r_lmul (pc := 16) C dX6_leave_16 ?_
  rw [show (100 * 100 : Int64) = 10000 from by decide]
  refine r_lstore_n (pc := 17) (lv' := [some (.ref 0), some (.long 121110), none, some (.long 10000), none, none, none]) C dX6_leave_17 rfl (Nat.le_of_ble_eq_true rfl) trivial rfl ?_
  refine r_goto (pc := 18) (tgt := 2) C dX6_leave_18 (by decide) ?_
  refine r_lload_n (pc := 2) C dX6_leave_2 rfl rfl ?_
  refine r_ldc2 (pc := 3) (v := 100) C dX6_leave_3 tw_906 ?_
  refine r_lmul (pc := 6) C dX6_leave_6 ?_
  rw [show (10000 * 100 : Int64) = 1000000 from by decide]
  refine r_lload_n (pc := 7) C dX6_leave_7 rfl rfl ?_
  refine r_lcmp (pc := 8) C dX6_leave_8 ?_
  rw [show (lg_cmp 1000000 121110 : Int32) = 1 from by decide]
  refine r_if_gt (pc := 9) (tgt := 21) C dX6_leave_9 (by decide) (fun _ => ?_) (fun h => absurd (by decide) h)
  refine r_lload_n (pc := 21) C dX6_leave_21 rfl rfl ?_
  refine r_lstore (pc := 22) (lv' := [some (.ref 0), some (.long 121110), none, some (.long 10000), none, some (.long 121110), none]) C dX6_leave_22 (Nat.le_of_ble_eq_true rfl) trivial rfl ?_
  refine r_lload_n (pc := 24) C dX6_leave_24 rfl rfl ?_
  refine r_lconst (pc := 25) (v := 0) C dX6_leave_25 (by decide) ?_
  refine r_lcmp (pc := 26) C dX6_leave_26 ?_
  rw [show (lg_cmp 10000 0 : Int32) = 1 from by decide]
  refine r_if_le (pc := 27) (tgt := 69) C dX6_leave_27 (by decide) (fun h => absurd h (by decide)) (fun _ => ?_)
  refine r_aload_n (pc := 30) C dX6_leave_30 rfl rfl ?_
  refine r_getfield (pc := 31) (v := .ref 11) C xf_X6_41 dX6_leave_31 rfl rfl ?_
  refine r_aload_n (pc := 34) C dX6_leave_34 rfl rfl ?_
  refine r_getfield (pc := 35) (v := .int (M 15 0)) C xf_X6_218 dX6_leave_35 rfl rfl ?_
  refine r_lload (pc := 38) C dX6_leave_38 rfl ?_
  refine r_lload_n (pc := 40) C dX6_leave_40 rfl rfl ?_
  refine r_ldiv (pc := 41) C dX6_leave_41 (by decide) ?_
  rw [show (121110 / 10000 : Int64) = 12 from by decide]
  refine r_l2i (pc := 42) (v := 12) C dX6_leave_42 (by decide) ?_
  refine r_iastore (pc := 43) (θ' := wM (up2 M 14 (upd (M 14) q 12))) C q dX6_leave_43 rfl hq (by first | assumption | omega) rfl ?_
  refine r_lload (pc := 44) C dX6_leave_44 rfl ?_
  refine r_lload_n (pc := 46) C dX6_leave_46 rfl rfl ?_
  refine r_lrem (pc := 47) C dX6_leave_47 (by decide) ?_
  show g 0 0 (wM (up2 M 14 (upd (M 14) q 12))) 48 [some (.ref 0), some (.long 121110), none, some (.long 10000), none, some (.long 121110), none] [.long (rmL 121110 10000)]
  rw [show (rmL 121110 10000 : Int64) = 1110 from by decide]
  refine r_lstore (pc := 48) (lv' := [some (.ref 0), some (.long 121110), none, some (.long 10000), none, some (.long 1110), none]) C dX6_leave_48 (Nat.le_of_ble_eq_true rfl) trivial rfl ?_
  refine r_aload_n (pc := 50) C dX6_leave_50 rfl rfl ?_
  refine r_dup (pc := 51) C dX6_leave_51 rfl ?_
  refine r_getfield (pc := 52) (v := .int (M 15 0)) C xf_X6_218 dX6_leave_52 rfl rfl ?_
  refine r_iconst (pc := 55) (v := 1) C dX6_leave_55 (by decide) ?_
  refine r_iadd (pc := 56) C dX6_leave_56 ?_
  show g 0 0 (wM (up2 M 14 (upd (M 14) q 12))) 57 [some (.ref 0), some (.long 121110), none, some (.long 10000), none, some (.long 1110), none] [.int ((M 15 0) + 1), .ref 0]
  rw [show ((M 15 0) + 1 : Int32) = nI (q + 1) from (nI_sum (m := q) (n := 1) hq rfl)]
  refine r_putfield (pc := 57) (θ' := wM (up2 (up2 M 14 (upd (M 14) q 12)) 15 (k1 (nI (q + 1))))) C xf_X6_218 xt_X6_15 dX6_leave_57 rfl (Nat.le_of_ble_eq_true rfl) (fun _ => ⟨rfl, rfl⟩) rfl ?_
  refine r_lload_n (pc := 60) C dX6_leave_60 rfl rfl ?_
  refine r_ldc2 (pc := 61) (v := 100) C dX6_leave_61 tw_906 ?_
  refine r_ldiv (pc := 64) C dX6_leave_64 (by decide) ?_
  rw [show (10000 / 100 : Int64) = 100 from by decide]
  refine r_lstore_n (pc := 65) (lv' := [some (.ref 0), some (.long 121110), none, some (.long 100), none, some (.long 1110), none]) C dX6_leave_65 rfl (Nat.le_of_ble_eq_true rfl) trivial rfl ?_
  refine r_goto (pc := 66) (tgt := 24) C dX6_leave_66 (by decide) ?_
  refine r_lload_n (pc := 24) C dX6_leave_24 rfl rfl ?_
  refine r_lconst (pc := 25) (v := 0) C dX6_leave_25 (by decide) ?_
  refine r_lcmp (pc := 26) C dX6_leave_26 ?_
  rw [show (lg_cmp 100 0 : Int32) = 1 from by decide]
  refine r_if_le (pc := 27) (tgt := 69) C dX6_leave_27 (by decide) (fun h => absurd h (by decide)) (fun _ => ?_)
  refine r_aload_n (pc := 30) C dX6_leave_30 rfl rfl ?_
  refine r_getfield (pc := 31) (v := .ref 11) C xf_X6_41 dX6_leave_31 rfl rfl ?_
  refine r_aload_n (pc := 34) C dX6_leave_34 rfl rfl ?_
  refine r_getfield (pc := 35) (v := .int (nI (q + 1))) C xf_X6_218 dX6_leave_35 rfl rfl ?_
  refine r_lload (pc := 38) C dX6_leave_38 rfl ?_
  refine r_lload_n (pc := 40) C dX6_leave_40 rfl rfl ?_
  refine r_ldiv (pc := 41) C dX6_leave_41 (by decide) ?_
  rw [show (1110 / 100 : Int64) = 11 from by decide]
  refine r_l2i (pc := 42) (v := 11) C dX6_leave_42 (by decide) ?_
  refine r_iastore (pc := 43) (θ' := wM (up2 (up2 M 15 (k1 (nI (q + 1)))) 14 (upd (upd (M 14) q 12) (q + 1) 11))) C (q + 1) dX6_leave_43 rfl rfl (by first | assumption | omega) rfl ?_
  refine r_lload (pc := 44) C dX6_leave_44 rfl ?_
  refine r_lload_n (pc := 46) C dX6_leave_46 rfl rfl ?_
  refine r_lrem (pc := 47) C dX6_leave_47 (by decide) ?_
  show g 0 0 (wM (up2 (up2 M 15 (k1 (nI (q + 1)))) 14 (upd (upd (M 14) q 12) (q + 1) 11))) 48 [some (.ref 0), some (.long 121110), none, some (.long 100), none, some (.long 1110), none] [.long (rmL 1110 100)]
  rw [show (rmL 1110 100 : Int64) = 10 from by decide]
  refine r_lstore (pc := 48) (lv' := [some (.ref 0), some (.long 121110), none, some (.long 100), none, some (.long 10), none]) C dX6_leave_48 (Nat.le_of_ble_eq_true rfl) trivial rfl ?_
  refine r_aload_n (pc := 50) C dX6_leave_50 rfl rfl ?_
  refine r_dup (pc := 51) C dX6_leave_51 rfl ?_
  refine r_getfield (pc := 52) (v := .int (nI (q + 1))) C xf_X6_218 dX6_leave_52 rfl rfl ?_
  refine r_iconst (pc := 55) (v := 1) C dX6_leave_55 (by decide) ?_
  refine r_iadd (pc := 56) C dX6_leave_56 ?_
  show g 0 0 (wM (up2 (up2 M 15 (k1 (nI (q + 1)))) 14 (upd (upd (M 14) q 12) (q + 1) 11))) 57 [some (.ref 0), some (.long 121110), none, some (.long 100), none, some (.long 10), none] [.int ((nI (q + 1)) + 1), .ref 0]
  rw [show ((nI (q + 1)) + 1 : Int32) = nI ((q + 1) + 1) from (nI_sum (m := (q + 1)) (n := 1) rfl rfl)]
  refine r_putfield (pc := 57) (θ' := wM (up2 (up2 M 14 (upd (upd (M 14) q 12) (q + 1) 11)) 15 (k1 (nI ((q + 1) + 1))))) C xf_X6_218 xt_X6_15 dX6_leave_57 rfl (Nat.le_of_ble_eq_true rfl) (fun _ => ⟨rfl, rfl⟩) rfl ?_
  refine r_lload_n (pc := 60) C dX6_leave_60 rfl rfl ?_
  refine r_ldc2 (pc := 61) (v := 100) C dX6_leave_61 tw_906 ?_
  refine r_ldiv (pc := 64) C dX6_leave_64 (by decide) ?_
  rw [show (100 / 100 : Int64) = 1 from by decide]
  refine r_lstore_n (pc := 65) (lv' := [some (.ref 0), some (.long 121110), none, some (.long 1), none, some (.long 10), none]) C dX6_leave_65 rfl (Nat.le_of_ble_eq_true rfl) trivial rfl ?_
  refine r_goto (pc := 66) (tgt := 24) C dX6_leave_66 (by decide) ?_
  refine r_lload_n (pc := 24) C dX6_leave_24 rfl rfl ?_
  refine r_lconst (pc := 25) (v := 0) C dX6_leave_25 (by decide) ?_
  refine r_lcmp (pc := 26) C dX6_leave_26 ?_
  rw [show (lg_cmp 1 0 : Int32) = 1 from by decide]
  refine r_if_le (pc := 27) (tgt := 69) C dX6_leave_27 (by decide) (fun h => absurd h (by decide)) (fun _ => ?_)
  refine r_aload_n (pc := 30) C dX6_leave_30 rfl rfl ?_
  refine r_getfield (pc := 31) (v := .ref 11) C xf_X6_41 dX6_leave_31 rfl rfl ?_
  refine r_aload_n (pc := 34) C dX6_leave_34 rfl rfl ?_
  refine r_getfield (pc := 35) (v := .int (nI ((q + 1) + 1))) C xf_X6_218 dX6_leave_35 rfl rfl ?_
  refine r_lload (pc := 38) C dX6_leave_38 rfl ?_
  refine r_lload_n (pc := 40) C dX6_leave_40 rfl rfl ?_
  refine r_ldiv (pc := 41) C dX6_leave_41 (by decide) ?_
  rw [show (10 / 1 : Int64) = 10 from by decide]
  refine r_l2i (pc := 42) (v := 10) C dX6_leave_42 (by decide) ?_
  refine r_iastore (pc := 43) (θ' := wM (up2 (up2 M 15 (k1 (nI ((q + 1) + 1)))) 14 (upd (upd (upd (M 14) q 12) (q + 1) 11) ((q + 1) + 1) 10))) C ((q + 1) + 1) dX6_leave_43 rfl rfl (by first | assumption | omega) rfl ?_
  refine r_lload (pc := 44) C dX6_leave_44 rfl ?_
  refine r_lload_n (pc := 46) C dX6_leave_46 rfl rfl ?_
  refine r_lrem (pc := 47) C dX6_leave_47 (by decide) ?_
  show g 0 0 (wM (up2 (up2 M 15 (k1 (nI ((q + 1) + 1)))) 14 (upd (upd (upd (M 14) q 12) (q + 1) 11) ((q + 1) + 1) 10))) 48 [some (.ref 0), some (.long 121110), none, some (.long 1), none, some (.long 10), none] [.long (rmL 10 1)]
  rw [show (rmL 10 1 : Int64) = 0 from by decide]
  refine r_lstore (pc := 48) (lv' := [some (.ref 0), some (.long 121110), none, some (.long 1), none, some (.long 0), none]) C dX6_leave_48 (Nat.le_of_ble_eq_true rfl) trivial rfl ?_
  refine r_aload_n (pc := 50) C dX6_leave_50 rfl rfl ?_
  refine r_dup (pc := 51) C dX6_leave_51 rfl ?_
  refine r_getfield (pc := 52) (v := .int (nI ((q + 1) + 1))) C xf_X6_218 dX6_leave_52 rfl rfl ?_
  refine r_iconst (pc := 55) (v := 1) C dX6_leave_55 (by decide) ?_
  refine r_iadd (pc := 56) C dX6_leave_56 ?_
  show g 0 0 (wM (up2 (up2 M 15 (k1 (nI ((q + 1) + 1)))) 14 (upd (upd (upd (M 14) q 12) (q + 1) 11) ((q + 1) + 1) 10))) 57 [some (.ref 0), some (.long 121110), none, some (.long 1), none, some (.long 0), none] [.int ((nI ((q + 1) + 1)) + 1), .ref 0]
  rw [show ((nI ((q + 1) + 1)) + 1 : Int32) = nI (((q + 1) + 1) + 1) from (nI_sum (m := ((q + 1) + 1)) (n := 1) rfl rfl)]
  refine r_putfield (pc := 57) (θ' := wM (up2 (up2 M 14 (upd (upd (upd (M 14) q 12) (q + 1) 11) ((q + 1) + 1) 10)) 15 (k1 (nI (((q + 1) + 1) + 1))))) C xf_X6_218 xt_X6_15 dX6_leave_57 rfl (Nat.le_of_ble_eq_true rfl) (fun _ => ⟨rfl, rfl⟩) rfl ?_
  refine r_lload_n (pc := 60) C dX6_leave_60 rfl rfl ?_
  refine r_ldc2 (pc := 61) (v := 100) C dX6_leave_61 tw_906 ?_
  refine r_ldiv (pc := 64) C dX6_leave_64 (by decide) ?_
  rw [show (1 / 100 : Int64) = 0 from by decide]
  refine r_lstore_n (pc := 65) (lv' := [some (.ref 0), some (.long 121110), none, some (.long 0), none, some (.long 0), none]) C dX6_leave_65 rfl (Nat.le_of_ble_eq_true rfl) trivial rfl ?_
  refine r_goto (pc := 66) (tgt := 24) C dX6_leave_66 (by decide) ?_
  refine r_lload_n (pc := 24) C dX6_leave_24 rfl rfl ?_
  refine r_lconst (pc := 25) (v := 0) C dX6_leave_25 (by decide) ?_
  refine r_lcmp (pc := 26) C dX6_leave_26 ?_
  rw [show (lg_cmp 0 0 : Int32) = 0 from by decide]
  refine r_if_le (pc := 27) (tgt := 69) C dX6_leave_27 (by decide) (fun _ => ?_) (fun h => absurd (by decide) h)
  show g 0 0 (wM (up2 (up2 M 14 (upd (upd (upd (M 14) q 12) (q + 1) 11) ((q + 1) + 1) 10)) 15 (k1 (nI (((q + 1) + 1) + 1))))) 69 [some (.ref 0), some (.long 121110), none, some (.long 0), none, some (.long 0), none] []
  exact E _ _ _ _ _ dX6_leave_69 (Nat.le_refl _) (Nat.le_refl _) ⟨rfl, rfl⟩
set_option maxHeartbeats 4000000 in
set_option maxRecDepth 100000 in
theorem c_X6_leave_1110 (M : Nat → Nat → Int32) (q : Nat) (hq : M 15 0 = nI q) (hq16 : q + 2 ≤ 16) : MetA yX6_leave (.code yX6_leave cX6_leave 7 none :: TT) rmX6_leave [.ref 0, .long 1110] (wM M) (fun vr wr => vr = none ∧ wr = wM (up2 (up2 M 14 (upd (upd (M 14) (q) 11) (q + 1) 10)) 15 (k1 (nI (q + 1 + 1))))) 0 0 := by
  refine MetA.of_v (by decide) (fun _ => Nat.le_of_ble_eq_true rfl) (Nat.le_of_ble_eq_true rfl) (fun g C E => ?_)
  replace C : Sem cX6_leave RX6 "leave" 7 rmX6_leave g := C
  show g 0 0 (wM M) 0 [some (.ref 0), some (.long 1110), none, none, none, none, none] []
  refine r_lconst (pc := 0) (v := 1) C dX6_leave_0 (by decide) ?_
  refine r_lstore_n (pc := 1) (lv' := [some (.ref 0), some (.long 1110), none, some (.long 1), none, none, none]) C dX6_leave_1 rfl (Nat.le_of_ble_eq_true rfl) trivial rfl ?_
  refine r_lload_n (pc := 2) C dX6_leave_2 rfl rfl ?_
  refine r_ldc2 (pc := 3) (v := 100) C dX6_leave_3 tw_906 ?_
  refine r_lmul (pc := 6) C dX6_leave_6 ?_
  rw [show (1 * 100 : Int64) = 100 from by decide]
  refine r_lload_n (pc := 7) C dX6_leave_7 rfl rfl ?_
  refine r_lcmp (pc := 8) C dX6_leave_8 ?_
  rw [show (lg_cmp 100 1110 : Int32) = (-1) from by decide]
  refine r_if_gt (pc := 9) (tgt := 21) C dX6_leave_9 (by decide) (fun h => absurd h (by decide)) (fun _ => ?_)
  refine r_lload_n (pc := 12) C dX6_leave_12 rfl rfl ?_
  refine r_ldc2 (pc := 13) (v := 100) C dX6_leave_13 tw_906 ?_
  refine r_lmul (pc := 16) C dX6_leave_16 ?_
  rw [show (1 * 100 : Int64) = 100 from by decide]
  refine r_lstore_n (pc := 17) (lv' := [some (.ref 0), some (.long 1110), none, some (.long 100), none, none, none]) C dX6_leave_17 rfl (Nat.le_of_ble_eq_true rfl) trivial rfl ?_
  refine r_goto (pc := 18) (tgt := 2) C dX6_leave_18 (by decide) ?_
  refine r_lload_n (pc := 2) C dX6_leave_2 rfl rfl ?_
  refine r_ldc2 (pc := 3) (v := 100) C dX6_leave_3 tw_906 ?_
  refine r_lmul (pc := 6) C dX6_leave_6 ?_
  rw [show (100 * 100 : Int64) = 10000 from by decide]
  refine r_lload_n (pc := 7) C dX6_leave_7 rfl rfl ?_
  refine r_lcmp (pc := 8) C dX6_leave_8 ?_
  rw [show (lg_cmp 10000 1110 : Int32) = 1 from by decide]
  refine r_if_gt (pc := 9) (tgt := 21) C dX6_leave_9 (by decide) (fun _ => ?_) (fun h => absurd (by decide) h)
  refine r_lload_n (pc := 21) C dX6_leave_21 rfl rfl ?_
  refine r_lstore (pc := 22) (lv' := [some (.ref 0), some (.long 1110), none, some (.long 100), none, some (.long 1110), none]) C dX6_leave_22 (Nat.le_of_ble_eq_true rfl) trivial rfl ?_
  refine r_lload_n (pc := 24) C dX6_leave_24 rfl rfl ?_
  refine r_lconst (pc := 25) (v := 0) C dX6_leave_25 (by decide) ?_
  refine r_lcmp (pc := 26) C dX6_leave_26 ?_
  rw [show (lg_cmp 100 0 : Int32) = 1 from by decide]
  refine r_if_le (pc := 27) (tgt := 69) C dX6_leave_27 (by decide) (fun h => absurd h (by decide)) (fun _ => ?_)
  refine r_aload_n (pc := 30) C dX6_leave_30 rfl rfl ?_
  refine r_getfield (pc := 31) (v := .ref 11) C xf_X6_41 dX6_leave_31 rfl rfl ?_
  refine r_aload_n (pc := 34) C dX6_leave_34 rfl rfl ?_
  refine r_getfield (pc := 35) (v := .int (M 15 0)) C xf_X6_218 dX6_leave_35 rfl rfl ?_
  refine r_lload (pc := 38) C dX6_leave_38 rfl ?_
  refine r_lload_n (pc := 40) C dX6_leave_40 rfl rfl ?_
  refine r_ldiv (pc := 41) C dX6_leave_41 (by decide) ?_
  rw [show (1110 / 100 : Int64) = 11 from by decide]
  refine r_l2i (pc := 42) (v := 11) C dX6_leave_42 (by decide) ?_
  refine r_iastore (pc := 43) (θ' := wM (up2 M 14 (upd (M 14) q 11))) C q dX6_leave_43 rfl hq (by first | assumption | omega) rfl ?_
  refine r_lload (pc := 44) C dX6_leave_44 rfl ?_
  refine r_lload_n (pc := 46) C dX6_leave_46 rfl rfl ?_
  refine r_lrem (pc := 47) C dX6_leave_47 (by decide) ?_
  show g 0 0 (wM (up2 M 14 (upd (M 14) q 11))) 48 [some (.ref 0), some (.long 1110), none, some (.long 100), none, some (.long 1110), none] [.long (rmL 1110 100)]
  rw [show (rmL 1110 100 : Int64) = 10 from by decide]
  refine r_lstore (pc := 48) (lv' := [some (.ref 0), some (.long 1110), none, some (.long 100), none, some (.long 10), none]) C dX6_leave_48 (Nat.le_of_ble_eq_true rfl) trivial rfl ?_
  refine r_aload_n (pc := 50) C dX6_leave_50 rfl rfl ?_
  refine r_dup (pc := 51) C dX6_leave_51 rfl ?_
  refine r_getfield (pc := 52) (v := .int (M 15 0)) C xf_X6_218 dX6_leave_52 rfl rfl ?_
  refine r_iconst (pc := 55) (v := 1) C dX6_leave_55 (by decide) ?_
  refine r_iadd (pc := 56) C dX6_leave_56 ?_
  show g 0 0 (wM (up2 M 14 (upd (M 14) q 11))) 57 [some (.ref 0), some (.long 1110), none, some (.long 100), none, some (.long 10), none] [.int ((M 15 0) + 1), .ref 0]
  rw [show ((M 15 0) + 1 : Int32) = nI (q + 1) from (nI_sum (m := q) (n := 1) hq rfl)]
  refine r_putfield (pc := 57) (θ' := wM (up2 (up2 M 14 (upd (M 14) q 11)) 15 (k1 (nI (q + 1))))) C xf_X6_218 xt_X6_15 dX6_leave_57 rfl (Nat.le_of_ble_eq_true rfl) (fun _ => ⟨rfl, rfl⟩) rfl ?_
  refine r_lload_n (pc := 60) C dX6_leave_60 rfl rfl ?_
  refine r_ldc2 (pc := 61) (v := 100) C dX6_leave_61 tw_906 ?_
  refine r_ldiv (pc := 64) C dX6_leave_64 (by decide) ?_
  rw [show (100 / 100 : Int64) = 1 from by decide]
  refine r_lstore_n (pc := 65) (lv' := [some (.ref 0), some (.long 1110), none, some (.long 1), none, some (.long 10), none]) C dX6_leave_65 rfl (Nat.le_of_ble_eq_true rfl) trivial rfl ?_
  refine r_goto (pc := 66) (tgt := 24) C dX6_leave_66 (by decide) ?_
  refine r_lload_n (pc := 24) C dX6_leave_24 rfl rfl ?_
  refine r_lconst (pc := 25) (v := 0) C dX6_leave_25 (by decide) ?_
  refine r_lcmp (pc := 26) C dX6_leave_26 ?_
  rw [show (lg_cmp 1 0 : Int32) = 1 from by decide]
  refine r_if_le (pc := 27) (tgt := 69) C dX6_leave_27 (by decide) (fun h => absurd h (by decide)) (fun _ => ?_)
  refine r_aload_n (pc := 30) C dX6_leave_30 rfl rfl ?_
  refine r_getfield (pc := 31) (v := .ref 11) C xf_X6_41 dX6_leave_31 rfl rfl ?_
  refine r_aload_n (pc := 34) C dX6_leave_34 rfl rfl ?_
  refine r_getfield (pc := 35) (v := .int (nI (q + 1))) C xf_X6_218 dX6_leave_35 rfl rfl ?_
  refine r_lload (pc := 38) C dX6_leave_38 rfl ?_
  refine r_lload_n (pc := 40) C dX6_leave_40 rfl rfl ?_
  refine r_ldiv (pc := 41) C dX6_leave_41 (by decide) ?_
  rw [show (10 / 1 : Int64) = 10 from by decide]
  refine r_l2i (pc := 42) (v := 10) C dX6_leave_42 (by decide) ?_
  refine r_iastore (pc := 43) (θ' := wM (up2 (up2 M 15 (k1 (nI (q + 1)))) 14 (upd (upd (M 14) q 11) (q + 1) 10))) C (q + 1) dX6_leave_43 rfl rfl (by first | assumption | omega) rfl ?_
  refine r_lload (pc := 44) C dX6_leave_44 rfl ?_
  refine r_lload_n (pc := 46) C dX6_leave_46 rfl rfl ?_
  refine r_lrem (pc := 47) C dX6_leave_47 (by decide) ?_
  show g 0 0 (wM (up2 (up2 M 15 (k1 (nI (q + 1)))) 14 (upd (upd (M 14) q 11) (q + 1) 10))) 48 [some (.ref 0), some (.long 1110), none, some (.long 1), none, some (.long 10), none] [.long (rmL 10 1)]
  rw [show (rmL 10 1 : Int64) = 0 from by decide]
  refine r_lstore (pc := 48) (lv' := [some (.ref 0), some (.long 1110), none, some (.long 1), none, some (.long 0), none]) C dX6_leave_48 (Nat.le_of_ble_eq_true rfl) trivial rfl ?_
  refine r_aload_n (pc := 50) C dX6_leave_50 rfl rfl ?_
  refine r_dup (pc := 51) C dX6_leave_51 rfl ?_
  refine r_getfield (pc := 52) (v := .int (nI (q + 1))) C xf_X6_218 dX6_leave_52 rfl rfl ?_
  refine r_iconst (pc := 55) (v := 1) C dX6_leave_55 (by decide) ?_
  refine r_iadd (pc := 56) C dX6_leave_56 ?_
  show g 0 0 (wM (up2 (up2 M 15 (k1 (nI (q + 1)))) 14 (upd (upd (M 14) q 11) (q + 1) 10))) 57 [some (.ref 0), some (.long 1110), none, some (.long 1), none, some (.long 0), none] [.int ((nI (q + 1)) + 1), .ref 0]
  rw [show ((nI (q + 1)) + 1 : Int32) = nI ((q + 1) + 1) from (nI_sum (m := (q + 1)) (n := 1) rfl rfl)]
  refine r_putfield (pc := 57) (θ' := wM (up2 (up2 M 14 (upd (upd (M 14) q 11) (q + 1) 10)) 15 (k1 (nI ((q + 1) + 1))))) C xf_X6_218 xt_X6_15 dX6_leave_57 rfl (Nat.le_of_ble_eq_true rfl) (fun _ => ⟨rfl, rfl⟩) rfl ?_
  refine r_lload_n (pc := 60) C dX6_leave_60 rfl rfl ?_
  refine r_ldc2 (pc := 61) (v := 100) C dX6_leave_61 tw_906 ?_
  refine r_ldiv (pc := 64) C dX6_leave_64 (by decide) ?_
  rw [show (1 / 100 : Int64) = 0 from by decide]
  refine r_lstore_n (pc := 65) (lv' := [some (.ref 0), some (.long 1110), none, some (.long 0), none, some (.long 0), none]) C dX6_leave_65 rfl (Nat.le_of_ble_eq_true rfl) trivial rfl ?_
  refine r_goto (pc := 66) (tgt := 24) C dX6_leave_66 (by decide) ?_
  refine r_lload_n (pc := 24) C dX6_leave_24 rfl rfl ?_
  refine r_lconst (pc := 25) (v := 0) C dX6_leave_25 (by decide) ?_
  refine r_lcmp (pc := 26) C dX6_leave_26 ?_
  rw [show (lg_cmp 0 0 : Int32) = 0 from by decide]
  refine r_if_le (pc := 27) (tgt := 69) C dX6_leave_27 (by decide) (fun _ => ?_) (fun h => absurd (by decide) h)
  show g 0 0 (wM (up2 (up2 M 14 (upd (upd (M 14) q 11) (q + 1) 10)) 15 (k1 (nI ((q + 1) + 1))))) 69 [some (.ref 0), some (.long 1110), none, some (.long 0), none, some (.long 0), none] []
  exact E _ _ _ _ _ dX6_leave_69 (Nat.le_refl _) (Nat.le_refl _) ⟨rfl, rfl⟩
set_option maxHeartbeats 4000000 in
set_option maxRecDepth 100000 in
theorem c_X6_leave_2320 (M : Nat → Nat → Int32) (q : Nat) (hq : M 15 0 = nI q) (hq16 : q + 2 ≤ 16) : MetA yX6_leave (.code yX6_leave cX6_leave 7 none :: TT) rmX6_leave [.ref 0, .long 2320] (wM M) (fun vr wr => vr = none ∧ wr = wM (up2 (up2 M 14 (upd (upd (M 14) (q) 23) (q + 1) 20)) 15 (k1 (nI (q + 1 + 1))))) 0 0 := by
  refine MetA.of_v (by decide) (fun _ => Nat.le_of_ble_eq_true rfl) (Nat.le_of_ble_eq_true rfl) (fun g C E => ?_)
  replace C : Sem cX6_leave RX6 "leave" 7 rmX6_leave g := C
  show g 0 0 (wM M) 0 [some (.ref 0), some (.long 2320), none, none, none, none, none] []
  refine r_lconst (pc := 0) (v := 1) C dX6_leave_0 (by decide) ?_
  refine r_lstore_n (pc := 1) (lv' := [some (.ref 0), some (.long 2320), none, some (.long 1), none, none, none]) C dX6_leave_1 rfl (Nat.le_of_ble_eq_true rfl) trivial rfl ?_
  refine r_lload_n (pc := 2) C dX6_leave_2 rfl rfl ?_
  refine r_ldc2 (pc := 3) (v := 100) C dX6_leave_3 tw_906 ?_
  refine r_lmul (pc := 6) C dX6_leave_6 ?_
  rw [show (1 * 100 : Int64) = 100 from by decide]
  refine r_lload_n (pc := 7) C dX6_leave_7 rfl rfl ?_
  refine r_lcmp (pc := 8) C dX6_leave_8 ?_
  rw [show (lg_cmp 100 2320 : Int32) = (-1) from by decide]
  refine r_if_gt (pc := 9) (tgt := 21) C dX6_leave_9 (by decide) (fun h => absurd h (by decide)) (fun _ => ?_)
  refine r_lload_n (pc := 12) C dX6_leave_12 rfl rfl ?_
  refine r_ldc2 (pc := 13) (v := 100) C dX6_leave_13 tw_906 ?_
  refine r_lmul (pc := 16) C dX6_leave_16 ?_
  rw [show (1 * 100 : Int64) = 100 from by decide]
  refine r_lstore_n (pc := 17) (lv' := [some (.ref 0), some (.long 2320), none, some (.long 100), none, none, none]) C dX6_leave_17 rfl (Nat.le_of_ble_eq_true rfl) trivial rfl ?_
  refine r_goto (pc := 18) (tgt := 2) C dX6_leave_18 (by decide) ?_
  refine r_lload_n (pc := 2) C dX6_leave_2 rfl rfl ?_
  refine r_ldc2 (pc := 3) (v := 100) C dX6_leave_3 tw_906 ?_
  refine r_lmul (pc := 6) C dX6_leave_6 ?_
  rw [show (100 * 100 : Int64) = 10000 from by decide]
  refine r_lload_n (pc := 7) C dX6_leave_7 rfl rfl ?_
  refine r_lcmp (pc := 8) C dX6_leave_8 ?_
  rw [show (lg_cmp 10000 2320 : Int32) = 1 from by decide]
  refine r_if_gt (pc := 9) (tgt := 21) C dX6_leave_9 (by decide) (fun _ => ?_) (fun h => absurd (by decide) h)
  refine r_lload_n (pc := 21) C dX6_leave_21 rfl rfl ?_
  refine r_lstore (pc := 22) (lv' := [some (.ref 0), some (.long 2320), none, some (.long 100), none, some (.long 2320), none]) C dX6_leave_22 (Nat.le_of_ble_eq_true rfl) trivial rfl ?_
  refine r_lload_n (pc := 24) C dX6_leave_24 rfl rfl ?_
  refine r_lconst (pc := 25) (v := 0) C dX6_leave_25 (by decide) ?_
  refine r_lcmp (pc := 26) C dX6_leave_26 ?_
  rw [show (lg_cmp 100 0 : Int32) = 1 from by decide]
  refine r_if_le (pc := 27) (tgt := 69) C dX6_leave_27 (by decide) (fun h => absurd h (by decide)) (fun _ => ?_)
  refine r_aload_n (pc := 30) C dX6_leave_30 rfl rfl ?_
  refine r_getfield (pc := 31) (v := .ref 11) C xf_X6_41 dX6_leave_31 rfl rfl ?_
  refine r_aload_n (pc := 34) C dX6_leave_34 rfl rfl ?_
  refine r_getfield (pc := 35) (v := .int (M 15 0)) C xf_X6_218 dX6_leave_35 rfl rfl ?_
  refine r_lload (pc := 38) C dX6_leave_38 rfl ?_
  refine r_lload_n (pc := 40) C dX6_leave_40 rfl rfl ?_
  refine r_ldiv (pc := 41) C dX6_leave_41 (by decide) ?_
  rw [show (2320 / 100 : Int64) = 23 from by decide]
  refine r_l2i (pc := 42) (v := 23) C dX6_leave_42 (by decide) ?_
  refine r_iastore (pc := 43) (θ' := wM (up2 M 14 (upd (M 14) q 23))) C q dX6_leave_43 rfl hq (by first | assumption | omega) rfl ?_
  refine r_lload (pc := 44) C dX6_leave_44 rfl ?_
  refine r_lload_n (pc := 46) C dX6_leave_46 rfl rfl ?_
  refine r_lrem (pc := 47) C dX6_leave_47 (by decide) ?_
  show g 0 0 (wM (up2 M 14 (upd (M 14) q 23))) 48 [some (.ref 0), some (.long 2320), none, some (.long 100), none, some (.long 2320), none] [.long (rmL 2320 100)]
  rw [show (rmL 2320 100 : Int64) = 20 from by decide]
  refine r_lstore (pc := 48) (lv' := [some (.ref 0), some (.long 2320), none, some (.long 100), none, some (.long 20), none]) C dX6_leave_48 (Nat.le_of_ble_eq_true rfl) trivial rfl ?_
  refine r_aload_n (pc := 50) C dX6_leave_50 rfl rfl ?_
  refine r_dup (pc := 51) C dX6_leave_51 rfl ?_
  refine r_getfield (pc := 52) (v := .int (M 15 0)) C xf_X6_218 dX6_leave_52 rfl rfl ?_
  refine r_iconst (pc := 55) (v := 1) C dX6_leave_55 (by decide) ?_
  refine r_iadd (pc := 56) C dX6_leave_56 ?_
  show g 0 0 (wM (up2 M 14 (upd (M 14) q 23))) 57 [some (.ref 0), some (.long 2320), none, some (.long 100), none, some (.long 20), none] [.int ((M 15 0) + 1), .ref 0]
  rw [show ((M 15 0) + 1 : Int32) = nI (q + 1) from (nI_sum (m := q) (n := 1) hq rfl)]
  refine r_putfield (pc := 57) (θ' := wM (up2 (up2 M 14 (upd (M 14) q 23)) 15 (k1 (nI (q + 1))))) C xf_X6_218 xt_X6_15 dX6_leave_57 rfl (Nat.le_of_ble_eq_true rfl) (fun _ => ⟨rfl, rfl⟩) rfl ?_
  refine r_lload_n (pc := 60) C dX6_leave_60 rfl rfl ?_
  refine r_ldc2 (pc := 61) (v := 100) C dX6_leave_61 tw_906 ?_
  refine r_ldiv (pc := 64) C dX6_leave_64 (by decide) ?_
  rw [show (100 / 100 : Int64) = 1 from by decide]
  refine r_lstore_n (pc := 65) (lv' := [some (.ref 0), some (.long 2320), none, some (.long 1), none, some (.long 20), none]) C dX6_leave_65 rfl (Nat.le_of_ble_eq_true rfl) trivial rfl ?_
  refine r_goto (pc := 66) (tgt := 24) C dX6_leave_66 (by decide) ?_
  refine r_lload_n (pc := 24) C dX6_leave_24 rfl rfl ?_
  refine r_lconst (pc := 25) (v := 0) C dX6_leave_25 (by decide) ?_
  refine r_lcmp (pc := 26) C dX6_leave_26 ?_
  rw [show (lg_cmp 1 0 : Int32) = 1 from by decide]
  refine r_if_le (pc := 27) (tgt := 69) C dX6_leave_27 (by decide) (fun h => absurd h (by decide)) (fun _ => ?_)
  refine r_aload_n (pc := 30) C dX6_leave_30 rfl rfl ?_
  refine r_getfield (pc := 31) (v := .ref 11) C xf_X6_41 dX6_leave_31 rfl rfl ?_
  refine r_aload_n (pc := 34) C dX6_leave_34 rfl rfl ?_
  refine r_getfield (pc := 35) (v := .int (nI (q + 1))) C xf_X6_218 dX6_leave_35 rfl rfl ?_
  refine r_lload (pc := 38) C dX6_leave_38 rfl ?_
  refine r_lload_n (pc := 40) C dX6_leave_40 rfl rfl ?_
  refine r_ldiv (pc := 41) C dX6_leave_41 (by decide) ?_
  rw [show (20 / 1 : Int64) = 20 from by decide]
  refine r_l2i (pc := 42) (v := 20) C dX6_leave_42 (by decide) ?_
  refine r_iastore (pc := 43) (θ' := wM (up2 (up2 M 15 (k1 (nI (q + 1)))) 14 (upd (upd (M 14) q 23) (q + 1) 20))) C (q + 1) dX6_leave_43 rfl rfl (by first | assumption | omega) rfl ?_
  refine r_lload (pc := 44) C dX6_leave_44 rfl ?_
  refine r_lload_n (pc := 46) C dX6_leave_46 rfl rfl ?_
  refine r_lrem (pc := 47) C dX6_leave_47 (by decide) ?_
  show g 0 0 (wM (up2 (up2 M 15 (k1 (nI (q + 1)))) 14 (upd (upd (M 14) q 23) (q + 1) 20))) 48 [some (.ref 0), some (.long 2320), none, some (.long 1), none, some (.long 20), none] [.long (rmL 20 1)]
  rw [show (rmL 20 1 : Int64) = 0 from by decide]
  refine r_lstore (pc := 48) (lv' := [some (.ref 0), some (.long 2320), none, some (.long 1), none, some (.long 0), none]) C dX6_leave_48 (Nat.le_of_ble_eq_true rfl) trivial rfl ?_
  refine r_aload_n (pc := 50) C dX6_leave_50 rfl rfl ?_
  refine r_dup (pc := 51) C dX6_leave_51 rfl ?_
  refine r_getfield (pc := 52) (v := .int (nI (q + 1))) C xf_X6_218 dX6_leave_52 rfl rfl ?_
  refine r_iconst (pc := 55) (v := 1) C dX6_leave_55 (by decide) ?_
  refine r_iadd (pc := 56) C dX6_leave_56 ?_
  show g 0 0 (wM (up2 (up2 M 15 (k1 (nI (q + 1)))) 14 (upd (upd (M 14) q 23) (q + 1) 20))) 57 [some (.ref 0), some (.long 2320), none, some (.long 1), none, some (.long 0), none] [.int ((nI (q + 1)) + 1), .ref 0]
  rw [show ((nI (q + 1)) + 1 : Int32) = nI ((q + 1) + 1) from (nI_sum (m := (q + 1)) (n := 1) rfl rfl)]
  refine r_putfield (pc := 57) (θ' := wM (up2 (up2 M 14 (upd (upd (M 14) q 23) (q + 1) 20)) 15 (k1 (nI ((q + 1) + 1))))) C xf_X6_218 xt_X6_15 dX6_leave_57 rfl (Nat.le_of_ble_eq_true rfl) (fun _ => ⟨rfl, rfl⟩) rfl ?_
  refine r_lload_n (pc := 60) C dX6_leave_60 rfl rfl ?_
  refine r_ldc2 (pc := 61) (v := 100) C dX6_leave_61 tw_906 ?_
  refine r_ldiv (pc := 64) C dX6_leave_64 (by decide) ?_
  rw [show (1 / 100 : Int64) = 0 from by decide]
  refine r_lstore_n (pc := 65) (lv' := [some (.ref 0), some (.long 2320), none, some (.long 0), none, some (.long 0), none]) C dX6_leave_65 rfl (Nat.le_of_ble_eq_true rfl) trivial rfl ?_
  refine r_goto (pc := 66) (tgt := 24) C dX6_leave_66 (by decide) ?_
  refine r_lload_n (pc := 24) C dX6_leave_24 rfl rfl ?_
  refine r_lconst (pc := 25) (v := 0) C dX6_leave_25 (by decide) ?_
  refine r_lcmp (pc := 26) C dX6_leave_26 ?_
  rw [show (lg_cmp 0 0 : Int32) = 0 from by decide]
  refine r_if_le (pc := 27) (tgt := 69) C dX6_leave_27 (by decide) (fun _ => ?_) (fun h => absurd (by decide) h)
  show g 0 0 (wM (up2 (up2 M 14 (upd (upd (M 14) q 23) (q + 1) 20)) 15 (k1 (nI ((q + 1) + 1))))) 69 [some (.ref 0), some (.long 2320), none, some (.long 0), none, some (.long 0), none] []
  exact E _ _ _ _ _ dX6_leave_69 (Nat.le_refl _) (Nat.le_refl _) ⟨rfl, rfl⟩
