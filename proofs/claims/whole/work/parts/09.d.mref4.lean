def rmX6_breaks : Room := { frames := 5, cells := 0, slots := 0, locals := 121 }
def allM (p : Nat → Bool) : Nat → Bool
  | 0 => true
  | n + 1 => allM p n && p n
def fitC (Q : Nat → Bool) (lo : Nat) : Nat → Int32
  | 0 => 0
  | c + 1 => fitC Q lo c ||| (if Q c then 1 <<< (nI (lo + c) &&& 31) else 0)
def fA (M : Nat → Nat → Int32) (pl h lo : Nat) : Nat → Nat → Int32
  | 0 => M 6
  | c + 1 => upd (va_cpy (M 4) (fA M pl h lo c) 0 0 36) (pl + h) (nI (lo + c))
noncomputable def fAT : (Nat → Nat → Int32) → Nat → Nat → Nat → Nat → Nat → Int32 := Classical.choose (seal_ex fA)
theorem fAT_eq : fAT = fA := Classical.choose_spec (seal_ex fA)
theorem fA_s {M : Nat → Nat → Int32} {pl h lo c : Nat} : upd (va_cpy (M 4) (fAT M pl h lo c) 0 0 36) (pl + h) (nI (lo + c)) = fAT M pl h lo (c + 1) := by rw [fAT_eq]; rfl
theorem fA_0 {M : Nat → Nat → Int32} {pl h lo : Nat} : fAT M pl h lo 0 = M 6 := by rw [fAT_eq]; rfl
theorem fA_k {M : Nat → Nat → Int32} {pl h lo c k : Nat} (h1 : k < 36) (h2 : k ≠ pl + h) : fAT M pl h lo (c + 1) k = M 4 k := by
  rw [fAT_eq]
  show upd _ _ _ k = _
  rw [upd_ne h2, cpy36 h1]
theorem fA_v {M : Nat → Nat → Int32} {pl h lo c : Nat} : fAT M pl h lo (c + 1) (pl + h) = nI (lo + c) := by
  rw [fAT_eq]
  show upd _ _ _ (pl + h) = _
  exact if_pos rfl
theorem nK {q : Nat} (h1 : 1 ≤ q) (h5 : q ≤ 5) : nI q = 1 ∨ nI q = 2 ∨ nI q = 3 ∨ nI q = 4 ∨ nI q = 5 := by
  have : ∀ q, q < 6 → 1 ≤ q → (nI q = 1 ∨ nI q = 2 ∨ nI q = 3 ∨ nI q = 4 ∨ nI q = 5) := by decide +kernel
  exact this q (by omega) h1
theorem okF4 {M : Nat → Nat → Int32} {z h c : Nat} (hM : okM M z) (hh : h < 6) (hc : c < 5) : fAT M 4 h 1 (c + 1) 0 = nI z ∧ okWM (vw (fAT M 4 h 1 (c + 1))) ∧ ∀ i, i < z → okK (vw (fAT M 4 h 1 (c + 1))) i := by
  obtain ⟨h1, h2, h3, h4⟩ := hM
  refine ⟨by rw [fA_k (by omega) (by omega)]; exact h1, fun i hi => ?_, fun i hi => ?_⟩
  · obtain ⟨u, hu, e⟩ := h3 i hi
    refine ⟨u, hu, ?_⟩
    rw [← e]
    exact fA_k (by omega) (by omega)
  · unfold okK
    by_cases e : i = h
    · subst e
      rw [show vw (fAT M 4 i 1 (c + 1)) 0 i = nI (1 + c) from fA_v]
      exact nK (by omega) (by omega)
    · rw [show vw (fAT M 4 h 1 (c + 1)) 0 i = vw (M 4) 0 i from fA_k (by omega) (by omega)]
      exact h4 i hi
theorem okF28 {M : Nat → Nat → Int32} {z h c : Nat} (hM : okM M z) (hh : h < 6) (hc : c < 6) : fAT M 28 h 0 (c + 1) 0 = nI z ∧ okWM (vw (fAT M 28 h 0 (c + 1))) ∧ ∀ i, i < z → okK (vw (fAT M 28 h 0 (c + 1))) i := by
  obtain ⟨h1, h2, h3, h4⟩ := hM
  refine ⟨by rw [fA_k (by omega) (by omega)]; exact h1, fun i hi => ?_, fun i hi => ?_⟩
  · by_cases e : i = h
    · subst e
      exact ⟨0 + c, by omega, fA_v⟩
    · obtain ⟨u, hu, e2⟩ := h3 i hi
      refine ⟨u, hu, ?_⟩
      rw [← e2]
      exact fA_k (by omega) (by omega)
  · unfold okK
    rw [show vw (fAT M 28 h 0 (c + 1)) 0 i = vw (M 4) 0 i from fA_k (by omega) (by omega)]
    exact h4 i hi
theorem okF22 {M : Nat → Nat → Int32} {z h c : Nat} (hM : okM M z) (hh : h < 6) : fAT M 22 h 1 (c + 1) 0 = nI z ∧ okWM (vw (fAT M 22 h 1 (c + 1))) ∧ ∀ i, i < z → okK (vw (fAT M 22 h 1 (c + 1))) i :=
  okT hM (fun k hk => fA_k (by omega) (by omega))
set_option maxHeartbeats 4000000 in
set_option maxRecDepth 100000 in
theorem lpi_X6_fits_0 (M : Nat → Nat → Int32) (z : Nat) (hM : okM M z) (jh jr ki kn : Nat) (hjh : jh < z) (hjr : jr ≤ 7) (hkin : ki + kn ≤ 40) (c : Nat) (hc : c < 5) (acc : Int32) {g : Nat → Nat → List xE → Nat → List (Option Value) → List Value → Prop} (C : Sem cX6_fits RX6 "fits" 14 rmX6_fits g) (kk : g 0 0 (wM (up2 M 6 (fAT M 4 jh 1 (c + 1)))) 264 [some (.ref 0), some (.int (nI jh)), some (.int (nI jr)), some (.int (nI ki)), some (.int (nI kn)), some (.int 0), some (.int acc), some (.int 1), some (.int 5), some (.int 4), some (.int (nI (1 + c))), some (.int (bB (allM (fun k => decide (M 2 (40 * jr + ki + k) = plS (vw (fAT M 4 jh 1 (c + 1))) jh (M 4 35 + nI k))) kn))), none, none] []) : ∀ (n : Nat) (k : Nat), k + n = kn → g 0 0 (wM (up2 M 6 (fAT M 4 jh 1 (c + 1)))) 181 [some (.ref 0), some (.int (nI jh)), some (.int (nI jr)), some (.int (nI ki)), some (.int (nI kn)), some (.int 0), some (.int acc), some (.int 1), some (.int 5), some (.int 4), some (.int (nI (1 + c))), some (.int (bB (allM (fun k => decide (M 2 (40 * jr + ki + k) = plS (vw (fAT M 4 jh 1 (c + 1))) jh (M 4 35 + nI k))) k))), some (.int (nI k)), none] [] := by
  intro n
  have hz6 := hM.2.1
  have hok := okF4 hM (show jh < 6 by omega) (show c < 5 by omega)
  induction n with
  | zero =>
    intro k hk
    have hkk : k = kn := by omega
    rw [hkk]
    refine r_iload (pc := 181) C dX6_fits_181 rfl ?_
    refine r_iload (pc := 183) C dX6_fits_183 rfl ?_
    refine r_icmp_ge (pc := 185) (tgt := 264) C dX6_fits_185 (by decide) (fun _ => ?_) (fun h => absurd (nI_le (by omega) (by omega)) h)
    show g 0 0 (wM (up2 M 6 (fAT M 4 jh 1 (c + 1)))) 264 [some (.ref 0), some (.int (nI jh)), some (.int (nI jr)), some (.int (nI ki)), some (.int (nI kn)), some (.int 0), some (.int acc), some (.int 1), some (.int 5), some (.int 4), some (.int (nI (1 + c))), some (.int (bB (allM (fun k => decide (M 2 (40 * jr + ki + k) = plS (vw (fAT M 4 jh 1 (c + 1))) jh (M 4 35 + nI k))) kn))), some (.int (nI kn)), none] []
    refine r_drop (lv' := [some (.ref 0), some (.int (nI jh)), some (.int (nI jr)), some (.int (nI ki)), some (.int (nI kn)), some (.int 0), some (.int acc), some (.int 1), some (.int 5), some (.int 4), some (.int (nI (1 + c))), some (.int (bB (allM (fun k => decide (M 2 (40 * jr + ki + k) = plS (vw (fAT M 4 jh 1 (c + 1))) jh (M 4 35 + nI k))) kn))), none, none]) C ⟨rfl, rfl, rfl, rfl, rfl, rfl, rfl, rfl, rfl, rfl, rfl, rfl, trivial⟩ ?_
    show g 0 0 (wM (up2 M 6 (fAT M 4 jh 1 (c + 1)))) 264 [some (.ref 0), some (.int (nI jh)), some (.int (nI jr)), some (.int (nI ki)), some (.int (nI kn)), some (.int 0), some (.int acc), some (.int 1), some (.int 5), some (.int 4), some (.int (nI (1 + c))), some (.int (bB (allM (fun k => decide (M 2 (40 * jr + ki + k) = plS (vw (fAT M 4 jh 1 (c + 1))) jh (M 4 35 + nI k))) kn))), none, none] []
    exact kk
  | succ n ih =>
    intro k hk
    refine r_iload (pc := 181) C dX6_fits_181 rfl ?_
    refine r_iload (pc := 183) C dX6_fits_183 rfl ?_
    refine r_icmp_ge (pc := 185) (tgt := 264) C dX6_fits_185 (by decide) (fun h => absurd h (nI_ge (by omega) (by omega))) (fun _ => ?_)
    refine r_aload_n (pc := 188) C dX6_fits_188 rfl rfl ?_
    refine r_getfield (pc := 189) (v := .ref 4) C xf_X6_19 dX6_fits_189 rfl rfl ?_
    refine r_bipush (pc := 192) (v := 35) C dX6_fits_192 (by decide) ?_
    refine r_iaload (pc := 194) (v := M 4 35) C 35 dX6_fits_194 rfl (by decide) (by decide) rfl ?_
    refine r_iload (pc := 195) C dX6_fits_195 rfl ?_
    refine r_iadd (pc := 197) C dX6_fits_197 ?_
    refine r_istore (pc := 198) (lv' := [some (.ref 0), some (.int (nI jh)), some (.int (nI jr)), some (.int (nI ki)), some (.int (nI kn)), some (.int 0), some (.int acc), some (.int 1), some (.int 5), some (.int 4), some (.int (nI (1 + c))), some (.int (bB (allM (fun k => decide (M 2 (40 * jr + ki + k) = plS (vw (fAT M 4 jh 1 (c + 1))) jh (M 4 35 + nI k))) k))), some (.int (nI k)), some (.int ((M 4 35) + (nI k)))]) C dX6_fits_198 (Nat.le_of_ble_eq_true rfl) trivial rfl ?_
    refine r_iload (pc := 200) C dX6_fits_200 rfl ?_
    refine r_if_eq (pc := 202) (tgt := 255) C dX6_fits_202 (by decide) (fun h_202 => ?_) (fun h_202 => ?_)
    · replace h_202 := bB_f h_202
      refine r_iconst (pc := 255) (v := 0) C dX6_fits_255 (by decide) ?_
      refine r_istore (pc := 256) (lv' := [some (.ref 0), some (.int (nI jh)), some (.int (nI jr)), some (.int (nI ki)), some (.int (nI kn)), some (.int 0), some (.int acc), some (.int 1), some (.int 5), some (.int 4), some (.int (nI (1 + c))), some (.int 0), some (.int (nI k)), some (.int ((M 4 35) + (nI k)))]) C dX6_fits_256 (Nat.le_of_ble_eq_true rfl) trivial rfl ?_
      refine r_iinc (pc := 258) (v := nI (k + 1)) (lv' := [some (.ref 0), some (.int (nI jh)), some (.int (nI jr)), some (.int (nI ki)), some (.int (nI kn)), some (.int 0), some (.int acc), some (.int 1), some (.int 5), some (.int 4), some (.int (nI (1 + c))), some (.int 0), some (.int (nI (k + 1))), some (.int ((M 4 35) + (nI k)))]) C dX6_fits_258 rfl (nI_1 k) trivial rfl ?_
      refine r_goto (pc := 261) (tgt := 181) C dX6_fits_261 (by decide) ?_
      show g 0 0 (wM (up2 M 6 (fAT M 4 jh 1 (c + 1)))) 181 [some (.ref 0), some (.int (nI jh)), some (.int (nI jr)), some (.int (nI ki)), some (.int (nI kn)), some (.int 0), some (.int acc), some (.int 1), some (.int 5), some (.int 4), some (.int (nI (1 + c))), some (.int 0), some (.int (nI (k + 1))), some (.int ((M 4 35) + (nI k)))] []
      have hQ : bB (allM (fun k => decide (M 2 (40 * jr + ki + k) = plS (vw (fAT M 4 jh 1 (c + 1))) jh (M 4 35 + nI k))) (k + 1)) = 0 := by rw [allM, h_202]; rfl
      show g 0 0 (wM (up2 M 6 (fAT M 4 jh 1 (c + 1)))) 181 [some (.ref 0), some (.int (nI jh)), some (.int (nI jr)), some (.int (nI ki)), some (.int (nI kn)), some (.int 0), some (.int acc), some (.int 1), some (.int 5), some (.int 4), some (.int (nI (1 + c))), some (.int 0), some (.int (nI (k + 1))), some (.int ((M 4 35) + (nI k)))] []
      refine r_drop (lv' := [some (.ref 0), some (.int (nI jh)), some (.int (nI jr)), some (.int (nI ki)), some (.int (nI kn)), some (.int 0), some (.int acc), some (.int 1), some (.int 5), some (.int 4), some (.int (nI (1 + c))), some (.int 0), some (.int (nI (k + 1))), none]) C ⟨rfl, rfl, rfl, rfl, rfl, rfl, rfl, rfl, rfl, rfl, rfl, rfl, rfl, trivial⟩ ?_
      have hK := ih (k + 1) (by omega)
      rw [hQ] at hK
      exact hK
    · replace h_202 := bB_t h_202
      refine r_aload_n (pc := 205) C dX6_fits_205 rfl rfl ?_
      refine r_getfield (pc := 206) (v := .ref 3) C xf_X6_16 dX6_fits_206 rfl rfl ?_
      refine r_bipush (pc := 209) (v := 40) C dX6_fits_209 (by decide) ?_
      refine r_iload_n (pc := 211) C dX6_fits_211 rfl rfl ?_
      refine r_imul (pc := 212) C dX6_fits_212 ?_
      refine r_iload_n (pc := 213) C dX6_fits_213 rfl rfl ?_
      refine r_iadd (pc := 214) C dX6_fits_214 ?_
      refine r_iload (pc := 215) C dX6_fits_215 rfl ?_
      refine r_iadd (pc := 217) C dX6_fits_217 ?_
      refine r_iaload (pc := 218) (v := M 2 (40 * jr + ki + k)) C (40 * jr + ki + k) dX6_fits_218 rfl (nI_sum (m := (40 * jr + ki)) (n := k) (nI_sum (m := (40 * jr)) (n := ki) (nI_prod (m := 40) (n := jr) rfl rfl) rfl) rfl) (by first | assumption | omega) rfl ?_
      refine r_iload (pc := 219) C dX6_fits_219 rfl ?_
      refine r_iconst (pc := 221) (v := 2) C dX6_fits_221 (by decide) ?_
      refine r_icmp_ne (pc := 222) (tgt := 238) C dX6_fits_222 (by decide) (fun _ => ?_) (fun h => absurd h (by decide))
      refine r_aload_n (pc := 238) C dX6_fits_238 rfl rfl ?_
      refine r_getfield (pc := 239) (v := .ref 6) C xf_X6_25 dX6_fits_239 rfl rfl ?_
      refine r_iload_n (pc := 242) C dX6_fits_242 rfl rfl ?_
      refine r_iload (pc := 243) C dX6_fits_243 rfl ?_
      refine r_callSD (pc := 245) (As := [.ref 6, .int (nI jh), .int ((M 4 35) + (nI k))]) (st := [.int (M 2 (40 * jr + ki + k))]) (θ2 := wM (up2 M 6 (fAT M 4 jh 1 (c + 1)))) (r2 := some (.int (plS (vw (fAT M 4 jh 1 (c + 1))) jh ((M 4 35) + (nI k))))) C [6] (c_X6_where (fAT M 4 jh 1 (c + 1)) jh (by omega) ((M 4 35) + (nI k)) (hok.2.2 jh (by omega)) hok.2.1) xm_X6_where xk_X6_155 dX6_fits_245 rfl (by decide) rfl rfl rfl (Nat.le_of_ble_eq_true rfl) ⟨Nat.le_of_ble_eq_true rfl, Nat.le_of_ble_eq_true rfl⟩ ⟨rfl, rfl⟩ ⟨Nat.le_of_ble_eq_true rfl, Nat.le_of_ble_eq_true rfl⟩ rfl (Eq.trans (b := 1) rfl rfl) rfl rfl ?_
      show g 0 0 (wM (up2 M 6 (fAT M 4 jh 1 (c + 1)))) 248 [some (.ref 0), some (.int (nI jh)), some (.int (nI jr)), some (.int (nI ki)), some (.int (nI kn)), some (.int 0), some (.int acc), some (.int 1), some (.int 5), some (.int 4), some (.int (nI (1 + c))), some (.int (bB (allM (fun k => decide (M 2 (40 * jr + ki + k) = plS (vw (fAT M 4 jh 1 (c + 1))) jh (M 4 35 + nI k))) k))), some (.int (nI k)), some (.int ((M 4 35) + (nI k)))] [.int (plS (vw (fAT M 4 jh 1 (c + 1))) jh ((M 4 35) + (nI k))), .int (M 2 (40 * jr + ki + k))]
      refine r_icmp_ne (pc := 248) (tgt := 255) C dX6_fits_248 (by decide) (fun h_248 => ?_) (fun h_248 => ?_)
      · skip
        refine r_iconst (pc := 255) (v := 0) C dX6_fits_255 (by decide) ?_
        refine r_istore (pc := 256) (lv' := [some (.ref 0), some (.int (nI jh)), some (.int (nI jr)), some (.int (nI ki)), some (.int (nI kn)), some (.int 0), some (.int acc), some (.int 1), some (.int 5), some (.int 4), some (.int (nI (1 + c))), some (.int 0), some (.int (nI k)), some (.int ((M 4 35) + (nI k)))]) C dX6_fits_256 (Nat.le_of_ble_eq_true rfl) trivial rfl ?_
        refine r_iinc (pc := 258) (v := nI (k + 1)) (lv' := [some (.ref 0), some (.int (nI jh)), some (.int (nI jr)), some (.int (nI ki)), some (.int (nI kn)), some (.int 0), some (.int acc), some (.int 1), some (.int 5), some (.int 4), some (.int (nI (1 + c))), some (.int 0), some (.int (nI (k + 1))), some (.int ((M 4 35) + (nI k)))]) C dX6_fits_258 rfl (nI_1 k) trivial rfl ?_
        refine r_goto (pc := 261) (tgt := 181) C dX6_fits_261 (by decide) ?_
        show g 0 0 (wM (up2 M 6 (fAT M 4 jh 1 (c + 1)))) 181 [some (.ref 0), some (.int (nI jh)), some (.int (nI jr)), some (.int (nI ki)), some (.int (nI kn)), some (.int 0), some (.int acc), some (.int 1), some (.int 5), some (.int 4), some (.int (nI (1 + c))), some (.int 0), some (.int (nI (k + 1))), some (.int ((M 4 35) + (nI k)))] []
        have hQ : bB (allM (fun k => decide (M 2 (40 * jr + ki + k) = plS (vw (fAT M 4 jh 1 (c + 1))) jh (M 4 35 + nI k))) (k + 1)) = 0 := by rw [allM, h_202, Bool.true_and]; show bB (decide _) = 0; rw [decide_eq_false h_248]; rfl
        show g 0 0 (wM (up2 M 6 (fAT M 4 jh 1 (c + 1)))) 181 [some (.ref 0), some (.int (nI jh)), some (.int (nI jr)), some (.int (nI ki)), some (.int (nI kn)), some (.int 0), some (.int acc), some (.int 1), some (.int 5), some (.int 4), some (.int (nI (1 + c))), some (.int 0), some (.int (nI (k + 1))), some (.int ((M 4 35) + (nI k)))] []
        refine r_drop (lv' := [some (.ref 0), some (.int (nI jh)), some (.int (nI jr)), some (.int (nI ki)), some (.int (nI kn)), some (.int 0), some (.int acc), some (.int 1), some (.int 5), some (.int 4), some (.int (nI (1 + c))), some (.int 0), some (.int (nI (k + 1))), none]) C ⟨rfl, rfl, rfl, rfl, rfl, rfl, rfl, rfl, rfl, rfl, rfl, rfl, rfl, trivial⟩ ?_
        have hK := ih (k + 1) (by omega)
        rw [hQ] at hK
        exact hK
      · skip
        refine r_iconst (pc := 251) (v := 1) C dX6_fits_251 (by decide) ?_
        refine r_goto (pc := 252) (tgt := 256) C dX6_fits_252 (by decide) ?_
        refine r_istore (pc := 256) (lv' := [some (.ref 0), some (.int (nI jh)), some (.int (nI jr)), some (.int (nI ki)), some (.int (nI kn)), some (.int 0), some (.int acc), some (.int 1), some (.int 5), some (.int 4), some (.int (nI (1 + c))), some (.int 1), some (.int (nI k)), some (.int ((M 4 35) + (nI k)))]) C dX6_fits_256 (Nat.le_of_ble_eq_true rfl) trivial rfl ?_
        refine r_iinc (pc := 258) (v := nI (k + 1)) (lv' := [some (.ref 0), some (.int (nI jh)), some (.int (nI jr)), some (.int (nI ki)), some (.int (nI kn)), some (.int 0), some (.int acc), some (.int 1), some (.int 5), some (.int 4), some (.int (nI (1 + c))), some (.int 1), some (.int (nI (k + 1))), some (.int ((M 4 35) + (nI k)))]) C dX6_fits_258 rfl (nI_1 k) trivial rfl ?_
        refine r_goto (pc := 261) (tgt := 181) C dX6_fits_261 (by decide) ?_
        show g 0 0 (wM (up2 M 6 (fAT M 4 jh 1 (c + 1)))) 181 [some (.ref 0), some (.int (nI jh)), some (.int (nI jr)), some (.int (nI ki)), some (.int (nI kn)), some (.int 0), some (.int acc), some (.int 1), some (.int 5), some (.int 4), some (.int (nI (1 + c))), some (.int 1), some (.int (nI (k + 1))), some (.int ((M 4 35) + (nI k)))] []
        have hQ : bB (allM (fun k => decide (M 2 (40 * jr + ki + k) = plS (vw (fAT M 4 jh 1 (c + 1))) jh (M 4 35 + nI k))) (k + 1)) = 1 := by rw [allM, h_202, Bool.true_and]; show bB (decide _) = 1; rw [decide_eq_true h_248]; rfl
        show g 0 0 (wM (up2 M 6 (fAT M 4 jh 1 (c + 1)))) 181 [some (.ref 0), some (.int (nI jh)), some (.int (nI jr)), some (.int (nI ki)), some (.int (nI kn)), some (.int 0), some (.int acc), some (.int 1), some (.int 5), some (.int 4), some (.int (nI (1 + c))), some (.int 1), some (.int (nI (k + 1))), some (.int ((M 4 35) + (nI k)))] []
        refine r_drop (lv' := [some (.ref 0), some (.int (nI jh)), some (.int (nI jr)), some (.int (nI ki)), some (.int (nI kn)), some (.int 0), some (.int acc), some (.int 1), some (.int 5), some (.int 4), some (.int (nI (1 + c))), some (.int 1), some (.int (nI (k + 1))), none]) C ⟨rfl, rfl, rfl, rfl, rfl, rfl, rfl, rfl, rfl, rfl, rfl, rfl, rfl, trivial⟩ ?_
        have hK := ih (k + 1) (by omega)
        rw [hQ] at hK
        exact hK
set_option maxHeartbeats 4000000 in
set_option maxRecDepth 100000 in
theorem lpo_X6_fits_0 (M : Nat → Nat → Int32) (z : Nat) (hM : okM M z) (jh jr ki kn : Nat) (hjh : jh < z) (hjr : jr ≤ 7) (hkin : ki + kn ≤ 40) {g : Nat → Nat → List xE → Nat → List (Option Value) → List Value → Prop} (C : Sem cX6_fits RX6 "fits" 14 rmX6_fits g) (kk : g 0 0 (wM (up2 M 6 (fAT M 4 jh 1 5))) 288 [some (.ref 0), some (.int (nI jh)), some (.int (nI jr)), some (.int (nI ki)), some (.int (nI kn)), some (.int 0), some (.int (fitC (fun c => allM (fun k => decide (M 2 (40 * jr + ki + k) = plS (vw (fAT M 4 jh 1 (c + 1))) jh (M 4 35 + nI k))) kn) 1 5)), some (.int 1), some (.int 5), some (.int 4), none, none, none, none] []) : ∀ (n : Nat) (c : Nat), c + n = 5 → g 0 0 (wM (up2 M 6 (fAT M 4 jh 1 c))) 153 [some (.ref 0), some (.int (nI jh)), some (.int (nI jr)), some (.int (nI ki)), some (.int (nI kn)), some (.int 0), some (.int (fitC (fun c => allM (fun k => decide (M 2 (40 * jr + ki + k) = plS (vw (fAT M 4 jh 1 (c + 1))) jh (M 4 35 + nI k))) kn) 1 c)), some (.int 1), some (.int 5), some (.int 4), some (.int (nI (1 + c))), none, none, none] [] := by
  intro n
  have hz6 := hM.2.1
  induction n with
  | zero =>
    intro c hc
    have hcc : c = 5 := by omega
    rw [hcc]
    refine r_iload (pc := 153) C dX6_fits_153 rfl ?_
    refine r_iload (pc := 155) C dX6_fits_155 rfl ?_
    refine r_icmp_gt (pc := 157) (tgt := 288) C dX6_fits_157 (by decide) (fun _ => ?_) (fun h => absurd (((nI_ltI (a := 5) (by omega) (by omega)).mpr (by omega))) h)
    show g 0 0 (wM (up2 M 6 (fAT M 4 jh 1 5))) 288 [some (.ref 0), some (.int (nI jh)), some (.int (nI jr)), some (.int (nI ki)), some (.int (nI kn)), some (.int 0), some (.int (fitC (fun c => allM (fun k => decide (M 2 (40 * jr + ki + k) = plS (vw (fAT M 4 jh 1 (c + 1))) jh (M 4 35 + nI k))) kn) 1 5)), some (.int 1), some (.int 5), some (.int 4), some (.int (nI (1 + 5))), none, none, none] []
    refine r_drop (lv' := [some (.ref 0), some (.int (nI jh)), some (.int (nI jr)), some (.int (nI ki)), some (.int (nI kn)), some (.int 0), some (.int (fitC (fun c => allM (fun k => decide (M 2 (40 * jr + ki + k) = plS (vw (fAT M 4 jh 1 (c + 1))) jh (M 4 35 + nI k))) kn) 1 5)), some (.int 1), some (.int 5), some (.int 4), none, none, none, none]) C ⟨rfl, rfl, rfl, rfl, rfl, rfl, rfl, rfl, rfl, rfl, trivial⟩ ?_
    show g 0 0 (wM (up2 M 6 (fAT M 4 jh 1 5))) 288 [some (.ref 0), some (.int (nI jh)), some (.int (nI jr)), some (.int (nI ki)), some (.int (nI kn)), some (.int 0), some (.int (fitC (fun c => allM (fun k => decide (M 2 (40 * jr + ki + k) = plS (vw (fAT M 4 jh 1 (c + 1))) jh (M 4 35 + nI k))) kn) 1 5)), some (.int 1), some (.int 5), some (.int 4), none, none, none, none] []
    exact kk
  | succ n ih =>
    intro c hc
    refine r_iload (pc := 153) C dX6_fits_153 rfl ?_
    refine r_iload (pc := 155) C dX6_fits_155 rfl ?_
    refine r_icmp_gt (pc := 157) (tgt := 288) C dX6_fits_157 (by decide) (fun h => absurd h (fun z => absurd ((nI_ltI (a := 5) (by omega) (by omega)).mp z) (by omega))) (fun _ => ?_)
    refine r_aload_n (pc := 160) C dX6_fits_160 rfl rfl ?_
    refine r_callV0 (pc := 161) (As := []) (st := []) (θ' := wM (up2 M 6 (va_cpy (M 4) (fAT M 4 jh 1 c) 0 0 36))) C (c_X6_layAside (up2 M 6 (fAT M 4 jh 1 c))) xm_X6_layAside xk_X6_204 dX6_fits_161 rfl rfl rfl rfl (Nat.le_of_ble_eq_true rfl) ⟨Nat.le_of_ble_eq_true rfl, Nat.le_of_ble_eq_true rfl⟩ ⟨rfl, rfl⟩ ⟨Nat.le_of_ble_eq_true rfl, Nat.le_of_ble_eq_true rfl⟩ rfl (Eq.trans (b := 14) rfl rfl) ?_
    show g 0 0 (wM (up2 M 6 (va_cpy (M 4) (fAT M 4 jh 1 c) 0 0 36))) 164 [some (.ref 0), some (.int (nI jh)), some (.int (nI jr)), some (.int (nI ki)), some (.int (nI kn)), some (.int 0), some (.int (fitC (fun c => allM (fun k => decide (M 2 (40 * jr + ki + k) = plS (vw (fAT M 4 jh 1 (c + 1))) jh (M 4 35 + nI k))) kn) 1 c)), some (.int 1), some (.int 5), some (.int 4), some (.int (nI (1 + c))), none, none, none] []
    refine r_aload_n (pc := 164) C dX6_fits_164 rfl rfl ?_
    refine r_getfield (pc := 165) (v := .ref 6) C xf_X6_25 dX6_fits_165 rfl rfl ?_
    refine r_iload (pc := 168) C dX6_fits_168 rfl ?_
    refine r_iload_n (pc := 170) C dX6_fits_170 rfl rfl ?_
    refine r_iadd (pc := 171) C dX6_fits_171 ?_
    refine r_iload (pc := 172) C dX6_fits_172 rfl ?_
    refine r_iastore (pc := 174) (θ' := wM (up2 M 6 (fAT M 4 jh 1 (c + 1)))) C (4 + jh) dX6_fits_174 rfl (nI_sum (m := 4) (n := jh) rfl rfl) (by first | assumption | omega) (by rw [← fA_s]; rfl) ?_
    refine r_iconst (pc := 175) (v := 1) C dX6_fits_175 (by decide) ?_
    refine r_istore (pc := 176) (lv' := [some (.ref 0), some (.int (nI jh)), some (.int (nI jr)), some (.int (nI ki)), some (.int (nI kn)), some (.int 0), some (.int (fitC (fun c => allM (fun k => decide (M 2 (40 * jr + ki + k) = plS (vw (fAT M 4 jh 1 (c + 1))) jh (M 4 35 + nI k))) kn) 1 c)), some (.int 1), some (.int 5), some (.int 4), some (.int (nI (1 + c))), some (.int 1), none, none]) C dX6_fits_176 (Nat.le_of_ble_eq_true rfl) trivial rfl ?_
    refine r_iconst (pc := 178) (v := 0) C dX6_fits_178 (by decide) ?_
    refine r_istore (pc := 179) (lv' := [some (.ref 0), some (.int (nI jh)), some (.int (nI jr)), some (.int (nI ki)), some (.int (nI kn)), some (.int 0), some (.int (fitC (fun c => allM (fun k => decide (M 2 (40 * jr + ki + k) = plS (vw (fAT M 4 jh 1 (c + 1))) jh (M 4 35 + nI k))) kn) 1 c)), some (.int 1), some (.int 5), some (.int 4), some (.int (nI (1 + c))), some (.int 1), some (.int 0), none]) C dX6_fits_179 (Nat.le_of_ble_eq_true rfl) trivial rfl ?_
    show g 0 0 (wM (up2 M 6 (fAT M 4 jh 1 (c + 1)))) 181 [some (.ref 0), some (.int (nI jh)), some (.int (nI jr)), some (.int (nI ki)), some (.int (nI kn)), some (.int 0), some (.int (fitC (fun c => allM (fun k => decide (M 2 (40 * jr + ki + k) = plS (vw (fAT M 4 jh 1 (c + 1))) jh (M 4 35 + nI k))) kn) 1 c)), some (.int 1), some (.int 5), some (.int 4), some (.int (nI (1 + c))), some (.int 1), some (.int 0), none] []
    refine lpi_X6_fits_0 M z hM jh jr ki kn hjh hjr hkin c (by omega) (fitC (fun c => allM (fun k => decide (M 2 (40 * jr + ki + k) = plS (vw (fAT M 4 jh 1 (c + 1))) jh (M 4 35 + nI k))) kn) 1 c) C ?_ kn 0 (by omega)
    show g 0 0 (wM (up2 M 6 (fAT M 4 jh 1 (c + 1)))) 264 [some (.ref 0), some (.int (nI jh)), some (.int (nI jr)), some (.int (nI ki)), some (.int (nI kn)), some (.int 0), some (.int (fitC (fun c => allM (fun k => decide (M 2 (40 * jr + ki + k) = plS (vw (fAT M 4 jh 1 (c + 1))) jh (M 4 35 + nI k))) kn) 1 c)), some (.int 1), some (.int 5), some (.int 4), some (.int (nI (1 + c))), some (.int (bB (allM (fun k => decide (M 2 (40 * jr + ki + k) = plS (vw (fAT M 4 jh 1 (c + 1))) jh (M 4 35 + nI k))) kn))), none, none] []
    refine r_iload (pc := 264) C dX6_fits_264 rfl ?_
    refine r_iload (pc := 266) C dX6_fits_266 rfl ?_
    refine r_if_eq (pc := 268) (tgt := 278) C dX6_fits_268 (by decide) (fun h_268 => ?_) (fun h_268 => ?_)
    · replace h_268 := bB_f h_268
      refine r_iconst (pc := 278) (v := 0) C dX6_fits_278 (by decide) ?_
      refine r_ior (pc := 279) C dX6_fits_279 ?_
      refine r_istore (pc := 280) (lv' := [some (.ref 0), some (.int (nI jh)), some (.int (nI jr)), some (.int (nI ki)), some (.int (nI kn)), some (.int 0), some (.int ((fitC (fun c => allM (fun k => decide (M 2 (40 * jr + ki + k) = plS (vw (fAT M 4 jh 1 (c + 1))) jh (M 4 35 + nI k))) kn) 1 c) ||| 0)), some (.int 1), some (.int 5), some (.int 4), some (.int (nI (1 + c))), some (.int (bB (allM (fun k => decide (M 2 (40 * jr + ki + k) = plS (vw (fAT M 4 jh 1 (c + 1))) jh (M 4 35 + nI k))) kn))), none, none]) C dX6_fits_280 (Nat.le_of_ble_eq_true rfl) trivial rfl ?_
      refine r_iinc (pc := 282) (v := nI (1 + (c + 1))) (lv' := [some (.ref 0), some (.int (nI jh)), some (.int (nI jr)), some (.int (nI ki)), some (.int (nI kn)), some (.int 0), some (.int ((fitC (fun c => allM (fun k => decide (M 2 (40 * jr + ki + k) = plS (vw (fAT M 4 jh 1 (c + 1))) jh (M 4 35 + nI k))) kn) 1 c) ||| 0)), some (.int 1), some (.int 5), some (.int 4), some (.int (nI (1 + (c + 1)))), some (.int (bB (allM (fun k => decide (M 2 (40 * jr + ki + k) = plS (vw (fAT M 4 jh 1 (c + 1))) jh (M 4 35 + nI k))) kn))), none, none]) C dX6_fits_282 rfl (nI_1 (1 + c)) trivial rfl ?_
      refine r_goto (pc := 285) (tgt := 153) C dX6_fits_285 (by decide) ?_
      show g 0 0 (wM (up2 M 6 (fAT M 4 jh 1 (c + 1)))) 153 [some (.ref 0), some (.int (nI jh)), some (.int (nI jr)), some (.int (nI ki)), some (.int (nI kn)), some (.int 0), some (.int ((fitC (fun c => allM (fun k => decide (M 2 (40 * jr + ki + k) = plS (vw (fAT M 4 jh 1 (c + 1))) jh (M 4 35 + nI k))) kn) 1 c) ||| 0)), some (.int 1), some (.int 5), some (.int 4), some (.int (nI (1 + (c + 1)))), some (.int (bB (allM (fun k => decide (M 2 (40 * jr + ki + k) = plS (vw (fAT M 4 jh 1 (c + 1))) jh (M 4 35 + nI k))) kn))), none, none] []
      rw [show ((fitC (fun c => allM (fun k => decide (M 2 (40 * jr + ki + k) = plS (vw (fAT M 4 jh 1 (c + 1))) jh (M 4 35 + nI k))) kn) 1 c) ||| 0 : Int32) = fitC (fun c => allM (fun k => decide (M 2 (40 * jr + ki + k) = plS (vw (fAT M 4 jh 1 (c + 1))) jh (M 4 35 + nI k))) kn) 1 (c + 1) from by simp only [fitC, h_268, if_true, if_false, Bool.false_eq_true]]
      show g 0 0 (wM (up2 M 6 (fAT M 4 jh 1 (c + 1)))) 153 [some (.ref 0), some (.int (nI jh)), some (.int (nI jr)), some (.int (nI ki)), some (.int (nI kn)), some (.int 0), some (.int (fitC (fun c => allM (fun k => decide (M 2 (40 * jr + ki + k) = plS (vw (fAT M 4 jh 1 (c + 1))) jh (M 4 35 + nI k))) kn) 1 (c + 1))), some (.int 1), some (.int 5), some (.int 4), some (.int (nI (1 + (c + 1)))), some (.int (bB (allM (fun k => decide (M 2 (40 * jr + ki + k) = plS (vw (fAT M 4 jh 1 (c + 1))) jh (M 4 35 + nI k))) kn))), none, none] []
      refine r_drop (lv' := [some (.ref 0), some (.int (nI jh)), some (.int (nI jr)), some (.int (nI ki)), some (.int (nI kn)), some (.int 0), some (.int (fitC (fun c => allM (fun k => decide (M 2 (40 * jr + ki + k) = plS (vw (fAT M 4 jh 1 (c + 1))) jh (M 4 35 + nI k))) kn) 1 (c + 1))), some (.int 1), some (.int 5), some (.int 4), some (.int (nI (1 + (c + 1)))), none, none, none]) C ⟨rfl, rfl, rfl, rfl, rfl, rfl, rfl, rfl, rfl, rfl, rfl, trivial⟩ ?_
      exact ih (c + 1) (by omega)
    · replace h_268 := bB_t h_268
      refine r_iconst (pc := 271) (v := 1) C dX6_fits_271 (by decide) ?_
      refine r_iload (pc := 272) C dX6_fits_272 rfl ?_
      refine r_ishl (pc := 274) C dX6_fits_274 ?_
      refine r_goto (pc := 275) (tgt := 279) C dX6_fits_275 (by decide) ?_
      refine r_ior (pc := 279) C dX6_fits_279 ?_
      refine r_istore (pc := 280) (lv' := [some (.ref 0), some (.int (nI jh)), some (.int (nI jr)), some (.int (nI ki)), some (.int (nI kn)), some (.int 0), some (.int ((fitC (fun c => allM (fun k => decide (M 2 (40 * jr + ki + k) = plS (vw (fAT M 4 jh 1 (c + 1))) jh (M 4 35 + nI k))) kn) 1 c) ||| (1 <<< ((nI (1 + c)) &&& 31)))), some (.int 1), some (.int 5), some (.int 4), some (.int (nI (1 + c))), some (.int (bB (allM (fun k => decide (M 2 (40 * jr + ki + k) = plS (vw (fAT M 4 jh 1 (c + 1))) jh (M 4 35 + nI k))) kn))), none, none]) C dX6_fits_280 (Nat.le_of_ble_eq_true rfl) trivial rfl ?_
      refine r_iinc (pc := 282) (v := nI (1 + (c + 1))) (lv' := [some (.ref 0), some (.int (nI jh)), some (.int (nI jr)), some (.int (nI ki)), some (.int (nI kn)), some (.int 0), some (.int ((fitC (fun c => allM (fun k => decide (M 2 (40 * jr + ki + k) = plS (vw (fAT M 4 jh 1 (c + 1))) jh (M 4 35 + nI k))) kn) 1 c) ||| (1 <<< ((nI (1 + c)) &&& 31)))), some (.int 1), some (.int 5), some (.int 4), some (.int (nI (1 + (c + 1)))), some (.int (bB (allM (fun k => decide (M 2 (40 * jr + ki + k) = plS (vw (fAT M 4 jh 1 (c + 1))) jh (M 4 35 + nI k))) kn))), none, none]) C dX6_fits_282 rfl (nI_1 (1 + c)) trivial rfl ?_
      refine r_goto (pc := 285) (tgt := 153) C dX6_fits_285 (by decide) ?_
      show g 0 0 (wM (up2 M 6 (fAT M 4 jh 1 (c + 1)))) 153 [some (.ref 0), some (.int (nI jh)), some (.int (nI jr)), some (.int (nI ki)), some (.int (nI kn)), some (.int 0), some (.int ((fitC (fun c => allM (fun k => decide (M 2 (40 * jr + ki + k) = plS (vw (fAT M 4 jh 1 (c + 1))) jh (M 4 35 + nI k))) kn) 1 c) ||| (1 <<< ((nI (1 + c)) &&& 31)))), some (.int 1), some (.int 5), some (.int 4), some (.int (nI (1 + (c + 1)))), some (.int (bB (allM (fun k => decide (M 2 (40 * jr + ki + k) = plS (vw (fAT M 4 jh 1 (c + 1))) jh (M 4 35 + nI k))) kn))), none, none] []
      rw [show ((fitC (fun c => allM (fun k => decide (M 2 (40 * jr + ki + k) = plS (vw (fAT M 4 jh 1 (c + 1))) jh (M 4 35 + nI k))) kn) 1 c) ||| (1 <<< ((nI (1 + c)) &&& 31)) : Int32) = fitC (fun c => allM (fun k => decide (M 2 (40 * jr + ki + k) = plS (vw (fAT M 4 jh 1 (c + 1))) jh (M 4 35 + nI k))) kn) 1 (c + 1) from by simp only [fitC, h_268, if_true, if_false, Bool.false_eq_true]]
      show g 0 0 (wM (up2 M 6 (fAT M 4 jh 1 (c + 1)))) 153 [some (.ref 0), some (.int (nI jh)), some (.int (nI jr)), some (.int (nI ki)), some (.int (nI kn)), some (.int 0), some (.int (fitC (fun c => allM (fun k => decide (M 2 (40 * jr + ki + k) = plS (vw (fAT M 4 jh 1 (c + 1))) jh (M 4 35 + nI k))) kn) 1 (c + 1))), some (.int 1), some (.int 5), some (.int 4), some (.int (nI (1 + (c + 1)))), some (.int (bB (allM (fun k => decide (M 2 (40 * jr + ki + k) = plS (vw (fAT M 4 jh 1 (c + 1))) jh (M 4 35 + nI k))) kn))), none, none] []
      refine r_drop (lv' := [some (.ref 0), some (.int (nI jh)), some (.int (nI jr)), some (.int (nI ki)), some (.int (nI kn)), some (.int 0), some (.int (fitC (fun c => allM (fun k => decide (M 2 (40 * jr + ki + k) = plS (vw (fAT M 4 jh 1 (c + 1))) jh (M 4 35 + nI k))) kn) 1 (c + 1))), some (.int 1), some (.int 5), some (.int 4), some (.int (nI (1 + (c + 1)))), none, none, none]) C ⟨rfl, rfl, rfl, rfl, rfl, rfl, rfl, rfl, rfl, rfl, rfl, trivial⟩ ?_
      exact ih (c + 1) (by omega)
set_option maxHeartbeats 4000000 in
set_option maxRecDepth 100000 in
theorem lpi_X6_fits_1 (M : Nat → Nat → Int32) (z : Nat) (hM : okM M z) (jh jr ki kn : Nat) (hjh : jh < z) (hjr : jr ≤ 7) (hkin : ki + kn ≤ 40) (c : Nat) (hc : c < 6) (acc : Int32) {g : Nat → Nat → List xE → Nat → List (Option Value) → List Value → Prop} (C : Sem cX6_fits RX6 "fits" 14 rmX6_fits g) (kk : g 0 0 (wM (up2 M 6 (fAT M 28 jh 0 (c + 1)))) 264 [some (.ref 0), some (.int (nI jh)), some (.int (nI jr)), some (.int (nI ki)), some (.int (nI kn)), some (.int 1), some (.int acc), some (.int 0), some (.int 5), some (.int 28), some (.int (nI (0 + c))), some (.int (bB (allM (fun k => decide (M 2 (40 * jr + ki + k) = plS (vw (fAT M 28 jh 0 (c + 1))) jh (M 4 35 + nI k))) kn))), none, none] []) : ∀ (n : Nat) (k : Nat), k + n = kn → g 0 0 (wM (up2 M 6 (fAT M 28 jh 0 (c + 1)))) 181 [some (.ref 0), some (.int (nI jh)), some (.int (nI jr)), some (.int (nI ki)), some (.int (nI kn)), some (.int 1), some (.int acc), some (.int 0), some (.int 5), some (.int 28), some (.int (nI (0 + c))), some (.int (bB (allM (fun k => decide (M 2 (40 * jr + ki + k) = plS (vw (fAT M 28 jh 0 (c + 1))) jh (M 4 35 + nI k))) k))), some (.int (nI k)), none] [] := by
  intro n
  have hz6 := hM.2.1
  have hok := okF28 hM (show jh < 6 by omega) (show c < 6 by omega)
  induction n with
  | zero =>
    intro k hk
    have hkk : k = kn := by omega
    rw [hkk]
    refine r_iload (pc := 181) C dX6_fits_181 rfl ?_
    refine r_iload (pc := 183) C dX6_fits_183 rfl ?_
    refine r_icmp_ge (pc := 185) (tgt := 264) C dX6_fits_185 (by decide) (fun _ => ?_) (fun h => absurd (nI_le (by omega) (by omega)) h)
    show g 0 0 (wM (up2 M 6 (fAT M 28 jh 0 (c + 1)))) 264 [some (.ref 0), some (.int (nI jh)), some (.int (nI jr)), some (.int (nI ki)), some (.int (nI kn)), some (.int 1), some (.int acc), some (.int 0), some (.int 5), some (.int 28), some (.int (nI (0 + c))), some (.int (bB (allM (fun k => decide (M 2 (40 * jr + ki + k) = plS (vw (fAT M 28 jh 0 (c + 1))) jh (M 4 35 + nI k))) kn))), some (.int (nI kn)), none] []
    refine r_drop (lv' := [some (.ref 0), some (.int (nI jh)), some (.int (nI jr)), some (.int (nI ki)), some (.int (nI kn)), some (.int 1), some (.int acc), some (.int 0), some (.int 5), some (.int 28), some (.int (nI (0 + c))), some (.int (bB (allM (fun k => decide (M 2 (40 * jr + ki + k) = plS (vw (fAT M 28 jh 0 (c + 1))) jh (M 4 35 + nI k))) kn))), none, none]) C ⟨rfl, rfl, rfl, rfl, rfl, rfl, rfl, rfl, rfl, rfl, rfl, rfl, trivial⟩ ?_
    show g 0 0 (wM (up2 M 6 (fAT M 28 jh 0 (c + 1)))) 264 [some (.ref 0), some (.int (nI jh)), some (.int (nI jr)), some (.int (nI ki)), some (.int (nI kn)), some (.int 1), some (.int acc), some (.int 0), some (.int 5), some (.int 28), some (.int (nI (0 + c))), some (.int (bB (allM (fun k => decide (M 2 (40 * jr + ki + k) = plS (vw (fAT M 28 jh 0 (c + 1))) jh (M 4 35 + nI k))) kn))), none, none] []
    exact kk
  | succ n ih =>
    intro k hk
    refine r_iload (pc := 181) C dX6_fits_181 rfl ?_
    refine r_iload (pc := 183) C dX6_fits_183 rfl ?_
    refine r_icmp_ge (pc := 185) (tgt := 264) C dX6_fits_185 (by decide) (fun h => absurd h (nI_ge (by omega) (by omega))) (fun _ => ?_)
    refine r_aload_n (pc := 188) C dX6_fits_188 rfl rfl ?_
    refine r_getfield (pc := 189) (v := .ref 4) C xf_X6_19 dX6_fits_189 rfl rfl ?_
    refine r_bipush (pc := 192) (v := 35) C dX6_fits_192 (by decide) ?_
    refine r_iaload (pc := 194) (v := M 4 35) C 35 dX6_fits_194 rfl (by decide) (by decide) rfl ?_
    refine r_iload (pc := 195) C dX6_fits_195 rfl ?_
    refine r_iadd (pc := 197) C dX6_fits_197 ?_
    refine r_istore (pc := 198) (lv' := [some (.ref 0), some (.int (nI jh)), some (.int (nI jr)), some (.int (nI ki)), some (.int (nI kn)), some (.int 1), some (.int acc), some (.int 0), some (.int 5), some (.int 28), some (.int (nI (0 + c))), some (.int (bB (allM (fun k => decide (M 2 (40 * jr + ki + k) = plS (vw (fAT M 28 jh 0 (c + 1))) jh (M 4 35 + nI k))) k))), some (.int (nI k)), some (.int ((M 4 35) + (nI k)))]) C dX6_fits_198 (Nat.le_of_ble_eq_true rfl) trivial rfl ?_
    refine r_iload (pc := 200) C dX6_fits_200 rfl ?_
    refine r_if_eq (pc := 202) (tgt := 255) C dX6_fits_202 (by decide) (fun h_202 => ?_) (fun h_202 => ?_)
    · replace h_202 := bB_f h_202
      refine r_iconst (pc := 255) (v := 0) C dX6_fits_255 (by decide) ?_
      refine r_istore (pc := 256) (lv' := [some (.ref 0), some (.int (nI jh)), some (.int (nI jr)), some (.int (nI ki)), some (.int (nI kn)), some (.int 1), some (.int acc), some (.int 0), some (.int 5), some (.int 28), some (.int (nI (0 + c))), some (.int 0), some (.int (nI k)), some (.int ((M 4 35) + (nI k)))]) C dX6_fits_256 (Nat.le_of_ble_eq_true rfl) trivial rfl ?_
      refine r_iinc (pc := 258) (v := nI (k + 1)) (lv' := [some (.ref 0), some (.int (nI jh)), some (.int (nI jr)), some (.int (nI ki)), some (.int (nI kn)), some (.int 1), some (.int acc), some (.int 0), some (.int 5), some (.int 28), some (.int (nI (0 + c))), some (.int 0), some (.int (nI (k + 1))), some (.int ((M 4 35) + (nI k)))]) C dX6_fits_258 rfl (nI_1 k) trivial rfl ?_
      refine r_goto (pc := 261) (tgt := 181) C dX6_fits_261 (by decide) ?_
      show g 0 0 (wM (up2 M 6 (fAT M 28 jh 0 (c + 1)))) 181 [some (.ref 0), some (.int (nI jh)), some (.int (nI jr)), some (.int (nI ki)), some (.int (nI kn)), some (.int 1), some (.int acc), some (.int 0), some (.int 5), some (.int 28), some (.int (nI (0 + c))), some (.int 0), some (.int (nI (k + 1))), some (.int ((M 4 35) + (nI k)))] []
      have hQ : bB (allM (fun k => decide (M 2 (40 * jr + ki + k) = plS (vw (fAT M 28 jh 0 (c + 1))) jh (M 4 35 + nI k))) (k + 1)) = 0 := by rw [allM, h_202]; rfl
      show g 0 0 (wM (up2 M 6 (fAT M 28 jh 0 (c + 1)))) 181 [some (.ref 0), some (.int (nI jh)), some (.int (nI jr)), some (.int (nI ki)), some (.int (nI kn)), some (.int 1), some (.int acc), some (.int 0), some (.int 5), some (.int 28), some (.int (nI (0 + c))), some (.int 0), some (.int (nI (k + 1))), some (.int ((M 4 35) + (nI k)))] []
      refine r_drop (lv' := [some (.ref 0), some (.int (nI jh)), some (.int (nI jr)), some (.int (nI ki)), some (.int (nI kn)), some (.int 1), some (.int acc), some (.int 0), some (.int 5), some (.int 28), some (.int (nI (0 + c))), some (.int 0), some (.int (nI (k + 1))), none]) C ⟨rfl, rfl, rfl, rfl, rfl, rfl, rfl, rfl, rfl, rfl, rfl, rfl, rfl, trivial⟩ ?_
      have hK := ih (k + 1) (by omega)
      rw [hQ] at hK
      exact hK
    · replace h_202 := bB_t h_202
      refine r_aload_n (pc := 205) C dX6_fits_205 rfl rfl ?_
      refine r_getfield (pc := 206) (v := .ref 3) C xf_X6_16 dX6_fits_206 rfl rfl ?_
      refine r_bipush (pc := 209) (v := 40) C dX6_fits_209 (by decide) ?_
      refine r_iload_n (pc := 211) C dX6_fits_211 rfl rfl ?_
      refine r_imul (pc := 212) C dX6_fits_212 ?_
      refine r_iload_n (pc := 213) C dX6_fits_213 rfl rfl ?_
      refine r_iadd (pc := 214) C dX6_fits_214 ?_
      refine r_iload (pc := 215) C dX6_fits_215 rfl ?_
      refine r_iadd (pc := 217) C dX6_fits_217 ?_
      refine r_iaload (pc := 218) (v := M 2 (40 * jr + ki + k)) C (40 * jr + ki + k) dX6_fits_218 rfl (nI_sum (m := (40 * jr + ki)) (n := k) (nI_sum (m := (40 * jr)) (n := ki) (nI_prod (m := 40) (n := jr) rfl rfl) rfl) rfl) (by first | assumption | omega) rfl ?_
      refine r_iload (pc := 219) C dX6_fits_219 rfl ?_
      refine r_iconst (pc := 221) (v := 2) C dX6_fits_221 (by decide) ?_
      refine r_icmp_ne (pc := 222) (tgt := 238) C dX6_fits_222 (by decide) (fun _ => ?_) (fun h => absurd h (by decide))
      refine r_aload_n (pc := 238) C dX6_fits_238 rfl rfl ?_
      refine r_getfield (pc := 239) (v := .ref 6) C xf_X6_25 dX6_fits_239 rfl rfl ?_
      refine r_iload_n (pc := 242) C dX6_fits_242 rfl rfl ?_
      refine r_iload (pc := 243) C dX6_fits_243 rfl ?_
      refine r_callSD (pc := 245) (As := [.ref 6, .int (nI jh), .int ((M 4 35) + (nI k))]) (st := [.int (M 2 (40 * jr + ki + k))]) (θ2 := wM (up2 M 6 (fAT M 28 jh 0 (c + 1)))) (r2 := some (.int (plS (vw (fAT M 28 jh 0 (c + 1))) jh ((M 4 35) + (nI k))))) C [6] (c_X6_where (fAT M 28 jh 0 (c + 1)) jh (by omega) ((M 4 35) + (nI k)) (hok.2.2 jh (by omega)) hok.2.1) xm_X6_where xk_X6_155 dX6_fits_245 rfl (by decide) rfl rfl rfl (Nat.le_of_ble_eq_true rfl) ⟨Nat.le_of_ble_eq_true rfl, Nat.le_of_ble_eq_true rfl⟩ ⟨rfl, rfl⟩ ⟨Nat.le_of_ble_eq_true rfl, Nat.le_of_ble_eq_true rfl⟩ rfl (Eq.trans (b := 1) rfl rfl) rfl rfl ?_
      show g 0 0 (wM (up2 M 6 (fAT M 28 jh 0 (c + 1)))) 248 [some (.ref 0), some (.int (nI jh)), some (.int (nI jr)), some (.int (nI ki)), some (.int (nI kn)), some (.int 1), some (.int acc), some (.int 0), some (.int 5), some (.int 28), some (.int (nI (0 + c))), some (.int (bB (allM (fun k => decide (M 2 (40 * jr + ki + k) = plS (vw (fAT M 28 jh 0 (c + 1))) jh (M 4 35 + nI k))) k))), some (.int (nI k)), some (.int ((M 4 35) + (nI k)))] [.int (plS (vw (fAT M 28 jh 0 (c + 1))) jh ((M 4 35) + (nI k))), .int (M 2 (40 * jr + ki + k))]
      refine r_icmp_ne (pc := 248) (tgt := 255) C dX6_fits_248 (by decide) (fun h_248 => ?_) (fun h_248 => ?_)
      · skip
        refine r_iconst (pc := 255) (v := 0) C dX6_fits_255 (by decide) ?_
        refine r_istore (pc := 256) (lv' := [some (.ref 0), some (.int (nI jh)), some (.int (nI jr)), some (.int (nI ki)), some (.int (nI kn)), some (.int 1), some (.int acc), some (.int 0), some (.int 5), some (.int 28), some (.int (nI (0 + c))), some (.int 0), some (.int (nI k)), some (.int ((M 4 35) + (nI k)))]) C dX6_fits_256 (Nat.le_of_ble_eq_true rfl) trivial rfl ?_
        refine r_iinc (pc := 258) (v := nI (k + 1)) (lv' := [some (.ref 0), some (.int (nI jh)), some (.int (nI jr)), some (.int (nI ki)), some (.int (nI kn)), some (.int 1), some (.int acc), some (.int 0), some (.int 5), some (.int 28), some (.int (nI (0 + c))), some (.int 0), some (.int (nI (k + 1))), some (.int ((M 4 35) + (nI k)))]) C dX6_fits_258 rfl (nI_1 k) trivial rfl ?_
        refine r_goto (pc := 261) (tgt := 181) C dX6_fits_261 (by decide) ?_
        show g 0 0 (wM (up2 M 6 (fAT M 28 jh 0 (c + 1)))) 181 [some (.ref 0), some (.int (nI jh)), some (.int (nI jr)), some (.int (nI ki)), some (.int (nI kn)), some (.int 1), some (.int acc), some (.int 0), some (.int 5), some (.int 28), some (.int (nI (0 + c))), some (.int 0), some (.int (nI (k + 1))), some (.int ((M 4 35) + (nI k)))] []
        have hQ : bB (allM (fun k => decide (M 2 (40 * jr + ki + k) = plS (vw (fAT M 28 jh 0 (c + 1))) jh (M 4 35 + nI k))) (k + 1)) = 0 := by rw [allM, h_202, Bool.true_and]; show bB (decide _) = 0; rw [decide_eq_false h_248]; rfl
        show g 0 0 (wM (up2 M 6 (fAT M 28 jh 0 (c + 1)))) 181 [some (.ref 0), some (.int (nI jh)), some (.int (nI jr)), some (.int (nI ki)), some (.int (nI kn)), some (.int 1), some (.int acc), some (.int 0), some (.int 5), some (.int 28), some (.int (nI (0 + c))), some (.int 0), some (.int (nI (k + 1))), some (.int ((M 4 35) + (nI k)))] []
        refine r_drop (lv' := [some (.ref 0), some (.int (nI jh)), some (.int (nI jr)), some (.int (nI ki)), some (.int (nI kn)), some (.int 1), some (.int acc), some (.int 0), some (.int 5), some (.int 28), some (.int (nI (0 + c))), some (.int 0), some (.int (nI (k + 1))), none]) C ⟨rfl, rfl, rfl, rfl, rfl, rfl, rfl, rfl, rfl, rfl, rfl, rfl, rfl, trivial⟩ ?_
        have hK := ih (k + 1) (by omega)
        rw [hQ] at hK
        exact hK
      · skip
        refine r_iconst (pc := 251) (v := 1) C dX6_fits_251 (by decide) ?_
        refine r_goto (pc := 252) (tgt := 256) C dX6_fits_252 (by decide) ?_
        refine r_istore (pc := 256) (lv' := [some (.ref 0), some (.int (nI jh)), some (.int (nI jr)), some (.int (nI ki)), some (.int (nI kn)), some (.int 1), some (.int acc), some (.int 0), some (.int 5), some (.int 28), some (.int (nI (0 + c))), some (.int 1), some (.int (nI k)), some (.int ((M 4 35) + (nI k)))]) C dX6_fits_256 (Nat.le_of_ble_eq_true rfl) trivial rfl ?_
        refine r_iinc (pc := 258) (v := nI (k + 1)) (lv' := [some (.ref 0), some (.int (nI jh)), some (.int (nI jr)), some (.int (nI ki)), some (.int (nI kn)), some (.int 1), some (.int acc), some (.int 0), some (.int 5), some (.int 28), some (.int (nI (0 + c))), some (.int 1), some (.int (nI (k + 1))), some (.int ((M 4 35) + (nI k)))]) C dX6_fits_258 rfl (nI_1 k) trivial rfl ?_
        refine r_goto (pc := 261) (tgt := 181) C dX6_fits_261 (by decide) ?_
        show g 0 0 (wM (up2 M 6 (fAT M 28 jh 0 (c + 1)))) 181 [some (.ref 0), some (.int (nI jh)), some (.int (nI jr)), some (.int (nI ki)), some (.int (nI kn)), some (.int 1), some (.int acc), some (.int 0), some (.int 5), some (.int 28), some (.int (nI (0 + c))), some (.int 1), some (.int (nI (k + 1))), some (.int ((M 4 35) + (nI k)))] []
        have hQ : bB (allM (fun k => decide (M 2 (40 * jr + ki + k) = plS (vw (fAT M 28 jh 0 (c + 1))) jh (M 4 35 + nI k))) (k + 1)) = 1 := by rw [allM, h_202, Bool.true_and]; show bB (decide _) = 1; rw [decide_eq_true h_248]; rfl
        show g 0 0 (wM (up2 M 6 (fAT M 28 jh 0 (c + 1)))) 181 [some (.ref 0), some (.int (nI jh)), some (.int (nI jr)), some (.int (nI ki)), some (.int (nI kn)), some (.int 1), some (.int acc), some (.int 0), some (.int 5), some (.int 28), some (.int (nI (0 + c))), some (.int 1), some (.int (nI (k + 1))), some (.int ((M 4 35) + (nI k)))] []
        refine r_drop (lv' := [some (.ref 0), some (.int (nI jh)), some (.int (nI jr)), some (.int (nI ki)), some (.int (nI kn)), some (.int 1), some (.int acc), some (.int 0), some (.int 5), some (.int 28), some (.int (nI (0 + c))), some (.int 1), some (.int (nI (k + 1))), none]) C ⟨rfl, rfl, rfl, rfl, rfl, rfl, rfl, rfl, rfl, rfl, rfl, rfl, rfl, trivial⟩ ?_
        have hK := ih (k + 1) (by omega)
        rw [hQ] at hK
        exact hK
set_option maxHeartbeats 4000000 in
set_option maxRecDepth 100000 in
theorem lpo_X6_fits_1 (M : Nat → Nat → Int32) (z : Nat) (hM : okM M z) (jh jr ki kn : Nat) (hjh : jh < z) (hjr : jr ≤ 7) (hkin : ki + kn ≤ 40) {g : Nat → Nat → List xE → Nat → List (Option Value) → List Value → Prop} (C : Sem cX6_fits RX6 "fits" 14 rmX6_fits g) (kk : g 0 0 (wM (up2 M 6 (fAT M 28 jh 0 6))) 288 [some (.ref 0), some (.int (nI jh)), some (.int (nI jr)), some (.int (nI ki)), some (.int (nI kn)), some (.int 1), some (.int (fitC (fun c => allM (fun k => decide (M 2 (40 * jr + ki + k) = plS (vw (fAT M 28 jh 0 (c + 1))) jh (M 4 35 + nI k))) kn) 0 6)), some (.int 0), some (.int 5), some (.int 28), none, none, none, none] []) : ∀ (n : Nat) (c : Nat), c + n = 6 → g 0 0 (wM (up2 M 6 (fAT M 28 jh 0 c))) 153 [some (.ref 0), some (.int (nI jh)), some (.int (nI jr)), some (.int (nI ki)), some (.int (nI kn)), some (.int 1), some (.int (fitC (fun c => allM (fun k => decide (M 2 (40 * jr + ki + k) = plS (vw (fAT M 28 jh 0 (c + 1))) jh (M 4 35 + nI k))) kn) 0 c)), some (.int 0), some (.int 5), some (.int 28), some (.int (nI (0 + c))), none, none, none] [] := by
  intro n
  have hz6 := hM.2.1
  induction n with
  | zero =>
    intro c hc
    have hcc : c = 6 := by omega
    rw [hcc]
    refine r_iload (pc := 153) C dX6_fits_153 rfl ?_
    refine r_iload (pc := 155) C dX6_fits_155 rfl ?_
    refine r_icmp_gt (pc := 157) (tgt := 288) C dX6_fits_157 (by decide) (fun _ => ?_) (fun h => absurd (((nI_ltI (a := 5) (by omega) (by omega)).mpr (by omega))) h)
    show g 0 0 (wM (up2 M 6 (fAT M 28 jh 0 6))) 288 [some (.ref 0), some (.int (nI jh)), some (.int (nI jr)), some (.int (nI ki)), some (.int (nI kn)), some (.int 1), some (.int (fitC (fun c => allM (fun k => decide (M 2 (40 * jr + ki + k) = plS (vw (fAT M 28 jh 0 (c + 1))) jh (M 4 35 + nI k))) kn) 0 6)), some (.int 0), some (.int 5), some (.int 28), some (.int (nI (0 + 6))), none, none, none] []
    refine r_drop (lv' := [some (.ref 0), some (.int (nI jh)), some (.int (nI jr)), some (.int (nI ki)), some (.int (nI kn)), some (.int 1), some (.int (fitC (fun c => allM (fun k => decide (M 2 (40 * jr + ki + k) = plS (vw (fAT M 28 jh 0 (c + 1))) jh (M 4 35 + nI k))) kn) 0 6)), some (.int 0), some (.int 5), some (.int 28), none, none, none, none]) C ⟨rfl, rfl, rfl, rfl, rfl, rfl, rfl, rfl, rfl, rfl, trivial⟩ ?_
    show g 0 0 (wM (up2 M 6 (fAT M 28 jh 0 6))) 288 [some (.ref 0), some (.int (nI jh)), some (.int (nI jr)), some (.int (nI ki)), some (.int (nI kn)), some (.int 1), some (.int (fitC (fun c => allM (fun k => decide (M 2 (40 * jr + ki + k) = plS (vw (fAT M 28 jh 0 (c + 1))) jh (M 4 35 + nI k))) kn) 0 6)), some (.int 0), some (.int 5), some (.int 28), none, none, none, none] []
    exact kk
  | succ n ih =>
    intro c hc
    refine r_iload (pc := 153) C dX6_fits_153 rfl ?_
    refine r_iload (pc := 155) C dX6_fits_155 rfl ?_
    refine r_icmp_gt (pc := 157) (tgt := 288) C dX6_fits_157 (by decide) (fun h => absurd h (fun z => absurd ((nI_ltI (a := 5) (by omega) (by omega)).mp z) (by omega))) (fun _ => ?_)
    refine r_aload_n (pc := 160) C dX6_fits_160 rfl rfl ?_
    refine r_callV0 (pc := 161) (As := []) (st := []) (θ' := wM (up2 M 6 (va_cpy (M 4) (fAT M 28 jh 0 c) 0 0 36))) C (c_X6_layAside (up2 M 6 (fAT M 28 jh 0 c))) xm_X6_layAside xk_X6_204 dX6_fits_161 rfl rfl rfl rfl (Nat.le_of_ble_eq_true rfl) ⟨Nat.le_of_ble_eq_true rfl, Nat.le_of_ble_eq_true rfl⟩ ⟨rfl, rfl⟩ ⟨Nat.le_of_ble_eq_true rfl, Nat.le_of_ble_eq_true rfl⟩ rfl (Eq.trans (b := 14) rfl rfl) ?_
    show g 0 0 (wM (up2 M 6 (va_cpy (M 4) (fAT M 28 jh 0 c) 0 0 36))) 164 [some (.ref 0), some (.int (nI jh)), some (.int (nI jr)), some (.int (nI ki)), some (.int (nI kn)), some (.int 1), some (.int (fitC (fun c => allM (fun k => decide (M 2 (40 * jr + ki + k) = plS (vw (fAT M 28 jh 0 (c + 1))) jh (M 4 35 + nI k))) kn) 0 c)), some (.int 0), some (.int 5), some (.int 28), some (.int (nI (0 + c))), none, none, none] []
    refine r_aload_n (pc := 164) C dX6_fits_164 rfl rfl ?_
    refine r_getfield (pc := 165) (v := .ref 6) C xf_X6_25 dX6_fits_165 rfl rfl ?_
    refine r_iload (pc := 168) C dX6_fits_168 rfl ?_
    refine r_iload_n (pc := 170) C dX6_fits_170 rfl rfl ?_
    refine r_iadd (pc := 171) C dX6_fits_171 ?_
    refine r_iload (pc := 172) C dX6_fits_172 rfl ?_
    refine r_iastore (pc := 174) (θ' := wM (up2 M 6 (fAT M 28 jh 0 (c + 1)))) C (28 + jh) dX6_fits_174 rfl (nI_sum (m := 28) (n := jh) rfl rfl) (by first | assumption | omega) (by rw [← fA_s]; rfl) ?_
    refine r_iconst (pc := 175) (v := 1) C dX6_fits_175 (by decide) ?_
    refine r_istore (pc := 176) (lv' := [some (.ref 0), some (.int (nI jh)), some (.int (nI jr)), some (.int (nI ki)), some (.int (nI kn)), some (.int 1), some (.int (fitC (fun c => allM (fun k => decide (M 2 (40 * jr + ki + k) = plS (vw (fAT M 28 jh 0 (c + 1))) jh (M 4 35 + nI k))) kn) 0 c)), some (.int 0), some (.int 5), some (.int 28), some (.int (nI (0 + c))), some (.int 1), none, none]) C dX6_fits_176 (Nat.le_of_ble_eq_true rfl) trivial rfl ?_
    refine r_iconst (pc := 178) (v := 0) C dX6_fits_178 (by decide) ?_
    refine r_istore (pc := 179) (lv' := [some (.ref 0), some (.int (nI jh)), some (.int (nI jr)), some (.int (nI ki)), some (.int (nI kn)), some (.int 1), some (.int (fitC (fun c => allM (fun k => decide (M 2 (40 * jr + ki + k) = plS (vw (fAT M 28 jh 0 (c + 1))) jh (M 4 35 + nI k))) kn) 0 c)), some (.int 0), some (.int 5), some (.int 28), some (.int (nI (0 + c))), some (.int 1), some (.int 0), none]) C dX6_fits_179 (Nat.le_of_ble_eq_true rfl) trivial rfl ?_
    show g 0 0 (wM (up2 M 6 (fAT M 28 jh 0 (c + 1)))) 181 [some (.ref 0), some (.int (nI jh)), some (.int (nI jr)), some (.int (nI ki)), some (.int (nI kn)), some (.int 1), some (.int (fitC (fun c => allM (fun k => decide (M 2 (40 * jr + ki + k) = plS (vw (fAT M 28 jh 0 (c + 1))) jh (M 4 35 + nI k))) kn) 0 c)), some (.int 0), some (.int 5), some (.int 28), some (.int (nI (0 + c))), some (.int 1), some (.int 0), none] []
    refine lpi_X6_fits_1 M z hM jh jr ki kn hjh hjr hkin c (by omega) (fitC (fun c => allM (fun k => decide (M 2 (40 * jr + ki + k) = plS (vw (fAT M 28 jh 0 (c + 1))) jh (M 4 35 + nI k))) kn) 0 c) C ?_ kn 0 (by omega)
    show g 0 0 (wM (up2 M 6 (fAT M 28 jh 0 (c + 1)))) 264 [some (.ref 0), some (.int (nI jh)), some (.int (nI jr)), some (.int (nI ki)), some (.int (nI kn)), some (.int 1), some (.int (fitC (fun c => allM (fun k => decide (M 2 (40 * jr + ki + k) = plS (vw (fAT M 28 jh 0 (c + 1))) jh (M 4 35 + nI k))) kn) 0 c)), some (.int 0), some (.int 5), some (.int 28), some (.int (nI (0 + c))), some (.int (bB (allM (fun k => decide (M 2 (40 * jr + ki + k) = plS (vw (fAT M 28 jh 0 (c + 1))) jh (M 4 35 + nI k))) kn))), none, none] []
    refine r_iload (pc := 264) C dX6_fits_264 rfl ?_
    refine r_iload (pc := 266) C dX6_fits_266 rfl ?_
    refine r_if_eq (pc := 268) (tgt := 278) C dX6_fits_268 (by decide) (fun h_268 => ?_) (fun h_268 => ?_)
    · replace h_268 := bB_f h_268
      refine r_iconst (pc := 278) (v := 0) C dX6_fits_278 (by decide) ?_
      refine r_ior (pc := 279) C dX6_fits_279 ?_
      refine r_istore (pc := 280) (lv' := [some (.ref 0), some (.int (nI jh)), some (.int (nI jr)), some (.int (nI ki)), some (.int (nI kn)), some (.int 1), some (.int ((fitC (fun c => allM (fun k => decide (M 2 (40 * jr + ki + k) = plS (vw (fAT M 28 jh 0 (c + 1))) jh (M 4 35 + nI k))) kn) 0 c) ||| 0)), some (.int 0), some (.int 5), some (.int 28), some (.int (nI (0 + c))), some (.int (bB (allM (fun k => decide (M 2 (40 * jr + ki + k) = plS (vw (fAT M 28 jh 0 (c + 1))) jh (M 4 35 + nI k))) kn))), none, none]) C dX6_fits_280 (Nat.le_of_ble_eq_true rfl) trivial rfl ?_
      refine r_iinc (pc := 282) (v := nI (0 + (c + 1))) (lv' := [some (.ref 0), some (.int (nI jh)), some (.int (nI jr)), some (.int (nI ki)), some (.int (nI kn)), some (.int 1), some (.int ((fitC (fun c => allM (fun k => decide (M 2 (40 * jr + ki + k) = plS (vw (fAT M 28 jh 0 (c + 1))) jh (M 4 35 + nI k))) kn) 0 c) ||| 0)), some (.int 0), some (.int 5), some (.int 28), some (.int (nI (0 + (c + 1)))), some (.int (bB (allM (fun k => decide (M 2 (40 * jr + ki + k) = plS (vw (fAT M 28 jh 0 (c + 1))) jh (M 4 35 + nI k))) kn))), none, none]) C dX6_fits_282 rfl (nI_1 (0 + c)) trivial rfl ?_
      refine r_goto (pc := 285) (tgt := 153) C dX6_fits_285 (by decide) ?_
      show g 0 0 (wM (up2 M 6 (fAT M 28 jh 0 (c + 1)))) 153 [some (.ref 0), some (.int (nI jh)), some (.int (nI jr)), some (.int (nI ki)), some (.int (nI kn)), some (.int 1), some (.int ((fitC (fun c => allM (fun k => decide (M 2 (40 * jr + ki + k) = plS (vw (fAT M 28 jh 0 (c + 1))) jh (M 4 35 + nI k))) kn) 0 c) ||| 0)), some (.int 0), some (.int 5), some (.int 28), some (.int (nI (0 + (c + 1)))), some (.int (bB (allM (fun k => decide (M 2 (40 * jr + ki + k) = plS (vw (fAT M 28 jh 0 (c + 1))) jh (M 4 35 + nI k))) kn))), none, none] []
      rw [show ((fitC (fun c => allM (fun k => decide (M 2 (40 * jr + ki + k) = plS (vw (fAT M 28 jh 0 (c + 1))) jh (M 4 35 + nI k))) kn) 0 c) ||| 0 : Int32) = fitC (fun c => allM (fun k => decide (M 2 (40 * jr + ki + k) = plS (vw (fAT M 28 jh 0 (c + 1))) jh (M 4 35 + nI k))) kn) 0 (c + 1) from by simp only [fitC, h_268, if_true, if_false, Bool.false_eq_true]]
      show g 0 0 (wM (up2 M 6 (fAT M 28 jh 0 (c + 1)))) 153 [some (.ref 0), some (.int (nI jh)), some (.int (nI jr)), some (.int (nI ki)), some (.int (nI kn)), some (.int 1), some (.int (fitC (fun c => allM (fun k => decide (M 2 (40 * jr + ki + k) = plS (vw (fAT M 28 jh 0 (c + 1))) jh (M 4 35 + nI k))) kn) 0 (c + 1))), some (.int 0), some (.int 5), some (.int 28), some (.int (nI (0 + (c + 1)))), some (.int (bB (allM (fun k => decide (M 2 (40 * jr + ki + k) = plS (vw (fAT M 28 jh 0 (c + 1))) jh (M 4 35 + nI k))) kn))), none, none] []
      refine r_drop (lv' := [some (.ref 0), some (.int (nI jh)), some (.int (nI jr)), some (.int (nI ki)), some (.int (nI kn)), some (.int 1), some (.int (fitC (fun c => allM (fun k => decide (M 2 (40 * jr + ki + k) = plS (vw (fAT M 28 jh 0 (c + 1))) jh (M 4 35 + nI k))) kn) 0 (c + 1))), some (.int 0), some (.int 5), some (.int 28), some (.int (nI (0 + (c + 1)))), none, none, none]) C ⟨rfl, rfl, rfl, rfl, rfl, rfl, rfl, rfl, rfl, rfl, rfl, trivial⟩ ?_
      exact ih (c + 1) (by omega)
    · replace h_268 := bB_t h_268
      refine r_iconst (pc := 271) (v := 1) C dX6_fits_271 (by decide) ?_
      refine r_iload (pc := 272) C dX6_fits_272 rfl ?_
      refine r_ishl (pc := 274) C dX6_fits_274 ?_
      refine r_goto (pc := 275) (tgt := 279) C dX6_fits_275 (by decide) ?_
      refine r_ior (pc := 279) C dX6_fits_279 ?_
      refine r_istore (pc := 280) (lv' := [some (.ref 0), some (.int (nI jh)), some (.int (nI jr)), some (.int (nI ki)), some (.int (nI kn)), some (.int 1), some (.int ((fitC (fun c => allM (fun k => decide (M 2 (40 * jr + ki + k) = plS (vw (fAT M 28 jh 0 (c + 1))) jh (M 4 35 + nI k))) kn) 0 c) ||| (1 <<< ((nI (0 + c)) &&& 31)))), some (.int 0), some (.int 5), some (.int 28), some (.int (nI (0 + c))), some (.int (bB (allM (fun k => decide (M 2 (40 * jr + ki + k) = plS (vw (fAT M 28 jh 0 (c + 1))) jh (M 4 35 + nI k))) kn))), none, none]) C dX6_fits_280 (Nat.le_of_ble_eq_true rfl) trivial rfl ?_
      refine r_iinc (pc := 282) (v := nI (0 + (c + 1))) (lv' := [some (.ref 0), some (.int (nI jh)), some (.int (nI jr)), some (.int (nI ki)), some (.int (nI kn)), some (.int 1), some (.int ((fitC (fun c => allM (fun k => decide (M 2 (40 * jr + ki + k) = plS (vw (fAT M 28 jh 0 (c + 1))) jh (M 4 35 + nI k))) kn) 0 c) ||| (1 <<< ((nI (0 + c)) &&& 31)))), some (.int 0), some (.int 5), some (.int 28), some (.int (nI (0 + (c + 1)))), some (.int (bB (allM (fun k => decide (M 2 (40 * jr + ki + k) = plS (vw (fAT M 28 jh 0 (c + 1))) jh (M 4 35 + nI k))) kn))), none, none]) C dX6_fits_282 rfl (nI_1 (0 + c)) trivial rfl ?_
      refine r_goto (pc := 285) (tgt := 153) C dX6_fits_285 (by decide) ?_
      show g 0 0 (wM (up2 M 6 (fAT M 28 jh 0 (c + 1)))) 153 [some (.ref 0), some (.int (nI jh)), some (.int (nI jr)), some (.int (nI ki)), some (.int (nI kn)), some (.int 1), some (.int ((fitC (fun c => allM (fun k => decide (M 2 (40 * jr + ki + k) = plS (vw (fAT M 28 jh 0 (c + 1))) jh (M 4 35 + nI k))) kn) 0 c) ||| (1 <<< ((nI (0 + c)) &&& 31)))), some (.int 0), some (.int 5), some (.int 28), some (.int (nI (0 + (c + 1)))), some (.int (bB (allM (fun k => decide (M 2 (40 * jr + ki + k) = plS (vw (fAT M 28 jh 0 (c + 1))) jh (M 4 35 + nI k))) kn))), none, none] []
      rw [show ((fitC (fun c => allM (fun k => decide (M 2 (40 * jr + ki + k) = plS (vw (fAT M 28 jh 0 (c + 1))) jh (M 4 35 + nI k))) kn) 0 c) ||| (1 <<< ((nI (0 + c)) &&& 31)) : Int32) = fitC (fun c => allM (fun k => decide (M 2 (40 * jr + ki + k) = plS (vw (fAT M 28 jh 0 (c + 1))) jh (M 4 35 + nI k))) kn) 0 (c + 1) from by simp only [fitC, h_268, if_true, if_false, Bool.false_eq_true]]
      show g 0 0 (wM (up2 M 6 (fAT M 28 jh 0 (c + 1)))) 153 [some (.ref 0), some (.int (nI jh)), some (.int (nI jr)), some (.int (nI ki)), some (.int (nI kn)), some (.int 1), some (.int (fitC (fun c => allM (fun k => decide (M 2 (40 * jr + ki + k) = plS (vw (fAT M 28 jh 0 (c + 1))) jh (M 4 35 + nI k))) kn) 0 (c + 1))), some (.int 0), some (.int 5), some (.int 28), some (.int (nI (0 + (c + 1)))), some (.int (bB (allM (fun k => decide (M 2 (40 * jr + ki + k) = plS (vw (fAT M 28 jh 0 (c + 1))) jh (M 4 35 + nI k))) kn))), none, none] []
      refine r_drop (lv' := [some (.ref 0), some (.int (nI jh)), some (.int (nI jr)), some (.int (nI ki)), some (.int (nI kn)), some (.int 1), some (.int (fitC (fun c => allM (fun k => decide (M 2 (40 * jr + ki + k) = plS (vw (fAT M 28 jh 0 (c + 1))) jh (M 4 35 + nI k))) kn) 0 (c + 1))), some (.int 0), some (.int 5), some (.int 28), some (.int (nI (0 + (c + 1)))), none, none, none]) C ⟨rfl, rfl, rfl, rfl, rfl, rfl, rfl, rfl, rfl, rfl, rfl, trivial⟩ ?_
      exact ih (c + 1) (by omega)
set_option maxHeartbeats 4000000 in
set_option maxRecDepth 100000 in
theorem lpi_X6_fits_2 (M : Nat → Nat → Int32) (z : Nat) (hM : okM M z) (jh jr ki kn : Nat) (hjh : jh < z) (hjr : jr ≤ 7) (hkin : ki + kn ≤ 40) (c : Nat) (hc : c < 20) (acc : Int32) {g : Nat → Nat → List xE → Nat → List (Option Value) → List Value → Prop} (C : Sem cX6_fits RX6 "fits" 14 rmX6_fits g) (kk : g 0 0 (wM (up2 M 6 (fAT M 22 jh 1 (c + 1)))) 264 [some (.ref 0), some (.int (nI jh)), some (.int (nI jr)), some (.int (nI ki)), some (.int (nI kn)), some (.int 2), some (.int acc), some (.int 1), some (.int 20), some (.int 22), some (.int (nI (1 + c))), some (.int (bB (allM (fun k => decide (M 2 (40 * jr + ki + k) = reachM (vw (fAT M 22 jh 1 (c + 1))) z jh (M 4 35 + nI k))) kn))), none, none] []) : ∀ (n : Nat) (k : Nat), k + n = kn → g 0 0 (wM (up2 M 6 (fAT M 22 jh 1 (c + 1)))) 181 [some (.ref 0), some (.int (nI jh)), some (.int (nI jr)), some (.int (nI ki)), some (.int (nI kn)), some (.int 2), some (.int acc), some (.int 1), some (.int 20), some (.int 22), some (.int (nI (1 + c))), some (.int (bB (allM (fun k => decide (M 2 (40 * jr + ki + k) = reachM (vw (fAT M 22 jh 1 (c + 1))) z jh (M 4 35 + nI k))) k))), some (.int (nI k)), none] [] := by
  intro n
  have hz6 := hM.2.1
  have hok := okF22 (h := jh) (c := c) hM (show jh < 6 by omega)
  induction n with
  | zero =>
    intro k hk
    have hkk : k = kn := by omega
    rw [hkk]
    refine r_iload (pc := 181) C dX6_fits_181 rfl ?_
    refine r_iload (pc := 183) C dX6_fits_183 rfl ?_
    refine r_icmp_ge (pc := 185) (tgt := 264) C dX6_fits_185 (by decide) (fun _ => ?_) (fun h => absurd (nI_le (by omega) (by omega)) h)
    show g 0 0 (wM (up2 M 6 (fAT M 22 jh 1 (c + 1)))) 264 [some (.ref 0), some (.int (nI jh)), some (.int (nI jr)), some (.int (nI ki)), some (.int (nI kn)), some (.int 2), some (.int acc), some (.int 1), some (.int 20), some (.int 22), some (.int (nI (1 + c))), some (.int (bB (allM (fun k => decide (M 2 (40 * jr + ki + k) = reachM (vw (fAT M 22 jh 1 (c + 1))) z jh (M 4 35 + nI k))) kn))), some (.int (nI kn)), none] []
    refine r_drop (lv' := [some (.ref 0), some (.int (nI jh)), some (.int (nI jr)), some (.int (nI ki)), some (.int (nI kn)), some (.int 2), some (.int acc), some (.int 1), some (.int 20), some (.int 22), some (.int (nI (1 + c))), some (.int (bB (allM (fun k => decide (M 2 (40 * jr + ki + k) = reachM (vw (fAT M 22 jh 1 (c + 1))) z jh (M 4 35 + nI k))) kn))), none, none]) C ⟨rfl, rfl, rfl, rfl, rfl, rfl, rfl, rfl, rfl, rfl, rfl, rfl, trivial⟩ ?_
    show g 0 0 (wM (up2 M 6 (fAT M 22 jh 1 (c + 1)))) 264 [some (.ref 0), some (.int (nI jh)), some (.int (nI jr)), some (.int (nI ki)), some (.int (nI kn)), some (.int 2), some (.int acc), some (.int 1), some (.int 20), some (.int 22), some (.int (nI (1 + c))), some (.int (bB (allM (fun k => decide (M 2 (40 * jr + ki + k) = reachM (vw (fAT M 22 jh 1 (c + 1))) z jh (M 4 35 + nI k))) kn))), none, none] []
    exact kk
  | succ n ih =>
    intro k hk
    refine r_iload (pc := 181) C dX6_fits_181 rfl ?_
    refine r_iload (pc := 183) C dX6_fits_183 rfl ?_
    refine r_icmp_ge (pc := 185) (tgt := 264) C dX6_fits_185 (by decide) (fun h => absurd h (nI_ge (by omega) (by omega))) (fun _ => ?_)
    refine r_aload_n (pc := 188) C dX6_fits_188 rfl rfl ?_
    refine r_getfield (pc := 189) (v := .ref 4) C xf_X6_19 dX6_fits_189 rfl rfl ?_
    refine r_bipush (pc := 192) (v := 35) C dX6_fits_192 (by decide) ?_
    refine r_iaload (pc := 194) (v := M 4 35) C 35 dX6_fits_194 rfl (by decide) (by decide) rfl ?_
    refine r_iload (pc := 195) C dX6_fits_195 rfl ?_
    refine r_iadd (pc := 197) C dX6_fits_197 ?_
    refine r_istore (pc := 198) (lv' := [some (.ref 0), some (.int (nI jh)), some (.int (nI jr)), some (.int (nI ki)), some (.int (nI kn)), some (.int 2), some (.int acc), some (.int 1), some (.int 20), some (.int 22), some (.int (nI (1 + c))), some (.int (bB (allM (fun k => decide (M 2 (40 * jr + ki + k) = reachM (vw (fAT M 22 jh 1 (c + 1))) z jh (M 4 35 + nI k))) k))), some (.int (nI k)), some (.int ((M 4 35) + (nI k)))]) C dX6_fits_198 (Nat.le_of_ble_eq_true rfl) trivial rfl ?_
    refine r_iload (pc := 200) C dX6_fits_200 rfl ?_
    refine r_if_eq (pc := 202) (tgt := 255) C dX6_fits_202 (by decide) (fun h_202 => ?_) (fun h_202 => ?_)
    · replace h_202 := bB_f h_202
      refine r_iconst (pc := 255) (v := 0) C dX6_fits_255 (by decide) ?_
      refine r_istore (pc := 256) (lv' := [some (.ref 0), some (.int (nI jh)), some (.int (nI jr)), some (.int (nI ki)), some (.int (nI kn)), some (.int 2), some (.int acc), some (.int 1), some (.int 20), some (.int 22), some (.int (nI (1 + c))), some (.int 0), some (.int (nI k)), some (.int ((M 4 35) + (nI k)))]) C dX6_fits_256 (Nat.le_of_ble_eq_true rfl) trivial rfl ?_
      refine r_iinc (pc := 258) (v := nI (k + 1)) (lv' := [some (.ref 0), some (.int (nI jh)), some (.int (nI jr)), some (.int (nI ki)), some (.int (nI kn)), some (.int 2), some (.int acc), some (.int 1), some (.int 20), some (.int 22), some (.int (nI (1 + c))), some (.int 0), some (.int (nI (k + 1))), some (.int ((M 4 35) + (nI k)))]) C dX6_fits_258 rfl (nI_1 k) trivial rfl ?_
      refine r_goto (pc := 261) (tgt := 181) C dX6_fits_261 (by decide) ?_
      show g 0 0 (wM (up2 M 6 (fAT M 22 jh 1 (c + 1)))) 181 [some (.ref 0), some (.int (nI jh)), some (.int (nI jr)), some (.int (nI ki)), some (.int (nI kn)), some (.int 2), some (.int acc), some (.int 1), some (.int 20), some (.int 22), some (.int (nI (1 + c))), some (.int 0), some (.int (nI (k + 1))), some (.int ((M 4 35) + (nI k)))] []
      have hQ : bB (allM (fun k => decide (M 2 (40 * jr + ki + k) = reachM (vw (fAT M 22 jh 1 (c + 1))) z jh (M 4 35 + nI k))) (k + 1)) = 0 := by rw [allM, h_202]; rfl
      show g 0 0 (wM (up2 M 6 (fAT M 22 jh 1 (c + 1)))) 181 [some (.ref 0), some (.int (nI jh)), some (.int (nI jr)), some (.int (nI ki)), some (.int (nI kn)), some (.int 2), some (.int acc), some (.int 1), some (.int 20), some (.int 22), some (.int (nI (1 + c))), some (.int 0), some (.int (nI (k + 1))), some (.int ((M 4 35) + (nI k)))] []
      refine r_drop (lv' := [some (.ref 0), some (.int (nI jh)), some (.int (nI jr)), some (.int (nI ki)), some (.int (nI kn)), some (.int 2), some (.int acc), some (.int 1), some (.int 20), some (.int 22), some (.int (nI (1 + c))), some (.int 0), some (.int (nI (k + 1))), none]) C ⟨rfl, rfl, rfl, rfl, rfl, rfl, rfl, rfl, rfl, rfl, rfl, rfl, rfl, trivial⟩ ?_
      have hK := ih (k + 1) (by omega)
      rw [hQ] at hK
      exact hK
    · replace h_202 := bB_t h_202
      refine r_aload_n (pc := 205) C dX6_fits_205 rfl rfl ?_
      refine r_getfield (pc := 206) (v := .ref 3) C xf_X6_16 dX6_fits_206 rfl rfl ?_
      refine r_bipush (pc := 209) (v := 40) C dX6_fits_209 (by decide) ?_
      refine r_iload_n (pc := 211) C dX6_fits_211 rfl rfl ?_
      refine r_imul (pc := 212) C dX6_fits_212 ?_
      refine r_iload_n (pc := 213) C dX6_fits_213 rfl rfl ?_
      refine r_iadd (pc := 214) C dX6_fits_214 ?_
      refine r_iload (pc := 215) C dX6_fits_215 rfl ?_
      refine r_iadd (pc := 217) C dX6_fits_217 ?_
      refine r_iaload (pc := 218) (v := M 2 (40 * jr + ki + k)) C (40 * jr + ki + k) dX6_fits_218 rfl (nI_sum (m := (40 * jr + ki)) (n := k) (nI_sum (m := (40 * jr)) (n := ki) (nI_prod (m := 40) (n := jr) rfl rfl) rfl) rfl) (by first | assumption | omega) rfl ?_
      refine r_iload (pc := 219) C dX6_fits_219 rfl ?_
      refine r_iconst (pc := 221) (v := 2) C dX6_fits_221 (by decide) ?_
      refine r_icmp_ne (pc := 222) (tgt := 238) C dX6_fits_222 (by decide) (fun h => absurd (by decide) h) (fun _ => ?_)
      refine r_aload_n (pc := 225) C dX6_fits_225 rfl rfl ?_
      refine r_getfield (pc := 226) (v := .ref 6) C xf_X6_25 dX6_fits_226 rfl rfl ?_
      refine r_iload_n (pc := 229) C dX6_fits_229 rfl rfl ?_
      refine r_iload (pc := 230) C dX6_fits_230 rfl ?_
      refine r_callSD (pc := 232) (As := [.ref 6, .int (nI jh), .int ((M 4 35) + (nI k))]) (st := [.int (M 2 (40 * jr + ki + k))]) (θ2 := wM (up2 M 6 (fAT M 22 jh 1 (c + 1)))) (r2 := some (.int (reachM (vw (fAT M 22 jh 1 (c + 1))) z jh ((M 4 35) + (nI k))))) C [6] (c_X6_reachOf (fAT M 22 jh 1 (c + 1)) jh (by omega) ((M 4 35) + (nI k)) (hok.2.2 jh (by omega)) hok.2.1 z hok.1 hM.2.1 hok.2.2) xm_X6_reachOf xk_X6_162 dX6_fits_232 rfl (by decide) rfl rfl rfl (Nat.le_of_ble_eq_true rfl) ⟨Nat.le_of_ble_eq_true rfl, Nat.le_of_ble_eq_true rfl⟩ ⟨rfl, rfl⟩ ⟨Nat.le_of_ble_eq_true rfl, Nat.le_of_ble_eq_true rfl⟩ rfl (Eq.trans (b := 1) rfl rfl) rfl rfl ?_
      show g 0 0 (wM (up2 M 6 (fAT M 22 jh 1 (c + 1)))) 235 [some (.ref 0), some (.int (nI jh)), some (.int (nI jr)), some (.int (nI ki)), some (.int (nI kn)), some (.int 2), some (.int acc), some (.int 1), some (.int 20), some (.int 22), some (.int (nI (1 + c))), some (.int (bB (allM (fun k => decide (M 2 (40 * jr + ki + k) = reachM (vw (fAT M 22 jh 1 (c + 1))) z jh (M 4 35 + nI k))) k))), some (.int (nI k)), some (.int ((M 4 35) + (nI k)))] [.int (reachM (vw (fAT M 22 jh 1 (c + 1))) z jh ((M 4 35) + (nI k))), .int (M 2 (40 * jr + ki + k))]
      refine r_goto (pc := 235) (tgt := 248) C dX6_fits_235 (by decide) ?_
      refine r_icmp_ne (pc := 248) (tgt := 255) C dX6_fits_248 (by decide) (fun h_248 => ?_) (fun h_248 => ?_)
      · skip
        refine r_iconst (pc := 255) (v := 0) C dX6_fits_255 (by decide) ?_
        refine r_istore (pc := 256) (lv' := [some (.ref 0), some (.int (nI jh)), some (.int (nI jr)), some (.int (nI ki)), some (.int (nI kn)), some (.int 2), some (.int acc), some (.int 1), some (.int 20), some (.int 22), some (.int (nI (1 + c))), some (.int 0), some (.int (nI k)), some (.int ((M 4 35) + (nI k)))]) C dX6_fits_256 (Nat.le_of_ble_eq_true rfl) trivial rfl ?_
        refine r_iinc (pc := 258) (v := nI (k + 1)) (lv' := [some (.ref 0), some (.int (nI jh)), some (.int (nI jr)), some (.int (nI ki)), some (.int (nI kn)), some (.int 2), some (.int acc), some (.int 1), some (.int 20), some (.int 22), some (.int (nI (1 + c))), some (.int 0), some (.int (nI (k + 1))), some (.int ((M 4 35) + (nI k)))]) C dX6_fits_258 rfl (nI_1 k) trivial rfl ?_
        refine r_goto (pc := 261) (tgt := 181) C dX6_fits_261 (by decide) ?_
        show g 0 0 (wM (up2 M 6 (fAT M 22 jh 1 (c + 1)))) 181 [some (.ref 0), some (.int (nI jh)), some (.int (nI jr)), some (.int (nI ki)), some (.int (nI kn)), some (.int 2), some (.int acc), some (.int 1), some (.int 20), some (.int 22), some (.int (nI (1 + c))), some (.int 0), some (.int (nI (k + 1))), some (.int ((M 4 35) + (nI k)))] []
        have hQ : bB (allM (fun k => decide (M 2 (40 * jr + ki + k) = reachM (vw (fAT M 22 jh 1 (c + 1))) z jh (M 4 35 + nI k))) (k + 1)) = 0 := by rw [allM, h_202, Bool.true_and]; show bB (decide _) = 0; rw [decide_eq_false h_248]; rfl
        show g 0 0 (wM (up2 M 6 (fAT M 22 jh 1 (c + 1)))) 181 [some (.ref 0), some (.int (nI jh)), some (.int (nI jr)), some (.int (nI ki)), some (.int (nI kn)), some (.int 2), some (.int acc), some (.int 1), some (.int 20), some (.int 22), some (.int (nI (1 + c))), some (.int 0), some (.int (nI (k + 1))), some (.int ((M 4 35) + (nI k)))] []
        refine r_drop (lv' := [some (.ref 0), some (.int (nI jh)), some (.int (nI jr)), some (.int (nI ki)), some (.int (nI kn)), some (.int 2), some (.int acc), some (.int 1), some (.int 20), some (.int 22), some (.int (nI (1 + c))), some (.int 0), some (.int (nI (k + 1))), none]) C ⟨rfl, rfl, rfl, rfl, rfl, rfl, rfl, rfl, rfl, rfl, rfl, rfl, rfl, trivial⟩ ?_
        have hK := ih (k + 1) (by omega)
        rw [hQ] at hK
        exact hK
      · skip
        refine r_iconst (pc := 251) (v := 1) C dX6_fits_251 (by decide) ?_
        refine r_goto (pc := 252) (tgt := 256) C dX6_fits_252 (by decide) ?_
        refine r_istore (pc := 256) (lv' := [some (.ref 0), some (.int (nI jh)), some (.int (nI jr)), some (.int (nI ki)), some (.int (nI kn)), some (.int 2), some (.int acc), some (.int 1), some (.int 20), some (.int 22), some (.int (nI (1 + c))), some (.int 1), some (.int (nI k)), some (.int ((M 4 35) + (nI k)))]) C dX6_fits_256 (Nat.le_of_ble_eq_true rfl) trivial rfl ?_
        refine r_iinc (pc := 258) (v := nI (k + 1)) (lv' := [some (.ref 0), some (.int (nI jh)), some (.int (nI jr)), some (.int (nI ki)), some (.int (nI kn)), some (.int 2), some (.int acc), some (.int 1), some (.int 20), some (.int 22), some (.int (nI (1 + c))), some (.int 1), some (.int (nI (k + 1))), some (.int ((M 4 35) + (nI k)))]) C dX6_fits_258 rfl (nI_1 k) trivial rfl ?_
        refine r_goto (pc := 261) (tgt := 181) C dX6_fits_261 (by decide) ?_
        show g 0 0 (wM (up2 M 6 (fAT M 22 jh 1 (c + 1)))) 181 [some (.ref 0), some (.int (nI jh)), some (.int (nI jr)), some (.int (nI ki)), some (.int (nI kn)), some (.int 2), some (.int acc), some (.int 1), some (.int 20), some (.int 22), some (.int (nI (1 + c))), some (.int 1), some (.int (nI (k + 1))), some (.int ((M 4 35) + (nI k)))] []
        have hQ : bB (allM (fun k => decide (M 2 (40 * jr + ki + k) = reachM (vw (fAT M 22 jh 1 (c + 1))) z jh (M 4 35 + nI k))) (k + 1)) = 1 := by rw [allM, h_202, Bool.true_and]; show bB (decide _) = 1; rw [decide_eq_true h_248]; rfl
        show g 0 0 (wM (up2 M 6 (fAT M 22 jh 1 (c + 1)))) 181 [some (.ref 0), some (.int (nI jh)), some (.int (nI jr)), some (.int (nI ki)), some (.int (nI kn)), some (.int 2), some (.int acc), some (.int 1), some (.int 20), some (.int 22), some (.int (nI (1 + c))), some (.int 1), some (.int (nI (k + 1))), some (.int ((M 4 35) + (nI k)))] []
        refine r_drop (lv' := [some (.ref 0), some (.int (nI jh)), some (.int (nI jr)), some (.int (nI ki)), some (.int (nI kn)), some (.int 2), some (.int acc), some (.int 1), some (.int 20), some (.int 22), some (.int (nI (1 + c))), some (.int 1), some (.int (nI (k + 1))), none]) C ⟨rfl, rfl, rfl, rfl, rfl, rfl, rfl, rfl, rfl, rfl, rfl, rfl, rfl, trivial⟩ ?_
        have hK := ih (k + 1) (by omega)
        rw [hQ] at hK
        exact hK
set_option maxHeartbeats 4000000 in
set_option maxRecDepth 100000 in
theorem lpo_X6_fits_2 (M : Nat → Nat → Int32) (z : Nat) (hM : okM M z) (jh jr ki kn : Nat) (hjh : jh < z) (hjr : jr ≤ 7) (hkin : ki + kn ≤ 40) {g : Nat → Nat → List xE → Nat → List (Option Value) → List Value → Prop} (C : Sem cX6_fits RX6 "fits" 14 rmX6_fits g) (kk : g 0 0 (wM (up2 M 6 (fAT M 22 jh 1 20))) 288 [some (.ref 0), some (.int (nI jh)), some (.int (nI jr)), some (.int (nI ki)), some (.int (nI kn)), some (.int 2), some (.int (fitC (fun c => allM (fun k => decide (M 2 (40 * jr + ki + k) = reachM (vw (fAT M 22 jh 1 (c + 1))) z jh (M 4 35 + nI k))) kn) 1 20)), some (.int 1), some (.int 20), some (.int 22), none, none, none, none] []) : ∀ (n : Nat) (c : Nat), c + n = 20 → g 0 0 (wM (up2 M 6 (fAT M 22 jh 1 c))) 153 [some (.ref 0), some (.int (nI jh)), some (.int (nI jr)), some (.int (nI ki)), some (.int (nI kn)), some (.int 2), some (.int (fitC (fun c => allM (fun k => decide (M 2 (40 * jr + ki + k) = reachM (vw (fAT M 22 jh 1 (c + 1))) z jh (M 4 35 + nI k))) kn) 1 c)), some (.int 1), some (.int 20), some (.int 22), some (.int (nI (1 + c))), none, none, none] [] := by
  intro n
  have hz6 := hM.2.1
  induction n with
  | zero =>
    intro c hc
    have hcc : c = 20 := by omega
    rw [hcc]
    refine r_iload (pc := 153) C dX6_fits_153 rfl ?_
    refine r_iload (pc := 155) C dX6_fits_155 rfl ?_
    refine r_icmp_gt (pc := 157) (tgt := 288) C dX6_fits_157 (by decide) (fun _ => ?_) (fun h => absurd (((nI_ltI (a := 20) (by omega) (by omega)).mpr (by omega))) h)
    show g 0 0 (wM (up2 M 6 (fAT M 22 jh 1 20))) 288 [some (.ref 0), some (.int (nI jh)), some (.int (nI jr)), some (.int (nI ki)), some (.int (nI kn)), some (.int 2), some (.int (fitC (fun c => allM (fun k => decide (M 2 (40 * jr + ki + k) = reachM (vw (fAT M 22 jh 1 (c + 1))) z jh (M 4 35 + nI k))) kn) 1 20)), some (.int 1), some (.int 20), some (.int 22), some (.int (nI (1 + 20))), none, none, none] []
    refine r_drop (lv' := [some (.ref 0), some (.int (nI jh)), some (.int (nI jr)), some (.int (nI ki)), some (.int (nI kn)), some (.int 2), some (.int (fitC (fun c => allM (fun k => decide (M 2 (40 * jr + ki + k) = reachM (vw (fAT M 22 jh 1 (c + 1))) z jh (M 4 35 + nI k))) kn) 1 20)), some (.int 1), some (.int 20), some (.int 22), none, none, none, none]) C ⟨rfl, rfl, rfl, rfl, rfl, rfl, rfl, rfl, rfl, rfl, trivial⟩ ?_
    show g 0 0 (wM (up2 M 6 (fAT M 22 jh 1 20))) 288 [some (.ref 0), some (.int (nI jh)), some (.int (nI jr)), some (.int (nI ki)), some (.int (nI kn)), some (.int 2), some (.int (fitC (fun c => allM (fun k => decide (M 2 (40 * jr + ki + k) = reachM (vw (fAT M 22 jh 1 (c + 1))) z jh (M 4 35 + nI k))) kn) 1 20)), some (.int 1), some (.int 20), some (.int 22), none, none, none, none] []
    exact kk
  | succ n ih =>
    intro c hc
    refine r_iload (pc := 153) C dX6_fits_153 rfl ?_
    refine r_iload (pc := 155) C dX6_fits_155 rfl ?_
    refine r_icmp_gt (pc := 157) (tgt := 288) C dX6_fits_157 (by decide) (fun h => absurd h (fun z => absurd ((nI_ltI (a := 20) (by omega) (by omega)).mp z) (by omega))) (fun _ => ?_)
    refine r_aload_n (pc := 160) C dX6_fits_160 rfl rfl ?_
    refine r_callV0 (pc := 161) (As := []) (st := []) (θ' := wM (up2 M 6 (va_cpy (M 4) (fAT M 22 jh 1 c) 0 0 36))) C (c_X6_layAside (up2 M 6 (fAT M 22 jh 1 c))) xm_X6_layAside xk_X6_204 dX6_fits_161 rfl rfl rfl rfl (Nat.le_of_ble_eq_true rfl) ⟨Nat.le_of_ble_eq_true rfl, Nat.le_of_ble_eq_true rfl⟩ ⟨rfl, rfl⟩ ⟨Nat.le_of_ble_eq_true rfl, Nat.le_of_ble_eq_true rfl⟩ rfl (Eq.trans (b := 14) rfl rfl) ?_
    show g 0 0 (wM (up2 M 6 (va_cpy (M 4) (fAT M 22 jh 1 c) 0 0 36))) 164 [some (.ref 0), some (.int (nI jh)), some (.int (nI jr)), some (.int (nI ki)), some (.int (nI kn)), some (.int 2), some (.int (fitC (fun c => allM (fun k => decide (M 2 (40 * jr + ki + k) = reachM (vw (fAT M 22 jh 1 (c + 1))) z jh (M 4 35 + nI k))) kn) 1 c)), some (.int 1), some (.int 20), some (.int 22), some (.int (nI (1 + c))), none, none, none] []
    refine r_aload_n (pc := 164) C dX6_fits_164 rfl rfl ?_
    refine r_getfield (pc := 165) (v := .ref 6) C xf_X6_25 dX6_fits_165 rfl rfl ?_
    refine r_iload (pc := 168) C dX6_fits_168 rfl ?_
    refine r_iload_n (pc := 170) C dX6_fits_170 rfl rfl ?_
    refine r_iadd (pc := 171) C dX6_fits_171 ?_
    refine r_iload (pc := 172) C dX6_fits_172 rfl ?_
    refine r_iastore (pc := 174) (θ' := wM (up2 M 6 (fAT M 22 jh 1 (c + 1)))) C (22 + jh) dX6_fits_174 rfl (nI_sum (m := 22) (n := jh) rfl rfl) (by first | assumption | omega) (by rw [← fA_s]; rfl) ?_
    refine r_iconst (pc := 175) (v := 1) C dX6_fits_175 (by decide) ?_
    refine r_istore (pc := 176) (lv' := [some (.ref 0), some (.int (nI jh)), some (.int (nI jr)), some (.int (nI ki)), some (.int (nI kn)), some (.int 2), some (.int (fitC (fun c => allM (fun k => decide (M 2 (40 * jr + ki + k) = reachM (vw (fAT M 22 jh 1 (c + 1))) z jh (M 4 35 + nI k))) kn) 1 c)), some (.int 1), some (.int 20), some (.int 22), some (.int (nI (1 + c))), some (.int 1), none, none]) C dX6_fits_176 (Nat.le_of_ble_eq_true rfl) trivial rfl ?_
    refine r_iconst (pc := 178) (v := 0) C dX6_fits_178 (by decide) ?_
    refine r_istore (pc := 179) (lv' := [some (.ref 0), some (.int (nI jh)), some (.int (nI jr)), some (.int (nI ki)), some (.int (nI kn)), some (.int 2), some (.int (fitC (fun c => allM (fun k => decide (M 2 (40 * jr + ki + k) = reachM (vw (fAT M 22 jh 1 (c + 1))) z jh (M 4 35 + nI k))) kn) 1 c)), some (.int 1), some (.int 20), some (.int 22), some (.int (nI (1 + c))), some (.int 1), some (.int 0), none]) C dX6_fits_179 (Nat.le_of_ble_eq_true rfl) trivial rfl ?_
    show g 0 0 (wM (up2 M 6 (fAT M 22 jh 1 (c + 1)))) 181 [some (.ref 0), some (.int (nI jh)), some (.int (nI jr)), some (.int (nI ki)), some (.int (nI kn)), some (.int 2), some (.int (fitC (fun c => allM (fun k => decide (M 2 (40 * jr + ki + k) = reachM (vw (fAT M 22 jh 1 (c + 1))) z jh (M 4 35 + nI k))) kn) 1 c)), some (.int 1), some (.int 20), some (.int 22), some (.int (nI (1 + c))), some (.int 1), some (.int 0), none] []
    refine lpi_X6_fits_2 M z hM jh jr ki kn hjh hjr hkin c (by omega) (fitC (fun c => allM (fun k => decide (M 2 (40 * jr + ki + k) = reachM (vw (fAT M 22 jh 1 (c + 1))) z jh (M 4 35 + nI k))) kn) 1 c) C ?_ kn 0 (by omega)
    show g 0 0 (wM (up2 M 6 (fAT M 22 jh 1 (c + 1)))) 264 [some (.ref 0), some (.int (nI jh)), some (.int (nI jr)), some (.int (nI ki)), some (.int (nI kn)), some (.int 2), some (.int (fitC (fun c => allM (fun k => decide (M 2 (40 * jr + ki + k) = reachM (vw (fAT M 22 jh 1 (c + 1))) z jh (M 4 35 + nI k))) kn) 1 c)), some (.int 1), some (.int 20), some (.int 22), some (.int (nI (1 + c))), some (.int (bB (allM (fun k => decide (M 2 (40 * jr + ki + k) = reachM (vw (fAT M 22 jh 1 (c + 1))) z jh (M 4 35 + nI k))) kn))), none, none] []
    refine r_iload (pc := 264) C dX6_fits_264 rfl ?_
    refine r_iload (pc := 266) C dX6_fits_266 rfl ?_
    refine r_if_eq (pc := 268) (tgt := 278) C dX6_fits_268 (by decide) (fun h_268 => ?_) (fun h_268 => ?_)
    · replace h_268 := bB_f h_268
      refine r_iconst (pc := 278) (v := 0) C dX6_fits_278 (by decide) ?_
      refine r_ior (pc := 279) C dX6_fits_279 ?_
      refine r_istore (pc := 280) (lv' := [some (.ref 0), some (.int (nI jh)), some (.int (nI jr)), some (.int (nI ki)), some (.int (nI kn)), some (.int 2), some (.int ((fitC (fun c => allM (fun k => decide (M 2 (40 * jr + ki + k) = reachM (vw (fAT M 22 jh 1 (c + 1))) z jh (M 4 35 + nI k))) kn) 1 c) ||| 0)), some (.int 1), some (.int 20), some (.int 22), some (.int (nI (1 + c))), some (.int (bB (allM (fun k => decide (M 2 (40 * jr + ki + k) = reachM (vw (fAT M 22 jh 1 (c + 1))) z jh (M 4 35 + nI k))) kn))), none, none]) C dX6_fits_280 (Nat.le_of_ble_eq_true rfl) trivial rfl ?_
      refine r_iinc (pc := 282) (v := nI (1 + (c + 1))) (lv' := [some (.ref 0), some (.int (nI jh)), some (.int (nI jr)), some (.int (nI ki)), some (.int (nI kn)), some (.int 2), some (.int ((fitC (fun c => allM (fun k => decide (M 2 (40 * jr + ki + k) = reachM (vw (fAT M 22 jh 1 (c + 1))) z jh (M 4 35 + nI k))) kn) 1 c) ||| 0)), some (.int 1), some (.int 20), some (.int 22), some (.int (nI (1 + (c + 1)))), some (.int (bB (allM (fun k => decide (M 2 (40 * jr + ki + k) = reachM (vw (fAT M 22 jh 1 (c + 1))) z jh (M 4 35 + nI k))) kn))), none, none]) C dX6_fits_282 rfl (nI_1 (1 + c)) trivial rfl ?_
      refine r_goto (pc := 285) (tgt := 153) C dX6_fits_285 (by decide) ?_
      show g 0 0 (wM (up2 M 6 (fAT M 22 jh 1 (c + 1)))) 153 [some (.ref 0), some (.int (nI jh)), some (.int (nI jr)), some (.int (nI ki)), some (.int (nI kn)), some (.int 2), some (.int ((fitC (fun c => allM (fun k => decide (M 2 (40 * jr + ki + k) = reachM (vw (fAT M 22 jh 1 (c + 1))) z jh (M 4 35 + nI k))) kn) 1 c) ||| 0)), some (.int 1), some (.int 20), some (.int 22), some (.int (nI (1 + (c + 1)))), some (.int (bB (allM (fun k => decide (M 2 (40 * jr + ki + k) = reachM (vw (fAT M 22 jh 1 (c + 1))) z jh (M 4 35 + nI k))) kn))), none, none] []
      rw [show ((fitC (fun c => allM (fun k => decide (M 2 (40 * jr + ki + k) = reachM (vw (fAT M 22 jh 1 (c + 1))) z jh (M 4 35 + nI k))) kn) 1 c) ||| 0 : Int32) = fitC (fun c => allM (fun k => decide (M 2 (40 * jr + ki + k) = reachM (vw (fAT M 22 jh 1 (c + 1))) z jh (M 4 35 + nI k))) kn) 1 (c + 1) from by simp only [fitC, h_268, if_true, if_false, Bool.false_eq_true]]
      show g 0 0 (wM (up2 M 6 (fAT M 22 jh 1 (c + 1)))) 153 [some (.ref 0), some (.int (nI jh)), some (.int (nI jr)), some (.int (nI ki)), some (.int (nI kn)), some (.int 2), some (.int (fitC (fun c => allM (fun k => decide (M 2 (40 * jr + ki + k) = reachM (vw (fAT M 22 jh 1 (c + 1))) z jh (M 4 35 + nI k))) kn) 1 (c + 1))), some (.int 1), some (.int 20), some (.int 22), some (.int (nI (1 + (c + 1)))), some (.int (bB (allM (fun k => decide (M 2 (40 * jr + ki + k) = reachM (vw (fAT M 22 jh 1 (c + 1))) z jh (M 4 35 + nI k))) kn))), none, none] []
      refine r_drop (lv' := [some (.ref 0), some (.int (nI jh)), some (.int (nI jr)), some (.int (nI ki)), some (.int (nI kn)), some (.int 2), some (.int (fitC (fun c => allM (fun k => decide (M 2 (40 * jr + ki + k) = reachM (vw (fAT M 22 jh 1 (c + 1))) z jh (M 4 35 + nI k))) kn) 1 (c + 1))), some (.int 1), some (.int 20), some (.int 22), some (.int (nI (1 + (c + 1)))), none, none, none]) C ⟨rfl, rfl, rfl, rfl, rfl, rfl, rfl, rfl, rfl, rfl, rfl, trivial⟩ ?_
      exact ih (c + 1) (by omega)
    · replace h_268 := bB_t h_268
      refine r_iconst (pc := 271) (v := 1) C dX6_fits_271 (by decide) ?_
      refine r_iload (pc := 272) C dX6_fits_272 rfl ?_
      refine r_ishl (pc := 274) C dX6_fits_274 ?_
      refine r_goto (pc := 275) (tgt := 279) C dX6_fits_275 (by decide) ?_
      refine r_ior (pc := 279) C dX6_fits_279 ?_
      refine r_istore (pc := 280) (lv' := [some (.ref 0), some (.int (nI jh)), some (.int (nI jr)), some (.int (nI ki)), some (.int (nI kn)), some (.int 2), some (.int ((fitC (fun c => allM (fun k => decide (M 2 (40 * jr + ki + k) = reachM (vw (fAT M 22 jh 1 (c + 1))) z jh (M 4 35 + nI k))) kn) 1 c) ||| (1 <<< ((nI (1 + c)) &&& 31)))), some (.int 1), some (.int 20), some (.int 22), some (.int (nI (1 + c))), some (.int (bB (allM (fun k => decide (M 2 (40 * jr + ki + k) = reachM (vw (fAT M 22 jh 1 (c + 1))) z jh (M 4 35 + nI k))) kn))), none, none]) C dX6_fits_280 (Nat.le_of_ble_eq_true rfl) trivial rfl ?_
      refine r_iinc (pc := 282) (v := nI (1 + (c + 1))) (lv' := [some (.ref 0), some (.int (nI jh)), some (.int (nI jr)), some (.int (nI ki)), some (.int (nI kn)), some (.int 2), some (.int ((fitC (fun c => allM (fun k => decide (M 2 (40 * jr + ki + k) = reachM (vw (fAT M 22 jh 1 (c + 1))) z jh (M 4 35 + nI k))) kn) 1 c) ||| (1 <<< ((nI (1 + c)) &&& 31)))), some (.int 1), some (.int 20), some (.int 22), some (.int (nI (1 + (c + 1)))), some (.int (bB (allM (fun k => decide (M 2 (40 * jr + ki + k) = reachM (vw (fAT M 22 jh 1 (c + 1))) z jh (M 4 35 + nI k))) kn))), none, none]) C dX6_fits_282 rfl (nI_1 (1 + c)) trivial rfl ?_
      refine r_goto (pc := 285) (tgt := 153) C dX6_fits_285 (by decide) ?_
      show g 0 0 (wM (up2 M 6 (fAT M 22 jh 1 (c + 1)))) 153 [some (.ref 0), some (.int (nI jh)), some (.int (nI jr)), some (.int (nI ki)), some (.int (nI kn)), some (.int 2), some (.int ((fitC (fun c => allM (fun k => decide (M 2 (40 * jr + ki + k) = reachM (vw (fAT M 22 jh 1 (c + 1))) z jh (M 4 35 + nI k))) kn) 1 c) ||| (1 <<< ((nI (1 + c)) &&& 31)))), some (.int 1), some (.int 20), some (.int 22), some (.int (nI (1 + (c + 1)))), some (.int (bB (allM (fun k => decide (M 2 (40 * jr + ki + k) = reachM (vw (fAT M 22 jh 1 (c + 1))) z jh (M 4 35 + nI k))) kn))), none, none] []
      rw [show ((fitC (fun c => allM (fun k => decide (M 2 (40 * jr + ki + k) = reachM (vw (fAT M 22 jh 1 (c + 1))) z jh (M 4 35 + nI k))) kn) 1 c) ||| (1 <<< ((nI (1 + c)) &&& 31)) : Int32) = fitC (fun c => allM (fun k => decide (M 2 (40 * jr + ki + k) = reachM (vw (fAT M 22 jh 1 (c + 1))) z jh (M 4 35 + nI k))) kn) 1 (c + 1) from by simp only [fitC, h_268, if_true, if_false, Bool.false_eq_true]]
      show g 0 0 (wM (up2 M 6 (fAT M 22 jh 1 (c + 1)))) 153 [some (.ref 0), some (.int (nI jh)), some (.int (nI jr)), some (.int (nI ki)), some (.int (nI kn)), some (.int 2), some (.int (fitC (fun c => allM (fun k => decide (M 2 (40 * jr + ki + k) = reachM (vw (fAT M 22 jh 1 (c + 1))) z jh (M 4 35 + nI k))) kn) 1 (c + 1))), some (.int 1), some (.int 20), some (.int 22), some (.int (nI (1 + (c + 1)))), some (.int (bB (allM (fun k => decide (M 2 (40 * jr + ki + k) = reachM (vw (fAT M 22 jh 1 (c + 1))) z jh (M 4 35 + nI k))) kn))), none, none] []
      refine r_drop (lv' := [some (.ref 0), some (.int (nI jh)), some (.int (nI jr)), some (.int (nI ki)), some (.int (nI kn)), some (.int 2), some (.int (fitC (fun c => allM (fun k => decide (M 2 (40 * jr + ki + k) = reachM (vw (fAT M 22 jh 1 (c + 1))) z jh (M 4 35 + nI k))) kn) 1 (c + 1))), some (.int 1), some (.int 20), some (.int 22), some (.int (nI (1 + (c + 1)))), none, none, none]) C ⟨rfl, rfl, rfl, rfl, rfl, rfl, rfl, rfl, rfl, rfl, rfl, trivial⟩ ?_
      exact ih (c + 1) (by omega)
theorem inn_ex {n : Int32} (h : inI n 1 16 = true) : ∃ k, k ≤ 16 ∧ n = nI k := by
  unfold inI at h
  simp only [Bool.and_eq_true, decide_eq_true_eq] at h
  exact nI_of2 (M := 16) rfl (Int32.not_lt.mpr (Int32.le_trans (by decide) h.1)) h.2
noncomputable def fitsM (M : Nat → Nat → Int32) (z : Nat) (h r i n x : Int32) : Int32 × (Nat → Nat → Int32) := (if (inI h 0 (M 4 0 - 1)) = true then (if (inI r 0 7) = true then (if (inI n 1 16) = true then (if (inI x 0 2) = true then (if x = 0 then (if 0 ≤ (M 1 (ix r)) then (if i < 0 then ((-1000010) - 2, (up2 M 3 (k1 2))) else (if (lg_cmp (i.toInt64 + n.toInt64) ((M 1 (ix r)).toInt64)) ≤ 0 then ((fitC (fun c => allM (fun k => decide (M 2 (40 * (ix r) + (ix i) + k) = plS (vw (fAT M 4 (ix h) 1 (c + 1))) (ix h) (M 4 35 + nI k))) (ix n)) 1 5), (up2 (up2 M 6 (fAT M 4 (ix h) 1 5)) 3 (k1 0))) else ((-1000010) - 2, (up2 M 3 (k1 2))))) else ((-1000010) - 1, (up2 M 3 (k1 1)))) else (if x = 1 then (if 0 ≤ (M 1 (ix r)) then (if i < 0 then ((-1000010) - 2, (up2 M 3 (k1 2))) else (if (lg_cmp (i.toInt64 + n.toInt64) ((M 1 (ix r)).toInt64)) ≤ 0 then ((fitC (fun c => allM (fun k => decide (M 2 (40 * (ix r) + (ix i) + k) = plS (vw (fAT M 28 (ix h) 0 (c + 1))) (ix h) (M 4 35 + nI k))) (ix n)) 0 6), (up2 (up2 M 6 (fAT M 28 (ix h) 0 6)) 3 (k1 0))) else ((-1000010) - 2, (up2 M 3 (k1 2))))) else ((-1000010) - 1, (up2 M 3 (k1 1)))) else (if 0 ≤ (M 1 (ix r)) then (if i < 0 then ((-1000010) - 2, (up2 M 3 (k1 2))) else (if (lg_cmp (i.toInt64 + n.toInt64) ((M 1 (ix r)).toInt64)) ≤ 0 then ((fitC (fun c => allM (fun k => decide (M 2 (40 * (ix r) + (ix i) + k) = reachM (vw (fAT M 22 (ix h) 1 (c + 1))) z (ix h) (M 4 35 + nI k))) (ix n)) 1 20), (up2 (up2 M 6 (fAT M 22 (ix h) 1 20)) 3 (k1 0))) else ((-1000010) - 2, (up2 M 3 (k1 2))))) else ((-1000010) - 1, (up2 M 3 (k1 1)))))) else ((-1000001), M)) else ((-1000001), M)) else ((-1000001), M)) else ((-1000001), M))
set_option maxHeartbeats 4000000 in
set_option maxRecDepth 100000 in
theorem c_X6_fits (M : Nat → Nat → Int32) (h r i n x : Int32) (z : Nat) (hM : okM M z) (hM1 : okSz M) : MetA yX6_fits (.code yX6_fits cX6_fits 14 (some .int) :: TT) rmX6_fits [.ref 0, .int h, .int r, .int i, .int n, .int x] (wM M) (fun vr wr => vr = some (.int (fitsM M z h r i n x).1) ∧ wr = wM (fitsM M z h r i n x).2) 0 0 := by
  refine MetA.of_i (by decide) (fun _ => Nat.le_of_ble_eq_true rfl) (Nat.le_of_ble_eq_true rfl) (fun g C E => ?_)
  replace C : Sem cX6_fits RX6 "fits" 14 rmX6_fits g := C
  show g 0 0 (wM M) 0 [some (.ref 0), some (.int h), some (.int r), some (.int i), some (.int n), some (.int x), none, none, none, none, none, none, none, none] []
  refine r_aload_n (pc := 0) C dX6_fits_0 rfl rfl ?_
  refine r_iload_n (pc := 1) C dX6_fits_1 rfl rfl ?_
  refine r_callV0 (pc := 2) (As := [.int h]) (st := []) (θ' := wM M) C (c_X6_isHammock M h) xm_X6_isHammock xk_X6_181 dX6_fits_2 rfl rfl rfl rfl (Nat.le_of_ble_eq_true rfl) ⟨Nat.le_of_ble_eq_true rfl, Nat.le_of_ble_eq_true rfl⟩ ⟨rfl, rfl⟩ ⟨Nat.le_of_ble_eq_true rfl, Nat.le_of_ble_eq_true rfl⟩ rfl (Eq.trans (b := 14) rfl rfl) ?_
  show g 0 0 (wM M) 5 [some (.ref 0), some (.int h), some (.int r), some (.int i), some (.int n), some (.int x), none, none, none, none, none, none, none, none] [.int (bB (inI h 0 (M 4 0 - 1)))]
  refine r_if_eq (pc := 5) (tgt := 41) C dX6_fits_5 (by decide) (fun h_5 => ?_) (fun h_5 => ?_)
  · replace h_5 := bB_f h_5
    refine r_ldc (pc := 41) (v := (-1000001)) C dX6_fits_41 tw_668 ?_
    show g 0 0 (wM M) 43 [some (.ref 0), some (.int h), some (.int r), some (.int i), some (.int n), some (.int x), none, none, none, none, none, none, none, none] [.int (-1000001)]
    have hX : fitsM M z h r i n x = ((-1000001), M) := by
      unfold fitsM
      rw [if_neg (nbt h_5)]
    exact E _ _ _ _ _ _ dX6_fits_43 (Nat.le_refl _) (Nat.le_refl _) rfl ⟨by rw [hX], by rw [hX]⟩
  · replace h_5 := bB_t h_5
    obtain ⟨jh, hjh, rfl⟩ := in_ex hM.1 hM.2.1 h_5
    have hjh6 : jh < 6 := by have := hM.2.1; omega
    have hz6 := hM.2.1
    refine r_iload_n (pc := 8) C dX6_fits_8 rfl rfl ?_
    refine r_callS0 (pc := 9) (As := [.int r]) (st := []) C (c_X6_isRow r) xm_X6_isRow xk_X6_61 dX6_fits_9 (fun _ => rfl) (fun _ => rfl) rfl rfl (Nat.le_of_ble_eq_true rfl) ⟨Nat.le_of_ble_eq_true rfl, Nat.le_of_ble_eq_true rfl⟩ ⟨rfl, rfl⟩ ⟨Nat.le_of_ble_eq_true rfl, Nat.le_of_ble_eq_true rfl⟩ rfl ?_
    show g 0 0 (wM M) 12 [some (.ref 0), some (.int (nI jh)), some (.int r), some (.int i), some (.int n), some (.int x), none, none, none, none, none, none, none, none] [.int (bB (inI r 0 7))]
    refine r_if_eq (pc := 12) (tgt := 41) C dX6_fits_12 (by decide) (fun h_12 => ?_) (fun h_12 => ?_)
    · replace h_12 := bB_f h_12
      refine r_ldc (pc := 41) (v := (-1000001)) C dX6_fits_41 tw_668 ?_
      show g 0 0 (wM M) 43 [some (.ref 0), some (.int (nI jh)), some (.int r), some (.int i), some (.int n), some (.int x), none, none, none, none, none, none, none, none] [.int (-1000001)]
      have hX : fitsM M z (nI jh) r i n x = ((-1000001), M) := by
        unfold fitsM
        (try rw [ix_nI (show jh < 2 ^ 31 by omega)])
        rw [if_pos h_5, if_neg (nbt h_12)]
      exact E _ _ _ _ _ _ dX6_fits_43 (Nat.le_refl _) (Nat.le_refl _) rfl ⟨by rw [hX], by rw [hX]⟩
    · replace h_12 := bB_t h_12
      obtain ⟨jr, hjr, rfl⟩ := inr_ex (m := 7) rfl h_12
      refine r_iload (pc := 15) C dX6_fits_15 rfl ?_
      refine r_i2l (pc := 17) (v := n.toInt64) C dX6_fits_17 rfl ?_
      refine r_lconst (pc := 18) (v := 1) C dX6_fits_18 (by decide) ?_
      refine r_ldc2 (pc := 19) (v := 16) C dX6_fits_19 tw_865 ?_
      refine r_callS0 (pc := 22) (As := [.long n.toInt64, .long 1, .long 16]) (st := []) C (c_X6_inI n 1 16 rfl (by decide) (by decide)) xm_X6_in xk_X6_57 dX6_fits_22 (fun _ => rfl) (fun _ => rfl) rfl rfl (Nat.le_of_ble_eq_true rfl) ⟨Nat.le_of_ble_eq_true rfl, Nat.le_of_ble_eq_true rfl⟩ ⟨rfl, rfl⟩ ⟨Nat.le_of_ble_eq_true rfl, Nat.le_of_ble_eq_true rfl⟩ rfl ?_
      show g 0 0 (wM M) 25 [some (.ref 0), some (.int (nI jh)), some (.int (nI jr)), some (.int i), some (.int n), some (.int x), none, none, none, none, none, none, none, none] [.int (bB (inI n 1 16))]
      refine r_if_eq (pc := 25) (tgt := 41) C dX6_fits_25 (by decide) (fun h_25 => ?_) (fun h_25 => ?_)
      · replace h_25 := bB_f h_25
        refine r_ldc (pc := 41) (v := (-1000001)) C dX6_fits_41 tw_668 ?_
        show g 0 0 (wM M) 43 [some (.ref 0), some (.int (nI jh)), some (.int (nI jr)), some (.int i), some (.int n), some (.int x), none, none, none, none, none, none, none, none] [.int (-1000001)]
        have hX : fitsM M z (nI jh) (nI jr) i n x = ((-1000001), M) := by
          unfold fitsM
          (try rw [ix_nI (show jh < 2 ^ 31 by omega)])
          (try rw [ix_nI (show jr < 2 ^ 31 by omega)])
          rw [if_pos h_5, if_pos h_12, if_neg (nbt h_25)]
        exact E _ _ _ _ _ _ dX6_fits_43 (Nat.le_refl _) (Nat.le_refl _) rfl ⟨by rw [hX], by rw [hX]⟩
      · replace h_25 := bB_t h_25
        refine r_iload (pc := 28) C dX6_fits_28 rfl ?_
        refine r_i2l (pc := 30) (v := x.toInt64) C dX6_fits_30 rfl ?_
        refine r_lconst (pc := 31) (v := 0) C dX6_fits_31 (by decide) ?_
        refine r_ldc2 (pc := 32) (v := 2) C dX6_fits_32 tw_667 ?_
        refine r_callS0 (pc := 35) (As := [.long x.toInt64, .long 0, .long 2]) (st := []) C (c_X6_inI x 0 2 rfl (by decide) (by decide)) xm_X6_in xk_X6_57 dX6_fits_35 (fun _ => rfl) (fun _ => rfl) rfl rfl (Nat.le_of_ble_eq_true rfl) ⟨Nat.le_of_ble_eq_true rfl, Nat.le_of_ble_eq_true rfl⟩ ⟨rfl, rfl⟩ ⟨Nat.le_of_ble_eq_true rfl, Nat.le_of_ble_eq_true rfl⟩ rfl ?_
        show g 0 0 (wM M) 38 [some (.ref 0), some (.int (nI jh)), some (.int (nI jr)), some (.int i), some (.int n), some (.int x), none, none, none, none, none, none, none, none] [.int (bB (inI x 0 2))]
        refine r_if_ne (pc := 38) (tgt := 44) C dX6_fits_38 (by decide) (fun h_38 => ?_) (fun h_38 => ?_)
        · replace h_38 := bB_t h_38
          obtain ⟨jx, hjx, rfl⟩ := inr_ex (m := 2) rfl h_38
          rcases (by omega : jx = 0 ∨ jx = 1 ∨ jx = 2) with rfl | rfl | rfl
          · skip
            show g 0 0 (wM M) 44 [some (.ref 0), some (.int (nI jh)), some (.int (nI jr)), some (.int i), some (.int n), some (.int 0), none, none, none, none, none, none, none, none] []
            refine r_aload_n (pc := 44) C dX6_fits_44 rfl rfl ?_
            refine r_getfield (pc := 45) (v := .ref 2) C xf_X6_13 dX6_fits_45 rfl rfl ?_
            refine r_iload_n (pc := 48) C dX6_fits_48 rfl rfl ?_
            refine r_iaload (pc := 49) (v := M 1 jr) C jr dX6_fits_49 rfl rfl (by first | assumption | omega) rfl ?_
            refine r_if_ge (pc := 50) (tgt := 59) C dX6_fits_50 (by decide) (fun h_50 => ?_) (fun h_50 => ?_)
            · skip
              refine r_iload_n (pc := 59) C dX6_fits_59 rfl rfl ?_
              refine r_if_lt (pc := 60) (tgt := 80) C dX6_fits_60 (by decide) (fun h_60 => ?_) (fun h_60 => ?_)
              · skip
                refine r_aload_n (pc := 80) C dX6_fits_80 rfl rfl ?_
                refine r_iconst (pc := 81) (v := 2) C dX6_fits_81 (by decide) ?_
                refine r_callV0 (pc := 82) (As := [.int 2]) (st := []) (θ' := wM (up2 M 3 (k1 2))) C (c_X6_found M 2) xm_X6_found xk_X6_68 dX6_fits_82 rfl rfl rfl rfl (Nat.le_of_ble_eq_true rfl) ⟨Nat.le_of_ble_eq_true rfl, Nat.le_of_ble_eq_true rfl⟩ ⟨rfl, rfl⟩ ⟨Nat.le_of_ble_eq_true rfl, Nat.le_of_ble_eq_true rfl⟩ rfl (Eq.trans (b := 14) rfl rfl) ?_
                show g 0 0 (wM (up2 M 3 (k1 2))) 85 [some (.ref 0), some (.int (nI jh)), some (.int (nI jr)), some (.int i), some (.int n), some (.int 0), none, none, none, none, none, none, none, none] [.int ((-1000010) - 2)]
                show g 0 0 (wM (up2 M 3 (k1 2))) 85 [some (.ref 0), some (.int (nI jh)), some (.int (nI jr)), some (.int i), some (.int n), some (.int 0), none, none, none, none, none, none, none, none] [.int ((-1000010) - 2)]
                have hX : fitsM M z (nI jh) (nI jr) i n (nI 0) = ((-1000010) - 2, (up2 M 3 (k1 2))) := by
                  unfold fitsM
                  (try rw [ix_nI (show jh < 2 ^ 31 by omega)])
                  (try rw [ix_nI (show jr < 2 ^ 31 by omega)])
                  rw [if_pos h_5, if_pos h_12, if_pos h_25, if_pos h_38, if_pos (show nI 0 = 0 from rfl), if_pos h_50, if_pos h_60]
                exact E _ _ _ _ _ _ dX6_fits_85 (Nat.le_refl _) (Nat.le_refl _) rfl ⟨by rw [hX], by rw [hX]⟩
              · skip
                refine r_iload_n (pc := 63) C dX6_fits_63 rfl rfl ?_
                refine r_i2l (pc := 64) (v := i.toInt64) C dX6_fits_64 rfl ?_
                refine r_iload (pc := 65) C dX6_fits_65 rfl ?_
                refine r_i2l (pc := 67) (v := n.toInt64) C dX6_fits_67 rfl ?_
                refine r_ladd (pc := 68) C dX6_fits_68 ?_
                refine r_aload_n (pc := 69) C dX6_fits_69 rfl rfl ?_
                refine r_getfield (pc := 70) (v := .ref 2) C xf_X6_13 dX6_fits_70 rfl rfl ?_
                refine r_iload_n (pc := 73) C dX6_fits_73 rfl rfl ?_
                refine r_iaload (pc := 74) (v := M 1 jr) C jr dX6_fits_74 rfl rfl (by first | assumption | omega) rfl ?_
                refine r_i2l (pc := 75) (v := (M 1 jr).toInt64) C dX6_fits_75 rfl ?_
                refine r_lcmp (pc := 76) C dX6_fits_76 ?_
                refine r_if_le (pc := 77) (tgt := 86) C dX6_fits_77 (by decide) (fun h_77 => ?_) (fun h_77 => ?_)
                · skip
                  obtain ⟨sa, hsa40, hsa⟩ := sz_ex (hM1 jr (by omega)) h_50
                  obtain ⟨jn, hjn16, hjne⟩ := inn_ex h_25
                  subst hjne
                  obtain ⟨ki, rfl, hkin⟩ := cp_ex2 hsa hsa40 (by omega) h_60 h_77
                  refine r_iconst (pc := 86) (v := 0) C dX6_fits_86 (by decide) ?_
                  refine r_istore (pc := 87) (lv' := [some (.ref 0), some (.int (nI jh)), some (.int (nI jr)), some (.int (nI ki)), some (.int (nI jn)), some (.int 0), some (.int 0), none, none, none, none, none, none, none]) C dX6_fits_87 (Nat.le_of_ble_eq_true rfl) trivial rfl ?_
                  refine r_iload (pc := 89) C dX6_fits_89 rfl ?_
                  refine r_iconst (pc := 91) (v := 1) C dX6_fits_91 (by decide) ?_
                  refine r_icmp_ne (pc := 92) (tgt := 99) C dX6_fits_92 (by decide) (fun _ => ?_) (fun h => absurd h (by decide))
                  refine r_iconst (pc := 99) (v := 1) C dX6_fits_99 (by decide) ?_
                  refine r_istore (pc := 100) (lv' := [some (.ref 0), some (.int (nI jh)), some (.int (nI jr)), some (.int (nI ki)), some (.int (nI jn)), some (.int 0), some (.int 0), some (.int 1), none, none, none, none, none, none]) C dX6_fits_100 (Nat.le_of_ble_eq_true rfl) trivial rfl ?_
                  refine r_iload (pc := 102) C dX6_fits_102 rfl ?_
                  refine r_if_ne (pc := 104) (tgt := 111) C dX6_fits_104 (by decide) (fun h => absurd (by decide) h) (fun _ => ?_)
                  refine r_iconst (pc := 107) (v := 5) C dX6_fits_107 (by decide) ?_
                  refine r_goto (pc := 108) (tgt := 123) C dX6_fits_108 (by decide) ?_
                  refine r_istore (pc := 123) (lv' := [some (.ref 0), some (.int (nI jh)), some (.int (nI jr)), some (.int (nI ki)), some (.int (nI jn)), some (.int 0), some (.int 0), some (.int 1), some (.int 5), none, none, none, none, none]) C dX6_fits_123 (Nat.le_of_ble_eq_true rfl) trivial rfl ?_
                  refine r_iload (pc := 125) C dX6_fits_125 rfl ?_
                  refine r_if_ne (pc := 127) (tgt := 134) C dX6_fits_127 (by decide) (fun h => absurd (by decide) h) (fun _ => ?_)
                  refine r_iconst (pc := 130) (v := 4) C dX6_fits_130 (by decide) ?_
                  refine r_goto (pc := 131) (tgt := 147) C dX6_fits_131 (by decide) ?_
                  refine r_istore (pc := 147) (lv' := [some (.ref 0), some (.int (nI jh)), some (.int (nI jr)), some (.int (nI ki)), some (.int (nI jn)), some (.int 0), some (.int 0), some (.int 1), some (.int 5), some (.int 4), none, none, none, none]) C dX6_fits_147 (Nat.le_of_ble_eq_true rfl) trivial rfl ?_
                  refine r_iload (pc := 149) C dX6_fits_149 rfl ?_
                  refine r_istore (pc := 151) (lv' := [some (.ref 0), some (.int (nI jh)), some (.int (nI jr)), some (.int (nI ki)), some (.int (nI jn)), some (.int 0), some (.int 0), some (.int 1), some (.int 5), some (.int 4), some (.int 1), none, none, none]) C dX6_fits_151 (Nat.le_of_ble_eq_true rfl) trivial rfl ?_
                  show g 0 0 (wM M) 153 [some (.ref 0), some (.int (nI jh)), some (.int (nI jr)), some (.int (nI ki)), some (.int (nI jn)), some (.int 0), some (.int 0), some (.int 1), some (.int 5), some (.int 4), some (.int 1), none, none, none] []
                  have hL := fun kk => lpo_X6_fits_0 M z hM jh jr ki jn hjh hjr (by omega) C kk 5 0 (by omega)
                  simp only [fA_0] at hL
                  refine hL ?_
                  show g 0 0 (wM (up2 M 6 (fAT M 4 jh 1 5))) 288 [some (.ref 0), some (.int (nI jh)), some (.int (nI jr)), some (.int (nI ki)), some (.int (nI jn)), some (.int 0), some (.int (fitC (fun c => allM (fun k => decide (M 2 (40 * jr + ki + k) = plS (vw (fAT M 4 jh 1 (c + 1))) jh (M 4 35 + nI k))) jn) 1 5)), some (.int 1), some (.int 5), some (.int 4), none, none, none, none] []
                  refine r_aload_n (pc := 288) C dX6_fits_288 rfl rfl ?_
                  refine r_iload (pc := 289) C dX6_fits_289 rfl ?_
                  refine r_callV0 (pc := 291) (As := [.int (fitC (fun c => allM (fun k => decide (M 2 (40 * jr + ki + k) = plS (vw (fAT M 4 jh 1 (c + 1))) jh (M 4 35 + nI k))) jn) 1 5)]) (st := []) (θ' := wM (up2 (up2 M 6 (fAT M 4 jh 1 5)) 3 (k1 0))) C (c_X6_well (up2 M 6 (fAT M 4 jh 1 5)) (fitC (fun c => allM (fun k => decide (M 2 (40 * jr + ki + k) = plS (vw (fAT M 4 jh 1 (c + 1))) jh (M 4 35 + nI k))) jn) 1 5)) xm_X6_well xk_X6_72 dX6_fits_291 rfl rfl rfl rfl (Nat.le_of_ble_eq_true rfl) ⟨Nat.le_of_ble_eq_true rfl, Nat.le_of_ble_eq_true rfl⟩ ⟨rfl, rfl⟩ ⟨Nat.le_of_ble_eq_true rfl, Nat.le_of_ble_eq_true rfl⟩ rfl (Eq.trans (b := 14) rfl rfl) ?_
                  show g 0 0 (wM (up2 (up2 M 6 (fAT M 4 jh 1 5)) 3 (k1 0))) 294 [some (.ref 0), some (.int (nI jh)), some (.int (nI jr)), some (.int (nI ki)), some (.int (nI jn)), some (.int 0), some (.int (fitC (fun c => allM (fun k => decide (M 2 (40 * jr + ki + k) = plS (vw (fAT M 4 jh 1 (c + 1))) jh (M 4 35 + nI k))) jn) 1 5)), some (.int 1), some (.int 5), some (.int 4), none, none, none, none] [.int (fitC (fun c => allM (fun k => decide (M 2 (40 * jr + ki + k) = plS (vw (fAT M 4 jh 1 (c + 1))) jh (M 4 35 + nI k))) jn) 1 5)]
                  show g 0 0 (wM (up2 (up2 M 6 (fAT M 4 jh 1 5)) 3 (k1 0))) 294 [some (.ref 0), some (.int (nI jh)), some (.int (nI jr)), some (.int (nI ki)), some (.int (nI jn)), some (.int 0), some (.int (fitC (fun c => allM (fun k => decide (M 2 (40 * jr + ki + k) = plS (vw (fAT M 4 jh 1 (c + 1))) jh (M 4 35 + nI k))) jn) 1 5)), some (.int 1), some (.int 5), some (.int 4), none, none, none, none] [.int (fitC (fun c => allM (fun k => decide (M 2 (40 * jr + ki + k) = plS (vw (fAT M 4 jh 1 (c + 1))) jh (M 4 35 + nI k))) jn) 1 5)]
                  have hX : fitsM M z (nI jh) (nI jr) (nI ki) (nI jn) (nI 0) = ((fitC (fun c => allM (fun k => decide (M 2 (40 * jr + ki + k) = plS (vw (fAT M 4 jh 1 (c + 1))) jh (M 4 35 + nI k))) jn) 1 5), (up2 (up2 M 6 (fAT M 4 jh 1 5)) 3 (k1 0))) := by
                    unfold fitsM
                    (try rw [ix_nI (show jh < 2 ^ 31 by omega)])
                    (try rw [ix_nI (show jr < 2 ^ 31 by omega)])
                    (try rw [ix_nI (show jn < 2 ^ 31 by omega)])
                    (try rw [ix_nI (show ki < 2 ^ 31 by omega)])
                    rw [if_pos h_5, if_pos h_12, if_pos h_25, if_pos h_38, if_pos (show nI 0 = 0 from rfl), if_pos h_50, if_neg h_60, if_pos h_77]
                  exact E _ _ _ _ _ _ dX6_fits_294 (Nat.le_refl _) (Nat.le_refl _) rfl ⟨by rw [hX], by rw [hX]⟩
                · skip
                  refine r_aload_n (pc := 80) C dX6_fits_80 rfl rfl ?_
                  refine r_iconst (pc := 81) (v := 2) C dX6_fits_81 (by decide) ?_
                  refine r_callV0 (pc := 82) (As := [.int 2]) (st := []) (θ' := wM (up2 M 3 (k1 2))) C (c_X6_found M 2) xm_X6_found xk_X6_68 dX6_fits_82 rfl rfl rfl rfl (Nat.le_of_ble_eq_true rfl) ⟨Nat.le_of_ble_eq_true rfl, Nat.le_of_ble_eq_true rfl⟩ ⟨rfl, rfl⟩ ⟨Nat.le_of_ble_eq_true rfl, Nat.le_of_ble_eq_true rfl⟩ rfl (Eq.trans (b := 14) rfl rfl) ?_
                  show g 0 0 (wM (up2 M 3 (k1 2))) 85 [some (.ref 0), some (.int (nI jh)), some (.int (nI jr)), some (.int i), some (.int n), some (.int 0), none, none, none, none, none, none, none, none] [.int ((-1000010) - 2)]
                  show g 0 0 (wM (up2 M 3 (k1 2))) 85 [some (.ref 0), some (.int (nI jh)), some (.int (nI jr)), some (.int i), some (.int n), some (.int 0), none, none, none, none, none, none, none, none] [.int ((-1000010) - 2)]
                  have hX : fitsM M z (nI jh) (nI jr) i n (nI 0) = ((-1000010) - 2, (up2 M 3 (k1 2))) := by
                    unfold fitsM
                    (try rw [ix_nI (show jh < 2 ^ 31 by omega)])
                    (try rw [ix_nI (show jr < 2 ^ 31 by omega)])
                    rw [if_pos h_5, if_pos h_12, if_pos h_25, if_pos h_38, if_pos (show nI 0 = 0 from rfl), if_pos h_50, if_neg h_60, if_neg h_77]
                  exact E _ _ _ _ _ _ dX6_fits_85 (Nat.le_refl _) (Nat.le_refl _) rfl ⟨by rw [hX], by rw [hX]⟩
            · skip
              refine r_aload_n (pc := 53) C dX6_fits_53 rfl rfl ?_
              refine r_iconst (pc := 54) (v := 1) C dX6_fits_54 (by decide) ?_
              refine r_callV0 (pc := 55) (As := [.int 1]) (st := []) (θ' := wM (up2 M 3 (k1 1))) C (c_X6_found M 1) xm_X6_found xk_X6_68 dX6_fits_55 rfl rfl rfl rfl (Nat.le_of_ble_eq_true rfl) ⟨Nat.le_of_ble_eq_true rfl, Nat.le_of_ble_eq_true rfl⟩ ⟨rfl, rfl⟩ ⟨Nat.le_of_ble_eq_true rfl, Nat.le_of_ble_eq_true rfl⟩ rfl (Eq.trans (b := 14) rfl rfl) ?_
              show g 0 0 (wM (up2 M 3 (k1 1))) 58 [some (.ref 0), some (.int (nI jh)), some (.int (nI jr)), some (.int i), some (.int n), some (.int 0), none, none, none, none, none, none, none, none] [.int ((-1000010) - 1)]
              show g 0 0 (wM (up2 M 3 (k1 1))) 58 [some (.ref 0), some (.int (nI jh)), some (.int (nI jr)), some (.int i), some (.int n), some (.int 0), none, none, none, none, none, none, none, none] [.int ((-1000010) - 1)]
              have hX : fitsM M z (nI jh) (nI jr) i n (nI 0) = ((-1000010) - 1, (up2 M 3 (k1 1))) := by
                unfold fitsM
                (try rw [ix_nI (show jh < 2 ^ 31 by omega)])
                (try rw [ix_nI (show jr < 2 ^ 31 by omega)])
                rw [if_pos h_5, if_pos h_12, if_pos h_25, if_pos h_38, if_pos (show nI 0 = 0 from rfl), if_neg h_50]
              exact E _ _ _ _ _ _ dX6_fits_58 (Nat.le_refl _) (Nat.le_refl _) rfl ⟨by rw [hX], by rw [hX]⟩
          · skip
            show g 0 0 (wM M) 44 [some (.ref 0), some (.int (nI jh)), some (.int (nI jr)), some (.int i), some (.int n), some (.int 1), none, none, none, none, none, none, none, none] []
            refine r_aload_n (pc := 44) C dX6_fits_44 rfl rfl ?_
            refine r_getfield (pc := 45) (v := .ref 2) C xf_X6_13 dX6_fits_45 rfl rfl ?_
            refine r_iload_n (pc := 48) C dX6_fits_48 rfl rfl ?_
            refine r_iaload (pc := 49) (v := M 1 jr) C jr dX6_fits_49 rfl rfl (by first | assumption | omega) rfl ?_
            refine r_if_ge (pc := 50) (tgt := 59) C dX6_fits_50 (by decide) (fun h_50 => ?_) (fun h_50 => ?_)
            · skip
              refine r_iload_n (pc := 59) C dX6_fits_59 rfl rfl ?_
              refine r_if_lt (pc := 60) (tgt := 80) C dX6_fits_60 (by decide) (fun h_60 => ?_) (fun h_60 => ?_)
              · skip
                refine r_aload_n (pc := 80) C dX6_fits_80 rfl rfl ?_
                refine r_iconst (pc := 81) (v := 2) C dX6_fits_81 (by decide) ?_
                refine r_callV0 (pc := 82) (As := [.int 2]) (st := []) (θ' := wM (up2 M 3 (k1 2))) C (c_X6_found M 2) xm_X6_found xk_X6_68 dX6_fits_82 rfl rfl rfl rfl (Nat.le_of_ble_eq_true rfl) ⟨Nat.le_of_ble_eq_true rfl, Nat.le_of_ble_eq_true rfl⟩ ⟨rfl, rfl⟩ ⟨Nat.le_of_ble_eq_true rfl, Nat.le_of_ble_eq_true rfl⟩ rfl (Eq.trans (b := 14) rfl rfl) ?_
                show g 0 0 (wM (up2 M 3 (k1 2))) 85 [some (.ref 0), some (.int (nI jh)), some (.int (nI jr)), some (.int i), some (.int n), some (.int 1), none, none, none, none, none, none, none, none] [.int ((-1000010) - 2)]
                show g 0 0 (wM (up2 M 3 (k1 2))) 85 [some (.ref 0), some (.int (nI jh)), some (.int (nI jr)), some (.int i), some (.int n), some (.int 1), none, none, none, none, none, none, none, none] [.int ((-1000010) - 2)]
                have hX : fitsM M z (nI jh) (nI jr) i n (nI 1) = ((-1000010) - 2, (up2 M 3 (k1 2))) := by
                  unfold fitsM
                  (try rw [ix_nI (show jh < 2 ^ 31 by omega)])
                  (try rw [ix_nI (show jr < 2 ^ 31 by omega)])
                  rw [if_pos h_5, if_pos h_12, if_pos h_25, if_pos h_38, if_neg (show ¬ nI 1 = 0 by decide), if_pos (show nI 1 = 1 from rfl), if_pos h_50, if_pos h_60]
                exact E _ _ _ _ _ _ dX6_fits_85 (Nat.le_refl _) (Nat.le_refl _) rfl ⟨by rw [hX], by rw [hX]⟩
              · skip
                refine r_iload_n (pc := 63) C dX6_fits_63 rfl rfl ?_
                refine r_i2l (pc := 64) (v := i.toInt64) C dX6_fits_64 rfl ?_
                refine r_iload (pc := 65) C dX6_fits_65 rfl ?_
                refine r_i2l (pc := 67) (v := n.toInt64) C dX6_fits_67 rfl ?_
                refine r_ladd (pc := 68) C dX6_fits_68 ?_
                refine r_aload_n (pc := 69) C dX6_fits_69 rfl rfl ?_
                refine r_getfield (pc := 70) (v := .ref 2) C xf_X6_13 dX6_fits_70 rfl rfl ?_
                refine r_iload_n (pc := 73) C dX6_fits_73 rfl rfl ?_
                refine r_iaload (pc := 74) (v := M 1 jr) C jr dX6_fits_74 rfl rfl (by first | assumption | omega) rfl ?_
                refine r_i2l (pc := 75) (v := (M 1 jr).toInt64) C dX6_fits_75 rfl ?_
                refine r_lcmp (pc := 76) C dX6_fits_76 ?_
                refine r_if_le (pc := 77) (tgt := 86) C dX6_fits_77 (by decide) (fun h_77 => ?_) (fun h_77 => ?_)
                · skip
                  obtain ⟨sa, hsa40, hsa⟩ := sz_ex (hM1 jr (by omega)) h_50
                  obtain ⟨jn, hjn16, hjne⟩ := inn_ex h_25
                  subst hjne
                  obtain ⟨ki, rfl, hkin⟩ := cp_ex2 hsa hsa40 (by omega) h_60 h_77
                  refine r_iconst (pc := 86) (v := 0) C dX6_fits_86 (by decide) ?_
                  refine r_istore (pc := 87) (lv' := [some (.ref 0), some (.int (nI jh)), some (.int (nI jr)), some (.int (nI ki)), some (.int (nI jn)), some (.int 1), some (.int 0), none, none, none, none, none, none, none]) C dX6_fits_87 (Nat.le_of_ble_eq_true rfl) trivial rfl ?_
                  refine r_iload (pc := 89) C dX6_fits_89 rfl ?_
                  refine r_iconst (pc := 91) (v := 1) C dX6_fits_91 (by decide) ?_
                  refine r_icmp_ne (pc := 92) (tgt := 99) C dX6_fits_92 (by decide) (fun h => absurd (by decide) h) (fun _ => ?_)
                  refine r_iconst (pc := 95) (v := 0) C dX6_fits_95 (by decide) ?_
                  refine r_goto (pc := 96) (tgt := 100) C dX6_fits_96 (by decide) ?_
                  refine r_istore (pc := 100) (lv' := [some (.ref 0), some (.int (nI jh)), some (.int (nI jr)), some (.int (nI ki)), some (.int (nI jn)), some (.int 1), some (.int 0), some (.int 0), none, none, none, none, none, none]) C dX6_fits_100 (Nat.le_of_ble_eq_true rfl) trivial rfl ?_
                  refine r_iload (pc := 102) C dX6_fits_102 rfl ?_
                  refine r_if_ne (pc := 104) (tgt := 111) C dX6_fits_104 (by decide) (fun _ => ?_) (fun h => absurd h (by decide))
                  refine r_iload (pc := 111) C dX6_fits_111 rfl ?_
                  refine r_iconst (pc := 113) (v := 1) C dX6_fits_113 (by decide) ?_
                  refine r_icmp_ne (pc := 114) (tgt := 121) C dX6_fits_114 (by decide) (fun h => absurd (by decide) h) (fun _ => ?_)
                  refine r_iconst (pc := 117) (v := 5) C dX6_fits_117 (by decide) ?_
                  refine r_goto (pc := 118) (tgt := 123) C dX6_fits_118 (by decide) ?_
                  refine r_istore (pc := 123) (lv' := [some (.ref 0), some (.int (nI jh)), some (.int (nI jr)), some (.int (nI ki)), some (.int (nI jn)), some (.int 1), some (.int 0), some (.int 0), some (.int 5), none, none, none, none, none]) C dX6_fits_123 (Nat.le_of_ble_eq_true rfl) trivial rfl ?_
                  refine r_iload (pc := 125) C dX6_fits_125 rfl ?_
                  refine r_if_ne (pc := 127) (tgt := 134) C dX6_fits_127 (by decide) (fun _ => ?_) (fun h => absurd h (by decide))
                  refine r_iload (pc := 134) C dX6_fits_134 rfl ?_
                  refine r_iconst (pc := 136) (v := 1) C dX6_fits_136 (by decide) ?_
                  refine r_icmp_ne (pc := 137) (tgt := 145) C dX6_fits_137 (by decide) (fun h => absurd (by decide) h) (fun _ => ?_)
                  refine r_bipush (pc := 140) (v := 28) C dX6_fits_140 (by decide) ?_
                  refine r_goto (pc := 142) (tgt := 147) C dX6_fits_142 (by decide) ?_
                  refine r_istore (pc := 147) (lv' := [some (.ref 0), some (.int (nI jh)), some (.int (nI jr)), some (.int (nI ki)), some (.int (nI jn)), some (.int 1), some (.int 0), some (.int 0), some (.int 5), some (.int 28), none, none, none, none]) C dX6_fits_147 (Nat.le_of_ble_eq_true rfl) trivial rfl ?_
                  refine r_iload (pc := 149) C dX6_fits_149 rfl ?_
                  refine r_istore (pc := 151) (lv' := [some (.ref 0), some (.int (nI jh)), some (.int (nI jr)), some (.int (nI ki)), some (.int (nI jn)), some (.int 1), some (.int 0), some (.int 0), some (.int 5), some (.int 28), some (.int 0), none, none, none]) C dX6_fits_151 (Nat.le_of_ble_eq_true rfl) trivial rfl ?_
                  show g 0 0 (wM M) 153 [some (.ref 0), some (.int (nI jh)), some (.int (nI jr)), some (.int (nI ki)), some (.int (nI jn)), some (.int 1), some (.int 0), some (.int 0), some (.int 5), some (.int 28), some (.int 0), none, none, none] []
                  have hL := fun kk => lpo_X6_fits_1 M z hM jh jr ki jn hjh hjr (by omega) C kk 6 0 (by omega)
                  simp only [fA_0] at hL
                  refine hL ?_
                  show g 0 0 (wM (up2 M 6 (fAT M 28 jh 0 6))) 288 [some (.ref 0), some (.int (nI jh)), some (.int (nI jr)), some (.int (nI ki)), some (.int (nI jn)), some (.int 1), some (.int (fitC (fun c => allM (fun k => decide (M 2 (40 * jr + ki + k) = plS (vw (fAT M 28 jh 0 (c + 1))) jh (M 4 35 + nI k))) jn) 0 6)), some (.int 0), some (.int 5), some (.int 28), none, none, none, none] []
                  refine r_aload_n (pc := 288) C dX6_fits_288 rfl rfl ?_
                  refine r_iload (pc := 289) C dX6_fits_289 rfl ?_
                  refine r_callV0 (pc := 291) (As := [.int (fitC (fun c => allM (fun k => decide (M 2 (40 * jr + ki + k) = plS (vw (fAT M 28 jh 0 (c + 1))) jh (M 4 35 + nI k))) jn) 0 6)]) (st := []) (θ' := wM (up2 (up2 M 6 (fAT M 28 jh 0 6)) 3 (k1 0))) C (c_X6_well (up2 M 6 (fAT M 28 jh 0 6)) (fitC (fun c => allM (fun k => decide (M 2 (40 * jr + ki + k) = plS (vw (fAT M 28 jh 0 (c + 1))) jh (M 4 35 + nI k))) jn) 0 6)) xm_X6_well xk_X6_72 dX6_fits_291 rfl rfl rfl rfl (Nat.le_of_ble_eq_true rfl) ⟨Nat.le_of_ble_eq_true rfl, Nat.le_of_ble_eq_true rfl⟩ ⟨rfl, rfl⟩ ⟨Nat.le_of_ble_eq_true rfl, Nat.le_of_ble_eq_true rfl⟩ rfl (Eq.trans (b := 14) rfl rfl) ?_
                  show g 0 0 (wM (up2 (up2 M 6 (fAT M 28 jh 0 6)) 3 (k1 0))) 294 [some (.ref 0), some (.int (nI jh)), some (.int (nI jr)), some (.int (nI ki)), some (.int (nI jn)), some (.int 1), some (.int (fitC (fun c => allM (fun k => decide (M 2 (40 * jr + ki + k) = plS (vw (fAT M 28 jh 0 (c + 1))) jh (M 4 35 + nI k))) jn) 0 6)), some (.int 0), some (.int 5), some (.int 28), none, none, none, none] [.int (fitC (fun c => allM (fun k => decide (M 2 (40 * jr + ki + k) = plS (vw (fAT M 28 jh 0 (c + 1))) jh (M 4 35 + nI k))) jn) 0 6)]
                  show g 0 0 (wM (up2 (up2 M 6 (fAT M 28 jh 0 6)) 3 (k1 0))) 294 [some (.ref 0), some (.int (nI jh)), some (.int (nI jr)), some (.int (nI ki)), some (.int (nI jn)), some (.int 1), some (.int (fitC (fun c => allM (fun k => decide (M 2 (40 * jr + ki + k) = plS (vw (fAT M 28 jh 0 (c + 1))) jh (M 4 35 + nI k))) jn) 0 6)), some (.int 0), some (.int 5), some (.int 28), none, none, none, none] [.int (fitC (fun c => allM (fun k => decide (M 2 (40 * jr + ki + k) = plS (vw (fAT M 28 jh 0 (c + 1))) jh (M 4 35 + nI k))) jn) 0 6)]
                  have hX : fitsM M z (nI jh) (nI jr) (nI ki) (nI jn) (nI 1) = ((fitC (fun c => allM (fun k => decide (M 2 (40 * jr + ki + k) = plS (vw (fAT M 28 jh 0 (c + 1))) jh (M 4 35 + nI k))) jn) 0 6), (up2 (up2 M 6 (fAT M 28 jh 0 6)) 3 (k1 0))) := by
                    unfold fitsM
                    (try rw [ix_nI (show jh < 2 ^ 31 by omega)])
                    (try rw [ix_nI (show jr < 2 ^ 31 by omega)])
                    (try rw [ix_nI (show jn < 2 ^ 31 by omega)])
                    (try rw [ix_nI (show ki < 2 ^ 31 by omega)])
                    rw [if_pos h_5, if_pos h_12, if_pos h_25, if_pos h_38, if_neg (show ¬ nI 1 = 0 by decide), if_pos (show nI 1 = 1 from rfl), if_pos h_50, if_neg h_60, if_pos h_77]
                  exact E _ _ _ _ _ _ dX6_fits_294 (Nat.le_refl _) (Nat.le_refl _) rfl ⟨by rw [hX], by rw [hX]⟩
                · skip
                  refine r_aload_n (pc := 80) C dX6_fits_80 rfl rfl ?_
                  refine r_iconst (pc := 81) (v := 2) C dX6_fits_81 (by decide) ?_
                  refine r_callV0 (pc := 82) (As := [.int 2]) (st := []) (θ' := wM (up2 M 3 (k1 2))) C (c_X6_found M 2) xm_X6_found xk_X6_68 dX6_fits_82 rfl rfl rfl rfl (Nat.le_of_ble_eq_true rfl) ⟨Nat.le_of_ble_eq_true rfl, Nat.le_of_ble_eq_true rfl⟩ ⟨rfl, rfl⟩ ⟨Nat.le_of_ble_eq_true rfl, Nat.le_of_ble_eq_true rfl⟩ rfl (Eq.trans (b := 14) rfl rfl) ?_
                  show g 0 0 (wM (up2 M 3 (k1 2))) 85 [some (.ref 0), some (.int (nI jh)), some (.int (nI jr)), some (.int i), some (.int n), some (.int 1), none, none, none, none, none, none, none, none] [.int ((-1000010) - 2)]
                  show g 0 0 (wM (up2 M 3 (k1 2))) 85 [some (.ref 0), some (.int (nI jh)), some (.int (nI jr)), some (.int i), some (.int n), some (.int 1), none, none, none, none, none, none, none, none] [.int ((-1000010) - 2)]
                  have hX : fitsM M z (nI jh) (nI jr) i n (nI 1) = ((-1000010) - 2, (up2 M 3 (k1 2))) := by
                    unfold fitsM
                    (try rw [ix_nI (show jh < 2 ^ 31 by omega)])
                    (try rw [ix_nI (show jr < 2 ^ 31 by omega)])
                    rw [if_pos h_5, if_pos h_12, if_pos h_25, if_pos h_38, if_neg (show ¬ nI 1 = 0 by decide), if_pos (show nI 1 = 1 from rfl), if_pos h_50, if_neg h_60, if_neg h_77]
                  exact E _ _ _ _ _ _ dX6_fits_85 (Nat.le_refl _) (Nat.le_refl _) rfl ⟨by rw [hX], by rw [hX]⟩
            · skip
              refine r_aload_n (pc := 53) C dX6_fits_53 rfl rfl ?_
              refine r_iconst (pc := 54) (v := 1) C dX6_fits_54 (by decide) ?_
              refine r_callV0 (pc := 55) (As := [.int 1]) (st := []) (θ' := wM (up2 M 3 (k1 1))) C (c_X6_found M 1) xm_X6_found xk_X6_68 dX6_fits_55 rfl rfl rfl rfl (Nat.le_of_ble_eq_true rfl) ⟨Nat.le_of_ble_eq_true rfl, Nat.le_of_ble_eq_true rfl⟩ ⟨rfl, rfl⟩ ⟨Nat.le_of_ble_eq_true rfl, Nat.le_of_ble_eq_true rfl⟩ rfl (Eq.trans (b := 14) rfl rfl) ?_
              show g 0 0 (wM (up2 M 3 (k1 1))) 58 [some (.ref 0), some (.int (nI jh)), some (.int (nI jr)), some (.int i), some (.int n), some (.int 1), none, none, none, none, none, none, none, none] [.int ((-1000010) - 1)]
              show g 0 0 (wM (up2 M 3 (k1 1))) 58 [some (.ref 0), some (.int (nI jh)), some (.int (nI jr)), some (.int i), some (.int n), some (.int 1), none, none, none, none, none, none, none, none] [.int ((-1000010) - 1)]
              have hX : fitsM M z (nI jh) (nI jr) i n (nI 1) = ((-1000010) - 1, (up2 M 3 (k1 1))) := by
                unfold fitsM
                (try rw [ix_nI (show jh < 2 ^ 31 by omega)])
                (try rw [ix_nI (show jr < 2 ^ 31 by omega)])
                rw [if_pos h_5, if_pos h_12, if_pos h_25, if_pos h_38, if_neg (show ¬ nI 1 = 0 by decide), if_pos (show nI 1 = 1 from rfl), if_neg h_50]
              exact E _ _ _ _ _ _ dX6_fits_58 (Nat.le_refl _) (Nat.le_refl _) rfl ⟨by rw [hX], by rw [hX]⟩
          · skip
            show g 0 0 (wM M) 44 [some (.ref 0), some (.int (nI jh)), some (.int (nI jr)), some (.int i), some (.int n), some (.int 2), none, none, none, none, none, none, none, none] []
            refine r_aload_n (pc := 44) C dX6_fits_44 rfl rfl ?_
            refine r_getfield (pc := 45) (v := .ref 2) C xf_X6_13 dX6_fits_45 rfl rfl ?_
            refine r_iload_n (pc := 48) C dX6_fits_48 rfl rfl ?_
            refine r_iaload (pc := 49) (v := M 1 jr) C jr dX6_fits_49 rfl rfl (by first | assumption | omega) rfl ?_
            refine r_if_ge (pc := 50) (tgt := 59) C dX6_fits_50 (by decide) (fun h_50 => ?_) (fun h_50 => ?_)
            · skip
              refine r_iload_n (pc := 59) C dX6_fits_59 rfl rfl ?_
              refine r_if_lt (pc := 60) (tgt := 80) C dX6_fits_60 (by decide) (fun h_60 => ?_) (fun h_60 => ?_)
              · skip
                refine r_aload_n (pc := 80) C dX6_fits_80 rfl rfl ?_
                refine r_iconst (pc := 81) (v := 2) C dX6_fits_81 (by decide) ?_
                refine r_callV0 (pc := 82) (As := [.int 2]) (st := []) (θ' := wM (up2 M 3 (k1 2))) C (c_X6_found M 2) xm_X6_found xk_X6_68 dX6_fits_82 rfl rfl rfl rfl (Nat.le_of_ble_eq_true rfl) ⟨Nat.le_of_ble_eq_true rfl, Nat.le_of_ble_eq_true rfl⟩ ⟨rfl, rfl⟩ ⟨Nat.le_of_ble_eq_true rfl, Nat.le_of_ble_eq_true rfl⟩ rfl (Eq.trans (b := 14) rfl rfl) ?_
                show g 0 0 (wM (up2 M 3 (k1 2))) 85 [some (.ref 0), some (.int (nI jh)), some (.int (nI jr)), some (.int i), some (.int n), some (.int 2), none, none, none, none, none, none, none, none] [.int ((-1000010) - 2)]
                show g 0 0 (wM (up2 M 3 (k1 2))) 85 [some (.ref 0), some (.int (nI jh)), some (.int (nI jr)), some (.int i), some (.int n), some (.int 2), none, none, none, none, none, none, none, none] [.int ((-1000010) - 2)]
                have hX : fitsM M z (nI jh) (nI jr) i n (nI 2) = ((-1000010) - 2, (up2 M 3 (k1 2))) := by
                  unfold fitsM
                  (try rw [ix_nI (show jh < 2 ^ 31 by omega)])
                  (try rw [ix_nI (show jr < 2 ^ 31 by omega)])
                  rw [if_pos h_5, if_pos h_12, if_pos h_25, if_pos h_38, if_neg (show ¬ nI 2 = 0 by decide), if_neg (show ¬ nI 2 = 1 by decide), if_pos h_50, if_pos h_60]
                exact E _ _ _ _ _ _ dX6_fits_85 (Nat.le_refl _) (Nat.le_refl _) rfl ⟨by rw [hX], by rw [hX]⟩
              · skip
                refine r_iload_n (pc := 63) C dX6_fits_63 rfl rfl ?_
                refine r_i2l (pc := 64) (v := i.toInt64) C dX6_fits_64 rfl ?_
                refine r_iload (pc := 65) C dX6_fits_65 rfl ?_
                refine r_i2l (pc := 67) (v := n.toInt64) C dX6_fits_67 rfl ?_
                refine r_ladd (pc := 68) C dX6_fits_68 ?_
                refine r_aload_n (pc := 69) C dX6_fits_69 rfl rfl ?_
                refine r_getfield (pc := 70) (v := .ref 2) C xf_X6_13 dX6_fits_70 rfl rfl ?_
                refine r_iload_n (pc := 73) C dX6_fits_73 rfl rfl ?_
                refine r_iaload (pc := 74) (v := M 1 jr) C jr dX6_fits_74 rfl rfl (by first | assumption | omega) rfl ?_
                refine r_i2l (pc := 75) (v := (M 1 jr).toInt64) C dX6_fits_75 rfl ?_
                refine r_lcmp (pc := 76) C dX6_fits_76 ?_
                refine r_if_le (pc := 77) (tgt := 86) C dX6_fits_77 (by decide) (fun h_77 => ?_) (fun h_77 => ?_)
                · skip
                  obtain ⟨sa, hsa40, hsa⟩ := sz_ex (hM1 jr (by omega)) h_50
                  obtain ⟨jn, hjn16, hjne⟩ := inn_ex h_25
                  subst hjne
                  obtain ⟨ki, rfl, hkin⟩ := cp_ex2 hsa hsa40 (by omega) h_60 h_77
                  refine r_iconst (pc := 86) (v := 0) C dX6_fits_86 (by decide) ?_
                  refine r_istore (pc := 87) (lv' := [some (.ref 0), some (.int (nI jh)), some (.int (nI jr)), some (.int (nI ki)), some (.int (nI jn)), some (.int 2), some (.int 0), none, none, none, none, none, none, none]) C dX6_fits_87 (Nat.le_of_ble_eq_true rfl) trivial rfl ?_
                  refine r_iload (pc := 89) C dX6_fits_89 rfl ?_
                  refine r_iconst (pc := 91) (v := 1) C dX6_fits_91 (by decide) ?_
                  refine r_icmp_ne (pc := 92) (tgt := 99) C dX6_fits_92 (by decide) (fun _ => ?_) (fun h => absurd h (by decide))
                  refine r_iconst (pc := 99) (v := 1) C dX6_fits_99 (by decide) ?_
                  refine r_istore (pc := 100) (lv' := [some (.ref 0), some (.int (nI jh)), some (.int (nI jr)), some (.int (nI ki)), some (.int (nI jn)), some (.int 2), some (.int 0), some (.int 1), none, none, none, none, none, none]) C dX6_fits_100 (Nat.le_of_ble_eq_true rfl) trivial rfl ?_
                  refine r_iload (pc := 102) C dX6_fits_102 rfl ?_
                  refine r_if_ne (pc := 104) (tgt := 111) C dX6_fits_104 (by decide) (fun _ => ?_) (fun h => absurd h (by decide))
                  refine r_iload (pc := 111) C dX6_fits_111 rfl ?_
                  refine r_iconst (pc := 113) (v := 1) C dX6_fits_113 (by decide) ?_
                  refine r_icmp_ne (pc := 114) (tgt := 121) C dX6_fits_114 (by decide) (fun _ => ?_) (fun h => absurd h (by decide))
                  refine r_bipush (pc := 121) (v := 20) C dX6_fits_121 (by decide) ?_
                  refine r_istore (pc := 123) (lv' := [some (.ref 0), some (.int (nI jh)), some (.int (nI jr)), some (.int (nI ki)), some (.int (nI jn)), some (.int 2), some (.int 0), some (.int 1), some (.int 20), none, none, none, none, none]) C dX6_fits_123 (Nat.le_of_ble_eq_true rfl) trivial rfl ?_
                  refine r_iload (pc := 125) C dX6_fits_125 rfl ?_
                  refine r_if_ne (pc := 127) (tgt := 134) C dX6_fits_127 (by decide) (fun _ => ?_) (fun h => absurd h (by decide))
                  refine r_iload (pc := 134) C dX6_fits_134 rfl ?_
                  refine r_iconst (pc := 136) (v := 1) C dX6_fits_136 (by decide) ?_
                  refine r_icmp_ne (pc := 137) (tgt := 145) C dX6_fits_137 (by decide) (fun _ => ?_) (fun h => absurd h (by decide))
                  refine r_bipush (pc := 145) (v := 22) C dX6_fits_145 (by decide) ?_
                  refine r_istore (pc := 147) (lv' := [some (.ref 0), some (.int (nI jh)), some (.int (nI jr)), some (.int (nI ki)), some (.int (nI jn)), some (.int 2), some (.int 0), some (.int 1), some (.int 20), some (.int 22), none, none, none, none]) C dX6_fits_147 (Nat.le_of_ble_eq_true rfl) trivial rfl ?_
                  refine r_iload (pc := 149) C dX6_fits_149 rfl ?_
                  refine r_istore (pc := 151) (lv' := [some (.ref 0), some (.int (nI jh)), some (.int (nI jr)), some (.int (nI ki)), some (.int (nI jn)), some (.int 2), some (.int 0), some (.int 1), some (.int 20), some (.int 22), some (.int 1), none, none, none]) C dX6_fits_151 (Nat.le_of_ble_eq_true rfl) trivial rfl ?_
                  show g 0 0 (wM M) 153 [some (.ref 0), some (.int (nI jh)), some (.int (nI jr)), some (.int (nI ki)), some (.int (nI jn)), some (.int 2), some (.int 0), some (.int 1), some (.int 20), some (.int 22), some (.int 1), none, none, none] []
                  have hL := fun kk => lpo_X6_fits_2 M z hM jh jr ki jn hjh hjr (by omega) C kk 20 0 (by omega)
                  simp only [fA_0] at hL
                  refine hL ?_
                  show g 0 0 (wM (up2 M 6 (fAT M 22 jh 1 20))) 288 [some (.ref 0), some (.int (nI jh)), some (.int (nI jr)), some (.int (nI ki)), some (.int (nI jn)), some (.int 2), some (.int (fitC (fun c => allM (fun k => decide (M 2 (40 * jr + ki + k) = reachM (vw (fAT M 22 jh 1 (c + 1))) z jh (M 4 35 + nI k))) jn) 1 20)), some (.int 1), some (.int 20), some (.int 22), none, none, none, none] []
                  refine r_aload_n (pc := 288) C dX6_fits_288 rfl rfl ?_
                  refine r_iload (pc := 289) C dX6_fits_289 rfl ?_
                  refine r_callV0 (pc := 291) (As := [.int (fitC (fun c => allM (fun k => decide (M 2 (40 * jr + ki + k) = reachM (vw (fAT M 22 jh 1 (c + 1))) z jh (M 4 35 + nI k))) jn) 1 20)]) (st := []) (θ' := wM (up2 (up2 M 6 (fAT M 22 jh 1 20)) 3 (k1 0))) C (c_X6_well (up2 M 6 (fAT M 22 jh 1 20)) (fitC (fun c => allM (fun k => decide (M 2 (40 * jr + ki + k) = reachM (vw (fAT M 22 jh 1 (c + 1))) z jh (M 4 35 + nI k))) jn) 1 20)) xm_X6_well xk_X6_72 dX6_fits_291 rfl rfl rfl rfl (Nat.le_of_ble_eq_true rfl) ⟨Nat.le_of_ble_eq_true rfl, Nat.le_of_ble_eq_true rfl⟩ ⟨rfl, rfl⟩ ⟨Nat.le_of_ble_eq_true rfl, Nat.le_of_ble_eq_true rfl⟩ rfl (Eq.trans (b := 14) rfl rfl) ?_
                  show g 0 0 (wM (up2 (up2 M 6 (fAT M 22 jh 1 20)) 3 (k1 0))) 294 [some (.ref 0), some (.int (nI jh)), some (.int (nI jr)), some (.int (nI ki)), some (.int (nI jn)), some (.int 2), some (.int (fitC (fun c => allM (fun k => decide (M 2 (40 * jr + ki + k) = reachM (vw (fAT M 22 jh 1 (c + 1))) z jh (M 4 35 + nI k))) jn) 1 20)), some (.int 1), some (.int 20), some (.int 22), none, none, none, none] [.int (fitC (fun c => allM (fun k => decide (M 2 (40 * jr + ki + k) = reachM (vw (fAT M 22 jh 1 (c + 1))) z jh (M 4 35 + nI k))) jn) 1 20)]
                  show g 0 0 (wM (up2 (up2 M 6 (fAT M 22 jh 1 20)) 3 (k1 0))) 294 [some (.ref 0), some (.int (nI jh)), some (.int (nI jr)), some (.int (nI ki)), some (.int (nI jn)), some (.int 2), some (.int (fitC (fun c => allM (fun k => decide (M 2 (40 * jr + ki + k) = reachM (vw (fAT M 22 jh 1 (c + 1))) z jh (M 4 35 + nI k))) jn) 1 20)), some (.int 1), some (.int 20), some (.int 22), none, none, none, none] [.int (fitC (fun c => allM (fun k => decide (M 2 (40 * jr + ki + k) = reachM (vw (fAT M 22 jh 1 (c + 1))) z jh (M 4 35 + nI k))) jn) 1 20)]
                  have hX : fitsM M z (nI jh) (nI jr) (nI ki) (nI jn) (nI 2) = ((fitC (fun c => allM (fun k => decide (M 2 (40 * jr + ki + k) = reachM (vw (fAT M 22 jh 1 (c + 1))) z jh (M 4 35 + nI k))) jn) 1 20), (up2 (up2 M 6 (fAT M 22 jh 1 20)) 3 (k1 0))) := by
                    unfold fitsM
                    (try rw [ix_nI (show jh < 2 ^ 31 by omega)])
                    (try rw [ix_nI (show jr < 2 ^ 31 by omega)])
                    (try rw [ix_nI (show jn < 2 ^ 31 by omega)])
                    (try rw [ix_nI (show ki < 2 ^ 31 by omega)])
                    rw [if_pos h_5, if_pos h_12, if_pos h_25, if_pos h_38, if_neg (show ¬ nI 2 = 0 by decide), if_neg (show ¬ nI 2 = 1 by decide), if_pos h_50, if_neg h_60, if_pos h_77]
                  exact E _ _ _ _ _ _ dX6_fits_294 (Nat.le_refl _) (Nat.le_refl _) rfl ⟨by rw [hX], by rw [hX]⟩
                · skip
                  refine r_aload_n (pc := 80) C dX6_fits_80 rfl rfl ?_
                  refine r_iconst (pc := 81) (v := 2) C dX6_fits_81 (by decide) ?_
                  refine r_callV0 (pc := 82) (As := [.int 2]) (st := []) (θ' := wM (up2 M 3 (k1 2))) C (c_X6_found M 2) xm_X6_found xk_X6_68 dX6_fits_82 rfl rfl rfl rfl (Nat.le_of_ble_eq_true rfl) ⟨Nat.le_of_ble_eq_true rfl, Nat.le_of_ble_eq_true rfl⟩ ⟨rfl, rfl⟩ ⟨Nat.le_of_ble_eq_true rfl, Nat.le_of_ble_eq_true rfl⟩ rfl (Eq.trans (b := 14) rfl rfl) ?_
                  show g 0 0 (wM (up2 M 3 (k1 2))) 85 [some (.ref 0), some (.int (nI jh)), some (.int (nI jr)), some (.int i), some (.int n), some (.int 2), none, none, none, none, none, none, none, none] [.int ((-1000010) - 2)]
                  show g 0 0 (wM (up2 M 3 (k1 2))) 85 [some (.ref 0), some (.int (nI jh)), some (.int (nI jr)), some (.int i), some (.int n), some (.int 2), none, none, none, none, none, none, none, none] [.int ((-1000010) - 2)]
                  have hX : fitsM M z (nI jh) (nI jr) i n (nI 2) = ((-1000010) - 2, (up2 M 3 (k1 2))) := by
                    unfold fitsM
                    (try rw [ix_nI (show jh < 2 ^ 31 by omega)])
                    (try rw [ix_nI (show jr < 2 ^ 31 by omega)])
                    rw [if_pos h_5, if_pos h_12, if_pos h_25, if_pos h_38, if_neg (show ¬ nI 2 = 0 by decide), if_neg (show ¬ nI 2 = 1 by decide), if_pos h_50, if_neg h_60, if_neg h_77]
                  exact E _ _ _ _ _ _ dX6_fits_85 (Nat.le_refl _) (Nat.le_refl _) rfl ⟨by rw [hX], by rw [hX]⟩
            · skip
              refine r_aload_n (pc := 53) C dX6_fits_53 rfl rfl ?_
              refine r_iconst (pc := 54) (v := 1) C dX6_fits_54 (by decide) ?_
              refine r_callV0 (pc := 55) (As := [.int 1]) (st := []) (θ' := wM (up2 M 3 (k1 1))) C (c_X6_found M 1) xm_X6_found xk_X6_68 dX6_fits_55 rfl rfl rfl rfl (Nat.le_of_ble_eq_true rfl) ⟨Nat.le_of_ble_eq_true rfl, Nat.le_of_ble_eq_true rfl⟩ ⟨rfl, rfl⟩ ⟨Nat.le_of_ble_eq_true rfl, Nat.le_of_ble_eq_true rfl⟩ rfl (Eq.trans (b := 14) rfl rfl) ?_
              show g 0 0 (wM (up2 M 3 (k1 1))) 58 [some (.ref 0), some (.int (nI jh)), some (.int (nI jr)), some (.int i), some (.int n), some (.int 2), none, none, none, none, none, none, none, none] [.int ((-1000010) - 1)]
              show g 0 0 (wM (up2 M 3 (k1 1))) 58 [some (.ref 0), some (.int (nI jh)), some (.int (nI jr)), some (.int i), some (.int n), some (.int 2), none, none, none, none, none, none, none, none] [.int ((-1000010) - 1)]
              have hX : fitsM M z (nI jh) (nI jr) i n (nI 2) = ((-1000010) - 1, (up2 M 3 (k1 1))) := by
                unfold fitsM
                (try rw [ix_nI (show jh < 2 ^ 31 by omega)])
                (try rw [ix_nI (show jr < 2 ^ 31 by omega)])
                rw [if_pos h_5, if_pos h_12, if_pos h_25, if_pos h_38, if_neg (show ¬ nI 2 = 0 by decide), if_neg (show ¬ nI 2 = 1 by decide), if_neg h_50]
              exact E _ _ _ _ _ _ dX6_fits_58 (Nat.le_refl _) (Nat.le_refl _) rfl ⟨by rw [hX], by rw [hX]⟩
        · replace h_38 := bB_f h_38
          refine r_ldc (pc := 41) (v := (-1000001)) C dX6_fits_41 tw_668 ?_
          show g 0 0 (wM M) 43 [some (.ref 0), some (.int (nI jh)), some (.int (nI jr)), some (.int i), some (.int n), some (.int x), none, none, none, none, none, none, none, none] [.int (-1000001)]
          have hX : fitsM M z (nI jh) (nI jr) i n x = ((-1000001), M) := by
            unfold fitsM
            (try rw [ix_nI (show jh < 2 ^ 31 by omega)])
            (try rw [ix_nI (show jr < 2 ^ 31 by omega)])
            rw [if_pos h_5, if_pos h_12, if_pos h_25, if_neg (nbt h_38)]
          exact E _ _ _ _ _ _ dX6_fits_43 (Nat.le_refl _) (Nat.le_refl _) rfl ⟨by rw [hX], by rw [hX]⟩
/-! ===== the reference's breaks ===== -/
def belM (M : Nat → Nat → Int32) : Nat → Int64
  | 0 => 1
  | k + 1 => belM M k * (if hasS (M 4 34) (nI k) then 1 else 10)
def wyM (M : Nat → Nat → Int32) (st c : Int32) : Nat → Int64
  | 0 => 1
  | k + 1 => wyM M st c k * (if hasS (M 4 34) (nI k) then 1 else if hasS st (nI k) then c.toInt64 else (10 - c).toInt64)
def bA (M : Nat → Nat → Int32) : Nat → Nat → Int32
  | 0 => M 6
  | q + 1 => if nI q &&& M 4 34 = 0 then upd (va_cpy (M 4) (bA M q) 0 0 36) 34 (M 4 34 ||| nI q) else bA M q
noncomputable def bAT : (Nat → Nat → Int32) → Nat → Nat → Int32 := Classical.choose (seal_ex bA)
theorem bAT_eq : bAT = bA := Classical.choose_spec (seal_ex bA)
theorem bA_0 {M : Nat → Nat → Int32} : bAT M 0 = M 6 := by rw [bAT_eq]; rfl
theorem bA_s {M : Nat → Nat → Int32} {q : Nat} (h : nI q &&& M 4 34 = 0) : upd (va_cpy (M 4) (bAT M q) 0 0 36) 34 (M 4 34 ||| nI q) = bAT M (q + 1) := by
  rw [bAT_eq, bA, if_pos h]
theorem bA_n {M : Nat → Nat → Int32} {q : Nat} (h : ¬ nI q &&& M 4 34 = 0) : bAT M (q + 1) = bAT M q := by
  rw [bAT_eq, bA, if_neg h]
theorem bA_k {M : Nat → Nat → Int32} {q k : Nat} (h : nI q &&& M 4 34 = 0) (h1 : k < 36) (h2 : k ≠ 34) : bAT M (q + 1) k = M 4 k := by
  rw [← bA_s h, upd_ne h2, cpy36 h1]
theorem bA_34 {M : Nat → Nat → Int32} {q : Nat} (h : nI q &&& M 4 34 = 0) : bAT M (q + 1) 34 = M 4 34 ||| nI q := by
  rw [← bA_s h]
  exact if_pos rfl
noncomputable def brM (M : Nat → Nat → Int32) (z ia ib jd : Nat) (c : Int32) : Nat → Int64
  | 0 => 0
  | q + 1 => if nI q &&& M 4 34 = 0 then brM M z ia ib jd c q + (if nI jd < soonT (vw (bAT M (q + 1))) z (nI ia) (nI ib) then 0 else wyM M (nI q) c z) else brM M z ia ib jd c q
def gcM : Nat → Int64 → Int64 → Int64
  | 0, u, _ => u
  | n + 1, u, v => if v = 0 then u else gcM n v (rmL u v)
theorem lg_cmp_0 (v : Int64) : lg_cmp v 0 = 0 ↔ v = 0 := by
  constructor
  · intro h
    have h1 : ¬ lg_cmp v 0 < 0 := by rw [h]; decide
    have h2 : ¬ 0 < lg_cmp v 0 := by rw [h]; decide
    rw [lg_cmp_lt] at h1
    rw [lg_cmp_gt] at h2
    exact Int64.le_antisymm (Int64.not_lt.mp h2) (Int64.not_lt.mp h1)
  · rintro rfl
    decide
set_option maxHeartbeats 4000000 in
set_option maxRecDepth 100000 in
theorem lpa_X6_breaks (M : Nat → Nat → Int32) (z : Nat) (hM : okM M z) (ia ib jd : Nat) (hia : ia < z) (hib : ib < z) (hjd : jd ≤ 60) (c x : Int32) (l6 : Int64) {g : Nat → Nat → List xE → Nat → List (Option Value) → List Value → Prop} (C : Sem cX6_breaks RX6 "breaks" 16 rmX6_breaks g) (kk : g 0 0 (wM M) 100 [some (.ref 0), some (.int (nI ia)), some (.int (nI ib)), some (.int (nI jd)), some (.int c), some (.int x), some (.long l6), none, some (.long (belM M z)), none, none, none, none, none, none, none] []) : ∀ (n : Nat) (k : Nat), k + n = z → g 0 0 (wM M) 56 [some (.ref 0), some (.int (nI ia)), some (.int (nI ib)), some (.int (nI jd)), some (.int c), some (.int x), some (.long l6), none, some (.long (belM M k)), none, some (.int (nI k)), none, none, none, none, none] [] := by
  intro n
  have hz6 := hM.2.1
  induction n with
  | zero =>
    intro k hv
    have hvN : k = z := by omega
    rw [hvN]
    refine r_iload (pc := 56) C dX6_breaks_56 rfl ?_
    refine r_aload_n (pc := 58) C dX6_breaks_58 rfl rfl ?_
    refine r_getfield (pc := 59) (v := .ref 4) C xf_X6_19 dX6_breaks_59 rfl rfl ?_
    refine r_iconst (pc := 62) (v := 0) C dX6_breaks_62 (by decide) ?_
    refine r_iaload (pc := 63) (v := M 4 0) C 0 dX6_breaks_63 rfl (by decide) (by decide) rfl ?_
    refine r_icmp_ge (pc := 64) (tgt := 100) C dX6_breaks_64 (by decide) (fun _ => ?_) (fun h => absurd (by rw [hM.1]; exact nI_le (by omega) (by omega)) h)
    show g 0 0 (wM M) 100 [some (.ref 0), some (.int (nI ia)), some (.int (nI ib)), some (.int (nI jd)), some (.int c), some (.int x), some (.long l6), none, some (.long (belM M z)), none, some (.int (nI z)), none, none, none, none, none] []
    refine r_drop (lv' := [some (.ref 0), some (.int (nI ia)), some (.int (nI ib)), some (.int (nI jd)), some (.int c), some (.int x), some (.long l6), none, some (.long (belM M z)), none, none, none, none, none, none, none]) C ⟨rfl, rfl, rfl, rfl, rfl, rfl, rfl, rfl, trivial⟩ ?_
    show g 0 0 (wM M) 100 [some (.ref 0), some (.int (nI ia)), some (.int (nI ib)), some (.int (nI jd)), some (.int c), some (.int x), some (.long l6), none, some (.long (belM M z)), none, none, none, none, none, none, none] []
    exact kk
  | succ n ih =>
    intro k hv
    refine r_iload (pc := 56) C dX6_breaks_56 rfl ?_
    refine r_aload_n (pc := 58) C dX6_breaks_58 rfl rfl ?_
    refine r_getfield (pc := 59) (v := .ref 4) C xf_X6_19 dX6_breaks_59 rfl rfl ?_
    refine r_iconst (pc := 62) (v := 0) C dX6_breaks_62 (by decide) ?_
    refine r_iaload (pc := 63) (v := M 4 0) C 0 dX6_breaks_63 rfl (by decide) (by decide) rfl ?_
    refine r_icmp_ge (pc := 64) (tgt := 100) C dX6_breaks_64 (by decide) (fun h => absurd h (by rw [hM.1]; exact nI_ge (by omega) (by omega))) (fun _ => ?_)
    refine r_lload (pc := 67) C dX6_breaks_67 rfl ?_
    refine r_aload_n (pc := 69) C dX6_breaks_69 rfl rfl ?_
    refine r_getfield (pc := 70) (v := .ref 4) C xf_X6_19 dX6_breaks_70 rfl rfl ?_
    refine r_bipush (pc := 73) (v := 34) C dX6_breaks_73 (by decide) ?_
    refine r_iaload (pc := 75) (v := M 4 34) C 34 dX6_breaks_75 rfl (by decide) (by decide) rfl ?_
    refine r_iload (pc := 76) C dX6_breaks_76 rfl ?_
    refine r_callS0 (pc := 78) (As := [.int (M 4 34), .int (nI k)]) (st := [.long (belM M k)]) C (c_X6_has (M 4 34) (nI k)) xm_X6_has xk_X6_143 dX6_breaks_78 (fun _ => rfl) (fun _ => rfl) rfl rfl (Nat.le_of_ble_eq_true rfl) ⟨Nat.le_of_ble_eq_true rfl, Nat.le_of_ble_eq_true rfl⟩ ⟨rfl, rfl⟩ ⟨Nat.le_of_ble_eq_true rfl, Nat.le_of_ble_eq_true rfl⟩ rfl ?_
    show g 0 0 (wM M) 81 [some (.ref 0), some (.int (nI ia)), some (.int (nI ib)), some (.int (nI jd)), some (.int c), some (.int x), some (.long l6), none, some (.long (belM M k)), none, some (.int (nI k)), none, none, none, none, none] [.int (bB (hasS (M 4 34) (nI k))), .long (belM M k)]
    refine r_if_eq (pc := 81) (tgt := 88) C dX6_breaks_81 (by decide) (fun h_81 => ?_) (fun h_81 => ?_)
    · replace h_81 := bB_f h_81
      refine r_ldc2 (pc := 88) (v := 10) C dX6_breaks_88 tw_870 ?_
      refine r_lmul (pc := 91) C dX6_breaks_91 ?_
      refine r_lstore (pc := 92) (lv' := [some (.ref 0), some (.int (nI ia)), some (.int (nI ib)), some (.int (nI jd)), some (.int c), some (.int x), some (.long l6), none, some (.long ((belM M k) * 10)), none, some (.int (nI k)), none, none, none, none, none]) C dX6_breaks_92 (Nat.le_of_ble_eq_true rfl) trivial rfl ?_
      refine r_iinc (pc := 94) (v := nI (k + 1)) (lv' := [some (.ref 0), some (.int (nI ia)), some (.int (nI ib)), some (.int (nI jd)), some (.int c), some (.int x), some (.long l6), none, some (.long ((belM M k) * 10)), none, some (.int (nI (k + 1))), none, none, none, none, none]) C dX6_breaks_94 rfl (nI_1 k) trivial rfl ?_
      refine r_goto (pc := 97) (tgt := 56) C dX6_breaks_97 (by decide) ?_
      show g 0 0 (wM M) 56 [some (.ref 0), some (.int (nI ia)), some (.int (nI ib)), some (.int (nI jd)), some (.int c), some (.int x), some (.long l6), none, some (.long ((belM M k) * 10)), none, some (.int (nI (k + 1))), none, none, none, none, none] []
      rw [show ((belM M k) * 10 : Int64) = belM M (k + 1) from by simp only [belM, h_81, if_true, if_false, Bool.false_eq_true]]
      exact ih (k + 1) (by omega)
    · replace h_81 := bB_t h_81
      refine r_lconst (pc := 84) (v := 1) C dX6_breaks_84 (by decide) ?_
      refine r_goto (pc := 85) (tgt := 91) C dX6_breaks_85 (by decide) ?_
      refine r_lmul (pc := 91) C dX6_breaks_91 ?_
      refine r_lstore (pc := 92) (lv' := [some (.ref 0), some (.int (nI ia)), some (.int (nI ib)), some (.int (nI jd)), some (.int c), some (.int x), some (.long l6), none, some (.long ((belM M k) * 1)), none, some (.int (nI k)), none, none, none, none, none]) C dX6_breaks_92 (Nat.le_of_ble_eq_true rfl) trivial rfl ?_
      refine r_iinc (pc := 94) (v := nI (k + 1)) (lv' := [some (.ref 0), some (.int (nI ia)), some (.int (nI ib)), some (.int (nI jd)), some (.int c), some (.int x), some (.long l6), none, some (.long ((belM M k) * 1)), none, some (.int (nI (k + 1))), none, none, none, none, none]) C dX6_breaks_94 rfl (nI_1 k) trivial rfl ?_
      refine r_goto (pc := 97) (tgt := 56) C dX6_breaks_97 (by decide) ?_
      show g 0 0 (wM M) 56 [some (.ref 0), some (.int (nI ia)), some (.int (nI ib)), some (.int (nI jd)), some (.int c), some (.int x), some (.long l6), none, some (.long ((belM M k) * 1)), none, some (.int (nI (k + 1))), none, none, none, none, none] []
      rw [show ((belM M k) * 1 : Int64) = belM M (k + 1) from by simp only [belM, h_81, if_true, if_false, Bool.false_eq_true]]
      exact ih (k + 1) (by omega)
set_option maxHeartbeats 4000000 in
set_option maxRecDepth 100000 in
theorem lpw_X6_breaks (M : Nat → Nat → Int32) (z : Nat) (hM : okM M z) (ia ib jd : Nat) (hia : ia < z) (hib : ib < z) (hjd : jd ≤ 60) (c x : Int32) (l6 l8 : Int64) (q : Nat) (A : Nat → Int32) {g : Nat → Nat → List xE → Nat → List (Option Value) → List Value → Prop} (C : Sem cX6_breaks RX6 "breaks" 16 rmX6_breaks g) (kk : g 0 0 (wM (up2 M 6 A)) 214 [some (.ref 0), some (.int (nI ia)), some (.int (nI ib)), some (.int (nI jd)), some (.int c), some (.int x), some (.long l6), none, some (.long l8), none, some (.int (nI q)), some (.long (wyM M (nI q) c z)), none, none, none, none] []) : ∀ (n : Nat) (k : Nat), k + n = z → g 0 0 (wM (up2 M 6 A)) 151 [some (.ref 0), some (.int (nI ia)), some (.int (nI ib)), some (.int (nI jd)), some (.int c), some (.int x), some (.long l6), none, some (.long l8), none, some (.int (nI q)), some (.long (wyM M (nI q) c k)), none, some (.int (nI k)), none, none] [] := by
  intro n
  have hz6 := hM.2.1
  induction n with
  | zero =>
    intro k hv
    have hvN : k = z := by omega
    rw [hvN]
    refine r_iload (pc := 151) C dX6_breaks_151 rfl ?_
    refine r_aload_n (pc := 153) C dX6_breaks_153 rfl rfl ?_
    refine r_getfield (pc := 154) (v := .ref 4) C xf_X6_19 dX6_breaks_154 rfl rfl ?_
    refine r_iconst (pc := 157) (v := 0) C dX6_breaks_157 (by decide) ?_
    refine r_iaload (pc := 158) (v := M 4 0) C 0 dX6_breaks_158 rfl (by decide) (by decide) rfl ?_
    refine r_icmp_ge (pc := 159) (tgt := 214) C dX6_breaks_159 (by decide) (fun _ => ?_) (fun h => absurd (by rw [hM.1]; exact nI_le (by omega) (by omega)) h)
    show g 0 0 (wM (up2 M 6 A)) 214 [some (.ref 0), some (.int (nI ia)), some (.int (nI ib)), some (.int (nI jd)), some (.int c), some (.int x), some (.long l6), none, some (.long l8), none, some (.int (nI q)), some (.long (wyM M (nI q) c z)), none, some (.int (nI z)), none, none] []
    refine r_drop (lv' := [some (.ref 0), some (.int (nI ia)), some (.int (nI ib)), some (.int (nI jd)), some (.int c), some (.int x), some (.long l6), none, some (.long l8), none, some (.int (nI q)), some (.long (wyM M (nI q) c z)), none, none, none, none]) C ⟨rfl, rfl, rfl, rfl, rfl, rfl, rfl, rfl, rfl, rfl, trivial⟩ ?_
    show g 0 0 (wM (up2 M 6 A)) 214 [some (.ref 0), some (.int (nI ia)), some (.int (nI ib)), some (.int (nI jd)), some (.int c), some (.int x), some (.long l6), none, some (.long l8), none, some (.int (nI q)), some (.long (wyM M (nI q) c z)), none, none, none, none] []
    exact kk
  | succ n ih =>
    intro k hv
    refine r_iload (pc := 151) C dX6_breaks_151 rfl ?_
    refine r_aload_n (pc := 153) C dX6_breaks_153 rfl rfl ?_
    refine r_getfield (pc := 154) (v := .ref 4) C xf_X6_19 dX6_breaks_154 rfl rfl ?_
    refine r_iconst (pc := 157) (v := 0) C dX6_breaks_157 (by decide) ?_
    refine r_iaload (pc := 158) (v := M 4 0) C 0 dX6_breaks_158 rfl (by decide) (by decide) rfl ?_
    refine r_icmp_ge (pc := 159) (tgt := 214) C dX6_breaks_159 (by decide) (fun h => absurd h (by rw [hM.1]; exact nI_ge (by omega) (by omega))) (fun _ => ?_)
    refine r_lload (pc := 162) C dX6_breaks_162 rfl ?_
    refine r_aload_n (pc := 164) C dX6_breaks_164 rfl rfl ?_
    refine r_getfield (pc := 165) (v := .ref 4) C xf_X6_19 dX6_breaks_165 rfl rfl ?_
    refine r_bipush (pc := 168) (v := 34) C dX6_breaks_168 (by decide) ?_
    refine r_iaload (pc := 170) (v := M 4 34) C 34 dX6_breaks_170 rfl (by decide) (by decide) rfl ?_
    refine r_iload (pc := 171) C dX6_breaks_171 rfl ?_
    refine r_callS0 (pc := 173) (As := [.int (M 4 34), .int (nI k)]) (st := [.long (wyM M (nI q) c k)]) C (c_X6_has (M 4 34) (nI k)) xm_X6_has xk_X6_143 dX6_breaks_173 (fun _ => rfl) (fun _ => rfl) rfl rfl (Nat.le_of_ble_eq_true rfl) ⟨Nat.le_of_ble_eq_true rfl, Nat.le_of_ble_eq_true rfl⟩ ⟨rfl, rfl⟩ ⟨Nat.le_of_ble_eq_true rfl, Nat.le_of_ble_eq_true rfl⟩ rfl ?_
    show g 0 0 (wM (up2 M 6 A)) 176 [some (.ref 0), some (.int (nI ia)), some (.int (nI ib)), some (.int (nI jd)), some (.int c), some (.int x), some (.long l6), none, some (.long l8), none, some (.int (nI q)), some (.long (wyM M (nI q) c k)), none, some (.int (nI k)), none, none] [.int (bB (hasS (M 4 34) (nI k))), .long (wyM M (nI q) c k)]
    refine r_if_eq (pc := 176) (tgt := 183) C dX6_breaks_176 (by decide) (fun h_176 => ?_) (fun h_176 => ?_)
    · replace h_176 := bB_f h_176
      refine r_iload (pc := 183) C dX6_breaks_183 rfl ?_
      refine r_iload (pc := 185) C dX6_breaks_185 rfl ?_
      refine r_callS0 (pc := 187) (As := [.int (nI q), .int (nI k)]) (st := [.long (wyM M (nI q) c k)]) C (c_X6_has (nI q) (nI k)) xm_X6_has xk_X6_143 dX6_breaks_187 (fun _ => rfl) (fun _ => rfl) rfl rfl (Nat.le_of_ble_eq_true rfl) ⟨Nat.le_of_ble_eq_true rfl, Nat.le_of_ble_eq_true rfl⟩ ⟨rfl, rfl⟩ ⟨Nat.le_of_ble_eq_true rfl, Nat.le_of_ble_eq_true rfl⟩ rfl ?_
      show g 0 0 (wM (up2 M 6 A)) 190 [some (.ref 0), some (.int (nI ia)), some (.int (nI ib)), some (.int (nI jd)), some (.int c), some (.int x), some (.long l6), none, some (.long l8), none, some (.int (nI q)), some (.long (wyM M (nI q) c k)), none, some (.int (nI k)), none, none] [.int (bB (hasS (nI q) (nI k))), .long (wyM M (nI q) c k)]
      refine r_if_eq (pc := 190) (tgt := 199) C dX6_breaks_190 (by decide) (fun h_190 => ?_) (fun h_190 => ?_)
      · replace h_190 := bB_f h_190
        refine r_bipush (pc := 199) (v := 10) C dX6_breaks_199 (by decide) ?_
        refine r_iload (pc := 201) C dX6_breaks_201 rfl ?_
        refine r_isub (pc := 203) C dX6_breaks_203 ?_
        refine r_i2l (pc := 204) (v := (10 - c).toInt64) C dX6_breaks_204 rfl ?_
        refine r_lmul (pc := 205) C dX6_breaks_205 ?_
        refine r_lstore (pc := 206) (lv' := [some (.ref 0), some (.int (nI ia)), some (.int (nI ib)), some (.int (nI jd)), some (.int c), some (.int x), some (.long l6), none, some (.long l8), none, some (.int (nI q)), some (.long ((wyM M (nI q) c k) * ((10 - c).toInt64))), none, some (.int (nI k)), none, none]) C dX6_breaks_206 (Nat.le_of_ble_eq_true rfl) trivial rfl ?_
        refine r_iinc (pc := 208) (v := nI (k + 1)) (lv' := [some (.ref 0), some (.int (nI ia)), some (.int (nI ib)), some (.int (nI jd)), some (.int c), some (.int x), some (.long l6), none, some (.long l8), none, some (.int (nI q)), some (.long ((wyM M (nI q) c k) * ((10 - c).toInt64))), none, some (.int (nI (k + 1))), none, none]) C dX6_breaks_208 rfl (nI_1 k) trivial rfl ?_
        refine r_goto (pc := 211) (tgt := 151) C dX6_breaks_211 (by decide) ?_
        show g 0 0 (wM (up2 M 6 A)) 151 [some (.ref 0), some (.int (nI ia)), some (.int (nI ib)), some (.int (nI jd)), some (.int c), some (.int x), some (.long l6), none, some (.long l8), none, some (.int (nI q)), some (.long ((wyM M (nI q) c k) * ((10 - c).toInt64))), none, some (.int (nI (k + 1))), none, none] []
        rw [show ((wyM M (nI q) c k) * ((10 - c).toInt64) : Int64) = wyM M (nI q) c (k + 1) from by simp only [wyM, h_176, h_190, if_true, if_false, Bool.false_eq_true]]
        exact ih (k + 1) (by omega)
      · replace h_190 := bB_t h_190
        refine r_iload (pc := 193) C dX6_breaks_193 rfl ?_
        refine r_i2l (pc := 195) (v := c.toInt64) C dX6_breaks_195 rfl ?_
        refine r_goto (pc := 196) (tgt := 205) C dX6_breaks_196 (by decide) ?_
        refine r_lmul (pc := 205) C dX6_breaks_205 ?_
        refine r_lstore (pc := 206) (lv' := [some (.ref 0), some (.int (nI ia)), some (.int (nI ib)), some (.int (nI jd)), some (.int c), some (.int x), some (.long l6), none, some (.long l8), none, some (.int (nI q)), some (.long ((wyM M (nI q) c k) * c.toInt64)), none, some (.int (nI k)), none, none]) C dX6_breaks_206 (Nat.le_of_ble_eq_true rfl) trivial rfl ?_
        refine r_iinc (pc := 208) (v := nI (k + 1)) (lv' := [some (.ref 0), some (.int (nI ia)), some (.int (nI ib)), some (.int (nI jd)), some (.int c), some (.int x), some (.long l6), none, some (.long l8), none, some (.int (nI q)), some (.long ((wyM M (nI q) c k) * c.toInt64)), none, some (.int (nI (k + 1))), none, none]) C dX6_breaks_208 rfl (nI_1 k) trivial rfl ?_
        refine r_goto (pc := 211) (tgt := 151) C dX6_breaks_211 (by decide) ?_
        show g 0 0 (wM (up2 M 6 A)) 151 [some (.ref 0), some (.int (nI ia)), some (.int (nI ib)), some (.int (nI jd)), some (.int c), some (.int x), some (.long l6), none, some (.long l8), none, some (.int (nI q)), some (.long ((wyM M (nI q) c k) * c.toInt64)), none, some (.int (nI (k + 1))), none, none] []
        rw [show ((wyM M (nI q) c k) * c.toInt64 : Int64) = wyM M (nI q) c (k + 1) from by simp only [wyM, h_176, h_190, if_true, if_false, Bool.false_eq_true]]
        exact ih (k + 1) (by omega)
    · replace h_176 := bB_t h_176
      refine r_lconst (pc := 179) (v := 1) C dX6_breaks_179 (by decide) ?_
      refine r_goto (pc := 180) (tgt := 205) C dX6_breaks_180 (by decide) ?_
      refine r_lmul (pc := 205) C dX6_breaks_205 ?_
      refine r_lstore (pc := 206) (lv' := [some (.ref 0), some (.int (nI ia)), some (.int (nI ib)), some (.int (nI jd)), some (.int c), some (.int x), some (.long l6), none, some (.long l8), none, some (.int (nI q)), some (.long ((wyM M (nI q) c k) * 1)), none, some (.int (nI k)), none, none]) C dX6_breaks_206 (Nat.le_of_ble_eq_true rfl) trivial rfl ?_
      refine r_iinc (pc := 208) (v := nI (k + 1)) (lv' := [some (.ref 0), some (.int (nI ia)), some (.int (nI ib)), some (.int (nI jd)), some (.int c), some (.int x), some (.long l6), none, some (.long l8), none, some (.int (nI q)), some (.long ((wyM M (nI q) c k) * 1)), none, some (.int (nI (k + 1))), none, none]) C dX6_breaks_208 rfl (nI_1 k) trivial rfl ?_
      refine r_goto (pc := 211) (tgt := 151) C dX6_breaks_211 (by decide) ?_
      show g 0 0 (wM (up2 M 6 A)) 151 [some (.ref 0), some (.int (nI ia)), some (.int (nI ib)), some (.int (nI jd)), some (.int c), some (.int x), some (.long l6), none, some (.long l8), none, some (.int (nI q)), some (.long ((wyM M (nI q) c k) * 1)), none, some (.int (nI (k + 1))), none, none] []
      rw [show ((wyM M (nI q) c k) * 1 : Int64) = wyM M (nI q) c (k + 1) from by simp only [wyM, h_176, if_true, if_false, Bool.false_eq_true]]
      exact ih (k + 1) (by omega)
set_option maxHeartbeats 4000000 in
set_option maxRecDepth 100000 in
theorem lpb_X6_breaks (M : Nat → Nat → Int32) (z : Nat) (hM : okM M z) (ia ib jd : Nat) (hia : ia < z) (hib : ib < z) (hjd : jd ≤ 60) (c x : Int32) (l8 : Int64) {g : Nat → Nat → List xE → Nat → List (Option Value) → List Value → Prop} (C : Sem cX6_breaks RX6 "breaks" 16 rmX6_breaks g) (kk : g 0 0 (wM (up2 M 6 (bAT M (2 ^ z)))) 244 [some (.ref 0), some (.int (nI ia)), some (.int (nI ib)), some (.int (nI jd)), some (.int c), some (.int x), some (.long (brM M z ia ib jd c (2 ^ z))), none, some (.long l8), none, none, none, none, none, none, none] []) : ∀ (n : Nat) (q : Nat), q + n = (2 ^ z) → g 0 0 (wM (up2 M 6 (bAT M q))) 103 [some (.ref 0), some (.int (nI ia)), some (.int (nI ib)), some (.int (nI jd)), some (.int c), some (.int x), some (.long (brM M z ia ib jd c q)), none, some (.long l8), none, some (.int (nI q)), none, none, none, none, none] [] := by
  intro n
  have hz6 := hM.2.1
  have hp64 := p2_64 hz6
  induction n with
  | zero =>
    intro q hv
    have hvN : q = (2 ^ z) := by omega
    rw [hvN]
    refine r_iload (pc := 103) C dX6_breaks_103 rfl ?_
    refine r_iconst (pc := 105) (v := 1) C dX6_breaks_105 (by decide) ?_
    refine r_aload_n (pc := 106) C dX6_breaks_106 rfl rfl ?_
    refine r_getfield (pc := 107) (v := .ref 4) C xf_X6_19 dX6_breaks_107 rfl rfl ?_
    refine r_iconst (pc := 110) (v := 0) C dX6_breaks_110 (by decide) ?_
    refine r_iaload (pc := 111) (v := M 4 0) C 0 dX6_breaks_111 rfl (by decide) (by decide) rfl ?_
    refine r_ishl (pc := 112) C dX6_breaks_112 ?_
    refine r_icmp_ge (pc := 113) (tgt := 244) C dX6_breaks_113 (by decide) (fun _ => ?_) (fun h => absurd (by rw [hM.1, sh_pow hz6]; exact nI_le (by omega) (by omega)) h)
    show g 0 0 (wM (up2 M 6 (bAT M (2 ^ z)))) 244 [some (.ref 0), some (.int (nI ia)), some (.int (nI ib)), some (.int (nI jd)), some (.int c), some (.int x), some (.long (brM M z ia ib jd c (2 ^ z))), none, some (.long l8), none, some (.int (nI (2 ^ z))), none, none, none, none, none] []
    refine r_drop (lv' := [some (.ref 0), some (.int (nI ia)), some (.int (nI ib)), some (.int (nI jd)), some (.int c), some (.int x), some (.long (brM M z ia ib jd c (2 ^ z))), none, some (.long l8), none, none, none, none, none, none, none]) C ⟨rfl, rfl, rfl, rfl, rfl, rfl, rfl, rfl, trivial⟩ ?_
    show g 0 0 (wM (up2 M 6 (bAT M (2 ^ z)))) 244 [some (.ref 0), some (.int (nI ia)), some (.int (nI ib)), some (.int (nI jd)), some (.int c), some (.int x), some (.long (brM M z ia ib jd c (2 ^ z))), none, some (.long l8), none, none, none, none, none, none, none] []
    exact kk
  | succ n ih =>
    intro q hv
    refine r_iload (pc := 103) C dX6_breaks_103 rfl ?_
    refine r_iconst (pc := 105) (v := 1) C dX6_breaks_105 (by decide) ?_
    refine r_aload_n (pc := 106) C dX6_breaks_106 rfl rfl ?_
    refine r_getfield (pc := 107) (v := .ref 4) C xf_X6_19 dX6_breaks_107 rfl rfl ?_
    refine r_iconst (pc := 110) (v := 0) C dX6_breaks_110 (by decide) ?_
    refine r_iaload (pc := 111) (v := M 4 0) C 0 dX6_breaks_111 rfl (by decide) (by decide) rfl ?_
    refine r_ishl (pc := 112) C dX6_breaks_112 ?_
    refine r_icmp_ge (pc := 113) (tgt := 244) C dX6_breaks_113 (by decide) (fun h => absurd h (by rw [hM.1, sh_pow hz6]; exact nI_ge (by omega) (by omega))) (fun _ => ?_)
    refine r_iload (pc := 116) C dX6_breaks_116 rfl ?_
    refine r_aload_n (pc := 118) C dX6_breaks_118 rfl rfl ?_
    refine r_getfield (pc := 119) (v := .ref 4) C xf_X6_19 dX6_breaks_119 rfl rfl ?_
    refine r_bipush (pc := 122) (v := 34) C dX6_breaks_122 (by decide) ?_
    refine r_iaload (pc := 124) (v := M 4 34) C 34 dX6_breaks_124 rfl (by decide) (by decide) rfl ?_
    refine r_iand (pc := 125) C dX6_breaks_125 ?_
    refine r_if_ne (pc := 126) (tgt := 238) C dX6_breaks_126 (by decide) (fun h_126 => ?_) (fun h_126 => ?_)
    · skip
      refine r_iinc (pc := 238) (v := nI (q + 1)) (lv' := [some (.ref 0), some (.int (nI ia)), some (.int (nI ib)), some (.int (nI jd)), some (.int c), some (.int x), some (.long (brM M z ia ib jd c q)), none, some (.long l8), none, some (.int (nI (q + 1))), none, none, none, none, none]) C dX6_breaks_238 rfl (nI_1 q) trivial rfl ?_
      refine r_goto (pc := 241) (tgt := 103) C dX6_breaks_241 (by decide) ?_
      show g 0 0 (wM (up2 M 6 (bAT M q))) 103 [some (.ref 0), some (.int (nI ia)), some (.int (nI ib)), some (.int (nI jd)), some (.int c), some (.int x), some (.long (brM M z ia ib jd c q)), none, some (.long l8), none, some (.int (nI (q + 1))), none, none, none, none, none] []
      rw [show brM M z ia ib jd c q = brM M z ia ib jd c (q + 1) from by rw [brM, if_neg h_126], ← bA_n h_126]
      exact ih (q + 1) (by omega)
    · skip
      refine r_aload_n (pc := 129) C dX6_breaks_129 rfl rfl ?_
      refine r_callV0 (pc := 130) (As := []) (st := []) (θ' := wM (up2 M 6 (va_cpy (M 4) (bAT M q) 0 0 36))) C (c_X6_layAside (up2 M 6 (bAT M q))) xm_X6_layAside xk_X6_204 dX6_breaks_130 rfl rfl rfl rfl (Nat.le_of_ble_eq_true rfl) ⟨Nat.le_of_ble_eq_true rfl, Nat.le_of_ble_eq_true rfl⟩ ⟨rfl, rfl⟩ ⟨Nat.le_of_ble_eq_true rfl, Nat.le_of_ble_eq_true rfl⟩ rfl (Eq.trans (b := 14) rfl rfl) ?_
      show g 0 0 (wM (up2 M 6 (va_cpy (M 4) (bAT M q) 0 0 36))) 133 [some (.ref 0), some (.int (nI ia)), some (.int (nI ib)), some (.int (nI jd)), some (.int c), some (.int x), some (.long (brM M z ia ib jd c q)), none, some (.long l8), none, some (.int (nI q)), none, none, none, none, none] []
      refine r_aload_n (pc := 133) C dX6_breaks_133 rfl rfl ?_
      refine r_getfield (pc := 134) (v := .ref 6) C xf_X6_25 dX6_breaks_134 rfl rfl ?_
      refine r_bipush (pc := 137) (v := 34) C dX6_breaks_137 (by decide) ?_
      refine r_dup2_11 (pc := 139) C dX6_breaks_139 rfl rfl ?_
      refine r_iaload (pc := 140) (v := M 4 34) C 34 dX6_breaks_140 rfl (by decide) (by decide) (show va_cpy (M 4) (bAT M q) 0 0 36 34 = M 4 34 from cpy36 (by decide)) ?_
      refine r_iload (pc := 141) C dX6_breaks_141 rfl ?_
      refine r_ior (pc := 143) C dX6_breaks_143 ?_
      refine r_iastore (pc := 144) (θ' := wM (up2 M 6 (bAT M (q + 1)))) C 34 dX6_breaks_144 rfl (by decide) (by decide) (by rw [← bA_s h_126]; rfl) ?_
      refine r_lconst (pc := 145) (v := 1) C dX6_breaks_145 (by decide) ?_
      refine r_lstore (pc := 146) (lv' := [some (.ref 0), some (.int (nI ia)), some (.int (nI ib)), some (.int (nI jd)), some (.int c), some (.int x), some (.long (brM M z ia ib jd c q)), none, some (.long l8), none, some (.int (nI q)), some (.long 1), none, none, none, none]) C dX6_breaks_146 (Nat.le_of_ble_eq_true rfl) trivial rfl ?_
      refine r_iconst (pc := 148) (v := 0) C dX6_breaks_148 (by decide) ?_
      refine r_istore (pc := 149) (lv' := [some (.ref 0), some (.int (nI ia)), some (.int (nI ib)), some (.int (nI jd)), some (.int c), some (.int x), some (.long (brM M z ia ib jd c q)), none, some (.long l8), none, some (.int (nI q)), some (.long 1), none, some (.int 0), none, none]) C dX6_breaks_149 (Nat.le_of_ble_eq_true rfl) trivial rfl ?_
      show g 0 0 (wM (up2 M 6 (bAT M (q + 1)))) 151 [some (.ref 0), some (.int (nI ia)), some (.int (nI ib)), some (.int (nI jd)), some (.int c), some (.int x), some (.long (brM M z ia ib jd c q)), none, some (.long l8), none, some (.int (nI q)), some (.long 1), none, some (.int 0), none, none] []
      refine lpw_X6_breaks M z hM ia ib jd hia hib hjd c x (brM M z ia ib jd c q) (l8) q (bAT M (q + 1)) C ?_ z 0 (by omega)
      show g 0 0 (wM (up2 M 6 (bAT M (q + 1)))) 214 [some (.ref 0), some (.int (nI ia)), some (.int (nI ib)), some (.int (nI jd)), some (.int c), some (.int x), some (.long (brM M z ia ib jd c q)), none, some (.long l8), none, some (.int (nI q)), some (.long (wyM M (nI q) c z)), none, none, none, none] []
      refine r_lload (pc := 214) C dX6_breaks_214 rfl ?_
      refine r_aload_n (pc := 216) C dX6_breaks_216 rfl rfl ?_
      refine r_getfield (pc := 217) (v := .ref 6) C xf_X6_25 dX6_breaks_217 rfl rfl ?_
      refine r_iload_n (pc := 220) C dX6_breaks_220 rfl rfl ?_
      refine r_iload_n (pc := 221) C dX6_breaks_221 rfl rfl ?_
      refine r_callSD (pc := 222) (As := [.ref 6, .int (nI ia), .int (nI ib)]) (st := [.long (brM M z ia ib jd c q)]) (θ2 := wM (up2 M 6 (bAT M (q + 1)))) (r2 := some (.int (soonT (vw (bAT M (q + 1))) z (nI ia) (nI ib)))) C [6] (c_X6_soonestT (bAT M (q + 1)) (nI ib) (nI ia) (okT hM (t := bAT M (q + 1)) (fun k hk => bA_k h_126 (by omega) (by omega))).2.1 z (okT hM (t := bAT M (q + 1)) (fun k hk => bA_k h_126 (by omega) (by omega))).1 hM.2.1 (okT hM (t := bAT M (q + 1)) (fun k hk => bA_k h_126 (by omega) (by omega))).2.2) xm_X6_soonestOf xk_X6_195 dX6_breaks_222 rfl (by decide) rfl rfl rfl (Nat.le_of_ble_eq_true rfl) ⟨Nat.le_of_ble_eq_true rfl, Nat.le_of_ble_eq_true rfl⟩ ⟨rfl, rfl⟩ ⟨Nat.le_of_ble_eq_true rfl, Nat.le_of_ble_eq_true rfl⟩ rfl (Eq.trans (b := 1) rfl rfl) rfl rfl ?_
      show g 0 0 (wM (up2 M 6 (bAT M (q + 1)))) 225 [some (.ref 0), some (.int (nI ia)), some (.int (nI ib)), some (.int (nI jd)), some (.int c), some (.int x), some (.long (brM M z ia ib jd c q)), none, some (.long l8), none, some (.int (nI q)), some (.long (wyM M (nI q) c z)), none, none, none, none] [.int (soonT (vw (bAT M (q + 1))) z (nI ia) (nI ib)), .long (brM M z ia ib jd c q)]
      refine r_iload_n (pc := 225) C dX6_breaks_225 rfl rfl ?_
      refine r_icmp_gt (pc := 226) (tgt := 234) C dX6_breaks_226 (by decide) (fun h_226 => ?_) (fun h_226 => ?_)
      · skip
        refine r_lconst (pc := 234) (v := 0) C dX6_breaks_234 (by decide) ?_
        refine r_ladd (pc := 235) C dX6_breaks_235 ?_
        refine r_lstore (pc := 236) (lv' := [some (.ref 0), some (.int (nI ia)), some (.int (nI ib)), some (.int (nI jd)), some (.int c), some (.int x), some (.long ((brM M z ia ib jd c q) + 0)), none, some (.long l8), none, some (.int (nI q)), some (.long (wyM M (nI q) c z)), none, none, none, none]) C dX6_breaks_236 (Nat.le_of_ble_eq_true rfl) trivial rfl ?_
        refine r_iinc (pc := 238) (v := nI (q + 1)) (lv' := [some (.ref 0), some (.int (nI ia)), some (.int (nI ib)), some (.int (nI jd)), some (.int c), some (.int x), some (.long ((brM M z ia ib jd c q) + 0)), none, some (.long l8), none, some (.int (nI (q + 1))), some (.long (wyM M (nI q) c z)), none, none, none, none]) C dX6_breaks_238 rfl (nI_1 q) trivial rfl ?_
        refine r_goto (pc := 241) (tgt := 103) C dX6_breaks_241 (by decide) ?_
        show g 0 0 (wM (up2 M 6 (bAT M (q + 1)))) 103 [some (.ref 0), some (.int (nI ia)), some (.int (nI ib)), some (.int (nI jd)), some (.int c), some (.int x), some (.long ((brM M z ia ib jd c q) + 0)), none, some (.long l8), none, some (.int (nI (q + 1))), some (.long (wyM M (nI q) c z)), none, none, none, none] []
        rw [show ((brM M z ia ib jd c q) + 0 : Int64) = brM M z ia ib jd c (q + 1) from by rw [brM, if_pos h_126, if_pos h_226]]
        show g 0 0 (wM (up2 M 6 (bAT M (q + 1)))) 103 [some (.ref 0), some (.int (nI ia)), some (.int (nI ib)), some (.int (nI jd)), some (.int c), some (.int x), some (.long (brM M z ia ib jd c (q + 1))), none, some (.long l8), none, some (.int (nI (q + 1))), some (.long (wyM M (nI q) c z)), none, none, none, none] []
        refine r_drop (lv' := [some (.ref 0), some (.int (nI ia)), some (.int (nI ib)), some (.int (nI jd)), some (.int c), some (.int x), some (.long (brM M z ia ib jd c (q + 1))), none, some (.long l8), none, some (.int (nI (q + 1))), none, none, none, none, none]) C ⟨rfl, rfl, rfl, rfl, rfl, rfl, rfl, rfl, rfl, trivial⟩ ?_
        exact ih (q + 1) (by omega)
      · skip
        refine r_lload (pc := 229) C dX6_breaks_229 rfl ?_
        refine r_goto (pc := 231) (tgt := 235) C dX6_breaks_231 (by decide) ?_
        refine r_ladd (pc := 235) C dX6_breaks_235 ?_
        refine r_lstore (pc := 236) (lv' := [some (.ref 0), some (.int (nI ia)), some (.int (nI ib)), some (.int (nI jd)), some (.int c), some (.int x), some (.long ((brM M z ia ib jd c q) + (wyM M (nI q) c z))), none, some (.long l8), none, some (.int (nI q)), some (.long (wyM M (nI q) c z)), none, none, none, none]) C dX6_breaks_236 (Nat.le_of_ble_eq_true rfl) trivial rfl ?_
        refine r_iinc (pc := 238) (v := nI (q + 1)) (lv' := [some (.ref 0), some (.int (nI ia)), some (.int (nI ib)), some (.int (nI jd)), some (.int c), some (.int x), some (.long ((brM M z ia ib jd c q) + (wyM M (nI q) c z))), none, some (.long l8), none, some (.int (nI (q + 1))), some (.long (wyM M (nI q) c z)), none, none, none, none]) C dX6_breaks_238 rfl (nI_1 q) trivial rfl ?_
        refine r_goto (pc := 241) (tgt := 103) C dX6_breaks_241 (by decide) ?_
        show g 0 0 (wM (up2 M 6 (bAT M (q + 1)))) 103 [some (.ref 0), some (.int (nI ia)), some (.int (nI ib)), some (.int (nI jd)), some (.int c), some (.int x), some (.long ((brM M z ia ib jd c q) + (wyM M (nI q) c z))), none, some (.long l8), none, some (.int (nI (q + 1))), some (.long (wyM M (nI q) c z)), none, none, none, none] []
        rw [show ((brM M z ia ib jd c q) + (wyM M (nI q) c z) : Int64) = brM M z ia ib jd c (q + 1) from by rw [brM, if_pos h_126, if_neg h_226]]
        show g 0 0 (wM (up2 M 6 (bAT M (q + 1)))) 103 [some (.ref 0), some (.int (nI ia)), some (.int (nI ib)), some (.int (nI jd)), some (.int c), some (.int x), some (.long (brM M z ia ib jd c (q + 1))), none, some (.long l8), none, some (.int (nI (q + 1))), some (.long (wyM M (nI q) c z)), none, none, none, none] []
        refine r_drop (lv' := [some (.ref 0), some (.int (nI ia)), some (.int (nI ib)), some (.int (nI jd)), some (.int c), some (.int x), some (.long (brM M z ia ib jd c (q + 1))), none, some (.long l8), none, some (.int (nI (q + 1))), none, none, none, none, none]) C ⟨rfl, rfl, rfl, rfl, rfl, rfl, rfl, rfl, rfl, trivial⟩ ?_
        exact ih (q + 1) (by omega)
theorem rmL_lt {u v : Int64} (hu : 0 ≤ u.toInt) (hv : 0 < v.toInt) : 0 ≤ (rmL u v).toInt ∧ (rmL u v).toInt < v.toInt ∧ (rmL u v).toInt = u.toInt % v.toInt := by
  have e : rmL u v = u % v := by
    unfold rmL
    apply Int64.toInt_inj.mp
    rw [Int64.toInt_sub, Int64.toInt_mul, Int64.toInt_mod, Int64.toInt_div_of_ne_right _ _ (by rintro rfl; exact absurd hv (by decide))]
    have h1 : u.toInt.tdiv v.toInt = u.toInt / v.toInt := Int.tdiv_eq_ediv_of_nonneg hu
    have h2 : u.toInt.tmod v.toInt = u.toInt % v.toInt := Int.tmod_eq_emod_of_nonneg hu
    rw [h1, h2]
    have h3 : u.toInt / v.toInt * v.toInt = u.toInt - u.toInt % v.toInt := by
      have := Int.ediv_mul_add_emod u.toInt v.toInt
      omega
    have h4 := Int.emod_nonneg u.toInt (b := v.toInt) (by omega)
    have h5 := Int.emod_lt_of_pos u.toInt hv
    have h6 := Int64.toInt_lt u
    have h7 : u.toInt % v.toInt ≤ u.toInt := by
      have q1 := Int.mul_nonneg (Int.ediv_nonneg hu (Int.le_of_lt hv)) (Int.le_of_lt hv)
      have q2 := Int.ediv_mul_add_emod u.toInt v.toInt
      omega
    rw [h3, Int.bmod_eq_of_le (n := u.toInt - u.toInt % v.toInt) (by omega) (by omega), Int.bmod_eq_of_le (by omega) (by omega)]
    omega
  rw [e, Int64.toInt_mod, Int.tmod_eq_emod_of_nonneg hu]
  exact ⟨Int.emod_nonneg _ (by omega), Int.emod_lt_of_pos _ hv, rfl⟩
theorem gcM_ne : ∀ (n : Nat) (u v : Int64), 0 ≤ u.toInt → 0 ≤ v.toInt → (u ≠ 0 ∨ v ≠ 0) → v.toInt < n → gcM n u v ≠ 0
  | 0, u, v, _, hv, _, hn => by omega
  | n + 1, u, v, hu, hv, h0, hn => by
    unfold gcM
    by_cases e : v = 0
    · rw [if_pos e]
      exact h0.resolve_right (fun z => z e)
    · rw [if_neg e]
      have hv2 : 0 < v.toInt := by
        rcases Int.lt_or_eq_of_le hv with h | h
        · exact h
        · exact absurd (Int64.toInt_inj.mp (h.symm.trans (by rfl : (0 : Int) = (0 : Int64).toInt))) e
      obtain ⟨r1, r2, r3⟩ := rmL_lt hu hv2
      exact gcM_ne n v (rmL u v) hv r1 (Or.inl e) (by omega)
set_option maxHeartbeats 4000000 in
set_option maxRecDepth 100000 in
theorem lpg_X6_breaks (M : Nat → Nat → Int32) (z : Nat) (hM : okM M z) (ia ib jd : Nat) (hia : ia < z) (hib : ib < z) (hjd : jd ≤ 60) (c x : Int32) (l6 l8 R : Int64) (A : Nat → Int32) {g : Nat → Nat → List xE → Nat → List (Option Value) → List Value → Prop} (C : Sem cX6_breaks RX6 "breaks" 16 rmX6_breaks g) (kk : g 0 0 (wM (up2 M 6 A)) 277 [some (.ref 0), some (.int (nI ia)), some (.int (nI ib)), some (.int (nI jd)), some (.int c), some (.int x), some (.long l6), none, some (.long l8), none, some (.long R), none, none, none, none, none] []) : ∀ (n : Nat) (u v : Int64), 0 ≤ u.toInt → 0 ≤ v.toInt → v.toInt < n → gcM n u v = R → g 0 0 (wM (up2 M 6 A)) 252 [some (.ref 0), some (.int (nI ia)), some (.int (nI ib)), some (.int (nI jd)), some (.int c), some (.int x), some (.long l6), none, some (.long l8), none, some (.long u), none, some (.long v), none, none, none] [] := by
  intro n
  induction n with
  | zero => intro u v hu hv hn _; omega
  | succ n ih =>
    intro u v hu hv hn hE
    refine r_lload (pc := 252) C dX6_breaks_252 rfl ?_
    refine r_lconst (pc := 254) (v := 0) C dX6_breaks_254 (by decide) ?_
    refine r_lcmp (pc := 255) C dX6_breaks_255 ?_
    refine r_if_eq (pc := 256) (tgt := 277) C dX6_breaks_256 (by decide) (fun h_256 => ?_) (fun h_256 => ?_)
    · skip
      have hv0 : v = 0 := (lg_cmp_0 v).mp h_256
      rw [gcM, if_pos hv0] at hE
      subst hE
      show g 0 0 (wM (up2 M 6 A)) 277 [some (.ref 0), some (.int (nI ia)), some (.int (nI ib)), some (.int (nI jd)), some (.int c), some (.int x), some (.long l6), none, some (.long l8), none, some (.long u), none, some (.long v), none, none, none] []
      refine r_drop (lv' := [some (.ref 0), some (.int (nI ia)), some (.int (nI ib)), some (.int (nI jd)), some (.int c), some (.int x), some (.long l6), none, some (.long l8), none, some (.long u), none, none, none, none, none]) C ⟨rfl, rfl, rfl, rfl, rfl, rfl, rfl, rfl, rfl, trivial⟩ ?_
      exact kk
    · skip
      refine r_lload (pc := 259) C dX6_breaks_259 rfl ?_
      refine r_lload (pc := 261) C dX6_breaks_261 rfl ?_
      refine r_lrem (pc := 263) C dX6_breaks_263 (fun z => h_256 ((lg_cmp_0 v).mpr z)) ?_
      show g 0 0 (wM (up2 M 6 A)) 264 [some (.ref 0), some (.int (nI ia)), some (.int (nI ib)), some (.int (nI jd)), some (.int c), some (.int x), some (.long l6), none, some (.long l8), none, some (.long u), none, some (.long v), none, none, none] [.long (rmL u v)]
      refine r_lstore (pc := 264) (lv' := [some (.ref 0), some (.int (nI ia)), some (.int (nI ib)), some (.int (nI jd)), some (.int c), some (.int x), some (.long l6), none, some (.long l8), none, some (.long u), none, some (.long v), none, some (.long (rmL u v)), none]) C dX6_breaks_264 (Nat.le_of_ble_eq_true rfl) trivial rfl ?_
      refine r_lload (pc := 266) C dX6_breaks_266 rfl ?_
      refine r_lstore (pc := 268) (lv' := [some (.ref 0), some (.int (nI ia)), some (.int (nI ib)), some (.int (nI jd)), some (.int c), some (.int x), some (.long l6), none, some (.long l8), none, some (.long v), none, some (.long v), none, some (.long (rmL u v)), none]) C dX6_breaks_268 (Nat.le_of_ble_eq_true rfl) trivial rfl ?_
      refine r_lload (pc := 270) C dX6_breaks_270 rfl ?_
      refine r_lstore (pc := 272) (lv' := [some (.ref 0), some (.int (nI ia)), some (.int (nI ib)), some (.int (nI jd)), some (.int c), some (.int x), some (.long l6), none, some (.long l8), none, some (.long v), none, some (.long (rmL u v)), none, some (.long (rmL u v)), none]) C dX6_breaks_272 (Nat.le_of_ble_eq_true rfl) trivial rfl ?_
      refine r_goto (pc := 274) (tgt := 252) C dX6_breaks_274 (by decide) ?_
      show g 0 0 (wM (up2 M 6 A)) 252 [some (.ref 0), some (.int (nI ia)), some (.int (nI ib)), some (.int (nI jd)), some (.int c), some (.int x), some (.long l6), none, some (.long l8), none, some (.long v), none, some (.long (rmL u v)), none, some (.long (rmL u v)), none] []
      refine r_drop (lv' := [some (.ref 0), some (.int (nI ia)), some (.int (nI ib)), some (.int (nI jd)), some (.int c), some (.int x), some (.long l6), none, some (.long l8), none, some (.long v), none, some (.long (rmL u v)), none, none, none]) C ⟨rfl, rfl, rfl, rfl, rfl, rfl, rfl, rfl, rfl, rfl, trivial⟩ ?_
      show g 0 0 (wM (up2 M 6 A)) 252 [some (.ref 0), some (.int (nI ia)), some (.int (nI ib)), some (.int (nI jd)), some (.int c), some (.int x), some (.long l6), none, some (.long l8), none, some (.long v), none, some (.long (rmL u v)), none, none, none] []
      have hv0 : ¬ v = 0 := fun z => h_256 ((lg_cmp_0 v).mpr z)
      have hv2 : 0 < v.toInt := by
        rcases Int.lt_or_eq_of_le hv with h | h
        · exact h
        · exact absurd (Int64.toInt_inj.mp (h.symm.trans (by rfl : (0 : Int) = (0 : Int64).toInt))) hv0
      obtain ⟨r1, r2, r3⟩ := rmL_lt hu hv2
      exact ih v (rmL u v) hv r1 (by omega) (by rw [← hE, gcM, if_neg hv0])
noncomputable def breaksM (M : Nat → Nat → Int32) (z : Nat) (a b d c x : Int32) : Int32 × (Nat → Nat → Int32) := (if (inI a 0 (M 4 0 - 1)) = true then (if (inI b 0 (M 4 0 - 1)) = true then (if (inI d 0 60) = true then (if (inI c 0 10) = true then (if (inI x 0 1) = true then (if x = 0 then (((brM M z (ix a) (ix b) (ix d) c (2 ^ z)) / (gcM ((belM M z).toInt.toNat + 1) (brM M z (ix a) (ix b) (ix d) c (2 ^ z)) (belM M z))).toInt32, (up2 M 6 (bAT M (2 ^ z)))) else (((belM M z) / (gcM ((belM M z).toInt.toNat + 1) (brM M z (ix a) (ix b) (ix d) c (2 ^ z)) (belM M z))).toInt32, (up2 M 6 (bAT M (2 ^ z))))) else ((-1000001), M)) else ((-1000001), M)) else ((-1000001), M)) else ((-1000001), M)) else ((-1000001), M))
set_option maxHeartbeats 4000000 in
set_option maxRecDepth 100000 in
theorem c_X6_breaks (M : Nat → Nat → Int32) (a b d c x : Int32) (z : Nat) (hM : okM M z) (hbe : 0 < (belM M z).toInt) (hbr : ∀ ia ib jd, ia < z → ib < z → jd ≤ 60 → ∀ c, inI c 0 10 = true → 0 ≤ (brM M z ia ib jd c (2 ^ z)).toInt) : MetA yX6_breaks (.code yX6_breaks cX6_breaks 16 (some .int) :: TT) rmX6_breaks [.ref 0, .int a, .int b, .int d, .int c, .int x] (wM M) (fun vr wr => vr = some (.int (breaksM M z a b d c x).1) ∧ wr = wM (breaksM M z a b d c x).2) 0 0 := by
  refine MetA.of_i (by decide) (fun _ => Nat.le_of_ble_eq_true rfl) (Nat.le_of_ble_eq_true rfl) (fun g C E => ?_)
  replace C : Sem cX6_breaks RX6 "breaks" 16 rmX6_breaks g := C
  show g 0 0 (wM M) 0 [some (.ref 0), some (.int a), some (.int b), some (.int d), some (.int c), some (.int x), none, none, none, none, none, none, none, none, none, none] []
  refine r_aload_n (pc := 0) C dX6_breaks_0 rfl rfl ?_
  refine r_iload_n (pc := 1) C dX6_breaks_1 rfl rfl ?_
  refine r_callV0 (pc := 2) (As := [.int a]) (st := []) (θ' := wM M) C (c_X6_isHammock M a) xm_X6_isHammock xk_X6_181 dX6_breaks_2 rfl rfl rfl rfl (Nat.le_of_ble_eq_true rfl) ⟨Nat.le_of_ble_eq_true rfl, Nat.le_of_ble_eq_true rfl⟩ ⟨rfl, rfl⟩ ⟨Nat.le_of_ble_eq_true rfl, Nat.le_of_ble_eq_true rfl⟩ rfl (Eq.trans (b := 14) rfl rfl) ?_
  show g 0 0 (wM M) 5 [some (.ref 0), some (.int a), some (.int b), some (.int d), some (.int c), some (.int x), none, none, none, none, none, none, none, none, none, none] [.int (bB (inI a 0 (M 4 0 - 1)))]
  refine r_if_eq (pc := 5) (tgt := 44) C dX6_breaks_5 (by decide) (fun h_5 => ?_) (fun h_5 => ?_)
  · replace h_5 := bB_f h_5
    refine r_ldc (pc := 44) (v := (-1000001)) C dX6_breaks_44 tw_668 ?_
    show g 0 0 (wM M) 46 [some (.ref 0), some (.int a), some (.int b), some (.int d), some (.int c), some (.int x), none, none, none, none, none, none, none, none, none, none] [.int (-1000001)]
    have hX : breaksM M z a b d c x = ((-1000001), M) := by
      unfold breaksM
      rw [if_neg (nbt h_5)]
    exact E _ _ _ _ _ _ dX6_breaks_46 (Nat.le_refl _) (Nat.le_refl _) rfl ⟨by rw [hX], by rw [hX]⟩
  · replace h_5 := bB_t h_5
    obtain ⟨ia, hia, rfl⟩ := in_ex hM.1 hM.2.1 h_5
    have hia6 : ia < 6 := by have := hM.2.1; omega
    have hz6 := hM.2.1
    refine r_aload_n (pc := 8) C dX6_breaks_8 rfl rfl ?_
    refine r_iload_n (pc := 9) C dX6_breaks_9 rfl rfl ?_
    refine r_callV0 (pc := 10) (As := [.int b]) (st := []) (θ' := wM M) C (c_X6_isHammock M b) xm_X6_isHammock xk_X6_181 dX6_breaks_10 rfl rfl rfl rfl (Nat.le_of_ble_eq_true rfl) ⟨Nat.le_of_ble_eq_true rfl, Nat.le_of_ble_eq_true rfl⟩ ⟨rfl, rfl⟩ ⟨Nat.le_of_ble_eq_true rfl, Nat.le_of_ble_eq_true rfl⟩ rfl (Eq.trans (b := 14) rfl rfl) ?_
    show g 0 0 (wM M) 13 [some (.ref 0), some (.int (nI ia)), some (.int b), some (.int d), some (.int c), some (.int x), none, none, none, none, none, none, none, none, none, none] [.int (bB (inI b 0 (M 4 0 - 1)))]
    refine r_if_eq (pc := 13) (tgt := 44) C dX6_breaks_13 (by decide) (fun h_13 => ?_) (fun h_13 => ?_)
    · replace h_13 := bB_f h_13
      refine r_ldc (pc := 44) (v := (-1000001)) C dX6_breaks_44 tw_668 ?_
      show g 0 0 (wM M) 46 [some (.ref 0), some (.int (nI ia)), some (.int b), some (.int d), some (.int c), some (.int x), none, none, none, none, none, none, none, none, none, none] [.int (-1000001)]
      have hX : breaksM M z (nI ia) b d c x = ((-1000001), M) := by
        unfold breaksM
        (try rw [ix_nI (show ia < 2 ^ 31 by omega)])
        rw [if_pos h_5, if_neg (nbt h_13)]
      exact E _ _ _ _ _ _ dX6_breaks_46 (Nat.le_refl _) (Nat.le_refl _) rfl ⟨by rw [hX], by rw [hX]⟩
    · replace h_13 := bB_t h_13
      obtain ⟨ib, hib, rfl⟩ := in_ex hM.1 hM.2.1 h_13
      have hib6 : ib < 6 := by have := hM.2.1; omega
      have hz6 := hM.2.1
      refine r_iload_n (pc := 16) C dX6_breaks_16 rfl rfl ?_
      refine r_callS0 (pc := 17) (As := [.int d]) (st := []) C (c_X6_isSpan d) xm_X6_isSpan xk_X6_191 dX6_breaks_17 (fun _ => rfl) (fun _ => rfl) rfl rfl (Nat.le_of_ble_eq_true rfl) ⟨Nat.le_of_ble_eq_true rfl, Nat.le_of_ble_eq_true rfl⟩ ⟨rfl, rfl⟩ ⟨Nat.le_of_ble_eq_true rfl, Nat.le_of_ble_eq_true rfl⟩ rfl ?_
      show g 0 0 (wM M) 20 [some (.ref 0), some (.int (nI ia)), some (.int (nI ib)), some (.int d), some (.int c), some (.int x), none, none, none, none, none, none, none, none, none, none] [.int (bB (inI d 0 60))]
      refine r_if_eq (pc := 20) (tgt := 44) C dX6_breaks_20 (by decide) (fun h_20 => ?_) (fun h_20 => ?_)
      · replace h_20 := bB_f h_20
        refine r_ldc (pc := 44) (v := (-1000001)) C dX6_breaks_44 tw_668 ?_
        show g 0 0 (wM M) 46 [some (.ref 0), some (.int (nI ia)), some (.int (nI ib)), some (.int d), some (.int c), some (.int x), none, none, none, none, none, none, none, none, none, none] [.int (-1000001)]
        have hX : breaksM M z (nI ia) (nI ib) d c x = ((-1000001), M) := by
          unfold breaksM
          (try rw [ix_nI (show ia < 2 ^ 31 by omega)])
          (try rw [ix_nI (show ib < 2 ^ 31 by omega)])
          rw [if_pos h_5, if_pos h_13, if_neg (nbt h_20)]
        exact E _ _ _ _ _ _ dX6_breaks_46 (Nat.le_refl _) (Nat.le_refl _) rfl ⟨by rw [hX], by rw [hX]⟩
      · replace h_20 := bB_t h_20
        obtain ⟨jd, hjd, rfl⟩ := sp_ex h_20
        refine r_iload (pc := 23) C dX6_breaks_23 rfl ?_
        refine r_i2l (pc := 25) (v := c.toInt64) C dX6_breaks_25 rfl ?_
        refine r_lconst (pc := 26) (v := 0) C dX6_breaks_26 (by decide) ?_
        refine r_ldc2 (pc := 27) (v := 10) C dX6_breaks_27 tw_870 ?_
        refine r_callS0 (pc := 30) (As := [.long c.toInt64, .long 0, .long 10]) (st := []) C (c_X6_inI c 0 10 rfl (by decide) (by decide)) xm_X6_in xk_X6_57 dX6_breaks_30 (fun _ => rfl) (fun _ => rfl) rfl rfl (Nat.le_of_ble_eq_true rfl) ⟨Nat.le_of_ble_eq_true rfl, Nat.le_of_ble_eq_true rfl⟩ ⟨rfl, rfl⟩ ⟨Nat.le_of_ble_eq_true rfl, Nat.le_of_ble_eq_true rfl⟩ rfl ?_
        show g 0 0 (wM M) 33 [some (.ref 0), some (.int (nI ia)), some (.int (nI ib)), some (.int (nI jd)), some (.int c), some (.int x), none, none, none, none, none, none, none, none, none, none] [.int (bB (inI c 0 10))]
        refine r_if_eq (pc := 33) (tgt := 44) C dX6_breaks_33 (by decide) (fun h_33 => ?_) (fun h_33 => ?_)
        · replace h_33 := bB_f h_33
          refine r_ldc (pc := 44) (v := (-1000001)) C dX6_breaks_44 tw_668 ?_
          show g 0 0 (wM M) 46 [some (.ref 0), some (.int (nI ia)), some (.int (nI ib)), some (.int (nI jd)), some (.int c), some (.int x), none, none, none, none, none, none, none, none, none, none] [.int (-1000001)]
          have hX : breaksM M z (nI ia) (nI ib) (nI jd) c x = ((-1000001), M) := by
            unfold breaksM
            (try rw [ix_nI (show ia < 2 ^ 31 by omega)])
            (try rw [ix_nI (show ib < 2 ^ 31 by omega)])
            (try rw [ix_nI (show jd < 2 ^ 31 by omega)])
            rw [if_pos h_5, if_pos h_13, if_pos h_20, if_neg (nbt h_33)]
          exact E _ _ _ _ _ _ dX6_breaks_46 (Nat.le_refl _) (Nat.le_refl _) rfl ⟨by rw [hX], by rw [hX]⟩
        · replace h_33 := bB_t h_33
          refine r_iload (pc := 36) C dX6_breaks_36 rfl ?_
          refine r_callS0 (pc := 38) (As := [.int x]) (st := []) C (c_X6_isTwo x) xm_X6_isTwo xk_X6_188 dX6_breaks_38 (fun _ => rfl) (fun _ => rfl) rfl rfl (Nat.le_of_ble_eq_true rfl) ⟨Nat.le_of_ble_eq_true rfl, Nat.le_of_ble_eq_true rfl⟩ ⟨rfl, rfl⟩ ⟨Nat.le_of_ble_eq_true rfl, Nat.le_of_ble_eq_true rfl⟩ rfl ?_
          show g 0 0 (wM M) 41 [some (.ref 0), some (.int (nI ia)), some (.int (nI ib)), some (.int (nI jd)), some (.int c), some (.int x), none, none, none, none, none, none, none, none, none, none] [.int (bB (inI x 0 1))]
          refine r_if_ne (pc := 41) (tgt := 47) C dX6_breaks_41 (by decide) (fun h_41 => ?_) (fun h_41 => ?_)
          · replace h_41 := bB_t h_41
            refine r_lconst (pc := 47) (v := 0) C dX6_breaks_47 (by decide) ?_
            refine r_lstore (pc := 48) (lv' := [some (.ref 0), some (.int (nI ia)), some (.int (nI ib)), some (.int (nI jd)), some (.int c), some (.int x), some (.long 0), none, none, none, none, none, none, none, none, none]) C dX6_breaks_48 (Nat.le_of_ble_eq_true rfl) trivial rfl ?_
            refine r_lconst (pc := 50) (v := 1) C dX6_breaks_50 (by decide) ?_
            refine r_lstore (pc := 51) (lv' := [some (.ref 0), some (.int (nI ia)), some (.int (nI ib)), some (.int (nI jd)), some (.int c), some (.int x), some (.long 0), none, some (.long 1), none, none, none, none, none, none, none]) C dX6_breaks_51 (Nat.le_of_ble_eq_true rfl) trivial rfl ?_
            refine r_iconst (pc := 53) (v := 0) C dX6_breaks_53 (by decide) ?_
            refine r_istore (pc := 54) (lv' := [some (.ref 0), some (.int (nI ia)), some (.int (nI ib)), some (.int (nI jd)), some (.int c), some (.int x), some (.long 0), none, some (.long 1), none, some (.int 0), none, none, none, none, none]) C dX6_breaks_54 (Nat.le_of_ble_eq_true rfl) trivial rfl ?_
            show g 0 0 (wM M) 56 [some (.ref 0), some (.int (nI ia)), some (.int (nI ib)), some (.int (nI jd)), some (.int c), some (.int x), some (.long 0), none, some (.long 1), none, some (.int 0), none, none, none, none, none] []
            refine lpa_X6_breaks M z hM ia ib jd hia hib hjd c x 0 C ?_ z 0 (by omega)
            show g 0 0 (wM M) 100 [some (.ref 0), some (.int (nI ia)), some (.int (nI ib)), some (.int (nI jd)), some (.int c), some (.int x), some (.long 0), none, some (.long (belM M z)), none, none, none, none, none, none, none] []
            refine r_iconst (pc := 100) (v := 0) C dX6_breaks_100 (by decide) ?_
            refine r_istore (pc := 101) (lv' := [some (.ref 0), some (.int (nI ia)), some (.int (nI ib)), some (.int (nI jd)), some (.int c), some (.int x), some (.long 0), none, some (.long (belM M z)), none, some (.int 0), none, none, none, none, none]) C dX6_breaks_101 (Nat.le_of_ble_eq_true rfl) trivial rfl ?_
            show g 0 0 (wM M) 103 [some (.ref 0), some (.int (nI ia)), some (.int (nI ib)), some (.int (nI jd)), some (.int c), some (.int x), some (.long 0), none, some (.long (belM M z)), none, some (.int 0), none, none, none, none, none] []
            have hL := fun kk => lpb_X6_breaks M z hM ia ib jd hia hib hjd c x (belM M z) C kk (2 ^ z) 0 (by omega)
            simp only [bA_0] at hL
            refine hL ?_
            show g 0 0 (wM (up2 M 6 (bAT M (2 ^ z)))) 244 [some (.ref 0), some (.int (nI ia)), some (.int (nI ib)), some (.int (nI jd)), some (.int c), some (.int x), some (.long (brM M z ia ib jd c (2 ^ z))), none, some (.long (belM M z)), none, none, none, none, none, none, none] []
            refine r_lload (pc := 244) C dX6_breaks_244 rfl ?_
            refine r_lstore (pc := 246) (lv' := [some (.ref 0), some (.int (nI ia)), some (.int (nI ib)), some (.int (nI jd)), some (.int c), some (.int x), some (.long (brM M z ia ib jd c (2 ^ z))), none, some (.long (belM M z)), none, some (.long (brM M z ia ib jd c (2 ^ z))), none, none, none, none, none]) C dX6_breaks_246 (Nat.le_of_ble_eq_true rfl) trivial rfl ?_
            refine r_lload (pc := 248) C dX6_breaks_248 rfl ?_
            refine r_lstore (pc := 250) (lv' := [some (.ref 0), some (.int (nI ia)), some (.int (nI ib)), some (.int (nI jd)), some (.int c), some (.int x), some (.long (brM M z ia ib jd c (2 ^ z))), none, some (.long (belM M z)), none, some (.long (brM M z ia ib jd c (2 ^ z))), none, some (.long (belM M z)), none, none, none]) C dX6_breaks_250 (Nat.le_of_ble_eq_true rfl) trivial rfl ?_
            show g 0 0 (wM (up2 M 6 (bAT M (2 ^ z)))) 252 [some (.ref 0), some (.int (nI ia)), some (.int (nI ib)), some (.int (nI jd)), some (.int c), some (.int x), some (.long (brM M z ia ib jd c (2 ^ z))), none, some (.long (belM M z)), none, some (.long (brM M z ia ib jd c (2 ^ z))), none, some (.long (belM M z)), none, none, none] []
            refine lpg_X6_breaks M z hM ia ib jd hia hib hjd c x (brM M z ia ib jd c (2 ^ z)) (belM M z) (gcM ((belM M z).toInt.toNat + 1) (brM M z ia ib jd c (2 ^ z)) (belM M z)) (bAT M (2 ^ z)) C ?_ ((belM M z).toInt.toNat + 1) _ _ (hbr ia ib jd (by omega) (by omega) (by omega) c h_33) (by omega) (by omega) rfl
            have hg0 := gcM_ne ((belM M z).toInt.toNat + 1) (brM M z ia ib jd c (2 ^ z)) (belM M z) (hbr ia ib jd (by omega) (by omega) (by omega) c h_33) (by omega) (Or.inr (by intro e; rw [e] at hbe; exact absurd hbe (by decide))) (by omega)
            show g 0 0 (wM (up2 M 6 (bAT M (2 ^ z)))) 277 [some (.ref 0), some (.int (nI ia)), some (.int (nI ib)), some (.int (nI jd)), some (.int c), some (.int x), some (.long (brM M z ia ib jd c (2 ^ z))), none, some (.long (belM M z)), none, some (.long (gcM ((belM M z).toInt.toNat + 1) (brM M z ia ib jd c (2 ^ z)) (belM M z))), none, none, none, none, none] []
            refine r_iload (pc := 277) C dX6_breaks_277 rfl ?_
            refine r_if_ne (pc := 279) (tgt := 290) C dX6_breaks_279 (by decide) (fun h_279 => ?_) (fun h_279 => ?_)
            · skip
              refine r_lload (pc := 290) C dX6_breaks_290 rfl ?_
              refine r_lload (pc := 292) C dX6_breaks_292 rfl ?_
              refine r_ldiv (pc := 294) C dX6_breaks_294 hg0 ?_
              refine r_l2i (pc := 295) (v := ((belM M z) / (gcM ((belM M z).toInt.toNat + 1) (brM M z ia ib jd c (2 ^ z)) (belM M z))).toInt32) C dX6_breaks_295 rfl ?_
              show g 0 0 (wM (up2 M 6 (bAT M (2 ^ z)))) 296 [some (.ref 0), some (.int (nI ia)), some (.int (nI ib)), some (.int (nI jd)), some (.int c), some (.int x), some (.long (brM M z ia ib jd c (2 ^ z))), none, some (.long (belM M z)), none, some (.long (gcM ((belM M z).toInt.toNat + 1) (brM M z ia ib jd c (2 ^ z)) (belM M z))), none, none, none, none, none] [.int (((belM M z) / (gcM ((belM M z).toInt.toNat + 1) (brM M z ia ib jd c (2 ^ z)) (belM M z))).toInt32)]
              have hX : breaksM M z (nI ia) (nI ib) (nI jd) c x = (((belM M z) / (gcM ((belM M z).toInt.toNat + 1) (brM M z ia ib jd c (2 ^ z)) (belM M z))).toInt32, (up2 M 6 (bAT M (2 ^ z)))) := by
                unfold breaksM
                (try rw [ix_nI (show ia < 2 ^ 31 by omega)])
                (try rw [ix_nI (show ib < 2 ^ 31 by omega)])
                (try rw [ix_nI (show jd < 2 ^ 31 by omega)])
                rw [if_pos h_5, if_pos h_13, if_pos h_20, if_pos h_33, if_pos h_41, if_neg h_279]
              exact E _ _ _ _ _ _ dX6_breaks_296 (Nat.le_refl _) (Nat.le_refl _) rfl ⟨by rw [hX], by rw [hX]⟩
            · skip
              refine r_lload (pc := 282) C dX6_breaks_282 rfl ?_
              refine r_lload (pc := 284) C dX6_breaks_284 rfl ?_
              refine r_ldiv (pc := 286) C dX6_breaks_286 hg0 ?_
              refine r_goto (pc := 287) (tgt := 295) C dX6_breaks_287 (by decide) ?_
              refine r_l2i (pc := 295) (v := ((brM M z ia ib jd c (2 ^ z)) / (gcM ((belM M z).toInt.toNat + 1) (brM M z ia ib jd c (2 ^ z)) (belM M z))).toInt32) C dX6_breaks_295 rfl ?_
              show g 0 0 (wM (up2 M 6 (bAT M (2 ^ z)))) 296 [some (.ref 0), some (.int (nI ia)), some (.int (nI ib)), some (.int (nI jd)), some (.int c), some (.int x), some (.long (brM M z ia ib jd c (2 ^ z))), none, some (.long (belM M z)), none, some (.long (gcM ((belM M z).toInt.toNat + 1) (brM M z ia ib jd c (2 ^ z)) (belM M z))), none, none, none, none, none] [.int (((brM M z ia ib jd c (2 ^ z)) / (gcM ((belM M z).toInt.toNat + 1) (brM M z ia ib jd c (2 ^ z)) (belM M z))).toInt32)]
              have hX : breaksM M z (nI ia) (nI ib) (nI jd) c x = (((brM M z ia ib jd c (2 ^ z)) / (gcM ((belM M z).toInt.toNat + 1) (brM M z ia ib jd c (2 ^ z)) (belM M z))).toInt32, (up2 M 6 (bAT M (2 ^ z)))) := by
                unfold breaksM
                (try rw [ix_nI (show ia < 2 ^ 31 by omega)])
                (try rw [ix_nI (show ib < 2 ^ 31 by omega)])
                (try rw [ix_nI (show jd < 2 ^ 31 by omega)])
                rw [if_pos h_5, if_pos h_13, if_pos h_20, if_pos h_33, if_pos h_41, if_pos h_279]
              exact E _ _ _ _ _ _ dX6_breaks_296 (Nat.le_refl _) (Nat.le_refl _) rfl ⟨by rw [hX], by rw [hX]⟩
          · replace h_41 := bB_f h_41
            refine r_ldc (pc := 44) (v := (-1000001)) C dX6_breaks_44 tw_668 ?_
            show g 0 0 (wM M) 46 [some (.ref 0), some (.int (nI ia)), some (.int (nI ib)), some (.int (nI jd)), some (.int c), some (.int x), none, none, none, none, none, none, none, none, none, none] [.int (-1000001)]
            have hX : breaksM M z (nI ia) (nI ib) (nI jd) c x = ((-1000001), M) := by
              unfold breaksM
              (try rw [ix_nI (show ia < 2 ^ 31 by omega)])
              (try rw [ix_nI (show ib < 2 ^ 31 by omega)])
              (try rw [ix_nI (show jd < 2 ^ 31 by omega)])
              rw [if_pos h_5, if_pos h_13, if_pos h_20, if_pos h_33, if_neg (nbt h_41)]
            exact E _ _ _ _ _ _ dX6_breaks_46 (Nat.le_refl _) (Nat.le_refl _) rfl ⟨by rw [hX], by rw [hX]⟩
