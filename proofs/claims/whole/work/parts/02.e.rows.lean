theorem xL_id {σ : Nat → Nat} (h : ∀ i, σ i = i) : (∀ v, xV σ v = v) ∧ ∀ x, xEr σ x = x := by
  obtain rfl : σ = fun i => i := funext h
  have h1 : ∀ v, xV (fun i => i) v = v := fun v => by cases v <;> rfl
  refine ⟨h1, fun x => ?_⟩
  rcases x with ⟨t, n, a⟩ | ⟨c, fs⟩
  · rcases a with a | a | a | a | a <;> simp [xEr, xA]
  · simp only [xEr]
    congr 2
    rw [List.map_congr_left (fun v _ => h1 v)]
    exact List.map_id' fs
theorem xV_cats (ρ : Nat → Nat) (st : List Value) : ((st.map (xV ρ)).map fun v => v.category) = st.map fun v => v.category := by
  rw [List.map_map]
  exact List.map_congr_left (fun v _ => xV_cat ρ v)
theorem xS_range (n : Nat) : ∀ i, xS (List.range n) n i = i := by
  intro i
  unfold xS
  by_cases h : i < n
  · rw [List.getElem?_range h]
  · rw [List.getElem?_eq_none (by rw [List.length_range]; omega), List.length_range]
    simp only
    omega
theorem xSame_map (θ : List xE) : (List.range θ.length).map (fun i => θ[i]?) = θ.map (fun x => some (xEr (xS (List.range θ.length) θ.length) x)) := by
  apply List.ext_getElem?
  intro j
  rw [List.getElem?_map, List.getElem?_map]
  by_cases h : j < θ.length
  · rw [List.getElem?_range h, List.getElem?_eq_getElem h]
    simp only [Option.map_some, (xL_id (xS_range θ.length)).2]
    rw [List.getElem?_eq_getElem h]
  · rw [List.getElem?_eq_none (by rw [List.length_range]; omega), List.getElem?_eq_none (by omega)]
    rfl
theorem xSet_range : ∀ (xs θ pre : List xE), xs.length = θ.length → xSet (pre ++ θ) ((List.range θ.length).map (fun i => pre.length + i)) xs = pre ++ xs
  | [], θ, pre, h => by
    cases θ with
    | nil => rfl
    | cons a b => simp at h
  | x :: xs, [], pre, h => by simp at h
  | x :: xs, a :: θ, pre, h => by
    have h1 : (List.range (a :: θ).length).map (fun i => pre.length + i) = pre.length :: ((List.range θ.length).map (fun i => (pre ++ [x]).length + i)) := by
      rw [List.length_cons, List.range_succ_eq_map, List.map_cons, List.map_map]
      congr 1
      apply List.map_congr_left
      intro i _
      simp only [Function.comp_apply, List.length_append, List.length_cons, List.length_nil]
      omega
    rw [h1]
    show xSet ((pre ++ a :: θ).set pre.length x) _ xs = _
    rw [List.set_append_right _ _ (Nat.le_refl _), Nat.sub_self, List.set_cons_zero]
    have h2 := xSet_range xs θ (pre ++ [x]) (by simpa using h)
    rw [List.append_assoc] at h2
    simpa using h2
theorem xAft_same {θ θ' : List xE} (h : θ'.length = θ.length) : xAft θ (List.range θ.length) θ' = θ' := by
  unfold xAft
  have h1 := xSet_range θ' θ [] h
  simp only [List.nil_append, List.length_nil, Nat.zero_add, List.map_id'] at h1
  have h3 : (θ'.take (List.range θ.length).length).map (xEr (xS (List.range θ.length) θ.length)) = θ' := by
    rw [List.map_congr_left (fun x _ => (xL_id (xS_range θ.length)).2 x), List.map_id', List.length_range, List.take_of_length_le (by omega)]
  rw [h3, h1, List.length_range, List.drop_of_length_le (by omega)]
  simp
theorem xAft_nil (θ : List xE) : xAft θ [] [] = θ := by
  unfold xAft
  simp [xSet]
theorem xMTT {C : String} {y : MethodName} {b : ByteArray} {maxL na : Nat} {ret : Option FieldType} (hm : xM C y b maxL ret na) {w : Cond} (hw : w ∈ Cond.code y b maxL ret :: TT) : w ∈ TT := by
  rcases List.mem_cons.mp hw with rfl | h
  · exact hm.1
  · exact h
section RW1
variable {p : Program} {l : Launch} {e : Env} {R : Room} {s : State} {m : MethodId} {args : Array Value} {below : List Frame} {meth : Method} {c : Code} {H : Heap} {locs : List Loc} {cells slots mc ms : Nat} {Q : State → Prop} {pc : Nat} {ls : Array Slot} {rest st0 : List Value} {a : Array Value} {A A1 : Nat → Prop} {D : va_G} {τ : Nat → ClassId} {ρ : Nat → Nat} {θc : List xE} {fin : Option Value → List xE → Prop} {free : Addr → Prop}
theorem xRun (hr : va_Run p l e R s m args below meth c H locs cells slots mc ms (F0 m pc ls st0) rest (xPost D τ ρ θc H.size fin a) free) (h5 : va_S A s.heap H locs) (hFA : ∀ q, va_A (xW ρ τ θc) H.size q → A q) (hf : ∀ q, free q → A q)
    (kk : ∀ (r : Option Value) (θ' : List xE) (nw : List Nat) (H1 : Heap) (locs1 : List Loc), θ'.length = θc.length + nw.length → fin r θ' → va_P D vwCl (xW (xX ρ θc.length nw) τ θ') H1 → va_D (va_A (xW ρ τ θc) H.size) (xW (xX ρ θc.length nw) τ θ') → (∀ q : Nat, q < H.size → ¬ va_A (xW ρ τ θc) H.size q → H1[q]? = H[q]?) → va_S A s.heap H1 locs1 → W p l e R s m args below meth c H1 locs1 (cells + mc) (slots + ms) Q (F0 m (pc + 3) ls ((r.map (xV (xX ρ θc.length nw))).toList ++ rest))) :
    W p l e R s m args below meth c H locs cells slots Q (F0 m pc ls st0) := by
  intro T hT X
  obtain ⟨v, st₀, t, T', L, h0, X', hL, e1, e2, ⟨⟨r, θ', nw, hv, hlen, hfin, hP, hD⟩, hz, hk⟩, st⟩ := hr T hT X
  cases hv
  rw [h0] at hz hk
  obtain ⟨t2, a1, b1⟩ := kk r θ' nw T'.heap (locs ++ L) hlen hfin (by rw [e1]; exact hP) hD (fun q h1 h2 => by rw [e1]; exact hk q h1 h2)
    ⟨Nat.le_trans h5.1 (by rw [e1]; exact hz), fun q h1 h2 => by rw [e1, hk q (Nat.lt_of_lt_of_le h1 h5.1) (fun z => h2 (hFA q z))]; exact h5.2.1 q h1 h2, fun q hq => by
      rcases List.mem_append.mp hq with h | h
      · exact h5.2.2 q h
      · exact hf _ (hL q h)⟩ T' rfl X'
  exact ⟨t2, st t2 a1, b1⟩
end RW1
/-- closed under the first N places -/
def xKv (N : Nat) (v : Value) : Prop := match v with
  | .ref i => i < N ∨ 1000000 ≤ i
  | _ => True
def xKe (N : Nat) (x : xE) : Prop := match x with
  | .inl (_, _, .inr (.inr (.inr (.inr g)))) => ∀ k i, g k = some i → i < N
  | .inl _ => True
  | .inr o => ∀ v ∈ o.2, xKv N v
theorem xKv_eq {N : Nat} {ρ ρ' : Nat → Nat} (hρ : ∀ i, i < N ∨ 1000000 ≤ i → ρ' i = ρ i) {v : Value} (h : xKv N v) : xV ρ' v = xV ρ v := by
  cases v with
  | ref i => exact congrArg Value.ref (hρ i h)
  | _ => rfl
theorem xKe_eq {N : Nat} {ρ ρ' : Nat → Nat} {τ : Nat → ClassId} (hρ : ∀ i, i < N ∨ 1000000 ≤ i → ρ' i = ρ i) {x : xE} (h : xKe N x) : xC ρ' τ x = xC ρ τ x := by
  rcases x with ⟨t, n, a⟩ | ⟨c, fs⟩
  · rcases a with a | a | a | a | a
    · rfl
    · rfl
    · rfl
    · rfl
    · simp only [xC, xA]
      congr 7
      funext k
      cases hg : a k with
      | none => rfl
      | some i => exact congrArg some (hρ i (Or.inl (h k i hg)))
  · simp only [xC]
    congr 2
    exact List.map_congr_left (fun v hv => xKv_eq hρ (h v hv))
/-- all that is closed: world, locals, stack -/
def xKa (N : Nat) (θ : List xE) (lv : List (Option Value)) (st : List Value) : Prop := (∀ (i : Nat) (x : xE), θ[i]? = some x → xKe N x) ∧ (∀ (i : Nat) (v : Value), lv[i]? = some (some v) → xKv N v) ∧ ∀ v ∈ st, xKv N v
section FW
variable {cc : ByteArray} {own nm : String} {nL : Nat} {R : Room} {g : Nat → Nat → List xE → Nat → List (Option Value) → List Value → Prop} {k n : Nat} {θ : List xE} {pc : Nat} {lv : List (Option Value)} {st : List Value}
variable {y : MethodName} {bytes : ByteArray} {maxL na ix mc ms : Nat} {ret : Option FieldType} {rm : Room} {θc : List xE} {fin : Option Value → List xE → Prop} {cn : String} {b : Nat} {st0 : List Value}
theorem r_callV (C : Sem cc own nm nL R g) (is : List Nat) {b' ci : Nat} {As' As : List Value} {fs : List Value} {T : u_T} {N : Nat} (hM : MetA y (.code y bytes maxL ret :: TT) rm (.ref b' :: As') θc fin mc ms) (hm : xMV cn y bytes maxL ret na) (hlk : Cond.methodLink own ix y ∈ TT) (d : decode cc pc = .ok (.invokevirtual ix, 3))
    (hθ : is.map (fun i => θ[i]?) = θc.map (fun x => some (xEr (xS is θ.length) x))) (hnd : is.Nodup) (hargs : (Value.ref b' :: As').map (xV (xS is θ.length)) = .ref b :: As) (hrecv : θ[b]? = some (.inr (ci, fs))) (hcl : vwCl[ci]? = some (cn, T, N)) (hst : st0 = As.reverse ++ .ref b :: st) (hna : As.length = na) (hroom : (st.map fun v => v.category).sum ≤ 8)
    (hR : rm.frames + 1 ≤ R.frames ∧ 8 + (maxL + 11) + rm.locals ≤ R.locals) (hrc : rm.cells = mc ∧ rm.slots = ms) (hkn : k + mc ≤ R.cells ∧ n + ms ≤ R.slots) (hL : lv.length = nL) (hfl : ∀ r θ', fin r θ' → θ'.length = θc.length)
    (kk : ∀ r θ', fin r θ' → g (k + mc) (n + ms) (xAft θ is θ') (pc + 3) lv ((r.map (xV (xS is θ.length))).toList ++ st)) : g k n θ pc lv st0 := by
  obtain ⟨p, l, e, s, m, args, below, meth, c, D, A, τ, ρ0, n0, Q, ⟨hx, hb, hts, hown, hnm, hml⟩, ⟨hK, hA, hT⟩, rfl⟩ := C
  subst hst
  intro ρ H locs ls h1 h3 h4 h5 h6
  have hσ : ∀ (j i : Nat), is[j]? = some i → xS is θ.length j = i := fun j i h => xS_lt h
  have hE := xEnter (s := s) hθ hσ hnd h3 h4 h5 hK hA hT
  have hFA := xFree (s := s) hθ hσ h4 h5 hA
  have hav : (Value.ref b' :: As').map (xV (fun i => ρ (xS is θ.length i))) = .ref (ρ b) :: As.map (xV ρ) := by
    have h7 := congrArg (List.map (xV ρ)) hargs
    rw [List.map_map] at h7
    rw [List.map_congr_left (fun v _ => (xV_xV ρ (xS is θ.length) v).symm)]
    exact h7
  have hcat : (((st.map (xV ρ))).map fun v => v.category).sum ≤ 8 := by
    rw [xV_cats]
    exact hroom
  have hM' := hM l D τ (fun i => ρ (xS is θ.length i)) H.size
  rw [hav] at hM'
  have hr := va_runV (p := p) (e := e) (R := R) (s := s) (below := below) (meth := meth) (locs := locs) (cells := k) (slots := n) (g := F0 m pc ls ((As.reverse ++ .ref b :: st).map (xV ρ))) (As := As.map (xV ρ)) (rest := st.map (xV ρ)) (b := ρ b) ⟨hx, hb, hml, hown, hts⟩ hM' (cwV na hts (xGV hm hlk) rfl hrc.1 hrc.2 hm.1.2.2 hR)
    ⟨xBlind, va_recv hK h3 hcl (xW_at hrecv), fun U hU hW => ⟨rfl, hE U hU hW⟩⟩ rfl (by rw [List.length_map]; exact hna) (h6.1.trans hL) (by simp [List.map_append, List.map_reverse, xV]) (lv_room hcat) d hkn
  refine xRun hr h5 hFA hFA (fun r θ' nw H1 locs1 g1 g2 g3 g4 g5 g6 => ?_)
  have hnw : nw = [] := by
    have h8 := hfl r θ' g2
    cases nw with
    | nil => rfl
    | cons a b => simp at g1; omega
  subst hnw
  obtain ⟨w1, w2, w3, w4⟩ := xLeave hθ hnd h3 h4 hFA (fun i x _ => by rw [xX_nil]) g1 g3 g4 g5
  rw [xX_nil] at w2 w3
  simp only [List.length_nil, Nat.add_zero] at w1
  have w5 := kk r θ' g2 ρ H1 locs1 ls (by rw [w1]; exact h1) w2 w3 g6 h6
  rw [xX_nil]
  have w6 : (((r.map (xV (xS is θ.length))).toList ++ st).map (xV ρ)) = (r.map (xV (fun i => ρ (xS is θ.length i)))).toList ++ st.map (xV ρ) := by
    cases r with
    | none => rfl
    | some v => simp [xV_xV]
  rw [w6] at w5
  exact w5
theorem r_callS (C : Sem cc own nm nL R g) (is : List Nat) {As' As : List Value} (hM : MetA y (.code y bytes maxL ret :: TT) rm As' θc fin mc ms) (hm : xMS cn y bytes maxL ret na) (hlk : Cond.methodLink own ix y ∈ TT) (d : decode cc pc = .ok (.invokestatic ix, 3))
    (hθ : is.map (fun i => θ[i]?) = θc.map (fun x => some (xEr (xS is θ.length) x))) (hnd : is.Nodup) (hargs : As'.map (xV (xS is θ.length)) = As) (hst : st0 = As.reverse ++ st) (hna : As.length = na) (hroom : (st.map fun v => v.category).sum ≤ 8)
    (hR : rm.frames + 1 ≤ R.frames ∧ 8 + (maxL + 11) + rm.locals ≤ R.locals) (hrc : rm.cells = mc ∧ rm.slots = ms) (hkn : k + mc ≤ R.cells ∧ n + ms ≤ R.slots) (hL : lv.length = nL) (hfl : ∀ r θ', fin r θ' → θ'.length = θc.length)
    (kk : ∀ r θ', fin r θ' → g (k + mc) (n + ms) (xAft θ is θ') (pc + 3) lv ((r.map (xV (xS is θ.length))).toList ++ st)) : g k n θ pc lv st0 := by
  obtain ⟨p, l, e, s, m, args, below, meth, c, D, A, τ, ρ0, n0, Q, ⟨hx, hb, hts, hown, hnm, hml⟩, ⟨hK, hA, hT⟩, rfl⟩ := C
  subst hst
  intro ρ H locs ls h1 h3 h4 h5 h6
  have hσ : ∀ (j i : Nat), is[j]? = some i → xS is θ.length j = i := fun j i h => xS_lt h
  have hE := xEnter (s := s) hθ hσ hnd h3 h4 h5 hK hA hT
  have hFA := xFree (s := s) hθ hσ h4 h5 hA
  have hav : As'.map (xV (fun i => ρ (xS is θ.length i))) = As.map (xV ρ) := by
    have h7 := congrArg (List.map (xV ρ)) hargs
    rw [List.map_map] at h7
    rw [List.map_congr_left (fun v _ => (xV_xV ρ (xS is θ.length) v).symm)]
    exact h7
  have hcat : (((st.map (xV ρ))).map fun v => v.category).sum ≤ 8 := by
    rw [xV_cats]
    exact hroom
  have hM' := hM l D τ (fun i => ρ (xS is θ.length i)) H.size
  rw [hav] at hM'
  have hr := va_runS (p := p) (e := e) (R := R) (s := s) (below := below) (meth := meth) (locs := locs) (cells := k) (slots := n) (g := F0 m pc ls ((As.reverse ++ st).map (xV ρ))) (As := As.map (xV ρ)) (rest := st.map (xV ρ)) ⟨hx, hb, hml, hown, hts⟩ hM' (va_cwS na hts (xGS hm hlk) rfl hrc.1 hrc.2 hm.1.2.2.2 hR)
    ⟨xBlind, fun U hU hW => ⟨rfl, hE U hU hW⟩⟩ rfl (by rw [List.length_map]; exact hna) (h6.1.trans hL) (by simp [List.map_append, List.map_reverse, xV]) (lv_room hcat) d hkn
  refine xRun hr h5 hFA hFA (fun r θ' nw H1 locs1 g1 g2 g3 g4 g5 g6 => ?_)
  have hnw : nw = [] := by
    have h8 := hfl r θ' g2
    cases nw with
    | nil => rfl
    | cons a b => simp at g1; omega
  subst hnw
  obtain ⟨w1, w2, w3, w4⟩ := xLeave hθ hnd h3 h4 hFA (fun i x _ => by rw [xX_nil]) g1 g3 g4 g5
  rw [xX_nil] at w2 w3
  simp only [List.length_nil, Nat.add_zero] at w1
  have w5 := kk r θ' g2 ρ H1 locs1 ls (by rw [w1]; exact h1) w2 w3 g6 h6
  rw [xX_nil]
  have w6 : (((r.map (xV (xS is θ.length))).toList ++ st).map (xV ρ)) = (r.map (xV (fun i => ρ (xS is θ.length i)))).toList ++ st.map (xV ρ) := by
    cases r with
    | none => rfl
    | some v => simp [xV_xV]
  rw [w6] at w5
  exact w5
theorem r_callSN (C : Sem cc own nm nL R g) (is : List Nat) {As' As : List Value} (hM : MetA y (.code y bytes maxL ret :: TT) rm As' θc fin mc ms) (hm : xMS cn y bytes maxL ret na) (hlk : Cond.methodLinkNest own ix y cn ∈ xNw) (d : decode cc pc = .ok (.invokestatic ix, 3))
    (hθ : is.map (fun i => θ[i]?) = θc.map (fun x => some (xEr (xS is θ.length) x))) (hnd : is.Nodup) (hargs : As'.map (xV (xS is θ.length)) = As) (hst : st0 = As.reverse ++ st) (hna : As.length = na) (hroom : (st.map fun v => v.category).sum ≤ 8)
    (hR : rm.frames + 1 ≤ R.frames ∧ 8 + (maxL + 11) + rm.locals ≤ R.locals) (hrc : rm.cells = mc ∧ rm.slots = ms) (hkn : k + mc ≤ R.cells ∧ n + ms ≤ R.slots) (hL : lv.length = nL) (hfl : ∀ r θ', fin r θ' → θ'.length = θc.length)
    (kk : ∀ r θ', fin r θ' → g (k + mc) (n + ms) (xAft θ is θ') (pc + 3) lv ((r.map (xV (xS is θ.length))).toList ++ st)) : g k n θ pc lv st0 := by
  obtain ⟨p, l, e, s, m, args, below, meth, c, D, A, τ, ρ0, n0, Q, ⟨hx, hb, hts, hown, hnm, hml⟩, ⟨hK, hA, hT⟩, rfl⟩ := C
  subst hst
  intro ρ H locs ls h1 h3 h4 h5 h6
  have hσ : ∀ (j i : Nat), is[j]? = some i → xS is θ.length j = i := fun j i h => xS_lt h
  have hE := xEnter (s := s) hθ hσ hnd h3 h4 h5 hK hA hT
  have hFA := xFree (s := s) hθ hσ h4 h5 hA
  have hav : As'.map (xV (fun i => ρ (xS is θ.length i))) = As.map (xV ρ) := by
    have h7 := congrArg (List.map (xV ρ)) hargs
    rw [List.map_map] at h7
    rw [List.map_congr_left (fun v _ => (xV_xV ρ (xS is θ.length) v).symm)]
    exact h7
  have hcat : (((st.map (xV ρ))).map fun v => v.category).sum ≤ 8 := by
    rw [xV_cats]
    exact hroom
  have hM' := hM l D τ (fun i => ρ (xS is θ.length i)) H.size
  rw [hav] at hM'
  have hr := va_runSN (host := cn) (p := p) (e := e) (R := R) (s := s) (below := below) (meth := meth) (locs := locs) (cells := k) (slots := n) (g := F0 m pc ls ((As.reverse ++ st).map (xV ρ))) (As := As.map (xV ρ)) (rest := st.map (xV ρ)) ⟨hx, hb, hml, hown, hts⟩ hM' ⟨va_cnB na hts (fun w hw => (⟨xMTT hm.1 hw, good_of_word (TT_good (xMTT hm.1 hw))⟩ : w ∈ TT ∧ _)) rfl hrc.1 hrc.2 (hT.2 _ hlk) (hts _ (by rw [hm.1.2.2.1]; exact hm.1.2.1)) hm.1.2.2.2 hR, hts _ hm.2, trivial⟩
    ⟨xBlind, fun U hU hW => ⟨rfl, hE U hU hW⟩⟩ rfl (by rw [List.length_map]; exact hna) (h6.1.trans hL) (by simp [List.map_append, List.map_reverse, xV]) (lv_room hcat) d hkn
  refine xRun hr h5 hFA hFA (fun r θ' nw H1 locs1 g1 g2 g3 g4 g5 g6 => ?_)
  have hnw : nw = [] := by
    have h8 := hfl r θ' g2
    cases nw with
    | nil => rfl
    | cons a b => simp at g1; omega
  subst hnw
  obtain ⟨w1, w2, w3, w4⟩ := xLeave hθ hnd h3 h4 hFA (fun i x _ => by rw [xX_nil]) g1 g3 g4 g5
  rw [xX_nil] at w2 w3
  simp only [List.length_nil, Nat.add_zero] at w1
  have w5 := kk r θ' g2 ρ H1 locs1 ls (by rw [w1]; exact h1) w2 w3 g6 h6
  rw [xX_nil]
  have w6 : (((r.map (xV (xS is θ.length))).toList ++ st).map (xV ρ)) = (r.map (xV (fun i => ρ (xS is θ.length i)))).toList ++ st.map (xV ρ) := by
    cases r with
    | none => rfl
    | some v => simp [xV_xV]
  rw [w6] at w5
  exact w5
theorem r_callV0 (C : Sem cc own nm nL R g) {ci : Nat} {As : List Value} {fs : List Value} {T : u_T} {N : Nat} {r : Option Value} {θ' : List xE} (hM : MetA y (.code y bytes maxL ret :: TT) rm (.ref b :: As) θ (fun a b => a = r ∧ b = θ') 0 0) (hm : xMV cn y bytes maxL ret na) (hlk : Cond.methodLink own ix y ∈ TT) (d : decode cc pc = .ok (.invokevirtual ix, 3))
    (hrecv : θ[b]? = some (.inr (ci, fs))) (hcl : vwCl[ci]? = some (cn, T, N)) (hst : st0 = As.reverse ++ .ref b :: st) (hna : As.length = na) (hroom : (st.map fun v => v.category).sum ≤ 8)
    (hR : rm.frames + 1 ≤ R.frames ∧ 8 + (maxL + 11) + rm.locals ≤ R.locals) (hrc : rm.cells = 0 ∧ rm.slots = 0) (hkn : k ≤ R.cells ∧ n ≤ R.slots) (hL : lv.length = nL) (hfl : θ'.length = θ.length)
    (kk : g k n θ' (pc + 3) lv (r.toList ++ st)) : g k n θ pc lv st0 := by
  refine r_callV C (List.range θ.length) hM hm hlk d (xSame_map θ) List.nodup_range ?_ hrecv hcl hst hna hroom hR hrc hkn hL (fun r' θ'' h => by rw [h.2]; exact hfl) (fun r' θ'' h => ?_)
  · rw [List.map_congr_left (fun v _ => (xL_id (xS_range θ.length)).1 v), List.map_id']
  · obtain ⟨rfl, rfl⟩ := h
    rw [xAft_same hfl]
    have h1 : (r'.map (xV (xS (List.range θ.length) θ.length))) = r' := by
      cases r' with
      | none => rfl
      | some v => exact congrArg some ((xL_id (xS_range θ.length)).1 v)
    rw [h1]
    exact kk
/-- a static method of numbers alone -/
theorem r_callS0 (C : Sem cc own nm nL R g) {As : List Value} {r : Option Value} (hM : MetA y (.code y bytes maxL ret :: TT) rm As [] (fun a b => a = r ∧ b = []) 0 0) (hm : xMS cn y bytes maxL ret na) (hlk : Cond.methodLink own ix y ∈ TT) (d : decode cc pc = .ok (.invokestatic ix, 3))
    (hargs : ∀ σ, As.map (xV σ) = As) (hr : ∀ σ, r.map (xV σ) = r) (hst : st0 = As.reverse ++ st) (hna : As.length = na) (hroom : (st.map fun v => v.category).sum ≤ 8)
    (hR : rm.frames + 1 ≤ R.frames ∧ 8 + (maxL + 11) + rm.locals ≤ R.locals) (hrc : rm.cells = 0 ∧ rm.slots = 0) (hkn : k ≤ R.cells ∧ n ≤ R.slots) (hL : lv.length = nL)
    (kk : g k n θ (pc + 3) lv (r.toList ++ st)) : g k n θ pc lv st0 := by
  refine r_callS C [] hM hm hlk d rfl List.nodup_nil (hargs _) hst hna hroom hR hrc hkn hL (fun r' θ'' h => by rw [h.2]) (fun r' θ'' h => ?_)
  obtain ⟨rfl, rfl⟩ := h
  rw [xAft_nil, hr]
  exact kk
theorem r_callSN0 (C : Sem cc own nm nL R g) {As : List Value} {r : Option Value} (hM : MetA y (.code y bytes maxL ret :: TT) rm As [] (fun a b => a = r ∧ b = []) 0 0) (hm : xMS cn y bytes maxL ret na) (hlk : Cond.methodLinkNest own ix y cn ∈ xNw) (d : decode cc pc = .ok (.invokestatic ix, 3))
    (hargs : ∀ σ, As.map (xV σ) = As) (hr : ∀ σ, r.map (xV σ) = r) (hst : st0 = As.reverse ++ st) (hna : As.length = na) (hroom : (st.map fun v => v.category).sum ≤ 8)
    (hR : rm.frames + 1 ≤ R.frames ∧ 8 + (maxL + 11) + rm.locals ≤ R.locals) (hrc : rm.cells = 0 ∧ rm.slots = 0) (hkn : k ≤ R.cells ∧ n ≤ R.slots) (hL : lv.length = nL)
    (kk : g k n θ (pc + 3) lv (r.toList ++ st)) : g k n θ pc lv st0 := by
  refine r_callSN C [] hM hm hlk d rfl List.nodup_nil (hargs _) hst hna hroom hR hrc hkn hL (fun r' θ'' h => by rw [h.2]) (fun r' θ'' h => ?_)
  obtain ⟨rfl, rfl⟩ := h
  rw [xAft_nil, hr]
  exact kk
/-- a virtual call on a part of the world -/
theorem r_callVD (C : Sem cc own nm nL R g) (is : List Nat) {b' ci : Nat} {As' As : List Value} {fs : List Value} {T : u_T} {N : Nat} {r r2 : Option Value} {θc' θ2 : List xE} (hM : MetA y (.code y bytes maxL ret :: TT) rm (.ref b' :: As') θc (fun a b => a = r ∧ b = θc') 0 0) (hm : xMV cn y bytes maxL ret na) (hlk : Cond.methodLink own ix y ∈ TT) (d : decode cc pc = .ok (.invokevirtual ix, 3))
    (hθ : is.map (fun i => θ[i]?) = θc.map (fun x => some (xEr (xS is θ.length) x))) (hnd : is.Nodup) (hargs : (Value.ref b' :: As').map (xV (xS is θ.length)) = .ref b :: As) (hrecv : θ[b]? = some (.inr (ci, fs))) (hcl : vwCl[ci]? = some (cn, T, N)) (hst : st0 = As.reverse ++ .ref b :: st) (hna : As.length = na) (hroom : (st.map fun v => v.category).sum ≤ 8)
    (hR : rm.frames + 1 ≤ R.frames ∧ 8 + (maxL + 11) + rm.locals ≤ R.locals) (hrc : rm.cells = 0 ∧ rm.slots = 0) (hkn : k ≤ R.cells ∧ n ≤ R.slots) (hL : lv.length = nL) (hfl : θc'.length = θc.length) (h2 : xSet θ is (θc'.map (xEr (xS is θ.length))) = θ2) (hr : r.map (xV (xS is θ.length)) = r2)
    (kk : g k n θ2 (pc + 3) lv (r2.toList ++ st)) : g k n θ pc lv st0 := by
  refine r_callV C is hM hm hlk d hθ hnd hargs hrecv hcl hst hna hroom hR hrc hkn hL (fun r' θ'' h => by rw [h.2]; exact hfl) (fun r' θ'' h => ?_)
  obtain ⟨rfl, rfl⟩ := h
  have h3 : xAft θ is θ'' = θ2 := by
    unfold xAft
    have h4 := (xIs hθ).1
    rw [List.take_of_length_le (by omega), List.drop_of_length_le (by omega), h2]
    simp
  rw [h3, hr]
  exact kk
theorem r_callSD (C : Sem cc own nm nL R g) (is : List Nat) {As' As : List Value} {r r2 : Option Value} {θc' θ2 : List xE} (hM : MetA y (.code y bytes maxL ret :: TT) rm As' θc (fun a b => a = r ∧ b = θc') 0 0) (hm : xMS cn y bytes maxL ret na) (hlk : Cond.methodLink own ix y ∈ TT) (d : decode cc pc = .ok (.invokestatic ix, 3))
    (hθ : is.map (fun i => θ[i]?) = θc.map (fun x => some (xEr (xS is θ.length) x))) (hnd : is.Nodup) (hargs : As'.map (xV (xS is θ.length)) = As) (hst : st0 = As.reverse ++ st) (hna : As.length = na) (hroom : (st.map fun v => v.category).sum ≤ 8)
    (hR : rm.frames + 1 ≤ R.frames ∧ 8 + (maxL + 11) + rm.locals ≤ R.locals) (hrc : rm.cells = 0 ∧ rm.slots = 0) (hkn : k ≤ R.cells ∧ n ≤ R.slots) (hL : lv.length = nL) (hfl : θc'.length = θc.length) (h2 : xSet θ is (θc'.map (xEr (xS is θ.length))) = θ2) (hr : r.map (xV (xS is θ.length)) = r2)
    (kk : g k n θ2 (pc + 3) lv (r2.toList ++ st)) : g k n θ pc lv st0 := by
  refine r_callS C is hM hm hlk d hθ hnd hargs hst hna hroom hR hrc hkn hL (fun r' θ'' h => by rw [h.2]; exact hfl) (fun r' θ'' h => ?_)
  obtain ⟨rfl, rfl⟩ := h
  have h3 : xAft θ is θ'' = θ2 := by
    unfold xAft
    have h4 := (xIs hθ).1
    rw [List.take_of_length_le (by omega), List.drop_of_length_le (by omega), h2]
    simp
  rw [h3, hr]
  exact kk
end FW
