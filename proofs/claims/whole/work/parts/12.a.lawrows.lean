/-! ===== the law's world ===== -/
def isC : List Nat := [0, 1, 27, 28, 29, 30, 31, 32, 33, 34, 35, 36, 37, 38, 39, 40, 41, 42, 2, 3, 4, 5, 6, 7, 8, 9, 10, 11, 12, 13, 14, 15, 16, 43, 44, 45, 46, 47, 48, 49, 50, 51, 52, 53, 54, 17, 18, 19, 20, 21, 22, 23, 24, 25, 26]
def isM : List Nat := [55, 56, 57, 58, 59, 60, 61, 62, 63, 64, 65, 66, 67, 68]
def LWp (θ : List xE) (S : Nat → Nat → Nat → Int32) (M : Nat → Nat → Int32) : Prop := θ.length = 69 ∧ isC.map (fun i => θ[i]?) = (wC S).map (fun x => some (xEr (xS isC 69) x)) ∧ isM.map (fun i => θ[i]?) = (wM M).map (fun x => some (xEr (xS isM 69) x))
theorem isC_nd : isC.Nodup := by decide
theorem isM_nd : isM.Nodup := by decide
theorem wC_len (S : Nat → Nat → Nat → Int32) : (wC S).length = 55 := rfl
theorem wM_len (M : Nat → Nat → Int32) : (wM M).length = 14 := rfl
theorem xSet_map {is : List Nat} {θ xs : List xE} (hn : is.Nodup) (hl : is.length = xs.length) (hi : ∀ i ∈ is, i < θ.length) : is.map (fun i => (xSet θ is xs)[i]?) = xs.map some := by
  apply List.ext_getElem?
  intro j
  rw [List.getElem?_map, List.getElem?_map]
  by_cases h : j < is.length
  · have h2 : j < xs.length := by omega
    rw [List.getElem?_eq_getElem h, List.getElem?_eq_getElem h2]
    simp only [Option.map_some]
    rw [xSet_in is θ xs j is[j] xs[j] hn (List.getElem?_eq_getElem h) (List.getElem?_eq_getElem h2) (hi _ (List.getElem_mem h))]
  · rw [List.getElem?_eq_none (by omega), List.getElem?_eq_none (by omega)]
    rfl
theorem isC_lt : ∀ i ∈ isC, i < 69 := by decide
theorem isM_lt : ∀ i ∈ isM, i < 69 := by decide
theorem isC_M : ∀ i ∈ isM, i ∉ isC := by decide
theorem isM_C : ∀ i ∈ isC, i ∉ isM := by decide
theorem LWp_c {θ : List xE} {S : Nat → Nat → Nat → Int32} {M : Nat → Nat → Int32} (h : LWp θ S M) (S' : Nat → Nat → Nat → Int32) : LWp (xSet θ isC ((wC S').map (xEr (xS isC θ.length)))) S' M := by
  obtain ⟨h1, h2, h3⟩ := h
  rw [h1]
  refine ⟨by rw [xSet_len]; exact h1, ?_, ?_⟩
  · rw [xSet_map isC_nd (by rw [List.length_map]; rfl) (fun i hi => by rw [h1]; exact isC_lt i hi), List.map_map]
    rfl
  · rw [← h3]
    exact List.map_congr_left (fun i hi => xSet_out isC _ _ i (isC_M i hi))
theorem LWp_m {θ : List xE} {S : Nat → Nat → Nat → Int32} {M : Nat → Nat → Int32} (h : LWp θ S M) (M' : Nat → Nat → Int32) : LWp (xSet θ isM ((wM M').map (xEr (xS isM θ.length)))) S M' := by
  obtain ⟨h1, h2, h3⟩ := h
  rw [h1]
  refine ⟨by rw [xSet_len]; exact h1, ?_, ?_⟩
  · rw [← h2]
    exact List.map_congr_left (fun i hi => xSet_out isM _ _ i (isM_C i hi))
  · rw [xSet_map isM_nd (by rw [List.length_map]; rfl) (fun i hi => by rw [h1]; exact isM_lt i hi), List.map_map]
    rfl
theorem LWp_c0 {θ : List xE} {S : Nat → Nat → Nat → Int32} {M : Nat → Nat → Int32} (h : LWp θ S M) : θ[0]? = some (.inr (5, [.ref 1, .ref 2, .ref 4, .ref 10, .ref 16, .ref 17, .ref 22, .ref 26, .int (S 0 8 0), .int (S 0 9 0)])) := Option.some.inj (congrArg (fun l => l[0]?) h.2.1)
theorem LWp_m0 {θ : List xE} {S : Nat → Nat → Nat → Int32} {M : Nat → Nat → Int32} (h : LWp θ S M) : ∃ fs, θ[55]? = some (.inr (6, fs)) := ⟨_, Option.some.inj (congrArg (fun l => l[0]?) h.2.2)⟩
theorem LWp_cT {θ : List xE} {S : Nat → Nat → Nat → Int32} {M : Nat → Nat → Int32} (h : LWp θ S M) : isC.map (fun i => θ[i]?) = (wC S).map (fun x => some (xEr (xS isC θ.length) x)) := by rw [h.1]; exact h.2.1
theorem LWp_mT {θ : List xE} {S : Nat → Nat → Nat → Int32} {M : Nat → Nat → Int32} (h : LWp θ S M) : isM.map (fun i => θ[i]?) = (wM M).map (fun x => some (xEr (xS isM θ.length) x)) := by rw [h.1]; exact h.2.2
theorem vp_refs {cA : ClassId} {n : Nat} {f f' : Nat → Option Nat} (h : ∀ k, k < n → f k = f' k) : vp_cell cA (n, .inr (.inr (.inr (.inr f)))) = vp_cell cA (n, .inr (.inr (.inr (.inr f')))) := by
  rw [vp_cell_q, vp_cell_q]
  unfold arrV
  have e : (fun j : Fin n => va_rf (f j.val)) = fun j : Fin n => va_rf (f' j.val) := funext fun j => by rw [h j.val j.isLt]
  rw [e]
def SemL (R : Room) (L : Nat) (xs : Nat → Int32) (nm : String) (g : Nat → Nat → List xE → Nat → List (Option Value) → List Value → Prop) : Prop :=
  ∃ (p : Program) (l : Launch) (e : Env) (s : State) (m : MethodId) (args : Array Value) (below : List Frame) (meth : Method) (c : Code) (D : va_G) (A : Nat → Prop) (τ : Nat → ClassId) (ρ0 : Nat → Nat) (Q : State → Prop),
    (p.tables.exec = Jvm.exec ∧ c.code = code ∧ (∀ w ∈ TT, w.before args s = true) ∧ s.vm.findClass "HammockReachLaw" = some m.cls ∧ meth.name = nm ∧ c.maxLocals = 4) ∧ (va_K D vwCl (xT τ) s ∧ (∀ q : Nat, s.heap.size ≤ q → A q) ∧ (xTab A s ∧ xNest s)) ∧ (va_X (ρ0 1000000) L xs s s.heap ∧ ρ0 1000000 < s.heap.size ∧ ¬ A (ρ0 1000000)) ∧ g = G p l e R s m args below meth c D A τ ρ0 0 Q
theorem SemL.sem {R : Room} {L : Nat} {xs : Nat → Int32} {nm : String} {g : Nat → Nat → List xE → Nat → List (Option Value) → List Value → Prop} (C : SemL R L xs nm g) : Sem code "HammockReachLaw" nm 4 R g := by
  obtain ⟨p, l, e, s, m, args, below, meth, c, D, A, τ, ρ0, Q, h1, h2, -, h4⟩ := C
  exact ⟨p, l, e, s, m, args, below, meth, c, D, A, τ, ρ0, 0, Q, h1, h2, h4⟩
section FW
variable {R : Room} {L : Nat} {xs : Nat → Int32} {nm : String} {g : Nat → Nat → List xE → Nat → List (Option Value) → List Value → Prop} {k n : Nat} {θ : List xE} {pc : Nat} {lv : List (Option Value)} {st : List Value}
theorem r_sld (C : SemL R L xs nm g) {x : Int32} (j : Nat) (d : decode code pc = .ok (.iaload, 1)) (hx0 : x = nI j) (hj : j < L) (hL : L < 2 ^ 31) (hN : θ.length ≤ 1000000) (kk : g k n θ (pc + 1) lv (.int (xs j) :: st)) : g k n θ pc lv (.int x :: .ref 1000000 :: st) := by
  obtain ⟨p, l, e, s, m, args, below, meth, c, D, A, τ, ρ0, Q, ⟨hx, hb, hts, hown, hnm, hml⟩, ⟨hK, hA, hT⟩, ⟨hX, hbl, hbA⟩, rfl⟩ := C
  subst hx0
  rintro ρ H locs ls ⟨nw, e1, rfl⟩ h3 h4 h5 h6
  have e2 : xX ρ0 0 nw 1000000 = ρ0 1000000 := xX_ge (by omega)
  have e3 : (nI j).toNatClampNeg = j := nI_clamp (by omega)
  have w := kk (xX ρ0 0 nw) H locs ls ⟨nw, e1, rfl⟩ h3 h4 h5 h6
  show W p l e R s m args below meth c H locs k n Q (F0 m pc ls (.int (nI j) :: .ref (xX ρ0 0 nw 1000000) :: st.map (xV (xX ρ0 0 nw))))
  rw [e2]
  refine va_sld hx hb hX hbl hbA h5 (vp_in_nI hj hL) d ?_
  rw [e3]
  exact w
theorem r_slen (C : SemL R L xs nm g) (d : decode code pc = .ok (.arraylength, 1)) (hN : θ.length ≤ 1000000) (kk : g k n θ (pc + 1) lv (.int (nI L) :: st)) : g k n θ pc lv (.ref 1000000 :: st) := by
  obtain ⟨p, l, e, s, m, args, below, meth, c, D, A, τ, ρ0, Q, ⟨hx, hb, hts, hown, hnm, hml⟩, ⟨hK, hA, hT⟩, ⟨hX, hbl, hbA⟩, rfl⟩ := C
  rintro ρ H locs ls ⟨nw, e1, rfl⟩ h3 h4 h5 h6
  have e2 : xX ρ0 0 nw 1000000 = ρ0 1000000 := xX_ge (by omega)
  have w := kk (xX ρ0 0 nw) H locs ls ⟨nw, e1, rfl⟩ h3 h4 h5 h6
  show W p l e R s m args below meth c H locs k n Q (F0 m pc ls (.ref (xX ρ0 0 nw 1000000) :: st.map (xV (xX ρ0 0 nw))))
  rw [e2]
  exact va_slen hx hb hX hbl hbA h5 d w
end FW
section FW2
variable {cc : ByteArray} {own nm : String} {nL : Nat} {R : Room} {g : Nat → Nat → List xE → Nat → List (Option Value) → List Value → Prop} {k n : Nat} {θ θ' : List xE} {pc : Nat} {lv : List (Option Value)} {st : List Value}
theorem r_cell (C : Sem cc own nm nL R g) (i : Nat) {t N : Nat} {f f' : Nat → Option Nat} (hθ : θ[i]? = some (.inl (t, N, .inr (.inr (.inr (.inr f)))))) (hf : ∀ j, j < N → f j = f' j) (hs : θ.set i (.inl (t, N, .inr (.inr (.inr (.inr f'))))) = θ') (kk : g k n θ' pc lv st) : g k n θ pc lv st := by
  obtain ⟨p, l, e, s, m, args, below, meth, c, D, A, τ, ρ0, n0, Q, ⟨hx, hb, hts, hown, hnm, hml⟩, ⟨hK, hA, hT⟩, rfl⟩ := C
  subst hs
  intro ρ H locs ls h1 h3 h4 h5 h6
  have hlen : (θ.set i (.inl (t, N, .inr (.inr (.inr (.inr f')))))).length = θ.length := List.length_set
  refine kk ρ H locs ls (by rw [hlen]; exact h1) (fun q x hx2 => ?_) (xD_iff.mpr (by rw [hlen]; exact xD_iff.mp h4)) h5 h6
  rw [xW_get, List.getElem?_set] at hx2
  by_cases hq : i = q
  · subst hq
    rw [if_pos rfl, if_pos (List.getElem?_eq_some_iff.mp hθ).1] at hx2
    cases hx2
    have h7 := h3 i _ (xW_at hθ)
    have h8 : H[ρ i]? = some (vp_cell (τ t) (N, .inr (.inr (.inr (.inr (fun k => (f k).map ρ)))))) := h7
    show H[ρ i]? = some (vp_cell (τ t) (N, .inr (.inr (.inr (.inr (fun k => (f' k).map ρ))))))
    rw [show vp_cell (τ t) (N, .inr (.inr (.inr (.inr (fun k => (f' k).map ρ))))) = vp_cell (τ t) (N, .inr (.inr (.inr (.inr (fun k => (f k).map ρ))))) from vp_refs (fun j hj => by rw [hf j hj])]
    exact h8
  · rw [if_neg hq] at hx2
    exact h3 q x (by rw [xW_get]; exact hx2)
variable {y : MethodName} {bytes : ByteArray} {maxL na ix mc ms : Nat} {ret : Option FieldType} {rm : Room} {θc : List xE} {cn : String} {b : Nat} {st0 : List Value} {r r2 : Option Value} {W_ : (Nat → Nat → Int32) → List xE} {θ2 : (Nat → Nat → Int32) → List xE}
theorem r_callVE (C : Sem cc own nm nL R g) (is : List Nat) {b' ci : Nat} {As' As : List Value} {fs : List Value} {T : u_T} {N : Nat} (hM : MetA y (.code y bytes maxL ret :: TT) rm (.ref b' :: As') θc (fun a b => a = r ∧ ∃ O, b = W_ O) 0 0) (hm : xMV cn y bytes maxL ret na) (hlk : Cond.methodLink own ix y ∈ TT) (d : decode cc pc = .ok (.invokevirtual ix, 3))
    (hθ : is.map (fun i => θ[i]?) = θc.map (fun x => some (xEr (xS is θ.length) x))) (hnd : is.Nodup) (hargs : (Value.ref b' :: As').map (xV (xS is θ.length)) = .ref b :: As) (hrecv : θ[b]? = some (.inr (ci, fs))) (hcl : vwCl[ci]? = some (cn, T, N)) (hst : st0 = As.reverse ++ .ref b :: st) (hna : As.length = na) (hroom : (st.map fun v => v.category).sum ≤ 8)
    (hR : rm.frames + 1 ≤ R.frames ∧ 8 + (maxL + 11) + rm.locals ≤ R.locals) (hrc : rm.cells = 0 ∧ rm.slots = 0) (hkn : k ≤ R.cells ∧ n ≤ R.slots) (hL : lv.length = nL) (hfl : ∀ O, (W_ O).length = θc.length) (h2 : ∀ O, xSet θ is ((W_ O).map (xEr (xS is θ.length))) = θ2 O) (hr : r.map (xV (xS is θ.length)) = r2)
    (kk : ∀ O, g k n (θ2 O) (pc + 3) lv (r2.toList ++ st)) : g k n θ pc lv st0 := by
  refine r_callV C is hM hm hlk d hθ hnd hargs hrecv hcl hst hna hroom hR hrc hkn hL (fun r' θ'' h => by obtain ⟨-, O, rfl⟩ := h; exact hfl O) (fun r' θ'' h => ?_)
  obtain ⟨rfl, O, rfl⟩ := h
  have h3 : xAft θ is (W_ O) = θ2 O := by
    unfold xAft
    have h4 := (xIs hθ).1
    have h5 := hfl O
    rw [List.take_of_length_le (by omega), List.drop_of_length_le (by omega), h2]
    simp
  rw [h3, hr]
  exact kk O
end FW2
def xEl (g : Nat → Nat → List xE → Nat → List (Option Value) → List Value → Prop) : Prop := ∀ (k n : Nat) (θ : List xE) (pc : Nat) (lv : List (Option Value)), decode code pc = .ok (.ireturn, 1) → k ≤ 600000 → n ≤ 7302250 → g k n θ pc lv [.int 1]
