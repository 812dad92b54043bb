/-! ===== rows that make cells ===== -/
abbrev yE : Type := (Nat × Nat × (Nat → Int32)) ⊕ ((Nat × Nat × List (Option Nat)) ⊕ (Nat × List Value))
def xRA (l : List (Option Nat)) : Nat → Option Nat := fun k => match l[k]? with
  | some o => o
  | none => none
def xOf (y : yE) : xE := match y with
  | .inl (t, n, f) => .inl (t, n, .inl f)
  | .inr (.inl (t, n, l)) => .inl (t, n, .inr (.inr (.inr (.inr (xRA l)))))
  | .inr (.inr o) => .inr o
def vB (N : Nat) (v : Value) : Bool := match v with
  | .ref i => decide (i < N) || decide (1000000 ≤ i)
  | _ => true
def oB (N : Nat) (o : Option Nat) : Bool := match o with
  | some i => decide (i < N)
  | none => true
def yB (N : Nat) (y : yE) : Bool := match y with
  | .inl _ => true
  | .inr (.inl (_, _, l)) => l.all (oB N)
  | .inr (.inr o) => o.2.all (vB N)
def lB (N : Nat) (o : Option Value) : Bool := match o with
  | some v => vB N v
  | none => true
def yOk (N : Nat) (sh : List yE) (lv : List (Option Value)) (st : List Value) : Bool := sh.all (yB N) && (lv.all (lB N) && st.all (vB N))
theorem vB_ok {N : Nat} {v : Value} (h : vB N v = true) : xKv N v := by
  cases v with
  | ref i =>
    simp only [vB, Bool.or_eq_true, decide_eq_true_eq] at h
    exact h
  | _ => trivial
theorem yOk_ok {N : Nat} {sh : List yE} {lv : List (Option Value)} {st : List Value} (h : yOk N sh lv st = true) : xKa N (sh.map xOf) lv st := by
  simp only [yOk, Bool.and_eq_true, List.all_eq_true] at h
  obtain ⟨h1, h2, h3⟩ := h
  refine ⟨fun i x hx => ?_, fun i v hv => ?_, fun v hv => vB_ok (h3 v hv)⟩
  · rw [List.getElem?_map] at hx
    cases hy : sh[i]? with
    | none => rw [hy] at hx; cases hx
    | some y =>
      rw [hy] at hx
      cases hx
      have h4 := h1 y (List.mem_of_getElem? hy)
      rcases y with ⟨t, n, f⟩ | ⟨t, n, l⟩ | o
      · trivial
      · intro k i hk
        simp only [yB, List.all_eq_true] at h4
        unfold xRA at hk
        cases hl : l[k]? with
        | none => rw [hl] at hk; cases hk
        | some q =>
          rw [hl] at hk
          simp only at hk
          subst hk
          have h5 := h4 _ (List.mem_of_getElem? hl)
          simpa [oB] using h5
      · intro v hv
        simp only [yB, List.all_eq_true] at h4
        exact vB_ok (h4 v hv)
  · have h4 := h2 _ (List.mem_of_getElem? hv)
    exact vB_ok h4
theorem va_RA_eq {U : State} {cA cB : ClassId} {ty : FieldType} (h1 : va_RA U cA ty) (h2 : va_RA U cB ty) : cA = cB := by
  cases ty with
  | object C =>
    obtain ⟨_, _, _, _, _, a⟩ := h1
    obtain ⟨_, _, _, _, _, b⟩ := h2
    exact Option.some.inj (a.symm.trans b)
  | _ => exact Option.some.inj (Eq.trans (Eq.symm h1) h2)
section GROW
variable {ρ0 : Nat → Nat} {n0 : Nat} {nw : List Nat} {τ : Nat → ClassId} {θ : List xE} {lv : List (Option Value)} {st : List Value} {x : xE} {ls : Array Slot}
theorem xGrow (qs : List Nat) (e1 : θ.length = n0 + nw.length) (hN : θ.length + qs.length ≤ 1000000) : ∀ i, i < θ.length ∨ 1000000 ≤ i → xX ρ0 n0 (nw ++ qs) i = xX ρ0 n0 nw i := by
  intro i hi
  unfold xX
  by_cases h1 : i < n0
  · rw [if_pos h1, if_pos h1]
  · rw [if_neg h1, if_neg h1]
    rcases hi with hi | hi
    · rw [List.getElem?_append_left (by omega)]
    · rw [List.getElem?_eq_none (by rw [List.length_append]; omega), List.getElem?_eq_none (by omega)]
theorem xGrowAt (q : Nat) (e1 : θ.length = n0 + nw.length) : xX ρ0 n0 (nw ++ [q]) θ.length = q := by
  unfold xX
  rw [if_neg (by omega), e1, show n0 + nw.length - n0 = nw.length by omega]
  simp
theorem xGrowL {qs : List Nat} (hρ : ∀ i, i < θ.length ∨ 1000000 ≤ i → xX ρ0 n0 (nw ++ qs) i = xX ρ0 n0 nw i) (hK : xKa θ.length θ lv st) (h6 : xL (xX ρ0 n0 nw) ls lv) : xL (xX ρ0 n0 (nw ++ qs)) ls lv := ⟨h6.1, h6.2.1, fun i v hv => by rw [xKv_eq hρ (hK.2.1 i v hv)]; exact h6.2.2 i v hv⟩
theorem xGrowS {qs : List Nat} (hρ : ∀ i, i < θ.length ∨ 1000000 ≤ i → xX ρ0 n0 (nw ++ qs) i = xX ρ0 n0 nw i) (hK : xKa θ.length θ lv st) : st.map (xV (xX ρ0 n0 (nw ++ qs))) = st.map (xV (xX ρ0 n0 nw)) := List.map_congr_left (fun v hv => xKv_eq hρ (hK.2.2 v hv))
theorem xGrowW {q : Nat} (e1 : θ.length = n0 + nw.length) (hρ : ∀ i, i < θ.length ∨ 1000000 ≤ i → xX ρ0 n0 (nw ++ [q]) i = xX ρ0 n0 nw i) (hK : xKa θ.length θ lv st) (hx : xC (xX ρ0 n0 (nw ++ [q])) τ x = xC (xX ρ0 n0 nw) τ x) : xW (xX ρ0 n0 nw) τ θ ++ [(q, xC (xX ρ0 n0 nw) τ x)] = xW (xX ρ0 n0 (nw ++ [q])) τ (θ ++ [x]) := by
  apply List.ext_getElem?
  intro i
  have hl : (xW (xX ρ0 n0 nw) τ θ).length = θ.length := xW_len
  by_cases h1 : i < θ.length
  · rw [List.getElem?_append_left (by rw [hl]; exact h1), xW_get, xW_get, List.getElem?_append_left h1, List.getElem?_eq_getElem h1]
    simp only [Option.map_some]
    rw [hρ i (Or.inl h1), xKe_eq hρ (hK.1 i _ (List.getElem?_eq_getElem h1))]
  · by_cases h2 : i = θ.length
    · subst h2
      rw [List.getElem?_append_right (by rw [hl]; omega), hl, Nat.sub_self, xW_get, List.getElem?_append_right (by omega), Nat.sub_self]
      simp only [List.getElem?_cons_zero, Option.map_some]
      rw [xGrowAt q e1, hx]
    · rw [List.getElem?_eq_none (by rw [List.length_append, hl]; simp; omega), List.getElem?_eq_none (by rw [xW_len, List.length_append]; simp; omega)]
end GROW
section FW
variable {cc : ByteArray} {own nm : String} {nL : Nat} {R : Room} {g : Nat → Nat → List xE → Nat → List (Option Value) → List Value → Prop} {k n : Nat} {θ θ' : List xE} {pc : Nat} {lv : List (Option Value)} {st : List Value}
theorem r_new (C : Sem cc own nm nL R g) {ix ci : Nat} {cn : String} {T : u_T} {N : Nat} {fs : List Value} {ty : Nat → FieldType} (hin : ∀ w ∈ u_ws cn T N, w ∈ TT) (hty : ∀ k, k < N → parseFieldDescriptor (T k).2.2.1 = some (ty k)) (hcl : Cond.classLink own ix cn ∈ TT) (hinst : Cond.instantiable cn N ∈ TT) (hini : Cond.initialized cn ∈ TT) (hc : vwCl[ci]? = some (cn, T, N)) (hfs : ∀ j, j < N → defaultValue (ty j) = vp_V fs j) (hmap : ∀ ρ, fs.map (xV ρ) = fs) (d : decode cc pc = .ok (.new ix, 3)) (hK9 : xKa θ.length θ lv st) (hN : θ.length + 1 ≤ 1000000) (hkn : k + 1 ≤ R.cells ∧ n + N ≤ R.slots) (hs : θ ++ [.inr (ci, fs)] = θ') (kk : g (k + 1) (n + N) θ' (pc + 3) lv (.ref θ.length :: st)) : g k n θ pc lv st := by
  obtain ⟨p, l, e, s, m, args, below, meth, c, D, A, τ, ρ0, n0, Q, ⟨hx, hb, hts, hown, hnm, hml⟩, ⟨hK, hA, hT⟩, rfl⟩ := C
  subst hs
  rintro ρ H locs ls ⟨nw, e1, rfl⟩ h3 h4 h5 h6
  refine va_new (ci := ci) (fs := fs) (C := cn) (T := T) (N := N) hx hb hts hin ty hty hown (hts _ hcl) (hts _ hinst) (hts _ hini) hK h3 h4 h5 hA hc hfs hkn.1 hkn.2 d (fun q H1 w1 w2 w3 => ?_)
  have hρ := xGrow (ρ0 := ρ0) (θ := θ) [q] e1 hN
  have hW := xGrowW (τ := τ) (x := .inr (ci, fs)) e1 hρ hK9 (by simp only [xC, hmap])
  simp only [xC, hmap] at hW
  rw [hW] at w1 w2
  have w4 := kk _ H1 locs ls ⟨nw ++ [q], by rw [List.length_append, List.length_append, e1]; simp only [List.length_cons, List.length_nil]; omega, rfl⟩ w1 w2 w3 (xGrowL hρ hK9 h6)
  simp only [List.map_cons, xV, xGrowAt q e1] at w4
  rw [xGrowS hρ hK9] at w4
  exact w4
theorem r_newarray (C : Sem cc own nm nL R g) {at_ : ArrayType} {t : Nat} {ty : FieldType} {z : Int32} {N : Nat} (hw : Cond.arrayClass ty ∈ TT) (hty : newarray.typeOf at_ = ty) (ht : ∀ τ : Nat → ClassId, (xT τ)[t]? = some (τ t, ty)) (ha : ∀ cA : ClassId, vp_cell cA (N, .inl (fun _ => 0)) = arrV cA N (fun _ => defaultValue ty)) (d : decode cc pc = .ok (.newarray at_, 2)) (hz : z = nI N) (hb1 : N < 2 ^ 31 ∧ N * componentBytes ty ≤ 536870912) (hK9 : xKa θ.length θ lv st) (hN : θ.length + 1 ≤ 1000000) (hkn : k + 1 ≤ R.cells ∧ n + N ≤ R.slots) (hs : θ ++ [.inl (t, N, .inl (fun _ => 0))] = θ') (kk : g (k + 1) (n + N) θ' (pc + 2) lv (.ref θ.length :: st)) : g k n θ pc lv (.int z :: st) := by
  obtain ⟨p, l, e, s, m, args, below, meth, c, D, A, τ, ρ0, n0, Q, ⟨hx, hb, hts, hown, hnm, hml⟩, ⟨hK, hA, hT⟩, rfl⟩ := C
  subst hs; subst hz; subst hty
  rintro ρ H locs ls ⟨nw, e1, rfl⟩ h3 h4 h5 h6
  refine va_newa (D := D) (cl := vwCl) (tys := xT τ) (N' := N) (a0 := (N, .inl (fun _ => 0))) hx hb (hts _ hw) rfl hK h3 h4 h5 hA ha (nI_pos hb1.1) (nI_clamp hb1.1) hb1.2 hkn.1 hkn.2 d (fun q cA H1 wK w1 w2 w3 => ?_)
  have hcA : cA = τ t := va_RA_eq (wK.2 (xT τ).length (cA, newarray.typeOf at_) (by rw [List.getElem?_append_right (Nat.le_refl _), Nat.sub_self]; rfl)).2 (hK.2 t _ (ht τ)).2
  subst hcA
  have hρ := xGrow (ρ0 := ρ0) (θ := θ) [q] e1 hN
  have hW := xGrowW (τ := τ) (x := .inl (t, N, .inl (fun _ => 0))) e1 hρ hK9 rfl
  simp only [xC, xA] at hW
  rw [hW] at w1 w2
  have w4 := kk _ H1 locs ls ⟨nw ++ [q], by rw [List.length_append, List.length_append, e1]; simp only [List.length_cons, List.length_nil]; omega, rfl⟩ w1 w2 w3 (xGrowL hρ hK9 h6)
  simp only [List.map_cons, xV, xGrowAt q e1] at w4
  rw [xGrowS (st := st) hρ ⟨hK9.1, hK9.2.1, hK9.2.2⟩] at w4
  exact w4
theorem xRA_rep (N : Nat) : xRA (List.replicate N none) = fun _ => none := by
  funext k
  unfold xRA
  rw [List.getElem?_replicate]
  by_cases h : k < N
  · rw [if_pos h]
  · rw [if_neg h]
theorem r_anewarray (C : Sem cc own nm nL R g) {ix t : Nat} {cn : String} {z : Int32} {N : Nat} (hcl : Cond.classLink own ix cn ∈ TT) (hw : Cond.arrayOver (.object cn) ∈ xNw) (ht : ∀ τ : Nat → ClassId, (xT τ)[t]? = some (τ t, .object cn)) (d : decode cc pc = .ok (.anewarray ix, 3)) (hz : z = nI N) (hb1 : N < 2 ^ 31 ∧ N * 4 ≤ 536870912) (hK9 : xKa θ.length θ lv st) (hN : θ.length + 1 ≤ 1000000) (hkn : k + 1 ≤ R.cells ∧ n + N ≤ R.slots) (hs : θ ++ [.inl (t, N, .inr (.inr (.inr (.inr (xRA (List.replicate N none))))))] = θ') (kk : g (k + 1) (n + N) θ' (pc + 3) lv (.ref θ.length :: st)) : g k n θ pc lv (.int z :: st) := by
  obtain ⟨p, l, e, s, m, args, below, meth, c, D, A, τ, ρ0, n0, Q, ⟨hx, hb, hts, hown, hnm, hml⟩, ⟨hK, hA, hT⟩, rfl⟩ := C
  subst hs; subst hz
  rintro ρ H locs ls ⟨nw, e1, rfl⟩ h3 h4 h5 h6
  refine va_newq (D := D) (cl := vwCl) (tys := xT τ) (N' := N) hx hb hown (hts _ hcl) (hT.2 _ hw) hK h3 h4 h5 hA (nI_pos hb1.1) (nI_clamp hb1.1) hb1.2 hkn.1 hkn.2 d (fun q cA H1 wK w1 w2 w3 => ?_)
  have hcA : cA = τ t := va_RA_eq (wK.2 (xT τ).length (cA, .object cn) (by rw [List.getElem?_append_right (Nat.le_refl _), Nat.sub_self]; rfl)).2 (hK.2 t _ (ht τ)).2
  subst hcA
  have hρ := xGrow (ρ0 := ρ0) (θ := θ) [q] e1 hN
  have hW := xGrowW (τ := τ) (x := .inl (t, N, .inr (.inr (.inr (.inr (xRA (List.replicate N none))))))) e1 hρ hK9 (by rw [xRA_rep]; rfl)
  rw [xRA_rep] at hW
  simp only [xC, xA, Option.map_none] at hW
  rw [hW] at w1 w2
  rw [xRA_rep] at kk
  have w4 := kk _ H1 locs ls ⟨nw ++ [q], by rw [List.length_append, List.length_append, e1]; simp only [List.length_cons, List.length_nil]; omega, rfl⟩ w1 w2 w3 (xGrowL hρ hK9 h6)
  simp only [List.map_cons, xV, xGrowAt q e1] at w4
  rw [xGrowS (st := st) hρ ⟨hK9.1, hK9.2.1, hK9.2.2⟩] at w4
  exact w4
theorem xRA_up {l : List (Option Nat)} {j v : Nat} (hj : j < l.length) : va_up (xRA l) j (some v) = xRA (l.set j (some v)) := by
  funext k
  unfold va_up xRA
  by_cases h : k = j
  · subst h
    rw [if_pos rfl, List.getElem?_set_self hj]
  · rw [if_neg h, List.getElem?_set_ne (fun z => h z.symm)]
theorem r_aastore (C : Sem cc own nm nL R g) {a v t N ci : Nat} {cn : String} {T : u_T} {M : Nat} {l0 : List (Option Nat)} {vs : List Value} {z : Int32} (j : Nat) (d : decode cc pc = .ok (.aastore, 1)) (hθ : θ[a]? = some (.inl (t, N, .inr (.inr (.inr (.inr (xRA l0))))))) (ht : ∀ τ : Nat → ClassId, (xT τ)[t]? = some (τ t, .object cn)) (hv : θ[v]? = some (.inr (ci, vs))) (hc : vwCl[ci]? = some (cn, T, M)) (hz : z = nI j) (hj : j < N) (hN : N < 2 ^ 31) (hjl : j < l0.length) (hs : θ.set a (.inl (t, N, .inr (.inr (.inr (.inr (xRA (l0.set j (some v)))))))) = θ') (kk : g k n θ' (pc + 1) lv st) : g k n θ pc lv (.ref v :: .int z :: .ref a :: st) := by
  obtain ⟨p, l, e, s, m, args, below, meth, c, D, A, τ, ρ0, n0, Q, ⟨hx, hb, hts, hown, hnm, hml⟩, ⟨hK, hA, hT⟩, rfl⟩ := C
  subst hs; subst hz
  intro ρ H locs ls h1 h3 h4 h5 h6
  have e1 : (nI j).toNatClampNeg = j := nI_clamp (by omega)
  refine va_astq (D := D) (cl := vwCl) (tys := xT τ) (r := (cn, T, M)) hx hb hK h3 h4 h5 a t v ci (f := fun q => (xRA l0 q).map ρ) (xW_at hθ) (ht τ) (xW_at hv) hc (vp_in_nI hj hN) d (fun H1 locs1 w1 w2 w3 => ?_)
  rw [e1] at w1 w2
  have e2 : va_up (fun q => (xRA l0 q).map ρ) j (some (ρ v)) = fun q => (xRA (l0.set j (some v)) q).map ρ := by
    rw [← xRA_up hjl]
    funext q
    unfold va_up
    by_cases h : q = j
    · rw [if_pos h, if_pos h]; rfl
    · rw [if_neg h, if_neg h]
  rw [e2] at w1 w2
  have e3 := xW_set (ρ := ρ) (τ := τ) (θ := θ) (i := a) (x := .inl (t, N, .inr (.inr (.inr (.inr (xRA (l0.set j (some v))))))))
  simp only [xC, xA] at e3
  rw [e3] at w1 w2
  exact kk ρ H1 locs1 ls (by rw [List.length_set]; exact h1) w1 w2 w3 h6
theorem r_putfieldF (C : Sem cc own nm nL R g) {ix a ci fk : Nat} {fs : List Value} {v : Value} {ty : FieldType} (F : xF own ix ci fk) (Ft : xFt ci fk true ty) (hnm0 : nm = "<init>") (hcn : ∃ T N, vwCl[ci]? = some (own, T, N)) (d : decode cc pc = .ok (.putfield ix, 3)) (hθ : θ[a]? = some (.inr (ci, fs))) (hv : fk < fs.length) (hn : ∀ ρ, narrow ty (xV ρ v) = xV ρ v ∧ fits ty (xV ρ v) = true) (hs : θ.set a (.inr (ci, fs.set fk v)) = θ') (kk : g k n θ' (pc + 3) lv st) : g k n θ pc lv (v :: .ref a :: st) := by
  obtain ⟨p, l, e, s, m, args, below, meth, c, D, A, τ, ρ0, n0, Q, ⟨hx, hb, hts, hown, hnm, hml⟩, ⟨hK, hA, hT⟩, rfl⟩ := C
  obtain ⟨cn, T, N, a1, a2, a3, a4, ⟨tys, a5⟩, a6⟩ := F
  obtain ⟨T2, N2, hcn⟩ := hcn
  cases a1.symm.trans hcn
  simp only [xFt, a1] at Ft
  intro ρ H locs ls h1 h3 h4 h5 h6
  subst hs
  refine va_putF (D := D) (cl := vwCl) hx hb hts a4 tys a5 a6 hown hK h3 h4 h5 a (xW_at hθ) a1 fk a2 (hts _ a3) (fun _ h9 => h9) Ft.1 (hnm.trans hnm0) (Ft.2.2 trivial) Ft.2.1 (hn ρ).1 (hn ρ).2 (by rw [List.length_map]; exact hv) d (fun H1 locs1 w1 w2 w3 => ?_)
  have e1 : (xW ρ τ θ).set a (ρ a, .inr (ci, (fs.map (xV ρ)).set fk (xV ρ v))) = xW ρ τ (θ.set a (.inr (ci, fs.set fk v))) := by
    rw [← xW_set]
    simp only [xC, List.map_set]
  rw [e1] at w1 w2
  exact kk ρ H1 locs1 ls (by rw [List.length_set]; exact h1) w1 w2 w3 h6
theorem r_objInit (C : Sem cc own nm nL R g) {ix a : Nat} (hlink : Cond.methodLink own ix Lib.objectInit ∈ TT) (hinst : Cond.instanceMethod Lib.objectInit ∈ TT) (hcode : Cond.code Lib.objectInit ⟨#[0xb1]⟩ 1 none ∈ TT) (d : decode cc pc = .ok (.invokespecial ix, 3)) (hL : lv.length = nL) (hR : 1 ≤ R.frames ∧ (st.map fun v => v.category).sum + 12 ≤ R.locals) (kk : g k n θ (pc + 3) lv st) : g k n θ pc lv (.ref a :: st) := by
  obtain ⟨p, l, e, s, m, args, below, meth, c, D, A, τ, ρ0, n0, Q, ⟨hx, hb, hts, hown, hnm, hml⟩, ⟨hK, hA, hT⟩, rfl⟩ := C
  intro ρ H locs ls h1 h3 h4 h5 h6
  refine W.objInit hx hb hown (hts _ hlink) (hts _ hinst) (hts _ hcode) rfl (by rw [hml]; exact h6.1.trans hL) rfl d hR.1 (by show 2 * (0 : Nat) + _ + 12 ≤ _; rw [xV_cats]; omega) ?_
  exact kk ρ H locs ls h1 h3 h4 h5 h6
variable {y : MethodName} {bytes : ByteArray} {maxL na ix mc ms : Nat} {rm : Room} {θc : List xE} {fin : Option Value → List xE → Prop} {cn : String} {b : Nat} {st0 : List Value}
def xMI (C : String) (y : MethodName) (b : ByteArray) (maxL : Nat) (na : Nat) : Prop := xM C y b maxL none na ∧ y.name = "<init>" ∧ Cond.instanceMethod y ∈ TT
theorem r_initN (C : Sem cc own nm nL R g) (is : List Nat) {b' : Nat} {As' As : List Value} (hM : MetA y (.code y bytes maxL none :: TT) rm (.ref b' :: As') θc fin mc ms) (hm : xMI cn y bytes maxL na) (hlk : (∃ host, Cond.methodLinkNest own ix y host ∈ xNw) ∨ Cond.methodLink own ix y ∈ TT) (d : decode cc pc = .ok (.invokespecial ix, 3))
    (hθ : is.map (fun i => θ[i]?) = θc.map (fun x => some (xEr (xS is θ.length) x))) (hnd : is.Nodup) (hargs : (Value.ref b' :: As').map (xV (xS is θ.length)) = .ref b :: As) (hst : st0 = As.reverse ++ .ref b :: st) (hna : As.length = na) (hroom : (st.map fun v => v.category).sum ≤ 8)
    (hR : rm.frames + 1 ≤ R.frames ∧ 8 + (maxL + 11) + rm.locals ≤ R.locals) (hrc : rm.cells = mc ∧ rm.slots = ms) (hkn : k + mc ≤ R.cells ∧ n + ms ≤ R.slots) (hL : lv.length = nL) (hK9 : xKa θ.length θ lv st) {θn : List xE} (hfin : ∀ r θ', fin r θ' → r = none ∧ θ' = θn) (hN : θ.length + (θn.length - θc.length) ≤ 1000000) (hs : xAft θ is θn = θ')
    (kk : g (k + mc) (n + ms) θ' (pc + 3) lv st) : g k n θ pc lv st0 := by
  obtain ⟨p, l, e, s, m, args, below, meth, c, D, A, τ, ρ0, n0, Q, ⟨hx, hb, hts, hown, hnm, hml⟩, ⟨hK, hA, hT⟩, rfl⟩ := C
  subst hst; subst hs
  rintro ρ H locs ls ⟨nw0, e1, rfl⟩ h3 h4 h5 h6
  have hσ : ∀ (j i : Nat), is[j]? = some i → xS is θ.length j = i := fun j i h => xS_lt h
  have hE := xEnter (s := s) hθ hσ hnd h3 h4 h5 hK hA hT
  have hFA := xFree (s := s) hθ hσ h4 h5 hA
  have hav : (Value.ref b' :: As').map (xV (fun i => xX ρ0 n0 nw0 (xS is θ.length i))) = .ref (xX ρ0 n0 nw0 b) :: As.map (xV (xX ρ0 n0 nw0)) := by
    have h7 := congrArg (List.map (xV (xX ρ0 n0 nw0))) hargs
    rw [List.map_map] at h7
    rw [List.map_congr_left (fun v _ => (xV_xV (xX ρ0 n0 nw0) (xS is θ.length) v).symm)]
    exact h7
  have hcat : (((st.map (xV (xX ρ0 n0 nw0)))).map fun v => v.category).sum ≤ 8 := by
    rw [xV_cats]
    exact hroom
  have hM' := hM l D τ (fun i => xX ρ0 n0 nw0 (xS is θ.length i)) H.size
  rw [hav] at hM'
  have hG : GoodIn TT (.code y bytes maxL none :: TT) := fun w hw => ⟨xMTT hm.1 hw, good_of_word (TT_good (xMTT hm.1 hw))⟩
  have hyc : y.cls = cn := hm.1.2.2.1
  have hini : (Cond.initialized y.cls).before args s = true := by rw [hyc]; exact hts _ hm.1.2.1
  have hr : va_Run p l e R s m args below meth c H locs k n mc ms (F0 m pc ls ((As.reverse ++ .ref b :: st).map (xV (xX ρ0 n0 nw0)))) (st.map (xV (xX ρ0 n0 nw0))) (xPost D τ (fun i => xX ρ0 n0 nw0 (xS is θ.length i)) θc H.size fin (Value.ref (xX ρ0 n0 nw0 b) :: As.map (xV (xX ρ0 n0 nw0))).toArray) (va_A (xW (fun i => xX ρ0 n0 nw0 (xS is θ.length i)) τ θc) H.size) := by
    rcases hlk with ⟨host, hlk⟩ | hlk
    · exact va_runIN (p := p) (e := e) (R := R) (s := s) (below := below) (meth := meth) (locs := locs) (cells := k) (slots := n) (g := F0 m pc ls ((As.reverse ++ .ref b :: st).map (xV (xX ρ0 n0 nw0)))) (As := As.map (xV (xX ρ0 n0 nw0))) (rest := st.map (xV (xX ρ0 n0 nw0))) (b := xX ρ0 n0 nw0 b) ⟨hx, hb, hml, hown, hts⟩ hM' ⟨va_cnB na hts hG rfl hrc.1 hrc.2 (hT.2 _ hlk) hini hm.1.2.2.2 hR, hm.2.1, hts _ hm.2.2⟩
        ⟨xBlind, fun U hU hW => ⟨rfl, hE U hU hW⟩⟩ rfl (by rw [List.length_map]; exact hna) (h6.1.trans hL) (by simp [List.map_append, List.map_reverse, xV]) (lv_room hcat) d hkn
    · exact va_runI (p := p) (e := e) (R := R) (s := s) (below := below) (meth := meth) (locs := locs) (cells := k) (slots := n) (g := F0 m pc ls ((As.reverse ++ .ref b :: st).map (xV (xX ρ0 n0 nw0)))) (As := As.map (xV (xX ρ0 n0 nw0))) (rest := st.map (xV (xX ρ0 n0 nw0))) (b := xX ρ0 n0 nw0 b) ⟨hx, hb, hml, hown, hts⟩ hM' (cwI na hts hG rfl hrc.1 hrc.2 hini (hts _ hlk) (hts _ hm.2.2) hm.2.1 hm.1.2.2.2 hR)
        ⟨xBlind, fun U hU hW => ⟨rfl, hE U hU hW⟩⟩ rfl (by rw [List.length_map]; exact hna) (h6.1.trans hL) (by simp [List.map_append, List.map_reverse, xV]) (lv_room hcat) d hkn
  refine xRun hr h5 hFA hFA (fun r θ1 nw H1 locs1 g1 g2 g3 g4 g5 g6 => ?_)
  obtain ⟨hr0, hθ1⟩ := hfin r θ1 g2
  subst hr0; subst hθ1
  have hρ := xGrow (ρ0 := ρ0) (θ := θ) nw e1 (by omega)
  have hXX : xX (xX ρ0 n0 nw0) θ.length nw = xX ρ0 n0 (nw0 ++ nw) := by rw [e1]; exact xX_app ρ0 n0 nw0 nw
  obtain ⟨w1, w2, w3, w4⟩ := xLeave hθ hnd h3 h4 hFA (nw := nw) (fun i x hx2 => by rw [hXX]; exact xKe_eq hρ (hK9.1 i x hx2)) g1 g3 g4 g5
  rw [hXX] at w2 w3
  have w5 := kk (xX ρ0 n0 (nw0 ++ nw)) H1 locs1 ls ⟨nw0 ++ nw, by rw [w1, e1, List.length_append]; omega, rfl⟩ w2 w3 g6 (xGrowL hρ hK9 h6)
  rw [xGrowS hρ hK9] at w5
  exact w5
end FW
