def xLa : List Value → List (Option Value)
  | [] => []
  | .long x :: vs => some (.long x) :: none :: xLa vs
  | .double x :: vs => some (.double x) :: none :: xLa vs
  | v :: vs => some v :: xLa vs
def xLv (av : List Value) (n : Nat) : List (Option Value) := xLa av ++ List.replicate (n - (xLa av).length) none
theorem xLa_args (ρ : Nat → Nat) : ∀ (av : List Value) (b i : Nat) (v : Value), (xLa av)[i]? = some (some v) → (b + i, xV ρ v) ∈ lv_args b (av.map (xV ρ))
  | [], b, i, v, h => by simp [xLa] at h
  | a :: av, b, i, v, h => by
    have ih := xLa_args ρ av
    cases a with
    | long x =>
      rcases i with _ | _ | i
      · simp only [xLa, List.getElem?_cons_zero, Option.some.injEq] at h
        subst h
        exact List.mem_cons_self
      · simp [xLa] at h
      · simp only [xLa, List.getElem?_cons_succ] at h
        have h2 := ih (b + 2) i v h
        refine List.mem_cons_of_mem _ ?_
        show (b + (i + 1 + 1), _) ∈ lv_args (b + 2) _
        rw [show b + (i + 1 + 1) = b + 2 + i by omega]
        exact h2
    | double x =>
      rcases i with _ | _ | i
      · simp only [xLa, List.getElem?_cons_zero, Option.some.injEq] at h
        subst h
        exact List.mem_cons_self
      · simp [xLa] at h
      · simp only [xLa, List.getElem?_cons_succ] at h
        have h2 := ih (b + 2) i v h
        refine List.mem_cons_of_mem _ ?_
        show (b + (i + 1 + 1), _) ∈ lv_args (b + 2) _
        rw [show b + (i + 1 + 1) = b + 2 + i by omega]
        exact h2
    | int x | float x | null | ref x | retAddr x =>
      rcases i with _ | i
      · simp only [xLa, List.getElem?_cons_zero, Option.some.injEq] at h
        subst h
        exact List.mem_cons_self
      · simp only [xLa, List.getElem?_cons_succ] at h
        have h2 := ih (b + 1) i v h
        refine List.mem_cons_of_mem _ ?_
        rw [show b + (i + 1) = b + 1 + i by omega]
        exact h2
theorem xL_entry {ρ : Nat → Nat} {av : List Value} {n : Nat} (h1 : (lg_sl (av.map (xV ρ))).length ≤ n) (h2 : (xLa av).length ≤ n) : xL ρ ((lg_sl (av.map (xV ρ)) ++ List.replicate (n - (lg_sl (av.map (xV ρ))).length) Slot.unset).toArray) (xLv av n) := by
  obtain ⟨a1, a2, a3⟩ := lv_entry (av.map (xV ρ)) h1
  refine ⟨by rw [a1]; simp only [xLv, List.length_append, List.length_replicate]; omega, a2, fun i v hv => ?_⟩
  unfold xLv at hv
  by_cases hi : i < (xLa av).length
  · rw [List.getElem?_append_left hi] at hv
    have h3 := xLa_args ρ av 0 i v hv
    rw [Nat.zero_add] at h3
    exact a3 _ h3
  · rw [List.getElem?_append_right (by omega), List.getElem?_replicate] at hv
    split at hv <;> cases hv
/-- how a method that answers an int, or a boolean, ends -/
def xEi (g : Nat → Nat → List xE → Nat → List (Option Value) → List Value → Prop) (cc : ByteArray) (rt : FieldType) (mc ms : Nat) (fin : Option Value → List xE → Prop) : Prop := ∀ (k n : Nat) (θ : List xE) (pc : Nat) (lv : List (Option Value)) (v : Int32), decode cc pc = .ok (.ireturn, 1) → k ≤ mc → n ≤ ms → narrow rt (.int v) = .int v → fin (some (.int v)) θ → g k n θ pc lv [.int v]
def xEv (g : Nat → Nat → List xE → Nat → List (Option Value) → List Value → Prop) (cc : ByteArray) (mc ms : Nat) (fin : Option Value → List xE → Prop) : Prop := ∀ (k n : Nat) (θ : List xE) (pc : Nat) (lv : List (Option Value)), decode cc pc = .ok (.return_, 1) → k ≤ mc → n ≤ ms → fin none θ → g k n θ pc lv []
theorem xSem {p : Program} {l : Launch} {e : Env} {R : Room} {s : State} {m : MethodId} {args : Array Value} {below : List Frame} {meth : Method} {c : Code} {D : va_G} {τ : Nat → ClassId} {ρ : Nat → Nat} {θ : List xE} {cc : ByteArray} {y : MethodName} {maxL : Nat} {ret : Option FieldType} {Q : State → Prop} {s₁ : State}
    (B : BodyLoose p l y (headSpec (.code y cc maxL ret :: TT) R) cc maxL ret e s m args below meth c s₁) (hml : c.maxLocals = maxL) (hv : xPre D τ ρ θ s.heap.size s) : Sem cc y.cls y.name maxL R (G p l e R s m args below meth c D (va_A (xW ρ τ θ) s.heap.size) τ ρ θ.length Q) := by
  obtain ⟨-, hP, hK, hD0, hT⟩ := hv
  exact ⟨p, l, e, s, m, args, below, meth, c, D, _, τ, ρ, θ.length, Q, ⟨B.exec, B.bytes, fun w hw => atoms_spec (ws := .code y cc maxL ret :: TT) B.pre w (List.mem_cons_of_mem _ hw), findClass_of_methodNamed B.named, (name_of_methodNamed B.named B.method).1, hml⟩, ⟨hK, fun q hq => Or.inr hq, hT⟩, rfl⟩
theorem MetA.of_i {y : MethodName} {cc : ByteArray} {maxL : Nat} {rt : FieldType} {rm : Room} {av : List Value} {θ : List xE} {fin : Option Value → List xE → Prop} {mc ms : Nat} (hy : plainName y.cls = true) (h1 : ∀ ρ, (lg_sl (av.map (xV ρ))).length ≤ maxL) (h2 : (xLa av).length ≤ maxL)
    (body : ∀ g, Sem cc y.cls y.name maxL rm g → xEi g cc rt mc ms fin → g 0 0 θ 0 (xLv av maxL) []) : MetA y (.code y cc maxL (some rt) :: TT) rm av θ fin mc ms := by
  intro l D τ ρ sz
  refine Met.ofW (cc := cc) (maxL := maxL) (ret := some rt) hy rfl ?_
  intro p e s m args below meth c s₁ B hml hv
  obtain ⟨rfl, hv⟩ := hv
  have hsz := hv.1
  subst hsz
  have C := xSem (Q := MQ below (xPost D τ ρ θ s.heap.size fin) ((av.map (xV ρ)).toArray) s mc ms (va_A (xW ρ τ θ) s.heap.size)) B hml hv
  have hx := B.exec
  have hb := B.bytes
  have hr := B.returns
  have hlocks := B.notSynchronized
  have K := body _ C (fun k n θ' pc lv v d k1 k2 hn hf => by
    intro ρ' H locs ls ⟨nw, e1, e2⟩ g3 g4 g5 g6
    subst e2
    refine W.widen k1 k2 ?_
    exact W.zret hx hb hr hn (fun t ht hW => ⟨⟨some (.int v), θ', nw, rfl, e1, hf, by rw [ht]; exact g3, g4⟩, g5.F ht⟩) g5.2.2 d hlocks)
  rw [lg_entry_eq]
  exact K ρ s.heap [] _ ⟨[], by simp, (xX_nil _ _).symm⟩ hv.2.1 hv.2.2.2.1.self va_S.rf (xL_entry (h1 ρ) h2)
theorem MetA.of_v {y : MethodName} {cc : ByteArray} {maxL : Nat} {rm : Room} {av : List Value} {θ : List xE} {fin : Option Value → List xE → Prop} {mc ms : Nat} (hy : plainName y.cls = true) (h1 : ∀ ρ, (lg_sl (av.map (xV ρ))).length ≤ maxL) (h2 : (xLa av).length ≤ maxL)
    (body : ∀ g, Sem cc y.cls y.name maxL rm g → xEv g cc mc ms fin → g 0 0 θ 0 (xLv av maxL) []) : MetA y (.code y cc maxL none :: TT) rm av θ fin mc ms := by
  intro l D τ ρ sz
  refine Met.ofW (cc := cc) (maxL := maxL) (ret := none) hy rfl ?_
  intro p e s m args below meth c s₁ B hml hv
  obtain ⟨rfl, hv⟩ := hv
  have hsz := hv.1
  subst hsz
  have C := xSem (Q := MQ below (xPost D τ ρ θ s.heap.size fin) ((av.map (xV ρ)).toArray) s mc ms (va_A (xW ρ τ θ) s.heap.size)) B hml hv
  have hx := B.exec
  have hb := B.bytes
  have hr := B.returns
  have hlocks := B.notSynchronized
  have K := body _ C (fun k n θ' pc lv d k1 k2 hf => by
    intro ρ' H locs ls ⟨nw, e1, e2⟩ g3 g4 g5 g6
    subst e2
    refine W.widen k1 k2 ?_
    exact W.vret hx hb hr (fun t ht hW => ⟨⟨none, θ', nw, rfl, e1, hf, by rw [ht]; exact g3, g4⟩, g5.F ht⟩) g5.2.2 d hlocks)
  rw [lg_entry_eq]
  exact K ρ s.heap [] _ ⟨[], by simp, (xX_nil _ _).symm⟩ hv.2.1 hv.2.2.2.1.self va_S.rf (xL_entry (h1 ρ) h2)
section FW
variable {cc : ByteArray} {own nm : String} {nL : Nat} {R : Room} {g : Nat → Nat → List xE → Nat → List (Option Value) → List Value → Prop} {k n : Nat} {θ : List xE} {pc : Nat} {lv : List (Option Value)} {st : List Value}
/-- a read of one of the three tables, by a local or by 0 -/
def xTw (own : String) (ix : Nat) (nmf : String) (f : Nat → Int32) : Prop := Cond.fieldLink own ix "HammockReach" nmf "[I" ∈ TT ∧ ((nmf = "ABOVE" ∧ f = xtab1) ∨ (nmf = "SIZE_BODIES" ∧ f = xtab2) ∨ (nmf = "MARK_BODIES" ∧ f = xtab3))
theorem xTw.tab {own nmf : String} {ix : Nat} {f : Nat → Int32} {A : Nat → Prop} {U : State} (h : xTw own ix nmf f) (hT : xTab A U) : xTab1 nmf f A U := by
  rcases h.2 with ⟨rfl, rfl⟩ | ⟨rfl, rfl⟩ | ⟨rfl, rfl⟩
  · exact hT.1
  · exact hT.2.1
  · exact hT.2.2
theorem r_tabL (C : Sem cc own nm nL R g) {ix i : Nat} {jj : Fin 4} {nmf : String} {f : Nat → Int32} {x : Int32} (j : Nat) (ht : xTw own ix nmf f) (d1 : decode cc pc = .ok (.getstatic ix, 3)) (d2 : decode cc (pc + 3) = .ok (.iload_n jj, 1)) (d3 : decode cc (pc + 4) = .ok (.iaload, 1)) (hi : (jj : Nat) = i) (hl : lv[i]? = some (some (.int x))) (hx0 : x = nI j) (hj : j < 6) (kk : g k n θ (pc + 5) lv (.int (f j) :: st)) : g k n θ pc lv st := by
  obtain ⟨p, l, e, s, m, args, below, meth, c, D, A, τ, ρ0, n0, Q, ⟨hx, hb, hts, hown, hnm, hml⟩, ⟨hK, hA, hT⟩, rfl⟩ := C
  intro ρ H locs ls h1 h3 h4 h5 h6
  subst hx0
  obtain ⟨t, hZ, hT1⟩ := ht.tab hT.1
  have e1 : (nI j).toNatClampNeg = j := nI_clamp (by omega)
  refine va_gets hx hb hZ h5 hown (hts _ ht.1) (fun _ h => h) d1 ?_
  refine lv_iload_n hx hb d2 hi (h6.2.2 i _ hl) ?_
  refine va_ti hx hb hT1 h5 (vp_in_nI hj (by decide)) rfl d3 ?_
  rw [e1]
  exact kk ρ H locs ls h1 h3 h4 h5 h6
theorem r_tab0 (C : Sem cc own nm nL R g) {ix : Nat} {nmf : String} {f : Nat → Int32} (ht : xTw own ix nmf f) (d1 : decode cc pc = .ok (.getstatic ix, 3)) (d2 : decode cc (pc + 3) = .ok (.iconst 0, 1)) (d3 : decode cc (pc + 4) = .ok (.iaload, 1)) (kk : g k n θ (pc + 5) lv (.int (f 0) :: st)) : g k n θ pc lv st := by
  obtain ⟨p, l, e, s, m, args, below, meth, c, D, A, τ, ρ0, n0, Q, ⟨hx, hb, hts, hown, hnm, hml⟩, ⟨hK, hA, hT⟩, rfl⟩ := C
  intro ρ H locs ls h1 h3 h4 h5 h6
  obtain ⟨t, hZ, hT1⟩ := ht.tab hT.1
  refine va_gets hx hb hZ h5 hown (hts _ ht.1) (fun _ h => h) d1 ?_
  refine lv_iconst (v := nI 0) hx hb d2 (by decide) ?_
  refine va_ti hx hb hT1 h5 (vp_in_nI (by decide) (by decide)) rfl d3 ?_
  exact kk ρ H locs ls h1 h3 h4 h5 h6
theorem r_abs (C : Sem cc own nm nL R g) {ix : Nat} {x : Int32} (hw : Cond.methodLink own ix Lib.Math.abs.name ∈ TT ∧ Cond.static Lib.Math.abs.name ∈ TT ∧ Cond.initialized "java/lang/Math" ∈ TT ∧ Cond.code Lib.Math.abs.name Lib.Math.abs.code 1 (some .int) ∈ TT) (d : decode cc pc = .ok (.invokestatic ix, 3)) (hL : lv.length = nL) (hroom : 1 ≤ R.frames ∧ (st.map fun v => v.category).sum + 13 ≤ R.locals) (hkn : k ≤ R.cells ∧ n ≤ R.slots) (kk : g k n θ (pc + 3) lv (.int (if 0 ≤ x then x else 0 - x) :: st)) : g k n θ pc lv (.int x :: st) := by
  obtain ⟨p, l, e, s, m, args, below, meth, c, D, A, τ, ρ0, n0, Q, ⟨hx, hb, hts, hown, hnm, hml⟩, ⟨hK, hA, hT⟩, rfl⟩ := C
  intro ρ H locs ls h1 h3 h4 h5 h6
  exact va_mabs hx hb (hml.trans (h6.1.trans hL).symm) hown (hts _ hw.1) (hts _ hw.2.1) (hts _ hw.2.2.1) (hts _ hw.2.2.2) hroom.1 (by rw [xV_cats]; exact hroom.2) hkn.1 hkn.2 d (kk ρ H locs ls h1 h3 h4 h5 h6)
theorem r_copy (C : Sem cc own nm nL R g) {ix a0 a1 N0 N1 : Nat} {f0 f1 : Nat → Int32} {sp dp z : Int32} {θ' : List xE} (hw : Cond.methodLink own ix arraycopyName ∈ TT ∧ Cond.native arraycopyName ∈ TT ∧ Cond.static arraycopyName ∈ TT ∧ Cond.initialized "java/lang/System" ∈ TT) (i j q : Nat) (d : decode cc pc = .ok (.invokestatic ix, 3)) (hL : lv.length = nL) (hroom : 1 ≤ R.frames ∧ (st.map fun v => v.category).sum + (nativeFrameWords "java/lang/System" "arraycopy" 5 + 11) ≤ R.locals)
    (hθ0 : θ[a0]? = some (.inl (0, N0, .inl f0))) (hθ1 : θ[a1]? = some (.inl (0, N1, .inl f1))) (hi : sp = nI i) (hj : dp = nI j) (hq : z = nI q) (b1 : i + q ≤ N0) (b2 : j + q ≤ N1) (hs : θ.set a1 (.inl (0, N1, .inl (va_cpy f0 f1 i j q))) = θ') (kk : g k n θ' (pc + 3) lv st) (hN : N0 < 2 ^ 31 ∧ N1 < 2 ^ 31 := by decide) : g k n θ pc lv (.int z :: .int dp :: .ref a1 :: .int sp :: .ref a0 :: st) := by
  obtain ⟨p, l, e, s, m, args, below, meth, c, D, A, τ, ρ0, n0, Q, ⟨hx, hb, hts, hown, hnm, hml⟩, ⟨hK, hA, hT⟩, rfl⟩ := C
  intro ρ H locs ls h1 h3 h4 h5 h6
  subst hi; subst hj; subst hq; subst hs
  have c1 : (nI i).toNatClampNeg = i := nI_clamp (by omega)
  have c2 : (nI j).toNatClampNeg = j := nI_clamp (by omega)
  have c3 : (nI q).toNatClampNeg = q := nI_clamp (by omega)
  refine va_copyi (D := D) (cl := vwCl) (tys := xT τ) (ty := .int) hx hb (hml.trans (h6.1.trans hL).symm) hown (hts _ hw.1) (hts _ hw.2.1) (hts _ hw.2.2.1) (hts _ hw.2.2.2) hK h3 h4 h5 a0 a1 0 0 (c0 := τ 0) (c1 := τ 0) (n0 := N0) (n1 := N1) (f := f0) (g := f1) (xW_at hθ0) (xW_at hθ1) rfl rfl rfl (nI_pos (by omega)) (nI_pos (by omega)) (nI_pos (by omega)) (by rw [c1, c3]; exact b1) (by rw [c2, c3]; exact b2) (fun _ _ => rfl) hroom.1 (by rw [xV_cats]; exact hroom.2) d (fun H1 locs1 w1 w2 w3 => ?_)
  rw [c1, c2, c3] at w1 w2
  exact kk ρ H1 locs1 ls (by rw [List.length_set]; exact h1) (xW_set (ρ := ρ) (τ := τ) (θ := θ) (i := a1) ▸ w1) (xW_set (ρ := ρ) (τ := τ) (θ := θ) (i := a1) ▸ w2) w3 h6
/-- fewer locals -/
def xSub : List (Option Value) → List (Option Value) → Prop
  | [], [] => True
  | none :: a, _ :: b => xSub a b
  | some v :: a, w :: b => w = some v ∧ xSub a b
  | _, _ => False
theorem xSub_spec : ∀ (a b : List (Option Value)), xSub a b → a.length = b.length ∧ ∀ (i : Nat) (v : Value), a[i]? = some (some v) → b[i]? = some (some v)
  | [], [], _ => ⟨rfl, fun i v h => h⟩
  | [], _ :: _, h => h.elim
  | none :: a, [], h => h.elim
  | some v :: a, [], h => h.elim
  | none :: a, w :: b, h => by
    obtain ⟨h1, h2⟩ := xSub_spec a b h
    refine ⟨by simp [h1], fun i v hv => ?_⟩
    cases i with
    | zero => simp at hv
    | succ i => exact h2 i v (by simpa using hv)
  | some x :: a, w :: b, h => by
    obtain ⟨h1, h2⟩ := xSub_spec a b h.2
    refine ⟨by simp [h1], fun i v hv => ?_⟩
    cases i with
    | zero =>
      simp only [List.getElem?_cons_zero] at hv ⊢
      rw [h.1]
      exact hv
    | succ i => exact h2 i v (by simpa using hv)
theorem r_drop (C : Sem cc own nm nL R g) {lv' : List (Option Value)} (hl : xSub lv' lv) (kk : g k n θ pc lv' st) : g k n θ pc lv st := by
  obtain ⟨p, l, e, s, m, args, below, meth, c, D, A, τ, ρ0, n0, Q, ⟨hx, hb, hts, hown, hnm, hml⟩, ⟨hK, hA, hT⟩, rfl⟩ := C
  intro ρ H locs ls h1 h3 h4 h5 h6
  obtain ⟨e1, e2⟩ := xSub_spec _ _ hl
  exact kk ρ H locs ls h1 h3 h4 h5 ⟨by rw [h6.1, e1], h6.2.1, fun i v hv => h6.2.2 i v (e2 i v hv)⟩
end FW
