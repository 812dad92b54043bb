/-! ===== calls ===== -/
def xEr (σ : Nat → Nat) (x : xE) : xE := match x with
  | .inl a => .inl (a.1, xA σ a.2)
  | .inr o => .inr (o.1, o.2.map (xV σ))
theorem xV_xV (ρ σ : Nat → Nat) (v : Value) : xV ρ (xV σ v) = xV (fun i => ρ (σ i)) v := by cases v <;> rfl
theorem xA_xA (ρ σ : Nat → Nat) (a : vp_A) : xA ρ (xA σ a) = xA (fun i => ρ (σ i)) a := by
  obtain ⟨n, a⟩ := a
  rcases a with a | a | a | a | a <;> simp [xA, Function.comp_def]
theorem xC_xEr (ρ σ : Nat → Nat) (τ : Nat → ClassId) (x : xE) : xC ρ τ (xEr σ x) = xC (fun i => ρ (σ i)) τ x := by
  rcases x with a | o
  · simp only [xEr, xC, xA_xA]
  · simp only [xEr, xC, List.map_map]
    congr 2
    apply List.map_congr_left
    intro v _
    exact xV_xV ρ σ v
/-- the caller's place of the callee's place i -/
def xS (is : List Nat) (base : Nat) : Nat → Nat := fun i => match is[i]? with
  | some a => a
  | none => base + (i - is.length)
def xSet : List xE → List Nat → List xE → List xE
  | θ, i :: is, x :: xs => xSet (θ.set i x) is xs
  | θ, _, _ => θ
theorem xSet_len : ∀ (is : List Nat) (θ xs : List xE), (xSet θ is xs).length = θ.length
  | [], θ, xs => by cases xs <;> rfl
  | i :: is, θ, [] => rfl
  | i :: is, θ, x :: xs => by
    show (xSet (θ.set i x) is xs).length = _
    rw [xSet_len is, List.length_set]
theorem xSet_out : ∀ (is : List Nat) (θ xs : List xE) (i : Nat), i ∉ is → (xSet θ is xs)[i]? = θ[i]?
  | [], θ, xs, i, _ => by cases xs <;> rfl
  | a :: is, θ, [], i, _ => rfl
  | a :: is, θ, x :: xs, i, h => by
    show (xSet (θ.set a x) is xs)[i]? = _
    rw [xSet_out is _ _ _ (fun q => h (List.mem_cons_of_mem _ q)), List.getElem?_set_ne (fun q => h (by rw [q]; exact List.mem_cons_self))]
theorem xSet_in : ∀ (is : List Nat) (θ xs : List xE) (j i : Nat) (x : xE), is.Nodup → is[j]? = some i → xs[j]? = some x → i < θ.length → (xSet θ is xs)[i]? = some x
  | [], θ, xs, j, i, x, _, h, _, _ => by simp at h
  | a :: is, θ, [], j, i, x, _, _, h, _ => by simp at h
  | a :: is, θ, y :: xs, 0, i, x, hn, h, hx, hi => by
    simp only [List.getElem?_cons_zero, Option.some.injEq] at h hx
    subst h; subst hx
    show (xSet (θ.set a y) is xs)[a]? = _
    rw [xSet_out is _ _ _ (List.nodup_cons.mp hn).1, List.getElem?_set_self hi]
  | a :: is, θ, y :: xs, j + 1, i, x, hn, h, hx, hi => by
    simp only [List.getElem?_cons_succ] at h hx
    show (xSet (θ.set a y) is xs)[i]? = _
    exact xSet_in is _ _ j i x (List.nodup_cons.mp hn).2 h hx (by rw [List.length_set]; exact hi)
theorem xD_iff {A : Nat → Prop} {ρ : Nat → Nat} {τ : Nat → ClassId} {θ : List xE} : va_D A (xW ρ τ θ) ↔ (∀ i j, i < θ.length → j < θ.length → ρ i = ρ j → i = j) ∧ ∀ i, i < θ.length → A (ρ i) := by
  have hg : ∀ i, i < θ.length → ∃ x, (xW ρ τ θ)[i]? = some (ρ i, x) := fun i hi => ⟨_, xW_at (List.getElem?_eq_getElem hi)⟩
  have hb : ∀ (i : Nat) (q : Nat × va_E), (xW ρ τ θ)[i]? = some q → i < θ.length ∧ q.1 = ρ i := by
    intro i q hq
    rw [xW_get] at hq
    cases h : θ[i]? with
    | none => rw [h] at hq; cases hq
    | some x =>
      rw [h] at hq
      cases hq
      exact ⟨(List.getElem?_eq_some_iff.mp h).1, rfl⟩
  constructor
  · rintro ⟨h1, h2⟩
    refine ⟨fun i j hi hj e => ?_, fun i hi => ?_⟩
    · obtain ⟨x, hx⟩ := hg i hi
      obtain ⟨y, hy⟩ := hg j hj
      exact h1 i j _ _ hx hy e
    · obtain ⟨x, hx⟩ := hg i hi
      exact h2 i _ hx
  · rintro ⟨h1, h2⟩
    refine ⟨fun i j p q hp hq e => ?_, fun i q hq => ?_⟩
    · obtain ⟨a1, a2⟩ := hb i p hp
      obtain ⟨b1, b2⟩ := hb j q hq
      exact h1 i j a1 b1 (by rw [← a2, ← b2]; exact e)
    · obtain ⟨a1, a2⟩ := hb i q hq
      rw [a2]
      exact h2 i a1
def xPre (D : va_G) (τ : Nat → ClassId) (ρ : Nat → Nat) (θ : List xE) (sz : Nat) (U : State) : Prop := U.heap.size = sz ∧ va_P D vwCl (xW ρ τ θ) U.heap ∧ va_K D vwCl (xT τ) U ∧ va_D (fun _ => True) (xW ρ τ θ) ∧ (xTab (va_A (xW ρ τ θ) sz) U ∧ xNest U)
def xPost (D : va_G) (τ : Nat → ClassId) (ρ : Nat → Nat) (θ : List xE) (sz : Nat) (fin : Option Value → List xE → Prop) : Array Value → State → Outcome → State → Prop := fun _ st oc t => (∃ (r : Option Value) (θ' : List xE) (nw : List Nat), oc = .returned (r.map (xV (xX ρ θ.length nw))) ∧ θ'.length = θ.length + nw.length ∧ fin r θ' ∧ va_P D vwCl (xW (xX ρ θ.length nw) τ θ') t.heap ∧ va_D (va_A (xW ρ τ θ) sz) (xW (xX ρ θ.length nw) τ θ')) ∧ va_F (va_A (xW ρ τ θ) sz) st t
/-- a method's contract: from the world θ, with the arguments av, it returns, and fin holds of its answer and the world behind it -/
def MetA (y : MethodName) (ws : List Cond) (rm : Room) (av : List Value) (θ : List xE) (fin : Option Value → List xE → Prop) (mc ms : Nat) : Prop :=
  ∀ (l : Launch) (D : va_G) (τ : Nat → ClassId) (ρ : Nat → Nat) (sz : Nat), Met l y ws rm (va_Pc (av.map (xV ρ)) (xPre D τ ρ θ sz)) (xPost D τ ρ θ sz fin) mc ms (va_A (xW ρ τ θ) sz)
/-- the facts of the tables that a call of the method y needs -/
def xM (C : String) (y : MethodName) (b : ByteArray) (maxL : Nat) (ret : Option FieldType) (na : Nat) : Prop := Cond.code y b maxL ret ∈ TT ∧ Cond.initialized C ∈ TT ∧ (y.cls = C ∧ y.cls ≠ "java/lang/invoke/MethodHandle" ∧ y.cls ≠ "java/lang/invoke/VarHandle" ∧ (parseMethodDescriptor y.desc).map (fun d => d.parameters.length) = some na)
def xMV (C : String) (y : MethodName) (b : ByteArray) (maxL : Nat) (ret : Option FieldType) (na : Nat) : Prop := xM C y b maxL ret na ∧ Cond.instanceMethod y ∈ TT ∧ Cond.selects C y y ∈ TT
def xMS (C : String) (y : MethodName) (b : ByteArray) (maxL : Nat) (ret : Option FieldType) (na : Nat) : Prop := xM C y b maxL ret na ∧ Cond.static y ∈ TT
theorem xGV {own C : String} {ix : Nat} {y : MethodName} {b : ByteArray} {maxL na : Nat} {ret : Option FieldType} (hm : xMV C y b maxL ret na) (hl : Cond.methodLink own ix y ∈ TT) : GoodIn TT (wsV own ix C y (.code y b maxL ret :: TT)) := by
  intro w hw
  have hT : w ∈ TT := by
    unfold wsV at hw
    rcases List.mem_append.mp hw with h | h
    · simp only [List.mem_cons, List.not_mem_nil, or_false] at h
      rcases h with rfl | rfl | rfl | rfl
      · exact hl
      · exact hm.2.1
      · exact hm.2.2
      · exact hm.1.2.1
    · rcases List.mem_cons.mp h with rfl | h
      · exact hm.1.1
      · exact h
  exact ⟨hT, good_of_word (TT_good hT)⟩
theorem xGS {own C : String} {ix : Nat} {y : MethodName} {b : ByteArray} {maxL na : Nat} {ret : Option FieldType} (hm : xMS C y b maxL ret na) (hl : Cond.methodLink own ix y ∈ TT) : GoodIn TT (va_wsS own ix y (.code y b maxL ret :: TT)) := by
  intro w hw
  have hT : w ∈ TT := by
    unfold va_wsS at hw
    rcases List.mem_append.mp hw with h | h
    · simp only [List.mem_cons, List.not_mem_nil, or_false] at h
      rcases h with rfl | rfl | rfl
      · exact hl
      · exact hm.2
      · rw [hm.1.2.2.1]; exact hm.1.2.1
    · rcases List.mem_cons.mp h with rfl | h
      · exact hm.1.1
      · exact h
  exact ⟨hT, good_of_word (TT_good hT)⟩
