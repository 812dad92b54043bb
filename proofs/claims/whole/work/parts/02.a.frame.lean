/-! ===== worlds as lists of cells, a reference being its place ===== -/
abbrev xE : Type := (Nat × vp_A) ⊕ (Nat × List Value)
def xV (ρ : Nat → Nat) (v : Value) : Value := match v with
  | .ref a => .ref (ρ a)
  | v => v
def xA (ρ : Nat → Nat) (a : vp_A) : vp_A := match a with
  | (n, .inr (.inr (.inr (.inr g)))) => (n, .inr (.inr (.inr (.inr (fun k => (g k).map ρ)))))
  | a => a
def xC (ρ : Nat → Nat) (τ : Nat → ClassId) (x : xE) : va_E := match x with
  | .inl a => .inl (τ a.1, xA ρ a.2)
  | .inr o => .inr (o.1, o.2.map (xV ρ))
def xW (ρ : Nat → Nat) (τ : Nat → ClassId) (θ : List xE) : va_W := θ.mapIdx (fun i x => (ρ i, xC ρ τ x))
theorem xW_get {ρ : Nat → Nat} {τ : Nat → ClassId} {θ : List xE} {i : Nat} : (xW ρ τ θ)[i]? = (θ[i]?).map (fun x => (ρ i, xC ρ τ x)) := by
  simp [xW]
theorem xW_at {ρ : Nat → Nat} {τ : Nat → ClassId} {θ : List xE} {i : Nat} {x : xE} (h : θ[i]? = some x) : (xW ρ τ θ)[i]? = some (ρ i, xC ρ τ x) := by
  rw [xW_get, h]; rfl
theorem xW_set {ρ : Nat → Nat} {τ : Nat → ClassId} {θ : List xE} {i : Nat} {x : xE} : (xW ρ τ θ).set i (ρ i, xC ρ τ x) = xW ρ τ (θ.set i x) := by
  apply List.ext_getElem?
  intro j
  rw [xW_get, List.getElem?_set, List.getElem?_set, xW_get]
  have hlen : (xW ρ τ θ).length = θ.length := by simp [xW]
  by_cases hij : i = j
  · subst hij
    simp only [if_true, hlen]
    split <;> rfl
  · simp only [if_neg hij]
theorem xW_len {ρ : Nat → Nat} {τ : Nat → ClassId} {θ : List xE} : (xW ρ τ θ).length = θ.length := by simp [xW]
theorem xV_cat (ρ : Nat → Nat) (v : Value) : (xV ρ v).category = v.category := by cases v <;> rfl
/-- the locals -/
def xL (ρ : Nat → Nat) (ls : Array Slot) (lv : List (Option Value)) : Prop := ls.size = lv.length ∧ lv_wf ls ∧ ∀ (i : Nat) (v : Value), lv[i]? = some (some v) → ls[i]? = some (.val (xV ρ v))
def xLl (ρ : Nat → Nat) (lv : List (Option Value)) : List (Nat × Value) := (List.range lv.length).filterMap (fun i => match lv[i]? with | some (some v) => some (i, xV ρ v) | _ => none)
theorem xLl_in {ρ : Nat → Nat} {lv : List (Option Value)} {q : Nat × Value} : q ∈ xLl ρ lv ↔ ∃ v, lv[q.1]? = some (some v) ∧ q.2 = xV ρ v := by
  unfold xLl
  rw [List.mem_filterMap]
  constructor
  · rintro ⟨i, -, h⟩
    split at h
    · rename_i v hv
      cases h
      exact ⟨v, hv, rfl⟩
    · cases h
  · rintro ⟨v, hv, hq⟩
    refine ⟨q.1, List.mem_range.mpr (List.getElem?_eq_some_iff.mp hv).1, ?_⟩
    rw [hv]
    simp only [← hq]
theorem xL_has {ρ : Nat → Nat} {ls : Array Slot} {lv : List (Option Value)} (h : xL ρ ls lv) : lv_has ls lv.length (xLl ρ lv) := by
  refine ⟨h.1, h.2.1, fun q hq => ?_⟩
  obtain ⟨v, hv, e⟩ := xLl_in.mp hq
  rw [e]
  exact h.2.2 q.1 v hv
/-- no long stands just below the place i -/
def xN (lv : List (Option Value)) (i : Nat) : Prop := match i with
  | 0 => True
  | j + 1 => match lv[j]? with
    | some (some (.long _)) => False
    | some (some (.double _)) => False
    | _ => True
theorem xL_set1 {ρ : Nat → Nat} {ls' : Array Slot} {lv : List (Option Value)} {i : Nat} {v : Value} (hi : i < lv.length) (hn : xN lv i) (h' : lv_has ls' lv.length ((i, xV ρ v) :: (xLl ρ lv).filter (fun q => !(q.1 == i) && !(q.1 + 1 == i && q.2.category == 2)))) : xL ρ ls' (lv.set i (some v)) := by
  refine ⟨by rw [h'.1, List.length_set], h'.2.1, fun j w hw => ?_⟩
  rw [List.getElem?_set] at hw
  by_cases hij : i = j
  · subst hij
    rw [if_pos rfl, if_pos hi] at hw
    cases hw
    exact h'.2.2 (i, xV ρ v) List.mem_cons_self
  · rw [if_neg hij] at hw
    refine h'.2.2 (j, xV ρ w) (List.mem_cons_of_mem _ (List.mem_filter.mpr ⟨xLl_in.mpr ⟨w, hw, rfl⟩, ?_⟩))
    have h1 : (j == i) = false := by simp; omega
    by_cases h2 : j + 1 = i
    · subst h2
      have h3 : (xV ρ w).category ≠ 2 := by
        rw [xV_cat]
        intro h4
        simp only [xN, hw] at hn
        cases w <;> simp [Value.category] at h4 hn
      simp [h1, h3]
    · simp [h1, h2]
theorem xL_set2 {ρ : Nat → Nat} {ls' : Array Slot} {lv : List (Option Value)} {i : Nat} {v : Value} (hi : i + 1 < lv.length) (hn : xN lv i) (h' : lv_has ls' lv.length ((i, xV ρ v) :: (xLl ρ lv).filter (fun q => !(q.1 == i) && (!(q.1 == i + 1) && !(q.1 + 1 == i && q.2.category == 2))))) : xL ρ ls' ((lv.set i (some v)).set (i + 1) none) := by
  refine ⟨by rw [h'.1, List.length_set, List.length_set], h'.2.1, fun j w hw => ?_⟩
  rw [List.getElem?_set, List.getElem?_set, List.length_set] at hw
  by_cases hi1 : i + 1 = j
  · subst hi1
    rw [if_pos rfl, if_pos hi] at hw
    cases hw
  rw [if_neg hi1] at hw
  by_cases hij : i = j
  · subst hij
    rw [if_pos rfl, if_pos (by omega)] at hw
    cases hw
    exact h'.2.2 (i, xV ρ v) List.mem_cons_self
  · rw [if_neg hij] at hw
    refine h'.2.2 (j, xV ρ w) (List.mem_cons_of_mem _ (List.mem_filter.mpr ⟨xLl_in.mpr ⟨w, hw, rfl⟩, ?_⟩))
    have h1 : (j == i) = false := by simp; omega
    have h1b : (j == i + 1) = false := by simp; omega
    by_cases h2 : j + 1 = i
    · subst h2
      have h3 : (xV ρ w).category ≠ 2 := by
        rw [xV_cat]
        intro h4
        simp only [xN, hw] at hn
        cases w <;> simp [Value.category] at h4 hn
      simp [h1, h1b, h3]
    · simp [h1, h1b, h2]
/-- the kinds of arrays that worlds hold: 0 int, 1 boolean, 2 rows of forests, 3 rows of Rows -/
def xT (τ : Nat → ClassId) : List (ClassId × FieldType) := [(τ 0, .int), (τ 1, .boolean), (τ 2, .object "HammockReach$Forest"), (τ 3, .object "HammockReach$Row")]
/-- the three tables that nobody writes -/
def xtab1 : Nat → Int32 := fun k => match k with | 0 => 0 | 1 => 0 | 2 => 1 | 3 => 1 | 4 => 0 | _ => 4
def xtab2 : Nat → Int32 := fun k => match k with | 0 => 10 | 1 => 11 | 2 => 12 | 3 => 0 | 4 => 13 | _ => 14
def xtab3 : Nat → Int32 := fun k => match k with | 0 => 20 | 1 => 21 | 2 => 24 | 3 => 22 | 4 => 23 | _ => 0
def xTab1 (nm : String) (f : Nat → Int32) (A : Nat → Prop) (U : State) : Prop := ∃ t : Nat, va_Z "HammockReach" nm "[I" (.ref t) A U U.heap ∧ va_T .int t 6 (fun j => .int (f j)) A U U.heap
def xTab (A : Nat → Prop) (U : State) : Prop := xTab1 "ABOVE" xtab1 A U ∧ xTab1 "SIZE_BODIES" xtab2 A U ∧ xTab1 "MARK_BODIES" xtab3 A U
theorem xTab1.moves {nm : String} {f : Nat → Int32} {A B : Nat → Prop} {u U : State} (hvm : u.vm.Alike U.vm) (hq : ∀ a : Nat, a < u.heap.size → ¬ A a → U.heap[a]? = u.heap[a]?) (hAB : ∀ q, B q → A q) (h : xTab1 nm f A u) : xTab1 nm f B U := by
  obtain ⟨t, h1, h2⟩ := h
  exact ⟨t, ((h1.moved hvm).kept hq).narrow hAB, ((h2.moved hvm).kept hq).narrow hAB⟩
theorem xTab.moves {A B : Nat → Prop} {u U : State} (hvm : u.vm.Alike U.vm) (hq : ∀ a : Nat, a < u.heap.size → ¬ A a → U.heap[a]? = u.heap[a]?) (hAB : ∀ q, B q → A q) (h : xTab A u) : xTab B U := ⟨h.1.moves hvm hq hAB, h.2.1.moves hvm hq hAB, h.2.2.moves hvm hq hAB⟩
/-- links of nest mates -/
def xNw : List Cond := [.methodLinkNest "HammockReach" 17 ⟨"HammockReach$Tape", "<init>", "()V"⟩ "HammockReach", .methodLinkNest "HammockReach" 24 ⟨"HammockReach$Forest", "<init>", "()V"⟩ "HammockReach", .methodLinkNest "HammockReach" 38 ⟨"HammockReach$Acts", "<init>", "()V"⟩ "HammockReach", .methodLinkNest "HammockReach" 45 ⟨"HammockReach$Outlook", "<init>", "()V"⟩ "HammockReach", .methodLinkNest "HammockReach" 54 ⟨"HammockReach$Row", "<init>", "()V"⟩ "HammockReach", .methodLinkNest "HammockReach$Tape" 89 ⟨"HammockReach", "isBelow", "(II)Z"⟩ "HammockReach", .arrayOver (.object "HammockReach$Row"), .arrayOver (.object "HammockReach$Forest")]
def xNest (U : State) : Prop := ∀ w ∈ xNw, va_Nw w U
theorem xNest.warm {s U : State} (hW : s.WarmedH U.vm) (h : xNest s) : xNest U := by
  intro w hw
  have h1 := h w hw
  simp only [xNw, List.mem_cons, List.not_mem_nil, or_false] at hw
  rcases hw with rfl | rfl | rfl | rfl | rfl | rfl | rfl | rfl
  · exact va_Nw.warmM hW h1
  · exact va_Nw.warmM hW h1
  · exact va_Nw.warmM hW h1
  · exact va_Nw.warmM hW h1
  · exact va_Nw.warmM hW h1
  · exact va_Nw.warmM hW h1
  · exact va_AO.moved (C := "HammockReach$Row") hW.alike h1
  · exact va_AO.moved (C := "HammockReach$Forest") hW.alike h1
theorem xNest.same {u U : State} (hv : u.vm = U.vm) (h : xNest u) : xNest U := by
  intro w hw
  have h1 := h w hw
  simp only [xNw, List.mem_cons, List.not_mem_nil, or_false] at hw
  rcases hw with rfl | rfl | rfl | rfl | rfl | rfl | rfl | rfl
  · exact va_Nw.same rfl hv h1
  · exact va_Nw.same rfl hv h1
  · exact va_Nw.same rfl hv h1
  · exact va_Nw.same rfl hv h1
  · exact va_Nw.same rfl hv h1
  · exact va_Nw.same rfl hv h1
  · exact va_AO.moved (C := "HammockReach$Row") (by rw [hv]; exact Vm.Alike.refl _) h1
  · exact va_AO.moved (C := "HammockReach$Forest") (by rw [hv]; exact Vm.Alike.refl _) h1
/-- the words of the tables that every method may use -/
def TT : List Cond := lw_tbl.filter goodWord
theorem TT_mem {w : Cond} (i : Nat) (h : tables_1[i]? = some w) (hg : goodWord w = true) : w ∈ TT := List.mem_filter.mpr ⟨List.mem_append_right _ (List.mem_of_getElem? h), hg⟩
theorem TT_sel {w : Cond} (i : Nat) (h : (k2_sels lw_privs)[i]? = some w) (hg : goodWord w = true) : w ∈ TT := List.mem_filter.mpr ⟨List.mem_append_left _ (List.mem_of_getElem? h), hg⟩
theorem TT_good {w : Cond} (h : w ∈ TT) : goodWord w = true := (List.mem_filter.mp h).2
/-- the addresses: old ones, and the new ones behind them -/
def xX (ρ : Nat → Nat) (n : Nat) (nw : List Nat) : Nat → Nat := fun i => if i < n then ρ i else match nw[i - n]? with
  | some a => a
  | none => ρ i
theorem xX_nil (ρ : Nat → Nat) (n : Nat) : xX ρ n [] = ρ := by
  funext i
  simp [xX]
def xR (ρ0 : Nat → Nat) (n0 N : Nat) (ρ : Nat → Nat) : Prop := ∃ nw : List Nat, N = n0 + nw.length ∧ ρ = xX ρ0 n0 nw
def G (p : Program) (l : Launch) (e : Env) (R : Room) (s : State) (m : MethodId) (args : Array Value) (below : List Frame) (meth : Method) (c : Code) (D : va_G) (A : Nat → Prop) (τ : Nat → ClassId) (ρ0 : Nat → Nat) (n0 : Nat) (Q : State → Prop) (k n : Nat) (θ : List xE) (pc : Nat) (lv : List (Option Value)) (st : List Value) : Prop :=
  ∀ (ρ : Nat → Nat) (H : Heap) (locs : List Loc) (ls : Array Slot), xR ρ0 n0 θ.length ρ → va_P D vwCl (xW ρ τ θ) H → va_D A (xW ρ τ θ) → va_S A s.heap H locs → xL ρ ls lv → W p l e R s m args below meth c H locs k n Q (F0 m pc ls (st.map (xV ρ)))
def Sem (cc : ByteArray) (own nm : String) (nL : Nat) (R : Room) (g : Nat → Nat → List xE → Nat → List (Option Value) → List Value → Prop) : Prop :=
  ∃ (p : Program) (l : Launch) (e : Env) (s : State) (m : MethodId) (args : Array Value) (below : List Frame) (meth : Method) (c : Code) (D : va_G) (A : Nat → Prop) (τ : Nat → ClassId) (ρ0 : Nat → Nat) (n0 : Nat) (Q : State → Prop),
    (p.tables.exec = Jvm.exec ∧ c.code = cc ∧ (∀ w ∈ TT, w.before args s = true) ∧ s.vm.findClass own = some m.cls ∧ meth.name = nm ∧ c.maxLocals = nL) ∧ (va_K D vwCl (xT τ) s ∧ (∀ q : Nat, s.heap.size ≤ q → A q) ∧ (xTab A s ∧ xNest s)) ∧ g = G p l e R s m args below meth c D A τ ρ0 n0 Q
section FW
variable {cc : ByteArray} {own nm : String} {nL : Nat} {R : Room} {g : Nat → Nat → List xE → Nat → List (Option Value) → List Value → Prop} {k n : Nat} {θ : List xE} {pc : Nat} {lv : List (Option Value)} {st : List Value}
theorem r_iconst (C : Sem cc own nm nL R g) {z : Int} {v : Int32} (d : decode cc pc = .ok (.iconst z, 1)) (hv : Int32.ofInt z = v) (kk : g k n θ (pc + 1) lv (.int v :: st)) : g k n θ pc lv st := by
  obtain ⟨p, l, e, s, m, args, below, meth, c, D, A, τ, ρ0, n0, Q, ⟨hx, hb, hts, hown, hnm, hml⟩, ⟨hK, hA, hT⟩, rfl⟩ := C
  exact fun ρ H locs ls h1 h3 h4 h5 h6 => lv_iconst hx hb d hv (kk ρ H locs ls h1 h3 h4 h5 h6)
theorem r_bipush (C : Sem cc own nm nL R g) {z : Int} {v : Int32} (d : decode cc pc = .ok (.bipush z, 2)) (hv : (Int8.ofInt z).toInt32 = v) (kk : g k n θ (pc + 2) lv (.int v :: st)) : g k n θ pc lv st := by
  obtain ⟨p, l, e, s, m, args, below, meth, c, D, A, τ, ρ0, n0, Q, ⟨hx, hb, hts, hown, hnm, hml⟩, ⟨hK, hA, hT⟩, rfl⟩ := C
  exact fun ρ H locs ls h1 h3 h4 h5 h6 => lv_bipush hx hb d hv (kk ρ H locs ls h1 h3 h4 h5 h6)
theorem r_sipush (C : Sem cc own nm nL R g) {z : Int} {v : Int32} (d : decode cc pc = .ok (.sipush z, 3)) (hv : (Int16.ofInt z).toInt32 = v) (kk : g k n θ (pc + 3) lv (.int v :: st)) : g k n θ pc lv st := by
  obtain ⟨p, l, e, s, m, args, below, meth, c, D, A, τ, ρ0, n0, Q, ⟨hx, hb, hts, hown, hnm, hml⟩, ⟨hK, hA, hT⟩, rfl⟩ := C
  exact fun ρ H locs ls h1 h3 h4 h5 h6 => lv_sipush hx hb d hv (kk ρ H locs ls h1 h3 h4 h5 h6)
theorem r_ldc (C : Sem cc own nm nL R g) {ix : Nat} {v : Int32} (d : decode cc pc = .ok (.ldc ix, 2)) (hw : Cond.constant own ix v ∈ TT) (kk : g k n θ (pc + 2) lv (.int v :: st)) : g k n θ pc lv st := by
  obtain ⟨p, l, e, s, m, args, below, meth, c, D, A, τ, ρ0, n0, Q, ⟨hx, hb, hts, hown, hnm, hml⟩, ⟨hK, hA, hT⟩, rfl⟩ := C
  exact fun ρ H locs ls h1 h3 h4 h5 h6 => lv_ldc hx hb hown (hts _ hw) d (kk ρ H locs ls h1 h3 h4 h5 h6)
theorem r_iload_n (C : Sem cc own nm nL R g) {j : Fin 4} {i : Nat} {x : Int32} (d : decode cc pc = .ok (.iload_n j, 1)) (hi : (j : Nat) = i) (hl : lv[i]? = some (some (.int x))) (kk : g k n θ (pc + 1) lv (.int x :: st)) : g k n θ pc lv st := by
  obtain ⟨p, l, e, s, m, args, below, meth, c, D, A, τ, ρ0, n0, Q, ⟨hx, hb, hts, hown, hnm, hml⟩, ⟨hK, hA, hT⟩, rfl⟩ := C
  exact fun ρ H locs ls h1 h3 h4 h5 h6 => lv_iload_n hx hb d hi (h6.2.2 i _ hl) (kk ρ H locs ls h1 h3 h4 h5 h6)
theorem r_iload (C : Sem cc own nm nL R g) {i : Nat} {x : Int32} (d : decode cc pc = .ok (.iload i, 2)) (hl : lv[i]? = some (some (.int x))) (kk : g k n θ (pc + 2) lv (.int x :: st)) : g k n θ pc lv st := by
  obtain ⟨p, l, e, s, m, args, below, meth, c, D, A, τ, ρ0, n0, Q, ⟨hx, hb, hts, hown, hnm, hml⟩, ⟨hK, hA, hT⟩, rfl⟩ := C
  exact fun ρ H locs ls h1 h3 h4 h5 h6 => lv_iload hx hb d (h6.2.2 i _ hl) (kk ρ H locs ls h1 h3 h4 h5 h6)
theorem r_lload_n (C : Sem cc own nm nL R g) {j : Fin 4} {i : Nat} {x : Int64} (d : decode cc pc = .ok (.lload_n j, 1)) (hi : (j : Nat) = i) (hl : lv[i]? = some (some (.long x))) (kk : g k n θ (pc + 1) lv (.long x :: st)) : g k n θ pc lv st := by
  obtain ⟨p, l, e, s, m, args, below, meth, c, D, A, τ, ρ0, n0, Q, ⟨hx, hb, hts, hown, hnm, hml⟩, ⟨hK, hA, hT⟩, rfl⟩ := C
  exact fun ρ H locs ls h1 h3 h4 h5 h6 => lv_lload_n hx hb d hi (h6.2.2 i _ hl) (kk ρ H locs ls h1 h3 h4 h5 h6)
theorem r_lload (C : Sem cc own nm nL R g) {i : Nat} {x : Int64} (d : decode cc pc = .ok (.lload i, 2)) (hl : lv[i]? = some (some (.long x))) (kk : g k n θ (pc + 2) lv (.long x :: st)) : g k n θ pc lv st := by
  obtain ⟨p, l, e, s, m, args, below, meth, c, D, A, τ, ρ0, n0, Q, ⟨hx, hb, hts, hown, hnm, hml⟩, ⟨hK, hA, hT⟩, rfl⟩ := C
  exact fun ρ H locs ls h1 h3 h4 h5 h6 => lv_lload hx hb d (h6.2.2 i _ hl) (kk ρ H locs ls h1 h3 h4 h5 h6)
theorem r_aload_n (C : Sem cc own nm nL R g) {j : Fin 4} {i : Nat} {x : Nat} (d : decode cc pc = .ok (.aload_n j, 1)) (hi : (j : Nat) = i) (hl : lv[i]? = some (some (.ref x))) (kk : g k n θ (pc + 1) lv (.ref x :: st)) : g k n θ pc lv st := by
  obtain ⟨p, l, e, s, m, args, below, meth, c, D, A, τ, ρ0, n0, Q, ⟨hx, hb, hts, hown, hnm, hml⟩, ⟨hK, hA, hT⟩, rfl⟩ := C
  exact fun ρ H locs ls h1 h3 h4 h5 h6 => lv_aload_n hx hb d hi (h6.2.2 i _ hl) (kk ρ H locs ls h1 h3 h4 h5 h6)
theorem r_aload (C : Sem cc own nm nL R g) {i : Nat} {x : Nat} (d : decode cc pc = .ok (.aload i, 2)) (hl : lv[i]? = some (some (.ref x))) (kk : g k n θ (pc + 2) lv (.ref x :: st)) : g k n θ pc lv st := by
  obtain ⟨p, l, e, s, m, args, below, meth, c, D, A, τ, ρ0, n0, Q, ⟨hx, hb, hts, hown, hnm, hml⟩, ⟨hK, hA, hT⟩, rfl⟩ := C
  exact fun ρ H locs ls h1 h3 h4 h5 h6 => lv_aload hx hb d (h6.2.2 i _ hl) (kk ρ H locs ls h1 h3 h4 h5 h6)
theorem r_istore_n (C : Sem cc own nm nL R g) {j : Fin 4} {i : Nat} {x : Int32} {lv' : List (Option Value)} (d : decode cc pc = .ok (.istore_n j, 1)) (hi : (j : Nat) = i) (hn : i < lv.length) (hf : xN lv i) (hl : lv.set i (some (.int x)) = lv') (kk : g k n θ (pc + 1) lv' st) : g k n θ pc lv (.int x :: st) := by
  obtain ⟨p, l, e, s, m, args, below, meth, c, D, A, τ, ρ0, n0, Q, ⟨hx, hb, hts, hown, hnm, hml⟩, ⟨hK, hA, hT⟩, rfl⟩ := C
  subst hl
  exact fun ρ H locs ls h1 h3 h4 h5 h6 => lv_istore_n hx hb d hi (xL_has h6) hn rfl (fun ls' h => kk ρ H locs ls' h1 h3 h4 h5 (xL_set1 (v := .int x) hn hf h))
theorem r_istore (C : Sem cc own nm nL R g) {i : Nat} {x : Int32} {lv' : List (Option Value)} (d : decode cc pc = .ok (.istore i, 2)) (hn : i < lv.length) (hf : xN lv i) (hl : lv.set i (some (.int x)) = lv') (kk : g k n θ (pc + 2) lv' st) : g k n θ pc lv (.int x :: st) := by
  obtain ⟨p, l, e, s, m, args, below, meth, c, D, A, τ, ρ0, n0, Q, ⟨hx, hb, hts, hown, hnm, hml⟩, ⟨hK, hA, hT⟩, rfl⟩ := C
  subst hl
  exact fun ρ H locs ls h1 h3 h4 h5 h6 => lv_istore hx hb d (xL_has h6) hn rfl (fun ls' h => kk ρ H locs ls' h1 h3 h4 h5 (xL_set1 (v := .int x) hn hf h))
theorem r_astore_n (C : Sem cc own nm nL R g) {j : Fin 4} {i : Nat} {x : Nat} {lv' : List (Option Value)} (d : decode cc pc = .ok (.astore_n j, 1)) (hi : (j : Nat) = i) (hn : i < lv.length) (hf : xN lv i) (hl : lv.set i (some (.ref x)) = lv') (kk : g k n θ (pc + 1) lv' st) : g k n θ pc lv (.ref x :: st) := by
  obtain ⟨p, l, e, s, m, args, below, meth, c, D, A, τ, ρ0, n0, Q, ⟨hx, hb, hts, hown, hnm, hml⟩, ⟨hK, hA, hT⟩, rfl⟩ := C
  subst hl
  exact fun ρ H locs ls h1 h3 h4 h5 h6 => lv_astore_n hx hb d hi (xL_has h6) hn rfl (fun ls' h => kk ρ H locs ls' h1 h3 h4 h5 (xL_set1 (v := .ref x) hn hf h))
theorem r_astore (C : Sem cc own nm nL R g) {i : Nat} {x : Nat} {lv' : List (Option Value)} (d : decode cc pc = .ok (.astore i, 2)) (hn : i < lv.length) (hf : xN lv i) (hl : lv.set i (some (.ref x)) = lv') (kk : g k n θ (pc + 2) lv' st) : g k n θ pc lv (.ref x :: st) := by
  obtain ⟨p, l, e, s, m, args, below, meth, c, D, A, τ, ρ0, n0, Q, ⟨hx, hb, hts, hown, hnm, hml⟩, ⟨hK, hA, hT⟩, rfl⟩ := C
  subst hl
  exact fun ρ H locs ls h1 h3 h4 h5 h6 => lv_astore hx hb d (xL_has h6) hn rfl (fun ls' h => kk ρ H locs ls' h1 h3 h4 h5 (xL_set1 (v := .ref x) hn hf h))
theorem r_lstore_n (C : Sem cc own nm nL R g) {j : Fin 4} {i : Nat} {x : Int64} {lv' : List (Option Value)} (d : decode cc pc = .ok (.lstore_n j, 1)) (hi : (j : Nat) = i) (hn : i + 1 < lv.length) (hf : xN lv i) (hl : (lv.set i (some (.long x))).set (i + 1) none = lv') (kk : g k n θ (pc + 1) lv' st) : g k n θ pc lv (.long x :: st) := by
  obtain ⟨p, l, e, s, m, args, below, meth, c, D, A, τ, ρ0, n0, Q, ⟨hx, hb, hts, hown, hnm, hml⟩, ⟨hK, hA, hT⟩, rfl⟩ := C
  subst hl
  exact fun ρ H locs ls h1 h3 h4 h5 h6 => lv_lstore_n hx hb d hi (xL_has h6) hn rfl (fun ls' h => kk ρ H locs ls' h1 h3 h4 h5 (xL_set2 (v := .long x) hn hf h))
theorem r_lstore (C : Sem cc own nm nL R g) {i : Nat} {x : Int64} {lv' : List (Option Value)} (d : decode cc pc = .ok (.lstore i, 2)) (hn : i + 1 < lv.length) (hf : xN lv i) (hl : (lv.set i (some (.long x))).set (i + 1) none = lv') (kk : g k n θ (pc + 2) lv' st) : g k n θ pc lv (.long x :: st) := by
  obtain ⟨p, l, e, s, m, args, below, meth, c, D, A, τ, ρ0, n0, Q, ⟨hx, hb, hts, hown, hnm, hml⟩, ⟨hK, hA, hT⟩, rfl⟩ := C
  subst hl
  exact fun ρ H locs ls h1 h3 h4 h5 h6 => lv_lstore hx hb d (xL_has h6) hn rfl (fun ls' h => kk ρ H locs ls' h1 h3 h4 h5 (xL_set2 (v := .long x) hn hf h))
end FW
