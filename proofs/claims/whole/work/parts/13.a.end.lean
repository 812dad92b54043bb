/-! THE CLAIM OUT OF ONE WALK OF THE LAW'S BODY. Your part is whole_start (and what it stands on); all else here is the same for every law, but numbers. -/
def R_law : String := "HammockReachLaw"
def lw_P (b : Addr) (xs : List Int32) (args : Array Value) (s : State) : Prop := args = #[.ref b] ∧ s.IntsAt b xs ∧ xs.length ≤ 384 ∧ (Jvm.Cond.and given_1 narrow_1).before args s = true
def lw_Q (_ : Array Value) (s : State) (o : Outcome) (t : State) : Prop := o = .returned (some (.int 1)) ∧ Framed s o t [] 600000 7302250
def lw_Z (below : List Frame) (a : Array Value) (s : State) : State → Prop := fun t => ∃ o, t.status = .running ∧ Ended t below o ∧ lw_Q a s o t
/-- the law's own end, with 1 on the stack, nothing written that was there before, its room as the claim has it -/
theorem lw_ret {p : Program} {l : Launch} {e : Env} {s : State} {m : MethodId} {below : List Frame} {meth : Method} {c : Code} {b : Nat} (hx : p.tables.exec = Jvm.exec) (hb : c.code = code) (hr : meth.sig.returnType = ret) (hlocks : meth.locks = false) {pc : Nat} {H : Heap} {ls : Array Slot} (hdg : decode code pc = .ok (.ireturn, 1)) : W p l e room_1 s m #[Value.ref b] below meth c H [] 600000 7302250 (lw_Z below #[Value.ref b] s) (F0 m pc ls [.int 1]) := by
  intro T hT X
  obtain ⟨fs, hret, hrun, hended, hW, hframe⟩ := X.leave (v := some (.int 1)) (hlocks := hlocks) (fun h => by rw [hr] at h; cases h)
  have hmeth' : T.vm.method? m = some meth := X.method'
  refine ⟨T.setFrames fs, ?_, .returned (some (.int 1)), hrun, hended, rfl, ⟨_, rfl⟩, hW, hframe⟩
  jvm_step X.here [X.here.top, hx, hb, hdg, hmeth', hr, ret, narrow_b1]
  (try refine ⟨rfl, ?_⟩); (try refine ⟨rfl, ?_⟩)
  first | (intro acts; rw [hret _ acts rfl rfl rfl]) | rw [hret _ _ rfl rfl rfl]
  exact Steps.refl _
/-- what holds at the law's entry: the machine, the code, the tables' words (any of lw_tbl by 'hts w (by decide +kernel)'), the script of L ints xs at the cell b, what the Statement gives of the start (any of its parts by flat_of_before) -/
def lw_At (p : Program) (s : State) (m : MethodId) (meth : Method) (c : Code) (b L : Nat) (xs : Nat → Int32) : Prop :=
  p.tables.exec = Jvm.exec ∧ c.code = code ∧ meth.sig.returnType = ret ∧ c.maxLocals = 4 ∧ s.vm.findClass R_law = some m.cls ∧ (∀ w ∈ lw_tbl, w.before #[Value.ref b] s = true) ∧ va_X b L xs s s.heap ∧ b < s.heap.size ∧ meth.locks = false ∧ (Jvm.Cond.and given_1 narrow_1).before #[Value.ref b] s = true
-- ===== YOUR PART BEGINS =====
/-- YOUR PART: from the entry, for every script of at most 384 ints, the law comes to its end with true ('hflags': the launch's flags, for a law that throws: no stack traces) -/
theorem whole_start {p : Program} {e : Env} {s : State} {m : MethodId} {below : List Frame} {meth : Method} {c : Code} (l : Launch) (hflags : l.flags = flags0) {b L : Nat} {xs : Nat → Int32} (hL : L ≤ 384) (C0 : lw_At p s m meth c b L xs) : W p l e room_1 s m #[Value.ref b] below meth c s.heap [] 0 0 (lw_Z below #[Value.ref b] s) (entryFrame m ([Value.ref b] : List Value).toArray 4) := by
  obtain ⟨hx, hb, hr, hml, hown, hts, hX, hbl, hlocks, hgv⟩ := id C0
  have hA : ∀ q : Nat, s.heap.size ≤ q → (fun q : Nat => s.heap.size ≤ q) q := fun _ h => h
  have hbA : ¬ (fun q : Nat => s.heap.size ≤ q) b := Nat.not_le.mpr hbl
  have htt : ∀ w ∈ TT, w.before #[Value.ref b] s = true := fun w hw => hts w (List.mem_filter.mp hw).1
  obtain ⟨c0, iS0, hKn0⟩ := u_known (C := RX0) (T := TX0) (N := 6) (n := 6) htt xlay_X0 (htt _ tw_113)
  obtain ⟨c1, iS1, hKn1⟩ := u_known (C := RX1) (T := TX1) (N := 11) (n := 11) htt xlay_X1 (htt _ tw_46)
  obtain ⟨c2, iS2, hKn2⟩ := u_known (C := RX2) (T := TX2) (N := 4) (n := 4) htt xlay_X2 (htt _ tw_139)
  obtain ⟨c3, iS3, hKn3⟩ := u_known (C := RX3) (T := TX3) (N := 3) (n := 3) htt xlay_X3 (htt _ tw_157)
  obtain ⟨c4, iS4, hKn4⟩ := u_known (C := RX4) (T := TX4) (N := 4) (n := 4) htt xlay_X4 (htt _ tw_22)
  obtain ⟨c5, iS5, hKn5⟩ := u_known (C := RX5) (T := TX5) (N := 10) (n := 10) htt xlay_X5 (htt _ tw_12)
  obtain ⟨c6, iS6, hKn6⟩ := u_known (C := RX6) (T := TX6) (N := 23) (n := 23) htt xlay_X6 (htt _ tw_580)
  obtain ⟨cI, kI, pI, i1, i2, i3⟩ := Cond.arrayClass_spec (htt _ tw_44)
  obtain ⟨cZ, kZ, pZ, z1, z2, z3⟩ := Cond.arrayClass_spec (htt _ tw_655)
  obtain ⟨pF, cF, kF, f1, -, f3, f4, f5⟩ := Cond.arrayOver_spec (n := "HammockReach$Forest") (hts _ (List.mem_append_right _ (List.mem_of_getElem? (i := 111) (by decide +kernel))))
  obtain ⟨pR, cR, kR, r1, -, r3, r4, r5⟩ := Cond.arrayOver_spec (n := "HammockReach$Row") (hts _ (List.mem_append_right _ (List.mem_of_getElem? (i := 20) (by decide +kernel))))
  obtain ⟨dC, dI, hKc⟩ : ∃ (dC : Nat → ClassId) (dI : Nat → Nat → Nat), ∀ (k : Nat) (q : vw_C), vwCl[k]? = some q → u_Kn s q.1 q.2.1 q.2.2 (dC k) (dI k) := by
    refine ⟨fun k => match k with | 0 => c0 | 1 => c1 | 2 => c2 | 3 => c3 | 4 => c4 | 5 => c5 | _ => c6, fun k => match k with | 0 => iS0 | 1 => iS1 | 2 => iS2 | 3 => iS3 | 4 => iS4 | 5 => iS5 | _ => iS6, ?_⟩
    intro k q hq
    match k, hq with
    | 0, hq => cases hq; exact hKn0
    | 1, hq => cases hq; exact hKn1
    | 2, hq => cases hq; exact hKn2
    | 3, hq => cases hq; exact hKn3
    | 4, hq => cases hq; exact hKn4
    | 5, hq => cases hq; exact hKn5
    | 6, hq => cases hq; exact hKn6
    | k + 7, hq => simp [vwCl] at hq
  obtain ⟨τ, hτ⟩ : ∃ τ : Nat → ClassId, va_K (dC, dI) vwCl (xT τ) s := by
    refine ⟨fun k => match k with | 0 => cI | 1 => cZ | 2 => cF | _ => cR, hKc, ?_⟩
    intro k q hq
    match k, hq with
    | 0, hq => cases hq; exact ⟨fun n z => ⟨fun k h => (by cases h), kI, i2, pI, i3⟩, i1⟩
    | 1, hq => cases hq; exact ⟨fun n z => ⟨fun k h => (by cases h), kZ, z2, pZ, z3⟩, z1⟩
    | 2, hq => cases hq; exact ⟨fun n z => ⟨fun k h => (by cases h), kF, f3, pF, f4⟩, kF, pF, f3, f4, f1, f5⟩
    | 3, hq => cases hq; exact ⟨fun n z => ⟨fun k h => (by cases h), kR, r3, pR, r4⟩, kR, pR, r3, r4, r1, r5⟩
    | k + 4, hq => simp [xT] at hq
  have hNest : xNest s := by
    intro w hw
    simp only [xNw, List.mem_cons, List.not_mem_nil, or_false] at hw
    rcases hw with rfl | rfl | rfl | rfl | rfl | rfl | rfl | rfl
    · exact va_Nw.of rfl (hts _ (List.mem_append_right _ (List.mem_of_getElem? (i := 23) (by decide +kernel))))
    · exact va_Nw.of rfl (hts _ (List.mem_append_right _ (List.mem_of_getElem? (i := 47) (by decide +kernel))))
    · exact va_Nw.of rfl (hts _ (List.mem_append_right _ (List.mem_of_getElem? (i := 114) (by decide +kernel))))
    · exact va_Nw.of rfl (hts _ (List.mem_append_right _ (List.mem_of_getElem? (i := 140) (by decide +kernel))))
    · exact va_Nw.of rfl (hts _ (List.mem_append_right _ (List.mem_of_getElem? (i := 158) (by decide +kernel))))
    · exact va_Nw.of rfl (hts _ (List.mem_append_right _ (List.mem_of_getElem? (i := 278) (by decide +kernel))))
    · exact va_AO.of (C := "HammockReach$Row") (hts _ (List.mem_append_right _ (List.mem_of_getElem? (i := 20) (by decide +kernel))))
    · exact va_AO.of (C := "HammockReach$Forest") (hts _ (List.mem_append_right _ (List.mem_of_getElem? (i := 111) (by decide +kernel))))
  have hq := flat_of_before _ hgv
  have hA2 : ∀ a : Nat, a < s.heap.size → ¬ (fun q : Nat => s.heap.size ≤ q) a := fun a h => Nat.not_le.mpr h
  have hTb0 : xTab1 "ABOVE" xtab1 (fun q : Nat => s.heap.size ≤ q) s := by
    have hel : ∀ j : Nat, j < 6 → (Term.elem (Term.static "HammockReach" "ABOVE" "[I") (.int (Int32.ofNat j))).eval #[Value.ref b] s none [] s = some (.int (xtab1 j)) := by
      intro j hj
      match j, hj with
      | 0, _ => exact va_eqt (hq (Cond.eq (.elem (Term.static "HammockReach" "ABOVE" "[I") (.int 0)) (.int 0)) (by decide +kernel))
      | 1, _ => exact va_eqt (hq (Cond.eq (.elem (Term.static "HammockReach" "ABOVE" "[I") (.int 1)) (.int 0)) (by decide +kernel))
      | 2, _ => exact va_eqt (hq (Cond.eq (.elem (Term.static "HammockReach" "ABOVE" "[I") (.int 2)) (.int 1)) (by decide +kernel))
      | 3, _ => exact va_eqt (hq (Cond.eq (.elem (Term.static "HammockReach" "ABOVE" "[I") (.int 3)) (.int 1)) (by decide +kernel))
      | 4, _ => exact va_eqt (hq (Cond.eq (.elem (Term.static "HammockReach" "ABOVE" "[I") (.int 4)) (.int 0)) (by decide +kernel))
      | 5, _ => exact va_eqt (hq (Cond.eq (.elem (Term.static "HammockReach" "ABOVE" "[I") (.int 5)) (.int 4)) (by decide +kernel))
      | j + 6, hj => omega
    obtain ⟨t, ht, hT⟩ := va_Tof (A := fun q : Nat => s.heap.size ≤ q) (N := 6) (f := fun j => .int (xtab1 j)) (by decide) (hq (Cond.arrayOf (Term.static "HammockReach" "ABOVE" "[I") .int) (by decide +kernel)) (va_eqt (hq (Cond.eq (.length (Term.static "HammockReach" "ABOVE" "[I")) (.int 6)) (by decide +kernel))) hel hA2
    exact ⟨t, va_Zref (hts _ (List.mem_append_right _ (List.mem_of_getElem? (i := 537) (by decide +kernel)))) (htt _ tw_1) ht hA2, hT⟩
  have hTb1 : xTab1 "SIZE_BODIES" xtab2 (fun q : Nat => s.heap.size ≤ q) s := by
    have hel : ∀ j : Nat, j < 6 → (Term.elem (Term.static "HammockReach" "SIZE_BODIES" "[I") (.int (Int32.ofNat j))).eval #[Value.ref b] s none [] s = some (.int (xtab2 j)) := by
      intro j hj
      match j, hj with
      | 0, _ => exact va_eqt (hq (Cond.eq (.elem (Term.static "HammockReach" "SIZE_BODIES" "[I") (.int 0)) (.int 10)) (by decide +kernel))
      | 1, _ => exact va_eqt (hq (Cond.eq (.elem (Term.static "HammockReach" "SIZE_BODIES" "[I") (.int 1)) (.int 11)) (by decide +kernel))
      | 2, _ => exact va_eqt (hq (Cond.eq (.elem (Term.static "HammockReach" "SIZE_BODIES" "[I") (.int 2)) (.int 12)) (by decide +kernel))
      | 3, _ => exact va_eqt (hq (Cond.eq (.elem (Term.static "HammockReach" "SIZE_BODIES" "[I") (.int 3)) (.int 0)) (by decide +kernel))
      | 4, _ => exact va_eqt (hq (Cond.eq (.elem (Term.static "HammockReach" "SIZE_BODIES" "[I") (.int 4)) (.int 13)) (by decide +kernel))
      | 5, _ => exact va_eqt (hq (Cond.eq (.elem (Term.static "HammockReach" "SIZE_BODIES" "[I") (.int 5)) (.int 14)) (by decide +kernel))
      | j + 6, hj => omega
    obtain ⟨t, ht, hT⟩ := va_Tof (A := fun q : Nat => s.heap.size ≤ q) (N := 6) (f := fun j => .int (xtab2 j)) (by decide) (hq (Cond.arrayOf (Term.static "HammockReach" "SIZE_BODIES" "[I") .int) (by decide +kernel)) (va_eqt (hq (Cond.eq (.length (Term.static "HammockReach" "SIZE_BODIES" "[I")) (.int 6)) (by decide +kernel))) hel hA2
    exact ⟨t, va_Zref (hts _ (List.mem_append_right _ (List.mem_of_getElem? (i := 550) (by decide +kernel)))) (htt _ tw_1) ht hA2, hT⟩
  have hTb2 : xTab1 "MARK_BODIES" xtab3 (fun q : Nat => s.heap.size ≤ q) s := by
    have hel : ∀ j : Nat, j < 6 → (Term.elem (Term.static "HammockReach" "MARK_BODIES" "[I") (.int (Int32.ofNat j))).eval #[Value.ref b] s none [] s = some (.int (xtab3 j)) := by
      intro j hj
      match j, hj with
      | 0, _ => exact va_eqt (hq (Cond.eq (.elem (Term.static "HammockReach" "MARK_BODIES" "[I") (.int 0)) (.int 20)) (by decide +kernel))
      | 1, _ => exact va_eqt (hq (Cond.eq (.elem (Term.static "HammockReach" "MARK_BODIES" "[I") (.int 1)) (.int 21)) (by decide +kernel))
      | 2, _ => exact va_eqt (hq (Cond.eq (.elem (Term.static "HammockReach" "MARK_BODIES" "[I") (.int 2)) (.int 24)) (by decide +kernel))
      | 3, _ => exact va_eqt (hq (Cond.eq (.elem (Term.static "HammockReach" "MARK_BODIES" "[I") (.int 3)) (.int 22)) (by decide +kernel))
      | 4, _ => exact va_eqt (hq (Cond.eq (.elem (Term.static "HammockReach" "MARK_BODIES" "[I") (.int 4)) (.int 23)) (by decide +kernel))
      | 5, _ => exact va_eqt (hq (Cond.eq (.elem (Term.static "HammockReach" "MARK_BODIES" "[I") (.int 5)) (.int 0)) (by decide +kernel))
      | j + 6, hj => omega
    obtain ⟨t, ht, hT⟩ := va_Tof (A := fun q : Nat => s.heap.size ≤ q) (N := 6) (f := fun j => .int (xtab3 j)) (by decide) (hq (Cond.arrayOf (Term.static "HammockReach" "MARK_BODIES" "[I") .int) (by decide +kernel)) (va_eqt (hq (Cond.eq (.length (Term.static "HammockReach" "MARK_BODIES" "[I")) (.int 6)) (by decide +kernel))) hel hA2
    exact ⟨t, va_Zref (hts _ (List.mem_append_right _ (List.mem_of_getElem? (i := 552) (by decide +kernel)))) (htt _ tw_1) ht hA2, hT⟩
  have CL : SemL room_1 L xs meth.name (G p l e room_1 s m #[Value.ref b] below meth c (dC, dI) (fun q : Nat => s.heap.size ≤ q) τ (fun _ => b) 0 (lw_Z below #[Value.ref b] s)) := ⟨p, l, e, s, m, _, below, meth, c, (dC, dI), _, τ, fun _ => b, _, ⟨hx, hb, htt, hown, rfl, hml⟩, ⟨hτ, hA, ⟨hTb0, hTb1, hTb2⟩, hNest⟩, ⟨hX, hbl, hbA⟩, rfl⟩
  have E : xEl (G p l e room_1 s m #[Value.ref b] below meth c (dC, dI) (fun q : Nat => s.heap.size ≤ q) τ (fun _ => b) 0 (lw_Z below #[Value.ref b] s)) := by
    intro k n θ pc lv hd hk hn ρ H locs ls h1 h3 h4 h5 h6
    refine W.widen hk hn ?_
    refine va_forget h5.2.2 ?_
    exact lw_ret hx hb hr hlocks hd
  have K := law_go CL E hL
  rw [lg_entry_eq]
  exact K (fun _ => b) s.heap [] _ ⟨[], rfl, (xX_nil _ _).symm⟩ (fun k q h => by simp [xW] at h) ⟨fun i j p q h => by simp [xW] at h, fun k q h => by simp [xW] at h⟩ va_S.rf (xL_entry (ρ := fun _ => b) (av := [.ref 1000000]) (n := 4) (Nat.le_of_ble_eq_true rfl) (Nat.le_of_ble_eq_true rfl))
-- ===== YOUR PART ENDS =====
set_option maxHeartbeats 4000000 in
theorem lw_walk (l : Launch) (hflags : l.flags = flags0) (b : Addr) (xs : List Int32) : MetFree l x (headSpec (Jvm.Cond.code x code maxLocals ret :: tables_1) room_1) (lw_P b xs) (fun _ _ _ _ _ => True) lw_Q := by
  refine MetFree.of_bodyS (code := code) (maxLocals := maxLocals) (ret := ret) (by decide) ?_ ?_
  · intro args s m h hn
    obtain ⟨meth, c, h1, h2, h3, h4, h5, h6, -, -⟩ := Cond.code_spec hn (atoms_spec (ws := Jvm.Cond.code x code maxLocals ret :: tables_1) h _ List.mem_cons_self)
    exact ⟨meth, c, h1, h2, h3, h4, h5, h6⟩
  · intro p e s m args below meth c s₁ B hml0 hP _
    obtain ⟨rfl, hx, hbd, hgv⟩ := hP
    obtain ⟨scr, harrAt, hlist, hof, hsmall⟩ := hx
    obtain ⟨hcb, hkn, -, -⟩ := State.arrayAt?_spec harrAt
    have hown : s.vm.findClass R_law = some m.cls := findClass_of_methodNamed B.named
    have hts0 : ∀ c ∈ (Jvm.Cond.code x code maxLocals ret :: tables_1), c.before #[Value.ref b] s = true := atoms_spec (ws := Jvm.Cond.code x code maxLocals ret :: tables_1) B.pre
    have hts : ∀ w ∈ lw_tbl, w.before #[Value.ref b] s = true := k2_hts_sels lw_privs (fun w hw => hts0 w (List.mem_cons_of_mem _ hw)) lw_privs_ok
    have hml : c.maxLocals = 4 := B.maxLocals_eq (hts0 _ List.mem_cons_self)
    have X₀ : Stand p l e room_1 s m #[Value.ref b] below meth c s₁ [] 0 0 := Stand.of_body B
    have hh0 : s₁.heap = s.heap := by rw [B.state]; rfl
    have hsz : scr.slots.size = xs.length := by rw [← Array.length_toList, hlist, List.length_map]
    have hval : ∀ j : Nat, j < xs.length → scr.slots[j]? = some (.int (xs.getD j 0)) := fun j hj => by
      rw [← Array.getElem?_toList, hlist]
      simp [hj]
    have hbl : b < s.heap.size := (Array.getElem?_eq_some_iff.mp hcb).1
    have hX : va_X b xs.length (fun j => xs.getD j 0) s s.heap := ⟨scr, hcb, hof, hkn, hsz, hval⟩
    have K : W p l e room_1 s m #[Value.ref b] below meth c s₁.heap [] 0 0 (lw_Z below #[Value.ref b] s) (entryFrame m ([Value.ref b] : List Value).toArray 4) := by
      rw [hh0]
      exact whole_start l hflags hbd ⟨B.exec, B.bytes, B.returns, hml, hown, hts, hX, hbl, B.notSynchronized, hgv⟩
    obtain ⟨t, a1, o, b1, b2, b3⟩ := K s₁ rfl X₀
    exact ⟨t, o, a1, b1, b2, b3⟩
theorem lw_pre_spec {args : Array Value} {s : State} (h : (Jvm.Cond.and given_1 narrow_1).before args s = true) (hr : rest_1_c.before args s = true) : ∃ (b : Addr) (xs : List Int32), lw_P b xs args s := by
  have hs := flat_of_before _ h
  have hq := flat_of_before _ hr
  have hc : (Cond.count 1).before args s = true := hs _ (by decide +kernel)
  have harr : (Cond.arrayOf (.arg 0) .int).before args s = true := hs _ (by decide +kernel)
  have hle : (Cond.le (.length (.arg 0)) (.int 384)).before args s = true := hs _ (by decide +kernel)
  have hlen : (Cond.isInt (.length (.arg 0))).before args s = true := hq _ (by decide +kernel)
  have hall : (Cond.all (.arg 0) (.isInt (.elem (.arg 0) (.index 0)))).before args s = true := hq _ (by decide +kernel)
  obtain ⟨b, xs, hb, hx⟩ := State.ints_of_pre rfl harr hlen hall
  have hsm : xs.length < 2 ^ 31 := hx.choose_spec.2.2.2
  have hev : (Term.length (.arg 0)).eval args s none [] s = some (.int xs.length.toInt32) := hx.length_eval hb
  have hv := Cond.le_ints hev (show (Term.int 384).eval args s none [] s = some (.int 384) from rfl)
  have hd : xs.length.toInt32 ≤ 384 := by
    simpa [Cond.before, Cond.holds, hv] using hle
  have hN : xs.length ≤ 384 := (Int32.ofNat_le_ofNat hsm (by decide)).mp (show Int32.ofNat xs.length ≤ Int32.ofNat 384 from hd)
  exact ⟨b, xs, Cond.one_arg hc (show args[0]? = some (.ref b) from hb), hx, hN, h⟩
theorem lw_comes (l : Launch) (hflags : l.flags = flags0) : Comes l x (Jvm.Cond.code x code maxLocals ret :: tables_1) room_1 (fun tb e args s => Calls_1 tb e args s ∧ rest_1 tb e args s ∧ Pre_1 tb e args s)
    (fun _ _ args s o t => lw_Q args s o t) := by
  intro p e ha hc hk s m args below hf hfit hheap happ hpre
  obtain ⟨b, xs, hP⟩ := lw_pre_spec hpre.2.2 hpre.2.1
  obtain ⟨k, o, h1, h2, h3, hQ⟩ := lw_walk l hflags b xs p e ha hc hk s m args below hf ((Spec.applies_iff_loose hf).mp happ).1 hP trivial
  exact ⟨k, o, h1, h2, h3, hQ⟩
theorem lw_frame {s t : State} {o : Outcome} {args : Array Value} (h : Framed s o t [] 600000 7302250) :
    Framed s o t (fieldLocs frame_1_writes args s ++ arrayLocs frame_1_arrays args s ++ staticLocs frame_1_statics s) 600000 7302250 := h
theorem lw_limb (L : Cond) (hL : ∀ (args : Array Value) (s t : State), L.after args s (.returned (some (.int 1))) t = true) :
    ArmFor flags0 classFile x code maxLocals ret World_1 tables_1 room_1 Calls_1 rest_1 Pre_1
      (fun tb e a s o t => postC L tb e a s o t ∧ Framed s o t (fieldLocs frame_1_writes a s ++ arrayLocs frame_1_arrays a s ++ staticLocs frame_1_statics s) 600000 7302250) := by
  intro l hflags _ _ p e ha hc hk s m args below hf hfit hheap happ hpre
  obtain ⟨k, o, h1, h2, h3, rfl, hF⟩ := lw_comes l hflags p e ha hc hk s m args below hf hfit hheap happ hpre
  exact ⟨k, _, h1, h2, h3, hL args s _, lw_frame hF⟩
theorem i_vc : Claimed_1_1 ∧ Claimed_1_2 := ⟨lw_limb limb_1_1 (fun args s t => by simp [limb_1_1, Cond.after, Cond.holds, Cond.value]), lw_limb limb_1_2 (fun args s t => Cond.after_iff.mpr (by
  first | (rw [show limb_1_2 = Cond.eq .result (.int 1) from rfl, Cond.eq_ints (x := 1) (y := 1) rfl rfl]; simp; done) | (simp [limb_1_2, Cond.value, Term.eval]; done)))⟩
