section FW
variable {cc : ByteArray} {own nm : String} {nL : Nat} {R : Room} {g : Nat → Nat → List xE → Nat → List (Option Value) → List Value → Prop} {k n : Nat} {θ : List xE} {pc : Nat} {lv : List (Option Value)} {st : List Value}
theorem r_iadd (C : Sem cc own nm nL R g) {x y : Int32} (d : decode cc pc = .ok (.iadd, 1))  (kk : g k n θ (pc + 1) lv (.int (x + y) :: st)) : g k n θ pc lv (.int y :: .int x :: st) := by
  obtain ⟨p, l, e, s, m, args, below, meth, c, D, A, τ, ρ0, n0, Q, ⟨hx, hb, hts, hown, hnm, hml⟩, ⟨hK, hA, hT⟩, rfl⟩ := C
  exact fun ρ H locs ls h1 h3 h4 h5 h6 => lv_iadd hx hb d  (kk ρ H locs ls h1 h3 h4 h5 h6)
theorem r_isub (C : Sem cc own nm nL R g) {x y : Int32} (d : decode cc pc = .ok (.isub, 1))  (kk : g k n θ (pc + 1) lv (.int (x - y) :: st)) : g k n θ pc lv (.int y :: .int x :: st) := by
  obtain ⟨p, l, e, s, m, args, below, meth, c, D, A, τ, ρ0, n0, Q, ⟨hx, hb, hts, hown, hnm, hml⟩, ⟨hK, hA, hT⟩, rfl⟩ := C
  exact fun ρ H locs ls h1 h3 h4 h5 h6 => lv_isub hx hb d  (kk ρ H locs ls h1 h3 h4 h5 h6)
theorem r_imul (C : Sem cc own nm nL R g) {x y : Int32} (d : decode cc pc = .ok (.imul, 1))  (kk : g k n θ (pc + 1) lv (.int (x * y) :: st)) : g k n θ pc lv (.int y :: .int x :: st) := by
  obtain ⟨p, l, e, s, m, args, below, meth, c, D, A, τ, ρ0, n0, Q, ⟨hx, hb, hts, hown, hnm, hml⟩, ⟨hK, hA, hT⟩, rfl⟩ := C
  exact fun ρ H locs ls h1 h3 h4 h5 h6 => lv_imul hx hb d  (kk ρ H locs ls h1 h3 h4 h5 h6)
theorem r_iand (C : Sem cc own nm nL R g) {x y : Int32} (d : decode cc pc = .ok (.iand, 1))  (kk : g k n θ (pc + 1) lv (.int (x &&& y) :: st)) : g k n θ pc lv (.int y :: .int x :: st) := by
  obtain ⟨p, l, e, s, m, args, below, meth, c, D, A, τ, ρ0, n0, Q, ⟨hx, hb, hts, hown, hnm, hml⟩, ⟨hK, hA, hT⟩, rfl⟩ := C
  exact fun ρ H locs ls h1 h3 h4 h5 h6 => lv_iand hx hb d  (kk ρ H locs ls h1 h3 h4 h5 h6)
theorem r_ior (C : Sem cc own nm nL R g) {x y : Int32} (d : decode cc pc = .ok (.ior, 1))  (kk : g k n θ (pc + 1) lv (.int (x ||| y) :: st)) : g k n θ pc lv (.int y :: .int x :: st) := by
  obtain ⟨p, l, e, s, m, args, below, meth, c, D, A, τ, ρ0, n0, Q, ⟨hx, hb, hts, hown, hnm, hml⟩, ⟨hK, hA, hT⟩, rfl⟩ := C
  exact fun ρ H locs ls h1 h3 h4 h5 h6 => lv_ior hx hb d  (kk ρ H locs ls h1 h3 h4 h5 h6)
theorem r_ixor (C : Sem cc own nm nL R g) {x y : Int32} (d : decode cc pc = .ok (.ixor, 1))  (kk : g k n θ (pc + 1) lv (.int (x ^^^ y) :: st)) : g k n θ pc lv (.int y :: .int x :: st) := by
  obtain ⟨p, l, e, s, m, args, below, meth, c, D, A, τ, ρ0, n0, Q, ⟨hx, hb, hts, hown, hnm, hml⟩, ⟨hK, hA, hT⟩, rfl⟩ := C
  exact fun ρ H locs ls h1 h3 h4 h5 h6 => lv_ixor hx hb d  (kk ρ H locs ls h1 h3 h4 h5 h6)
theorem r_idiv (C : Sem cc own nm nL R g) {x y : Int32} (d : decode cc pc = .ok (.idiv, 1)) (hne : ¬ y = 0) (kk : g k n θ (pc + 1) lv (.int (x / y) :: st)) : g k n θ pc lv (.int y :: .int x :: st) := by
  obtain ⟨p, l, e, s, m, args, below, meth, c, D, A, τ, ρ0, n0, Q, ⟨hx, hb, hts, hown, hnm, hml⟩, ⟨hK, hA, hT⟩, rfl⟩ := C
  exact fun ρ H locs ls h1 h3 h4 h5 h6 => lv_idiv hx hb d hne (kk ρ H locs ls h1 h3 h4 h5 h6)
theorem r_irem (C : Sem cc own nm nL R g) {x y : Int32} (d : decode cc pc = .ok (.irem, 1)) (hne : ¬ y = 0) (kk : g k n θ (pc + 1) lv (.int (x - x / y * y) :: st)) : g k n θ pc lv (.int y :: .int x :: st) := by
  obtain ⟨p, l, e, s, m, args, below, meth, c, D, A, τ, ρ0, n0, Q, ⟨hx, hb, hts, hown, hnm, hml⟩, ⟨hK, hA, hT⟩, rfl⟩ := C
  exact fun ρ H locs ls h1 h3 h4 h5 h6 => lv_irem hx hb d hne (kk ρ H locs ls h1 h3 h4 h5 h6)
theorem r_ineg (C : Sem cc own nm nL R g) {x : Int32} (d : decode cc pc = .ok (.ineg, 1))  (kk : g k n θ (pc + 1) lv (.int (-x) :: st)) : g k n θ pc lv (.int x :: st) := by
  obtain ⟨p, l, e, s, m, args, below, meth, c, D, A, τ, ρ0, n0, Q, ⟨hx, hb, hts, hown, hnm, hml⟩, ⟨hK, hA, hT⟩, rfl⟩ := C
  exact fun ρ H locs ls h1 h3 h4 h5 h6 => lv_ineg hx hb d  (kk ρ H locs ls h1 h3 h4 h5 h6)
theorem r_ishl (C : Sem cc own nm nL R g) {x y : Int32} (d : decode cc pc = .ok (.ishl, 1))  (kk : g k n θ (pc + 1) lv (.int (x <<< (y &&& 31)) :: st)) : g k n θ pc lv (.int y :: .int x :: st) := by
  obtain ⟨p, l, e, s, m, args, below, meth, c, D, A, τ, ρ0, n0, Q, ⟨hx, hb, hts, hown, hnm, hml⟩, ⟨hK, hA, hT⟩, rfl⟩ := C
  exact fun ρ H locs ls h1 h3 h4 h5 h6 => lv_ishl hx hb d  (kk ρ H locs ls h1 h3 h4 h5 h6)
theorem r_ishr (C : Sem cc own nm nL R g) {x y : Int32} (d : decode cc pc = .ok (.ishr, 1))  (kk : g k n θ (pc + 1) lv (.int (x >>> (y &&& 31)) :: st)) : g k n θ pc lv (.int y :: .int x :: st) := by
  obtain ⟨p, l, e, s, m, args, below, meth, c, D, A, τ, ρ0, n0, Q, ⟨hx, hb, hts, hown, hnm, hml⟩, ⟨hK, hA, hT⟩, rfl⟩ := C
  exact fun ρ H locs ls h1 h3 h4 h5 h6 => lv_ishr hx hb d  (kk ρ H locs ls h1 h3 h4 h5 h6)
theorem r_iushr (C : Sem cc own nm nL R g) {x y v : Int32} (d : decode cc pc = .ok (.iushr, 1)) (hv : (x.toUInt32 >>> (y.toUInt32 &&& Int32.toUInt32 31)).toInt32 = v) (kk : g k n θ (pc + 1) lv (.int v :: st)) : g k n θ pc lv (.int y :: .int x :: st) := by
  obtain ⟨p, l, e, s, m, args, below, meth, c, D, A, τ, ρ0, n0, Q, ⟨hx, hb, hts, hown, hnm, hml⟩, ⟨hK, hA, hT⟩, rfl⟩ := C
  exact fun ρ H locs ls h1 h3 h4 h5 h6 => lv_iushr hx hb d hv (kk ρ H locs ls h1 h3 h4 h5 h6)
theorem r_i2l (C : Sem cc own nm nL R g) {x : Int32} {v : Int64} (d : decode cc pc = .ok (.i2l, 1)) (hv : x.toInt64 = v) (kk : g k n θ (pc + 1) lv (.long v :: st)) : g k n θ pc lv (.int x :: st) := by
  obtain ⟨p, l, e, s, m, args, below, meth, c, D, A, τ, ρ0, n0, Q, ⟨hx, hb, hts, hown, hnm, hml⟩, ⟨hK, hA, hT⟩, rfl⟩ := C
  exact fun ρ H locs ls h1 h3 h4 h5 h6 => lv_i2l hx hb d hv (kk ρ H locs ls h1 h3 h4 h5 h6)
theorem r_l2i (C : Sem cc own nm nL R g) {x : Int64} {v : Int32} (d : decode cc pc = .ok (.l2i, 1)) (hv : x.toInt32 = v) (kk : g k n θ (pc + 1) lv (.int v :: st)) : g k n θ pc lv (.long x :: st) := by
  obtain ⟨p, l, e, s, m, args, below, meth, c, D, A, τ, ρ0, n0, Q, ⟨hx, hb, hts, hown, hnm, hml⟩, ⟨hK, hA, hT⟩, rfl⟩ := C
  exact fun ρ H locs ls h1 h3 h4 h5 h6 => lv_l2i hx hb d hv (kk ρ H locs ls h1 h3 h4 h5 h6)
theorem r_i2b (C : Sem cc own nm nL R g) {x v : Int32} (d : decode cc pc = .ok (.i2b, 1)) (hv : x.toInt8.toInt32 = v) (kk : g k n θ (pc + 1) lv (.int v :: st)) : g k n θ pc lv (.int x :: st) := by
  obtain ⟨p, l, e, s, m, args, below, meth, c, D, A, τ, ρ0, n0, Q, ⟨hx, hb, hts, hown, hnm, hml⟩, ⟨hK, hA, hT⟩, rfl⟩ := C
  exact fun ρ H locs ls h1 h3 h4 h5 h6 => lv_i2b hx hb d hv (kk ρ H locs ls h1 h3 h4 h5 h6)
theorem r_i2s (C : Sem cc own nm nL R g) {x v : Int32} (d : decode cc pc = .ok (.i2s, 1)) (hv : x.toInt16.toInt32 = v) (kk : g k n θ (pc + 1) lv (.int v :: st)) : g k n θ pc lv (.int x :: st) := by
  obtain ⟨p, l, e, s, m, args, below, meth, c, D, A, τ, ρ0, n0, Q, ⟨hx, hb, hts, hown, hnm, hml⟩, ⟨hK, hA, hT⟩, rfl⟩ := C
  exact fun ρ H locs ls h1 h3 h4 h5 h6 => lv_i2s hx hb d hv (kk ρ H locs ls h1 h3 h4 h5 h6)
theorem r_ladd (C : Sem cc own nm nL R g) {x y : Int64} (d : decode cc pc = .ok (.ladd, 1))  (kk : g k n θ (pc + 1) lv (.long (x + y) :: st)) : g k n θ pc lv (.long y :: .long x :: st) := by
  obtain ⟨p, l, e, s, m, args, below, meth, c, D, A, τ, ρ0, n0, Q, ⟨hx, hb, hts, hown, hnm, hml⟩, ⟨hK, hA, hT⟩, rfl⟩ := C
  exact fun ρ H locs ls h1 h3 h4 h5 h6 => lv_ladd hx hb d  (kk ρ H locs ls h1 h3 h4 h5 h6)
theorem r_lmul (C : Sem cc own nm nL R g) {x y : Int64} (d : decode cc pc = .ok (.lmul, 1))  (kk : g k n θ (pc + 1) lv (.long (x * y) :: st)) : g k n θ pc lv (.long y :: .long x :: st) := by
  obtain ⟨p, l, e, s, m, args, below, meth, c, D, A, τ, ρ0, n0, Q, ⟨hx, hb, hts, hown, hnm, hml⟩, ⟨hK, hA, hT⟩, rfl⟩ := C
  exact fun ρ H locs ls h1 h3 h4 h5 h6 => lv_lmul hx hb d  (kk ρ H locs ls h1 h3 h4 h5 h6)
theorem r_ldiv (C : Sem cc own nm nL R g) {x y : Int64} (d : decode cc pc = .ok (.ldiv, 1)) (hne : ¬ y = 0) (kk : g k n θ (pc + 1) lv (.long (x / y) :: st)) : g k n θ pc lv (.long y :: .long x :: st) := by
  obtain ⟨p, l, e, s, m, args, below, meth, c, D, A, τ, ρ0, n0, Q, ⟨hx, hb, hts, hown, hnm, hml⟩, ⟨hK, hA, hT⟩, rfl⟩ := C
  exact fun ρ H locs ls h1 h3 h4 h5 h6 => lv_ldiv hx hb d hne (kk ρ H locs ls h1 h3 h4 h5 h6)
theorem r_lrem (C : Sem cc own nm nL R g) {x y : Int64} (d : decode cc pc = .ok (.lrem, 1)) (hne : ¬ y = 0) (kk : g k n θ (pc + 1) lv (.long (x - x / y * y) :: st)) : g k n θ pc lv (.long y :: .long x :: st) := by
  obtain ⟨p, l, e, s, m, args, below, meth, c, D, A, τ, ρ0, n0, Q, ⟨hx, hb, hts, hown, hnm, hml⟩, ⟨hK, hA, hT⟩, rfl⟩ := C
  exact fun ρ H locs ls h1 h3 h4 h5 h6 => lv_lrem hx hb d hne (kk ρ H locs ls h1 h3 h4 h5 h6)
theorem r_lcmp (C : Sem cc own nm nL R g) {x y : Int64} (d : decode cc pc = .ok (.lcmp, 1))  (kk : g k n θ (pc + 1) lv (.int (lg_cmp x y) :: st)) : g k n θ pc lv (.long y :: .long x :: st) := by
  obtain ⟨p, l, e, s, m, args, below, meth, c, D, A, τ, ρ0, n0, Q, ⟨hx, hb, hts, hown, hnm, hml⟩, ⟨hK, hA, hT⟩, rfl⟩ := C
  exact fun ρ H locs ls h1 h3 h4 h5 h6 => W.lcmp hx hb d  (kk ρ H locs ls h1 h3 h4 h5 h6)
theorem r_lconst (C : Sem cc own nm nL R g) {z : Fin 2} {v : Int64} (d : decode cc pc = .ok (.lconst z, 1)) (hv : Int64.ofNat (z : Nat) = v) (kk : g k n θ (pc + 1) lv (.long v :: st)) : g k n θ pc lv (st) := by
  obtain ⟨p, l, e, s, m, args, below, meth, c, D, A, τ, ρ0, n0, Q, ⟨hx, hb, hts, hown, hnm, hml⟩, ⟨hK, hA, hT⟩, rfl⟩ := C
  exact fun ρ H locs ls h1 h3 h4 h5 h6 => lv_lconst hx hb d hv (kk ρ H locs ls h1 h3 h4 h5 h6)
theorem r_dup (C : Sem cc own nm nL R g) {va : Value} (d : decode cc pc = .ok (.dup, 1)) (hva : va.category = 1) (kk : g k n θ (pc + 1) lv (va :: va :: st)) : g k n θ pc lv (va :: st) := by
  obtain ⟨p, l, e, s, m, args, below, meth, c, D, A, τ, ρ0, n0, Q, ⟨hx, hb, hts, hown, hnm, hml⟩, ⟨hK, hA, hT⟩, rfl⟩ := C
  exact fun ρ H locs ls h1 h3 h4 h5 h6 => lv_dup hx hb d ((xV_cat ρ va).trans hva) (kk ρ H locs ls h1 h3 h4 h5 h6)
theorem r_dup2_11 (C : Sem cc own nm nL R g) {va vb : Value} (d : decode cc pc = .ok (.dup2, 1)) (hva : va.category = 1) (hvb : vb.category = 1) (kk : g k n θ (pc + 1) lv (va :: vb :: va :: vb :: st)) : g k n θ pc lv (va :: vb :: st) := by
  obtain ⟨p, l, e, s, m, args, below, meth, c, D, A, τ, ρ0, n0, Q, ⟨hx, hb, hts, hown, hnm, hml⟩, ⟨hK, hA, hT⟩, rfl⟩ := C
  exact fun ρ H locs ls h1 h3 h4 h5 h6 => lv_dup2_11 hx hb d ((xV_cat ρ va).trans hva) ((xV_cat ρ vb).trans hvb) (kk ρ H locs ls h1 h3 h4 h5 h6)
theorem r_pop (C : Sem cc own nm nL R g) {va : Value} (d : decode cc pc = .ok (.pop, 1)) (hva : va.category = 1) (kk : g k n θ (pc + 1) lv (st)) : g k n θ pc lv (va :: st) := by
  obtain ⟨p, l, e, s, m, args, below, meth, c, D, A, τ, ρ0, n0, Q, ⟨hx, hb, hts, hown, hnm, hml⟩, ⟨hK, hA, hT⟩, rfl⟩ := C
  exact fun ρ H locs ls h1 h3 h4 h5 h6 => lv_pop hx hb d ((xV_cat ρ va).trans hva) (kk ρ H locs ls h1 h3 h4 h5 h6)
theorem r_ldc2 (C : Sem cc own nm nL R g) {ix : Nat} {v : Int64} (d : decode cc pc = .ok (.ldc2_w ix, 3)) (hw : Cond.constantLong own ix v ∈ TT) (kk : g k n θ (pc + 3) lv (.long v :: st)) : g k n θ pc lv st := by
  obtain ⟨p, l, e, s, m, args, below, meth, c, D, A, τ, ρ0, n0, Q, ⟨hx, hb, hts, hown, hnm, hml⟩, ⟨hK, hA, hT⟩, rfl⟩ := C
  exact fun ρ H locs ls h1 h3 h4 h5 h6 => lv_ldc2 hx hb hown (hts _ hw) d (kk ρ H locs ls h1 h3 h4 h5 h6)
theorem r_if_eq (C : Sem cc own nm nL R g) {x : Int32} {off : Int} {tgt : Nat} (d : decode cc pc = .ok (.ifCond .eq off, 3)) (ht : (pc : Int) + off = (tgt : Int)) (kt : x = 0 → g k n θ tgt lv st) (kf : ¬ x = 0 → g k n θ (pc + 3) lv st) : g k n θ pc lv (.int x :: st) := by
  obtain ⟨p, l, e, s, m, args, below, meth, c, D, A, τ, ρ0, n0, Q, ⟨hx, hb, hts, hown, hnm, hml⟩, ⟨hK, hA, hT⟩, rfl⟩ := C
  exact fun ρ H locs ls h1 h3 h4 h5 h6 => lv_if_eq hx hb d ht (fun q => kt q ρ H locs ls h1 h3 h4 h5 h6) (fun q => kf q ρ H locs ls h1 h3 h4 h5 h6)
theorem r_icmp_eq (C : Sem cc own nm nL R g) {x y : Int32} {off : Int} {tgt : Nat} (d : decode cc pc = .ok (.if_icmp .eq off, 3)) (ht : (pc : Int) + off = (tgt : Int)) (kt : x = y → g k n θ tgt lv st) (kf : ¬ x = y → g k n θ (pc + 3) lv st) : g k n θ pc lv (.int y :: .int x :: st) := by
  obtain ⟨p, l, e, s, m, args, below, meth, c, D, A, τ, ρ0, n0, Q, ⟨hx, hb, hts, hown, hnm, hml⟩, ⟨hK, hA, hT⟩, rfl⟩ := C
  exact fun ρ H locs ls h1 h3 h4 h5 h6 => lv_icmp_eq hx hb d ht (fun q => kt q ρ H locs ls h1 h3 h4 h5 h6) (fun q => kf q ρ H locs ls h1 h3 h4 h5 h6)
theorem r_if_ne (C : Sem cc own nm nL R g) {x : Int32} {off : Int} {tgt : Nat} (d : decode cc pc = .ok (.ifCond .ne off, 3)) (ht : (pc : Int) + off = (tgt : Int)) (kt : ¬ x = 0 → g k n θ tgt lv st) (kf : x = 0 → g k n θ (pc + 3) lv st) : g k n θ pc lv (.int x :: st) := by
  obtain ⟨p, l, e, s, m, args, below, meth, c, D, A, τ, ρ0, n0, Q, ⟨hx, hb, hts, hown, hnm, hml⟩, ⟨hK, hA, hT⟩, rfl⟩ := C
  exact fun ρ H locs ls h1 h3 h4 h5 h6 => lv_if_ne hx hb d ht (fun q => kt q ρ H locs ls h1 h3 h4 h5 h6) (fun q => kf q ρ H locs ls h1 h3 h4 h5 h6)
theorem r_icmp_ne (C : Sem cc own nm nL R g) {x y : Int32} {off : Int} {tgt : Nat} (d : decode cc pc = .ok (.if_icmp .ne off, 3)) (ht : (pc : Int) + off = (tgt : Int)) (kt : ¬ x = y → g k n θ tgt lv st) (kf : x = y → g k n θ (pc + 3) lv st) : g k n θ pc lv (.int y :: .int x :: st) := by
  obtain ⟨p, l, e, s, m, args, below, meth, c, D, A, τ, ρ0, n0, Q, ⟨hx, hb, hts, hown, hnm, hml⟩, ⟨hK, hA, hT⟩, rfl⟩ := C
  exact fun ρ H locs ls h1 h3 h4 h5 h6 => lv_icmp_ne hx hb d ht (fun q => kt q ρ H locs ls h1 h3 h4 h5 h6) (fun q => kf q ρ H locs ls h1 h3 h4 h5 h6)
theorem r_if_lt (C : Sem cc own nm nL R g) {x : Int32} {off : Int} {tgt : Nat} (d : decode cc pc = .ok (.ifCond .lt off, 3)) (ht : (pc : Int) + off = (tgt : Int)) (kt : x < 0 → g k n θ tgt lv st) (kf : ¬ x < 0 → g k n θ (pc + 3) lv st) : g k n θ pc lv (.int x :: st) := by
  obtain ⟨p, l, e, s, m, args, below, meth, c, D, A, τ, ρ0, n0, Q, ⟨hx, hb, hts, hown, hnm, hml⟩, ⟨hK, hA, hT⟩, rfl⟩ := C
  exact fun ρ H locs ls h1 h3 h4 h5 h6 => lv_if_lt hx hb d ht (fun q => kt q ρ H locs ls h1 h3 h4 h5 h6) (fun q => kf q ρ H locs ls h1 h3 h4 h5 h6)
theorem r_icmp_lt (C : Sem cc own nm nL R g) {x y : Int32} {off : Int} {tgt : Nat} (d : decode cc pc = .ok (.if_icmp .lt off, 3)) (ht : (pc : Int) + off = (tgt : Int)) (kt : x < y → g k n θ tgt lv st) (kf : ¬ x < y → g k n θ (pc + 3) lv st) : g k n θ pc lv (.int y :: .int x :: st) := by
  obtain ⟨p, l, e, s, m, args, below, meth, c, D, A, τ, ρ0, n0, Q, ⟨hx, hb, hts, hown, hnm, hml⟩, ⟨hK, hA, hT⟩, rfl⟩ := C
  exact fun ρ H locs ls h1 h3 h4 h5 h6 => lv_icmp_lt hx hb d ht (fun q => kt q ρ H locs ls h1 h3 h4 h5 h6) (fun q => kf q ρ H locs ls h1 h3 h4 h5 h6)
theorem r_if_ge (C : Sem cc own nm nL R g) {x : Int32} {off : Int} {tgt : Nat} (d : decode cc pc = .ok (.ifCond .ge off, 3)) (ht : (pc : Int) + off = (tgt : Int)) (kt : 0 ≤ x → g k n θ tgt lv st) (kf : ¬ 0 ≤ x → g k n θ (pc + 3) lv st) : g k n θ pc lv (.int x :: st) := by
  obtain ⟨p, l, e, s, m, args, below, meth, c, D, A, τ, ρ0, n0, Q, ⟨hx, hb, hts, hown, hnm, hml⟩, ⟨hK, hA, hT⟩, rfl⟩ := C
  exact fun ρ H locs ls h1 h3 h4 h5 h6 => lv_if_ge hx hb d ht (fun q => kt q ρ H locs ls h1 h3 h4 h5 h6) (fun q => kf q ρ H locs ls h1 h3 h4 h5 h6)
theorem r_icmp_ge (C : Sem cc own nm nL R g) {x y : Int32} {off : Int} {tgt : Nat} (d : decode cc pc = .ok (.if_icmp .ge off, 3)) (ht : (pc : Int) + off = (tgt : Int)) (kt : y ≤ x → g k n θ tgt lv st) (kf : ¬ y ≤ x → g k n θ (pc + 3) lv st) : g k n θ pc lv (.int y :: .int x :: st) := by
  obtain ⟨p, l, e, s, m, args, below, meth, c, D, A, τ, ρ0, n0, Q, ⟨hx, hb, hts, hown, hnm, hml⟩, ⟨hK, hA, hT⟩, rfl⟩ := C
  exact fun ρ H locs ls h1 h3 h4 h5 h6 => lv_icmp_ge hx hb d ht (fun q => kt q ρ H locs ls h1 h3 h4 h5 h6) (fun q => kf q ρ H locs ls h1 h3 h4 h5 h6)
theorem r_if_gt (C : Sem cc own nm nL R g) {x : Int32} {off : Int} {tgt : Nat} (d : decode cc pc = .ok (.ifCond .gt off, 3)) (ht : (pc : Int) + off = (tgt : Int)) (kt : 0 < x → g k n θ tgt lv st) (kf : ¬ 0 < x → g k n θ (pc + 3) lv st) : g k n θ pc lv (.int x :: st) := by
  obtain ⟨p, l, e, s, m, args, below, meth, c, D, A, τ, ρ0, n0, Q, ⟨hx, hb, hts, hown, hnm, hml⟩, ⟨hK, hA, hT⟩, rfl⟩ := C
  exact fun ρ H locs ls h1 h3 h4 h5 h6 => lv_if_gt hx hb d ht (fun q => kt q ρ H locs ls h1 h3 h4 h5 h6) (fun q => kf q ρ H locs ls h1 h3 h4 h5 h6)
theorem r_icmp_gt (C : Sem cc own nm nL R g) {x y : Int32} {off : Int} {tgt : Nat} (d : decode cc pc = .ok (.if_icmp .gt off, 3)) (ht : (pc : Int) + off = (tgt : Int)) (kt : y < x → g k n θ tgt lv st) (kf : ¬ y < x → g k n θ (pc + 3) lv st) : g k n θ pc lv (.int y :: .int x :: st) := by
  obtain ⟨p, l, e, s, m, args, below, meth, c, D, A, τ, ρ0, n0, Q, ⟨hx, hb, hts, hown, hnm, hml⟩, ⟨hK, hA, hT⟩, rfl⟩ := C
  exact fun ρ H locs ls h1 h3 h4 h5 h6 => lv_icmp_gt hx hb d ht (fun q => kt q ρ H locs ls h1 h3 h4 h5 h6) (fun q => kf q ρ H locs ls h1 h3 h4 h5 h6)
theorem r_if_le (C : Sem cc own nm nL R g) {x : Int32} {off : Int} {tgt : Nat} (d : decode cc pc = .ok (.ifCond .le off, 3)) (ht : (pc : Int) + off = (tgt : Int)) (kt : x ≤ 0 → g k n θ tgt lv st) (kf : ¬ x ≤ 0 → g k n θ (pc + 3) lv st) : g k n θ pc lv (.int x :: st) := by
  obtain ⟨p, l, e, s, m, args, below, meth, c, D, A, τ, ρ0, n0, Q, ⟨hx, hb, hts, hown, hnm, hml⟩, ⟨hK, hA, hT⟩, rfl⟩ := C
  exact fun ρ H locs ls h1 h3 h4 h5 h6 => lv_if_le hx hb d ht (fun q => kt q ρ H locs ls h1 h3 h4 h5 h6) (fun q => kf q ρ H locs ls h1 h3 h4 h5 h6)
theorem r_icmp_le (C : Sem cc own nm nL R g) {x y : Int32} {off : Int} {tgt : Nat} (d : decode cc pc = .ok (.if_icmp .le off, 3)) (ht : (pc : Int) + off = (tgt : Int)) (kt : x ≤ y → g k n θ tgt lv st) (kf : ¬ x ≤ y → g k n θ (pc + 3) lv st) : g k n θ pc lv (.int y :: .int x :: st) := by
  obtain ⟨p, l, e, s, m, args, below, meth, c, D, A, τ, ρ0, n0, Q, ⟨hx, hb, hts, hown, hnm, hml⟩, ⟨hK, hA, hT⟩, rfl⟩ := C
  exact fun ρ H locs ls h1 h3 h4 h5 h6 => lv_icmp_le hx hb d ht (fun q => kt q ρ H locs ls h1 h3 h4 h5 h6) (fun q => kf q ρ H locs ls h1 h3 h4 h5 h6)
theorem r_goto (C : Sem cc own nm nL R g) {off : Int} {tgt : Nat} (d : decode cc pc = .ok (.goto off, 3)) (ht : (pc : Int) + off = (tgt : Int)) (kk : g k n θ tgt lv st) : g k n θ pc lv st := by
  obtain ⟨p, l, e, s, m, args, below, meth, c, D, A, τ, ρ0, n0, Q, ⟨hx, hb, hts, hown, hnm, hml⟩, ⟨hK, hA, hT⟩, rfl⟩ := C
  exact fun ρ H locs ls h1 h3 h4 h5 h6 => lv_goto hx hb d ht (kk ρ H locs ls h1 h3 h4 h5 h6)
theorem r_iinc (C : Sem cc own nm nL R g) {i : Nat} {z : Int} {x v : Int32} {lv' : List (Option Value)} (d : decode cc pc = .ok (.iinc i z, 3)) (hl0 : lv[i]? = some (some (.int x))) (hv : x + Int32.ofInt z = v) (hf : xN lv i) (hl : lv.set i (some (.int v)) = lv') (kk : g k n θ (pc + 3) lv' st) : g k n θ pc lv st := by
  obtain ⟨p, l, e, s, m, args, below, meth, c, D, A, τ, ρ0, n0, Q, ⟨hx, hb, hts, hown, hnm, hml⟩, ⟨hK, hA, hT⟩, rfl⟩ := C
  subst hl
  intro ρ H locs ls h1 h3 h4 h5 h6
  have hn : i < lv.length := (List.getElem?_eq_some_iff.mp hl0).1
  obtain ⟨q, hq⟩ := List.getElem?_of_mem (xLl_in (ρ := ρ) (lv := lv) (q := (i, .int x)) |>.mpr ⟨.int x, hl0, rfl⟩)
  exact lv_iinc hx hb d (xL_has h6) hq hv hn rfl (fun ls' h => kk ρ H locs ls' h1 h3 h4 h5 (xL_set1 (v := .int v) hn hf h))
theorem r_tableOut (C : Sem cc own nm nL R g) {dflt lo hi : Int} {offs : Array Int} {len : Nat} {x : Int32} {tgt : Nat} (d : decode cc pc = .ok (.tableswitch dflt lo hi offs, len)) (h : x.toInt < lo ∨ hi < x.toInt) (ht : (pc : Int) + dflt = (tgt : Int)) (kk : g k n θ tgt lv st) : g k n θ pc lv (.int x :: st) := by
  obtain ⟨p, l, e, s, m, args, below, meth, c, D, A, τ, ρ0, n0, Q, ⟨hx, hb, hts, hown, hnm, hml⟩, ⟨hK, hA, hT⟩, rfl⟩ := C
  exact fun ρ H locs ls h1 h3 h4 h5 h6 => lv_tableOut hx hb d h ht (kk ρ H locs ls h1 h3 h4 h5 h6)
theorem r_tableIn (C : Sem cc own nm nL R g) {dflt lo hi : Int} {offs : Array Int} {len : Nat} {x : Int32} {off : Int} {tgt : Nat} (d : decode cc pc = .ok (.tableswitch dflt lo hi offs, len)) (q1 : ¬ x.toInt < lo) (q2 : ¬ hi < x.toInt) (ho : offs[(x.toInt - lo).toNat]? = some off) (ht : (pc : Int) + off = (tgt : Int)) (kk : g k n θ tgt lv st) : g k n θ pc lv (.int x :: st) := by
  obtain ⟨p, l, e, s, m, args, below, meth, c, D, A, τ, ρ0, n0, Q, ⟨hx, hb, hts, hown, hnm, hml⟩, ⟨hK, hA, hT⟩, rfl⟩ := C
  exact fun ρ H locs ls h1 h3 h4 h5 h6 => lv_tableIn hx hb d q1 q2 ho ht (kk ρ H locs ls h1 h3 h4 h5 h6)
theorem r_lookup (C : Sem cc own nm nL R g) {dflt : Int} {ps : Array (Int × Int)} {len : Nat} {x : Int32} {off : Int} {tgt : Nat} (d : decode cc pc = .ok (.lookupswitch dflt ps, len)) (hp : (ps.toList.zip (ps.toList.drop 1)).all (fun (a, next) => a.1 < next.1) = true) (ho : Op.lookupswitch.offset ps.toList dflt x.toInt = off) (ht : (pc : Int) + off = (tgt : Int)) (kk : g k n θ tgt lv st) : g k n θ pc lv (.int x :: st) := by
  obtain ⟨p, l, e, s, m, args, below, meth, c, D, A, τ, ρ0, n0, Q, ⟨hx, hb, hts, hown, hnm, hml⟩, ⟨hK, hA, hT⟩, rfl⟩ := C
  exact fun ρ H locs ls h1 h3 h4 h5 h6 => lv_lookup hx hb d hp ho ht (kk ρ H locs ls h1 h3 h4 h5 h6)
/-- a field of the class number ci, by the pool's place ix of the class own -/
def xF (own : String) (ix ci fk : Nat) : Prop := ∃ (C : String) (T : u_T) (N : Nat), vwCl[ci]? = some (C, T, N) ∧ fk < N ∧ Cond.fieldLink own ix (T fk).1 (T fk).2.1 (T fk).2.2.1 ∈ TT ∧ (∀ w ∈ u_ws C T N, w ∈ TT) ∧ (∃ ty : Nat → FieldType, ∀ j, j < N → parseFieldDescriptor (T j).2.2.1 = some (ty j)) ∧ (∀ a, a < N → ∀ b, b < N → a ≠ b → (T a).2.1 ≠ (T b).2.1)
def xFt (ci fk : Nat) (fin : Bool) (ty : FieldType) : Prop := match vwCl[ci]? with
  | some q => (q.2.1 fk).2.2.2 = fin ∧ parseFieldDescriptor (q.2.1 fk).2.2.1 = some ty ∧ (fin = true → (q.2.1 fk).1 = q.1)
  | none => False
theorem r_getfield (C : Sem cc own nm nL R g) {ix a ci fk : Nat} {fs : List Value} {v : Value} (F : xF own ix ci fk) (d : decode cc pc = .ok (.getfield ix, 3)) (hθ : θ[a]? = some (.inr (ci, fs))) (hv : fs[fk]? = some v) (kk : g k n θ (pc + 3) lv (v :: st)) : g k n θ pc lv (.ref a :: st) := by
  obtain ⟨p, l, e, s, m, args, below, meth, c, D, A, τ, ρ0, n0, Q, ⟨hx, hb, hts, hown, hnm, hml⟩, ⟨hK, hA, hT⟩, rfl⟩ := C
  obtain ⟨cn, T, N, a1, a2, a3, a4, a5, a6⟩ := F
  intro ρ H locs ls h1 h3 h4 h5 h6
  exact va_get (D := D) (cl := vwCl) hx hb hts a4 hown hK h3 a (xW_at hθ) a1 fk a2 (hts _ a3) (fun _ h9 => h9) (by rw [List.getElem?_map, hv]; rfl) d (kk ρ H locs ls h1 h3 h4 h5 h6)
theorem r_putfield (C : Sem cc own nm nL R g) {ix a ci fk : Nat} {fs : List Value} {v : Value} {ty : FieldType} {θ' : List xE} (F : xF own ix ci fk) (Ft : xFt ci fk false ty) (d : decode cc pc = .ok (.putfield ix, 3)) (hθ : θ[a]? = some (.inr (ci, fs))) (hv : fk < fs.length) (hn : ∀ ρ, narrow ty (xV ρ v) = xV ρ v ∧ fits ty (xV ρ v) = true) (hs : θ.set a (.inr (ci, fs.set fk v)) = θ') (kk : g k n θ' (pc + 3) lv st) : g k n θ pc lv (v :: .ref a :: st) := by
  obtain ⟨p, l, e, s, m, args, below, meth, c, D, A, τ, ρ0, n0, Q, ⟨hx, hb, hts, hown, hnm, hml⟩, ⟨hK, hA, hT⟩, rfl⟩ := C
  obtain ⟨cn, T, N, a1, a2, a3, a4, ⟨tys, a5⟩, a6⟩ := F
  simp only [xFt, a1] at Ft
  intro ρ H locs ls h1 h3 h4 h5 h6
  subst hs
  refine va_put (D := D) (cl := vwCl) hx hb hts a4 tys a5 a6 hown hK h3 h4 h5 a (xW_at hθ) a1 fk a2 (hts _ a3) (fun _ h9 => h9) Ft.1 Ft.2.1 (hn ρ).1 (hn ρ).2 (by rw [List.length_map]; exact hv) d (fun H1 locs1 w1 w2 w3 => ?_)
  have e1 : (xW ρ τ θ).set a (ρ a, .inr (ci, (fs.map (xV ρ)).set fk (xV ρ v))) = xW ρ τ (θ.set a (.inr (ci, fs.set fk v))) := by
    rw [← xW_set]
    simp only [xC, List.map_set]
  rw [e1] at w1 w2
  exact kk ρ H1 locs1 ls (by rw [List.length_set]; exact h1) w1 w2 w3 h6
theorem r_iaload (C : Sem cc own nm nL R g) {a N : Nat} {f : Nat → Int32} {x v : Int32} (j : Nat) (d : decode cc pc = .ok (.iaload, 1)) (hθ : θ[a]? = some (.inl (0, N, .inl f))) (hi : x = nI j) (hj : j < N) (hv : f j = v) (kk : g k n θ (pc + 1) lv (.int v :: st)) (hN : N < 2 ^ 31 := by decide) : g k n θ pc lv (.int x :: .ref a :: st) := by
  obtain ⟨p, l, e, s, m, args, below, meth, c, D, A, τ, ρ0, n0, Q, ⟨hx, hb, hts, hown, hnm, hml⟩, ⟨hK, hA, hT⟩, rfl⟩ := C
  intro ρ H locs ls h1 h3 h4 h5 h6
  subst hi
  subst hv
  have e1 : (nI j).toNatClampNeg = j := nI_clamp (Nat.lt_trans hj hN)
  refine va_iald (D := D) (cl := vwCl) (tys := xT τ) hx hb hK h3 a 0 (cA := τ 0) (n := N) (f := f) (xW_at hθ) rfl (vp_in_nI hj hN) d ?_
  rw [e1]
  exact kk ρ H locs ls h1 h3 h4 h5 h6
theorem r_iastore (C : Sem cc own nm nL R g) {a N : Nat} {f : Nat → Int32} {x : Int32} {y : Int32} {θ' : List xE} (j : Nat) (d : decode cc pc = .ok (.iastore, 1)) (hθ : θ[a]? = some (.inl (0, N, .inl f))) (hi : x = nI j) (hj : j < N)  (hs : θ.set a (.inl (0, N, .inl (upd f j y))) = θ') (kk : g k n θ' (pc + 1) lv st) (hN : N < 2 ^ 31 := by decide) : g k n θ pc lv (.int y :: .int x :: .ref a :: st) := by
  obtain ⟨p, l, e, s, m, args, below, meth, c, D, A, τ, ρ0, n0, Q, ⟨hx, hb, hts, hown, hnm, hml⟩, ⟨hK, hA, hT⟩, rfl⟩ := C
  intro ρ H locs ls h1 h3 h4 h5 h6
  subst hi
  subst hs
  have e1 : (nI j).toNatClampNeg = j := nI_clamp (Nat.lt_trans hj hN)
  refine va_iast (D := D) (cl := vwCl) (tys := xT τ) hx hb hK h3 h4 h5 a 0 (cA := τ 0) (n := N) (f := f) (xW_at hθ) rfl (vp_in_nI hj hN) d (fun H1 locs1 w1 w2 w3 => ?_)
  rw [e1] at w1 w2
  exact kk ρ H1 locs1 ls (by rw [List.length_set]; exact h1) (xW_set (ρ := ρ) (τ := τ) (θ := θ) (i := a) ▸ w1) (xW_set (ρ := ρ) (τ := τ) (θ := θ) (i := a) ▸ w2) w3 h6
theorem r_baload (C : Sem cc own nm nL R g) {a N : Nat} {f : Nat → Int32} {x v : Int32} (j : Nat) (d : decode cc pc = .ok (.baload, 1)) (hθ : θ[a]? = some (.inl (1, N, .inl f))) (hi : x = nI j) (hj : j < N) (hv : f j = v) (kk : g k n θ (pc + 1) lv (.int v :: st)) (hN : N < 2 ^ 31 := by decide) : g k n θ pc lv (.int x :: .ref a :: st) := by
  obtain ⟨p, l, e, s, m, args, below, meth, c, D, A, τ, ρ0, n0, Q, ⟨hx, hb, hts, hown, hnm, hml⟩, ⟨hK, hA, hT⟩, rfl⟩ := C
  intro ρ H locs ls h1 h3 h4 h5 h6
  subst hi
  subst hv
  have e1 : (nI j).toNatClampNeg = j := nI_clamp (Nat.lt_trans hj hN)
  refine va_zald (D := D) (cl := vwCl) (tys := xT τ) hx hb hK h3 a 1 (cA := τ 1) (n := N) (f := f) (xW_at hθ) rfl (vp_in_nI hj hN) d ?_
  rw [e1]
  exact kk ρ H locs ls h1 h3 h4 h5 h6
theorem r_bastore (C : Sem cc own nm nL R g) {a N : Nat} {f : Nat → Int32} {x : Int32} {y0 y : Int32} {θ' : List xE} (j : Nat) (d : decode cc pc = .ok (.bastore, 1)) (hθ : θ[a]? = some (.inl (1, N, .inl f))) (hi : x = nI j) (hj : j < N) (hy : vp_nar .boolean y0 = y) (hs : θ.set a (.inl (1, N, .inl (upd f j y))) = θ') (kk : g k n θ' (pc + 1) lv st) (hN : N < 2 ^ 31 := by decide) : g k n θ pc lv (.int y0 :: .int x :: .ref a :: st) := by
  obtain ⟨p, l, e, s, m, args, below, meth, c, D, A, τ, ρ0, n0, Q, ⟨hx, hb, hts, hown, hnm, hml⟩, ⟨hK, hA, hT⟩, rfl⟩ := C
  intro ρ H locs ls h1 h3 h4 h5 h6
  subst hi
  subst hs
  subst hy
  have e1 : (nI j).toNatClampNeg = j := nI_clamp (Nat.lt_trans hj hN)
  refine va_zast (D := D) (cl := vwCl) (tys := xT τ) hx hb hK h3 h4 h5 a 1 (cA := τ 1) (n := N) (f := f) (xW_at hθ) rfl (vp_in_nI hj hN) d (fun H1 locs1 w1 w2 w3 => ?_)
  rw [e1] at w1 w2
  exact kk ρ H1 locs1 ls (by rw [List.length_set]; exact h1) (xW_set (ρ := ρ) (τ := τ) (θ := θ) (i := a) ▸ w1) (xW_set (ρ := ρ) (τ := τ) (θ := θ) (i := a) ▸ w2) w3 h6
theorem r_aaload (C : Sem cc own nm nL R g) {a N t b : Nat} {f : Nat → Option Nat} {x : Int32} {cn : String} (j : Nat) (d : decode cc pc = .ok (.aaload, 1)) (hθ : θ[a]? = some (.inl (t, N, .inr (.inr (.inr (.inr f)))))) (ht : ∀ τ : Nat → ClassId, (xT τ)[t]? = some (τ t, .object cn)) (hi : x = nI j) (hj : j < N) (hv : f j = some b) (kk : g k n θ (pc + 1) lv (.ref b :: st)) (hN : N < 2 ^ 31 := by decide) : g k n θ pc lv (.int x :: .ref a :: st) := by
  obtain ⟨p, l, e, s, m, args, below, meth, c, D, A, τ, ρ0, n0, Q, ⟨hx, hb, hts, hown, hnm, hml⟩, ⟨hK, hA, hT⟩, rfl⟩ := C
  intro ρ H locs ls h1 h3 h4 h5 h6
  subst hi
  have e1 : (nI j).toNatClampNeg = j := nI_clamp (Nat.lt_trans hj hN)
  refine va_aldq (D := D) (cl := vwCl) (tys := xT τ) hx hb hK h3 a t (cA := τ t) (C := cn) (n := N) (f := fun q => (f q).map ρ) (xW_at hθ) (ht τ) (vp_in_nI hj hN) d ?_
  rw [e1, hv]
  exact kk ρ H locs ls h1 h3 h4 h5 h6
end FW
