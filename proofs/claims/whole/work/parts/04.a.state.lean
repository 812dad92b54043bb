/-! ===== states ===== -/
def up2 (S : Nat → Nat → Int32) (k : Nat) (f : Nat → Int32) : Nat → Nat → Int32 := fun j => cond (Nat.beq j k) f (S j)
def up3 (S : Nat → Nat → Nat → Int32) (c : Nat) (X : Nat → Nat → Int32) : Nat → Nat → Nat → Int32 := fun j => cond (Nat.beq j c) X (S j)
abbrev k1 (v : Int32) : Nat → Int32 := fun _ => v
def bB (b : Bool) : Int32 := cond b 1 0
theorem bB_nar (b : Bool) : narrow .boolean (.int (bB b)) = .int (bB b) := by cases b <;> rfl
theorem bB_f {b : Bool} (h : bB b = 0) : b = false := by cases b <;> simp_all [bB]
theorem bB_t {b : Bool} (h : ¬ bB b = 0) : b = true := by cases b <;> simp_all [bB]
def rmI (x y : Int32) : Int32 := x - x / y * y
def rmL (x y : Int64) : Int64 := x - x / y * y
def absI (x : Int32) : Int32 := if 0 ≤ x then x else 0 - x
theorem abs_s : Cond.static Lib.Math.abs.name ∈ TT := TT_mem 414 (by decide +kernel) rfl
theorem abs_i : Cond.initialized "java/lang/Math" ∈ TT := tw_9
theorem abs_c : Cond.code Lib.Math.abs.name Lib.Math.abs.code 1 (some .int) ∈ TT := TT_mem 415 (by decide +kernel) rfl
theorem cpy_n : Cond.native arraycopyName ∈ TT := TT_mem 244 (by decide +kernel) rfl
theorem cpy_s : Cond.static arraycopyName ∈ TT := TT_mem 243 (by decide +kernel) rfl
theorem cpy_i : Cond.initialized "java/lang/System" ∈ TT := tw_8
def wF (o : Nat) (F : Nat → Nat → Int32) : List xE := [.inr (1, [.ref (o + 1), .ref (o + 2), .ref (o + 3), .ref (o + 4), .ref (o + 5), .int (F 5 0), .int (F 6 0), .int (F 7 0), .int (F 8 0), .int (F 9 0), .int (F 10 0)]), .inl (0, 6, .inl (F 0)), .inl (0, 6, .inl (F 1)), .inl (0, 6, .inl (F 2)), .inl (0, 6, .inl (F 3)), .inl (0, 6, .inl (F 4))]
def wA (o : Nat) (A : Nat → Nat → Int32) : List xE := [.inr (0, [.ref (o + 1), .ref (o + 2), .ref (o + 3), .ref (o + 4), .int (A 4 0), .int (A 5 0)]), .inl (0, 24, .inl (A 0)), .inl (0, 24, .inl (A 1)), .inl (0, 24, .inl (A 2)), .inl (0, 24, .inl (A 3))]
def wO (o : Nat) (O : Nat → Nat → Int32) : List xE := [.inr (2, [.ref (o + 1), .ref (o + 2), .ref (o + 3), .int (O 3 0)]), .inl (0, 360, .inl (O 0)), .inl (0, 360, .inl (O 1)), .inl (0, 6, .inl (O 2))]
def wR (o : Nat) (X : Nat → Nat → Int32) : List xE := [.inr (3, [.ref (o + 1), .int (X 1 0), .int (X 2 0)]), .inl (0, 40, .inl (X 0))]
def wT (o : Nat) (T : Nat → Nat → Int32) : List xE := [.inr (4, [.ref (o + 1), .int (T 1 0), .int (T 2 0), .int (T 3 0)]), .inl (0, 120, .inl (T 0))]
def wM (M : Nat → Nat → Int32) : List xE := [.inr (6, [.ref 1, .ref 2, .ref 3, .int (M 3 0), .ref 4, .ref 5, .ref 6, .ref 7, .int (M 8 0), .ref 8, .ref 9, .ref 10, .int (M 12 0), .int (M 13 0), .ref 11, .int (M 15 0), .int (M 16 0), .int (M 17 0), .int (M 18 0), .int (M 19 0), .int (M 20 0), .ref 12, .ref 13]), .inl (0, 8, .inl (M 0)), .inl (0, 8, .inl (M 1)), .inl (0, 320, .inl (M 2)), .inl (0, 36, .inl (M 4)), .inl (0, 36, .inl (M 5)), .inl (0, 36, .inl (M 6)), .inl (0, 864, .inl (M 7)), .inl (0, 72, .inl (M 9)), .inl (1, 2, .inl (M 10)), .inl (0, 120, .inl (M 11)), .inl (0, 16, .inl (M 14)), .inl (0, 6, .inl (M 21)), .inl (0, 6, .inl (M 22))]
theorem nI_sum {a b : Int32} {m n : Nat} (ha : a = nI m) (hb : b = nI n) : a + b = nI (m + n) := by rw [ha, hb, nI_add]
theorem nI_prod {a b : Int32} {m n : Nat} (ha : a = nI m) (hb : b = nI n) : a * b = nI (m * n) := by rw [ha, hb, pk_mul]
theorem nI_dif {a b : Int32} {m n : Nat} (ha : a = nI m) (hb : b = nI n) (h : n ≤ m) : a - b = nI (m - n) := by rw [ha, hb, pk_sub h]
theorem nI_rem {x y : Int32} {a b : Nat} (hx : x = nI a) (hy : y = nI b) (ha : a < 2 ^ 31) (h0 : 0 < b) (hb : b < 2 ^ 31) : rmI x y = nI (a % b) := by rw [hx, hy, rmI, pk_rem ha h0 hb]
theorem nI_quo {x y : Int32} {a b : Nat} (hx : x = nI a) (hy : y = nI b) (ha : a < 2 ^ 31) (h0 : 0 < b) (hb : b < 2 ^ 31) : x / y = nI (a / b) := by rw [hx, hy, pk_div ha h0 hb]
/-- the class's whole world: S 0 the object (7 traced, 8 its count, 9 the finding), S 1 the tape, S 2 now, S 3 trial, S 4, S 5 images, S 6 acts, S 7 outlook, S (8 + j) row j -/
def wC (S : Nat → Nat → Nat → Int32) : List xE := [.inr (5, [.ref 1, .ref 18, .ref 20, .ref 26, .ref 32, .ref 45, .ref 50, .ref 54, .int (S 0 8 0), .int (S 0 9 0)]), .inl (3, 8, .inr (.inr (.inr (.inr (fun k => some (2 + 2 * k))))))] ++ (wR 2 (S 8) ++ (wR 4 (S 9) ++ (wR 6 (S 10) ++ (wR 8 (S 11) ++ (wR 10 (S 12) ++ (wR 12 (S 13) ++ (wR 14 (S 14) ++ (wR 16 (S 15) ++ (wT 18 (S 1) ++ (wF 20 (S 2) ++ (wF 26 (S 3) ++ ([.inl (2, 2, .inr (.inr (.inr (.inr (fun k => some (33 + 6 * k))))))] ++ (wF 33 (S 4) ++ (wF 39 (S 5) ++ (wA 45 (S 6) ++ (wO 50 (S 7) ++ [.inl (0, 16, .inl (S 0 7))]))))))))))))))))
