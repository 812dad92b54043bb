/-! ===== what a forest answers ===== -/
def okSw (sw : Int32) : Prop := sw = -1 ∨ ∃ w, w ≤ 5 ∧ sw = nI w
def okW (F : Nat → Nat → Int32) : Prop := ∀ h, h < 6 → okSw (F 4 h)
theorem sw_ne {sw : Int32} (h : okSw sw) (hp : 0 < sw) : ¬ 4 * sw = 0 := by
  rcases h with rfl | ⟨w, hw, rfl⟩
  · exact absurd hp (by decide)
  revert hp
  have : ∀ w, w < 6 → 0 < nI w → ¬ 4 * nI w = 0 := by decide +kernel
  exact this w (by omega)
def swS (sw t : Int32) : Int32 := if 0 < sw then (if sw < rmI t (4 * sw) then (if 3 * sw < rmI t (4 * sw) then rmI t (4 * sw) - 4 * sw else 2 * sw - rmI t (4 * sw)) else rmI t (4 * sw)) else 0
def cutS (F : Nat → Nat → Int32) (h : Nat) : Bool := decide ((F 10 0 >>> (nI h &&& 31)) &&& 1 = 1)
def dipS (F : Nat → Nat → Int32) (h : Nat) (t : Int32) : Int32 := if F 0 h = 2 then (F 3 h + (F 2 h - F 1 h) / 2) / 2 else if F 0 h = 3 then (F 3 h + (F 2 h - F 1 h) / 2) + t / 10 else if F 0 h = 4 then F 2 h - F 1 h else if F 0 h = 5 then 0 else F 3 h + (F 2 h - F 1 h) / 2
def downS (F : Nat → Nat → Int32) (h : Nat) (t : Int32) : Bool := cutS F h || !decide (dipS F h t ≤ F 6 0)
def offS (F : Nat → Nat → Int32) (h : Nat) (t : Int32) : Int32 := if F 0 h = 3 then swS (F 4 h) (t / 2) else if F 0 h = 4 then 0 else if F 0 h = 5 then F 4 h else swS (F 4 h) t
def plS (F : Nat → Nat → Int32) (h : Nat) (t : Int32) : Int32 := F 1 h + F 2 h + 2 * offS F h t
def spS (F : Nat → Nat → Int32) (h : Nat) (t : Int32) : Int32 := if downS F h t then -1000 else plS F h t
def nrS (F : Nat → Nat → Int32) (a b : Int32) : Bool := !decide (a = -1000) && !decide (b = -1000) && !decide (2 * F 7 0 < absI (a - b))
def bitsS (p : Nat → Bool) : Nat → Int32
  | 0 => 0
  | n + 1 => if p n then bitsS p n ||| (1 <<< (nI n &&& 31)) else bitsS p n
def begS (F : Nat → Nat → Int32) : Nat → Nat → Int32 := up2 (up2 (up2 (up2 F 5 (k1 1)) 8 (k1 0)) 9 (k1 0)) 10 (k1 0)
/-- the first six of f, then those of g -/
def cp6 (f g : Nat → Int32) : Nat → Int32 := va_cpy f g 0 0 6
def tkS (F P : Nat → Nat → Int32) : Nat → Nat → Int32 := fun k => match k with
  | 0 => cp6 (P 0) (F 0)
  | 1 => cp6 (P 1) (F 1)
  | 2 => cp6 (P 2) (F 2)
  | 3 => cp6 (P 3) (F 3)
  | 4 => cp6 (P 4) (F 4)
  | 5 => k1 (P 5 0)
  | 6 => k1 (P 6 0)
  | 7 => k1 (P 7 0)
  | 8 => k1 (P 8 0)
  | 9 => k1 (P 9 0)
  | 10 => k1 (P 10 0)
  | k => F k
