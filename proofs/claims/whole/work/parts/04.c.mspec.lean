/-! ===== the reference's words ===== -/
def vw (t : Nat → Int32) : Nat → Nat → Int32 := fun k h => match k with
  | 0 => t (4 + h)
  | 1 => t (10 + h)
  | 2 => t (16 + h)
  | 3 => t (22 + h)
  | 4 => t (28 + h)
  | 5 => t 3
  | 6 => t 1
  | 7 => t 2
  | 8 => t 35
  | 9 => t 0
  | _ => t 34
def inS (v l m : Int64) : Bool := !decide (v < l) && !decide (m < v)
def inI (v l m : Int32) : Bool := decide (l ≤ v) && decide (v ≤ m)
theorem in_I (v l m : Int32) {L M : Int64} (hl : l.toInt64 = L) (hm : m.toInt64 = M) : inS v.toInt64 L M = inI v l m := by
  subst hl; subst hm
  unfold inS inI
  simp only [Int64.lt_iff_toInt_lt, Int32.toInt_toInt64, Int32.le_iff_toInt_le]
  congr 1 <;> simp [← Int.not_lt]
def hasS (s i : Int32) : Bool := decide ((s >>> (i &&& 31)) &&& 1 = 1)
def okK (F : Nat → Nat → Int32) (h : Nat) : Prop := F 0 h = 1 ∨ F 0 h = 2 ∨ F 0 h = 3 ∨ F 0 h = 4 ∨ F 0 h = 5
def okWM (F : Nat → Nat → Int32) : Prop := ∀ h, h < 6 → ∃ w, w ≤ 5 ∧ F 4 h = nI w
theorem sw0 {sw : Int32} (h : ∃ w, w ≤ 5 ∧ sw = nI w) : (sw = 0 → ¬ 0 < sw) ∧ (¬ sw = 0 → 0 < sw ∧ ¬ 4 * sw = 0) := by
  obtain ⟨w, hw, rfl⟩ := h
  have : ∀ w, w < 6 → (nI w = 0 → ¬ 0 < nI w) ∧ (¬ nI w = 0 → 0 < nI w ∧ ¬ 4 * nI w = 0) := by decide +kernel
  exact this w (by omega)
def nrM (F : Nat → Nat → Int32) (i e : Nat) (t : Int32) : Bool := !decide (i = e) && (!downS F i t && (!downS F e t && (!decide (2 * F 7 0 < plS F i t - plS F e t) && !decide (2 * F 7 0 < -(plS F i t - plS F e t)))))
def moreS (reach : Nat → Int32) (set : Int32) : Nat → Int32
  | 0 => 0
  | i + 1 => moreS reach set i ||| (if hasS set (nI i) then reach i else 0)
def reachM (F : Nat → Nat → Int32) (z i : Nat) (t : Int32) : Int32 := bitsS (fun e => nrM F i e t) z
def setM (F : Nat → Nat → Int32) (z : Nat) (a : Int32) : Nat → Int32
  | 0 => 1 <<< (a &&& 31)
  | k + 1 => setM F z a k ||| moreS (fun i => reachM F z i (F 8 0 + nI k)) (setM F z a k) z
def soonFrom (has : Nat → Bool) : Nat → Nat → Int32
  | 0, _ => 1000000
  | n + 1, k => if has k then nI k else soonFrom has n (k + 1)
def soonM (F : Nat → Nat → Int32) (z : Nat) (a b : Int32) : Int32 := soonFrom (fun k => hasS (setM F z a k) b) 61 0
def sortM (l : Int32) : Int32 := if l = 99 then 1 else if l = 115 then 2 else if l = 118 then 3 else if l = 114 then 4 else if l = 111 then 5 else 0
def toldM (v : Int32) : Int32 := if v < 1000000 then v else -1000000
def isOfM (own kind : Int32) : Bool := decide (kind = 0) || (decide (own = kind) || ((decide (kind = 1) && (decide (own = 2) || decide (own = 3))) || (decide (kind = 4) && decide (own = 5))))
theorem cut_has (F : Nat → Nat → Int32) (h : Nat) : cutS F h = hasS (F 10 0) (nI h) := rfl
theorem cpy_zero (f u : Nat → Int32) (i j : Nat) : va_cpy f u i j 0 = u := by
  funext q
  unfold va_cpy
  rw [if_neg (by omega)]
theorem cpy_step (f u : Nat → Int32) (i j k : Nat) : upd (va_cpy f u i j k) (j + k) (f (i + k)) = va_cpy f u i j (k + 1) := by
  funext q
  unfold upd va_cpy
  by_cases h : q = j + k
  · subst h
    rw [if_pos rfl, if_pos (by omega)]
    congr 1
    omega
  · rw [if_neg h]
    by_cases h2 : j ≤ q ∧ q < j + k
    · rw [if_pos h2, if_pos (by omega)]
    · rw [if_neg h2, if_neg (by omega)]
