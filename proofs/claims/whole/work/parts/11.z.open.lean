theorem ri_5 (b : Nat → Int32) (ln p : Nat) (ft : Int32) (F : Nat → Nat → Int32) : (riS b ln p ft F).2.2.2 5 0 = 0 ∨ (riS b ln p ft F).2.2.2 5 0 = 1 := sorry
theorem rel_bel {S : Nat → Nat → Nat → Int32} {M : Nat → Nat → Int32} {z o q ln tr : Nat} (h : RelP S M z o q ln tr) : 0 < (belM M z).toInt := sorry
theorem rel_br {S : Nat → Nat → Nat → Int32} {M : Nat → Nat → Int32} {z o q ln tr : Nat} (h : RelP S M z o q ln tr) : ∀ ia ib jd, ia < z → ib < z → jd ≤ 60 → ∀ c, inI c 0 10 = true → 0 ≤ (brM M z ia ib jd c (2 ^ z)).toInt := sorry
def S00 : Nat → Nat → Nat → Int32 := fun c k _ => cond (Nat.ble 8 c && Nat.beq k 1) (-1) 0
def M00 : Nat → Nat → Int32 := up2 z2 1 (upd (upd (upd (upd (upd (upd (upd (upd (fun _ => 0) 0 (-1)) 1 (-1)) 2 (-1)) 3 (-1)) 4 (-1)) 5 (-1)) 6 (-1)) 7 (-1))
theorem rel_start : Rel S00 M00 := sorry
theorem rel_copy {S : Nat → Nat → Nat → Int32} {M : Nat → Nat → Int32} {z o q ln tr : Nat} (h : RelP S M z o q ln tr) (a i b j n : Int32) : (copyC S a i b j n).1 = (copyM M a i b j n).1 ∧ Rel ((copyC S a i b j n).2) ((copyM M a i b j n).2) := sorry
theorem rel_forest {S : Nat → Nat → Nat → Int32} {M : Nat → Nat → Int32} {z o q ln tr : Nat} (h : RelP S M z o q ln tr)  : (forC S ln).1 = (forM M ln).1 ∧ Rel ((forC S ln).2) ((forM M ln).2) := sorry
theorem rel_soonest {S : Nat → Nat → Nat → Int32} {M : Nat → Nat → Int32} {z o q ln tr : Nat} (h : RelP S M z o q ln tr) (a b : Int32) : soonC S z a b = sooM M z a b ∧ Rel (S) (M) := sorry
theorem rel_hands {S : Nat → Nat → Nat → Int32} {M : Nat → Nat → Int32} {z o q ln tr : Nat} (h : RelP S M z o q ln tr) (a b : Int32) : (handsC S z a b).1 = (handsM M z a b).1 ∧ Rel ((handsC S z a b).2) ((handsM M z a b).2) := sorry
theorem rel_everywhere {S : Nat → Nat → Nat → Int32} {M : Nat → Nat → Int32} {z o q ln tr : Nat} (h : RelP S M z o q ln tr) (a d : Int32) : everyC S z a d = evM M z a d ∧ Rel (S) (M) := sorry
theorem rel_stops {S : Nat → Nat → Nat → Int32} {M : Nat → Nat → Int32} {z o q ln tr : Nat} (h : RelP S M z o q ln tr) (a b d : Int32) : (stopsC S z a b d).1 = (stopsM M z a b d).1 ∧ Rel ((stopsC S z a b d).2) ((stopsM M z a b d).2) := sorry
theorem rel_toSling {S : Nat → Nat → Nat → Int32} {M : Nat → Nat → Int32} {z o q ln tr : Nat} (h : RelP S M z o q ln tr) (c a b x : Int32) : (slingToC S z c a b x).1 = (slingToM M z c a b x).1 ∧ Rel ((slingToC S z c a b x).2) ((slingToM M z c a b x).2) := sorry
theorem rel_fits {S : Nat → Nat → Nat → Int32} {M : Nat → Nat → Int32} {z o q ln tr : Nat} (h : RelP S M z o q ln tr) (h r i n x : Int32) : (fitsC S z h r i n x).1 = (fitsM M z h r i n x).1 ∧ Rel ((fitsC S z h r i n x).2) ((fitsM M z h r i n x).2) := sorry
theorem rel_breaks {S : Nat → Nat → Nat → Int32} {M : Nat → Nat → Int32} {z o q ln tr : Nat} (h : RelP S M z o q ln tr) (a b d c x : Int32) : (breaksC S z a b d c x).1 = (breaksM M z a b d c x).1 ∧ Rel ((breaksC S z a b d c x).2) ((breaksM M z a b d c x).2) := sorry
theorem rel_ask {S : Nat → Nat → Nat → Int32} {M : Nat → Nat → Int32} {z o q ln tr : Nat} (h : RelP S M z o q ln tr) (h x : Int32) : (askC S h x).1 = (askM M h x).1 ∧ Rel ((askC S h x).2) ((askM M h x).2) := sorry
theorem rel_count {S : Nat → Nat → Nat → Int32} {M : Nat → Nat → Int32} {z o q ln tr : Nat} (h : RelP S M z o q ln tr) (x : Int32) : (countC S x).1 = (countM M x).1 ∧ Rel ((countC S x).2) ((countM M x).2) := sorry
