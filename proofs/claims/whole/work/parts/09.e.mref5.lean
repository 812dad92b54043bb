/-! ===== the reference's hands ===== -/
def gI (a : Int32) (f : Nat → Int32) : Nat → Nat → Int32
  | 0 => f
  | i + 1 => upd (gI a f i) i (if nI i = a then 0 else 1000000)
def thE (F : Nat → Nat → Int32) (g : Nat → Int32) (i : Nat) (m : Int32) : Nat → Int32
  | 0 => g i
  | e + 1 => if thE F g i m e ≤ g e + 1 then thE F g i m e else if nrM F e i m then g e + 1 else thE F g i m e
def thA (F : Nat → Nat → Int32) (g : Nat → Int32) (m : Int32) (z : Nat) (t : Nat → Int32) : Nat → Nat → Int32
  | 0 => t
  | i + 1 => upd (thA F g m z t i) i (thE F g i m z)
def gcp (t g : Nat → Int32) : Nat → Nat → Int32
  | 0 => g
  | i + 1 => upd (gcp t g i) i (t i)
def hgS (F : Nat → Nat → Int32) (m : Int32) (z : Nat) (g0 t0 : Nat → Int32) : Nat → (Nat → Int32) × (Nat → Int32)
  | 0 => (g0, t0)
  | k + 1 => (gcp (thA F (hgS F m z g0 t0 k).1 (m + nI k) z (hgS F m z g0 t0 k).2 z) (hgS F m z g0 t0 k).1 z, thA F (hgS F m z g0 t0 k).1 (m + nI k) z (hgS F m z g0 t0 k).2 z)
noncomputable def hgT : (Nat → Nat → Int32) → Int32 → Nat → (Nat → Int32) → (Nat → Int32) → Nat → (Nat → Int32) × (Nat → Int32) := Classical.choose (seal_ex hgS)
theorem hgT_eq : hgT = hgS := Classical.choose_spec (seal_ex hgS)
noncomputable def thT : (Nat → Nat → Int32) → (Nat → Int32) → Int32 → Nat → (Nat → Int32) → Nat → Nat → Int32 := Classical.choose (seal_ex thA)
theorem thT_eq : thT = thA := Classical.choose_spec (seal_ex thA)
theorem hgT_s {F : Nat → Nat → Int32} {m : Int32} {z : Nat} {g0 t0 : Nat → Int32} {k : Nat} : hgT F m z g0 t0 (k + 1) = (gcp (thT F (hgT F m z g0 t0 k).1 (m + nI k) z (hgT F m z g0 t0 k).2 z) (hgT F m z g0 t0 k).1 z, thT F (hgT F m z g0 t0 k).1 (m + nI k) z (hgT F m z g0 t0 k).2 z) := by
  rw [hgT_eq, thT_eq]; rfl
set_option maxHeartbeats 4000000 in
set_option maxRecDepth 100000 in
theorem lpe_X6_hands (M : Nat → Nat → Int32) (z : Nat) (hM : okM M z) (ia ib : Nat) (hia : ia < z) (hib : ib < z) (k i : Nat) (hi : i < z) (g0 t0 : Nat → Int32) {g : Nat → Nat → List xE → Nat → List (Option Value) → List Value → Prop} (C : Sem cX6_hands RX6 "hands" 7 rmX6_hands g) (kk : g 0 0 (wM (up2 (up2 M 21 g0) 22 (upd t0 i (thE (vw (M 4)) g0 i ((M 4 35) + nI k) z)))) 186 [some (.ref 0), some (.int (nI ia)), some (.int (nI ib)), some (.int (nI k)), some (.int (nI i)), none, none] []) : ∀ (n : Nat) (e : Nat), e + n = z → g 0 0 (wM (up2 (up2 M 21 g0) 22 (upd t0 i (thE (vw (M 4)) g0 i ((M 4 35) + nI k) e)))) 89 [some (.ref 0), some (.int (nI ia)), some (.int (nI ib)), some (.int (nI k)), some (.int (nI i)), some (.int (nI e)), none] [] := by
  intro n
  have hz6 := hM.2.1
  induction n with
  | zero =>
    intro e hv
    have hvN : e = z := by omega
    rw [hvN]
    refine r_iload (pc := 89) C dX6_hands_89 rfl ?_
    refine r_aload_n (pc := 91) C dX6_hands_91 rfl rfl ?_
    refine r_getfield (pc := 92) (v := .ref 4) C xf_X6_19 dX6_hands_92 rfl rfl ?_
    refine r_iconst (pc := 95) (v := 0) C dX6_hands_95 (by decide) ?_
    refine r_iaload (pc := 96) (v := M 4 0) C 0 dX6_hands_96 rfl (by decide) (by decide) rfl ?_
    refine r_icmp_ge (pc := 97) (tgt := 186) C dX6_hands_97 (by decide) (fun _ => ?_) (fun h => absurd (by rw [hM.1]; exact nI_le (by omega) (by omega)) h)
    show g 0 0 (wM (up2 (up2 M 21 g0) 22 (upd t0 i (thE (vw (M 4)) g0 i ((M 4 35) + nI k) z)))) 186 [some (.ref 0), some (.int (nI ia)), some (.int (nI ib)), some (.int (nI k)), some (.int (nI i)), some (.int (nI z)), none] []
    refine r_drop (lv' := [some (.ref 0), some (.int (nI ia)), some (.int (nI ib)), some (.int (nI k)), some (.int (nI i)), none, none]) C ⟨rfl, rfl, rfl, rfl, rfl, trivial⟩ ?_
    show g 0 0 (wM (up2 (up2 M 21 g0) 22 (upd t0 i (thE (vw (M 4)) g0 i ((M 4 35) + nI k) z)))) 186 [some (.ref 0), some (.int (nI ia)), some (.int (nI ib)), some (.int (nI k)), some (.int (nI i)), none, none] []
    exact kk
  | succ n ih =>
    intro e hv
    refine r_iload (pc := 89) C dX6_hands_89 rfl ?_
    refine r_aload_n (pc := 91) C dX6_hands_91 rfl rfl ?_
    refine r_getfield (pc := 92) (v := .ref 4) C xf_X6_19 dX6_hands_92 rfl rfl ?_
    refine r_iconst (pc := 95) (v := 0) C dX6_hands_95 (by decide) ?_
    refine r_iaload (pc := 96) (v := M 4 0) C 0 dX6_hands_96 rfl (by decide) (by decide) rfl ?_
    refine r_icmp_ge (pc := 97) (tgt := 186) C dX6_hands_97 (by decide) (fun h => absurd h (by rw [hM.1]; exact nI_ge (by omega) (by omega))) (fun _ => ?_)
    refine r_aload_n (pc := 100) C dX6_hands_100 rfl rfl ?_
    refine r_getfield (pc := 101) (v := .ref 12) C xf_X6_44 dX6_hands_101 rfl rfl ?_
    refine r_iload (pc := 104) C dX6_hands_104 rfl ?_
    refine r_iaload (pc := 106) (v := g0 e) C e dX6_hands_106 rfl rfl (by first | assumption | omega) rfl ?_
    refine r_iconst (pc := 107) (v := 1) C dX6_hands_107 (by decide) ?_
    refine r_iadd (pc := 108) C dX6_hands_108 ?_
    refine r_aload_n (pc := 109) C dX6_hands_109 rfl rfl ?_
    refine r_getfield (pc := 110) (v := .ref 13) C xf_X6_47 dX6_hands_110 rfl rfl ?_
    refine r_iload (pc := 113) C dX6_hands_113 rfl ?_
    refine r_iaload (pc := 115) (v := thE (vw (M 4)) g0 i ((M 4 35) + nI k) e) C i dX6_hands_115 rfl rfl (by first | assumption | omega) pk_us ?_
    refine r_icmp_ge (pc := 116) (tgt := 146) C dX6_hands_116 (by decide) (fun h_116 => ?_) (fun h_116 => ?_)
    · skip
      refine r_iconst (pc := 146) (v := 0) C dX6_hands_146 (by decide) ?_
      refine r_istore (pc := 147) (lv' := [some (.ref 0), some (.int (nI ia)), some (.int (nI ib)), some (.int (nI k)), some (.int (nI i)), some (.int (nI e)), some (.int 0)]) C dX6_hands_147 (Nat.le_of_ble_eq_true rfl) trivial rfl ?_
      refine r_aload_n (pc := 149) C dX6_hands_149 rfl rfl ?_
      refine r_getfield (pc := 150) (v := .ref 13) C xf_X6_47 dX6_hands_150 rfl rfl ?_
      refine r_iload (pc := 153) C dX6_hands_153 rfl ?_
      refine r_iload (pc := 155) C dX6_hands_155 rfl ?_
      refine r_if_eq (pc := 157) (tgt := 172) C dX6_hands_157 (by decide) (fun _ => ?_) (fun h => absurd (by decide) h)
      refine r_aload_n (pc := 172) C dX6_hands_172 rfl rfl ?_
      refine r_getfield (pc := 173) (v := .ref 13) C xf_X6_47 dX6_hands_173 rfl rfl ?_
      refine r_iload (pc := 176) C dX6_hands_176 rfl ?_
      refine r_iaload (pc := 178) (v := thE (vw (M 4)) g0 i ((M 4 35) + nI k) e) C i dX6_hands_178 rfl rfl (by first | assumption | omega) pk_us ?_
      refine r_iastore (pc := 179) (θ' := wM (up2 (up2 M 21 g0) 22 (upd (upd t0 i (thE (vw (M 4)) g0 i ((M 4 35) + nI k) e)) i (thE (vw (M 4)) g0 i ((M 4 35) + nI k) e)))) C i dX6_hands_179 rfl rfl (by first | assumption | omega) rfl ?_
      refine r_iinc (pc := 180) (v := nI (e + 1)) (lv' := [some (.ref 0), some (.int (nI ia)), some (.int (nI ib)), some (.int (nI k)), some (.int (nI i)), some (.int (nI (e + 1))), some (.int 0)]) C dX6_hands_180 rfl (nI_1 e) trivial rfl ?_
      refine r_goto (pc := 183) (tgt := 89) C dX6_hands_183 (by decide) ?_
      show g 0 0 (wM (up2 (up2 M 21 g0) 22 (upd (upd t0 i (thE (vw (M 4)) g0 i ((M 4 35) + nI k) e)) i (thE (vw (M 4)) g0 i ((M 4 35) + nI k) e)))) 89 [some (.ref 0), some (.int (nI ia)), some (.int (nI ib)), some (.int (nI k)), some (.int (nI i)), some (.int (nI (e + 1))), some (.int 0)] []
      rw [show (upd (upd t0 i (thE (vw (M 4)) g0 i ((M 4 35) + nI k) e)) i (thE (vw (M 4)) g0 i ((M 4 35) + nI k) e)) = upd t0 i (thE (vw (M 4)) g0 i ((M 4 35) + nI k) (e + 1)) from by rw [upd_u]; exact congrArg (upd t0 i) (by rw [thE, if_pos h_116])]
      show g 0 0 (wM (up2 (up2 M 21 g0) 22 (upd t0 i (thE (vw (M 4)) g0 i ((M 4 35) + nI k) (e + 1))))) 89 [some (.ref 0), some (.int (nI ia)), some (.int (nI ib)), some (.int (nI k)), some (.int (nI i)), some (.int (nI (e + 1))), some (.int 0)] []
      refine r_drop (lv' := [some (.ref 0), some (.int (nI ia)), some (.int (nI ib)), some (.int (nI k)), some (.int (nI i)), some (.int (nI (e + 1))), none]) C ⟨rfl, rfl, rfl, rfl, rfl, rfl, trivial⟩ ?_
      exact ih (e + 1) (by omega)
    · skip
      refine r_aload_n (pc := 119) C dX6_hands_119 rfl rfl ?_
      refine r_getfield (pc := 120) (v := .ref 4) C xf_X6_19 dX6_hands_120 rfl rfl ?_
      refine r_iload (pc := 123) C dX6_hands_123 rfl ?_
      refine r_iload (pc := 125) C dX6_hands_125 rfl ?_
      refine r_aload_n (pc := 127) C dX6_hands_127 rfl rfl ?_
      refine r_getfield (pc := 128) (v := .ref 4) C xf_X6_19 dX6_hands_128 rfl rfl ?_
      refine r_bipush (pc := 131) (v := 35) C dX6_hands_131 (by decide) ?_
      refine r_iaload (pc := 133) (v := M 4 35) C 35 dX6_hands_133 rfl (by decide) (by decide) rfl ?_
      refine r_iload_n (pc := 134) C dX6_hands_134 rfl rfl ?_
      refine r_iadd (pc := 135) C dX6_hands_135 ?_
      refine r_callSD (pc := 136) (As := [.ref 4, .int (nI e), .int (nI i), .int ((M 4 35) + (nI k))]) (st := []) (θ2 := wM (up2 (up2 M 21 g0) 22 (upd t0 i (thE (vw (M 4)) g0 i ((M 4 35) + nI k) e)))) (r2 := some (.int (bB (nrM (vw (M 4)) e i ((M 4 35) + (nI k)))))) C [4] (c_X6_areNear (M 4) e (by omega) i (by omega) ((M 4 35) + (nI k)) (hM.2.2.2 e (by omega)) (hM.2.2.2 i (by omega)) hM.2.2.1) xm_X6_areNear xk_X6_158 dX6_hands_136 rfl (by decide) rfl rfl rfl (Nat.le_of_ble_eq_true rfl) ⟨Nat.le_of_ble_eq_true rfl, Nat.le_of_ble_eq_true rfl⟩ ⟨rfl, rfl⟩ ⟨Nat.le_of_ble_eq_true rfl, Nat.le_of_ble_eq_true rfl⟩ rfl (Eq.trans (b := 1) rfl rfl) rfl rfl ?_
      show g 0 0 (wM (up2 (up2 M 21 g0) 22 (upd t0 i (thE (vw (M 4)) g0 i ((M 4 35) + nI k) e)))) 139 [some (.ref 0), some (.int (nI ia)), some (.int (nI ib)), some (.int (nI k)), some (.int (nI i)), some (.int (nI e)), none] [.int (bB (nrM (vw (M 4)) e i ((M 4 35) + (nI k))))]
      refine r_if_eq (pc := 139) (tgt := 146) C dX6_hands_139 (by decide) (fun h_139 => ?_) (fun h_139 => ?_)
      · replace h_139 := bB_f h_139
        refine r_iconst (pc := 146) (v := 0) C dX6_hands_146 (by decide) ?_
        refine r_istore (pc := 147) (lv' := [some (.ref 0), some (.int (nI ia)), some (.int (nI ib)), some (.int (nI k)), some (.int (nI i)), some (.int (nI e)), some (.int 0)]) C dX6_hands_147 (Nat.le_of_ble_eq_true rfl) trivial rfl ?_
        refine r_aload_n (pc := 149) C dX6_hands_149 rfl rfl ?_
        refine r_getfield (pc := 150) (v := .ref 13) C xf_X6_47 dX6_hands_150 rfl rfl ?_
        refine r_iload (pc := 153) C dX6_hands_153 rfl ?_
        refine r_iload (pc := 155) C dX6_hands_155 rfl ?_
        refine r_if_eq (pc := 157) (tgt := 172) C dX6_hands_157 (by decide) (fun _ => ?_) (fun h => absurd (by decide) h)
        refine r_aload_n (pc := 172) C dX6_hands_172 rfl rfl ?_
        refine r_getfield (pc := 173) (v := .ref 13) C xf_X6_47 dX6_hands_173 rfl rfl ?_
        refine r_iload (pc := 176) C dX6_hands_176 rfl ?_
        refine r_iaload (pc := 178) (v := thE (vw (M 4)) g0 i ((M 4 35) + nI k) e) C i dX6_hands_178 rfl rfl (by first | assumption | omega) pk_us ?_
        refine r_iastore (pc := 179) (θ' := wM (up2 (up2 M 21 g0) 22 (upd (upd t0 i (thE (vw (M 4)) g0 i ((M 4 35) + nI k) e)) i (thE (vw (M 4)) g0 i ((M 4 35) + nI k) e)))) C i dX6_hands_179 rfl rfl (by first | assumption | omega) rfl ?_
        refine r_iinc (pc := 180) (v := nI (e + 1)) (lv' := [some (.ref 0), some (.int (nI ia)), some (.int (nI ib)), some (.int (nI k)), some (.int (nI i)), some (.int (nI (e + 1))), some (.int 0)]) C dX6_hands_180 rfl (nI_1 e) trivial rfl ?_
        refine r_goto (pc := 183) (tgt := 89) C dX6_hands_183 (by decide) ?_
        show g 0 0 (wM (up2 (up2 M 21 g0) 22 (upd (upd t0 i (thE (vw (M 4)) g0 i ((M 4 35) + nI k) e)) i (thE (vw (M 4)) g0 i ((M 4 35) + nI k) e)))) 89 [some (.ref 0), some (.int (nI ia)), some (.int (nI ib)), some (.int (nI k)), some (.int (nI i)), some (.int (nI (e + 1))), some (.int 0)] []
        rw [show (upd (upd t0 i (thE (vw (M 4)) g0 i ((M 4 35) + nI k) e)) i (thE (vw (M 4)) g0 i ((M 4 35) + nI k) e)) = upd t0 i (thE (vw (M 4)) g0 i ((M 4 35) + nI k) (e + 1)) from by rw [upd_u]; exact congrArg (upd t0 i) (by rw [thE, if_neg h_116, if_neg (nbt h_139)])]
        show g 0 0 (wM (up2 (up2 M 21 g0) 22 (upd t0 i (thE (vw (M 4)) g0 i ((M 4 35) + nI k) (e + 1))))) 89 [some (.ref 0), some (.int (nI ia)), some (.int (nI ib)), some (.int (nI k)), some (.int (nI i)), some (.int (nI (e + 1))), some (.int 0)] []
        refine r_drop (lv' := [some (.ref 0), some (.int (nI ia)), some (.int (nI ib)), some (.int (nI k)), some (.int (nI i)), some (.int (nI (e + 1))), none]) C ⟨rfl, rfl, rfl, rfl, rfl, rfl, trivial⟩ ?_
        exact ih (e + 1) (by omega)
      · replace h_139 := bB_t h_139
        refine r_iconst (pc := 142) (v := 1) C dX6_hands_142 (by decide) ?_
        refine r_goto (pc := 143) (tgt := 147) C dX6_hands_143 (by decide) ?_
        refine r_istore (pc := 147) (lv' := [some (.ref 0), some (.int (nI ia)), some (.int (nI ib)), some (.int (nI k)), some (.int (nI i)), some (.int (nI e)), some (.int 1)]) C dX6_hands_147 (Nat.le_of_ble_eq_true rfl) trivial rfl ?_
        refine r_aload_n (pc := 149) C dX6_hands_149 rfl rfl ?_
        refine r_getfield (pc := 150) (v := .ref 13) C xf_X6_47 dX6_hands_150 rfl rfl ?_
        refine r_iload (pc := 153) C dX6_hands_153 rfl ?_
        refine r_iload (pc := 155) C dX6_hands_155 rfl ?_
        refine r_if_eq (pc := 157) (tgt := 172) C dX6_hands_157 (by decide) (fun h => absurd h (by decide)) (fun _ => ?_)
        refine r_aload_n (pc := 160) C dX6_hands_160 rfl rfl ?_
        refine r_getfield (pc := 161) (v := .ref 12) C xf_X6_44 dX6_hands_161 rfl rfl ?_
        refine r_iload (pc := 164) C dX6_hands_164 rfl ?_
        refine r_iaload (pc := 166) (v := g0 e) C e dX6_hands_166 rfl rfl (by first | assumption | omega) rfl ?_
        refine r_iconst (pc := 167) (v := 1) C dX6_hands_167 (by decide) ?_
        refine r_iadd (pc := 168) C dX6_hands_168 ?_
        refine r_goto (pc := 169) (tgt := 179) C dX6_hands_169 (by decide) ?_
        refine r_iastore (pc := 179) (θ' := wM (up2 (up2 M 21 g0) 22 (upd (upd t0 i (thE (vw (M 4)) g0 i ((M 4 35) + nI k) e)) i ((g0 e) + 1)))) C i dX6_hands_179 rfl rfl (by first | assumption | omega) rfl ?_
        refine r_iinc (pc := 180) (v := nI (e + 1)) (lv' := [some (.ref 0), some (.int (nI ia)), some (.int (nI ib)), some (.int (nI k)), some (.int (nI i)), some (.int (nI (e + 1))), some (.int 1)]) C dX6_hands_180 rfl (nI_1 e) trivial rfl ?_
        refine r_goto (pc := 183) (tgt := 89) C dX6_hands_183 (by decide) ?_
        show g 0 0 (wM (up2 (up2 M 21 g0) 22 (upd (upd t0 i (thE (vw (M 4)) g0 i ((M 4 35) + nI k) e)) i ((g0 e) + 1)))) 89 [some (.ref 0), some (.int (nI ia)), some (.int (nI ib)), some (.int (nI k)), some (.int (nI i)), some (.int (nI (e + 1))), some (.int 1)] []
        rw [show (upd (upd t0 i (thE (vw (M 4)) g0 i ((M 4 35) + nI k) e)) i ((g0 e) + 1)) = upd t0 i (thE (vw (M 4)) g0 i ((M 4 35) + nI k) (e + 1)) from by rw [upd_u]; exact congrArg (upd t0 i) (by rw [thE, if_neg h_116, if_pos h_139])]
        show g 0 0 (wM (up2 (up2 M 21 g0) 22 (upd t0 i (thE (vw (M 4)) g0 i ((M 4 35) + nI k) (e + 1))))) 89 [some (.ref 0), some (.int (nI ia)), some (.int (nI ib)), some (.int (nI k)), some (.int (nI i)), some (.int (nI (e + 1))), some (.int 1)] []
        refine r_drop (lv' := [some (.ref 0), some (.int (nI ia)), some (.int (nI ib)), some (.int (nI k)), some (.int (nI i)), some (.int (nI (e + 1))), none]) C ⟨rfl, rfl, rfl, rfl, rfl, rfl, trivial⟩ ?_
        exact ih (e + 1) (by omega)
set_option maxHeartbeats 4000000 in
set_option maxRecDepth 100000 in
theorem lpi_X6_hands (M : Nat → Nat → Int32) (z : Nat) (hM : okM M z) (ia ib : Nat) (hia : ia < z) (hib : ib < z) (k : Nat) (g0 t0 : Nat → Int32) {g : Nat → Nat → List xE → Nat → List (Option Value) → List Value → Prop} (C : Sem cX6_hands RX6 "hands" 7 rmX6_hands g) (kk : g 0 0 (wM (up2 (up2 M 21 g0) 22 (thT (vw (M 4)) g0 ((M 4 35) + nI k) z t0 z))) 192 [some (.ref 0), some (.int (nI ia)), some (.int (nI ib)), some (.int (nI k)), none, none, none] []) : ∀ (n : Nat) (i : Nat), i + n = z → g 0 0 (wM (up2 (up2 M 21 g0) 22 (thT (vw (M 4)) g0 ((M 4 35) + nI k) z t0 i))) 61 [some (.ref 0), some (.int (nI ia)), some (.int (nI ib)), some (.int (nI k)), some (.int (nI i)), none, none] [] := by
  intro n
  have hz6 := hM.2.1
  induction n with
  | zero =>
    intro i hv
    have hvN : i = z := by omega
    rw [hvN]
    refine r_iload (pc := 61) C dX6_hands_61 rfl ?_
    refine r_aload_n (pc := 63) C dX6_hands_63 rfl rfl ?_
    refine r_getfield (pc := 64) (v := .ref 4) C xf_X6_19 dX6_hands_64 rfl rfl ?_
    refine r_iconst (pc := 67) (v := 0) C dX6_hands_67 (by decide) ?_
    refine r_iaload (pc := 68) (v := M 4 0) C 0 dX6_hands_68 rfl (by decide) (by decide) rfl ?_
    refine r_icmp_ge (pc := 69) (tgt := 192) C dX6_hands_69 (by decide) (fun _ => ?_) (fun h => absurd (by rw [hM.1]; exact nI_le (by omega) (by omega)) h)
    show g 0 0 (wM (up2 (up2 M 21 g0) 22 (thT (vw (M 4)) g0 ((M 4 35) + nI k) z t0 z))) 192 [some (.ref 0), some (.int (nI ia)), some (.int (nI ib)), some (.int (nI k)), some (.int (nI z)), none, none] []
    refine r_drop (lv' := [some (.ref 0), some (.int (nI ia)), some (.int (nI ib)), some (.int (nI k)), none, none, none]) C ⟨rfl, rfl, rfl, rfl, trivial⟩ ?_
    show g 0 0 (wM (up2 (up2 M 21 g0) 22 (thT (vw (M 4)) g0 ((M 4 35) + nI k) z t0 z))) 192 [some (.ref 0), some (.int (nI ia)), some (.int (nI ib)), some (.int (nI k)), none, none, none] []
    exact kk
  | succ n ih =>
    intro i hv
    refine r_iload (pc := 61) C dX6_hands_61 rfl ?_
    refine r_aload_n (pc := 63) C dX6_hands_63 rfl rfl ?_
    refine r_getfield (pc := 64) (v := .ref 4) C xf_X6_19 dX6_hands_64 rfl rfl ?_
    refine r_iconst (pc := 67) (v := 0) C dX6_hands_67 (by decide) ?_
    refine r_iaload (pc := 68) (v := M 4 0) C 0 dX6_hands_68 rfl (by decide) (by decide) rfl ?_
    refine r_icmp_ge (pc := 69) (tgt := 192) C dX6_hands_69 (by decide) (fun h => absurd h (by rw [hM.1]; exact nI_ge (by omega) (by omega))) (fun _ => ?_)
    refine r_aload_n (pc := 72) C dX6_hands_72 rfl rfl ?_
    refine r_getfield (pc := 73) (v := .ref 13) C xf_X6_47 dX6_hands_73 rfl rfl ?_
    refine r_iload (pc := 76) C dX6_hands_76 rfl ?_
    refine r_aload_n (pc := 78) C dX6_hands_78 rfl rfl ?_
    refine r_getfield (pc := 79) (v := .ref 12) C xf_X6_44 dX6_hands_79 rfl rfl ?_
    refine r_iload (pc := 82) C dX6_hands_82 rfl ?_
    refine r_iaload (pc := 84) (v := g0 i) C i dX6_hands_84 rfl rfl (by first | assumption | omega) rfl ?_
    refine r_iastore (pc := 85) (θ' := wM (up2 (up2 M 21 g0) 22 (upd (thT (vw (M 4)) g0 ((M 4 35) + nI k) z t0 i) i (g0 i)))) C i dX6_hands_85 rfl rfl (by first | assumption | omega) rfl ?_
    refine r_iconst (pc := 86) (v := 0) C dX6_hands_86 (by decide) ?_
    refine r_istore (pc := 87) (lv' := [some (.ref 0), some (.int (nI ia)), some (.int (nI ib)), some (.int (nI k)), some (.int (nI i)), some (.int 0), none]) C dX6_hands_87 (Nat.le_of_ble_eq_true rfl) trivial rfl ?_
    show g 0 0 (wM (up2 (up2 M 21 g0) 22 (upd (thT (vw (M 4)) g0 ((M 4 35) + nI k) z t0 i) i (g0 i)))) 89 [some (.ref 0), some (.int (nI ia)), some (.int (nI ib)), some (.int (nI k)), some (.int (nI i)), some (.int 0), none] []
    refine lpe_X6_hands M z hM ia ib hia hib k i (by omega) g0 (thT (vw (M 4)) g0 ((M 4 35) + nI k) z t0 i) C ?_ z 0 (by omega)
    show g 0 0 (wM (up2 (up2 M 21 g0) 22 (upd (thT (vw (M 4)) g0 ((M 4 35) + nI k) z t0 i) i (thE (vw (M 4)) g0 i ((M 4 35) + nI k) z)))) 186 [some (.ref 0), some (.int (nI ia)), some (.int (nI ib)), some (.int (nI k)), some (.int (nI i)), none, none] []
    refine r_iinc (pc := 186) (v := nI (i + 1)) (lv' := [some (.ref 0), some (.int (nI ia)), some (.int (nI ib)), some (.int (nI k)), some (.int (nI (i + 1))), none, none]) C dX6_hands_186 rfl (nI_1 i) trivial rfl ?_
    refine r_goto (pc := 189) (tgt := 61) C dX6_hands_189 (by decide) ?_
    show g 0 0 (wM (up2 (up2 M 21 g0) 22 (upd (thT (vw (M 4)) g0 ((M 4 35) + nI k) z t0 i) i (thE (vw (M 4)) g0 i ((M 4 35) + nI k) z)))) 61 [some (.ref 0), some (.int (nI ia)), some (.int (nI ib)), some (.int (nI k)), some (.int (nI (i + 1))), none, none] []
    rw [show upd (thT (vw (M 4)) g0 ((M 4 35) + nI k) z t0 i) i (thE (vw (M 4)) g0 i ((M 4 35) + nI k) z) = thT (vw (M 4)) g0 ((M 4 35) + nI k) z t0 (i + 1) from by rw [thT_eq]; rfl]
    exact ih (i + 1) (by omega)
set_option maxHeartbeats 4000000 in
set_option maxRecDepth 100000 in
theorem lpc_X6_hands (M : Nat → Nat → Int32) (z : Nat) (hM : okM M z) (ia ib : Nat) (hia : ia < z) (hib : ib < z) (k : Nat) (g0 t0 : Nat → Int32) {g : Nat → Nat → List xE → Nat → List (Option Value) → List Value → Prop} (C : Sem cX6_hands RX6 "hands" 7 rmX6_hands g) (kk : g 0 0 (wM (up2 (up2 M 21 (gcp t0 g0 z)) 22 t0)) 226 [some (.ref 0), some (.int (nI ia)), some (.int (nI ib)), some (.int (nI k)), none, none, none] []) : ∀ (n : Nat) (i : Nat), i + n = z → g 0 0 (wM (up2 (up2 M 21 (gcp t0 g0 i)) 22 t0)) 195 [some (.ref 0), some (.int (nI ia)), some (.int (nI ib)), some (.int (nI k)), some (.int (nI i)), none, none] [] := by
  intro n
  have hz6 := hM.2.1
  induction n with
  | zero =>
    intro i hv
    have hvN : i = z := by omega
    rw [hvN]
    refine r_iload (pc := 195) C dX6_hands_195 rfl ?_
    refine r_aload_n (pc := 197) C dX6_hands_197 rfl rfl ?_
    refine r_getfield (pc := 198) (v := .ref 4) C xf_X6_19 dX6_hands_198 rfl rfl ?_
    refine r_iconst (pc := 201) (v := 0) C dX6_hands_201 (by decide) ?_
    refine r_iaload (pc := 202) (v := M 4 0) C 0 dX6_hands_202 rfl (by decide) (by decide) rfl ?_
    refine r_icmp_ge (pc := 203) (tgt := 226) C dX6_hands_203 (by decide) (fun _ => ?_) (fun h => absurd (by rw [hM.1]; exact nI_le (by omega) (by omega)) h)
    show g 0 0 (wM (up2 (up2 M 21 (gcp t0 g0 z)) 22 t0)) 226 [some (.ref 0), some (.int (nI ia)), some (.int (nI ib)), some (.int (nI k)), some (.int (nI z)), none, none] []
    refine r_drop (lv' := [some (.ref 0), some (.int (nI ia)), some (.int (nI ib)), some (.int (nI k)), none, none, none]) C ⟨rfl, rfl, rfl, rfl, trivial⟩ ?_
    show g 0 0 (wM (up2 (up2 M 21 (gcp t0 g0 z)) 22 t0)) 226 [some (.ref 0), some (.int (nI ia)), some (.int (nI ib)), some (.int (nI k)), none, none, none] []
    exact kk
  | succ n ih =>
    intro i hv
    refine r_iload (pc := 195) C dX6_hands_195 rfl ?_
    refine r_aload_n (pc := 197) C dX6_hands_197 rfl rfl ?_
    refine r_getfield (pc := 198) (v := .ref 4) C xf_X6_19 dX6_hands_198 rfl rfl ?_
    refine r_iconst (pc := 201) (v := 0) C dX6_hands_201 (by decide) ?_
    refine r_iaload (pc := 202) (v := M 4 0) C 0 dX6_hands_202 rfl (by decide) (by decide) rfl ?_
    refine r_icmp_ge (pc := 203) (tgt := 226) C dX6_hands_203 (by decide) (fun h => absurd h (by rw [hM.1]; exact nI_ge (by omega) (by omega))) (fun _ => ?_)
    refine r_aload_n (pc := 206) C dX6_hands_206 rfl rfl ?_
    refine r_getfield (pc := 207) (v := .ref 12) C xf_X6_44 dX6_hands_207 rfl rfl ?_
    refine r_iload (pc := 210) C dX6_hands_210 rfl ?_
    refine r_aload_n (pc := 212) C dX6_hands_212 rfl rfl ?_
    refine r_getfield (pc := 213) (v := .ref 13) C xf_X6_47 dX6_hands_213 rfl rfl ?_
    refine r_iload (pc := 216) C dX6_hands_216 rfl ?_
    refine r_iaload (pc := 218) (v := t0 i) C i dX6_hands_218 rfl rfl (by first | assumption | omega) rfl ?_
    refine r_iastore (pc := 219) (θ' := wM (up2 (up2 M 22 t0) 21 (upd (gcp t0 g0 i) i (t0 i)))) C i dX6_hands_219 rfl rfl (by first | assumption | omega) rfl ?_
    refine r_iinc (pc := 220) (v := nI (i + 1)) (lv' := [some (.ref 0), some (.int (nI ia)), some (.int (nI ib)), some (.int (nI k)), some (.int (nI (i + 1))), none, none]) C dX6_hands_220 rfl (nI_1 i) trivial rfl ?_
    refine r_goto (pc := 223) (tgt := 195) C dX6_hands_223 (by decide) ?_
    show g 0 0 (wM (up2 (up2 M 22 t0) 21 (upd (gcp t0 g0 i) i (t0 i)))) 195 [some (.ref 0), some (.int (nI ia)), some (.int (nI ib)), some (.int (nI k)), some (.int (nI (i + 1))), none, none] []
    exact ih (i + 1) (by omega)
set_option maxHeartbeats 4000000 in
set_option maxRecDepth 100000 in
theorem lpk_X6_hands (M : Nat → Nat → Int32) (z : Nat) (hM : okM M z) (ia ib : Nat) (hia : ia < z) (hib : ib < z) (g1 t1 : Nat → Int32) {g : Nat → Nat → List xE → Nat → List (Option Value) → List Value → Prop} (C : Sem cX6_hands RX6 "hands" 7 rmX6_hands g) (kk : g 0 0 (wM (up2 (up2 M 21 ((hgT (vw (M 4)) (M 4 35) z g1 t1 60).1)) 22 ((hgT (vw (M 4)) (M 4 35) z g1 t1 60).2))) 232 [some (.ref 0), some (.int (nI ia)), some (.int (nI ib)), none, none, none, none] []) : ∀ (n : Nat) (k : Nat), k + n = 60 → g 0 0 (wM (up2 (up2 M 21 ((hgT (vw (M 4)) (M 4 35) z g1 t1 k).1)) 22 ((hgT (vw (M 4)) (M 4 35) z g1 t1 k).2))) 52 [some (.ref 0), some (.int (nI ia)), some (.int (nI ib)), some (.int (nI k)), none, none, none] [] := by
  intro n
  have hz6 := hM.2.1
  induction n with
  | zero =>
    intro k hv
    have hvN : k = 60 := by omega
    rw [hvN]
    refine r_iload_n (pc := 52) C dX6_hands_52 rfl rfl ?_
    refine r_bipush (pc := 53) (v := 60) C dX6_hands_53 (by decide) ?_
    refine r_icmp_ge (pc := 55) (tgt := 232) C dX6_hands_55 (by decide) (fun _ => ?_) (fun h => absurd (nI_le (a := 60) (by omega) (by omega)) h)
    show g 0 0 (wM (up2 (up2 M 21 ((hgT (vw (M 4)) (M 4 35) z g1 t1 60).1)) 22 ((hgT (vw (M 4)) (M 4 35) z g1 t1 60).2))) 232 [some (.ref 0), some (.int (nI ia)), some (.int (nI ib)), some (.int (nI 60)), none, none, none] []
    refine r_drop (lv' := [some (.ref 0), some (.int (nI ia)), some (.int (nI ib)), none, none, none, none]) C ⟨rfl, rfl, rfl, trivial⟩ ?_
    show g 0 0 (wM (up2 (up2 M 21 ((hgT (vw (M 4)) (M 4 35) z g1 t1 60).1)) 22 ((hgT (vw (M 4)) (M 4 35) z g1 t1 60).2))) 232 [some (.ref 0), some (.int (nI ia)), some (.int (nI ib)), none, none, none, none] []
    exact kk
  | succ n ih =>
    intro k hv
    refine r_iload_n (pc := 52) C dX6_hands_52 rfl rfl ?_
    refine r_bipush (pc := 53) (v := 60) C dX6_hands_53 (by decide) ?_
    refine r_icmp_ge (pc := 55) (tgt := 232) C dX6_hands_55 (by decide) (fun h => absurd h (nI_ge (b := 60) (by omega) (by omega))) (fun _ => ?_)
    refine r_iconst (pc := 58) (v := 0) C dX6_hands_58 (by decide) ?_
    refine r_istore (pc := 59) (lv' := [some (.ref 0), some (.int (nI ia)), some (.int (nI ib)), some (.int (nI k)), some (.int 0), none, none]) C dX6_hands_59 (Nat.le_of_ble_eq_true rfl) trivial rfl ?_
    show g 0 0 (wM (up2 (up2 M 21 ((hgT (vw (M 4)) (M 4 35) z g1 t1 k).1)) 22 ((hgT (vw (M 4)) (M 4 35) z g1 t1 k).2))) 61 [some (.ref 0), some (.int (nI ia)), some (.int (nI ib)), some (.int (nI k)), some (.int 0), none, none] []
    have hL := fun kk => lpi_X6_hands M z hM ia ib hia hib k ((hgT (vw (M 4)) (M 4 35) z g1 t1 k).1) ((hgT (vw (M 4)) (M 4 35) z g1 t1 k).2) C kk z 0 (by omega)
    rw [show thT (vw (M 4)) ((hgT (vw (M 4)) (M 4 35) z g1 t1 k).1) ((M 4 35) + nI k) z ((hgT (vw (M 4)) (M 4 35) z g1 t1 k).2) 0 = (hgT (vw (M 4)) (M 4 35) z g1 t1 k).2 from by rw [thT_eq]; rfl] at hL
    refine hL ?_
    show g 0 0 (wM (up2 (up2 M 21 ((hgT (vw (M 4)) (M 4 35) z g1 t1 k).1)) 22 (thT (vw (M 4)) ((hgT (vw (M 4)) (M 4 35) z g1 t1 k).1) ((M 4 35) + nI k) z ((hgT (vw (M 4)) (M 4 35) z g1 t1 k).2) z))) 192 [some (.ref 0), some (.int (nI ia)), some (.int (nI ib)), some (.int (nI k)), none, none, none] []
    refine r_iconst (pc := 192) (v := 0) C dX6_hands_192 (by decide) ?_
    refine r_istore (pc := 193) (lv' := [some (.ref 0), some (.int (nI ia)), some (.int (nI ib)), some (.int (nI k)), some (.int 0), none, none]) C dX6_hands_193 (Nat.le_of_ble_eq_true rfl) trivial rfl ?_
    show g 0 0 (wM (up2 (up2 M 21 ((hgT (vw (M 4)) (M 4 35) z g1 t1 k).1)) 22 (thT (vw (M 4)) ((hgT (vw (M 4)) (M 4 35) z g1 t1 k).1) ((M 4 35) + nI k) z ((hgT (vw (M 4)) (M 4 35) z g1 t1 k).2) z))) 195 [some (.ref 0), some (.int (nI ia)), some (.int (nI ib)), some (.int (nI k)), some (.int 0), none, none] []
    refine lpc_X6_hands M z hM ia ib hia hib k ((hgT (vw (M 4)) (M 4 35) z g1 t1 k).1) (thT (vw (M 4)) ((hgT (vw (M 4)) (M 4 35) z g1 t1 k).1) ((M 4 35) + nI k) z ((hgT (vw (M 4)) (M 4 35) z g1 t1 k).2) z) C ?_ z 0 (by omega)
    show g 0 0 (wM (up2 (up2 M 21 (gcp (thT (vw (M 4)) ((hgT (vw (M 4)) (M 4 35) z g1 t1 k).1) ((M 4 35) + nI k) z ((hgT (vw (M 4)) (M 4 35) z g1 t1 k).2) z) ((hgT (vw (M 4)) (M 4 35) z g1 t1 k).1) z)) 22 (thT (vw (M 4)) ((hgT (vw (M 4)) (M 4 35) z g1 t1 k).1) ((M 4 35) + nI k) z ((hgT (vw (M 4)) (M 4 35) z g1 t1 k).2) z))) 226 [some (.ref 0), some (.int (nI ia)), some (.int (nI ib)), some (.int (nI k)), none, none, none] []
    refine r_iinc (pc := 226) (v := nI (k + 1)) (lv' := [some (.ref 0), some (.int (nI ia)), some (.int (nI ib)), some (.int (nI (k + 1))), none, none, none]) C dX6_hands_226 rfl (nI_1 k) trivial rfl ?_
    refine r_goto (pc := 229) (tgt := 52) C dX6_hands_229 (by decide) ?_
    show g 0 0 (wM (up2 (up2 M 21 (gcp (thT (vw (M 4)) ((hgT (vw (M 4)) (M 4 35) z g1 t1 k).1) ((M 4 35) + nI k) z ((hgT (vw (M 4)) (M 4 35) z g1 t1 k).2) z) ((hgT (vw (M 4)) (M 4 35) z g1 t1 k).1) z)) 22 (thT (vw (M 4)) ((hgT (vw (M 4)) (M 4 35) z g1 t1 k).1) ((M 4 35) + nI k) z ((hgT (vw (M 4)) (M 4 35) z g1 t1 k).2) z))) 52 [some (.ref 0), some (.int (nI ia)), some (.int (nI ib)), some (.int (nI (k + 1))), none, none, none] []
    have hK := ih (k + 1) (by omega)
    rw [hgT_s] at hK
    exact hK
set_option maxHeartbeats 4000000 in
set_option maxRecDepth 100000 in
theorem lpg_X6_hands (M : Nat → Nat → Int32) (z : Nat) (hM : okM M z) (ia ib : Nat) (hia : ia < z) (hib : ib < z) {g : Nat → Nat → List xE → Nat → List (Option Value) → List Value → Prop} (C : Sem cX6_hands RX6 "hands" 7 rmX6_hands g) (kk : g 0 0 (wM (up2 M 21 (gI (nI ia) (M 21) 6))) 50 [some (.ref 0), some (.int (nI ia)), some (.int (nI ib)), none, none, none, none] []) : ∀ (n : Nat) (i : Nat), i + n = 6 → g 0 0 (wM (up2 M 21 (gI (nI ia) (M 21) i))) 21 [some (.ref 0), some (.int (nI ia)), some (.int (nI ib)), some (.int (nI i)), none, none, none] [] := by
  intro n
  induction n with
  | zero =>
    intro i hv
    have hvN : i = 6 := by omega
    rw [hvN]
    refine r_iload_n (pc := 21) C dX6_hands_21 rfl rfl ?_
    refine r_bipush (pc := 22) (v := 6) C dX6_hands_22 (by decide) ?_
    refine r_icmp_ge (pc := 24) (tgt := 50) C dX6_hands_24 (by decide) (fun _ => ?_) (fun h => absurd (nI_le (a := 6) (by omega) (by omega)) h)
    show g 0 0 (wM (up2 M 21 (gI (nI ia) (M 21) 6))) 50 [some (.ref 0), some (.int (nI ia)), some (.int (nI ib)), some (.int (nI 6)), none, none, none] []
    refine r_drop (lv' := [some (.ref 0), some (.int (nI ia)), some (.int (nI ib)), none, none, none, none]) C ⟨rfl, rfl, rfl, trivial⟩ ?_
    show g 0 0 (wM (up2 M 21 (gI (nI ia) (M 21) 6))) 50 [some (.ref 0), some (.int (nI ia)), some (.int (nI ib)), none, none, none, none] []
    exact kk
  | succ n ih =>
    intro i hv
    refine r_iload_n (pc := 21) C dX6_hands_21 rfl rfl ?_
    refine r_bipush (pc := 22) (v := 6) C dX6_hands_22 (by decide) ?_
    refine r_icmp_ge (pc := 24) (tgt := 50) C dX6_hands_24 (by decide) (fun h => absurd h (nI_ge (b := 6) (by omega) (by omega))) (fun _ => ?_)
    refine r_aload_n (pc := 27) C dX6_hands_27 rfl rfl ?_
    refine r_getfield (pc := 28) (v := .ref 12) C xf_X6_44 dX6_hands_28 rfl rfl ?_
    refine r_iload_n (pc := 31) C dX6_hands_31 rfl rfl ?_
    refine r_iload_n (pc := 32) C dX6_hands_32 rfl rfl ?_
    refine r_iload_n (pc := 33) C dX6_hands_33 rfl rfl ?_
    refine r_icmp_ne (pc := 34) (tgt := 41) C dX6_hands_34 (by decide) (fun h_34 => ?_) (fun h_34 => ?_)
    · skip
      refine r_ldc (pc := 41) (v := 1000000) C dX6_hands_41 tw_834 ?_
      refine r_iastore (pc := 43) (θ' := wM (up2 M 21 (upd (gI (nI ia) (M 21) i) i 1000000))) C i dX6_hands_43 rfl rfl (by first | assumption | omega) rfl ?_
      refine r_iinc (pc := 44) (v := nI (i + 1)) (lv' := [some (.ref 0), some (.int (nI ia)), some (.int (nI ib)), some (.int (nI (i + 1))), none, none, none]) C dX6_hands_44 rfl (nI_1 i) trivial rfl ?_
      refine r_goto (pc := 47) (tgt := 21) C dX6_hands_47 (by decide) ?_
      show g 0 0 (wM (up2 M 21 (upd (gI (nI ia) (M 21) i) i 1000000))) 21 [some (.ref 0), some (.int (nI ia)), some (.int (nI ib)), some (.int (nI (i + 1))), none, none, none] []
      rw [show (upd (gI (nI ia) (M 21) i) i 1000000) = gI (nI ia) (M 21) (i + 1) from by rw [gI, if_neg h_34]]
      show g 0 0 (wM (up2 M 21 (gI (nI ia) (M 21) (i + 1)))) 21 [some (.ref 0), some (.int (nI ia)), some (.int (nI ib)), some (.int (nI (i + 1))), none, none, none] []
      exact ih (i + 1) (by omega)
    · skip
      refine r_iconst (pc := 37) (v := 0) C dX6_hands_37 (by decide) ?_
      refine r_goto (pc := 38) (tgt := 43) C dX6_hands_38 (by decide) ?_
      refine r_iastore (pc := 43) (θ' := wM (up2 M 21 (upd (gI (nI ia) (M 21) i) i 0))) C i dX6_hands_43 rfl rfl (by first | assumption | omega) rfl ?_
      refine r_iinc (pc := 44) (v := nI (i + 1)) (lv' := [some (.ref 0), some (.int (nI ia)), some (.int (nI ib)), some (.int (nI (i + 1))), none, none, none]) C dX6_hands_44 rfl (nI_1 i) trivial rfl ?_
      refine r_goto (pc := 47) (tgt := 21) C dX6_hands_47 (by decide) ?_
      show g 0 0 (wM (up2 M 21 (upd (gI (nI ia) (M 21) i) i 0))) 21 [some (.ref 0), some (.int (nI ia)), some (.int (nI ib)), some (.int (nI (i + 1))), none, none, none] []
      rw [show (upd (gI (nI ia) (M 21) i) i 0) = gI (nI ia) (M 21) (i + 1) from by rw [gI, if_pos h_34]]
      show g 0 0 (wM (up2 M 21 (gI (nI ia) (M 21) (i + 1)))) 21 [some (.ref 0), some (.int (nI ia)), some (.int (nI ib)), some (.int (nI (i + 1))), none, none, none] []
      exact ih (i + 1) (by omega)
noncomputable def handsM (M : Nat → Nat → Int32) (z : Nat) (a b : Int32) : Int32 × (Nat → Nat → Int32) := (if (inI a 0 (M 4 0 - 1)) = true then (if (inI b 0 (M 4 0 - 1)) = true then (toldM (((hgT (vw (M 4)) (M 4 35) z (gI a (M 21) 6) (M 22) 60).1) (ix b)), (up2 (up2 M 21 ((hgT (vw (M 4)) (M 4 35) z (gI a (M 21) 6) (M 22) 60).1)) 22 ((hgT (vw (M 4)) (M 4 35) z (gI a (M 21) 6) (M 22) 60).2))) else ((-1000001), M)) else ((-1000001), M))
set_option maxHeartbeats 4000000 in
set_option maxRecDepth 100000 in
theorem c_X6_hands (M : Nat → Nat → Int32) (a b : Int32) (z : Nat) (hM : okM M z) : MetA yX6_hands (.code yX6_hands cX6_hands 7 (some .int) :: TT) rmX6_hands [.ref 0, .int a, .int b] (wM M) (fun vr wr => vr = some (.int (handsM M z a b).1) ∧ wr = wM (handsM M z a b).2) 0 0 := by
  refine MetA.of_i (by decide) (fun _ => Nat.le_of_ble_eq_true rfl) (Nat.le_of_ble_eq_true rfl) (fun g C E => ?_)
  replace C : Sem cX6_hands RX6 "hands" 7 rmX6_hands g := C
  show g 0 0 (wM M) 0 [some (.ref 0), some (.int a), some (.int b), none, none, none, none] []
  refine r_aload_n (pc := 0) C dX6_hands_0 rfl rfl ?_
  refine r_iload_n (pc := 1) C dX6_hands_1 rfl rfl ?_
  refine r_callV0 (pc := 2) (As := [.int a]) (st := []) (θ' := wM M) C (c_X6_isHammock M a) xm_X6_isHammock xk_X6_181 dX6_hands_2 rfl rfl rfl rfl (Nat.le_of_ble_eq_true rfl) ⟨Nat.le_of_ble_eq_true rfl, Nat.le_of_ble_eq_true rfl⟩ ⟨rfl, rfl⟩ ⟨Nat.le_of_ble_eq_true rfl, Nat.le_of_ble_eq_true rfl⟩ rfl (Eq.trans (b := 14) rfl rfl) ?_
  show g 0 0 (wM M) 5 [some (.ref 0), some (.int a), some (.int b), none, none, none, none] [.int (bB (inI a 0 (M 4 0 - 1)))]
  refine r_if_eq (pc := 5) (tgt := 16) C dX6_hands_5 (by decide) (fun h_5 => ?_) (fun h_5 => ?_)
  · replace h_5 := bB_f h_5
    refine r_ldc (pc := 16) (v := (-1000001)) C dX6_hands_16 tw_668 ?_
    show g 0 0 (wM M) 18 [some (.ref 0), some (.int a), some (.int b), none, none, none, none] [.int (-1000001)]
    have hX : handsM M z a b = ((-1000001), M) := by
      unfold handsM
      rw [if_neg (nbt h_5)]
    exact E _ _ _ _ _ _ dX6_hands_18 (Nat.le_refl _) (Nat.le_refl _) rfl ⟨by rw [hX], by rw [hX]⟩
  · replace h_5 := bB_t h_5
    obtain ⟨ia, hia, rfl⟩ := in_ex hM.1 hM.2.1 h_5
    have hia6 : ia < 6 := by have := hM.2.1; omega
    have hz6 := hM.2.1
    refine r_aload_n (pc := 8) C dX6_hands_8 rfl rfl ?_
    refine r_iload_n (pc := 9) C dX6_hands_9 rfl rfl ?_
    refine r_callV0 (pc := 10) (As := [.int b]) (st := []) (θ' := wM M) C (c_X6_isHammock M b) xm_X6_isHammock xk_X6_181 dX6_hands_10 rfl rfl rfl rfl (Nat.le_of_ble_eq_true rfl) ⟨Nat.le_of_ble_eq_true rfl, Nat.le_of_ble_eq_true rfl⟩ ⟨rfl, rfl⟩ ⟨Nat.le_of_ble_eq_true rfl, Nat.le_of_ble_eq_true rfl⟩ rfl (Eq.trans (b := 14) rfl rfl) ?_
    show g 0 0 (wM M) 13 [some (.ref 0), some (.int (nI ia)), some (.int b), none, none, none, none] [.int (bB (inI b 0 (M 4 0 - 1)))]
    refine r_if_ne (pc := 13) (tgt := 19) C dX6_hands_13 (by decide) (fun h_13 => ?_) (fun h_13 => ?_)
    · replace h_13 := bB_t h_13
      obtain ⟨ib, hib, rfl⟩ := in_ex hM.1 hM.2.1 h_13
      have hib6 : ib < 6 := by have := hM.2.1; omega
      have hz6 := hM.2.1
      refine r_iconst (pc := 19) (v := 0) C dX6_hands_19 (by decide) ?_
      refine r_istore_n (pc := 20) (lv' := [some (.ref 0), some (.int (nI ia)), some (.int (nI ib)), some (.int 0), none, none, none]) C dX6_hands_20 rfl (Nat.le_of_ble_eq_true rfl) trivial rfl ?_
      show g 0 0 (wM M) 21 [some (.ref 0), some (.int (nI ia)), some (.int (nI ib)), some (.int 0), none, none, none] []
      refine lpg_X6_hands M z hM ia ib hia hib C ?_ 6 0 (by omega)
      show g 0 0 (wM (up2 M 21 (gI (nI ia) (M 21) 6))) 50 [some (.ref 0), some (.int (nI ia)), some (.int (nI ib)), none, none, none, none] []
      refine r_iconst (pc := 50) (v := 0) C dX6_hands_50 (by decide) ?_
      refine r_istore_n (pc := 51) (lv' := [some (.ref 0), some (.int (nI ia)), some (.int (nI ib)), some (.int 0), none, none, none]) C dX6_hands_51 rfl (Nat.le_of_ble_eq_true rfl) trivial rfl ?_
      show g 0 0 (wM (up2 M 21 (gI (nI ia) (M 21) 6))) 52 [some (.ref 0), some (.int (nI ia)), some (.int (nI ib)), some (.int 0), none, none, none] []
      have hL := fun kk => lpk_X6_hands M z hM ia ib hia hib (gI (nI ia) (M 21) 6) (M 22) C kk 60 0 (by omega)
      rw [show hgT (vw (M 4)) (M 4 35) z (gI (nI ia) (M 21) 6) (M 22) 0 = ((gI (nI ia) (M 21) 6), (M 22)) from by rw [hgT_eq]; rfl] at hL
      refine hL ?_
      show g 0 0 (wM (up2 (up2 M 21 ((hgT (vw (M 4)) (M 4 35) z (gI (nI ia) (M 21) 6) (M 22) 60).1)) 22 ((hgT (vw (M 4)) (M 4 35) z (gI (nI ia) (M 21) 6) (M 22) 60).2))) 232 [some (.ref 0), some (.int (nI ia)), some (.int (nI ib)), none, none, none, none] []
      refine r_aload_n (pc := 232) C dX6_hands_232 rfl rfl ?_
      refine r_getfield (pc := 233) (v := .ref 12) C xf_X6_44 dX6_hands_233 rfl rfl ?_
      refine r_iload_n (pc := 236) C dX6_hands_236 rfl rfl ?_
      refine r_iaload (pc := 237) (v := ((hgT (vw (M 4)) (M 4 35) z (gI (nI ia) (M 21) 6) (M 22) 60).1) ib) C ib dX6_hands_237 rfl rfl (by first | assumption | omega) rfl ?_
      refine r_callS0 (pc := 238) (As := [.int (((hgT (vw (M 4)) (M 4 35) z (gI (nI ia) (M 21) 6) (M 22) 60).1) ib)]) (st := []) C (c_X6_told (((hgT (vw (M 4)) (M 4 35) z (gI (nI ia) (M 21) 6) (M 22) 60).1) ib)) xm_X6_told xk_X6_198 dX6_hands_238 (fun _ => rfl) (fun _ => rfl) rfl rfl (Nat.le_of_ble_eq_true rfl) ⟨Nat.le_of_ble_eq_true rfl, Nat.le_of_ble_eq_true rfl⟩ ⟨rfl, rfl⟩ ⟨Nat.le_of_ble_eq_true rfl, Nat.le_of_ble_eq_true rfl⟩ rfl ?_
      show g 0 0 (wM (up2 (up2 M 21 ((hgT (vw (M 4)) (M 4 35) z (gI (nI ia) (M 21) 6) (M 22) 60).1)) 22 ((hgT (vw (M 4)) (M 4 35) z (gI (nI ia) (M 21) 6) (M 22) 60).2))) 241 [some (.ref 0), some (.int (nI ia)), some (.int (nI ib)), none, none, none, none] [.int (toldM (((hgT (vw (M 4)) (M 4 35) z (gI (nI ia) (M 21) 6) (M 22) 60).1) ib))]
      show g 0 0 (wM (up2 (up2 M 21 ((hgT (vw (M 4)) (M 4 35) z (gI (nI ia) (M 21) 6) (M 22) 60).1)) 22 ((hgT (vw (M 4)) (M 4 35) z (gI (nI ia) (M 21) 6) (M 22) 60).2))) 241 [some (.ref 0), some (.int (nI ia)), some (.int (nI ib)), none, none, none, none] [.int (toldM (((hgT (vw (M 4)) (M 4 35) z (gI (nI ia) (M 21) 6) (M 22) 60).1) ib))]
      have hX : handsM M z (nI ia) (nI ib) = (toldM (((hgT (vw (M 4)) (M 4 35) z (gI (nI ia) (M 21) 6) (M 22) 60).1) ib), (up2 (up2 M 21 ((hgT (vw (M 4)) (M 4 35) z (gI (nI ia) (M 21) 6) (M 22) 60).1)) 22 ((hgT (vw (M 4)) (M 4 35) z (gI (nI ia) (M 21) 6) (M 22) 60).2))) := by
        unfold handsM
        (try rw [ix_nI (show ia < 2 ^ 31 by omega)])
        (try rw [ix_nI (show ib < 2 ^ 31 by omega)])
        rw [if_pos h_5, if_pos h_13]
      exact E _ _ _ _ _ _ dX6_hands_241 (Nat.le_refl _) (Nat.le_refl _) rfl ⟨by rw [hX], by rw [hX]⟩
    · replace h_13 := bB_f h_13
      refine r_ldc (pc := 16) (v := (-1000001)) C dX6_hands_16 tw_668 ?_
      show g 0 0 (wM M) 18 [some (.ref 0), some (.int (nI ia)), some (.int b), none, none, none, none] [.int (-1000001)]
      have hX : handsM M z (nI ia) b = ((-1000001), M) := by
        unfold handsM
        (try rw [ix_nI (show ia < 2 ^ 31 by omega)])
        rw [if_pos h_5, if_neg (nbt h_13)]
      exact E _ _ _ _ _ _ dX6_hands_18 (Nat.le_refl _) (Nat.le_refl _) rfl ⟨by rw [hX], by rw [hX]⟩
