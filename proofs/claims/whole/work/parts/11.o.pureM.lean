/-! ===== the pure part: where to sling one ===== -/
def tsF (F : Nat → Nat → Int32) (c p : Nat) : Nat → Nat → Int32 := up2 (up2 F 1 (upd (F 1) c (nI p / 12))) 2 (upd (F 2) c (rmI (nI p) 12))
def tsD (best : Int32) : Nat := ix (if best = -1000000 then 60 else best - 1)
theorem tsL_s {z c ia ib n p : Nat} {best trees : Int32} {F O : Nat → Nat → Int32} : tsL z c ia ib (n + 1) p best trees F O = if nI p / 12 < rmI (nI p) 12 then (if arrT (faT O (tsF F c p) z c (tsD best) 1) z (nI ia) (nI ib) (tsD best) 0 = -1000000 then tsL z c ia ib n (p + 1) best trees (tsF F c p) (faT O (tsF F c p) z c (tsD best)) else tsL z c ia ib n (p + 1) (arrT (faT O (tsF F c p) z c (tsD best) 1) z (nI ia) (nI ib) (tsD best) 0) (nI p) (tsF F c p) (faT O (tsF F c p) z c (tsD best))) else tsL z c ia ib n (p + 1) best trees F O := rfl
def blR (best least : Int32) : Prop := (best = -1000000 ∧ least = 1000000) ∨ ∃ u, 1 ≤ u ∧ u ≤ 60 ∧ best = nI u ∧ least = nI u
theorem tsF_ok {F : Nat → Nat → Int32} {z c p : Nat} (hp : p < 144) (hlt : p / 12 < p % 12) (ho : okF F z) : okF (tsF F c p) z := by
  obtain ⟨a1, a2, a3, a4, a5, a6, a7, a8, a9⟩ := ho
  refine ⟨a1, a2, a3, a4, a5, a6, a7, a8, fun i hi => ⟨(a9 i hi).1, ?_, (a9 i hi).2.2.1, (a9 i hi).2.2.2⟩⟩
  show ∃ a b, a < b ∧ b ≤ 11 ∧ upd (F 1) c (nI p / 12) i = nI a ∧ upd (F 2) c (rmI (nI p) 12) i = nI b
  unfold upd
  by_cases e : i = c
  · rw [if_pos e, if_pos e]
    exact ⟨p / 12, p % 12, hlt, by omega, nI_quo rfl rfl (by omega) (by omega) (by omega), nI_rem rfl rfl (by omega) (by omega) (by omega)⟩
  · rw [if_neg e, if_neg e]; exact (a9 i hi).2.1
theorem tsF_sp {F : Nat → Nat → Int32} {c p h : Nat} (hne : h ≠ c) (m : Int32) : spS (tsF F c p) h m = spS F h m := by
  have e1 : tsF F c p 1 h = F 1 h := upd_ne hne
  have e2 : tsF F c p 2 h = F 2 h := upd_ne hne
  unfold spS downS dipS plS offS cutS
  rw [e1, e2]
  rfl
section
variable {S S' : Nat → Nat → Nat → Int32} {M M' : Nat → Nat → Int32} {z o q ln tr : Nat}
theorem tsF_r {F : Nat → Nat → Int32} {t A : Nat → Int32} {c p : Nat} {x y : Int32} (hz : z ≤ 6) (hc : c < z) (ht : t = M 4) (hr : rF F (upd (upd t (10 + c) x) (16 + c) y) z) : rF (tsF F c p) (tsA M A c p) z := by
  have h1 : rF (up2 F 1 (upd (F 1) c (nI p / 12))) (upd (upd (upd t (10 + c) x) (16 + c) y) (10 + c) (nI p / 12)) z := rF_upd (k := 1) hz (by omega) hc (by omega) hr
  have h2 : rF (tsF F c p) (upd (upd (upd (upd t (10 + c) x) (16 + c) y) (10 + c) (nI p / 12)) (16 + c) (rmI (nI p) 12)) z := rF_upd (k := 2) hz (by omega) hc (by omega) h1
  refine rF_t (fun k hk => ?_) hz h2
  subst ht
  unfold tsA upd
  by_cases e2 : k = 16 + c
  · rw [if_pos e2, if_pos e2]
  · rw [if_neg e2, if_neg e2]
    by_cases e1 : k = 10 + c
    · rw [if_pos e1, if_pos e1]
    · rw [if_neg e1, if_neg e1, if_neg e2, if_neg e1, cpy36 hk]
theorem tsA_u {M : Nat → Nat → Int32} {A : Nat → Int32} {c p : Nat} {F : Nat → Nat → Int32} {z : Nat} (hz : z ≤ 6) (hr : rF F (tsA M A c p) z) : rF F (upd (upd (M 4) (10 + c) (nI p / 12)) (16 + c) (rmI (nI p) 12)) z := by
  refine rF_t (fun k hk => ?_) hz hr
  unfold tsA upd
  by_cases e2 : k = 16 + c
  · rw [if_pos e2, if_pos e2]
  · rw [if_neg e2, if_neg e2]
    by_cases e1 : k = 10 + c
    · rw [if_pos e1, if_pos e1]
    · rw [if_neg e1, if_neg e1, cpy36 hk]
theorem ts_it {c ia ib : Nat} (hz : z ≤ 6) (hc : c < z) (hia : ia < z) (hib : ib < z) (hab : ia ≠ ib) : ∀ (n p : Nat) (best least trees : Int32) (F O : Nat → Nat → Int32) (A : Nat → Int32), p + n = 144 → blR best least → okF F z → (∃ x y, rF F (upd (upd (M 4) (10 + c) x) (16 + c) y) z) → olTc O F z 60 c → blR (tsL z c ia ib n p best trees F O).1 (tsM M z c ia ib n p least trees A).1 ∧ (tsL z c ia ib n p best trees F O).2.1 = (tsM M z c ia ib n p least trees A).2.1 ∧ okW (tsL z c ia ib n p best trees F O).2.2.1
  | 0, p, best, least, trees, F, O, A, _, hb, ho, _, _ => ⟨hb, rfl, ho.2.2.1⟩
  | n + 1, p, best, least, trees, F, O, A, hp, hb, ho, hr, hT => by
    have eq1 : nI p / 12 = nI (p / 12) := nI_quo rfl rfl (by omega) (by omega) (by omega)
    have eq2 : rmI (nI p) 12 = nI (p % 12) := nI_rem rfl rfl (by omega) (by omega) (by omega)
    have eM : tsM M z c ia ib (n + 1) p least trees A = if least ≤ tsB M z c ia ib p A then tsM M z c ia ib n (p + 1) least trees (tsA M A c p) else tsM M z c ia ib n (p + 1) (tsB M z c ia ib p A) (nI p) (tsA M A c p) := rfl
    rw [tsL_s, eM]
    by_cases hlt : p / 12 < p % 12
    · rw [if_pos (show nI p / 12 < rmI (nI p) 12 by rw [eq1, eq2]; exact (nI_ltI (by omega) (by omega)).mpr hlt)]
      have hB : tsB M z c ia ib p A = soonT (vw (tsA M A c p)) z (nI ia) (nI ib) := by
        unfold tsB
        rw [if_neg]
        rw [eq1, eq2]
        intro h
        have := (nI_leI (by omega) (by omega)).mp h
        omega
      obtain ⟨x, y, hr⟩ := hr
      have ho' : okF (tsF F c p) z := tsF_ok (by omega) hlt ho
      have hr' : rF (tsF F c p) (tsA M A c p) z := tsF_r hz hc rfl hr
      have hT' : olTc O (tsF F c p) z 60 c := olTc_congr (F := F) (F' := tsF F c p) hz rfl rfl (fun h _ hne m => tsF_sp hne m) hT
      have hd60 : tsD best ≤ 60 := by
        unfold tsD
        rcases hb with ⟨e1, e2⟩ | ⟨u, h1, h2, e1, e2⟩
        · rw [e1, if_pos rfl, ix60]
          exact Nat.le_refl 60
        · rw [e1, if_neg (nI_nn h2), ix_m1 h1 h2]
          omega
      obtain ⟨k1_, k2⟩ := fa_ok (d' := tsD best) hz hc hd60 hT'
      have hA := arr_r (bar := 0) (ia := ia) (ib := ib) ho' hr' k1_ hd60 rfl (bar0 hz)
      have hok := arr_ok (nr := faT O (tsF F c p) z c (tsD best) 1) (z := z) (a := ia) (b := ib) (d := tsD best) (bar := 0) (by omega) (by omega) hab hd60
      have hrec : ∃ x y, rF (tsF F c p) (upd (upd (M 4) (10 + c) x) (16 + c) y) z := ⟨_, _, tsA_u hz hr'⟩
      rw [hB]
      rcases hA with ⟨v, g1, g2, g3⟩ | ⟨g2, g3⟩
      · have hv1 : 1 ≤ v := by
          rcases hok with e | ⟨w, w1, w2, e⟩
          · rw [g2] at e
            exact absurd e (nI_nn (by omega))
          · rw [g2] at e
            have := (nI_eq (by omega) (by omega)).mp e
            omega
        have hle : ¬ least ≤ nI v := by
          rcases hb with ⟨e1, e2⟩ | ⟨u, h1, h2, e1, e2⟩
          · rw [e2]
            intro h
            have := (nI_leI (a := 1000000) (by omega) (by omega)).mp h
            omega
          · unfold tsD at g1
            rw [e1, if_neg (nI_nn h2), ix_m1 h1 h2] at g1
            rw [e2]
            intro h
            have := (nI_leI (by omega) (by omega)).mp h
            omega
        rw [g2, g3, if_neg (nI_nn (by omega)), if_neg hle]
        exact ts_it hz hc hia hib hab n (p + 1) _ _ _ _ _ _ (by omega) (Or.inr ⟨v, hv1, by omega, rfl, rfl⟩) ho' hrec k2
      · have hle : least ≤ soonT (vw (tsA M A c p)) z (nI ia) (nI ib) := by
          rcases soon_v (G := vw (tsA M A c p)) (z := z) (a := nI ia) (b := nI ib) with ⟨w, w1, w2⟩ | w2
          · rw [w2] at g3 ⊢
            have h3 := (nI_ltI (by omega) (by omega)).mp g3
            rcases hb with ⟨e1, e2⟩ | ⟨u, h1, h2, e1, e2⟩
            · unfold tsD at h3
              rw [e1, if_pos rfl, ix60] at h3
              omega
            · unfold tsD at h3
              rw [e1, if_neg (nI_nn h2), ix_m1 h1 h2] at h3
              rw [e2]
              exact nI_le (by omega) (by omega)
          · rw [w2]
            rcases hb with ⟨e1, e2⟩ | ⟨u, h1, h2, e1, e2⟩
            · rw [e2]
              exact Int32.le_refl _
            · rw [e2]
              exact nI_le (b := 1000000) (by omega) (by omega)
        rw [g2, if_pos rfl, if_pos hle]
        exact ts_it hz hc hia hib hab n (p + 1) _ _ _ _ _ _ (by omega) hb ho' hrec k2
    · rw [if_neg (show ¬ nI p / 12 < rmI (nI p) 12 by rw [eq1, eq2]; exact nI_nlt (by omega) (by omega))]
      have hB : tsB M z c ia ib p A = 1000000 := by
        unfold tsB
        rw [if_pos]
        rw [eq1, eq2]
        exact nI_le (by omega) (by omega)
      rw [hB, if_pos]
      · exact ts_it hz hc hia hib hab n (p + 1) _ _ _ _ _ _ (by omega) hb ho hr hT
      · rcases hb with ⟨e1, e2⟩ | ⟨u, h1, h2, e1, e2⟩
        · rw [e2]
          exact Int32.le_refl _
        · rw [e2]
          exact nI_le (b := 1000000) (by omega) (by omega)
theorem rp_376 (F O : Nat → Nat → Int32) (A : Nat → Int32) (hW : okW F) (h : RelP S M z o q ln tr) : RelP (up3 (up3 S 3 F) 7 O) (up2 M 6 A) z o q ln tr :=
  rp_q h rfl rfl rfl rfl hW rfl (fun k hk => (up3_ne (by omega)).trans (up3_ne (by omega))) (fun j hj => (up3_ne (by omega)).trans (up3_ne (by omega))) rfl rfl rfl rfl rfl rfl rfl rfl rfl rfl rfl rfl rfl
theorem toR_eq {best least trees x : Int32} (hb : blR best least) (hx : inI x 0 1 = true) : toR best trees x = toRM least trees x := by
  unfold toR toRM
  obtain ⟨u, hu, rfl⟩ := inr_ex (m := 1) rfl hx
  rcases hb with ⟨e1, e2⟩ | ⟨v, h1, h2, e1, e2⟩
  · rw [e1, e2, if_pos rfl, if_pos rfl]
  · rw [e1, e2, if_neg (nI_nn h2), if_neg (fun e : nI v = 1000000 => by
      have := (nI_eq (b := 1000000) (by omega) (by omega)).mp e
      omega)]
    rcases (by omega : u = 0 ∨ u = 1) with rfl | rfl
    · rw [if_neg (show ¬ nI 0 = 1 by decide), if_pos (show nI 0 = 0 from rfl)]
    · rw [if_pos (show nI 1 = 1 from rfl), if_neg (show ¬ nI 1 = 0 by decide)]
theorem rel_toSling (h : RelP S M z o q ln tr) (c a b x : Int32) : (slingToC S z c a b x).1 = (slingToM M z c a b x).1 ∧ Rel ((slingToC S z c a b x).2) ((slingToM M z c a b x).2) := by
  unfold slingToC slingToM
  rw [tw_in h, tw_in h, tw_in h, bel2]
  by_cases h1 : inI c 0 (M 4 0 - 1) = true
  · rw [if_pos h1, h1, Bool.and_true, Bool.and_true]
    by_cases h2 : inI a 0 (M 4 0 - 1) = true
    · rw [if_pos h2, h2, Bool.true_and, Bool.true_and]
      by_cases h3 : inI b 0 (M 4 0 - 1) = true
      · rw [if_pos h3, h3, Bool.true_and, Bool.true_and]
        by_cases e1 : a = b
        · rw [if_pos e1, decide_eq_true e1]; exact ⟨rfl, z, o, q, ln, tr, h⟩
        · rw [if_neg e1, decide_eq_false e1, if_pos Bool.not_false]
          by_cases e2 : a = c
          · rw [if_pos e2, decide_eq_true e2]; exact ⟨rfl, z, o, q, ln, tr, h⟩
          · rw [if_neg e2, decide_eq_false e2, if_pos Bool.not_false]
            by_cases e3 : b = c
            · rw [if_pos e3, decide_eq_true e3]; exact ⟨rfl, z, o, q, ln, tr, h⟩
            · rw [if_neg e3, decide_eq_false e3, if_pos Bool.not_false]
              by_cases h4 : inI x 0 1 = true
              · rw [if_pos h4, if_pos h4]
                obtain ⟨jc, hjc, rfl⟩ := rp_ix h h1
                obtain ⟨ia, hia, rfl⟩ := rp_ix h h2
                obtain ⟨ib, hib, rfl⟩ := rp_ix h h3
                have hz := h.1.1.2.1
                have hab : ia ≠ ib := fun e => e1 (by rw [e])
                rw [ix_nI (show jc < 2 ^ 31 by omega), ix_nI (show ia < 2 ^ 31 by omega), ix_nI (show ib < 2 ^ 31 by omega)]
                have hoT : okF (tkS (S 3) (S 2)) z := okF_tk h.1.1
                have hrT : rF (tkS (S 3) (S 2)) (M 4) z := rF_tk hz h.1.2.2
                have hT := fr_ok (S 7) (tkS (S 3) (S 2)) hz 60
                have hb : blR (arrT (frT (S 7) (tkS (S 3) (S 2)) z 60 1) z (nI ia) (nI ib) 60 0) (soonT (vw (M 4)) z (nI ia) (nI ib)) := by
                  have hok := arr_ok (nr := frT (S 7) (tkS (S 3) (S 2)) z 60 1) (z := z) (a := ia) (b := ib) (d := 60) (bar := 0) (by omega) (by omega) hab (by omega)
                  rcases arr_r (bar := 0) (ia := ia) (ib := ib) hoT hrT hT (by omega) rfl (bar0 hz) with ⟨v, g1, g2, g3⟩ | ⟨g2, g3⟩
                  · rw [g2, g3]
                    rw [g2] at hok
                    rcases hok with e | ⟨w, w1, w2, e⟩
                    · exact absurd e (nI_nn (by omega))
                    · have := (nI_eq (by omega) (by omega)).mp e
                      exact Or.inr ⟨v, by omega, g1, rfl, rfl⟩
                  · rcases soon_v (G := vw (M 4)) (z := z) (a := nI ia) (b := nI ib) with ⟨u, h6, h7⟩ | h7
                    · rw [h7] at g3
                      exact absurd g3 (nI_nlt h6 (by omega))
                    · exact Or.inl ⟨g2, h7⟩
                have et : (12 * (S 2) 1 jc) + (S 2) 2 jc = (12 * (M 4 (10 + jc))) + (M 4 (16 + jc)) := by
                  rw [rF_k h.1.2.2 hjc (k := 1) (by omega), rF_k h.1.2.2 hjc (k := 2) (by omega)]
                  rfl
                have key := ts_it (M := M) hz hjc hia hib hab 143 1 _ _ ((12 * (M 4 (10 + jc))) + (M 4 (16 + jc))) _ _ (tsA M (M 6) jc 0) (by omega) hb hoT ⟨M 4 (10 + jc), M 4 (16 + jc), rF_t (t := M 4) (fun k hk => by
                  unfold upd
                  by_cases e2 : k = 16 + jc
                  · rw [if_pos e2, e2]
                  · rw [if_neg e2]
                    by_cases e1 : k = 10 + jc
                    · rw [if_pos e1, e1]
                    · rw [if_neg e1]) hz hrT⟩ (olT_c hT)
                have e0 : tsM M z jc ia ib 144 0 (soonT (vw (M 4)) z (nI ia) (nI ib)) ((12 * (M 4 (10 + jc))) + (M 4 (16 + jc))) (M 6) = tsM M z jc ia ib 143 1 (soonT (vw (M 4)) z (nI ia) (nI ib)) ((12 * (M 4 (10 + jc))) + (M 4 (16 + jc))) (tsA M (M 6) jc 0) := by
                  have eM : ∀ least best A, tsM M z jc ia ib (143 + 1) 0 least best A = if least ≤ tsB M z jc ia ib 0 A then tsM M z jc ia ib 143 (0 + 1) least best (tsA M A jc 0) else tsM M z jc ia ib 143 (0 + 1) (tsB M z jc ia ib 0 A) (nI 0) (tsA M A jc 0) := fun _ _ _ => rfl
                  rw [show (144 : Nat) = 143 + 1 from rfl, eM, if_pos]
                  have hB : tsB M z jc ia ib 0 (M 6) = 1000000 := by
                    unfold tsB
                    exact if_pos (by decide)
                  rw [hB]
                  rcases soon_v (G := vw (M 4)) (z := z) (a := nI ia) (b := nI ib) with ⟨u, h6, h7⟩ | h7
                  · rw [h7]
                    exact nI_le (b := 1000000) (by omega) (by omega)
                  · rw [h7]
                    exact Int32.le_refl _
                rw [tsT_eq, tsMT_eq, e0, et]
                refine ⟨?_, z, o, q, ln, tr, rp_376 _ _ _ key.2.2 h⟩
                dsimp only
                rw [key.2.1]
                exact toR_eq key.1 h4
              · rw [if_neg h4, if_neg h4]; exact ⟨rfl, z, o, q, ln, tr, h⟩
      · rw [if_neg h3]
        rw [Bool.not_eq_true] at h3
        rw [h3, Bool.false_and]; exact ⟨rfl, z, o, q, ln, tr, h⟩
    · rw [if_neg h2]
      rw [Bool.not_eq_true] at h2
      rw [h2, Bool.false_and, Bool.false_and]; exact ⟨rfl, z, o, q, ln, tr, h⟩
  · rw [if_neg h1]
    rw [Bool.not_eq_true] at h1
    rw [h1, Bool.and_false, Bool.false_and, Bool.and_false, Bool.false_and]
    cases (inI a 0 (M 4 0 - 1) && inI b 0 (M 4 0 - 1) && !decide (a = b))
    · exact ⟨rfl, z, o, q, ln, tr, h⟩
    · exact ⟨rfl, z, o, q, ln, tr, h⟩
end
