theorem xX_app (ρ : Nat → Nat) (n : Nat) (a b : List Nat) : xX (xX ρ n a) (n + a.length) b = xX ρ n (a ++ b) := by
  funext i
  unfold xX
  by_cases h1 : i < n
  · rw [if_pos (by omega), if_pos h1, if_pos h1]
  · by_cases h2 : i < n + a.length
    · rw [if_pos h2, if_neg h1, if_neg h1, List.getElem?_append_left (by omega)]
    · rw [if_neg h2, if_neg h1, if_neg h1, List.getElem?_append_right (by omega), show i - n - a.length = i - (n + a.length) by omega]
      have h3 : a[i - n]? = none := List.getElem?_eq_none (by omega)
      rw [h3]
theorem xX_lt {ρ : Nat → Nat} {n i : Nat} {a : List Nat} (h : i < n) : xX ρ n a i = ρ i := if_pos h
theorem xX_ge {ρ : Nat → Nat} {n i : Nat} {a : List Nat} (h : n + a.length ≤ i) : xX ρ n a i = ρ i := by
  unfold xX
  rw [if_neg (by omega), List.getElem?_eq_none (by omega)]
theorem xIs {is : List Nat} {θ θc : List xE} {σ : Nat → Nat} (hθ : is.map (fun i => θ[i]?) = θc.map (fun x => some (xEr σ x))) : is.length = θc.length ∧ ∀ (j i : Nat), is[j]? = some i → ∃ x, θc[j]? = some x ∧ θ[i]? = some (xEr σ x) := by
  have h0 := congrArg List.length hθ
  rw [List.length_map, List.length_map] at h0
  refine ⟨h0, fun j i hj => ?_⟩
  have h1 := congrArg (fun l => l[j]?) hθ
  simp only [List.getElem?_map, hj, Option.map_some] at h1
  cases hc : θc[j]? with
  | none => rw [hc] at h1; cases h1
  | some x => rw [hc] at h1; exact ⟨x, rfl, Option.some.inj h1⟩
theorem xS_lt {is : List Nat} {b j i : Nat} (h : is[j]? = some i) : xS is b j = i := by
  unfold xS
  rw [h]
theorem xS_ge {is : List Nat} {b j : Nat} (h : is.length ≤ j) : xS is b j = b + (j - is.length) := by
  unfold xS
  rw [List.getElem?_eq_none h]
section CL
variable {s : State} {D : va_G} {A : Nat → Prop} {τ : Nat → ClassId} {ρ : Nat → Nat} {θ θc : List xE} {H : Heap} {locs : List Loc} {is : List Nat}
theorem xWc_at {σ : Nat → Nat} (hθ : is.map (fun i => θ[i]?) = θc.map (fun x => some (xEr σ x))) (hσ : ∀ (j i : Nat), is[j]? = some i → σ j = i) {j : Nat} {q : Nat × va_E} (hq : (xW (fun i => ρ (σ i)) τ θc)[j]? = some q) : ∃ i, is[j]? = some i ∧ q.1 = ρ i ∧ (xW ρ τ θ)[i]? = some q := by
  obtain ⟨hl, hi⟩ := xIs hθ
  rw [xW_get] at hq
  cases hc : θc[j]? with
  | none => rw [hc] at hq; cases hq
  | some x =>
    rw [hc] at hq
    cases hq
    have hj : j < is.length := by rw [hl]; exact (List.getElem?_eq_some_iff.mp hc).1
    obtain ⟨x', h1, h2⟩ := hi j _ (List.getElem?_eq_getElem hj)
    cases hc.symm.trans h1
    refine ⟨is[j], List.getElem?_eq_getElem hj, ?_, ?_⟩
    · show ρ (σ j) = _
      rw [hσ j _ (List.getElem?_eq_getElem hj)]
    · rw [xW_at h2, xC_xEr]
      show _ = some (ρ (σ j), _)
      rw [hσ j _ (List.getElem?_eq_getElem hj)]
theorem xFree {σ : Nat → Nat} (hθ : is.map (fun i => θ[i]?) = θc.map (fun x => some (xEr σ x))) (hσ : ∀ (j i : Nat), is[j]? = some i → σ j = i) (h4 : va_D A (xW ρ τ θ)) (h5 : va_S A s.heap H locs) (hA : ∀ q : Nat, s.heap.size ≤ q → A q) : ∀ q, va_A (xW (fun i => ρ (σ i)) τ θc) H.size q → A q := by
  intro q hq
  rcases hq with ⟨j, e, hj⟩ | hq
  · obtain ⟨i, -, -, h⟩ := xWc_at hθ hσ hj
    exact h4.2 i _ h
  · exact hA q (Nat.le_trans h5.1 hq)
theorem xEnter {σ : Nat → Nat} (hθ : is.map (fun i => θ[i]?) = θc.map (fun x => some (xEr σ x))) (hσ : ∀ (j i : Nat), is[j]? = some i → σ j = i) (hnd : is.Nodup) (h3 : va_P D vwCl (xW ρ τ θ) H) (h4 : va_D A (xW ρ τ θ)) (h5 : va_S A s.heap H locs) (hK : va_K D vwCl (xT τ) s) (hA : ∀ q : Nat, s.heap.size ≤ q → A q) (hT : xTab A s ∧ xNest s) : ∀ U : State, U.heap = H → s.WarmedH U.vm → xPre D τ (fun i => ρ (σ i)) θc H.size U := by
  intro U hU hW
  subst hU
  refine ⟨rfl, fun j q hq => ?_, va_K.moved hW.alike hK, ⟨fun i j p q hp hq e => ?_, fun _ _ _ => trivial⟩, ⟨hT.1.moves hW.alike h5.2.1 (xFree hθ hσ h4 h5 hA), hT.2.warm hW⟩⟩
  · obtain ⟨i, -, -, h⟩ := xWc_at hθ hσ hq
    exact h3 i q h
  · obtain ⟨a, a1, -, a2⟩ := xWc_at hθ hσ hp
    obtain ⟨b, b1, -, b2⟩ := xWc_at hθ hσ hq
    have hab := h4.1 a b p q a2 b2 e
    subst hab
    exact ((List.getElem?_inj (List.getElem?_eq_some_iff.mp a1).1 hnd).mp (a1.trans b1.symm))
theorem xBlind {av : List Value} {sz : Nat} : FrameBlind (va_Pc av (xPre D τ ρ θ sz)) := by
  rintro a U g mk ⟨q0, q1, qP, qK, qD, qT⟩
  exact ⟨q0, q1, qP, va_K.moved (u := U) (U := U.calling g mk a) (Vm.Alike.refl U.vm) qK, qD, ⟨qT.1.moves (u := U) (U := U.calling g mk a) (Vm.Alike.refl U.vm) (fun _ _ _ => rfl) (fun _ h => h), qT.2.same (u := U) (U := U.calling g mk a) rfl⟩⟩
def xAft (θ : List xE) (is : List Nat) (θ' : List xE) : List xE := xSet θ is ((θ'.take is.length).map (xEr (xS is θ.length))) ++ (θ'.drop is.length).map (xEr (xS is θ.length))
theorem xLeave {θ' : List xE} {nw : List Nat} {H1 : Heap} (hθ : is.map (fun i => θ[i]?) = θc.map (fun x => some (xEr (xS is θ.length) x))) (hnd : is.Nodup) (h3 : va_P D vwCl (xW ρ τ θ) H) (h4 : va_D A (xW ρ τ θ)) (hFA : ∀ q, va_A (xW (fun i => ρ (xS is θ.length i)) τ θc) H.size q → A q)
    (hcl : ∀ (i : Nat) (x : xE), θ[i]? = some x → xC (xX ρ θ.length nw) τ x = xC ρ τ x)
    (hlen : θ'.length = θc.length + nw.length) (hP1 : va_P D vwCl (xW (xX (fun i => ρ (xS is θ.length i)) θc.length nw) τ θ') H1) (hD1 : va_D (va_A (xW (fun i => ρ (xS is θ.length i)) τ θc) H.size) (xW (xX (fun i => ρ (xS is θ.length i)) θc.length nw) τ θ')) (hk : ∀ q : Nat, q < H.size → ¬ va_A (xW (fun i => ρ (xS is θ.length i)) τ θc) H.size q → H1[q]? = H[q]?) :
    (xAft θ is θ').length = θ.length + nw.length ∧ va_P D vwCl (xW (xX ρ θ.length nw) τ (xAft θ is θ')) H1 ∧ va_D A (xW (xX ρ θ.length nw) τ (xAft θ is θ')) ∧ (fun i => xX ρ θ.length nw (xS is θ.length i)) = xX (fun i => ρ (xS is θ.length i)) θc.length nw := by
  obtain ⟨hl, hi⟩ := xIs hθ
  have hσ : ∀ (j i : Nat), is[j]? = some i → xS is θ.length j = i := fun j i h => xS_lt h
  have hin : ∀ (j i : Nat), is[j]? = some i → i < θ.length := fun j i h => by
    obtain ⟨x, -, h2⟩ := hi j i h
    exact (List.getElem?_eq_some_iff.mp h2).1
  have hρ : (fun i => xX ρ θ.length nw (xS is θ.length i)) = xX (fun i => ρ (xS is θ.length i)) θc.length nw := by
    funext i
    by_cases h : i < is.length
    · have h9 : xS is θ.length i < θ.length := by
        rw [hσ i _ (List.getElem?_eq_getElem h)]
        exact hin i _ (List.getElem?_eq_getElem h)
      rw [xX_lt h9, xX_lt (by omega)]
    · have hs : xS is θ.length i = θ.length + (i - is.length) := xS_ge (by omega)
      unfold xX
      rw [hs, if_neg (by omega), if_neg (by omega), show θ.length + (i - is.length) - θ.length = i - θc.length by omega]
      simp only [hs]
  have hρl : ∀ (j i : Nat), is[j]? = some i → xX (fun i => ρ (xS is θ.length i)) θc.length nw j = ρ i := by
    intro j i h
    have h1 : j < is.length := (List.getElem?_eq_some_iff.mp h).1
    rw [xX_lt (by omega), hσ j i h]
  have hρn : ∀ j, xX ρ θ.length nw (θ.length + j) = xX (fun i => ρ (xS is θ.length i)) θc.length nw (θc.length + j) := by
    intro j
    rw [← hρ]
    show _ = xX ρ θ.length nw (xS is θ.length (θc.length + j))
    rw [xS_ge (by omega), show θc.length + j - is.length = j by omega]
  have htl : (θ'.take is.length).length = is.length := by rw [List.length_take]; omega
  have hlen2 : (xAft θ is θ').length = θ.length + nw.length := by
    unfold xAft
    rw [List.length_append, xSet_len, List.length_map, List.length_drop]
    omega
  have hget1 : ∀ (j i : Nat) (x : xE), is[j]? = some i → θ'[j]? = some x → (xAft θ is θ')[i]? = some (xEr (xS is θ.length) x) := by
    intro j i x h1 h2
    unfold xAft
    rw [List.getElem?_append_left (by rw [xSet_len]; exact hin j i h1)]
    refine xSet_in is θ _ j i _ hnd h1 ?_ (hin j i h1)
    have h3 : j < is.length := (List.getElem?_eq_some_iff.mp h1).1
    rw [List.getElem?_map, List.getElem?_take, if_pos h3, h2]
    rfl
  have hget2 : ∀ i, i < θ.length → i ∉ is → (xAft θ is θ')[i]? = θ[i]? := by
    intro i h1 h2
    unfold xAft
    rw [List.getElem?_append_left (by rw [xSet_len]; exact h1), xSet_out is _ _ _ h2]
  have hget3 : ∀ j, (xAft θ is θ')[θ.length + j]? = (θ'[θc.length + j]?).map (xEr (xS is θ.length)) := by
    intro j
    unfold xAft
    rw [List.getElem?_append_right (by rw [xSet_len]; omega), xSet_len, List.getElem?_map, List.getElem?_drop, show is.length + (θ.length + j - θ.length) = θc.length + j by omega]
  have hnew : ∀ j, j < nw.length → H.size ≤ xX ρ θ.length nw (θ.length + j) ∧ A (xX ρ θ.length nw (θ.length + j)) := by
    intro j hj
    obtain ⟨d1, d2⟩ := xD_iff.mp hD1
    have h1 := d2 (θc.length + j) (by omega)
    rw [← hρn j] at h1
    refine ⟨?_, hFA _ h1⟩
    rcases h1 with ⟨q, e, hq⟩ | h1
    · exfalso
      obtain ⟨i, i1, i2, -⟩ := xWc_at hθ hσ hq
      have hq1 : q < is.length := (List.getElem?_eq_some_iff.mp i1).1
      have h2 := d1 q (θc.length + j) (by omega) (by omega) (by rw [hρl q i i1, ← hρn j]; exact i2.symm)
      omega
    · exact h1
  have hold : ∀ i, i < θ.length → xX ρ θ.length nw i = ρ i := fun i h => xX_lt h
  have hltH : ∀ i, i < θ.length → ρ i < H.size := fun i h => (h3 i _ (xW_at (List.getElem?_eq_getElem h))).lt
  refine ⟨hlen2, fun i q hq => ?_, xD_iff.mpr ⟨fun i j hi' hj' e => ?_, fun i hi' => ?_⟩, hρ⟩
  · rw [xW_get] at hq
    by_cases h1 : i < θ.length
    · by_cases h2 : i ∈ is
      · obtain ⟨j, hj⟩ := List.getElem?_of_mem h2
        have hjl : j < is.length := (List.getElem?_eq_some_iff.mp hj).1
        have hj' : j < θ'.length := by omega
        rw [hget1 j i _ hj (List.getElem?_eq_getElem hj')] at hq
        cases hq
        have h5 := hP1 j _ (xW_at (List.getElem?_eq_getElem hj'))
        rw [hρl j i hj] at h5
        show va_at D vwCl (xX ρ θ.length nw i, xC (xX ρ θ.length nw) τ (xEr (xS is θ.length) θ'[j])) H1
        rw [hold i h1, xC_xEr, hρ]
        exact h5
      · rw [hget2 i h1 h2, List.getElem?_eq_getElem h1] at hq
        cases hq
        show va_at D vwCl (xX ρ θ.length nw i, xC (xX ρ θ.length nw) τ θ[i]) H1
        rw [hold i h1, hcl i _ (List.getElem?_eq_getElem h1)]
        refine (h3 i _ (xW_at (List.getElem?_eq_getElem h1))).kept (hk _ (hltH i h1) (fun h => ?_))
        rcases h with ⟨j, e, hj⟩ | h
        · obtain ⟨i', i1, i2, i3⟩ := xWc_at hθ hσ hj
          have := (xD_iff.mp h4).1 i i' h1 (hin j i' i1) i2
          subst this
          exact h2 (List.mem_of_getElem? i1)
        · have := hltH i h1
          simp only at h
          omega
    · obtain ⟨j, rfl⟩ : ∃ j, i = θ.length + j := ⟨i - θ.length, by omega⟩
      rw [hget3 j] at hq
      cases hc : θ'[θc.length + j]? with
      | none => rw [hc] at hq; cases hq
      | some x =>
        rw [hc] at hq
        cases hq
        have h5 := hP1 _ _ (xW_at hc)
        show va_at D vwCl (xX ρ θ.length nw (θ.length + j), xC (xX ρ θ.length nw) τ (xEr (xS is θ.length) x)) H1
        rw [hρn j, xC_xEr, hρ]
        exact h5
  · rw [hlen2] at hi' hj'
    by_cases h1 : i < θ.length
    · by_cases h2 : j < θ.length
      · rw [hold i h1, hold j h2] at e
        exact (xD_iff.mp h4).1 i j h1 h2 e
      · obtain ⟨j', rfl⟩ : ∃ j', j = θ.length + j' := ⟨j - θ.length, by omega⟩
        have := (hnew j' (by omega)).1
        have := hltH i h1
        rw [hold i h1] at e
        omega
    · obtain ⟨i', rfl⟩ : ∃ i', i = θ.length + i' := ⟨i - θ.length, by omega⟩
      by_cases h2 : j < θ.length
      · have := (hnew i' (by omega)).1
        have := hltH j h2
        rw [hold j h2] at e
        omega
      · obtain ⟨j', rfl⟩ : ∃ j', j = θ.length + j' := ⟨j - θ.length, by omega⟩
        rw [hρn, hρn] at e
        have := (xD_iff.mp hD1).1 _ _ (by omega) (by omega) e
        omega
  · rw [hlen2] at hi'
    by_cases h1 : i < θ.length
    · rw [hold i h1]
      exact (xD_iff.mp h4).2 i h1
    · obtain ⟨i', rfl⟩ : ∃ i', i = θ.length + i' := ⟨i - θ.length, by omega⟩
      exact (hnew i' (by omega)).2
end CL
