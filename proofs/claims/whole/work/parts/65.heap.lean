/-! ===== steps that read or write the heap ===== -/
section FMH
variable {E : fm_E} {σ τ : fm_S} {H H' : Heap} {o ci n : Nat}
theorem fm_obj_spec (h : fm_obj σ o = some ci) : o < σ.2.2.2.1 ∧ fm_shp[o]? = some (.inr ci) := by
  unfold fm_obj at h
  split at h
  · rename_i h1
    refine ⟨h1, ?_⟩
    revert h
    cases hq : fm_shp[o]? with
    | none => intro h; cases h
    | some q =>
      cases q with
      | inl q => intro h; cases h
      | inr q => intro h; cases h; rfl
  · cases h
theorem fm_arw_spec {ty : FieldType} (h : fm_arw σ o = some (ty, n)) : o < σ.2.2.2.1 ∧ fm_shp[o]? = some (.inl (ty, n)) := by
  unfold fm_arw at h
  split at h
  · rename_i h1
    refine ⟨h1, ?_⟩
    revert h
    cases hq : fm_shp[o]? with
    | none => intro h; cases h
    | some q =>
      cases q with
      | inl q => intro h; cases h; rfl
      | inr q => intro h; cases h
  · cases h
theorem fm_shp_lt {q : (FieldType × Nat) ⊕ Nat} (h : fm_shp[o]? = some q) : o < 96 := by
  have h1 := (List.getElem?_eq_some_iff.mp h).1
  rw [fm_shp_len] at h1
  exact h1
theorem fm_rho_in (h : o < 500) : fm_rho E o = E.2.2.1 + o := by unfold fm_rho; rw [if_pos h]
theorem fm_cell_obj (h : fm_shp[o]? = some (.inr ci)) : fm_cell E σ o = .inr (ci, fm_fsl E σ o ci) := by
  unfold fm_cell
  rw [List.getD_eq_getElem?_getD, h]
  rfl
theorem fm_cell_arr {ty : FieldType} (h : fm_shp[o]? = some (.inl (ty, n))) : fm_cell E σ o = fm_arc E σ o ty n := by
  unfold fm_cell
  rw [List.getD_eq_getElem?_getD, h]
  rfl
theorem fm_fget_congr {k : Nat} {ty : FieldType} (h1 : τ.1 o = σ.1 o) (h2 : τ.2.1 o = σ.2.1 o) (h3 : τ.2.2.1 o = σ.2.2.1 o) : fm_fget τ o k ty = fm_fget σ o k ty := by
  unfold fm_fget
  rw [h1, h2, h3]
theorem fm_cell_congr (h1 : τ.1 o = σ.1 o) (h2 : τ.2.1 o = σ.2.1 o) (h3 : τ.2.2.1 o = σ.2.2.1 o) : fm_cell E τ o = fm_cell E σ o := by
  unfold fm_cell
  cases fm_shp.getD o (.inr 0) with
  | inl q =>
    obtain ⟨ty, n⟩ := q
    show fm_arc E τ o ty n = fm_arc E σ o ty n
    unfold fm_arc
    rw [h1, h2]
  | inr ci =>
    show Sum.inr (ci, fm_fsl E τ o ci) = Sum.inr (ci, fm_fsl E σ o ci)
    unfold fm_fsl
    simp only [fm_fget_congr h1 h2 h3]
/-- one cell is written -/
theorem fm_Pic.write (hP : fm_Pic E σ H) (ho : o < σ.2.2.2.1) (h4 : τ.2.2.2 = σ.2.2.2) (hs : ∀ a, a ≠ o → τ.1 a = σ.1 a ∧ τ.2.1 a = σ.2.1 a ∧ τ.2.2.1 a = σ.2.2.1 a) (he : va_at E.1 fm_cls (E.2.2.1 + o, fm_cell E τ o) H') (hz : H'.size = H.size) (oq : ∀ q, q ≠ E.2.2.1 + o → H'[q]? = H[q]?) : fm_Pic E τ H' := by
  obtain ⟨p1, p2, p3, p4⟩ := hP
  refine ⟨by rw [h4]; exact p1, by rw [h4, hz]; exact p2, fun a ha => ?_, fun j hj => ?_⟩
  · rw [h4] at ha
    by_cases hao : a = o
    · subst hao; exact he
    · obtain ⟨g1, g2, g3⟩ := hs a hao
      rw [fm_cell_congr g1 g2 g3]
      exact (p3 a ha).kept (oq _ (by dsimp only; omega))
  · rw [h4] at hj
    rw [(hs 500 (by omega)).1]
    exact p4 j hj
/-- one cell comes -/
theorem fm_Pic.push (hP : fm_Pic E σ H) (h96 : σ.2.2.2.1 < 96) (he : va_at E.1 fm_cls (E.2.2.1 + σ.2.2.2.1, fm_cell E (fm_new σ) σ.2.2.2.1) H') (hz : H'.size = H.size + 1) (oq : ∀ q, q < H.size → H'[q]? = H[q]?) : fm_Pic E (fm_new σ) H' := by
  obtain ⟨p1, p2, p3, p4⟩ := hP
  refine ⟨by show σ.2.2.2.1 + 1 ≤ 96; omega, by show H'.size = E.2.2.1 + (σ.2.2.2.1 + 1); rw [hz, p2]; omega, fun a ha => ?_, fun j hj => ?_⟩
  · have ha : a < σ.2.2.2.1 + 1 := ha
    by_cases hao : a = σ.2.2.2.1
    · subst hao; exact he
    · have e1 : (fm_new σ).1 a = σ.1 a := fm_cl_n hao
      have e2 : (fm_new σ).2.1 a = σ.2.1 a := fm_cl_n hao
      have e3 : (fm_new σ).2.2.1 a = σ.2.2.1 a := fm_cl_n hao
      rw [fm_cell_congr e1 e2 e3]
      exact (p3 a (by omega)).kept (oq _ (by rw [p2]; dsimp only; omega))
  · have e1 : (fm_new σ).1 500 = σ.1 500 := fm_cl_n (by omega)
    rw [e1]
    exact p4 j hj
theorem fm_fsl_at {k : Nat} (hk : k < fm_nf ci) : (fm_fsl E σ o ci)[k]? = some (fm_v E (fm_fget σ o k (fm_fty ci k))) := by
  unfold fm_fsl
  rw [List.getElem?_map, List.getElem?_range hk]
  rfl
theorem fm_fsl_len : (fm_fsl E σ o ci).length = fm_nf ci := by
  unfold fm_fsl
  rw [List.length_map, List.length_range]
theorem fm_fsl_set {k : Nat} {v : fm_V} (hk : k < fm_nf ci) (h : ∀ j, j < fm_nf ci → fm_fget τ o j (fm_fty ci j) = if j = k then v else fm_fget σ o j (fm_fty ci j)) : (fm_fsl E σ o ci).set k (fm_v E v) = fm_fsl E τ o ci := by
  apply List.ext_getElem?
  intro j
  rw [List.getElem?_set, fm_fsl_len]
  by_cases hj : j < fm_nf ci
  · rw [fm_fsl_at hj, fm_fsl_at hj, h j hj]
    by_cases hkj : k = j
    · subst hkj; simp [hk]
    · rw [if_neg hkj, if_neg (fun q => hkj q.symm)]
  · rw [List.getElem?_eq_none (by rw [fm_fsl_len]; omega), List.getElem?_eq_none (by rw [fm_fsl_len]; omega)]
    by_cases hkj : k = j
    · subst hkj; exact absurd hk hj
    · rw [if_neg hkj]
theorem fm_one {q : Nat × va_E} (h : va_at E.1 fm_cls q H) : va_P E.1 fm_cls [q] H := by
  intro k x hk
  have hz : k < 1 := (List.getElem?_eq_some_iff.mp hk).1
  rw [show k = 0 by omega] at hk
  cases hk
  exact h
theorem fm_in_lays {c : Nat} (hc : c < 9) : ∀ w ∈ u_ws (fm_cnm c) (fm_clT c) (fm_nf c), w ∈ fm_big := by
  intro w hw
  unfold u_ws at hw
  obtain ⟨k, hk, rfl⟩ := List.mem_map.mp hw
  refine fm_bigOf (fm_lp_ok c hc k (List.mem_range.mp hk)) ?_
  unfold u_lay
  split <;> rfl
end FMH
