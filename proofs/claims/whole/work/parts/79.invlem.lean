theorem iv_ord_hand {m c nb : Int} {bs bi le nl st ha lr so lo : Nat → Int} (h : iv_ord m c nb bs bi le nl st ha lr so lo) : iv_ord m (c + 1) nb bs bi le nl st ha lr so lo := by
  obtain ⟨h1, h2, h3, h4⟩ := h
  refine ⟨h1, h2, fun o ho => ?_, h4⟩
  obtain ⟨g1, g2, g3, g4, g5, g6, g7⟩ := h3 o ho
  refine ⟨g1, g2, g3, g4, g5, g6, fun s hs => ?_⟩
  have := g7 s hs
  omega
theorem iv_rest_hand {c rd rs m : Int} {wb fb fr rb so sb dw dg cs : Nat → Int} (hrd : 1 ≤ rd) (h : iv_rest 0 c rd rs m wb fb fr rb so sb dw dg cs) : iv_rest 0 (c + 1) rd rs m wb fb fr rb so sb dw dg cs := by
  obtain ⟨wk, og, h1, h2, h3, h4, h5, h6⟩ := h
  refine ⟨wk, og, fun h t _ ht => absurd ht (by omega), fun h t _ ht => absurd ht (by omega), fun h t u _ _ hu => absurd hu (by omega), fun h h16 _ => ?_, h5, fun h t _ ht => absurd ht (by omega)⟩
  obtain ⟨g1, g2, g3, g4, g5⟩ := h5 rfl h h16
  have e : (0 - rd).toNat = 0 := by omega
  rw [e]
  exact ⟨g1, g2, g3, g4, g5⟩
theorem iv_crew_hand {c : Nat} {v u : Int} {w k s t f b wo pl ga le : Nat → Int} (h : iv_crew c w k s t f b wo pl ga le) (hc : c < 16) (hv : 0 ≤ v ∧ v ≤ 2) (hu : 0 ≤ u ∧ u ≤ 63) : iv_crew (c + 1) (fm_pt w c v) (fm_pt k c u) s t f b wo pl ga le := by
  obtain ⟨h1, h2, h3, h4, h5, h6, h7, h8⟩ := h
  refine ⟨by omega, by omega, fun h hh => ?_, h4, fun h hh => h5 h (by omega), fun j hj => h6 j (by omega), h7, h8⟩
  unfold fm_pt
  by_cases e : h = c
  · rw [if_pos e, if_pos e]; omega
  · rw [if_neg e, if_neg e]; exact h3 h (by omega)
