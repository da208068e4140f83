/-! ===== small methods, each as one equivalence ===== -/
theorem lc_range (x y : Int) : -1 ≤ fm_lcmp x y ∧ fm_lcmp x y ≤ 1 := by
  unfold fm_lcmp
  split
  · omega
  · split <;> omega
theorem lc_wr (x y : Int) : wr (fm_lcmp x y) = fm_lcmp x y := by
  have := lc_range x y
  exact wr_id (by omega) (by omega)
theorem lc_lt {x y : Int} : (wr (fm_lcmp x y) < 0) = (wl x < wl y) := by
  rw [lc_wr]; unfold fm_lcmp
  apply propext
  split <;> (try split) <;> omega
theorem lc_le {x y : Int} : (wr (fm_lcmp x y) ≤ 0) = (wl x ≤ wl y) := by
  rw [lc_wr]; unfold fm_lcmp
  apply propext
  split <;> (try split) <;> omega
theorem lc_gt {x y : Int} : (0 < wr (fm_lcmp x y)) = (wl y < wl x) := by
  rw [lc_wr]; unfold fm_lcmp
  apply propext
  split <;> (try split) <;> omega
theorem lc_ge {x y : Int} : (0 ≤ wr (fm_lcmp x y)) = (wl y ≤ wl x) := by
  rw [lc_wr]; unfold fm_lcmp
  apply propext
  split <;> (try split) <;> omega
theorem lc_eq {x y : Int} : (wr (fm_lcmp x y) = 0) = (wl x = wl y) := by
  rw [lc_wr]; unfold fm_lcmp
  apply propext
  split <;> (try split) <;> omega
theorem one_ne_zero : ((1 : Int) = 0) = False := by simp
theorem fm_l2i_id {x : Int} (h1 : -2147483648 ≤ x) (h2 : x < 2147483648) : fm_l2i x = x := by
  unfold fm_l2i
  have h : (fm_l x).toInt32 = fm_i x := by
    unfold fm_l fm_i
    exact Int64.toInt32_ofInt ..
  rw [h]
  exact wr_id h1 h2
section LEAF
variable {I L : Nat → Nat → Int} {R : Nat → Nat → Option Nat} {p q na n : Nat} {K : Option fm_V → fm_S → Prop} {l1 l3 l5 : Option fm_V}
/-- in(v, low, high) -/
theorem c92 {v lo hi : Int} : fm_wp 92 (0, [some (.inr (.inl v)), none, some (.inr (.inl lo)), none, some (.inr (.inl hi)), none], [], (I, L, R, na, n)) K ↔ ((wl lo ≤ wl v ∧ wl v ≤ wl hi) → K (some (.inl 1)) (I, L, R, na, n)) ∧ (¬ (wl lo ≤ wl v ∧ wl v ≤ wl hi) → K (some (.inl 0)) (I, L, R, na, n)) := by
  simp only [q92_0, q92_1, q92_2, q92_3, q92_6, q92_7, q92_9, q92_10, q92_13, q92_14, q92_17, q92_18, lc_lt, lc_gt, true_and, or_true, true_or]
  by_cases h1 : wl v < wl lo
  · have : ¬ (wl lo ≤ wl v ∧ wl v ≤ wl hi) := by omega
    simp [h1, this]
  · by_cases h2 : wl hi < wl v
    · have : ¬ (wl lo ≤ wl v ∧ wl v ≤ wl hi) := by omega
      simp [h1, h2, this]
    · have : (wl lo ≤ wl v ∧ wl v ≤ wl hi) := by omega
      simp [h1, h2, this]
end LEAF
