section FMR3
variable {y pc : Nat} {ls : List (Option fm_V)} {st : List fm_V} {I L : Nat → Nat → Int} {R : Nat → Nat → Option Nat} {na n : Nat} {K : Option fm_V → fm_S → Prop}
theorem wp_al {o : Nat} {ty : FieldType} {q : Nat} (hc : fm_code y pc = some (.arraylength, 1, 0, 0, 0)) (h : fm_arr (I, L, R, na, n) o = some (ty, q)) : fm_wp y (pc, ls, .inr (.inr (some o)) :: st, (I, L, R, na, n)) K ↔ fm_wp y (pc + 1, ls, .inl (q : Int) :: st, (I, L, R, na, n)) K :=
  wp_n hc (by simp [fm_exec, h])
theorem wp_bs {o : Nat} {i x : Int} (hc : fm_code y pc = some (.bastore, 1, 0, 0, 0)) : fm_wp y (pc, ls, .inl x :: .inl i :: .inr (.inr (some o)) :: st, (I, L, R, na, n)) K ↔ (fm_inB (fm_arw (I, L, R, na, n) o) .boolean i = true → fm_wp y (pc + 1, ls, st, (fm_cl I o (fm_pt (I o) (wr i).toNat (fm_nrw .boolean x)), L, R, na, n)) K) ∧ (¬ fm_inB (fm_arw (I, L, R, na, n) o) .boolean i = true → fm_inB (fm_arw (I, L, R, na, n) o) .byte i = true ∧ fm_wp y (pc + 1, ls, st, (fm_cl I o (fm_pt (I o) (wr i).toNat (fm_nrw .byte x)), L, R, na, n)) K) := by
  by_cases h1 : fm_inB (fm_arw (I, L, R, na, n) o) .boolean i = true
  · refine (wp_n (ls := ls) (st := .inl x :: .inl i :: .inr (.inr (some o)) :: st) (σ := (I, L, R, na, n)) (c' := (pc + 1, ls, st, fm_wI (I, L, R, na, n) o (wr i).toNat (fm_nrw .boolean x))) hc (if_pos h1)).trans ⟨fun q => ⟨fun _ => q, fun g => absurd h1 g⟩, fun q => q.1 h1⟩
  · by_cases h2 : fm_inB (fm_arw (I, L, R, na, n) o) .byte i = true
    · refine (wp_n (ls := ls) (st := .inl x :: .inl i :: .inr (.inr (some o)) :: st) (σ := (I, L, R, na, n)) (c' := (pc + 1, ls, st, fm_wI (I, L, R, na, n) o (wr i).toNat (fm_nrw .byte x))) hc ((if_neg h1).trans (if_pos h2))).trans ⟨fun q => ⟨fun g => absurd g h1, fun _ => ⟨h2, q⟩⟩, fun q => (q.2 h1).2⟩
    · refine ⟨fun q => absurd q (fm_wp_stuck ?_), fun q => absurd (q.2 h1).1 h2⟩
      show fm_step y (pc, ls, .inl x :: .inl i :: .inr (.inr (some o)) :: st, (I, L, R, na, n)) = _
      unfold fm_step
      rw [hc]
      exact (if_neg h1).trans (if_neg h2)
theorem nrw_0 : fm_nrw .boolean 0 = 0 := by decide
theorem nrw_1 : fm_nrw .boolean 1 = 1 := by decide
/-- a counted loop: P k holds at its head with the counter k, for k up to N -/
theorem wp_for {σ : Type} (N : Nat) (W : Nat → σ → Prop) (P : Nat → σ → Prop) (hb : ∀ k s, k < N → P k s → (∀ s', P (k + 1) s' → W (k + 1) s') → W k s) (he : ∀ s, P N s → W N s) : ∀ k s, k ≤ N → P k s → W k s := by
  have h : ∀ d k s, k + d = N → P k s → W k s := by
    intro d
    induction d with
    | zero => intro k s hk hp; have : k = N := by omega
              subst this; exact he s hp
    | succ d ih => intro k s hk hp; exact hb k s (by omega) hp (fun s' hs' => ih (k + 1) s' (by omega) hs')
  intro k s hk hp
  exact h (N - k) k s (by omega) hp
end FMR3
