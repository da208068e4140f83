section FMR3
variable {y pc : Nat} {ls : List (Option fm_V)} {st : List fm_V} {I L : Nat → Nat → Int} {R : Nat → Nat → Option Nat} {na n : Nat} {K : Option fm_V → fm_S → Prop}
theorem wp_al {o : Nat} {ty : FieldType} {q : Nat} (hc : fm_code y pc = some (.arraylength, 1, 0, 0, 0)) (h : fm_arr (I, L, R, na, n) o = some (ty, q)) : fm_wp y (pc, ls, .inr (.inr (some o)) :: st, (I, L, R, na, n)) K ↔ fm_wp y (pc + 1, ls, .inl (q : Int) :: st, (I, L, R, na, n)) K :=
  wp_n hc (by simp [fm_exec, h])
/-- a counted loop: P k holds at its head with the counter k, for k up to N -/
theorem wp_for {σ : Type} (N : Nat) (W : Nat → σ → Prop) (P : Nat → σ → Prop) (hb : ∀ k s, k < N → P k s → (∀ s', P (k + 1) s' → W (k + 1) s') → W k s) (he : ∀ s, P N s → W N s) : ∀ k s, k ≤ N → P k s → W k s := by
  have h : ∀ d k s, k + d = N → P k s → W k s := by
    intro d
    induction d with
    | zero => intro k s hk hp; have : k = N := by omega
              subst this; exact he s hp
    | succ d ih => intro k s hk hp; exact hb k s (by omega) hp (fun s' hs' => ih (k + 1) s' (by omega) hs')
  intro k s hk hp
  exact h (N - k) k s (by omega) hp
end FMR3
