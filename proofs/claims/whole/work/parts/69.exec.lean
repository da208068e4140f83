section FME
variable {E : fm_E} {p : Program} {l : Launch} {e : Env} {R : Room} {s : State} {m : MethodId} {args : Array Value} {below : List Frame} {meth : Method} {cc : Code} {Q : State → Prop} {na0 n y pc : Nat} {lsA : List (Option fm_V)} {st : List fm_V} {σ : fm_S}
/-- what an instruction does to the room -/
theorem fm_fput_na {τ : fm_S} {o k : Nat} {ty : FieldType} {v : fm_V} (h : fm_fput σ o k ty v = some τ) : τ.2.2.2 = σ.2.2.2 := by
  unfold fm_fput at h
  split at h <;> (try (cases h; done)) <;> split at h <;> cases h <;> rfl
theorem fm_exec_na {ins : Instr} {len a b : Nat} {k : Int} {c' : fm_C} (h : fm_exec ins len a b k pc lsA st σ = some (.inl c')) : c'.2.2.2.2.2.2 = σ.2.2.2 ∨ (σ.2.2.2.1 < 96 ∧ c'.2.2.2.2.2.2 = (σ.2.2.2.1 + 1, σ.2.2.2.2)) := by
  unfold fm_exec at h
  split at h
  all_goals (try unfold fm_ild at h)
  all_goals (try unfold fm_lld at h)
  all_goals (try unfold fm_ald at h)
  all_goals (try unfold fm_ist at h)
  all_goals (try unfold fm_ast at h)
  all_goals (try unfold fm_bin at h)
  all_goals (try unfold fm_lbin at h)
  all_goals (try unfold fm_una at h)
  all_goals (try unfold fm_call at h)
  all_goals (repeat' split at h)
  all_goals (try unfold fm_st at h)
  all_goals (repeat' split at h)
  all_goals (try (cases h; done))
  all_goals (try (cases h; exact Or.inl rfl))
  · rename_i hp
    cases h
    exact Or.inl (fm_fput_na hp)
  · rename_i hp
    cases h
    exact Or.inr ⟨fm_shp_lt hp.1, rfl⟩
  · rename_i hp
    cases h
    exact Or.inr ⟨fm_shp_lt hp, rfl⟩
theorem fm_exec_ret {ins : Instr} {len a b : Nat} {k : Int} {q : Option fm_V × fm_S} (h : fm_exec ins len a b k pc lsA st σ = some (.inr (.inl q))) : q.2 = σ ∧ st = q.1.toList ∧ ((ins = .return_ ∧ q.1 = none) ∨ (ins = .ireturn ∧ ∃ x, q.1 = some (.inl x) ∧ (a = 0 ∨ x = 0 ∨ x = 1))) := by
  unfold fm_exec at h
  split at h
  all_goals (try unfold fm_ild at h)
  all_goals (try unfold fm_lld at h)
  all_goals (try unfold fm_ald at h)
  all_goals (try unfold fm_ist at h)
  all_goals (try unfold fm_ast at h)
  all_goals (try unfold fm_bin at h)
  all_goals (try unfold fm_lbin at h)
  all_goals (try unfold fm_una at h)
  all_goals (try unfold fm_call at h)
  all_goals (repeat' split at h)
  all_goals (try unfold fm_st at h)
  all_goals (repeat' split at h)
  all_goals (try (cases h; done))
  · rename_i hx
    cases h
    exact ⟨rfl, rfl, Or.inr ⟨rfl, _, rfl, hx⟩⟩
  · cases h
    exact ⟨rfl, rfl, Or.inl ⟨rfl, rfl⟩⟩
theorem fm_exec_call {ins : Instr} {len a b z : Nat} {k : Int} {as : List fm_V} {c' : fm_C} (h : fm_exec ins len a b k pc lsA st σ = some (.inr (.inr (z, as, c')))) : z = a ∧ c' = (pc + 3, lsA, st.drop (fm_nar a), σ) ∧ as = (st.take (fm_nar a)).reverse ∧ fm_nar a ≤ st.length ∧ (st.drop (fm_nar a)).length ≤ 4 ∧ (fm_sl as).length ≤ fm_maxL a ∧ b ≠ 1 ∧ b ≠ 2 ∧ ((∃ ix, ins = .invokevirtual ix ∧ fm_rcv 0 σ a as = true) ∨ (∃ ix, ins = .invokespecial ix ∧ fm_rcv 1 σ a as = true) ∨ ∃ ix, ins = .invokestatic ix) := by
  unfold fm_exec at h
  split at h
  all_goals (try unfold fm_ild at h)
  all_goals (try unfold fm_lld at h)
  all_goals (try unfold fm_ald at h)
  all_goals (try unfold fm_ist at h)
  all_goals (try unfold fm_ast at h)
  all_goals (try unfold fm_bin at h)
  all_goals (try unfold fm_lbin at h)
  all_goals (try unfold fm_una at h)
  all_goals (try unfold fm_call at h)
  all_goals (repeat' split at h)
  all_goals (try unfold fm_st at h)
  all_goals (repeat' split at h)
  all_goals (try (cases h; done))
  · rename_i h1 h2 h3 h4 hx
    cases h
    exact ⟨rfl, rfl, rfl, hx.1, hx.2.1, hx.2.2.2, h1, h2, Or.inl ⟨_, rfl, hx.2.2.1⟩⟩
  · rename_i h1 h2 h3 h4 hx
    cases h
    exact ⟨rfl, rfl, rfl, hx.1, hx.2.1, hx.2.2.2, h1, h2, Or.inr (Or.inl ⟨_, rfl, hx.2.2.1⟩)⟩
  · rename_i h1 h2 h3 h4 hx
    cases h
    exact ⟨rfl, rfl, rfl, hx.1, hx.2.1, hx.2.2.2, h1, h2, Or.inr (Or.inr ⟨_, rfl⟩)⟩
theorem fm_step_row {c : fm_C} {o : fm_O} (h : fm_step y c = some o) : ∃ (ins : Instr) (len a b : Nat) (k : Int), fm_code y c.1 = some (ins, len, a, b, k) ∧ fm_exec ins len a b k c.1 c.2.1 c.2.2.1 c.2.2.2 = some o := by
  unfold fm_step at h
  split at h
  · rename_i ins len a b k hc
    exact ⟨ins, len, a, b, k, hc, h⟩
  · cases h
theorem fm_run_na : ∀ (N y : Nat) (c : fm_C) (r : Option fm_V × fm_S), fm_run N y c = some r → c.2.2.2.2.2.2.1 ≤ r.2.2.2.2.1 ∧ (c.2.2.2.2.2.2.1 ≤ 96 → r.2.2.2.2.1 ≤ 96) ∧ r.2.2.2.2.2 = c.2.2.2.2.2.2.2 := by
  intro N
  induction N with
  | zero => intro y c r h; simp [fm_run] at h
  | succ N ih =>
    intro y c r h
    rw [fm_run] at h
    cases hs : fm_step y c with
    | none => rw [hs] at h; cases h
    | some o =>
      rw [hs] at h
      obtain ⟨ins, len, a, b, k, hc, hx⟩ := fm_step_row hs
      match o, h, hx with
      | .inl c', h, hx =>
        have h1 := ih y c' r h
        rcases fm_exec_na hx with h2 | ⟨h0, h2⟩
        · rw [h2] at h1; exact h1
        · rw [h2] at h1
          exact ⟨Nat.le_trans (Nat.le_succ _) h1.1, fun q => h1.2.1 (by show c.2.2.2.2.2.2.1 + 1 ≤ 96; omega), h1.2.2⟩
      | .inr (.inl q), h, hx =>
        cases h
        rw [(fm_exec_ret hx).1]
        exact ⟨Nat.le_refl _, fun q => q, rfl⟩
      | .inr (.inr (z, as, c')), h, hx =>
        obtain ⟨-, g2, -⟩ := fm_exec_call hx
        subst g2
        dsimp only at h
        cases hz : fm_run N z (0, fm_ent z as, [], c.2.2.2) with
        | none => rw [hz] at h; cases h
        | some q =>
          rw [hz] at h
          dsimp only at h
          split at h
          · have h1 := ih _ _ _ hz
            have h2 := ih _ _ _ h
            dsimp only at h1 h2
            exact ⟨Nat.le_trans h1.1 h2.1, fun g => h2.2.1 (h1.2.1 g), h2.2.2.trans h1.2.2⟩
          · cases h
end FME
