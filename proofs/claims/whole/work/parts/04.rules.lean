/-! ===== one instruction at a time: how an end is reached, as equivalences ===== -/
section FMR
variable {y pc len a b : Nat} {ins : Instr} {k : Int} {ls : List (Option fm_V)} {st : List fm_V} {σ : fm_S} {K : Option fm_V → fm_S → Prop}
theorem wp_n {c' : fm_C} (hc : fm_code y pc = some (ins, len, a, b, k)) (hx : fm_exec ins len a b k pc ls st σ = some (.inl c')) : fm_wp y (pc, ls, st, σ) K ↔ fm_wp y c' K :=
  fm_wp_next (by show fm_step y (pc, ls, st, σ) = _; unfold fm_step; rw [hc]; exact hx)
theorem wp_if {c' : fm_C} {A : Prop} (hc : fm_code y pc = some (ins, len, a, b, k)) (d : Decidable A) (hx : fm_exec ins len a b k pc ls st σ = if A then some (.inl c') else none) : fm_wp y (pc, ls, st, σ) K ↔ A ∧ fm_wp y c' K := by
  by_cases h : A
  · rw [if_pos h] at hx
    exact (wp_n hc hx).trans ⟨fun q => ⟨h, q⟩, fun q => q.2⟩
  · rw [if_neg h] at hx
    refine ⟨fun q => absurd q (fm_wp_stuck (by show fm_step y (pc, ls, st, σ) = _; unfold fm_step; rw [hc]; exact hx)), fun q => absurd q.1 h⟩
theorem wp_ifT {c' : fm_C} {A B : Prop} (hc : fm_code y pc = some (ins, len, a, b, k)) (d : Decidable (A ∧ B)) (hx : fm_exec ins len a b k pc ls st σ = if A ∧ B then some (.inl c') else none) (hA : A) : fm_wp y (pc, ls, st, σ) K ↔ B ∧ fm_wp y c' K :=
  (wp_if hc d hx).trans ⟨fun q => ⟨q.1.2, q.2⟩, fun q => ⟨⟨hA, q.1⟩, q.2⟩⟩
theorem wp_br {A : Prop} {d0 : Decidable A} {t f : Nat} {B : Bool} (hc : fm_code y pc = some (ins, len, a, b, k)) (ls' : List (Option fm_V)) (st' : List fm_V) (σ' : fm_S) (hx : fm_exec ins len a b k pc ls st σ = some (.inl (if B = true then t else f, ls', st', σ'))) (hB : B = true ↔ A) : fm_wp y (pc, ls, st, σ) K ↔ (A → fm_wp y (t, ls', st', σ') K) ∧ (¬ A → fm_wp y (f, ls', st', σ') K) := by
  rw [wp_n hc hx]
  by_cases h : A
  · rw [if_pos (hB.mpr h)]
    exact ⟨fun q => ⟨fun _ => q, fun n => absurd h n⟩, fun q => q.1 h⟩
  · rw [if_neg (fun n => h (hB.mp n))]
    exact ⟨fun q => ⟨fun n => absurd n h, fun _ => q⟩, fun q => q.2 h⟩
theorem wp_rt {q : Option fm_V × fm_S} (hc : fm_code y pc = some (ins, len, a, b, k)) (hx : fm_exec ins len a b k pc ls st σ = some (.inr (.inl q))) : fm_wp y (pc, ls, st, σ) K ↔ K q.1 q.2 :=
  fm_wp_ret (by show fm_step y (pc, ls, st, σ) = _; unfold fm_step; rw [hc]; exact hx)
theorem wp_rz {x : Int} (hc : fm_code y pc = some (.ireturn, len, 1, b, k)) : fm_wp y (pc, ls, [.inl x], σ) K ↔ (x = 0 ∨ x = 1) ∧ K (some (.inl x)) σ := by
  by_cases h : x = 0 ∨ x = 1
  · refine (fm_wp_ret (q := (some (.inl x), σ)) ?_).trans ⟨fun q => ⟨h, q⟩, fun q => q.2⟩
    show fm_step y (pc, ls, [.inl x], σ) = _
    unfold fm_step
    rw [hc]
    simp [fm_exec, h]
  · refine ⟨fun q => absurd q (fm_wp_stuck ?_), fun q => absurd q.1 h⟩
    show fm_step y (pc, ls, [.inl x], σ) = _
    unfold fm_step
    rw [hc]
    simp [fm_exec]
    omega
end FMR
section FMR2
variable {y pc len a b : Nat} {k : Int} {ls : List (Option fm_V)} {st : List fm_V} {I L : Nat → Nat → Int} {R : Nat → Nat → Option Nat} {na n : Nat} {K : Option fm_V → fm_S → Prop}
/-- what a callee that makes nothing leaves of the room -/
def fm_same (na n : Nat) (τ : fm_S) : Prop := τ.2.2.2 = (na, n)
theorem fm_same_self : fm_same na n (I, L, R, na, n) = True := eq_true rfl
theorem fm_gr_same {z : Nat} {τ : fm_S} (h : fm_dna z = 0) (h2 : fm_dsl z = 0) : fm_gr z (I, L, R, na, n) τ ↔ fm_same na n τ := by
  unfold fm_gr fm_same
  rw [h, h2]
  obtain ⟨t1, t2, t3, t4, t5⟩ := τ
  simp only [Nat.add_zero, Prod.mk.injEq]
  constructor
  · intro q; exact ⟨q.1, q.2.2⟩
  · intro q; exact ⟨q.1, by rw [q.1], q.2⟩
/-- a static call of a method that makes nothing -/
theorem wp_cs {as rest : List fm_V} {ent : List (Option fm_V)} {z idx : Nat} (hc : fm_code y pc = some (.invokestatic idx, 3, z, 0, 0)) (hst : st = as.reverse ++ rest) (hn : as.length = fm_nar z) (hr : rest.length ≤ 4) (h1 : fm_dna z = 0) (h2 : fm_dsl z = 0) (he : fm_ent z as = ent) (hl : (fm_sl as).length ≤ fm_maxL z) : fm_wp y (pc, ls, st, (I, L, R, na, n)) K ↔ fm_wp z (0, ent, [], (I, L, R, na, n)) (fun r τ => fm_same na n τ ∧ fm_wp y (pc + 3, ls, r.toList ++ rest, τ) K) := by
  subst he
  subst hst
  have e1 : List.take (fm_nar z) (as.reverse ++ rest) = as.reverse := by rw [← hn, ← List.length_reverse]; exact List.take_left
  have e2 : List.drop (fm_nar z) (as.reverse ++ rest) = rest := by rw [← hn, ← List.length_reverse]; exact List.drop_left
  refine (fm_wp_call (z := z) (as := as) (c' := (pc + 3, ls, rest, (I, L, R, na, n))) ?_).trans ?_
  · show fm_step y (pc, ls, as.reverse ++ rest, (I, L, R, na, n)) = _
    unfold fm_step
    rw [hc]
    show fm_call 2 pc z 0 ls (as.reverse ++ rest) (I, L, R, na, n) = _
    unfold fm_call
    simp only [e1, e2, List.reverse_reverse]
    rw [if_pos]
    refine ⟨by simp [hn], hr, rfl, hl⟩
  · constructor
    · exact fun q => fm_wp_mono q (fun r τ g => ⟨(fm_gr_same h1 h2).mp g.1, g.2⟩)
    · exact fun q => fm_wp_mono q (fun r τ g => ⟨(fm_gr_same h1 h2).mpr g.1, g.2⟩)
/-- a virtual call of a method that makes nothing -/
theorem wp_cv {as rest : List fm_V} {ent : List (Option fm_V)} {z idx o : Nat} {own : Nat} (hc : fm_code y pc = some (.invokevirtual idx, 3, z, 0, 0)) (hst : st = as.reverse ++ .inr (.inr (some o)) :: rest) (hn : as.length + 1 = fm_nar z) (hr : rest.length ≤ 4) (h1 : fm_dna z = 0) (h2 : fm_dsl z = 0) (ho : fm_own z = own) (he : fm_ent z (.inr (.inr (some o)) :: as) = ent) (hl : (fm_sl ((.inr (.inr (some o)) : fm_V) :: as)).length ≤ fm_maxL z) : fm_wp y (pc, ls, st, (I, L, R, na, n)) K ↔ fm_obj (I, L, R, na, n) o = some own ∧ fm_wp z (0, ent, [], (I, L, R, na, n)) (fun r τ => fm_same na n τ ∧ fm_wp y (pc + 3, ls, r.toList ++ rest, τ) K) := by
  subst he
  subst hst
  subst ho
  have e0 : as.reverse ++ (.inr (.inr (some o)) : fm_V) :: rest = ((.inr (.inr (some o)) : fm_V) :: as).reverse ++ rest := by simp
  have hn' : (((.inr (.inr (some o)) : fm_V) :: as).reverse).length = fm_nar z := by simp [hn]
  have e1 : List.take (fm_nar z) (as.reverse ++ (.inr (.inr (some o)) : fm_V) :: rest) = ((.inr (.inr (some o)) : fm_V) :: as).reverse := by rw [e0, ← hn']; exact List.take_left
  have e2 : List.drop (fm_nar z) (as.reverse ++ (.inr (.inr (some o)) : fm_V) :: rest) = rest := by rw [e0, ← hn']; exact List.drop_left
  have hlen : fm_nar z ≤ (as.reverse ++ (.inr (.inr (some o)) : fm_V) :: rest).length := by simp; omega
  have hs : fm_step y (pc, ls, as.reverse ++ (.inr (.inr (some o)) : fm_V) :: rest, (I, L, R, na, n)) = if fm_nar z ≤ (as.reverse ++ (.inr (.inr (some o)) : fm_V) :: rest).length ∧ rest.length ≤ 4 ∧ decide (fm_obj (I, L, R, na, n) o = some (fm_own z)) = true ∧ (fm_sl ((.inr (.inr (some o)) : fm_V) :: as)).length ≤ fm_maxL z then some (.inr (.inr (z, (.inr (.inr (some o)) : fm_V) :: as, (pc + 3, ls, rest, (I, L, R, na, n))))) else none := by
    show fm_step y (pc, ls, as.reverse ++ (.inr (.inr (some o)) : fm_V) :: rest, (I, L, R, na, n)) = _
    unfold fm_step
    rw [hc]
    show fm_call 0 pc z 0 ls (as.reverse ++ (.inr (.inr (some o)) : fm_V) :: rest) (I, L, R, na, n) = _
    unfold fm_call
    simp only [e1, e2, List.reverse_reverse]
    rfl
  by_cases h : fm_obj (I, L, R, na, n) o = some (fm_own z)
  · rw [if_pos ⟨hlen, hr, by simp [h], hl⟩] at hs
    refine (fm_wp_call hs).trans ?_
    constructor
    · exact fun q => ⟨h, fm_wp_mono q (fun r τ g => ⟨(fm_gr_same h1 h2).mp g.1, g.2⟩)⟩
    · exact fun q => fm_wp_mono q.2 (fun r τ g => ⟨(fm_gr_same h1 h2).mpr g.1, g.2⟩)
  · rw [if_neg (by simp [h])] at hs
    exact ⟨fun q => absurd q (fm_wp_stuck hs), fun q => absurd q.1 h⟩
theorem fm_nl_n : fm_nl none = true := rfl
theorem fm_nl_i {x : Int} : fm_nl (some (.inl x)) = true := rfl
theorem fm_nl_r {r : Option Nat} : fm_nl (some (.inr (.inr r))) = true := rfl
theorem fm_cl_s {α : Type} {I : Nat → Nat → α} {a : Nat} {f : Nat → α} : fm_cl I a f a = f := by simp [fm_cl]
theorem fm_cl_n {α : Type} {I : Nat → Nat → α} {a b : Nat} {f : Nat → α} (h : b ≠ a) : fm_cl I a f b = I b := by simp [fm_cl, h]
theorem fm_cl_cl {α : Type} {I : Nat → Nat → α} {a : Nat} {f g : Nat → α} : fm_cl (fm_cl I a f) a g = fm_cl I a g := by
  funext b
  by_cases h : b = a <;> simp [fm_cl, h]
theorem fm_pt_s {α : Type} {f : Nat → α} {k : Nat} {v : α} : fm_pt f k v k = v := by simp [fm_pt]
theorem fm_pt_n {α : Type} {f : Nat → α} {k j : Nat} {v : α} (h : j ≠ k) : fm_pt f k v j = f j := by simp [fm_pt, h]
end FMR2
/-! numbers -/
theorem wr_id {x : Int} (h1 : -2147483648 ≤ x) (h2 : x < 2147483648) : wr x = x := by
  unfold wr fm_i
  rw [Int32.toInt_ofInt]
  exact Int.bmod_eq_of_le (by rw [show ((Int32.size : Nat) : Int) = 4294967296 from rfl]; omega) (by rw [show ((Int32.size : Nat) : Int) = 4294967296 from rfl]; omega)
theorem wl_id {x : Int} (h1 : -9223372036854775808 ≤ x) (h2 : x < 9223372036854775808) : wl x = x := by
  unfold wl fm_l
  rw [Int64.toInt_ofInt]
  exact Int.bmod_eq_of_le (by rw [show ((Int64.size : Nat) : Int) = 18446744073709551616 from rfl]; omega) (by rw [show ((Int64.size : Nat) : Int) = 18446744073709551616 from rfl]; omega)
theorem fm_i_wr (x : Int) : fm_i (wr x) = fm_i x := by
  unfold wr fm_i
  exact Int32.ofInt_toInt _
theorem wr_lo (x : Int) : -2147483648 ≤ wr x := Int32.le_toInt _
theorem wr_hi (x : Int) : wr x < 2147483648 := Int32.toInt_lt _
theorem wr_wr (x : Int) : wr (wr x) = wr x := by unfold wr; rw [show fm_i (fm_i x).toInt = fm_i x from Int32.ofInt_toInt _]
