def zI : Nat → Int := fun _ => 0
def zR : Nat → Option Nat := fun _ => none
section NEWR
variable {y pc : Nat} {ls : List (Option fm_V)} {st : List fm_V} {I L : Nat → Nat → Int} {R : Nat → Nat → Option Nat} {na n : Nat} {K : Option fm_V → fm_S → Prop}
theorem wp_new {ix a : Nat} (hc : fm_code y pc = some (.new ix, 3, a, 0, 0)) (hs : fm_shp[na]? = some (.inr a)) : fm_wp y (pc, ls, st, (I, L, R, na, n)) K ↔ fm_wp y (pc + 3, ls, .inr (.inr (some na)) :: st, (fm_cl I na zI, fm_cl L na zI, fm_cl R na zR, na + 1, n)) K :=
  wp_n (c' := (pc + 3, ls, .inr (.inr (some na)) :: st, fm_new (I, L, R, na, n))) hc (if_pos hs)
theorem wp_newa {t : ArrayType} {k : Int} (hc : fm_code y pc = some (.newarray t, 2, 0, 0, 0)) (hs : fm_shp[na]? = some (.inl (newarray.typeOf t, k.toNat))) (h0 : 0 ≤ k) (h1 : k < 2147483648) : fm_wp y (pc, ls, .inl k :: st, (I, L, R, na, n)) K ↔ fm_wp y (pc + 2, ls, .inr (.inr (some na)) :: st, (fm_cl I na zI, fm_cl L na zI, fm_cl R na zR, na + 1, n)) K :=
  wp_n (c' := (pc + 2, ls, .inr (.inr (some na)) :: st, fm_new (I, L, R, na, n))) hc (if_pos ⟨hs, h0, h1, (wr_id (by omega) h1).symm⟩)
theorem wp_ww {ix r : Nat} {v : Int} (hc : fm_code y pc = some (.invokestatic ix, 3, 69, 2, 0)) (hw : fm_worth r = some v) (hl : st.length ≤ 4) : fm_wp y (pc, ls, .inr (.inr (some r)) :: st, (I, L, R, na, n)) K ↔ fm_wp y (pc + 3, ls, .inr (.inl v) :: st, (I, L, R, na, n)) K :=
  wp_n (c' := (pc + 3, ls, .inr (.inl v) :: st, (I, L, R, na, n))) hc (by simp [fm_exec, fm_call, hw, hl])
/-- a constructor's call -/
theorem wp_ci {as rest : List fm_V} {ent : List (Option fm_V)} {z ix o b : Nat} (hc : fm_code y pc = some (.invokespecial ix, 3, z, b, 0)) (hb : b = 0 ∨ b = 3) (hst : st = as.reverse ++ .inr (.inr (some o)) :: rest) (hn : as.length + 1 = fm_nar z) (hr : rest.length ≤ 4) (he : fm_ent z (.inr (.inr (some o)) :: as) = ent) (hl : (fm_sl ((.inr (.inr (some o)) : fm_V) :: as)).length ≤ fm_maxL z) : fm_wp y (pc, ls, st, (I, L, R, na, n)) K ↔ fm_wp z (0, ent, [], (I, L, R, na, n)) (fun r τ => fm_gr z (I, L, R, na, n) τ ∧ fm_wp y (pc + 3, ls, r.toList ++ rest, τ) K) := by
  subst he
  subst hst
  have e0 : as.reverse ++ (.inr (.inr (some o)) : fm_V) :: rest = ((.inr (.inr (some o)) : fm_V) :: as).reverse ++ rest := by simp
  have hn' : (((.inr (.inr (some o)) : fm_V) :: as).reverse).length = fm_nar z := by simp [hn]
  have e1 : List.take (fm_nar z) (as.reverse ++ (.inr (.inr (some o)) : fm_V) :: rest) = ((.inr (.inr (some o)) : fm_V) :: as).reverse := by rw [e0, ← hn']; exact List.take_left
  have e2 : List.drop (fm_nar z) (as.reverse ++ (.inr (.inr (some o)) : fm_V) :: rest) = rest := by rw [e0, ← hn']; exact List.drop_left
  have hlen : fm_nar z ≤ (as.reverse ++ (.inr (.inr (some o)) : fm_V) :: rest).length := by simp; omega
  refine fm_wp_call (z := z) (as := .inr (.inr (some o)) :: as) (c' := (pc + 3, ls, rest, (I, L, R, na, n))) ?_
  show fm_step y (pc, ls, as.reverse ++ (.inr (.inr (some o)) : fm_V) :: rest, (I, L, R, na, n)) = _
  unfold fm_step
  rw [hc]
  show fm_call 1 pc z b ls (as.reverse ++ (.inr (.inr (some o)) : fm_V) :: rest) (I, L, R, na, n) = _
  rcases hb with rfl | rfl
  all_goals
    unfold fm_call
    simp only [e1, e2, List.reverse_reverse]
    rw [if_pos]
    exact ⟨hlen, hr, rfl, hl⟩
end NEWR
