section OPENJ
variable {I L : Nat → Nat → Int} {p q n : Nat} {K : Option fm_V → fm_S → Prop}
set_option maxRecDepth 20000 in
set_option maxHeartbeats 4000000 in
theorem j_text (h : Inv I L p q) (i : Nat) (hi : (i : Int) + 6 ≤ n) (hn : n ≤ 3072)
    (hK : ∀ (I' L' : Nat → Nat → Int) (p' q' : Nat), Inv I' L' p' q' → I' 500 = I 500 → fm_wp 140 (543, [some (.inr (.inr (some 500))), some (.inr (.inr (some 0))), some (.inr (.inr (some 55))), some (.inl (i : Int))], [], (I', L', fm_refs p' q', 96, n)) K) :
    fm_wp 140 (194, [some (.inr (.inr (some 500))), some (.inr (.inr (some 0))), some (.inr (.inr (some 55))), some (.inl (i : Int))], [], (I, L, fm_refs p q, 96, n)) K := by
  have h0 := h
  obtain ⟨hp, ⟨t1, t2, t3, t4⟩, h3, h4, h5, h6, h7, h8, h9, h10, h11, h12, h13, h14, h15⟩ := h
  have hi1 : (i : Int) + 1 < n := by omega
  have hi2 : (i : Int) + 2 < n := by omega
  have hi0 : 0 ≤ (i : Int) + 1 := by omega
  have hj0 : 0 ≤ (i : Int) + 2 := by omega
  have hx1 := h15 (i + 1)
  have hx2 := h15 (i + 2)
  sorry
end OPENJ
