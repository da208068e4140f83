theorem inv_text_f {I L J M : Nat → Nat → Int} {p q : Nat} (h : Inv I L p q) (c : ∀ x, x ≠ 0 → x ≠ 1 → x ≠ 3 → x < q ∨ q + 5 < x → x ≠ 55 → x < 57 ∨ 64 < x → J x = I x) (c0 : ∀ j, j < 9 → J 0 j = I 0 j) (j1 : J 1 1 = 0) (j55 : J 55 1 = 0) (j9 : J 0 9 = J 55 9) (j10 : J 0 10 = J 55 10) (c55 : ∀ j, 19 < j → J 55 j = I 55 j) (m5 : M 5 = L 5) : Inv J M p q := by
  obtain ⟨hp, ⟨t1, t2, t3, t4⟩, h3, h4, h5, h6, h7, h8, h9, h10, h11, h12, h13, h14, h15⟩ := h
  unfold Inv
  simp (disch := omega) only [c, c0, c55]
  refine ⟨hp, ⟨by omega, by omega, by omega, t4⟩, ⟨j9.symm, j10.symm⟩, h4, h5, h6, h7, h8, h9, h10, h11, h12, h13, ?_, h15⟩
  rw [m5]; exact h14
theorem fl_lo {n h : Nat} {v : Int} {f : Nat → Int} (hh : h < n) : fl n v f h = v := by
  unfold fl; rw [if_pos hh]
theorem fl_hi {n h : Nat} {v : Int} {f : Nat → Int} (hh : n ≤ h) : fl n v f h = f h := by
  unfold fl; rw [if_neg (by omega)]
theorem fl_in {n h : Nat} {f : Nat → Int} {P : Int → Prop} (h0 : P 0) (h1 : P (f h)) : P (fl n 0 f h) := by
  by_cases e : h < n
  · rw [fl_lo e]; exact h0
  · rw [fl_hi (by omega)]; exact h1
theorem fl_ze {n h : Nat} {f : Nat → Int} (h1 : n ≤ h → f h = 0) : fl n 0 f h = 0 := by
  by_cases e : h < n
  · rw [fl_lo e]
  · rw [fl_hi (by omega)]; exact h1 (by omega)
theorem inv_text_s {I L J M : Nat → Nat → Int} {p q : Nat} {x y : PL} (h : Inv I L p q) (hx : PV x) (hxy : PE x y) (hC : CSt J M q x)
    (c : ∀ x, x ≠ 0 → x ≠ 1 → x ≠ 3 → x < q ∨ q + 5 < x → x < 9 ∨ (18 < x ∧ x < 25) ∨ (25 < x ∧ x < 33) ∨ x = 34 ∨ 39 < x → x ≠ 55 → x < 57 ∨ (69 < x ∧ x < 72) ∨ 79 < x → J x = I x)
    (j8 : J 0 8 = 0) (j9 : J 0 9 = 0) (j10 : J 0 10 = -1) (j1 : J 1 1 = 0) (m5 : M 5 = L 5)
    (u : J 9 = fl 16 0 (I 9) ∧ J 10 = fl 16 0 (I 10) ∧ J 11 = fl 16 0 (I 11) ∧ J 12 = fl 16 0 (I 12) ∧ J 13 = fl 16 0 (I 13) ∧ J 14 = fl 16 0 (I 14) ∧ J 15 = fl 16 (-1) (I 15) ∧ J 16 = fl 16 (-1) (I 16) ∧ J 17 = fl 96 0 (I 17) ∧ J 18 = fl 16 0 (I 18)) (j25 : J 25 0 = 0)
    (v : J 35 = fl 16 0 (I 35) ∧ J 36 = fl 16 0 (I 36) ∧ J 37 = fl 16 (-1) (I 37) ∧ J 38 = fl 16 (-1) (I 38) ∧ J 39 = fl 16 (-1) (I 39) ∧ J 33 9 = 0)
    (k37 : J 55 37 = I 55 37) (k1 : J 55 1 = 0) (k9 : J 55 9 = 0) (k10 : J 55 10 = -1)
    (k : J 55 24 = y.1.1 ∧ J 55 27 = y.2.1.1 ∧ J 55 28 = y.2.1.2.1 ∧ J 55 29 = y.2.1.2.2 ∧ J 55 30 = y.2.2.1 3 ∧ J 55 31 = y.2.2.1 4 ∧ J 55 32 = y.2.2.1 5 ∧ J 55 33 = y.2.2.2.1.1 ∧ J 55 50 = 0 ∧ J 55 51 = 0 ∧ J 55 57 = 0)
    (w : J 65 = up 12 y.1.2.1 (I 65) ∧ J 66 = up 12 y.1.2.2 (I 66) ∧ J 67 = up 8 y.2.2.2.1.2.2.1 (I 67) ∧ J 68 = up 8 y.2.2.2.1.2.2.2.1 (I 68) ∧ J 69 = up 96 y.2.2.2.1.2.2.2.2 (I 69))
    (r : J 78 = fl 96 0 (I 78) ∧ J 72 = fl 16 0 (I 72) ∧ J 73 = fl 16 0 (I 73) ∧ J 74 = fl 16 0 (I 74) ∧ J 75 = fl 16 0 (I 75) ∧ J 76 = fl 16 0 (I 76) ∧ J 77 = fl 16 0 (I 77) ∧ J 79 = fl 16 0 (I 79)) : Inv J M q p := by
  obtain ⟨hp, ⟨t1, t2, t3, t4⟩, h3, h4, h5, h6, h7, h8, h9, h10, h11, h12, h13, h14, h15⟩ := h
  obtain ⟨u9, u10, u11, u12, u13, u14, u15, u16, u17, u18⟩ := u
  obtain ⟨v35, v36, v37, v38, v39, v33⟩ := v
  obtain ⟨k24, k27, k28, k29, k30, k31, k32, k33, k50, k51, k57⟩ := k
  obtain ⟨w65, w66, w67, w68, w69⟩ := w
  obtain ⟨r78, r72, r73, r74, r75, r76, r77, r79⟩ := r
  obtain ⟨e1, e2, e3, e4, e5, e6, e7, e8, e9, e10, e11⟩ := h8
  obtain ⟨o1, o2, o3, o4, o5, o6⟩ := h11
  obtain ⟨d1, d2, d3, d4, d5, d6⟩ := h13
  obtain ⟨⟨a1, a2, a3, a4⟩, ⟨a5, a6, a7⟩, a8, ⟨a9, a10, a11, a12, a13⟩, -⟩ := hC
  obtain ⟨⟨b1, b2, b3⟩, b4, b5, b6, b7⟩ := hx
  obtain ⟨⟨g1, g2⟩, g3, g4, ⟨g5, g6⟩, -⟩ := hxy
  obtain ⟨c1, c2, c3, c4, c5, c6, c7, c8⟩ := h7
  have a83 := a8 3 (by omega) (by omega)
  have a84 := a8 4 (by omega) (by omega)
  have a85 := a8 5 (by omega) (by omega)
  have g43 := g4 3 (by omega) (by omega)
  have g44 := g4 4 (by omega) (by omega)
  have g45 := g4 5 (by omega) (by omega)
  have g31 : x.2.1.1 = y.2.1.1 := by rw [g3]
  have g32 : x.2.1.2.1 = y.2.1.2.1 := by rw [g3]
  have g33 : x.2.1.2.2 = y.2.1.2.2 := by rw [g3]
  simp only [Nat.reduceAdd] at a83 a84 a85
  unfold Inv
  simp (disch := omega) only [c]
  rw [a3, a4, a11, a12, a13, a1, a2, a5, a6, a7, a9, a83, a84, a85, k24, k27, k28, k29, k30, k31, k32, k33, k50, k51, k57, j8, j9, j10, j1, j25, v33, k37, k1, k9, k10, u9, u10, u11, u12, u13, u14, u15, u16, u17, u18, v35, v36, v37, v38, v39, w65, w66, w67, w68, w69, r72, r73, r74, r75, r76, r77, r78, r79, e1, e2, e3, e4, e5, e6, e7, e8, e9, e10, e11, o2, o3, o4, o5, o6, d4, d5, d6, m5]
  refine ⟨by omega, ⟨by omega, by omega, rfl, t4⟩, ⟨rfl, rfl⟩, ?_, ⟨by omega, g31.symm, g32.symm, g33.symm, by omega, g43.symm, g44.symm, g45.symm⟩, ?_, ?_, ⟨rfl, rfl, rfl, rfl, rfl, rfl, rfl, rfl, rfl, rfl, rfl⟩, ⟨rfl, by omega, by omega⟩, ?_, ⟨rfl, rfl, rfl, rfl, rfl, rfl⟩, ?_, ⟨rfl, by omega, by omega, rfl, rfl, rfl⟩, h14, h15⟩
  · refine ⟨⟨by omega, by omega, by rw [Int.toNat_natCast], fun k hk => b3 k (by omega)⟩, b4, ⟨by omega, by omega, fun b hb => ?_⟩, b5⟩
    obtain ⟨-, z1, z2, z3⟩ := b7 b (by omega)
    exact ⟨z1.1, z1.2, z2.1, z2.2, z3⟩
  · refine ⟨fun k hk => ?_, fun b hb => ?_⟩
    · have := g2 k (by omega)
      unfold up
      rw [if_pos (by omega), if_pos (by omega)]
      exact ⟨this.1.symm, this.2.symm⟩
    · obtain ⟨-, z1, z2, z3⟩ := g6 b (by omega)
      obtain ⟨-, z4, z5, z6⟩ := b7 b (by omega)
      unfold up
      rw [if_pos (by omega), if_pos (by omega)]
      refine ⟨z1.symm, z2.symm, fun s hs => ?_⟩
      rw [if_pos (by omega)]
      exact (z3 s hs).symm
  · refine ⟨c1, c2, c3, fun h => fl_in (P := fun z => 0 ≤ z ∧ z ≤ 480) (by omega) (c4 h), fun h hh => ?_, fun j hj => ?_, fun h => fl_in (P := fun z => z = 0 ∨ z = 1) (by omega) (c7 h), fun h => fl_in (P := fun z => 0 ≤ z ∧ z ≤ 15) (by omega) (c8 h)⟩
    · obtain ⟨z1, z2, z3, z4, z5, z6⟩ := c5 h hh
      exact ⟨fl_ze fun _ => z1, fl_ze fun _ => z2, fl_ze fun _ => z3, fl_ze fun _ => z4, fl_ze fun _ => z5, fl_ze fun _ => z6⟩
    · exact fl_ze fun _ => c6 j hj
  · exact ⟨by omega, by omega, fun o ho => absurd ho (by omega), fun o s ho => absurd ho (by omega), fun h h16 => ⟨Or.inl (fl_lo h16), Or.inl (fl_lo h16)⟩⟩
  · refine ⟨fun _ _ => false, fun _ _ => -1, fun h t _ ht => absurd ht (by omega), fun h t _ ht => absurd ht (by omega), fun h t u _ _ hu => absurd hu (by omega), fun h h16 _ => ⟨?_, ?_, ?_, ?_, ?_⟩, fun _ h h16 => ⟨fl_lo h16, fl_lo h16, fl_lo h16, fl_lo h16, fl_lo h16⟩, fun h t _ ht => absurd ht (by omega)⟩
    · rw [fl_lo h16]; simp [iv_free]
    · rw [fl_lo h16]; rfl
    · rw [fl_lo h16]; rfl
    · rw [fl_lo h16]; rfl
    · rw [fl_lo h16]; rfl
