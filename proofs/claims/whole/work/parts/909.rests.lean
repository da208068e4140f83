/-! ===== rests asked over a window of bells ===== -/
def rn (wk : Nat → Nat → Bool) (h a : Nat) : Nat → Int
  | 0 => 0
  | k + 1 => if wk h (a + k) then 0 else rn wk h a k + 1
def lg (wk : Nat → Nat → Bool) (h a : Nat) : Nat → Int
  | 0 => 0
  | k + 1 => if wk h (a + k) then lg wk h a k else if lg wk h a k < rn wk h a k + 1 then rn wk h a k + 1 else lg wk h a k
def cu (wk : Nat → Nat → Bool) (og : Nat → Nat → Int) (h a : Nat) : Nat → Int
  | 0 => -1
  | k + 1 => if wk h (a + k) then (if cu wk og h a k < og h (a + k) then og h (a + k) else cu wk og h a k) else cu wk og h a k
theorem runl_nn {wk : Nat → Nat → Bool} {h : Nat} : ∀ k : Nat, 0 ≤ iv_runl wk h k ∧ iv_runl wk h k ≤ k
  | 0 => by simp [iv_runl]
  | k + 1 => by have := runl_nn (wk := wk) (h := h) k; unfold iv_runl; split <;> omega
theorem rn_eq {wk : Nat → Nat → Bool} {h a : Nat} : ∀ k : Nat, rn wk h a k = if iv_runl wk h (a + k) < k then iv_runl wk h (a + k) else (k : Int)
  | 0 => by
    have := (runl_nn (wk := wk) (h := h) a).1
    unfold rn
    rw [if_neg (by show ¬ iv_runl wk h a < ((0 : Nat) : Int); omega)]; rfl
  | k + 1 => by
    have ih := rn_eq (wk := wk) (h := h) (a := a) k
    have hn := (runl_nn (wk := wk) (h := h) (a + k)).1
    show (if wk h (a + k) then (0 : Int) else rn wk h a k + 1) = if (if wk h (a + k) then (0 : Int) else iv_runl wk h (a + k) + 1) < ((k + 1 : Nat) : Int) then (if wk h (a + k) then (0 : Int) else iv_runl wk h (a + k) + 1) else ((k + 1 : Nat) : Int)
    rw [ih]
    by_cases e : wk h (a + k) = true
    · simp only [e, ↓reduceIte]; rw [if_pos (by omega)]
    · simp only [e, ↓reduceIte, Bool.false_eq_true]
      by_cases e2 : iv_runl wk h (a + k) < k
      · rw [if_pos e2, if_pos (by omega)]
      · rw [if_neg e2, if_neg (by omega)]; omega
theorem lg_le {wk : Nat → Nat → Bool} {h a : Nat} {s : Int} (hs : 0 < s) : ∀ k : Nat, s ≤ lg wk h a k ↔ ∃ j : Nat, j < k ∧ s ≤ rn wk h a (j + 1)
  | 0 => by unfold lg; exact ⟨fun h => by omega, fun ⟨j, hj, _⟩ => by omega⟩
  | k + 1 => by
    have ih := lg_le (wk := wk) (h := h) (a := a) hs k
    have key : s ≤ lg wk h a (k + 1) ↔ (s ≤ lg wk h a k ∨ s ≤ rn wk h a (k + 1)) := by
      show s ≤ (if wk h (a + k) then lg wk h a k else if lg wk h a k < rn wk h a k + 1 then rn wk h a k + 1 else lg wk h a k) ↔ (s ≤ lg wk h a k ∨ s ≤ (if wk h (a + k) then 0 else rn wk h a k + 1))
      by_cases e : wk h (a + k) = true
      · simp only [e, ↓reduceIte]; omega
      · simp only [e, ↓reduceIte, Bool.false_eq_true]
        by_cases e2 : lg wk h a k < rn wk h a k + 1
        · rw [if_pos e2]; omega
        · rw [if_neg e2]; omega
    rw [key, ih]
    constructor
    · rintro (⟨j, h1, h2⟩ | h2)
      · exact ⟨j, by omega, h2⟩
      · exact ⟨k, by omega, h2⟩
    · rintro ⟨j, h1, h2⟩
      by_cases e : j = k
      · right; rw [← e]; exact h2
      · left; exact ⟨j, by omega, h2⟩
theorem last_ge {wk : Nat → Nat → Bool} {h : Nat} {s a : Int} (ha : 0 ≤ a) : ∀ T : Nat, a ≤ iv_last wk s h T ↔ ∃ k : Nat, k < T ∧ a ≤ k ∧ s ≤ iv_runl wk h (k + 1)
  | 0 => by unfold iv_last; exact ⟨fun h => by omega, fun ⟨j, hj, _⟩ => by omega⟩
  | T + 1 => by
    have ih := last_ge (wk := wk) (h := h) (s := s) ha T
    unfold iv_last
    split
    · rename_i e
      constructor
      · intro h1; exact ⟨T, by omega, h1, e⟩
      · rintro ⟨k, k1, k2, k3⟩; omega
    · rename_i e
      rw [ih]
      constructor
      · rintro ⟨k, k1, k2, k3⟩; exact ⟨k, by omega, k2, k3⟩
      · rintro ⟨k, k1, k2, k3⟩
        refine ⟨k, ?_, k2, k3⟩
        by_cases e2 : k = T
        · rw [e2] at k3; exact absurd k3 e
        · omega
/-- the longest run of a window against the last bell that ended one -/
theorem lg_last {wk : Nat → Nat → Bool} {h a d : Nat} {s : Int} (hs : 0 ≤ s) : lg wk h a d < s ↔ iv_last wk s h (a + d) < (a : Int) + s - 1 := by
  by_cases e : s = 0
  · subst e
    have h1 : ∀ k : Nat, 0 ≤ lg wk h a k := by
      intro k
      induction k with
      | zero => simp [lg]
      | succ k ih => unfold lg; split <;> (try split) <;> omega
    have h2 : ∀ T : Nat, iv_last wk 0 h T = (T : Int) - 1 := by
      intro T
      cases T with
      | zero => rfl
      | succ T => unfold iv_last; rw [if_pos (runl_nn _).1]; omega
    have := h1 d
    rw [h2]
    omega
  · have hp1 : 0 ≤ (a : Int) + s - 1 := by omega
    have hp2 : 0 < s := by omega
    have k3 : (∃ j : Nat, j < d ∧ s ≤ rn wk h a (j + 1)) ↔ ∃ k : Nat, k < a + d ∧ (a : Int) + s - 1 ≤ k ∧ s ≤ iv_runl wk h (k + 1) := by
      constructor
      · rintro ⟨j, j1, j2⟩
        rw [rn_eq] at j2
        have e3 : a + (j + 1) = a + j + 1 := by omega
        rw [e3] at j2
        refine ⟨a + j, by omega, ?_, ?_⟩ <;> split at j2 <;> omega
      · rintro ⟨k, k1, k2, k3⟩
        refine ⟨k - a, by omega, ?_⟩
        rw [rn_eq]
        have e3 : a + (k - a + 1) = k + 1 := by omega
        rw [e3]
        split <;> omega
    have k1 := lg_le (wk := wk) (h := h) (a := a) (s := s) hp2 d
    have k2 := last_ge (wk := wk) (h := h) (s := s) (a := (a : Int) + s - 1) hp1 (a + d)
    rw [k3] at k1
    by_cases q : s ≤ lg wk h a d
    · have := k2.2 (k1.1 q)
      clear k1 k2 k3
      omega
    · have : ¬ (a : Int) + s - 1 ≤ iv_last wk s h (a + d) := fun z => q (k1.2 (k2.1 z))
      clear k1 k2 k3
      omega
theorem sto_in {og : Nat → Nat → Int} {h : Nat} : ∀ T : Nat, (iv_stb og h T = -1 ∧ iv_sto og h T = -1) ∨ ∃ t : Nat, t < T ∧ iv_sto og h T = og h t ∧ iv_stb og h T = t ∧ 0 ≤ og h t
  | 0 => Or.inl ⟨rfl, rfl⟩
  | T + 1 => by
    unfold iv_sto iv_stb
    split
    · rename_i e; exact Or.inr ⟨T, by omega, rfl, rfl, e⟩
    · rcases sto_in (og := og) (h := h) T with e | ⟨t, t1, t2⟩
      · exact Or.inl e
      · exact Or.inr ⟨t, by omega, t2⟩
/-- the highest order of a window is the latest -/
theorem cu_eq {wk : Nat → Nat → Bool} {og : Nat → Nat → Int} {h a : Nat} : ∀ d : Nat, (∀ t, t < a + d → -1 ≤ og h t ∧ (0 ≤ og h t → wk h t = true)) → (∀ t u, t ≤ u → u < a + d → 0 ≤ og h u → og h t ≤ og h u) → cu wk og h a d = if iv_stb og h (a + d) < a then -1 else iv_sto og h (a + d)
  | 0, _, _ => by
    have := sto_in (og := og) (h := h) a
    unfold cu
    show -1 = if iv_stb og h a < a then -1 else iv_sto og h a
    rw [if_pos]
    rcases this with e | ⟨t, t1, t2, t3, t4⟩ <;> omega
  | d + 1, h1, h2 => by
    have ih := cu_eq (wk := wk) (og := og) (h := h) (a := a) d (fun t ht => h1 t (by omega)) (fun t u a b => h2 t u a (by omega))
    have w := h1 (a + d) (by omega)
    show (if wk h (a + d) then (if cu wk og h a d < og h (a + d) then og h (a + d) else cu wk og h a d) else cu wk og h a d) = if (if 0 ≤ og h (a + d) then ((a + d : Nat) : Int) else iv_stb og h (a + d)) < a then -1 else (if 0 ≤ og h (a + d) then og h (a + d) else iv_sto og h (a + d))
    by_cases e : 0 ≤ og h (a + d)
    · have le : cu wk og h a d ≤ og h (a + d) := by
        rw [ih]
        split
        · omega
        · rcases sto_in (og := og) (h := h) (a + d) with e1 | ⟨t, t1, t2, t3, t4⟩
          · omega
          · rw [t2]; exact h2 t (a + d) (by omega) (by omega) e
      rw [if_pos (w.2 e), if_pos e, if_pos e, if_neg (show ¬ ((a + d : Nat) : Int) < a by omega)]
      split <;> omega
    · rw [if_neg e, if_neg e, ← ih]
      split
      · have : -1 ≤ cu wk og h a d := by
          rw [ih]
          split
          · omega
          · rcases sto_in (og := og) (h := h) (a + d) with e1 | ⟨t, t1, t2, t3, t4⟩ <;> omega
        rw [if_neg (by omega)]
      · rfl
theorem lg_nn {wk : Nat → Nat → Bool} {h a : Nat} : ∀ k : Nat, 0 ≤ lg wk h a k ∧ lg wk h a k ≤ k ∧ 0 ≤ rn wk h a k ∧ rn wk h a k ≤ k
  | 0 => by simp [lg, rn]
  | k + 1 => by
    have ih := lg_nn (wk := wk) (h := h) (a := a) k
    by_cases e : wk h (a + k) = true
    · rw [lg, rn, if_pos e, if_pos e]; omega
    · rw [lg, rn, if_neg e, if_neg e]; split <;> omega
theorem free_nn {wk : Nat → Nat → Bool} {h a : Nat} : ∀ k : Nat, 0 ≤ iv_free wk h a k ∧ iv_free wk h a k ≤ k
  | 0 => by simp [iv_free]
  | k + 1 => by
    have := free_nn (wk := wk) (h := h) (a := a) k
    unfold iv_free
    split <;> omega
theorem cu_in {wk : Nat → Nat → Bool} {og : Nat → Nat → Int} {h a : Nat} : ∀ k : Nat, (∀ t, t < a + k → -1 ≤ og h t ∧ og h t < 60) → -1 ≤ cu wk og h a k ∧ cu wk og h a k < 60
  | 0, _ => by simp [cu]
  | k + 1, hh => by
    have := cu_in (wk := wk) (og := og) (h := h) (a := a) k (fun t ht => hh t (by omega))
    have := hh (a + k) (by omega)
    unfold cu
    split
    · split <;> omega
    · omega
def bfr (J : Nat → Nat → Int) (y : BF) : Prop := J 75 = y.br ∧ J 55 57 = y.n ∧ J 87 = y.b1 ∧ J 88 = y.b2 ∧ J 89 = y.b3
section RESTS
variable {I L : Nat → Nat → Int} {p q n : Nat} {K : Option fm_V → fm_S → Prop}
set_option maxRecDepth 20000 in
set_option maxHeartbeats 4000000 in
/-- the reference: rests -/
theorem c133 {be a d h : Nat} {wk : Nat → Nat → Bool} {og : Nat → Nat → Int} {y : BF} (hbe : I 55 50 = be) (hb2 : be < 20000) (had : a + d = be + 1) (hd : I 55 27 = d) (hd1 : 1 ≤ d) (hd2 : d ≤ 96) (hh : h < 16) (hrr : 0 ≤ I 55 28 ∧ I 55 28 ≤ 96) (hrs : 0 ≤ I 55 29 ∧ I 55 29 ≤ 96)
    (hw : ∀ t : Nat, a ≤ t → t < a + d → I 80 (96 * h + t % 96) = (if wk h t then 1 else 0) ∧ I 81 (96 * h + t % 96) = og h t) (hog : ∀ t : Nat, t < a + d → -1 ≤ og h t ∧ og h t < 60) (hy : bfr I y) (hn0 : 0 ≤ y.n) (hn1 : y.n < 1000000)
    (hK1 : ¬ (iv_free wk h a d < I 55 28 ∨ lg wk h a d < I 55 29) → K none (I, L, fm_refs p q, 96, n))
    (hK2 : (iv_free wk h a d < I 55 28 ∨ lg wk h a d < I 55 29) → ∀ I' : Nat → Nat → Int, (∀ b, b ≠ 55 → b ≠ 75 → b ≠ 87 → b ≠ 88 → b ≠ 89 → I' b = I b) → (∀ j, j ≠ 57 → I' 55 j = I 55 j) → bfr I' (bf_one be h (cu wk og h a d) y) → K none (I', L, fm_refs p q, 96, n)) :
    fm_wp 133 (0, [some (.inr (.inr (some 55))), some (.inl (h : Int)), none, none, none, none, none, none], [], (I, L, fm_refs p q, 96, n)) K := by
  have lp : ∀ (k : Nat) (u : Unit), k ≤ d → True → ∀ l7, fm_wp 133 (23, [some (.inr (.inr (some 55))), some (.inl (h : Int)), some (.inl (iv_free wk h a k)), some (.inl (rn wk h a k)), some (.inl (lg wk h a k)), some (.inl (cu wk og h a k)), some (.inl ((a : Int) + k)), l7], [], (I, L, fm_refs p q, 96, n)) K := by
    refine wp_for d (fun k _ => ∀ l7, fm_wp 133 (23, [some (.inr (.inr (some 55))), some (.inl (h : Int)), some (.inl (iv_free wk h a k)), some (.inl (rn wk h a k)), some (.inl (lg wk h a k)), some (.inl (cu wk og h a k)), some (.inl ((a : Int) + k)), l7], [], (I, L, fm_refs p q, 96, n)) K) (fun _ _ => True) ?_ ?_
    · intro k _ hk _ ih l7
      have nx := ih () trivial
      rw [show ((a : Int) + ((k + 1 : Nat) : Int)) = (a : Int) + k + 1 by omega, iv_free, rn, lg, cu] at nx
      obtain ⟨w1, w2⟩ := hw (a + k) (by omega) (by omega)
      have g1 := hog (a + k) (by omega)
      have b1 := lg_nn (wk := wk) (h := h) (a := a) k
      have b2 := free_nn (wk := wk) (h := h) (a := a) k
      have b3 := cu_in (wk := wk) (og := og) (h := h) (a := a) k (fun t ht => hog t (by omega))
      generalize iv_free wk h a k = v1 at *
      generalize rn wk h a k = v2 at *
      generalize lg wk h a k = v3 at *
      generalize cu wk og h a k = v4 at *
      have x1 : ¬ (be : Int) < (a : Int) + k := by omega
      have r0 : ((a : Int) + k) = ((a + k : Nat) : Int) := by omega
      have r1 : fm_rem ((a + k : Nat) : Int) 96 = (((a + k) % 96 : Nat) : Int) := rem_nat (a := a + k) (d := 96) (by omega) (by omega) (by omega)
      have r2 : (96 * (h : Int) + (((a + k) % 96 : Nat) : Int)).toNat = 96 * h + (a + k) % 96 := by omega
      have r3 : 0 ≤ (96 * (h : Int) + (((a + k) % 96 : Nat) : Int)) := by omega
      have r4 : (96 * (h : Int) + (((a + k) % 96 : Nat) : Int)) < 1536 := by omega
      have r5 : ((a + k : Nat) : Int) + 1 = (a : Int) + k + 1 := by omega
      rw [r0] at x1 ⊢
      rw [q133_23]
      by_cases e : wk h (a + k) = true
      · simp only [e, ↓reduceIte, Int.add_zero] at nx w1
        simp (disch := first | omega | exact Nat.le_of_ble_eq_true rfl) only [q133_0, q133_1, q133_2, q133_3, q133_4, q133_5, q133_7, q133_8, q133_10, q133_11, q133_14, q133_15, q133_18, q133_19, q133_20, q133_21, q133_25, q133_26, q133_29, q133_32, q133_34, q133_35, q133_36, q133_38, q133_40, q133_41, q133_42, q133_44, q133_45, q133_48, q133_50, q133_51, q133_54, q133_55, q133_56, q133_57, q133_60, q133_62, q133_63, q133_65, q133_68, q133_69, q133_72, q133_74, q133_75, q133_78, q133_80, q133_82, q133_85, q133_88, q133_91, q133_92, q133_94, q133_97, q133_98, q133_101, q133_103, q133_105, q133_108, q133_111, q133_112, q133_113, q133_116, q133_119, q133_121, q133_122, q133_125, q133_128, q133_129, q133_130, q133_133, q133_134, q133_135, q133_136, q133_137, q133_138, q133_139, q133_140, q133_143, q133_146, q133_149, q133_150, q133_153, q133_154, q133_157, q133_158, q133_161, q133_162, q133_163, q133_166, q133_167, q133_170, q133_171, q133_172, q133_173, q133_176, q133_177, q133_180, q133_182, q133_183, q133_184, q133_184i, q133_185, q133_188, q133_189, q133_190, q133_193, ob_0, ob_1, aw_2, ar_2, ob_3, aw_4, ar_4, aw_5, ar_5, ob_6, aw_7, ar_7, aw_8, ar_8, aw_9, ar_9, aw_10, ar_10, aw_11, ar_11, aw_12, ar_12, aw_13, ar_13, aw_14, ar_14, aw_15, ar_15, aw_16, ar_16, aw_17, ar_17, aw_18, ar_18, ob_19, aw_20, ar_20, aw_21, ar_21, aw_22, ar_22, aw_23, ar_23, aw_24, ar_24, ob_25, aw_26, ar_26, aw_27, ar_27, aw_28, ar_28, aw_29, ar_29, aw_30, ar_30, aw_31, ar_31, aw_32, ar_32, ob_33, aw_34, ar_34, aw_35, ar_35, aw_36, ar_36, aw_37, ar_37, aw_38, ar_38, aw_39, ar_39, aw_40, ar_40, aw_41, ar_41, aw_42, ar_42, ob_43, aw_44, ar_44, aw_45, ar_45, aw_46, ar_46, aw_47, ar_47, aw_48, ar_48, ob_49, aw_50, ar_50, aw_51, ar_51, aw_52, ar_52, aw_53, ar_53, aw_54, ar_54, ob_55, aw_56, ar_56, aw_57, ar_57, aw_58, ar_58, aw_59, ar_59, aw_60, ar_60, aw_61, ar_61, aw_62, ar_62, aw_63, ar_63, aw_64, ar_64, aw_65, ar_65, aw_66, ar_66, aw_67, ar_67, aw_68, ar_68, aw_69, ar_69, aw_70, ar_70, aw_71, ar_71, aw_72, ar_72, aw_73, ar_73, aw_74, ar_74, aw_75, ar_75, aw_76, ar_76, aw_77, ar_77, aw_78, ar_78, aw_79, ar_79, aw_80, ar_80, aw_81, ar_81, aw_82, ar_82, aw_83, ar_83, aw_84, ar_84, aw_85, ar_85, aw_86, ar_86, aw_87, ar_87, aw_88, ar_88, aw_89, ar_89, aw_90, ar_90, aw_91, ar_91, aw_92, ar_92, aw_93, ar_93, aw_94, ar_94, aw_95, ar_95, re_0_0, re_0_1, re_0_2, re_0_3, re_0_4, re_0_5, re_0_6, re_0_7, re_1_0, re_3_0, re_3_1, re_3_2, re_6_1, re_6_2, re_6_3, re_6_4, re_6_5, re_6_6, re_6_7, re_6_8, re_6_9, re_6_10, re_6_11, re_6_12, re_19_0, re_19_1, re_19_2, re_19_3, re_19_4, re_25_1, re_25_2, re_25_3, re_25_4, re_25_5, re_25_6, re_25_7, re_33_0, re_33_1, re_33_2, re_33_3, re_33_4, re_33_5, re_33_6, re_33_7, re_33_8, re_43_0, re_43_1, re_43_8, re_43_9, re_43_10, re_49_0, re_49_1, re_49_8, re_49_9, re_49_10, re_55_0, re_55_11, re_55_13, re_55_14, re_55_18, re_55_20, re_55_21, re_55_22, re_55_23, re_55_25, re_55_26, re_55_34, re_55_35, re_55_36, re_55_38, re_55_39, re_55_40, re_55_41, re_55_42, re_55_43, re_55_44, re_55_45, re_55_46, re_55_47, re_55_48, re_55_49, re_55_52, re_55_53, re_55_54, re_55_55, re_55_56, re_55_58, re_55_59, re_55_60, re_55_61, re_55_62, re_55_63, re_55_64, re_55_65, re_55_66, true_and, and_true, true_implies, false_implies, not_true_eq_false, not_false_eq_true, implies_true, and_self, false_and, and_false, or_true, true_or, or_false, false_or, ne_eq, Classical.not_not, inB_eq, inB_by, inB_bo, fm_nl_n, fm_nl_i, fm_nl_r, fm_same_self, Option.toList_some, Option.toList_none, List.cons_append, List.nil_append, Int.toNat_natCast, Int.cast_ofNat_Int, Int.natCast_nonneg, fm_cl_s, fm_pt_s, tn_1, tn_2, tn_3, tn_4, tn_5, wr_id, wl_id, ar_500, fm_cl_ap, fm_pt_ap, ↓reduceIte, lc_lt, lc_le, lc_gt, lc_ge, lc_eq, c92, Nat.reduceEqDiff, one_ne_zero, fm_l2i_id, Int.reduceNeg, eq_self, nrw_0, nrw_1, Int.reduceEq, Int.reduceLT, Int.reduceLE, Int.reduceAdd, Int.reduceSub, Int.reduceMul, Int.reduceToNat, hbe, x1, r1, r2, r3, r4, w1, w2, r5]
        refine ⟨fun z => ?_, fun z => ?_⟩
        · rw [if_neg (by omega)] at nx; exact nx _
        · rw [if_pos (by omega)] at nx; exact nx _
      · simp only [e, ↓reduceIte, Bool.false_eq_true] at nx w1
        simp (disch := first | omega | exact Nat.le_of_ble_eq_true rfl) only [q133_0, q133_1, q133_2, q133_3, q133_4, q133_5, q133_7, q133_8, q133_10, q133_11, q133_14, q133_15, q133_18, q133_19, q133_20, q133_21, q133_25, q133_26, q133_29, q133_32, q133_34, q133_35, q133_36, q133_38, q133_40, q133_41, q133_42, q133_44, q133_45, q133_48, q133_50, q133_51, q133_54, q133_55, q133_56, q133_57, q133_60, q133_62, q133_63, q133_65, q133_68, q133_69, q133_72, q133_74, q133_75, q133_78, q133_80, q133_82, q133_85, q133_88, q133_91, q133_92, q133_94, q133_97, q133_98, q133_101, q133_103, q133_105, q133_108, q133_111, q133_112, q133_113, q133_116, q133_119, q133_121, q133_122, q133_125, q133_128, q133_129, q133_130, q133_133, q133_134, q133_135, q133_136, q133_137, q133_138, q133_139, q133_140, q133_143, q133_146, q133_149, q133_150, q133_153, q133_154, q133_157, q133_158, q133_161, q133_162, q133_163, q133_166, q133_167, q133_170, q133_171, q133_172, q133_173, q133_176, q133_177, q133_180, q133_182, q133_183, q133_184, q133_184i, q133_185, q133_188, q133_189, q133_190, q133_193, ob_0, ob_1, aw_2, ar_2, ob_3, aw_4, ar_4, aw_5, ar_5, ob_6, aw_7, ar_7, aw_8, ar_8, aw_9, ar_9, aw_10, ar_10, aw_11, ar_11, aw_12, ar_12, aw_13, ar_13, aw_14, ar_14, aw_15, ar_15, aw_16, ar_16, aw_17, ar_17, aw_18, ar_18, ob_19, aw_20, ar_20, aw_21, ar_21, aw_22, ar_22, aw_23, ar_23, aw_24, ar_24, ob_25, aw_26, ar_26, aw_27, ar_27, aw_28, ar_28, aw_29, ar_29, aw_30, ar_30, aw_31, ar_31, aw_32, ar_32, ob_33, aw_34, ar_34, aw_35, ar_35, aw_36, ar_36, aw_37, ar_37, aw_38, ar_38, aw_39, ar_39, aw_40, ar_40, aw_41, ar_41, aw_42, ar_42, ob_43, aw_44, ar_44, aw_45, ar_45, aw_46, ar_46, aw_47, ar_47, aw_48, ar_48, ob_49, aw_50, ar_50, aw_51, ar_51, aw_52, ar_52, aw_53, ar_53, aw_54, ar_54, ob_55, aw_56, ar_56, aw_57, ar_57, aw_58, ar_58, aw_59, ar_59, aw_60, ar_60, aw_61, ar_61, aw_62, ar_62, aw_63, ar_63, aw_64, ar_64, aw_65, ar_65, aw_66, ar_66, aw_67, ar_67, aw_68, ar_68, aw_69, ar_69, aw_70, ar_70, aw_71, ar_71, aw_72, ar_72, aw_73, ar_73, aw_74, ar_74, aw_75, ar_75, aw_76, ar_76, aw_77, ar_77, aw_78, ar_78, aw_79, ar_79, aw_80, ar_80, aw_81, ar_81, aw_82, ar_82, aw_83, ar_83, aw_84, ar_84, aw_85, ar_85, aw_86, ar_86, aw_87, ar_87, aw_88, ar_88, aw_89, ar_89, aw_90, ar_90, aw_91, ar_91, aw_92, ar_92, aw_93, ar_93, aw_94, ar_94, aw_95, ar_95, re_0_0, re_0_1, re_0_2, re_0_3, re_0_4, re_0_5, re_0_6, re_0_7, re_1_0, re_3_0, re_3_1, re_3_2, re_6_1, re_6_2, re_6_3, re_6_4, re_6_5, re_6_6, re_6_7, re_6_8, re_6_9, re_6_10, re_6_11, re_6_12, re_19_0, re_19_1, re_19_2, re_19_3, re_19_4, re_25_1, re_25_2, re_25_3, re_25_4, re_25_5, re_25_6, re_25_7, re_33_0, re_33_1, re_33_2, re_33_3, re_33_4, re_33_5, re_33_6, re_33_7, re_33_8, re_43_0, re_43_1, re_43_8, re_43_9, re_43_10, re_49_0, re_49_1, re_49_8, re_49_9, re_49_10, re_55_0, re_55_11, re_55_13, re_55_14, re_55_18, re_55_20, re_55_21, re_55_22, re_55_23, re_55_25, re_55_26, re_55_34, re_55_35, re_55_36, re_55_38, re_55_39, re_55_40, re_55_41, re_55_42, re_55_43, re_55_44, re_55_45, re_55_46, re_55_47, re_55_48, re_55_49, re_55_52, re_55_53, re_55_54, re_55_55, re_55_56, re_55_58, re_55_59, re_55_60, re_55_61, re_55_62, re_55_63, re_55_64, re_55_65, re_55_66, true_and, and_true, true_implies, false_implies, not_true_eq_false, not_false_eq_true, implies_true, and_self, false_and, and_false, or_true, true_or, or_false, false_or, ne_eq, Classical.not_not, inB_eq, inB_by, inB_bo, fm_nl_n, fm_nl_i, fm_nl_r, fm_same_self, Option.toList_some, Option.toList_none, List.cons_append, List.nil_append, Int.toNat_natCast, Int.cast_ofNat_Int, Int.natCast_nonneg, fm_cl_s, fm_pt_s, tn_1, tn_2, tn_3, tn_4, tn_5, wr_id, wl_id, ar_500, fm_cl_ap, fm_pt_ap, ↓reduceIte, lc_lt, lc_le, lc_gt, lc_ge, lc_eq, c92, Nat.reduceEqDiff, one_ne_zero, fm_l2i_id, Int.reduceNeg, eq_self, nrw_0, nrw_1, Int.reduceEq, Int.reduceLT, Int.reduceLE, Int.reduceAdd, Int.reduceSub, Int.reduceMul, Int.reduceToNat, hbe, x1, r1, r2, r3, r4, w1, w2, r5]
        refine ⟨fun z => ?_, fun z => ?_⟩
        · rw [if_neg (by omega)] at nx; exact nx _
        · rw [if_pos (by omega)] at nx; exact nx _
    · intro _ _ l7
      have b1 := lg_nn (wk := wk) (h := h) (a := a) d
      have b2 := free_nn (wk := wk) (h := h) (a := a) d
      generalize iv_free wk h a d = v1 at *
      generalize lg wk h a d = v3 at *
      generalize cu wk og h a d = v4 at *
      have x1 : (be : Int) < (a : Int) + d := by omega
      obtain ⟨q1, q2, q3, q4, q5⟩ := hy
      have x2 : (h : Int) < 16 := by omega
      rw [q133_23]
      simp (disch := first | omega | exact Nat.le_of_ble_eq_true rfl) only [q133_0, q133_1, q133_2, q133_3, q133_4, q133_5, q133_7, q133_8, q133_10, q133_11, q133_14, q133_15, q133_18, q133_19, q133_20, q133_21, q133_25, q133_26, q133_29, q133_32, q133_34, q133_35, q133_36, q133_38, q133_40, q133_41, q133_42, q133_44, q133_45, q133_48, q133_50, q133_51, q133_54, q133_55, q133_56, q133_57, q133_60, q133_62, q133_63, q133_65, q133_68, q133_69, q133_72, q133_74, q133_75, q133_78, q133_80, q133_82, q133_85, q133_88, q133_91, q133_92, q133_94, q133_97, q133_98, q133_101, q133_103, q133_105, q133_108, q133_111, q133_112, q133_113, q133_116, q133_119, q133_121, q133_122, q133_125, q133_128, q133_129, q133_130, q133_133, q133_134, q133_135, q133_136, q133_137, q133_138, q133_139, q133_140, q133_143, q133_146, q133_149, q133_150, q133_153, q133_154, q133_157, q133_158, q133_161, q133_162, q133_163, q133_166, q133_167, q133_170, q133_171, q133_172, q133_173, q133_176, q133_177, q133_180, q133_182, q133_183, q133_184, q133_184i, q133_185, q133_188, q133_189, q133_190, q133_193, ob_0, ob_1, aw_2, ar_2, ob_3, aw_4, ar_4, aw_5, ar_5, ob_6, aw_7, ar_7, aw_8, ar_8, aw_9, ar_9, aw_10, ar_10, aw_11, ar_11, aw_12, ar_12, aw_13, ar_13, aw_14, ar_14, aw_15, ar_15, aw_16, ar_16, aw_17, ar_17, aw_18, ar_18, ob_19, aw_20, ar_20, aw_21, ar_21, aw_22, ar_22, aw_23, ar_23, aw_24, ar_24, ob_25, aw_26, ar_26, aw_27, ar_27, aw_28, ar_28, aw_29, ar_29, aw_30, ar_30, aw_31, ar_31, aw_32, ar_32, ob_33, aw_34, ar_34, aw_35, ar_35, aw_36, ar_36, aw_37, ar_37, aw_38, ar_38, aw_39, ar_39, aw_40, ar_40, aw_41, ar_41, aw_42, ar_42, ob_43, aw_44, ar_44, aw_45, ar_45, aw_46, ar_46, aw_47, ar_47, aw_48, ar_48, ob_49, aw_50, ar_50, aw_51, ar_51, aw_52, ar_52, aw_53, ar_53, aw_54, ar_54, ob_55, aw_56, ar_56, aw_57, ar_57, aw_58, ar_58, aw_59, ar_59, aw_60, ar_60, aw_61, ar_61, aw_62, ar_62, aw_63, ar_63, aw_64, ar_64, aw_65, ar_65, aw_66, ar_66, aw_67, ar_67, aw_68, ar_68, aw_69, ar_69, aw_70, ar_70, aw_71, ar_71, aw_72, ar_72, aw_73, ar_73, aw_74, ar_74, aw_75, ar_75, aw_76, ar_76, aw_77, ar_77, aw_78, ar_78, aw_79, ar_79, aw_80, ar_80, aw_81, ar_81, aw_82, ar_82, aw_83, ar_83, aw_84, ar_84, aw_85, ar_85, aw_86, ar_86, aw_87, ar_87, aw_88, ar_88, aw_89, ar_89, aw_90, ar_90, aw_91, ar_91, aw_92, ar_92, aw_93, ar_93, aw_94, ar_94, aw_95, ar_95, re_0_0, re_0_1, re_0_2, re_0_3, re_0_4, re_0_5, re_0_6, re_0_7, re_1_0, re_3_0, re_3_1, re_3_2, re_6_1, re_6_2, re_6_3, re_6_4, re_6_5, re_6_6, re_6_7, re_6_8, re_6_9, re_6_10, re_6_11, re_6_12, re_19_0, re_19_1, re_19_2, re_19_3, re_19_4, re_25_1, re_25_2, re_25_3, re_25_4, re_25_5, re_25_6, re_25_7, re_33_0, re_33_1, re_33_2, re_33_3, re_33_4, re_33_5, re_33_6, re_33_7, re_33_8, re_43_0, re_43_1, re_43_8, re_43_9, re_43_10, re_49_0, re_49_1, re_49_8, re_49_9, re_49_10, re_55_0, re_55_11, re_55_13, re_55_14, re_55_18, re_55_20, re_55_21, re_55_22, re_55_23, re_55_25, re_55_26, re_55_34, re_55_35, re_55_36, re_55_38, re_55_39, re_55_40, re_55_41, re_55_42, re_55_43, re_55_44, re_55_45, re_55_46, re_55_47, re_55_48, re_55_49, re_55_52, re_55_53, re_55_54, re_55_55, re_55_56, re_55_58, re_55_59, re_55_60, re_55_61, re_55_62, re_55_63, re_55_64, re_55_65, re_55_66, true_and, and_true, true_implies, false_implies, not_true_eq_false, not_false_eq_true, implies_true, and_self, false_and, and_false, or_true, true_or, or_false, false_or, ne_eq, Classical.not_not, inB_eq, inB_by, inB_bo, fm_nl_n, fm_nl_i, fm_nl_r, fm_same_self, Option.toList_some, Option.toList_none, List.cons_append, List.nil_append, Int.toNat_natCast, Int.cast_ofNat_Int, Int.natCast_nonneg, fm_cl_s, fm_pt_s, tn_1, tn_2, tn_3, tn_4, tn_5, wr_id, wl_id, ar_500, fm_cl_ap, fm_pt_ap, ↓reduceIte, lc_lt, lc_le, lc_gt, lc_ge, lc_eq, c92, Nat.reduceEqDiff, one_ne_zero, fm_l2i_id, Int.reduceNeg, eq_self, nrw_0, nrw_1, Int.reduceEq, Int.reduceLT, Int.reduceLE, Int.reduceAdd, Int.reduceSub, Int.reduceMul, Int.reduceToNat, hbe, x1]
      by_cases z1 : v1 < I 55 28
      · have hK2' := hK2 (Or.inl z1)
        by_cases z2 : y.n < 200
        · have z3 : ¬ 200 ≤ y.n := by omega
          simp (disch := first | omega | exact Nat.le_of_ble_eq_true rfl) only [ob_0, ob_1, aw_2, ar_2, ob_3, aw_4, ar_4, aw_5, ar_5, ob_6, aw_7, ar_7, aw_8, ar_8, aw_9, ar_9, aw_10, ar_10, aw_11, ar_11, aw_12, ar_12, aw_13, ar_13, aw_14, ar_14, aw_15, ar_15, aw_16, ar_16, aw_17, ar_17, aw_18, ar_18, ob_19, aw_20, ar_20, aw_21, ar_21, aw_22, ar_22, aw_23, ar_23, aw_24, ar_24, ob_25, aw_26, ar_26, aw_27, ar_27, aw_28, ar_28, aw_29, ar_29, aw_30, ar_30, aw_31, ar_31, aw_32, ar_32, ob_33, aw_34, ar_34, aw_35, ar_35, aw_36, ar_36, aw_37, ar_37, aw_38, ar_38, aw_39, ar_39, aw_40, ar_40, aw_41, ar_41, aw_42, ar_42, ob_43, aw_44, ar_44, aw_45, ar_45, aw_46, ar_46, aw_47, ar_47, aw_48, ar_48, ob_49, aw_50, ar_50, aw_51, ar_51, aw_52, ar_52, aw_53, ar_53, aw_54, ar_54, ob_55, aw_56, ar_56, aw_57, ar_57, aw_58, ar_58, aw_59, ar_59, aw_60, ar_60, aw_61, ar_61, aw_62, ar_62, aw_63, ar_63, aw_64, ar_64, aw_65, ar_65, aw_66, ar_66, aw_67, ar_67, aw_68, ar_68, aw_69, ar_69, aw_70, ar_70, aw_71, ar_71, aw_72, ar_72, aw_73, ar_73, aw_74, ar_74, aw_75, ar_75, aw_76, ar_76, aw_77, ar_77, aw_78, ar_78, aw_79, ar_79, aw_80, ar_80, aw_81, ar_81, aw_82, ar_82, aw_83, ar_83, aw_84, ar_84, aw_85, ar_85, aw_86, ar_86, aw_87, ar_87, aw_88, ar_88, aw_89, ar_89, aw_90, ar_90, aw_91, ar_91, aw_92, ar_92, aw_93, ar_93, aw_94, ar_94, aw_95, ar_95, re_0_0, re_0_1, re_0_2, re_0_3, re_0_4, re_0_5, re_0_6, re_0_7, re_1_0, re_3_0, re_3_1, re_3_2, re_6_1, re_6_2, re_6_3, re_6_4, re_6_5, re_6_6, re_6_7, re_6_8, re_6_9, re_6_10, re_6_11, re_6_12, re_19_0, re_19_1, re_19_2, re_19_3, re_19_4, re_25_1, re_25_2, re_25_3, re_25_4, re_25_5, re_25_6, re_25_7, re_33_0, re_33_1, re_33_2, re_33_3, re_33_4, re_33_5, re_33_6, re_33_7, re_33_8, re_43_0, re_43_1, re_43_8, re_43_9, re_43_10, re_49_0, re_49_1, re_49_8, re_49_9, re_49_10, re_55_0, re_55_11, re_55_13, re_55_14, re_55_18, re_55_20, re_55_21, re_55_22, re_55_23, re_55_25, re_55_26, re_55_34, re_55_35, re_55_36, re_55_38, re_55_39, re_55_40, re_55_41, re_55_42, re_55_43, re_55_44, re_55_45, re_55_46, re_55_47, re_55_48, re_55_49, re_55_52, re_55_53, re_55_54, re_55_55, re_55_56, re_55_58, re_55_59, re_55_60, re_55_61, re_55_62, re_55_63, re_55_64, re_55_65, re_55_66, true_and, and_true, true_implies, false_implies, not_true_eq_false, not_false_eq_true, implies_true, and_self, false_and, and_false, or_true, true_or, or_false, false_or, ne_eq, Classical.not_not, inB_eq, inB_by, inB_bo, fm_nl_n, fm_nl_i, fm_nl_r, fm_same_self, Option.toList_some, Option.toList_none, List.cons_append, List.nil_append, Int.toNat_natCast, Int.cast_ofNat_Int, Int.natCast_nonneg, fm_cl_s, fm_pt_s, tn_1, tn_2, tn_3, tn_4, tn_5, wr_id, wl_id, ar_500, fm_cl_ap, fm_pt_ap, ↓reduceIte, lc_lt, lc_le, lc_gt, lc_ge, lc_eq, c92, Nat.reduceEqDiff, one_ne_zero, fm_l2i_id, Int.reduceNeg, eq_self, nrw_0, nrw_1, Int.reduceEq, Int.reduceLT, Int.reduceLE, Int.reduceAdd, Int.reduceSub, Int.reduceMul, Int.reduceToNat, z1, q2, z2, z3, hn0, x2, q133_0, q133_1, q133_2, q133_3, q133_4, q133_5, q133_7, q133_8, q133_10, q133_11, q133_14, q133_15, q133_18, q133_19, q133_20, q133_21, q133_25, q133_26, q133_29, q133_32, q133_34, q133_35, q133_36, q133_38, q133_40, q133_41, q133_42, q133_44, q133_45, q133_48, q133_50, q133_51, q133_54, q133_55, q133_56, q133_57, q133_60, q133_62, q133_63, q133_65, q133_68, q133_69, q133_72, q133_74, q133_75, q133_78, q133_80, q133_82, q133_85, q133_88, q133_91, q133_92, q133_94, q133_97, q133_98, q133_101, q133_103, q133_105, q133_108, q133_111, q133_112, q133_113, q133_116, q133_119, q133_121, q133_122, q133_125, q133_128, q133_129, q133_130, q133_133, q133_134, q133_135, q133_136, q133_137, q133_138, q133_139, q133_140, q133_143, q133_146, q133_149, q133_150, q133_153, q133_154, q133_157, q133_158, q133_161, q133_162, q133_163, q133_166, q133_167, q133_170, q133_171, q133_172, q133_173, q133_176, q133_177, q133_180, q133_182, q133_183, q133_184, q133_184i, q133_185, q133_188, q133_189, q133_190, q133_193, hbe]
          refine hK2' _ (fun b b0 b1 b2 b3 b4 => by simp only [fm_cl_ap, b0, b1, b2, b3, b4, ↓reduceIte]) (fun j hj => by simp only [fm_cl_ap, fm_pt_ap, hj, ↓reduceIte, Nat.reduceEqDiff]) ⟨?_, ?_, ?_, ?_, ?_⟩ <;> simp only [fm_cl_ap, fm_pt_ap, ↓reduceIte, Nat.reduceEqDiff, Nat.reduceAdd, bf_0, bf_9, bf_1, bf_2, bf_3, z2, q1, q3, q4, q5]
        · have z3 : 200 ≤ y.n := by omega
          simp (disch := first | omega | exact Nat.le_of_ble_eq_true rfl) only [ob_0, ob_1, aw_2, ar_2, ob_3, aw_4, ar_4, aw_5, ar_5, ob_6, aw_7, ar_7, aw_8, ar_8, aw_9, ar_9, aw_10, ar_10, aw_11, ar_11, aw_12, ar_12, aw_13, ar_13, aw_14, ar_14, aw_15, ar_15, aw_16, ar_16, aw_17, ar_17, aw_18, ar_18, ob_19, aw_20, ar_20, aw_21, ar_21, aw_22, ar_22, aw_23, ar_23, aw_24, ar_24, ob_25, aw_26, ar_26, aw_27, ar_27, aw_28, ar_28, aw_29, ar_29, aw_30, ar_30, aw_31, ar_31, aw_32, ar_32, ob_33, aw_34, ar_34, aw_35, ar_35, aw_36, ar_36, aw_37, ar_37, aw_38, ar_38, aw_39, ar_39, aw_40, ar_40, aw_41, ar_41, aw_42, ar_42, ob_43, aw_44, ar_44, aw_45, ar_45, aw_46, ar_46, aw_47, ar_47, aw_48, ar_48, ob_49, aw_50, ar_50, aw_51, ar_51, aw_52, ar_52, aw_53, ar_53, aw_54, ar_54, ob_55, aw_56, ar_56, aw_57, ar_57, aw_58, ar_58, aw_59, ar_59, aw_60, ar_60, aw_61, ar_61, aw_62, ar_62, aw_63, ar_63, aw_64, ar_64, aw_65, ar_65, aw_66, ar_66, aw_67, ar_67, aw_68, ar_68, aw_69, ar_69, aw_70, ar_70, aw_71, ar_71, aw_72, ar_72, aw_73, ar_73, aw_74, ar_74, aw_75, ar_75, aw_76, ar_76, aw_77, ar_77, aw_78, ar_78, aw_79, ar_79, aw_80, ar_80, aw_81, ar_81, aw_82, ar_82, aw_83, ar_83, aw_84, ar_84, aw_85, ar_85, aw_86, ar_86, aw_87, ar_87, aw_88, ar_88, aw_89, ar_89, aw_90, ar_90, aw_91, ar_91, aw_92, ar_92, aw_93, ar_93, aw_94, ar_94, aw_95, ar_95, re_0_0, re_0_1, re_0_2, re_0_3, re_0_4, re_0_5, re_0_6, re_0_7, re_1_0, re_3_0, re_3_1, re_3_2, re_6_1, re_6_2, re_6_3, re_6_4, re_6_5, re_6_6, re_6_7, re_6_8, re_6_9, re_6_10, re_6_11, re_6_12, re_19_0, re_19_1, re_19_2, re_19_3, re_19_4, re_25_1, re_25_2, re_25_3, re_25_4, re_25_5, re_25_6, re_25_7, re_33_0, re_33_1, re_33_2, re_33_3, re_33_4, re_33_5, re_33_6, re_33_7, re_33_8, re_43_0, re_43_1, re_43_8, re_43_9, re_43_10, re_49_0, re_49_1, re_49_8, re_49_9, re_49_10, re_55_0, re_55_11, re_55_13, re_55_14, re_55_18, re_55_20, re_55_21, re_55_22, re_55_23, re_55_25, re_55_26, re_55_34, re_55_35, re_55_36, re_55_38, re_55_39, re_55_40, re_55_41, re_55_42, re_55_43, re_55_44, re_55_45, re_55_46, re_55_47, re_55_48, re_55_49, re_55_52, re_55_53, re_55_54, re_55_55, re_55_56, re_55_58, re_55_59, re_55_60, re_55_61, re_55_62, re_55_63, re_55_64, re_55_65, re_55_66, true_and, and_true, true_implies, false_implies, not_true_eq_false, not_false_eq_true, implies_true, and_self, false_and, and_false, or_true, true_or, or_false, false_or, ne_eq, Classical.not_not, inB_eq, inB_by, inB_bo, fm_nl_n, fm_nl_i, fm_nl_r, fm_same_self, Option.toList_some, Option.toList_none, List.cons_append, List.nil_append, Int.toNat_natCast, Int.cast_ofNat_Int, Int.natCast_nonneg, fm_cl_s, fm_pt_s, tn_1, tn_2, tn_3, tn_4, tn_5, wr_id, wl_id, ar_500, fm_cl_ap, fm_pt_ap, ↓reduceIte, lc_lt, lc_le, lc_gt, lc_ge, lc_eq, c92, Nat.reduceEqDiff, one_ne_zero, fm_l2i_id, Int.reduceNeg, eq_self, nrw_0, nrw_1, Int.reduceEq, Int.reduceLT, Int.reduceLE, Int.reduceAdd, Int.reduceSub, Int.reduceMul, Int.reduceToNat, z1, q2, z3, hn0, x2, q133_0, q133_1, q133_2, q133_3, q133_4, q133_5, q133_7, q133_8, q133_10, q133_11, q133_14, q133_15, q133_18, q133_19, q133_20, q133_21, q133_25, q133_26, q133_29, q133_32, q133_34, q133_35, q133_36, q133_38, q133_40, q133_41, q133_42, q133_44, q133_45, q133_48, q133_50, q133_51, q133_54, q133_55, q133_56, q133_57, q133_60, q133_62, q133_63, q133_65, q133_68, q133_69, q133_72, q133_74, q133_75, q133_78, q133_80, q133_82, q133_85, q133_88, q133_91, q133_92, q133_94, q133_97, q133_98, q133_101, q133_103, q133_105, q133_108, q133_111, q133_112, q133_113, q133_116, q133_119, q133_121, q133_122, q133_125, q133_128, q133_129, q133_130, q133_133, q133_134, q133_135, q133_136, q133_137, q133_138, q133_139, q133_140, q133_143, q133_146, q133_149, q133_150, q133_153, q133_154, q133_157, q133_158, q133_161, q133_162, q133_163, q133_166, q133_167, q133_170, q133_171, q133_172, q133_173, q133_176, q133_177, q133_180, q133_182, q133_183, q133_184, q133_184i, q133_185, q133_188, q133_189, q133_190, q133_193, hbe]
          refine hK2' _ (fun b b0 b1 b2 b3 b4 => by simp only [fm_cl_ap, b0, b1, b2, b3, b4, ↓reduceIte]) (fun j hj => by simp only [fm_cl_ap, fm_pt_ap, hj, ↓reduceIte, Nat.reduceEqDiff]) ⟨?_, ?_, ?_, ?_, ?_⟩ <;> simp only [fm_cl_ap, fm_pt_ap, ↓reduceIte, Nat.reduceEqDiff, Nat.reduceAdd, bf_0, bf_9, bf_1, bf_2, bf_3, z2, q1, q3, q4, q5]
      · by_cases z4 : v3 < I 55 29
        · have hK2' := hK2 (Or.inr z4)
          by_cases z2 : y.n < 200
          · have z3 : ¬ 200 ≤ y.n := by omega
            simp (disch := first | omega | exact Nat.le_of_ble_eq_true rfl) only [ob_0, ob_1, aw_2, ar_2, ob_3, aw_4, ar_4, aw_5, ar_5, ob_6, aw_7, ar_7, aw_8, ar_8, aw_9, ar_9, aw_10, ar_10, aw_11, ar_11, aw_12, ar_12, aw_13, ar_13, aw_14, ar_14, aw_15, ar_15, aw_16, ar_16, aw_17, ar_17, aw_18, ar_18, ob_19, aw_20, ar_20, aw_21, ar_21, aw_22, ar_22, aw_23, ar_23, aw_24, ar_24, ob_25, aw_26, ar_26, aw_27, ar_27, aw_28, ar_28, aw_29, ar_29, aw_30, ar_30, aw_31, ar_31, aw_32, ar_32, ob_33, aw_34, ar_34, aw_35, ar_35, aw_36, ar_36, aw_37, ar_37, aw_38, ar_38, aw_39, ar_39, aw_40, ar_40, aw_41, ar_41, aw_42, ar_42, ob_43, aw_44, ar_44, aw_45, ar_45, aw_46, ar_46, aw_47, ar_47, aw_48, ar_48, ob_49, aw_50, ar_50, aw_51, ar_51, aw_52, ar_52, aw_53, ar_53, aw_54, ar_54, ob_55, aw_56, ar_56, aw_57, ar_57, aw_58, ar_58, aw_59, ar_59, aw_60, ar_60, aw_61, ar_61, aw_62, ar_62, aw_63, ar_63, aw_64, ar_64, aw_65, ar_65, aw_66, ar_66, aw_67, ar_67, aw_68, ar_68, aw_69, ar_69, aw_70, ar_70, aw_71, ar_71, aw_72, ar_72, aw_73, ar_73, aw_74, ar_74, aw_75, ar_75, aw_76, ar_76, aw_77, ar_77, aw_78, ar_78, aw_79, ar_79, aw_80, ar_80, aw_81, ar_81, aw_82, ar_82, aw_83, ar_83, aw_84, ar_84, aw_85, ar_85, aw_86, ar_86, aw_87, ar_87, aw_88, ar_88, aw_89, ar_89, aw_90, ar_90, aw_91, ar_91, aw_92, ar_92, aw_93, ar_93, aw_94, ar_94, aw_95, ar_95, re_0_0, re_0_1, re_0_2, re_0_3, re_0_4, re_0_5, re_0_6, re_0_7, re_1_0, re_3_0, re_3_1, re_3_2, re_6_1, re_6_2, re_6_3, re_6_4, re_6_5, re_6_6, re_6_7, re_6_8, re_6_9, re_6_10, re_6_11, re_6_12, re_19_0, re_19_1, re_19_2, re_19_3, re_19_4, re_25_1, re_25_2, re_25_3, re_25_4, re_25_5, re_25_6, re_25_7, re_33_0, re_33_1, re_33_2, re_33_3, re_33_4, re_33_5, re_33_6, re_33_7, re_33_8, re_43_0, re_43_1, re_43_8, re_43_9, re_43_10, re_49_0, re_49_1, re_49_8, re_49_9, re_49_10, re_55_0, re_55_11, re_55_13, re_55_14, re_55_18, re_55_20, re_55_21, re_55_22, re_55_23, re_55_25, re_55_26, re_55_34, re_55_35, re_55_36, re_55_38, re_55_39, re_55_40, re_55_41, re_55_42, re_55_43, re_55_44, re_55_45, re_55_46, re_55_47, re_55_48, re_55_49, re_55_52, re_55_53, re_55_54, re_55_55, re_55_56, re_55_58, re_55_59, re_55_60, re_55_61, re_55_62, re_55_63, re_55_64, re_55_65, re_55_66, true_and, and_true, true_implies, false_implies, not_true_eq_false, not_false_eq_true, implies_true, and_self, false_and, and_false, or_true, true_or, or_false, false_or, ne_eq, Classical.not_not, inB_eq, inB_by, inB_bo, fm_nl_n, fm_nl_i, fm_nl_r, fm_same_self, Option.toList_some, Option.toList_none, List.cons_append, List.nil_append, Int.toNat_natCast, Int.cast_ofNat_Int, Int.natCast_nonneg, fm_cl_s, fm_pt_s, tn_1, tn_2, tn_3, tn_4, tn_5, wr_id, wl_id, ar_500, fm_cl_ap, fm_pt_ap, ↓reduceIte, lc_lt, lc_le, lc_gt, lc_ge, lc_eq, c92, Nat.reduceEqDiff, one_ne_zero, fm_l2i_id, Int.reduceNeg, eq_self, nrw_0, nrw_1, Int.reduceEq, Int.reduceLT, Int.reduceLE, Int.reduceAdd, Int.reduceSub, Int.reduceMul, Int.reduceToNat, z1, z4, q2, z2, z3, hn0, x2, q133_0, q133_1, q133_2, q133_3, q133_4, q133_5, q133_7, q133_8, q133_10, q133_11, q133_14, q133_15, q133_18, q133_19, q133_20, q133_21, q133_25, q133_26, q133_29, q133_32, q133_34, q133_35, q133_36, q133_38, q133_40, q133_41, q133_42, q133_44, q133_45, q133_48, q133_50, q133_51, q133_54, q133_55, q133_56, q133_57, q133_60, q133_62, q133_63, q133_65, q133_68, q133_69, q133_72, q133_74, q133_75, q133_78, q133_80, q133_82, q133_85, q133_88, q133_91, q133_92, q133_94, q133_97, q133_98, q133_101, q133_103, q133_105, q133_108, q133_111, q133_112, q133_113, q133_116, q133_119, q133_121, q133_122, q133_125, q133_128, q133_129, q133_130, q133_133, q133_134, q133_135, q133_136, q133_137, q133_138, q133_139, q133_140, q133_143, q133_146, q133_149, q133_150, q133_153, q133_154, q133_157, q133_158, q133_161, q133_162, q133_163, q133_166, q133_167, q133_170, q133_171, q133_172, q133_173, q133_176, q133_177, q133_180, q133_182, q133_183, q133_184, q133_184i, q133_185, q133_188, q133_189, q133_190, q133_193, hbe]
            refine hK2' _ (fun b b0 b1 b2 b3 b4 => by simp only [fm_cl_ap, b0, b1, b2, b3, b4, ↓reduceIte]) (fun j hj => by simp only [fm_cl_ap, fm_pt_ap, hj, ↓reduceIte, Nat.reduceEqDiff]) ⟨?_, ?_, ?_, ?_, ?_⟩ <;> simp only [fm_cl_ap, fm_pt_ap, ↓reduceIte, Nat.reduceEqDiff, Nat.reduceAdd, bf_0, bf_9, bf_1, bf_2, bf_3, z2, q1, q3, q4, q5]
          · have z3 : 200 ≤ y.n := by omega
            simp (disch := first | omega | exact Nat.le_of_ble_eq_true rfl) only [ob_0, ob_1, aw_2, ar_2, ob_3, aw_4, ar_4, aw_5, ar_5, ob_6, aw_7, ar_7, aw_8, ar_8, aw_9, ar_9, aw_10, ar_10, aw_11, ar_11, aw_12, ar_12, aw_13, ar_13, aw_14, ar_14, aw_15, ar_15, aw_16, ar_16, aw_17, ar_17, aw_18, ar_18, ob_19, aw_20, ar_20, aw_21, ar_21, aw_22, ar_22, aw_23, ar_23, aw_24, ar_24, ob_25, aw_26, ar_26, aw_27, ar_27, aw_28, ar_28, aw_29, ar_29, aw_30, ar_30, aw_31, ar_31, aw_32, ar_32, ob_33, aw_34, ar_34, aw_35, ar_35, aw_36, ar_36, aw_37, ar_37, aw_38, ar_38, aw_39, ar_39, aw_40, ar_40, aw_41, ar_41, aw_42, ar_42, ob_43, aw_44, ar_44, aw_45, ar_45, aw_46, ar_46, aw_47, ar_47, aw_48, ar_48, ob_49, aw_50, ar_50, aw_51, ar_51, aw_52, ar_52, aw_53, ar_53, aw_54, ar_54, ob_55, aw_56, ar_56, aw_57, ar_57, aw_58, ar_58, aw_59, ar_59, aw_60, ar_60, aw_61, ar_61, aw_62, ar_62, aw_63, ar_63, aw_64, ar_64, aw_65, ar_65, aw_66, ar_66, aw_67, ar_67, aw_68, ar_68, aw_69, ar_69, aw_70, ar_70, aw_71, ar_71, aw_72, ar_72, aw_73, ar_73, aw_74, ar_74, aw_75, ar_75, aw_76, ar_76, aw_77, ar_77, aw_78, ar_78, aw_79, ar_79, aw_80, ar_80, aw_81, ar_81, aw_82, ar_82, aw_83, ar_83, aw_84, ar_84, aw_85, ar_85, aw_86, ar_86, aw_87, ar_87, aw_88, ar_88, aw_89, ar_89, aw_90, ar_90, aw_91, ar_91, aw_92, ar_92, aw_93, ar_93, aw_94, ar_94, aw_95, ar_95, re_0_0, re_0_1, re_0_2, re_0_3, re_0_4, re_0_5, re_0_6, re_0_7, re_1_0, re_3_0, re_3_1, re_3_2, re_6_1, re_6_2, re_6_3, re_6_4, re_6_5, re_6_6, re_6_7, re_6_8, re_6_9, re_6_10, re_6_11, re_6_12, re_19_0, re_19_1, re_19_2, re_19_3, re_19_4, re_25_1, re_25_2, re_25_3, re_25_4, re_25_5, re_25_6, re_25_7, re_33_0, re_33_1, re_33_2, re_33_3, re_33_4, re_33_5, re_33_6, re_33_7, re_33_8, re_43_0, re_43_1, re_43_8, re_43_9, re_43_10, re_49_0, re_49_1, re_49_8, re_49_9, re_49_10, re_55_0, re_55_11, re_55_13, re_55_14, re_55_18, re_55_20, re_55_21, re_55_22, re_55_23, re_55_25, re_55_26, re_55_34, re_55_35, re_55_36, re_55_38, re_55_39, re_55_40, re_55_41, re_55_42, re_55_43, re_55_44, re_55_45, re_55_46, re_55_47, re_55_48, re_55_49, re_55_52, re_55_53, re_55_54, re_55_55, re_55_56, re_55_58, re_55_59, re_55_60, re_55_61, re_55_62, re_55_63, re_55_64, re_55_65, re_55_66, true_and, and_true, true_implies, false_implies, not_true_eq_false, not_false_eq_true, implies_true, and_self, false_and, and_false, or_true, true_or, or_false, false_or, ne_eq, Classical.not_not, inB_eq, inB_by, inB_bo, fm_nl_n, fm_nl_i, fm_nl_r, fm_same_self, Option.toList_some, Option.toList_none, List.cons_append, List.nil_append, Int.toNat_natCast, Int.cast_ofNat_Int, Int.natCast_nonneg, fm_cl_s, fm_pt_s, tn_1, tn_2, tn_3, tn_4, tn_5, wr_id, wl_id, ar_500, fm_cl_ap, fm_pt_ap, ↓reduceIte, lc_lt, lc_le, lc_gt, lc_ge, lc_eq, c92, Nat.reduceEqDiff, one_ne_zero, fm_l2i_id, Int.reduceNeg, eq_self, nrw_0, nrw_1, Int.reduceEq, Int.reduceLT, Int.reduceLE, Int.reduceAdd, Int.reduceSub, Int.reduceMul, Int.reduceToNat, z1, z4, q2, z3, hn0, x2, q133_0, q133_1, q133_2, q133_3, q133_4, q133_5, q133_7, q133_8, q133_10, q133_11, q133_14, q133_15, q133_18, q133_19, q133_20, q133_21, q133_25, q133_26, q133_29, q133_32, q133_34, q133_35, q133_36, q133_38, q133_40, q133_41, q133_42, q133_44, q133_45, q133_48, q133_50, q133_51, q133_54, q133_55, q133_56, q133_57, q133_60, q133_62, q133_63, q133_65, q133_68, q133_69, q133_72, q133_74, q133_75, q133_78, q133_80, q133_82, q133_85, q133_88, q133_91, q133_92, q133_94, q133_97, q133_98, q133_101, q133_103, q133_105, q133_108, q133_111, q133_112, q133_113, q133_116, q133_119, q133_121, q133_122, q133_125, q133_128, q133_129, q133_130, q133_133, q133_134, q133_135, q133_136, q133_137, q133_138, q133_139, q133_140, q133_143, q133_146, q133_149, q133_150, q133_153, q133_154, q133_157, q133_158, q133_161, q133_162, q133_163, q133_166, q133_167, q133_170, q133_171, q133_172, q133_173, q133_176, q133_177, q133_180, q133_182, q133_183, q133_184, q133_184i, q133_185, q133_188, q133_189, q133_190, q133_193, hbe]
            refine hK2' _ (fun b b0 b1 b2 b3 b4 => by simp only [fm_cl_ap, b0, b1, b2, b3, b4, ↓reduceIte]) (fun j hj => by simp only [fm_cl_ap, fm_pt_ap, hj, ↓reduceIte, Nat.reduceEqDiff]) ⟨?_, ?_, ?_, ?_, ?_⟩ <;> simp only [fm_cl_ap, fm_pt_ap, ↓reduceIte, Nat.reduceEqDiff, Nat.reduceAdd, bf_0, bf_9, bf_1, bf_2, bf_3, z2, q1, q3, q4, q5]
        · simp (disch := first | omega | exact Nat.le_of_ble_eq_true rfl) only [ob_0, ob_1, aw_2, ar_2, ob_3, aw_4, ar_4, aw_5, ar_5, ob_6, aw_7, ar_7, aw_8, ar_8, aw_9, ar_9, aw_10, ar_10, aw_11, ar_11, aw_12, ar_12, aw_13, ar_13, aw_14, ar_14, aw_15, ar_15, aw_16, ar_16, aw_17, ar_17, aw_18, ar_18, ob_19, aw_20, ar_20, aw_21, ar_21, aw_22, ar_22, aw_23, ar_23, aw_24, ar_24, ob_25, aw_26, ar_26, aw_27, ar_27, aw_28, ar_28, aw_29, ar_29, aw_30, ar_30, aw_31, ar_31, aw_32, ar_32, ob_33, aw_34, ar_34, aw_35, ar_35, aw_36, ar_36, aw_37, ar_37, aw_38, ar_38, aw_39, ar_39, aw_40, ar_40, aw_41, ar_41, aw_42, ar_42, ob_43, aw_44, ar_44, aw_45, ar_45, aw_46, ar_46, aw_47, ar_47, aw_48, ar_48, ob_49, aw_50, ar_50, aw_51, ar_51, aw_52, ar_52, aw_53, ar_53, aw_54, ar_54, ob_55, aw_56, ar_56, aw_57, ar_57, aw_58, ar_58, aw_59, ar_59, aw_60, ar_60, aw_61, ar_61, aw_62, ar_62, aw_63, ar_63, aw_64, ar_64, aw_65, ar_65, aw_66, ar_66, aw_67, ar_67, aw_68, ar_68, aw_69, ar_69, aw_70, ar_70, aw_71, ar_71, aw_72, ar_72, aw_73, ar_73, aw_74, ar_74, aw_75, ar_75, aw_76, ar_76, aw_77, ar_77, aw_78, ar_78, aw_79, ar_79, aw_80, ar_80, aw_81, ar_81, aw_82, ar_82, aw_83, ar_83, aw_84, ar_84, aw_85, ar_85, aw_86, ar_86, aw_87, ar_87, aw_88, ar_88, aw_89, ar_89, aw_90, ar_90, aw_91, ar_91, aw_92, ar_92, aw_93, ar_93, aw_94, ar_94, aw_95, ar_95, re_0_0, re_0_1, re_0_2, re_0_3, re_0_4, re_0_5, re_0_6, re_0_7, re_1_0, re_3_0, re_3_1, re_3_2, re_6_1, re_6_2, re_6_3, re_6_4, re_6_5, re_6_6, re_6_7, re_6_8, re_6_9, re_6_10, re_6_11, re_6_12, re_19_0, re_19_1, re_19_2, re_19_3, re_19_4, re_25_1, re_25_2, re_25_3, re_25_4, re_25_5, re_25_6, re_25_7, re_33_0, re_33_1, re_33_2, re_33_3, re_33_4, re_33_5, re_33_6, re_33_7, re_33_8, re_43_0, re_43_1, re_43_8, re_43_9, re_43_10, re_49_0, re_49_1, re_49_8, re_49_9, re_49_10, re_55_0, re_55_11, re_55_13, re_55_14, re_55_18, re_55_20, re_55_21, re_55_22, re_55_23, re_55_25, re_55_26, re_55_34, re_55_35, re_55_36, re_55_38, re_55_39, re_55_40, re_55_41, re_55_42, re_55_43, re_55_44, re_55_45, re_55_46, re_55_47, re_55_48, re_55_49, re_55_52, re_55_53, re_55_54, re_55_55, re_55_56, re_55_58, re_55_59, re_55_60, re_55_61, re_55_62, re_55_63, re_55_64, re_55_65, re_55_66, true_and, and_true, true_implies, false_implies, not_true_eq_false, not_false_eq_true, implies_true, and_self, false_and, and_false, or_true, true_or, or_false, false_or, ne_eq, Classical.not_not, inB_eq, inB_by, inB_bo, fm_nl_n, fm_nl_i, fm_nl_r, fm_same_self, Option.toList_some, Option.toList_none, List.cons_append, List.nil_append, Int.toNat_natCast, Int.cast_ofNat_Int, Int.natCast_nonneg, fm_cl_s, fm_pt_s, tn_1, tn_2, tn_3, tn_4, tn_5, wr_id, wl_id, ar_500, fm_cl_ap, fm_pt_ap, ↓reduceIte, lc_lt, lc_le, lc_gt, lc_ge, lc_eq, c92, Nat.reduceEqDiff, one_ne_zero, fm_l2i_id, Int.reduceNeg, eq_self, nrw_0, nrw_1, Int.reduceEq, Int.reduceLT, Int.reduceLE, Int.reduceAdd, Int.reduceSub, Int.reduceMul, Int.reduceToNat, z1, z4, q133_0, q133_1, q133_2, q133_3, q133_4, q133_5, q133_7, q133_8, q133_10, q133_11, q133_14, q133_15, q133_18, q133_19, q133_20, q133_21, q133_25, q133_26, q133_29, q133_32, q133_34, q133_35, q133_36, q133_38, q133_40, q133_41, q133_42, q133_44, q133_45, q133_48, q133_50, q133_51, q133_54, q133_55, q133_56, q133_57, q133_60, q133_62, q133_63, q133_65, q133_68, q133_69, q133_72, q133_74, q133_75, q133_78, q133_80, q133_82, q133_85, q133_88, q133_91, q133_92, q133_94, q133_97, q133_98, q133_101, q133_103, q133_105, q133_108, q133_111, q133_112, q133_113, q133_116, q133_119, q133_121, q133_122, q133_125, q133_128, q133_129, q133_130, q133_133, q133_134, q133_135, q133_136, q133_137, q133_138, q133_139, q133_140, q133_143, q133_146, q133_149, q133_150, q133_153, q133_154, q133_157, q133_158, q133_161, q133_162, q133_163, q133_166, q133_167, q133_170, q133_171, q133_172, q133_173, q133_176, q133_177, q133_180, q133_182, q133_183, q133_184, q133_184i, q133_185, q133_188, q133_189, q133_190, q133_193]
          exact hK1 (fun z => z.elim z1 z4)
  have st := lp 0 () (by omega) trivial none
  have e1 : (be : Int) - d + 1 = (a : Int) + ((0 : Nat) : Int) := by omega
  simp (disch := first | omega | exact Nat.le_of_ble_eq_true rfl) only [q133_0, q133_1, q133_2, q133_3, q133_4, q133_5, q133_7, q133_8, q133_10, q133_11, q133_14, q133_15, q133_18, q133_19, q133_20, q133_21, q133_25, q133_26, q133_29, q133_32, q133_34, q133_35, q133_36, q133_38, q133_40, q133_41, q133_42, q133_44, q133_45, q133_48, q133_50, q133_51, q133_54, q133_55, q133_56, q133_57, q133_60, q133_62, q133_63, q133_65, q133_68, q133_69, q133_72, q133_74, q133_75, q133_78, q133_80, q133_82, q133_85, q133_88, q133_91, q133_92, q133_94, q133_97, q133_98, q133_101, q133_103, q133_105, q133_108, q133_111, q133_112, q133_113, q133_116, q133_119, q133_121, q133_122, q133_125, q133_128, q133_129, q133_130, q133_133, q133_134, q133_135, q133_136, q133_137, q133_138, q133_139, q133_140, q133_143, q133_146, q133_149, q133_150, q133_153, q133_154, q133_157, q133_158, q133_161, q133_162, q133_163, q133_166, q133_167, q133_170, q133_171, q133_172, q133_173, q133_176, q133_177, q133_180, q133_182, q133_183, q133_184, q133_184i, q133_185, q133_188, q133_189, q133_190, q133_193, ob_0, ob_1, aw_2, ar_2, ob_3, aw_4, ar_4, aw_5, ar_5, ob_6, aw_7, ar_7, aw_8, ar_8, aw_9, ar_9, aw_10, ar_10, aw_11, ar_11, aw_12, ar_12, aw_13, ar_13, aw_14, ar_14, aw_15, ar_15, aw_16, ar_16, aw_17, ar_17, aw_18, ar_18, ob_19, aw_20, ar_20, aw_21, ar_21, aw_22, ar_22, aw_23, ar_23, aw_24, ar_24, ob_25, aw_26, ar_26, aw_27, ar_27, aw_28, ar_28, aw_29, ar_29, aw_30, ar_30, aw_31, ar_31, aw_32, ar_32, ob_33, aw_34, ar_34, aw_35, ar_35, aw_36, ar_36, aw_37, ar_37, aw_38, ar_38, aw_39, ar_39, aw_40, ar_40, aw_41, ar_41, aw_42, ar_42, ob_43, aw_44, ar_44, aw_45, ar_45, aw_46, ar_46, aw_47, ar_47, aw_48, ar_48, ob_49, aw_50, ar_50, aw_51, ar_51, aw_52, ar_52, aw_53, ar_53, aw_54, ar_54, ob_55, aw_56, ar_56, aw_57, ar_57, aw_58, ar_58, aw_59, ar_59, aw_60, ar_60, aw_61, ar_61, aw_62, ar_62, aw_63, ar_63, aw_64, ar_64, aw_65, ar_65, aw_66, ar_66, aw_67, ar_67, aw_68, ar_68, aw_69, ar_69, aw_70, ar_70, aw_71, ar_71, aw_72, ar_72, aw_73, ar_73, aw_74, ar_74, aw_75, ar_75, aw_76, ar_76, aw_77, ar_77, aw_78, ar_78, aw_79, ar_79, aw_80, ar_80, aw_81, ar_81, aw_82, ar_82, aw_83, ar_83, aw_84, ar_84, aw_85, ar_85, aw_86, ar_86, aw_87, ar_87, aw_88, ar_88, aw_89, ar_89, aw_90, ar_90, aw_91, ar_91, aw_92, ar_92, aw_93, ar_93, aw_94, ar_94, aw_95, ar_95, re_0_0, re_0_1, re_0_2, re_0_3, re_0_4, re_0_5, re_0_6, re_0_7, re_1_0, re_3_0, re_3_1, re_3_2, re_6_1, re_6_2, re_6_3, re_6_4, re_6_5, re_6_6, re_6_7, re_6_8, re_6_9, re_6_10, re_6_11, re_6_12, re_19_0, re_19_1, re_19_2, re_19_3, re_19_4, re_25_1, re_25_2, re_25_3, re_25_4, re_25_5, re_25_6, re_25_7, re_33_0, re_33_1, re_33_2, re_33_3, re_33_4, re_33_5, re_33_6, re_33_7, re_33_8, re_43_0, re_43_1, re_43_8, re_43_9, re_43_10, re_49_0, re_49_1, re_49_8, re_49_9, re_49_10, re_55_0, re_55_11, re_55_13, re_55_14, re_55_18, re_55_20, re_55_21, re_55_22, re_55_23, re_55_25, re_55_26, re_55_34, re_55_35, re_55_36, re_55_38, re_55_39, re_55_40, re_55_41, re_55_42, re_55_43, re_55_44, re_55_45, re_55_46, re_55_47, re_55_48, re_55_49, re_55_52, re_55_53, re_55_54, re_55_55, re_55_56, re_55_58, re_55_59, re_55_60, re_55_61, re_55_62, re_55_63, re_55_64, re_55_65, re_55_66, true_and, and_true, true_implies, false_implies, not_true_eq_false, not_false_eq_true, implies_true, and_self, false_and, and_false, or_true, true_or, or_false, false_or, ne_eq, Classical.not_not, inB_eq, inB_by, inB_bo, fm_nl_n, fm_nl_i, fm_nl_r, fm_same_self, Option.toList_some, Option.toList_none, List.cons_append, List.nil_append, Int.toNat_natCast, Int.cast_ofNat_Int, Int.natCast_nonneg, fm_cl_s, fm_pt_s, tn_1, tn_2, tn_3, tn_4, tn_5, wr_id, wl_id, ar_500, fm_cl_ap, fm_pt_ap, ↓reduceIte, lc_lt, lc_le, lc_gt, lc_ge, lc_eq, c92, Nat.reduceEqDiff, one_ne_zero, fm_l2i_id, Int.reduceNeg, eq_self, nrw_0, nrw_1, Int.reduceEq, Int.reduceLT, Int.reduceLE, Int.reduceAdd, Int.reduceSub, Int.reduceMul, Int.reduceToNat, hbe, hd, e1]
  exact st
end RESTS
