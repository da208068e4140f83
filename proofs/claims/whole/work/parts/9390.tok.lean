/-! ===== tokens ===== -/
def isB (x : Int) : Bool := decide (x = 32) || decide (x = 10)
def isL (x : Int) : Bool := decide (97 ≤ x) && decide (x ≤ 122)
def isD (x : Int) : Bool := decide (48 ≤ x) && decide (x ≤ 57)
def rung (P : Int → Bool) (b : Nat → Int) (len : Nat) : Nat → Nat → Nat
  | 0, p => p
  | f + 1, p => if p < len ∧ P (b p) = true then rung P b len f (p + 1) else p
/-- behind the run from p on -/
def rr (P : Int → Bool) (b : Nat → Int) (len p : Nat) : Nat := rung P b len (len - p) p
theorem rr_s {P : Int → Bool} {b : Nat → Int} {len p : Nat} : rr P b len p = if p < len ∧ P (b p) = true then rr P b len (p + 1) else p := by
  unfold rr
  by_cases e : p < len
  · rw [show len - p = (len - (p + 1)) + 1 by omega, rung]
  · rw [show len - p = 0 by omega, rung, if_neg (fun q => e q.1)]
theorem rr_yes {P : Int → Bool} {b : Nat → Int} {len p : Nat} (h : p < len) (h2 : P (b p) = true) : rr P b len p = rr P b len (p + 1) := by rw [rr_s, if_pos ⟨h, h2⟩]
theorem rr_no {P : Int → Bool} {b : Nat → Int} {len p : Nat} (h : ¬ (p < len ∧ P (b p) = true)) : rr P b len p = p := by rw [rr_s, if_neg h]
theorem rr_in {P : Int → Bool} {b : Nat → Int} {len : Nat} : ∀ (d p : Nat), len ≤ p + d → p ≤ len → p ≤ rr P b len p ∧ rr P b len p ≤ len ∧ ¬ (rr P b len p < len ∧ P (b (rr P b len p)) = true) ∧ ∀ x, p ≤ x → x < rr P b len p → P (b x) = true
  | 0, p, h1, h2 => by
    rw [rr_no (fun q => by omega)]
    exact ⟨by omega, by omega, fun q => by omega, fun x a b => by omega⟩
  | d + 1, p, h1, h2 => by
    by_cases e : p < len ∧ P (b p) = true
    · obtain ⟨i1, i2, i3, i4⟩ := rr_in (P := P) (b := b) (len := len) d (p + 1) (by omega) (by omega)
      rw [rr_yes e.1 e.2]
      refine ⟨by omega, i2, i3, fun x a1 a2 => ?_⟩
      by_cases z : x = p
      · rw [z]; exact e.2
      · exact i4 x (by omega) a2
    · rw [rr_no e]
      exact ⟨by omega, h2, e, fun x a b => by omega⟩
/-- a word's worth, a number's -/
def nmv (b : Nat → Int) (s : Nat) : Nat → Int
  | 0 => 0
  | k + 1 => if k < 8 then 32 * nmv b s k + (b (s + k) - 96) else nmv b s k
def dgv (b : Nat → Int) (s : Nat) : Nat → Int
  | 0 => 0
  | k + 1 => if 10 * dgv b s k + b (s + k) - 48 < 100000 then 10 * dgv b s k + b (s + k) - 48 else 100000
def dgr (b : Nat → Int) (s : Nat) : Nat → Int
  | 0 => 0
  | k + 1 => if 99999 < dgr b s k then 100000 else 10 * dgr b s k + b (s + k) - 48
def kwk (v : Int) : Int := if v = 24170600 then 6 else if v = 595572 then 7 else if v = 75148 then 8 else if v = 152972 then 9 else if v = 12748366 then 10 else if v = 12748404 then 11 else 2
def tkS (b : Nat → Int) (len p : Nat) : Nat := rr isB b len p
def tkE (b : Nat → Int) (len p : Nat) : Nat := if tkS b len p = len then len else if isL (b (tkS b len p)) = true then rr isL b len (tkS b len p) else if isD (b (tkS b len p)) = true then rr isD b len (tkS b len p) else tkS b len p + 1
def tkW (b : Nat → Int) (len p : Nat) : Int := nmv b (tkS b len p) (tkE b len p - tkS b len p)
def tkN (b : Nat → Int) (len p : Nat) : Int := dgv b (tkS b len p) (tkE b len p - tkS b len p)
def tkR (b : Nat → Int) (len p : Nat) : Int := dgr b (tkS b len p) (tkE b len p - tkS b len p)
def tkK (b : Nat → Int) (len p : Nat) : Int := if tkS b len p = len then 0 else if isL (b (tkS b len p)) = true then (if 8 < tkE b len p - tkS b len p then 1 else kwk (tkW b len p)) else if isD (b (tkS b len p)) = true then 3 else if b (tkS b len p) = 58 then 4 else if b (tkS b len p) = 59 then 5 else 1
theorem kwk_in {v : Int} : kwk v = 2 ∨ (6 ≤ kwk v ∧ kwk v ≤ 11) := by
  unfold kwk
  split <;> (try split) <;> (try split) <;> (try split) <;> (try split) <;> (try split) <;> omega
theorem isL_iff {x : Int} : isL x = true ↔ 97 ≤ x ∧ x ≤ 122 := by unfold isL; simp
theorem isD_iff {x : Int} : isD x = true ↔ 48 ≤ x ∧ x ≤ 57 := by unfold isD; simp
theorem isB_iff {x : Int} : isB x = true ↔ x = 32 ∨ x = 10 := by unfold isB; simp
theorem nmv_in {b : Nat → Int} {s : Nat} : ∀ k : Nat, (∀ j, j < k → isL (b (s + j)) = true) → 0 ≤ nmv b s k ∧ nmv b s k < 32 ^ (min k 8) ∧ (1 ≤ k → 32 ^ (min k 8 - 1) ≤ nmv b s k)
  | 0, _ => by simp [nmv]
  | k + 1, h => by
    obtain ⟨i1, i2, i3⟩ := nmv_in (b := b) (s := s) k (fun j hj => h j (by omega))
    have hk := isL_iff.mp (h k (by omega))
    unfold nmv
    by_cases e : k < 8
    · rw [if_pos e]
      have m1 : min (k + 1) 8 = k + 1 := by omega
      have m2 : min k 8 = k := by omega
      rw [m1]
      rw [m2] at i2 i3
      have p1 : (32 : Int) ^ (k + 1) = 32 ^ k * 32 := Int.pow_succ ..
      refine ⟨by omega, by omega, fun _ => ?_⟩
      rw [Nat.add_sub_cancel]
      by_cases e0 : k = 0
      · subst e0
        rw [Nat.add_zero] at hk
        simp [nmv]
        omega
      · have := i3 (by omega)
        have p2 : (32 : Int) ^ k = 32 ^ (k - 1) * 32 := by
          obtain ⟨k', rfl⟩ : ∃ k', k = k' + 1 := ⟨k - 1, by omega⟩
          exact Int.pow_succ ..
        omega
    · rw [if_neg e]
      have m1 : min (k + 1) 8 = 8 := by omega
      have m2 : min k 8 = 8 := by omega
      rw [m1]
      rw [m2] at i2 i3
      exact ⟨i1, i2, fun _ => i3 (by omega)⟩
theorem dg_in {b : Nat → Int} {s : Nat} : ∀ k : Nat, (∀ j, j < k → isD (b (s + j)) = true) → 0 ≤ dgv b s k ∧ dgv b s k ≤ 100000 ∧ 0 ≤ dgr b s k ∧ dgr b s k ≤ 1000000 ∧ (dgr b s k ≤ 99999 → dgv b s k = dgr b s k) ∧ (99999 < dgr b s k → dgv b s k = 100000)
  | 0, _ => by simp [dgv, dgr]
  | k + 1, h => by
    obtain ⟨i1, i2, i3, i4, i5, i6⟩ := dg_in (b := b) (s := s) k (fun j hj => h j (by omega))
    have hk := isD_iff.mp (h k (by omega))
    unfold dgv dgr
    by_cases e : 99999 < dgr b s k
    · have e1 := i6 e
      rw [if_pos e, if_neg (by omega)]
      omega
    · have e1 := i5 (by omega)
      rw [if_neg e, e1]
      split <;> omega
section TOKP
variable {b : Nat → Int} {len p : Nat}
theorem tk_in (hp : p ≤ len) : p ≤ tkS b len p ∧ tkS b len p ≤ len ∧ tkS b len p ≤ tkE b len p ∧ tkE b len p ≤ len ∧ (tkS b len p < len → tkS b len p < tkE b len p) := by
  obtain ⟨a1, a2, a3, a4⟩ := rr_in (P := isB) (b := b) (len := len) len p (by omega) hp
  have e1 : tkS b len p = rr isB b len p := rfl
  rw [← e1] at a1 a2 a3
  refine ⟨a1, a2, ?_⟩
  unfold tkE
  split
  · omega
  · rename_i ne
    split
    · rename_i hl
      have l := rr_in (P := isL) (b := b) (len := len) len (tkS b len p) (by omega) a2
      have y := rr_yes (P := isL) (b := b) (len := len) (p := tkS b len p) (by omega) hl
      have l2 := rr_in (P := isL) (b := b) (len := len) len (tkS b len p + 1) (by omega) (by omega)
      rw [y]
      omega
    · split
      · rename_i hl
        have y := rr_yes (P := isD) (b := b) (len := len) (p := tkS b len p) (by omega) hl
        have l2 := rr_in (P := isD) (b := b) (len := len) len (tkS b len p + 1) (by omega) (by omega)
        rw [y]
        omega
      · omega
/-- a word: its letters -/
theorem tk_word (hp : p ≤ len) (h1 : tkS b len p ≠ len) (h2 : isL (b (tkS b len p)) = true) : tkE b len p = rr isL b len (tkS b len p) ∧ ∀ j, j < tkE b len p - tkS b len p → isL (b (tkS b len p + j)) = true := by
  have e : tkE b len p = rr isL b len (tkS b len p) := by unfold tkE; rw [if_neg h1, if_pos h2]
  refine ⟨e, fun j hj => ?_⟩
  have t := tk_in (b := b) hp
  have l := rr_in (P := isL) (b := b) (len := len) len (tkS b len p) (by omega) t.2.1
  exact l.2.2.2 _ (by omega) (by omega)
theorem tk_num (hp : p ≤ len) (h1 : tkS b len p ≠ len) (h3 : isD (b (tkS b len p)) = true) : tkE b len p = rr isD b len (tkS b len p) ∧ ∀ j, j < tkE b len p - tkS b len p → isD (b (tkS b len p + j)) = true := by
  have h2 : ¬ isL (b (tkS b len p)) = true := by
    rw [isL_iff]; have := isD_iff.mp h3; omega
  have e : tkE b len p = rr isD b len (tkS b len p) := by unfold tkE; rw [if_neg h1, if_neg h2, if_pos h3]
  refine ⟨e, fun j hj => ?_⟩
  have t := tk_in (b := b) hp
  have l := rr_in (P := isD) (b := b) (len := len) len (tkS b len p) (by omega) t.2.1
  exact l.2.2.2 _ (by omega) (by omega)
end TOKP
section TOKC
variable {I L : Nat → Nat → Int} {p q n : Nat} {K : Option fm_V → fm_S → Prop}
set_option maxRecDepth 20000 in
set_option maxHeartbeats 4000000 in
/-- the class: byteAt -/
theorem c52 {b : Nat → Int} {len x : Nat} (hb : ∀ j, I 2 j = b j % 256 ∧ -128 ≤ b j ∧ b j ≤ 127) (hl : I 1 1 = len) (hl4 : len ≤ 400) :
    (x < len → ∀ K : Option fm_V → fm_S → Prop, fm_wp 52 (0, [some (.inr (.inr (some 1))), some (.inl (x : Int))], [], (I, L, fm_refs p q, 96, n)) K ↔ K (some (.inl (b x % 256))) (I, L, fm_refs p q, 96, n)) ∧ (¬ x < len → x ≤ 1000 → ∀ K : Option fm_V → fm_S → Prop, fm_wp 52 (0, [some (.inr (.inr (some 1))), some (.inl (x : Int))], [], (I, L, fm_refs p q, 96, n)) K ↔ K (some (.inl (-1))) (I, L, fm_refs p q, 96, n)) := by
  refine ⟨fun hx K => ?_, fun hx hx2 K => ?_⟩
  · have x1 : ¬ (x : Int) < 0 := by omega
    have x2 : ¬ (len : Int) ≤ x := by omega
    have x3 : ¬ (400 : Int) ≤ x := by omega
    have x4 : (x : Int) < 400 := by omega
    have e := (hb x).1
    simp (disch := first | omega | exact Nat.le_of_ble_eq_true rfl) only [q52_0, q52_1, q52_4, q52_5, q52_6, q52_9, q52_12, q52_13, q52_14, q52_18, q52_21, q52_22, q52_25, q52_26, q52_27, q52_30, q52_31, q52_17 ar_2, ob_0, ob_1, aw_2, ar_2, ob_3, aw_4, ar_4, aw_5, ar_5, ob_6, aw_7, ar_7, aw_8, ar_8, aw_9, ar_9, aw_10, ar_10, aw_11, ar_11, aw_12, ar_12, aw_13, ar_13, aw_14, ar_14, aw_15, ar_15, aw_16, ar_16, aw_17, ar_17, aw_18, ar_18, ob_19, aw_20, ar_20, aw_21, ar_21, aw_22, ar_22, aw_23, ar_23, aw_24, ar_24, ob_25, aw_26, ar_26, aw_27, ar_27, aw_28, ar_28, aw_29, ar_29, aw_30, ar_30, aw_31, ar_31, aw_32, ar_32, ob_33, aw_34, ar_34, aw_35, ar_35, aw_36, ar_36, aw_37, ar_37, aw_38, ar_38, aw_39, ar_39, aw_40, ar_40, aw_41, ar_41, aw_42, ar_42, ob_43, aw_44, ar_44, aw_45, ar_45, aw_46, ar_46, aw_47, ar_47, aw_48, ar_48, ob_49, aw_50, ar_50, aw_51, ar_51, aw_52, ar_52, aw_53, ar_53, aw_54, ar_54, ob_55, aw_56, ar_56, aw_57, ar_57, aw_58, ar_58, aw_59, ar_59, aw_60, ar_60, aw_61, ar_61, aw_62, ar_62, aw_63, ar_63, aw_64, ar_64, aw_65, ar_65, aw_66, ar_66, aw_67, ar_67, aw_68, ar_68, aw_69, ar_69, aw_70, ar_70, aw_71, ar_71, aw_72, ar_72, aw_73, ar_73, aw_74, ar_74, aw_75, ar_75, aw_76, ar_76, aw_77, ar_77, aw_78, ar_78, aw_79, ar_79, aw_80, ar_80, aw_81, ar_81, aw_82, ar_82, aw_83, ar_83, aw_84, ar_84, aw_85, ar_85, aw_86, ar_86, aw_87, ar_87, aw_88, ar_88, aw_89, ar_89, aw_90, ar_90, aw_91, ar_91, aw_92, ar_92, aw_93, ar_93, aw_94, ar_94, aw_95, ar_95, re_0_0, re_0_1, re_0_2, re_0_3, re_0_4, re_0_5, re_0_6, re_0_7, re_1_0, re_3_0, re_3_1, re_3_2, re_6_1, re_6_2, re_6_3, re_6_4, re_6_5, re_6_6, re_6_7, re_6_8, re_6_9, re_6_10, re_6_11, re_6_12, re_19_0, re_19_1, re_19_2, re_19_3, re_19_4, re_25_1, re_25_2, re_25_3, re_25_4, re_25_5, re_25_6, re_25_7, re_33_0, re_33_1, re_33_2, re_33_3, re_33_4, re_33_5, re_33_6, re_33_7, re_33_8, re_43_0, re_43_1, re_43_8, re_43_9, re_43_10, re_49_0, re_49_1, re_49_8, re_49_9, re_49_10, re_55_0, re_55_11, re_55_13, re_55_14, re_55_18, re_55_20, re_55_21, re_55_22, re_55_23, re_55_25, re_55_26, re_55_34, re_55_35, re_55_36, re_55_38, re_55_39, re_55_40, re_55_41, re_55_42, re_55_43, re_55_44, re_55_45, re_55_46, re_55_47, re_55_48, re_55_49, re_55_52, re_55_53, re_55_54, re_55_55, re_55_56, re_55_58, re_55_59, re_55_60, re_55_61, re_55_62, re_55_63, re_55_64, re_55_65, re_55_66, true_and, and_true, true_implies, false_implies, not_true_eq_false, not_false_eq_true, implies_true, and_self, false_and, and_false, or_true, true_or, or_false, false_or, ne_eq, Classical.not_not, inB_eq, inB_by, inB_bo, fm_nl_n, fm_nl_i, fm_nl_r, fm_same_self, Option.toList_some, Option.toList_none, List.cons_append, List.nil_append, Int.toNat_natCast, Int.cast_ofNat_Int, Int.natCast_nonneg, fm_cl_s, fm_pt_s, tn_1, tn_2, tn_3, tn_4, tn_5, wr_id, wl_id, ar_500, fm_cl_ap, fm_pt_ap, ↓reduceIte, lc_lt, lc_le, lc_gt, lc_ge, lc_eq, c92, Nat.reduceEqDiff, one_ne_zero, fm_l2i_id, Int.reduceNeg, eq_self, nrw_0, nrw_1, Int.reduceEq, Int.reduceLT, Int.reduceLE, Int.reduceAdd, Int.reduceSub, Int.reduceMul, Int.reduceToNat, x1, x2, x3, x4, hl, e]
  · have x1 : ¬ (x : Int) < 0 := by omega
    have x2 : (len : Int) ≤ x := by omega
    simp (disch := first | omega | exact Nat.le_of_ble_eq_true rfl) only [q52_0, q52_1, q52_4, q52_5, q52_6, q52_9, q52_12, q52_13, q52_14, q52_18, q52_21, q52_22, q52_25, q52_26, q52_27, q52_30, q52_31, q52_17 ar_2, ob_0, ob_1, aw_2, ar_2, ob_3, aw_4, ar_4, aw_5, ar_5, ob_6, aw_7, ar_7, aw_8, ar_8, aw_9, ar_9, aw_10, ar_10, aw_11, ar_11, aw_12, ar_12, aw_13, ar_13, aw_14, ar_14, aw_15, ar_15, aw_16, ar_16, aw_17, ar_17, aw_18, ar_18, ob_19, aw_20, ar_20, aw_21, ar_21, aw_22, ar_22, aw_23, ar_23, aw_24, ar_24, ob_25, aw_26, ar_26, aw_27, ar_27, aw_28, ar_28, aw_29, ar_29, aw_30, ar_30, aw_31, ar_31, aw_32, ar_32, ob_33, aw_34, ar_34, aw_35, ar_35, aw_36, ar_36, aw_37, ar_37, aw_38, ar_38, aw_39, ar_39, aw_40, ar_40, aw_41, ar_41, aw_42, ar_42, ob_43, aw_44, ar_44, aw_45, ar_45, aw_46, ar_46, aw_47, ar_47, aw_48, ar_48, ob_49, aw_50, ar_50, aw_51, ar_51, aw_52, ar_52, aw_53, ar_53, aw_54, ar_54, ob_55, aw_56, ar_56, aw_57, ar_57, aw_58, ar_58, aw_59, ar_59, aw_60, ar_60, aw_61, ar_61, aw_62, ar_62, aw_63, ar_63, aw_64, ar_64, aw_65, ar_65, aw_66, ar_66, aw_67, ar_67, aw_68, ar_68, aw_69, ar_69, aw_70, ar_70, aw_71, ar_71, aw_72, ar_72, aw_73, ar_73, aw_74, ar_74, aw_75, ar_75, aw_76, ar_76, aw_77, ar_77, aw_78, ar_78, aw_79, ar_79, aw_80, ar_80, aw_81, ar_81, aw_82, ar_82, aw_83, ar_83, aw_84, ar_84, aw_85, ar_85, aw_86, ar_86, aw_87, ar_87, aw_88, ar_88, aw_89, ar_89, aw_90, ar_90, aw_91, ar_91, aw_92, ar_92, aw_93, ar_93, aw_94, ar_94, aw_95, ar_95, re_0_0, re_0_1, re_0_2, re_0_3, re_0_4, re_0_5, re_0_6, re_0_7, re_1_0, re_3_0, re_3_1, re_3_2, re_6_1, re_6_2, re_6_3, re_6_4, re_6_5, re_6_6, re_6_7, re_6_8, re_6_9, re_6_10, re_6_11, re_6_12, re_19_0, re_19_1, re_19_2, re_19_3, re_19_4, re_25_1, re_25_2, re_25_3, re_25_4, re_25_5, re_25_6, re_25_7, re_33_0, re_33_1, re_33_2, re_33_3, re_33_4, re_33_5, re_33_6, re_33_7, re_33_8, re_43_0, re_43_1, re_43_8, re_43_9, re_43_10, re_49_0, re_49_1, re_49_8, re_49_9, re_49_10, re_55_0, re_55_11, re_55_13, re_55_14, re_55_18, re_55_20, re_55_21, re_55_22, re_55_23, re_55_25, re_55_26, re_55_34, re_55_35, re_55_36, re_55_38, re_55_39, re_55_40, re_55_41, re_55_42, re_55_43, re_55_44, re_55_45, re_55_46, re_55_47, re_55_48, re_55_49, re_55_52, re_55_53, re_55_54, re_55_55, re_55_56, re_55_58, re_55_59, re_55_60, re_55_61, re_55_62, re_55_63, re_55_64, re_55_65, re_55_66, true_and, and_true, true_implies, false_implies, not_true_eq_false, not_false_eq_true, implies_true, and_self, false_and, and_false, or_true, true_or, or_false, false_or, ne_eq, Classical.not_not, inB_eq, inB_by, inB_bo, fm_nl_n, fm_nl_i, fm_nl_r, fm_same_self, Option.toList_some, Option.toList_none, List.cons_append, List.nil_append, Int.toNat_natCast, Int.cast_ofNat_Int, Int.natCast_nonneg, fm_cl_s, fm_pt_s, tn_1, tn_2, tn_3, tn_4, tn_5, wr_id, wl_id, ar_500, fm_cl_ap, fm_pt_ap, ↓reduceIte, lc_lt, lc_le, lc_gt, lc_ge, lc_eq, c92, Nat.reduceEqDiff, one_ne_zero, fm_l2i_id, Int.reduceNeg, eq_self, nrw_0, nrw_1, Int.reduceEq, Int.reduceLT, Int.reduceLE, Int.reduceAdd, Int.reduceSub, Int.reduceMul, Int.reduceToNat, x1, x2, hl]
end TOKC
