theorem rem_nat {a d : Nat} (ha : a < 2147483648) (h0 : 0 < d) (hd : d < 2147483648) : fm_rem (a : Int) (d : Int) = ((a % d : Nat) : Int) := by
  unfold fm_rem
  show (nI a - nI a / nI d * nI d).toInt = _
  rw [pk_rem (by omega) h0 (by omega)]
  have : a % d < d := Nat.mod_lt _ h0
  exact nI_toInt (by omega)
theorem div_nat {a d : Nat} (ha : a < 2147483648) (h0 : 0 < d) (hd : d < 2147483648) : fm_div (a : Int) (d : Int) = ((a / d : Nat) : Int) := by
  unfold fm_div
  show (nI a / nI d).toInt = _
  rw [pk_div (by omega) h0 (by omega)]
  have : a / d ≤ a := Nat.div_le_self _ _
  exact nI_toInt (by omega)
/-- the watch of a bell, r bells behind the begin of span k, d spans left -/
def iv_wat (sw sb : Nat → Int) : Nat → Nat → Int → Int
  | 0, _, _ => -1
  | d + 1, k, r => if r < sb k then sw k else iv_wat sw sb d (k + 1) (r - sb k)
theorem iv_wat_congr {sw sb sw' sb' : Nat → Int} : ∀ (d k : Nat) (r : Int), (∀ j, k ≤ j → j < k + d → sw' j = sw j ∧ sb' j = sb j) → iv_wat sw' sb' d k r = iv_wat sw sb d k r
  | 0, _, _, _ => rfl
  | d + 1, k, r, h => by
    obtain ⟨h1, h2⟩ := h k (by omega) (by omega)
    unfold iv_wat
    rw [h1, h2, iv_wat_congr d (k + 1) (r - sb k) (fun j a b => h j (by omega) (by omega))]
theorem iv_sum_congr {b b' : Nat → Int} : ∀ k : Nat, (∀ j, j < k → b' j = b j) → iv_sum b' k = iv_sum b k
  | 0, _ => rfl
  | k + 1, h => by
    unfold iv_sum
    rw [iv_sum_congr k (fun j hj => h j (by omega)), h k (by omega)]
theorem iv_sum_le {b : Nat → Int} : ∀ k : Nat, (∀ j, j < k → 1 ≤ b j ∧ b j ≤ 48) → (k : Int) ≤ iv_sum b k ∧ iv_sum b k ≤ 48 * k
  | 0, _ => by simp [iv_sum]
  | k + 1, h => by
    have h1 := iv_sum_le k (fun j hj => h j (by omega))
    have h2 := h k (by omega)
    unfold iv_sum
    omega
theorem iv_sum_mono {b : Nat → Int} (m : Nat) (h : ∀ j, j < m → 1 ≤ b j ∧ b j ≤ 48) : ∀ k : Nat, k ≤ m → iv_sum b k ≤ iv_sum b m := by
  intro k hk
  induction m with
  | zero => rw [show k = 0 by omega]; exact Int.le_refl _
  | succ m ih =>
    by_cases e : k = m + 1
    · rw [e]; exact Int.le_refl _
    · have h1 := ih (fun j hj => h j (by omega)) (by omega)
      have h2 := h m (by omega)
      show _ ≤ iv_sum b m + b m
      omega
theorem iv_wat_in {sw sb : Nat → Int} : ∀ (d k : Nat) (r : Int), 0 ≤ r → r < iv_sum (fun j => sb (k + j)) d → ∃ j, k ≤ j ∧ j < k + d ∧ iv_wat sw sb d k r = sw j
  | 0, k, r, h0, h => by simp [iv_sum] at h; omega
  | d + 1, k, r, h0, h => by
    unfold iv_wat
    split
    · exact ⟨k, by omega, by omega, rfl⟩
    · have e : iv_sum (fun j => sb (k + j)) (d + 1) = sb k + iv_sum (fun j => sb (k + 1 + j)) d := by
        clear h
        induction d with
        | zero => simp [iv_sum]
        | succ d ih =>
          rw [iv_sum, ih, iv_sum]
          have : k + (d + 1) = k + 1 + d := by omega
          simp only [this]
          omega
      rw [e] at h
      obtain ⟨j, g1, g2, g3⟩ := iv_wat_in (sw := sw) (sb := sb) d (k + 1) (r - sb k) (by omega) (by omega)
      exact ⟨j, by omega, by omega, g3⟩
section WATCH
variable {I L : Nat → Nat → Int} {p q n : Nat} {K : Option fm_V → fm_S → Prop}
set_option maxRecDepth 20000 in
/-- the class: Plan.watchAt -/
theorem c39 {t m : Nat} (hp : p = 43 ∧ q = 49 ∨ p = 49 ∧ q = 43) (ht : t < 100000) (hm : I p 2 = m) (h1 : 1 ≤ m) (h12 : m ≤ 12) (hr : I p 3 = iv_sum (I (p + 2)) m) (hb : ∀ k, k < m → 1 ≤ I (p + 2) k ∧ I (p + 2) k ≤ 48)
    (hK : K (some (.inl (iv_wat (I (p + 1)) (I (p + 2)) m 0 ((t : Int) % iv_sum (I (p + 2)) m)))) (I, L, fm_refs p q, 96, n)) :
    fm_wp 39 (0, [some (.inr (.inr (some p))), some (.inl (t : Int)), none, none], [], (I, L, fm_refs p q, 96, n)) K := by
  have hs := iv_sum_le m hb
  obtain ⟨s, hse⟩ : ∃ s : Nat, iv_sum (I (p + 2)) m = s := ⟨(iv_sum (I (p + 2)) m).toNat, by omega⟩
  have hs0 : 0 < s := by omega
  have hrem : fm_rem (t : Int) (s : Int) = ((t % s : Nat) : Int) := rem_nat (by omega) hs0 (by omega)
  have hmod : t % s < s := Nat.mod_lt _ hs0
  have hcast : (t : Int) % (s : Int) = ((t % s : Nat) : Int) := by omega
  have loop : ∀ (k : Nat) (r : Int), k ≤ m → (0 ≤ r ∧ r < 1000 ∧ iv_wat (I (p + 1)) (I (p + 2)) (m - k) k r = iv_wat (I (p + 1)) (I (p + 2)) m 0 ((t % s : Nat) : Int)) → fm_wp 39 (23, [some (.inr (.inr (some p))), some (.inl (t : Int)), some (.inl r), some (.inl (k : Int))], [], (I, L, fm_refs p q, 96, n)) K := by
    refine wp_for m (fun k r => fm_wp 39 (23, [some (.inr (.inr (some p))), some (.inl (t : Int)), some (.inl r), some (.inl (k : Int))], [], (I, L, fm_refs p q, 96, n)) K) (fun k r => 0 ≤ r ∧ r < 1000 ∧ iv_wat (I (p + 1)) (I (p + 2)) (m - k) k r = iv_wat (I (p + 1)) (I (p + 2)) m 0 ((t % s : Nat) : Int)) ?_ ?_
    · intro k r hk hP ih
      obtain ⟨p1, p2, p3⟩ := hP
      have hbk := hb k hk
      have hk12 : (k : Int) < 12 := by omega
      have hkm : ¬ (m : Int) ≤ k := by omega
      rw [show m - k = (m - (k + 1)) + 1 by omega, iv_wat] at p3
      rcases hp with ⟨rfl, rfl⟩ | ⟨rfl, rfl⟩ <;> simp only [Nat.reduceAdd] at *
      all_goals
        rw [q39_23]
        simp (disch := first | omega | exact Nat.le_of_ble_eq_true rfl) only [q39_0, q39_1, q39_4, q39_5, q39_8, q39_9, q39_12, q39_13, q39_14, q39_15, q39_16, q39_19, q39_20, q39_21, q39_22, q39_24, q39_25, q39_28, q39_31, q39_32, q39_33, q39_36, q39_37, q39_38, q39_41, q39_42, q39_45, q39_46, q39_47, q39_48, q39_49, q39_50, q39_53, q39_54, q39_55, q39_56, q39_57, q39_60, q39_63, q39_64, ob_0, ob_1, aw_2, ar_2, ob_3, aw_4, ar_4, aw_5, ar_5, ob_6, aw_7, ar_7, aw_8, ar_8, aw_9, ar_9, aw_10, ar_10, aw_11, ar_11, aw_12, ar_12, aw_13, ar_13, aw_14, ar_14, aw_15, ar_15, aw_16, ar_16, aw_17, ar_17, aw_18, ar_18, ob_19, aw_20, ar_20, aw_21, ar_21, aw_22, ar_22, aw_23, ar_23, aw_24, ar_24, ob_25, aw_26, ar_26, aw_27, ar_27, aw_28, ar_28, aw_29, ar_29, aw_30, ar_30, aw_31, ar_31, aw_32, ar_32, ob_33, aw_34, ar_34, aw_35, ar_35, aw_36, ar_36, aw_37, ar_37, aw_38, ar_38, aw_39, ar_39, aw_40, ar_40, aw_41, ar_41, aw_42, ar_42, ob_43, aw_44, ar_44, aw_45, ar_45, aw_46, ar_46, aw_47, ar_47, aw_48, ar_48, ob_49, aw_50, ar_50, aw_51, ar_51, aw_52, ar_52, aw_53, ar_53, aw_54, ar_54, ob_55, aw_56, ar_56, aw_57, ar_57, aw_58, ar_58, aw_59, ar_59, aw_60, ar_60, aw_61, ar_61, aw_62, ar_62, aw_63, ar_63, aw_64, ar_64, aw_65, ar_65, aw_66, ar_66, aw_67, ar_67, aw_68, ar_68, aw_69, ar_69, aw_70, ar_70, aw_71, ar_71, aw_72, ar_72, aw_73, ar_73, aw_74, ar_74, aw_75, ar_75, aw_76, ar_76, aw_77, ar_77, aw_78, ar_78, aw_79, ar_79, aw_80, ar_80, aw_81, ar_81, aw_82, ar_82, aw_83, ar_83, aw_84, ar_84, aw_85, ar_85, aw_86, ar_86, aw_87, ar_87, aw_88, ar_88, aw_89, ar_89, aw_90, ar_90, aw_91, ar_91, aw_92, ar_92, aw_93, ar_93, aw_94, ar_94, aw_95, ar_95, re_0_0, re_0_1, re_0_2, re_0_3, re_0_4, re_0_5, re_0_6, re_0_7, re_1_0, re_3_0, re_3_1, re_3_2, re_6_1, re_6_2, re_6_3, re_6_4, re_6_5, re_6_6, re_6_7, re_6_8, re_6_9, re_6_10, re_6_11, re_6_12, re_19_0, re_19_1, re_19_2, re_19_3, re_19_4, re_25_1, re_25_2, re_25_3, re_25_4, re_25_5, re_25_6, re_25_7, re_33_0, re_33_1, re_33_2, re_33_3, re_33_4, re_33_5, re_33_6, re_33_7, re_33_8, re_43_0, re_43_1, re_43_8, re_43_9, re_43_10, re_49_0, re_49_1, re_49_8, re_49_9, re_49_10, re_55_0, re_55_11, re_55_13, re_55_14, re_55_18, re_55_20, re_55_21, re_55_22, re_55_23, re_55_25, re_55_26, re_55_34, re_55_35, re_55_36, re_55_38, re_55_39, re_55_40, re_55_41, re_55_42, re_55_43, re_55_44, re_55_45, re_55_46, re_55_47, re_55_48, re_55_49, re_55_52, re_55_53, re_55_54, re_55_55, re_55_56, re_55_58, re_55_59, re_55_60, re_55_61, re_55_62, re_55_63, re_55_64, re_55_65, re_55_66, true_and, and_true, true_implies, false_implies, not_true_eq_false, not_false_eq_true, implies_true, and_self, false_and, and_false, or_true, true_or, or_false, false_or, ne_eq, Classical.not_not, inB_eq, inB_by, inB_bo, fm_nl_n, fm_nl_i, fm_nl_r, fm_same_self, Option.toList_some, Option.toList_none, List.cons_append, List.nil_append, Int.toNat_natCast, Int.cast_ofNat_Int, Int.natCast_nonneg, fm_cl_s, fm_pt_s, tn_1, tn_2, tn_3, tn_4, tn_5, wr_id, wl_id, ar_500, fm_cl_ap, fm_pt_ap, ↓reduceIte, lc_lt, lc_le, lc_gt, lc_ge, lc_eq, c92, Nat.reduceEqDiff, one_ne_zero, fm_l2i_id, Int.reduceNeg, eq_self, nrw_0, nrw_1, Int.reduceEq, Int.reduceLT, Int.reduceLE, Int.reduceAdd, Int.reduceSub, Int.reduceMul, Int.reduceToNat, hm, hkm, hk12]
        refine ⟨fun hge => ?_, fun hlt => ?_⟩
        · rw [if_neg (by omega)] at p3
          have := ih _ ⟨by omega, by omega, p3⟩
          rw [show ((k + 1 : Nat) : Int) = (k : Int) + 1 by omega] at this
          exact this
        · rw [if_pos (by omega)] at p3
          rw [hse, hcast, ← p3] at hK
          exact hK
    · intro r hP
      obtain ⟨p1, p2, p3⟩ := hP
      rw [Nat.sub_self, iv_wat] at p3
      rcases hp with ⟨rfl, rfl⟩ | ⟨rfl, rfl⟩ <;> simp only [Nat.reduceAdd] at *
      all_goals
        rw [q39_23]
        simp (disch := first | omega | exact Nat.le_of_ble_eq_true rfl) only [q39_0, q39_1, q39_4, q39_5, q39_8, q39_9, q39_12, q39_13, q39_14, q39_15, q39_16, q39_19, q39_20, q39_21, q39_22, q39_24, q39_25, q39_28, q39_31, q39_32, q39_33, q39_36, q39_37, q39_38, q39_41, q39_42, q39_45, q39_46, q39_47, q39_48, q39_49, q39_50, q39_53, q39_54, q39_55, q39_56, q39_57, q39_60, q39_63, q39_64, ob_0, ob_1, aw_2, ar_2, ob_3, aw_4, ar_4, aw_5, ar_5, ob_6, aw_7, ar_7, aw_8, ar_8, aw_9, ar_9, aw_10, ar_10, aw_11, ar_11, aw_12, ar_12, aw_13, ar_13, aw_14, ar_14, aw_15, ar_15, aw_16, ar_16, aw_17, ar_17, aw_18, ar_18, ob_19, aw_20, ar_20, aw_21, ar_21, aw_22, ar_22, aw_23, ar_23, aw_24, ar_24, ob_25, aw_26, ar_26, aw_27, ar_27, aw_28, ar_28, aw_29, ar_29, aw_30, ar_30, aw_31, ar_31, aw_32, ar_32, ob_33, aw_34, ar_34, aw_35, ar_35, aw_36, ar_36, aw_37, ar_37, aw_38, ar_38, aw_39, ar_39, aw_40, ar_40, aw_41, ar_41, aw_42, ar_42, ob_43, aw_44, ar_44, aw_45, ar_45, aw_46, ar_46, aw_47, ar_47, aw_48, ar_48, ob_49, aw_50, ar_50, aw_51, ar_51, aw_52, ar_52, aw_53, ar_53, aw_54, ar_54, ob_55, aw_56, ar_56, aw_57, ar_57, aw_58, ar_58, aw_59, ar_59, aw_60, ar_60, aw_61, ar_61, aw_62, ar_62, aw_63, ar_63, aw_64, ar_64, aw_65, ar_65, aw_66, ar_66, aw_67, ar_67, aw_68, ar_68, aw_69, ar_69, aw_70, ar_70, aw_71, ar_71, aw_72, ar_72, aw_73, ar_73, aw_74, ar_74, aw_75, ar_75, aw_76, ar_76, aw_77, ar_77, aw_78, ar_78, aw_79, ar_79, aw_80, ar_80, aw_81, ar_81, aw_82, ar_82, aw_83, ar_83, aw_84, ar_84, aw_85, ar_85, aw_86, ar_86, aw_87, ar_87, aw_88, ar_88, aw_89, ar_89, aw_90, ar_90, aw_91, ar_91, aw_92, ar_92, aw_93, ar_93, aw_94, ar_94, aw_95, ar_95, re_0_0, re_0_1, re_0_2, re_0_3, re_0_4, re_0_5, re_0_6, re_0_7, re_1_0, re_3_0, re_3_1, re_3_2, re_6_1, re_6_2, re_6_3, re_6_4, re_6_5, re_6_6, re_6_7, re_6_8, re_6_9, re_6_10, re_6_11, re_6_12, re_19_0, re_19_1, re_19_2, re_19_3, re_19_4, re_25_1, re_25_2, re_25_3, re_25_4, re_25_5, re_25_6, re_25_7, re_33_0, re_33_1, re_33_2, re_33_3, re_33_4, re_33_5, re_33_6, re_33_7, re_33_8, re_43_0, re_43_1, re_43_8, re_43_9, re_43_10, re_49_0, re_49_1, re_49_8, re_49_9, re_49_10, re_55_0, re_55_11, re_55_13, re_55_14, re_55_18, re_55_20, re_55_21, re_55_22, re_55_23, re_55_25, re_55_26, re_55_34, re_55_35, re_55_36, re_55_38, re_55_39, re_55_40, re_55_41, re_55_42, re_55_43, re_55_44, re_55_45, re_55_46, re_55_47, re_55_48, re_55_49, re_55_52, re_55_53, re_55_54, re_55_55, re_55_56, re_55_58, re_55_59, re_55_60, re_55_61, re_55_62, re_55_63, re_55_64, re_55_65, re_55_66, true_and, and_true, true_implies, false_implies, not_true_eq_false, not_false_eq_true, implies_true, and_self, false_and, and_false, or_true, true_or, or_false, false_or, ne_eq, Classical.not_not, inB_eq, inB_by, inB_bo, fm_nl_n, fm_nl_i, fm_nl_r, fm_same_self, Option.toList_some, Option.toList_none, List.cons_append, List.nil_append, Int.toNat_natCast, Int.cast_ofNat_Int, Int.natCast_nonneg, fm_cl_s, fm_pt_s, tn_1, tn_2, tn_3, tn_4, tn_5, wr_id, wl_id, ar_500, fm_cl_ap, fm_pt_ap, ↓reduceIte, lc_lt, lc_le, lc_gt, lc_ge, lc_eq, c92, Nat.reduceEqDiff, one_ne_zero, fm_l2i_id, Int.reduceNeg, eq_self, nrw_0, nrw_1, Int.reduceEq, Int.reduceLT, Int.reduceLE, Int.reduceAdd, Int.reduceSub, Int.reduceMul, Int.reduceToNat, hm, Int.le_refl]
        rw [hse, hcast, ← p3] at hK
        exact hK
  rw [hse] at hr
  have hl := loop 0 ((t % s : Nat) : Int) (by omega) ⟨by omega, by omega, rfl⟩
  have hs1 : (1 : Int) ≤ s := by omega
  have ht0 : ¬ (t : Int) < 0 := by omega
  have hsn : ¬ (s : Int) = 0 := by omega
  rcases hp with ⟨rfl, rfl⟩ | ⟨rfl, rfl⟩ <;> simp only [Nat.reduceAdd] at *
  all_goals
    simp (disch := first | omega | exact Nat.le_of_ble_eq_true rfl) only [q39_0, q39_1, q39_4, q39_5, q39_8, q39_9, q39_12, q39_13, q39_14, q39_15, q39_16, q39_19, q39_20, q39_21, q39_22, q39_24, q39_25, q39_28, q39_31, q39_32, q39_33, q39_36, q39_37, q39_38, q39_41, q39_42, q39_45, q39_46, q39_47, q39_48, q39_49, q39_50, q39_53, q39_54, q39_55, q39_56, q39_57, q39_60, q39_63, q39_64, ob_0, ob_1, aw_2, ar_2, ob_3, aw_4, ar_4, aw_5, ar_5, ob_6, aw_7, ar_7, aw_8, ar_8, aw_9, ar_9, aw_10, ar_10, aw_11, ar_11, aw_12, ar_12, aw_13, ar_13, aw_14, ar_14, aw_15, ar_15, aw_16, ar_16, aw_17, ar_17, aw_18, ar_18, ob_19, aw_20, ar_20, aw_21, ar_21, aw_22, ar_22, aw_23, ar_23, aw_24, ar_24, ob_25, aw_26, ar_26, aw_27, ar_27, aw_28, ar_28, aw_29, ar_29, aw_30, ar_30, aw_31, ar_31, aw_32, ar_32, ob_33, aw_34, ar_34, aw_35, ar_35, aw_36, ar_36, aw_37, ar_37, aw_38, ar_38, aw_39, ar_39, aw_40, ar_40, aw_41, ar_41, aw_42, ar_42, ob_43, aw_44, ar_44, aw_45, ar_45, aw_46, ar_46, aw_47, ar_47, aw_48, ar_48, ob_49, aw_50, ar_50, aw_51, ar_51, aw_52, ar_52, aw_53, ar_53, aw_54, ar_54, ob_55, aw_56, ar_56, aw_57, ar_57, aw_58, ar_58, aw_59, ar_59, aw_60, ar_60, aw_61, ar_61, aw_62, ar_62, aw_63, ar_63, aw_64, ar_64, aw_65, ar_65, aw_66, ar_66, aw_67, ar_67, aw_68, ar_68, aw_69, ar_69, aw_70, ar_70, aw_71, ar_71, aw_72, ar_72, aw_73, ar_73, aw_74, ar_74, aw_75, ar_75, aw_76, ar_76, aw_77, ar_77, aw_78, ar_78, aw_79, ar_79, aw_80, ar_80, aw_81, ar_81, aw_82, ar_82, aw_83, ar_83, aw_84, ar_84, aw_85, ar_85, aw_86, ar_86, aw_87, ar_87, aw_88, ar_88, aw_89, ar_89, aw_90, ar_90, aw_91, ar_91, aw_92, ar_92, aw_93, ar_93, aw_94, ar_94, aw_95, ar_95, re_0_0, re_0_1, re_0_2, re_0_3, re_0_4, re_0_5, re_0_6, re_0_7, re_1_0, re_3_0, re_3_1, re_3_2, re_6_1, re_6_2, re_6_3, re_6_4, re_6_5, re_6_6, re_6_7, re_6_8, re_6_9, re_6_10, re_6_11, re_6_12, re_19_0, re_19_1, re_19_2, re_19_3, re_19_4, re_25_1, re_25_2, re_25_3, re_25_4, re_25_5, re_25_6, re_25_7, re_33_0, re_33_1, re_33_2, re_33_3, re_33_4, re_33_5, re_33_6, re_33_7, re_33_8, re_43_0, re_43_1, re_43_8, re_43_9, re_43_10, re_49_0, re_49_1, re_49_8, re_49_9, re_49_10, re_55_0, re_55_11, re_55_13, re_55_14, re_55_18, re_55_20, re_55_21, re_55_22, re_55_23, re_55_25, re_55_26, re_55_34, re_55_35, re_55_36, re_55_38, re_55_39, re_55_40, re_55_41, re_55_42, re_55_43, re_55_44, re_55_45, re_55_46, re_55_47, re_55_48, re_55_49, re_55_52, re_55_53, re_55_54, re_55_55, re_55_56, re_55_58, re_55_59, re_55_60, re_55_61, re_55_62, re_55_63, re_55_64, re_55_65, re_55_66, true_and, and_true, true_implies, false_implies, not_true_eq_false, not_false_eq_true, implies_true, and_self, false_and, and_false, or_true, true_or, or_false, false_or, ne_eq, Classical.not_not, inB_eq, inB_by, inB_bo, fm_nl_n, fm_nl_i, fm_nl_r, fm_same_self, Option.toList_some, Option.toList_none, List.cons_append, List.nil_append, Int.toNat_natCast, Int.cast_ofNat_Int, Int.natCast_nonneg, fm_cl_s, fm_pt_s, tn_1, tn_2, tn_3, tn_4, tn_5, wr_id, wl_id, ar_500, fm_cl_ap, fm_pt_ap, ↓reduceIte, lc_lt, lc_le, lc_gt, lc_ge, lc_eq, c92, Nat.reduceEqDiff, one_ne_zero, fm_l2i_id, Int.reduceNeg, eq_self, nrw_0, nrw_1, Int.reduceEq, Int.reduceLT, Int.reduceLE, Int.reduceAdd, Int.reduceSub, Int.reduceMul, Int.reduceToNat, hr, hs1, ht0, hsn, hrem]
    exact hl
end WATCH
