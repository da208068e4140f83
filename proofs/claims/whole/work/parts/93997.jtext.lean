def x0 (I L : Nat → Nat → Int) (q : Nat) : PL := ((1, fm_pt (I (q + 1)) 0 0, fm_pt (I (q + 2)) 0 48), (48, 0, 0), fun _ => 0, (0, L 4, I (q + 3), I (q + 4), I (q + 5)), fun _ => false)
theorem x0_ok {I L : Nat → Nat → Int} {q : Nat} : PV (x0 I L q) := by
  refine ⟨⟨by show 1 ≤ 1; omega, by show 1 ≤ 12; omega, fun k hk => ?_⟩, ?_, ?_, by show 0 ≤ 8; omega, fun k hk => absurd hk (by show ¬ k < 0; omega)⟩
  · have hk : k < 1 := hk
    have : k = 0 := by omega
    subst this
    show 0 ≤ fm_pt (I (q + 1)) 0 0 0 ∧ fm_pt (I (q + 1)) 0 0 0 ≤ 2 ∧ 1 ≤ fm_pt (I (q + 2)) 0 48 0 ∧ fm_pt (I (q + 2)) 0 48 0 ≤ 48
    rw [fm_pt_s, fm_pt_s]; omega
  · show (1 : Int) ≤ 48 ∧ (48 : Int) ≤ 96 ∧ (0 : Int) ≤ 0 ∧ (0 : Int) ≤ 48 ∧ (0 : Int) ≤ 0 ∧ (0 : Int) ≤ 48
    omega
  · show (0 : Int) ≤ 0 ∧ (0 : Int) ≤ 8 ∧ (0 : Int) ≤ 0 ∧ (0 : Int) ≤ 100 ∧ (0 : Int) ≤ 0 ∧ (0 : Int) ≤ 16
    omega
theorem xy0 {I L J M : Nat → Nat → Int} {q : Nat} : PE (x0 I L q) (y0 J M) := by
  refine ⟨⟨rfl, fun k hk => ?_⟩, rfl, fun w w1 w2 => ?_, ⟨rfl, fun k hk => absurd hk (by show ¬ k < 0; omega)⟩, fun _ _ _ => rfl⟩
  · have hk : k < 1 := hk
    have : k = 0 := by omega
    subst this
    show fm_pt (I (q + 1)) 0 0 0 = fm_pt (J 58) 0 0 0 ∧ fm_pt (I (q + 2)) 0 48 0 = fm_pt (J 59) 0 48 0
    rw [fm_pt_s, fm_pt_s, fm_pt_s, fm_pt_s]
    exact ⟨rfl, rfl⟩
  · show (0 : Int) = fl 6 0 (J 60) w
    unfold fl
    rw [if_pos (by omega)]
theorem refs_swap {p q : Nat} : fm_cl (fm_refs p q) 0 (fm_pt (fm_pt (fm_refs p q 0) 6 (some q)) 7 (some p)) = fm_refs q p := by
  funext o
  rw [fm_cl_ap]
  by_cases e : o = 0
  · subst e
    rw [if_pos rfl]
    funext j
    rw [fm_pt_ap, fm_pt_ap]
    show (if j = 7 then some p else if j = 6 then some q else rf_0 p q j) = rf_0 q p j
    by_cases e7 : j = 7
    · subst e7; rfl
    · by_cases e6 : j = 6
      · subst e6; rfl
      · rw [if_neg e7, if_neg e6]
        unfold rf_0
        split <;> first | rfl | (exfalso; omega)
  · rw [if_neg e]
    unfold fm_refs
    split <;> first | rfl | (exfalso; omega)
section CTEXT
variable {I L : Nat → Nat → Int} {p q n : Nat} {K : Option fm_V → fm_S → Prop}
set_option maxRecDepth 20000 in
set_option maxHeartbeats 4000000 in
/-- the class: text -/
theorem c77 {b : Nat → Int} {len : Nat} (hp : q = 43 ∨ q = 49) (hpq : p = 43 ∨ p = 49) (hne : p ≠ q) (ht : Tp b len I L)
    (hKf : ∀ (e : Int × Nat) (J M : Nat → Nat → Int), prs b len 401 0 (x0 I L q) = .inl e → (∀ x, x ≠ 0 → x ≠ 1 → x ≠ 3 → x < q ∨ q + 5 < x → J x = I x) → (∀ j, j < 9 → J 0 j = I 0 j) → J 0 9 = e.1 → J 0 10 = e.2 → J 1 1 = 0 → (∀ x, x ≠ 3 → x ≠ 4 → M x = L x) → K (some (.inl (-1))) (J, M, fm_refs p q, 96, n))
    (hKs : ∀ (y : PL) (J M : Nat → Nat → Int), prs b len 401 0 (x0 I L q) = .inr y → (∀ x, x ≠ 0 → x ≠ 1 → x ≠ 3 → x < q ∨ q + 5 < x → x < 9 ∨ (18 < x ∧ x < 25) ∨ (25 < x ∧ x < 33) ∨ x = 34 ∨ 39 < x → J x = I x) → J 0 8 = 0 → J 0 9 = 0 → J 0 10 = -1 → J 1 1 = 0 → (∀ x, x ≠ 3 → x ≠ 4 → M x = L x) → CSt J M q y → (J 9 = fl 16 0 (I 9) ∧ J 10 = fl 16 0 (I 10) ∧ J 11 = fl 16 0 (I 11) ∧ J 12 = fl 16 0 (I 12) ∧ J 13 = fl 16 0 (I 13) ∧ J 14 = fl 16 0 (I 14) ∧ J 15 = fl 16 (-1) (I 15) ∧ J 16 = fl 16 (-1) (I 16) ∧ J 17 = fl 96 0 (I 17) ∧ J 18 = fl 16 0 (I 18)) → J 25 0 = 0 → (J 35 = fl 16 0 (I 35) ∧ J 36 = fl 16 0 (I 36) ∧ J 37 = fl 16 (-1) (I 37) ∧ J 38 = fl 16 (-1) (I 38) ∧ J 39 = fl 16 (-1) (I 39) ∧ J 33 9 = 0) → K (some (.inl (y.2.2.2.1.1 : Int))) (J, M, fm_refs q p, 96, n)) :
    fm_wp 77 (0, [some (.inr (.inr (some 0))), none], [], (I, L, fm_refs p q, 96, n)) K := by
  have obq : ∀ (G M : Nat → Nat → Int) (R : Nat → Nat → Option Nat), fm_obj (G, M, R, 96, n) q = some 3 := by
    intro G M R
    rcases hp with rfl | rfl
    · exact ob_43
    · exact ob_49
  simp (disch := first | omega | exact Nat.le_of_ble_eq_true rfl) only [q77_0, q77_1, q77_4, q77_7, q77_8, q77_9, q77_12, q77_13, q77_16, q77_19, q77_22, q77_23, q77_24, q77_27, q77_30, q77_31, q77_34, q77_35, q77_38, q77_41, q77_44, q77_45, q77_48, q77_49, q77_52, q77_53, q77_56, q77_59, q77_60, q77_61, q77_62, q77_65, q77_66, q77_67, q77_68, q77_71, q77_74, q77_75, q77_76, q77_79, q77_80, q77_81, q77_84, q77_85, q77_88, q77_91, q77_92, q77_95, q77_98, q77_99, q77_102, q77_105, q77_106, q77_109, q77_112, ob_0, ob_1, aw_2, ar_2, ob_3, aw_4, ar_4, aw_5, ar_5, ob_6, aw_7, ar_7, aw_8, ar_8, aw_9, ar_9, aw_10, ar_10, aw_11, ar_11, aw_12, ar_12, aw_13, ar_13, aw_14, ar_14, aw_15, ar_15, aw_16, ar_16, aw_17, ar_17, aw_18, ar_18, ob_19, aw_20, ar_20, aw_21, ar_21, aw_22, ar_22, aw_23, ar_23, aw_24, ar_24, ob_25, aw_26, ar_26, aw_27, ar_27, aw_28, ar_28, aw_29, ar_29, aw_30, ar_30, aw_31, ar_31, aw_32, ar_32, ob_33, aw_34, ar_34, aw_35, ar_35, aw_36, ar_36, aw_37, ar_37, aw_38, ar_38, aw_39, ar_39, aw_40, ar_40, aw_41, ar_41, aw_42, ar_42, ob_43, aw_44, ar_44, aw_45, ar_45, aw_46, ar_46, aw_47, ar_47, aw_48, ar_48, ob_49, aw_50, ar_50, aw_51, ar_51, aw_52, ar_52, aw_53, ar_53, aw_54, ar_54, ob_55, aw_56, ar_56, aw_57, ar_57, aw_58, ar_58, aw_59, ar_59, aw_60, ar_60, aw_61, ar_61, aw_62, ar_62, aw_63, ar_63, aw_64, ar_64, aw_65, ar_65, aw_66, ar_66, aw_67, ar_67, aw_68, ar_68, aw_69, ar_69, aw_70, ar_70, aw_71, ar_71, aw_72, ar_72, aw_73, ar_73, aw_74, ar_74, aw_75, ar_75, aw_76, ar_76, aw_77, ar_77, aw_78, ar_78, aw_79, ar_79, aw_80, ar_80, aw_81, ar_81, aw_82, ar_82, aw_83, ar_83, aw_84, ar_84, aw_85, ar_85, aw_86, ar_86, aw_87, ar_87, aw_88, ar_88, aw_89, ar_89, aw_90, ar_90, aw_91, ar_91, aw_92, ar_92, aw_93, ar_93, aw_94, ar_94, aw_95, ar_95, re_0_0, re_0_1, re_0_2, re_0_3, re_0_4, re_0_5, re_0_6, re_0_7, re_1_0, re_3_0, re_3_1, re_3_2, re_6_1, re_6_2, re_6_3, re_6_4, re_6_5, re_6_6, re_6_7, re_6_8, re_6_9, re_6_10, re_6_11, re_6_12, re_19_0, re_19_1, re_19_2, re_19_3, re_19_4, re_25_1, re_25_2, re_25_3, re_25_4, re_25_5, re_25_6, re_25_7, re_33_0, re_33_1, re_33_2, re_33_3, re_33_4, re_33_5, re_33_6, re_33_7, re_33_8, re_43_0, re_43_1, re_43_8, re_43_9, re_43_10, re_49_0, re_49_1, re_49_8, re_49_9, re_49_10, re_55_0, re_55_11, re_55_13, re_55_14, re_55_18, re_55_20, re_55_21, re_55_22, re_55_23, re_55_25, re_55_26, re_55_34, re_55_35, re_55_36, re_55_38, re_55_39, re_55_40, re_55_41, re_55_42, re_55_43, re_55_44, re_55_45, re_55_46, re_55_47, re_55_48, re_55_49, re_55_52, re_55_53, re_55_54, re_55_55, re_55_56, re_55_58, re_55_59, re_55_60, re_55_61, re_55_62, re_55_63, re_55_64, re_55_65, re_55_66, true_and, and_true, true_implies, false_implies, not_true_eq_false, not_false_eq_true, implies_true, and_self, false_and, and_false, or_true, true_or, or_false, false_or, ne_eq, Classical.not_not, inB_eq, inB_by, inB_bo, fm_nl_n, fm_nl_i, fm_nl_r, fm_same_self, Option.toList_some, Option.toList_none, List.cons_append, List.nil_append, Int.toNat_natCast, Int.cast_ofNat_Int, Int.natCast_nonneg, fm_cl_s, fm_pt_s, tn_1, tn_2, tn_3, tn_4, tn_5, wr_id, wl_id, ar_500, fm_cl_ap, fm_pt_ap, ↓reduceIte, lc_lt, lc_le, lc_gt, lc_ge, lc_eq, c92, Nat.reduceEqDiff, one_ne_zero, fm_l2i_id, Int.reduceNeg, eq_self, nrw_0, nrw_1, Int.reduceEq, Int.reduceLT, Int.reduceLE, Int.reduceAdd, Int.reduceSub, Int.reduceMul, Int.reduceToNat, obq]
  refine c36 hp (fun J1 k0 k1 k2 kq => ?_)
  obtain ⟨kq2, kq3, kq4, kq5, kq6, kq7, kq11, kq12, kq13⟩ := kq
  have tJ : Tp b len J1 L := Tp_fr ht (k0 1 (by omega) (by omega) (by omega)) (k0 2 (by omega) (by omega) (by omega)) rfl
  have hC : CSt (fm_cl J1 3 (fm_pt (fm_pt (fm_pt (J1 3) 7 0) 3 0) 4 0)) L q (x0 I L q) := by
    have q3 : q ≠ 3 := by omega
    refine ⟨⟨?_, ?_, ?_, ?_⟩, ⟨?_, ?_, ?_⟩, fun w w1 w2 => ?_, ⟨?_, rfl, ?_, ?_, ?_⟩, 0, ?_, by omega, fun w _ _ => ?_⟩
    · rw [fm_cl_n q3]; exact kq2
    · rw [fm_cl_n q3, kq3]; show (48 : Int) = 0 + fm_pt (I (q + 2)) 0 48 0; rw [fm_pt_s]; rfl
    · rw [fm_cl_n (by omega)]; exact k1
    · rw [fm_cl_n (by omega)]; exact k2
    · rw [fm_cl_n q3]; exact kq4
    · rw [fm_cl_n q3]; exact kq5
    · rw [fm_cl_n q3]; exact kq6
    · rw [fm_cl_n q3]
      have : w = 3 ∨ w = 4 ∨ w = 5 := by omega
      rcases this with rfl | rfl | rfl
      · exact kq11
      · exact kq12
      · exact kq13
    · rw [fm_cl_n q3]; exact kq7
    · rw [fm_cl_n (by omega), k0 (q + 3) (by omega) (by omega) (by omega)]; rfl
    · rw [fm_cl_n (by omega), k0 (q + 4) (by omega) (by omega) (by omega)]; rfl
    · rw [fm_cl_n (by omega), k0 (q + 5) (by omega) (by omega) (by omega)]; rfl
    · simp only [fm_cl_ap, fm_pt_ap, ↓reduceIte, Nat.reduceEqDiff, Nat.reduceAdd]; rfl
    · rw [Nat.zero_testBit]; rfl
  refine ⟨by simp only [fm_same_self], ?_⟩
  simp (disch := first | omega | exact Nat.le_of_ble_eq_true rfl) only [q77_0, q77_1, q77_4, q77_7, q77_8, q77_9, q77_12, q77_13, q77_16, q77_19, q77_22, q77_23, q77_24, q77_27, q77_30, q77_31, q77_34, q77_35, q77_38, q77_41, q77_44, q77_45, q77_48, q77_49, q77_52, q77_53, q77_56, q77_59, q77_60, q77_61, q77_62, q77_65, q77_66, q77_67, q77_68, q77_71, q77_74, q77_75, q77_76, q77_79, q77_80, q77_81, q77_84, q77_85, q77_88, q77_91, q77_92, q77_95, q77_98, q77_99, q77_102, q77_105, q77_106, q77_109, q77_112, ob_0, ob_1, aw_2, ar_2, ob_3, aw_4, ar_4, aw_5, ar_5, ob_6, aw_7, ar_7, aw_8, ar_8, aw_9, ar_9, aw_10, ar_10, aw_11, ar_11, aw_12, ar_12, aw_13, ar_13, aw_14, ar_14, aw_15, ar_15, aw_16, ar_16, aw_17, ar_17, aw_18, ar_18, ob_19, aw_20, ar_20, aw_21, ar_21, aw_22, ar_22, aw_23, ar_23, aw_24, ar_24, ob_25, aw_26, ar_26, aw_27, ar_27, aw_28, ar_28, aw_29, ar_29, aw_30, ar_30, aw_31, ar_31, aw_32, ar_32, ob_33, aw_34, ar_34, aw_35, ar_35, aw_36, ar_36, aw_37, ar_37, aw_38, ar_38, aw_39, ar_39, aw_40, ar_40, aw_41, ar_41, aw_42, ar_42, ob_43, aw_44, ar_44, aw_45, ar_45, aw_46, ar_46, aw_47, ar_47, aw_48, ar_48, ob_49, aw_50, ar_50, aw_51, ar_51, aw_52, ar_52, aw_53, ar_53, aw_54, ar_54, ob_55, aw_56, ar_56, aw_57, ar_57, aw_58, ar_58, aw_59, ar_59, aw_60, ar_60, aw_61, ar_61, aw_62, ar_62, aw_63, ar_63, aw_64, ar_64, aw_65, ar_65, aw_66, ar_66, aw_67, ar_67, aw_68, ar_68, aw_69, ar_69, aw_70, ar_70, aw_71, ar_71, aw_72, ar_72, aw_73, ar_73, aw_74, ar_74, aw_75, ar_75, aw_76, ar_76, aw_77, ar_77, aw_78, ar_78, aw_79, ar_79, aw_80, ar_80, aw_81, ar_81, aw_82, ar_82, aw_83, ar_83, aw_84, ar_84, aw_85, ar_85, aw_86, ar_86, aw_87, ar_87, aw_88, ar_88, aw_89, ar_89, aw_90, ar_90, aw_91, ar_91, aw_92, ar_92, aw_93, ar_93, aw_94, ar_94, aw_95, ar_95, re_0_0, re_0_1, re_0_2, re_0_3, re_0_4, re_0_5, re_0_6, re_0_7, re_1_0, re_3_0, re_3_1, re_3_2, re_6_1, re_6_2, re_6_3, re_6_4, re_6_5, re_6_6, re_6_7, re_6_8, re_6_9, re_6_10, re_6_11, re_6_12, re_19_0, re_19_1, re_19_2, re_19_3, re_19_4, re_25_1, re_25_2, re_25_3, re_25_4, re_25_5, re_25_6, re_25_7, re_33_0, re_33_1, re_33_2, re_33_3, re_33_4, re_33_5, re_33_6, re_33_7, re_33_8, re_43_0, re_43_1, re_43_8, re_43_9, re_43_10, re_49_0, re_49_1, re_49_8, re_49_9, re_49_10, re_55_0, re_55_11, re_55_13, re_55_14, re_55_18, re_55_20, re_55_21, re_55_22, re_55_23, re_55_25, re_55_26, re_55_34, re_55_35, re_55_36, re_55_38, re_55_39, re_55_40, re_55_41, re_55_42, re_55_43, re_55_44, re_55_45, re_55_46, re_55_47, re_55_48, re_55_49, re_55_52, re_55_53, re_55_54, re_55_55, re_55_56, re_55_58, re_55_59, re_55_60, re_55_61, re_55_62, re_55_63, re_55_64, re_55_65, re_55_66, true_and, and_true, true_implies, false_implies, not_true_eq_false, not_false_eq_true, implies_true, and_self, false_and, and_false, or_true, true_or, or_false, false_or, ne_eq, Classical.not_not, inB_eq, inB_by, inB_bo, fm_nl_n, fm_nl_i, fm_nl_r, fm_same_self, Option.toList_some, Option.toList_none, List.cons_append, List.nil_append, Int.toNat_natCast, Int.cast_ofNat_Int, Int.natCast_nonneg, fm_cl_s, fm_pt_s, tn_1, tn_2, tn_3, tn_4, tn_5, wr_id, wl_id, ar_500, fm_cl_ap, fm_pt_ap, ↓reduceIte, lc_lt, lc_le, lc_gt, lc_ge, lc_eq, c92, Nat.reduceEqDiff, one_ne_zero, fm_l2i_id, Int.reduceNeg, eq_self, nrw_0, nrw_1, Int.reduceEq, Int.reduceLT, Int.reduceLE, Int.reduceAdd, Int.reduceSub, Int.reduceMul, Int.reduceToNat]
  refine c54 (b := b) (len := len) (x0 := x0 I L q) hp tJ hC x0_ok (fun e J M he ec cf j6 => ?_) (fun y J M he cf jC => ?_)
  · have e1n : ¬ e.1 = 0 := by omega
    refine ⟨by simp only [fm_same_self], ?_⟩
    simp (disch := first | omega | exact Nat.le_of_ble_eq_true rfl) only [q77_0, q77_1, q77_4, q77_7, q77_8, q77_9, q77_12, q77_13, q77_16, q77_19, q77_22, q77_23, q77_24, q77_27, q77_30, q77_31, q77_34, q77_35, q77_38, q77_41, q77_44, q77_45, q77_48, q77_49, q77_52, q77_53, q77_56, q77_59, q77_60, q77_61, q77_62, q77_65, q77_66, q77_67, q77_68, q77_71, q77_74, q77_75, q77_76, q77_79, q77_80, q77_81, q77_84, q77_85, q77_88, q77_91, q77_92, q77_95, q77_98, q77_99, q77_102, q77_105, q77_106, q77_109, q77_112, ob_0, ob_1, aw_2, ar_2, ob_3, aw_4, ar_4, aw_5, ar_5, ob_6, aw_7, ar_7, aw_8, ar_8, aw_9, ar_9, aw_10, ar_10, aw_11, ar_11, aw_12, ar_12, aw_13, ar_13, aw_14, ar_14, aw_15, ar_15, aw_16, ar_16, aw_17, ar_17, aw_18, ar_18, ob_19, aw_20, ar_20, aw_21, ar_21, aw_22, ar_22, aw_23, ar_23, aw_24, ar_24, ob_25, aw_26, ar_26, aw_27, ar_27, aw_28, ar_28, aw_29, ar_29, aw_30, ar_30, aw_31, ar_31, aw_32, ar_32, ob_33, aw_34, ar_34, aw_35, ar_35, aw_36, ar_36, aw_37, ar_37, aw_38, ar_38, aw_39, ar_39, aw_40, ar_40, aw_41, ar_41, aw_42, ar_42, ob_43, aw_44, ar_44, aw_45, ar_45, aw_46, ar_46, aw_47, ar_47, aw_48, ar_48, ob_49, aw_50, ar_50, aw_51, ar_51, aw_52, ar_52, aw_53, ar_53, aw_54, ar_54, ob_55, aw_56, ar_56, aw_57, ar_57, aw_58, ar_58, aw_59, ar_59, aw_60, ar_60, aw_61, ar_61, aw_62, ar_62, aw_63, ar_63, aw_64, ar_64, aw_65, ar_65, aw_66, ar_66, aw_67, ar_67, aw_68, ar_68, aw_69, ar_69, aw_70, ar_70, aw_71, ar_71, aw_72, ar_72, aw_73, ar_73, aw_74, ar_74, aw_75, ar_75, aw_76, ar_76, aw_77, ar_77, aw_78, ar_78, aw_79, ar_79, aw_80, ar_80, aw_81, ar_81, aw_82, ar_82, aw_83, ar_83, aw_84, ar_84, aw_85, ar_85, aw_86, ar_86, aw_87, ar_87, aw_88, ar_88, aw_89, ar_89, aw_90, ar_90, aw_91, ar_91, aw_92, ar_92, aw_93, ar_93, aw_94, ar_94, aw_95, ar_95, re_0_0, re_0_1, re_0_2, re_0_3, re_0_4, re_0_5, re_0_6, re_0_7, re_1_0, re_3_0, re_3_1, re_3_2, re_6_1, re_6_2, re_6_3, re_6_4, re_6_5, re_6_6, re_6_7, re_6_8, re_6_9, re_6_10, re_6_11, re_6_12, re_19_0, re_19_1, re_19_2, re_19_3, re_19_4, re_25_1, re_25_2, re_25_3, re_25_4, re_25_5, re_25_6, re_25_7, re_33_0, re_33_1, re_33_2, re_33_3, re_33_4, re_33_5, re_33_6, re_33_7, re_33_8, re_43_0, re_43_1, re_43_8, re_43_9, re_43_10, re_49_0, re_49_1, re_49_8, re_49_9, re_49_10, re_55_0, re_55_11, re_55_13, re_55_14, re_55_18, re_55_20, re_55_21, re_55_22, re_55_23, re_55_25, re_55_26, re_55_34, re_55_35, re_55_36, re_55_38, re_55_39, re_55_40, re_55_41, re_55_42, re_55_43, re_55_44, re_55_45, re_55_46, re_55_47, re_55_48, re_55_49, re_55_52, re_55_53, re_55_54, re_55_55, re_55_56, re_55_58, re_55_59, re_55_60, re_55_61, re_55_62, re_55_63, re_55_64, re_55_65, re_55_66, true_and, and_true, true_implies, false_implies, not_true_eq_false, not_false_eq_true, implies_true, and_self, false_and, and_false, or_true, true_or, or_false, false_or, ne_eq, Classical.not_not, inB_eq, inB_by, inB_bo, fm_nl_n, fm_nl_i, fm_nl_r, fm_same_self, Option.toList_some, Option.toList_none, List.cons_append, List.nil_append, Int.toNat_natCast, Int.cast_ofNat_Int, Int.natCast_nonneg, fm_cl_s, fm_pt_s, tn_1, tn_2, tn_3, tn_4, tn_5, wr_id, wl_id, ar_500, fm_cl_ap, fm_pt_ap, ↓reduceIte, lc_lt, lc_le, lc_gt, lc_ge, lc_eq, c92, Nat.reduceEqDiff, one_ne_zero, fm_l2i_id, Int.reduceNeg, eq_self, nrw_0, nrw_1, Int.reduceEq, Int.reduceLT, Int.reduceLE, Int.reduceAdd, Int.reduceSub, Int.reduceMul, Int.reduceToNat, e1n, j6, cl_cl]
    refine hKf e _ M he (fun x a0 a1 a3 aq => ?_) (fun j hj => ?_) ?_ ?_ ?_ cf.2
    · rw [fm_cl_n a1, fm_cl_n a0, cf.1 x a3 aq]; exact k0 x (by omega) (by omega) (by omega)
    · simp only [fm_cl_ap, ↓reduceIte, Nat.reduceEqDiff]
      rw [fm_pt_n (by omega), fm_pt_n (by omega), cf.1 0 (by decide) (by omega), k0 0 (by omega) (by omega) (by omega)]
    · simp only [fm_cl_ap, fm_pt_ap, ↓reduceIte, Nat.reduceEqDiff, Nat.reduceAdd]
    · simp only [fm_cl_ap, fm_pt_ap, ↓reduceIte, Nat.reduceEqDiff, Nat.reduceAdd]
    · simp only [fm_cl_ap, fm_pt_ap, ↓reduceIte, Nat.reduceEqDiff, Nat.reduceAdd]
  · refine ⟨by simp only [fm_same_self], ?_⟩
    simp (disch := first | omega | exact Nat.le_of_ble_eq_true rfl) only [q77_0, q77_1, q77_4, q77_7, q77_8, q77_9, q77_12, q77_13, q77_16, q77_19, q77_22, q77_23, q77_24, q77_27, q77_30, q77_31, q77_34, q77_35, q77_38, q77_41, q77_44, q77_45, q77_48, q77_49, q77_52, q77_53, q77_56, q77_59, q77_60, q77_61, q77_62, q77_65, q77_66, q77_67, q77_68, q77_71, q77_74, q77_75, q77_76, q77_79, q77_80, q77_81, q77_84, q77_85, q77_88, q77_91, q77_92, q77_95, q77_98, q77_99, q77_102, q77_105, q77_106, q77_109, q77_112, ob_0, ob_1, aw_2, ar_2, ob_3, aw_4, ar_4, aw_5, ar_5, ob_6, aw_7, ar_7, aw_8, ar_8, aw_9, ar_9, aw_10, ar_10, aw_11, ar_11, aw_12, ar_12, aw_13, ar_13, aw_14, ar_14, aw_15, ar_15, aw_16, ar_16, aw_17, ar_17, aw_18, ar_18, ob_19, aw_20, ar_20, aw_21, ar_21, aw_22, ar_22, aw_23, ar_23, aw_24, ar_24, ob_25, aw_26, ar_26, aw_27, ar_27, aw_28, ar_28, aw_29, ar_29, aw_30, ar_30, aw_31, ar_31, aw_32, ar_32, ob_33, aw_34, ar_34, aw_35, ar_35, aw_36, ar_36, aw_37, ar_37, aw_38, ar_38, aw_39, ar_39, aw_40, ar_40, aw_41, ar_41, aw_42, ar_42, ob_43, aw_44, ar_44, aw_45, ar_45, aw_46, ar_46, aw_47, ar_47, aw_48, ar_48, ob_49, aw_50, ar_50, aw_51, ar_51, aw_52, ar_52, aw_53, ar_53, aw_54, ar_54, ob_55, aw_56, ar_56, aw_57, ar_57, aw_58, ar_58, aw_59, ar_59, aw_60, ar_60, aw_61, ar_61, aw_62, ar_62, aw_63, ar_63, aw_64, ar_64, aw_65, ar_65, aw_66, ar_66, aw_67, ar_67, aw_68, ar_68, aw_69, ar_69, aw_70, ar_70, aw_71, ar_71, aw_72, ar_72, aw_73, ar_73, aw_74, ar_74, aw_75, ar_75, aw_76, ar_76, aw_77, ar_77, aw_78, ar_78, aw_79, ar_79, aw_80, ar_80, aw_81, ar_81, aw_82, ar_82, aw_83, ar_83, aw_84, ar_84, aw_85, ar_85, aw_86, ar_86, aw_87, ar_87, aw_88, ar_88, aw_89, ar_89, aw_90, ar_90, aw_91, ar_91, aw_92, ar_92, aw_93, ar_93, aw_94, ar_94, aw_95, ar_95, re_0_0, re_0_1, re_0_2, re_0_3, re_0_4, re_0_5, re_0_6, re_0_7, re_1_0, re_3_0, re_3_1, re_3_2, re_6_1, re_6_2, re_6_3, re_6_4, re_6_5, re_6_6, re_6_7, re_6_8, re_6_9, re_6_10, re_6_11, re_6_12, re_19_0, re_19_1, re_19_2, re_19_3, re_19_4, re_25_1, re_25_2, re_25_3, re_25_4, re_25_5, re_25_6, re_25_7, re_33_0, re_33_1, re_33_2, re_33_3, re_33_4, re_33_5, re_33_6, re_33_7, re_33_8, re_43_0, re_43_1, re_43_8, re_43_9, re_43_10, re_49_0, re_49_1, re_49_8, re_49_9, re_49_10, re_55_0, re_55_11, re_55_13, re_55_14, re_55_18, re_55_20, re_55_21, re_55_22, re_55_23, re_55_25, re_55_26, re_55_34, re_55_35, re_55_36, re_55_38, re_55_39, re_55_40, re_55_41, re_55_42, re_55_43, re_55_44, re_55_45, re_55_46, re_55_47, re_55_48, re_55_49, re_55_52, re_55_53, re_55_54, re_55_55, re_55_56, re_55_58, re_55_59, re_55_60, re_55_61, re_55_62, re_55_63, re_55_64, re_55_65, re_55_66, true_and, and_true, true_implies, false_implies, not_true_eq_false, not_false_eq_true, implies_true, and_self, false_and, and_false, or_true, true_or, or_false, false_or, ne_eq, Classical.not_not, inB_eq, inB_by, inB_bo, fm_nl_n, fm_nl_i, fm_nl_r, fm_same_self, Option.toList_some, Option.toList_none, List.cons_append, List.nil_append, Int.toNat_natCast, Int.cast_ofNat_Int, Int.natCast_nonneg, fm_cl_s, fm_pt_s, tn_1, tn_2, tn_3, tn_4, tn_5, wr_id, wl_id, ar_500, fm_cl_ap, fm_pt_ap, ↓reduceIte, lc_lt, lc_le, lc_gt, lc_ge, lc_eq, c92, Nat.reduceEqDiff, one_ne_zero, fm_l2i_id, Int.reduceNeg, eq_self, nrw_0, nrw_1, Int.reduceEq, Int.reduceLT, Int.reduceLE, Int.reduceAdd, Int.reduceSub, Int.reduceMul, Int.reduceToNat, cl_cl]
    sorry
end CTEXT
