theorem nck_code {b : Nat → Int} {len ps : Nat} {lo hi : Int} {e : Int × Nat} (h : nck b len ps lo hi = some e) : 1 ≤ e.1 ∧ e.1 ≤ 4 := by
  unfold nck at h
  split at h
  · split at h
    · cases h
    · cases h; exact ⟨by show (1 : Int) ≤ 3; omega, by show (3 : Int) ≤ 4; omega⟩
  · cases h; exact ⟨by show (1 : Int) ≤ 1; omega, by show (1 : Int) ≤ 4; omega⟩
theorem sck_code {b : Nat → Int} {len ps : Nat} {k : Int} {e : Int × Nat} (h : sck b len ps k = some e) : 1 ≤ e.1 ∧ e.1 ≤ 4 := by
  unfold sck at h
  split at h
  · cases h
  · cases h; exact ⟨by show (1 : Int) ≤ 1; omega, by show (1 : Int) ≤ 4; omega⟩
theorem spn_code {b : Nat → Int} {len : Nat} {e : Int × Nat} : ∀ (f i ps : Nat) (sw sb : Nat → Int), spn b len f i ps sw sb = .inl e → 1 ≤ e.1 ∧ e.1 ≤ 4
  | 0, i, ps, sw, sb, h => by unfold spn at h; cases h; exact ⟨by show (1 : Int) ≤ 4; omega, by show (4 : Int) ≤ 4; omega⟩
  | f + 1, i, ps, sw, sb, h => by
    unfold spn at h
    split at h
    · cases h
    · split at h
      · rename_i e' he; cases h; exact nck_code he
      · split at h
        · cases h; exact ⟨by show (1 : Int) ≤ 4; omega, by show (4 : Int) ≤ 4; omega⟩
        · split at h
          · rename_i e' he; cases h; exact nck_code he
          · exact spn_code f _ _ _ _ h
theorem knd_code {b : Nat → Int} {len nb : Nat} {e : Int × Nat} : ∀ (f i ps st : Nat) (sk : Nat → Int), knd b len nb f i ps st sk = .inl e → 1 ≤ e.1 ∧ e.1 ≤ 4
  | 0, i, ps, st, sk, h => by unfold knd at h; cases h; exact ⟨by show (1 : Int) ≤ 4; omega, by show (4 : Int) ≤ 4; omega⟩
  | f + 1, i, ps, st, sk, h => by
    unfold knd at h
    split at h
    · cases h
    · split at h
      · split at h
        · rename_i e' he; cases h; exact nck_code he
        · split at h
          · cases h; exact ⟨by show (1 : Int) ≤ 4; omega, by show (4 : Int) ≤ 4; omega⟩
          · exact knd_code f _ _ _ _ h
      · cases h; exact ⟨by show (1 : Int) ≤ 1; omega, by show (1 : Int) ≤ 4; omega⟩
theorem bil_code {b : Nat → Int} {len ps nb : Nat} {nm bb bs sk : Nat → Int} {e : Int × Nat} (h : bil b len ps nb nm bb bs sk = .inl e) : 1 ≤ e.1 ∧ e.1 ≤ 4 := by
  unfold bil at h
  split at h
  · split at h
    · cases h; exact ⟨by show (1 : Int) ≤ 2; omega, by show (2 : Int) ≤ 4; omega⟩
    · split at h
      · cases h; exact ⟨by show (1 : Int) ≤ 4; omega, by show (4 : Int) ≤ 4; omega⟩
      · split at h
        · rename_i e' he; cases h; exact nck_code he
        · split at h
          · rename_i e' he; cases h; exact sck_code he
          · split at h
            · rename_i e' he; cases h; exact knd_code _ _ _ _ _ he
            · cases h
  · cases h; exact ⟨by show (1 : Int) ≤ 1; omega, by show (1 : Int) ≤ 4; omega⟩
theorem rst_code {b : Nat → Int} {len ps : Nat} {e : Int × Nat} (h : rst b len ps = .inl e) : 1 ≤ e.1 ∧ e.1 ≤ 4 := by
  unfold rst at h
  split at h
  · rename_i e' he; cases h; exact nck_code he
  · split at h
    · rename_i e' he; cases h; exact nck_code he
    · split at h
      · rename_i e' he; cases h; exact nck_code he
      · split at h
        · rename_i e' he; cases h; exact sck_code he
        · cases h
theorem stg_code {b : Nat → Int} {len ps : Nat} {hi : Int} {e : Int × Nat} (h : stg b len ps hi = .inl e) : 1 ≤ e.1 ∧ e.1 ≤ 4 := by
  unfold stg at h
  split at h
  · rename_i e' he; cases h; exact nck_code he
  · split at h
    · rename_i e' he; cases h; exact sck_code he
    · cases h
theorem cls_code {b : Nat → Int} {len ps : Nat} {x : PL} {e : Int × Nat} (h : cls b len ps x = .inl e) : 1 ≤ e.1 ∧ e.1 ≤ 4 := by
  unfold cls at h
  split at h
  · split at h
    · rename_i e' he; cases h; exact bil_code he
    · cases h
  · split at h
    · cases h; exact ⟨by show (1 : Int) ≤ 1; omega, by show (1 : Int) ≤ 4; omega⟩
    · split at h
      · cases h; exact ⟨by show (1 : Int) ≤ 2; omega, by show (2 : Int) ≤ 4; omega⟩
      · split at h
        · split at h
          · rename_i e' he; cases h; exact spn_code _ _ _ _ _ he
          · cases h
        · split at h
          · split at h
            · rename_i e' he; cases h; exact rst_code he
            · cases h
          · split at h
            · rename_i e' he; cases h; exact stg_code he
            · cases h
theorem PE_refl (x : PL) : PE x x := ⟨⟨rfl, fun _ _ => ⟨rfl, rfl⟩⟩, rfl, fun _ _ _ => rfl, ⟨rfl, fun _ _ => ⟨rfl, rfl, rfl, fun _ _ => rfl⟩⟩, fun _ _ _ => rfl⟩
section PREAD
variable {I L : Nat → Nat → Int} {p q n : Nat} {K : Option fm_V → fm_S → Prop}
set_option maxRecDepth 20000 in
set_option maxHeartbeats 4000000 in
/-- the class: readInto -/
theorem c54 {b : Nat → Int} {len : Nat} {x0 : PL} (hp : q = 43 ∨ q = 49) (ht : Tp b len I L) (hC : CSt (fm_cl I 3 (fm_pt (fm_pt (fm_pt (I 3) 7 0) 3 0) 4 0)) L q x0) (hV : PV x0)
    (hKf : ∀ (e : Int × Nat) (J M : Nat → Nat → Int), prs b len 401 0 x0 = .inl e → 1 ≤ e.1 ∧ e.1 ≤ 4 → CF q I L J M → J 3 6 = e.2 → K (some (.inl e.1)) (J, M, fm_refs p q, 96, n))
    (hKs : ∀ (y : PL) (J M : Nat → Nat → Int), prs b len 401 0 x0 = .inr y → CF q I L J M → CSt J M q y → K (some (.inl 0)) (J, M, fm_refs p q, 96, n)) :
    fm_wp 54 (0, [some (.inr (.inr (some 3))), some (.inr (.inr (some q))), none], [], (I, L, fm_refs p q, 96, n)) K := by
  generalize hres : prs b len 401 0 x0 = res at hKf hKs
  have hl4 : len ≤ 400 := ht.2.2.1
  have lp : ∀ (f i ps : Nat) (x : PL) (G M : Nat → Nat → Int), f + i = 401 → i ≤ ps → ps ≤ len → CF q I L G M → G 3 7 = ps → G 3 4 = 0 → CSt G M q x → PV x → prs b len f ps x = res → fm_wp 54 (17, [some (.inr (.inr (some 3))), some (.inr (.inr (some q))), some (.inl (i : Int))], [], (G, M, fm_refs p q, 96, n)) K := by
    intro f
    induction f with
    | zero => intro i ps x G M h1 h2 h3; omega
    | succ f ih =>
      intro i ps x G M hfi hips hps gF g7 g4 gC gV hpr
      have y1 : ¬ 400 < (i : Int) := by omega
      have tG : Tp b len G M := Tp_fr ht (gF.1 1 (by decide) (by omega)) (gF.1 2 (by decide) (by omega)) (gF.2 5 (by decide) (by decide))
      have kin := tkK_in (b := b) (len := len) (ps := ps)
      rw [q54_17]
      simp (disch := first | omega | exact Nat.le_of_ble_eq_true rfl) only [q54_0, q54_1, q54_2, q54_5, q54_6, q54_7, q54_10, q54_11, q54_12, q54_15, q54_16, q54_18, q54_21, q54_24, q54_25, q54_28, q54_29, q54_32, q54_35, q54_36, q54_37, q54_40, q54_43, q54_44, q54_47, q54_48, q54_51, q54_54, q54_55, q54_58, ob_0, ob_1, aw_2, ar_2, ob_3, aw_4, ar_4, aw_5, ar_5, ob_6, aw_7, ar_7, aw_8, ar_8, aw_9, ar_9, aw_10, ar_10, aw_11, ar_11, aw_12, ar_12, aw_13, ar_13, aw_14, ar_14, aw_15, ar_15, aw_16, ar_16, aw_17, ar_17, aw_18, ar_18, ob_19, aw_20, ar_20, aw_21, ar_21, aw_22, ar_22, aw_23, ar_23, aw_24, ar_24, ob_25, aw_26, ar_26, aw_27, ar_27, aw_28, ar_28, aw_29, ar_29, aw_30, ar_30, aw_31, ar_31, aw_32, ar_32, ob_33, aw_34, ar_34, aw_35, ar_35, aw_36, ar_36, aw_37, ar_37, aw_38, ar_38, aw_39, ar_39, aw_40, ar_40, aw_41, ar_41, aw_42, ar_42, ob_43, aw_44, ar_44, aw_45, ar_45, aw_46, ar_46, aw_47, ar_47, aw_48, ar_48, ob_49, aw_50, ar_50, aw_51, ar_51, aw_52, ar_52, aw_53, ar_53, aw_54, ar_54, ob_55, aw_56, ar_56, aw_57, ar_57, aw_58, ar_58, aw_59, ar_59, aw_60, ar_60, aw_61, ar_61, aw_62, ar_62, aw_63, ar_63, aw_64, ar_64, aw_65, ar_65, aw_66, ar_66, aw_67, ar_67, aw_68, ar_68, aw_69, ar_69, aw_70, ar_70, aw_71, ar_71, aw_72, ar_72, aw_73, ar_73, aw_74, ar_74, aw_75, ar_75, aw_76, ar_76, aw_77, ar_77, aw_78, ar_78, aw_79, ar_79, aw_80, ar_80, aw_81, ar_81, aw_82, ar_82, aw_83, ar_83, aw_84, ar_84, aw_85, ar_85, aw_86, ar_86, aw_87, ar_87, aw_88, ar_88, aw_89, ar_89, aw_90, ar_90, aw_91, ar_91, aw_92, ar_92, aw_93, ar_93, aw_94, ar_94, aw_95, ar_95, re_0_0, re_0_1, re_0_2, re_0_3, re_0_4, re_0_5, re_0_6, re_0_7, re_1_0, re_3_0, re_3_1, re_3_2, re_6_1, re_6_2, re_6_3, re_6_4, re_6_5, re_6_6, re_6_7, re_6_8, re_6_9, re_6_10, re_6_11, re_6_12, re_19_0, re_19_1, re_19_2, re_19_3, re_19_4, re_25_1, re_25_2, re_25_3, re_25_4, re_25_5, re_25_6, re_25_7, re_33_0, re_33_1, re_33_2, re_33_3, re_33_4, re_33_5, re_33_6, re_33_7, re_33_8, re_43_0, re_43_1, re_43_8, re_43_9, re_43_10, re_49_0, re_49_1, re_49_8, re_49_9, re_49_10, re_55_0, re_55_11, re_55_13, re_55_14, re_55_18, re_55_20, re_55_21, re_55_22, re_55_23, re_55_25, re_55_26, re_55_34, re_55_35, re_55_36, re_55_38, re_55_39, re_55_40, re_55_41, re_55_42, re_55_43, re_55_44, re_55_45, re_55_46, re_55_47, re_55_48, re_55_49, re_55_52, re_55_53, re_55_54, re_55_55, re_55_56, re_55_58, re_55_59, re_55_60, re_55_61, re_55_62, re_55_63, re_55_64, re_55_65, re_55_66, true_and, and_true, true_implies, false_implies, not_true_eq_false, not_false_eq_true, implies_true, and_self, false_and, and_false, or_true, true_or, or_false, false_or, ne_eq, Classical.not_not, inB_eq, inB_by, inB_bo, fm_nl_n, fm_nl_i, fm_nl_r, fm_same_self, Option.toList_some, Option.toList_none, List.cons_append, List.nil_append, Int.toNat_natCast, Int.cast_ofNat_Int, Int.natCast_nonneg, fm_cl_s, fm_pt_s, tn_1, tn_2, tn_3, tn_4, tn_5, wr_id, wl_id, ar_500, fm_cl_ap, fm_pt_ap, ↓reduceIte, lc_lt, lc_le, lc_gt, lc_ge, lc_eq, c92, Nat.reduceEqDiff, one_ne_zero, fm_l2i_id, Int.reduceNeg, eq_self, nrw_0, nrw_1, Int.reduceEq, Int.reduceLT, Int.reduceLE, Int.reduceAdd, Int.reduceSub, Int.reduceMul, Int.reduceToNat, y1]
      refine n65 tG g7 hps (fun J N k1 k2 kA => ?_)
      have jF : CF q I L J N := ⟨fun y a1 a2 => by rw [(k1 y a1).1]; exact gF.1 y a1 a2, fun y a1 a2 => by rw [(k1 y a1).2]; exact gF.2 y a1 a2⟩
      have jC : CSt J N q x := by
        obtain ⟨⟨s2, s3, sw, sb⟩, ⟨s4, s5, s6⟩, spl, ⟨s7, snm, sbb, sbs, ssk⟩, cs, c1, c2, c3⟩ := gC
        have jq := (k1 q (by omega)).1
        exact ⟨⟨by rw [jq]; exact s2, by rw [jq]; exact s3, by rw [(k1 (q + 1) (by omega)).1]; exact sw, by rw [(k1 (q + 2) (by omega)).1]; exact sb⟩, ⟨by rw [jq]; exact s4, by rw [jq]; exact s5, by rw [jq]; exact s6⟩, fun w w1 w2 => by rw [jq]; exact spl w w1 w2, ⟨by rw [jq]; exact s7, by rw [(k1 4 (by decide)).2]; exact snm, by rw [(k1 (q + 3) (by omega)).1]; exact sbb, by rw [(k1 (q + 4) (by omega)).1]; exact sbs, by rw [(k1 (q + 5) (by omega)).1]; exact ssk⟩, cs, by rw [k2 3 (by omega)]; exact c1, c2, c3⟩
      have j4 : J 3 4 = 0 := by rw [k2 4 (by omega)]; exact g4
      have a5 := kA.1
      refine ⟨by simp only [fm_same_self], ?_⟩
      unfold prs at hpr
      by_cases z : tkK b len ps = 0
      · rw [if_pos z] at hpr
        simp (disch := first | omega | exact Nat.le_of_ble_eq_true rfl) only [q54_0, q54_1, q54_2, q54_5, q54_6, q54_7, q54_10, q54_11, q54_12, q54_15, q54_16, q54_18, q54_21, q54_24, q54_25, q54_28, q54_29, q54_32, q54_35, q54_36, q54_37, q54_40, q54_43, q54_44, q54_47, q54_48, q54_51, q54_54, q54_55, q54_58, ob_0, ob_1, aw_2, ar_2, ob_3, aw_4, ar_4, aw_5, ar_5, ob_6, aw_7, ar_7, aw_8, ar_8, aw_9, ar_9, aw_10, ar_10, aw_11, ar_11, aw_12, ar_12, aw_13, ar_13, aw_14, ar_14, aw_15, ar_15, aw_16, ar_16, aw_17, ar_17, aw_18, ar_18, ob_19, aw_20, ar_20, aw_21, ar_21, aw_22, ar_22, aw_23, ar_23, aw_24, ar_24, ob_25, aw_26, ar_26, aw_27, ar_27, aw_28, ar_28, aw_29, ar_29, aw_30, ar_30, aw_31, ar_31, aw_32, ar_32, ob_33, aw_34, ar_34, aw_35, ar_35, aw_36, ar_36, aw_37, ar_37, aw_38, ar_38, aw_39, ar_39, aw_40, ar_40, aw_41, ar_41, aw_42, ar_42, ob_43, aw_44, ar_44, aw_45, ar_45, aw_46, ar_46, aw_47, ar_47, aw_48, ar_48, ob_49, aw_50, ar_50, aw_51, ar_51, aw_52, ar_52, aw_53, ar_53, aw_54, ar_54, ob_55, aw_56, ar_56, aw_57, ar_57, aw_58, ar_58, aw_59, ar_59, aw_60, ar_60, aw_61, ar_61, aw_62, ar_62, aw_63, ar_63, aw_64, ar_64, aw_65, ar_65, aw_66, ar_66, aw_67, ar_67, aw_68, ar_68, aw_69, ar_69, aw_70, ar_70, aw_71, ar_71, aw_72, ar_72, aw_73, ar_73, aw_74, ar_74, aw_75, ar_75, aw_76, ar_76, aw_77, ar_77, aw_78, ar_78, aw_79, ar_79, aw_80, ar_80, aw_81, ar_81, aw_82, ar_82, aw_83, ar_83, aw_84, ar_84, aw_85, ar_85, aw_86, ar_86, aw_87, ar_87, aw_88, ar_88, aw_89, ar_89, aw_90, ar_90, aw_91, ar_91, aw_92, ar_92, aw_93, ar_93, aw_94, ar_94, aw_95, ar_95, re_0_0, re_0_1, re_0_2, re_0_3, re_0_4, re_0_5, re_0_6, re_0_7, re_1_0, re_3_0, re_3_1, re_3_2, re_6_1, re_6_2, re_6_3, re_6_4, re_6_5, re_6_6, re_6_7, re_6_8, re_6_9, re_6_10, re_6_11, re_6_12, re_19_0, re_19_1, re_19_2, re_19_3, re_19_4, re_25_1, re_25_2, re_25_3, re_25_4, re_25_5, re_25_6, re_25_7, re_33_0, re_33_1, re_33_2, re_33_3, re_33_4, re_33_5, re_33_6, re_33_7, re_33_8, re_43_0, re_43_1, re_43_8, re_43_9, re_43_10, re_49_0, re_49_1, re_49_8, re_49_9, re_49_10, re_55_0, re_55_11, re_55_13, re_55_14, re_55_18, re_55_20, re_55_21, re_55_22, re_55_23, re_55_25, re_55_26, re_55_34, re_55_35, re_55_36, re_55_38, re_55_39, re_55_40, re_55_41, re_55_42, re_55_43, re_55_44, re_55_45, re_55_46, re_55_47, re_55_48, re_55_49, re_55_52, re_55_53, re_55_54, re_55_55, re_55_56, re_55_58, re_55_59, re_55_60, re_55_61, re_55_62, re_55_63, re_55_64, re_55_65, re_55_66, true_and, and_true, true_implies, false_implies, not_true_eq_false, not_false_eq_true, implies_true, and_self, false_and, and_false, or_true, true_or, or_false, false_or, ne_eq, Classical.not_not, inB_eq, inB_by, inB_bo, fm_nl_n, fm_nl_i, fm_nl_r, fm_same_self, Option.toList_some, Option.toList_none, List.cons_append, List.nil_append, Int.toNat_natCast, Int.cast_ofNat_Int, Int.natCast_nonneg, fm_cl_s, fm_pt_s, tn_1, tn_2, tn_3, tn_4, tn_5, wr_id, wl_id, ar_500, fm_cl_ap, fm_pt_ap, ↓reduceIte, lc_lt, lc_le, lc_gt, lc_ge, lc_eq, c92, Nat.reduceEqDiff, one_ne_zero, fm_l2i_id, Int.reduceNeg, eq_self, nrw_0, nrw_1, Int.reduceEq, Int.reduceLT, Int.reduceLE, Int.reduceAdd, Int.reduceSub, Int.reduceMul, Int.reduceToNat, a5, z, j4]
        exact hKs x J N hpr.symm jF jC
      · rw [if_neg z] at hpr
        simp (disch := first | omega | exact Nat.le_of_ble_eq_true rfl) only [q54_0, q54_1, q54_2, q54_5, q54_6, q54_7, q54_10, q54_11, q54_12, q54_15, q54_16, q54_18, q54_21, q54_24, q54_25, q54_28, q54_29, q54_32, q54_35, q54_36, q54_37, q54_40, q54_43, q54_44, q54_47, q54_48, q54_51, q54_54, q54_55, q54_58, ob_0, ob_1, aw_2, ar_2, ob_3, aw_4, ar_4, aw_5, ar_5, ob_6, aw_7, ar_7, aw_8, ar_8, aw_9, ar_9, aw_10, ar_10, aw_11, ar_11, aw_12, ar_12, aw_13, ar_13, aw_14, ar_14, aw_15, ar_15, aw_16, ar_16, aw_17, ar_17, aw_18, ar_18, ob_19, aw_20, ar_20, aw_21, ar_21, aw_22, ar_22, aw_23, ar_23, aw_24, ar_24, ob_25, aw_26, ar_26, aw_27, ar_27, aw_28, ar_28, aw_29, ar_29, aw_30, ar_30, aw_31, ar_31, aw_32, ar_32, ob_33, aw_34, ar_34, aw_35, ar_35, aw_36, ar_36, aw_37, ar_37, aw_38, ar_38, aw_39, ar_39, aw_40, ar_40, aw_41, ar_41, aw_42, ar_42, ob_43, aw_44, ar_44, aw_45, ar_45, aw_46, ar_46, aw_47, ar_47, aw_48, ar_48, ob_49, aw_50, ar_50, aw_51, ar_51, aw_52, ar_52, aw_53, ar_53, aw_54, ar_54, ob_55, aw_56, ar_56, aw_57, ar_57, aw_58, ar_58, aw_59, ar_59, aw_60, ar_60, aw_61, ar_61, aw_62, ar_62, aw_63, ar_63, aw_64, ar_64, aw_65, ar_65, aw_66, ar_66, aw_67, ar_67, aw_68, ar_68, aw_69, ar_69, aw_70, ar_70, aw_71, ar_71, aw_72, ar_72, aw_73, ar_73, aw_74, ar_74, aw_75, ar_75, aw_76, ar_76, aw_77, ar_77, aw_78, ar_78, aw_79, ar_79, aw_80, ar_80, aw_81, ar_81, aw_82, ar_82, aw_83, ar_83, aw_84, ar_84, aw_85, ar_85, aw_86, ar_86, aw_87, ar_87, aw_88, ar_88, aw_89, ar_89, aw_90, ar_90, aw_91, ar_91, aw_92, ar_92, aw_93, ar_93, aw_94, ar_94, aw_95, ar_95, re_0_0, re_0_1, re_0_2, re_0_3, re_0_4, re_0_5, re_0_6, re_0_7, re_1_0, re_3_0, re_3_1, re_3_2, re_6_1, re_6_2, re_6_3, re_6_4, re_6_5, re_6_6, re_6_7, re_6_8, re_6_9, re_6_10, re_6_11, re_6_12, re_19_0, re_19_1, re_19_2, re_19_3, re_19_4, re_25_1, re_25_2, re_25_3, re_25_4, re_25_5, re_25_6, re_25_7, re_33_0, re_33_1, re_33_2, re_33_3, re_33_4, re_33_5, re_33_6, re_33_7, re_33_8, re_43_0, re_43_1, re_43_8, re_43_9, re_43_10, re_49_0, re_49_1, re_49_8, re_49_9, re_49_10, re_55_0, re_55_11, re_55_13, re_55_14, re_55_18, re_55_20, re_55_21, re_55_22, re_55_23, re_55_25, re_55_26, re_55_34, re_55_35, re_55_36, re_55_38, re_55_39, re_55_40, re_55_41, re_55_42, re_55_43, re_55_44, re_55_45, re_55_46, re_55_47, re_55_48, re_55_49, re_55_52, re_55_53, re_55_54, re_55_55, re_55_56, re_55_58, re_55_59, re_55_60, re_55_61, re_55_62, re_55_63, re_55_64, re_55_65, re_55_66, true_and, and_true, true_implies, false_implies, not_true_eq_false, not_false_eq_true, implies_true, and_self, false_and, and_false, or_true, true_or, or_false, false_or, ne_eq, Classical.not_not, inB_eq, inB_by, inB_bo, fm_nl_n, fm_nl_i, fm_nl_r, fm_same_self, Option.toList_some, Option.toList_none, List.cons_append, List.nil_append, Int.toNat_natCast, Int.cast_ofNat_Int, Int.natCast_nonneg, fm_cl_s, fm_pt_s, tn_1, tn_2, tn_3, tn_4, tn_5, wr_id, wl_id, ar_500, fm_cl_ap, fm_pt_ap, ↓reduceIte, lc_lt, lc_le, lc_gt, lc_ge, lc_eq, c92, Nat.reduceEqDiff, one_ne_zero, fm_l2i_id, Int.reduceNeg, eq_self, nrw_0, nrw_1, Int.reduceEq, Int.reduceLT, Int.reduceLE, Int.reduceAdd, Int.reduceSub, Int.reduceMul, Int.reduceToNat, a5, z]
        have tJ : Tp b len J N := Tp_fr tG (k1 1 (by decide)).1 (k1 2 (by decide)).1 (k1 5 (by decide)).2
        refine c56 (b := b) (len := len) (ps := ps) (x := x) hp tJ hps kA jC ⟨gV.2.2.2.1, fun k hk => (gV.2.2.2.2 k hk).1⟩ (fun e H N2 he cf h4 h6 => ?_) (fun p' y H N2 he cf h4 h7 hp' hCy => ?_)
        · rw [he] at hpr
          have ec := cls_code he
          refine ⟨by simp only [fm_same_self], ?_⟩
          simp (disch := first | omega | exact Nat.le_of_ble_eq_true rfl) only [q54_0, q54_1, q54_2, q54_5, q54_6, q54_7, q54_10, q54_11, q54_12, q54_15, q54_16, q54_18, q54_21, q54_24, q54_25, q54_28, q54_29, q54_32, q54_35, q54_36, q54_37, q54_40, q54_43, q54_44, q54_47, q54_48, q54_51, q54_54, q54_55, q54_58, ob_0, ob_1, aw_2, ar_2, ob_3, aw_4, ar_4, aw_5, ar_5, ob_6, aw_7, ar_7, aw_8, ar_8, aw_9, ar_9, aw_10, ar_10, aw_11, ar_11, aw_12, ar_12, aw_13, ar_13, aw_14, ar_14, aw_15, ar_15, aw_16, ar_16, aw_17, ar_17, aw_18, ar_18, ob_19, aw_20, ar_20, aw_21, ar_21, aw_22, ar_22, aw_23, ar_23, aw_24, ar_24, ob_25, aw_26, ar_26, aw_27, ar_27, aw_28, ar_28, aw_29, ar_29, aw_30, ar_30, aw_31, ar_31, aw_32, ar_32, ob_33, aw_34, ar_34, aw_35, ar_35, aw_36, ar_36, aw_37, ar_37, aw_38, ar_38, aw_39, ar_39, aw_40, ar_40, aw_41, ar_41, aw_42, ar_42, ob_43, aw_44, ar_44, aw_45, ar_45, aw_46, ar_46, aw_47, ar_47, aw_48, ar_48, ob_49, aw_50, ar_50, aw_51, ar_51, aw_52, ar_52, aw_53, ar_53, aw_54, ar_54, ob_55, aw_56, ar_56, aw_57, ar_57, aw_58, ar_58, aw_59, ar_59, aw_60, ar_60, aw_61, ar_61, aw_62, ar_62, aw_63, ar_63, aw_64, ar_64, aw_65, ar_65, aw_66, ar_66, aw_67, ar_67, aw_68, ar_68, aw_69, ar_69, aw_70, ar_70, aw_71, ar_71, aw_72, ar_72, aw_73, ar_73, aw_74, ar_74, aw_75, ar_75, aw_76, ar_76, aw_77, ar_77, aw_78, ar_78, aw_79, ar_79, aw_80, ar_80, aw_81, ar_81, aw_82, ar_82, aw_83, ar_83, aw_84, ar_84, aw_85, ar_85, aw_86, ar_86, aw_87, ar_87, aw_88, ar_88, aw_89, ar_89, aw_90, ar_90, aw_91, ar_91, aw_92, ar_92, aw_93, ar_93, aw_94, ar_94, aw_95, ar_95, re_0_0, re_0_1, re_0_2, re_0_3, re_0_4, re_0_5, re_0_6, re_0_7, re_1_0, re_3_0, re_3_1, re_3_2, re_6_1, re_6_2, re_6_3, re_6_4, re_6_5, re_6_6, re_6_7, re_6_8, re_6_9, re_6_10, re_6_11, re_6_12, re_19_0, re_19_1, re_19_2, re_19_3, re_19_4, re_25_1, re_25_2, re_25_3, re_25_4, re_25_5, re_25_6, re_25_7, re_33_0, re_33_1, re_33_2, re_33_3, re_33_4, re_33_5, re_33_6, re_33_7, re_33_8, re_43_0, re_43_1, re_43_8, re_43_9, re_43_10, re_49_0, re_49_1, re_49_8, re_49_9, re_49_10, re_55_0, re_55_11, re_55_13, re_55_14, re_55_18, re_55_20, re_55_21, re_55_22, re_55_23, re_55_25, re_55_26, re_55_34, re_55_35, re_55_36, re_55_38, re_55_39, re_55_40, re_55_41, re_55_42, re_55_43, re_55_44, re_55_45, re_55_46, re_55_47, re_55_48, re_55_49, re_55_52, re_55_53, re_55_54, re_55_55, re_55_56, re_55_58, re_55_59, re_55_60, re_55_61, re_55_62, re_55_63, re_55_64, re_55_65, re_55_66, true_and, and_true, true_implies, false_implies, not_true_eq_false, not_false_eq_true, implies_true, and_self, false_and, and_false, or_true, true_or, or_false, false_or, ne_eq, Classical.not_not, inB_eq, inB_by, inB_bo, fm_nl_n, fm_nl_i, fm_nl_r, fm_same_self, Option.toList_some, Option.toList_none, List.cons_append, List.nil_append, Int.toNat_natCast, Int.cast_ofNat_Int, Int.natCast_nonneg, fm_cl_s, fm_pt_s, tn_1, tn_2, tn_3, tn_4, tn_5, wr_id, wl_id, ar_500, fm_cl_ap, fm_pt_ap, ↓reduceIte, lc_lt, lc_le, lc_gt, lc_ge, lc_eq, c92, Nat.reduceEqDiff, one_ne_zero, fm_l2i_id, Int.reduceNeg, eq_self, nrw_0, nrw_1, Int.reduceEq, Int.reduceLT, Int.reduceLE, Int.reduceAdd, Int.reduceSub, Int.reduceMul, Int.reduceToNat, h4]
          exact hKf e H N2 hpr.symm ec ⟨fun y a1 a2 => by rw [cf.1 y a1 a2]; exact jF.1 y a1 a2, fun y a1 a2 => by rw [cf.2 y a1 a2]; exact jF.2 y a1 a2⟩ h6
        · have ag := cls_ag (b := b) (len := len) hps gV (PE_refl x) z
          rw [he] at ag hpr
          rcases ag with ⟨e, q1, q2⟩ | ⟨p2, x', y', q1, q2, q3, q4, q5, q6, q7⟩
          · cases q1
          · cases q1
            have t := tk_in (b := b) q4
            refine ⟨by simp only [fm_same_self], ?_⟩
            simp (disch := first | omega | exact Nat.le_of_ble_eq_true rfl) only [q54_0, q54_1, q54_2, q54_5, q54_6, q54_7, q54_10, q54_11, q54_12, q54_15, q54_16, q54_18, q54_21, q54_24, q54_25, q54_28, q54_29, q54_32, q54_35, q54_36, q54_37, q54_40, q54_43, q54_44, q54_47, q54_48, q54_51, q54_54, q54_55, q54_58, ob_0, ob_1, aw_2, ar_2, ob_3, aw_4, ar_4, aw_5, ar_5, ob_6, aw_7, ar_7, aw_8, ar_8, aw_9, ar_9, aw_10, ar_10, aw_11, ar_11, aw_12, ar_12, aw_13, ar_13, aw_14, ar_14, aw_15, ar_15, aw_16, ar_16, aw_17, ar_17, aw_18, ar_18, ob_19, aw_20, ar_20, aw_21, ar_21, aw_22, ar_22, aw_23, ar_23, aw_24, ar_24, ob_25, aw_26, ar_26, aw_27, ar_27, aw_28, ar_28, aw_29, ar_29, aw_30, ar_30, aw_31, ar_31, aw_32, ar_32, ob_33, aw_34, ar_34, aw_35, ar_35, aw_36, ar_36, aw_37, ar_37, aw_38, ar_38, aw_39, ar_39, aw_40, ar_40, aw_41, ar_41, aw_42, ar_42, ob_43, aw_44, ar_44, aw_45, ar_45, aw_46, ar_46, aw_47, ar_47, aw_48, ar_48, ob_49, aw_50, ar_50, aw_51, ar_51, aw_52, ar_52, aw_53, ar_53, aw_54, ar_54, ob_55, aw_56, ar_56, aw_57, ar_57, aw_58, ar_58, aw_59, ar_59, aw_60, ar_60, aw_61, ar_61, aw_62, ar_62, aw_63, ar_63, aw_64, ar_64, aw_65, ar_65, aw_66, ar_66, aw_67, ar_67, aw_68, ar_68, aw_69, ar_69, aw_70, ar_70, aw_71, ar_71, aw_72, ar_72, aw_73, ar_73, aw_74, ar_74, aw_75, ar_75, aw_76, ar_76, aw_77, ar_77, aw_78, ar_78, aw_79, ar_79, aw_80, ar_80, aw_81, ar_81, aw_82, ar_82, aw_83, ar_83, aw_84, ar_84, aw_85, ar_85, aw_86, ar_86, aw_87, ar_87, aw_88, ar_88, aw_89, ar_89, aw_90, ar_90, aw_91, ar_91, aw_92, ar_92, aw_93, ar_93, aw_94, ar_94, aw_95, ar_95, re_0_0, re_0_1, re_0_2, re_0_3, re_0_4, re_0_5, re_0_6, re_0_7, re_1_0, re_3_0, re_3_1, re_3_2, re_6_1, re_6_2, re_6_3, re_6_4, re_6_5, re_6_6, re_6_7, re_6_8, re_6_9, re_6_10, re_6_11, re_6_12, re_19_0, re_19_1, re_19_2, re_19_3, re_19_4, re_25_1, re_25_2, re_25_3, re_25_4, re_25_5, re_25_6, re_25_7, re_33_0, re_33_1, re_33_2, re_33_3, re_33_4, re_33_5, re_33_6, re_33_7, re_33_8, re_43_0, re_43_1, re_43_8, re_43_9, re_43_10, re_49_0, re_49_1, re_49_8, re_49_9, re_49_10, re_55_0, re_55_11, re_55_13, re_55_14, re_55_18, re_55_20, re_55_21, re_55_22, re_55_23, re_55_25, re_55_26, re_55_34, re_55_35, re_55_36, re_55_38, re_55_39, re_55_40, re_55_41, re_55_42, re_55_43, re_55_44, re_55_45, re_55_46, re_55_47, re_55_48, re_55_49, re_55_52, re_55_53, re_55_54, re_55_55, re_55_56, re_55_58, re_55_59, re_55_60, re_55_61, re_55_62, re_55_63, re_55_64, re_55_65, re_55_66, true_and, and_true, true_implies, false_implies, not_true_eq_false, not_false_eq_true, implies_true, and_self, false_and, and_false, or_true, true_or, or_false, false_or, ne_eq, Classical.not_not, inB_eq, inB_by, inB_bo, fm_nl_n, fm_nl_i, fm_nl_r, fm_same_self, Option.toList_some, Option.toList_none, List.cons_append, List.nil_append, Int.toNat_natCast, Int.cast_ofNat_Int, Int.natCast_nonneg, fm_cl_s, fm_pt_s, tn_1, tn_2, tn_3, tn_4, tn_5, wr_id, wl_id, ar_500, fm_cl_ap, fm_pt_ap, ↓reduceIte, lc_lt, lc_le, lc_gt, lc_ge, lc_eq, c92, Nat.reduceEqDiff, one_ne_zero, fm_l2i_id, Int.reduceNeg, eq_self, nrw_0, nrw_1, Int.reduceEq, Int.reduceLT, Int.reduceLE, Int.reduceAdd, Int.reduceSub, Int.reduceMul, Int.reduceToNat]
            have := ih (i + 1) (tkE b len p') y H N2 (by omega) (by omega) t.2.2.2.1 ⟨fun z a1 a2 => by rw [cf.1 z a1 a2]; exact jF.1 z a1 a2, fun z a1 a2 => by rw [cf.2 z a1 a2]; exact jF.2 z a1 a2⟩ h7 (by rw [h4]; exact j4) hCy q6 hpr
            rw [show ((i + 1 : Nat) : Int) = (i : Int) + 1 by omega] at this
            exact this
  have st := lp 401 0 0 x0 (fm_cl I 3 (fm_pt (fm_pt (fm_pt (I 3) 7 0) 3 0) 4 0)) L rfl (by omega) (by omega) ⟨fun y a1 a2 => fm_cl_n a1, fun _ _ _ => rfl⟩ (by simp only [fm_cl_ap, fm_pt_ap, ↓reduceIte, Nat.reduceEqDiff, Nat.reduceAdd]; rfl) (by simp only [fm_cl_ap, fm_pt_ap, ↓reduceIte, Nat.reduceEqDiff, Nat.reduceAdd]) hC hV hres
  simp (disch := first | omega | exact Nat.le_of_ble_eq_true rfl) only [q54_0, q54_1, q54_2, q54_5, q54_6, q54_7, q54_10, q54_11, q54_12, q54_15, q54_16, q54_18, q54_21, q54_24, q54_25, q54_28, q54_29, q54_32, q54_35, q54_36, q54_37, q54_40, q54_43, q54_44, q54_47, q54_48, q54_51, q54_54, q54_55, q54_58, ob_0, ob_1, aw_2, ar_2, ob_3, aw_4, ar_4, aw_5, ar_5, ob_6, aw_7, ar_7, aw_8, ar_8, aw_9, ar_9, aw_10, ar_10, aw_11, ar_11, aw_12, ar_12, aw_13, ar_13, aw_14, ar_14, aw_15, ar_15, aw_16, ar_16, aw_17, ar_17, aw_18, ar_18, ob_19, aw_20, ar_20, aw_21, ar_21, aw_22, ar_22, aw_23, ar_23, aw_24, ar_24, ob_25, aw_26, ar_26, aw_27, ar_27, aw_28, ar_28, aw_29, ar_29, aw_30, ar_30, aw_31, ar_31, aw_32, ar_32, ob_33, aw_34, ar_34, aw_35, ar_35, aw_36, ar_36, aw_37, ar_37, aw_38, ar_38, aw_39, ar_39, aw_40, ar_40, aw_41, ar_41, aw_42, ar_42, ob_43, aw_44, ar_44, aw_45, ar_45, aw_46, ar_46, aw_47, ar_47, aw_48, ar_48, ob_49, aw_50, ar_50, aw_51, ar_51, aw_52, ar_52, aw_53, ar_53, aw_54, ar_54, ob_55, aw_56, ar_56, aw_57, ar_57, aw_58, ar_58, aw_59, ar_59, aw_60, ar_60, aw_61, ar_61, aw_62, ar_62, aw_63, ar_63, aw_64, ar_64, aw_65, ar_65, aw_66, ar_66, aw_67, ar_67, aw_68, ar_68, aw_69, ar_69, aw_70, ar_70, aw_71, ar_71, aw_72, ar_72, aw_73, ar_73, aw_74, ar_74, aw_75, ar_75, aw_76, ar_76, aw_77, ar_77, aw_78, ar_78, aw_79, ar_79, aw_80, ar_80, aw_81, ar_81, aw_82, ar_82, aw_83, ar_83, aw_84, ar_84, aw_85, ar_85, aw_86, ar_86, aw_87, ar_87, aw_88, ar_88, aw_89, ar_89, aw_90, ar_90, aw_91, ar_91, aw_92, ar_92, aw_93, ar_93, aw_94, ar_94, aw_95, ar_95, re_0_0, re_0_1, re_0_2, re_0_3, re_0_4, re_0_5, re_0_6, re_0_7, re_1_0, re_3_0, re_3_1, re_3_2, re_6_1, re_6_2, re_6_3, re_6_4, re_6_5, re_6_6, re_6_7, re_6_8, re_6_9, re_6_10, re_6_11, re_6_12, re_19_0, re_19_1, re_19_2, re_19_3, re_19_4, re_25_1, re_25_2, re_25_3, re_25_4, re_25_5, re_25_6, re_25_7, re_33_0, re_33_1, re_33_2, re_33_3, re_33_4, re_33_5, re_33_6, re_33_7, re_33_8, re_43_0, re_43_1, re_43_8, re_43_9, re_43_10, re_49_0, re_49_1, re_49_8, re_49_9, re_49_10, re_55_0, re_55_11, re_55_13, re_55_14, re_55_18, re_55_20, re_55_21, re_55_22, re_55_23, re_55_25, re_55_26, re_55_34, re_55_35, re_55_36, re_55_38, re_55_39, re_55_40, re_55_41, re_55_42, re_55_43, re_55_44, re_55_45, re_55_46, re_55_47, re_55_48, re_55_49, re_55_52, re_55_53, re_55_54, re_55_55, re_55_56, re_55_58, re_55_59, re_55_60, re_55_61, re_55_62, re_55_63, re_55_64, re_55_65, re_55_66, true_and, and_true, true_implies, false_implies, not_true_eq_false, not_false_eq_true, implies_true, and_self, false_and, and_false, or_true, true_or, or_false, false_or, ne_eq, Classical.not_not, inB_eq, inB_by, inB_bo, fm_nl_n, fm_nl_i, fm_nl_r, fm_same_self, Option.toList_some, Option.toList_none, List.cons_append, List.nil_append, Int.toNat_natCast, Int.cast_ofNat_Int, Int.natCast_nonneg, fm_cl_s, fm_pt_s, tn_1, tn_2, tn_3, tn_4, tn_5, wr_id, wl_id, ar_500, fm_cl_ap, fm_pt_ap, ↓reduceIte, lc_lt, lc_le, lc_gt, lc_ge, lc_eq, c92, Nat.reduceEqDiff, one_ne_zero, fm_l2i_id, Int.reduceNeg, eq_self, nrw_0, nrw_1, Int.reduceEq, Int.reduceLT, Int.reduceLE, Int.reduceAdd, Int.reduceSub, Int.reduceMul, Int.reduceToNat, cl_cl]
  exact st
set_option maxRecDepth 20000 in
set_option maxHeartbeats 4000000 in
/-- the class: clear -/
theorem c36 (hp : q = 43 ∨ q = 49)
    (hK : ∀ J : Nat → Nat → Int, (∀ x, x ≠ q → x ≠ q + 1 → x ≠ q + 2 → J x = I x) → J (q + 1) = fm_pt (I (q + 1)) 0 0 → J (q + 2) = fm_pt (I (q + 2)) 0 48 → (J q 2 = 1 ∧ J q 3 = 48 ∧ J q 4 = 48 ∧ J q 5 = 0 ∧ J q 6 = 0 ∧ J q 7 = 0 ∧ J q 11 = 0 ∧ J q 12 = 0 ∧ J q 13 = 0) → K none (J, L, fm_refs p q, 96, n)) :
    fm_wp 36 (0, [some (.inr (.inr (some q)))], [], (I, L, fm_refs p q, 96, n)) K := by
  have obq : ∀ (G M : Nat → Nat → Int), fm_obj (G, M, fm_refs p q, 96, n) q = some 3 := by
    intro G M
    rcases hp with rfl | rfl
    · exact ob_43
    · exact ob_49
  have q1 : ¬ q + 1 = q := by omega
  have q2 : ¬ q + 2 = q := by omega
  simp (disch := first | omega | exact Nat.le_of_ble_eq_true rfl) only [q36_0, q36_1, q36_4, q36_5, q36_6, q36_8, q36_11, q36_12, q36_14, q36_17, q36_18, q36_19, q36_22, q36_23, q36_24, q36_27, q36_28, q36_29, q36_32, q36_33, q36_34, q36_37, q36_38, q36_39, q36_42, q36_43, q36_44, q36_47, q37_0, q37_1, q37_2, q37_5, q37_6, q37_7, q37_10, ob_0, ob_1, aw_2, ar_2, ob_3, aw_4, ar_4, aw_5, ar_5, ob_6, aw_7, ar_7, aw_8, ar_8, aw_9, ar_9, aw_10, ar_10, aw_11, ar_11, aw_12, ar_12, aw_13, ar_13, aw_14, ar_14, aw_15, ar_15, aw_16, ar_16, aw_17, ar_17, aw_18, ar_18, ob_19, aw_20, ar_20, aw_21, ar_21, aw_22, ar_22, aw_23, ar_23, aw_24, ar_24, ob_25, aw_26, ar_26, aw_27, ar_27, aw_28, ar_28, aw_29, ar_29, aw_30, ar_30, aw_31, ar_31, aw_32, ar_32, ob_33, aw_34, ar_34, aw_35, ar_35, aw_36, ar_36, aw_37, ar_37, aw_38, ar_38, aw_39, ar_39, aw_40, ar_40, aw_41, ar_41, aw_42, ar_42, ob_43, aw_44, ar_44, aw_45, ar_45, aw_46, ar_46, aw_47, ar_47, aw_48, ar_48, ob_49, aw_50, ar_50, aw_51, ar_51, aw_52, ar_52, aw_53, ar_53, aw_54, ar_54, ob_55, aw_56, ar_56, aw_57, ar_57, aw_58, ar_58, aw_59, ar_59, aw_60, ar_60, aw_61, ar_61, aw_62, ar_62, aw_63, ar_63, aw_64, ar_64, aw_65, ar_65, aw_66, ar_66, aw_67, ar_67, aw_68, ar_68, aw_69, ar_69, aw_70, ar_70, aw_71, ar_71, aw_72, ar_72, aw_73, ar_73, aw_74, ar_74, aw_75, ar_75, aw_76, ar_76, aw_77, ar_77, aw_78, ar_78, aw_79, ar_79, aw_80, ar_80, aw_81, ar_81, aw_82, ar_82, aw_83, ar_83, aw_84, ar_84, aw_85, ar_85, aw_86, ar_86, aw_87, ar_87, aw_88, ar_88, aw_89, ar_89, aw_90, ar_90, aw_91, ar_91, aw_92, ar_92, aw_93, ar_93, aw_94, ar_94, aw_95, ar_95, re_0_0, re_0_1, re_0_2, re_0_3, re_0_4, re_0_5, re_0_6, re_0_7, re_1_0, re_3_0, re_3_1, re_3_2, re_6_1, re_6_2, re_6_3, re_6_4, re_6_5, re_6_6, re_6_7, re_6_8, re_6_9, re_6_10, re_6_11, re_6_12, re_19_0, re_19_1, re_19_2, re_19_3, re_19_4, re_25_1, re_25_2, re_25_3, re_25_4, re_25_5, re_25_6, re_25_7, re_33_0, re_33_1, re_33_2, re_33_3, re_33_4, re_33_5, re_33_6, re_33_7, re_33_8, re_43_0, re_43_1, re_43_8, re_43_9, re_43_10, re_49_0, re_49_1, re_49_8, re_49_9, re_49_10, re_55_0, re_55_11, re_55_13, re_55_14, re_55_18, re_55_20, re_55_21, re_55_22, re_55_23, re_55_25, re_55_26, re_55_34, re_55_35, re_55_36, re_55_38, re_55_39, re_55_40, re_55_41, re_55_42, re_55_43, re_55_44, re_55_45, re_55_46, re_55_47, re_55_48, re_55_49, re_55_52, re_55_53, re_55_54, re_55_55, re_55_56, re_55_58, re_55_59, re_55_60, re_55_61, re_55_62, re_55_63, re_55_64, re_55_65, re_55_66, true_and, and_true, true_implies, false_implies, not_true_eq_false, not_false_eq_true, implies_true, and_self, false_and, and_false, or_true, true_or, or_false, false_or, ne_eq, Classical.not_not, inB_eq, inB_by, inB_bo, fm_nl_n, fm_nl_i, fm_nl_r, fm_same_self, Option.toList_some, Option.toList_none, List.cons_append, List.nil_append, Int.toNat_natCast, Int.cast_ofNat_Int, Int.natCast_nonneg, fm_cl_s, fm_pt_s, tn_1, tn_2, tn_3, tn_4, tn_5, wr_id, wl_id, ar_500, fm_cl_ap, fm_pt_ap, ↓reduceIte, lc_lt, lc_le, lc_gt, lc_ge, lc_eq, c92, Nat.reduceEqDiff, one_ne_zero, fm_l2i_id, Int.reduceNeg, eq_self, nrw_0, nrw_1, Int.reduceEq, Int.reduceLT, Int.reduceLE, Int.reduceAdd, Int.reduceSub, Int.reduceMul, Int.reduceToNat, obq, cl_cl]
  refine c38 (i := 0) hp (by rw [fm_cl_s]; simp only [fm_cl_ap, fm_pt_ap, ↓reduceIte, Nat.reduceEqDiff, Nat.reduceAdd]; rfl) (by omega) (fun J k0 k1 k2 kq => ?_)
  rw [fm_cl_n q1] at k1
  rw [fm_cl_n q2] at k2
  rw [fm_cl_s] at kq
  have kq3 : ∀ j, J q j = if j = 3 then 48 else if j = 2 then 1 else I q j := by
    intro j
    rw [kq]
    simp only [fm_pt_ap]
    by_cases j3 : j = 3
    · simp only [j3, ↓reduceIte, Nat.reduceEqDiff]; rfl
    · by_cases j2 : j = 2
      · simp only [j2, ↓reduceIte, Nat.reduceEqDiff]; rfl
      · simp only [j3, j2, ↓reduceIte]
  refine ⟨by simp only [fm_same_self], ?_⟩
  simp (disch := first | omega | exact Nat.le_of_ble_eq_true rfl) only [q36_0, q36_1, q36_4, q36_5, q36_6, q36_8, q36_11, q36_12, q36_14, q36_17, q36_18, q36_19, q36_22, q36_23, q36_24, q36_27, q36_28, q36_29, q36_32, q36_33, q36_34, q36_37, q36_38, q36_39, q36_42, q36_43, q36_44, q36_47, ob_0, ob_1, aw_2, ar_2, ob_3, aw_4, ar_4, aw_5, ar_5, ob_6, aw_7, ar_7, aw_8, ar_8, aw_9, ar_9, aw_10, ar_10, aw_11, ar_11, aw_12, ar_12, aw_13, ar_13, aw_14, ar_14, aw_15, ar_15, aw_16, ar_16, aw_17, ar_17, aw_18, ar_18, ob_19, aw_20, ar_20, aw_21, ar_21, aw_22, ar_22, aw_23, ar_23, aw_24, ar_24, ob_25, aw_26, ar_26, aw_27, ar_27, aw_28, ar_28, aw_29, ar_29, aw_30, ar_30, aw_31, ar_31, aw_32, ar_32, ob_33, aw_34, ar_34, aw_35, ar_35, aw_36, ar_36, aw_37, ar_37, aw_38, ar_38, aw_39, ar_39, aw_40, ar_40, aw_41, ar_41, aw_42, ar_42, ob_43, aw_44, ar_44, aw_45, ar_45, aw_46, ar_46, aw_47, ar_47, aw_48, ar_48, ob_49, aw_50, ar_50, aw_51, ar_51, aw_52, ar_52, aw_53, ar_53, aw_54, ar_54, ob_55, aw_56, ar_56, aw_57, ar_57, aw_58, ar_58, aw_59, ar_59, aw_60, ar_60, aw_61, ar_61, aw_62, ar_62, aw_63, ar_63, aw_64, ar_64, aw_65, ar_65, aw_66, ar_66, aw_67, ar_67, aw_68, ar_68, aw_69, ar_69, aw_70, ar_70, aw_71, ar_71, aw_72, ar_72, aw_73, ar_73, aw_74, ar_74, aw_75, ar_75, aw_76, ar_76, aw_77, ar_77, aw_78, ar_78, aw_79, ar_79, aw_80, ar_80, aw_81, ar_81, aw_82, ar_82, aw_83, ar_83, aw_84, ar_84, aw_85, ar_85, aw_86, ar_86, aw_87, ar_87, aw_88, ar_88, aw_89, ar_89, aw_90, ar_90, aw_91, ar_91, aw_92, ar_92, aw_93, ar_93, aw_94, ar_94, aw_95, ar_95, re_0_0, re_0_1, re_0_2, re_0_3, re_0_4, re_0_5, re_0_6, re_0_7, re_1_0, re_3_0, re_3_1, re_3_2, re_6_1, re_6_2, re_6_3, re_6_4, re_6_5, re_6_6, re_6_7, re_6_8, re_6_9, re_6_10, re_6_11, re_6_12, re_19_0, re_19_1, re_19_2, re_19_3, re_19_4, re_25_1, re_25_2, re_25_3, re_25_4, re_25_5, re_25_6, re_25_7, re_33_0, re_33_1, re_33_2, re_33_3, re_33_4, re_33_5, re_33_6, re_33_7, re_33_8, re_43_0, re_43_1, re_43_8, re_43_9, re_43_10, re_49_0, re_49_1, re_49_8, re_49_9, re_49_10, re_55_0, re_55_11, re_55_13, re_55_14, re_55_18, re_55_20, re_55_21, re_55_22, re_55_23, re_55_25, re_55_26, re_55_34, re_55_35, re_55_36, re_55_38, re_55_39, re_55_40, re_55_41, re_55_42, re_55_43, re_55_44, re_55_45, re_55_46, re_55_47, re_55_48, re_55_49, re_55_52, re_55_53, re_55_54, re_55_55, re_55_56, re_55_58, re_55_59, re_55_60, re_55_61, re_55_62, re_55_63, re_55_64, re_55_65, re_55_66, true_and, and_true, true_implies, false_implies, not_true_eq_false, not_false_eq_true, implies_true, and_self, false_and, and_false, or_true, true_or, or_false, false_or, ne_eq, Classical.not_not, inB_eq, inB_by, inB_bo, fm_nl_n, fm_nl_i, fm_nl_r, fm_same_self, Option.toList_some, Option.toList_none, List.cons_append, List.nil_append, Int.toNat_natCast, Int.cast_ofNat_Int, Int.natCast_nonneg, fm_cl_s, fm_pt_s, tn_1, tn_2, tn_3, tn_4, tn_5, wr_id, wl_id, ar_500, fm_cl_ap, fm_pt_ap, ↓reduceIte, lc_lt, lc_le, lc_gt, lc_ge, lc_eq, c92, Nat.reduceEqDiff, one_ne_zero, fm_l2i_id, Int.reduceNeg, eq_self, nrw_0, nrw_1, Int.reduceEq, Int.reduceLT, Int.reduceLE, Int.reduceAdd, Int.reduceSub, Int.reduceMul, Int.reduceToNat, obq, cl_cl]
  refine hK _ (fun x a1 a2 a3 => by rw [fm_cl_n a1, k0 x a1 a2 a3, fm_cl_n a1]) (by rw [fm_cl_n q1]; exact k1) (by rw [fm_cl_n q2]; exact k2) ?_
  rw [fm_cl_s]
  simp only [fm_cl_ap, fm_pt_ap, ↓reduceIte, Nat.reduceEqDiff, Nat.reduceAdd]
  rw [kq3, kq3]
  simp
end PREAD
