section CTOR
variable {I L : Nat → Nat → Int} {R : Nat → Nat → Option Nat} {n : Nat} {K : Option fm_V → fm_S → Prop} {st : List fm_V} {l0 l1 l2 l3 l4 l5 l6 l7 l8 l9 l10 l11 : Option fm_V}
theorem zn_140_0_0 : fm_wp 140 (0, [l0, l1, l2, l3], st, (I, L, R, 0, n)) K ↔ fm_wp 140 (3, [l0, l1, l2, l3], .inr (.inr (some 0)) :: st, (fm_cl I 0 zI, fm_cl L 0 zI, fm_cl R 0 zR, 1, n)) K := wp_new (show fm_code 140 0 = some (.new 7, 3, 7, 0, 0) by decide +kernel) rfl
theorem obz_1_0 : fm_obj (I, L, R, 1, n) 0 = some 7 := rfl
theorem zn_74_5_1 : fm_wp 74 (5, [l0], st, (I, L, R, 1, n)) K ↔ fm_wp 74 (8, [l0], .inr (.inr (some 1)) :: st, (fm_cl I 1 zI, fm_cl L 1 zI, fm_cl R 1 zR, 2, n)) K := wp_new (show fm_code 74 5 = some (.new 7, 3, 5, 0, 0) by decide +kernel) rfl
theorem obz_2_1 : fm_obj (I, L, R, 2, n) 1 = some 5 := rfl
theorem zn_50_8_2 : fm_wp 50 (8, [l0], .inl 400 :: st, (I, L, R, 2, n)) K ↔ fm_wp 50 (10, [l0], .inr (.inr (some 2)) :: st, (fm_cl I 2 zI, fm_cl L 2 zI, fm_cl R 2 zR, 3, n)) K := wp_newa (show fm_code 50 8 = some (.newarray .int, 2, 0, 0, 0) by decide +kernel) rfl (by decide) (by decide)
theorem obz_3_1 : fm_obj (I, L, R, 3, n) 1 = some 5 := rfl
theorem zc_74_9 (hs : st.length ≤ 4) : fm_wp 74 (9, [l0], .inr (.inr (some 1)) :: st, (I, L, R, 2, n)) K ↔ fm_wp 50 (0, [some (.inr (.inr (some 1)))], [], (I, L, R, 2, n)) (fun r τ => fm_gr 50 (I, L, R, 2, n) τ ∧ fm_wp 74 (12, [l0], r.toList ++ st, τ) K) := wp_ci (as := []) (rest := st) (show fm_code 74 9 = some (.invokespecial 9, 3, 50, 3, 0) by decide +kernel) (by decide) rfl (show 1 = fm_nar 50 by decide +kernel) hs rfl (show 1 ≤ fm_maxL 50 by decide +kernel)
theorem zg_74_9 {I' L' : Nat → Nat → Int} {R' : Nat → Nat → Option Nat} : fm_gr 50 (I, L, R, 2, n) (I', L', R', 3, n) = True := eq_true ⟨show 3 = 2 + fm_dna 50 by decide +kernel, show fm_sz 3 = fm_sz 2 + fm_dsl 50 by decide +kernel, rfl⟩
theorem obz_3_0 : fm_obj (I, L, R, 3, n) 0 = some 7 := rfl
theorem zn_74_16_3 : fm_wp 74 (16, [l0], st, (I, L, R, 3, n)) K ↔ fm_wp 74 (19, [l0], .inr (.inr (some 3)) :: st, (fm_cl I 3 zI, fm_cl L 3 zI, fm_cl R 3 zR, 4, n)) K := wp_new (show fm_code 74 16 = some (.new 16, 3, 6, 0, 0) by decide +kernel) rfl
theorem obz_4_0 : fm_obj (I, L, R, 4, n) 0 = some 7 := rfl
theorem obz_4_3 : fm_obj (I, L, R, 4, n) 3 = some 6 := rfl
theorem zn_53_7_4 : fm_wp 53 (7, [l0, l1], .inl 8 :: st, (I, L, R, 4, n)) K ↔ fm_wp 53 (9, [l0, l1], .inr (.inr (some 4)) :: st, (fm_cl I 4 zI, fm_cl L 4 zI, fm_cl R 4 zR, 5, n)) K := wp_newa (show fm_code 53 7 = some (.newarray .long, 2, 0, 0, 0) by decide +kernel) rfl (by decide) (by decide)
theorem obz_5_3 : fm_obj (I, L, R, 5, n) 3 = some 6 := rfl
theorem zn_53_20_5 : fm_wp 53 (20, [l0, l1], .inl 6 :: st, (I, L, R, 5, n)) K ↔ fm_wp 53 (22, [l0, l1], .inr (.inr (some 5)) :: st, (fm_cl I 5 zI, fm_cl L 5 zI, fm_cl R 5 zR, 6, n)) K := wp_newa (show fm_code 53 20 = some (.newarray .long, 2, 0, 0, 0) by decide +kernel) rfl (by decide) (by decide)
theorem zw_26 {na : Nat} (hs : st.length ≤ 4) : fm_wp 53 (26, [l0, l1], .inr (.inr (some 600)) :: st, (I, L, R, na, n)) K ↔ fm_wp 53 (29, [l0, l1], .inr (.inl 24170600) :: st, (I, L, R, na, n)) K := wp_ww (show fm_code 53 26 = some (.invokestatic 21, 3, 69, 2, 0) by decide +kernel) rfl hs
theorem awz_6_5 : fm_arw (I, L, R, 6, n) 5 = some (.long, 6) := rfl
theorem zw_34 {na : Nat} (hs : st.length ≤ 4) : fm_wp 53 (34, [l0, l1], .inr (.inr (some 601)) :: st, (I, L, R, na, n)) K ↔ fm_wp 53 (37, [l0, l1], .inr (.inl 595572) :: st, (I, L, R, na, n)) K := wp_ww (show fm_code 53 34 = some (.invokestatic 21, 3, 69, 2, 0) by decide +kernel) rfl hs
theorem zw_42 {na : Nat} (hs : st.length ≤ 4) : fm_wp 53 (42, [l0, l1], .inr (.inr (some 602)) :: st, (I, L, R, na, n)) K ↔ fm_wp 53 (45, [l0, l1], .inr (.inl 75148) :: st, (I, L, R, na, n)) K := wp_ww (show fm_code 53 42 = some (.invokestatic 21, 3, 69, 2, 0) by decide +kernel) rfl hs
theorem zw_50 {na : Nat} (hs : st.length ≤ 4) : fm_wp 53 (50, [l0, l1], .inr (.inr (some 603)) :: st, (I, L, R, na, n)) K ↔ fm_wp 53 (53, [l0, l1], .inr (.inl 152972) :: st, (I, L, R, na, n)) K := wp_ww (show fm_code 53 50 = some (.invokestatic 21, 3, 69, 2, 0) by decide +kernel) rfl hs
theorem zw_58 {na : Nat} (hs : st.length ≤ 4) : fm_wp 53 (58, [l0, l1], .inr (.inr (some 604)) :: st, (I, L, R, na, n)) K ↔ fm_wp 53 (61, [l0, l1], .inr (.inl 12748366) :: st, (I, L, R, na, n)) K := wp_ww (show fm_code 53 58 = some (.invokestatic 21, 3, 69, 2, 0) by decide +kernel) rfl hs
theorem zw_66 {na : Nat} (hs : st.length ≤ 4) : fm_wp 53 (66, [l0, l1], .inr (.inr (some 605)) :: st, (I, L, R, na, n)) K ↔ fm_wp 53 (69, [l0, l1], .inr (.inl 12748404) :: st, (I, L, R, na, n)) K := wp_ww (show fm_code 53 66 = some (.invokestatic 21, 3, 69, 2, 0) by decide +kernel) rfl hs
theorem obz_6_3 : fm_obj (I, L, R, 6, n) 3 = some 6 := rfl
theorem zc_74_24 (hs : st.length ≤ 4) : fm_wp 74 (24, [l0], .inr (.inr (some 1)) :: .inr (.inr (some 3)) :: st, (I, L, R, 4, n)) K ↔ fm_wp 53 (0, [some (.inr (.inr (some 3))), some (.inr (.inr (some 1)))], [], (I, L, R, 4, n)) (fun r τ => fm_gr 53 (I, L, R, 4, n) τ ∧ fm_wp 74 (27, [l0], r.toList ++ st, τ) K) := wp_ci (as := [.inr (.inr (some 1))]) (rest := st) (show fm_code 74 24 = some (.invokespecial 18, 3, 53, 0, 0) by decide +kernel) (by decide) rfl (show 2 = fm_nar 53 by decide +kernel) hs rfl (show 2 ≤ fm_maxL 53 by decide +kernel)
theorem zg_74_24 {I' L' : Nat → Nat → Int} {R' : Nat → Nat → Option Nat} : fm_gr 53 (I, L, R, 4, n) (I', L', R', 6, n) = True := eq_true ⟨show 6 = 4 + fm_dna 53 by decide +kernel, show fm_sz 6 = fm_sz 4 + fm_dsl 53 by decide +kernel, rfl⟩
theorem obz_6_0 : fm_obj (I, L, R, 6, n) 0 = some 7 := rfl
theorem zn_74_31_6 : fm_wp 74 (31, [l0], st, (I, L, R, 6, n)) K ↔ fm_wp 74 (34, [l0], .inr (.inr (some 6)) :: st, (fm_cl I 6 zI, fm_cl L 6 zI, fm_cl R 6 zR, 7, n)) K := wp_new (show fm_code 74 31 = some (.new 25, 3, 0, 0, 0) by decide +kernel) rfl
theorem obz_7_6 : fm_obj (I, L, R, 7, n) 6 = some 0 := rfl
theorem zn_0_12_7 : fm_wp 0 (12, [l0], .inl 16 :: st, (I, L, R, 7, n)) K ↔ fm_wp 0 (14, [l0], .inr (.inr (some 7)) :: st, (fm_cl I 7 zI, fm_cl L 7 zI, fm_cl R 7 zR, 8, n)) K := wp_newa (show fm_code 0 12 = some (.newarray .int, 2, 0, 0, 0) by decide +kernel) rfl (by decide) (by decide)
theorem obz_8_6 : fm_obj (I, L, R, 8, n) 6 = some 0 := rfl
theorem zn_0_20_8 : fm_wp 0 (20, [l0], .inl 16 :: st, (I, L, R, 8, n)) K ↔ fm_wp 0 (22, [l0], .inr (.inr (some 8)) :: st, (fm_cl I 8 zI, fm_cl L 8 zI, fm_cl R 8 zR, 9, n)) K := wp_newa (show fm_code 0 20 = some (.newarray .int, 2, 0, 0, 0) by decide +kernel) rfl (by decide) (by decide)
theorem obz_9_6 : fm_obj (I, L, R, 9, n) 6 = some 0 := rfl
theorem zn_0_28_9 : fm_wp 0 (28, [l0], .inl 16 :: st, (I, L, R, 9, n)) K ↔ fm_wp 0 (30, [l0], .inr (.inr (some 9)) :: st, (fm_cl I 9 zI, fm_cl L 9 zI, fm_cl R 9 zR, 10, n)) K := wp_newa (show fm_code 0 28 = some (.newarray .int, 2, 0, 0, 0) by decide +kernel) rfl (by decide) (by decide)
theorem obz_10_6 : fm_obj (I, L, R, 10, n) 6 = some 0 := rfl
theorem zn_0_36_10 : fm_wp 0 (36, [l0], .inl 16 :: st, (I, L, R, 10, n)) K ↔ fm_wp 0 (38, [l0], .inr (.inr (some 10)) :: st, (fm_cl I 10 zI, fm_cl L 10 zI, fm_cl R 10 zR, 11, n)) K := wp_newa (show fm_code 0 36 = some (.newarray .int, 2, 0, 0, 0) by decide +kernel) rfl (by decide) (by decide)
theorem obz_11_6 : fm_obj (I, L, R, 11, n) 6 = some 0 := rfl
theorem zn_0_44_11 : fm_wp 0 (44, [l0], .inl 16 :: st, (I, L, R, 11, n)) K ↔ fm_wp 0 (46, [l0], .inr (.inr (some 11)) :: st, (fm_cl I 11 zI, fm_cl L 11 zI, fm_cl R 11 zR, 12, n)) K := wp_newa (show fm_code 0 44 = some (.newarray .int, 2, 0, 0, 0) by decide +kernel) rfl (by decide) (by decide)
theorem obz_12_6 : fm_obj (I, L, R, 12, n) 6 = some 0 := rfl
theorem zn_0_52_12 : fm_wp 0 (52, [l0], .inl 16 :: st, (I, L, R, 12, n)) K ↔ fm_wp 0 (54, [l0], .inr (.inr (some 12)) :: st, (fm_cl I 12 zI, fm_cl L 12 zI, fm_cl R 12 zR, 13, n)) K := wp_newa (show fm_code 0 52 = some (.newarray .int, 2, 0, 0, 0) by decide +kernel) rfl (by decide) (by decide)
theorem obz_13_6 : fm_obj (I, L, R, 13, n) 6 = some 0 := rfl
theorem zn_0_60_13 : fm_wp 0 (60, [l0], .inl 16 :: st, (I, L, R, 13, n)) K ↔ fm_wp 0 (62, [l0], .inr (.inr (some 13)) :: st, (fm_cl I 13 zI, fm_cl L 13 zI, fm_cl R 13 zR, 14, n)) K := wp_newa (show fm_code 0 60 = some (.newarray .int, 2, 0, 0, 0) by decide +kernel) rfl (by decide) (by decide)
theorem obz_14_6 : fm_obj (I, L, R, 14, n) 6 = some 0 := rfl
theorem zn_0_68_14 : fm_wp 0 (68, [l0], .inl 16 :: st, (I, L, R, 14, n)) K ↔ fm_wp 0 (70, [l0], .inr (.inr (some 14)) :: st, (fm_cl I 14 zI, fm_cl L 14 zI, fm_cl R 14 zR, 15, n)) K := wp_newa (show fm_code 0 68 = some (.newarray .int, 2, 0, 0, 0) by decide +kernel) rfl (by decide) (by decide)
theorem obz_15_6 : fm_obj (I, L, R, 15, n) 6 = some 0 := rfl
theorem zn_0_76_15 : fm_wp 0 (76, [l0], .inl 16 :: st, (I, L, R, 15, n)) K ↔ fm_wp 0 (78, [l0], .inr (.inr (some 15)) :: st, (fm_cl I 15 zI, fm_cl L 15 zI, fm_cl R 15 zR, 16, n)) K := wp_newa (show fm_code 0 76 = some (.newarray .int, 2, 0, 0, 0) by decide +kernel) rfl (by decide) (by decide)
theorem obz_16_6 : fm_obj (I, L, R, 16, n) 6 = some 0 := rfl
theorem zn_0_84_16 : fm_wp 0 (84, [l0], .inl 16 :: st, (I, L, R, 16, n)) K ↔ fm_wp 0 (86, [l0], .inr (.inr (some 16)) :: st, (fm_cl I 16 zI, fm_cl L 16 zI, fm_cl R 16 zR, 17, n)) K := wp_newa (show fm_code 0 84 = some (.newarray .int, 2, 0, 0, 0) by decide +kernel) rfl (by decide) (by decide)
theorem obz_17_6 : fm_obj (I, L, R, 17, n) 6 = some 0 := rfl
theorem zn_0_92_17 : fm_wp 0 (92, [l0], .inl 96 :: st, (I, L, R, 17, n)) K ↔ fm_wp 0 (94, [l0], .inr (.inr (some 17)) :: st, (fm_cl I 17 zI, fm_cl L 17 zI, fm_cl R 17 zR, 18, n)) K := wp_newa (show fm_code 0 92 = some (.newarray .int, 2, 0, 0, 0) by decide +kernel) rfl (by decide) (by decide)
theorem obz_18_6 : fm_obj (I, L, R, 18, n) 6 = some 0 := rfl
theorem zn_0_100_18 : fm_wp 0 (100, [l0], .inl 16 :: st, (I, L, R, 18, n)) K ↔ fm_wp 0 (102, [l0], .inr (.inr (some 18)) :: st, (fm_cl I 18 zI, fm_cl L 18 zI, fm_cl R 18 zR, 19, n)) K := wp_newa (show fm_code 0 100 = some (.newarray .boolean, 2, 0, 0, 0) by decide +kernel) rfl (by decide) (by decide)
theorem obz_19_6 : fm_obj (I, L, R, 19, n) 6 = some 0 := rfl
theorem awz_19_9 : fm_arw (I, L, R, 19, n) 9 = some (.int, 16) := rfl
theorem awz_19_10 : fm_arw (I, L, R, 19, n) 10 = some (.int, 16) := rfl
theorem awz_19_11 : fm_arw (I, L, R, 19, n) 11 = some (.int, 16) := rfl
theorem awz_19_12 : fm_arw (I, L, R, 19, n) 12 = some (.int, 16) := rfl
theorem awz_19_13 : fm_arw (I, L, R, 19, n) 13 = some (.int, 16) := rfl
theorem awz_19_14 : fm_arw (I, L, R, 19, n) 14 = some (.int, 16) := rfl
theorem awz_19_15 : fm_arw (I, L, R, 19, n) 15 = some (.int, 16) := rfl
theorem awz_19_16 : fm_arw (I, L, R, 19, n) 16 = some (.int, 16) := rfl
theorem awz_19_17 : fm_arw (I, L, R, 19, n) 17 = some (.int, 96) := rfl
theorem awz_19_18 : fm_arw (I, L, R, 19, n) 18 = some (.boolean, 16) := rfl
theorem zc_74_35 (hs : st.length ≤ 4) : fm_wp 74 (35, [l0], .inr (.inr (some 6)) :: st, (I, L, R, 7, n)) K ↔ fm_wp 0 (0, [some (.inr (.inr (some 6)))], [], (I, L, R, 7, n)) (fun r τ => fm_gr 0 (I, L, R, 7, n) τ ∧ fm_wp 74 (38, [l0], r.toList ++ st, τ) K) := wp_ci (as := []) (rest := st) (show fm_code 74 35 = some (.invokespecial 27, 3, 0, 0, 0) by decide +kernel) (by decide) rfl (show 1 = fm_nar 0 by decide +kernel) hs rfl (show 1 ≤ fm_maxL 0 by decide +kernel)
theorem zg_74_35 {I' L' : Nat → Nat → Int} {R' : Nat → Nat → Option Nat} : fm_gr 0 (I, L, R, 7, n) (I', L', R', 19, n) = True := eq_true ⟨show 19 = 7 + fm_dna 0 by decide +kernel, show fm_sz 19 = fm_sz 7 + fm_dsl 0 by decide +kernel, rfl⟩
theorem obz_19_0 : fm_obj (I, L, R, 19, n) 0 = some 7 := rfl
theorem zn_74_42_19 : fm_wp 74 (42, [l0], st, (I, L, R, 19, n)) K ↔ fm_wp 74 (45, [l0], .inr (.inr (some 19)) :: st, (fm_cl I 19 zI, fm_cl L 19 zI, fm_cl R 19 zR, 20, n)) K := wp_new (show fm_code 74 42 = some (.new 32, 3, 1, 0, 0) by decide +kernel) rfl
theorem obz_20_19 : fm_obj (I, L, R, 20, n) 19 = some 1 := rfl
theorem zn_17_7_20 : fm_wp 17 (7, [l0], .inl 64 :: st, (I, L, R, 20, n)) K ↔ fm_wp 17 (9, [l0], .inr (.inr (some 20)) :: st, (fm_cl I 20 zI, fm_cl L 20 zI, fm_cl R 20 zR, 21, n)) K := wp_newa (show fm_code 17 7 = some (.newarray .int, 2, 0, 0, 0) by decide +kernel) rfl (by decide) (by decide)
theorem obz_21_19 : fm_obj (I, L, R, 21, n) 19 = some 1 := rfl
theorem zn_17_15_21 : fm_wp 17 (15, [l0], .inl 64 :: st, (I, L, R, 21, n)) K ↔ fm_wp 17 (17, [l0], .inr (.inr (some 21)) :: st, (fm_cl I 21 zI, fm_cl L 21 zI, fm_cl R 21 zR, 22, n)) K := wp_newa (show fm_code 17 15 = some (.newarray .int, 2, 0, 0, 0) by decide +kernel) rfl (by decide) (by decide)
theorem obz_22_19 : fm_obj (I, L, R, 22, n) 19 = some 1 := rfl
theorem zn_17_23_22 : fm_wp 17 (23, [l0], .inl 64 :: st, (I, L, R, 22, n)) K ↔ fm_wp 17 (25, [l0], .inr (.inr (some 22)) :: st, (fm_cl I 22 zI, fm_cl L 22 zI, fm_cl R 22 zR, 23, n)) K := wp_newa (show fm_code 17 23 = some (.newarray .int, 2, 0, 0, 0) by decide +kernel) rfl (by decide) (by decide)
theorem obz_23_19 : fm_obj (I, L, R, 23, n) 19 = some 1 := rfl
theorem zn_17_31_23 : fm_wp 17 (31, [l0], .inl 16 :: st, (I, L, R, 23, n)) K ↔ fm_wp 17 (33, [l0], .inr (.inr (some 23)) :: st, (fm_cl I 23 zI, fm_cl L 23 zI, fm_cl R 23 zR, 24, n)) K := wp_newa (show fm_code 17 31 = some (.newarray .boolean, 2, 0, 0, 0) by decide +kernel) rfl (by decide) (by decide)
theorem obz_24_19 : fm_obj (I, L, R, 24, n) 19 = some 1 := rfl
theorem zn_17_39_24 : fm_wp 17 (39, [l0], .inl 12 :: st, (I, L, R, 24, n)) K ↔ fm_wp 17 (41, [l0], .inr (.inr (some 24)) :: st, (fm_cl I 24 zI, fm_cl L 24 zI, fm_cl R 24 zR, 25, n)) K := wp_newa (show fm_code 17 39 = some (.newarray .int, 2, 0, 0, 0) by decide +kernel) rfl (by decide) (by decide)
theorem obz_25_19 : fm_obj (I, L, R, 25, n) 19 = some 1 := rfl
theorem zc_74_46 (hs : st.length ≤ 4) : fm_wp 74 (46, [l0], .inr (.inr (some 19)) :: st, (I, L, R, 20, n)) K ↔ fm_wp 17 (0, [some (.inr (.inr (some 19)))], [], (I, L, R, 20, n)) (fun r τ => fm_gr 17 (I, L, R, 20, n) τ ∧ fm_wp 74 (49, [l0], r.toList ++ st, τ) K) := wp_ci (as := []) (rest := st) (show fm_code 74 46 = some (.invokespecial 34, 3, 17, 3, 0) by decide +kernel) (by decide) rfl (show 1 = fm_nar 17 by decide +kernel) hs rfl (show 1 ≤ fm_maxL 17 by decide +kernel)
theorem zg_74_46 {I' L' : Nat → Nat → Int} {R' : Nat → Nat → Option Nat} : fm_gr 17 (I, L, R, 20, n) (I', L', R', 25, n) = True := eq_true ⟨show 25 = 20 + fm_dna 17 by decide +kernel, show fm_sz 25 = fm_sz 20 + fm_dsl 17 by decide +kernel, rfl⟩
theorem obz_25_0 : fm_obj (I, L, R, 25, n) 0 = some 7 := rfl
theorem zn_74_53_25 : fm_wp 74 (53, [l0], st, (I, L, R, 25, n)) K ↔ fm_wp 74 (56, [l0], .inr (.inr (some 25)) :: st, (fm_cl I 25 zI, fm_cl L 25 zI, fm_cl R 25 zR, 26, n)) K := wp_new (show fm_code 74 53 = some (.new 39, 3, 2, 0, 0) by decide +kernel) rfl
theorem obz_26_25 : fm_obj (I, L, R, 26, n) 25 = some 2 := rfl
theorem zn_25_12_26 : fm_wp 25 (12, [l0], .inl 60 :: st, (I, L, R, 26, n)) K ↔ fm_wp 25 (14, [l0], .inr (.inr (some 26)) :: st, (fm_cl I 26 zI, fm_cl L 26 zI, fm_cl R 26 zR, 27, n)) K := wp_newa (show fm_code 25 12 = some (.newarray .int, 2, 0, 0, 0) by decide +kernel) rfl (by decide) (by decide)
theorem obz_27_25 : fm_obj (I, L, R, 27, n) 25 = some 2 := rfl
theorem zn_25_20_27 : fm_wp 25 (20, [l0], .inl 60 :: st, (I, L, R, 27, n)) K ↔ fm_wp 25 (22, [l0], .inr (.inr (some 27)) :: st, (fm_cl I 27 zI, fm_cl L 27 zI, fm_cl R 27 zR, 28, n)) K := wp_newa (show fm_code 25 20 = some (.newarray .int, 2, 0, 0, 0) by decide +kernel) rfl (by decide) (by decide)
theorem obz_28_25 : fm_obj (I, L, R, 28, n) 25 = some 2 := rfl
theorem zn_25_28_28 : fm_wp 25 (28, [l0], .inl 60 :: st, (I, L, R, 28, n)) K ↔ fm_wp 25 (30, [l0], .inr (.inr (some 28)) :: st, (fm_cl I 28 zI, fm_cl L 28 zI, fm_cl R 28 zR, 29, n)) K := wp_newa (show fm_code 25 28 = some (.newarray .int, 2, 0, 0, 0) by decide +kernel) rfl (by decide) (by decide)
theorem obz_29_25 : fm_obj (I, L, R, 29, n) 25 = some 2 := rfl
theorem zn_25_36_29 : fm_wp 25 (36, [l0], .inl 60 :: st, (I, L, R, 29, n)) K ↔ fm_wp 25 (38, [l0], .inr (.inr (some 29)) :: st, (fm_cl I 29 zI, fm_cl L 29 zI, fm_cl R 29 zR, 30, n)) K := wp_newa (show fm_code 25 36 = some (.newarray .int, 2, 0, 0, 0) by decide +kernel) rfl (by decide) (by decide)
theorem obz_30_25 : fm_obj (I, L, R, 30, n) 25 = some 2 := rfl
theorem zn_25_44_30 : fm_wp 25 (44, [l0], .inl 60 :: st, (I, L, R, 30, n)) K ↔ fm_wp 25 (46, [l0], .inr (.inr (some 30)) :: st, (fm_cl I 30 zI, fm_cl L 30 zI, fm_cl R 30 zR, 31, n)) K := wp_newa (show fm_code 25 44 = some (.newarray .int, 2, 0, 0, 0) by decide +kernel) rfl (by decide) (by decide)
theorem obz_31_25 : fm_obj (I, L, R, 31, n) 25 = some 2 := rfl
theorem zn_25_53_31 : fm_wp 25 (53, [l0], .inl 720 :: st, (I, L, R, 31, n)) K ↔ fm_wp 25 (55, [l0], .inr (.inr (some 31)) :: st, (fm_cl I 31 zI, fm_cl L 31 zI, fm_cl R 31 zR, 32, n)) K := wp_newa (show fm_code 25 53 = some (.newarray .int, 2, 0, 0, 0) by decide +kernel) rfl (by decide) (by decide)
theorem obz_32_25 : fm_obj (I, L, R, 32, n) 25 = some 2 := rfl
theorem zn_25_62_32 : fm_wp 25 (62, [l0], .inl 720 :: st, (I, L, R, 32, n)) K ↔ fm_wp 25 (64, [l0], .inr (.inr (some 32)) :: st, (fm_cl I 32 zI, fm_cl L 32 zI, fm_cl R 32 zR, 33, n)) K := wp_newa (show fm_code 25 62 = some (.newarray .int, 2, 0, 0, 0) by decide +kernel) rfl (by decide) (by decide)
theorem obz_33_25 : fm_obj (I, L, R, 33, n) 25 = some 2 := rfl
theorem zc_74_57 (hs : st.length ≤ 4) : fm_wp 74 (57, [l0], .inr (.inr (some 25)) :: st, (I, L, R, 26, n)) K ↔ fm_wp 25 (0, [some (.inr (.inr (some 25)))], [], (I, L, R, 26, n)) (fun r τ => fm_gr 25 (I, L, R, 26, n) τ ∧ fm_wp 74 (60, [l0], r.toList ++ st, τ) K) := wp_ci (as := []) (rest := st) (show fm_code 74 57 = some (.invokespecial 41, 3, 25, 3, 0) by decide +kernel) (by decide) rfl (show 1 = fm_nar 25 by decide +kernel) hs rfl (show 1 ≤ fm_maxL 25 by decide +kernel)
theorem zg_74_57 {I' L' : Nat → Nat → Int} {R' : Nat → Nat → Option Nat} : fm_gr 25 (I, L, R, 26, n) (I', L', R', 33, n) = True := eq_true ⟨show 33 = 26 + fm_dna 25 by decide +kernel, show fm_sz 33 = fm_sz 26 + fm_dsl 25 by decide +kernel, rfl⟩
theorem obz_33_0 : fm_obj (I, L, R, 33, n) 0 = some 7 := rfl
theorem zn_74_64_33 : fm_wp 74 (64, [l0], st, (I, L, R, 33, n)) K ↔ fm_wp 74 (67, [l0], .inr (.inr (some 33)) :: st, (fm_cl I 33 zI, fm_cl L 33 zI, fm_cl R 33 zR, 34, n)) K := wp_new (show fm_code 74 64 = some (.new 46, 3, 4, 0, 0) by decide +kernel) rfl
theorem obz_34_33 : fm_obj (I, L, R, 34, n) 33 = some 4 := rfl
theorem zn_44_7_34 : fm_wp 44 (7, [l0], .inl 96 :: st, (I, L, R, 34, n)) K ↔ fm_wp 44 (9, [l0], .inr (.inr (some 34)) :: st, (fm_cl I 34 zI, fm_cl L 34 zI, fm_cl R 34 zR, 35, n)) K := wp_newa (show fm_code 44 7 = some (.newarray .int, 2, 0, 0, 0) by decide +kernel) rfl (by decide) (by decide)
theorem obz_35_33 : fm_obj (I, L, R, 35, n) 33 = some 4 := rfl
theorem zn_44_15_35 : fm_wp 44 (15, [l0], .inl 16 :: st, (I, L, R, 35, n)) K ↔ fm_wp 44 (17, [l0], .inr (.inr (some 35)) :: st, (fm_cl I 35 zI, fm_cl L 35 zI, fm_cl R 35 zR, 36, n)) K := wp_newa (show fm_code 44 15 = some (.newarray .int, 2, 0, 0, 0) by decide +kernel) rfl (by decide) (by decide)
theorem obz_36_33 : fm_obj (I, L, R, 36, n) 33 = some 4 := rfl
theorem zn_44_23_36 : fm_wp 44 (23, [l0], .inl 16 :: st, (I, L, R, 36, n)) K ↔ fm_wp 44 (25, [l0], .inr (.inr (some 36)) :: st, (fm_cl I 36 zI, fm_cl L 36 zI, fm_cl R 36 zR, 37, n)) K := wp_newa (show fm_code 44 23 = some (.newarray .int, 2, 0, 0, 0) by decide +kernel) rfl (by decide) (by decide)
theorem obz_37_33 : fm_obj (I, L, R, 37, n) 33 = some 4 := rfl
theorem zn_44_31_37 : fm_wp 44 (31, [l0], .inl 16 :: st, (I, L, R, 37, n)) K ↔ fm_wp 44 (33, [l0], .inr (.inr (some 37)) :: st, (fm_cl I 37 zI, fm_cl L 37 zI, fm_cl R 37 zR, 38, n)) K := wp_newa (show fm_code 44 31 = some (.newarray .int, 2, 0, 0, 0) by decide +kernel) rfl (by decide) (by decide)
theorem obz_38_33 : fm_obj (I, L, R, 38, n) 33 = some 4 := rfl
theorem zn_44_39_38 : fm_wp 44 (39, [l0], .inl 16 :: st, (I, L, R, 38, n)) K ↔ fm_wp 44 (41, [l0], .inr (.inr (some 38)) :: st, (fm_cl I 38 zI, fm_cl L 38 zI, fm_cl R 38 zR, 39, n)) K := wp_newa (show fm_code 44 39 = some (.newarray .int, 2, 0, 0, 0) by decide +kernel) rfl (by decide) (by decide)
theorem obz_39_33 : fm_obj (I, L, R, 39, n) 33 = some 4 := rfl
theorem zn_44_47_39 : fm_wp 44 (47, [l0], .inl 16 :: st, (I, L, R, 39, n)) K ↔ fm_wp 44 (49, [l0], .inr (.inr (some 39)) :: st, (fm_cl I 39 zI, fm_cl L 39 zI, fm_cl R 39 zR, 40, n)) K := wp_newa (show fm_code 44 47 = some (.newarray .int, 2, 0, 0, 0) by decide +kernel) rfl (by decide) (by decide)
theorem obz_40_33 : fm_obj (I, L, R, 40, n) 33 = some 4 := rfl
theorem zn_44_56_40 : fm_wp 44 (56, [l0], .inl 200 :: st, (I, L, R, 40, n)) K ↔ fm_wp 44 (58, [l0], .inr (.inr (some 40)) :: st, (fm_cl I 40 zI, fm_cl L 40 zI, fm_cl R 40 zR, 41, n)) K := wp_newa (show fm_code 44 56 = some (.newarray .int, 2, 0, 0, 0) by decide +kernel) rfl (by decide) (by decide)
theorem obz_41_33 : fm_obj (I, L, R, 41, n) 33 = some 4 := rfl
theorem zn_44_65_41 : fm_wp 44 (65, [l0], .inl 200 :: st, (I, L, R, 41, n)) K ↔ fm_wp 44 (67, [l0], .inr (.inr (some 41)) :: st, (fm_cl I 41 zI, fm_cl L 41 zI, fm_cl R 41 zR, 42, n)) K := wp_newa (show fm_code 44 65 = some (.newarray .int, 2, 0, 0, 0) by decide +kernel) rfl (by decide) (by decide)
theorem obz_42_33 : fm_obj (I, L, R, 42, n) 33 = some 4 := rfl
theorem zn_44_74_42 : fm_wp 44 (74, [l0], .inl 200 :: st, (I, L, R, 42, n)) K ↔ fm_wp 44 (76, [l0], .inr (.inr (some 42)) :: st, (fm_cl I 42 zI, fm_cl L 42 zI, fm_cl R 42 zR, 43, n)) K := wp_newa (show fm_code 44 74 = some (.newarray .int, 2, 0, 0, 0) by decide +kernel) rfl (by decide) (by decide)
theorem obz_43_33 : fm_obj (I, L, R, 43, n) 33 = some 4 := rfl
theorem awz_43_35 : fm_arw (I, L, R, 43, n) 35 = some (.int, 16) := rfl
theorem awz_43_36 : fm_arw (I, L, R, 43, n) 36 = some (.int, 16) := rfl
theorem awz_43_37 : fm_arw (I, L, R, 43, n) 37 = some (.int, 16) := rfl
theorem awz_43_38 : fm_arw (I, L, R, 43, n) 38 = some (.int, 16) := rfl
theorem awz_43_39 : fm_arw (I, L, R, 43, n) 39 = some (.int, 16) := rfl
theorem zc_74_68 (hs : st.length ≤ 4) : fm_wp 74 (68, [l0], .inr (.inr (some 33)) :: st, (I, L, R, 34, n)) K ↔ fm_wp 44 (0, [some (.inr (.inr (some 33)))], [], (I, L, R, 34, n)) (fun r τ => fm_gr 44 (I, L, R, 34, n) τ ∧ fm_wp 74 (71, [l0], r.toList ++ st, τ) K) := wp_ci (as := []) (rest := st) (show fm_code 74 68 = some (.invokespecial 48, 3, 44, 0, 0) by decide +kernel) (by decide) rfl (show 1 = fm_nar 44 by decide +kernel) hs rfl (show 1 ≤ fm_maxL 44 by decide +kernel)
theorem zg_74_68 {I' L' : Nat → Nat → Int} {R' : Nat → Nat → Option Nat} : fm_gr 44 (I, L, R, 34, n) (I', L', R', 43, n) = True := eq_true ⟨show 43 = 34 + fm_dna 44 by decide +kernel, show fm_sz 43 = fm_sz 34 + fm_dsl 44 by decide +kernel, rfl⟩
theorem obz_43_0 : fm_obj (I, L, R, 43, n) 0 = some 7 := rfl
theorem zn_74_75_43 : fm_wp 74 (75, [l0], st, (I, L, R, 43, n)) K ↔ fm_wp 74 (78, [l0], .inr (.inr (some 43)) :: st, (fm_cl I 43 zI, fm_cl L 43 zI, fm_cl R 43 zR, 44, n)) K := wp_new (show fm_code 74 75 = some (.new 53, 3, 3, 0, 0) by decide +kernel) rfl
theorem obz_44_43 : fm_obj (I, L, R, 44, n) 43 = some 3 := rfl
theorem zn_35_7_44 : fm_wp 35 (7, [l0], .inl 12 :: st, (I, L, R, 44, n)) K ↔ fm_wp 35 (9, [l0], .inr (.inr (some 44)) :: st, (fm_cl I 44 zI, fm_cl L 44 zI, fm_cl R 44 zR, 45, n)) K := wp_newa (show fm_code 35 7 = some (.newarray .int, 2, 0, 0, 0) by decide +kernel) rfl (by decide) (by decide)
theorem obz_45_43 : fm_obj (I, L, R, 45, n) 43 = some 3 := rfl
theorem zn_35_15_45 : fm_wp 35 (15, [l0], .inl 12 :: st, (I, L, R, 45, n)) K ↔ fm_wp 35 (17, [l0], .inr (.inr (some 45)) :: st, (fm_cl I 45 zI, fm_cl L 45 zI, fm_cl R 45 zR, 46, n)) K := wp_newa (show fm_code 35 15 = some (.newarray .int, 2, 0, 0, 0) by decide +kernel) rfl (by decide) (by decide)
theorem obz_46_43 : fm_obj (I, L, R, 46, n) 43 = some 3 := rfl
theorem zn_35_23_46 : fm_wp 35 (23, [l0], .inl 8 :: st, (I, L, R, 46, n)) K ↔ fm_wp 35 (25, [l0], .inr (.inr (some 46)) :: st, (fm_cl I 46 zI, fm_cl L 46 zI, fm_cl R 46 zR, 47, n)) K := wp_newa (show fm_code 35 23 = some (.newarray .int, 2, 0, 0, 0) by decide +kernel) rfl (by decide) (by decide)
theorem obz_47_43 : fm_obj (I, L, R, 47, n) 43 = some 3 := rfl
theorem zn_35_31_47 : fm_wp 35 (31, [l0], .inl 8 :: st, (I, L, R, 47, n)) K ↔ fm_wp 35 (33, [l0], .inr (.inr (some 47)) :: st, (fm_cl I 47 zI, fm_cl L 47 zI, fm_cl R 47 zR, 48, n)) K := wp_newa (show fm_code 35 31 = some (.newarray .int, 2, 0, 0, 0) by decide +kernel) rfl (by decide) (by decide)
theorem obz_48_43 : fm_obj (I, L, R, 48, n) 43 = some 3 := rfl
theorem zn_35_39_48 : fm_wp 35 (39, [l0], .inl 96 :: st, (I, L, R, 48, n)) K ↔ fm_wp 35 (41, [l0], .inr (.inr (some 48)) :: st, (fm_cl I 48 zI, fm_cl L 48 zI, fm_cl R 48 zR, 49, n)) K := wp_newa (show fm_code 35 39 = some (.newarray .int, 2, 0, 0, 0) by decide +kernel) rfl (by decide) (by decide)
theorem obz_49_43 : fm_obj (I, L, R, 49, n) 43 = some 3 := rfl
theorem awz_49_44 : fm_arw (I, L, R, 49, n) 44 = some (.int, 12) := rfl
theorem awz_49_45 : fm_arw (I, L, R, 49, n) 45 = some (.int, 12) := rfl
theorem zc_74_79 (hs : st.length ≤ 4) : fm_wp 74 (79, [l0], .inr (.inr (some 43)) :: st, (I, L, R, 44, n)) K ↔ fm_wp 35 (0, [some (.inr (.inr (some 43)))], [], (I, L, R, 44, n)) (fun r τ => fm_gr 35 (I, L, R, 44, n) τ ∧ fm_wp 74 (82, [l0], r.toList ++ st, τ) K) := wp_ci (as := []) (rest := st) (show fm_code 74 79 = some (.invokespecial 55, 3, 35, 0, 0) by decide +kernel) (by decide) rfl (show 1 = fm_nar 35 by decide +kernel) hs rfl (show 1 ≤ fm_maxL 35 by decide +kernel)
theorem zg_74_79 {I' L' : Nat → Nat → Int} {R' : Nat → Nat → Option Nat} : fm_gr 35 (I, L, R, 44, n) (I', L', R', 49, n) = True := eq_true ⟨show 49 = 44 + fm_dna 35 by decide +kernel, show fm_sz 49 = fm_sz 44 + fm_dsl 35 by decide +kernel, rfl⟩
theorem obz_49_0 : fm_obj (I, L, R, 49, n) 0 = some 7 := rfl
theorem zn_74_86_49 : fm_wp 74 (86, [l0], st, (I, L, R, 49, n)) K ↔ fm_wp 74 (89, [l0], .inr (.inr (some 49)) :: st, (fm_cl I 49 zI, fm_cl L 49 zI, fm_cl R 49 zR, 50, n)) K := wp_new (show fm_code 74 86 = some (.new 53, 3, 3, 0, 0) by decide +kernel) rfl
theorem obz_50_49 : fm_obj (I, L, R, 50, n) 49 = some 3 := rfl
theorem zn_35_7_50 : fm_wp 35 (7, [l0], .inl 12 :: st, (I, L, R, 50, n)) K ↔ fm_wp 35 (9, [l0], .inr (.inr (some 50)) :: st, (fm_cl I 50 zI, fm_cl L 50 zI, fm_cl R 50 zR, 51, n)) K := wp_newa (show fm_code 35 7 = some (.newarray .int, 2, 0, 0, 0) by decide +kernel) rfl (by decide) (by decide)
theorem obz_51_49 : fm_obj (I, L, R, 51, n) 49 = some 3 := rfl
theorem zn_35_15_51 : fm_wp 35 (15, [l0], .inl 12 :: st, (I, L, R, 51, n)) K ↔ fm_wp 35 (17, [l0], .inr (.inr (some 51)) :: st, (fm_cl I 51 zI, fm_cl L 51 zI, fm_cl R 51 zR, 52, n)) K := wp_newa (show fm_code 35 15 = some (.newarray .int, 2, 0, 0, 0) by decide +kernel) rfl (by decide) (by decide)
theorem obz_52_49 : fm_obj (I, L, R, 52, n) 49 = some 3 := rfl
theorem zn_35_23_52 : fm_wp 35 (23, [l0], .inl 8 :: st, (I, L, R, 52, n)) K ↔ fm_wp 35 (25, [l0], .inr (.inr (some 52)) :: st, (fm_cl I 52 zI, fm_cl L 52 zI, fm_cl R 52 zR, 53, n)) K := wp_newa (show fm_code 35 23 = some (.newarray .int, 2, 0, 0, 0) by decide +kernel) rfl (by decide) (by decide)
theorem obz_53_49 : fm_obj (I, L, R, 53, n) 49 = some 3 := rfl
theorem zn_35_31_53 : fm_wp 35 (31, [l0], .inl 8 :: st, (I, L, R, 53, n)) K ↔ fm_wp 35 (33, [l0], .inr (.inr (some 53)) :: st, (fm_cl I 53 zI, fm_cl L 53 zI, fm_cl R 53 zR, 54, n)) K := wp_newa (show fm_code 35 31 = some (.newarray .int, 2, 0, 0, 0) by decide +kernel) rfl (by decide) (by decide)
theorem obz_54_49 : fm_obj (I, L, R, 54, n) 49 = some 3 := rfl
theorem zn_35_39_54 : fm_wp 35 (39, [l0], .inl 96 :: st, (I, L, R, 54, n)) K ↔ fm_wp 35 (41, [l0], .inr (.inr (some 54)) :: st, (fm_cl I 54 zI, fm_cl L 54 zI, fm_cl R 54 zR, 55, n)) K := wp_newa (show fm_code 35 39 = some (.newarray .int, 2, 0, 0, 0) by decide +kernel) rfl (by decide) (by decide)
theorem obz_55_49 : fm_obj (I, L, R, 55, n) 49 = some 3 := rfl
theorem awz_55_50 : fm_arw (I, L, R, 55, n) 50 = some (.int, 12) := rfl
theorem awz_55_51 : fm_arw (I, L, R, 55, n) 51 = some (.int, 12) := rfl
theorem zc_74_90 (hs : st.length ≤ 4) : fm_wp 74 (90, [l0], .inr (.inr (some 49)) :: st, (I, L, R, 50, n)) K ↔ fm_wp 35 (0, [some (.inr (.inr (some 49)))], [], (I, L, R, 50, n)) (fun r τ => fm_gr 35 (I, L, R, 50, n) τ ∧ fm_wp 74 (93, [l0], r.toList ++ st, τ) K) := wp_ci (as := []) (rest := st) (show fm_code 74 90 = some (.invokespecial 55, 3, 35, 0, 0) by decide +kernel) (by decide) rfl (show 1 = fm_nar 35 by decide +kernel) hs rfl (show 1 ≤ fm_maxL 35 by decide +kernel)
theorem zg_74_90 {I' L' : Nat → Nat → Int} {R' : Nat → Nat → Option Nat} : fm_gr 35 (I, L, R, 50, n) (I', L', R', 55, n) = True := eq_true ⟨show 55 = 50 + fm_dna 35 by decide +kernel, show fm_sz 55 = fm_sz 50 + fm_dsl 35 by decide +kernel, rfl⟩
theorem obz_55_0 : fm_obj (I, L, R, 55, n) 0 = some 7 := rfl
theorem zc_140_4 (hs : st.length ≤ 4) : fm_wp 140 (4, [l0, l1, l2, l3], .inr (.inr (some 0)) :: st, (I, L, R, 1, n)) K ↔ fm_wp 74 (0, [some (.inr (.inr (some 0)))], [], (I, L, R, 1, n)) (fun r τ => fm_gr 74 (I, L, R, 1, n) τ ∧ fm_wp 140 (7, [l0, l1, l2, l3], r.toList ++ st, τ) K) := wp_ci (as := []) (rest := st) (show fm_code 140 4 = some (.invokespecial 9, 3, 74, 0, 0) by decide +kernel) (by decide) rfl (show 1 = fm_nar 74 by decide +kernel) hs rfl (show 1 ≤ fm_maxL 74 by decide +kernel)
theorem zg_140_4 {I' L' : Nat → Nat → Int} {R' : Nat → Nat → Option Nat} : fm_gr 74 (I, L, R, 1, n) (I', L', R', 55, n) = True := eq_true ⟨show 55 = 1 + fm_dna 74 by decide +kernel, show fm_sz 55 = fm_sz 1 + fm_dsl 74 by decide +kernel, rfl⟩
theorem zn_140_8_55 : fm_wp 140 (8, [l0, l1, l2, l3], st, (I, L, R, 55, n)) K ↔ fm_wp 140 (11, [l0, l1, l2, l3], .inr (.inr (some 55)) :: st, (fm_cl I 55 zI, fm_cl L 55 zI, fm_cl R 55 zR, 56, n)) K := wp_new (show fm_code 140 8 = some (.new 10, 3, 8, 0, 0) by decide +kernel) rfl
theorem obz_56_55 : fm_obj (I, L, R, 56, n) 55 = some 8 := rfl
theorem zn_91_8_56 : fm_wp 91 (8, [l0], .inl 400 :: st, (I, L, R, 56, n)) K ↔ fm_wp 91 (10, [l0], .inr (.inr (some 56)) :: st, (fm_cl I 56 zI, fm_cl L 56 zI, fm_cl R 56 zR, 57, n)) K := wp_newa (show fm_code 91 8 = some (.newarray .byte, 2, 0, 0, 0) by decide +kernel) rfl (by decide) (by decide)
theorem obz_57_55 : fm_obj (I, L, R, 57, n) 55 = some 8 := rfl
theorem zn_91_26_57 : fm_wp 91 (26, [l0], .inl 6 :: st, (I, L, R, 57, n)) K ↔ fm_wp 91 (28, [l0], .inr (.inr (some 57)) :: st, (fm_cl I 57 zI, fm_cl L 57 zI, fm_cl R 57 zR, 58, n)) K := wp_newa (show fm_code 91 26 = some (.newarray .boolean, 2, 0, 0, 0) by decide +kernel) rfl (by decide) (by decide)
theorem obz_58_55 : fm_obj (I, L, R, 58, n) 55 = some 8 := rfl
theorem zn_91_34_58 : fm_wp 91 (34, [l0], .inl 12 :: st, (I, L, R, 58, n)) K ↔ fm_wp 91 (36, [l0], .inr (.inr (some 58)) :: st, (fm_cl I 58 zI, fm_cl L 58 zI, fm_cl R 58 zR, 59, n)) K := wp_newa (show fm_code 91 34 = some (.newarray .int, 2, 0, 0, 0) by decide +kernel) rfl (by decide) (by decide)
theorem obz_59_55 : fm_obj (I, L, R, 59, n) 55 = some 8 := rfl
theorem zn_91_42_59 : fm_wp 91 (42, [l0], .inl 12 :: st, (I, L, R, 59, n)) K ↔ fm_wp 91 (44, [l0], .inr (.inr (some 59)) :: st, (fm_cl I 59 zI, fm_cl L 59 zI, fm_cl R 59 zR, 60, n)) K := wp_newa (show fm_code 91 42 = some (.newarray .int, 2, 0, 0, 0) by decide +kernel) rfl (by decide) (by decide)
theorem obz_60_55 : fm_obj (I, L, R, 60, n) 55 = some 8 := rfl
theorem zn_91_50_60 : fm_wp 91 (50, [l0], .inl 6 :: st, (I, L, R, 60, n)) K ↔ fm_wp 91 (52, [l0], .inr (.inr (some 60)) :: st, (fm_cl I 60 zI, fm_cl L 60 zI, fm_cl R 60 zR, 61, n)) K := wp_newa (show fm_code 91 50 = some (.newarray .int, 2, 0, 0, 0) by decide +kernel) rfl (by decide) (by decide)
theorem obz_61_55 : fm_obj (I, L, R, 61, n) 55 = some 8 := rfl
theorem zn_91_58_61 : fm_wp 91 (58, [l0], .inl 8 :: st, (I, L, R, 61, n)) K ↔ fm_wp 91 (60, [l0], .inr (.inr (some 61)) :: st, (fm_cl I 61 zI, fm_cl L 61 zI, fm_cl R 61 zR, 62, n)) K := wp_newa (show fm_code 91 58 = some (.newarray .long, 2, 0, 0, 0) by decide +kernel) rfl (by decide) (by decide)
theorem obz_62_55 : fm_obj (I, L, R, 62, n) 55 = some 8 := rfl
theorem zn_91_66_62 : fm_wp 91 (66, [l0], .inl 8 :: st, (I, L, R, 62, n)) K ↔ fm_wp 91 (68, [l0], .inr (.inr (some 62)) :: st, (fm_cl I 62 zI, fm_cl L 62 zI, fm_cl R 62 zR, 63, n)) K := wp_newa (show fm_code 91 66 = some (.newarray .int, 2, 0, 0, 0) by decide +kernel) rfl (by decide) (by decide)
theorem obz_63_55 : fm_obj (I, L, R, 63, n) 55 = some 8 := rfl
theorem zn_91_74_63 : fm_wp 91 (74, [l0], .inl 8 :: st, (I, L, R, 63, n)) K ↔ fm_wp 91 (76, [l0], .inr (.inr (some 63)) :: st, (fm_cl I 63 zI, fm_cl L 63 zI, fm_cl R 63 zR, 64, n)) K := wp_newa (show fm_code 91 74 = some (.newarray .int, 2, 0, 0, 0) by decide +kernel) rfl (by decide) (by decide)
theorem obz_64_55 : fm_obj (I, L, R, 64, n) 55 = some 8 := rfl
theorem zn_91_82_64 : fm_wp 91 (82, [l0], .inl 96 :: st, (I, L, R, 64, n)) K ↔ fm_wp 91 (84, [l0], .inr (.inr (some 64)) :: st, (fm_cl I 64 zI, fm_cl L 64 zI, fm_cl R 64 zR, 65, n)) K := wp_newa (show fm_code 91 82 = some (.newarray .int, 2, 0, 0, 0) by decide +kernel) rfl (by decide) (by decide)
theorem obz_65_55 : fm_obj (I, L, R, 65, n) 55 = some 8 := rfl
theorem zn_91_95_65 : fm_wp 91 (95, [l0], .inl 12 :: st, (I, L, R, 65, n)) K ↔ fm_wp 91 (97, [l0], .inr (.inr (some 65)) :: st, (fm_cl I 65 zI, fm_cl L 65 zI, fm_cl R 65 zR, 66, n)) K := wp_newa (show fm_code 91 95 = some (.newarray .int, 2, 0, 0, 0) by decide +kernel) rfl (by decide) (by decide)
theorem obz_66_55 : fm_obj (I, L, R, 66, n) 55 = some 8 := rfl
theorem zn_91_103_66 : fm_wp 91 (103, [l0], .inl 12 :: st, (I, L, R, 66, n)) K ↔ fm_wp 91 (105, [l0], .inr (.inr (some 66)) :: st, (fm_cl I 66 zI, fm_cl L 66 zI, fm_cl R 66 zR, 67, n)) K := wp_newa (show fm_code 91 103 = some (.newarray .int, 2, 0, 0, 0) by decide +kernel) rfl (by decide) (by decide)
theorem awz_67_66 : fm_arw (I, L, R, 67, n) 66 = some (.int, 12) := rfl
theorem obz_67_55 : fm_obj (I, L, R, 67, n) 55 = some 8 := rfl
theorem zn_91_172_67 : fm_wp 91 (172, [l0], .inl 8 :: st, (I, L, R, 67, n)) K ↔ fm_wp 91 (174, [l0], .inr (.inr (some 67)) :: st, (fm_cl I 67 zI, fm_cl L 67 zI, fm_cl R 67 zR, 68, n)) K := wp_newa (show fm_code 91 172 = some (.newarray .int, 2, 0, 0, 0) by decide +kernel) rfl (by decide) (by decide)
theorem obz_68_55 : fm_obj (I, L, R, 68, n) 55 = some 8 := rfl
theorem zn_91_180_68 : fm_wp 91 (180, [l0], .inl 8 :: st, (I, L, R, 68, n)) K ↔ fm_wp 91 (182, [l0], .inr (.inr (some 68)) :: st, (fm_cl I 68 zI, fm_cl L 68 zI, fm_cl R 68 zR, 69, n)) K := wp_newa (show fm_code 91 180 = some (.newarray .int, 2, 0, 0, 0) by decide +kernel) rfl (by decide) (by decide)
theorem obz_69_55 : fm_obj (I, L, R, 69, n) 55 = some 8 := rfl
theorem zn_91_188_69 : fm_wp 91 (188, [l0], .inl 96 :: st, (I, L, R, 69, n)) K ↔ fm_wp 91 (190, [l0], .inr (.inr (some 69)) :: st, (fm_cl I 69 zI, fm_cl L 69 zI, fm_cl R 69 zR, 70, n)) K := wp_newa (show fm_code 91 188 = some (.newarray .int, 2, 0, 0, 0) by decide +kernel) rfl (by decide) (by decide)
theorem obz_70_55 : fm_obj (I, L, R, 70, n) 55 = some 8 := rfl
theorem zn_91_196_70 : fm_wp 91 (196, [l0], .inl 16 :: st, (I, L, R, 70, n)) K ↔ fm_wp 91 (198, [l0], .inr (.inr (some 70)) :: st, (fm_cl I 70 zI, fm_cl L 70 zI, fm_cl R 70 zR, 71, n)) K := wp_newa (show fm_code 91 196 = some (.newarray .int, 2, 0, 0, 0) by decide +kernel) rfl (by decide) (by decide)
theorem obz_71_55 : fm_obj (I, L, R, 71, n) 55 = some 8 := rfl
theorem zn_91_204_71 : fm_wp 91 (204, [l0], .inl 16 :: st, (I, L, R, 71, n)) K ↔ fm_wp 91 (206, [l0], .inr (.inr (some 71)) :: st, (fm_cl I 71 zI, fm_cl L 71 zI, fm_cl R 71 zR, 72, n)) K := wp_newa (show fm_code 91 204 = some (.newarray .int, 2, 0, 0, 0) by decide +kernel) rfl (by decide) (by decide)
theorem obz_72_55 : fm_obj (I, L, R, 72, n) 55 = some 8 := rfl
theorem zn_91_212_72 : fm_wp 91 (212, [l0], .inl 16 :: st, (I, L, R, 72, n)) K ↔ fm_wp 91 (214, [l0], .inr (.inr (some 72)) :: st, (fm_cl I 72 zI, fm_cl L 72 zI, fm_cl R 72 zR, 73, n)) K := wp_newa (show fm_code 91 212 = some (.newarray .int, 2, 0, 0, 0) by decide +kernel) rfl (by decide) (by decide)
theorem obz_73_55 : fm_obj (I, L, R, 73, n) 55 = some 8 := rfl
theorem zn_91_220_73 : fm_wp 91 (220, [l0], .inl 16 :: st, (I, L, R, 73, n)) K ↔ fm_wp 91 (222, [l0], .inr (.inr (some 73)) :: st, (fm_cl I 73 zI, fm_cl L 73 zI, fm_cl R 73 zR, 74, n)) K := wp_newa (show fm_code 91 220 = some (.newarray .int, 2, 0, 0, 0) by decide +kernel) rfl (by decide) (by decide)
theorem obz_74_55 : fm_obj (I, L, R, 74, n) 55 = some 8 := rfl
theorem zn_91_228_74 : fm_wp 91 (228, [l0], .inl 16 :: st, (I, L, R, 74, n)) K ↔ fm_wp 91 (230, [l0], .inr (.inr (some 74)) :: st, (fm_cl I 74 zI, fm_cl L 74 zI, fm_cl R 74 zR, 75, n)) K := wp_newa (show fm_code 91 228 = some (.newarray .int, 2, 0, 0, 0) by decide +kernel) rfl (by decide) (by decide)
theorem obz_75_55 : fm_obj (I, L, R, 75, n) 55 = some 8 := rfl
theorem zn_91_236_75 : fm_wp 91 (236, [l0], .inl 16 :: st, (I, L, R, 75, n)) K ↔ fm_wp 91 (238, [l0], .inr (.inr (some 75)) :: st, (fm_cl I 75 zI, fm_cl L 75 zI, fm_cl R 75 zR, 76, n)) K := wp_newa (show fm_code 91 236 = some (.newarray .int, 2, 0, 0, 0) by decide +kernel) rfl (by decide) (by decide)
theorem obz_76_55 : fm_obj (I, L, R, 76, n) 55 = some 8 := rfl
theorem zn_91_244_76 : fm_wp 91 (244, [l0], .inl 16 :: st, (I, L, R, 76, n)) K ↔ fm_wp 91 (246, [l0], .inr (.inr (some 76)) :: st, (fm_cl I 76 zI, fm_cl L 76 zI, fm_cl R 76 zR, 77, n)) K := wp_newa (show fm_code 91 244 = some (.newarray .int, 2, 0, 0, 0) by decide +kernel) rfl (by decide) (by decide)
theorem obz_77_55 : fm_obj (I, L, R, 77, n) 55 = some 8 := rfl
theorem zn_91_252_77 : fm_wp 91 (252, [l0], .inl 16 :: st, (I, L, R, 77, n)) K ↔ fm_wp 91 (254, [l0], .inr (.inr (some 77)) :: st, (fm_cl I 77 zI, fm_cl L 77 zI, fm_cl R 77 zR, 78, n)) K := wp_newa (show fm_code 91 252 = some (.newarray .int, 2, 0, 0, 0) by decide +kernel) rfl (by decide) (by decide)
theorem obz_78_55 : fm_obj (I, L, R, 78, n) 55 = some 8 := rfl
theorem zn_91_260_78 : fm_wp 91 (260, [l0], .inl 96 :: st, (I, L, R, 78, n)) K ↔ fm_wp 91 (262, [l0], .inr (.inr (some 78)) :: st, (fm_cl I 78 zI, fm_cl L 78 zI, fm_cl R 78 zR, 79, n)) K := wp_newa (show fm_code 91 260 = some (.newarray .int, 2, 0, 0, 0) by decide +kernel) rfl (by decide) (by decide)
theorem obz_79_55 : fm_obj (I, L, R, 79, n) 55 = some 8 := rfl
theorem zn_91_268_79 : fm_wp 91 (268, [l0], .inl 16 :: st, (I, L, R, 79, n)) K ↔ fm_wp 91 (270, [l0], .inr (.inr (some 79)) :: st, (fm_cl I 79 zI, fm_cl L 79 zI, fm_cl R 79 zR, 80, n)) K := wp_newa (show fm_code 91 268 = some (.newarray .boolean, 2, 0, 0, 0) by decide +kernel) rfl (by decide) (by decide)
theorem obz_80_55 : fm_obj (I, L, R, 80, n) 55 = some 8 := rfl
theorem zn_91_277_80 : fm_wp 91 (277, [l0], .inl 1536 :: st, (I, L, R, 80, n)) K ↔ fm_wp 91 (279, [l0], .inr (.inr (some 80)) :: st, (fm_cl I 80 zI, fm_cl L 80 zI, fm_cl R 80 zR, 81, n)) K := wp_newa (show fm_code 91 277 = some (.newarray .boolean, 2, 0, 0, 0) by decide +kernel) rfl (by decide) (by decide)
theorem obz_81_55 : fm_obj (I, L, R, 81, n) 55 = some 8 := rfl
theorem zn_91_286_81 : fm_wp 91 (286, [l0], .inl 1536 :: st, (I, L, R, 81, n)) K ↔ fm_wp 91 (288, [l0], .inr (.inr (some 81)) :: st, (fm_cl I 81 zI, fm_cl L 81 zI, fm_cl R 81 zR, 82, n)) K := wp_newa (show fm_code 91 286 = some (.newarray .int, 2, 0, 0, 0) by decide +kernel) rfl (by decide) (by decide)
theorem obz_82_55 : fm_obj (I, L, R, 82, n) 55 = some 8 := rfl
theorem zn_91_294_82 : fm_wp 91 (294, [l0], .inl 60 :: st, (I, L, R, 82, n)) K ↔ fm_wp 91 (296, [l0], .inr (.inr (some 82)) :: st, (fm_cl I 82 zI, fm_cl L 82 zI, fm_cl R 82 zR, 83, n)) K := wp_newa (show fm_code 91 294 = some (.newarray .int, 2, 0, 0, 0) by decide +kernel) rfl (by decide) (by decide)
theorem obz_83_55 : fm_obj (I, L, R, 83, n) 55 = some 8 := rfl
theorem zn_91_302_83 : fm_wp 91 (302, [l0], .inl 60 :: st, (I, L, R, 83, n)) K ↔ fm_wp 91 (304, [l0], .inr (.inr (some 83)) :: st, (fm_cl I 83 zI, fm_cl L 83 zI, fm_cl R 83 zR, 84, n)) K := wp_newa (show fm_code 91 302 = some (.newarray .int, 2, 0, 0, 0) by decide +kernel) rfl (by decide) (by decide)
theorem obz_84_55 : fm_obj (I, L, R, 84, n) 55 = some 8 := rfl
theorem zn_91_310_84 : fm_wp 91 (310, [l0], .inl 60 :: st, (I, L, R, 84, n)) K ↔ fm_wp 91 (312, [l0], .inr (.inr (some 84)) :: st, (fm_cl I 84 zI, fm_cl L 84 zI, fm_cl R 84 zR, 85, n)) K := wp_newa (show fm_code 91 310 = some (.newarray .int, 2, 0, 0, 0) by decide +kernel) rfl (by decide) (by decide)
theorem obz_85_55 : fm_obj (I, L, R, 85, n) 55 = some 8 := rfl
theorem zn_91_319_85 : fm_wp 91 (319, [l0], .inl 720 :: st, (I, L, R, 85, n)) K ↔ fm_wp 91 (321, [l0], .inr (.inr (some 85)) :: st, (fm_cl I 85 zI, fm_cl L 85 zI, fm_cl R 85 zR, 86, n)) K := wp_newa (show fm_code 91 319 = some (.newarray .int, 2, 0, 0, 0) by decide +kernel) rfl (by decide) (by decide)
theorem obz_86_55 : fm_obj (I, L, R, 86, n) 55 = some 8 := rfl
theorem zn_91_328_86 : fm_wp 91 (328, [l0], .inl 720 :: st, (I, L, R, 86, n)) K ↔ fm_wp 91 (330, [l0], .inr (.inr (some 86)) :: st, (fm_cl I 86 zI, fm_cl L 86 zI, fm_cl R 86 zR, 87, n)) K := wp_newa (show fm_code 91 328 = some (.newarray .int, 2, 0, 0, 0) by decide +kernel) rfl (by decide) (by decide)
theorem obz_87_55 : fm_obj (I, L, R, 87, n) 55 = some 8 := rfl
theorem zn_91_337_87 : fm_wp 91 (337, [l0], .inl 200 :: st, (I, L, R, 87, n)) K ↔ fm_wp 91 (339, [l0], .inr (.inr (some 87)) :: st, (fm_cl I 87 zI, fm_cl L 87 zI, fm_cl R 87 zR, 88, n)) K := wp_newa (show fm_code 91 337 = some (.newarray .int, 2, 0, 0, 0) by decide +kernel) rfl (by decide) (by decide)
theorem obz_88_55 : fm_obj (I, L, R, 88, n) 55 = some 8 := rfl
theorem zn_91_346_88 : fm_wp 91 (346, [l0], .inl 200 :: st, (I, L, R, 88, n)) K ↔ fm_wp 91 (348, [l0], .inr (.inr (some 88)) :: st, (fm_cl I 88 zI, fm_cl L 88 zI, fm_cl R 88 zR, 89, n)) K := wp_newa (show fm_code 91 346 = some (.newarray .int, 2, 0, 0, 0) by decide +kernel) rfl (by decide) (by decide)
theorem obz_89_55 : fm_obj (I, L, R, 89, n) 55 = some 8 := rfl
theorem zn_91_355_89 : fm_wp 91 (355, [l0], .inl 200 :: st, (I, L, R, 89, n)) K ↔ fm_wp 91 (357, [l0], .inr (.inr (some 89)) :: st, (fm_cl I 89 zI, fm_cl L 89 zI, fm_cl R 89 zR, 90, n)) K := wp_newa (show fm_code 91 355 = some (.newarray .int, 2, 0, 0, 0) by decide +kernel) rfl (by decide) (by decide)
theorem obz_90_55 : fm_obj (I, L, R, 90, n) 55 = some 8 := rfl
theorem zn_91_363_90 : fm_wp 91 (363, [l0], .inl 851968 :: st, (I, L, R, 90, n)) K ↔ fm_wp 91 (365, [l0], .inr (.inr (some 90)) :: st, (fm_cl I 90 zI, fm_cl L 90 zI, fm_cl R 90 zR, 91, n)) K := wp_newa (show fm_code 91 363 = some (.newarray .int, 2, 0, 0, 0) by decide +kernel) rfl (by decide) (by decide)
theorem obz_91_55 : fm_obj (I, L, R, 91, n) 55 = some 8 := rfl
theorem zn_91_372_91 : fm_wp 91 (372, [l0], .inl 192 :: st, (I, L, R, 91, n)) K ↔ fm_wp 91 (374, [l0], .inr (.inr (some 91)) :: st, (fm_cl I 91 zI, fm_cl L 91 zI, fm_cl R 91 zR, 92, n)) K := wp_newa (show fm_code 91 372 = some (.newarray .boolean, 2, 0, 0, 0) by decide +kernel) rfl (by decide) (by decide)
theorem obz_92_55 : fm_obj (I, L, R, 92, n) 55 = some 8 := rfl
theorem zn_91_380_92 : fm_wp 91 (380, [l0], .inl 16 :: st, (I, L, R, 92, n)) K ↔ fm_wp 91 (382, [l0], .inr (.inr (some 92)) :: st, (fm_cl I 92 zI, fm_cl L 92 zI, fm_cl R 92 zR, 93, n)) K := wp_newa (show fm_code 91 380 = some (.newarray .int, 2, 0, 0, 0) by decide +kernel) rfl (by decide) (by decide)
theorem obz_93_55 : fm_obj (I, L, R, 93, n) 55 = some 8 := rfl
theorem zn_91_388_93 : fm_wp 91 (388, [l0], .inl 12 :: st, (I, L, R, 93, n)) K ↔ fm_wp 91 (390, [l0], .inr (.inr (some 93)) :: st, (fm_cl I 93 zI, fm_cl L 93 zI, fm_cl R 93 zR, 94, n)) K := wp_newa (show fm_code 91 388 = some (.newarray .int, 2, 0, 0, 0) by decide +kernel) rfl (by decide) (by decide)
theorem obz_94_55 : fm_obj (I, L, R, 94, n) 55 = some 8 := rfl
theorem zn_91_396_94 : fm_wp 91 (396, [l0], .inl 16 :: st, (I, L, R, 94, n)) K ↔ fm_wp 91 (398, [l0], .inr (.inr (some 94)) :: st, (fm_cl I 94 zI, fm_cl L 94 zI, fm_cl R 94 zR, 95, n)) K := wp_newa (show fm_code 91 396 = some (.newarray .int, 2, 0, 0, 0) by decide +kernel) rfl (by decide) (by decide)
theorem obz_95_55 : fm_obj (I, L, R, 95, n) 55 = some 8 := rfl
theorem zn_91_404_95 : fm_wp 91 (404, [l0], .inl 12 :: st, (I, L, R, 95, n)) K ↔ fm_wp 91 (406, [l0], .inr (.inr (some 95)) :: st, (fm_cl I 95 zI, fm_cl L 95 zI, fm_cl R 95 zR, 96, n)) K := wp_newa (show fm_code 91 404 = some (.newarray .int, 2, 0, 0, 0) by decide +kernel) rfl (by decide) (by decide)
theorem obz_96_55 : fm_obj (I, L, R, 96, n) 55 = some 8 := rfl
theorem zc_140_12 (hs : st.length ≤ 4) : fm_wp 140 (12, [l0, l1, l2, l3], .inr (.inr (some 55)) :: st, (I, L, R, 56, n)) K ↔ fm_wp 91 (0, [some (.inr (.inr (some 55)))], [], (I, L, R, 56, n)) (fun r τ => fm_gr 91 (I, L, R, 56, n) τ ∧ fm_wp 140 (15, [l0, l1, l2, l3], r.toList ++ st, τ) K) := wp_ci (as := []) (rest := st) (show fm_code 140 12 = some (.invokespecial 12, 3, 91, 0, 0) by decide +kernel) (by decide) rfl (show 1 = fm_nar 91 by decide +kernel) hs rfl (show 1 ≤ fm_maxL 91 by decide +kernel)
theorem zg_140_12 {I' L' : Nat → Nat → Int} {R' : Nat → Nat → Option Nat} : fm_gr 91 (I, L, R, 56, n) (I', L', R', 96, n) = True := eq_true ⟨show 96 = 56 + fm_dna 91 by decide +kernel, show fm_sz 96 = fm_sz 56 + fm_dsl 91 by decide +kernel, rfl⟩
end CTOR
