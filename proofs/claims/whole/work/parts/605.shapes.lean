def fm_lp : List (List Nat) := [[235, 237, 239, 241, 243, 245, 247, 249, 251, 253, 255, 257, 259], [277, 279, 281, 283, 285, 287], [309, 311, 313, 315, 317, 319, 321, 323], [428, 430, 432, 434, 436, 438, 440, 442, 444, 446, 448, 450, 452, 454], [351, 353, 355, 357, 359, 361, 363, 365, 367, 369], [84, 86], [168, 170, 172, 174, 176, 178, 180, 182, 184, 186], [468, 470, 472, 474, 476, 478, 480, 482, 484, 486, 488], [890, 892, 894, 896, 898, 900, 902, 904, 906, 908, 910, 912, 914, 916, 918, 920, 922, 924, 926, 928, 930, 932, 934, 936, 938, 940, 942, 944, 946, 948, 950, 952, 954, 956, 958, 960, 962, 964, 966, 968, 970, 972, 974, 976, 978, 980, 982, 984, 986, 988, 990, 992, 994, 996, 998, 1000, 1002, 1004, 1006, 1008, 1010, 1012, 1014, 1016, 1018, 1020, 1022]]
def fm_nf (ci : Nat) : Nat := (fm_cls.getD ci (RX0, TX0, 13)).2.2
theorem fm_lp_ok : ∀ c, c < 9 → ∀ k, k < fm_nf c → lw_tbl[(fm_lp.getD c []).getD k 0]? = some (u_lay (fm_cnm c) (fm_clT c) k) := by decide +kernel
def fm_ins : List Nat := [192, 264, 291, 373, 327, 76, 91, 68, 817]
theorem fm_ins_ok : ∀ c, c < 9 → lw_tbl[fm_ins.getD c 0]? = some (Cond.instantiable (fm_cnm c) (fm_nf c)) := by decide +kernel
def fm_ini : List Nat := [59, 61, 62, 64, 63, 53, 54, 52, 65]
theorem fm_ini_ok : ∀ c, c < 9 → lw_tbl[fm_ini.getD c 0]? = some (Cond.initialized (fm_cnm c)) := by decide +kernel
theorem fm_ty_ok : ∀ c, c < 9 → ∀ k, k < fm_nf c → parseFieldDescriptor (fm_clT c k).2.2.1 = some (fm_fty c k) := by decide +kernel
theorem fm_nms_ok : ∀ c, c < 9 → ∀ a, a < fm_nf c → ∀ b, b < fm_nf c → a ≠ b → (fm_clT c a).2.1 ≠ (fm_clT c b).2.1 := by decide +kernel
theorem fm_arI : lw_tbl[89]? = some (Cond.arrayClass .int) := by decide +kernel
theorem fm_arZ : lw_tbl[262]? = some (Cond.arrayClass .boolean) := by decide +kernel
theorem fm_arB : lw_tbl[190]? = some (Cond.arrayClass .byte) := by decide +kernel
theorem fm_arJ : lw_tbl[189]? = some (Cond.arrayClass .long) := by decide +kernel
theorem fm_cls_at : ∀ c, c < 9 → fm_cls[c]? = some (fm_cnm c, fm_clT c, fm_nf c)
  | 0, _ => rfl
  | 1, _ => rfl
  | 2, _ => rfl
  | 3, _ => rfl
  | 4, _ => rfl
  | 5, _ => rfl
  | 6, _ => rfl
  | 7, _ => rfl
  | 8, _ => rfl
  | _ + 9, h => absurd h (by omega)
theorem fm_decl : ∀ c, c < 9 → ∀ k, k < fm_nf c → (fm_clT c k).1 = fm_cnm c := by decide +kernel
theorem fm_shp_len : fm_shp.length = 96 := by decide +kernel
theorem fm_shp_big : ∀ q ∈ fm_shp, (match q with | .inl (_, n) => decide (n ≤ 851968) | .inr c => decide (c < 9)) = true := by decide +kernel
theorem fm_sz_one : ∀ i, i < 96 → fm_pre.getD (i + 1) 0 = fm_pre.getD i 0 + (match fm_shp.getD i (.inr 0) with | .inl (_, n) => n | .inr c => fm_nf c) := by decide +kernel
theorem fm_shp_ty : ∀ q ∈ fm_shp, (match q with | .inl (t, _) => decide (t = .int ∨ t = .boolean ∨ t = .byte ∨ t = .long) | .inr _ => true) = true := by decide +kernel
theorem fm_fty_ok : ∀ c, c < 9 → ∀ k, k < fm_nf c → (fm_fty c k = .int ∨ fm_fty c k = .long ∨ (∃ n, fm_fty c k = .object n) ∨ ∃ t, fm_fty c k = .array t) := by
  intro c hc k hk
  have h : ∀ c, c < 9 → ∀ k, k < fm_nf c → (match fm_fty c k with | .int => true | .long => true | .object _ => true | .array _ => true | _ => false) = true := by decide +kernel
  have := h c hc k hk
  revert this
  cases fm_fty c k <;> simp
