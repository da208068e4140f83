/-! ===== the reference's table ===== -/
theorem cn_shift {P : Nat → Bool} : ∀ k : Nat, cn P (k + 1) = (if P 0 = true then 1 else 0) + cn (fun i => P (i + 1)) k
  | 0 => by show (0 : Int) + (if P 0 = true then 1 else 0) = (if P 0 = true then 1 else 0) + 0; split <;> rfl
  | k + 1 => by
    have ih := cn_shift (P := P) k
    show cn P (k + 1) + (if P (k + 1) = true then 1 else 0) = (if P 0 = true then 1 else 0) + (cn (fun i => P (i + 1)) k + (if P (k + 1) = true then 1 else 0))
    omega
/-- how many bits -/
def pcn (k x : Nat) : Int := cn (fun i => x.testBit i) k
theorem pcn_s {k x : Nat} : pcn (k + 1) x = (if x % 2 = 1 then 1 else 0) + pcn k (x / 2) := by
  unfold pcn
  rw [cn_shift]
  have e1 : cn (fun i => x.testBit (i + 1)) k = cn (fun i => (x / 2).testBit i) k := cn_congr k (fun j _ => Nat.testBit_succ x j)
  rw [e1, Nat.testBit_zero]
  simp
theorem pcn_low : ∀ (k x : Nat), 0 < x → x < 2 ^ k → pcn k (x &&& (x - 1)) = pcn k x - 1
  | 0, x, h1, h2 => by simp at h2; omega
  | k + 1, x, h1, h2 => by
    rw [pcn_s, pcn_s]
    have hd : (x &&& (x - 1)) / 2 = x / 2 &&& (x - 1) / 2 := by
      have := Nat.and_div_two_pow (a := x) (b := x - 1) (n := 1)
      simpa using this
    have hm : (x &&& (x - 1)) % 2 = 0 := by
      have h : (x &&& (x - 1)).testBit 0 = (x.testBit 0 && (x - 1).testBit 0) := Nat.testBit_and x (x - 1) 0
      rw [Nat.testBit_zero, Nat.testBit_zero, Nat.testBit_zero] at h
      by_cases z : (x &&& (x - 1)) % 2 = 1
      · rw [decide_eq_true z] at h
        have h := h.symm
        rw [Bool.and_eq_true, decide_eq_true_eq, decide_eq_true_eq] at h
        omega
      · omega
    rw [hd, if_neg (by omega)]
    by_cases e : x % 2 = 1
    · have e2 : (x - 1) / 2 = x / 2 := by omega
      rw [if_pos e, e2, Nat.and_self]; omega
    · have e2 : (x - 1) / 2 = x / 2 - 1 := by omega
      have hp : 2 ^ (k + 1) = 2 * 2 ^ k := by rw [Nat.pow_succ]; omega
      rw [if_neg e, e2, pcn_low k (x / 2) (by omega) (by omega)]
      omega
theorem pcn_or {k A h : Nat} (hh : h < k) (hA : A.testBit h = false) : pcn k (A ||| 2 ^ h) = pcn k A + 1 := by
  have r := cn_rem (P := fun i => (A ||| 2 ^ h).testBit i) (t := h) (by rw [Nat.testBit_or, Nat.testBit_two_pow_self, Bool.or_true]) k
  rw [if_pos hh] at r
  have c : cn (fun i => (A ||| 2 ^ h).testBit i && decide (i ≠ h)) k = pcn k A := cn_congr k (fun j _ => by
    rw [Nat.testBit_or]
    by_cases e : j = h
    · rw [e, hA]; simp
    · rw [Nat.testBit_two_pow_of_ne (by omega)]; simp [e])
  have d : pcn k (A ||| 2 ^ h) = cn (fun i => (A ||| 2 ^ h).testBit i) k := rfl
  omega
theorem pcn_0 {k : Nat} : pcn k 0 = 0 := cn_zero k (fun j _ => Nat.zero_testBit j)
/-- those not in the set -/
def opA (op : Nat → Bool) (A : Nat) : Nat → Bool := fun h => op h && !A.testBit h
theorem opA_0 {op : Nat → Bool} : opA op 0 = op := by
  funext h
  unfold opA
  rw [Nat.zero_testBit]; simp
theorem opA_or {op : Nat → Bool} {A h : Nat} : opA op (A ||| 2 ^ h) = wo (opA op A) h := by
  funext g
  unfold opA wo
  rw [Nat.testBit_or, Nat.testBit_two_pow]
  by_cases e : h = g
  · simp [e]
  · have e2 : g ≠ h := fun q => e q.symm
    simp [e, e2]
def bst (c n : Nat) (op ow : Nat → Bool) (sk ks : Nat → Nat) (s A : Nat) : Int := if dD c n (opA op A) sk ks s = 0 then dD c n (an (opA op A) ow) sk ks s else 1000
def cal (ow : Nat → Bool) (h : Nat) : Int := if ow h = true then 0 else 1
/-- the least, below 1000 -/
def mnl (ok : Nat → Bool) (w : Nat → Int) : Nat → Int
  | 0 => 1000
  | h + 1 => if ok h = true ∧ w h < mnl ok w h then w h else mnl ok w h
theorem mnl_eq {ok : Nat → Bool} {w : Nat → Int} {c : Nat} {X : Int} (h1 : ∀ h, h < c → ok h = true → X ≤ w h) (h2 : X ≤ 1000) (h3 : X < 1000 → ∃ h, h < c ∧ ok h = true ∧ w h ≤ X) : mnl ok w c = X := by
  have lo : ∀ k, k ≤ c → X ≤ mnl ok w k ∧ mnl ok w k ≤ 1000 := by
    intro k
    induction k with
    | zero => intro _; exact ⟨h2, Int.le_refl _⟩
    | succ k ih =>
      intro hk
      have i := ih (by omega)
      unfold mnl
      split
      · rename_i e
        have := h1 k (by omega) e.1
        omega
      · exact i
  have hi : ∀ k h, h < k → ok h = true → w h ≤ X → k ≤ c → mnl ok w k ≤ X := by
    intro k
    induction k with
    | zero => intro h hh; omega
    | succ k ih =>
      intro h hh e1 e2 hk
      unfold mnl
      by_cases e : h = k
      · subst e
        split
        · exact e2
        · rename_i z
          have : ¬ w h < mnl ok w h := fun q => z ⟨e1, q⟩
          omega
      · have i := ih h (by omega) e1 e2 (by omega)
        split
        · rename_i z; omega
        · exact i
  have l := lo c (Nat.le_refl _)
  by_cases e : X < 1000
  · obtain ⟨h, a1, a2, a3⟩ := h3 e
    have := hi c h a1 a2 a3 (Nat.le_refl _)
    omega
  · omega
section DP
variable {c n s A : Nat} {op ow : Nat → Bool} {sk ks : Nat → Nat}
theorem bst_in (hn : n ≤ 12) : 0 ≤ bst c n op ow sk ks s A ∧ bst c n op ow sk ks s A ≤ 1000 := by
  unfold bst
  have := dD_in (c := c) (n := n) (op := an (opA op A) ow) (sk := sk) (ks := ks) (s := s)
  split <;> omega
theorem bst_end (hn : n ≤ 12) : bst c n op ow sk ks n A = 0 := by
  have z : ∀ o : Nat → Bool, dD c n o sk ks n = 0 := fun o => (mx_zero 64).mpr (fun S _ => by
    have e : av n ks n S = 0 := cn_zero n (fun j hj => by
      have : ¬ n ≤ j := by omega
      simp [this])
    have := hv_in (c := c) (op := o) (sk := sk) (S := S)
    omega)
  unfold bst
  rw [z, if_pos rfl, z]
theorem bst_lt (hn : n ≤ 12) : bst c n op ow sk ks s A < 1000 ↔ dD c n (opA op A) sk ks s = 0 := by
  unfold bst
  have := dD_in (c := c) (n := n) (op := an (opA op A) ow) (sk := sk) (ks := ks) (s := s)
  by_cases e : dD c n (opA op A) sk ks s = 0
  · rw [if_pos e]; exact ⟨fun _ => e, fun _ => by omega⟩
  · rw [if_neg e]; exact ⟨fun h => absurd h (by omega), fun h => absurd h e⟩
theorem ok_iff {h : Nat} : (mbb c op sk ks s h && !A.testBit h) = true ↔ h < c ∧ opA op A h = true ∧ (sk h).testBit (ks s) = true := by
  unfold mbb opA
  simp only [Bool.and_eq_true, decide_eq_true_eq]
  exact ⟨fun q => ⟨q.1.1, ⟨q.1.2.1, q.2⟩, q.1.2.2⟩, fun q => ⟨⟨q.1, q.2.1.1, q.2.2⟩, q.2.1.2⟩⟩
/-- a row of the table out of the next -/
theorem bst_rec (hn : n ≤ 12) (hs : s < n) (hks : ks s < 6) : mnl (fun h => mbb c op sk ks s h && !A.testBit h) (fun h => cal ow h + bst c n op ow sk ks (s + 1) (A ||| 2 ^ h)) c = bst c n op ow sk ks s A := by
  refine mnl_eq (fun h hh e => ?_) (bst_in hn).2 (fun e => ?_)
  · obtain ⟨-, e1, e2⟩ := ok_iff.mp e
    have d1 := dD_mono hs hh e1 e2
    have d2 := dE_mono (ow := ow) hs hh e1 e2
    have d3 := dD_in (c := c) (n := n) (op := opA op A) (sk := sk) (ks := ks) (s := s)
    have b := bst_in (c := c) (op := op) (ow := ow) (sk := sk) (ks := ks) (s := s) (A := A) hn
    have hc : 0 ≤ cal ow h := by unfold cal; split <;> omega
    show bst c n op ow sk ks s A ≤ cal ow h + bst c n op ow sk ks (s + 1) (A ||| 2 ^ h)
    have e3 : bst c n op ow sk ks (s + 1) (A ||| 2 ^ h) = if dD c n (wo (opA op A) h) sk ks (s + 1) = 0 then dD c n (an (wo (opA op A) h) ow) sk ks (s + 1) else 1000 := by
      unfold bst; rw [opA_or]
    rw [e3]
    by_cases z : dD c n (wo (opA op A) h) sk ks (s + 1) = 0
    · rw [if_pos z]
      have z2 : dD c n (opA op A) sk ks s = 0 := by omega
      have e4 : bst c n op ow sk ks s A = dD c n (an (opA op A) ow) sk ks s := by unfold bst; rw [if_pos z2]
      rw [e4]
      exact d2
    · rw [if_neg z]; omega
  · have z := (bst_lt hn).mp e
    obtain ⟨h, a1, a2, a3, a4, a5⟩ := hall_step (ow := ow) hks hs z
    refine ⟨h, a1, ok_iff.mpr ⟨a1, a2, a3⟩, ?_⟩
    show cal ow h + bst c n op ow sk ks (s + 1) (A ||| 2 ^ h) ≤ bst c n op ow sk ks s A
    have e3 : bst c n op ow sk ks (s + 1) (A ||| 2 ^ h) = dD c n (an (wo (opA op A) h) ow) sk ks (s + 1) := by
      unfold bst; rw [opA_or, if_pos a4]
    have e4 : bst c n op ow sk ks s A = dD c n (an (opA op A) ow) sk ks s := by unfold bst; rw [if_pos z]
    rw [e3, e4]
    exact a5
/-- the hand that the table takes is the class's -/
theorem bst_gd (hn : n ≤ 12) (hs : s < n) (hz : dD c n (opA op A) sk ks s = 0) {h : Nat} (hh : h < c) : gd c n ow sk ks (opA op A) s h = true ↔ (mbb c op sk ks s h && !A.testBit h) = true ∧ cal ow h + bst c n op ow sk ks (s + 1) (A ||| 2 ^ h) = bst c n op ow sk ks s A := by
  rw [gd_iff, ok_iff]
  have e4 : bst c n op ow sk ks s A = dD c n (an (opA op A) ow) sk ks s := by unfold bst; rw [if_pos hz]
  have e3 : bst c n op ow sk ks (s + 1) (A ||| 2 ^ h) = if dD c n (wo (opA op A) h) sk ks (s + 1) = 0 then dD c n (an (wo (opA op A) h) ow) sk ks (s + 1) else 1000 := by
    unfold bst; rw [opA_or]
  have dn := dD_in (c := c) (n := n) (op := an (opA op A) ow) (sk := sk) (ks := ks) (s := s)
  rw [e3, e4]
  constructor
  · rintro ⟨a1, a2, a3, a4⟩
    have d2 := dE_mono (ow := ow) hs hh a1 a2
    refine ⟨⟨hh, a1, a2⟩, ?_⟩
    rw [if_pos a3]
    unfold cal
    omega
  · rintro ⟨⟨-, a1, a2⟩, a3⟩
    have hc : 0 ≤ cal ow h := by unfold cal; split <;> omega
    by_cases z : dD c n (wo (opA op A) h) sk ks (s + 1) = 0
    · rw [if_pos z] at a3
      refine ⟨a1, a2, z, ?_⟩
      unfold cal at a3
      omega
    · rw [if_neg z] at a3; omega
end DP
section BITS
variable {I L : Nat → Nat → Int} {p q n : Nat} {K : Option fm_V → fm_S → Prop}
set_option maxRecDepth 20000 in
set_option maxHeartbeats 4000000 in
/-- the reference: bitsOf -/
theorem c122 {x : Nat} (hx : x < 65536)
    (hK : K (some (.inl (pcn 16 x))) (I, L, fm_refs p q, 96, n)) :
    fm_wp 122 (0, [some (.inl (x : Int)), none, none], [], (I, L, fm_refs p q, 96, n)) K := by
  have lp : ∀ (N y : Nat) (k : Int), y < 65536 → pcn 16 y ≤ N → 0 ≤ k → k ≤ 16 → k + pcn 16 y = pcn 16 x → fm_wp 122 (4, [some (.inl (x : Int)), some (.inl k), some (.inl (y : Int))], [], (I, L, fm_refs p q, 96, n)) K := by
    intro N
    induction N with
    | zero =>
      intro y k hy h1 h0 h16 h2
      have b := cn_nn (P := fun i => y.testBit i) 16
      have e : y = 0 := by
        by_cases e : 0 < y
        · have l := pcn_low 16 y e (by omega)
          have b2 := (cn_nn (P := fun i => (y &&& (y - 1)).testBit i) 16).1
          have : pcn 16 (y &&& (y - 1)) = cn (fun i => (y &&& (y - 1)).testBit i) 16 := rfl
          omega
        · omega
      rw [e, pcn_0, Int.add_zero] at h2
      subst e
      rw [q122_4]
      simp (disch := first | omega | exact Nat.le_of_ble_eq_true rfl) only [q122_0, q122_1, q122_2, q122_3, q122_5, q122_8, q122_11, q122_12, q122_13, q122_14, q122_15, q122_16, q122_17, q122_20, q122_21, ob_0, ob_1, aw_2, ar_2, ob_3, aw_4, ar_4, aw_5, ar_5, ob_6, aw_7, ar_7, aw_8, ar_8, aw_9, ar_9, aw_10, ar_10, aw_11, ar_11, aw_12, ar_12, aw_13, ar_13, aw_14, ar_14, aw_15, ar_15, aw_16, ar_16, aw_17, ar_17, aw_18, ar_18, ob_19, aw_20, ar_20, aw_21, ar_21, aw_22, ar_22, aw_23, ar_23, aw_24, ar_24, ob_25, aw_26, ar_26, aw_27, ar_27, aw_28, ar_28, aw_29, ar_29, aw_30, ar_30, aw_31, ar_31, aw_32, ar_32, ob_33, aw_34, ar_34, aw_35, ar_35, aw_36, ar_36, aw_37, ar_37, aw_38, ar_38, aw_39, ar_39, aw_40, ar_40, aw_41, ar_41, aw_42, ar_42, ob_43, aw_44, ar_44, aw_45, ar_45, aw_46, ar_46, aw_47, ar_47, aw_48, ar_48, ob_49, aw_50, ar_50, aw_51, ar_51, aw_52, ar_52, aw_53, ar_53, aw_54, ar_54, ob_55, aw_56, ar_56, aw_57, ar_57, aw_58, ar_58, aw_59, ar_59, aw_60, ar_60, aw_61, ar_61, aw_62, ar_62, aw_63, ar_63, aw_64, ar_64, aw_65, ar_65, aw_66, ar_66, aw_67, ar_67, aw_68, ar_68, aw_69, ar_69, aw_70, ar_70, aw_71, ar_71, aw_72, ar_72, aw_73, ar_73, aw_74, ar_74, aw_75, ar_75, aw_76, ar_76, aw_77, ar_77, aw_78, ar_78, aw_79, ar_79, aw_80, ar_80, aw_81, ar_81, aw_82, ar_82, aw_83, ar_83, aw_84, ar_84, aw_85, ar_85, aw_86, ar_86, aw_87, ar_87, aw_88, ar_88, aw_89, ar_89, aw_90, ar_90, aw_91, ar_91, aw_92, ar_92, aw_93, ar_93, aw_94, ar_94, aw_95, ar_95, re_0_0, re_0_1, re_0_2, re_0_3, re_0_4, re_0_5, re_0_6, re_0_7, re_1_0, re_3_0, re_3_1, re_3_2, re_6_1, re_6_2, re_6_3, re_6_4, re_6_5, re_6_6, re_6_7, re_6_8, re_6_9, re_6_10, re_6_11, re_6_12, re_19_0, re_19_1, re_19_2, re_19_3, re_19_4, re_25_1, re_25_2, re_25_3, re_25_4, re_25_5, re_25_6, re_25_7, re_33_0, re_33_1, re_33_2, re_33_3, re_33_4, re_33_5, re_33_6, re_33_7, re_33_8, re_43_0, re_43_1, re_43_8, re_43_9, re_43_10, re_49_0, re_49_1, re_49_8, re_49_9, re_49_10, re_55_0, re_55_11, re_55_13, re_55_14, re_55_18, re_55_20, re_55_21, re_55_22, re_55_23, re_55_25, re_55_26, re_55_34, re_55_35, re_55_36, re_55_38, re_55_39, re_55_40, re_55_41, re_55_42, re_55_43, re_55_44, re_55_45, re_55_46, re_55_47, re_55_48, re_55_49, re_55_52, re_55_53, re_55_54, re_55_55, re_55_56, re_55_58, re_55_59, re_55_60, re_55_61, re_55_62, re_55_63, re_55_64, re_55_65, re_55_66, true_and, and_true, true_implies, false_implies, not_true_eq_false, not_false_eq_true, implies_true, and_self, false_and, and_false, or_true, true_or, or_false, false_or, ne_eq, Classical.not_not, inB_eq, inB_by, inB_bo, fm_nl_n, fm_nl_i, fm_nl_r, fm_same_self, Option.toList_some, Option.toList_none, List.cons_append, List.nil_append, Int.toNat_natCast, Int.cast_ofNat_Int, Int.natCast_nonneg, fm_cl_s, fm_pt_s, tn_1, tn_2, tn_3, tn_4, tn_5, wr_id, wl_id, ar_500, fm_cl_ap, fm_pt_ap, ↓reduceIte, lc_lt, lc_le, lc_gt, lc_ge, lc_eq, c92, Nat.reduceEqDiff, one_ne_zero, fm_l2i_id, Int.reduceNeg, eq_self, nrw_0, nrw_1, Int.reduceEq, Int.reduceLT, Int.reduceLE, Int.reduceAdd, Int.reduceSub, Int.reduceMul, Int.reduceToNat, Int.le_refl]
      rw [h2]; exact hK
    | succ N ih =>
      intro y k hy h1 h0 h16 h2
      by_cases e : 0 < y
      · have l := pcn_low 16 y e (by omega)
        have b2 := (cn_nn (P := fun i => (y &&& (y - 1)).testBit i) 16).1
        have b3 : pcn 16 (y &&& (y - 1)) = cn (fun i => (y &&& (y - 1)).testBit i) 16 := rfl
        have b4 := (cn_nn (P := fun i => x.testBit i) 16).2
        have b5 : pcn 16 x = cn (fun i => x.testBit i) 16 := rfl
        have x1 : ¬ (y : Int) ≤ 0 := by omega
        have le : y &&& (y - 1) ≤ y := Nat.and_le_left
        have an : fm_and (y : Int) ((y : Int) - 1) = ((y &&& (y - 1) : Nat) : Int) := by
          rw [show (y : Int) - 1 = ((y - 1 : Nat) : Int) by omega]
          exact and_nat (by omega) (by omega)
        rw [q122_4]
        simp (disch := first | omega | exact Nat.le_of_ble_eq_true rfl) only [q122_0, q122_1, q122_2, q122_3, q122_5, q122_8, q122_11, q122_12, q122_13, q122_14, q122_15, q122_16, q122_17, q122_20, q122_21, ob_0, ob_1, aw_2, ar_2, ob_3, aw_4, ar_4, aw_5, ar_5, ob_6, aw_7, ar_7, aw_8, ar_8, aw_9, ar_9, aw_10, ar_10, aw_11, ar_11, aw_12, ar_12, aw_13, ar_13, aw_14, ar_14, aw_15, ar_15, aw_16, ar_16, aw_17, ar_17, aw_18, ar_18, ob_19, aw_20, ar_20, aw_21, ar_21, aw_22, ar_22, aw_23, ar_23, aw_24, ar_24, ob_25, aw_26, ar_26, aw_27, ar_27, aw_28, ar_28, aw_29, ar_29, aw_30, ar_30, aw_31, ar_31, aw_32, ar_32, ob_33, aw_34, ar_34, aw_35, ar_35, aw_36, ar_36, aw_37, ar_37, aw_38, ar_38, aw_39, ar_39, aw_40, ar_40, aw_41, ar_41, aw_42, ar_42, ob_43, aw_44, ar_44, aw_45, ar_45, aw_46, ar_46, aw_47, ar_47, aw_48, ar_48, ob_49, aw_50, ar_50, aw_51, ar_51, aw_52, ar_52, aw_53, ar_53, aw_54, ar_54, ob_55, aw_56, ar_56, aw_57, ar_57, aw_58, ar_58, aw_59, ar_59, aw_60, ar_60, aw_61, ar_61, aw_62, ar_62, aw_63, ar_63, aw_64, ar_64, aw_65, ar_65, aw_66, ar_66, aw_67, ar_67, aw_68, ar_68, aw_69, ar_69, aw_70, ar_70, aw_71, ar_71, aw_72, ar_72, aw_73, ar_73, aw_74, ar_74, aw_75, ar_75, aw_76, ar_76, aw_77, ar_77, aw_78, ar_78, aw_79, ar_79, aw_80, ar_80, aw_81, ar_81, aw_82, ar_82, aw_83, ar_83, aw_84, ar_84, aw_85, ar_85, aw_86, ar_86, aw_87, ar_87, aw_88, ar_88, aw_89, ar_89, aw_90, ar_90, aw_91, ar_91, aw_92, ar_92, aw_93, ar_93, aw_94, ar_94, aw_95, ar_95, re_0_0, re_0_1, re_0_2, re_0_3, re_0_4, re_0_5, re_0_6, re_0_7, re_1_0, re_3_0, re_3_1, re_3_2, re_6_1, re_6_2, re_6_3, re_6_4, re_6_5, re_6_6, re_6_7, re_6_8, re_6_9, re_6_10, re_6_11, re_6_12, re_19_0, re_19_1, re_19_2, re_19_3, re_19_4, re_25_1, re_25_2, re_25_3, re_25_4, re_25_5, re_25_6, re_25_7, re_33_0, re_33_1, re_33_2, re_33_3, re_33_4, re_33_5, re_33_6, re_33_7, re_33_8, re_43_0, re_43_1, re_43_8, re_43_9, re_43_10, re_49_0, re_49_1, re_49_8, re_49_9, re_49_10, re_55_0, re_55_11, re_55_13, re_55_14, re_55_18, re_55_20, re_55_21, re_55_22, re_55_23, re_55_25, re_55_26, re_55_34, re_55_35, re_55_36, re_55_38, re_55_39, re_55_40, re_55_41, re_55_42, re_55_43, re_55_44, re_55_45, re_55_46, re_55_47, re_55_48, re_55_49, re_55_52, re_55_53, re_55_54, re_55_55, re_55_56, re_55_58, re_55_59, re_55_60, re_55_61, re_55_62, re_55_63, re_55_64, re_55_65, re_55_66, true_and, and_true, true_implies, false_implies, not_true_eq_false, not_false_eq_true, implies_true, and_self, false_and, and_false, or_true, true_or, or_false, false_or, ne_eq, Classical.not_not, inB_eq, inB_by, inB_bo, fm_nl_n, fm_nl_i, fm_nl_r, fm_same_self, Option.toList_some, Option.toList_none, List.cons_append, List.nil_append, Int.toNat_natCast, Int.cast_ofNat_Int, Int.natCast_nonneg, fm_cl_s, fm_pt_s, tn_1, tn_2, tn_3, tn_4, tn_5, wr_id, wl_id, ar_500, fm_cl_ap, fm_pt_ap, ↓reduceIte, lc_lt, lc_le, lc_gt, lc_ge, lc_eq, c92, Nat.reduceEqDiff, one_ne_zero, fm_l2i_id, Int.reduceNeg, eq_self, nrw_0, nrw_1, Int.reduceEq, Int.reduceLT, Int.reduceLE, Int.reduceAdd, Int.reduceSub, Int.reduceMul, Int.reduceToNat, x1, an]
        exact ih (y &&& (y - 1)) (k + 1) (by omega) (by omega) (by omega) (by omega) (by omega)
      · have e : y = 0 := by omega
        rw [e, pcn_0, Int.add_zero] at h2
        subst e
        rw [q122_4]
        simp (disch := first | omega | exact Nat.le_of_ble_eq_true rfl) only [q122_0, q122_1, q122_2, q122_3, q122_5, q122_8, q122_11, q122_12, q122_13, q122_14, q122_15, q122_16, q122_17, q122_20, q122_21, ob_0, ob_1, aw_2, ar_2, ob_3, aw_4, ar_4, aw_5, ar_5, ob_6, aw_7, ar_7, aw_8, ar_8, aw_9, ar_9, aw_10, ar_10, aw_11, ar_11, aw_12, ar_12, aw_13, ar_13, aw_14, ar_14, aw_15, ar_15, aw_16, ar_16, aw_17, ar_17, aw_18, ar_18, ob_19, aw_20, ar_20, aw_21, ar_21, aw_22, ar_22, aw_23, ar_23, aw_24, ar_24, ob_25, aw_26, ar_26, aw_27, ar_27, aw_28, ar_28, aw_29, ar_29, aw_30, ar_30, aw_31, ar_31, aw_32, ar_32, ob_33, aw_34, ar_34, aw_35, ar_35, aw_36, ar_36, aw_37, ar_37, aw_38, ar_38, aw_39, ar_39, aw_40, ar_40, aw_41, ar_41, aw_42, ar_42, ob_43, aw_44, ar_44, aw_45, ar_45, aw_46, ar_46, aw_47, ar_47, aw_48, ar_48, ob_49, aw_50, ar_50, aw_51, ar_51, aw_52, ar_52, aw_53, ar_53, aw_54, ar_54, ob_55, aw_56, ar_56, aw_57, ar_57, aw_58, ar_58, aw_59, ar_59, aw_60, ar_60, aw_61, ar_61, aw_62, ar_62, aw_63, ar_63, aw_64, ar_64, aw_65, ar_65, aw_66, ar_66, aw_67, ar_67, aw_68, ar_68, aw_69, ar_69, aw_70, ar_70, aw_71, ar_71, aw_72, ar_72, aw_73, ar_73, aw_74, ar_74, aw_75, ar_75, aw_76, ar_76, aw_77, ar_77, aw_78, ar_78, aw_79, ar_79, aw_80, ar_80, aw_81, ar_81, aw_82, ar_82, aw_83, ar_83, aw_84, ar_84, aw_85, ar_85, aw_86, ar_86, aw_87, ar_87, aw_88, ar_88, aw_89, ar_89, aw_90, ar_90, aw_91, ar_91, aw_92, ar_92, aw_93, ar_93, aw_94, ar_94, aw_95, ar_95, re_0_0, re_0_1, re_0_2, re_0_3, re_0_4, re_0_5, re_0_6, re_0_7, re_1_0, re_3_0, re_3_1, re_3_2, re_6_1, re_6_2, re_6_3, re_6_4, re_6_5, re_6_6, re_6_7, re_6_8, re_6_9, re_6_10, re_6_11, re_6_12, re_19_0, re_19_1, re_19_2, re_19_3, re_19_4, re_25_1, re_25_2, re_25_3, re_25_4, re_25_5, re_25_6, re_25_7, re_33_0, re_33_1, re_33_2, re_33_3, re_33_4, re_33_5, re_33_6, re_33_7, re_33_8, re_43_0, re_43_1, re_43_8, re_43_9, re_43_10, re_49_0, re_49_1, re_49_8, re_49_9, re_49_10, re_55_0, re_55_11, re_55_13, re_55_14, re_55_18, re_55_20, re_55_21, re_55_22, re_55_23, re_55_25, re_55_26, re_55_34, re_55_35, re_55_36, re_55_38, re_55_39, re_55_40, re_55_41, re_55_42, re_55_43, re_55_44, re_55_45, re_55_46, re_55_47, re_55_48, re_55_49, re_55_52, re_55_53, re_55_54, re_55_55, re_55_56, re_55_58, re_55_59, re_55_60, re_55_61, re_55_62, re_55_63, re_55_64, re_55_65, re_55_66, true_and, and_true, true_implies, false_implies, not_true_eq_false, not_false_eq_true, implies_true, and_self, false_and, and_false, or_true, true_or, or_false, false_or, ne_eq, Classical.not_not, inB_eq, inB_by, inB_bo, fm_nl_n, fm_nl_i, fm_nl_r, fm_same_self, Option.toList_some, Option.toList_none, List.cons_append, List.nil_append, Int.toNat_natCast, Int.cast_ofNat_Int, Int.natCast_nonneg, fm_cl_s, fm_pt_s, tn_1, tn_2, tn_3, tn_4, tn_5, wr_id, wl_id, ar_500, fm_cl_ap, fm_pt_ap, ↓reduceIte, lc_lt, lc_le, lc_gt, lc_ge, lc_eq, c92, Nat.reduceEqDiff, one_ne_zero, fm_l2i_id, Int.reduceNeg, eq_self, nrw_0, nrw_1, Int.reduceEq, Int.reduceLT, Int.reduceLE, Int.reduceAdd, Int.reduceSub, Int.reduceMul, Int.reduceToNat, Int.le_refl]
        rw [h2]; exact hK
  have b := cn_nn (P := fun i => x.testBit i) 16
  have b5 : pcn 16 x = cn (fun i => x.testBit i) 16 := rfl
  have st := lp 16 x 0 hx (by omega) (by omega) (by omega) (by omega)
  simp (disch := first | omega | exact Nat.le_of_ble_eq_true rfl) only [q122_0, q122_1, q122_2, q122_3, q122_5, q122_8, q122_11, q122_12, q122_13, q122_14, q122_15, q122_16, q122_17, q122_20, q122_21, ob_0, ob_1, aw_2, ar_2, ob_3, aw_4, ar_4, aw_5, ar_5, ob_6, aw_7, ar_7, aw_8, ar_8, aw_9, ar_9, aw_10, ar_10, aw_11, ar_11, aw_12, ar_12, aw_13, ar_13, aw_14, ar_14, aw_15, ar_15, aw_16, ar_16, aw_17, ar_17, aw_18, ar_18, ob_19, aw_20, ar_20, aw_21, ar_21, aw_22, ar_22, aw_23, ar_23, aw_24, ar_24, ob_25, aw_26, ar_26, aw_27, ar_27, aw_28, ar_28, aw_29, ar_29, aw_30, ar_30, aw_31, ar_31, aw_32, ar_32, ob_33, aw_34, ar_34, aw_35, ar_35, aw_36, ar_36, aw_37, ar_37, aw_38, ar_38, aw_39, ar_39, aw_40, ar_40, aw_41, ar_41, aw_42, ar_42, ob_43, aw_44, ar_44, aw_45, ar_45, aw_46, ar_46, aw_47, ar_47, aw_48, ar_48, ob_49, aw_50, ar_50, aw_51, ar_51, aw_52, ar_52, aw_53, ar_53, aw_54, ar_54, ob_55, aw_56, ar_56, aw_57, ar_57, aw_58, ar_58, aw_59, ar_59, aw_60, ar_60, aw_61, ar_61, aw_62, ar_62, aw_63, ar_63, aw_64, ar_64, aw_65, ar_65, aw_66, ar_66, aw_67, ar_67, aw_68, ar_68, aw_69, ar_69, aw_70, ar_70, aw_71, ar_71, aw_72, ar_72, aw_73, ar_73, aw_74, ar_74, aw_75, ar_75, aw_76, ar_76, aw_77, ar_77, aw_78, ar_78, aw_79, ar_79, aw_80, ar_80, aw_81, ar_81, aw_82, ar_82, aw_83, ar_83, aw_84, ar_84, aw_85, ar_85, aw_86, ar_86, aw_87, ar_87, aw_88, ar_88, aw_89, ar_89, aw_90, ar_90, aw_91, ar_91, aw_92, ar_92, aw_93, ar_93, aw_94, ar_94, aw_95, ar_95, re_0_0, re_0_1, re_0_2, re_0_3, re_0_4, re_0_5, re_0_6, re_0_7, re_1_0, re_3_0, re_3_1, re_3_2, re_6_1, re_6_2, re_6_3, re_6_4, re_6_5, re_6_6, re_6_7, re_6_8, re_6_9, re_6_10, re_6_11, re_6_12, re_19_0, re_19_1, re_19_2, re_19_3, re_19_4, re_25_1, re_25_2, re_25_3, re_25_4, re_25_5, re_25_6, re_25_7, re_33_0, re_33_1, re_33_2, re_33_3, re_33_4, re_33_5, re_33_6, re_33_7, re_33_8, re_43_0, re_43_1, re_43_8, re_43_9, re_43_10, re_49_0, re_49_1, re_49_8, re_49_9, re_49_10, re_55_0, re_55_11, re_55_13, re_55_14, re_55_18, re_55_20, re_55_21, re_55_22, re_55_23, re_55_25, re_55_26, re_55_34, re_55_35, re_55_36, re_55_38, re_55_39, re_55_40, re_55_41, re_55_42, re_55_43, re_55_44, re_55_45, re_55_46, re_55_47, re_55_48, re_55_49, re_55_52, re_55_53, re_55_54, re_55_55, re_55_56, re_55_58, re_55_59, re_55_60, re_55_61, re_55_62, re_55_63, re_55_64, re_55_65, re_55_66, true_and, and_true, true_implies, false_implies, not_true_eq_false, not_false_eq_true, implies_true, and_self, false_and, and_false, or_true, true_or, or_false, false_or, ne_eq, Classical.not_not, inB_eq, inB_by, inB_bo, fm_nl_n, fm_nl_i, fm_nl_r, fm_same_self, Option.toList_some, Option.toList_none, List.cons_append, List.nil_append, Int.toNat_natCast, Int.cast_ofNat_Int, Int.natCast_nonneg, fm_cl_s, fm_pt_s, tn_1, tn_2, tn_3, tn_4, tn_5, wr_id, wl_id, ar_500, fm_cl_ap, fm_pt_ap, ↓reduceIte, lc_lt, lc_le, lc_gt, lc_ge, lc_eq, c92, Nat.reduceEqDiff, one_ne_zero, fm_l2i_id, Int.reduceNeg, eq_self, nrw_0, nrw_1, Int.reduceEq, Int.reduceLT, Int.reduceLE, Int.reduceAdd, Int.reduceSub, Int.reduceMul, Int.reduceToNat]
  exact st
set_option maxRecDepth 20000 in
set_option maxHeartbeats 4000000 in
/-- the reference: called -/
theorem c120 {be ns h : Nat} {now : Int} {ow : Nat → Bool} (hbe : I 55 50 = be) (hb2 : be < 100000) (hns : I 55 24 = ns) (h1 : 1 ≤ ns) (h12 : ns ≤ 12) (hb : ∀ k, k < ns → 1 ≤ I 66 k ∧ I 66 k ≤ 48) (hnow : now = iv_wat (I 65) (I 66) ns 0 ((be : Int) % iv_sum (I 66) ns)) (hn2 : -1 ≤ now ∧ now ≤ 2) (hh : h < 16) (hw : 0 ≤ I 70 h ∧ I 70 h ≤ 2) (how : ow h = decide (I 70 h = now))
    (hK : K (some (.inl (cal ow h))) (I, L, fm_refs p q, 96, n)) :
    fm_wp 120 (0, [some (.inr (.inr (some 55))), some (.inl (h : Int))], [], (I, L, fm_refs p q, 96, n)) K := by
  have x2 : (h : Int) < 16 := by omega
  simp (disch := first | omega | exact Nat.le_of_ble_eq_true rfl) only [q120_0, q120_1, q120_4, q120_5, q120_6, q120_7, q120_8, q120_11, q120_14, q120_17, q120_18, q120_21, q120_22, ob_0, ob_1, aw_2, ar_2, ob_3, aw_4, ar_4, aw_5, ar_5, ob_6, aw_7, ar_7, aw_8, ar_8, aw_9, ar_9, aw_10, ar_10, aw_11, ar_11, aw_12, ar_12, aw_13, ar_13, aw_14, ar_14, aw_15, ar_15, aw_16, ar_16, aw_17, ar_17, aw_18, ar_18, ob_19, aw_20, ar_20, aw_21, ar_21, aw_22, ar_22, aw_23, ar_23, aw_24, ar_24, ob_25, aw_26, ar_26, aw_27, ar_27, aw_28, ar_28, aw_29, ar_29, aw_30, ar_30, aw_31, ar_31, aw_32, ar_32, ob_33, aw_34, ar_34, aw_35, ar_35, aw_36, ar_36, aw_37, ar_37, aw_38, ar_38, aw_39, ar_39, aw_40, ar_40, aw_41, ar_41, aw_42, ar_42, ob_43, aw_44, ar_44, aw_45, ar_45, aw_46, ar_46, aw_47, ar_47, aw_48, ar_48, ob_49, aw_50, ar_50, aw_51, ar_51, aw_52, ar_52, aw_53, ar_53, aw_54, ar_54, ob_55, aw_56, ar_56, aw_57, ar_57, aw_58, ar_58, aw_59, ar_59, aw_60, ar_60, aw_61, ar_61, aw_62, ar_62, aw_63, ar_63, aw_64, ar_64, aw_65, ar_65, aw_66, ar_66, aw_67, ar_67, aw_68, ar_68, aw_69, ar_69, aw_70, ar_70, aw_71, ar_71, aw_72, ar_72, aw_73, ar_73, aw_74, ar_74, aw_75, ar_75, aw_76, ar_76, aw_77, ar_77, aw_78, ar_78, aw_79, ar_79, aw_80, ar_80, aw_81, ar_81, aw_82, ar_82, aw_83, ar_83, aw_84, ar_84, aw_85, ar_85, aw_86, ar_86, aw_87, ar_87, aw_88, ar_88, aw_89, ar_89, aw_90, ar_90, aw_91, ar_91, aw_92, ar_92, aw_93, ar_93, aw_94, ar_94, aw_95, ar_95, re_0_0, re_0_1, re_0_2, re_0_3, re_0_4, re_0_5, re_0_6, re_0_7, re_1_0, re_3_0, re_3_1, re_3_2, re_6_1, re_6_2, re_6_3, re_6_4, re_6_5, re_6_6, re_6_7, re_6_8, re_6_9, re_6_10, re_6_11, re_6_12, re_19_0, re_19_1, re_19_2, re_19_3, re_19_4, re_25_1, re_25_2, re_25_3, re_25_4, re_25_5, re_25_6, re_25_7, re_33_0, re_33_1, re_33_2, re_33_3, re_33_4, re_33_5, re_33_6, re_33_7, re_33_8, re_43_0, re_43_1, re_43_8, re_43_9, re_43_10, re_49_0, re_49_1, re_49_8, re_49_9, re_49_10, re_55_0, re_55_11, re_55_13, re_55_14, re_55_18, re_55_20, re_55_21, re_55_22, re_55_23, re_55_25, re_55_26, re_55_34, re_55_35, re_55_36, re_55_38, re_55_39, re_55_40, re_55_41, re_55_42, re_55_43, re_55_44, re_55_45, re_55_46, re_55_47, re_55_48, re_55_49, re_55_52, re_55_53, re_55_54, re_55_55, re_55_56, re_55_58, re_55_59, re_55_60, re_55_61, re_55_62, re_55_63, re_55_64, re_55_65, re_55_66, true_and, and_true, true_implies, false_implies, not_true_eq_false, not_false_eq_true, implies_true, and_self, false_and, and_false, or_true, true_or, or_false, false_or, ne_eq, Classical.not_not, inB_eq, inB_by, inB_bo, fm_nl_n, fm_nl_i, fm_nl_r, fm_same_self, Option.toList_some, Option.toList_none, List.cons_append, List.nil_append, Int.toNat_natCast, Int.cast_ofNat_Int, Int.natCast_nonneg, fm_cl_s, fm_pt_s, tn_1, tn_2, tn_3, tn_4, tn_5, wr_id, wl_id, ar_500, fm_cl_ap, fm_pt_ap, ↓reduceIte, lc_lt, lc_le, lc_gt, lc_ge, lc_eq, c92, Nat.reduceEqDiff, one_ne_zero, fm_l2i_id, Int.reduceNeg, eq_self, nrw_0, nrw_1, Int.reduceEq, Int.reduceLT, Int.reduceLE, Int.reduceAdd, Int.reduceSub, Int.reduceMul, Int.reduceToNat, x2, hbe]
  refine c115 (t := be) hb2 hns h1 h12 hb ?_
  rw [← hnow]
  unfold cal at hK
  refine ⟨by simp only [fm_same_self], ?_⟩
  by_cases z : I 70 h = now
  · rw [if_pos (by rw [how]; simp [z])] at hK
    simp (disch := first | omega | exact Nat.le_of_ble_eq_true rfl) only [q120_0, q120_1, q120_4, q120_5, q120_6, q120_7, q120_8, q120_11, q120_14, q120_17, q120_18, q120_21, q120_22, ob_0, ob_1, aw_2, ar_2, ob_3, aw_4, ar_4, aw_5, ar_5, ob_6, aw_7, ar_7, aw_8, ar_8, aw_9, ar_9, aw_10, ar_10, aw_11, ar_11, aw_12, ar_12, aw_13, ar_13, aw_14, ar_14, aw_15, ar_15, aw_16, ar_16, aw_17, ar_17, aw_18, ar_18, ob_19, aw_20, ar_20, aw_21, ar_21, aw_22, ar_22, aw_23, ar_23, aw_24, ar_24, ob_25, aw_26, ar_26, aw_27, ar_27, aw_28, ar_28, aw_29, ar_29, aw_30, ar_30, aw_31, ar_31, aw_32, ar_32, ob_33, aw_34, ar_34, aw_35, ar_35, aw_36, ar_36, aw_37, ar_37, aw_38, ar_38, aw_39, ar_39, aw_40, ar_40, aw_41, ar_41, aw_42, ar_42, ob_43, aw_44, ar_44, aw_45, ar_45, aw_46, ar_46, aw_47, ar_47, aw_48, ar_48, ob_49, aw_50, ar_50, aw_51, ar_51, aw_52, ar_52, aw_53, ar_53, aw_54, ar_54, ob_55, aw_56, ar_56, aw_57, ar_57, aw_58, ar_58, aw_59, ar_59, aw_60, ar_60, aw_61, ar_61, aw_62, ar_62, aw_63, ar_63, aw_64, ar_64, aw_65, ar_65, aw_66, ar_66, aw_67, ar_67, aw_68, ar_68, aw_69, ar_69, aw_70, ar_70, aw_71, ar_71, aw_72, ar_72, aw_73, ar_73, aw_74, ar_74, aw_75, ar_75, aw_76, ar_76, aw_77, ar_77, aw_78, ar_78, aw_79, ar_79, aw_80, ar_80, aw_81, ar_81, aw_82, ar_82, aw_83, ar_83, aw_84, ar_84, aw_85, ar_85, aw_86, ar_86, aw_87, ar_87, aw_88, ar_88, aw_89, ar_89, aw_90, ar_90, aw_91, ar_91, aw_92, ar_92, aw_93, ar_93, aw_94, ar_94, aw_95, ar_95, re_0_0, re_0_1, re_0_2, re_0_3, re_0_4, re_0_5, re_0_6, re_0_7, re_1_0, re_3_0, re_3_1, re_3_2, re_6_1, re_6_2, re_6_3, re_6_4, re_6_5, re_6_6, re_6_7, re_6_8, re_6_9, re_6_10, re_6_11, re_6_12, re_19_0, re_19_1, re_19_2, re_19_3, re_19_4, re_25_1, re_25_2, re_25_3, re_25_4, re_25_5, re_25_6, re_25_7, re_33_0, re_33_1, re_33_2, re_33_3, re_33_4, re_33_5, re_33_6, re_33_7, re_33_8, re_43_0, re_43_1, re_43_8, re_43_9, re_43_10, re_49_0, re_49_1, re_49_8, re_49_9, re_49_10, re_55_0, re_55_11, re_55_13, re_55_14, re_55_18, re_55_20, re_55_21, re_55_22, re_55_23, re_55_25, re_55_26, re_55_34, re_55_35, re_55_36, re_55_38, re_55_39, re_55_40, re_55_41, re_55_42, re_55_43, re_55_44, re_55_45, re_55_46, re_55_47, re_55_48, re_55_49, re_55_52, re_55_53, re_55_54, re_55_55, re_55_56, re_55_58, re_55_59, re_55_60, re_55_61, re_55_62, re_55_63, re_55_64, re_55_65, re_55_66, true_and, and_true, true_implies, false_implies, not_true_eq_false, not_false_eq_true, implies_true, and_self, false_and, and_false, or_true, true_or, or_false, false_or, ne_eq, Classical.not_not, inB_eq, inB_by, inB_bo, fm_nl_n, fm_nl_i, fm_nl_r, fm_same_self, Option.toList_some, Option.toList_none, List.cons_append, List.nil_append, Int.toNat_natCast, Int.cast_ofNat_Int, Int.natCast_nonneg, fm_cl_s, fm_pt_s, tn_1, tn_2, tn_3, tn_4, tn_5, wr_id, wl_id, ar_500, fm_cl_ap, fm_pt_ap, ↓reduceIte, lc_lt, lc_le, lc_gt, lc_ge, lc_eq, c92, Nat.reduceEqDiff, one_ne_zero, fm_l2i_id, Int.reduceNeg, eq_self, nrw_0, nrw_1, Int.reduceEq, Int.reduceLT, Int.reduceLE, Int.reduceAdd, Int.reduceSub, Int.reduceMul, Int.reduceToNat, z]
    exact hK
  · rw [if_neg (by rw [how]; simp [z])] at hK
    simp (disch := first | omega | exact Nat.le_of_ble_eq_true rfl) only [q120_0, q120_1, q120_4, q120_5, q120_6, q120_7, q120_8, q120_11, q120_14, q120_17, q120_18, q120_21, q120_22, ob_0, ob_1, aw_2, ar_2, ob_3, aw_4, ar_4, aw_5, ar_5, ob_6, aw_7, ar_7, aw_8, ar_8, aw_9, ar_9, aw_10, ar_10, aw_11, ar_11, aw_12, ar_12, aw_13, ar_13, aw_14, ar_14, aw_15, ar_15, aw_16, ar_16, aw_17, ar_17, aw_18, ar_18, ob_19, aw_20, ar_20, aw_21, ar_21, aw_22, ar_22, aw_23, ar_23, aw_24, ar_24, ob_25, aw_26, ar_26, aw_27, ar_27, aw_28, ar_28, aw_29, ar_29, aw_30, ar_30, aw_31, ar_31, aw_32, ar_32, ob_33, aw_34, ar_34, aw_35, ar_35, aw_36, ar_36, aw_37, ar_37, aw_38, ar_38, aw_39, ar_39, aw_40, ar_40, aw_41, ar_41, aw_42, ar_42, ob_43, aw_44, ar_44, aw_45, ar_45, aw_46, ar_46, aw_47, ar_47, aw_48, ar_48, ob_49, aw_50, ar_50, aw_51, ar_51, aw_52, ar_52, aw_53, ar_53, aw_54, ar_54, ob_55, aw_56, ar_56, aw_57, ar_57, aw_58, ar_58, aw_59, ar_59, aw_60, ar_60, aw_61, ar_61, aw_62, ar_62, aw_63, ar_63, aw_64, ar_64, aw_65, ar_65, aw_66, ar_66, aw_67, ar_67, aw_68, ar_68, aw_69, ar_69, aw_70, ar_70, aw_71, ar_71, aw_72, ar_72, aw_73, ar_73, aw_74, ar_74, aw_75, ar_75, aw_76, ar_76, aw_77, ar_77, aw_78, ar_78, aw_79, ar_79, aw_80, ar_80, aw_81, ar_81, aw_82, ar_82, aw_83, ar_83, aw_84, ar_84, aw_85, ar_85, aw_86, ar_86, aw_87, ar_87, aw_88, ar_88, aw_89, ar_89, aw_90, ar_90, aw_91, ar_91, aw_92, ar_92, aw_93, ar_93, aw_94, ar_94, aw_95, ar_95, re_0_0, re_0_1, re_0_2, re_0_3, re_0_4, re_0_5, re_0_6, re_0_7, re_1_0, re_3_0, re_3_1, re_3_2, re_6_1, re_6_2, re_6_3, re_6_4, re_6_5, re_6_6, re_6_7, re_6_8, re_6_9, re_6_10, re_6_11, re_6_12, re_19_0, re_19_1, re_19_2, re_19_3, re_19_4, re_25_1, re_25_2, re_25_3, re_25_4, re_25_5, re_25_6, re_25_7, re_33_0, re_33_1, re_33_2, re_33_3, re_33_4, re_33_5, re_33_6, re_33_7, re_33_8, re_43_0, re_43_1, re_43_8, re_43_9, re_43_10, re_49_0, re_49_1, re_49_8, re_49_9, re_49_10, re_55_0, re_55_11, re_55_13, re_55_14, re_55_18, re_55_20, re_55_21, re_55_22, re_55_23, re_55_25, re_55_26, re_55_34, re_55_35, re_55_36, re_55_38, re_55_39, re_55_40, re_55_41, re_55_42, re_55_43, re_55_44, re_55_45, re_55_46, re_55_47, re_55_48, re_55_49, re_55_52, re_55_53, re_55_54, re_55_55, re_55_56, re_55_58, re_55_59, re_55_60, re_55_61, re_55_62, re_55_63, re_55_64, re_55_65, re_55_66, true_and, and_true, true_implies, false_implies, not_true_eq_false, not_false_eq_true, implies_true, and_self, false_and, and_false, or_true, true_or, or_false, false_or, ne_eq, Classical.not_not, inB_eq, inB_by, inB_bo, fm_nl_n, fm_nl_i, fm_nl_r, fm_same_self, Option.toList_some, Option.toList_none, List.cons_append, List.nil_append, Int.toNat_natCast, Int.cast_ofNat_Int, Int.natCast_nonneg, fm_cl_s, fm_pt_s, tn_1, tn_2, tn_3, tn_4, tn_5, wr_id, wl_id, ar_500, fm_cl_ap, fm_pt_ap, ↓reduceIte, lc_lt, lc_le, lc_gt, lc_ge, lc_eq, c92, Nat.reduceEqDiff, one_ne_zero, fm_l2i_id, Int.reduceNeg, eq_self, nrw_0, nrw_1, Int.reduceEq, Int.reduceLT, Int.reduceLE, Int.reduceAdd, Int.reduceSub, Int.reduceMul, Int.reduceToNat, z]
    exact hK
end BITS
