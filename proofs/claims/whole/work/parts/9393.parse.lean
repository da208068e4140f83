/-! ===== the text, read by numbers ===== -/
/-- a number wanted at ps: a fault, or none -/
def nck (b : Nat → Int) (len ps : Nat) (lo hi : Int) : Option (Int × Nat) := if tkK b len ps = 3 then (if lo ≤ tkN b len ps ∧ tkN b len ps ≤ hi then none else some (3, tkS b len ps)) else some (1, tkS b len ps)
/-- spans from number i on -/
def spn (b : Nat → Int) (len : Nat) : Nat → Nat → Nat → (Nat → Int) → (Nat → Int) → (Int × Nat) ⊕ (Nat × Nat × (Nat → Int) × (Nat → Int))
  | 0, _, ps, _, _ => .inl (4, tkS b len ps)
  | f + 1, i, ps, sw, sb =>
    if tkK b len ps = 5 ∧ 0 < i then .inr (ps, i, sw, sb)
    else match nck b len ps 0 2 with
      | some e => .inl e
      | none =>
        if i = 12 then .inl (4, tkS b len ps)
        else match nck b len (tkE b len ps) 1 48 with
          | some e => .inl e
          | none => spn b len f (i + 1) (tkE b len (tkE b len ps)) (fm_pt sw i (tkN b len ps)) (fm_pt sb i (tkN b len (tkE b len ps)))
/-- a sign wanted -/
def sck (b : Nat → Int) (len ps : Nat) (k : Int) : Option (Int × Nat) := if tkK b len ps = k then none else some (1, tkS b len ps)
def rst (b : Nat → Int) (len ps : Nat) : (Int × Nat) ⊕ (Nat × Int × Int × Int) :=
  match nck b len ps 1 96 with
  | some e => .inl e
  | none => match nck b len (tkE b len ps) 0 (tkN b len ps) with
    | some e => .inl e
    | none => match nck b len (tkE b len (tkE b len ps)) 0 (tkN b len ps) with
      | some e => .inl e
      | none => match sck b len (tkE b len (tkE b len (tkE b len ps))) 5 with
        | some e => .inl e
        | none => .inr (tkE b len (tkE b len (tkE b len ps)), tkN b len ps, tkN b len (tkE b len ps), tkN b len (tkE b len (tkE b len ps)))
def stg (b : Nat → Int) (len ps : Nat) (hi : Int) : (Int × Nat) ⊕ (Nat × Int) :=
  match nck b len ps 0 hi with
  | some e => .inl e
  | none => match sck b len (tkE b len ps) 5 with
    | some e => .inl e
    | none => .inr (tkE b len ps, tkN b len ps)
/-- kinds of bill nb from number i on, st stations so far -/
def knd (b : Nat → Int) (len nb : Nat) : Nat → Nat → Nat → Nat → (Nat → Int) → (Int × Nat) ⊕ (Nat × Nat × (Nat → Int))
  | 0, _, ps, _, _ => .inl (4, tkS b len ps)
  | f + 1, i, ps, st, sk =>
    if tkK b len ps = 5 ∧ 0 < i then .inr (ps, st, sk)
    else if tkK b len ps = 2 ∧ tkW b len ps ≤ 6 then
      match nck b len (tkE b len ps) 1 8 with
      | some e => .inl e
      | none =>
        if 12 < (st : Int) + tkN b len (tkE b len ps) then .inl (4, tkS b len (tkE b len ps))
        else knd b len nb f (i + 1) (tkE b len (tkE b len ps)) (st + (tkN b len (tkE b len ps)).toNat) (rowp sk (12 * nb + st) (tkN b len (tkE b len ps)).toNat (fun _ => tkW b len ps - 1))
    else .inl (1, tkS b len ps)
def isn (nm : Nat → Int) (v : Int) : Nat → Bool
  | 0 => false
  | k + 1 => isn nm v k || decide (nm k = v)
/-- a bill: names, bells, stations, skills -/
def bil (b : Nat → Int) (len ps nb : Nat) (nm bb bs sk : Nat → Int) : (Int × Nat) ⊕ (Nat × (Nat → Int) × (Nat → Int) × (Nat → Int) × (Nat → Int)) :=
  if tkK b len ps = 2 then
    (if isn nm (tkW b len ps) nb = true then .inl (2, tkS b len ps)
    else if 8 ≤ nb then .inl (4, tkS b len ps)
    else match nck b len (tkE b len ps) 1 48 with
      | some e => .inl e
      | none => match sck b len (tkE b len (tkE b len ps)) 4 with
        | some e => .inl e
        | none => match knd b len nb 13 0 (tkE b len (tkE b len (tkE b len ps))) 0 sk with
          | .inl e => .inl e
          | .inr (p', st, sk') => .inr (p', fm_pt nm nb (tkW b len ps), fm_pt bb nb (tkN b len (tkE b len ps)), fm_pt bs nb st, sk'))
  else .inl (1, tkS b len ps)
/-- spans; rest; settings 3 to 5; bills; clauses seen -/
abbrev PL : Type := (Nat × (Nat → Int) × (Nat → Int)) × (Int × Int × Int) × (Nat → Int) × (Nat × (Nat → Int) × (Nat → Int) × (Nat → Int) × (Nat → Int)) × (Nat → Bool)
def see (s : Nat → Bool) (w : Nat) : Nat → Bool := fun v => if v = w then true else s v
/-- a clause whose first token is at ps -/
def cls (b : Nat → Int) (len ps : Nat) (x : PL) : (Int × Nat) ⊕ (Nat × PL) :=
  if tkK b len ps = 8 then
    (match bil b len (tkE b len ps) x.2.2.2.1.1 x.2.2.2.1.2.1 x.2.2.2.1.2.2.1 x.2.2.2.1.2.2.2.1 x.2.2.2.1.2.2.2.2 with
    | .inl e => .inl e
    | .inr (p', nm, bb, bs, sk) => .inr (p', x.1, x.2.1, x.2.2.1, (x.2.2.2.1.1 + 1, nm, bb, bs, sk), x.2.2.2.2))
  else if tkK b len ps < 6 then .inl (1, tkS b len ps)
  else if x.2.2.2.2 (tkK b len ps - 6).toNat = true then .inl (2, tkS b len ps)
  else if tkK b len ps = 6 then
    (match spn b len 13 0 (tkE b len ps) x.1.2.1 x.1.2.2 with
    | .inl e => .inl e
    | .inr (p', ns, sw, sb) => .inr (p', (ns, sw, sb), x.2.1, x.2.2.1, x.2.2.2.1, see x.2.2.2.2 0))
  else if tkK b len ps = 7 then
    (match rst b len (tkE b len ps) with
    | .inl e => .inl e
    | .inr (p', d, r, s) => .inr (p', x.1, (d, r, s), x.2.2.1, x.2.2.2.1, see x.2.2.2.2 1))
  else
    (match stg b len (tkE b len ps) (if tkK b len ps = 9 then 8 else if tkK b len ps = 10 then 100 else 16) with
    | .inl e => .inl e
    | .inr (p', v) => .inr (p', x.1, x.2.1, fm_pt x.2.2.1 (tkK b len ps - 6).toNat v, x.2.2.2.1, see x.2.2.2.2 (tkK b len ps - 6).toNat))
def prs (b : Nat → Int) (len : Nat) : Nat → Nat → PL → (Int × Nat) ⊕ PL
  | 0, _, x => .inr x
  | f + 1, ps, x => if tkK b len ps = 0 then .inr x else match cls b len ps x with
    | .inl e => .inl e
    | .inr (p', y) => prs b len f (tkE b len p') y
section PARSEC
variable {I L : Nat → Nat → Int} {p q n : Nat} {K : Option fm_V → fm_S → Prop}
/-- what the class's reader leaves alone -/
def CF (q : Nat) (I L J M : Nat → Nat → Int) : Prop := (∀ x, x ≠ 3 → x < q ∨ q + 5 < x → J x = I x) ∧ ∀ x, x ≠ 3 → x ≠ 4 → M x = L x
theorem tkK_in {b : Nat → Int} {len ps : Nat} : 0 ≤ tkK b len ps ∧ tkK b len ps ≤ 11 := by
  unfold tkK
  have := kwk_in (v := tkW b len ps)
  split
  · omega
  · split
    · split <;> omega
    · split
      · omega
      · split
        · omega
        · split <;> omega
theorem tkN_in {b : Nat → Int} {len ps : Nat} (hp : ps ≤ len) (h : tkK b len ps = 3) : 0 ≤ tkN b len ps ∧ tkN b len ps ≤ 100000 ∧ (tkR b len ps ≤ 99999 → tkN b len ps = tkR b len ps) ∧ (99999 < tkR b len ps → tkN b len ps = 100000) ∧ 0 ≤ tkR b len ps ∧ tkR b len ps ≤ 1000000 := by
  have hd : tkS b len ps ≠ len ∧ isD (b (tkS b len ps)) = true := by
    unfold tkK at h
    have := kwk_in (v := tkW b len ps)
    split at h
    · omega
    · rename_i e
      split at h
      · split at h <;> omega
      · split at h
        · rename_i e2; exact ⟨e, e2⟩
        · split at h
          · omega
          · split at h <;> omega
  have := tk_num hp hd.1 hd.2
  have g := dg_in (b := b) (s := tkS b len ps) _ this.2
  exact ⟨g.1, g.2.1, g.2.2.2.2.1, g.2.2.2.2.2, g.2.2.1, g.2.2.2.1⟩
theorem tkW_in {b : Nat → Int} {len ps : Nat} (hp : ps ≤ len) (h : tkK b len ps = 2) : 1 ≤ tkW b len ps ∧ tkW b len ps < 1099511627776 ∧ tkE b len ps - tkS b len ps ≤ 8 ∧ (tkW b len ps ≤ 6 ↔ tkE b len ps - tkS b len ps = 1 ∧ tkW b len ps ≤ 6) := by
  have hd : tkS b len ps ≠ len ∧ isL (b (tkS b len ps)) = true ∧ tkE b len ps - tkS b len ps ≤ 8 := by
    unfold tkK at h
    split at h
    · omega
    · rename_i e
      split at h
      · rename_i e2
        split at h
        · omega
        · exact ⟨e, e2, by omega⟩
      · split at h
        · omega
        · split at h
          · omega
          · split at h <;> omega
  have t := tk_in (b := b) hp
  have w := tk_word hp hd.1 hd.2.1
  have g := nmv_in (b := b) (s := tkS b len ps) _ w.2
  have e : tkW b len ps = nmv b (tkS b len ps) (tkE b len ps - tkS b len ps) := rfl
  rw [← e] at g
  have l := t.2.2.2.2 (by omega)
  have g3 := g.2.2 (by omega)
  have hm : min (tkE b len ps - tkS b len ps) 8 = tkE b len ps - tkS b len ps := by omega
  rw [hm] at g g3
  have hpw : (32 : Int) ^ (tkE b len ps - tkS b len ps) ≤ 32 ^ 8 := by
    have : (32 : Nat) ^ (tkE b len ps - tkS b len ps) ≤ 32 ^ 8 := Nat.pow_le_pow_right (by omega) hd.2.2
    exact_mod_cast this
  have hp1 : (32 : Int) ^ 0 ≤ 32 ^ (tkE b len ps - tkS b len ps - 1) := by
    have : (32 : Nat) ^ 0 ≤ 32 ^ (tkE b len ps - tkS b len ps - 1) := Nat.pow_le_pow_right (by omega) (by omega)
    exact_mod_cast this
  refine ⟨by omega, by omega, hd.2.2, fun q => ⟨?_, q⟩, fun q => q.2⟩
  by_cases z : tkE b len ps - tkS b len ps = 1
  · exact z
  · have hp2 : (32 : Int) ^ 1 ≤ 32 ^ (tkE b len ps - tkS b len ps - 1) := by
      have : (32 : Nat) ^ 1 ≤ 32 ^ (tkE b len ps - tkS b len ps - 1) := Nat.pow_le_pow_right (by omega) (by omega)
      exact_mod_cast this
    omega
/-- the class's reader stands at a token -/
def At (b : Nat → Int) (len ps : Nat) (J M : Nat → Nat → Int) : Prop := J 3 5 = tkK b len ps ∧ J 3 6 = tkS b len ps ∧ J 3 7 = tkE b len ps ∧ (tkK b len ps = 3 → J 3 8 = tkN b len ps) ∧ (tkK b len ps = 2 → M 3 9 = tkW b len ps)
/-- the tape, the keywords -/
def Tp (b : Nat → Int) (len : Nat) (J M : Nat → Nat → Int) : Prop := (∀ j, J 2 j = b j % 256 ∧ -128 ≤ b j ∧ b j ≤ 127) ∧ J 1 1 = len ∧ len ≤ 400 ∧ iv_kw (M 5)
set_option maxRecDepth 20000 in
set_option maxHeartbeats 4000000 in
/-- the class: isNumberIn -/
theorem c64 {b : Nat → Int} {len ps : Nat} {lo hi : Int} (hp : ps ≤ len) (ha : At b len ps I L) (h1 : 0 ≤ lo ∧ lo ≤ 100) (h2 : 0 ≤ hi ∧ hi ≤ 100)
    (hK0 : ∀ f, nck b len ps lo hi = some (f, tkS b len ps) → (f = 1 ∨ f = 3) → K (some (.inl 0)) (fm_cl I 3 (fm_pt (I 3) 4 f), L, fm_refs p q, 96, n))
    (hK1 : nck b len ps lo hi = none → tkK b len ps = 3 → lo ≤ tkN b len ps ∧ tkN b len ps ≤ hi → K (some (.inl 1)) (I, L, fm_refs p q, 96, n)) :
    fm_wp 64 (0, [some (.inr (.inr (some 3))), some (.inl lo), some (.inl hi)], [], (I, L, fm_refs p q, 96, n)) K := by
  obtain ⟨a5, a6, a7, a8, a9⟩ := ha
  have kin := tkK_in (b := b) (len := len) (ps := ps)
  by_cases z : tkK b len ps = 3
  · have nin := tkN_in hp z
    have e8 := a8 z
    by_cases z1 : tkN b len ps < lo
    · have k := hK0 3 (by unfold nck; rw [if_pos z, if_neg (by omega)]) (Or.inr rfl)
      simp (disch := first | omega | exact Nat.le_of_ble_eq_true rfl) only [q64_0, q64_1, q64_4, q64_5, q64_8, q64_9, q64_10, q64_13, q64_14, q64_15, q64_18, q64_19, q64_22, q64_23, q64_26, q64_27, q64_30, q64_31, q64_32, q64_35, q64_38, q64_39, q64_42, q64_43, q55_0, q55_1, q55_2, q55_5, q55_6, ob_0, ob_1, aw_2, ar_2, ob_3, aw_4, ar_4, aw_5, ar_5, ob_6, aw_7, ar_7, aw_8, ar_8, aw_9, ar_9, aw_10, ar_10, aw_11, ar_11, aw_12, ar_12, aw_13, ar_13, aw_14, ar_14, aw_15, ar_15, aw_16, ar_16, aw_17, ar_17, aw_18, ar_18, ob_19, aw_20, ar_20, aw_21, ar_21, aw_22, ar_22, aw_23, ar_23, aw_24, ar_24, ob_25, aw_26, ar_26, aw_27, ar_27, aw_28, ar_28, aw_29, ar_29, aw_30, ar_30, aw_31, ar_31, aw_32, ar_32, ob_33, aw_34, ar_34, aw_35, ar_35, aw_36, ar_36, aw_37, ar_37, aw_38, ar_38, aw_39, ar_39, aw_40, ar_40, aw_41, ar_41, aw_42, ar_42, ob_43, aw_44, ar_44, aw_45, ar_45, aw_46, ar_46, aw_47, ar_47, aw_48, ar_48, ob_49, aw_50, ar_50, aw_51, ar_51, aw_52, ar_52, aw_53, ar_53, aw_54, ar_54, ob_55, aw_56, ar_56, aw_57, ar_57, aw_58, ar_58, aw_59, ar_59, aw_60, ar_60, aw_61, ar_61, aw_62, ar_62, aw_63, ar_63, aw_64, ar_64, aw_65, ar_65, aw_66, ar_66, aw_67, ar_67, aw_68, ar_68, aw_69, ar_69, aw_70, ar_70, aw_71, ar_71, aw_72, ar_72, aw_73, ar_73, aw_74, ar_74, aw_75, ar_75, aw_76, ar_76, aw_77, ar_77, aw_78, ar_78, aw_79, ar_79, aw_80, ar_80, aw_81, ar_81, aw_82, ar_82, aw_83, ar_83, aw_84, ar_84, aw_85, ar_85, aw_86, ar_86, aw_87, ar_87, aw_88, ar_88, aw_89, ar_89, aw_90, ar_90, aw_91, ar_91, aw_92, ar_92, aw_93, ar_93, aw_94, ar_94, aw_95, ar_95, re_0_0, re_0_1, re_0_2, re_0_3, re_0_4, re_0_5, re_0_6, re_0_7, re_1_0, re_3_0, re_3_1, re_3_2, re_6_1, re_6_2, re_6_3, re_6_4, re_6_5, re_6_6, re_6_7, re_6_8, re_6_9, re_6_10, re_6_11, re_6_12, re_19_0, re_19_1, re_19_2, re_19_3, re_19_4, re_25_1, re_25_2, re_25_3, re_25_4, re_25_5, re_25_6, re_25_7, re_33_0, re_33_1, re_33_2, re_33_3, re_33_4, re_33_5, re_33_6, re_33_7, re_33_8, re_43_0, re_43_1, re_43_8, re_43_9, re_43_10, re_49_0, re_49_1, re_49_8, re_49_9, re_49_10, re_55_0, re_55_11, re_55_13, re_55_14, re_55_18, re_55_20, re_55_21, re_55_22, re_55_23, re_55_25, re_55_26, re_55_34, re_55_35, re_55_36, re_55_38, re_55_39, re_55_40, re_55_41, re_55_42, re_55_43, re_55_44, re_55_45, re_55_46, re_55_47, re_55_48, re_55_49, re_55_52, re_55_53, re_55_54, re_55_55, re_55_56, re_55_58, re_55_59, re_55_60, re_55_61, re_55_62, re_55_63, re_55_64, re_55_65, re_55_66, true_and, and_true, true_implies, false_implies, not_true_eq_false, not_false_eq_true, implies_true, and_self, false_and, and_false, or_true, true_or, or_false, false_or, ne_eq, Classical.not_not, inB_eq, inB_by, inB_bo, fm_nl_n, fm_nl_i, fm_nl_r, fm_same_self, Option.toList_some, Option.toList_none, List.cons_append, List.nil_append, Int.toNat_natCast, Int.cast_ofNat_Int, Int.natCast_nonneg, fm_cl_s, fm_pt_s, tn_1, tn_2, tn_3, tn_4, tn_5, wr_id, wl_id, ar_500, fm_cl_ap, fm_pt_ap, ↓reduceIte, lc_lt, lc_le, lc_gt, lc_ge, lc_eq, c92, Nat.reduceEqDiff, one_ne_zero, fm_l2i_id, Int.reduceNeg, eq_self, nrw_0, nrw_1, Int.reduceEq, Int.reduceLT, Int.reduceLE, Int.reduceAdd, Int.reduceSub, Int.reduceMul, Int.reduceToNat, a5, z, e8, z1]
      exact k
    · by_cases z2 : tkN b len ps ≤ hi
      · have k := hK1 (by unfold nck; rw [if_pos z, if_pos ⟨by omega, z2⟩]) z ⟨by omega, z2⟩
        simp (disch := first | omega | exact Nat.le_of_ble_eq_true rfl) only [q64_0, q64_1, q64_4, q64_5, q64_8, q64_9, q64_10, q64_13, q64_14, q64_15, q64_18, q64_19, q64_22, q64_23, q64_26, q64_27, q64_30, q64_31, q64_32, q64_35, q64_38, q64_39, q64_42, q64_43, q55_0, q55_1, q55_2, q55_5, q55_6, ob_0, ob_1, aw_2, ar_2, ob_3, aw_4, ar_4, aw_5, ar_5, ob_6, aw_7, ar_7, aw_8, ar_8, aw_9, ar_9, aw_10, ar_10, aw_11, ar_11, aw_12, ar_12, aw_13, ar_13, aw_14, ar_14, aw_15, ar_15, aw_16, ar_16, aw_17, ar_17, aw_18, ar_18, ob_19, aw_20, ar_20, aw_21, ar_21, aw_22, ar_22, aw_23, ar_23, aw_24, ar_24, ob_25, aw_26, ar_26, aw_27, ar_27, aw_28, ar_28, aw_29, ar_29, aw_30, ar_30, aw_31, ar_31, aw_32, ar_32, ob_33, aw_34, ar_34, aw_35, ar_35, aw_36, ar_36, aw_37, ar_37, aw_38, ar_38, aw_39, ar_39, aw_40, ar_40, aw_41, ar_41, aw_42, ar_42, ob_43, aw_44, ar_44, aw_45, ar_45, aw_46, ar_46, aw_47, ar_47, aw_48, ar_48, ob_49, aw_50, ar_50, aw_51, ar_51, aw_52, ar_52, aw_53, ar_53, aw_54, ar_54, ob_55, aw_56, ar_56, aw_57, ar_57, aw_58, ar_58, aw_59, ar_59, aw_60, ar_60, aw_61, ar_61, aw_62, ar_62, aw_63, ar_63, aw_64, ar_64, aw_65, ar_65, aw_66, ar_66, aw_67, ar_67, aw_68, ar_68, aw_69, ar_69, aw_70, ar_70, aw_71, ar_71, aw_72, ar_72, aw_73, ar_73, aw_74, ar_74, aw_75, ar_75, aw_76, ar_76, aw_77, ar_77, aw_78, ar_78, aw_79, ar_79, aw_80, ar_80, aw_81, ar_81, aw_82, ar_82, aw_83, ar_83, aw_84, ar_84, aw_85, ar_85, aw_86, ar_86, aw_87, ar_87, aw_88, ar_88, aw_89, ar_89, aw_90, ar_90, aw_91, ar_91, aw_92, ar_92, aw_93, ar_93, aw_94, ar_94, aw_95, ar_95, re_0_0, re_0_1, re_0_2, re_0_3, re_0_4, re_0_5, re_0_6, re_0_7, re_1_0, re_3_0, re_3_1, re_3_2, re_6_1, re_6_2, re_6_3, re_6_4, re_6_5, re_6_6, re_6_7, re_6_8, re_6_9, re_6_10, re_6_11, re_6_12, re_19_0, re_19_1, re_19_2, re_19_3, re_19_4, re_25_1, re_25_2, re_25_3, re_25_4, re_25_5, re_25_6, re_25_7, re_33_0, re_33_1, re_33_2, re_33_3, re_33_4, re_33_5, re_33_6, re_33_7, re_33_8, re_43_0, re_43_1, re_43_8, re_43_9, re_43_10, re_49_0, re_49_1, re_49_8, re_49_9, re_49_10, re_55_0, re_55_11, re_55_13, re_55_14, re_55_18, re_55_20, re_55_21, re_55_22, re_55_23, re_55_25, re_55_26, re_55_34, re_55_35, re_55_36, re_55_38, re_55_39, re_55_40, re_55_41, re_55_42, re_55_43, re_55_44, re_55_45, re_55_46, re_55_47, re_55_48, re_55_49, re_55_52, re_55_53, re_55_54, re_55_55, re_55_56, re_55_58, re_55_59, re_55_60, re_55_61, re_55_62, re_55_63, re_55_64, re_55_65, re_55_66, true_and, and_true, true_implies, false_implies, not_true_eq_false, not_false_eq_true, implies_true, and_self, false_and, and_false, or_true, true_or, or_false, false_or, ne_eq, Classical.not_not, inB_eq, inB_by, inB_bo, fm_nl_n, fm_nl_i, fm_nl_r, fm_same_self, Option.toList_some, Option.toList_none, List.cons_append, List.nil_append, Int.toNat_natCast, Int.cast_ofNat_Int, Int.natCast_nonneg, fm_cl_s, fm_pt_s, tn_1, tn_2, tn_3, tn_4, tn_5, wr_id, wl_id, ar_500, fm_cl_ap, fm_pt_ap, ↓reduceIte, lc_lt, lc_le, lc_gt, lc_ge, lc_eq, c92, Nat.reduceEqDiff, one_ne_zero, fm_l2i_id, Int.reduceNeg, eq_self, nrw_0, nrw_1, Int.reduceEq, Int.reduceLT, Int.reduceLE, Int.reduceAdd, Int.reduceSub, Int.reduceMul, Int.reduceToNat, a5, z, e8, z1, z2]
        exact k
      · have k := hK0 3 (by unfold nck; rw [if_pos z, if_neg (by omega)]) (Or.inr rfl)
        simp (disch := first | omega | exact Nat.le_of_ble_eq_true rfl) only [q64_0, q64_1, q64_4, q64_5, q64_8, q64_9, q64_10, q64_13, q64_14, q64_15, q64_18, q64_19, q64_22, q64_23, q64_26, q64_27, q64_30, q64_31, q64_32, q64_35, q64_38, q64_39, q64_42, q64_43, q55_0, q55_1, q55_2, q55_5, q55_6, ob_0, ob_1, aw_2, ar_2, ob_3, aw_4, ar_4, aw_5, ar_5, ob_6, aw_7, ar_7, aw_8, ar_8, aw_9, ar_9, aw_10, ar_10, aw_11, ar_11, aw_12, ar_12, aw_13, ar_13, aw_14, ar_14, aw_15, ar_15, aw_16, ar_16, aw_17, ar_17, aw_18, ar_18, ob_19, aw_20, ar_20, aw_21, ar_21, aw_22, ar_22, aw_23, ar_23, aw_24, ar_24, ob_25, aw_26, ar_26, aw_27, ar_27, aw_28, ar_28, aw_29, ar_29, aw_30, ar_30, aw_31, ar_31, aw_32, ar_32, ob_33, aw_34, ar_34, aw_35, ar_35, aw_36, ar_36, aw_37, ar_37, aw_38, ar_38, aw_39, ar_39, aw_40, ar_40, aw_41, ar_41, aw_42, ar_42, ob_43, aw_44, ar_44, aw_45, ar_45, aw_46, ar_46, aw_47, ar_47, aw_48, ar_48, ob_49, aw_50, ar_50, aw_51, ar_51, aw_52, ar_52, aw_53, ar_53, aw_54, ar_54, ob_55, aw_56, ar_56, aw_57, ar_57, aw_58, ar_58, aw_59, ar_59, aw_60, ar_60, aw_61, ar_61, aw_62, ar_62, aw_63, ar_63, aw_64, ar_64, aw_65, ar_65, aw_66, ar_66, aw_67, ar_67, aw_68, ar_68, aw_69, ar_69, aw_70, ar_70, aw_71, ar_71, aw_72, ar_72, aw_73, ar_73, aw_74, ar_74, aw_75, ar_75, aw_76, ar_76, aw_77, ar_77, aw_78, ar_78, aw_79, ar_79, aw_80, ar_80, aw_81, ar_81, aw_82, ar_82, aw_83, ar_83, aw_84, ar_84, aw_85, ar_85, aw_86, ar_86, aw_87, ar_87, aw_88, ar_88, aw_89, ar_89, aw_90, ar_90, aw_91, ar_91, aw_92, ar_92, aw_93, ar_93, aw_94, ar_94, aw_95, ar_95, re_0_0, re_0_1, re_0_2, re_0_3, re_0_4, re_0_5, re_0_6, re_0_7, re_1_0, re_3_0, re_3_1, re_3_2, re_6_1, re_6_2, re_6_3, re_6_4, re_6_5, re_6_6, re_6_7, re_6_8, re_6_9, re_6_10, re_6_11, re_6_12, re_19_0, re_19_1, re_19_2, re_19_3, re_19_4, re_25_1, re_25_2, re_25_3, re_25_4, re_25_5, re_25_6, re_25_7, re_33_0, re_33_1, re_33_2, re_33_3, re_33_4, re_33_5, re_33_6, re_33_7, re_33_8, re_43_0, re_43_1, re_43_8, re_43_9, re_43_10, re_49_0, re_49_1, re_49_8, re_49_9, re_49_10, re_55_0, re_55_11, re_55_13, re_55_14, re_55_18, re_55_20, re_55_21, re_55_22, re_55_23, re_55_25, re_55_26, re_55_34, re_55_35, re_55_36, re_55_38, re_55_39, re_55_40, re_55_41, re_55_42, re_55_43, re_55_44, re_55_45, re_55_46, re_55_47, re_55_48, re_55_49, re_55_52, re_55_53, re_55_54, re_55_55, re_55_56, re_55_58, re_55_59, re_55_60, re_55_61, re_55_62, re_55_63, re_55_64, re_55_65, re_55_66, true_and, and_true, true_implies, false_implies, not_true_eq_false, not_false_eq_true, implies_true, and_self, false_and, and_false, or_true, true_or, or_false, false_or, ne_eq, Classical.not_not, inB_eq, inB_by, inB_bo, fm_nl_n, fm_nl_i, fm_nl_r, fm_same_self, Option.toList_some, Option.toList_none, List.cons_append, List.nil_append, Int.toNat_natCast, Int.cast_ofNat_Int, Int.natCast_nonneg, fm_cl_s, fm_pt_s, tn_1, tn_2, tn_3, tn_4, tn_5, wr_id, wl_id, ar_500, fm_cl_ap, fm_pt_ap, ↓reduceIte, lc_lt, lc_le, lc_gt, lc_ge, lc_eq, c92, Nat.reduceEqDiff, one_ne_zero, fm_l2i_id, Int.reduceNeg, eq_self, nrw_0, nrw_1, Int.reduceEq, Int.reduceLT, Int.reduceLE, Int.reduceAdd, Int.reduceSub, Int.reduceMul, Int.reduceToNat, a5, z, e8, z1, z2]
        exact k
  · have k := hK0 1 (by unfold nck; rw [if_neg z]) (Or.inl rfl)
    simp (disch := first | omega | exact Nat.le_of_ble_eq_true rfl) only [q64_0, q64_1, q64_4, q64_5, q64_8, q64_9, q64_10, q64_13, q64_14, q64_15, q64_18, q64_19, q64_22, q64_23, q64_26, q64_27, q64_30, q64_31, q64_32, q64_35, q64_38, q64_39, q64_42, q64_43, q55_0, q55_1, q55_2, q55_5, q55_6, ob_0, ob_1, aw_2, ar_2, ob_3, aw_4, ar_4, aw_5, ar_5, ob_6, aw_7, ar_7, aw_8, ar_8, aw_9, ar_9, aw_10, ar_10, aw_11, ar_11, aw_12, ar_12, aw_13, ar_13, aw_14, ar_14, aw_15, ar_15, aw_16, ar_16, aw_17, ar_17, aw_18, ar_18, ob_19, aw_20, ar_20, aw_21, ar_21, aw_22, ar_22, aw_23, ar_23, aw_24, ar_24, ob_25, aw_26, ar_26, aw_27, ar_27, aw_28, ar_28, aw_29, ar_29, aw_30, ar_30, aw_31, ar_31, aw_32, ar_32, ob_33, aw_34, ar_34, aw_35, ar_35, aw_36, ar_36, aw_37, ar_37, aw_38, ar_38, aw_39, ar_39, aw_40, ar_40, aw_41, ar_41, aw_42, ar_42, ob_43, aw_44, ar_44, aw_45, ar_45, aw_46, ar_46, aw_47, ar_47, aw_48, ar_48, ob_49, aw_50, ar_50, aw_51, ar_51, aw_52, ar_52, aw_53, ar_53, aw_54, ar_54, ob_55, aw_56, ar_56, aw_57, ar_57, aw_58, ar_58, aw_59, ar_59, aw_60, ar_60, aw_61, ar_61, aw_62, ar_62, aw_63, ar_63, aw_64, ar_64, aw_65, ar_65, aw_66, ar_66, aw_67, ar_67, aw_68, ar_68, aw_69, ar_69, aw_70, ar_70, aw_71, ar_71, aw_72, ar_72, aw_73, ar_73, aw_74, ar_74, aw_75, ar_75, aw_76, ar_76, aw_77, ar_77, aw_78, ar_78, aw_79, ar_79, aw_80, ar_80, aw_81, ar_81, aw_82, ar_82, aw_83, ar_83, aw_84, ar_84, aw_85, ar_85, aw_86, ar_86, aw_87, ar_87, aw_88, ar_88, aw_89, ar_89, aw_90, ar_90, aw_91, ar_91, aw_92, ar_92, aw_93, ar_93, aw_94, ar_94, aw_95, ar_95, re_0_0, re_0_1, re_0_2, re_0_3, re_0_4, re_0_5, re_0_6, re_0_7, re_1_0, re_3_0, re_3_1, re_3_2, re_6_1, re_6_2, re_6_3, re_6_4, re_6_5, re_6_6, re_6_7, re_6_8, re_6_9, re_6_10, re_6_11, re_6_12, re_19_0, re_19_1, re_19_2, re_19_3, re_19_4, re_25_1, re_25_2, re_25_3, re_25_4, re_25_5, re_25_6, re_25_7, re_33_0, re_33_1, re_33_2, re_33_3, re_33_4, re_33_5, re_33_6, re_33_7, re_33_8, re_43_0, re_43_1, re_43_8, re_43_9, re_43_10, re_49_0, re_49_1, re_49_8, re_49_9, re_49_10, re_55_0, re_55_11, re_55_13, re_55_14, re_55_18, re_55_20, re_55_21, re_55_22, re_55_23, re_55_25, re_55_26, re_55_34, re_55_35, re_55_36, re_55_38, re_55_39, re_55_40, re_55_41, re_55_42, re_55_43, re_55_44, re_55_45, re_55_46, re_55_47, re_55_48, re_55_49, re_55_52, re_55_53, re_55_54, re_55_55, re_55_56, re_55_58, re_55_59, re_55_60, re_55_61, re_55_62, re_55_63, re_55_64, re_55_65, re_55_66, true_and, and_true, true_implies, false_implies, not_true_eq_false, not_false_eq_true, implies_true, and_self, false_and, and_false, or_true, true_or, or_false, false_or, ne_eq, Classical.not_not, inB_eq, inB_by, inB_bo, fm_nl_n, fm_nl_i, fm_nl_r, fm_same_self, Option.toList_some, Option.toList_none, List.cons_append, List.nil_append, Int.toNat_natCast, Int.cast_ofNat_Int, Int.natCast_nonneg, fm_cl_s, fm_pt_s, tn_1, tn_2, tn_3, tn_4, tn_5, wr_id, wl_id, ar_500, fm_cl_ap, fm_pt_ap, ↓reduceIte, lc_lt, lc_le, lc_gt, lc_ge, lc_eq, c92, Nat.reduceEqDiff, one_ne_zero, fm_l2i_id, Int.reduceNeg, eq_self, nrw_0, nrw_1, Int.reduceEq, Int.reduceLT, Int.reduceLE, Int.reduceAdd, Int.reduceSub, Int.reduceMul, Int.reduceToNat, a5, z]
    exact k
end PARSEC
