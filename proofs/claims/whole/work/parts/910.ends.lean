/-! ===== orders that end ===== -/
abbrev LrS : Type := (Nat → Int) × (Nat → Int)
def LrS.le (x : LrS) : Nat → Int := x.1
def LrS.sk (x : LrS) : Nat → Int := x.2
abbrev PsS : Type := (Nat → Int) × LrS
def PsS.lf (x : PsS) : Nat → Int := x.1
def PsS.ls (x : PsS) : LrS := x.2
def ln_one (lrn : Int) (h k : Nat) (x : LrS) : LrS := (fm_pt x.le (6 * h + k) (x.le (6 * h + k) + 1), if wr (x.le (6 * h + k) + 1) < lrn then x.sk else fm_pt x.sk h (fm_or (x.sk h) (fm_shl 1 (k : Int))))
theorem ln_1 {lrn : Int} {h k : Nat} {x : LrS} : (ln_one lrn h k x).le = fm_pt x.le (6 * h + k) (x.le (6 * h + k) + 1) := rfl
theorem ln_2 {lrn : Int} {h k : Nat} {x : LrS} : (ln_one lrn h k x).sk = if wr (x.le (6 * h + k) + 1) < lrn then x.sk else fm_pt x.sk h (fm_or (x.sk h) (fm_shl 1 (k : Int))) := rfl
def ln_ord (lrn : Int) (lr sk : Nat → Int) (o b : Nat) : Nat → LrS → LrS
  | 0, x => x
  | s + 1, x => if 0 ≤ lr (12 * o + s) then ln_one lrn (lr (12 * o + s)).toNat (sk (12 * b + s)).toNat (ln_ord lrn lr sk o b s x) else ln_ord lrn lr sk o b s x
def ps (lrn : Int) (bs bi lr sk : Nat → Int) : Nat → PsS → PsS
  | 0, x => x
  | o + 1, x => if (ps lrn bs bi lr sk o x).lf o = 0 then ps lrn bs bi lr sk o x else (fm_pt (ps lrn bs bi lr sk o x).lf o ((ps lrn bs bi lr sk o x).lf o - 1), if (ps lrn bs bi lr sk o x).lf o = 1 then ln_ord lrn lr sk o (bi o).toNat (bs (bi o).toNat).toNat (ps lrn bs bi lr sk o x).ls else (ps lrn bs bi lr sk o x).ls)
theorem ln_ord_congr {lrn : Int} {lr sk sk' : Nat → Int} {o b : Nat} {x : LrS} : ∀ S : Nat, (∀ s, s < S → sk' (12 * b + s) = sk (12 * b + s)) → ln_ord lrn lr sk' o b S x = ln_ord lrn lr sk o b S x
  | 0, _ => rfl
  | S + 1, h => by unfold ln_ord; rw [ln_ord_congr S (fun s hs => h s (by omega)), h S (by omega)]
theorem ps_congr {lrn : Int} {bs bs' bi lr sk sk' : Nat → Int} {x : PsS} : ∀ m : Nat, (∀ o, o < m → bs' (bi o).toNat = bs (bi o).toNat ∧ ∀ s : Nat, (s : Int) < bs (bi o).toNat → sk' (12 * (bi o).toNat + s) = sk (12 * (bi o).toNat + s)) → ps lrn bs' bi lr sk' m x = ps lrn bs bi lr sk m x
  | 0, _ => rfl
  | m + 1, h => by
    unfold ps
    rw [ps_congr m (fun o ho => h o (by omega)), (h m (by omega)).1, ln_ord_congr _ (fun s hs => (h m (by omega)).2 s (by omega))]
theorem ps_lf {lrn : Int} {bs bi lr sk : Nat → Int} {x : PsS} : ∀ m o : Nat, (ps lrn bs bi lr sk m x).lf o = if o < m ∧ x.lf o ≠ 0 then x.lf o - 1 else x.lf o
  | 0, o => by rw [if_neg (by omega)]; rfl
  | m + 1, o => by
    have ih := fun o => ps_lf (lrn := lrn) (bs := bs) (bi := bi) (lr := lr) (sk := sk) (x := x) m o
    unfold ps
    have ihm := ih m
    rw [if_neg (by omega)] at ihm
    rw [ihm]
    split
    · rename_i e
      rw [ih o]
      by_cases e1 : o < m ∧ x.lf o ≠ 0
      · rw [if_pos e1, if_pos ⟨by omega, e1.2⟩]
      · rw [if_neg e1, if_neg]
        rintro ⟨e2, e3⟩
        by_cases e4 : o = m
        · rw [e4] at e3; exact e3 e
        · exact e1 ⟨by omega, e3⟩
    · rename_i e
      show fm_pt _ m (x.lf m - 1) o = _
      rw [fm_pt_ap]
      by_cases e4 : o = m
      · rw [if_pos e4, e4, if_pos ⟨by omega, e⟩]
      · rw [if_neg e4, ih o]
        by_cases e1 : o < m ∧ x.lf o ≠ 0
        · rw [if_pos e1, if_pos ⟨by omega, e1.2⟩]
        · rw [if_neg e1, if_neg (fun e2 => e1 ⟨by omega, e2.2⟩)]
/-- what learning keeps -/
def lk (c : Nat) (x : LrS) : Prop := (∀ j, 6 * c ≤ j → x.le j = 0) ∧ (∀ h, h < c → 0 ≤ x.sk h ∧ x.sk h ≤ 63)
theorem lk_one {c h k : Nat} {lrn : Int} {x : LrS} (hx : lk c x) (hh : h < c) (hk : k < 6) : lk c (ln_one lrn h k x) := by
  refine ⟨fun j hj => ?_, fun g hg => ?_⟩
  · show fm_pt _ _ _ j = 0
    rw [fm_pt_ap, if_neg (by omega)]; exact hx.1 j hj
  · show 0 ≤ (if _ then _ else _ : Nat → Int) g ∧ (if _ then _ else _ : Nat → Int) g ≤ 63
    split
    · exact hx.2 g hg
    · rw [fm_pt_ap]
      split
      · obtain ⟨a, ha⟩ : ∃ a : Nat, x.sk h = a := ⟨(x.sk h).toNat, by have := hx.2 h hh; omega⟩
        have h6 := hx.2 h hh
        obtain ⟨o1, o2⟩ := or_bit (a := a) (k := k) (by omega) hk
        rw [ha, o1]; omega
      · exact hx.2 g hg
theorem lk_ord {c o b : Nat} {lrn : Int} {lr sk : Nat → Int} {x : LrS} (hx : lk c x) : ∀ S : Nat, (∀ s, s < S → lr (12 * o + s) < c ∧ 0 ≤ sk (12 * b + s) ∧ sk (12 * b + s) ≤ 5) → lk c (ln_ord lrn lr sk o b S x)
  | 0, _ => hx
  | S + 1, h => by
    have ih := lk_ord (o := o) (b := b) (lrn := lrn) (lr := lr) (sk := sk) hx S (fun s hs => h s (by omega))
    have := h S (by omega)
    unfold ln_ord
    split
    · exact lk_one ih (by omega) (by omega)
    · exact ih
theorem lk_ps {c : Nat} {lrn : Int} {bs bi lr sk : Nat → Int} {x : PsS} (hx : lk c x.ls) : ∀ m : Nat, (∀ o s : Nat, o < m → (s : Int) < bs (bi o).toNat → lr (12 * o + s) < c ∧ 0 ≤ sk (12 * (bi o).toNat + s) ∧ sk (12 * (bi o).toNat + s) ≤ 5) → lk c (ps lrn bs bi lr sk m x).ls
  | 0, _ => hx
  | m + 1, h => by
    have ih := lk_ps (lrn := lrn) (bs := bs) (bi := bi) (lr := lr) (sk := sk) hx m (fun o s ho => h o s (by omega))
    unfold ps
    split
    · exact ih
    · show lk c (if _ then _ else _)
      split
      · exact lk_ord ih _ (fun s hs => h m s (by omega) (by omega))
      · exact ih
section ENDS
variable {I L : Nat → Nat → Int} {p q n : Nat} {K : Option fm_V → fm_S → Prop}
set_option maxRecDepth 20000 in
set_option maxHeartbeats 4000000 in
/-- the class: dismiss -/
theorem c34 {o b c m S : Nat} {x : LrS} (hp : p = 43 ∧ q = 49 ∨ p = 49 ∧ q = 43) (hc : I 6 0 = c) (hc16 : c ≤ 16) (hm : I 25 0 = m) (hm60 : m ≤ 60) (ho : o < m) (hb : I 26 o = b) (hb7 : (b : Int) < I p 7) (hb8 : b < 8) (hb9 : I p 7 ≤ 8) (hS : I 30 o = S) (hS2 : I (p + 4) b = S) (hS12 : S ≤ 12) (hle : 0 ≤ I p 12 ∧ I p 12 ≤ 100)
    (h1 : ∀ s : Nat, s < S → 0 ≤ I 31 (12 * o + s) ∧ I 31 (12 * o + s) < c ∧ I 15 (I 31 (12 * o + s)).toNat = o ∧ -1 ≤ I 32 (12 * o + s) ∧ I 32 (12 * o + s) < c ∧ (0 ≤ I 32 (12 * o + s) → I 16 (I 32 (12 * o + s)).toNat = o) ∧ 0 ≤ I (p + 5) (12 * b + s) ∧ I (p + 5) (12 * b + s) ≤ 5)
    (h2 : ∀ h : Nat, h < 16 → I 15 h = o → ∃ s : Nat, s < S ∧ I 31 (12 * o + s) = h) (h3 : ∀ h : Nat, h < 16 → I 16 h = o → ∃ s : Nat, s < S ∧ I 32 (12 * o + s) = h) (hx : I 17 = x.le ∧ I 8 = x.sk)
    (hK : ∀ I' : Nat → Nat → Int, (∀ b, b ≠ 15 → b ≠ 16 → b ≠ 17 → b ≠ 8 → I' b = I b) → (∀ h : Nat, h < 16 → I' 15 h = if I 15 h = o then -1 else I 15 h) → (∀ h : Nat, h < 16 → I' 16 h = if I 16 h = o then -1 else I 16 h) → I' 17 = (ln_ord (I p 12) (I 32) (I (p + 5)) o b S x).le → I' 8 = (ln_ord (I p 12) (I 32) (I (p + 5)) o b S x).sk → K none (I', L, fm_refs p q, 96, n)) :
    fm_wp 34 (0, [some (.inr (.inr (some 25))), some (.inl (o : Int)), some (.inr (.inr (some p))), some (.inr (.inr (some 6))), none, none, none], [], (I, L, fm_refs p q, 96, n)) K := by
  have lp : ∀ (s : Nat) (J : Nat → Nat → Int), s ≤ S → ((∀ b, b ≠ 15 → b ≠ 16 → b ≠ 17 → b ≠ 8 → J b = I b) ∧ ((∀ s', s' < s → J 15 (I 31 (12 * o + s')).toNat = -1) ∧ ∀ h, J 15 h = I 15 h ∨ (J 15 h = -1 ∧ I 15 h = o)) ∧ ((∀ s', s' < s → 0 ≤ I 32 (12 * o + s') → J 16 (I 32 (12 * o + s')).toNat = -1) ∧ ∀ h, J 16 h = I 16 h ∨ (J 16 h = -1 ∧ I 16 h = o)) ∧ J 17 = (ln_ord (I p 12) (I 32) (I (p + 5)) o b s x).le ∧ J 8 = (ln_ord (I p 12) (I 32) (I (p + 5)) o b s x).sk) → ∀ l5 l6, fm_wp 34 (3, [some (.inr (.inr (some 25))), some (.inl (o : Int)), some (.inr (.inr (some p))), some (.inr (.inr (some 6))), some (.inl (s : Int)), l5, l6], [], (J, L, fm_refs p q, 96, n)) K := by
    refine wp_for S (fun s J => ∀ l5 l6, fm_wp 34 (3, [some (.inr (.inr (some 25))), some (.inl (o : Int)), some (.inr (.inr (some p))), some (.inr (.inr (some 6))), some (.inl (s : Int)), l5, l6], [], (J, L, fm_refs p q, 96, n)) K) (fun s J => (∀ b, b ≠ 15 → b ≠ 16 → b ≠ 17 → b ≠ 8 → J b = I b) ∧ ((∀ s', s' < s → J 15 (I 31 (12 * o + s')).toNat = -1) ∧ ∀ h, J 15 h = I 15 h ∨ (J 15 h = -1 ∧ I 15 h = o)) ∧ ((∀ s', s' < s → 0 ≤ I 32 (12 * o + s') → J 16 (I 32 (12 * o + s')).toNat = -1) ∧ ∀ h, J 16 h = I 16 h ∨ (J 16 h = -1 ∧ I 16 h = o)) ∧ J 17 = (ln_ord (I p 12) (I 32) (I (p + 5)) o b s x).le ∧ J 8 = (ln_ord (I p 12) (I 32) (I (p + 5)) o b s x).sk) ?_ ?_
    · intro s J hs hP ih l5 l6
      obtain ⟨p1, ⟨p2, p3⟩, ⟨p4, p5⟩, p6, p7⟩ := hP
      have nx := ih
      rw [show ((s + 1 : Nat) : Int) = (s : Int) + 1 by omega, ln_ord] at nx
      obtain ⟨w1, w2, w3, w4, w5, w6, w7, w8⟩ := h1 s hs
      obtain ⟨h, hh⟩ : ∃ h : Nat, I 31 (12 * o + s) = h := ⟨(I 31 (12 * o + s)).toNat, by omega⟩
      obtain ⟨k, hk⟩ : ∃ k : Nat, I (p + 5) (12 * b + s) = k := ⟨(I (p + 5) (12 * b + s)).toNat, by omega⟩
      have e6 : J 6 = I 6 := p1 6 (by decide) (by decide) (by decide) (by decide)
      have e25 : J 25 = I 25 := p1 25 (by decide) (by decide) (by decide) (by decide)
      have e26 : J 26 = I 26 := p1 26 (by decide) (by decide) (by decide) (by decide)
      have e30 : J 30 = I 30 := p1 30 (by decide) (by decide) (by decide) (by decide)
      have e31 : J 31 = I 31 := p1 31 (by decide) (by decide) (by decide) (by decide)
      have e32 : J 32 = I 32 := p1 32 (by decide) (by decide) (by decide) (by decide)
      have ep : J p = I p := by rcases hp with ⟨rfl, _⟩ | ⟨rfl, _⟩ <;> exact p1 _ (by decide) (by decide) (by decide) (by decide)
      have ep4 : J (p + 4) = I (p + 4) := by rcases hp with ⟨rfl, _⟩ | ⟨rfl, _⟩ <;> exact p1 _ (by decide) (by decide) (by decide) (by decide)
      have ep5 : J (p + 5) = I (p + 5) := by rcases hp with ⟨rfl, _⟩ | ⟨rfl, _⟩ <;> exact p1 _ (by decide) (by decide) (by decide) (by decide)
      have x1 : ¬ (S : Int) ≤ s := by omega
      have x6 : (s : Int) < S := by omega
      have x2 : (o : Int) < 60 := by omega
      have x3 : ¬ (s : Int) < 0 := by omega
      have x4 : ¬ (o : Int) < 0 := by omega
      have x5 : ¬ (m : Int) ≤ o := by omega
      have i1 : ((o : Int) * 12 + s).toNat = 12 * o + s := by omega
      have i2 : 0 ≤ (o : Int) * 12 + s := by omega
      have i3 : (o : Int) * 12 + s < 720 := by omega
      have i4 : ((b : Int) * 12 + s).toNat = 12 * b + s := by omega
      have i5 : 0 ≤ (b : Int) * 12 + s := by omega
      have i6 : (b : Int) * 12 + s < 96 := by omega
      have y1 : (h : Int) < c := by omega
      have y2 : (h : Int) < 16 := by omega
      have y3 : ¬ (h : Int) < 0 := by omega
      have y4 : ¬ (c : Int) ≤ h := by omega
      have y5 : ¬ (b : Int) < 0 := by omega
      have y6 : ¬ I p 7 ≤ (b : Int) := by omega
      have y7 : (b : Int) < 8 := by omega
      by_cases z : 0 ≤ I 32 (12 * o + s)
      · obtain ⟨g, hg⟩ : ∃ g : Nat, I 32 (12 * o + s) = g := ⟨(I 32 (12 * o + s)).toNat, by omega⟩
        have v1 : (g : Int) < 16 := by omega
        have v3 : ¬ (g : Int) < 0 := by omega
        have v4 : ¬ (c : Int) ≤ g := by omega
        have v5 : ¬ (k : Int) < 0 := by omega
        have v6 : (k : Int) < 6 := by omega
        have i7 : ((g : Int) * 6 + k).toNat = 6 * g + k := by omega
        have i8 : 0 ≤ (g : Int) * 6 + k := by omega
        have i9 : (g : Int) * 6 + k < 96 := by omega
        rw [if_pos z, hg, hk, Int.toNat_natCast, Int.toNat_natCast] at nx
        rw [hh, Int.toNat_natCast] at w3
        rw [hg] at w6
        have w6 := w6 (by omega)
        rw [Int.toNat_natCast] at w6
        generalize hX : ln_ord (I p 12) (I 32) (I (p + 5)) o b s x = X at *
        have fin : ∀ J' : Nat → Nat → Int, (∀ b, b ≠ 15 → b ≠ 16 → b ≠ 17 → b ≠ 8 → J' b = J b) → J' 15 = fm_pt (J 15) h (-1) → J' 16 = fm_pt (J 16) g (-1) → J' 17 = (ln_one (I p 12) g k X).le → J' 8 = (ln_one (I p 12) g k X).sk → ∀ l5 l6, fm_wp 34 (3, [some (.inr (.inr (some 25))), some (.inl (o : Int)), some (.inr (.inr (some p))), some (.inr (.inr (some 6))), some (.inl ((s : Int) + 1)), l5, l6], [], (J', L, fm_refs p q, 96, n)) K := by
          intro J' f1 f15 f16 f17 f8 l5 l6
          refine nx J' ⟨fun b b1 b2 b3 b4 => by rw [f1 b b1 b2 b3 b4]; exact p1 b b1 b2 b3 b4, ⟨fun s' hs' => ?_, fun h' => ?_⟩, ⟨fun s' hs' z' => ?_, fun h' => ?_⟩, f17, f8⟩ l5 l6
          · rw [f15, fm_pt_ap]
            by_cases e : s' = s
            · rw [if_pos (by rw [e, hh]; rfl)]
            · split
              · rfl
              · exact p2 s' (by omega)
          · rw [f15, fm_pt_ap]
            split
            · rename_i e; right; rw [e]; exact ⟨rfl, w3⟩
            · exact p3 h'
          · rw [f16, fm_pt_ap]
            by_cases e : s' = s
            · rw [if_pos (by rw [e, hg]; rfl)]
            · split
              · rfl
              · exact p4 s' (by omega) z'
          · rw [f16, fm_pt_ap]
            split
            · rename_i e; right; rw [e]; exact ⟨rfl, w6⟩
            · exact p5 h'
        by_cases v7 : wr (X.le (6 * g + k) + 1) < I p 12
        · rcases hp with ⟨rfl, rfl⟩ | ⟨rfl, rfl⟩ <;> simp only [Nat.reduceAdd] at *
          all_goals
            rw [q34_3]
            simp (disch := first | omega | exact Nat.le_of_ble_eq_true rfl) only [q34_0, q34_1, q34_5, q34_6, q34_9, q34_10, q34_11, q34_14, q34_15, q34_16, q34_18, q34_21, q34_23, q34_24, q34_26, q34_29, q34_32, q34_33, q34_36, q34_38, q34_39, q34_40, q34_41, q34_42, q34_44, q34_47, q34_49, q34_50, q34_52, q34_55, q34_58, q34_59, q34_62, q34_64, q34_65, q34_66, q34_67, q34_69, q34_70, q34_71, q34_74, q34_75, q34_76, q34_78, q34_81, q34_82, q34_85, q34_88, q34_91, q34_94, q29_0, q29_1, q29_2, q29_3, q29_6, q29_9, q29_10, q29_13, q29_14, q29_16, q29_17, q29_18, q29_19, q29_20, q29_23, q29_24, q28_0, q28_1, q28_2, q28_5, q28_8, q28_9, q28_12, q28_13, q28_14, q28_17, q28_18, q28_19, q28_22, q28_23, q28_26, q28_27, q27_0, q27_1, q27_4, q27_5, q27_6, q27_9, q27_12, q27_13, q27_16, q27_17, q30_0, q30_1, q30_2, q30_3, q30_6, q30_9, q30_10, q30_13, q30_14, q30_16, q30_17, q30_18, q30_19, q30_20, q30_23, q30_24, q3_0, q3_1, q3_4, q3_5, q3_6, q3_9, q3_12, q3_13, q3_16, q3_17, q43_0, q43_1, q43_2, q43_5, q43_8, q43_9, q43_12, q43_13, q43_14, q43_17, q43_18, q43_19, q43_22, q43_23, q43_24, q43_25, q43_28, q43_29, q43_31, q43_32, q43_33, q43_34, q43_35, q40_0, q40_1, q40_4, q40_5, q40_6, q40_9, q40_12, q40_13, q40_16, q40_17, q10_0, q10_1, q10_2, q10_5, q10_8, q10_9, q10_12, q10_13, q10_15, q10_18, q10_19, q10_20, q10_22, q10_23, q10_24, q10_25, q10_27, q10_28, q10_31, q10_33, q10_34, q10_35, q10_36, q10_37, q10_38, q10_39, q10_42, q10_44, q10_45, q10_46, q10_49, q10_50, q10_53, q10_54, q10_55, q10_56, q10_57, q10_58, q10_59, q10_60, q10_61, ob_0, ob_1, aw_2, ar_2, ob_3, aw_4, ar_4, aw_5, ar_5, ob_6, aw_7, ar_7, aw_8, ar_8, aw_9, ar_9, aw_10, ar_10, aw_11, ar_11, aw_12, ar_12, aw_13, ar_13, aw_14, ar_14, aw_15, ar_15, aw_16, ar_16, aw_17, ar_17, aw_18, ar_18, ob_19, aw_20, ar_20, aw_21, ar_21, aw_22, ar_22, aw_23, ar_23, aw_24, ar_24, ob_25, aw_26, ar_26, aw_27, ar_27, aw_28, ar_28, aw_29, ar_29, aw_30, ar_30, aw_31, ar_31, aw_32, ar_32, ob_33, aw_34, ar_34, aw_35, ar_35, aw_36, ar_36, aw_37, ar_37, aw_38, ar_38, aw_39, ar_39, aw_40, ar_40, aw_41, ar_41, aw_42, ar_42, ob_43, aw_44, ar_44, aw_45, ar_45, aw_46, ar_46, aw_47, ar_47, aw_48, ar_48, ob_49, aw_50, ar_50, aw_51, ar_51, aw_52, ar_52, aw_53, ar_53, aw_54, ar_54, ob_55, aw_56, ar_56, aw_57, ar_57, aw_58, ar_58, aw_59, ar_59, aw_60, ar_60, aw_61, ar_61, aw_62, ar_62, aw_63, ar_63, aw_64, ar_64, aw_65, ar_65, aw_66, ar_66, aw_67, ar_67, aw_68, ar_68, aw_69, ar_69, aw_70, ar_70, aw_71, ar_71, aw_72, ar_72, aw_73, ar_73, aw_74, ar_74, aw_75, ar_75, aw_76, ar_76, aw_77, ar_77, aw_78, ar_78, aw_79, ar_79, aw_80, ar_80, aw_81, ar_81, aw_82, ar_82, aw_83, ar_83, aw_84, ar_84, aw_85, ar_85, aw_86, ar_86, aw_87, ar_87, aw_88, ar_88, aw_89, ar_89, aw_90, ar_90, aw_91, ar_91, aw_92, ar_92, aw_93, ar_93, aw_94, ar_94, aw_95, ar_95, re_0_0, re_0_1, re_0_2, re_0_3, re_0_4, re_0_5, re_0_6, re_0_7, re_1_0, re_3_0, re_3_1, re_3_2, re_6_1, re_6_2, re_6_3, re_6_4, re_6_5, re_6_6, re_6_7, re_6_8, re_6_9, re_6_10, re_6_11, re_6_12, re_19_0, re_19_1, re_19_2, re_19_3, re_19_4, re_25_1, re_25_2, re_25_3, re_25_4, re_25_5, re_25_6, re_25_7, re_33_0, re_33_1, re_33_2, re_33_3, re_33_4, re_33_5, re_33_6, re_33_7, re_33_8, re_43_0, re_43_1, re_43_8, re_43_9, re_43_10, re_49_0, re_49_1, re_49_8, re_49_9, re_49_10, re_55_0, re_55_11, re_55_13, re_55_14, re_55_18, re_55_20, re_55_21, re_55_22, re_55_23, re_55_25, re_55_26, re_55_34, re_55_35, re_55_36, re_55_38, re_55_39, re_55_40, re_55_41, re_55_42, re_55_43, re_55_44, re_55_45, re_55_46, re_55_47, re_55_48, re_55_49, re_55_52, re_55_53, re_55_54, re_55_55, re_55_56, re_55_58, re_55_59, re_55_60, re_55_61, re_55_62, re_55_63, re_55_64, re_55_65, re_55_66, true_and, and_true, true_implies, false_implies, not_true_eq_false, not_false_eq_true, implies_true, and_self, false_and, and_false, or_true, true_or, or_false, false_or, ne_eq, Classical.not_not, inB_eq, inB_by, inB_bo, fm_nl_n, fm_nl_i, fm_nl_r, fm_same_self, Option.toList_some, Option.toList_none, List.cons_append, List.nil_append, Int.toNat_natCast, Int.cast_ofNat_Int, Int.natCast_nonneg, fm_cl_s, fm_pt_s, tn_1, tn_2, tn_3, tn_4, tn_5, wr_id, wl_id, ar_500, fm_cl_ap, fm_pt_ap, ↓reduceIte, lc_lt, lc_le, lc_gt, lc_ge, lc_eq, c92, Nat.reduceEqDiff, one_ne_zero, fm_l2i_id, Int.reduceNeg, eq_self, nrw_0, nrw_1, Int.reduceEq, Int.reduceLT, Int.reduceLE, Int.reduceAdd, Int.reduceSub, Int.reduceMul, Int.reduceToNat, e6, e25, e26, e30, e31, e32, ep, ep4, ep5, hc, hm, hb, hS, hS2, x1, x2, x6, x3, x4, x5, i1, i2, i3, i4, i5, i6, hh, hg, hk, y2, y3, y4, y5, y6, y7, v1, v3, v4, v5, v6, i7, i8, i9, p6, v7]
            refine fin _ (fun b b1 b2 b3 b4 => by simp only [fm_cl_ap, b1, b2, b3, b4, ↓reduceIte]) ?_ ?_ ?_ ?_ _ _
            · simp only [fm_cl_ap, fm_pt_ap, ↓reduceIte, Nat.reduceEqDiff, Nat.reduceAdd]
            · simp only [fm_cl_ap, fm_pt_ap, ↓reduceIte, Nat.reduceEqDiff, Nat.reduceAdd]
            · simp only [fm_cl_ap, fm_pt_ap, ↓reduceIte, Nat.reduceEqDiff, Nat.reduceAdd, ln_1]
            · simp only [fm_cl_ap, fm_pt_ap, ↓reduceIte, Nat.reduceEqDiff, Nat.reduceAdd, ln_2, v7]; exact p7
        · rcases hp with ⟨rfl, rfl⟩ | ⟨rfl, rfl⟩ <;> simp only [Nat.reduceAdd] at *
          all_goals
            rw [q34_3]
            simp (disch := first | omega | exact Nat.le_of_ble_eq_true rfl) only [q34_0, q34_1, q34_5, q34_6, q34_9, q34_10, q34_11, q34_14, q34_15, q34_16, q34_18, q34_21, q34_23, q34_24, q34_26, q34_29, q34_32, q34_33, q34_36, q34_38, q34_39, q34_40, q34_41, q34_42, q34_44, q34_47, q34_49, q34_50, q34_52, q34_55, q34_58, q34_59, q34_62, q34_64, q34_65, q34_66, q34_67, q34_69, q34_70, q34_71, q34_74, q34_75, q34_76, q34_78, q34_81, q34_82, q34_85, q34_88, q34_91, q34_94, q29_0, q29_1, q29_2, q29_3, q29_6, q29_9, q29_10, q29_13, q29_14, q29_16, q29_17, q29_18, q29_19, q29_20, q29_23, q29_24, q28_0, q28_1, q28_2, q28_5, q28_8, q28_9, q28_12, q28_13, q28_14, q28_17, q28_18, q28_19, q28_22, q28_23, q28_26, q28_27, q27_0, q27_1, q27_4, q27_5, q27_6, q27_9, q27_12, q27_13, q27_16, q27_17, q30_0, q30_1, q30_2, q30_3, q30_6, q30_9, q30_10, q30_13, q30_14, q30_16, q30_17, q30_18, q30_19, q30_20, q30_23, q30_24, q3_0, q3_1, q3_4, q3_5, q3_6, q3_9, q3_12, q3_13, q3_16, q3_17, q43_0, q43_1, q43_2, q43_5, q43_8, q43_9, q43_12, q43_13, q43_14, q43_17, q43_18, q43_19, q43_22, q43_23, q43_24, q43_25, q43_28, q43_29, q43_31, q43_32, q43_33, q43_34, q43_35, q40_0, q40_1, q40_4, q40_5, q40_6, q40_9, q40_12, q40_13, q40_16, q40_17, q10_0, q10_1, q10_2, q10_5, q10_8, q10_9, q10_12, q10_13, q10_15, q10_18, q10_19, q10_20, q10_22, q10_23, q10_24, q10_25, q10_27, q10_28, q10_31, q10_33, q10_34, q10_35, q10_36, q10_37, q10_38, q10_39, q10_42, q10_44, q10_45, q10_46, q10_49, q10_50, q10_53, q10_54, q10_55, q10_56, q10_57, q10_58, q10_59, q10_60, q10_61, ob_0, ob_1, aw_2, ar_2, ob_3, aw_4, ar_4, aw_5, ar_5, ob_6, aw_7, ar_7, aw_8, ar_8, aw_9, ar_9, aw_10, ar_10, aw_11, ar_11, aw_12, ar_12, aw_13, ar_13, aw_14, ar_14, aw_15, ar_15, aw_16, ar_16, aw_17, ar_17, aw_18, ar_18, ob_19, aw_20, ar_20, aw_21, ar_21, aw_22, ar_22, aw_23, ar_23, aw_24, ar_24, ob_25, aw_26, ar_26, aw_27, ar_27, aw_28, ar_28, aw_29, ar_29, aw_30, ar_30, aw_31, ar_31, aw_32, ar_32, ob_33, aw_34, ar_34, aw_35, ar_35, aw_36, ar_36, aw_37, ar_37, aw_38, ar_38, aw_39, ar_39, aw_40, ar_40, aw_41, ar_41, aw_42, ar_42, ob_43, aw_44, ar_44, aw_45, ar_45, aw_46, ar_46, aw_47, ar_47, aw_48, ar_48, ob_49, aw_50, ar_50, aw_51, ar_51, aw_52, ar_52, aw_53, ar_53, aw_54, ar_54, ob_55, aw_56, ar_56, aw_57, ar_57, aw_58, ar_58, aw_59, ar_59, aw_60, ar_60, aw_61, ar_61, aw_62, ar_62, aw_63, ar_63, aw_64, ar_64, aw_65, ar_65, aw_66, ar_66, aw_67, ar_67, aw_68, ar_68, aw_69, ar_69, aw_70, ar_70, aw_71, ar_71, aw_72, ar_72, aw_73, ar_73, aw_74, ar_74, aw_75, ar_75, aw_76, ar_76, aw_77, ar_77, aw_78, ar_78, aw_79, ar_79, aw_80, ar_80, aw_81, ar_81, aw_82, ar_82, aw_83, ar_83, aw_84, ar_84, aw_85, ar_85, aw_86, ar_86, aw_87, ar_87, aw_88, ar_88, aw_89, ar_89, aw_90, ar_90, aw_91, ar_91, aw_92, ar_92, aw_93, ar_93, aw_94, ar_94, aw_95, ar_95, re_0_0, re_0_1, re_0_2, re_0_3, re_0_4, re_0_5, re_0_6, re_0_7, re_1_0, re_3_0, re_3_1, re_3_2, re_6_1, re_6_2, re_6_3, re_6_4, re_6_5, re_6_6, re_6_7, re_6_8, re_6_9, re_6_10, re_6_11, re_6_12, re_19_0, re_19_1, re_19_2, re_19_3, re_19_4, re_25_1, re_25_2, re_25_3, re_25_4, re_25_5, re_25_6, re_25_7, re_33_0, re_33_1, re_33_2, re_33_3, re_33_4, re_33_5, re_33_6, re_33_7, re_33_8, re_43_0, re_43_1, re_43_8, re_43_9, re_43_10, re_49_0, re_49_1, re_49_8, re_49_9, re_49_10, re_55_0, re_55_11, re_55_13, re_55_14, re_55_18, re_55_20, re_55_21, re_55_22, re_55_23, re_55_25, re_55_26, re_55_34, re_55_35, re_55_36, re_55_38, re_55_39, re_55_40, re_55_41, re_55_42, re_55_43, re_55_44, re_55_45, re_55_46, re_55_47, re_55_48, re_55_49, re_55_52, re_55_53, re_55_54, re_55_55, re_55_56, re_55_58, re_55_59, re_55_60, re_55_61, re_55_62, re_55_63, re_55_64, re_55_65, re_55_66, true_and, and_true, true_implies, false_implies, not_true_eq_false, not_false_eq_true, implies_true, and_self, false_and, and_false, or_true, true_or, or_false, false_or, ne_eq, Classical.not_not, inB_eq, inB_by, inB_bo, fm_nl_n, fm_nl_i, fm_nl_r, fm_same_self, Option.toList_some, Option.toList_none, List.cons_append, List.nil_append, Int.toNat_natCast, Int.cast_ofNat_Int, Int.natCast_nonneg, fm_cl_s, fm_pt_s, tn_1, tn_2, tn_3, tn_4, tn_5, wr_id, wl_id, ar_500, fm_cl_ap, fm_pt_ap, ↓reduceIte, lc_lt, lc_le, lc_gt, lc_ge, lc_eq, c92, Nat.reduceEqDiff, one_ne_zero, fm_l2i_id, Int.reduceNeg, eq_self, nrw_0, nrw_1, Int.reduceEq, Int.reduceLT, Int.reduceLE, Int.reduceAdd, Int.reduceSub, Int.reduceMul, Int.reduceToNat, e6, e25, e26, e30, e31, e32, ep, ep4, ep5, hc, hm, hb, hS, hS2, x1, x2, x6, x3, x4, x5, i1, i2, i3, i4, i5, i6, hh, hg, hk, y2, y3, y4, y5, y6, y7, v1, v3, v4, v5, v6, i7, i8, i9, p6, p7, v7]
            refine fin _ (fun b b1 b2 b3 b4 => by simp only [fm_cl_ap, b1, b2, b3, b4, ↓reduceIte]) ?_ ?_ ?_ ?_ _ _
            · simp only [fm_cl_ap, fm_pt_ap, ↓reduceIte, Nat.reduceEqDiff, Nat.reduceAdd]
            · simp only [fm_cl_ap, fm_pt_ap, ↓reduceIte, Nat.reduceEqDiff, Nat.reduceAdd]
            · simp only [fm_cl_ap, fm_pt_ap, ↓reduceIte, Nat.reduceEqDiff, Nat.reduceAdd, ln_1]
            · simp only [fm_cl_ap, fm_pt_ap, ↓reduceIte, Nat.reduceEqDiff, Nat.reduceAdd, ln_2, v7]
      · have hg : I 32 (12 * o + s) = -1 := by omega
        rw [if_neg z] at nx
        rw [hh, Int.toNat_natCast] at w3
        have fin : ∀ J' : Nat → Nat → Int, (∀ b, b ≠ 15 → b ≠ 16 → b ≠ 17 → b ≠ 8 → J' b = J b) → J' 15 = fm_pt (J 15) h (-1) → J' 16 = J 16 → J' 17 = J 17 → J' 8 = J 8 → ∀ l5 l6, fm_wp 34 (3, [some (.inr (.inr (some 25))), some (.inl (o : Int)), some (.inr (.inr (some p))), some (.inr (.inr (some 6))), some (.inl ((s : Int) + 1)), l5, l6], [], (J', L, fm_refs p q, 96, n)) K := by
          intro J' f1 f15 f16 f17 f8 l5 l6
          refine nx J' ⟨fun b b1 b2 b3 b4 => by rw [f1 b b1 b2 b3 b4]; exact p1 b b1 b2 b3 b4, ⟨fun s' hs' => ?_, fun h' => ?_⟩, ⟨fun s' hs' z' => ?_, fun h' => ?_⟩, by rw [f17]; exact p6, by rw [f8]; exact p7⟩ l5 l6
          · rw [f15, fm_pt_ap]
            by_cases e : s' = s
            · rw [if_pos (by rw [e, hh]; rfl)]
            · split
              · rfl
              · exact p2 s' (by omega)
          · rw [f15, fm_pt_ap]
            split
            · rename_i e; right; rw [e]; exact ⟨rfl, w3⟩
            · exact p3 h'
          · rw [f16]
            by_cases e : s' = s
            · rw [e] at z'; exact absurd z' z
            · exact p4 s' (by omega) z'
          · rw [f16]; exact p5 h'
        rcases hp with ⟨rfl, rfl⟩ | ⟨rfl, rfl⟩ <;> simp only [Nat.reduceAdd] at *
        all_goals
          rw [q34_3]
          simp (disch := first | omega | exact Nat.le_of_ble_eq_true rfl) only [q34_0, q34_1, q34_5, q34_6, q34_9, q34_10, q34_11, q34_14, q34_15, q34_16, q34_18, q34_21, q34_23, q34_24, q34_26, q34_29, q34_32, q34_33, q34_36, q34_38, q34_39, q34_40, q34_41, q34_42, q34_44, q34_47, q34_49, q34_50, q34_52, q34_55, q34_58, q34_59, q34_62, q34_64, q34_65, q34_66, q34_67, q34_69, q34_70, q34_71, q34_74, q34_75, q34_76, q34_78, q34_81, q34_82, q34_85, q34_88, q34_91, q34_94, q29_0, q29_1, q29_2, q29_3, q29_6, q29_9, q29_10, q29_13, q29_14, q29_16, q29_17, q29_18, q29_19, q29_20, q29_23, q29_24, q28_0, q28_1, q28_2, q28_5, q28_8, q28_9, q28_12, q28_13, q28_14, q28_17, q28_18, q28_19, q28_22, q28_23, q28_26, q28_27, q27_0, q27_1, q27_4, q27_5, q27_6, q27_9, q27_12, q27_13, q27_16, q27_17, q30_0, q30_1, q30_2, q30_3, q30_6, q30_9, q30_10, q30_13, q30_14, q30_16, q30_17, q30_18, q30_19, q30_20, q30_23, q30_24, q3_0, q3_1, q3_4, q3_5, q3_6, q3_9, q3_12, q3_13, q3_16, q3_17, q43_0, q43_1, q43_2, q43_5, q43_8, q43_9, q43_12, q43_13, q43_14, q43_17, q43_18, q43_19, q43_22, q43_23, q43_24, q43_25, q43_28, q43_29, q43_31, q43_32, q43_33, q43_34, q43_35, q40_0, q40_1, q40_4, q40_5, q40_6, q40_9, q40_12, q40_13, q40_16, q40_17, q10_0, q10_1, q10_2, q10_5, q10_8, q10_9, q10_12, q10_13, q10_15, q10_18, q10_19, q10_20, q10_22, q10_23, q10_24, q10_25, q10_27, q10_28, q10_31, q10_33, q10_34, q10_35, q10_36, q10_37, q10_38, q10_39, q10_42, q10_44, q10_45, q10_46, q10_49, q10_50, q10_53, q10_54, q10_55, q10_56, q10_57, q10_58, q10_59, q10_60, q10_61, ob_0, ob_1, aw_2, ar_2, ob_3, aw_4, ar_4, aw_5, ar_5, ob_6, aw_7, ar_7, aw_8, ar_8, aw_9, ar_9, aw_10, ar_10, aw_11, ar_11, aw_12, ar_12, aw_13, ar_13, aw_14, ar_14, aw_15, ar_15, aw_16, ar_16, aw_17, ar_17, aw_18, ar_18, ob_19, aw_20, ar_20, aw_21, ar_21, aw_22, ar_22, aw_23, ar_23, aw_24, ar_24, ob_25, aw_26, ar_26, aw_27, ar_27, aw_28, ar_28, aw_29, ar_29, aw_30, ar_30, aw_31, ar_31, aw_32, ar_32, ob_33, aw_34, ar_34, aw_35, ar_35, aw_36, ar_36, aw_37, ar_37, aw_38, ar_38, aw_39, ar_39, aw_40, ar_40, aw_41, ar_41, aw_42, ar_42, ob_43, aw_44, ar_44, aw_45, ar_45, aw_46, ar_46, aw_47, ar_47, aw_48, ar_48, ob_49, aw_50, ar_50, aw_51, ar_51, aw_52, ar_52, aw_53, ar_53, aw_54, ar_54, ob_55, aw_56, ar_56, aw_57, ar_57, aw_58, ar_58, aw_59, ar_59, aw_60, ar_60, aw_61, ar_61, aw_62, ar_62, aw_63, ar_63, aw_64, ar_64, aw_65, ar_65, aw_66, ar_66, aw_67, ar_67, aw_68, ar_68, aw_69, ar_69, aw_70, ar_70, aw_71, ar_71, aw_72, ar_72, aw_73, ar_73, aw_74, ar_74, aw_75, ar_75, aw_76, ar_76, aw_77, ar_77, aw_78, ar_78, aw_79, ar_79, aw_80, ar_80, aw_81, ar_81, aw_82, ar_82, aw_83, ar_83, aw_84, ar_84, aw_85, ar_85, aw_86, ar_86, aw_87, ar_87, aw_88, ar_88, aw_89, ar_89, aw_90, ar_90, aw_91, ar_91, aw_92, ar_92, aw_93, ar_93, aw_94, ar_94, aw_95, ar_95, re_0_0, re_0_1, re_0_2, re_0_3, re_0_4, re_0_5, re_0_6, re_0_7, re_1_0, re_3_0, re_3_1, re_3_2, re_6_1, re_6_2, re_6_3, re_6_4, re_6_5, re_6_6, re_6_7, re_6_8, re_6_9, re_6_10, re_6_11, re_6_12, re_19_0, re_19_1, re_19_2, re_19_3, re_19_4, re_25_1, re_25_2, re_25_3, re_25_4, re_25_5, re_25_6, re_25_7, re_33_0, re_33_1, re_33_2, re_33_3, re_33_4, re_33_5, re_33_6, re_33_7, re_33_8, re_43_0, re_43_1, re_43_8, re_43_9, re_43_10, re_49_0, re_49_1, re_49_8, re_49_9, re_49_10, re_55_0, re_55_11, re_55_13, re_55_14, re_55_18, re_55_20, re_55_21, re_55_22, re_55_23, re_55_25, re_55_26, re_55_34, re_55_35, re_55_36, re_55_38, re_55_39, re_55_40, re_55_41, re_55_42, re_55_43, re_55_44, re_55_45, re_55_46, re_55_47, re_55_48, re_55_49, re_55_52, re_55_53, re_55_54, re_55_55, re_55_56, re_55_58, re_55_59, re_55_60, re_55_61, re_55_62, re_55_63, re_55_64, re_55_65, re_55_66, true_and, and_true, true_implies, false_implies, not_true_eq_false, not_false_eq_true, implies_true, and_self, false_and, and_false, or_true, true_or, or_false, false_or, ne_eq, Classical.not_not, inB_eq, inB_by, inB_bo, fm_nl_n, fm_nl_i, fm_nl_r, fm_same_self, Option.toList_some, Option.toList_none, List.cons_append, List.nil_append, Int.toNat_natCast, Int.cast_ofNat_Int, Int.natCast_nonneg, fm_cl_s, fm_pt_s, tn_1, tn_2, tn_3, tn_4, tn_5, wr_id, wl_id, ar_500, fm_cl_ap, fm_pt_ap, ↓reduceIte, lc_lt, lc_le, lc_gt, lc_ge, lc_eq, c92, Nat.reduceEqDiff, one_ne_zero, fm_l2i_id, Int.reduceNeg, eq_self, nrw_0, nrw_1, Int.reduceEq, Int.reduceLT, Int.reduceLE, Int.reduceAdd, Int.reduceSub, Int.reduceMul, Int.reduceToNat, e6, e25, e26, e30, e31, e32, ep, ep4, ep5, hc, hm, hb, hS, hS2, x1, x2, x6, x3, x4, x5, i1, i2, i3, hh, hg, hk, y2, y3, y4]
          refine fin _ (fun b b1 b2 b3 b4 => by simp only [fm_cl_ap, b1, b2, b3, b4, ↓reduceIte]) ?_ ?_ ?_ ?_ _ _
          · simp only [fm_cl_ap, fm_pt_ap, ↓reduceIte, Nat.reduceEqDiff, Nat.reduceAdd]
          · simp only [fm_cl_ap, fm_pt_ap, ↓reduceIte, Nat.reduceEqDiff, Nat.reduceAdd]
          · simp only [fm_cl_ap, fm_pt_ap, ↓reduceIte, Nat.reduceEqDiff, Nat.reduceAdd]
          · simp only [fm_cl_ap, fm_pt_ap, ↓reduceIte, Nat.reduceEqDiff, Nat.reduceAdd]
    · intro J hP l5 l6
      obtain ⟨p1, ⟨p2, p3⟩, ⟨p4, p5⟩, p6, p7⟩ := hP
      have e30 : J 30 = I 30 := p1 30 (by decide) (by decide) (by decide) (by decide)
      have x2 : (o : Int) < 60 := by omega
      rw [q34_3]
      simp (disch := first | omega | exact Nat.le_of_ble_eq_true rfl) only [q34_0, q34_1, q34_5, q34_6, q34_9, q34_10, q34_11, q34_14, q34_15, q34_16, q34_18, q34_21, q34_23, q34_24, q34_26, q34_29, q34_32, q34_33, q34_36, q34_38, q34_39, q34_40, q34_41, q34_42, q34_44, q34_47, q34_49, q34_50, q34_52, q34_55, q34_58, q34_59, q34_62, q34_64, q34_65, q34_66, q34_67, q34_69, q34_70, q34_71, q34_74, q34_75, q34_76, q34_78, q34_81, q34_82, q34_85, q34_88, q34_91, q34_94, ob_0, ob_1, aw_2, ar_2, ob_3, aw_4, ar_4, aw_5, ar_5, ob_6, aw_7, ar_7, aw_8, ar_8, aw_9, ar_9, aw_10, ar_10, aw_11, ar_11, aw_12, ar_12, aw_13, ar_13, aw_14, ar_14, aw_15, ar_15, aw_16, ar_16, aw_17, ar_17, aw_18, ar_18, ob_19, aw_20, ar_20, aw_21, ar_21, aw_22, ar_22, aw_23, ar_23, aw_24, ar_24, ob_25, aw_26, ar_26, aw_27, ar_27, aw_28, ar_28, aw_29, ar_29, aw_30, ar_30, aw_31, ar_31, aw_32, ar_32, ob_33, aw_34, ar_34, aw_35, ar_35, aw_36, ar_36, aw_37, ar_37, aw_38, ar_38, aw_39, ar_39, aw_40, ar_40, aw_41, ar_41, aw_42, ar_42, ob_43, aw_44, ar_44, aw_45, ar_45, aw_46, ar_46, aw_47, ar_47, aw_48, ar_48, ob_49, aw_50, ar_50, aw_51, ar_51, aw_52, ar_52, aw_53, ar_53, aw_54, ar_54, ob_55, aw_56, ar_56, aw_57, ar_57, aw_58, ar_58, aw_59, ar_59, aw_60, ar_60, aw_61, ar_61, aw_62, ar_62, aw_63, ar_63, aw_64, ar_64, aw_65, ar_65, aw_66, ar_66, aw_67, ar_67, aw_68, ar_68, aw_69, ar_69, aw_70, ar_70, aw_71, ar_71, aw_72, ar_72, aw_73, ar_73, aw_74, ar_74, aw_75, ar_75, aw_76, ar_76, aw_77, ar_77, aw_78, ar_78, aw_79, ar_79, aw_80, ar_80, aw_81, ar_81, aw_82, ar_82, aw_83, ar_83, aw_84, ar_84, aw_85, ar_85, aw_86, ar_86, aw_87, ar_87, aw_88, ar_88, aw_89, ar_89, aw_90, ar_90, aw_91, ar_91, aw_92, ar_92, aw_93, ar_93, aw_94, ar_94, aw_95, ar_95, re_0_0, re_0_1, re_0_2, re_0_3, re_0_4, re_0_5, re_0_6, re_0_7, re_1_0, re_3_0, re_3_1, re_3_2, re_6_1, re_6_2, re_6_3, re_6_4, re_6_5, re_6_6, re_6_7, re_6_8, re_6_9, re_6_10, re_6_11, re_6_12, re_19_0, re_19_1, re_19_2, re_19_3, re_19_4, re_25_1, re_25_2, re_25_3, re_25_4, re_25_5, re_25_6, re_25_7, re_33_0, re_33_1, re_33_2, re_33_3, re_33_4, re_33_5, re_33_6, re_33_7, re_33_8, re_43_0, re_43_1, re_43_8, re_43_9, re_43_10, re_49_0, re_49_1, re_49_8, re_49_9, re_49_10, re_55_0, re_55_11, re_55_13, re_55_14, re_55_18, re_55_20, re_55_21, re_55_22, re_55_23, re_55_25, re_55_26, re_55_34, re_55_35, re_55_36, re_55_38, re_55_39, re_55_40, re_55_41, re_55_42, re_55_43, re_55_44, re_55_45, re_55_46, re_55_47, re_55_48, re_55_49, re_55_52, re_55_53, re_55_54, re_55_55, re_55_56, re_55_58, re_55_59, re_55_60, re_55_61, re_55_62, re_55_63, re_55_64, re_55_65, re_55_66, true_and, and_true, true_implies, false_implies, not_true_eq_false, not_false_eq_true, implies_true, and_self, false_and, and_false, or_true, true_or, or_false, false_or, ne_eq, Classical.not_not, inB_eq, inB_by, inB_bo, fm_nl_n, fm_nl_i, fm_nl_r, fm_same_self, Option.toList_some, Option.toList_none, List.cons_append, List.nil_append, Int.toNat_natCast, Int.cast_ofNat_Int, Int.natCast_nonneg, fm_cl_s, fm_pt_s, tn_1, tn_2, tn_3, tn_4, tn_5, wr_id, wl_id, ar_500, fm_cl_ap, fm_pt_ap, ↓reduceIte, lc_lt, lc_le, lc_gt, lc_ge, lc_eq, c92, Nat.reduceEqDiff, one_ne_zero, fm_l2i_id, Int.reduceNeg, eq_self, nrw_0, nrw_1, Int.reduceEq, Int.reduceLT, Int.reduceLE, Int.reduceAdd, Int.reduceSub, Int.reduceMul, Int.reduceToNat, e30, hS, x2, Int.le_refl]
      refine hK J p1 (fun h hh => ?_) (fun h hh => ?_) p6 p7
      · by_cases e : I 15 h = o
        · obtain ⟨s, s1, s2⟩ := h2 h hh e
          have := p2 s s1
          rw [s2, Int.toNat_natCast] at this
          rw [if_pos e, this]
        · rw [if_neg e]
          rcases p3 h with e1 | e1
          · exact e1
          · exact absurd e1.2 e
      · by_cases e : I 16 h = o
        · obtain ⟨s, s1, s2⟩ := h3 h hh e
          have := p4 s s1 (by omega)
          rw [s2, Int.toNat_natCast] at this
          rw [if_pos e, this]
        · rw [if_neg e]
          rcases p5 h with e1 | e1
          · exact e1
          · exact absurd e1.2 e
  have st := lp 0 I (by omega) ⟨fun _ _ _ _ _ => rfl, ⟨fun s' hs' => absurd hs' (by omega), fun _ => Or.inl rfl⟩, ⟨fun s' hs' => absurd hs' (by omega), fun _ => Or.inl rfl⟩, hx.1, hx.2⟩ none none
  simp (disch := first | omega | exact Nat.le_of_ble_eq_true rfl) only [q34_0, q34_1, q34_5, q34_6, q34_9, q34_10, q34_11, q34_14, q34_15, q34_16, q34_18, q34_21, q34_23, q34_24, q34_26, q34_29, q34_32, q34_33, q34_36, q34_38, q34_39, q34_40, q34_41, q34_42, q34_44, q34_47, q34_49, q34_50, q34_52, q34_55, q34_58, q34_59, q34_62, q34_64, q34_65, q34_66, q34_67, q34_69, q34_70, q34_71, q34_74, q34_75, q34_76, q34_78, q34_81, q34_82, q34_85, q34_88, q34_91, q34_94, ob_0, ob_1, aw_2, ar_2, ob_3, aw_4, ar_4, aw_5, ar_5, ob_6, aw_7, ar_7, aw_8, ar_8, aw_9, ar_9, aw_10, ar_10, aw_11, ar_11, aw_12, ar_12, aw_13, ar_13, aw_14, ar_14, aw_15, ar_15, aw_16, ar_16, aw_17, ar_17, aw_18, ar_18, ob_19, aw_20, ar_20, aw_21, ar_21, aw_22, ar_22, aw_23, ar_23, aw_24, ar_24, ob_25, aw_26, ar_26, aw_27, ar_27, aw_28, ar_28, aw_29, ar_29, aw_30, ar_30, aw_31, ar_31, aw_32, ar_32, ob_33, aw_34, ar_34, aw_35, ar_35, aw_36, ar_36, aw_37, ar_37, aw_38, ar_38, aw_39, ar_39, aw_40, ar_40, aw_41, ar_41, aw_42, ar_42, ob_43, aw_44, ar_44, aw_45, ar_45, aw_46, ar_46, aw_47, ar_47, aw_48, ar_48, ob_49, aw_50, ar_50, aw_51, ar_51, aw_52, ar_52, aw_53, ar_53, aw_54, ar_54, ob_55, aw_56, ar_56, aw_57, ar_57, aw_58, ar_58, aw_59, ar_59, aw_60, ar_60, aw_61, ar_61, aw_62, ar_62, aw_63, ar_63, aw_64, ar_64, aw_65, ar_65, aw_66, ar_66, aw_67, ar_67, aw_68, ar_68, aw_69, ar_69, aw_70, ar_70, aw_71, ar_71, aw_72, ar_72, aw_73, ar_73, aw_74, ar_74, aw_75, ar_75, aw_76, ar_76, aw_77, ar_77, aw_78, ar_78, aw_79, ar_79, aw_80, ar_80, aw_81, ar_81, aw_82, ar_82, aw_83, ar_83, aw_84, ar_84, aw_85, ar_85, aw_86, ar_86, aw_87, ar_87, aw_88, ar_88, aw_89, ar_89, aw_90, ar_90, aw_91, ar_91, aw_92, ar_92, aw_93, ar_93, aw_94, ar_94, aw_95, ar_95, re_0_0, re_0_1, re_0_2, re_0_3, re_0_4, re_0_5, re_0_6, re_0_7, re_1_0, re_3_0, re_3_1, re_3_2, re_6_1, re_6_2, re_6_3, re_6_4, re_6_5, re_6_6, re_6_7, re_6_8, re_6_9, re_6_10, re_6_11, re_6_12, re_19_0, re_19_1, re_19_2, re_19_3, re_19_4, re_25_1, re_25_2, re_25_3, re_25_4, re_25_5, re_25_6, re_25_7, re_33_0, re_33_1, re_33_2, re_33_3, re_33_4, re_33_5, re_33_6, re_33_7, re_33_8, re_43_0, re_43_1, re_43_8, re_43_9, re_43_10, re_49_0, re_49_1, re_49_8, re_49_9, re_49_10, re_55_0, re_55_11, re_55_13, re_55_14, re_55_18, re_55_20, re_55_21, re_55_22, re_55_23, re_55_25, re_55_26, re_55_34, re_55_35, re_55_36, re_55_38, re_55_39, re_55_40, re_55_41, re_55_42, re_55_43, re_55_44, re_55_45, re_55_46, re_55_47, re_55_48, re_55_49, re_55_52, re_55_53, re_55_54, re_55_55, re_55_56, re_55_58, re_55_59, re_55_60, re_55_61, re_55_62, re_55_63, re_55_64, re_55_65, re_55_66, true_and, and_true, true_implies, false_implies, not_true_eq_false, not_false_eq_true, implies_true, and_self, false_and, and_false, or_true, true_or, or_false, false_or, ne_eq, Classical.not_not, inB_eq, inB_by, inB_bo, fm_nl_n, fm_nl_i, fm_nl_r, fm_same_self, Option.toList_some, Option.toList_none, List.cons_append, List.nil_append, Int.toNat_natCast, Int.cast_ofNat_Int, Int.natCast_nonneg, fm_cl_s, fm_pt_s, tn_1, tn_2, tn_3, tn_4, tn_5, wr_id, wl_id, ar_500, fm_cl_ap, fm_pt_ap, ↓reduceIte, lc_lt, lc_le, lc_gt, lc_ge, lc_eq, c92, Nat.reduceEqDiff, one_ne_zero, fm_l2i_id, Int.reduceNeg, eq_self, nrw_0, nrw_1, Int.reduceEq, Int.reduceLT, Int.reduceLE, Int.reduceAdd, Int.reduceSub, Int.reduceMul, Int.reduceToNat]
  exact st
end ENDS
