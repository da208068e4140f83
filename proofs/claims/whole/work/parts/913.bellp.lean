/-! ===== one bell, as numbers ===== -/
theorem free_congr {wk wk' : Nat → Nat → Bool} {h a : Nat} : ∀ k : Nat, (∀ t, t < a + k → wk' h t = wk h t) → iv_free wk' h a k = iv_free wk h a k
  | 0, _ => rfl
  | k + 1, hh => by unfold iv_free; rw [free_congr k (fun t ht => hh t (by omega)), hh (a + k) (by omega)]
theorem runl_congr {wk wk' : Nat → Nat → Bool} {h : Nat} : ∀ k : Nat, (∀ t, t < k → wk' h t = wk h t) → iv_runl wk' h k = iv_runl wk h k
  | 0, _ => rfl
  | k + 1, hh => by unfold iv_runl; rw [runl_congr k (fun t ht => hh t (by omega)), hh k (by omega)]
theorem last_congr {wk wk' : Nat → Nat → Bool} {s : Int} {h : Nat} : ∀ k : Nat, (∀ t, t < k → wk' h t = wk h t) → iv_last wk' s h k = iv_last wk s h k
  | 0, _ => rfl
  | k + 1, hh => by unfold iv_last; rw [last_congr k (fun t ht => hh t (by omega)), runl_congr (k + 1) hh]
theorem sto_congr {og og' : Nat → Nat → Int} {h : Nat} : ∀ k : Nat, (∀ t, t < k → og' h t = og h t) → iv_sto og' h k = iv_sto og h k ∧ iv_stb og' h k = iv_stb og h k
  | 0, _ => ⟨rfl, rfl⟩
  | k + 1, hh => by
    have ih := sto_congr (og := og) (og' := og') (h := h) k (fun t ht => hh t (by omega))
    unfold iv_sto iv_stb
    rw [ih.1, ih.2, hh k (by omega)]
    exact ⟨rfl, rfl⟩
theorem free_shift {wk : Nat → Nat → Bool} {h a : Nat} : ∀ k : Nat, iv_free wk h a (k + 1) = iv_free wk h (a + 1) k + (if wk h a then 0 else 1)
  | 0 => by simp [iv_free]
  | k + 1 => by
    have ih := free_shift (wk := wk) (h := h) (a := a) k
    rw [iv_free, ih, iv_free, show a + (k + 1) = a + 1 + k by omega]
    omega
theorem last_in {wk : Nat → Nat → Bool} {s : Int} {h : Nat} : ∀ k : Nat, -1 ≤ iv_last wk s h k ∧ iv_last wk s h k < k
  | 0 => by simp [iv_last]
  | k + 1 => by
    have := last_in (wk := wk) (s := s) (h := h) k
    unfold iv_last
    split <;> omega
/-- what was done, with bell be behind it -/
def wkn (wk : Nat → Nat → Bool) (pl : Nat → Int) (be : Nat) : Nat → Nat → Bool := fun h t => if t = be then decide (pl h ≠ 0) else wk h t
def ogn (og : Nat → Nat → Int) (pl cs : Nat → Int) (be : Nat) : Nat → Nat → Int := fun h t => if t = be then (if pl h / 4 % 2 = 1 then cs h else -1) else og h t
/-- what a bell's note makes of the rests -/
theorem note_eq {c be : Nat} {rd rs m : Int} {wk : Nat → Nat → Bool} {og : Nat → Nat → Int} {wb fb fr rb so sb pl cs : Nat → Int} (hrd : 1 ≤ rd ∧ rd ≤ 96)
    (r1 : ∀ h t : Nat, (h : Int) < c → (t : Int) < be → (be : Int) ≤ (t : Int) + 96 → (wb (t % 96)).toNat.testBit h = wk h t)
    (r4 : ∀ h : Nat, h < 16 → (h : Int) < c → fb h = iv_free wk h ((be : Int) - rd).toNat ((be : Int).toNat - ((be : Int) - rd).toNat) ∧ fr h = iv_runl wk h (be : Int).toNat ∧ rb h = iv_last wk rs h (be : Int).toNat ∧ so h = iv_sto og h (be : Int).toNat ∧ sb h = iv_stb og h (be : Int).toNat)
    (hcs : ∀ h : Nat, h < c → pl h / 4 % 2 = 1 → 0 ≤ cs h ∧ cs h < m) (h : Nat) (hh : h < c) (h16 : h < 16) :
    nb_fb fb pl (nb_lv wb be rd) h = iv_free (wkn wk pl be) h ((be : Int) + 1 - rd).toNat (be + 1 - ((be : Int) + 1 - rd).toNat) ∧ nb_fr fr pl h = iv_runl (wkn wk pl be) h (be + 1) ∧ nb_rb rb (nb_fr fr pl) rs be h = iv_last (wkn wk pl be) rs h (be + 1) ∧ nb_so so pl cs h = iv_sto (ogn og pl cs be) h (be + 1) ∧ nb_sb sb pl be h = iv_stb (ogn og pl cs be) h (be + 1) := by
  obtain ⟨g1, g2, g3, g4, g5⟩ := r4 h h16 (by omega)
  rw [Int.toNat_natCast] at g1 g2 g3 g4 g5
  have wkc : ∀ t, t < be → wkn wk pl be h t = wk h t := fun t ht => by unfold wkn; rw [if_neg (by omega)]
  have ogc : ∀ t, t < be → ogn og pl cs be h t = og h t := fun t ht => by unfold ogn; rw [if_neg (by omega)]
  have wkb : wkn wk pl be h be = decide (pl h ≠ 0) := by unfold wkn; rw [if_pos rfl]
  have ogb : ogn og pl cs be h be = if pl h / 4 % 2 = 1 then cs h else -1 := by unfold ogn; rw [if_pos rfl]
  have fre : nb_fr fr pl h = iv_runl (wkn wk pl be) h (be + 1) := by
    rw [iv_runl, wkb, runl_congr be wkc, ← g2]
    unfold nb_fr
    by_cases e : pl h = 0
    · simp [e]
    · simp [e]
  refine ⟨?_, fre, ?_, ?_, ?_⟩
  · by_cases e : (be : Int) - rd < 0
    · have e1 : ((be : Int) + 1 - rd).toNat = 0 := by omega
      have e2 : ((be : Int) - rd).toNat = 0 := by omega
      rw [e1, Nat.sub_zero, iv_free, free_congr be (fun t ht => wkc t (by omega)), Nat.zero_add, wkb]
      rw [e2, Nat.sub_zero] at g1
      rw [← g1]
      unfold nb_fb nb_lv
      rw [if_pos e]
      by_cases e3 : pl h = 0
      · simp [e3]
      · simp [e3]
    · obtain ⟨a, ha⟩ : ∃ a : Nat, (be : Int) - rd = a := ⟨((be : Int) - rd).toNat, by omega⟩
      obtain ⟨d, hd⟩ : ∃ d : Nat, rd = d := ⟨rd.toNat, by omega⟩
      have e1 : ((be : Int) + 1 - rd).toNat = a + 1 := by omega
      have e2 : ((be : Int) - rd).toNat = a := by omega
      have e3 : be + 1 - (a + 1) = d := by omega
      have e4 : be - a = d := by omega
      rw [e1, e3]
      rw [e2, e4] at g1
      have sh := free_shift (wk := wkn wk pl be) (h := h) (a := a) d
      rw [iv_free, show a + d = be by omega, wkb, free_congr d (fun t ht => wkc t (by omega)), ← g1, wkc a (by omega)] at sh
      have bit := r1 h a (by omega) (by omega) (by omega)
      unfold nb_fb nb_lv
      rw [if_neg e, ha, show ((a : Int) % 96).toNat = a % 96 by omega, bit]
      by_cases e5 : pl h = 0
      · rw [if_pos e5]
        simp only [e5, ne_eq, not_true_eq_false, decide_false, Bool.false_eq_true, ↓reduceIte] at sh
        omega
      · rw [if_neg e5]
        simp only [e5, ne_eq, not_false_eq_true, decide_true, ↓reduceIte] at sh
        omega
  · rw [iv_last, ← fre, last_congr be wkc, ← g3]; rfl
  · rw [iv_sto, ogb, (sto_congr be ogc).1, ← g4]
    unfold nb_so
    by_cases e : pl h / 4 % 2 = 1
    · have := hcs h hh e
      rw [if_pos e, if_pos e, if_pos this.1]
    · rw [if_neg e, if_neg e, if_neg (by omega)]
  · rw [iv_stb, ogb, (sto_congr be ogc).2, ← g5]
    unfold nb_sb
    by_cases e : pl h / 4 % 2 = 1
    · have := hcs h hh e
      rw [if_pos e, if_pos e, if_pos this.1]
    · rw [if_neg e, if_neg e, if_neg (by omega)]
/-- what galley keeps -/
theorem gal_keep {si : Nat → Int} {c : Nat} : ∀ (d : Nat) (ga tu : Nat → Int), (∀ h, ga h = 0 ∨ ga h = 1) → (∀ h, (iv_gal si c d ga tu).1 h = 0 ∨ (iv_gal si c d ga tu).1 h = 1) ∧ (∀ h : Nat, c ≤ h → (iv_gal si c d ga tu).1 h = ga h ∧ (iv_gal si c d ga tu).2 h = tu h)
  | 0, ga, tu, hg => ⟨hg, fun _ _ => ⟨rfl, rfl⟩⟩
  | d + 1, ga, tu, hg => by
    unfold iv_gal
    have pin := iv_pick_in (ok := gal_ok si ga) (key := fun h => wr (tu h)) c
    have pin : -1 ≤ gal_pick si c ga tu ∧ gal_pick si c ga tu < c ∧ _ := pin
    generalize gal_pick si c ga tu = g at pin ⊢
    split
    · exact ⟨hg, fun _ _ => ⟨rfl, rfl⟩⟩
    · rename_i e
      have ih := gal_keep (si := si) (c := c) d (fm_pt ga g.toNat 1) (fm_pt tu g.toNat (tu g.toNat + 1)) (fun h => by
        rw [fm_pt_ap]
        split
        · right; rfl
        · exact hg h)
      refine ⟨ih.1, fun h hh => ?_⟩
      rw [(ih.2 h hh).1, (ih.2 h hh).2, fm_pt_ap, fm_pt_ap, if_neg (by omega), if_neg (by omega)]
      exact ⟨rfl, rfl⟩
/-- galley, places, filling of a bell -/
def sb_now (I : Nat → Nat → Int) (p be : Nat) : Int := iv_wat (I (p + 1)) (I (p + 2)) (I p 2).toNat 0 ((be : Int) % iv_sum (I (p + 2)) (I p 2).toNat)
def sb_gt (I : Nat → Nat → Int) (p c be : Nat) : (Nat → Int) × (Nat → Int) := if be % 48 = 0 then iv_gal (I 9) c (I p 11).toNat (fl 16 0 (I 18)) (I 10) else (I 18, I 10)
def sb_p0 (I : Nat → Nat → Int) (p c be : Nat) : Nat → Int := up c (bl_pl (I 9) (I 7) (I 15) (sb_gt I p c be).1 (sb_now I p be) (if be % 48 < 8 then 1 else 0)) (I 14)
def sb_pf (I : Nat → Nat → Int) (p c be : Nat) : (Nat → Int) × (Nat → Int) := iv_fil (I 9) c (I p 13 - bl_on (sb_p0 I p c be) c).toNat (sb_p0 I p c be) (I 11)
/-- orders, and what is learned -/
def sb_ps (I : Nat → Nat → Int) (p m : Nat) : PsS := ps (I p 12) (I (p + 4)) (I 26) (I 32) (I (p + 5)) m (I 27, I 17, I 8)
def sb_fb (I : Nat → Nat → Int) (p c be : Nat) : Nat → Int := up c (nb_fb (I 35) (sb_pf I p c be).1 (nb_lv (I 34) be (I p 4))) (I 35)
def sb_rb (I : Nat → Nat → Int) (p c be : Nat) : Nat → Int := up c (nb_rb (I 37) (nb_fr (I 36) (sb_pf I p c be).1) (I p 6) be) (I 37)
def sb_so (I : Nat → Nat → Int) (p c be : Nat) : Nat → Int := up c (nb_so (I 38) (sb_pf I p c be).1 (I 15)) (I 38)
def sb_sb (I : Nat → Nat → Int) (p c be : Nat) : Nat → Int := up c (nb_sb (I 39) (sb_pf I p c be).1 be) (I 39)
/-- breaches -/
def sb_y (I : Nat → Nat → Int) (p c be : Nat) : BF := if (be : Int) + 1 - I p 4 < 0 then (I 12, I 33 9, I 40, I 41, I 42) else bf be (bc_bad (sb_fb I p c be) (sb_rb I p c be) (I p 5) (I p 6) (be + 1 - I p 4)) (bc_ca (sb_sb I p c be) (sb_so I p c be) (be + 1 - I p 4)) c (I 12, I 33 9, I 40, I 41, I 42)
/-- the class's cells behind a bell -/
def CR (I : Nat → Nat → Int) (p c be m : Nat) (J : Nat → Nat → Int) : Prop :=
  (J 18 = (sb_gt I p c be).1 ∧ J 10 = (sb_gt I p c be).2 ∧ J 14 = (sb_pf I p c be).1 ∧ J 11 = (sb_pf I p c be).2 ∧ J 13 = up c (bl_wo (sb_pf I p c be).1 (I 13)) (I 13) ∧ J 9 = up c (bl_si (I 9)) (I 9)) ∧
  (J 34 = fm_pt (I 34) (be % 96) (nb_wk (sb_pf I p c be).1 c : Nat) ∧ J 35 = sb_fb I p c be ∧ J 36 = up c (nb_fr (I 36) (sb_pf I p c be).1) (I 36) ∧ J 37 = sb_rb I p c be ∧ J 38 = sb_so I p c be ∧ J 39 = sb_sb I p c be) ∧
  ((∀ h : Nat, h < 16 → J 15 h = ds m (I 27) (I 15) h) ∧ (∀ h : Nat, h < 16 → J 16 h = ds m (I 27) (I 16) h) ∧ J 27 = (sb_ps I p m).lf ∧ J 17 = (sb_ps I p m).ls.le ∧ J 8 = (sb_ps I p m).ls.sk) ∧
  bfc J (sb_y I p c be) ∧ J 0 = fm_pt (I 0) 8 ((be : Int) + 1) ∧
  ∀ b, b < 55 → b ≠ 18 → b ≠ 10 → b ≠ 14 → b ≠ 11 → b ≠ 13 → b ≠ 9 → b ≠ 34 → b ≠ 35 → b ≠ 36 → b ≠ 37 → b ≠ 38 → b ≠ 39 → b ≠ 15 → b ≠ 16 → b ≠ 27 → b ≠ 17 → b ≠ 8 → b ≠ 12 → b ≠ 33 → b ≠ 40 → b ≠ 41 → b ≠ 42 → b ≠ 0 → J b = I b
/-- the reference's cells behind a bell -/
def RR (I : Nat → Nat → Int) (p c be m : Nat) (M : Nat → Nat → Int) : Prop :=
  (M 79 = (sb_gt I p c be).1 ∧ M 73 = (sb_gt I p c be).2 ∧ M 77 = (sb_pf I p c be).1 ∧ M 74 = (sb_pf I p c be).2 ∧ M 76 = up c (bl_wo (sb_pf I p c be).1 (I 13)) (I 13) ∧ M 72 = up c (bl_si (I 9)) (I 9)) ∧
  ((∀ h : Nat, h < c → M 80 (96 * h + be % 96) = (if (sb_pf I p c be).1 h = 0 then 0 else 1) ∧ M 81 (96 * h + be % 96) = (if (sb_pf I p c be).1 h / 4 % 2 = 1 then I 15 h else -1)) ∧ ∀ j : Nat, j % 96 ≠ be % 96 → M 80 j = I 80 j ∧ M 81 j = I 81 j) ∧
  (M 83 = (sb_ps I p m).lf ∧ M 78 = (sb_ps I p m).ls.le ∧ M 71 = (sb_ps I p m).ls.sk) ∧
  bfr M (sb_y I p c be) ∧ (M 55 50 = (be : Int) + 1 ∧ ∀ j, j ≠ 57 → j ≠ 50 → M 55 j = I 55 j) ∧
  ∀ b, 55 < b → b < 96 → b ≠ 79 → b ≠ 73 → b ≠ 77 → b ≠ 74 → b ≠ 76 → b ≠ 72 → b ≠ 80 → b ≠ 81 → b ≠ 83 → b ≠ 78 → b ≠ 71 → b ≠ 75 → b ≠ 87 → b ≠ 88 → b ≠ 89 → M b = I b
theorem p0_in {I : Nat → Nat → Int} {p c be : Nat} (h14 : ∀ h, 0 ≤ I 14 h ∧ I 14 h ≤ 15) : ∀ h, 0 ≤ sb_p0 I p c be h ∧ sb_p0 I p c be h ≤ 15 := by
  intro h
  unfold sb_p0
  by_cases e : h < c
  · rw [up_lt e]
    unfold bl_pl
    split
    · generalize (if be % 48 < 8 then (1 : Int) else 0) = gw
      split <;> split <;> split <;> omega
    · omega
  · rw [up_ge (by omega)]; exact h14 h
/-- at a station, by the places -/
theorem pf_st {I : Nat → Nat → Int} {p c be : Nat} (h14 : ∀ h, 0 ≤ I 14 h ∧ I 14 h ≤ 15) : ∀ h : Nat, h < c → ((sb_pf I p c be).1 h / 4 % 2 = 1 ↔ I 9 h = 0 ∧ I 15 h ≠ -1) ∧ (sb_p0 I p c be h / 4 % 2 = 1 ↔ I 9 h = 0 ∧ I 15 h ≠ -1) := by
  intro h hh
  have k := iv_fil_keep (si := I 9) (c := c) (I p 13 - bl_on (sb_p0 I p c be) c).toNat (sb_p0 I p c be) (I 11) (p0_in h14)
  have e1 : (sb_pf I p c be).1 h / 4 = sb_p0 I p c be h / 4 := k.2.2.1 h
  have key : sb_p0 I p c be h / 4 % 2 = 1 ↔ I 9 h = 0 ∧ I 15 h ≠ -1 := by
    unfold sb_p0
    rw [up_lt hh]
    unfold bl_pl
    generalize (if be % 48 < 8 then (1 : Int) else 0) = gw
    by_cases z1 : I 9 h = 0
    · rw [if_pos z1]
      by_cases z2 : I 15 h = -1
      · rw [if_pos z2]; split <;> split <;> omega
      · rw [if_neg z2]; split <;> split <;> omega
    · rw [if_neg z1]; omega
  rw [e1]
  exact ⟨key, key⟩
theorem pf_in {I : Nat → Nat → Int} {p c be : Nat} (h14 : ∀ h, 0 ≤ I 14 h ∧ I 14 h ≤ 15) : ∀ h, 0 ≤ (sb_pf I p c be).1 h ∧ (sb_pf I p c be).1 h ≤ 15 :=
  (iv_fil_keep (si := I 9) (c := c) (I p 13 - bl_on (sb_p0 I p c be) c).toNat (sb_p0 I p c be) (I 11) (p0_in h14)).1
theorem gt_in {I : Nat → Nat → Int} {p c be : Nat} (h18 : ∀ h, I 18 h = 0 ∨ I 18 h = 1) : (∀ h, (sb_gt I p c be).1 h = 0 ∨ (sb_gt I p c be).1 h = 1) ∧ ∀ h : Nat, c ≤ h → I 18 h = 0 → (sb_gt I p c be).1 h = 0 ∧ (sb_gt I p c be).2 h = I 10 h := by
  unfold sb_gt
  split
  · have k := gal_keep (si := I 9) (c := c) (I p 11).toNat (fl 16 0 (I 18)) (I 10) (fun h => by
      unfold fl
      split
      · left; rfl
      · exact h18 h)
    refine ⟨k.1, fun h hh e => ?_⟩
    rw [(k.2 h hh).1, (k.2 h hh).2]
    refine ⟨?_, rfl⟩
    unfold fl
    split
    · rfl
    · exact e
  · exact ⟨h18, fun h _ e => ⟨e, rfl⟩⟩
