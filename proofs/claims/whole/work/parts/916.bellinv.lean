/-! ===== a bell keeps what holds ===== -/
def mg (J M I : Nat → Nat → Int) : Nat → Nat → Int := fun b => if b < 55 then J b else if b < 96 then M b else I b
theorem mg_lo {J M I : Nat → Nat → Int} {b : Nat} (h : b < 55) : mg J M I b = J b := by unfold mg; rw [if_pos h]
theorem mg_hi {J M I : Nat → Nat → Int} {b : Nat} (h : 55 ≤ b) (h2 : b < 96) : mg J M I b = M b := by unfold mg; rw [if_neg (by omega), if_pos h2]
theorem mg_out {J M I : Nat → Nat → Int} {b : Nat} (h : 96 ≤ b) : mg J M I b = I b := by unfold mg; rw [if_neg (by omega), if_neg (by omega)]
section BELLINV
variable {I J M L : Nat → Nat → Int} {p q : Nat}
theorem ord_bell {c m : Nat} {nb : Int} {bs bi le le' nl st ha lr so lo so' lo' : Nat → Int} (h : iv_ord m c nb bs bi le nl st ha lr so lo) (hle : ∀ o, le' o = if o < m ∧ le o ≠ 0 then le o - 1 else le o) (hso : ∀ h : Nat, h < 16 → so' h = ds m le so h) (hlo : ∀ h : Nat, h < 16 → lo' h = ds m le lo h) (hc : c ≤ 16) : iv_ord m c nb bs bi le' nl st ha lr so' lo' := by
  obtain ⟨m0, m60, o1, o2, o3⟩ := h
  refine ⟨m0, m60, fun o ho => ?_, fun o s ho hl hs => ?_, fun h hh => ?_⟩
  · obtain ⟨a1, a2, a3, a4, a5, a6, a7⟩ := o1 o ho
    rw [hle]
    refine ⟨a1, a2, a3, ?_, ?_, a6, a7⟩ <;> split <;> omega
  · obtain ⟨-, -, -, a4, -, -, a7⟩ := o1 o ho
    have a7 := a7 s hs
    rw [hle] at hl
    have hl2 : 1 < le o := by split at hl <;> omega
    obtain ⟨b1, b2⟩ := o2 o s ho (by omega) hs
    refine ⟨?_, fun z => ?_⟩
    · rw [hso _ (by omega)]
      unfold ds
      rw [b1, if_neg (by rw [Int.toNat_natCast]; omega)]
    · have b2 := b2 z
      rw [hlo _ (by omega)]
      unfold ds
      rw [b2, if_neg (by rw [Int.toNat_natCast]; omega)]
  · refine ⟨?_, ?_⟩
    · rw [hso h hh]
      rcases (o3 h hh).1 with e | ⟨o, s, t1, t2, t3, t4, t5⟩
      · left; unfold ds; rw [if_neg (by omega)]; exact e
      · unfold ds
        rw [t1, Int.toNat_natCast]
        by_cases e : le o = 1
        · left; rw [if_pos ⟨by omega, t2, e⟩]
        · right
          rw [if_neg (fun q => e q.2.2)]
          exact ⟨o, s, rfl, t2, by rw [hle, if_pos ⟨by omega, by omega⟩]; omega, t4, t5⟩
    · rw [hlo h hh]
      rcases (o3 h hh).2 with e | ⟨o, s, t1, t2, t3, t4, t5⟩
      · left; unfold ds; rw [if_neg (by omega)]; exact e
      · unfold ds
        rw [t1, Int.toNat_natCast]
        by_cases e : le o = 1
        · left; rw [if_pos ⟨by omega, t2, e⟩]
        · right
          rw [if_neg (fun q => e q.2.2)]
          exact ⟨o, s, rfl, t2, by rw [hle, if_pos ⟨by omega, by omega⟩]; omega, t4, t5⟩
theorem y_in {c be : Nat} : (sb_y I p c be).n ≤ I 33 9 + c ∧ I 33 9 ≤ (sb_y I p c be).n ∧ ∀ h : Nat, c ≤ h → (sb_y I p c be).br h = I 12 h := by
  unfold sb_y
  split
  · refine ⟨?_, ?_, fun _ _ => rfl⟩
    · show I 33 9 ≤ _; omega
    · show _ ≤ I 33 9; omega
  · have := bf_n (be := be) (bad := bc_bad (sb_fb I p c be) (sb_rb I p c be) (I p 5) (I p 6) (be + 1 - I p 4)) (ca := bc_ca (sb_sb I p c be) (sb_so I p c be) (be + 1 - I p 4)) (x := (I 12, I 33 9, I 40, I 41, I 42)) c
    have e : BF.n (I 12, I 33 9, I 40, I 41, I 42) = I 33 9 := rfl
    rw [e] at this
    refine ⟨by omega, by omega, fun h hh => ?_⟩
    rw [bf_br c h hh]
    rfl
set_option maxRecDepth 20000 in
set_option maxHeartbeats 4000000 in
theorem inv_bell {c be m : Nat} (h : Inv I L p q) (hc : I 6 0 = c) (hbe : I 0 8 = be) (hm : I 25 0 = m) (hb2 : be < 20000) (hC : CR I p c be m J) (hR : RR I p c be m M) : Inv (mg J M I) L p q := by
  obtain ⟨hp, h2, h3, h4, ⟨i1, i2, i3, i4, i5, i6, i7, i8⟩, h6, h7, ⟨e1, e2, e3, e4, e5, e6, e7, e8, e9, e10, e11⟩, ⟨b1, b2, b3⟩, h10, ⟨m1, m2, m3, m4, m5, m6⟩, h12, ⟨y0, y1, y2, y3, y4, y5⟩, h14, h15⟩ := h
  obtain ⟨⟨g1, g2, g3, g4⟩, ⟨d1, d2, d3, d4, d5, d6⟩, ⟨n1, n2, n3⟩, ⟨u1, u2, u3, u4, u5, u6⟩⟩ := id h4
  obtain ⟨c1, c2, c3, c4, c5, c6, c7, c8⟩ := id h7
  rw [hc] at c1 c2 c3 c5 c6
  rw [hm, hc] at h10
  rw [hbe, hc, hm] at h12
  rw [hbe] at y2
  obtain ⟨wk, og, r1, r2, r3, r4, r5, r6⟩ := h12
  have hc16 : c ≤ 16 := by omega
  obtain ⟨o0, o60, oo1, oo2, oo3⟩ := id h10
  have hso : ∀ h : Nat, h < 16 → -1 ≤ I 15 h ∧ I 15 h < m := by
    intro h hh
    rcases (oo3 h hh).1 with e | ⟨o, s, e1, e2, -⟩ <;> omega
  have hcs : ∀ h : Nat, h < c → (sb_pf I p c be).1 h / 4 % 2 = 1 → 0 ≤ I 15 h ∧ I 15 h < m := by
    intro h hh e
    have e1 := ((pf_st c8 h hh).1.mp e).2
    have e2 := hso h (by omega)
    omega
  have neq := note_eq (pl := (sb_pf I p c be).1) (cs := I 15) (m := m) ⟨d1, d2⟩ (fun h t a b d => (r1 h t a b d).2.2.1) r4 hcs
  obtain ⟨⟨A18, A10, A14, A11, A13, A9⟩, ⟨N34, N35, N36, N37, N38, N39⟩, ⟨O15, O16, O27, O17, O8⟩, ⟨B12, B33, B40, B41, B42⟩, Z0, F⟩ := hC
  obtain ⟨⟨R79, R73, R77, R74, R76, R72⟩, ⟨R80, R81⟩, ⟨R83, R78, R71⟩, ⟨R75, R57, R87, R88, R89⟩, ⟨R50, R55⟩, RF⟩ := hR
  have jj : ∀ b, b < 55 → b ≠ 0 → b < 8 ∨ (18 < b ∧ b < 27) ∨ (27 < b ∧ b < 33) ∨ 42 < b → J b = I b := fun b a1 a2 a3 => F b a1 (by omega) (by omega) (by omega) (by omega) (by omega) (by omega) (by omega) (by omega) (by omega) (by omega) (by omega) (by omega) (by omega) (by omega) (by omega) (by omega) (by omega) (by omega) (by omega) (by omega) (by omega) (by omega) (by omega)
  have mm : ∀ b, 55 < b → b < 71 ∨ b = 82 ∨ b = 84 ∨ b = 85 ∨ b = 86 ∨ 89 < b → b < 96 → M b = I b := fun b a1 a2 a3 => RF b a1 a3 (by omega) (by omega) (by omega) (by omega) (by omega) (by omega) (by omega) (by omega) (by omega) (by omega) (by omega) (by omega) (by omega) (by omega) (by omega)
  have m55 : ∀ j, j ≠ 57 → j ≠ 50 → M 55 j = I 55 j := R55
  have j0 : ∀ j, j ≠ 8 → J 0 j = I 0 j := fun j hj => by rw [Z0, fm_pt_ap, if_neg hj]
  have j08 : J 0 8 = (be : Int) + 1 := by rw [Z0, fm_pt_s]
  have jp := jj p (by omega) (by omega) (by omega)
  have jp1 := jj (p + 1) (by omega) (by omega) (by omega)
  have jp2 := jj (p + 2) (by omega) (by omega) (by omega)
  have jp3 := jj (p + 3) (by omega) (by omega) (by omega)
  have jp4 := jj (p + 4) (by omega) (by omega) (by omega)
  have jp5 := jj (p + 5) (by omega) (by omega) (by omega)
  have lk0 : lk c (sb_ps I p m).ls := by
    refine lk_ps (x := (I 27, I 17, I 8)) ⟨fun j hj => c6 j (by omega), fun h hh => ?_⟩ m (fun o s ho hs => ?_)
    · have := c3 h (by omega); exact ⟨this.2.2.1, this.2.2.2⟩
    · obtain ⟨a1, a2, t0, -, -, -, t1⟩ := oo1 o (by omega)
      have t2 := t1 s (by omega)
      have t3 := (n3 (I 26 o).toNat (by omega)).2.2.2.2 s hs
      exact ⟨t2.2.2.2, t3.1, t3.2⟩
  have hy := y_in (I := I) (p := p) (c := c) (be := be)
  have hlf : ∀ o, (sb_ps I p m).lf o = if o < m ∧ I 27 o ≠ 0 then I 27 o - 1 else I 27 o := fun o => ps_lf m o
  have gg := gt_in (p := p) (c := c) (be := be) c7
  have fk := iv_fil_keep (si := I 9) (c := c) (I p 13 - bl_on (sb_p0 I p c be) c).toNat (sb_p0 I p c be) (I 11) (p0_in c8)
  unfold Inv
  rw [mg_lo (show p < 55 by omega), mg_lo (show p + 1 < 55 by omega), mg_lo (show p + 2 < 55 by omega), mg_lo (show p + 3 < 55 by omega), mg_lo (show p + 4 < 55 by omega), mg_lo (show p + 5 < 55 by omega), jp, jp1, jp2, jp3, jp4, jp5]
  rw [mg_lo (show 0 < 55 by omega), mg_lo (show 1 < 55 by omega), mg_lo (show 2 < 55 by omega), mg_lo (show 6 < 55 by omega), mg_lo (show 7 < 55 by omega), mg_lo (show 8 < 55 by omega), mg_lo (show 9 < 55 by omega), mg_lo (show 10 < 55 by omega), mg_lo (show 11 < 55 by omega), mg_lo (show 12 < 55 by omega), mg_lo (show 13 < 55 by omega), mg_lo (show 14 < 55 by omega), mg_lo (show 15 < 55 by omega), mg_lo (show 16 < 55 by omega), mg_lo (show 17 < 55 by omega), mg_lo (show 18 < 55 by omega), mg_lo (show 25 < 55 by omega), mg_lo (show 26 < 55 by omega), mg_lo (show 27 < 55 by omega), mg_lo (show 28 < 55 by omega), mg_lo (show 29 < 55 by omega), mg_lo (show 30 < 55 by omega), mg_lo (show 31 < 55 by omega), mg_lo (show 32 < 55 by omega), mg_lo (show 33 < 55 by omega), mg_lo (show 34 < 55 by omega), mg_lo (show 35 < 55 by omega), mg_lo (show 36 < 55 by omega), mg_lo (show 37 < 55 by omega), mg_lo (show 38 < 55 by omega), mg_lo (show 39 < 55 by omega), mg_lo (show 40 < 55 by omega), mg_lo (show 41 < 55 by omega), mg_lo (show 42 < 55 by omega)]
  simp (disch := omega) only [mg_hi, mg_out]
  rw [jj 1 (by omega) (by omega) (by omega), jj 2 (by omega) (by omega) (by omega), jj 6 (by omega) (by omega) (by omega), jj 7 (by omega) (by omega) (by omega), jj 25 (by omega) (by omega) (by omega), jj 26 (by omega) (by omega) (by omega), jj 28 (by omega) (by omega) (by omega), jj 29 (by omega) (by omega) (by omega), jj 30 (by omega) (by omega) (by omega), jj 31 (by omega) (by omega) (by omega), jj 32 (by omega) (by omega) (by omega)]
  simp (disch := omega) only [m55, mm, j0]
  refine ⟨hp, h2, h3, h4, ⟨i1, i2, i3, i4, i5, i6, i7, i8⟩, h6, ?_, ⟨e1, e2, ?_, ?_, ?_, ?_, ?_, ?_, ?_, ?_, ?_⟩, ⟨?_, ?_, ?_⟩, ?_, ⟨m1, m2, ?_, m4, m5, m6⟩, ?_, ⟨?_, ?_, ?_, ?_, ?_, ?_⟩, h14, h15⟩
  · rw [hc, O8, A9, A10, A11, B12, A13, A14, A18, O17]
    refine ⟨c1, c2, fun h hh => ?_, fun h => ?_, fun h hh => ?_, fun j hj => lk0.1 j (by omega), gg.1, pf_in c8⟩
    · have w := c3 h hh
      have s := lk0.2 h (by omega)
      exact ⟨w.1, w.2.1, s.1, s.2⟩
    · have s := c4 h
      unfold up bl_si
      split
      · split <;> omega
      · exact s
    · obtain ⟨t1, t2, t3, t4, t5, t6⟩ := c5 h (by omega)
      have g2 := gg.2 h (by omega) t6
      refine ⟨?_, ?_, ?_, ?_, ?_, g2.1⟩
      · rw [up_ge (by omega)]; exact t1
      · rw [g2.2]; exact t2
      · have : (sb_pf I p c be).2 h = I 11 h := (fk.2.1 h (by omega)).2
        rw [this]; exact t3
      · rw [hy.2.2 h (by omega)]; exact t4
      · rw [up_ge (by omega)]; exact t5
  · rw [R71, O8]
  · rw [R72, A9]
  · rw [R73, A10]
  · rw [R74, A11]
  · rw [R75, B12]
  · rw [R76, A13]
  · rw [R77, A14]
  · rw [R79, A18]
  · rw [R78, O17]
  · rw [R50, j08]
  · rw [j08]; omega
  · rw [j08]; omega
  · rw [hm, hc, O27]
    exact ord_bell h10 hlf O15 O16 hc16
  · rw [R83, O27]
  · rw [j08, hc, hm, N34, N35, N36, N37, N38, N39]
    refine ⟨wkn wk (sb_pf I p c be).1 be, ogn og (sb_pf I p c be).1 (I 15) be, fun h t hh ht ht2 => ?_, fun h t hh ht => ?_, fun h t u hh htu hu e => ?_, fun h h16 hh => ?_, fun e => absurd e (by omega), fun h t hh ht e => ?_⟩
    · unfold wkn ogn
      by_cases e : t = be
      · rw [e, (R80 h (by omega)).1, (R80 h (by omega)).2, if_pos rfl, if_pos rfl, fm_pt_s, Int.toNat_natCast, nb_wk_bit c h (by omega)]
        have lt := nb_wk_lt (pl := (sb_pf I p c be).1) c
        have p2 : 2 ^ c ≤ 2 ^ 16 := Nat.pow_le_pow_right (by omega) hc16
        refine ⟨?_, rfl, rfl, by omega, by omega⟩
        by_cases e0 : (sb_pf I p c be).1 h = 0
        · simp [e0]
        · simp [e0]
      · have ne : (96 * h + t % 96) % 96 ≠ be % 96 := by omega
        rw [(R81 _ ne).1, (R81 _ ne).2, if_neg e, if_neg e, fm_pt_ap, if_neg (show ¬ t % 96 = be % 96 by omega)]
        exact r1 h t hh (by omega) (by omega)
    · unfold ogn wkn
      by_cases e : t = be
      · rw [if_pos e, if_pos e]
        by_cases e2 : (sb_pf I p c be).1 h / 4 % 2 = 1
        · rw [if_pos e2]
          have := hcs h (by omega) e2
          refine ⟨by omega, by omega, fun _ => ?_⟩
          rw [decide_eq_true_eq]; intro e3; rw [e3] at e2; omega
        · rw [if_neg e2]
          exact ⟨by omega, by omega, fun q => absurd q (by omega)⟩
      · rw [if_neg e, if_neg e]; exact r2 h t hh (by omega)
    · unfold ogn at e ⊢
      by_cases e0 : u = be
      · rw [if_pos e0] at e ⊢
        by_cases e2 : (sb_pf I p c be).1 h / 4 % 2 = 1
        · rw [if_pos e2] at e ⊢
          by_cases e3 : t = be
          · rw [if_pos e3]; exact Int.le_refl _
          · rw [if_neg e3]; exact r6 h t hh (by omega) e
        · rw [if_neg e2] at e; omega
      · rw [if_neg e0] at e ⊢
        rw [if_neg (by omega)]
        exact r3 h t u hh htu (by omega) e
    · obtain ⟨q1, q2, q3, q4, q5⟩ := neq h (by omega) h16
      have et : ((be : Int) + 1).toNat = be + 1 := by omega
      rw [et]
      refine ⟨?_, ?_, ?_, ?_, ?_⟩
      · rw [sb_fb, up_lt (by omega)]; exact q1
      · rw [up_lt (by omega)]; exact q2
      · rw [sb_rb, up_lt (by omega)]; exact q3
      · rw [sb_so, up_lt (by omega)]; exact q4
      · rw [sb_sb, up_lt (by omega)]; exact q5
    · rw [O15 h (by omega)] at e ⊢
      have ed : ds m (I 27) (I 15) h = I 15 h := by
        unfold ds at e ⊢
        split
        · rename_i z; rw [if_pos z] at e; omega
        · rfl
      rw [ed] at e ⊢
      unfold ogn
      by_cases e0 : t = be
      · rw [if_pos e0]
        split <;> omega
      · rw [if_neg e0]; exact r6 h t hh (by omega) e
  · rw [R57, B33]
  · rw [B33]; have := hy.2.1; omega
  · rw [B33, j08]; have := hy.1; omega
  · rw [R87, B40]
  · rw [R88, B41]
  · rw [R89, B42]
end BELLINV
