/-! ===== what the pure reader keeps ===== -/
section PPURE
variable {b : Nat → Int} {len : Nat}
theorem nck_none {ps : Nat} {lo hi : Int} (h : nck b len ps lo hi = none) : tkK b len ps = 3 ∧ lo ≤ tkN b len ps ∧ tkN b len ps ≤ hi := by
  unfold nck at h
  split at h
  · rename_i e
    split at h
    · rename_i e2; exact ⟨e, e2⟩
    · cases h
  · cases h
theorem sck_none {ps : Nat} {k : Int} (h : sck b len ps k = none) : tkK b len ps = k := by
  unfold sck at h
  split at h
  · rename_i e; exact e
  · cases h
/-- spans, from two beginnings -/
theorem spn_ag : ∀ (f i ps : Nat) (sw sb sw2 sb2 : Nat → Int), ps ≤ len → i ≤ 12 → (∀ k, k < i → sw k = sw2 k ∧ sb k = sb2 k ∧ 0 ≤ sw k ∧ sw k ≤ 2 ∧ 1 ≤ sb k ∧ sb k ≤ 48) →
    (∃ e, spn b len f i ps sw sb = .inl e ∧ spn b len f i ps sw2 sb2 = .inl e) ∨ ∃ p' ns a c a2 c2, spn b len f i ps sw sb = .inr (p', ns, a, c) ∧ spn b len f i ps sw2 sb2 = .inr (p', ns, a2, c2) ∧ ps ≤ p' ∧ p' ≤ len ∧ tkK b len p' = 5 ∧ 1 ≤ ns ∧ ns ≤ 12 ∧ ∀ k, k < ns → a k = a2 k ∧ c k = c2 k ∧ 0 ≤ a k ∧ a k ≤ 2 ∧ 1 ≤ c k ∧ c k ≤ 48
  | 0, i, ps, sw, sb, sw2, sb2, _, _, _ => Or.inl ⟨_, rfl, rfl⟩
  | f + 1, i, ps, sw, sb, sw2, sb2, hp, hi, h => by
    have t1 := tk_in (b := b) hp
    have t2 := tk_in (b := b) (p := tkE b len ps) t1.2.2.2.1
    unfold spn
    by_cases z : tkK b len ps = 5 ∧ 0 < i
    · rw [if_pos z, if_pos z]
      exact Or.inr ⟨ps, i, sw, sb, sw2, sb2, rfl, rfl, Nat.le_refl _, hp, z.1, z.2, hi, h⟩
    · rw [if_neg z, if_neg z]
      cases e1 : nck b len ps 0 2 with
      | some e => exact Or.inl ⟨e, rfl, rfl⟩
      | none =>
        dsimp only
        by_cases z12 : i = 12
        · rw [if_pos z12, if_pos z12]; exact Or.inl ⟨_, rfl, rfl⟩
        · rw [if_neg z12, if_neg z12]
          cases e2 : nck b len (tkE b len ps) 1 48 with
          | some e => exact Or.inl ⟨e, rfl, rfl⟩
          | none =>
            dsimp only
            have n1 := nck_none e1
            have n2 := nck_none e2
            rcases spn_ag f (i + 1) (tkE b len (tkE b len ps)) (fm_pt sw i (tkN b len ps)) (fm_pt sb i (tkN b len (tkE b len ps))) (fm_pt sw2 i (tkN b len ps)) (fm_pt sb2 i (tkN b len (tkE b len ps))) t2.2.2.2.1 (by omega) (fun k hk => by
              rw [fm_pt_ap, fm_pt_ap, fm_pt_ap, fm_pt_ap]
              by_cases e : k = i
              · rw [if_pos e, if_pos e, if_pos e, if_pos e]; omega
              · rw [if_neg e, if_neg e, if_neg e, if_neg e]; exact h k (by omega)) with q | ⟨p', ns, a, c, a2, c2, q1, q2, q3, q4⟩
            · exact Or.inl q
            · exact Or.inr ⟨p', ns, a, c, a2, c2, q1, q2, by omega, q4⟩
/-- kinds, from two beginnings -/
theorem knd_ag {nb : Nat} : ∀ (f i ps st : Nat) (sk sk2 : Nat → Int), ps ≤ len → i ≤ st → st ≤ 12 → (∀ s, s < st → sk (12 * nb + s) = sk2 (12 * nb + s) ∧ 0 ≤ sk (12 * nb + s) ∧ sk (12 * nb + s) ≤ 5) →
    (∃ e, knd b len nb f i ps st sk = .inl e ∧ knd b len nb f i ps st sk2 = .inl e) ∨ ∃ p' st' a a2, knd b len nb f i ps st sk = .inr (p', st', a) ∧ knd b len nb f i ps st sk2 = .inr (p', st', a2) ∧ ps ≤ p' ∧ p' ≤ len ∧ tkK b len p' = 5 ∧ (0 < i ∨ 1 ≤ st') ∧ st ≤ st' ∧ st' ≤ 12 ∧ (∀ s, s < st' → a (12 * nb + s) = a2 (12 * nb + s) ∧ 0 ≤ a (12 * nb + s) ∧ a (12 * nb + s) ≤ 5) ∧ ∀ x, x < 12 * nb → a x = sk x ∧ a2 x = sk2 x
  | 0, i, ps, st, sk, sk2, _, _, _, _ => Or.inl ⟨_, rfl, rfl⟩
  | f + 1, i, ps, st, sk, sk2, hp, hist, hst, h => by
    have t1 := tk_in (b := b) hp
    have t2 := tk_in (b := b) (p := tkE b len ps) t1.2.2.2.1
    unfold knd
    by_cases z : tkK b len ps = 5 ∧ 0 < i
    · rw [if_pos z, if_pos z]
      exact Or.inr ⟨ps, st, sk, sk2, rfl, rfl, Nat.le_refl _, hp, z.1, Or.inl z.2, Nat.le_refl _, hst, h, fun _ _ => ⟨rfl, rfl⟩⟩
    · rw [if_neg z, if_neg z]
      by_cases z2 : tkK b len ps = 2 ∧ tkW b len ps ≤ 6
      · rw [if_pos z2, if_pos z2]
        have win := tkW_in hp z2.1
        cases e2 : nck b len (tkE b len ps) 1 8 with
        | some e => exact Or.inl ⟨e, rfl, rfl⟩
        | none =>
          dsimp only
          have n2 := nck_none e2
          by_cases z12 : 12 < (st : Int) + tkN b len (tkE b len ps)
          · rw [if_pos z12, if_pos z12]; exact Or.inl ⟨_, rfl, rfl⟩
          · rw [if_neg z12, if_neg z12]
            rcases knd_ag f (i + 1) (tkE b len (tkE b len ps)) (st + (tkN b len (tkE b len ps)).toNat) (rowp sk (12 * nb + st) (tkN b len (tkE b len ps)).toNat (fun _ => tkW b len ps - 1)) (rowp sk2 (12 * nb + st) (tkN b len (tkE b len ps)).toNat (fun _ => tkW b len ps - 1)) t2.2.2.2.1 (by omega) (by omega) (fun s hs => by
              by_cases e : s < st
              · rw [rowp_out (by omega), rowp_out (by omega)]; exact h s e
              · have e3 : 12 * nb + s = 12 * nb + st + (s - st) := by omega
                rw [e3, rowp_at (by omega), rowp_at (by omega)]
                omega) with q | ⟨p', st', a, a2, q1, q2, q3, q4, q5, q6, q7, q8, q9, q10⟩
            · exact Or.inl q
            · refine Or.inr ⟨p', st', a, a2, q1, q2, by omega, q4, q5, by omega, by omega, q8, q9, fun x hx => ?_⟩
              obtain ⟨r1, r2⟩ := q10 x hx
              rw [r1, r2, rowp_out (by omega), rowp_out (by omega)]
              exact ⟨rfl, rfl⟩
      · rw [if_neg z2, if_neg z2]
        exact Or.inl ⟨_, rfl, rfl⟩
theorem isn_congr {nm nm2 : Nat → Int} {v : Int} : ∀ k : Nat, (∀ j, j < k → nm j = nm2 j) → isn nm v k = isn nm2 v k
  | 0, _ => rfl
  | k + 1, h => by
    show (isn nm v k || decide (nm k = v)) = (isn nm2 v k || decide (nm2 k = v))
    rw [isn_congr k (fun j hj => h j (by omega)), h k (by omega)]
/-- a plan as it must be -/
def PV (x : PL) : Prop :=
  (1 ≤ x.1.1 ∧ x.1.1 ≤ 12 ∧ ∀ k, k < x.1.1 → 0 ≤ x.1.2.1 k ∧ x.1.2.1 k ≤ 2 ∧ 1 ≤ x.1.2.2 k ∧ x.1.2.2 k ≤ 48) ∧ (1 ≤ x.2.1.1 ∧ x.2.1.1 ≤ 96 ∧ 0 ≤ x.2.1.2.1 ∧ x.2.1.2.1 ≤ x.2.1.1 ∧ 0 ≤ x.2.1.2.2 ∧ x.2.1.2.2 ≤ x.2.1.1) ∧
  (0 ≤ x.2.2.1 3 ∧ x.2.2.1 3 ≤ 8 ∧ 0 ≤ x.2.2.1 4 ∧ x.2.2.1 4 ≤ 100 ∧ 0 ≤ x.2.2.1 5 ∧ x.2.2.1 5 ≤ 16) ∧
  (x.2.2.2.1.1 ≤ 8 ∧ ∀ k, k < x.2.2.2.1.1 → (0 ≤ x.2.2.2.1.2.1 k ∧ x.2.2.2.1.2.1 k < 1099511627776) ∧ (1 ≤ x.2.2.2.1.2.2.1 k ∧ x.2.2.2.1.2.2.1 k ≤ 48) ∧ (1 ≤ x.2.2.2.1.2.2.2.1 k ∧ x.2.2.2.1.2.2.2.1 k ≤ 12) ∧ ∀ s : Nat, (s : Int) < x.2.2.2.1.2.2.2.1 k → 0 ≤ x.2.2.2.1.2.2.2.2 (12 * k + s) ∧ x.2.2.2.1.2.2.2.2 (12 * k + s) ≤ 5)
/-- two plans alike where they are looked at -/
def PE (x y : PL) : Prop :=
  (x.1.1 = y.1.1 ∧ ∀ k, k < x.1.1 → x.1.2.1 k = y.1.2.1 k ∧ x.1.2.2 k = y.1.2.2 k) ∧ x.2.1 = y.2.1 ∧ (∀ w, 3 ≤ w → w ≤ 5 → x.2.2.1 w = y.2.2.1 w) ∧
  (x.2.2.2.1.1 = y.2.2.2.1.1 ∧ ∀ k, k < x.2.2.2.1.1 → x.2.2.2.1.2.1 k = y.2.2.2.1.2.1 k ∧ x.2.2.2.1.2.2.1 k = y.2.2.2.1.2.2.1 k ∧ x.2.2.2.1.2.2.2.1 k = y.2.2.2.1.2.2.2.1 k ∧ ∀ s : Nat, (s : Int) < x.2.2.2.1.2.2.2.1 k → x.2.2.2.1.2.2.2.2 (12 * k + s) = y.2.2.2.1.2.2.2.2 (12 * k + s)) ∧
  ∀ w, w < 6 → w ≠ 2 → x.2.2.2.2 w = y.2.2.2.2 w
theorem see_congr {s s2 : Nat → Bool} {v : Nat} (h : ∀ w, w < 6 → w ≠ 2 → s w = s2 w) : ∀ w, w < 6 → w ≠ 2 → see s v w = see s2 v w := by
  intro w h1 h2
  unfold see
  split
  · rfl
  · exact h w h1 h2
theorem cls_ag {ps : Nat} {x y : PL} (hp : ps ≤ len) (hx : PV x) (hxy : PE x y) (hk0 : tkK b len ps ≠ 0) :
    (∃ e, cls b len ps x = .inl e ∧ cls b len ps y = .inl e) ∨ ∃ p' x' y', cls b len ps x = .inr (p', x') ∧ cls b len ps y = .inr (p', y') ∧ ps < tkE b len p' ∧ p' ≤ len ∧ tkK b len p' = 5 ∧ PV x' ∧ PE x' y' := by
  have kin := tkK_in (b := b) (len := len) (ps := ps)
  have t1 := tk_in (b := b) hp
  have tlt : tkS b len ps < len := by
    by_cases e : tkS b len ps = len
    · exact absurd (by unfold tkK; rw [if_pos e]) hk0
    · omega
  have t1l := t1.2.2.2.2 tlt
  have after : ∀ p', tkE b len ps ≤ p' → p' ≤ len → ps < tkE b len p' := by
    intro p' h1 h2
    have := tk_in (b := b) h2
    omega
  obtain ⟨⟨v1, v2, v3⟩, vr, vp, vb1, vb2⟩ := id hx
  obtain ⟨⟨e1, e2⟩, er, ep, ⟨eb1, eb2⟩, es⟩ := id hxy
  unfold cls
  by_cases z8 : tkK b len ps = 8
  · rw [if_pos z8, if_pos z8]
    have t2 := tk_in (b := b) (p := tkE b len ps) t1.2.2.2.1
    have t3 := tk_in (b := b) (p := tkE b len (tkE b len ps)) t2.2.2.2.1
    have t4 := tk_in (b := b) (p := tkE b len (tkE b len (tkE b len ps))) t3.2.2.2.1
    unfold bil
    by_cases zn : tkK b len (tkE b len ps) = 2
    · rw [if_pos zn, if_pos zn]
      have win := tkW_in t1.2.2.2.1 zn
      rw [← eb1, ← isn_congr x.2.2.2.1.1 (fun j hj => (eb2 j hj).1)]
      by_cases zi : isn x.2.2.2.1.2.1 (tkW b len (tkE b len ps)) x.2.2.2.1.1 = true
      · rw [if_pos zi, if_pos zi]; exact Or.inl ⟨_, rfl, rfl⟩
      · rw [if_neg zi, if_neg zi]
        by_cases z9 : 8 ≤ x.2.2.2.1.1
        · rw [if_pos z9, if_pos z9]; exact Or.inl ⟨_, rfl, rfl⟩
        · rw [if_neg z9, if_neg z9]
          cases c1 : nck b len (tkE b len (tkE b len ps)) 1 48 with
          | some e => exact Or.inl ⟨e, rfl, rfl⟩
          | none =>
            have n1 := nck_none c1
            dsimp only
            cases c2 : sck b len (tkE b len (tkE b len (tkE b len ps))) 4 with
            | some e => exact Or.inl ⟨e, rfl, rfl⟩
            | none =>
              dsimp only
              rcases knd_ag (b := b) (len := len) (nb := x.2.2.2.1.1) 13 0 (tkE b len (tkE b len (tkE b len (tkE b len ps)))) 0 x.2.2.2.1.2.2.2.2 y.2.2.2.1.2.2.2.2 t4.2.2.2.1 (by omega) (by omega) (fun s hs => absurd hs (by omega)) with ⟨e, q1, q2⟩ | ⟨p', st', a, a2, q1, q2, q3, q4, q5, q6, q7, q8, q9, q10⟩
              · rw [q1, q2]; exact Or.inl ⟨e, rfl, rfl⟩
              · rw [q1, q2]
                refine Or.inr ⟨p', _, _, rfl, rfl, after p' (by omega) q4, q4, q5, ⟨⟨v1, v2, v3⟩, vr, vp, by show x.2.2.2.1.1 + 1 ≤ 8; omega, fun k hk => ?_⟩, ⟨e1, e2⟩, er, ep, ⟨rfl, fun k hk => ?_⟩, es⟩
                · have hk : k < x.2.2.2.1.1 + 1 := hk
                  show (0 ≤ fm_pt x.2.2.2.1.2.1 x.2.2.2.1.1 (tkW b len (tkE b len ps)) k ∧ fm_pt x.2.2.2.1.2.1 x.2.2.2.1.1 (tkW b len (tkE b len ps)) k < 1099511627776) ∧ (1 ≤ fm_pt x.2.2.2.1.2.2.1 x.2.2.2.1.1 (tkN b len (tkE b len (tkE b len ps))) k ∧ fm_pt x.2.2.2.1.2.2.1 x.2.2.2.1.1 (tkN b len (tkE b len (tkE b len ps))) k ≤ 48) ∧ (1 ≤ fm_pt x.2.2.2.1.2.2.2.1 x.2.2.2.1.1 (st' : Int) k ∧ fm_pt x.2.2.2.1.2.2.2.1 x.2.2.2.1.1 (st' : Int) k ≤ 12) ∧ ∀ s : Nat, (s : Int) < fm_pt x.2.2.2.1.2.2.2.1 x.2.2.2.1.1 (st' : Int) k → 0 ≤ a (12 * k + s) ∧ a (12 * k + s) ≤ 5
                  by_cases e : k = x.2.2.2.1.1
                  · rw [e, fm_pt_s, fm_pt_s, fm_pt_s]
                    refine ⟨by omega, by omega, by omega, fun s hs => (q9 s (by omega)).2⟩
                  · rw [fm_pt_n e, fm_pt_n e, fm_pt_n e]
                    obtain ⟨w1, w2, w3, w4⟩ := vb2 k (by omega)
                    refine ⟨w1, w2, w3, fun s hs => ?_⟩
                    rw [(q10 (12 * k + s) (by omega)).1]; exact w4 s hs
                · have hk : k < x.2.2.2.1.1 + 1 := hk
                  show fm_pt x.2.2.2.1.2.1 x.2.2.2.1.1 (tkW b len (tkE b len ps)) k = fm_pt y.2.2.2.1.2.1 x.2.2.2.1.1 (tkW b len (tkE b len ps)) k ∧ fm_pt x.2.2.2.1.2.2.1 x.2.2.2.1.1 (tkN b len (tkE b len (tkE b len ps))) k = fm_pt y.2.2.2.1.2.2.1 x.2.2.2.1.1 (tkN b len (tkE b len (tkE b len ps))) k ∧ fm_pt x.2.2.2.1.2.2.2.1 x.2.2.2.1.1 (st' : Int) k = fm_pt y.2.2.2.1.2.2.2.1 x.2.2.2.1.1 (st' : Int) k ∧ ∀ s : Nat, (s : Int) < fm_pt x.2.2.2.1.2.2.2.1 x.2.2.2.1.1 (st' : Int) k → a (12 * k + s) = a2 (12 * k + s)
                  by_cases e : k = x.2.2.2.1.1
                  · rw [e, fm_pt_s, fm_pt_s, fm_pt_s, fm_pt_s, fm_pt_s, fm_pt_s]
                    exact ⟨rfl, rfl, rfl, fun s hs => (q9 s (by omega)).1⟩
                  · rw [fm_pt_n e, fm_pt_n e, fm_pt_n e, fm_pt_n e, fm_pt_n e, fm_pt_n e]
                    obtain ⟨w1, w2, w3, w4⟩ := eb2 k (by omega)
                    have w5 := (vb2 k (by omega)).2.2.1
                    refine ⟨w1, w2, w3, fun s hs => ?_⟩
                    rw [(q10 (12 * k + s) (by omega)).1, (q10 (12 * k + s) (by omega)).2]; exact w4 s hs
    · rw [if_neg zn, if_neg zn]; exact Or.inl ⟨_, rfl, rfl⟩
  rw [if_neg z8, if_neg z8]
  by_cases z6 : tkK b len ps < 6
  · rw [if_pos z6, if_pos z6]; exact Or.inl ⟨_, rfl, rfl⟩
  rw [if_neg z6, if_neg z6, ← es (tkK b len ps - 6).toNat (by omega) (by omega)]
  by_cases zs : x.2.2.2.2 (tkK b len ps - 6).toNat = true
  · rw [if_pos zs, if_pos zs]; exact Or.inl ⟨_, rfl, rfl⟩
  rw [if_neg zs, if_neg zs]
  by_cases zw : tkK b len ps = 6
  · rw [if_pos zw, if_pos zw]
    rcases spn_ag (b := b) (len := len) 13 0 (tkE b len ps) x.1.2.1 x.1.2.2 y.1.2.1 y.1.2.2 t1.2.2.2.1 (by omega) (fun k hk => absurd hk (by omega)) with ⟨e, q1, q2⟩ | ⟨p', ns, a, c, a2, c2, q1, q2, q3, q4, q5, q6, q7, q8⟩
    · rw [q1, q2]; exact Or.inl ⟨e, rfl, rfl⟩
    · rw [q1, q2]
      exact Or.inr ⟨p', _, _, rfl, rfl, after p' q3 q4, q4, q5, ⟨⟨q6, q7, fun k hk => (q8 k hk).2.2⟩, vr, vp, vb1, vb2⟩, ⟨rfl, fun k hk => ⟨(q8 k hk).1, (q8 k hk).2.1⟩⟩, er, ep, ⟨eb1, eb2⟩, see_congr es⟩
  rw [if_neg zw, if_neg zw]
  by_cases zr : tkK b len ps = 7
  · rw [if_pos zr, if_pos zr]
    have t2 := tk_in (b := b) (p := tkE b len ps) t1.2.2.2.1
    have t3 := tk_in (b := b) (p := tkE b len (tkE b len ps)) t2.2.2.2.1
    have t4 := tk_in (b := b) (p := tkE b len (tkE b len (tkE b len ps))) t3.2.2.2.1
    unfold rst
    cases c1 : nck b len (tkE b len ps) 1 96 with
    | some e => exact Or.inl ⟨e, rfl, rfl⟩
    | none =>
      dsimp only
      cases c2 : nck b len (tkE b len (tkE b len ps)) 0 (tkN b len (tkE b len ps)) with
      | some e => exact Or.inl ⟨e, rfl, rfl⟩
      | none =>
        dsimp only
        cases c3 : nck b len (tkE b len (tkE b len (tkE b len ps))) 0 (tkN b len (tkE b len ps)) with
        | some e => exact Or.inl ⟨e, rfl, rfl⟩
        | none =>
          dsimp only
          cases c4 : sck b len (tkE b len (tkE b len (tkE b len (tkE b len ps)))) 5 with
          | some e => exact Or.inl ⟨e, rfl, rfl⟩
          | none =>
            have n1 := nck_none c1
            have n2 := nck_none c2
            have n3 := nck_none c3
            exact Or.inr ⟨_, _, _, rfl, rfl, after _ (by omega) t4.2.2.2.1, t4.2.2.2.1, sck_none c4, ⟨⟨v1, v2, v3⟩, ⟨n1.2.1, n1.2.2, n2.2.1, n2.2.2, n3.2.1, n3.2.2⟩, vp, vb1, vb2⟩, ⟨e1, e2⟩, rfl, ep, ⟨eb1, eb2⟩, see_congr es⟩
  rw [if_neg zr, if_neg zr]
  have t2 := tk_in (b := b) (p := tkE b len ps) t1.2.2.2.1
  have hi := kin
  generalize hhi : (if tkK b len ps = 9 then (8 : Int) else if tkK b len ps = 10 then 100 else 16) = h
  unfold stg
  cases c1 : nck b len (tkE b len ps) 0 h with
  | some e => exact Or.inl ⟨e, rfl, rfl⟩
  | none =>
    dsimp only
    cases c2 : sck b len (tkE b len (tkE b len ps)) 5 with
    | some e => exact Or.inl ⟨e, rfl, rfl⟩
    | none =>
      have n1 := nck_none c1
      refine Or.inr ⟨_, _, _, rfl, rfl, after _ (by omega) t2.2.2.2.1, t2.2.2.2.1, sck_none c2, ⟨⟨v1, v2, v3⟩, vr, ?_, vb1, vb2⟩, ⟨e1, e2⟩, er, fun w w1 w2 => ?_, ⟨eb1, eb2⟩, see_congr es⟩
      · show 0 ≤ fm_pt x.2.2.1 (tkK b len ps - 6).toNat (tkN b len (tkE b len ps)) 3 ∧ fm_pt x.2.2.1 (tkK b len ps - 6).toNat (tkN b len (tkE b len ps)) 3 ≤ 8 ∧ 0 ≤ fm_pt x.2.2.1 (tkK b len ps - 6).toNat (tkN b len (tkE b len ps)) 4 ∧ fm_pt x.2.2.1 (tkK b len ps - 6).toNat (tkN b len (tkE b len ps)) 4 ≤ 100 ∧ 0 ≤ fm_pt x.2.2.1 (tkK b len ps - 6).toNat (tkN b len (tkE b len ps)) 5 ∧ fm_pt x.2.2.1 (tkK b len ps - 6).toNat (tkN b len (tkE b len ps)) 5 ≤ 16
        have kk : tkK b len ps = 9 ∨ tkK b len ps = 10 ∨ tkK b len ps = 11 := by omega
        rcases kk with k9 | k9 | k9
        · rw [k9] at hhi ⊢
          have : h = 8 := hhi.symm
          have e3 : ((9 : Int) - 6).toNat = 3 := rfl
          rw [e3, fm_pt_s, fm_pt_n (by decide), fm_pt_n (by decide)]
          omega
        · rw [k9] at hhi ⊢
          have : h = 100 := hhi.symm
          have e3 : ((10 : Int) - 6).toNat = 4 := rfl
          rw [e3, fm_pt_s, fm_pt_n (by decide), fm_pt_n (by decide)]
          omega
        · rw [k9] at hhi ⊢
          have : h = 16 := hhi.symm
          have e3 : ((11 : Int) - 6).toNat = 5 := rfl
          rw [e3, fm_pt_s, fm_pt_n (by decide), fm_pt_n (by decide)]
          omega
      · show fm_pt x.2.2.1 _ _ w = fm_pt y.2.2.1 _ _ w
        rw [fm_pt_ap, fm_pt_ap]
        split
        · rfl
        · exact ep w w1 w2
theorem prs_ag : ∀ (f ps : Nat) (x y : PL), ps ≤ len → PV x → PE x y → (∃ e, prs b len f ps x = .inl e ∧ prs b len f ps y = .inl e) ∨ ∃ x' y', prs b len f ps x = .inr x' ∧ prs b len f ps y = .inr y' ∧ PV x' ∧ PE x' y'
  | 0, ps, x, y, _, hx, hxy => Or.inr ⟨x, y, rfl, rfl, hx, hxy⟩
  | f + 1, ps, x, y, hp, hx, hxy => by
    unfold prs
    by_cases z : tkK b len ps = 0
    · rw [if_pos z, if_pos z]; exact Or.inr ⟨x, y, rfl, rfl, hx, hxy⟩
    · rw [if_neg z, if_neg z]
      rcases cls_ag hp hx hxy z with ⟨e, q1, q2⟩ | ⟨p', x', y', q1, q2, q3, q4, q5, q6, q7⟩
      · rw [q1, q2]; exact Or.inl ⟨e, rfl, rfl⟩
      · rw [q1, q2]
        have t := tk_in (b := b) q4
        exact prs_ag f (tkE b len p') x' y' t.2.2.2.1 q6 q7
end PPURE
