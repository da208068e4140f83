/-! ===== hands at stations, and what tells that no more can be ===== -/
def mbb (c : Nat) (op : Nat → Bool) (sk ks : Nat → Nat) (s h : Nat) : Bool := decide (h < c) && (op h && (sk h).testBit (ks s))
def Mat (mb : Nat → Nat → Bool) (T : Nat) (st hl : Nat → Int) : Prop :=
  (∀ h : Nat, h < 16 → st h = -1 ∨ (0 ≤ st h ∧ st h < T ∧ hl (st h).toNat = h ∧ mb (st h).toNat h = true)) ∧ (∀ s : Nat, s < T → hl s = -1 ∨ (0 ≤ hl s ∧ hl s < 16 ∧ st (hl s).toNat = s))
def hcn (hl : Nat → Int) (T : Nat) : Int := cn (fun s => decide (hl s ≠ -1)) T
def aq (ks : Nat → Nat) (t S : Nat) : Int := cn (fun i => S.testBit (ks i)) t
section MATCH
variable {c t : Nat} {op : Nat → Bool} {sk ks : Nat → Nat} {st hl w r : Nat → Int}
theorem mat_hold {mb : Nat → Nat → Bool} {T s : Nat} (h : Mat mb T st hl) (hs : s < T) (e : hl s ≠ -1) : 0 ≤ hl s ∧ hl s < 16 ∧ st (hl s).toNat = s ∧ mb s (hl s).toNat = true := by
  rcases h.2 s hs with q | ⟨q1, q2, q3⟩
  · exact absurd q e
  · refine ⟨q1, q2, q3, ?_⟩
    rcases h.1 (hl s).toNat (by omega) with z | ⟨z1, z2, z3, z4⟩
    · omega
    · rw [q3, Int.toNat_natCast] at z4; exact z4
theorem aq_s {S : Nat} : aq ks (t + 1) S = aq ks t S + (if S.testBit (ks t) = true then 1 else 0) := rfl
/-- no more stand than a set of skills lets -/
theorem mat_le {T : Nat} (h : Mat (mbb c op sk ks) T st hl) (hc : c ≤ 16) (S : Nat) : hcn hl T ≤ T - aq ks T S + hv c op sk S := by
  have a := cn_add (P := fun s => decide (hl s ≠ -1) && S.testBit (ks s)) (Q := fun s => decide (hl s ≠ -1) && !S.testBit (ks s)) T
  have e1 : cn (fun j => (decide (hl j ≠ -1) && S.testBit (ks j)) || (decide (hl j ≠ -1) && !S.testBit (ks j))) T = hcn hl T := cn_congr T (fun j _ => by cases decide (hl j ≠ -1) <;> cases S.testBit (ks j) <;> rfl)
  have e2 := (cn_nn (P := fun j => (decide (hl j ≠ -1) && S.testBit (ks j)) && (decide (hl j ≠ -1) && !S.testBit (ks j))) T).1
  have e2' : cn (fun j => (decide (hl j ≠ -1) && S.testBit (ks j)) && (decide (hl j ≠ -1) && !S.testBit (ks j))) T = 0 := cn_zero T (fun j _ => by cases decide (hl j ≠ -1) <;> cases S.testBit (ks j) <;> rfl)
  -- those without: as many as ask for none of S
  have b := cn_add (P := fun s => S.testBit (ks s)) (Q := fun s => !S.testBit (ks s)) T
  have b1 : cn (fun j => S.testBit (ks j) || !S.testBit (ks j)) T ≤ T := (cn_nn T).2
  have b2 : cn (fun j => S.testBit (ks j) && !S.testBit (ks j)) T = 0 := cn_zero T (fun j _ => by cases S.testBit (ks j) <;> rfl)
  have b3 : cn (fun s => decide (hl s ≠ -1) && !S.testBit (ks s)) T ≤ cn (fun s => !S.testBit (ks s)) T := cn_mono T (fun j _ e => by
    rw [Bool.and_eq_true] at e; exact e.2)
  have b4 : aq ks T S = cn (fun s => S.testBit (ks s)) T := rfl
  -- those with: other hands each
  have d : cn (fun s => decide (hl s ≠ -1) && S.testBit (ks s)) T ≤ hv c op sk S := by
    refine cn_inj (f := fun s => (hl s).toNat) T (fun h => op h && mt S (sk h)) (fun s hs e => ?_) (fun s g hs hg e1 e2 e3 => ?_)
    · rw [Bool.and_eq_true, decide_eq_true_eq] at e
      obtain ⟨z1, z2, z3, z4⟩ := mat_hold h hs e.1
      unfold mbb at z4
      rw [Bool.and_eq_true, Bool.and_eq_true, decide_eq_true_eq] at z4
      refine ⟨z4.1, ?_⟩
      show (op (hl s).toNat && mt S (sk (hl s).toNat)) = true
      rw [z4.2.1, mt_bit e.2 z4.2.2]; rfl
    · rw [Bool.and_eq_true, decide_eq_true_eq] at e1 e2
      have z1 := (mat_hold h hs e1.1).2.2.1
      have z2 := (mat_hold h hg e2.1).2.2.1
      have e3 : (hl s).toNat = (hl g).toNat := e3
      rw [e3, z2] at z1
      omega
  omega
/-- a set of skills that tells the number -/
def Cert (c : Nat) (op : Nat → Bool) (sk ks : Nat → Nat) (t : Nat) (k : Int) : Prop := ∃ S, S < 64 ∧ k = t - aq ks t S + hv c op sk S
theorem cert_0 : Cert c op sk ks 0 0 := ⟨0, by omega, by rw [hv_0]; rfl⟩
theorem cert_more {k : Int} (h : Mat (mbb c op sk ks) (t + 1) st hl) (hc : c ≤ 16) (hk : hcn hl (t + 1) = k + 1) (ce : Cert c op sk ks t k) : Cert c op sk ks (t + 1) (k + 1) := by
  obtain ⟨S, s1, s2⟩ := ce
  refine ⟨S, s1, ?_⟩
  have le := mat_le h hc S
  rw [aq_s] at le ⊢
  by_cases e : S.testBit (ks t) = true
  · rw [if_pos e] at le ⊢; omega
  · rw [if_neg e] at le ⊢; omega
/-- stations reached, hands reached -/
def Bfs (mb : Nat → Nat → Bool) (t : Nat) (st hl w r : Nat → Int) (hd tl : Nat) : Prop :=
  (1 ≤ tl ∧ r 0 = t ∧ hd ≤ tl) ∧ (∀ i : Nat, i < tl → 0 ≤ r i ∧ r i ≤ t) ∧ (∀ i j : Nat, i < j → j < tl → r i ≠ r j) ∧
  (∀ i : Nat, 1 ≤ i → i < tl → ∃ g : Nat, g < 16 ∧ hl (r i).toNat = g ∧ ∃ j : Nat, j < i ∧ j < hd ∧ w g = r j ∧ mb (r j).toNat g = true) ∧
  (∀ h : Nat, h < 16 → w h = -1 ∨ (0 ≤ w h ∧ w h ≤ t ∧ ∃ i : Nat, 1 ≤ i ∧ i < tl ∧ st h = r i))
/-- the skills of the stations reached -/
def qs (ks : Nat → Nat) (r : Nat → Int) : Nat → Nat
  | 0 => 0
  | i + 1 => qs ks r i ||| 2 ^ ks (r i).toNat
theorem qs_bit {x : Nat} : ∀ i : Nat, (qs ks r i).testBit x = true ↔ ∃ j, j < i ∧ ks (r j).toNat = x
  | 0 => by simp [qs]
  | i + 1 => by
    have ih := qs_bit (x := x) i
    unfold qs
    rw [Nat.testBit_or, Bool.or_eq_true, ih, Nat.testBit_two_pow, decide_eq_true_eq]
    constructor
    · rintro (⟨j, j1, j2⟩ | e)
      · exact ⟨j, by omega, j2⟩
      · exact ⟨i, by omega, e⟩
    · rintro ⟨j, j1, j2⟩
      by_cases e : j = i
      · right; rw [← e]; exact j2
      · left; exact ⟨j, by omega, j2⟩
theorem qs_lt : ∀ i : Nat, (∀ j, j < i → ks (r j).toNat < 6) → qs ks r i < 64
  | 0, _ => by simp [qs]
  | i + 1, h => or64 (qs_lt i (fun j hj => h j (by omega))) (pow64 (h i (by omega)))
/-- nothing more is reached: as many as before -/
theorem cert_same {k : Int} {tl : Nat} (h : Mat (mbb c op sk ks) (t + 1) st hl) (hc : c ≤ 16) (ht : hl t = -1) (hks : ∀ i, i ≤ t → ks i < 6) (hk : hcn hl (t + 1) = k) (ce : Cert c op sk ks t k) (hb : Bfs (mbb c op sk ks) t st hl w r tl tl) (hcl : ∀ j h : Nat, j < tl → h < 16 → mbb c op sk ks (r j).toNat h = true → w h ≠ -1) : Cert c op sk ks (t + 1) k := by
  obtain ⟨S, s1, s2⟩ := ce
  obtain ⟨⟨b1, b2, -⟩, b3, b4, b5, b6⟩ := hb
  by_cases e : S.testBit (ks t) = true
  · refine ⟨S, s1, ?_⟩
    rw [aq_s, if_pos e]; omega
  · have qb := fun x => qs_bit (ks := ks) (r := r) (x := x) tl
    have ql := qs_lt (ks := ks) (r := r) tl (fun j hj => hks _ (by have := b3 j hj; omega))
    generalize qs ks r tl = Q at qb ql
    refine ⟨S ||| Q, or64 s1 ql, ?_⟩
    have le := mat_le h hc (S ||| Q)
    rw [hk] at le
    -- stations that Q adds
    have a1 := cn_add (P := fun i => S.testBit (ks i)) (Q := fun i => Q.testBit (ks i) && !S.testBit (ks i)) (t + 1)
    have a2 : aq ks (t + 1) (S ||| Q) = cn (fun j => S.testBit (ks j) || (Q.testBit (ks j) && !S.testBit (ks j))) (t + 1) := cn_congr (t + 1) (fun j _ => by rw [Nat.testBit_or]; cases S.testBit (ks j) <;> cases Q.testBit (ks j) <;> rfl)
    have a3 : cn (fun j => S.testBit (ks j) && (Q.testBit (ks j) && !S.testBit (ks j))) (t + 1) = 0 := cn_zero (t + 1) (fun j _ => by cases S.testBit (ks j) <;> cases Q.testBit (ks j) <;> rfl)
    have a4 : aq ks (t + 1) S = cn (fun i => S.testBit (ks i)) (t + 1) := rfl
    have a5 := aq_s (ks := ks) (t := t) (S := S)
    rw [if_neg e, Int.add_zero] at a5
    -- hands that Q adds
    have d1 := cn_add (P := fun g => op g && mt S (sk g)) (Q := fun g => op g && (mt Q (sk g) && !mt S (sk g))) c
    have d2 : hv c op sk (S ||| Q) = cn (fun j => (op j && mt S (sk j)) || (op j && (mt Q (sk j) && !mt S (sk j)))) c := cn_congr c (fun j _ => by rw [mt_or]; cases op j <;> cases mt S (sk j) <;> cases mt Q (sk j) <;> rfl)
    have d3 := (cn_nn (P := fun j => (op j && mt S (sk j)) && (op j && (mt Q (sk j) && !mt S (sk j)))) c).1
    have d4 : hv c op sk S = cn (fun g => op g && mt S (sk g)) c := rfl
    -- each such hand stands at such a station, and t has none
    have tq : Q.testBit (ks t) = true := (qb _).mpr ⟨0, by omega, by rw [b2, Int.toNat_natCast]⟩
    have rem := cn_rem (P := fun i => Q.testBit (ks i) && !S.testBit (ks i)) (t := t) (by simp [tq, e]) (t + 1)
    rw [if_pos (by omega)] at rem
    have reach : ∀ g, g < c → op g = true → mt Q (sk g) = true → mt S (sk g) = false → 0 ≤ st g ∧ st g < t ∧ hl (st g).toNat = g ∧ Q.testBit (ks (st g).toNat) = true ∧ S.testBit (ks (st g).toNat) = false := by
      intro g g1 g2 g3 g4
      obtain ⟨x, x1, x2⟩ := mt_iff.mp g3
      obtain ⟨j, j1, j2⟩ := (qb x).mp x1
      have wv := hcl j g j1 (by omega) (by unfold mbb; rw [j2, x2, g2]; simp [g1])
      rcases b6 g (by omega) with q | ⟨-, -, i, i1, i2, i3⟩
      · exact absurd q wv
      · have ri := b3 i i2
        rcases h.1 g (by omega) with q | ⟨q1, q2, q3, q4⟩
        · omega
        · refine ⟨q1, ?_, q3, (qb _).mpr ⟨i, i2, by rw [i3]⟩, ?_⟩
          · by_cases z : st g = t
            · rw [z, Int.toNat_natCast, ht] at q3; omega
            · omega
          · unfold mbb at q4
            rw [Bool.and_eq_true, Bool.and_eq_true] at q4
            cases z : S.testBit (ks (st g).toNat) with
            | false => rfl
            | true => rw [mt_bit z q4.2.2] at g4; cases g4
    have inj : cn (fun g => op g && (mt Q (sk g) && !mt S (sk g))) c ≤ cn (fun i => (Q.testBit (ks i) && !S.testBit (ks i)) && decide (i ≠ t)) (t + 1) := by
      refine cn_inj (f := fun g => (st g).toNat) c _ (fun g hg e => ?_) (fun g g' hg hg' e1 e2 e3 => ?_)
      · simp only [Bool.and_eq_true, Bool.not_eq_true'] at e
        obtain ⟨z1, z2, z3, z4, z5⟩ := reach g hg e.1 e.2.1 e.2.2
        refine ⟨by omega, ?_⟩
        have ne : (st g).toNat ≠ t := by omega
        simp [z4, z5, ne]
      · simp only [Bool.and_eq_true, Bool.not_eq_true'] at e1 e2
        have z := (reach g hg e1.1 e1.2.1 e1.2.2).2.2.1
        have z' := (reach g' hg' e2.1 e2.2.1 e2.2.2).2.2.1
        have e3 : (st g).toNat = (st g').toNat := e3
        rw [e3, z'] at z
        omega
    omega
/-- the number is that of Hall -/
theorem cert_end {k : Int} (h : Mat (mbb c op sk ks) t st hl) (hc : c ≤ 16) (hk : hcn hl t = k) (ce : Cert c op sk ks t k) : k = t - dD c t op sk ks 0 := by
  obtain ⟨S, s1, s2⟩ := ce
  have av0 : ∀ S, av t ks 0 S = aq ks t S := fun S => cn_congr t (fun j _ => by simp)
  have g := mx_ge (f := fun S => av t ks 0 S - hv c op sk S) 64
  have g1 : av t ks 0 S - hv c op sk S ≤ dD c t op sk ks 0 := g.2 S s1
  have kn := cn_nn (P := fun s => decide (hl s ≠ -1)) t
  have kn2 : hcn hl t = cn (fun s => decide (hl s ≠ -1)) t := rfl
  have g2 : dD c t op sk ks 0 ≤ t - k := mx_le (by omega) 64 (fun S' _ => by
    have := mat_le h hc S'
    rw [av0]; omega)
  rw [av0] at g1
  omega
end MATCH
