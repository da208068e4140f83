/-! ===== stations filled: counts of sets of skills ===== -/
/-- hands that have one of the skills S -/
def hv (c : Nat) (op : Nat → Bool) (sk : Nat → Nat) (S : Nat) : Int := cn (fun h => op h && mt S (sk h)) c
/-- stations from s on that ask for one of the skills S -/
def av (n : Nat) (ks : Nat → Nat) (s S : Nat) : Int := cn (fun i => decide (s ≤ i) && S.testBit (ks i)) n
/-- without one -/
def wo (op : Nat → Bool) (h : Nat) : Nat → Bool := fun g => op g && decide (g ≠ h)
/-- those of the watch -/
def an (op ow : Nat → Bool) : Nat → Bool := fun h => op h && ow h
section HALL
variable {c n s : Nat} {op ow : Nat → Bool} {sk ks : Nat → Nat}
theorem hv_sub {S T : Nat} : hv c op sk (S ||| T) + hv c op sk (S &&& T) ≤ hv c op sk S + hv c op sk T := by
  have h := cn_add (P := fun h => op h && mt S (sk h)) (Q := fun h => op h && mt T (sk h)) c
  have h1 : hv c op sk (S ||| T) = cn (fun j => (op j && mt S (sk j)) || (op j && mt T (sk j))) c := cn_congr c (fun j _ => by rw [mt_or]; cases op j <;> rfl)
  have h2 : hv c op sk (S &&& T) ≤ cn (fun j => (op j && mt S (sk j)) && (op j && mt T (sk j))) c := cn_mono c (fun j _ e => by
    rw [Bool.and_eq_true] at e
    have := mt_and e.2
    simp [e.1, this.1, this.2])
  show _ ≤ cn (fun h => op h && mt S (sk h)) c + cn (fun h => op h && mt T (sk h)) c
  omega
theorem av_mod {S T : Nat} : av n ks s (S ||| T) + av n ks s (S &&& T) = av n ks s S + av n ks s T := by
  have h := cn_add (P := fun i => decide (s ≤ i) && S.testBit (ks i)) (Q := fun i => decide (s ≤ i) && T.testBit (ks i)) n
  have h1 : av n ks s (S ||| T) = cn (fun i => (decide (s ≤ i) && S.testBit (ks i)) || (decide (s ≤ i) && T.testBit (ks i))) n := cn_congr n (fun j _ => by rw [Nat.testBit_or]; cases decide (s ≤ j) <;> rfl)
  have h2 : av n ks s (S &&& T) = cn (fun i => (decide (s ≤ i) && S.testBit (ks i)) && (decide (s ≤ i) && T.testBit (ks i))) n := cn_congr n (fun j _ => by rw [Nat.testBit_and]; cases decide (s ≤ j) <;> rfl)
  show _ = cn (fun i => decide (s ≤ i) && S.testBit (ks i)) n + cn (fun i => decide (s ≤ i) && T.testBit (ks i)) n
  omega
theorem hv_0 : hv c op sk 0 = 0 := cn_zero c (fun j _ => by rw [mt_0, Bool.and_false])
theorem av_0 : av n ks s 0 = 0 := cn_zero n (fun j _ => by rw [Nat.zero_testBit, Bool.and_false])
theorem hv_wo {h S : Nat} (hh : h < c) (ho : op h = true) : hv c (wo op h) sk S = hv c op sk S - (if mt S (sk h) = true then 1 else 0) := by
  by_cases e : mt S (sk h) = true
  · rw [if_pos e]
    have r := cn_rem (P := fun g => op g && mt S (sk g)) (t := h) (by simp [ho, e]) c
    rw [if_pos hh] at r
    refine Eq.trans (cn_congr c (fun j _ => ?_)) r
    unfold wo
    cases op j <;> cases mt S (sk j) <;> simp
  · rw [if_neg e]
    have : hv c (wo op h) sk S = hv c op sk S := cn_congr c (fun j _ => by
      unfold wo
      by_cases e2 : j = h
      · rw [e2]; simp [e]
      · simp [e2])
    omega
theorem an_wo {h : Nat} : an (wo op h) ow = wo (an op ow) h := by
  funext g
  show ((op g && decide (g ≠ h)) && ow g) = ((op g && ow g) && decide (g ≠ h))
  cases op g <;> cases ow g <;> cases decide (g ≠ h) <;> rfl
theorem hv_an {h S : Nat} (hh : h < c) (ho : op h = true) : hv c (an (wo op h) ow) sk S = hv c (an op ow) sk S - (if ow h = true ∧ mt S (sk h) = true then 1 else 0) := by
  rw [an_wo]
  by_cases e : ow h = true
  · rw [hv_wo hh (by unfold an; rw [ho, e]; rfl)]
    by_cases e2 : mt S (sk h) = true
    · rw [if_pos e2, if_pos ⟨e, e2⟩]
    · rw [if_neg e2, if_neg (fun q => e2 q.2)]
  · rw [if_neg (fun q => e q.1)]
    have : hv c (wo (an op ow) h) sk S = hv c (an op ow) sk S := cn_congr c (fun j _ => by
      unfold wo an
      by_cases e2 : j = h
      · rw [e2]; simp [e]
      · simp [e2])
    omega
theorem av_s {S : Nat} (hs : s < n) : av n ks (s + 1) S = av n ks s S - (if S.testBit (ks s) = true then 1 else 0) := by
  by_cases e : S.testBit (ks s) = true
  · rw [if_pos e]
    have r := cn_rem (P := fun i => decide (s ≤ i) && S.testBit (ks i)) (t := s) (by simp [e]) n
    rw [if_pos hs] at r
    refine Eq.trans (cn_congr n (fun j _ => ?_)) r
    have h1 : decide (s + 1 ≤ j) = (decide (s ≤ j) && decide (j ≠ s)) := by
      rw [Bool.eq_iff_iff, Bool.and_eq_true, decide_eq_true_eq, decide_eq_true_eq, decide_eq_true_eq]; omega
    rw [h1]
    cases decide (s ≤ j) <;> cases S.testBit (ks j) <;> simp
  · rw [if_neg e]
    have : av n ks (s + 1) S = av n ks s S := cn_congr n (fun j _ => by
      by_cases e2 : j = s
      · rw [e2]; simp [e]
      · have h1 : decide (s + 1 ≤ j) = decide (s ≤ j) := by
          rw [Bool.eq_iff_iff, decide_eq_true_eq, decide_eq_true_eq]; omega
        rw [h1])
    omega
/-- stations that the skill of station s adds to T -/
theorem av_more {T : Nat} (hs : s < n) (hT : T.testBit (ks s) = false) : av n ks s T + 1 ≤ av n ks s (T ||| 2 ^ ks s) := by
  have r := cn_rem (P := fun i => decide (s ≤ i) && (T ||| 2 ^ ks s).testBit (ks i)) (t := s) (by simp [Nat.testBit_or, Nat.testBit_two_pow_self]) n
  rw [if_pos hs] at r
  have m : av n ks s T ≤ cn (fun i => (decide (s ≤ i) && (T ||| 2 ^ ks s).testBit (ks i)) && decide (i ≠ s)) n := cn_mono n (fun j _ e => by
    rw [Bool.and_eq_true] at e
    have : j ≠ s := fun q => by rw [q, hT] at e; exact absurd e.2 (by decide)
    simp [e.1, e.2, this, Nat.testBit_or])
  have : av n ks s (T ||| 2 ^ ks s) = cn (fun i => decide (s ≤ i) && (T ||| 2 ^ ks s).testBit (ks i)) n := rfl
  omega
/-- hands that a skill adds to T -/
theorem hv_more {T k : Nat} (h : hv c op sk T < hv c op sk (T ||| 2 ^ k)) : ∃ g, g < c ∧ op g = true ∧ (sk g).testBit k = true ∧ mt T (sk g) = false := by
  have a := cn_add (P := fun g => op g && mt T (sk g)) (Q := fun g => op g && ((sk g).testBit k && !mt T (sk g))) c
  have e1 : hv c op sk (T ||| 2 ^ k) = cn (fun j => (op j && mt T (sk j)) || (op j && ((sk j).testBit k && !mt T (sk j)))) c := cn_congr c (fun j _ => by
    rw [mt_or, mt_powl]
    cases op j <;> cases mt T (sk j) <;> simp)
  have e2 : hv c op sk T = cn (fun g => op g && mt T (sk g)) c := rfl
  have e3 := (cn_nn (P := fun j => (op j && mt T (sk j)) && (op j && ((sk j).testBit k && !mt T (sk j)))) c).1
  obtain ⟨g, g1, g2⟩ := cn_pos (P := fun g => op g && ((sk g).testBit k && !mt T (sk g))) c (by omega)
  simp only [Bool.and_eq_true, Bool.not_eq_true'] at g2
  exact ⟨g, g1, g2.1, g2.2.1, g2.2.2⟩
/-- what can't be filled; what the watch's own hands can't fill -/
def dD (c n : Nat) (op : Nat → Bool) (sk ks : Nat → Nat) (s : Nat) : Int := mx (fun S => av n ks s S - hv c op sk S) 64
theorem or64 {S T : Nat} (h1 : S < 64) (h2 : T < 64) : S ||| T < 64 := Nat.or_lt_two_pow (n := 6) h1 h2
theorem and64 {S T : Nat} (h2 : T < 64) : S &&& T < 64 := Nat.and_lt_two_pow S (n := 6) h2
theorem pow64 {k : Nat} (h : k < 6) : 2 ^ k < 64 := Nat.pow_lt_pow_right (a := 2) (by omega) h
/-- nothing is lost by a hand taken away -/
theorem dD_mono {h : Nat} (hs : s < n) (hh : h < c) (ho : op h = true) (hk : (sk h).testBit (ks s) = true) : dD c n op sk ks s ≤ dD c n (wo op h) sk ks (s + 1) := by
  have g := mx_ge (f := fun S => av n ks (s + 1) S - hv c (wo op h) sk S) 64
  refine mx_le g.1 64 (fun S hS => ?_)
  have := g.2 S hS
  rw [av_s hs, hv_wo hh ho] at this
  show av n ks s S - hv c op sk S ≤ mx (fun S => av n ks (s + 1) S - hv c (wo op h) sk S) 64
  by_cases e : S.testBit (ks s) = true
  · rw [if_pos e, if_pos (mt_bit e hk)] at this; omega
  · rw [if_neg e] at this
    split at this <;> omega
theorem dE_mono {h : Nat} (hs : s < n) (hh : h < c) (ho : op h = true) (hk : (sk h).testBit (ks s) = true) : dD c n (an op ow) sk ks s ≤ (if ow h = true then 0 else 1) + dD c n (an (wo op h) ow) sk ks (s + 1) := by
  have g := mx_ge (f := fun S => av n ks (s + 1) S - hv c (an (wo op h) ow) sk S) 64
  refine mx_le (by unfold dD; split <;> omega) 64 (fun S hS => ?_)
  have := g.2 S hS
  rw [av_s hs, hv_an hh ho] at this
  show av n ks s S - hv c (an op ow) sk S ≤ (if ow h = true then 0 else 1) + mx (fun S => av n ks (s + 1) S - hv c (an (wo op h) ow) sk S) 64
  by_cases e0 : ow h = true
  · rw [if_pos e0]
    by_cases e : S.testBit (ks s) = true
    · rw [if_pos e, if_pos ⟨e0, mt_bit e hk⟩] at this; omega
    · rw [if_neg e] at this
      split at this <;> omega
  · rw [if_neg e0]
    rw [if_neg (fun q : ow h = true ∧ mt S (sk h) = true => e0 q.1)] at this
    split at this <;> omega
/-- a hand is there with which no more is wanting -/
theorem hall_step (hks : ks s < 6) (hs : s < n) (hd : dD c n op sk ks s = 0) : ∃ h, h < c ∧ op h = true ∧ (sk h).testBit (ks s) = true ∧ dD c n (wo op h) sk ks (s + 1) = 0 ∧ (if ow h = true then 0 else 1) + dD c n (an (wo op h) ow) sk ks (s + 1) ≤ dD c n (an op ow) sk ks s := by
  have hd' : ∀ S, S < 64 → av n ks s S ≤ hv c op sk S := fun S hS => by
    have := (mx_zero 64).mp hd S hS
    omega
  have hE := mx_ge (f := fun S => av n ks s S - hv c (an op ow) sk S) 64
  have hEd : dD c n (an op ow) sk ks s = mx (fun S => av n ks s S - hv c (an op ow) sk S) 64 := rfl
  rw [hEd]
  generalize mx (fun S => av n ks s S - hv c (an op ow) sk S) 64 = E at hE
  obtain ⟨hE0, hE1⟩ := hE
  have hE2 : ∀ S, S < 64 → av n ks s S - hv c (an op ow) sk S ≤ E := hE1
  clear hEd hd hE1
  -- the greatest tight set without the skill
  obtain ⟨T, T1, ⟨T2, T3⟩, T4⟩ := top_of (P := fun S => S.testBit (ks s) = false ∧ hv c op sk S = av n ks s S) (a := 0) ⟨Nat.zero_testBit _, by rw [hv_0, av_0]⟩ 64 (by omega)
  have Tc : ∀ S, S < 64 → S.testBit (ks s) = false → hv c op sk S = av n ks s S → ∀ x, mt S x = true → mt T x = true := by
    intro S hS h1 h2 x hx
    have a1 := hv_sub (c := c) (op := op) (sk := sk) (S := S) (T := T)
    have a2 := av_mod (n := n) (ks := ks) (s := s) (S := S) (T := T)
    have a3 := hd' (S ||| T) (or64 hS T1)
    have a4 := hd' (S &&& T) (and64 T1)
    have := T4 (S ||| T) (or64 hS T1) ⟨by rw [Nat.testBit_or, h1, T2]; rfl, by omega⟩
    have e := or_sub this
    rw [← e, mt_or, hx]; rfl
  -- with such a hand nothing is wanting
  have good : ∀ h, h < c → op h = true → (sk h).testBit (ks s) = true → mt T (sk h) = false → dD c n (wo op h) sk ks (s + 1) = 0 := by
    intro h hh ho hk ht
    refine (mx_zero 64).mpr (fun S hS => ?_)
    rw [av_s hs, hv_wo hh ho]
    have := hd' S hS
    by_cases e : S.testBit (ks s) = true
    · rw [if_pos e, if_pos (mt_bit e hk)]; omega
    · rw [if_neg e]
      split
      · rename_i e2
        by_cases e3 : hv c op sk S = av n ks s S
        · have := Tc S hS (by simpa using e) e3 _ e2
          rw [ht] at this; cases this
        · omega
      · omega
  have h2k := pow64 hks
  by_cases hU : ∃ U, U < 64 ∧ U.testBit (ks s) = false ∧ av n ks s U - hv c (an op ow) sk U = E
  · obtain ⟨U0, u1, u2, u3⟩ := hU
    obtain ⟨U, U1, ⟨U2, U3⟩, U4⟩ := top_of (P := fun S => S.testBit (ks s) = false ∧ av n ks s S - hv c (an op ow) sk S = E) (a := U0) ⟨u2, u3⟩ 64 u1
    have Uc : ∀ S, S < 64 → S.testBit (ks s) = false → av n ks s S - hv c (an op ow) sk S = E → ∀ x, mt S x = true → mt U x = true := by
      intro S hS h1 h2 x hx
      have a1 := hv_sub (c := c) (op := an op ow) (sk := sk) (S := S) (T := U)
      have a2 := av_mod (n := n) (ks := ks) (s := s) (S := S) (T := U)
      have a3 := hE2 (S ||| U) (or64 hS U1)
      have a4 := hE2 (S &&& U) (and64 U1)
      have := U4 (S ||| U) (or64 hS U1) ⟨by rw [Nat.testBit_or, h1, U2]; rfl, by omega⟩
      have e := or_sub this
      rw [← e, mt_or, hx]; rfl
    -- the tight set lies in U
    have TU : ∀ x, mt T x = true → mt U x = true := by
      intro x hx
      have a2 := av_mod (n := n) (ks := ks) (s := s) (S := T) (T := U)
      have a3 := hE2 (T ||| U) (or64 T1 U1)
      have a4 := hd' (T &&& U) (and64 U1)
      -- own hands that T adds to U
      have b1 := cn_add (P := fun h => an op ow h && mt U (sk h)) (Q := fun h => an op ow h && (mt T (sk h) && !mt U (sk h))) c
      have b2 : hv c (an op ow) sk (T ||| U) = cn (fun j => (an op ow j && mt U (sk j)) || (an op ow j && (mt T (sk j) && !mt U (sk j)))) c := cn_congr c (fun j _ => by
        rw [mt_or]
        cases an op ow j <;> cases mt U (sk j) <;> simp)
      have b3 := (cn_nn (P := fun j => (an op ow j && mt U (sk j)) && (an op ow j && (mt T (sk j) && !mt U (sk j)))) c).1
      have b4 : hv c (an op ow) sk U = cn (fun h => an op ow h && mt U (sk h)) c := rfl
      have d1 := cn_add (P := fun h => op h && mt (T &&& U) (sk h)) (Q := fun h => an op ow h && (mt T (sk h) && !mt U (sk h))) c
      have d2 : cn (fun j => (op j && mt (T &&& U) (sk j)) || (an op ow j && (mt T (sk j) && !mt U (sk j)))) c ≤ hv c op sk T := cn_mono c (fun j _ e => by
        rw [Bool.or_eq_true, Bool.and_eq_true] at e
        rcases e with e | e
        · rw [e.1, (mt_and e.2).1]; rfl
        · simp only [an, Bool.and_eq_true] at e
          rw [e.1.1, e.2.1]; rfl)
      have d3 : cn (fun j => (op j && mt (T &&& U) (sk j)) && (an op ow j && (mt T (sk j) && !mt U (sk j)))) c = 0 := cn_zero c (fun j _ => by
        by_cases e : mt (T &&& U) (sk j) = true
        · rw [(mt_and e).2]; simp
        · simp [e])
      have d4 : hv c op sk (T &&& U) = cn (fun h => op h && mt (T &&& U) (sk h)) c := rfl
      exact Uc (T ||| U) (or64 T1 U1) (by rw [Nat.testBit_or, T2, U2]; rfl) (by omega) x (by rw [mt_or, hx]; rfl)
    have m1 := av_more (n := n) (ks := ks) (s := s) (T := U) hs U2
    have m2 := hE2 (U ||| 2 ^ ks s) (or64 U1 h2k)
    obtain ⟨h, g1, g2, g3, g4⟩ := hv_more (c := c) (op := an op ow) (sk := sk) (T := U) (k := ks s) (by omega)
    have g2' : op h = true ∧ ow h = true := by simpa [an] using g2
    have g5 : mt T (sk h) = false := by
      cases e : mt T (sk h) with
      | false => rfl
      | true => rw [TU _ e] at g4; cases g4
    refine ⟨h, g1, g2'.1, g3, good h g1 g2'.1 g3 g5, ?_⟩
    rw [if_pos g2'.2]
    have : dD c n (an (wo op h) ow) sk ks (s + 1) ≤ E := mx_le hE0 64 (fun S hS => by
      rw [av_s hs, hv_an g1 g2'.1]
      have := hE2 S hS
      by_cases e : S.testBit (ks s) = true
      · rw [if_pos e, if_pos ⟨g2'.2, mt_bit e g3⟩]; omega
      · rw [if_neg e]
        split
        · rename_i e2
          by_cases e3 : av n ks s S - hv c (an op ow) sk S = E
          · have := Uc S hS (by simpa using e) e3 _ e2.2
            rw [g4] at this; cases this
          · omega
        · omega)
    omega
  · have hU' : ∀ S, S < 64 → S.testBit (ks s) = false → av n ks s S - hv c (an op ow) sk S ≤ E - 1 := by
      intro S hS h1
      have := hE2 S hS
      by_cases e : av n ks s S - hv c (an op ow) sk S = E
      · exact absurd ⟨S, hS, h1, e⟩ hU
      · omega
    have hE1' := hU' 0 (by omega) (Nat.zero_testBit _)
    rw [av_0, hv_0] at hE1'
    have m1 := av_more (n := n) (ks := ks) (s := s) (T := T) hs T2
    have m2 := hd' (T ||| 2 ^ ks s) (or64 T1 h2k)
    obtain ⟨h, g1, g2, g3, g4⟩ := hv_more (c := c) (op := op) (sk := sk) (T := T) (k := ks s) (by omega)
    refine ⟨h, g1, g2, g3, good h g1 g2 g3 g4, ?_⟩
    by_cases e0 : ow h = true
    · rw [if_pos e0]
      have : dD c n (an (wo op h) ow) sk ks (s + 1) ≤ E := mx_le hE0 64 (fun S hS => by
        rw [av_s hs, hv_an g1 g2]
        have := hE2 S hS
        by_cases e : S.testBit (ks s) = true
        · rw [if_pos e, if_pos ⟨e0, mt_bit e g3⟩]; omega
        · rw [if_neg e]
          have := hU' S hS (by simpa using e)
          split <;> omega)
      omega
    · rw [if_neg e0]
      have : dD c n (an (wo op h) ow) sk ks (s + 1) ≤ E - 1 := mx_le (by omega) 64 (fun S hS => by
        rw [av_s hs, hv_an g1 g2, if_neg (fun q : ow h = true ∧ mt S (sk h) = true => e0 q.1)]
        have := hE2 S hS
        by_cases e : S.testBit (ks s) = true
        · rw [if_pos e]; omega
        · rw [if_neg e]
          have := hU' S hS (by simpa using e)
          omega)
      omega
end HALL
