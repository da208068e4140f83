/-! ===== counts ===== -/
def cn (P : Nat → Bool) : Nat → Int
  | 0 => 0
  | k + 1 => cn P k + (if P k = true then 1 else 0)
theorem cn_nn {P : Nat → Bool} : ∀ k : Nat, 0 ≤ cn P k ∧ cn P k ≤ k
  | 0 => by simp [cn]
  | k + 1 => by have := cn_nn (P := P) k; unfold cn; split <;> omega
theorem cn_congr {P Q : Nat → Bool} : ∀ k : Nat, (∀ j, j < k → P j = Q j) → cn P k = cn Q k
  | 0, _ => rfl
  | k + 1, h => by unfold cn; rw [cn_congr k (fun j hj => h j (by omega)), h k (by omega)]
theorem cn_mono {P Q : Nat → Bool} : ∀ k : Nat, (∀ j, j < k → P j = true → Q j = true) → cn P k ≤ cn Q k
  | 0, _ => Int.le_refl _
  | k + 1, h => by
    have ih := cn_mono (P := P) (Q := Q) k (fun j hj => h j (by omega))
    have := h k (by omega)
    unfold cn
    by_cases e : P k = true
    · rw [if_pos e, if_pos (this e)]; omega
    · rw [if_neg e]; split <;> omega
theorem cn_pos {P : Nat → Bool} : ∀ k : Nat, 0 < cn P k → ∃ j, j < k ∧ P j = true
  | 0, h => by simp [cn] at h
  | k + 1, h => by
    by_cases e : P k = true
    · exact ⟨k, by omega, e⟩
    · unfold cn at h
      rw [if_neg e] at h
      obtain ⟨j, j1, j2⟩ := cn_pos (P := P) k (by omega)
      exact ⟨j, by omega, j2⟩
theorem cn_add {P Q : Nat → Bool} : ∀ k : Nat, cn (fun j => P j || Q j) k + cn (fun j => P j && Q j) k = cn P k + cn Q k
  | 0 => rfl
  | k + 1 => by
    have ih := cn_add (P := P) (Q := Q) k
    show cn (fun j => P j || Q j) k + (if (P k || Q k) = true then 1 else 0) + (cn (fun j => P j && Q j) k + (if (P k && Q k) = true then 1 else 0)) = cn P k + (if P k = true then 1 else 0) + (cn Q k + (if Q k = true then 1 else 0))
    cases P k <;> cases Q k <;> simp <;> omega
theorem cn_zero {P : Nat → Bool} (k : Nat) (h : ∀ j, j < k → P j = false) : cn P k = 0 := by
  have h1 := cn_nn (P := P) k
  by_cases e : 0 < cn P k
  · obtain ⟨j, j1, j2⟩ := cn_pos k e
    rw [h j j1] at j2
    cases j2
  · omega
theorem cn_rem {P : Nat → Bool} {t : Nat} (ht : P t = true) : ∀ k : Nat, cn (fun j => P j && decide (j ≠ t)) k = if t < k then cn P k - 1 else cn P k
  | 0 => by rw [if_neg (by omega)]; rfl
  | k + 1 => by
    have ih := cn_rem ht k
    show cn (fun j => P j && decide (j ≠ t)) k + (if (P k && decide (k ≠ t)) = true then 1 else 0) = if t < k + 1 then cn P k + (if P k = true then 1 else 0) - 1 else cn P k + (if P k = true then 1 else 0)
    rw [ih]
    by_cases e : k = t
    · subst e
      have h3 : (P k && decide (k ≠ k)) = false := by simp
      rw [h3, if_neg (show ¬ k < k by omega), if_pos (show k < k + 1 by omega), if_pos ht, if_neg (by decide)]; omega
    · have h3 : (P k && decide (k ≠ t)) = P k := by simp [e]
      rw [h3]
      by_cases e2 : t < k
      · rw [if_pos e2, if_pos (show t < k + 1 by omega)]; omega
      · rw [if_neg e2, if_neg (show ¬ t < k + 1 by omega)]
theorem cn_inj {P : Nat → Bool} {f : Nat → Nat} {s : Nat} : ∀ (c : Nat) (Q : Nat → Bool), (∀ h, h < c → P h = true → f h < s ∧ Q (f h) = true) → (∀ h g, h < c → g < c → P h = true → P g = true → f h = f g → h = g) → cn P c ≤ cn Q s
  | 0, Q, _, _ => (cn_nn s).1
  | c + 1, Q, h1, h2 => by
    show cn P c + (if P c = true then 1 else 0) ≤ cn Q s
    by_cases e : P c = true
    · obtain ⟨a1, a2⟩ := h1 c (by omega) e
      have r := cn_rem a2 s
      rw [if_pos a1] at r
      have ih := cn_inj (P := P) (f := f) (s := s) c (fun j => Q j && decide (j ≠ f c)) (fun h hh hp => by
        obtain ⟨b1, b2⟩ := h1 h (by omega) hp
        refine ⟨b1, ?_⟩
        have : f h ≠ f c := fun q => by have := h2 h c (by omega) (by omega) hp e q; omega
        simp [b2, this]) (fun h g a b => h2 h g (by omega) (by omega))
      rw [if_pos e]; omega
    · rw [if_neg e]
      have ih := cn_inj (P := P) (f := f) (s := s) c Q (fun h hh => h1 h (by omega)) (fun h g a b => h2 h g (by omega) (by omega))
      omega
/-- the greatest of the first n, or 0 -/
def mx (f : Nat → Int) : Nat → Int
  | 0 => 0
  | k + 1 => if mx f k < f k then f k else mx f k
theorem mx_ge {f : Nat → Int} : ∀ n : Nat, 0 ≤ mx f n ∧ ∀ k, k < n → f k ≤ mx f n
  | 0 => ⟨Int.le_refl _, fun k hk => absurd hk (by omega)⟩
  | n + 1 => by
    obtain ⟨i1, i2⟩ := mx_ge (f := f) n
    unfold mx
    split
    · rename_i e
      refine ⟨by omega, fun k hk => ?_⟩
      by_cases e2 : k = n
      · rw [e2]; exact Int.le_refl _
      · have := i2 k (by omega); omega
    · rename_i e
      refine ⟨i1, fun k hk => ?_⟩
      by_cases e2 : k = n
      · rw [e2]; omega
      · exact i2 k (by omega)
theorem mx_le {f : Nat → Int} {m : Int} (h0 : 0 ≤ m) : ∀ n : Nat, (∀ k, k < n → f k ≤ m) → mx f n ≤ m
  | 0, _ => h0
  | n + 1, h => by
    have ih := mx_le (f := f) h0 n (fun k hk => h k (by omega))
    have := h n (by omega)
    unfold mx
    split <;> omega
theorem mx_congr {f g : Nat → Int} : ∀ n : Nat, (∀ k, k < n → f k = g k) → mx f n = mx g n
  | 0, _ => rfl
  | n + 1, h => by unfold mx; rw [mx_congr n (fun k hk => h k (by omega)), h n (by omega)]
theorem mx_zero {f : Nat → Int} (n : Nat) : mx f n = 0 ↔ ∀ k, k < n → f k ≤ 0 := by
  have h := mx_ge (f := f) n
  constructor
  · intro e k hk
    have := h.2 k hk
    omega
  · intro e
    have := mx_le (f := f) (Int.le_refl 0) n e
    omega
/-- a greatest one with a property -/
theorem top_of {P : Nat → Prop} {a : Nat} (ha : P a) : ∀ n : Nat, a < n → ∃ m, m < n ∧ P m ∧ ∀ k, k < n → P k → k ≤ m
  | 0, h => absurd h (by omega)
  | n + 1, h => by
    by_cases e : P n
    · exact ⟨n, by omega, e, fun k hk _ => by omega⟩
    · have hne : a ≠ n := fun q => e (q ▸ ha)
      obtain ⟨m, m1, m2, m3⟩ := top_of ha n (by omega)
      refine ⟨m, by omega, m2, fun k hk hp => ?_⟩
      by_cases e2 : k = n
      · rw [e2] at hp; exact absurd hp e
      · exact m3 k (by omega) hp
/-! ===== sets of skills ===== -/
def mt (S h : Nat) : Bool := decide (S &&& h ≠ 0)
theorem mt_iff {S h : Nat} : mt S h = true ↔ ∃ i, S.testBit i = true ∧ h.testBit i = true := by
  unfold mt
  rw [decide_eq_true_eq]
  constructor
  · intro e
    obtain ⟨i, hi⟩ := Nat.exists_testBit_of_ne_zero e
    rw [Nat.testBit_and, Bool.and_eq_true] at hi
    exact ⟨i, hi⟩
  · rintro ⟨i, h1, h2⟩ e
    have : (S &&& h).testBit i = true := by rw [Nat.testBit_and, h1, h2]; rfl
    rw [e, Nat.zero_testBit] at this
    cases this
theorem mt_or {S T h : Nat} : mt (S ||| T) h = (mt S h || mt T h) := by
  rw [Bool.eq_iff_iff, Bool.or_eq_true, mt_iff, mt_iff, mt_iff]
  constructor
  · rintro ⟨i, h1, h2⟩
    rw [Nat.testBit_or, Bool.or_eq_true] at h1
    rcases h1 with h1 | h1
    · exact Or.inl ⟨i, h1, h2⟩
    · exact Or.inr ⟨i, h1, h2⟩
  · rintro (⟨i, h1, h2⟩ | ⟨i, h1, h2⟩)
    · exact ⟨i, by rw [Nat.testBit_or, h1]; rfl, h2⟩
    · exact ⟨i, by rw [Nat.testBit_or, h1, Bool.or_true], h2⟩
theorem mt_and {S T h : Nat} (e : mt (S &&& T) h = true) : mt S h = true ∧ mt T h = true := by
  rw [mt_iff] at e
  obtain ⟨i, h1, h2⟩ := e
  rw [Nat.testBit_and, Bool.and_eq_true] at h1
  exact ⟨mt_iff.mpr ⟨i, h1.1, h2⟩, mt_iff.mpr ⟨i, h1.2, h2⟩⟩
theorem mt_pow {S k : Nat} : mt S (2 ^ k) = S.testBit k := by
  rw [Bool.eq_iff_iff, mt_iff]
  constructor
  · rintro ⟨i, h1, h2⟩
    rw [Nat.testBit_two_pow, decide_eq_true_eq] at h2
    rw [h2]; exact h1
  · intro h
    exact ⟨k, h, Nat.testBit_two_pow_self⟩
theorem mt_powl {h k : Nat} : mt (2 ^ k) h = h.testBit k := by
  rw [Bool.eq_iff_iff, mt_iff]
  constructor
  · rintro ⟨i, h1, h2⟩
    rw [Nat.testBit_two_pow, decide_eq_true_eq] at h1
    rw [h1]; exact h2
  · intro h
    exact ⟨k, Nat.testBit_two_pow_self, h⟩
theorem mt_bit {S h k : Nat} (h1 : S.testBit k = true) (h2 : h.testBit k = true) : mt S h = true := mt_iff.mpr ⟨k, h1, h2⟩
theorem mt_0 {h : Nat} : mt 0 h = false := by
  unfold mt
  rw [Nat.zero_and]; rfl
theorem or_sub {S T : Nat} (h : S ||| T ≤ T) : S ||| T = T := Nat.le_antisymm h Nat.right_le_or
