/-! ===== bits of small numbers ===== -/
theorem fi_nat {a : Nat} (h : a < 2147483648) : (fm_i (a : Int)).toBitVec.toNat = a := by
  unfold fm_i
  show (BitVec.ofInt 32 (a : Int)).toNat = a
  rw [BitVec.toNat_ofInt]
  omega
theorem ti_nat {x : Int32} {a : Nat} (h : x.toBitVec.toNat = a) (ha : a < 2147483648) : x.toInt = a := by
  show x.toBitVec.toInt = _
  rw [BitVec.toInt_eq_toNat_cond, h]
  split <;> omega
theorem and_nat {a b : Nat} (ha : a < 2147483648) (hb : b < 2147483648) : fm_and (a : Int) (b : Int) = ((a &&& b : Nat) : Int) :=
  ti_nat (by show (BitVec.toNat (_ &&& _)) = _; rw [BitVec.toNat_and, fi_nat ha, fi_nat hb]) (by have := Nat.and_le_left (n := a) (m := b); omega)
theorem or_nat {a b : Nat} (k : Nat) (hk : k ≤ 31) (ha : a < 2 ^ k) (hb : b < 2 ^ k) : fm_or (a : Int) (b : Int) = ((a ||| b : Nat) : Int) := by
  have h31 : 2 ^ k ≤ 2 ^ 31 := Nat.pow_le_pow_right (by omega) hk
  have h := Nat.or_lt_two_pow ha hb
  exact ti_nat (by show (BitVec.toNat (_ ||| _)) = _; rw [BitVec.toNat_or, fi_nat (by omega), fi_nat (by omega)]) (by omega)
theorem shamt {k : Nat} (hk : k < 32) : ((fm_i (k : Int) &&& 31).toBitVec.smod 32).toNat = k := by
  have : ∀ k : Fin 32, ((fm_i (k.val : Int) &&& 31).toBitVec.smod 32).toNat = k.val := by decide
  exact this ⟨k, hk⟩
theorem shl_one {k : Nat} (hk : k < 31) : fm_shl 1 (k : Int) = ((2 ^ k : Nat) : Int) := by
  have : ∀ k : Fin 31, fm_shl 1 (k.val : Int) = ((2 ^ k.val : Nat) : Int) := by decide
  exact this ⟨k, hk⟩
theorem bit_and1 (x : BitVec 32) : (x &&& 1#32).toNat = if x.getLsbD 0 then 1 else 0 := by
  rw [BitVec.toNat_and, BitVec.getLsbD, show (1#32).toNat = 1 from rfl, Nat.and_one_is_mod, Nat.testBit_zero]
  have := Nat.mod_two_eq_zero_or_one x.toNat
  rcases this with h | h <;> simp [h]
theorem shr_and1 {x : Int32} {k : Nat} (hk : k < 32) : ((x >>> (fm_i (k : Int) &&& 31)) &&& fm_i 1).toInt = if x.toBitVec.getLsbD k then 1 else 0 := by
  have h : ((x >>> (fm_i (k : Int) &&& 31)) &&& fm_i 1).toBitVec.toNat = if x.toBitVec.getLsbD k then 1 else 0 := by
    show ((x.toBitVec.sshiftRight ((fm_i (k : Int) &&& 31).toBitVec.smod 32).toNat) &&& 1#32).toNat = _
    rw [shamt hk, bit_and1, BitVec.getLsbD_sshiftRight]
    simp [hk]
  rw [ti_nat h (by split <;> omega)]
  split <;> rfl
theorem fi_fi (x : Int32) : fm_i x.toInt = x := Int32.ofInt_toInt _
/-- a bit of a number -/
theorem bit_nat {a k : Nat} (ha : a < 2147483648) (hk : k < 32) : fm_and (fm_shr (a : Int) (k : Int)) 1 = if a.testBit k then 1 else 0 := by
  unfold fm_and fm_shr
  rw [fi_fi, shr_and1 hk, BitVec.getLsbD, fi_nat ha]
/-- a bit of a number turned -/
theorem bit_not {a k : Nat} (ha : a < 2147483648) (hk : k < 32) : fm_and (fm_shr (fm_xor (a : Int) (-1)) (k : Int)) 1 = if a.testBit k then 0 else 1 := by
  unfold fm_and fm_shr fm_xor
  rw [fi_fi, fi_fi, shr_and1 hk]
  have : (fm_i (a : Int) ^^^ fm_i (-1)).toBitVec.getLsbD k = !a.testBit k := by
    show ((fm_i (a : Int)).toBitVec ^^^ BitVec.allOnes 32).getLsbD k = _
    rw [BitVec.getLsbD_xor, BitVec.getLsbD_allOnes, BitVec.getLsbD, fi_nat ha]
    simp [hk]
  rw [this]
  cases a.testBit k <;> rfl
theorem bit_zero {k : Nat} (hk : k < 32) : fm_and (fm_shr 0 (k : Int)) 1 = 0 := by
  have h := bit_nat (a := 0) (k := k) (by omega) hk
  rw [Nat.zero_testBit] at h
  exact h
theorem or_two {x : Int} (h : 0 ≤ x) (h2 : x < 16) (h4 : x % 4 = 0) : fm_or x 2 = x + 2 := by
  have : ∀ k : Fin 16, k.val % 4 = 0 → fm_or (k.val : Int) 2 = (k.val : Int) + 2 := by decide
  obtain ⟨k, rfl⟩ := Int.eq_ofNat_of_zero_le h
  exact this ⟨k, by omega⟩ (by simpa using (show k % 4 = 0 by omega))
theorem and_small {x : Int} (h : 0 ≤ x) (h2 : x < 16) : fm_and x 7 = x % 8 ∧ fm_and x 1 = x % 2 ∧ fm_and x 4 = x / 4 % 2 * 4 ∧ fm_rem x 4 = x % 4 ∧ fm_div x 4 = x / 4 ∧ fm_rem (fm_div x 4) 2 = x / 4 % 2 := by
  have : ∀ k : Fin 16, fm_and (k.val : Int) 7 = (k.val : Int) % 8 ∧ fm_and (k.val : Int) 1 = (k.val : Int) % 2 ∧ fm_and (k.val : Int) 4 = (k.val : Int) / 4 % 2 * 4 ∧ fm_rem (k.val : Int) 4 = (k.val : Int) % 4 ∧ fm_div (k.val : Int) 4 = (k.val : Int) / 4 ∧ fm_rem (fm_div (k.val : Int) 4) 2 = (k.val : Int) / 4 % 2 := by decide
  obtain ⟨k, rfl⟩ := Int.eq_ofNat_of_zero_le h
  exact this ⟨k, by omega⟩
/-- one bit more: below 64 stays below 64 -/
theorem or_bit {a k : Nat} (ha : a < 64) (hk : k < 6) : fm_or (a : Int) (fm_shl 1 (k : Int)) = ((a ||| 2 ^ k : Nat) : Int) ∧ (a ||| 2 ^ k : Nat) < 64 := by
  rw [shl_one (by omega)]
  have h2 : 2 ^ k < 2 ^ 6 := Nat.pow_lt_pow_right (by omega) hk
  exact ⟨or_nat 6 (by omega) ha h2, Nat.or_lt_two_pow (n := 6) ha h2⟩
