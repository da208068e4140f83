/-! ===== the flat machine's runs are runs of the machine ===== -/
theorem fm_any3 {l : List (Nat × Nat × Nat × Nat)} {o ix a : Nat} (h : l.any (fun q => q.1 == o && q.2.1 == ix && q.2.2.1 == a) = true) : ∃ q ∈ l, q.1 = o ∧ q.2.1 = ix ∧ q.2.2.1 = a := by
  obtain ⟨q, hq, e⟩ := List.any_eq_true.mp h
  simp only [Bool.and_eq_true, beq_iff_eq] at e
  exact ⟨q, hq, e.1.1, e.1.2, e.2⟩
theorem fm_any3i {l : List (Nat × Nat × Int × Nat)} {o ix : Nat} {k : Int} (h : l.any (fun q => q.1 == o && q.2.1 == ix && decide (q.2.2.1 = k)) = true) : ∃ q ∈ l, q.1 = o ∧ q.2.1 = ix ∧ q.2.2.1 = k := by
  obtain ⟨q, hq, e⟩ := List.any_eq_true.mp h
  simp only [Bool.and_eq_true, beq_iff_eq, decide_eq_true_eq] at e
  exact ⟨q, hq, e.1.1, e.1.2, e.2⟩
theorem fm_any4 {l : List (Nat × Nat × Nat × Nat × Nat)} {o ix a b : Nat} (h : l.any (fun q => q.1 == o && q.2.1 == ix && q.2.2.1 == a && q.2.2.2.1 == b) = true) : ∃ q ∈ l, q.1 = o ∧ q.2.1 = ix ∧ q.2.2.1 = a ∧ q.2.2.2.1 = b := by
  obtain ⟨q, hq, e⟩ := List.any_eq_true.mp h
  simp only [Bool.and_eq_true, beq_iff_eq] at e
  exact ⟨q, hq, e.1.1.1, e.1.1.2, e.1.2, e.2⟩
theorem fm_any2 {l : List (Nat × Nat × Nat)} {o ix : Nat} (h : l.any (fun q => q.1 == o && q.2.1 == ix) = true) : ∃ q ∈ l, q.1 = o ∧ q.2.1 = ix := by
  obtain ⟨q, hq, e⟩ := List.any_eq_true.mp h
  simp only [Bool.and_eq_true, beq_iff_eq] at e
  exact ⟨q, hq, e.1, e.2⟩
theorem fm_any1 {l : List (Nat × Nat)} {a : Nat} (h : l.any (fun q => q.1 == a) = true) : ∃ q ∈ l, q.1 = a := by
  obtain ⟨q, hq, e⟩ := List.any_eq_true.mp h
  exact ⟨q, hq, by simpa using e⟩
theorem fm_oc : lw_tbl[74]? = some (Cond.code Lib.objectInit ⟨#[0xb1]⟩ 1 none) := rfl
theorem fm_oi2 : lw_tbl[73]? = some (Cond.instanceMethod Lib.objectInit) := by decide +kernel
def fm_WW (E : fm_E) (l : Launch) (n : Nat) : Prop := ∀ (r : Nat) (v : Int), fm_worth r = some v → Met l (fm_nm 69) (fm_ws 69) (fm_rm 69) (va_Pc ([(.inr (.inr (some r)) : fm_V)].map (fm_v E)) (fun U => fm_G E U n)) (fun _ st oc t => oc = .returned (some (.long (fm_l v))) ∧ t.heap = st.heap) (fm_dna 69) (fm_dsl 69) (fm_A E)
section FMS
variable {E : fm_E} {p : Program} {l : Launch} {e : Env} {R : Room} {s : State} {m : MethodId} {args : Array Value} {below : List Frame} {meth : Method} {cc : Code} {Q : State → Prop} {na0 n y pc : Nat} {lsA : List (Option fm_V)} {st : List fm_V} {σ : fm_S}
theorem fm_exec_sound (X : fm_Cx E p R s m args meth cc n y) (hww : fm_WW E l n) {ins : Instr} {len a b : Nat} {k : Int} {c' : fm_C} (hd : decode (fm_by y) pc = .ok (ins, len)) (hk : fm_okB y pc ins len a b k = true) (h : fm_exec ins len a b k pc lsA st σ = some (.inl c')) (hb1 : c'.2.2.2.2.2.2.1 ≤ na0 + fm_dna y) (hb2 : fm_sz c'.2.2.2.2.2.2.1 ≤ fm_sz na0 + fm_dsl y) (h96 : σ.2.2.2.1 ≤ 96)
    (hW : fm_Wn E p l e R s m args below meth cc Q na0 n y c') : fm_Wn E p l e R s m args below meth cc Q na0 n y (pc, lsA, st, σ) := by
  have hx := X.1
  have hb := X.2.1
  have hown := X.2.2.2.1
  have hts := X.2.2.2.2.1
  have hG := X.2.2.2.2.2.2.1
  unfold fm_exec at h
  split at h
  -- constants
  · simp only [fm_okB, Bool.and_eq_true, beq_iff_eq, decide_eq_true_eq] at hk
    obtain ⟨rfl, rfl⟩ := hk
    cases h
    exact fm_pure (fun H locs ls cells slots _ q => lv_iconst hx hb hd rfl q) hW
  · simp only [fm_okB, Bool.and_eq_true, beq_iff_eq, decide_eq_true_eq] at hk
    obtain ⟨rfl, hk⟩ := hk
    cases h
    exact fm_pure (fun H locs ls cells slots _ q => lv_bipush hx hb hd hk q) hW
  · simp only [fm_okB, Bool.and_eq_true, beq_iff_eq, decide_eq_true_eq] at hk
    obtain ⟨rfl, hk⟩ := hk
    cases h
    exact fm_pure (fun H locs ls cells slots _ q => lv_sipush hx hb hd hk q) hW
  · simp only [fm_okB, Bool.and_eq_true, Bool.or_eq_true, beq_iff_eq] at hk
    obtain ⟨rfl, hk⟩ := hk
    split at h
    · cases h
      rcases hk with ⟨-, hk⟩ | ⟨hb', -⟩
      · obtain ⟨q, hq, q1, q2, q3⟩ := fm_any3i hk
        have hw := hts _ (fm_bigOf (fm_ki_ok q hq) rfl)
        rw [q1, q2, q3] at hw
        exact fm_pure (fun H locs ls cells slots _ q => lv_ldc hx hb hown hw hd q) hW
      · omega
    · cases h
      rcases hk with ⟨hb', -⟩ | ⟨⟨-, hy⟩, hk⟩
      · omega
      · subst hy
        have hs := hG.2.2.2.2.2.1
        refine fm_pure (fun H locs ls cells slots _ q => ?_) hW
        have q : W p l e R s m args below meth cc H locs cells slots Q (F0 m (pc + 2) ls (.ref (fm_rho E a) :: st.map (fm_v E))) := q
        rcases hk with ((((⟨rfl, rfl⟩ | ⟨rfl, rfl⟩) | ⟨rfl, rfl⟩) | ⟨rfl, rfl⟩) | ⟨rfl, rfl⟩) | ⟨rfl, rfl⟩
        · exact va_ldcS hx hb hown (hs (19, "watch", 600) (by decide)) hd q
        · exact va_ldcS hx hb hown (hs (25, "rest", 601) (by decide)) hd q
        · exact va_ldcS hx hb hown (hs (27, "bill", 602) (by decide)) hd q
        · exact va_ldcS hx hb hown (hs (29, "dull", 603) (by decide)) hd q
        · exact va_ldcS hx hb hown (hs (31, "learn", 604) (by decide)) hd q
        · exact va_ldcS hx hb hown (hs (33, "least", 605) (by decide)) hd q
  · simp only [fm_okB, Bool.and_eq_true, beq_iff_eq] at hk
    obtain ⟨rfl, hk⟩ := hk
    cases h
    obtain ⟨q, hq, q1, q2, q3⟩ := fm_any3i hk
    have hw := hts _ (fm_bigOf (fm_ki_ok q hq) rfl)
    rw [q1, q2, q3] at hw
    exact fm_pure (fun H locs ls cells slots _ q => lv_ldcw hx hb hown hw hd q) hW
  · simp only [fm_okB, Bool.and_eq_true, beq_iff_eq, decide_eq_true_eq] at hk
    obtain ⟨rfl, rfl⟩ := hk
    cases h
    exact fm_pure (fun H locs ls cells slots _ q => lv_lconst hx hb hd rfl q) hW
  · simp only [fm_okB, Bool.and_eq_true, beq_iff_eq] at hk
    obtain ⟨rfl, hk⟩ := hk
    cases h
    obtain ⟨q, hq, q1, q2, q3⟩ := fm_any3i hk
    have hw := hts _ (fm_bigOf (fm_kl_ok q hq) rfl)
    rw [q1, q2, q3] at hw
    exact fm_pure (fun H locs ls cells slots _ q => lv_ldc2 hx hb hown hw hd q) hW
  -- loads
  · simp only [fm_okB, Bool.and_eq_true, beq_iff_eq] at hk
    obtain ⟨rfl, hk⟩ := hk
    exact fm_x_ild h (fun x H locs ls cells slots rest hl q => lv_iload_n hx hb hd hk hl q) hW
  · simp only [fm_okB, Bool.and_eq_true, beq_iff_eq] at hk
    obtain ⟨rfl, rfl⟩ := hk
    exact fm_x_ild h (fun x H locs ls cells slots rest hl q => lv_iload hx hb hd hl q) hW
  · simp only [fm_okB, Bool.and_eq_true, beq_iff_eq] at hk
    obtain ⟨rfl, hk⟩ := hk
    exact fm_x_lld h (fun x H locs ls cells slots rest hl q => lv_lload_n hx hb hd hk hl q) hW
  · simp only [fm_okB, Bool.and_eq_true, beq_iff_eq] at hk
    obtain ⟨rfl, rfl⟩ := hk
    exact fm_x_lld h (fun x H locs ls cells slots rest hl q => lv_lload hx hb hd hl q) hW
  · simp only [fm_okB, Bool.and_eq_true, beq_iff_eq] at hk
    obtain ⟨rfl, hk⟩ := hk
    exact fm_x_ald h (fun x H locs ls cells slots rest hl q => lv_aload_n hx hb hd hk hl q) hW
  · simp only [fm_okB, Bool.and_eq_true, beq_iff_eq] at hk
    obtain ⟨rfl, rfl⟩ := hk
    exact fm_x_ald h (fun x H locs ls cells slots rest hl q => lv_aload hx hb hd hl q) hW
  -- stores
  · simp only [fm_okB, Bool.and_eq_true, beq_iff_eq] at hk
    obtain ⟨rfl, hk⟩ := hk
    unfold fm_ist at h
    split at h
    · exact fm_x_st h (fun H locs ls cells slots ha hl q => lv_istore_n hx hb hd hk hl ha rfl q) hW
    · cases h
  · simp only [fm_okB, Bool.and_eq_true, beq_iff_eq] at hk
    obtain ⟨rfl, rfl⟩ := hk
    unfold fm_ist at h
    split at h
    · exact fm_x_st h (fun H locs ls cells slots ha hl q => lv_istore hx hb hd hl ha rfl q) hW
    · cases h
  · simp only [fm_okB, Bool.and_eq_true, beq_iff_eq] at hk
    obtain ⟨rfl, hk⟩ := hk
    unfold fm_ast at h
    split at h
    · exact fm_x_st h (fun H locs ls cells slots ha hl q => lv_astore_n hx hb hd hk hl ha rfl q) hW
    · cases h
  · simp only [fm_okB, Bool.and_eq_true, beq_iff_eq] at hk
    obtain ⟨rfl, rfl⟩ := hk
    unfold fm_ast at h
    split at h
    · exact fm_x_st h (fun H locs ls cells slots ha hl q => lv_astore hx hb hd hl ha rfl q) hW
    · cases h
  · simp only [fm_okB, Bool.and_eq_true, beq_iff_eq, decide_eq_true_eq] at hk
    obtain ⟨⟨rfl, rfl⟩, rfl⟩ := hk
    split at h
    · rename_i x hxl
      refine fm_x_st h (fun H locs ls cells slots ha hl q => ?_) hW
      obtain ⟨j, hj⟩ := List.mem_iff_getElem?.mp (fm_lv_mem.mpr ⟨_, hxl, rfl⟩ : (_, fm_v E (.inl x)) ∈ fm_lv E lsA)
      exact lv_iinc hx hb hd hl hj (fm_i_add x _) ha rfl q
    · cases h
  -- arithmetic
  · simp only [fm_okB, beq_iff_eq] at hk
    subst hk
    exact fm_x_bin X h (fun x z H locs ls cells slots rest q => lv_iadd hx hb hd (by rw [fm_i_add]; exact q)) hW
  · simp only [fm_okB, beq_iff_eq] at hk
    subst hk
    exact fm_x_bin X h (fun x z H locs ls cells slots rest q => lv_isub hx hb hd (by rw [fm_i_sub]; exact q)) hW
  · simp only [fm_okB, beq_iff_eq] at hk
    subst hk
    exact fm_x_bin X h (fun x z H locs ls cells slots rest q => lv_imul hx hb hd (by rw [fm_i_mul]; exact q)) hW
  · simp only [fm_okB, beq_iff_eq] at hk
    subst hk
    exact fm_x_bin X h (fun x z H locs ls cells slots rest q => lv_iand hx hb hd (by rw [fm_and, fm_i_to] at q; exact q)) hW
  · simp only [fm_okB, beq_iff_eq] at hk
    subst hk
    exact fm_x_bin X h (fun x z H locs ls cells slots rest q => lv_ior hx hb hd (by rw [fm_or, fm_i_to] at q; exact q)) hW
  · simp only [fm_okB, beq_iff_eq] at hk
    subst hk
    exact fm_x_bin X h (fun x z H locs ls cells slots rest q => lv_ixor hx hb hd (by rw [fm_xor, fm_i_to] at q; exact q)) hW
  · simp only [fm_okB, beq_iff_eq] at hk
    subst hk
    exact fm_x_bin X h (fun x z H locs ls cells slots rest q => lv_ishl hx hb hd (by rw [fm_shl, fm_i_to] at q; exact q)) hW
  · simp only [fm_okB, beq_iff_eq] at hk
    subst hk
    exact fm_x_bin X h (fun x z H locs ls cells slots rest q => lv_ishr hx hb hd (by rw [fm_shr, fm_i_to] at q; exact q)) hW
  · simp only [fm_okB, beq_iff_eq] at hk
    subst hk
    split at h
    · split at h
      · cases h
      · rename_i hz
        cases h
        refine fm_pure (fun H locs ls cells slots _ q => lv_idiv hx hb hd (fun c => hz ?_) ?_) hW
        · rw [← fm_i_0] at c; rw [← wr_0]; exact (fm_i_eq _ _).mp c
        · simp only [List.map_cons, fm_v, fm_div, fm_i_to] at q; exact q
    · cases h
  · simp only [fm_okB, beq_iff_eq] at hk
    subst hk
    split at h
    · split at h
      · cases h
      · rename_i hz
        cases h
        refine fm_pure (fun H locs ls cells slots _ q => lv_irem hx hb hd (fun c => hz ?_) ?_) hW
        · rw [← fm_i_0] at c; rw [← wr_0]; exact (fm_i_eq _ _).mp c
        · simp only [List.map_cons, fm_v, fm_rem, fm_i_to] at q; exact q
    · cases h
  · simp only [fm_okB, beq_iff_eq] at hk
    subst hk
    exact fm_x_lbin X h (fun x z H locs ls cells slots rest q => lv_ladd hx hb hd (by rw [fm_l_add]; exact q)) hW
  · simp only [fm_okB, beq_iff_eq] at hk
    subst hk
    exact fm_x_lbin X h (fun x z H locs ls cells slots rest q => lv_lsub hx hb hd (by rw [fm_l_sub]; exact q)) hW
  · simp only [fm_okB, beq_iff_eq] at hk
    subst hk
    exact fm_x_lbin X h (fun x z H locs ls cells slots rest q => lv_lmul hx hb hd (by rw [fm_l_mul]; exact q)) hW
  · simp only [fm_okB, beq_iff_eq] at hk
    subst hk
    split at h
    · cases h
      exact fm_pure (fun H locs ls cells slots _ q => lv_i2l hx hb hd (fm_i2l _) q) hW
    · cases h
  · simp only [fm_okB, beq_iff_eq] at hk
    subst hk
    split at h
    · cases h
      exact fm_pure (fun H locs ls cells slots _ q => lv_l2i hx hb hd (fm_i_to _).symm q) hW
    · cases h
  · simp only [fm_okB, beq_iff_eq] at hk
    subst hk
    exact fm_x_una X h (fun x H locs ls cells slots rest q => lv_i2b hx hb hd (fm_i_to _).symm q) hW
  · simp only [fm_okB, beq_iff_eq] at hk
    subst hk
    exact fm_x_una X h (fun x H locs ls cells slots rest q => lv_i2c hx hb hd (fm_i_to _).symm q) hW
  · simp only [fm_okB, beq_iff_eq] at hk
    subst hk
    split at h
    · cases h
      exact fm_pure (fun H locs ls cells slots _ q => W.lcmp hx hb hd (by rw [fm_lcmp_ok]; exact q)) hW
    · cases h
  · simp only [fm_okB, beq_iff_eq] at hk
    subst hk
    split at h
    · cases h
      exact fm_pure (fun H locs ls cells slots _ q => lv_dup hx hb hd rfl q) hW
    · cases h
      exact fm_pure (fun H locs ls cells slots _ q => lv_dup hx hb hd (fm_v_cat rfl) q) hW
    · cases h
  · simp only [fm_okB, beq_iff_eq] at hk
    subst hk
    split at h
    · cases h
      exact fm_pure (fun H locs ls cells slots _ q => lv_dup2_11 hx hb hd rfl (fm_v_cat rfl) q) hW
    · cases h
  · simp only [fm_okB, Bool.and_eq_true, beq_iff_eq, decide_eq_true_eq] at hk
    obtain ⟨rfl, hk⟩ := hk
    cases h
    exact fm_pure (fun H locs ls cells slots _ q => lv_goto hx hb hd hk q) hW
  · simp only [fm_okB, Bool.and_eq_true, beq_iff_eq, decide_eq_true_eq] at hk
    obtain ⟨rfl, hk⟩ := hk
    split at h
    · cases h
      exact fm_x_cmp X hd hk hW
    · cases h
  · simp only [fm_okB, Bool.and_eq_true, beq_iff_eq, decide_eq_true_eq] at hk
    obtain ⟨rfl, hk⟩ := hk
    split at h
    · cases h
      exact fm_x_if X hd hk hW
    · cases h
  · simp only [fm_okB, decide_eq_true_eq] at hk
    split at h
    · split at h
      · rename_i h0
        cases h
        exact fm_x_tsw X hd hk h0 hW
      · cases h
    · cases h
  · simp only [fm_okB] at hk
    split at h
    · split at h
      · rename_i h0
        cases h
        exact fm_x_lsw X hd hk h0 hW
      · cases h
    · cases h
  -- fields
  · simp only [fm_okB, Bool.and_eq_true, beq_iff_eq, decide_eq_true_eq] at hk
    obtain ⟨⟨⟨rfl, ha⟩, hb9⟩, hk⟩ := hk
    split at h
    · split at h
      · rename_i ho
        cases h
        exact fm_x_getf X hd ha hb9 (fm_any4 hk) ho hW
      · cases h
    · cases h
  · simp only [fm_okB, Bool.and_eq_true, Bool.or_eq_true, Bool.not_eq_true', beq_iff_eq, decide_eq_true_eq] at hk
    obtain ⟨⟨⟨⟨rfl, ha⟩, hb9⟩, hk⟩, hf⟩ := hk
    split at h
    · split at h
      · rename_i ho
        split at h
        · rename_i τ hput
          cases h
          exact fm_x_putf X hd ha hb9 (fm_any4 hk) hf ho hput hW
        · cases h
      · cases h
    · cases h
  -- arrays
  · simp only [fm_okB, beq_iff_eq] at hk
    subst hk
    split at h
    · split at h
      · rename_i hi
        cases h
        exact fm_x_iald X hd hi hW
      · cases h
    · cases h
  · simp only [fm_okB, beq_iff_eq] at hk
    subst hk
    split at h
    · split at h
      · rename_i hi
        cases h
        exact fm_x_bald X hd hi hW
      · cases h
    · cases h
  · simp only [fm_okB, beq_iff_eq] at hk
    subst hk
    split at h
    · split at h
      · rename_i hi
        cases h
        exact fm_x_lald X hd hi hW
      · cases h
    · cases h
  · simp only [fm_okB, beq_iff_eq] at hk
    subst hk
    split at h
    · split at h
      · rename_i hi
        cases h
        exact fm_x_iast X hd hi hW
      · cases h
    · cases h
  · simp only [fm_okB, beq_iff_eq] at hk
    subst hk
    split at h
    · split at h
      · rename_i hi
        cases h
        exact fm_x_bast X hd (Or.inl rfl) hi hW
      · split at h
        · rename_i hi
          cases h
          exact fm_x_bast X hd (Or.inr rfl) hi hW
        · cases h
    · cases h
  · simp only [fm_okB, beq_iff_eq] at hk
    subst hk
    split at h
    · split at h
      · rename_i hi
        cases h
        exact fm_x_last X hd hi hW
      · cases h
    · cases h
  · simp only [fm_okB, beq_iff_eq] at hk
    subst hk
    split at h
    · split at h
      · rename_i hi
        cases h
        exact fm_x_alen X hd hi hW
      · cases h
    · cases h
  -- new cells
  · simp only [fm_okB, Bool.and_eq_true, Bool.or_eq_true, beq_iff_eq] at hk
    obtain ⟨rfl, hk⟩ := hk
    split at h
    · split at h
      · rename_i hi
        cases h
        exact fm_x_newa X hd (by revert hk; cases ‹ArrayType› <;> intro hk <;> first | exact Or.inl rfl | exact Or.inr (Or.inl rfl) | exact Or.inr (Or.inr (Or.inl rfl)) | exact Or.inr (Or.inr (Or.inr rfl)) | (exfalso; revert hk; decide)) hi.1 hi.2.1 hi.2.2.1 hi.2.2.2 hb1 hb2 hW
      · cases h
    · cases h
  · simp only [fm_okB, Bool.and_eq_true, beq_iff_eq, decide_eq_true_eq] at hk
    obtain ⟨⟨rfl, ha⟩, hk⟩ := hk
    split at h
    · rename_i hi
      cases h
      exact fm_x_new X hd ha (fm_any3 hk) hi hb1 hb2 hW
    · cases h
  -- calls that are steps
  · simp only [fm_okB, Bool.and_eq_true, beq_iff_eq] at hk
    have hb0 : b = 0 := hk.1.1.1.1.2
    subst hb0
    simp only [fm_call] at h
    split at h <;> cases h
  · simp only [fm_okB, Bool.and_eq_true, Bool.or_eq_true, beq_iff_eq, decide_eq_true_eq] at hk
    obtain ⟨rfl, hk⟩ := hk
    rcases hk with (⟨⟨⟨rfl, hf1⟩, hf2⟩, hk⟩ | ⟨⟨⟨⟨⟨rfl, -⟩, -⟩, -⟩, -⟩, -⟩) | ⟨⟨⟨⟨⟨rfl, -⟩, -⟩, -⟩, -⟩, -⟩
    · simp only [fm_call] at h
      split at h
      · split at h
        case isFalse => cases h
        rename_i o rest hr4
        cases h
        obtain ⟨q, hq, q1, q2⟩ := fm_any2 hk
        have hw := hts _ (fm_bigOf (fm_oi_ok q hq) rfl)
        rw [q1, q2] at hw
        intro H locs ls hP hL hS hln hna hn
        have kk := hW H locs ls hP hL hS hln hna hn
        have kk : W p l e R s m args below meth cc H locs (σ.2.2.2.1 - na0) (fm_sz σ.2.2.2.1 - fm_sz na0) Q (F0 m (pc + 3) ls (rest.map (fm_v E))) := kk
        have hcs := fm_cat_sum (E := E) rest
        refine W.objInit hx hb hown hw (hts _ (fm_bigOf fm_oi2 rfl)) (hts _ (fm_bigOf fm_oc rfl)) (a := fm_rho E o) (rest := rest.map (fm_v E)) rfl (by show ls.size = _; rw [hL.1, X.2.2.1]; exact hln) rfl hd (Nat.le_trans hf1 X.2.2.2.2.2.2.2.1) ?_ kk
        have := X.2.2.2.2.2.2.2.2.1
        show 2 * 0 + _ + 12 ≤ _
        omega
      · cases h
    · simp only [fm_call] at h
      split at h <;> cases h
    · simp only [fm_call] at h
      split at h <;> cases h
  · simp only [fm_okB, Bool.and_eq_true, Bool.or_eq_true, beq_iff_eq, decide_eq_true_eq] at hk
    obtain ⟨rfl, hk⟩ := hk
    rcases hk with ((⟨⟨⟨rfl, -⟩, -⟩, -⟩ | ⟨⟨⟨⟨rfl, rfl⟩, hf1⟩, hf2⟩, hk⟩) | ⟨⟨⟨⟨rfl, rfl⟩, hf1⟩, hf2⟩, hk⟩) | ⟨⟨⟨rfl, rfl⟩, hrm⟩, hk⟩
    · simp only [fm_call] at h
      split at h <;> cases h
    · simp only [fm_call] at h
      split at h
      · split at h
        · rename_i z x rest hr4
          cases h
          obtain ⟨q, hq, q1, q2, q3⟩ := fm_any3 hk
          have hw := hts _ (fm_bigOf (fm_ml_ok q hq) rfl)
          rw [q1, q2, q3] at hw
          have hmw := fm_mw_big (z := 137) (by decide)
          have hcs := fm_cat_sum (E := E) rest
          intro H locs ls hP hL hS hln hna hn
          have kk := hW H locs ls hP hL hS hln hna hn
          have kk : W p l e R s m args below meth cc H locs (σ.2.2.2.1 - na0) (fm_sz σ.2.2.2.1 - fm_sz na0) Q (F0 m (pc + 3) ls (.int (fm_i (if wr x < wr z then z else x)) :: rest.map (fm_v E))) := kk
          have hna : na0 ≤ σ.2.2.2.1 := hna
          have hszm := fm_sz_mono hna h96
          have hb1 : σ.2.2.2.1 ≤ na0 + fm_dna y := hb1
          have hb2 : fm_sz σ.2.2.2.1 ≤ fm_sz na0 + fm_dsl y := hb2
          refine va_mmax hx hb (by rw [X.2.2.1, hL.1]; exact hln.symm) hown hw (hts _ hmw.1) (hts _ hmw.2) (hts _ (fm_cw_big (z := 137) (by decide))) (Nat.le_trans hf1 X.2.2.2.2.2.2.2.1) (by have := X.2.2.2.2.2.2.2.2.1; omega) (by have := X.2.2.2.2.2.2.2.2.2.1; show σ.2.2.2.1 - na0 ≤ _; omega) (by have := X.2.2.2.2.2.2.2.2.2.2; show fm_sz σ.2.2.2.1 - fm_sz na0 ≤ _; omega) hd ?_
          have e1 : (if fm_i x < fm_i z then fm_i z else fm_i x) = fm_i (if wr x < wr z then z else x) := by
            by_cases hc : wr x < wr z
            · rw [if_pos hc, if_pos ((fm_i_lt x z).mpr hc)]
            · rw [if_neg hc, if_neg (fun q => hc ((fm_i_lt x z).mp q))]
          rw [e1]
          exact kk
        · cases h
      · cases h
    · simp only [fm_call] at h
      split at h
      · split at h
        · rename_i z x rest hr4
          cases h
          obtain ⟨q, hq, q1, q2, q3⟩ := fm_any3 hk
          have hw := hts _ (fm_bigOf (fm_ml_ok q hq) rfl)
          rw [q1, q2, q3] at hw
          have hmw := fm_mw_big (z := 138) (by decide)
          have hcs := fm_cat_sum (E := E) rest
          intro H locs ls hP hL hS hln hna hn
          have kk := hW H locs ls hP hL hS hln hna hn
          have kk : W p l e R s m args below meth cc H locs (σ.2.2.2.1 - na0) (fm_sz σ.2.2.2.1 - fm_sz na0) Q (F0 m (pc + 3) ls (.int (fm_i (if wr z < wr x then z else x)) :: rest.map (fm_v E))) := kk
          have hna : na0 ≤ σ.2.2.2.1 := hna
          have hszm := fm_sz_mono hna h96
          have hb1 : σ.2.2.2.1 ≤ na0 + fm_dna y := hb1
          have hb2 : fm_sz σ.2.2.2.1 ≤ fm_sz na0 + fm_dsl y := hb2
          refine va_mmin hx hb (by rw [X.2.2.1, hL.1]; exact hln.symm) hown hw (hts _ hmw.1) (hts _ hmw.2) (hts _ (fm_cw_big (z := 138) (by decide))) (Nat.le_trans hf1 X.2.2.2.2.2.2.2.1) (by have := X.2.2.2.2.2.2.2.2.1; omega) (by have := X.2.2.2.2.2.2.2.2.2.1; show σ.2.2.2.1 - na0 ≤ _; omega) (by have := X.2.2.2.2.2.2.2.2.2.2; show fm_sz σ.2.2.2.1 - fm_sz na0 ≤ _; omega) hd ?_
          have e1 : (if fm_i z < fm_i x then fm_i z else fm_i x) = fm_i (if wr z < wr x then z else x) := by
            by_cases hc : wr z < wr x
            · rw [if_pos hc, if_pos ((fm_i_lt z x).mpr hc)]
            · rw [if_neg hc, if_neg (fun q => hc ((fm_i_lt z x).mp q))]
          rw [e1]
          exact kk
        · cases h
      · cases h
    · simp only [fm_call] at h
      split at h
      · split at h
        · split at h
          case isFalse => cases h

          rename_i r rest _ v hv hr4
          cases h
          intro H locs ls hP hL hS hln hna hn
          have hna : na0 ≤ σ.2.2.2.1 := hna
          have hszm := fm_sz_mono hna h96
          have hb1 : σ.2.2.2.1 ≤ na0 + fm_dna y := hb1
          have hb2 : fm_sz σ.2.2.2.1 ≤ fm_sz na0 + fm_dsl y := hb2
          have hR3 := X.2.2.2.2.2.2.2.2.2.1
          have hR4 := X.2.2.2.2.2.2.2.2.2.2
          have hrun := fm_x_cs (E := E) (H := H) (locs := locs) (ls := ls) (below := below) (e := e) (cells := σ.2.2.2.1 - na0) (slots := fm_sz σ.2.2.2.1 - fm_sz na0) X (as := [.inr (.inr (some r))]) (rest := rest) hd (by decide +kernel) hrm (fm_any3 hk) (show 1 = fm_nar 69 by decide +kernel) hr4 (by rw [hL.1]; exact hln) (hww r v hv) ⟨fun a U g mk q => ⟨q.1, q.2.calling⟩, fun U hU hWm => ⟨rfl, hG.move hWm hU hS⟩⟩ ⟨by show σ.2.2.2.1 - na0 + 0 ≤ _; omega, by show fm_sz σ.2.2.2.1 - fm_sz na0 + 0 ≤ _; omega⟩
          intro T hT XT
          obtain ⟨v', st₀, t, T', L, h0, X', hL', e1, e2, ⟨hv', ht'⟩, stp⟩ := hrun T hT XT
          have hv' : v' = some (.long (fm_l v)) := by cases hv'; rfl
          subst hv'
          have hTH : T'.heap = H := by rw [e1, ht', h0]
          obtain ⟨t2, a1, b1⟩ := hW H (locs ++ L) ls hP hL ⟨hS.1, hS.2.1, fun q hq => by
            rcases List.mem_append.mp hq with h | h
            · exact hS.2.2 q h
            · exact hL' q h⟩ hln hna hn T' hTH X'
          exact ⟨t2, stp t2 a1, b1⟩
        · cases h
      · cases h
  -- ends
  · split at h
    · split at h <;> cases h
    · cases h
  · split at h <;> cases h
  · cases h
end FMS
