theorem fm_ck_all : ∀ y : Nat, y < 141 → fm_chk y = true := by
  intro y hy
  match y, hy with
  | 0, _ => exact fm_ck0
  | 1, _ => exact fm_ck1
  | 2, _ => exact fm_ck2
  | 3, _ => exact fm_ck3
  | 4, _ => exact fm_ck4
  | 5, _ => exact fm_ck5
  | 6, _ => exact fm_ck6
  | 7, _ => exact fm_ck7
  | 8, _ => exact fm_ck8
  | 9, _ => exact fm_ck9
  | 10, _ => exact fm_ck10
  | 11, _ => exact fm_ck11
  | 12, _ => exact fm_ck12
  | 13, _ => exact fm_ck13
  | 14, _ => exact fm_ck14
  | 15, _ => exact fm_ck15
  | 16, _ => exact fm_ck16
  | 17, _ => exact fm_ck17
  | 18, _ => exact fm_ck18
  | 19, _ => exact fm_ck19
  | 20, _ => exact fm_ck20
  | 21, _ => exact fm_ck21
  | 22, _ => exact fm_ck22
  | 23, _ => exact fm_ck23
  | 24, _ => exact fm_ck24
  | 25, _ => exact fm_ck25
  | 26, _ => exact fm_ck26
  | 27, _ => exact fm_ck27
  | 28, _ => exact fm_ck28
  | 29, _ => exact fm_ck29
  | 30, _ => exact fm_ck30
  | 31, _ => exact fm_ck31
  | 32, _ => exact fm_ck32
  | 33, _ => exact fm_ck33
  | 34, _ => exact fm_ck34
  | 35, _ => exact fm_ck35
  | 36, _ => exact fm_ck36
  | 37, _ => exact fm_ck37
  | 38, _ => exact fm_ck38
  | 39, _ => exact fm_ck39
  | 40, _ => exact fm_ck40
  | 41, _ => exact fm_ck41
  | 42, _ => exact fm_ck42
  | 43, _ => exact fm_ck43
  | 44, _ => exact fm_ck44
  | 45, _ => exact fm_ck45
  | 46, _ => exact fm_ck46
  | 47, _ => exact fm_ck47
  | 48, _ => exact fm_ck48
  | 49, _ => exact fm_ck49
  | 50, _ => exact fm_ck50
  | 51, _ => exact fm_ck51
  | 52, _ => exact fm_ck52
  | 53, _ => exact fm_ck53
  | 54, _ => exact fm_ck54
  | 55, _ => exact fm_ck55
  | 56, _ => exact fm_ck56
  | 57, _ => exact fm_ck57
  | 58, _ => exact fm_ck58
  | 59, _ => exact fm_ck59
  | 60, _ => exact fm_ck60
  | 61, _ => exact fm_ck61
  | 62, _ => exact fm_ck62
  | 63, _ => exact fm_ck63
  | 64, _ => exact fm_ck64
  | 65, _ => exact fm_ck65
  | 66, _ => exact fm_ck66
  | 67, _ => exact fm_ck67
  | 68, _ => exact fm_ck68
  | 69, _ => exact fm_ck69
  | 70, _ => exact fm_ck70
  | 71, _ => exact fm_ck71
  | 72, _ => exact fm_ck72
  | 73, _ => exact fm_ck73
  | 74, _ => exact fm_ck74
  | 75, _ => exact fm_ck75
  | 76, _ => exact fm_ck76
  | 77, _ => exact fm_ck77
  | 78, _ => exact fm_ck78
  | 79, _ => exact fm_ck79
  | 80, _ => exact fm_ck80
  | 81, _ => exact fm_ck81
  | 82, _ => exact fm_ck82
  | 83, _ => exact fm_ck83
  | 84, _ => exact fm_ck84
  | 85, _ => exact fm_ck85
  | 86, _ => exact fm_ck86
  | 87, _ => exact fm_ck87
  | 88, _ => exact fm_ck88
  | 89, _ => exact fm_ck89
  | 90, _ => exact fm_ck90
  | 91, _ => exact fm_ck91
  | 92, _ => exact fm_ck92
  | 93, _ => exact fm_ck93
  | 94, _ => exact fm_ck94
  | 95, _ => exact fm_ck95
  | 96, _ => exact fm_ck96
  | 97, _ => exact fm_ck97
  | 98, _ => exact fm_ck98
  | 99, _ => exact fm_ck99
  | 100, _ => exact fm_ck100
  | 101, _ => exact fm_ck101
  | 102, _ => exact fm_ck102
  | 103, _ => exact fm_ck103
  | 104, _ => exact fm_ck104
  | 105, _ => exact fm_ck105
  | 106, _ => exact fm_ck106
  | 107, _ => exact fm_ck107
  | 108, _ => exact fm_ck108
  | 109, _ => exact fm_ck109
  | 110, _ => exact fm_ck110
  | 111, _ => exact fm_ck111
  | 112, _ => exact fm_ck112
  | 113, _ => exact fm_ck113
  | 114, _ => exact fm_ck114
  | 115, _ => exact fm_ck115
  | 116, _ => exact fm_ck116
  | 117, _ => exact fm_ck117
  | 118, _ => exact fm_ck118
  | 119, _ => exact fm_ck119
  | 120, _ => exact fm_ck120
  | 121, _ => exact fm_ck121
  | 122, _ => exact fm_ck122
  | 123, _ => exact fm_ck123
  | 124, _ => exact fm_ck124
  | 125, _ => exact fm_ck125
  | 126, _ => exact fm_ck126
  | 127, _ => exact fm_ck127
  | 128, _ => exact fm_ck128
  | 129, _ => exact fm_ck129
  | 130, _ => exact fm_ck130
  | 131, _ => exact fm_ck131
  | 132, _ => exact fm_ck132
  | 133, _ => exact fm_ck133
  | 134, _ => exact fm_ck134
  | 135, _ => exact fm_ck135
  | 136, _ => exact fm_ck136
  | 137, _ => exact fm_ck137
  | 138, _ => exact fm_ck138
  | 139, _ => exact fm_ck139
  | 140, _ => exact fm_ck140
  | k + 141, h => exact absurd h (by omega)
theorem fm_ts_len : fm_ts.length = 141 := by decide +kernel
theorem fm_row {y pc : Nat} {ins : Instr} {len a b : Nat} {k : Int} (h : fm_code y pc = some (ins, len, a, b, k)) : decode (fm_by y) pc = .ok (ins, len) ∧ fm_okB y pc ins len a b k = true := by
  have hy : y < 141 := by
    by_cases hy : y < 141
    · exact hy
    · exfalso
      unfold fm_code fm_lk at h
      rw [List.getD_eq_getElem?_getD (l := fm_ts), List.getElem?_eq_none (by rw [fm_ts_len]; omega)] at h
      cases h
  have hpc : pc < fm_mlen y := by
    by_cases hpc : pc < fm_mlen y
    · exact hpc
    · exfalso
      unfold fm_mlen at hpc
      unfold fm_code fm_lk at h
      rw [List.getD_eq_getElem?_getD (l := fm_ts.getD y []), List.getElem?_eq_none (by omega)] at h
      cases h
  have h1 := List.all_eq_true.mp (fm_ck_all y hy) pc (List.mem_range.mpr hpc)
  unfold fm_chkB at h1
  rw [h] at h1
  simp only [Bool.and_eq_true, decide_eq_true_eq] at h1
  exact h1
theorem fm_sl_len {E : fm_E} : ∀ as : List fm_V, (lg_sl (as.map (fm_v E))).length = (fm_sl as).length
  | [] => rfl
  | .inl x :: r => by
    have h := fm_sl_len (E := E) r
    simp only [lg_sl, List.map_cons, List.flatMap_cons, fm_v, Value.category, List.length_append] at h ⊢
    simp only [fm_sl, List.length_cons]
    rw [h]; simp; omega
  | .inr (.inl x) :: r => by
    have h := fm_sl_len (E := E) r
    simp only [lg_sl, List.map_cons, List.flatMap_cons, fm_v, Value.category, List.length_append] at h ⊢
    simp only [fm_sl, List.length_cons]
    rw [h]; simp; omega
  | .inr (.inr none) :: r => by
    have h := fm_sl_len (E := E) r
    simp only [lg_sl, List.map_cons, List.flatMap_cons, fm_v, Value.category, List.length_append] at h ⊢
    simp only [fm_sl, List.length_cons]
    rw [h]; simp; omega
  | .inr (.inr (some i)) :: r => by
    have h := fm_sl_len (E := E) r
    simp only [lg_sl, List.map_cons, List.flatMap_cons, fm_v, Value.category, List.length_append] at h ⊢
    simp only [fm_sl, List.length_cons]
    rw [h]; simp; omega
theorem fm_sl_at {E : fm_E} : ∀ (as : List fm_V) (j i : Nat) (w : fm_V), (fm_sl as)[i]? = some (some w) → (j + i, fm_v E w) ∈ lv_args j (as.map (fm_v E))
  | [], j, i, w, h => by simp [fm_sl] at h
  | .inr (.inl x) :: r, j, i, w, h => by
    show _ ∈ (j, fm_v E (.inr (.inl x))) :: lv_args (j + 2) (r.map (fm_v E))
    match i, h with
    | 0, h => cases h; exact List.mem_cons_self
    | 1, h => cases h
    | i + 2, h =>
      have := fm_sl_at (E := E) r (j + 2) i w h
      rw [show j + (i + 2) = j + 2 + i by omega]
      exact List.mem_cons_of_mem _ this
  | .inl x :: r, j, i, w, h => by
    show _ ∈ (j, fm_v E (.inl x)) :: lv_args (j + 1) (r.map (fm_v E))
    match i, h with
    | 0, h => cases h; exact List.mem_cons_self
    | i + 1, h =>
      have := fm_sl_at (E := E) r (j + 1) i w h
      rw [show j + (i + 1) = j + 1 + i by omega]
      exact List.mem_cons_of_mem _ this
  | .inr (.inr none) :: r, j, i, w, h => by
    show _ ∈ (j, fm_v E (.inr (.inr none))) :: lv_args (j + 1) (r.map (fm_v E))
    match i, h with
    | 0, h => cases h; exact List.mem_cons_self
    | i + 1, h =>
      have := fm_sl_at (E := E) r (j + 1) i w h
      rw [show j + (i + 1) = j + 1 + i by omega]
      exact List.mem_cons_of_mem _ this
  | .inr (.inr (some q)) :: r, j, i, w, h => by
    show _ ∈ (j, fm_v E (.inr (.inr (some q)))) :: lv_args (j + 1) (r.map (fm_v E))
    match i, h with
    | 0, h => cases h; exact List.mem_cons_self
    | i + 1, h =>
      have := fm_sl_at (E := E) r (j + 1) i w h
      rw [show j + (i + 1) = j + 1 + i by omega]
      exact List.mem_cons_of_mem _ this
theorem fm_ent_len {z : Nat} {as : List fm_V} (h : (fm_sl as).length ≤ fm_maxL z) : (fm_ent z as).length = fm_maxL z := by
  unfold fm_ent
  rw [List.length_append, List.length_replicate]
  omega
theorem fm_L_ent {E : fm_E} {z : Nat} {as : List fm_V} (h : (fm_sl as).length ≤ fm_maxL z) : fm_L E (fm_ent z as) ((lg_sl (as.map (fm_v E)) ++ List.replicate (fm_maxL z - (lg_sl (as.map (fm_v E))).length) Slot.unset).toArray) := by
  have h1 := lv_entry (as.map (fm_v E)) (n := fm_maxL z) (by rw [fm_sl_len]; exact h)
  unfold fm_L
  rw [fm_ent_len h]
  refine ⟨h1.1, h1.2.1, fun q hq => h1.2.2 q ?_⟩
  obtain ⟨i, v⟩ := q
  obtain ⟨w, hw, rfl⟩ := fm_lv_mem.mp hq
  have hw2 : (fm_sl as)[i]? = some (some w) := by
    unfold fm_ent at hw
    rw [List.getD_eq_getElem?_getD] at hw
    by_cases hi : i < (fm_sl as).length
    · rw [List.getElem?_append_left hi] at hw
      rw [List.getElem?_eq_getElem hi] at hw ⊢
      exact congrArg some hw
    · rw [List.getElem?_append_right (by omega), List.getElem?_replicate] at hw
      split at hw <;> cases hw
  have := fm_sl_at (E := E) as 0 i w hw2
  rw [Nat.zero_add] at this
  exact this
/-- how a method ends: what its caller asks of it -/
def fm_Rt (E : fm_E) (p : Program) (l : Launch) (e : Env) (R : Room) (s : State) (m : MethodId) (args : Array Value) (below : List Frame) (meth : Method) (cc : Code) (Q : State → Prop) (na0 y : Nat) (r : Option fm_V × fm_S) : Prop :=
  ∀ (pc : Nat) (H : Heap) (locs : List Loc) (ls : Array Slot), fm_Pic E r.2 H → va_S (fm_A E) s.heap H locs →
    ((decode (fm_by y) pc = .ok (.return_, 1) ∧ fm_ret y = none ∧ r.1 = none) ∨ (∃ x, decode (fm_by y) pc = .ok (.ireturn, 1) ∧ r.1 = some (.inl x) ∧ (fm_ret y = some .int ∨ (fm_ret y = some .boolean ∧ (x = 0 ∨ x = 1))))) →
    W p l e R s m args below meth cc H locs (r.2.2.2.2.1 - na0) (fm_sz r.2.2.2.2.1 - fm_sz na0) Q (F0 m pc ls (r.1.toList.map (fm_v E)))
/-- a method's contract out of its walk -/
theorem fm_mtd {E : fm_E} {l : Launch} {n z : Nat} {as : List fm_V} {σ : fm_S} {r : Option fm_V × fm_S} (hz : z < 140) (hz1 : z ≠ 137) (hz2 : z ≠ 138) (hl : (fm_sl as).length ≤ fm_maxL z) (hg : fm_gr z σ r.2) (hn : σ.2.2.2.2 = n) (h96 : σ.2.2.2.1 ≤ 96)
    (ih : ∀ (p : Program) (e : Env) (s : State) (m : MethodId) (args : Array Value) (below : List Frame) (meth : Method) (cc : Code) (R : Room) (Q : State → Prop), fm_Cx E p R s m args meth cc n z → fm_Rt E p l e R s m args below meth cc Q σ.2.2.2.1 z r → fm_Wn E p l e R s m args below meth cc Q σ.2.2.2.1 n z (0, fm_ent z as, [], σ)) :
    Met l (fm_nm z) (fm_ws z) (fm_rm z) (fm_P E n as σ) (fm_Q E r) (fm_dna z) (fm_dsl z) (fm_A E) := by
  obtain ⟨g1, g2, g3⟩ := hg
  refine Met.ofW (cc := fm_by z) (maxL := fm_maxL z) (ret := fm_ret z) (fm_md4 z hz hz1 hz2) rfl ?_
  intro p e s m args below meth c s₁ B hml hv
  obtain ⟨rfl, hP, hG⟩ := hv
  have hts : ∀ w ∈ fm_big, w.before (as.map (fm_v E)).toArray s = true := fun w hw => atoms_spec (ws := fm_ws z) B.pre w (List.mem_cons_of_mem _ hw)
  have hown : s.vm.findClass (fm_cnm (fm_own z)) = some m.cls := by rw [← fm_md3 z hz]; exact findClass_of_methodNamed B.named
  have X : fm_Cx E p (headSpec (fm_ws z) (fm_rm z)).room s m (as.map (fm_v E)).toArray meth c n z := by
    refine ⟨B.exec, B.bytes, hml, hown, hts, fun hi => ?_, hG, Nat.le_refl _, Nat.le_refl _, Nat.le_refl _, Nat.le_refl _⟩
    have h1 := (name_of_methodNamed B.named B.method).1
    rw [h1]
    simpa [fm_init] using hi
  have hlocks := B.notSynchronized
  have hr := B.returns
  have hb := B.bytes
  have hx := B.exec
  have e1 : r.2.2.2.2.1 - σ.2.2.2.1 = fm_dna z := by rw [g1]; omega
  have e2 : fm_sz r.2.2.2.2.1 - fm_sz σ.2.2.2.1 = fm_dsl z := by rw [g2]; omega
  have hRt : fm_Rt E p l e (headSpec (fm_ws z) (fm_rm z)).room s m (as.map (fm_v E)).toArray below meth c (MQ below (fm_Q E r) (as.map (fm_v E)).toArray s (fm_dna z) (fm_dsl z) (fm_A E)) σ.2.2.2.1 z r := by
    intro pc H locs ls hP' hS' hk
    rw [e1, e2]
    rcases hk with ⟨hd, hret, h1⟩ | ⟨x, hd, h1, hret⟩
    · rw [hret] at hr
      rw [h1]
      exact W.vret hx hb hr (fun t ht hW => ⟨by rw [h1]; rfl, by rw [ht]; exact hP', hS'.F ht⟩) hS'.2.2 hd
    · rw [h1]
      rcases hret with hret | ⟨hret, hx01⟩
      · rw [hret] at hr
        exact W.iret (v := fm_i x) hx hb hr (fun t ht hW => ⟨by rw [h1]; rfl, by rw [ht]; exact hP', hS'.F ht⟩) hS'.2.2 hd
      · rw [hret] at hr
        exact W.zret (v := fm_i x) hx hb hr (by rcases hx01 with rfl | rfl <;> rfl) (fun t ht hW => ⟨by rw [h1]; rfl, by rw [ht]; exact hP', hS'.F ht⟩) hS'.2.2 hd
  have k := ih p e s m (as.map (fm_v E)).toArray below meth c _ _ X hRt s.heap [] _ hP (fm_L_ent hl) va_S.rf (fm_ent_len hl) (Nat.le_refl _) hn
  have k : W p l e (headSpec (fm_ws z) (fm_rm z)).room s m (as.map (fm_v E)).toArray below meth c s.heap [] (σ.2.2.2.1 - σ.2.2.2.1) (fm_sz σ.2.2.2.1 - fm_sz σ.2.2.2.1) _ (F0 m 0 _ []) := k
  rw [Nat.sub_self, Nat.sub_self] at k
  rw [lg_entry_eq]
  exact k
theorem fm_sound {E : fm_E} {l : Launch} {n : Nat} (hww : fm_WW E l n) : ∀ (N y : Nat) (c : fm_C) (r : Option fm_V × fm_S), fm_run N y c = some r → ∀ (p : Program) (e : Env) (s : State) (m : MethodId) (args : Array Value) (below : List Frame) (meth : Method) (cc : Code) (R : Room) (Q : State → Prop) (na0 : Nat), fm_Cx E p R s m args meth cc n y → fm_Rt E p l e R s m args below meth cc Q na0 y r → r.2.2.2.2.1 = na0 + fm_dna y → fm_sz r.2.2.2.2.1 = fm_sz na0 + fm_dsl y → c.2.2.2.2.2.2.1 ≤ 96 → c.2.2.2.2.2.2.2 = n → fm_Wn E p l e R s m args below meth cc Q na0 n y c := by
  intro N
  induction N with
  | zero => intro y c r h; simp [fm_run] at h
  | succ N ih =>
    intro y c r h p e s m args below meth cc R Q na0 X hRt hr1 hr2 h96 hcn
    have hmono := fm_run_na _ _ _ _ h
    rw [fm_run] at h
    cases hs : fm_step y c with
    | none => rw [hs] at h; cases h
    | some o =>
      rw [hs] at h
      obtain ⟨ins, len, a, b, k, hc, hx⟩ := fm_step_row hs
      obtain ⟨hd, hk⟩ := fm_row hc
      obtain ⟨pc, lsA, st, σ⟩ := c
      dsimp only at hx h96 hcn hmono hd hk
      match o, h, hx with
      | .inl c', h, hx =>
        have h1 := fm_run_na _ _ _ _ h
        have hc96 : c'.2.2.2.2.2.2.1 ≤ 96 ∧ c'.2.2.2.2.2.2.2 = n := by
          rcases fm_exec_na hx with h2 | ⟨h0, h2⟩
          · rw [h2]; exact ⟨h96, hcn⟩
          · rw [h2]; exact ⟨by show σ.2.2.2.1 + 1 ≤ 96; omega, hcn⟩
        have hr96 := h1.2.1 hc96.1
        exact fm_exec_sound X hww hd hk hx (by rw [← hr1]; exact h1.1) (by rw [← hr2]; exact fm_sz_mono h1.1 hr96) h96 (ih y c' r h p e s m args below meth cc R Q na0 X hRt hr1 hr2 hc96.1 hc96.2)
      | .inr (.inl q), h, hx =>
        cases h
        obtain ⟨q1, q2, q3⟩ := fm_exec_ret hx
        intro H locs ls hP hL hS hln hna hn
        have hP : fm_Pic E σ H := hP
        show W p l e R s m args below meth cc H locs (σ.2.2.2.1 - na0) (fm_sz σ.2.2.2.1 - fm_sz na0) Q (F0 m pc ls (st.map (fm_v E)))
        rw [← q1] at hP ⊢
        rw [q2]
        refine hRt pc H locs ls hP hS ?_
        rcases q3 with ⟨rfl, e1⟩ | ⟨rfl, x, e1, e2⟩
        · simp only [fm_okB, Bool.and_eq_true, beq_iff_eq, decide_eq_true_eq] at hk
          obtain ⟨rfl, hk⟩ := hk
          exact Or.inl ⟨hd, hk, e1⟩
        · simp only [fm_okB, Bool.and_eq_true, Bool.or_eq_true, beq_iff_eq, decide_eq_true_eq] at hk
          obtain ⟨rfl, hk⟩ := hk
          refine Or.inr ⟨x, hd, e1, ?_⟩
          rcases hk with ⟨-, hk⟩ | ⟨ha, hk⟩
          · exact Or.inl hk
          · exact Or.inr ⟨hk, by omega⟩
      | .inr (.inr (z, as, c')), h, hx =>
        obtain ⟨rfl, rfl, has, hst, hr4, hsl, hb1, hb2, hkind⟩ := fm_exec_call hx
        dsimp only at h
        cases hz : fm_run N z (0, fm_ent z as, [], σ) with
        | none => rw [hz] at h; cases h
        | some q =>
          rw [hz] at h
          dsimp only at h
          split at h
          case isFalse => cases h
          rename_i hg
          have hg := fm_grB_iff.mp hg
          have h1 := fm_run_na _ _ _ _ hz
          dsimp only at h1
          have hq96 := h1.2.1 h96
          have h2 := fm_run_na _ _ _ _ h
          dsimp only at h2
          have hr96 := h2.2.1 hq96
          have hWq := ih y _ r h p e s m args below meth cc R Q na0 X hRt hr1 hr2 hq96 (h1.2.2.trans hcn)
          have hMet : z < 140 → z ≠ 137 → z ≠ 138 → Met l (fm_nm z) (fm_ws z) (fm_rm z) (fm_P E n as σ) (fm_Q E q) (fm_dna z) (fm_dsl z) (fm_A E) := fun t1 t2 t3 => fm_mtd t1 t2 t3 hsl hg hcn h96 (fun p e s m args below meth cc R Q X' hRt' => ih z _ q hz p e s m args below meth cc R Q σ.2.2.2.1 X' hRt' hg.1 hg.2.1 h96 hcn)
          intro H locs ls hP hL hS hln hna hn
          have hP : fm_Pic E σ H := hP
          have hna : na0 ≤ σ.2.2.2.1 := hna
          have hszm := fm_sz_mono hna h96
          have hszq := fm_sz_mono h2.1 hr96
          have hR3 := X.2.2.2.2.2.2.2.2.2.1
          have hR4 := X.2.2.2.2.2.2.2.2.2.2
          have g1 := hg.1
          have g2 := hg.2.1
          have hf : σ.2.2.2.1 - na0 + fm_dna z ≤ R.cells ∧ fm_sz σ.2.2.2.1 - fm_sz na0 + fm_dsl z ≤ R.slots := by
            have h21 := h2.1
            constructor <;> omega
          have hstk : st = as.reverse ++ st.drop (fm_nar z) := by
            rw [has, List.reverse_reverse, List.take_append_drop]
          have hlen : as.length = fm_nar z := by rw [has, List.length_reverse, List.length_take]; omega
          have hsize : ls.size = fm_maxL y := by rw [hL.1]; exact hln
          generalize hrest : st.drop (fm_nar z) = rest at hstk hr4 hWq
          have back : ∀ (st0 : List Value), va_Run p l e R s m args below meth cc H locs (σ.2.2.2.1 - na0) (fm_sz σ.2.2.2.1 - fm_sz na0) (fm_dna z) (fm_dsl z) (F0 m pc ls st0) (rest.map (fm_v E)) (fm_Q E q (as.map (fm_v E)).toArray) (fm_A E) → W p l e R s m args below meth cc H locs (σ.2.2.2.1 - na0) (fm_sz σ.2.2.2.1 - fm_sz na0) Q (F0 m pc ls st0) := by
            intro st0 hrun
            refine fm_back hrun hS (fun H1 locs1 hP1 hS1 => ?_)
            have k := hWq H1 locs1 ls hP1 hL hS1 hln (by show na0 ≤ q.2.2.2.2.1; omega) (h1.2.2.trans hcn)
            have k : W p l e R s m args below meth cc H1 locs1 (q.2.2.2.2.1 - na0) (fm_sz q.2.2.2.2.1 - fm_sz na0) Q (F0 m (pc + 3) ls ((q.1.toList ++ rest).map (fm_v E))) := k
            rw [List.map_append] at k
            have e1 : σ.2.2.2.1 - na0 + fm_dna z = q.2.2.2.2.1 - na0 := by omega
            have e2 : fm_sz σ.2.2.2.1 - fm_sz na0 + fm_dsl z = fm_sz q.2.2.2.2.1 - fm_sz na0 := by omega
            rw [e1, e2]
            exact k
          show W p l e R s m args below meth cc H locs (σ.2.2.2.1 - na0) (fm_sz σ.2.2.2.1 - fm_sz na0) Q (F0 m pc ls (st.map (fm_v E)))
          rw [hstk, List.map_append, List.map_reverse]
          rcases hkind with ⟨ix, rfl, hrcv⟩ | ⟨ix, rfl, hrcv⟩ | ⟨ix, rfl⟩
          · simp only [fm_okB, Bool.and_eq_true, beq_iff_eq, Bool.not_eq_true'] at hk
            obtain ⟨⟨⟨⟨⟨rfl, rfl⟩, hstc⟩, hrm⟩, hml⟩, hsv⟩ := hk
            obtain ⟨⟨t1, t2, t3⟩, -⟩ := fm_rmB_ok hrm
            match as, hrcv with
            | .inr (.inr (some o)) :: ps, hrcv =>
              simp only [fm_rcv, decide_eq_true_eq] at hrcv
              have hrun := fm_x_cv (e := e) (below := below) (ls := ls) (cells := σ.2.2.2.1 - na0) (slots := fm_sz σ.2.2.2.1 - fm_sz na0) X (rest := rest) hd hstc hrm (fm_any3 hml) (fm_any1 hsv) (by simpa using hlen) hr4 hsize hrcv hP hS (hMet t1 t2 t3) hf
              have := back _ hrun
              simpa [fm_v] using this
          · simp only [fm_okB, Bool.and_eq_true, Bool.or_eq_true, beq_iff_eq, decide_eq_true_eq, Bool.not_eq_true'] at hk
            obtain ⟨rfl, hk⟩ := hk
            have hl : (b = 0 ∨ b = 3) ∧ fm_stc z = false ∧ fm_init z = true ∧ fm_ret z = none ∧ fm_rmB z y = true ∧ ((∃ q ∈ fm_ml, q.1 = fm_own y ∧ q.2.1 = ix ∧ q.2.2.1 = z) ∨ (∃ q ∈ fm_nl3, q.1 = fm_own y ∧ q.2.1 = ix ∧ q.2.2.1 = z)) := by
              rcases hk with (⟨⟨⟨h, -⟩, -⟩, -⟩ | ⟨⟨⟨⟨⟨h1, h2⟩, h3⟩, h4⟩, h5⟩, h6⟩) | ⟨⟨⟨⟨⟨h1, h2⟩, h3⟩, h4⟩, h5⟩, h6⟩
              · exact absurd h hb1
              · exact ⟨Or.inl h1, h2, h3, by simpa using h4, h5, Or.inl (fm_any3 h6)⟩
              · exact ⟨Or.inr h1, h2, h3, by simpa using h4, h5, Or.inr (fm_any3 h6)⟩
            obtain ⟨-, hstc, hini, hret, hrm, hl⟩ := hl
            obtain ⟨⟨t1, t2, t3⟩, -⟩ := fm_rmB_ok hrm
            match as, hrcv with
            | .inr (.inr (some o)) :: ps, hrcv =>
              have hrun := fm_x_ci (E := E) (e := e) (below := below) (ls := ls) (H := H) (locs := locs) (cells := σ.2.2.2.1 - na0) (slots := fm_sz σ.2.2.2.1 - fm_sz na0) (as := ps) (b := fm_rho E o) X (rest := rest) hd hstc hini hret hrm hl (by simpa using hlen) hr4 hsize (hMet t1 t2 t3) (fm_prS X.2.2.2.2.2.2.1 hP hS) hf
              have := back _ hrun
              simpa [fm_v] using this
          · simp only [fm_okB, Bool.and_eq_true, Bool.or_eq_true, beq_iff_eq, decide_eq_true_eq] at hk
            obtain ⟨rfl, hk⟩ := hk
            have hl : fm_stc z = true ∧ fm_rmB z y = true ∧ (∃ q ∈ fm_ml, q.1 = fm_own y ∧ q.2.1 = ix ∧ q.2.2.1 = z) := by
              rcases hk with ((⟨⟨⟨h1, h2⟩, h3⟩, h4⟩ | ⟨⟨⟨⟨h1, h2⟩, h3⟩, h4⟩, h5⟩) | ⟨⟨⟨⟨h1, h2⟩, h3⟩, h4⟩, h5⟩) | ⟨⟨⟨h1, h2⟩, h3⟩, h4⟩
              · exact ⟨h2, h3, fm_any3 h4⟩
              · exact absurd hx (by subst h1; intro q; simp only [fm_exec, fm_call] at q; (repeat' split at q) <;> cases q)
              · exact absurd hx (by subst h1; intro q; simp only [fm_exec, fm_call] at q; (repeat' split at q) <;> cases q)
              · exact absurd h1 hb2
            obtain ⟨hstc, hrm, hl⟩ := hl
            obtain ⟨⟨t1, t2, t3⟩, -⟩ := fm_rmB_ok hrm
            exact back _ (fm_x_cs (E := E) (e := e) (below := below) (ls := ls) (H := H) (locs := locs) (cells := σ.2.2.2.1 - na0) (slots := fm_sz σ.2.2.2.1 - fm_sz na0) X (rest := rest) hd hstc hrm hl hlen hr4 hsize (hMet t1 t2 t3) (fm_prS X.2.2.2.2.2.2.1 hP hS) hf)
