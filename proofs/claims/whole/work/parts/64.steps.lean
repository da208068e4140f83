/-! ===== one instruction: from the flat machine's next state to the real one's ===== -/
def fm_Cx (E : fm_E) (p : Program) (R : Room) (s : State) (m : MethodId) (args : Array Value) (meth : Method) (cc : Code) (n y : Nat) : Prop :=
  p.tables.exec = Jvm.exec ∧ cc.code = fm_by y ∧ cc.maxLocals = fm_maxL y ∧ s.vm.findClass (fm_cnm (fm_own y)) = some m.cls ∧ (∀ w ∈ fm_big, w.before args s = true) ∧ (fm_init y = true → meth.name = "<init>") ∧ fm_G E s n ∧ fm_fr y ≤ R.frames ∧ fm_lo y ≤ R.locals ∧ fm_dna y ≤ R.cells ∧ fm_dsl y ≤ R.slots
def fm_Wn (E : fm_E) (p : Program) (l : Launch) (e : Env) (R : Room) (s : State) (m : MethodId) (args : Array Value) (below : List Frame) (meth : Method) (cc : Code) (Q : State → Prop) (na0 n y : Nat) (c : fm_C) : Prop :=
  ∀ (H : Heap) (locs : List Loc) (ls : Array Slot), fm_Pic E c.2.2.2 H → fm_L E c.2.1 ls → va_S (fm_A E) s.heap H locs → c.2.1.length = fm_maxL y → na0 ≤ c.2.2.2.2.2.2.1 → c.2.2.2.2.2.2.2 = n →
    W p l e R s m args below meth cc H locs (c.2.2.2.2.2.2.1 - na0) (fm_sz c.2.2.2.2.2.2.1 - fm_sz na0) Q (F0 m c.1 ls (c.2.2.1.map (fm_v E)))
section FMX
variable {E : fm_E} {p : Program} {l : Launch} {e : Env} {R : Room} {s : State} {m : MethodId} {args : Array Value} {below : List Frame} {meth : Method} {cc : Code} {Q : State → Prop} {na0 n y pc : Nat} {lsA : List (Option fm_V)} {st : List fm_V} {σ : fm_S}
/-- a step that neither reads nor writes the heap, nor writes a local -/
theorem fm_pure {pc' : Nat} {st' : List fm_V} (h : ∀ (H : Heap) (locs : List Loc) (ls : Array Slot) (cells slots : Nat), fm_L E lsA ls → W p l e R s m args below meth cc H locs cells slots Q (F0 m pc' ls (st'.map (fm_v E))) → W p l e R s m args below meth cc H locs cells slots Q (F0 m pc ls (st.map (fm_v E))))
    (hW : fm_Wn E p l e R s m args below meth cc Q na0 n y (pc', lsA, st', σ)) : fm_Wn E p l e R s m args below meth cc Q na0 n y (pc, lsA, st, σ) :=
  fun H locs ls hP hL hS hl h1 h2 => h H locs ls _ _ hL (hW H locs ls hP hL hS hl h1 h2)
theorem fm_x_bin (X : fm_Cx E p R s m args meth cc n y) {f : Int → Int → Int} {c' : fm_C} (hs : fm_bin f pc lsA st σ = some (.inl c'))
    (row : ∀ (x z : Int) (H : Heap) (locs : List Loc) (ls : Array Slot) (cells slots : Nat) (rest : List Value), W p l e R s m args below meth cc H locs cells slots Q (F0 m (pc + 1) ls (.int (fm_i (f x z)) :: rest)) → W p l e R s m args below meth cc H locs cells slots Q (F0 m pc ls (.int (fm_i z) :: .int (fm_i x) :: rest)))
    (hW : fm_Wn E p l e R s m args below meth cc Q na0 n y c') : fm_Wn E p l e R s m args below meth cc Q na0 n y (pc, lsA, st, σ) := by
  unfold fm_bin at hs
  split at hs
  · cases hs
    exact fm_pure (fun H locs ls cells slots _ k => row _ _ H locs ls cells slots _ k) hW
  · cases hs
theorem fm_x_lbin (X : fm_Cx E p R s m args meth cc n y) {f : Int → Int → Int} {c' : fm_C} (hs : fm_lbin f pc lsA st σ = some (.inl c'))
    (row : ∀ (x z : Int) (H : Heap) (locs : List Loc) (ls : Array Slot) (cells slots : Nat) (rest : List Value), W p l e R s m args below meth cc H locs cells slots Q (F0 m (pc + 1) ls (.long (fm_l (f x z)) :: rest)) → W p l e R s m args below meth cc H locs cells slots Q (F0 m pc ls (.long (fm_l z) :: .long (fm_l x) :: rest)))
    (hW : fm_Wn E p l e R s m args below meth cc Q na0 n y c') : fm_Wn E p l e R s m args below meth cc Q na0 n y (pc, lsA, st, σ) := by
  unfold fm_lbin at hs
  split at hs
  · cases hs
    exact fm_pure (fun H locs ls cells slots _ k => row _ _ H locs ls cells slots _ k) hW
  · cases hs
theorem fm_x_una (X : fm_Cx E p R s m args meth cc n y) {f : Int → Int} {c' : fm_C} (hs : fm_una f pc lsA st σ = some (.inl c'))
    (row : ∀ (x : Int) (H : Heap) (locs : List Loc) (ls : Array Slot) (cells slots : Nat) (rest : List Value), W p l e R s m args below meth cc H locs cells slots Q (F0 m (pc + 1) ls (.int (fm_i (f x)) :: rest)) → W p l e R s m args below meth cc H locs cells slots Q (F0 m pc ls (.int (fm_i x) :: rest)))
    (hW : fm_Wn E p l e R s m args below meth cc Q na0 n y c') : fm_Wn E p l e R s m args below meth cc Q na0 n y (pc, lsA, st, σ) := by
  unfold fm_una at hs
  split at hs
  · cases hs
    exact fm_pure (fun H locs ls cells slots _ k => row _ H locs ls cells slots _ k) hW
  · cases hs
theorem fm_x_ild {a pc' : Nat} {c' : fm_C} (hs : fm_ild a pc' lsA st σ = some (.inl c'))
    (row : ∀ (x : Int) (H : Heap) (locs : List Loc) (ls : Array Slot) (cells slots : Nat) (rest : List Value), ls[a]? = some (.val (.int (fm_i x))) → W p l e R s m args below meth cc H locs cells slots Q (F0 m pc' ls (.int (fm_i x) :: rest)) → W p l e R s m args below meth cc H locs cells slots Q (F0 m pc ls rest))
    (hW : fm_Wn E p l e R s m args below meth cc Q na0 n y c') : fm_Wn E p l e R s m args below meth cc Q na0 n y (pc, lsA, st, σ) := by
  unfold fm_ild at hs
  split at hs
  · rename_i x hx
    cases hs
    exact fm_pure (fun H locs ls cells slots hL k => row x H locs ls cells slots _ (hL.get hx) k) hW
  · cases hs
theorem fm_x_lld {a pc' : Nat} {c' : fm_C} (hs : fm_lld a pc' lsA st σ = some (.inl c'))
    (row : ∀ (x : Int) (H : Heap) (locs : List Loc) (ls : Array Slot) (cells slots : Nat) (rest : List Value), ls[a]? = some (.val (.long (fm_l x))) → W p l e R s m args below meth cc H locs cells slots Q (F0 m pc' ls (.long (fm_l x) :: rest)) → W p l e R s m args below meth cc H locs cells slots Q (F0 m pc ls rest))
    (hW : fm_Wn E p l e R s m args below meth cc Q na0 n y c') : fm_Wn E p l e R s m args below meth cc Q na0 n y (pc, lsA, st, σ) := by
  unfold fm_lld at hs
  split at hs
  · rename_i x hx
    cases hs
    exact fm_pure (fun H locs ls cells slots hL k => row x H locs ls cells slots _ (hL.get hx) k) hW
  · cases hs
theorem fm_x_ald {a pc' : Nat} {c' : fm_C} (hs : fm_ald a pc' lsA st σ = some (.inl c'))
    (row : ∀ (x : Nat) (H : Heap) (locs : List Loc) (ls : Array Slot) (cells slots : Nat) (rest : List Value), ls[a]? = some (.val (.ref x)) → W p l e R s m args below meth cc H locs cells slots Q (F0 m pc' ls (.ref x :: rest)) → W p l e R s m args below meth cc H locs cells slots Q (F0 m pc ls rest))
    (hW : fm_Wn E p l e R s m args below meth cc Q na0 n y c') : fm_Wn E p l e R s m args below meth cc Q na0 n y (pc, lsA, st, σ) := by
  unfold fm_ald at hs
  split at hs
  · rename_i x hx
    cases hs
    exact fm_pure (fun H locs ls cells slots hL k => row (fm_rho E x) H locs ls cells slots _ (hL.get hx) k) hW
  · cases hs
/-- a store of a local -/
theorem fm_x_st {a pc' : Nat} {w : fm_V} {st' : List fm_V} {c' : fm_C} (hs : fm_st a w pc' lsA st' σ = some (.inl c'))
    (row : ∀ (H : Heap) (locs : List Loc) (ls : Array Slot) (cells slots : Nat), a < lsA.length → lv_has ls lsA.length (fm_lv E lsA) → (∀ ls' : Array Slot, lv_has ls' lsA.length ((a, fm_v E w) :: (fm_lv E lsA).filter (fun q => !(q.1 == a) && !(q.1 + 1 == a && q.2.category == 2))) → W p l e R s m args below meth cc H locs cells slots Q (F0 m pc' ls' (st'.map (fm_v E)))) → W p l e R s m args below meth cc H locs cells slots Q (F0 m pc ls (st.map (fm_v E))))
    (hW : fm_Wn E p l e R s m args below meth cc Q na0 n y c') : fm_Wn E p l e R s m args below meth cc Q na0 n y (pc, lsA, st, σ) := by
  unfold fm_st at hs
  split at hs
  · rename_i h
    cases hs
    intro H locs ls hP hL hS hl h1 h2
    exact row H locs ls _ _ h.1 hL (fun ls' h' => hW H locs ls' hP (fm_L.store h.2 h.1 h') hS (by show (lsA.set a (some w)).length = _; rw [List.length_set]; exact hl) h1 h2)
  · cases hs
theorem fm_x_cmp (X : fm_Cx E p R s m args meth cc n y) {cd : Jvm.ClassFile.Cond} {off : Int} {a : Nat} {x z : Int} {rest : List fm_V} (hd : decode (fm_by y) pc = .ok (.if_icmp cd off, 3)) (ht : (pc : Int) + off = (a : Int))
    (hW : fm_Wn E p l e R s m args below meth cc Q na0 n y (if fm_cmp cd x z = true then a else pc + 3, lsA, rest, σ)) : fm_Wn E p l e R s m args below meth cc Q na0 n y (pc, lsA, .inl z :: .inl x :: rest, σ) := by
  obtain ⟨hx, hb, -⟩ := X
  intro H locs ls hP hL hS hl h1 h2
  have kt : fm_cmp cd x z = true → W p l e R s m args below meth cc H locs (σ.2.2.2.1 - na0) (fm_sz σ.2.2.2.1 - fm_sz na0) Q (F0 m a ls (rest.map (fm_v E))) := fun q => by
    rw [if_pos q] at hW; exact hW H locs ls hP hL hS hl h1 h2
  have kf : ¬ fm_cmp cd x z = true → W p l e R s m args below meth cc H locs (σ.2.2.2.1 - na0) (fm_sz σ.2.2.2.1 - fm_sz na0) Q (F0 m (pc + 3) ls (rest.map (fm_v E))) := fun q => by
    rw [if_neg q] at hW; exact hW H locs ls hP hL hS hl h1 h2
  cases cd
  · exact lv_icmp_eq (tgt := a) hx hb hd ht (fun c => kt (decide_eq_true ((fm_i_eq x z).mp c))) (fun c => kf (fun q => c ((fm_i_eq x z).mpr (of_decide_eq_true q))))
  · exact lv_icmp_ne (tgt := a) hx hb hd ht (fun c => kt (decide_eq_true (p := ¬ wr x = wr z) (fun q => c ((fm_i_eq x z).mpr q)))) (fun c => kf (fun q => of_decide_eq_true (p := ¬ wr x = wr z) q ((fm_i_eq x z).mp c)))
  · exact lv_icmp_lt (tgt := a) hx hb hd ht (fun c => kt (decide_eq_true ((fm_i_lt x z).mp c))) (fun c => kf (fun q => c ((fm_i_lt x z).mpr (of_decide_eq_true q))))
  · exact lv_icmp_ge (tgt := a) hx hb hd ht (fun c => kt (decide_eq_true ((fm_i_le z x).mp c))) (fun c => kf (fun q => c ((fm_i_le z x).mpr (of_decide_eq_true q))))
  · exact lv_icmp_gt (tgt := a) hx hb hd ht (fun c => kt (decide_eq_true ((fm_i_lt z x).mp c))) (fun c => kf (fun q => c ((fm_i_lt z x).mpr (of_decide_eq_true q))))
  · exact lv_icmp_le (tgt := a) hx hb hd ht (fun c => kt (decide_eq_true ((fm_i_le x z).mp c))) (fun c => kf (fun q => c ((fm_i_le x z).mpr (of_decide_eq_true q))))
theorem fm_x_if (X : fm_Cx E p R s m args meth cc n y) {cd : Jvm.ClassFile.Cond} {off : Int} {a : Nat} {x : Int} {rest : List fm_V} (hd : decode (fm_by y) pc = .ok (.ifCond cd off, 3)) (ht : (pc : Int) + off = (a : Int))
    (hW : fm_Wn E p l e R s m args below meth cc Q na0 n y (if fm_cmp cd x 0 = true then a else pc + 3, lsA, rest, σ)) : fm_Wn E p l e R s m args below meth cc Q na0 n y (pc, lsA, .inl x :: rest, σ) := by
  obtain ⟨hx, hb, -⟩ := X
  intro H locs ls hP hL hS hl h1 h2
  have kt : fm_cmp cd x 0 = true → W p l e R s m args below meth cc H locs (σ.2.2.2.1 - na0) (fm_sz σ.2.2.2.1 - fm_sz na0) Q (F0 m a ls (rest.map (fm_v E))) := fun q => by
    rw [if_pos q] at hW; exact hW H locs ls hP hL hS hl h1 h2
  have kf : ¬ fm_cmp cd x 0 = true → W p l e R s m args below meth cc H locs (σ.2.2.2.1 - na0) (fm_sz σ.2.2.2.1 - fm_sz na0) Q (F0 m (pc + 3) ls (rest.map (fm_v E))) := fun q => by
    rw [if_neg q] at hW; exact hW H locs ls hP hL hS hl h1 h2
  have z0 : fm_i 0 = 0 := fm_i_0
  have e1 : fm_i x = 0 ↔ wr x = wr 0 := by rw [← z0]; exact fm_i_eq x 0
  have e2 : fm_i x < 0 ↔ wr x < wr 0 := by rw [← z0]; exact fm_i_lt x 0
  have e3 : (0 : Int32) ≤ fm_i x ↔ wr 0 ≤ wr x := by rw [← z0]; exact fm_i_le 0 x
  have e4 : (0 : Int32) < fm_i x ↔ wr 0 < wr x := by rw [← z0]; exact fm_i_lt 0 x
  have e5 : fm_i x ≤ 0 ↔ wr x ≤ wr 0 := by rw [← z0]; exact fm_i_le x 0
  cases cd
  · exact lv_if_eq (tgt := a) hx hb hd ht (fun c => kt (decide_eq_true (e1.mp c))) (fun c => kf (fun q => c (e1.mpr (of_decide_eq_true q))))
  · exact lv_if_ne (tgt := a) hx hb hd ht (fun c => kt (decide_eq_true (p := ¬ wr x = wr 0) (fun q => c (e1.mpr q)))) (fun c => kf (fun q => of_decide_eq_true (p := ¬ wr x = wr 0) q (e1.mp c)))
  · exact lv_if_lt (tgt := a) hx hb hd ht (fun c => kt (decide_eq_true (e2.mp c))) (fun c => kf (fun q => c (e2.mpr (of_decide_eq_true q))))
  · exact lv_if_ge (tgt := a) hx hb hd ht (fun c => kt (decide_eq_true (e3.mp c))) (fun c => kf (fun q => c (e3.mpr (of_decide_eq_true q))))
  · exact lv_if_gt (tgt := a) hx hb hd ht (fun c => kt (decide_eq_true (e4.mp c))) (fun c => kf (fun q => c (e4.mpr (of_decide_eq_true q))))
  · exact lv_if_le (tgt := a) hx hb hd ht (fun c => kt (decide_eq_true (e5.mp c))) (fun c => kf (fun q => c (e5.mpr (of_decide_eq_true q))))
theorem fm_x_tsw (X : fm_Cx E p R s m args meth cc n y) {d lo hi : Int} {offs : Array Int} {len : Nat} {x : Int} {rest : List fm_V} (hd : decode (fm_by y) pc = .ok (.tableswitch d lo hi offs, len)) (hz : offs.size = (hi - lo + 1).toNat) (h0 : 0 ≤ fm_tsw pc d lo hi offs x)
    (hW : fm_Wn E p l e R s m args below meth cc Q na0 n y ((fm_tsw pc d lo hi offs x).toNat, lsA, rest, σ)) : fm_Wn E p l e R s m args below meth cc Q na0 n y (pc, lsA, .inl x :: rest, σ) := by
  obtain ⟨hx, hb, -⟩ := X
  intro H locs ls hP hL hS hl h1 h2
  have k := hW H locs ls hP hL hS hl h1 h2
  have ht : ((fm_tsw pc d lo hi offs x).toNat : Int) = fm_tsw pc d lo hi offs x := Int.toNat_of_nonneg h0
  by_cases ho : wr x < lo ∨ hi < wr x
  · refine lv_tableOut (tgt := (fm_tsw pc d lo hi offs x).toNat) hx hb hd ho ?_ k
    rw [ht, fm_tsw, if_pos ho]
  · have hlt : (wr x - lo).toNat < offs.size := by rw [hz]; omega
    refine lv_tableIn (tgt := (fm_tsw pc d lo hi offs x).toNat) (off := offs.getD (wr x - lo).toNat d) hx hb hd (fun q => ho (Or.inl q)) (fun q => ho (Or.inr q)) ?_ ?_ k
    · show offs[(wr x - lo).toNat]? = _
      rw [Array.getD_eq_getD_getElem?, Array.getElem?_eq_getElem hlt]
      rfl
    · rw [ht, fm_tsw, if_neg ho]
theorem fm_x_lsw (X : fm_Cx E p R s m args meth cc n y) {d : Int} {ps : Array (Int × Int)} {len : Nat} {x : Int} {rest : List fm_V} (hd : decode (fm_by y) pc = .ok (.lookupswitch d ps, len)) (hp : (ps.toList.zip (ps.toList.drop 1)).all (fun (a, next) => a.1 < next.1) = true) (h0 : 0 ≤ fm_lsw pc d ps x)
    (hW : fm_Wn E p l e R s m args below meth cc Q na0 n y ((fm_lsw pc d ps x).toNat, lsA, rest, σ)) : fm_Wn E p l e R s m args below meth cc Q na0 n y (pc, lsA, .inl x :: rest, σ) := by
  obtain ⟨hx, hb, -⟩ := X
  intro H locs ls hP hL hS hl h1 h2
  have k := hW H locs ls hP hL hS hl h1 h2
  have ht : ((fm_lsw pc d ps x).toNat : Int) = fm_lsw pc d ps x := Int.toNat_of_nonneg h0
  exact lv_lookup (tgt := (fm_lsw pc d ps x).toNat) hx hb hd hp rfl (by rw [ht]; rfl) k
end FMX
