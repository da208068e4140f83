/-! ===== the flat memory and the heap ===== -/
/-- what a run stands on: the classes' numbers, the array classes, the first cell, the addresses of what was there before, the script -/
abbrev fm_E : Type := va_G × (FieldType → ClassId) × Nat × (Nat → Nat) × (Nat → Int32)
def fm_rho (E : fm_E) (i : Nat) : Nat := if i < 500 then E.2.2.1 + i else E.2.2.2.1 i
def fm_v (E : fm_E) (v : fm_V) : Value := match v with
  | .inl x => .int (fm_i x)
  | .inr (.inl x) => .long (fm_l x)
  | .inr (.inr none) => .null
  | .inr (.inr (some i)) => .ref (fm_rho E i)
def fm_fsl (E : fm_E) (σ : fm_S) (a ci : Nat) : List Value := (List.range (fm_nf ci)).map (fun k => fm_v E (fm_fget σ a k (fm_fty ci k)))
def fm_arc (E : fm_E) (σ : fm_S) (a : Nat) (ty : FieldType) (n : Nat) : va_E := if ty = .long then .inl (E.2.1 ty, n, .inr (.inl (fun j => fm_l (σ.2.1 a j)))) else .inl (E.2.1 ty, n, .inl (fun j => fm_i (σ.1 a j)))
def fm_cell (E : fm_E) (σ : fm_S) (a : Nat) : va_E := match fm_shp.getD a (.inr 0) with
  | .inl (ty, n) => fm_arc E σ a ty n
  | .inr ci => .inr (ci, fm_fsl E σ a ci)
def fm_A (E : fm_E) : Nat → Prop := fun q => E.2.2.1 ≤ q
def fm_Pic (E : fm_E) (σ : fm_S) (H : Heap) : Prop := σ.2.2.2.1 ≤ 96 ∧ H.size = E.2.2.1 + σ.2.2.2.1 ∧ (∀ a, a < σ.2.2.2.1 → va_at E.1 fm_cls (E.2.2.1 + a, fm_cell E σ a) H) ∧ ∀ j, j < σ.2.2.2.2 → E.2.2.2.2 j = fm_i (σ.1 500 j)
def fm_tys (E : fm_E) : List (ClassId × FieldType) := [(E.2.1 .int, .int), (E.2.1 .boolean, .boolean), (E.2.1 .byte, .byte), (E.2.1 .long, .long)]
def fm_strs : List (Nat × String × Nat) := [(19, "watch", 600), (25, "rest", 601), (27, "bill", 602), (29, "dull", 603), (31, "learn", 604), (33, "least", 605)]
def fm_slen : List Nat := [5, 4, 4, 4, 5, 5]
def fm_sbyt : List (List Int32) := [[119, 97, 116, 99, 104], [114, 101, 115, 116], [98, 105, 108, 108], [100, 117, 108, 108], [108, 101, 97, 114, 110], [108, 101, 97, 115, 116]]
def fm_Str (E : fm_E) (s : State) (H : Heap) : Prop := (∀ q ∈ fm_strs, vk_R "WatchBill$TextReader" q.1 q.2.1 (E.2.2.2.1 q.2.2) s) ∧ (∃ adV : Nat → Nat, vk_S 6 fm_slen fm_sbyt (fun i => E.2.2.2.1 (600 + i)) adV (fm_A E) s H) ∧ va_Z "java/lang/String" "COMPACT_STRINGS" "Z" (.int 1) (fm_A E) s H ∧ va_Zq "jdk/internal/util/Preconditions" "SIOOBE_FORMATTER" "Ljava/util/function/BiFunction;" (fm_A E) s H
/-- what stays: said of the state in which a method begins -/
def fm_G (E : fm_E) (s : State) (n : Nat) : Prop := va_K E.1 fm_cls (fm_tys E) s ∧ (∀ q ∈ fm_nl3, va_Nw (.methodLinkNest (fm_cnm q.1) q.2.1 (fm_nm q.2.2.1) "WatchBill") s) ∧ va_X (E.2.2.2.1 500) n E.2.2.2.2 s s.heap ∧ E.2.2.2.1 500 < E.2.2.1 ∧ E.2.2.1 ≤ s.heap.size ∧ fm_Str E s s.heap
def fm_lv (E : fm_E) (ls : List (Option fm_V)) : List (Nat × Value) := (List.range ls.length).filterMap (fun i => (ls.getD i none).map (fun v => (i, fm_v E v)))
def fm_L (E : fm_E) (lsA : List (Option fm_V)) (ls : Array Slot) : Prop := lv_has ls lsA.length (fm_lv E lsA)
theorem fm_lv_mem {E : fm_E} {ls : List (Option fm_V)} {i : Nat} {v : Value} : (i, v) ∈ fm_lv E ls ↔ ∃ w, ls.getD i none = some w ∧ v = fm_v E w := by
  unfold fm_lv
  simp only [List.mem_filterMap, List.mem_range, Option.map_eq_some_iff, Prod.mk.injEq]
  constructor
  · rintro ⟨j, hj, w, hw, rfl, rfl⟩
    exact ⟨w, hw, rfl⟩
  · rintro ⟨w, hw, rfl⟩
    refine ⟨i, ?_, w, hw, rfl, rfl⟩
    by_cases h : i < ls.length
    · exact h
    · rw [List.getD_eq_getElem?_getD, List.getElem?_eq_none (by omega)] at hw
      cases hw
theorem fm_L.get {E : fm_E} {lsA : List (Option fm_V)} {ls : Array Slot} (h : fm_L E lsA ls) {i : Nat} {w : fm_V} (hw : lsA.getD i none = some w) : ls[i]? = some (.val (fm_v E w)) :=
  h.2.2 (i, fm_v E w) (fm_lv_mem.mpr ⟨w, hw, rfl⟩)
theorem fm_v_cat {E : fm_E} {v : fm_V} (h : fm_nl (some v) = true) : (fm_v E v).category = 1 := by
  match v with
  | .inl x => rfl
  | .inr (.inl x) => cases h
  | .inr (.inr none) => rfl
  | .inr (.inr (some i)) => rfl
/-- the locals behind a store -/
theorem fm_L.store {E : fm_E} {lsA : List (Option fm_V)} {a : Nat} {w : fm_V} (hp : fm_nl (fm_prev lsA a) = true) {ls' : Array Slot} (ha : a < lsA.length) (h : lv_has ls' lsA.length ((a, fm_v E w) :: (fm_lv E lsA).filter (fun q => !(q.1 == a) && !(q.1 + 1 == a && q.2.category == 2)))) : fm_L E (lsA.set a (some w)) ls' := by
  refine ⟨by rw [List.length_set]; exact h.1, h.2.1, fun q hq => h.2.2 q ?_⟩
  obtain ⟨i, v⟩ := q
  obtain ⟨u, hu, rfl⟩ := fm_lv_mem.mp hq
  rw [List.getD_eq_getElem?_getD, List.getElem?_set] at hu
  by_cases hi : a = i
  · subst hi
    simp [ha] at hu
    subst hu
    exact List.mem_cons_self
  · simp [hi] at hu
    refine List.mem_cons_of_mem _ (List.mem_filter.mpr ⟨fm_lv_mem.mpr ⟨u, by rw [List.getD_eq_getElem?_getD]; exact hu, rfl⟩, ?_⟩)
    simp only [Bool.and_eq_true, Bool.not_eq_true', beq_eq_false_iff_ne, ne_eq, Bool.and_eq_false_imp, beq_iff_eq]
    refine ⟨fun q => hi q.symm, fun q => ?_⟩
    have hpu : fm_nl (some u) = true := by
      have : fm_prev lsA a = some u := by
        subst q
        show lsA.getD i none = some u
        rw [List.getD_eq_getElem?_getD]; exact hu
      rw [this] at hp
      exact hp
    rw [fm_v_cat hpu]
    decide
/-! numbers -/
theorem fm_i_add (x y : Int) : fm_i x + fm_i y = fm_i (x + y) := (Int32.ofInt_add ..).symm
theorem fm_i_sub (x y : Int) : fm_i x - fm_i y = fm_i (x - y) := (Int32.ofInt_sub ..).symm
theorem fm_i_mul (x y : Int) : fm_i x * fm_i y = fm_i (x * y) := (Int32.ofInt_mul ..).symm
theorem fm_l_add (x y : Int) : fm_l x + fm_l y = fm_l (x + y) := (Int64.ofInt_add ..).symm
theorem fm_l_sub (x y : Int) : fm_l x - fm_l y = fm_l (x - y) := (Int64.ofInt_sub ..).symm
theorem fm_l_mul (x y : Int) : fm_l x * fm_l y = fm_l (x * y) := (Int64.ofInt_mul ..).symm
theorem fm_i_to (x : Int32) : fm_i x.toInt = x := Int32.ofInt_toInt _
theorem fm_l_to (x : Int64) : fm_l x.toInt = x := Int64.ofInt_toInt _
theorem fm_i_eq (x y : Int) : fm_i x = fm_i y ↔ wr x = wr y := Int32.toInt_inj.symm
theorem fm_i_lt (x y : Int) : fm_i x < fm_i y ↔ wr x < wr y := Int32.lt_iff_toInt_lt
theorem fm_i_le (x y : Int) : fm_i x ≤ fm_i y ↔ wr x ≤ wr y := Int32.le_iff_toInt_le
theorem fm_i_0 : fm_i 0 = 0 := by decide
theorem fm_i_1 : fm_i 1 = 1 := by decide
theorem wr_0 : wr 0 = 0 := by decide
theorem fm_i2l (x : Int) : (fm_i x).toInt64 = fm_l (wr x) := by
  apply Int64.toInt_inj.mp
  rw [Int32.toInt_toInt64]
  have h1 := wr_lo x
  have h2 := wr_hi x
  show wr x = wl (wr x)
  rw [wl_id (by omega) (by omega)]
theorem fm_lcmp_ok (x y : Int) : lg_cmp (fm_l x) (fm_l y) = fm_i (fm_lcmp x y) := by
  unfold lg_cmp fm_lcmp
  have e1 : (fm_l x > fm_l y) ↔ wl y < wl x := Int64.lt_iff_toInt_lt
  have e2 : (fm_l x = fm_l y) ↔ wl x = wl y := Int64.toInt_inj.symm
  by_cases h1 : wl y < wl x
  · rw [if_pos (e1.mpr h1), if_neg (by omega), if_pos h1]
    decide
  · rw [if_neg (fun q => h1 (e1.mp q))]
    by_cases h2 : wl x = wl y
    · rw [if_pos (e2.mpr h2), if_neg (by omega), if_neg (by omega)]
      decide
    · rw [if_neg (fun q => h2 (e2.mp q)), if_pos (by omega)]
      decide
theorem fm_in {q : Option (FieldType × Nat)} {ty : FieldType} {i : Int} (h : fm_inB q ty i = true) : ∃ n, q = some (ty, n) ∧ vp_in (fm_i i) n := by
  match q, h with
  | some (t, n), h =>
    simp only [fm_inB, decide_eq_true_eq] at h
    obtain ⟨rfl, h1, h2⟩ := h
    exact ⟨n, rfl, vp_in_iff.mpr ⟨h1, h2⟩⟩
