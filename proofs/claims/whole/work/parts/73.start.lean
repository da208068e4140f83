def R_law : String := "WatchBillLaw"
def lw_P (b : Addr) (xs : List Int32) (args : Array Value) (s : State) : Prop := args = #[.ref b] ∧ s.IntsAt b xs ∧ xs.length ≤ 3072 ∧ (Jvm.Cond.and given_1 narrow_1).before args s = true
def lw_Q (_ : Array Value) (s : State) (o : Outcome) (t : State) : Prop := o = .returned (some (.int 1)) ∧ Framed s o t [] 600000 7302250
def lw_Z (below : List Frame) (a : Array Value) (s : State) : State → Prop := fun t => ∃ o, t.status = .running ∧ Ended t below o ∧ lw_Q a s o t
/-- the law's own end, with 1 on the stack, nothing written that was there before, its room as the claim has it -/
theorem lw_ret {p : Program} {l : Launch} {e : Env} {s : State} {m : MethodId} {below : List Frame} {meth : Method} {c : Code} {b : Nat} (hx : p.tables.exec = Jvm.exec) (hb : c.code = code) (hr : meth.sig.returnType = ret) (hlocks : meth.locks = false) {pc : Nat} {H : Heap} {ls : Array Slot} (hdg : decode code pc = .ok (.ireturn, 1)) : W p l e room_1 s m #[Value.ref b] below meth c H [] 600000 7302250 (lw_Z below #[Value.ref b] s) (F0 m pc ls [.int 1]) := by
  intro T hT X
  obtain ⟨fs, hret, hrun, hended, hW, hframe⟩ := X.leave (v := some (.int 1)) (hlocks := hlocks) (fun h => by rw [hr] at h; cases h)
  have hmeth' : T.vm.method? m = some meth := X.method'
  refine ⟨T.setFrames fs, ?_, .returned (some (.int 1)), hrun, hended, rfl, ⟨_, rfl⟩, hW, hframe⟩
  jvm_step X.here [X.here.top, hx, hb, hdg, hmeth', hr, ret, narrow_b1]
  (try refine ⟨rfl, ?_⟩); (try refine ⟨rfl, ?_⟩)
  first | (intro acts; rw [hret _ acts rfl rfl rfl]) | rw [hret _ _ rfl rfl rfl]
  exact Steps.refl _
/-- what holds at the law's entry: the machine, the code, the tables' words (any of lw_tbl by 'hts w (by decide +kernel)'), the script of L ints xs at the cell b, what the Statement gives of the start (any of its parts by flat_of_before) -/
def lw_At (p : Program) (s : State) (m : MethodId) (meth : Method) (c : Code) (b L : Nat) (xs : Nat → Int32) : Prop :=
  p.tables.exec = Jvm.exec ∧ c.code = code ∧ meth.sig.returnType = ret ∧ c.maxLocals = 4 ∧ s.vm.findClass R_law = some m.cls ∧ (∀ w ∈ lw_tbl, w.before #[Value.ref b] s = true) ∧ va_X b L xs s s.heap ∧ b < s.heap.size ∧ meth.locks = false ∧ (Jvm.Cond.and given_1 narrow_1).before #[Value.ref b] s = true
/-! ===== from the law's entry to the flat machine ===== -/
def fm_six : List Nat := [19, 25, 27, 29, 31, 33]
def fm_tm (i : Nat) : Term := .string "WatchBill$TextReader" (fm_six.getD i 19)
theorem fm_st_ex : ∀ i, i < 6 → Cond.exactly (fm_tm i) "java/lang/String" ∈ flatC (Jvm.Cond.and given_1 narrow_1) := by decide +kernel
theorem fm_st_co : ∀ i, i < 6 → Cond.eq (.field (fm_tm i) "java/lang/String" "coder" "B") (.int 0) ∈ flatC (Jvm.Cond.and given_1 narrow_1) := by decide +kernel
theorem fm_st_ar : ∀ i, i < 6 → Cond.arrayOf (.field (fm_tm i) "java/lang/String" "value" "[B") .byte ∈ flatC (Jvm.Cond.and given_1 narrow_1) := by decide +kernel
theorem fm_st_le : ∀ i, i < 6 → Cond.eq (.length (.field (fm_tm i) "java/lang/String" "value" "[B")) (.int (Int32.ofNat (fm_slen.getD i 0))) ∈ flatC (Jvm.Cond.and given_1 narrow_1) := by decide +kernel
theorem fm_st_el : ∀ i, i < 6 → ∀ j, j < fm_slen.getD i 0 → Cond.eq (.elem (.field (fm_tm i) "java/lang/String" "value" "[B") (.int (Int32.ofNat j))) (.int ((fm_sbyt.getD i []).getD j 0)) ∈ flatC (Jvm.Cond.and given_1 narrow_1) := by decide +kernel
theorem fm_st_ne : ∀ i, i < 6 → ∀ j, j < 6 → i ≠ j → (Cond.not (Cond.eq (fm_tm i) (fm_tm j)) ∈ flatC (Jvm.Cond.and given_1 narrow_1) ∨ Cond.not (Cond.eq (fm_tm j) (fm_tm i)) ∈ flatC (Jvm.Cond.and given_1 narrow_1)) := by decide +kernel
theorem fm_st_ref : ∀ q ∈ fm_strs, Cond.stringRef "WatchBill$TextReader" q.1 q.2.1 ∈ lw_tbl := by decide +kernel
theorem fm_st_cs : Cond.eq (.static "java/lang/String" "COMPACT_STRINGS" "Z") (.int 1) ∈ flatC (Jvm.Cond.and given_1 narrow_1) := by decide +kernel
theorem fm_st_ls : Cond.laysStatic "java/lang/String" "COMPACT_STRINGS" "Z" ∈ lw_tbl ∧ Cond.initialized "java/lang/String" ∈ lw_tbl := by decide +kernel
theorem fm_st_sf : Cond.isRef (.static "jdk/internal/util/Preconditions" "SIOOBE_FORMATTER" "Ljava/util/function/BiFunction;") ∈ flatC (Jvm.Cond.and given_1 narrow_1) ∧ Cond.laysStatic "jdk/internal/util/Preconditions" "SIOOBE_FORMATTER" "Ljava/util/function/BiFunction;" ∈ lw_tbl ∧ Cond.initialized "jdk/internal/util/Preconditions" ∈ lw_tbl := by decide +kernel
theorem fm_start {p : Program} {s : State} {m : MethodId} {meth : Method} {c : Code} {b L : Nat} {xs : Nat → Int32} (C0 : lw_At p s m meth c b L xs) : ∃ E : fm_E, E.2.2.1 = s.heap.size ∧ E.2.2.2.1 500 = b ∧ E.2.2.2.2 = xs ∧ fm_G E s L := by
  obtain ⟨hx, hb, hr, hml, hown, hts, hX, hbl, hlocks, hgv⟩ := C0
  have hflat := flat_of_before _ hgv
  have htb : ∀ w ∈ fm_big, w.before #[Value.ref b] s = true := fun w hw => hts w (fm_bigT hw)
  have hcls : ∀ k : Nat, ∃ q : ClassId × (Nat → Nat), k < 9 → u_Kn s (fm_cnm k) (fm_clT k) (fm_nf k) q.1 q.2 := by
    intro k
    by_cases hk : k < 9
    · obtain ⟨cC, iS, h⟩ := u_known (N := fm_nf k) htb (fm_in_lays hk) (htb _ (fm_bigOf (fm_ins_ok k hk) rfl))
      exact ⟨(cC, iS), fun _ => h⟩
    · exact ⟨(0, fun _ => 0), fun h => absurd h hk⟩
  obtain ⟨dq, hdq⟩ := Classical.axiomOfChoice hcls
  have harr : ∀ ty : FieldType, ∃ cA : ClassId, (Cond.arrayClass ty ∈ lw_tbl) → ArrOfT s cA ty ∧ s.vm.findClass ("[" ++ ty.toString) = some cA := by
    intro ty
    by_cases h : Cond.arrayClass ty ∈ lw_tbl
    · obtain ⟨cA, kA, comp, h1, h2, h3⟩ := Cond.arrayClass_spec (hts _ h)
      exact ⟨cA, fun _ => ⟨fun n z => ⟨fun k h => (by cases h), kA, h2, comp, h3⟩, h1⟩⟩
    · exact ⟨0, fun q => absurd q h⟩
  obtain ⟨ka, hka⟩ := Classical.axiomOfChoice harr
  have hA : ∀ a : Nat, a < s.heap.size → ¬ (fun q : Nat => s.heap.size ≤ q) a := fun a h => Nat.not_le.mpr h
  obtain ⟨adK, adV, hS, hK⟩ := vk_Sof (args := #[Value.ref b]) (s := s) (N := 6) (tm := fm_tm) (len := fm_slen) (byt := fm_sbyt) (A := fun q : Nat => s.heap.size ≤ q) (by decide)
    (fun i hi => hflat _ (fm_st_ex i hi)) (fun i hi => hflat _ (fm_st_co i hi)) (fun i hi => hflat _ (fm_st_ar i hi)) (fun i hi => hflat _ (fm_st_le i hi)) (fun i hi j hj => hflat _ (fm_st_el i hi j hj))
    (fun i j hi hj hij => (fm_st_ne i hi j hj hij).elim (fun h => Or.inl (hflat _ h)) (fun h => Or.inr (hflat _ h))) hA
  refine ⟨((fun k => (dq k).1, fun k => (dq k).2), ka, s.heap.size, fun i => if i = 500 then b else adK (i - 600), xs), rfl, rfl, rfl, ?_⟩
  have hI : Cond.arrayClass .int ∈ lw_tbl := List.mem_of_getElem? fm_arI
  have hZ : Cond.arrayClass .boolean ∈ lw_tbl := List.mem_of_getElem? fm_arZ
  have hB : Cond.arrayClass .byte ∈ lw_tbl := List.mem_of_getElem? fm_arB
  have hJ : Cond.arrayClass .long ∈ lw_tbl := List.mem_of_getElem? fm_arJ
  refine ⟨⟨fun k q hq => ?_, fun k q hq => ?_⟩, fun q hq => ?_, hX, hbl, Nat.le_refl _, fun q hq => ?_, ⟨adV, ?_⟩, ?_, ?_⟩
  · have hk : k < 9 := by
      have := (List.getElem?_eq_some_iff.mp hq).1
      simpa [fm_cls] using this
    rw [fm_cls_at k hk] at hq
    cases hq
    exact hdq k hk
  · match k, hq with
    | 0, hq => cases hq; exact hka _ hI
    | 1, hq => cases hq; exact hka _ hZ
    | 2, hq => cases hq; exact hka _ hB
    | 3, hq => cases hq; exact hka _ hJ
    | k + 4, hq => simp [fm_tys] at hq
  · exact va_Nw.of rfl (hts _ (List.mem_of_getElem? (fm_nl3_ok q hq)))
  · refine vk_R.of (hts _ (fm_st_ref q hq)) ?_
    simp only [fm_strs, List.mem_cons, List.not_mem_nil, or_false] at hq
    rcases hq with rfl | rfl | rfl | rfl | rfl | rfl
    · exact hK 0 (by decide)
    · exact hK 1 (by decide)
    · exact hK 2 (by decide)
    · exact hK 3 (by decide)
    · exact hK 4 (by decide)
    · exact hK 5 (by decide)
  · refine ⟨fun i hi => ?_, fun i j hi hj hij => ?_⟩
    · have h := hS.1 i hi
      have e : (if 600 + i = 500 then b else adK (600 + i - 600)) = adK i := by rw [if_neg (by omega), Nat.add_sub_cancel_left]
      show _ ∧ _
      simp only [e]
      exact h
    · refine hS.2 i j hi hj ?_
      have e : ∀ i, (if 600 + i = 500 then b else adK (600 + i - 600)) = adK i := fun i => by rw [if_neg (by omega), Nat.add_sub_cancel_left]
      have hij : (if 600 + i = 500 then b else adK (600 + i - 600)) = (if 600 + j = 500 then b else adK (600 + j - 600)) := hij
      rw [e, e] at hij
      exact hij
  · exact va_Zof (hts _ fm_st_ls.1) (hts _ fm_st_ls.2) (va_eqi (hflat _ fm_st_cs)) hA
  · exact va_Zqof (hts _ fm_st_sf.2.1) (hts _ fm_st_sf.2.2) (hflat _ fm_st_sf.1) hA
theorem fm_law_room : fm_fr 140 ≤ 10 ∧ fm_lo 140 ≤ 342 ∧ fm_dna 140 = 96 ∧ fm_dsl 140 = 862289 ∧ fm_maxL 140 = 4 ∧ fm_own 140 = 11 ∧ fm_sz 0 = 0 ∧ fm_sz 96 = 862289 ∧ fm_init 140 = false ∧ fm_ret 140 = some .boolean := by decide +kernel
/-- the claim's walk out of the flat machine's -/
theorem fm_whole {p : Program} {e : Env} {s : State} {m : MethodId} {below : List Frame} {meth : Method} {c : Code} (l : Launch) {b L : Nat} {xs : Nat → Int32} (C0 : lw_At p s m meth c b L xs)
    (hww : ∀ E : fm_E, E.2.2.1 = s.heap.size → fm_WW E l L)
    (hlaw : ∀ I : Nat → Nat → Int, (∀ j, -2147483648 ≤ I 500 j ∧ I 500 j < 2147483648) → fm_wp 140 (0, [some (.inr (.inr (some 500))), none, none, none], [], (I, fun _ _ => 0, fun _ _ => none, 0, L)) (fun r τ => r = some (.inl 1) ∧ τ.2.2.2.1 = 96)) :
    W p l e room_1 s m #[Value.ref b] below meth c s.heap [] 0 0 (lw_Z below #[Value.ref b] s) (entryFrame m ([Value.ref b] : List Value).toArray 4) := by
  obtain ⟨E, e1, e2, e3, hG⟩ := fm_start C0
  obtain ⟨hx, hb, hr, hml, hown, hts, hX, hbl, hlocks, hgv⟩ := C0
  obtain ⟨r1, r2, r3, r4, r5, r6, r7, r8, r9, r10⟩ := fm_law_room
  obtain ⟨N, r, hrun, hr1, hr2⟩ := hlaw (fun a j => if a = 500 then (xs j).toInt else 0) (fun j => ⟨Int32.le_toInt _, Int32.toInt_lt _⟩)
  have X : fm_Cx E p room_1 s m #[Value.ref b] meth c L 140 := by
    refine ⟨hx, hb, by rw [r5]; exact hml, by rw [r6]; exact hown, fun w hw => hts w (fm_bigT hw), fun h => ?_, hG, r1, r2, ?_, ?_⟩
    · rw [r9] at h; cases h
    · rw [r3]; decide
    · rw [r4]; decide
  have hRt : fm_Rt E p l e room_1 s m #[Value.ref b] below meth c (lw_Z below #[Value.ref b] s) 0 140 r := by
    intro pc H locs ls hP hS hk
    rcases hk with ⟨-, h, -⟩ | ⟨x, hd, h1, -⟩
    · rw [r10] at h; cases h
    · rw [hr2, r7, r8, hr1]
      refine va_forget (fun q hq => by have := hS.2.2 q hq; rw [← e1]; exact this) ?_
      refine W.widen (k := 600000) (n := 7302250) (by decide) (by decide) ?_
      exact lw_ret hx hb hr hlocks hd
  have hP0 : fm_Pic E (fun a j => if a = 500 then (xs j).toInt else 0, fun _ _ => 0, fun _ _ => none, 0, L) s.heap := by
    refine ⟨Nat.zero_le _, by rw [e1]; rfl, fun a ha => absurd ha (Nat.not_lt_zero _), fun j hj => ?_⟩
    rw [e3]
    show xs j = fm_i (if 500 = 500 then (xs j).toInt else 0)
    rw [if_pos rfl, fm_i_to]
  have k := fm_sound (hww E e1) N 140 _ r hrun p e s m #[Value.ref b] below meth c room_1 (lw_Z below #[Value.ref b] s) 0 X hRt (by rw [hr2, r3]) (by rw [hr2, r8, r7, r4]) (Nat.zero_le _) rfl
  have hrho : fm_rho E 500 = b := by unfold fm_rho; rw [if_neg (by decide)]; exact e2
  have hLe := fm_L_ent (E := E) (z := 140) (as := [.inr (.inr (some 500))]) (by show 1 ≤ fm_maxL 140; rw [r5]; decide)
  have hmp : ([.inr (.inr (some 500))] : List fm_V).map (fm_v E) = [Value.ref b] := by
    show [Value.ref (fm_rho E 500)] = _
    rw [hrho]
  rw [hmp] at hLe
  have he : fm_ent 140 [.inr (.inr (some 500))] = [some (.inr (.inr (some 500))), none, none, none] := by
    unfold fm_ent
    rw [r5]
    rfl
  rw [he, r5] at hLe
  have k2 := k s.heap [] _ hP0 hLe va_S.rf (by rw [r5]; rfl) (Nat.le_refl _) rfl
  rw [lg_entry_eq]
  exact k2
