/-! ===== TextReader.wordWorth on the six Strings, and what it calls of the JDK ===== -/
def jL : MethodName := ⟨"java/lang/String", "length", "()I"⟩
abbrev jwL : List Cond := Cond.code jL prog_12_method_54_code 1 (some .int) :: fm_big
set_option maxRecDepth 100000 in
theorem jcL : Cond.code jL prog_12_method_54_code 1 (some .int) ∈ fm_big := fm_bigOf (i := 103) rfl rfl
theorem jsL : Cond.instanceMethod jL ∈ fm_big := fm_bigOf (i := 101) (by decide +kernel) rfl
theorem jtL : Cond.selects "java/lang/String" jL jL ∈ fm_big := fm_bigOf (i := 102) (by decide +kernel) rfl
theorem jiL : Cond.initialized "java/lang/String" ∈ fm_big := fm_bigOf (i := 55) (by decide +kernel) rfl
def jC : MethodName := ⟨"java/lang/String", "coder", "()B"⟩
abbrev jwC : List Cond := Cond.code jC prog_12_method_152_code 1 (some .byte) :: fm_big
set_option maxRecDepth 100000 in
theorem jcC : Cond.code jC prog_12_method_152_code 1 (some .byte) ∈ fm_big := fm_bigOf (i := 107) rfl rfl
theorem jsC : Cond.instanceMethod jC ∈ fm_big := fm_bigOf (i := 105) (by decide +kernel) rfl
theorem jtC : Cond.selects "java/lang/String" jC jC ∈ fm_big := fm_bigOf (i := 106) (by decide +kernel) rfl
theorem jiC : Cond.initialized "java/lang/String" ∈ fm_big := fm_bigOf (i := 55) (by decide +kernel) rfl
def jI : MethodName := ⟨"java/lang/String", "isLatin1", "()Z"⟩
abbrev jwI : List Cond := Cond.code jI prog_12_method_154_code 1 (some .boolean) :: fm_big
set_option maxRecDepth 100000 in
theorem jcI : Cond.code jI prog_12_method_154_code 1 (some .boolean) ∈ fm_big := fm_bigOf (i := 118) rfl rfl
theorem jsI : Cond.instanceMethod jI ∈ fm_big := fm_bigOf (i := 116) (by decide +kernel) rfl
theorem jtI : Cond.selects "java/lang/String" jI jI ∈ fm_big := fm_bigOf (i := 117) (by decide +kernel) rfl
theorem jiI : Cond.initialized "java/lang/String" ∈ fm_big := fm_bigOf (i := 55) (by decide +kernel) rfl
def jA : MethodName := ⟨"java/lang/String", "charAt", "(I)C"⟩
abbrev jwA : List Cond := Cond.code jA prog_12_method_56_code 2 (some .char) :: fm_big
set_option maxRecDepth 100000 in
theorem jcA : Cond.code jA prog_12_method_56_code 2 (some .char) ∈ fm_big := fm_bigOf (i := 114) rfl rfl
theorem jsA : Cond.instanceMethod jA ∈ fm_big := fm_bigOf (i := 112) (by decide +kernel) rfl
theorem jtA : Cond.selects "java/lang/String" jA jA ∈ fm_big := fm_bigOf (i := 113) (by decide +kernel) rfl
theorem jiA : Cond.initialized "java/lang/String" ∈ fm_big := fm_bigOf (i := 55) (by decide +kernel) rfl
def jB : MethodName := ⟨"java/lang/StringLatin1", "charAt", "([BI)C"⟩
abbrev jwB : List Cond := Cond.code jB prog_13_method_2_code 2 (some .char) :: fm_big
set_option maxRecDepth 100000 in
theorem jcB : Cond.code jB prog_13_method_2_code 2 (some .char) ∈ fm_big := fm_bigOf (i := 121) rfl rfl
theorem jsB : Cond.static jB ∈ fm_big := fm_bigOf (i := 120) (by decide +kernel) rfl
theorem jiB : Cond.initialized "java/lang/StringLatin1" ∈ fm_big := fm_bigOf (i := 56) (by decide +kernel) rfl
def jX : MethodName := ⟨"java/lang/String", "checkIndex", "(II)V"⟩
abbrev jwX : List Cond := Cond.code jX prog_12_method_155_code 2 (none) :: fm_big
set_option maxRecDepth 100000 in
theorem jcX : Cond.code jX prog_12_method_155_code 2 (none) ∈ fm_big := fm_bigOf (i := 124) rfl rfl
theorem jsX : Cond.static jX ∈ fm_big := fm_bigOf (i := 123) (by decide +kernel) rfl
theorem jiX : Cond.initialized "java/lang/String" ∈ fm_big := fm_bigOf (i := 55) (by decide +kernel) rfl
def jP_ : MethodName := ⟨"jdk/internal/util/Preconditions", "checkIndex", "(IILjava/util/function/BiFunction;)I"⟩
abbrev jwP : List Cond := Cond.code jP_ prog_16_method_11_code 3 (some .int) :: fm_big
set_option maxRecDepth 100000 in
theorem jcP : Cond.code jP_ prog_16_method_11_code 3 (some .int) ∈ fm_big := fm_bigOf (i := 129) rfl rfl
theorem jsP : Cond.static jP_ ∈ fm_big := fm_bigOf (i := 128) (by decide +kernel) rfl
theorem jiP : Cond.initialized "jdk/internal/util/Preconditions" ∈ fm_big := fm_bigOf (i := 57) (by decide +kernel) rfl
def jW : MethodName := ⟨"WatchBill$TextReader", "letterWorth", "(I)I"⟩
abbrev jwW : List Cond := Cond.code jW prog_8_method_18_code 1 (some .int) :: fm_big
set_option maxRecDepth 100000 in
theorem jcW : Cond.code jW prog_8_method_18_code 1 (some .int) ∈ fm_big := fm_bigOf (i := 151) rfl rfl
theorem jsW : Cond.static jW ∈ fm_big := fm_bigOf (i := 150) (by decide +kernel) rfl
theorem jiW : Cond.initialized "WatchBill$TextReader" ∈ fm_big := fm_bigOf (i := 54) (by decide +kernel) rfl
theorem jlL : Cond.methodLink "WatchBill$TextReader" 171 jL ∈ fm_big := fm_bigOf (i := 100) (by decide +kernel) rfl
theorem jlA : Cond.methodLink "WatchBill$TextReader" 176 jA ∈ fm_big := fm_bigOf (i := 111) (by decide +kernel) rfl
theorem jlW : Cond.methodLink "WatchBill$TextReader" 157 jW ∈ fm_big := fm_bigOf (i := 149) (by decide +kernel) rfl
theorem jlC : Cond.methodLink "java/lang/String" 335 jC ∈ fm_big := fm_bigOf (i := 104) (by decide +kernel) rfl
theorem jlI : Cond.methodLink "java/lang/String" 492 jI ∈ fm_big := fm_bigOf (i := 115) (by decide +kernel) rfl
theorem jlB : Cond.methodLink "java/lang/String" 495 jB ∈ fm_big := fm_bigOf (i := 119) (by decide +kernel) rfl
theorem jlX : Cond.methodLink "java/lang/StringLatin1" 9 jX ∈ fm_big := fm_bigOf (i := 122) (by decide +kernel) rfl
theorem jlP : Cond.methodLink "java/lang/String" 1059 jP_ ∈ fm_big := fm_bigOf (i := 127) (by decide +kernel) rfl
theorem jfv : Cond.fieldLink "java/lang/String" 9 "java/lang/String" "value" "[B" ∈ fm_big := fm_bigOf (i := 1222) (by decide +kernel) rfl
theorem jfc : Cond.fieldLink "java/lang/String" 15 "java/lang/String" "coder" "B" ∈ fm_big := fm_bigOf (i := 1223) (by decide +kernel) rfl
theorem jfz : Cond.fieldLink "java/lang/String" 38 "java/lang/String" "COMPACT_STRINGS" "Z" ∈ fm_big := fm_bigOf (i := 108) (by decide +kernel) rfl
theorem jfs : Cond.fieldLink "java/lang/String" 1053 "jdk/internal/util/Preconditions" "SIOOBE_FORMATTER" "Ljava/util/function/BiFunction;" ∈ fm_big := fm_bigOf (i := 125) (by decide +kernel) rfl
theorem jk32 : Cond.constantLong "WatchBill$TextReader" 155 32 ∈ fm_big := fm_bigOf (i := 110) (by decide +kernel) rfl
def jQ (v : Option Value) : Array Value → State → Outcome → State → Prop := fun _ st oc t => oc = .returned v ∧ t.heap = st.heap
def jch (k i : Nat) : Int32 := (fm_sbyt.getD k []).getD i 0
def jww (k : Nat) : Nat → Int64
  | 0 => 0
  | i + 1 => jww k i * 32 + (jch k i - 97 + 1).toInt64
theorem jch_ok : ∀ k, k < 6 → ∀ i, i < fm_slen.getD k 0 → ((jch k i &&& 255).toUInt32 % 65536).toInt32 = jch k i ∧ narrow .char (.int (jch k i)) = .int (jch k i) := by decide +kernel
theorem jww_ok : ∀ k, k < 6 → some (jww k (fm_slen.getD k 0)) = (fm_worth (600 + k)).map fm_l := by decide +kernel
theorem jlen5 : ∀ k, k < 6 → fm_slen.getD k 0 ≤ 5 := by decide
section WORDS
variable {E : fm_E} {l : Launch} {n : Nat}
theorem j_good {own C : String} {ix : Nat} {y : MethodName} {ws : List Cond} (h1 : Cond.methodLink own ix y ∈ fm_big) (h2 : Cond.instanceMethod y ∈ fm_big) (h3 : Cond.selects C y y ∈ fm_big) (h4 : Cond.initialized C ∈ fm_big) {w : Cond} (hw : ws = w :: fm_big) (h5 : w ∈ fm_big) : GoodIn fm_big (wsV own ix C y ws) := by
  subst hw
  intro u hu
  unfold wsV at hu
  rcases List.mem_append.mp hu with hu | hu
  · simp only [List.mem_cons, List.not_mem_nil, or_false] at hu
    rcases hu with rfl | rfl | rfl | rfl
    · exact fm_good h1
    · exact fm_good h2
    · exact fm_good h3
    · exact fm_good h4
  · rcases List.mem_cons.mp hu with rfl | hu
    · exact fm_good h5
    · exact fm_good hu
theorem j_goodS {own : String} {ix : Nat} {y : MethodName} {ws : List Cond} (h1 : Cond.methodLink own ix y ∈ fm_big) (h2 : Cond.static y ∈ fm_big) (h4 : Cond.initialized y.cls ∈ fm_big) {w : Cond} (hw : ws = w :: fm_big) (h5 : w ∈ fm_big) : GoodIn fm_big (va_wsS own ix y ws) := by
  subst hw
  intro u hu
  unfold va_wsS at hu
  rcases List.mem_append.mp hu with hu | hu
  · simp only [List.mem_cons, List.not_mem_nil, or_false] at hu
    rcases hu with rfl | rfl | rfl
    · exact fm_good h1
    · exact fm_good h2
    · exact fm_good h4
  · rcases List.mem_cons.mp hu with rfl | hu
    · exact fm_good h5
    · exact fm_good hu
theorem j_back {p : Program} {e : Env} {R : Room} {s : State} {m : MethodId} {args : Array Value} {below : List Frame} {meth : Method} {c : Code} {Q : State → Prop} {H : Heap} {locs : List Loc} {ls : Array Slot} {st0 rest : List Value} {cells slots pc : Nat} {v : Option Value} {a : Array Value} (hr : va_Run p l e R s m args below meth c H locs cells slots 0 0 (F0 m pc ls st0) rest (jQ v a) (fm_A E)) (hS : va_S (fm_A E) s.heap H locs)
    (kk : ∀ locs1 : List Loc, va_S (fm_A E) s.heap H locs1 → W p l e R s m args below meth c H locs1 cells slots Q (F0 m (pc + 3) ls (v.toList ++ rest))) : W p l e R s m args below meth c H locs cells slots Q (F0 m pc ls st0) := by
  intro T hT X
  obtain ⟨v', st₀, t, T', L, h0, X', hL, e1, e2, ⟨hv, ht⟩, st⟩ := hr T hT X
  have hv : v' = v := by cases hv; rfl
  subst hv
  have hTH : T'.heap = H := by rw [e1, ht, h0]
  obtain ⟨t2, a1, b1⟩ := kk (locs ++ L) ⟨hS.1, hS.2.1, fun q hq => by
    rcases List.mem_append.mp hq with h | h
    · exact hS.2.2 q h
    · exact hL q h⟩ T' hTH X'
  exact ⟨t2, st t2 a1, b1⟩
abbrev jP (E : fm_E) (n : Nat) (as : List Value) : Array Value → State → Prop := va_Pc as (fun U => fm_G E U n)
theorem j_blind {as : List Value} : FrameBlind (jP E n as) := fun a U g mk q => ⟨q.1, q.2.calling⟩
theorem m_W (x : Int32) : Met l jW jwW { frames := 0, cells := 0, slots := 0, locals := 0 } (jP E n [.int x]) (jQ (some (.int (x - 97 + 1)))) 0 0 (fm_A E) := by
  refine Met.ofW (cc := prog_8_method_18_code) (maxL := 1) (ret := some .int) (by decide) rfl ?_
  intro p e s m args below meth c s₁ B hml hv
  obtain ⟨rfl, hG⟩ := hv
  have hx := B.exec
  have hb : c.code = prog_8_method_18_code := B.bytes
  have hr := B.returns
  have hlocks := B.notSynchronized
  have hts : ∀ w ∈ fm_big, w.before ([.int x]).toArray s = true := fun w hw => atoms_spec (ws := jwW) B.pre w (List.mem_cons_of_mem _ hw)
  have hown : s.vm.findClass "WatchBill$TextReader" = some m.cls := findClass_of_methodNamed B.named
  have hS : va_S (fm_A E) s.heap s.heap [] := va_S.rf
  have hl := lv_entry ([.int x]) (n := 1) (Nat.le_of_ble_eq_true rfl)
  rw [lg_entry_eq]
  generalize (lg_sl ([.int x]) ++ List.replicate (1 - (lg_sl ([.int x])).length) Slot.unset).toArray = ls at hl ⊢
  have hl : lv_has ls 1 [(0, .int x)] := hl
  refine lv_iload_n hx hb (show decode prog_8_method_18_code 0 = .ok (.iload_n 0, 1) by decide +kernel) rfl (lv_at hl 0 rfl) ?_
  refine lv_bipush (v := 97) hx hb (show decode prog_8_method_18_code 1 = .ok (.bipush 97, 2) by decide +kernel) (by decide) ?_
  refine lv_isub hx hb (show decode prog_8_method_18_code 3 = .ok (.isub, 1) by decide +kernel) ?_
  refine lv_iconst (v := 1) hx hb (show decode prog_8_method_18_code 4 = .ok (.iconst 1, 1) by decide +kernel) (by decide) ?_
  refine lv_iadd hx hb (show decode prog_8_method_18_code 5 = .ok (.iadd, 1) by decide +kernel) ?_
  exact W.iret hx hb hr (fun t ht hW => ⟨rfl, ht⟩) (fun q h => by cases h) (show decode prog_8_method_18_code 6 = .ok (.ireturn, 1) by decide +kernel)
theorem m_P (x y : Int32) (v : Value) (hv0 : v = .null ∨ ∃ t, v = .ref t) (h0 : ¬ x < 0) (h1 : x < y) : Met l jP_ jwP { frames := 0, cells := 0, slots := 0, locals := 0 } (jP E n [.int x, .int y, v]) (jQ (some (.int x))) 0 0 (fm_A E) := by
  refine Met.ofW (cc := prog_16_method_11_code) (maxL := 3) (ret := some .int) (by decide) rfl ?_
  intro p e s m args below meth c s₁ B hml hv
  obtain ⟨rfl, hG⟩ := hv
  have hx := B.exec
  have hb : c.code = prog_16_method_11_code := B.bytes
  have hr := B.returns
  have hlocks := B.notSynchronized
  have hts : ∀ w ∈ fm_big, w.before ([.int x, .int y, v]).toArray s = true := fun w hw => atoms_spec (ws := jwP) B.pre w (List.mem_cons_of_mem _ hw)
  have hown : s.vm.findClass "jdk/internal/util/Preconditions" = some m.cls := findClass_of_methodNamed B.named
  have hS : va_S (fm_A E) s.heap s.heap [] := va_S.rf
  have hl := lv_entry ([.int x, .int y, v]) (n := 3) (by rcases hv0 with rfl | ⟨t, rfl⟩ <;> exact Nat.le_of_ble_eq_true rfl)
  rw [lg_entry_eq]
  generalize (lg_sl ([.int x, .int y, v]) ++ List.replicate (3 - (lg_sl ([.int x, .int y, v])).length) Slot.unset).toArray = ls at hl ⊢
  have hl : lv_has ls 3 [(0, .int x), (1, .int y)] := ⟨hl.1, hl.2.1, fun q hq => hl.2.2 q (by
    simp only [List.mem_cons, List.not_mem_nil, or_false] at hq
    rcases hq with rfl | rfl
    · exact List.mem_cons_self
    · exact List.mem_cons_of_mem _ List.mem_cons_self)⟩
  refine lv_iload_n hx hb (show decode prog_16_method_11_code 0 = .ok (.iload_n 0, 1) by decide +kernel) rfl (lv_at hl 0 rfl) ?_
  refine lv_if_lt (tgt := 9) hx hb (show decode prog_16_method_11_code 1 = .ok (.ifCond .lt 8, 3) by decide +kernel) (by decide) (fun c => absurd c h0) (fun _ => ?_)
  refine lv_iload_n hx hb (show decode prog_16_method_11_code 4 = .ok (.iload_n 0, 1) by decide +kernel) rfl (lv_at hl 0 rfl) ?_
  refine lv_iload_n hx hb (show decode prog_16_method_11_code 5 = .ok (.iload_n 1, 1) by decide +kernel) rfl (lv_at hl 1 rfl) ?_
  refine lv_icmp_lt (tgt := 16) hx hb (show decode prog_16_method_11_code 6 = .ok (.if_icmp .lt 10, 3) by decide +kernel) (by decide) (fun _ => ?_) (fun c => absurd h1 c)
  refine lv_iload_n hx hb (show decode prog_16_method_11_code 16 = .ok (.iload_n 0, 1) by decide +kernel) rfl (lv_at hl 0 rfl) ?_
  exact W.iret hx hb hr (fun t ht hW => ⟨rfl, ht⟩) (fun q h => by cases h) (show decode prog_16_method_11_code 17 = .ok (.ireturn, 1) by decide +kernel)
theorem m_X (x y : Int32) (h0 : ¬ x < 0) (h1 : x < y) : Met l jX jwX { frames := 1, cells := 0, slots := 0, locals := 22 } (jP E n [.int x, .int y]) (jQ none) 0 0 (fm_A E) := by
  refine Met.ofW (cc := prog_12_method_155_code) (maxL := 2) (ret := none) (by decide) rfl ?_
  intro p e s m args below meth c s₁ B hml hv
  obtain ⟨rfl, hG⟩ := hv
  have hx := B.exec
  have hb : c.code = prog_12_method_155_code := B.bytes
  have hr := B.returns
  have hlocks := B.notSynchronized
  have hts : ∀ w ∈ fm_big, w.before ([.int x, .int y]).toArray s = true := fun w hw => atoms_spec (ws := jwX) B.pre w (List.mem_cons_of_mem _ hw)
  have hown : s.vm.findClass "java/lang/String" = some m.cls := findClass_of_methodNamed B.named
  have hS : va_S (fm_A E) s.heap s.heap [] := va_S.rf
  have hl := lv_entry ([.int x, .int y]) (n := 2) (Nat.le_of_ble_eq_true rfl)
  rw [lg_entry_eq]
  generalize (lg_sl ([.int x, .int y]) ++ List.replicate (2 - (lg_sl ([.int x, .int y])).length) Slot.unset).toArray = ls at hl ⊢
  have hl : lv_has ls 2 [(0, .int x), (1, .int y)] := hl
  have hZ := hG.2.2.2.2.2.2.2.2
  have go : ∀ v : Value, (v = .null ∨ ∃ t, v = .ref t) → va_Z "jdk/internal/util/Preconditions" "SIOOBE_FORMATTER" "Ljava/util/function/BiFunction;" v (fm_A E) s s.heap → W p l e (headSpec jwX { frames := 1, cells := 0, slots := 0, locals := 22 }).room s m [Value.int x, Value.int y].toArray below meth c s.heap [] 0 0 (MQ below (jQ none) [Value.int x, Value.int y].toArray s 0 0 (fm_A E)) (F0 m 0 ls []) := by
    intro v hv hZv
    refine lv_iload_n hx hb (show decode prog_12_method_155_code 0 = .ok (.iload_n 0, 1) by decide +kernel) rfl (lv_at hl 0 rfl) ?_
    refine lv_iload_n hx hb (show decode prog_12_method_155_code 1 = .ok (.iload_n 1, 1) by decide +kernel) rfl (lv_at hl 1 rfl) ?_
    refine va_gets hx hb hZv hS hown (hts _ jfs) (fun _ h => h) (show decode prog_12_method_155_code 2 = .ok (.getstatic 1053, 3) by decide +kernel) ?_
    refine j_back (va_runS (As := [.int x, .int y, v]) (rest := []) ⟨hx, hb, hml, hown, hts⟩ (m_P x y v hv h0 h1) (va_cwS 3 hts (j_goodS jlP jsP jiP rfl jcP) rfl rfl rfl (by decide +kernel) ⟨Nat.le_of_ble_eq_true rfl, Nat.le_of_ble_eq_true rfl⟩) ⟨j_blind, fun U hU hW => ⟨rfl, hG.move hW hU hS⟩⟩ rfl rfl hl.1 rfl (lv_room (Nat.le_of_ble_eq_true rfl)) (show decode prog_12_method_155_code 5 = .ok (.invokestatic 1059, 3) by decide +kernel) ⟨Nat.le_of_ble_eq_true rfl, Nat.le_of_ble_eq_true rfl⟩) hS (fun locs1 hS1 => ?_)
    refine lv_pop hx hb (show decode prog_12_method_155_code 8 = .ok (.pop, 1) by decide +kernel) rfl ?_
    exact W.vret hx hb hr (fun t ht hW => ⟨rfl, ht⟩) hS1.2.2 (show decode prog_12_method_155_code 9 = .ok (.return_, 1) by decide +kernel)
  rcases hZ with hZ | ⟨t, hZ⟩
  · exact go .null (Or.inl rfl) hZ
  · exact go (.ref t) (Or.inr ⟨t, rfl⟩) hZ
theorem m_C (k : Nat) (hk : k < 6) : Met l jC jwC { frames := 0, cells := 0, slots := 0, locals := 0 } (jP E n [.ref (E.2.2.2.1 (600 + k))]) (jQ (some (.int 0))) 0 0 (fm_A E) := by
  refine Met.ofW (cc := prog_12_method_152_code) (maxL := 1) (ret := some .byte) (by decide) rfl ?_
  intro p e s m args below meth c s₁ B hml hv
  obtain ⟨rfl, hG⟩ := hv
  have hx := B.exec
  have hb : c.code = prog_12_method_152_code := B.bytes
  have hr := B.returns
  have hlocks := B.notSynchronized
  have hts : ∀ w ∈ fm_big, w.before ([.ref (E.2.2.2.1 (600 + k))]).toArray s = true := fun w hw => atoms_spec (ws := jwC) B.pre w (List.mem_cons_of_mem _ hw)
  have hown : s.vm.findClass "java/lang/String" = some m.cls := findClass_of_methodNamed B.named
  have hS : va_S (fm_A E) s.heap s.heap [] := va_S.rf
  have hl := lv_entry ([.ref (E.2.2.2.1 (600 + k))]) (n := 1) (Nat.le_of_ble_eq_true rfl)
  rw [lg_entry_eq]
  generalize (lg_sl ([.ref (E.2.2.2.1 (600 + k))]) ++ List.replicate (1 - (lg_sl ([.ref (E.2.2.2.1 (600 + k))])).length) Slot.unset).toArray = ls at hl ⊢
  have hl : lv_has ls 1 [(0, .ref (E.2.2.2.1 (600 + k)))] := hl
  obtain ⟨adV, hV⟩ := hG.2.2.2.2.2.2.1
  refine va_gets hx hb hG.2.2.2.2.2.2.2.1 hS hown (hts _ jfz) (fun _ h => h) (show decode prog_12_method_152_code 0 = .ok (.getstatic 38, 3) by decide +kernel) ?_
  refine lv_if_eq (tgt := 13) hx hb (show decode prog_12_method_152_code 3 = .ok (.ifCond .eq 10, 3) by decide +kernel) (by decide) (fun c => absurd c (by decide)) (fun _ => ?_)
  refine lv_aload_n hx hb (show decode prog_12_method_152_code 6 = .ok (.aload_n 0, 1) by decide +kernel) rfl (lv_at hl 0 rfl) ?_
  refine vk_getf hx hb (hV.1 k hk).2.1 hS hown (hts _ jfc) (fun _ h => h) (show decode prog_12_method_152_code 7 = .ok (.getfield 15, 3) by decide +kernel) ?_
  refine lv_goto (tgt := 14) hx hb (show decode prog_12_method_152_code 10 = .ok (.goto 4, 3) by decide +kernel) (by decide) ?_
  exact W.zret hx hb hr rfl (fun t ht hW => ⟨rfl, ht⟩) (fun q h => by cases h) (show decode prog_12_method_152_code 14 = .ok (.ireturn, 1) by decide +kernel)
theorem m_I (k : Nat) (hk : k < 6) : Met l jI jwI { frames := 0, cells := 0, slots := 0, locals := 0 } (jP E n [.ref (E.2.2.2.1 (600 + k))]) (jQ (some (.int 1))) 0 0 (fm_A E) := by
  refine Met.ofW (cc := prog_12_method_154_code) (maxL := 1) (ret := some .boolean) (by decide) rfl ?_
  intro p e s m args below meth c s₁ B hml hv
  obtain ⟨rfl, hG⟩ := hv
  have hx := B.exec
  have hb : c.code = prog_12_method_154_code := B.bytes
  have hr := B.returns
  have hlocks := B.notSynchronized
  have hts : ∀ w ∈ fm_big, w.before ([.ref (E.2.2.2.1 (600 + k))]).toArray s = true := fun w hw => atoms_spec (ws := jwI) B.pre w (List.mem_cons_of_mem _ hw)
  have hown : s.vm.findClass "java/lang/String" = some m.cls := findClass_of_methodNamed B.named
  have hS : va_S (fm_A E) s.heap s.heap [] := va_S.rf
  have hl := lv_entry ([.ref (E.2.2.2.1 (600 + k))]) (n := 1) (Nat.le_of_ble_eq_true rfl)
  rw [lg_entry_eq]
  generalize (lg_sl ([.ref (E.2.2.2.1 (600 + k))]) ++ List.replicate (1 - (lg_sl ([.ref (E.2.2.2.1 (600 + k))])).length) Slot.unset).toArray = ls at hl ⊢
  have hl : lv_has ls 1 [(0, .ref (E.2.2.2.1 (600 + k)))] := hl
  obtain ⟨adV, hV⟩ := hG.2.2.2.2.2.2.1
  refine va_gets hx hb hG.2.2.2.2.2.2.2.1 hS hown (hts _ jfz) (fun _ h => h) (show decode prog_12_method_154_code 0 = .ok (.getstatic 38, 3) by decide +kernel) ?_
  refine lv_if_eq (tgt := 17) hx hb (show decode prog_12_method_154_code 3 = .ok (.ifCond .eq 14, 3) by decide +kernel) (by decide) (fun c => absurd c (by decide)) (fun _ => ?_)
  refine lv_aload_n hx hb (show decode prog_12_method_154_code 6 = .ok (.aload_n 0, 1) by decide +kernel) rfl (lv_at hl 0 rfl) ?_
  refine vk_getf hx hb (hV.1 k hk).2.1 hS hown (hts _ jfc) (fun _ h => h) (show decode prog_12_method_154_code 7 = .ok (.getfield 15, 3) by decide +kernel) ?_
  refine lv_if_ne (tgt := 17) hx hb (show decode prog_12_method_154_code 10 = .ok (.ifCond .ne 7, 3) by decide +kernel) (by decide) (fun c => absurd rfl c) (fun _ => ?_)
  refine lv_iconst (v := 1) hx hb (show decode prog_12_method_154_code 13 = .ok (.iconst 1, 1) by decide +kernel) (by decide) ?_
  refine lv_goto (tgt := 18) hx hb (show decode prog_12_method_154_code 14 = .ok (.goto 4, 3) by decide +kernel) (by decide) ?_
  exact W.zret hx hb hr rfl (fun t ht hW => ⟨rfl, ht⟩) (fun q h => by cases h) (show decode prog_12_method_154_code 18 = .ok (.ireturn, 1) by decide +kernel)
theorem m_B (k i t : Nat) (hk : k < 6) (hi : i < fm_slen.getD k 0) : Met l jB jwB { frames := 2, cells := 0, slots := 0, locals := 43 } (va_Pc [.ref t, .int (nI i)] (fun U => fm_G E U n ∧ va_T .byte t (fm_slen.getD k 0) (fun j => .int (jch k j)) (fm_A E) U U.heap)) (jQ (some (.int (jch k i)))) 0 0 (fm_A E) := by
  have h5 := jlen5 k hk
  have hch := jch_ok k hk i hi
  refine Met.ofW (cc := prog_13_method_2_code) (maxL := 2) (ret := some .char) (by decide) rfl ?_
  intro p e s m args below meth c s₁ B hml hv
  obtain ⟨rfl, hG, hT⟩ := hv
  have hx := B.exec
  have hb : c.code = prog_13_method_2_code := B.bytes
  have hr := B.returns
  have hlocks := B.notSynchronized
  have hts : ∀ w ∈ fm_big, w.before ([.ref t, .int (nI i)]).toArray s = true := fun w hw => atoms_spec (ws := jwB) B.pre w (List.mem_cons_of_mem _ hw)
  have hown : s.vm.findClass "java/lang/StringLatin1" = some m.cls := findClass_of_methodNamed B.named
  have hS : va_S (fm_A E) s.heap s.heap [] := va_S.rf
  have hl := lv_entry ([.ref t, .int (nI i)]) (n := 2) (Nat.le_of_ble_eq_true rfl)
  rw [lg_entry_eq]
  generalize (lg_sl ([.ref t, .int (nI i)]) ++ List.replicate (2 - (lg_sl ([.ref t, .int (nI i)])).length) Slot.unset).toArray = ls at hl ⊢
  have hl : lv_has ls 2 [(0, .ref t), (1, .int (nI i))] := hl
  refine lv_iload_n hx hb (show decode prog_13_method_2_code 0 = .ok (.iload_n 1, 1) by decide +kernel) rfl (lv_at hl 1 rfl) ?_
  refine lv_aload_n hx hb (show decode prog_13_method_2_code 1 = .ok (.aload_n 0, 1) by decide +kernel) rfl (lv_at hl 0 rfl) ?_
  refine va_tlen hx hb hT hS rfl (show decode prog_13_method_2_code 2 = .ok (.arraylength, 1) by decide +kernel) ?_
  refine j_back (va_runS (As := [.int (nI i), .int (Int32.ofNat (fm_slen.getD k 0))]) (rest := []) ⟨hx, hb, hml, hown, hts⟩ (m_X (nI i) (Int32.ofNat (fm_slen.getD k 0)) (nI_pos (by omega)) (nI_lt hi (by omega))) (va_cwS 2 hts (j_goodS jlX jsX jiX rfl jcX) rfl rfl rfl (by decide +kernel) ⟨Nat.le_of_ble_eq_true rfl, Nat.le_of_ble_eq_true rfl⟩) ⟨j_blind, fun U hU hW => ⟨rfl, hG.move hW hU hS⟩⟩ rfl rfl hl.1 rfl (lv_room (Nat.le_of_ble_eq_true rfl)) (show decode prog_13_method_2_code 3 = .ok (.invokestatic 9, 3) by decide +kernel) ⟨Nat.le_of_ble_eq_true rfl, Nat.le_of_ble_eq_true rfl⟩) hS (fun locs1 hS1 => ?_)
  refine lv_aload_n hx hb (show decode prog_13_method_2_code 6 = .ok (.aload_n 0, 1) by decide +kernel) rfl (lv_at hl 0 rfl) ?_
  refine lv_iload_n hx hb (show decode prog_13_method_2_code 7 = .ok (.iload_n 1, 1) by decide +kernel) rfl (lv_at hl 1 rfl) ?_
  refine va_tb hx hb hT hS1 (vp_in_nI hi (by omega)) (v := .int (jch k i)) (by rw [nI_clamp (by omega)]) (show decode prog_13_method_2_code 8 = .ok (.baload, 1) by decide +kernel) ?_
  refine lv_sipush (v := 255) hx hb (show decode prog_13_method_2_code 9 = .ok (.sipush 255, 3) by decide +kernel) (by decide) ?_
  refine lv_iand hx hb (show decode prog_13_method_2_code 12 = .ok (.iand, 1) by decide +kernel) ?_
  refine lv_i2c hx hb (show decode prog_13_method_2_code 13 = .ok (.i2c, 1) by decide +kernel) hch.1 ?_
  exact W.zret hx hb hr hch.2 (fun t ht hW => ⟨rfl, ht⟩) hS1.2.2 (show decode prog_13_method_2_code 14 = .ok (.ireturn, 1) by decide +kernel)
theorem m_L (k : Nat) (hk : k < 6) : Met l jL jwL { frames := 1, cells := 0, slots := 0, locals := 20 } (jP E n [.ref (E.2.2.2.1 (600 + k))]) (jQ (some (.int (Int32.ofNat (fm_slen.getD k 0))))) 0 0 (fm_A E) := by
  refine Met.ofW (cc := prog_12_method_54_code) (maxL := 1) (ret := some .int) (by decide) rfl ?_
  intro p e s m args below meth c s₁ B hml hv
  obtain ⟨rfl, hG⟩ := hv
  have hx := B.exec
  have hb : c.code = prog_12_method_54_code := B.bytes
  have hr := B.returns
  have hlocks := B.notSynchronized
  have hts : ∀ w ∈ fm_big, w.before ([.ref (E.2.2.2.1 (600 + k))]).toArray s = true := fun w hw => atoms_spec (ws := jwL) B.pre w (List.mem_cons_of_mem _ hw)
  have hown : s.vm.findClass "java/lang/String" = some m.cls := findClass_of_methodNamed B.named
  have hS : va_S (fm_A E) s.heap s.heap [] := va_S.rf
  have hl := lv_entry ([.ref (E.2.2.2.1 (600 + k))]) (n := 1) (Nat.le_of_ble_eq_true rfl)
  rw [lg_entry_eq]
  generalize (lg_sl ([.ref (E.2.2.2.1 (600 + k))]) ++ List.replicate (1 - (lg_sl ([.ref (E.2.2.2.1 (600 + k))])).length) Slot.unset).toArray = ls at hl ⊢
  have hl : lv_has ls 1 [(0, .ref (E.2.2.2.1 (600 + k)))] := hl
  obtain ⟨adV, hV⟩ := hG.2.2.2.2.2.2.1
  refine lv_aload_n hx hb (show decode prog_12_method_54_code 0 = .ok (.aload_n 0, 1) by decide +kernel) rfl (lv_at hl 0 rfl) ?_
  refine vk_getf hx hb (hV.1 k hk).2.2.1 hS hown (hts _ jfv) (fun _ h => h) (show decode prog_12_method_54_code 1 = .ok (.getfield 9, 3) by decide +kernel) ?_
  refine va_tlen hx hb (hV.1 k hk).2.2.2 hS rfl (show decode prog_12_method_54_code 4 = .ok (.arraylength, 1) by decide +kernel) ?_
  refine lv_aload_n hx hb (show decode prog_12_method_54_code 5 = .ok (.aload_n 0, 1) by decide +kernel) rfl (lv_at hl 0 rfl) ?_
  refine j_back (va_runV (As := []) (rest := [.int (Int32.ofNat (fm_slen.getD k 0))]) ⟨hx, hb, hml, hown, hts⟩ (m_C k hk) (cwV 0 hts (j_good jlC jsC jtC jiC rfl jcC) rfl rfl rfl (by decide +kernel) ⟨Nat.le_of_ble_eq_true rfl, Nat.le_of_ble_eq_true rfl⟩) ⟨j_blind, vk_recv hV hk hS, fun U hU hW => ⟨rfl, hG.move hW hU hS⟩⟩ rfl rfl hl.1 rfl (lv_room (Nat.le_of_ble_eq_true rfl)) (show decode prog_12_method_54_code 6 = .ok (.invokevirtual 335, 3) by decide +kernel) ⟨Nat.le_of_ble_eq_true rfl, Nat.le_of_ble_eq_true rfl⟩) hS (fun locs1 hS1 => ?_)
  refine lv_ishr hx hb (show decode prog_12_method_54_code 9 = .ok (.ishr, 1) by decide +kernel) ?_
  rw [sb_shr0]
  exact W.iret hx hb hr (fun t ht hW => ⟨rfl, ht⟩) hS1.2.2 (show decode prog_12_method_54_code 10 = .ok (.ireturn, 1) by decide +kernel)
theorem m_A (k i : Nat) (hk : k < 6) (hi : i < fm_slen.getD k 0) : Met l jA jwA { frames := 3, cells := 0, slots := 0, locals := 64 } (jP E n [.ref (E.2.2.2.1 (600 + k)), .int (nI i)]) (jQ (some (.int (jch k i)))) 0 0 (fm_A E) := by
  have hch := jch_ok k hk i hi
  refine Met.ofW (cc := prog_12_method_56_code) (maxL := 2) (ret := some .char) (by decide) rfl ?_
  intro p e s m args below meth c s₁ B hml hv
  obtain ⟨rfl, hG⟩ := hv
  have hx := B.exec
  have hb : c.code = prog_12_method_56_code := B.bytes
  have hr := B.returns
  have hlocks := B.notSynchronized
  have hts : ∀ w ∈ fm_big, w.before ([.ref (E.2.2.2.1 (600 + k)), .int (nI i)]).toArray s = true := fun w hw => atoms_spec (ws := jwA) B.pre w (List.mem_cons_of_mem _ hw)
  have hown : s.vm.findClass "java/lang/String" = some m.cls := findClass_of_methodNamed B.named
  have hS : va_S (fm_A E) s.heap s.heap [] := va_S.rf
  have hl := lv_entry ([.ref (E.2.2.2.1 (600 + k)), .int (nI i)]) (n := 2) (Nat.le_of_ble_eq_true rfl)
  rw [lg_entry_eq]
  generalize (lg_sl ([.ref (E.2.2.2.1 (600 + k)), .int (nI i)]) ++ List.replicate (2 - (lg_sl ([.ref (E.2.2.2.1 (600 + k)), .int (nI i)])).length) Slot.unset).toArray = ls at hl ⊢
  have hl : lv_has ls 2 [(0, .ref (E.2.2.2.1 (600 + k))), (1, .int (nI i))] := hl
  obtain ⟨adV, hV⟩ := hG.2.2.2.2.2.2.1
  refine lv_aload_n hx hb (show decode prog_12_method_56_code 0 = .ok (.aload_n 0, 1) by decide +kernel) rfl (lv_at hl 0 rfl) ?_
  refine j_back (va_runV (As := []) (rest := []) ⟨hx, hb, hml, hown, hts⟩ (m_I k hk) (cwV 0 hts (j_good jlI jsI jtI jiI rfl jcI) rfl rfl rfl (by decide +kernel) ⟨Nat.le_of_ble_eq_true rfl, Nat.le_of_ble_eq_true rfl⟩) ⟨j_blind, vk_recv hV hk hS, fun U hU hW => ⟨rfl, hG.move hW hU hS⟩⟩ rfl rfl hl.1 rfl (lv_room (Nat.le_of_ble_eq_true rfl)) (show decode prog_12_method_56_code 1 = .ok (.invokevirtual 492, 3) by decide +kernel) ⟨Nat.le_of_ble_eq_true rfl, Nat.le_of_ble_eq_true rfl⟩) hS (fun locs1 hS1 => ?_)
  refine lv_if_eq (tgt := 16) hx hb (show decode prog_12_method_56_code 4 = .ok (.ifCond .eq 12, 3) by decide +kernel) (by decide) (fun c => absurd c (by decide)) (fun _ => ?_)
  refine lv_aload_n hx hb (show decode prog_12_method_56_code 7 = .ok (.aload_n 0, 1) by decide +kernel) rfl (lv_at hl 0 rfl) ?_
  refine vk_getf hx hb (hV.1 k hk).2.2.1 hS1 hown (hts _ jfv) (fun _ h => h) (show decode prog_12_method_56_code 8 = .ok (.getfield 9, 3) by decide +kernel) ?_
  refine lv_iload_n hx hb (show decode prog_12_method_56_code 11 = .ok (.iload_n 1, 1) by decide +kernel) rfl (lv_at hl 1 rfl) ?_
  refine j_back (va_runS (As := [.ref (adV k), .int (nI i)]) (rest := []) ⟨hx, hb, hml, hown, hts⟩ (m_B k i (adV k) hk hi) (va_cwS 2 hts (j_goodS jlB jsB jiB rfl jcB) rfl rfl rfl (by decide +kernel) ⟨Nat.le_of_ble_eq_true rfl, Nat.le_of_ble_eq_true rfl⟩) ⟨fun a U g mk q => ⟨q.1, q.2.1.calling, va_T.moved (u := U) (U := U.calling g mk a) (Vm.Alike.refl U.vm) q.2.2⟩, fun U hU hW => ⟨rfl, hG.move hW hU hS1, by rw [hU]; exact (va_T.moved hW.alike (hV.1 k hk).2.2.2).kept hS1.2.1⟩⟩ rfl rfl hl.1 rfl (lv_room (Nat.le_of_ble_eq_true rfl)) (show decode prog_12_method_56_code 12 = .ok (.invokestatic 495, 3) by decide +kernel) ⟨Nat.le_of_ble_eq_true rfl, Nat.le_of_ble_eq_true rfl⟩) hS1 (fun locs2 hS2 => ?_)
  exact W.zret hx hb hr hch.2 (fun t ht hW => ⟨rfl, ht⟩) hS2.2.2 (show decode prog_12_method_56_code 15 = .ok (.ireturn, 1) by decide +kernel)
theorem m_Z (k : Nat) (hk : k < 6) : Met l (fm_nm 69) (fm_ws 69) (fm_rm 69) (jP E n [.ref (E.2.2.2.1 (600 + k))]) (jQ (some (.long (jww k (fm_slen.getD k 0))))) 0 0 (fm_A E) := by
  have h5 := jlen5 k hk
  refine Met.ofW (cc := prog_8_method_17_code) (maxL := 4) (ret := some .long) (by decide) rfl ?_
  intro p e s m args below meth c s₁ B hml hv
  obtain ⟨rfl, hG⟩ := hv
  have hx := B.exec
  have hb : c.code = prog_8_method_17_code := B.bytes
  have hr := B.returns
  have hlocks := B.notSynchronized
  have hts : ∀ w ∈ fm_big, w.before ([.ref (E.2.2.2.1 (600 + k))]).toArray s = true := fun w hw => atoms_spec (ws := fm_ws 69) B.pre w (List.mem_cons_of_mem _ hw)
  have hown : s.vm.findClass "WatchBill$TextReader" = some m.cls := findClass_of_methodNamed B.named
  have hS : va_S (fm_A E) s.heap s.heap [] := va_S.rf
  have hl := lv_entry ([.ref (E.2.2.2.1 (600 + k))]) (n := 4) (Nat.le_of_ble_eq_true rfl)
  rw [lg_entry_eq]
  generalize (lg_sl ([.ref (E.2.2.2.1 (600 + k))]) ++ List.replicate (4 - (lg_sl ([.ref (E.2.2.2.1 (600 + k))])).length) Slot.unset).toArray = ls at hl ⊢
  have hl : lv_has ls 4 [(0, .ref (E.2.2.2.1 (600 + k)))] := hl
  obtain ⟨adV, hV⟩ := hG.2.2.2.2.2.2.1
  have loop : ∀ (d i : Nat), i + d = fm_slen.getD k 0 → ∀ (locs : List Loc) (ls : Array Slot), va_S (fm_A E) s.heap s.heap locs → lv_has ls 4 [(3, .int (nI i)), (1, .long (jww k i)), (0, .ref (E.2.2.2.1 (600 + k)))] → W p l e (headSpec (fm_ws 69) (fm_rm 69)).room s m [.ref (E.2.2.2.1 (600 + k))].toArray below meth c s.heap locs 0 0 (MQ below (jQ (some (.long (jww k (fm_slen.getD k 0))))) [.ref (E.2.2.2.1 (600 + k))].toArray s 0 0 (fm_A E)) (F0 m 4 ls []) := by
    intro d
    induction d with
    | zero =>
      intro i hid locs ls hS hl
      have hi : i = fm_slen.getD k 0 := by omega
      subst hi
      refine lv_iload_n hx hb (show decode prog_8_method_17_code 4 = .ok (.iload_n 3, 1) by decide +kernel) rfl (lv_at hl 0 rfl) ?_
      refine lv_aload_n hx hb (show decode prog_8_method_17_code 5 = .ok (.aload_n 0, 1) by decide +kernel) rfl (lv_at hl 2 rfl) ?_
      refine j_back (va_runV (As := []) (rest := [.int (nI (fm_slen.getD k 0))]) ⟨hx, hb, hml, hown, hts⟩ (m_L k hk) (cwV 0 hts (j_good jlL jsL jtL jiL rfl jcL) rfl rfl rfl (by decide +kernel) ⟨Nat.le_of_ble_eq_true rfl, Nat.le_of_ble_eq_true rfl⟩) ⟨j_blind, vk_recv hV hk hS, fun U hU hW => ⟨rfl, hG.move hW hU hS⟩⟩ rfl rfl hl.1 rfl (lv_room (Nat.le_of_ble_eq_true rfl)) (show decode prog_8_method_17_code 6 = .ok (.invokevirtual 171, 3) by decide +kernel) ⟨Nat.le_of_ble_eq_true rfl, Nat.le_of_ble_eq_true rfl⟩) hS (fun locs1 hS1 => ?_)
      refine lv_icmp_ge (tgt := 34) hx hb (show decode prog_8_method_17_code 9 = .ok (.if_icmp .ge 25, 3) by decide +kernel) (by decide) (fun _ => ?_) (fun c => absurd (Int32.le_refl _) c)
      refine lv_lload_n hx hb (show decode prog_8_method_17_code 34 = .ok (.lload_n 1, 1) by decide +kernel) rfl (lv_at hl 1 rfl) ?_
      exact W.lret hx hb hr (fun t ht hW => ⟨rfl, ht⟩) hS1.2.2 (show decode prog_8_method_17_code 35 = .ok (.lreturn, 1) by decide +kernel)
    | succ d ih =>
      intro i hid locs ls hS hl
      have hi : i < fm_slen.getD k 0 := by omega
      refine lv_iload_n hx hb (show decode prog_8_method_17_code 4 = .ok (.iload_n 3, 1) by decide +kernel) rfl (lv_at hl 0 rfl) ?_
      refine lv_aload_n hx hb (show decode prog_8_method_17_code 5 = .ok (.aload_n 0, 1) by decide +kernel) rfl (lv_at hl 2 rfl) ?_
      refine j_back (va_runV (As := []) (rest := [.int (nI i)]) ⟨hx, hb, hml, hown, hts⟩ (m_L k hk) (cwV 0 hts (j_good jlL jsL jtL jiL rfl jcL) rfl rfl rfl (by decide +kernel) ⟨Nat.le_of_ble_eq_true rfl, Nat.le_of_ble_eq_true rfl⟩) ⟨j_blind, vk_recv hV hk hS, fun U hU hW => ⟨rfl, hG.move hW hU hS⟩⟩ rfl rfl hl.1 rfl (lv_room (Nat.le_of_ble_eq_true rfl)) (show decode prog_8_method_17_code 6 = .ok (.invokevirtual 171, 3) by decide +kernel) ⟨Nat.le_of_ble_eq_true rfl, Nat.le_of_ble_eq_true rfl⟩) hS (fun locs1 hS1 => ?_)
      refine lv_icmp_ge (tgt := 34) hx hb (show decode prog_8_method_17_code 9 = .ok (.if_icmp .ge 25, 3) by decide +kernel) (by decide) (fun c => absurd c (nI_ge hi (by omega))) (fun _ => ?_)
      refine lv_lload_n hx hb (show decode prog_8_method_17_code 12 = .ok (.lload_n 1, 1) by decide +kernel) rfl (lv_at hl 1 rfl) ?_
      refine lv_ldc2 hx hb hown (hts _ jk32) (show decode prog_8_method_17_code 13 = .ok (.ldc2_w 155, 3) by decide +kernel) ?_
      refine lv_lmul hx hb (show decode prog_8_method_17_code 16 = .ok (.lmul, 1) by decide +kernel) ?_
      refine lv_aload_n hx hb (show decode prog_8_method_17_code 17 = .ok (.aload_n 0, 1) by decide +kernel) rfl (lv_at hl 2 rfl) ?_
      refine lv_iload_n hx hb (show decode prog_8_method_17_code 18 = .ok (.iload_n 3, 1) by decide +kernel) rfl (lv_at hl 0 rfl) ?_
      refine j_back (va_runV (As := [.int (nI i)]) (rest := [.long (jww k i * 32)]) ⟨hx, hb, hml, hown, hts⟩ (m_A k i hk hi) (cwV 1 hts (j_good jlA jsA jtA jiA rfl jcA) rfl rfl rfl (by decide +kernel) ⟨Nat.le_of_ble_eq_true rfl, Nat.le_of_ble_eq_true rfl⟩) ⟨j_blind, vk_recv hV hk hS1, fun U hU hW => ⟨rfl, hG.move hW hU hS1⟩⟩ rfl rfl hl.1 rfl (lv_room (Nat.le_of_ble_eq_true rfl)) (show decode prog_8_method_17_code 19 = .ok (.invokevirtual 176, 3) by decide +kernel) ⟨Nat.le_of_ble_eq_true rfl, Nat.le_of_ble_eq_true rfl⟩) hS1 (fun locs2 hS2 => ?_)
      refine j_back (va_runS (As := [.int (jch k i)]) (rest := [.long (jww k i * 32)]) ⟨hx, hb, hml, hown, hts⟩ (m_W (jch k i)) (va_cwS 1 hts (j_goodS jlW jsW jiW rfl jcW) rfl rfl rfl (by decide +kernel) ⟨Nat.le_of_ble_eq_true rfl, Nat.le_of_ble_eq_true rfl⟩) ⟨j_blind, fun U hU hW => ⟨rfl, hG.move hW hU hS2⟩⟩ rfl rfl hl.1 rfl (lv_room (Nat.le_of_ble_eq_true rfl)) (show decode prog_8_method_17_code 22 = .ok (.invokestatic 157, 3) by decide +kernel) ⟨Nat.le_of_ble_eq_true rfl, Nat.le_of_ble_eq_true rfl⟩) hS2 (fun locs3 hS3 => ?_)
      refine lv_i2l hx hb (show decode prog_8_method_17_code 25 = .ok (.i2l, 1) by decide +kernel) rfl ?_
      refine lv_ladd hx hb (show decode prog_8_method_17_code 26 = .ok (.ladd, 1) by decide +kernel) ?_
      refine lv_lstore_n (lv' := [(1, .long (jww k (i + 1))), (3, .int (nI i)), (0, .ref (E.2.2.2.1 (600 + k)))]) hx hb (show decode prog_8_method_17_code 27 = .ok (.lstore_n 1, 1) by decide +kernel) rfl hl (by decide) rfl (fun ls hl => ?_)
      refine lv_iinc (v := nI (i + 1)) (k := 1) (lv' := [(3, .int (nI (i + 1))), (1, .long (jww k (i + 1))), (0, .ref (E.2.2.2.1 (600 + k)))]) hx hb (show decode prog_8_method_17_code 28 = .ok (.iinc 3 1, 3) by decide +kernel) hl rfl (nI_1 i) (by decide) rfl (fun ls hl => ?_)
      refine lv_goto (tgt := 4) hx hb (show decode prog_8_method_17_code 31 = .ok (.goto (-27), 3) by decide +kernel) (by decide) ?_
      exact ih (i + 1) (by omega) locs3 ls hS3 hl
  refine lv_lconst (v := 0) hx hb (show decode prog_8_method_17_code 0 = .ok (.lconst 0, 1) by decide +kernel) rfl ?_
  refine lv_lstore_n (lv' := [(1, .long 0), (0, .ref (E.2.2.2.1 (600 + k)))]) hx hb (show decode prog_8_method_17_code 1 = .ok (.lstore_n 1, 1) by decide +kernel) rfl hl (by decide) rfl (fun ls hl => ?_)
  refine lv_iconst (v := 0) hx hb (show decode prog_8_method_17_code 2 = .ok (.iconst 0, 1) by decide +kernel) (by decide) ?_
  refine lv_istore_n (lv' := [(3, .int (nI 0)), (1, .long (jww k 0)), (0, .ref (E.2.2.2.1 (600 + k)))]) hx hb (show decode prog_8_method_17_code 3 = .ok (.istore_n 3, 1) by decide +kernel) rfl hl (by decide) rfl (fun ls hl => ?_)
  exact loop _ 0 (Nat.zero_add _) [] ls hS hl
theorem fm_ww : fm_WW E l n := by
  intro r v hv
  obtain ⟨k, hk, rfl⟩ : ∃ k, k < 6 ∧ r = 600 + k := by
    unfold fm_worth at hv
    split at hv
    · exact ⟨0, by omega, rfl⟩
    · exact ⟨1, by omega, rfl⟩
    · exact ⟨2, by omega, rfl⟩
    · exact ⟨3, by omega, rfl⟩
    · exact ⟨4, by omega, rfl⟩
    · exact ⟨5, by omega, rfl⟩
    · cases hv
  have h := m_Z (E := E) (l := l) (n := n) k hk
  have e := jww_ok k hk
  rw [hv] at e
  have e : jww k (fm_slen.getD k 0) = fm_l v := Option.some.inj e
  rw [e] at h
  have e2 : ([(.inr (.inr (some (600 + k))) : fm_V)].map (fm_v E)) = [.ref (E.2.2.2.1 (600 + k))] := by
    show [Value.ref (fm_rho E (600 + k))] = _
    unfold fm_rho
    rw [if_neg (by omega)]
  rw [e2]
  exact h
end WORDS
