/-! ===== calls ===== -/
abbrev fm_ws (z : Nat) : List Cond := Cond.code (fm_nm z) (fm_by z) (fm_maxL z) (fm_ret z) :: fm_big
abbrev fm_rm (z : Nat) : Room := { frames := fm_fr z, cells := fm_dna z, slots := fm_dsl z, locals := fm_lo z }
def fm_Q (E : fm_E) (r : Option fm_V × fm_S) : Array Value → State → Outcome → State → Prop := fun _ st oc t => oc = .returned (r.1.map (fm_v E)) ∧ fm_Pic E r.2 t.heap ∧ va_F (fm_A E) st t
abbrev fm_P (E : fm_E) (n : Nat) (as : List fm_V) (σ : fm_S) : Array Value → State → Prop := va_Pc (as.map (fm_v E)) (fun U => fm_Pic E σ U.heap ∧ fm_G E U n)
theorem fm_md1 : ∀ z, z < 140 → (fm_nm z).cls ≠ "java/lang/invoke/MethodHandle" ∧ (fm_nm z).cls ≠ "java/lang/invoke/VarHandle" := by decide +kernel
theorem fm_md2 : ∀ z, z < 140 → (parseMethodDescriptor (fm_nm z).desc).map (fun d => d.parameters.length) = some (fm_nar z - (if fm_stc z = true then 0 else 1)) := by decide +kernel
theorem fm_md3 : ∀ z, z < 140 → (fm_nm z).cls = fm_cnm (fm_own z) := by decide +kernel
theorem fm_md4 : ∀ z, z < 140 → z ≠ 137 → z ≠ 138 → plainName (fm_nm z).cls = true := by decide +kernel
theorem fm_md5 : ∀ z, z < 140 → (fm_stc z = false → 1 ≤ fm_nar z) := by decide +kernel
theorem fm_md : ∀ z, z < 140 → (fm_nm z).cls ≠ "java/lang/invoke/MethodHandle" ∧ (fm_nm z).cls ≠ "java/lang/invoke/VarHandle" ∧ (parseMethodDescriptor (fm_nm z).desc).map (fun d => d.parameters.length) = some (fm_nar z - (if fm_stc z = true then 0 else 1)) ∧ (fm_nm z).cls = fm_cnm (fm_own z) ∧ (fm_stc z = false → 1 ≤ fm_nar z) := fun z h => ⟨(fm_md1 z h).1, (fm_md1 z h).2, fm_md2 z h, fm_md3 z h, fm_md5 z h⟩
theorem fm_cw_big {z : Nat} (h : z < 140) : Cond.code (fm_nm z) (fm_by z) (fm_maxL z) (fm_ret z) ∈ fm_big := List.mem_filter.mpr ⟨fm_cw_ok z h, rfl⟩
theorem fm_good {w : Cond} (h : w ∈ fm_big) : w ∈ fm_big ∧ ((w.onTables && w.keeps) = true ∨ ∃ ty, w = .arrayClass ty) := ⟨h, good_of_word (fm_bigG h)⟩
theorem fm_ws_good {z : Nat} (h : z < 140) : GoodIn fm_big (fm_ws z) := by
  intro w hw
  rcases List.mem_cons.mp hw with rfl | hw
  · exact fm_good (fm_cw_big h)
  · exact fm_good hw
theorem fm_mw_at : ∀ z, z < 140 → fm_mw.any (fun q => q.1 == z) = true := by decide +kernel
theorem fm_mw_big {z : Nat} (h : z < 140) : (if fm_stc z = true then Cond.static (fm_nm z) else Cond.instanceMethod (fm_nm z)) ∈ fm_big ∧ Cond.initialized (fm_nm z).cls ∈ fm_big := by
  obtain ⟨q, hq, e⟩ := List.any_eq_true.mp (fm_mw_at z h)
  have e : q.1 = z := by simpa using e
  subst e
  obtain ⟨h1, h2⟩ := fm_mw_ok q hq
  refine ⟨fm_bigOf h1 ?_, fm_bigOf h2 rfl⟩
  split <;> rfl
section FMC
variable {E : fm_E} {p : Program} {l : Launch} {e : Env} {R : Room} {s : State} {m : MethodId} {args : Array Value} {below : List Frame} {meth : Method} {cc : Code} {Q : State → Prop} {na0 n y pc : Nat} {lsA : List (Option fm_V)} {st : List fm_V} {σ : fm_S}
theorem fm_G.move {U : State} {H : Heap} {locs : List Loc} (hG : fm_G E s n) (hW : s.WarmedH U.vm) (hU : U.heap = H) (hS : va_S (fm_A E) s.heap H locs) : fm_G E U n := by
  obtain ⟨g1, g2, g3, g4, g5, g6, ⟨adV, g7⟩, g8, g9⟩ := hG
  have hk : ∀ a : Nat, a < s.heap.size → ¬ fm_A E a → U.heap[a]? = s.heap[a]? := fun a h1 h2 => by rw [hU]; exact hS.2.1 a h1 h2
  refine ⟨va_K.moved hW.alike g1, fun q hq => va_Nw.warmM hW (g2 q hq), (va_X.moved hW.alike g3).kept (hk _ (Nat.lt_of_lt_of_le g4 g5) (fun q => Nat.not_le.mpr g4 q)), g4, by rw [hU]; exact Nat.le_trans g5 hS.1, fun q hq => vk_R.warm hW (g6 q hq), ⟨adV, (vk_S.moved hW.alike g7).kept hk⟩, (va_Z.moved hW.alike g8).kept hk, (va_Zq.moved hW.alike g9).kept hk⟩
theorem fm_G.calling {U : State} {g : JFrame} {mk : MethodId} {a : Array Value} (hG : fm_G E U n) : fm_G E (U.calling g mk a) n := by
  obtain ⟨g1, g2, g3, g4, g5, g6, ⟨adV, g7⟩, g8, g9⟩ := hG
  exact ⟨va_K.moved (u := U) (U := U.calling g mk a) (Vm.Alike.refl U.vm) g1, fun q hq => va_Nw.same (u := U) (U := U.calling g mk a) rfl rfl (g2 q hq), va_X.moved (u := U) (U := U.calling g mk a) (Vm.Alike.refl U.vm) g3, g4, g5, fun q hq => vk_R.same (u := U) (U := U.calling g mk a) rfl (g6 q hq), ⟨adV, vk_S.moved (u := U) (U := U.calling g mk a) (Vm.Alike.refl U.vm) g7⟩, va_Z.moved (u := U) (U := U.calling g mk a) (Vm.Alike.refl U.vm) g8, va_Zq.moved (u := U) (U := U.calling g mk a) (Vm.Alike.refl U.vm) g9⟩
theorem fm_blind {as : List fm_V} : FrameBlind (fm_P E n as σ) := fun a U g mk h => ⟨h.1, h.2.1, h.2.2.calling⟩
theorem fm_cat_sum : ∀ (vs : List fm_V), ((vs.map (fm_v E)).map fun v => v.category).sum ≤ 2 * vs.length
  | [] => Nat.le_refl _
  | v :: vs => by
    have h1 := fm_cat_sum vs
    have h2 : (fm_v E v).category ≤ 2 := by rcases lv_cat (fm_v E v) with h | h <;> omega
    simp only [List.map_cons, List.sum_cons, List.length_cons]
    omega
/-- behind a call -/
theorem fm_back {r : Option fm_V × fm_S} {H : Heap} {locs : List Loc} {ls : Array Slot} {st0 rest : List Value} {cells slots mc ms : Nat} {a : Array Value} (hr : va_Run p l e R s m args below meth cc H locs cells slots mc ms (F0 m pc ls st0) rest (fm_Q E r a) (fm_A E)) (hS : va_S (fm_A E) s.heap H locs)
    (kk : ∀ (H1 : Heap) (locs1 : List Loc), fm_Pic E r.2 H1 → va_S (fm_A E) s.heap H1 locs1 → W p l e R s m args below meth cc H1 locs1 (cells + mc) (slots + ms) Q (F0 m (pc + 3) ls ((r.1.toList).map (fm_v E) ++ rest))) : W p l e R s m args below meth cc H locs cells slots Q (F0 m pc ls st0) := by
  intro T hT X
  obtain ⟨v, st₀, t, T', L, h0, X', hL, e1, e2, ⟨hv, hPic, hz, hk⟩, st⟩ := hr T hT X
  rw [h0] at hz hk
  have hv : v = r.1.map (fm_v E) := by cases hv; rfl
  subst hv
  obtain ⟨t2, a1, b1⟩ := kk T'.heap (locs ++ L) (by rw [e1]; exact hPic)
    ⟨Nat.le_trans hS.1 (by rw [e1]; exact hz), fun q h1 h2 => by rw [e1, hk q (Nat.lt_of_lt_of_le h1 hS.1) h2]; exact hS.2.1 q h1 h2, fun q hq => by
      rcases List.mem_append.mp hq with h | h
      · exact hS.2.2 q h
      · exact hL q h⟩ T' rfl X'
  refine ⟨t2, st t2 ?_, b1⟩
  have e3 : (Option.map (fm_v E) r.1).toList = (r.1.toList).map (fm_v E) := by cases r.1 <;> rfl
  rw [e3]
  exact a1
theorem fm_prS {H : Heap} {locs : List Loc} {as : List fm_V} (hG : fm_G E s n) (hP : fm_Pic E σ H) (hS : va_S (fm_A E) s.heap H locs) : PreS s H (fm_P E n as σ) (as.map (fm_v E)) :=
  ⟨fm_blind, fun U hU hW => ⟨rfl, by rw [hU]; exact hP, hG.move hW hU hS⟩⟩
/-- the room of a call, and the callee's words -/
theorem fm_rmB_ok {z : Nat} (h : fm_rmB z y = true) : (z < 140 ∧ z ≠ 137 ∧ z ≠ 138) ∧ fm_fr z + 1 ≤ fm_fr y ∧ 8 + (fm_maxL z + 11) + fm_lo z ≤ fm_lo y := by
  simp only [fm_rmB, Bool.and_eq_true, decide_eq_true_eq] at h
  exact ⟨h.1, h.2.1, h.2.2⟩
/-- a static call -/
theorem fm_x_cs (X : fm_Cx E p R s m args meth cc n y) {ix z : Nat} {as rest : List fm_V} {Qc : Array Value → State → Outcome → State → Prop} {free : Addr → Prop} {Pc : Array Value → State → Prop} {H : Heap} {locs : List Loc} {ls : Array Slot} {cells slots : Nat}
    (hd : decode (fm_by y) pc = .ok (.invokestatic ix, 3)) (hst : fm_stc z = true) (hrm : fm_rmB z y = true) (hl : ∃ q ∈ fm_ml, q.1 = fm_own y ∧ q.2.1 = ix ∧ q.2.2.1 = z) (hn : as.length = fm_nar z) (hr : rest.length ≤ 4) (hsize : ls.size = fm_maxL y)
    (hM : Met l (fm_nm z) (fm_ws z) (fm_rm z) Pc Qc (fm_dna z) (fm_dsl z) free) (hp : PreS s H Pc (as.map (fm_v E))) (hf : cells + fm_dna z ≤ R.cells ∧ slots + fm_dsl z ≤ R.slots) :
    va_Run p l e R s m args below meth cc H locs cells slots (fm_dna z) (fm_dsl z) (F0 m pc ls ((as.map (fm_v E)).reverse ++ rest.map (fm_v E))) (rest.map (fm_v E)) (Qc (as.map (fm_v E)).toArray) free := by
  obtain ⟨hx, hb, hml, hown, hts, hin, hG, hr1, hr2, hr3, hr4⟩ := X
  obtain ⟨q, hq, q1, q2, q3⟩ := hl
  obtain ⟨⟨hz, -⟩, z1, z2⟩ := fm_rmB_ok hrm
  obtain ⟨d1, d2, d3, d4, d6⟩ := fm_md z hz
  have hlink := fm_bigOf (fm_ml_ok q hq) rfl
  rw [q1, q2, q3] at hlink
  have hmw := fm_mw_big hz
  rw [if_pos hst] at hmw d3
  have hgood : GoodIn fm_big (va_wsS (fm_cnm (fm_own y)) ix (fm_nm z) (fm_ws z)) := by
    intro w hw
    unfold va_wsS at hw
    rcases List.mem_append.mp hw with hw | hw
    · simp only [List.mem_cons, List.not_mem_nil, or_false] at hw
      rcases hw with rfl | rfl | rfl
      · exact fm_good hlink
      · exact fm_good hmw.1
      · exact fm_good hmw.2
    · exact fm_ws_good hz w hw
  refine va_runS (As := as.map (fm_v E)) (rest := rest.map (fm_v E)) ⟨hx, hb, hml, hown, hts⟩ hM (va_cwS (fm_nar z) hts hgood rfl rfl rfl ⟨d1, d2, by simpa using d3⟩ ⟨Nat.le_trans z1 hr1, Nat.le_trans z2 hr2⟩) hp rfl (by rw [List.length_map]; exact hn) hsize rfl (lv_room ?_) hd hf
  have := fm_cat_sum (E := E) rest
  omega
/-- a constructor's call -/
theorem fm_x_ci (X : fm_Cx E p R s m args meth cc n y) {ix z : Nat} {b : Nat} {as rest : List fm_V} {Qc : Array Value → State → Outcome → State → Prop} {free : Addr → Prop} {Pc : Array Value → State → Prop} {H : Heap} {locs : List Loc} {ls : Array Slot} {cells slots : Nat}
    (hd : decode (fm_by y) pc = .ok (.invokespecial ix, 3)) (hst : fm_stc z = false) (hi : fm_init z = true) (hret : fm_ret z = none) (hrm : fm_rmB z y = true) (hl : (∃ q ∈ fm_ml, q.1 = fm_own y ∧ q.2.1 = ix ∧ q.2.2.1 = z) ∨ (∃ q ∈ fm_nl3, q.1 = fm_own y ∧ q.2.1 = ix ∧ q.2.2.1 = z)) (hn : as.length + 1 = fm_nar z) (hr : rest.length ≤ 4) (hsize : ls.size = fm_maxL y)
    (hM : Met l (fm_nm z) (fm_ws z) (fm_rm z) Pc Qc (fm_dna z) (fm_dsl z) free) (hp : PreS s H Pc (.ref b :: as.map (fm_v E))) (hf : cells + fm_dna z ≤ R.cells ∧ slots + fm_dsl z ≤ R.slots) :
    va_Run p l e R s m args below meth cc H locs cells slots (fm_dna z) (fm_dsl z) (F0 m pc ls ((as.map (fm_v E)).reverse ++ .ref b :: rest.map (fm_v E))) (rest.map (fm_v E)) (Qc (Value.ref b :: as.map (fm_v E)).toArray) free := by
  obtain ⟨hx, hb, hml, hown, hts, hin, hG, hr1, hr2, hr3, hr4⟩ := X
  obtain ⟨⟨hz, -⟩, z1, z2⟩ := fm_rmB_ok hrm
  obtain ⟨d1, d2, d3, d4, d6⟩ := fm_md z hz
  have hmw := fm_mw_big hz
  rw [if_neg (by rw [hst]; decide)] at hmw d3
  have hname : (fm_nm z).name = "<init>" := by simpa [fm_init] using hi
  have hM' : Met l (fm_nm z) (Cond.code (fm_nm z) (fm_by z) (fm_maxL z) none :: fm_big) (fm_rm z) Pc Qc (fm_dna z) (fm_dsl z) free := by
    have h := hM
    unfold fm_ws at h
    rw [hret] at h
    exact h
  have hgd : GoodIn fm_big (Cond.code (fm_nm z) (fm_by z) (fm_maxL z) none :: fm_big) := by
    have h := fm_ws_good hz
    unfold fm_ws at h
    rw [hret] at h
    exact h
  have hd3 : (fm_nm z).cls ≠ "java/lang/invoke/MethodHandle" ∧ (fm_nm z).cls ≠ "java/lang/invoke/VarHandle" ∧ (parseMethodDescriptor (fm_nm z).desc).map (fun d => d.parameters.length) = some as.length := ⟨d1, d2, by rw [d3, ← hn]; rfl⟩
  have hW8 : 2 * (F0 m pc ls ((as.map (fm_v E)).reverse ++ .ref b :: rest.map (fm_v E))).monitorRoom + ((rest.map (fm_v E)).map fun v => v.category).sum ≤ 8 := by
    refine lv_room ?_
    have := fm_cat_sum (E := E) rest
    omega
  rcases hl with ⟨q, hq, q1, q2, q3⟩ | ⟨q, hq, q1, q2, q3⟩
  · have hlink := hts _ (fm_bigOf (fm_ml_ok q hq) rfl)
    rw [q1, q2, q3] at hlink
    exact va_runI (As := as.map (fm_v E)) (rest := rest.map (fm_v E)) ⟨hx, hb, hml, hown, hts⟩ hM' (cwI as.length hts hgd rfl rfl rfl (hts _ hmw.2) hlink (hts _ hmw.1) hname hd3 ⟨Nat.le_trans z1 hr1, Nat.le_trans z2 hr2⟩) hp rfl (by rw [List.length_map]) hsize rfl hW8 hd hf
  · have hlink := hG.2.1 q hq
    rw [q1, q2, q3] at hlink
    exact va_runIN (As := as.map (fm_v E)) (rest := rest.map (fm_v E)) ⟨hx, hb, hml, hown, hts⟩ hM' ⟨va_cnB as.length hts hgd rfl rfl rfl hlink (hts _ hmw.2) hd3 ⟨Nat.le_trans z1 hr1, Nat.le_trans z2 hr2⟩, hname, hts _ hmw.1⟩ hp rfl (by rw [List.length_map]) hsize rfl hW8 hd hf
/-- a virtual call -/
theorem fm_x_cv (X : fm_Cx E p R s m args meth cc n y) {ix z o : Nat} {as rest : List fm_V} {Qc : Array Value → State → Outcome → State → Prop} {free : Addr → Prop} {H : Heap} {locs : List Loc} {ls : Array Slot} {cells slots : Nat}
    (hd : decode (fm_by y) pc = .ok (.invokevirtual ix, 3)) (hst : fm_stc z = false) (hrm : fm_rmB z y = true) (hl : ∃ q ∈ fm_ml, q.1 = fm_own y ∧ q.2.1 = ix ∧ q.2.2.1 = z) (hsv : ∃ q ∈ fm_sv, q.1 = z) (hn : as.length + 1 = fm_nar z) (hr : rest.length ≤ 4) (hsize : ls.size = fm_maxL y) (ho : fm_obj σ o = some (fm_own z)) (hP : fm_Pic E σ H) (hS : va_S (fm_A E) s.heap H locs)
    (hM : Met l (fm_nm z) (fm_ws z) (fm_rm z) (fm_P E n (.inr (.inr (some o)) :: as) σ) Qc (fm_dna z) (fm_dsl z) free) (hf : cells + fm_dna z ≤ R.cells ∧ slots + fm_dsl z ≤ R.slots) :
    va_Run p l e R s m args below meth cc H locs cells slots (fm_dna z) (fm_dsl z) (F0 m pc ls ((as.map (fm_v E)).reverse ++ .ref (fm_rho E o) :: rest.map (fm_v E))) (rest.map (fm_v E)) (Qc (Value.ref (fm_rho E o) :: as.map (fm_v E)).toArray) free := by
  obtain ⟨hx, hb, hml, hown, hts, hin, hG, hr1, hr2, hr3, hr4⟩ := X
  obtain ⟨q, hq, q1, q2, q3⟩ := hl
  obtain ⟨qs, hqs, qs1⟩ := hsv
  obtain ⟨⟨hz, -⟩, z1, z2⟩ := fm_rmB_ok hrm
  obtain ⟨d1, d2, d3, d4, d6⟩ := fm_md z hz
  have hlink := fm_bigOf (fm_ml_ok q hq) rfl
  rw [q1, q2, q3] at hlink
  have hsel := fm_bigOf (fm_sv_ok qs hqs) rfl
  rw [qs1] at hsel
  have hmw := fm_mw_big hz
  rw [if_neg (by rw [hst]; decide)] at hmw d3
  obtain ⟨o1, o2⟩ := fm_obj_spec ho
  have h96 := fm_shp_lt o2
  have hc9 : fm_own z < 9 := by
    have hbig := fm_shp_big _ (List.mem_of_getElem? o2)
    simpa using hbig
  have hat := hP.2.2.1 o o1
  rw [fm_cell_obj o2] at hat
  have hrecv := va_recv hG.1 (fm_one hat) (fm_cls_at _ hc9) (q0 := 0) rfl
  rw [← fm_rho_in (E := E) (o := o) (by omega)] at hrecv
  have hgood : GoodIn fm_big (wsV (fm_cnm (fm_own y)) ix (fm_nm z).cls (fm_nm z) (fm_ws z)) := by
    intro w hw
    unfold wsV at hw
    rcases List.mem_append.mp hw with hw | hw
    · simp only [List.mem_cons, List.not_mem_nil, or_false] at hw
      rcases hw with rfl | rfl | rfl | rfl
      · exact fm_good hlink
      · exact fm_good hmw.1
      · exact fm_good hsel
      · exact fm_good hmw.2
    · exact fm_ws_good hz w hw
  have hpre := fm_prS (as := .inr (.inr (some o)) :: as) hG hP hS
  refine va_runV (As := as.map (fm_v E)) (rest := rest.map (fm_v E)) ⟨hx, hb, hml, hown, hts⟩ hM (cwV as.length hts hgood rfl rfl rfl ⟨rfl, d1, d2, by rw [d3, ← hn]; rfl⟩ ⟨Nat.le_trans z1 hr1, Nat.le_trans z2 hr2⟩) ⟨hpre.1, ?_, hpre.2⟩ rfl (by rw [List.length_map]) hsize rfl (lv_room ?_) hd hf
  · rw [d4]; exact hrecv
  · have := fm_cat_sum (E := E) rest
    omega
end FMC
