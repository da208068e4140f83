section FMN
variable {E : fm_E} {p : Program} {l : Launch} {e : Env} {R : Room} {s : State} {m : MethodId} {args : Array Value} {below : List Frame} {meth : Method} {cc : Code} {Q : State → Prop} {na0 n y pc : Nat} {lsA : List (Option fm_V)} {st : List fm_V} {σ : fm_S}
theorem fm_sz_mono1 {i : Nat} (h : i < 96) : fm_sz i ≤ fm_sz (i + 1) := by
  unfold fm_sz
  rw [fm_sz_one i h]
  omega
theorem fm_sz_mono {i j : Nat} (h : i ≤ j) (hj : j ≤ 96) : fm_sz i ≤ fm_sz j := by
  induction h with
  | refl => exact Nat.le_refl _
  | step h ih => exact Nat.le_trans (ih (by omega)) (fm_sz_mono1 (by omega))
theorem fm_new_cell_arr {ty : FieldType} {k : Nat} (h : fm_shp[σ.2.2.2.1]? = some (.inl (ty, k))) (hty : ty = .int ∨ ty = .boolean ∨ ty = .byte ∨ ty = .long) : ∃ a0 : vp_A, fm_cell E (fm_new σ) σ.2.2.2.1 = .inl (E.2.1 ty, a0) ∧ ∀ cA : ClassId, vp_cell cA a0 = arrV cA k (fun _ => defaultValue ty) := by
  rw [fm_cell_arr h]
  have e1 : (fm_new σ).1 σ.2.2.2.1 = fun _ => 0 := fm_cl_s
  have e2 : (fm_new σ).2.1 σ.2.2.2.1 = fun _ => 0 := fm_cl_s
  rcases hty with rfl | rfl | rfl | rfl
  · refine ⟨_, fm_arc_i (by decide), fun cA => ?_⟩
    rw [e1]; rfl
  · refine ⟨_, fm_arc_i (by decide), fun cA => ?_⟩
    rw [e1]; rfl
  · refine ⟨_, fm_arc_i (by decide), fun cA => ?_⟩
    rw [e1]; rfl
  · refine ⟨_, fm_arc_l, fun cA => ?_⟩
    rw [e2]; rfl
theorem fm_x_newa (X : fm_Cx E p R s m args meth cc n y) {t : ArrayType} {k : Int} {rest : List fm_V} (hd : decode (fm_by y) pc = .ok (.newarray t, 2)) (ht : t = .int ∨ t = .boolean ∨ t = .byte ∨ t = .long) (hs : fm_shp[σ.2.2.2.1]? = some (.inl (newarray.typeOf t, k.toNat))) (h0 : 0 ≤ k) (h1 : k < 2147483648) (hk : k = wr k) (hb1 : σ.2.2.2.1 + 1 ≤ na0 + fm_dna y) (hb2 : fm_sz (σ.2.2.2.1 + 1) ≤ fm_sz na0 + fm_dsl y)
    (hW : fm_Wn E p l e R s m args below meth cc Q na0 n y (pc + 2, lsA, .inr (.inr (some σ.2.2.2.1)) :: rest, fm_new σ)) : fm_Wn E p l e R s m args below meth cc Q na0 n y (pc, lsA, .inl k :: rest, σ) := by
  obtain ⟨hx, hb, hml, hown, hts, hin, hG, hr1, hr2, hr3, hr4⟩ := X
  have h96 := fm_shp_lt hs
  have hbig := fm_shp_big _ (List.mem_of_getElem? hs)
  simp only [decide_eq_true_eq] at hbig
  have hone := fm_sz_one σ.2.2.2.1 h96
  rw [List.getD_eq_getElem?_getD (l := fm_shp), hs] at hone
  have hone : fm_sz (σ.2.2.2.1 + 1) = fm_sz σ.2.2.2.1 + k.toNat := hone
  intro H locs ls hP hL hS hln hna hn
  have hna : na0 ≤ σ.2.2.2.1 := hna
  have hszm := fm_sz_mono hna (by omega)
  have hki : (fm_i k).toInt = k := hk.symm
  have hneg : ¬ fm_i k < 0 := by
    intro q
    have := Int32.lt_iff_toInt_lt.mp q
    rw [hki] at this
    have z : (0 : Int32).toInt = 0 := by decide
    omega
  have hN : (fm_i k).toNatClampNeg = k.toNat := by show (fm_i k).toInt.toNat = _; rw [hki]
  have hty : newarray.typeOf t = .int ∨ newarray.typeOf t = .boolean ∨ newarray.typeOf t = .byte ∨ newarray.typeOf t = .long := by
    rcases ht with rfl | rfl | rfl | rfl
    · exact Or.inl rfl
    · exact Or.inr (Or.inl rfl)
    · exact Or.inr (Or.inr (Or.inl rfl))
    · exact Or.inr (Or.inr (Or.inr rfl))
  have harr : (Cond.arrayClass (newarray.typeOf t)).before args s = true := by
    rcases hty with h | h | h | h <;> rw [h]
    · exact hts _ (fm_bigOf fm_arI rfl)
    · exact hts _ (fm_bigOf fm_arZ rfl)
    · exact hts _ (fm_bigOf fm_arB rfl)
    · exact hts _ (fm_bigOf fm_arJ rfl)
  have hcomp : componentBytes (newarray.typeOf t) ≤ 8 := by
    rcases hty with h | h | h | h <;> rw [h] <;> decide
  have hfind : s.vm.findClass ("[" ++ (newarray.typeOf t).toString) = some (E.2.1 (newarray.typeOf t)) := by
    rcases hty with h | h | h | h <;> rw [h]
    · exact (hG.1.2 0 _ rfl).2
    · exact (hG.1.2 1 _ rfl).2
    · exact (hG.1.2 2 _ rfl).2
    · exact (hG.1.2 3 _ rfl).2
  show W p l e R s m args below meth cc H locs (σ.2.2.2.1 - na0) (fm_sz σ.2.2.2.1 - fm_sz na0) Q (F0 m pc ls (.int (fm_i k) :: rest.map (fm_v E)))
  refine va_newaK (h := H.size) hx hb harr rfl hd rfl hneg hN (Nat.le_trans (Nat.mul_le_mul hbig hcomp) (by decide)) (by omega) (by omega) rfl fun H1 cA e1 z1 o1 hAr hNm => ?_
  have hcA : cA = E.2.1 (newarray.typeOf t) := Option.some.inj (hNm.symm.trans hfind)
  subst hcA
  obtain ⟨a0, g1, g2⟩ := fm_new_cell_arr (E := E) hs hty
  have hP1 : fm_Pic E (fm_new σ) H1 := by
    refine hP.push h96 ?_ z1 o1
    rw [g1]
    show H1[E.2.2.1 + σ.2.2.2.1]? = some (vp_cell _ a0)
    rw [g2, ← hP.2.1]
    exact e1
  have kk := hW H1 locs ls hP1 hL ⟨Nat.le_trans hS.1 (by omega), fun q q1 q2 => (o1 q (Nat.lt_of_lt_of_le q1 hS.1)).trans (hS.2.1 q q1 q2), hS.2.2⟩ hln (Nat.le_succ_of_le hna) hn
  have ec : σ.2.2.2.1 + 1 - na0 = σ.2.2.2.1 - na0 + 1 := by omega
  have es : fm_sz (σ.2.2.2.1 + 1) - fm_sz na0 = fm_sz σ.2.2.2.1 - fm_sz na0 + k.toNat := by omega
  have er : fm_rho E σ.2.2.2.1 = H.size := by rw [fm_rho_in (by omega), hP.2.1]
  have kk : W p l e R s m args below meth cc H1 locs (σ.2.2.2.1 + 1 - na0) (fm_sz (σ.2.2.2.1 + 1) - fm_sz na0) Q (F0 m (pc + 2) ls (.ref (fm_rho E σ.2.2.2.1) :: rest.map (fm_v E))) := kk
  rw [ec, es, er] at kk
  exact kk
theorem fm_new_fs {ci : Nat} (hc : ci < 9) (h : fm_shp[σ.2.2.2.1]? = some (.inr ci)) : ∀ j, j < fm_nf ci → defaultValue (fm_fty ci j) = vp_V (fm_fsl E (fm_new σ) σ.2.2.2.1 ci) j := by
  intro j hj
  unfold vp_V
  rw [List.getD_eq_getElem?_getD, fm_fsl_at hj]
  have e1 : (fm_new σ).1 σ.2.2.2.1 = fun _ => 0 := fm_cl_s
  have e2 : (fm_new σ).2.1 σ.2.2.2.1 = fun _ => 0 := fm_cl_s
  have e3 : (fm_new σ).2.2.1 σ.2.2.2.1 = fun _ => none := fm_cl_s
  unfold fm_fget
  rw [e1, e2, e3]
  rcases fm_fty_ok ci hc j hj with h | h | ⟨q, h⟩ | ⟨q, h⟩ <;> rw [h] <;> rfl
theorem fm_x_new (X : fm_Cx E p R s m args meth cc n y) {ix a : Nat} {rest : List fm_V} (hd : decode (fm_by y) pc = .ok (.new ix, 3)) (ha : a < 9) (hl : ∃ q ∈ fm_kc, q.1 = fm_own y ∧ q.2.1 = ix ∧ q.2.2.1 = a) (hs : fm_shp[σ.2.2.2.1]? = some (.inr a)) (hb1 : σ.2.2.2.1 + 1 ≤ na0 + fm_dna y) (hb2 : fm_sz (σ.2.2.2.1 + 1) ≤ fm_sz na0 + fm_dsl y)
    (hW : fm_Wn E p l e R s m args below meth cc Q na0 n y (pc + 3, lsA, .inr (.inr (some σ.2.2.2.1)) :: rest, fm_new σ)) : fm_Wn E p l e R s m args below meth cc Q na0 n y (pc, lsA, rest, σ) := by
  obtain ⟨hx, hb, hml, hown, hts, hin, hG, hr1, hr2, hr3, hr4⟩ := X
  obtain ⟨q, hq, q1, q2, q3⟩ := hl
  have h96 := fm_shp_lt hs
  have hone := fm_sz_one σ.2.2.2.1 h96
  rw [List.getD_eq_getElem?_getD (l := fm_shp), hs] at hone
  have hone : fm_sz (σ.2.2.2.1 + 1) = fm_sz σ.2.2.2.1 + fm_nf a := hone
  have hlink := hts _ (fm_bigOf (fm_kc_ok q hq) rfl)
  rw [q1, q2, q3] at hlink
  intro H locs ls hP hL hS hln hna hn
  have hna : na0 ≤ σ.2.2.2.1 := hna
  have hszm := fm_sz_mono hna (by omega)
  have hKn := hG.1.1 a _ (fm_cls_at a ha)
  show W p l e R s m args below meth cc H locs (σ.2.2.2.1 - na0) (fm_sz σ.2.2.2.1 - fm_sz na0) Q (F0 m pc ls (rest.map (fm_v E)))
  refine W.newcK (h := H.size) hx hb hown hlink (hts _ (fm_bigOf (fm_ins_ok a ha) rfl)) (hts _ (fm_bigOf (fm_ini_ok a ha) rfl)) rfl hd (by omega) (by omega) hKn.2.1 rfl fun H1 kC hkC e1 z1 o1 => ?_
  have hP1 : fm_Pic E (fm_new σ) H1 := by
    refine hP.push h96 ?_ z1 o1
    rw [fm_cell_obj hs, ← hP.2.1]
    exact ⟨_, fm_cls_at a ha, (u_born (fm_fty a) hts (fm_in_lays ha) hKn hkC e1 (fm_ty_ok a ha)).to (fm_new_fs ha hs)⟩
  have kk := hW H1 locs ls hP1 hL ⟨Nat.le_trans hS.1 (by omega), fun q q1 q2 => (o1 q (Nat.lt_of_lt_of_le q1 hS.1)).trans (hS.2.1 q q1 q2), hS.2.2⟩ hln (Nat.le_succ_of_le hna) hn
  have ec : σ.2.2.2.1 + 1 - na0 = σ.2.2.2.1 - na0 + 1 := by omega
  have es : fm_sz (σ.2.2.2.1 + 1) - fm_sz na0 = fm_sz σ.2.2.2.1 - fm_sz na0 + fm_nf a := by omega
  have er : fm_rho E σ.2.2.2.1 = H.size := by rw [fm_rho_in (by omega), hP.2.1]
  have kk : W p l e R s m args below meth cc H1 locs (σ.2.2.2.1 + 1 - na0) (fm_sz (σ.2.2.2.1 + 1) - fm_sz na0) Q (F0 m (pc + 3) ls (.ref (fm_rho E σ.2.2.2.1) :: rest.map (fm_v E))) := kk
  rw [ec, es, er] at kk
  exact kk
end FMN
