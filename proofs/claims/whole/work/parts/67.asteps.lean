section FMZ
variable {E : fm_E} {p : Program} {l : Launch} {e : Env} {R : Room} {s : State} {m : MethodId} {args : Array Value} {below : List Frame} {meth : Method} {cc : Code} {Q : State → Prop} {na0 n y pc : Nat} {lsA : List (Option fm_V)} {st : List fm_V} {σ : fm_S}
theorem fm_arc_i {ty : FieldType} {o k : Nat} (h : ty ≠ .long) : fm_arc E σ o ty k = .inl (E.2.1 ty, k, .inl (fun j => fm_i (σ.1 o j))) := by
  unfold fm_arc; rw [if_neg h]
theorem fm_arc_l {o k : Nat} : fm_arc E σ o .long k = .inl (E.2.1 .long, k, .inr (.inl (fun j => fm_l (σ.2.1 o j)))) := by
  unfold fm_arc; rw [if_pos rfl]
theorem fm_arr_arw {o : Nat} (h : o ≠ 500) : fm_arr σ o = fm_arw σ o := by unfold fm_arr; rw [if_neg h]
/-- a place of an int array, of the script too -/
theorem fm_x_iald (X : fm_Cx E p R s m args meth cc n y) {o : Nat} {i : Int} {rest : List fm_V} (hd : decode (fm_by y) pc = .ok (.iaload, 1)) (hi : fm_inB (fm_arr σ o) .int i = true)
    (hW : fm_Wn E p l e R s m args below meth cc Q na0 n y (pc + 1, lsA, .inl (σ.1 o (wr i).toNat) :: rest, σ)) : fm_Wn E p l e R s m args below meth cc Q na0 n y (pc, lsA, .inl i :: .inr (.inr (some o)) :: rest, σ) := by
  obtain ⟨hx, hb, hml, hown, hts, hin, hG, -⟩ := X
  obtain ⟨k0, hk0, hi0⟩ := fm_in hi
  intro H locs ls hP hL hS hln hna hn
  have k := hW H locs ls hP hL hS hln hna hn
  show W p l e R s m args below meth cc H locs _ _ Q (F0 m pc ls (.int (fm_i i) :: .ref (fm_rho E o) :: rest.map (fm_v E)))
  by_cases ho : o = 500
  · subst ho
    have hk : k0 = n := by
      have : fm_arr σ 500 = some (.int, σ.2.2.2.2) := rfl
      rw [this] at hk0
      cases hk0
      exact hn
    subst hk
    have hlt : (fm_i i).toNatClampNeg < k0 := Nat.not_le.mp fun q => hi0 (Or.inr q)
    refine va_sld hx hb hG.2.2.1 (Nat.lt_of_lt_of_le hG.2.2.2.1 hG.2.2.2.2.1) (fun q => Nat.not_le.mpr hG.2.2.2.1 q) hS hi0 hd ?_
    rw [hP.2.2.2 _ (by rw [hn]; exact hlt)]
    exact k
  · rw [fm_arr_arw ho] at hk0
    obtain ⟨h1, h2⟩ := fm_arw_spec hk0
    have h96 := fm_shp_lt h2
    have hat := hP.2.2.1 o h1
    rw [fm_cell_arr h2, fm_arc_i (by decide)] at hat
    rw [fm_rho_in (by omega)]
    exact va_iald hx hb hG.1 (fm_one hat) 0 0 rfl rfl hi0 hd k
theorem fm_x_bald (X : fm_Cx E p R s m args meth cc n y) {o : Nat} {i : Int} {rest : List fm_V} (hd : decode (fm_by y) pc = .ok (.baload, 1)) (hi : fm_inB (fm_arw σ o) .boolean i = true ∨ fm_inB (fm_arw σ o) .byte i = true)
    (hW : fm_Wn E p l e R s m args below meth cc Q na0 n y (pc + 1, lsA, .inl (σ.1 o (wr i).toNat) :: rest, σ)) : fm_Wn E p l e R s m args below meth cc Q na0 n y (pc, lsA, .inl i :: .inr (.inr (some o)) :: rest, σ) := by
  obtain ⟨hx, hb, hml, hown, hts, hin, hG, -⟩ := X
  intro H locs ls hP hL hS hln hna hn
  have k := hW H locs ls hP hL hS hln hna hn
  show W p l e R s m args below meth cc H locs _ _ Q (F0 m pc ls (.int (fm_i i) :: .ref (fm_rho E o) :: rest.map (fm_v E)))
  rcases hi with hi | hi
  all_goals
    obtain ⟨k0, hk0, hi0⟩ := fm_in hi
    obtain ⟨h1, h2⟩ := fm_arw_spec hk0
    have h96 := fm_shp_lt h2
    have hat := hP.2.2.1 o h1
    rw [fm_cell_arr h2, fm_arc_i (by decide)] at hat
    rw [fm_rho_in (by omega)]
  · exact va_zald hx hb hG.1 (fm_one hat) 0 1 rfl rfl hi0 hd k
  · exact va_bald hx hb hG.1 (fm_one hat) 0 2 rfl rfl hi0 hd k
theorem fm_x_lald (X : fm_Cx E p R s m args meth cc n y) {o : Nat} {i : Int} {rest : List fm_V} (hd : decode (fm_by y) pc = .ok (.laload, 1)) (hi : fm_inB (fm_arw σ o) .long i = true)
    (hW : fm_Wn E p l e R s m args below meth cc Q na0 n y (pc + 1, lsA, .inr (.inl (σ.2.1 o (wr i).toNat)) :: rest, σ)) : fm_Wn E p l e R s m args below meth cc Q na0 n y (pc, lsA, .inl i :: .inr (.inr (some o)) :: rest, σ) := by
  obtain ⟨hx, hb, hml, hown, hts, hin, hG, -⟩ := X
  intro H locs ls hP hL hS hln hna hn
  have k := hW H locs ls hP hL hS hln hna hn
  show W p l e R s m args below meth cc H locs _ _ Q (F0 m pc ls (.int (fm_i i) :: .ref (fm_rho E o) :: rest.map (fm_v E)))
  obtain ⟨k0, hk0, hi0⟩ := fm_in hi
  obtain ⟨h1, h2⟩ := fm_arw_spec hk0
  have h96 := fm_shp_lt h2
  have hat := hP.2.2.1 o h1
  rw [fm_cell_arr h2, fm_arc_l] at hat
  rw [fm_rho_in (by omega)]
  exact va_lald hx hb hG.1 (fm_one hat) 0 3 rfl rfl hi0 hd k
theorem fm_x_alen (X : fm_Cx E p R s m args meth cc n y) {o k0 : Nat} {ty : FieldType} {rest : List fm_V} (hd : decode (fm_by y) pc = .ok (.arraylength, 1)) (ha : fm_arr σ o = some (ty, k0))
    (hW : fm_Wn E p l e R s m args below meth cc Q na0 n y (pc + 1, lsA, .inl (k0 : Int) :: rest, σ)) : fm_Wn E p l e R s m args below meth cc Q na0 n y (pc, lsA, .inr (.inr (some o)) :: rest, σ) := by
  obtain ⟨hx, hb, hml, hown, hts, hin, hG, -⟩ := X
  intro H locs ls hP hL hS hln hna hn
  have k := hW H locs ls hP hL hS hln hna hn
  have ei : Int32.ofNat k0 = fm_i (k0 : Int) := rfl
  show W p l e R s m args below meth cc H locs _ _ Q (F0 m pc ls (.ref (fm_rho E o) :: rest.map (fm_v E)))
  by_cases ho : o = 500
  · subst ho
    have hk : k0 = n := by
      have : fm_arr σ 500 = some (.int, σ.2.2.2.2) := rfl
      rw [this] at ha
      cases ha
      exact hn
    subst hk
    exact va_slen hx hb hG.2.2.1 (Nat.lt_of_lt_of_le hG.2.2.2.1 hG.2.2.2.2.1) (fun q => Nat.not_le.mpr hG.2.2.2.1 q) hS hd k
  · rw [fm_arr_arw ho] at ha
    obtain ⟨h1, h2⟩ := fm_arw_spec ha
    have h96 := fm_shp_lt h2
    have hat := hP.2.2.1 o h1
    have hty := fm_shp_ty _ (List.mem_of_getElem? h2)
    simp only [decide_eq_true_eq] at hty
    rw [fm_cell_arr h2] at hat
    rw [fm_rho_in (by omega)]
    rcases hty with rfl | rfl | rfl | rfl
    · rw [fm_arc_i (by decide)] at hat; exact va_alen hx hb hG.1 (fm_one hat) 0 0 rfl (ty := .int) rfl ei hd k
    · rw [fm_arc_i (by decide)] at hat; exact va_alen hx hb hG.1 (fm_one hat) 0 1 rfl (ty := .boolean) rfl ei hd k
    · rw [fm_arc_i (by decide)] at hat; exact va_alen hx hb hG.1 (fm_one hat) 0 2 rfl (ty := .byte) rfl ei hd k
    · rw [fm_arc_l] at hat; exact va_alen hx hb hG.1 (fm_one hat) 0 3 rfl (ty := .long) rfl ei hd k
theorem fm_wI_ok {o k : Nat} {x : Int} : (fm_wI σ o k x).2.2.2 = σ.2.2.2 ∧ (∀ a, a ≠ o → (fm_wI σ o k x).1 a = σ.1 a ∧ (fm_wI σ o k x).2.1 a = σ.2.1 a ∧ (fm_wI σ o k x).2.2.1 a = σ.2.2.1 a) := ⟨rfl, fun _ h => ⟨fm_cl_n h, rfl, rfl⟩⟩
theorem fm_wL_ok {o k : Nat} {x : Int} : (fm_wL σ o k x).2.2.2 = σ.2.2.2 ∧ (∀ a, a ≠ o → (fm_wL σ o k x).1 a = σ.1 a ∧ (fm_wL σ o k x).2.1 a = σ.2.1 a ∧ (fm_wL σ o k x).2.2.1 a = σ.2.2.1 a) := ⟨rfl, fun _ h => ⟨rfl, fm_cl_n h, rfl⟩⟩
/-- the int-like array cell behind a store -/
theorem fm_arst {o k : Nat} {x : Int} {cA : ClassId} {k0 : Nat} {v : Value} (hv : v = .int (fm_i x)) : (vp_cell cA (k0, .inl (fun j => fm_i (σ.1 o j)))).setSlot k v = vp_cell cA (k0, .inl (fun j => fm_i ((fm_wI σ o k x).1 o j))) := by
  subst hv
  rw [vp_cell_i, vp_cell_i, arrV_store]
  congr 1
  funext q
  show updV (fun j => Value.int (fm_i (σ.1 o j))) k (Value.int (fm_i x)) q = Value.int (fm_i (fm_cl σ.1 o (fm_pt (σ.1 o) k x) o q))
  rw [fm_cl_s]
  by_cases hq : q = k
  · subst hq; simp [updV, fm_pt]
  · simp [updV, fm_pt, hq]
theorem fm_arstL {o k : Nat} {x : Int} {cA : ClassId} {k0 : Nat} : (vp_cell cA (k0, .inr (.inl (fun j => fm_l (σ.2.1 o j))))).setSlot k (.long (fm_l x)) = vp_cell cA (k0, .inr (.inl (fun j => fm_l ((fm_wL σ o k x).2.1 o j)))) := by
  rw [vp_cell_l, vp_cell_l, arrV_store]
  congr 1
  funext q
  show updV (fun j => Value.long (fm_l (σ.2.1 o j))) k (Value.long (fm_l x)) q = Value.long (fm_l (fm_cl σ.2.1 o (fm_pt (σ.2.1 o) k x) o q))
  rw [fm_cl_s]
  by_cases hq : q = k
  · subst hq; simp [updV, fm_pt]
  · simp [updV, fm_pt, hq]
theorem fm_nar_ok (ty : FieldType) (h : ty = .boolean ∨ ty = .byte) (x : Int) : narrow ty (.int (fm_i x)) = .int (fm_i (fm_nrw ty x)) := by
  unfold fm_nrw
  rw [fm_i_to]
  rcases h with rfl | rfl <;> rfl
theorem fm_x_iast (X : fm_Cx E p R s m args meth cc n y) {o : Nat} {i x : Int} {rest : List fm_V} (hd : decode (fm_by y) pc = .ok (.iastore, 1)) (hi : fm_inB (fm_arw σ o) .int i = true)
    (hW : fm_Wn E p l e R s m args below meth cc Q na0 n y (pc + 1, lsA, rest, fm_wI σ o (wr i).toNat x)) : fm_Wn E p l e R s m args below meth cc Q na0 n y (pc, lsA, .inl x :: .inl i :: .inr (.inr (some o)) :: rest, σ) := by
  obtain ⟨hx, hb, hml, hown, hts, hin, hG, -⟩ := X
  obtain ⟨k0, hk0, hi0⟩ := fm_in hi
  obtain ⟨h1, h2⟩ := fm_arw_spec hk0
  have h96 := fm_shp_lt h2
  intro H locs ls hP hL hS hln hna hn
  have hat := hP.2.2.1 o h1
  rw [fm_cell_arr h2, fm_arc_i (by decide)] at hat
  show W p l e R s m args below meth cc H locs _ _ Q (F0 m pc ls (.int (fm_i x) :: .int (fm_i i) :: .ref (fm_rho E o) :: rest.map (fm_v E)))
  rw [fm_rho_in (by omega)]
  refine W.iast hx hb hat ((hG.1.2 0 _ rfl).1 k0 (fun j => .int (fm_i (σ.1 o j)))) (fun q => by cases q) (by show ¬ (fm_i i < 0 ∨ (arrV _ _ _).slots.size ≤ _); rw [arrV_size]; exact hi0) rfl rfl hd fun H1 e1 z1 oq => ?_
  refine hW H1 _ ls (hP.write h1 fm_wI_ok.1 fm_wI_ok.2 ?_ z1 oq) hL (hS.put z1 oq (Nat.le_add_right _ _)) hln hna hn
  rw [fm_cell_arr h2, fm_arc_i (by decide)]
  show H1[E.2.2.1 + o]? = some (vp_cell _ _)
  rw [e1]
  exact congrArg some (fm_arst rfl)
theorem fm_x_bast (X : fm_Cx E p R s m args meth cc n y) {o : Nat} {i x : Int} {ty : FieldType} {rest : List fm_V} (hd : decode (fm_by y) pc = .ok (.bastore, 1)) (hty : ty = .boolean ∨ ty = .byte) (hi : fm_inB (fm_arw σ o) ty i = true)
    (hW : fm_Wn E p l e R s m args below meth cc Q na0 n y (pc + 1, lsA, rest, fm_wI σ o (wr i).toNat (fm_nrw ty x))) : fm_Wn E p l e R s m args below meth cc Q na0 n y (pc, lsA, .inl x :: .inl i :: .inr (.inr (some o)) :: rest, σ) := by
  obtain ⟨hx, hb, hml, hown, hts, hin, hG, -⟩ := X
  obtain ⟨k0, hk0, hi0⟩ := fm_in hi
  obtain ⟨h1, h2⟩ := fm_arw_spec hk0
  have h96 := fm_shp_lt h2
  have hnl : ty ≠ .long := by rcases hty with rfl | rfl <;> decide
  intro H locs ls hP hL hS hln hna hn
  have hat := hP.2.2.1 o h1
  rw [fm_cell_arr h2, fm_arc_i hnl] at hat
  show W p l e R s m args below meth cc H locs _ _ Q (F0 m pc ls (.int (fm_i x) :: .int (fm_i i) :: .ref (fm_rho E o) :: rest.map (fm_v E)))
  rw [fm_rho_in (by omega)]
  have fin : ∀ H1 : Heap, H1[E.2.2.1 + o]? = some ((vp_cell (E.2.1 ty) (k0, .inl (fun j => fm_i (σ.1 o j)))).setSlot (fm_i i).toNatClampNeg (narrow ty (.int (fm_i x)))) → H1.size = H.size → (∀ q, q ≠ E.2.2.1 + o → H1[q]? = H[q]?) → W p l e R s m args below meth cc H1 (locs ++ [⟨E.2.2.1 + o, (fm_i i).toNatClampNeg⟩]) (σ.2.2.2.1 - na0) (fm_sz σ.2.2.2.1 - fm_sz na0) Q (F0 m (pc + 1) ls (rest.map (fm_v E))) := by
    intro H1 e1 z1 oq
    refine hW H1 _ ls (hP.write h1 fm_wI_ok.1 fm_wI_ok.2 ?_ z1 oq) hL (hS.put z1 oq (Nat.le_add_right _ _)) hln hna hn
    rw [fm_cell_arr h2, fm_arc_i hnl]
    show H1[E.2.2.1 + o]? = some (vp_cell _ _)
    rw [e1]
    exact congrArg some (fm_arst (fm_nar_ok ty hty x))
  rcases hty with rfl | rfl
  · exact W.zast hx hb hat ((hG.1.2 1 _ rfl).1 k0 (fun j => .int (fm_i (σ.1 o j)))) (fun q => by cases q) (by show ¬ (fm_i i < 0 ∨ (arrV _ _ _).slots.size ≤ _); rw [arrV_size]; exact hi0) rfl rfl hd fin
  · exact W.bast hx hb hat ((hG.1.2 2 _ rfl).1 k0 (fun j => .int (fm_i (σ.1 o j)))) (fun q => by cases q) (by show ¬ (fm_i i < 0 ∨ (arrV _ _ _).slots.size ≤ _); rw [arrV_size]; exact hi0) rfl rfl hd fin
theorem fm_x_last (X : fm_Cx E p R s m args meth cc n y) {o : Nat} {i x : Int} {rest : List fm_V} (hd : decode (fm_by y) pc = .ok (.lastore, 1)) (hi : fm_inB (fm_arw σ o) .long i = true)
    (hW : fm_Wn E p l e R s m args below meth cc Q na0 n y (pc + 1, lsA, rest, fm_wL σ o (wr i).toNat x)) : fm_Wn E p l e R s m args below meth cc Q na0 n y (pc, lsA, .inr (.inl x) :: .inl i :: .inr (.inr (some o)) :: rest, σ) := by
  obtain ⟨hx, hb, hml, hown, hts, hin, hG, -⟩ := X
  obtain ⟨k0, hk0, hi0⟩ := fm_in hi
  obtain ⟨h1, h2⟩ := fm_arw_spec hk0
  have h96 := fm_shp_lt h2
  intro H locs ls hP hL hS hln hna hn
  have hat := hP.2.2.1 o h1
  rw [fm_cell_arr h2, fm_arc_l] at hat
  show W p l e R s m args below meth cc H locs _ _ Q (F0 m pc ls (.long (fm_l x) :: .int (fm_i i) :: .ref (fm_rho E o) :: rest.map (fm_v E)))
  rw [fm_rho_in (by omega)]
  refine W.last hx hb hat ((hG.1.2 3 _ rfl).1 k0 (fun j => .long (fm_l (σ.2.1 o j)))) (fun q => by cases q) (by show ¬ (fm_i i < 0 ∨ (arrV _ _ _).slots.size ≤ _); rw [arrV_size]; exact hi0) rfl rfl hd fun H1 e1 z1 oq => ?_
  refine hW H1 _ ls (hP.write h1 fm_wL_ok.1 fm_wL_ok.2 ?_ z1 oq) hL (hS.put z1 oq (Nat.le_add_right _ _)) hln hna hn
  rw [fm_cell_arr h2, fm_arc_l]
  show H1[E.2.2.1 + o]? = some (vp_cell _ _)
  rw [e1]
  exact congrArg some fm_arstL
end FMZ
