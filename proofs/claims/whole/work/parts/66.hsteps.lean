section FMY
variable {E : fm_E} {p : Program} {l : Launch} {e : Env} {R : Room} {s : State} {m : MethodId} {args : Array Value} {below : List Frame} {meth : Method} {cc : Code} {Q : State → Prop} {na0 n y pc : Nat} {lsA : List (Option fm_V)} {st : List fm_V} {σ : fm_S}
theorem fm_x_getf (X : fm_Cx E p R s m args meth cc n y) {ix a b o : Nat} {rest : List fm_V} (hd : decode (fm_by y) pc = .ok (.getfield ix, 3)) (ha : a < 9) (hb9 : b < fm_nf a) (hl : ∃ q ∈ fm_fl, q.1 = fm_own y ∧ q.2.1 = ix ∧ q.2.2.1 = a ∧ q.2.2.2.1 = b) (ho : fm_obj σ o = some a)
    (hW : fm_Wn E p l e R s m args below meth cc Q na0 n y (pc + 3, lsA, fm_fget σ o b (fm_fty a b) :: rest, σ)) : fm_Wn E p l e R s m args below meth cc Q na0 n y (pc, lsA, .inr (.inr (some o)) :: rest, σ) := by
  obtain ⟨hx, hb, hml, hown, hts, hin, hG, -⟩ := X
  obtain ⟨q, hq, q1, q2, q3, q4⟩ := hl
  obtain ⟨h1, h2⟩ := fm_obj_spec ho
  have h96 := fm_shp_lt h2
  intro H locs ls hP hL hS hln hna hn
  have k := hW H locs ls hP hL hS hln hna hn
  have hat := hP.2.2.1 o h1
  rw [fm_cell_obj h2] at hat
  have hlink := hts _ (fm_bigOf (fm_fl_ok q hq) rfl)
  rw [q1, q2, q3, q4] at hlink
  show W p l e R s m args below meth cc H locs _ _ Q (F0 m pc ls (.ref (fm_rho E o) :: rest.map (fm_v E)))
  rw [fm_rho_in (by omega)]
  exact va_get (D := E.1) (ci := a) (C := fm_cnm a) (T := fm_clT a) (N := fm_nf a) (ref := (fm_clT a b).1) hx hb hts (fm_in_lays ha) hown hG.1 (fm_one hat) 0 rfl (fm_cls_at a ha) b hb9 hlink (fun _ h9 => h9) (fm_fsl_at hb9) hd k
theorem fm_x_putf (X : fm_Cx E p R s m args meth cc n y) {ix a b o : Nat} {v : fm_V} {rest : List fm_V} {τ : fm_S} (hd : decode (fm_by y) pc = .ok (.putfield ix, 3)) (ha : a < 9) (hb9 : b < fm_nf a) (hl : ∃ q ∈ fm_fl, q.1 = fm_own y ∧ q.2.1 = ix ∧ q.2.2.1 = a ∧ q.2.2.2.1 = b) (hfin : (fm_clT a b).2.2.2 = false ∨ (fm_init y = true ∧ fm_own y = a)) (ho : fm_obj σ o = some a) (hput : fm_fput σ o b (fm_fty a b) v = some τ)
    (hW : fm_Wn E p l e R s m args below meth cc Q na0 n y (pc + 3, lsA, rest, τ)) : fm_Wn E p l e R s m args below meth cc Q na0 n y (pc, lsA, v :: .inr (.inr (some o)) :: rest, σ) := by
  obtain ⟨hx, hb, hml, hown, hts, hin, hG, -⟩ := X
  obtain ⟨q, hq, q1, q2, q3, q4⟩ := hl
  obtain ⟨h1, h2⟩ := fm_obj_spec ho
  have h96 := fm_shp_lt h2
  have hc := fm_cls_at a ha
  have hlink := hts _ (fm_bigOf (fm_fl_ok q hq) rfl)
  rw [q1, q2, q3, q4] at hlink
  have hdesc := fm_ty_ok a ha b hb9
  -- the value fits, and the new memory
  have hv : narrow (fm_fty a b) (fm_v E v) = fm_v E v ∧ fits (fm_fty a b) (fm_v E v) = true := by
    revert hput
    unfold fm_fput
    cases fm_fty a b <;> intro hput <;> try (cases hput)
    all_goals
      first
        | (match v, hput with
           | .inl x, _ => exact ⟨rfl, rfl⟩)
        | (match v, hput with
           | .inr (.inl x), _ => exact ⟨rfl, rfl⟩)
        | (match v, hput with
           | .inr (.inr (some r)), _ => exact ⟨rfl, rfl⟩)
  have hm : τ.2.2.2 = σ.2.2.2 ∧ (∀ a, a ≠ o → τ.1 a = σ.1 a ∧ τ.2.1 a = σ.2.1 a ∧ τ.2.2.1 a = σ.2.2.1 a) ∧ ∀ j, j < fm_nf a → fm_fget τ o j (fm_fty a j) = if j = b then v else fm_fget σ o j (fm_fty a j) := by
    revert hput
    unfold fm_fput
    cases hty : fm_fty a b <;> intro hput <;> try (cases hput)
    all_goals
      first
        | (match v, hput with
           | .inl x, hput =>
             cases hput
             refine ⟨rfl, fun a' ha' => ⟨fm_cl_n ha', rfl, rfl⟩, fun j hj => ?_⟩
             by_cases hjb : j = b
             · subst hjb; rw [if_pos rfl, hty]; show Sum.inl (fm_cl σ.1 o (fm_pt (σ.1 o) j x) o j) = _; rw [fm_cl_s, fm_pt_s]
             · rw [if_neg hjb]; unfold fm_fget; show (match fm_fty a j with | .int => Sum.inl (fm_cl σ.1 o (fm_pt (σ.1 o) b x) o j) | .long => _ | _ => _) = _; rw [fm_cl_s, fm_pt_n hjb]; rfl)
        | (match v, hput with
           | .inr (.inl x), hput =>
             cases hput
             refine ⟨rfl, fun a' ha' => ⟨rfl, fm_cl_n ha', rfl⟩, fun j hj => ?_⟩
             by_cases hjb : j = b
             · subst hjb; rw [if_pos rfl, hty]; show Sum.inr (Sum.inl (fm_cl σ.2.1 o (fm_pt (σ.2.1 o) j x) o j)) = _; rw [fm_cl_s, fm_pt_s]
             · rw [if_neg hjb]; unfold fm_fget; show (match fm_fty a j with | .int => _ | .long => Sum.inr (Sum.inl (fm_cl σ.2.1 o (fm_pt (σ.2.1 o) b x) o j)) | _ => _) = _; rw [fm_cl_s, fm_pt_n hjb]; rfl)
        | (match v, hput with
           | .inr (.inr (some r)), hput =>
             cases hput
             refine ⟨rfl, fun a' ha' => ⟨rfl, rfl, fm_cl_n ha'⟩, fun j hj => ?_⟩
             by_cases hjb : j = b
             · subst hjb; rw [if_pos rfl, hty]; show Sum.inr (Sum.inr (fm_cl σ.2.2.1 o (fm_pt (σ.2.2.1 o) j (some r)) o j)) = _; rw [fm_cl_s, fm_pt_s]
             · rw [if_neg hjb]; unfold fm_fget; show (match fm_fty a j with | .int => _ | .long => _ | _ => Sum.inr (Sum.inr (fm_cl σ.2.2.1 o (fm_pt (σ.2.2.1 o) b (some r)) o j))) = _; rw [fm_cl_s, fm_pt_n hjb]; rfl)
  obtain ⟨m1, m2, m3⟩ := hm
  intro H locs ls hP hL hS hln hna hn
  have hK := hG.1
  have hat := hP.2.2.1 o h1
  rw [fm_cell_obj h2] at hat
  have hap := va_apart (own := fm_cnm a) (D := E.1) (tys := fm_tys E) (cl := fm_cls) hts (fm_in_lays ha) (fm_fty a) (fm_ty_ok a ha) (fm_nms_ok a ha) hK hc
  obtain ⟨r, r1, cell, c1, c2, c3, c4⟩ := hat
  have hr : r = (fm_cnm a, fm_clT a, fm_nf a) := Option.some.inj (r1.symm.trans hc)
  subst hr
  obtain ⟨hSl, hfc, kC, hkC, hkind⟩ := hK.1 a _ hc
  obtain ⟨cf, kf, fi, f, hi, hsl⟩ := hSl b hb9
  have hst := (u_facts hfc hkC (u_lays hts (fm_in_lays ha) hb9) hi).1
  have hlen : b < (fm_fsl E σ o a).length := by rw [fm_fsl_len]; exact hb9
  have fin : ∀ H' : Heap, H'[E.2.2.1 + o]? = some (cell.setSlot f.slot (fm_v E v)) → H'.size = H.size → (∀ q, q ≠ E.2.2.1 + o → H'[q]? = H[q]?) → W p l e R s m args below meth cc H' (locs ++ [⟨E.2.2.1 + o, f.slot⟩]) (σ.2.2.2.1 - na0) (fm_sz σ.2.2.2.1 - fm_sz na0) Q (F0 m (pc + 3) ls (rest.map (fm_v E))) := by
    intro H' e1 e2 e3
    rw [hsl] at e1
    have hP' : fm_Pic E τ H' := by
      refine hP.write h1 m1 m2 ?_ e2 e3
      rw [fm_cell_obj h2]
      refine ⟨_, hc, ?_⟩
      show t_OB (E.2.2.1 + o) (E.1.1 a) (fm_nf a) (E.1.2 a) H' (vp_V (fm_fsl E τ o a))
      rw [← fm_fsl_set (E := E) (v := v) hb9 m3]
      exact t_OB.to (V := updV (vp_V (fm_fsl E σ o a)) b (fm_v E v)) ⟨_, e1, c2, c3, t_set c4 hap hb9 (fm_v E v)⟩ (fun j _ => vp_updV_set hlen (fm_v E v) j)
    have k := hW H' (locs ++ [⟨E.2.2.1 + o, f.slot⟩]) ls hP' hL (hS.put e2 e3 (Nat.le_add_right _ _)) hln (by show na0 ≤ τ.2.2.2.1; rw [m1]; exact hna) (by show τ.2.2.2.2 = n; rw [m1]; exact hn)
    dsimp only at k
    rw [m1] at k
    exact k
  show W p l e R s m args below meth cc H locs _ _ Q (F0 m pc ls (fm_v E v :: .ref (fm_rho E o) :: rest.map (fm_v E)))
  rw [fm_rho_in (by omega)]
  have hlay := hts _ (fm_in_lays ha _ (u_in_lay hb9))
  rcases hfin with hf | ⟨hf1, hf2⟩
  · unfold u_lay at hlay
    rw [if_neg (by rw [hf]; decide)] at hlay
    have h6 := u_store hfc hkC hkind hlay hi hdesc hv.1 hv.2
    exact W.putK hx hb (f := f) ⟨hown, hlink, ⟨_, _, _, hi⟩, hst⟩ (by rw [c2]; exact h6) c1 c3 (by rw [hsl]; exact k2_hasslot (c4 b hb9)) rfl rfl hd fin
  · by_cases hf : (fm_clT a b).2.2.2 = true
    · unfold u_lay at hlay
      rw [if_pos hf] at hlay
      have hcf : m.cls = cf := by
        obtain ⟨_, _, c', _, _, _, -, -, hf', -, -, -, hown2, -⟩ := Cond.laysFinal_spec hlay
        have e1 : c' = cf := by have := hi.symm.trans hf'; simp at this; exact this.1.symm
        rw [fm_decl a ha b hb9] at hown2
        rw [hf2] at hown
        rw [← e1]; exact Option.some.inj (hown.symm.trans hown2)
      have h6 := u_fits hfc hkC hkind (Or.inr hlay) hi hdesc hv.1 hv.2
      exact W.putFinK hx hb hown hlink hi hst hcf (hin hf1) (by rw [c2]; exact h6) c1 c3 (by rw [hsl]; exact k2_hasslot (c4 b hb9)) rfl rfl hd fin
    · unfold u_lay at hlay
      rw [if_neg hf] at hlay
      have h6 := u_store hfc hkC hkind hlay hi hdesc hv.1 hv.2
      exact W.putK hx hb (f := f) ⟨hown, hlink, ⟨_, _, _, hi⟩, hst⟩ (by rw [c2]; exact h6) c1 c3 (by rw [hsl]; exact k2_hasslot (c4 b hb9)) rfl rfl hd fin
end FMY
