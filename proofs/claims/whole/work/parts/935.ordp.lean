/-! ===== one order more ===== -/
def nso (so : Nat → Int) (pk : Nat → Nat) (o : Nat) : Nat → Nat → Int
  | 0 => so
  | i + 1 => fm_pt (nso so pk o i) (pk i) o
theorem nso_in {so : Nat → Int} {pk : Nat → Nat} {o s : Nat} : ∀ i : Nat, s < i → nso so pk o i (pk s) = o
  | 0, h => absurd h (by omega)
  | i + 1, h => by
    show fm_pt (nso so pk o i) (pk i) o (pk s) = o
    rw [fm_pt_ap]
    split
    · rfl
    · rename_i e
      exact nso_in i (by
        by_cases z : s = i
        · rw [z] at e; exact absurd rfl e
        · omega)
theorem nso_case {so : Nat → Int} {pk : Nat → Nat} {o h : Nat} : ∀ i : Nat, (nso so pk o i h = so h ∧ ∀ s, s < i → pk s ≠ h) ∨ ∃ s, s < i ∧ h = pk s ∧ nso so pk o i h = o
  | 0 => Or.inl ⟨rfl, fun s hs => absurd hs (by omega)⟩
  | i + 1 => by
    show (fm_pt (nso so pk o i) (pk i) o h = so h ∧ _) ∨ ∃ s, s < i + 1 ∧ h = pk s ∧ fm_pt (nso so pk o i) (pk i) o h = o
    rw [fm_pt_ap]
    by_cases e : h = pk i
    · right; exact ⟨i, by omega, e, if_pos e⟩
    · rw [if_neg e]
      rcases nso_case (so := so) (pk := pk) (o := o) (h := h) i with q | ⟨s, s1, s2, s3⟩
      · left
        refine ⟨q.1, fun s hs => ?_⟩
        by_cases z : s = i
        · rw [z]; exact fun w => e w.symm
        · exact q.2 s (by omega)
      · right; exact ⟨s, by omega, s2, s3⟩
theorem cnt_congr {f g : Nat → Int} {a : Nat} : ∀ k : Nat, (∀ j, j < k → f (a + j) = g (a + j)) → iv_cnt f a k = iv_cnt g a k
  | 0, _ => rfl
  | k + 1, h => by unfold iv_cnt; rw [cnt_congr k (fun j hj => h j (by omega)), h k (by omega)]
theorem cnt_none {f : Nat → Int} {a : Nat} : ∀ k : Nat, (∀ j, j < k → f (a + j) = -1) → iv_cnt f a k = 0
  | 0, _ => rfl
  | k + 1, h => by unfold iv_cnt; rw [cnt_none k (fun j hj => h j (by omega)), h k (by omega)]; rfl
theorem cnt_pt {f : Nat → Int} {a s : Nat} {g : Int} (hf : f (a + s) = -1) (hg : 0 ≤ g) : ∀ k : Nat, iv_cnt (fm_pt f (a + s) g) a k = if s < k then iv_cnt f a k + 1 else iv_cnt f a k
  | 0 => by rw [if_neg (by omega)]; rfl
  | k + 1 => by
    have ih := cnt_pt hf hg k
    show iv_cnt (fm_pt f (a + s) g) a k + (if 0 ≤ fm_pt f (a + s) g (a + k) then 1 else 0) = if s < k + 1 then iv_cnt f a k + (if 0 ≤ f (a + k) then 1 else 0) + 1 else iv_cnt f a k + (if 0 ≤ f (a + k) then 1 else 0)
    rw [ih, fm_pt_ap]
    by_cases e : k = s
    · subst e
      rw [if_neg (show ¬ k < k by omega), if_pos (show a + k = a + k from rfl), if_pos hg, if_pos (show k < k + 1 by omega), hf, if_neg (show ¬ (0 : Int) ≤ -1 by omega)]
      omega
    · rw [if_neg (show ¬ a + k = a + s by omega)]
      by_cases e2 : s < k
      · rw [if_pos e2, if_pos (show s < k + 1 by omega)]; omega
      · rw [if_neg e2, if_neg (show ¬ s < k + 1 by omega)]
theorem ord_add {m c b nst : Nat} {nb bl : Int} {bs bi le nl st ha lr so lo : Nat → Int} {pk : Nat → Nat} (h : iv_ord m c nb bs bi le nl st ha lr so lo) (hm : m < 60) (hbs : ∀ b : Nat, (b : Int) < nb → bs b ≤ 12) (hb : (b : Int) < nb) (hn : bs b = nst) (hbl : 1 ≤ bl ∧ bl ≤ 48) (hpk : ∀ i, i < nst → pk i < c ∧ so (pk i) = -1) :
    iv_ord ((m : Int) + 1) c nb bs (fm_pt bi m b) (fm_pt le m bl) (fm_pt nl m 0) (fm_pt st m nst) (rowp ha (12 * m) nst (fun i => (pk i : Int))) (rowp lr (12 * m) nst (fun _ => -1)) (nso so pk m nst) lo := by
  obtain ⟨m0, m60, o1, o2, o3⟩ := h
  have hn12 := hbs b hb
  have low : ∀ (o s : Nat), o < m → (s : Int) < st o → 12 * o + s < 12 * m := by
    intro o s ho hs
    obtain ⟨a1, a2, a3, -⟩ := o1 o (by omega)
    have := hbs (bi o).toNat (by omega)
    omega
  refine ⟨by omega, by omega, fun o ho => ?_, fun o s ho hl hs => ?_, fun h hh => ⟨?_, ?_⟩⟩
  · by_cases e : o = m
    · subst e
      rw [fm_pt_s, fm_pt_s, fm_pt_s, fm_pt_s, Int.toNat_natCast, Int.toNat_natCast]
      refine ⟨by omega, hb, hn.symm, by omega, by omega, ?_, fun s hs => ?_⟩
      · rw [cnt_none nst (fun j hj => rowp_at hj)]
      · rw [rowp_at (by omega), rowp_at (by omega)]
        have := hpk s (by omega)
        omega
    · obtain ⟨a1, a2, a3, a4, a5, a6, a7⟩ := o1 o (by omega)
      rw [fm_pt_n e, fm_pt_n e, fm_pt_n e, fm_pt_n e]
      refine ⟨a1, a2, a3, a4, a5, ?_, fun s hs => ?_⟩
      · rw [a6]
        exact cnt_congr _ (fun j hj => (rowp_out (Or.inl (low o j (by omega) (by omega)))).symm)
      · rw [rowp_out (Or.inl (low o s (by omega) hs)), rowp_out (Or.inl (low o s (by omega) hs))]
        exact a7 s hs
  · by_cases e : o = m
    · subst e
      rw [fm_pt_s] at hs
      rw [rowp_at (by omega), rowp_at (by omega), Int.toNat_natCast]
      exact ⟨nso_in nst (by omega), fun z => absurd z (by omega)⟩
    · rw [fm_pt_n e] at hl hs
      obtain ⟨q1, q2⟩ := o2 o s (by omega) hl hs
      rw [rowp_out (Or.inl (low o s (by omega) hs)), rowp_out (Or.inl (low o s (by omega) hs))]
      refine ⟨?_, q2⟩
      rcases nso_case (so := so) (pk := pk) (o := m) (h := (ha (12 * o + s)).toNat) nst with z | ⟨i, i1, i2, i3⟩
      · rw [z.1]; exact q1
      · have := (hpk i i1).2
        rw [← i2, q1] at this
        omega
  · rcases nso_case (so := so) (pk := pk) (o := m) (h := h) nst with z | ⟨i, i1, i2, i3⟩
    · rw [z.1]
      rcases (o3 h hh).1 with e | ⟨o, s, t1, t2, t3, t4, t5⟩
      · exact Or.inl e
      · have e : o ≠ m := by omega
        exact Or.inr ⟨o, s, t1, by omega, by rw [fm_pt_n e]; exact t3, by rw [fm_pt_n e]; exact t4, by rw [rowp_out (Or.inl (low o s (by omega) t4))]; exact t5⟩
    · right
      exact ⟨m, i, i3, by omega, by rw [fm_pt_s]; omega, by rw [fm_pt_s]; omega, by rw [rowp_at i1, i2]⟩
  · rcases (o3 h hh).2 with e | ⟨o, s, t1, t2, t3, t4, t5⟩
    · exact Or.inl e
    · have e : o ≠ m := by omega
      exact Or.inr ⟨o, s, t1, by omega, by rw [fm_pt_n e]; exact t3, by rw [fm_pt_n e]; exact t4, by rw [rowp_out (Or.inl (low o s (by omega) t4))]; exact t5⟩
theorem ord_learn {M : Int} {c o s g : Nat} {nb : Int} {bs bi le nl st ha lr so lo : Nat → Int} (h : iv_ord M c nb bs bi le nl st ha lr so lo) (hbs : ∀ b : Nat, (b : Int) < nb → bs b ≤ 12) (ho : (o : Int) < M) (hl : 0 < le o) (hs : (s : Int) < st o) (hlr : lr (12 * o + s) = -1) (hg : g < c) (hlo : lo g = -1) :
    iv_ord M c nb bs bi le (fm_pt nl o (nl o + 1)) st ha (fm_pt lr (12 * o + s) g) so (fm_pt lo g o) := by
  obtain ⟨m0, m60, o1, o2, o3⟩ := h
  have st12 : ∀ x : Nat, (x : Int) < M → st x ≤ 12 := by
    intro x hx
    obtain ⟨a1, a2, a3, -⟩ := o1 x hx
    have := hbs (bi x).toNat (by omega)
    omega
  have ne : ∀ (x y : Nat), (x : Int) < M → (y : Int) < st x → 12 * x + y = 12 * o + s → x = o ∧ y = s := by
    intro x y hx hy e
    have a := st12 x hx
    have b := st12 o ho
    omega
  refine ⟨m0, m60, fun x hx => ?_, fun x y hx hlx hy => ?_, fun h hh => ⟨?_, ?_⟩⟩
  · obtain ⟨a1, a2, a3, a4, a5, a6, a7⟩ := o1 x hx
    refine ⟨a1, a2, a3, a4, a5, ?_, fun y hy => ?_⟩
    · rw [fm_pt_ap]
      by_cases e : x = o
      · subst e
        rw [if_pos rfl, cnt_pt hlr (by omega), if_pos (by omega), a6]
      · rw [if_neg e, a6]
        exact cnt_congr _ (fun j hj => by
          rw [fm_pt_n]
          intro q
          exact e (ne x j hx (by omega) q).1)
    · have z := a7 y hy
      refine ⟨z.1, z.2.1, ?_, ?_⟩ <;> rw [fm_pt_ap] <;> split <;> omega
  · obtain ⟨q1, q2⟩ := o2 x y hx hlx hy
    refine ⟨q1, ?_⟩
    rw [fm_pt_ap]
    by_cases e : 12 * x + y = 12 * o + s
    · obtain ⟨e1, e2⟩ := ne x y hx hy e
      rw [if_pos e, Int.toNat_natCast, fm_pt_s, e1]
      exact fun _ => rfl
    · rw [if_neg e]
      intro z
      have q2 := q2 z
      rw [fm_pt_ap, if_neg]
      · exact q2
      · intro e2; rw [e2, hlo] at q2; omega
  · exact (o3 h hh).1
  · rw [fm_pt_ap]
    by_cases e : h = g
    · right
      rw [if_pos e]
      exact ⟨o, s, rfl, ho, hl, hs, by rw [fm_pt_s, e]⟩
    · rw [if_neg e]
      rcases (o3 h hh).2 with q | ⟨x, y, t1, t2, t3, t4, t5⟩
      · exact Or.inl q
      · right
        refine ⟨x, y, t1, t2, t3, t4, ?_⟩
        rw [fm_pt_ap, if_neg]
        · exact t5
        · intro e2; rw [e2, hlr] at t5; omega
/-- learners, station by station: how many, the rows, whose learner a hand is -/
def lst (w si so : Nat → Int) (sk : Nat → Nat) (le : Nat → Int) (now : Int) (c o : Nat) (ks : Nat → Nat) (nl lr lo : Nat → Int) : Nat → (Nat → Int) × (Nat → Int) × (Nat → Int)
  | 0 => (nl, lr, lo)
  | i + 1 =>
    if lpk w si so sk le now c (ks i) (lst w si so sk le now c o ks nl lr lo i).2.2 = -1 then lst w si so sk le now c o ks nl lr lo i
    else (fm_pt (lst w si so sk le now c o ks nl lr lo i).1 o ((lst w si so sk le now c o ks nl lr lo i).1 o + 1), fm_pt (lst w si so sk le now c o ks nl lr lo i).2.1 (12 * o + i) (lpk w si so sk le now c (ks i) (lst w si so sk le now c o ks nl lr lo i).2.2), fm_pt (lst w si so sk le now c o ks nl lr lo i).2.2 (lpk w si so sk le now c (ks i) (lst w si so sk le now c o ks nl lr lo i).2.2).toNat o)
section LST
variable {w si so : Nat → Int} {sk : Nat → Nat} {le : Nat → Int} {now : Int} {c o : Nat} {ks : Nat → Nat} {nl lr lo : Nat → Int}
theorem lst_out {x : Nat} : ∀ i : Nat, 12 * o + i ≤ x ∨ x < 12 * o → (lst w si so sk le now c o ks nl lr lo i).2.1 x = lr x
  | 0, _ => rfl
  | i + 1, h => by
    unfold lst
    split
    · exact lst_out i (by omega)
    · show fm_pt _ _ _ x = _
      rw [fm_pt_n (by omega)]
      exact lst_out i (by omega)
theorem lst_nl {x : Nat} (hx : x ≠ o) : ∀ i : Nat, (lst w si so sk le now c o ks nl lr lo i).1 x = nl x
  | 0 => rfl
  | i + 1 => by
    unfold lst
    split
    · exact lst_nl hx i
    · show fm_pt _ _ _ x = _
      rw [fm_pt_n hx]
      exact lst_nl hx i
theorem ord_lst {M : Int} {nst : Nat} {nb : Int} {bs bi lf st ha : Nat → Int} (h : iv_ord M c nb bs bi lf nl st ha lr so lo) (hbs : ∀ b : Nat, (b : Int) < nb → bs b ≤ 12) (ho : (o : Int) < M) (hl : 0 < lf o) (hst : st o = nst) (hlr : ∀ i, i < nst → lr (12 * o + i) = -1) : ∀ i : Nat, i ≤ nst → iv_ord M c nb bs bi lf (lst w si so sk le now c o ks nl lr lo i).1 st ha (lst w si so sk le now c o ks nl lr lo i).2.1 so (lst w si so sk le now c o ks nl lr lo i).2.2
  | 0, _ => h
  | i + 1, hi => by
    have ih := ord_lst h hbs ho hl hst hlr i (by omega)
    have pin := lpk_in (w := w) (si := si) (so := so) (sk := sk) (le := le) (now := now) (c := c) (k := ks i) (lo := (lst w si so sk le now c o ks nl lr lo i).2.2)
    have out := lst_out (w := w) (si := si) (so := so) (sk := sk) (le := le) (now := now) (c := c) (o := o) (ks := ks) (nl := nl) (lr := lr) (lo := lo) (x := 12 * o + i) i (Or.inl (by omega))
    unfold lst
    split
    · exact ih
    · rename_i e
      obtain ⟨g, hg⟩ : ∃ g : Nat, lpk w si so sk le now c (ks i) (lst w si so sk le now c o ks nl lr lo i).2.2 = g := ⟨(lpk w si so sk le now c (ks i) (lst w si so sk le now c o ks nl lr lo i).2.2).toNat, by omega⟩
      have p3 := pin.2.2 e
      rw [hg, Int.toNat_natCast] at p3
      have p4 := (lok_iff.mp p3).2.2.2.1
      rw [hg, Int.toNat_natCast]
      exact ord_learn ih hbs ho hl (by omega) (by rw [out]; exact hlr i (by omega)) (by omega) p4
end LST
/-- rests, with one order more -/
theorem rest_add {be c rd rs : Int} {m nst : Nat} {wb fb fr rb so sb dw dg cs : Nat → Int} {pk : Nat → Nat} (h : iv_rest be c rd rs m wb fb fr rb so sb dw dg cs) : iv_rest be c rd rs ((m : Int) + 1) wb fb fr rb so sb dw dg (nso cs pk m nst) := by
  obtain ⟨wk, og, r1, r2, r3, r4, r5, r6⟩ := h
  refine ⟨wk, og, r1, fun h t a b => ?_, r3, r4, r5, fun h t a b e => ?_⟩
  · have := r2 h t a b
    exact ⟨this.1, by omega, this.2.2⟩
  · rcases nso_case (so := cs) (pk := pk) (o := m) (h := h) nst with z | ⟨i, i1, i2, i3⟩
    · rw [z.1] at e ⊢; exact r6 h t a b e
    · rw [i3]
      have := r2 h t a b
      omega
