/-! ===== THE FLAT MACHINE: a pure picture of the bytecode over a memory of numbers ===== -/
abbrev fm_C : Type := Nat × List (Option fm_V) × List fm_V × fm_S
abbrev fm_O : Type := fm_C ⊕ (Option fm_V × fm_S) ⊕ (Nat × List fm_V × fm_C)
def fm_i (x : Int) : Int32 := Int32.ofInt x
def fm_l (x : Int) : Int64 := Int64.ofInt x
/-- the number that 32 bits keep of x -/
def wr (x : Int) : Int := (fm_i x).toInt
def wl (x : Int) : Int := (fm_l x).toInt
def fm_and (x y : Int) : Int := (fm_i x &&& fm_i y).toInt
def fm_or (x y : Int) : Int := (fm_i x ||| fm_i y).toInt
def fm_xor (x y : Int) : Int := (fm_i x ^^^ fm_i y).toInt
def fm_shl (x y : Int) : Int := (fm_i x <<< (fm_i y &&& 31)).toInt
def fm_shr (x y : Int) : Int := (fm_i x >>> (fm_i y &&& 31)).toInt
def fm_div (x y : Int) : Int := (fm_i x / fm_i y).toInt
def fm_rem (x y : Int) : Int := (fm_i x - fm_i x / fm_i y * fm_i y).toInt
def fm_i2b (x : Int) : Int := ((fm_i x).toInt8.toInt32).toInt
def fm_i2c (x : Int) : Int := (((fm_i x).toUInt32 % 65536).toInt32).toInt
def fm_l2i (x : Int) : Int := ((fm_l x).toInt32).toInt
def fm_lcmp (x y : Int) : Int := if wl x < wl y then -1 else if wl y < wl x then 1 else 0
def fm_cmp (cd : Jvm.ClassFile.Cond) (x y : Int) : Bool := match cd with
  | .eq => decide (wr x = wr y)
  | .ne => decide (¬ wr x = wr y)
  | .lt => decide (wr x < wr y)
  | .ge => decide (wr y ≤ wr x)
  | .gt => decide (wr y < wr x)
  | .le => decide (wr x ≤ wr y)
/-- cell a with the contents f -/
def fm_cl {α : Type} (I : Nat → Nat → α) (a : Nat) (f : Nat → α) : Nat → Nat → α := fun b => if b = a then f else I b
/-- place k with v -/
def fm_pt {α : Type} (f : Nat → α) (k : Nat) (v : α) : Nat → α := fun j => if j = k then v else f j
def fm_wI (σ : fm_S) (a k : Nat) (v : Int) : fm_S := (fm_cl σ.1 a (fm_pt (σ.1 a) k v), σ.2)
def fm_wL (σ : fm_S) (a k : Nat) (v : Int) : fm_S := (σ.1, fm_cl σ.2.1 a (fm_pt (σ.2.1 a) k v), σ.2.2)
def fm_wR (σ : fm_S) (a k : Nat) (v : Option Nat) : fm_S := (σ.1, σ.2.1, fm_cl σ.2.2.1 a (fm_pt (σ.2.2.1 a) k v), σ.2.2.2)
/-- one cell more, all zero -/
def fm_new (σ : fm_S) : fm_S := (fm_cl σ.1 σ.2.2.2.1 (fun _ => 0), fm_cl σ.2.1 σ.2.2.2.1 (fun _ => 0), fm_cl σ.2.2.1 σ.2.2.2.1 (fun _ => none), σ.2.2.2.1 + 1, σ.2.2.2.2)
/-- the array at a that may be written -/
def fm_arw (σ : fm_S) (a : Nat) : Option (FieldType × Nat) := if a < σ.2.2.2.1 then (match fm_shp[a]? with | some (.inl q) => some q | _ => none) else none
/-- the array at a, the script too -/
def fm_arr (σ : fm_S) (a : Nat) : Option (FieldType × Nat) := if a = 500 then some (.int, σ.2.2.2.2) else fm_arw σ a
def fm_obj (σ : fm_S) (a : Nat) : Option Nat := if a < σ.2.2.2.1 then (match fm_shp[a]? with | some (.inr c) => some c | _ => none) else none
def fm_fget (σ : fm_S) (a k : Nat) (ty : FieldType) : fm_V := match ty with
  | .int => .inl (σ.1 a k)
  | .long => .inr (.inl (σ.2.1 a k))
  | _ => .inr (.inr (σ.2.2.1 a k))
def fm_fput (σ : fm_S) (a k : Nat) (ty : FieldType) (v : fm_V) : Option fm_S := match ty with
  | .int => (match v with | .inl x => some (fm_wI σ a k x) | _ => none)
  | .long => (match v with | .inr (.inl x) => some (fm_wL σ a k x) | _ => none)
  | .object _ => (match v with | .inr (.inr (some r)) => some (fm_wR σ a k (some r)) | _ => none)
  | .array _ => (match v with | .inr (.inr (some r)) => some (fm_wR σ a k (some r)) | _ => none)
  | _ => none
/-- not a long -/
def fm_nl (v : Option fm_V) : Bool := match v with
  | some (.inr (.inl _)) => false
  | _ => true
def fm_prev (ls : List (Option fm_V)) (a : Nat) : Option fm_V := match a with
  | 0 => none
  | k + 1 => ls.getD k none
def fm_worth (r : Nat) : Option Int := match r with
  | 600 => some 24170600
  | 601 => some 595572
  | 602 => some 75148
  | 603 => some 152972
  | 604 => some 12748366
  | 605 => some 12748404
  | _ => none
def fm_me (y : Nat) : fm_M := fm_ms.getD y fm_m0
abbrev fm_own (y : Nat) : Nat := (fm_me y).1
abbrev fm_nm (y : Nat) : MethodName := (fm_me y).2.1
abbrev fm_by (y : Nat) : ByteArray := (fm_me y).2.2.1
abbrev fm_maxL (y : Nat) : Nat := (fm_me y).2.2.2.1
abbrev fm_ret (y : Nat) : Option FieldType := (fm_me y).2.2.2.2.1
abbrev fm_fr (y : Nat) : Nat := (fm_me y).2.2.2.2.2.1.1
abbrev fm_lo (y : Nat) : Nat := (fm_me y).2.2.2.2.2.1.2
abbrev fm_dna (y : Nat) : Nat := (fm_me y).2.2.2.2.2.2.1.1
abbrev fm_dsl (y : Nat) : Nat := (fm_me y).2.2.2.2.2.2.1.2
abbrev fm_nar (y : Nat) : Nat := (fm_me y).2.2.2.2.2.2.2.1
abbrev fm_stc (y : Nat) : Bool := (fm_me y).2.2.2.2.2.2.2.2
def fm_tsw (pc : Nat) (d lo hi : Int) (offs : Array Int) (x : Int) : Int := (pc : Int) + (if wr x < lo ∨ hi < wr x then d else offs.getD (wr x - lo).toNat d)
def fm_lsw (pc : Nat) (d : Int) (ps : Array (Int × Int)) (x : Int) : Int := (pc : Int) + Op.lookupswitch.offset ps.toList d (wr x)
/-- the receiver of a call: of a virtual one (k = 0) an object of the callee's class, of a constructor (k = 1) an object -/
def fm_rcv (k : Nat) (σ : fm_S) (a : Nat) (as : List fm_V) : Bool := match k with
  | 0 => (match as with | .inr (.inr (some r)) :: _ => decide (fm_obj σ r = some (fm_own a)) | _ => false)
  | 1 => (match as with | .inr (.inr (some _)) :: _ => true | _ => false)
  | _ => true
def fm_sl : List fm_V → List (Option fm_V)
  | [] => []
  | .inr (.inl x) :: r => some (.inr (.inl x)) :: none :: fm_sl r
  | v :: r => some v :: fm_sl r
def fm_ent (y : Nat) (as : List fm_V) : List (Option fm_V) := fm_sl as ++ List.replicate (fm_maxL y - (fm_sl as).length) none
def fm_call (k : Nat) (pc a b : Nat) (ls : List (Option fm_V)) (st : List fm_V) (σ : fm_S) : Option fm_O :=
  match b with
  | 1 => (match st with | .inr (.inr (some _)) :: st => if st.length ≤ 4 then some (.inl (pc + 3, ls, st, σ)) else none | _ => none)
  | 2 => (match st with | .inr (.inr (some r)) :: st => (match fm_worth r with | some v => if st.length ≤ 4 then some (.inl (pc + 3, ls, .inr (.inl v) :: st, σ)) else none | none => none) | _ => none)
  | 4 => (match st with | .inl z :: .inl x :: st => if st.length ≤ 4 then some (.inl (pc + 3, ls, .inl (if wr x < wr z then z else x) :: st, σ)) else none | _ => none)
  | 5 => (match st with | .inl z :: .inl x :: st => if st.length ≤ 4 then some (.inl (pc + 3, ls, .inl (if wr z < wr x then z else x) :: st, σ)) else none | _ => none)
  | _ => if fm_nar a ≤ st.length ∧ (st.drop (fm_nar a)).length ≤ 4 ∧ fm_rcv k σ a (st.take (fm_nar a)).reverse = true ∧ (fm_sl (st.take (fm_nar a)).reverse).length ≤ fm_maxL a then some (.inr (.inr (a, (st.take (fm_nar a)).reverse, (pc + 3, ls, st.drop (fm_nar a), σ)))) else none
def fm_inB (q : Option (FieldType × Nat)) (ty : FieldType) (i : Int) : Bool := match q with
  | some (t, n) => decide (t = ty ∧ 0 ≤ wr i ∧ wr i < (n : Int))
  | none => false
/-- what a byte array or a boolean array keeps of a number -/
def fm_nrw (ty : FieldType) (x : Int) : Int := (vp_nar ty (fm_i x)).toInt
def fm_st (a : Nat) (v : fm_V) (pc : Nat) (ls : List (Option fm_V)) (st : List fm_V) (σ : fm_S) : Option fm_O :=
  if a < ls.length ∧ fm_nl (fm_prev ls a) = true then some (.inl (pc, ls.set a (some v), st, σ)) else none
def fm_bin (f : Int → Int → Int) (pc : Nat) (ls : List (Option fm_V)) (st : List fm_V) (σ : fm_S) : Option fm_O :=
  match st with
  | .inl y :: .inl x :: st => some (.inl (pc + 1, ls, .inl (f x y) :: st, σ))
  | _ => none
def fm_lbin (f : Int → Int → Int) (pc : Nat) (ls : List (Option fm_V)) (st : List fm_V) (σ : fm_S) : Option fm_O :=
  match st with
  | .inr (.inl y) :: .inr (.inl x) :: st => some (.inl (pc + 1, ls, .inr (.inl (f x y)) :: st, σ))
  | _ => none
def fm_una (f : Int → Int) (pc : Nat) (ls : List (Option fm_V)) (st : List fm_V) (σ : fm_S) : Option fm_O :=
  match st with
  | .inl x :: st => some (.inl (pc + 1, ls, .inl (f x) :: st, σ))
  | _ => none
def fm_ild (a pc : Nat) (ls : List (Option fm_V)) (st : List fm_V) (σ : fm_S) : Option fm_O :=
  match ls.getD a none with
  | some (.inl x) => some (.inl (pc, ls, .inl x :: st, σ))
  | _ => none
def fm_lld (a pc : Nat) (ls : List (Option fm_V)) (st : List fm_V) (σ : fm_S) : Option fm_O :=
  match ls.getD a none with
  | some (.inr (.inl x)) => some (.inl (pc, ls, .inr (.inl x) :: st, σ))
  | _ => none
def fm_ald (a pc : Nat) (ls : List (Option fm_V)) (st : List fm_V) (σ : fm_S) : Option fm_O :=
  match ls.getD a none with
  | some (.inr (.inr (some x))) => some (.inl (pc, ls, .inr (.inr (some x)) :: st, σ))
  | _ => none
def fm_ist (a pc : Nat) (ls : List (Option fm_V)) (st : List fm_V) (σ : fm_S) : Option fm_O :=
  match st with
  | .inl x :: st => fm_st a (.inl x) pc ls st σ
  | _ => none
def fm_ast (a pc : Nat) (ls : List (Option fm_V)) (st : List fm_V) (σ : fm_S) : Option fm_O :=
  match st with
  | .inr (.inr (some x)) :: st => fm_st a (.inr (.inr (some x))) pc ls st σ
  | _ => none
def fm_exec (ins : Instr) (len a b : Nat) (k : Int) (pc : Nat) (ls : List (Option fm_V)) (st : List fm_V) (σ : fm_S) : Option fm_O :=
  match ins with
  | .iconst _ => some (.inl (pc + 1, ls, .inl k :: st, σ))
  | .bipush _ => some (.inl (pc + 2, ls, .inl k :: st, σ))
  | .sipush _ => some (.inl (pc + 3, ls, .inl k :: st, σ))
  | .ldc _ => if b = 0 then some (.inl (pc + 2, ls, .inl k :: st, σ)) else some (.inl (pc + 2, ls, .inr (.inr (some a)) :: st, σ))
  | .ldc_w _ => some (.inl (pc + 3, ls, .inl k :: st, σ))
  | .lconst _ => some (.inl (pc + 1, ls, .inr (.inl k) :: st, σ))
  | .ldc2_w _ => some (.inl (pc + 3, ls, .inr (.inl k) :: st, σ))
  | .iload_n _ => fm_ild a (pc + 1) ls st σ
  | .iload _ => fm_ild a (pc + 2) ls st σ
  | .lload_n _ => fm_lld a (pc + 1) ls st σ
  | .lload _ => fm_lld a (pc + 2) ls st σ
  | .aload_n _ => fm_ald a (pc + 1) ls st σ
  | .aload _ => fm_ald a (pc + 2) ls st σ
  | .istore_n _ => fm_ist a (pc + 1) ls st σ
  | .istore _ => fm_ist a (pc + 2) ls st σ
  | .astore_n _ => fm_ast a (pc + 1) ls st σ
  | .astore _ => fm_ast a (pc + 2) ls st σ
  | .iinc _ _ => (match ls.getD a none with | some (.inl x) => fm_st a (.inl (x + k)) (pc + 3) ls st σ | _ => none)
  | .iadd => fm_bin (fun x y => x + y) pc ls st σ
  | .isub => fm_bin (fun x y => x - y) pc ls st σ
  | .imul => fm_bin (fun x y => x * y) pc ls st σ
  | .iand => fm_bin fm_and pc ls st σ
  | .ior => fm_bin fm_or pc ls st σ
  | .ixor => fm_bin fm_xor pc ls st σ
  | .ishl => fm_bin fm_shl pc ls st σ
  | .ishr => fm_bin fm_shr pc ls st σ
  | .idiv => (match st with | .inl y :: .inl x :: st => if wr y = 0 then none else some (.inl (pc + 1, ls, .inl (fm_div x y) :: st, σ)) | _ => none)
  | .irem => (match st with | .inl y :: .inl x :: st => if wr y = 0 then none else some (.inl (pc + 1, ls, .inl (fm_rem x y) :: st, σ)) | _ => none)
  | .ladd => fm_lbin (fun x y => x + y) pc ls st σ
  | .lsub => fm_lbin (fun x y => x - y) pc ls st σ
  | .lmul => fm_lbin (fun x y => x * y) pc ls st σ
  | .i2l => (match st with | .inl x :: st => some (.inl (pc + 1, ls, .inr (.inl (wr x)) :: st, σ)) | _ => none)
  | .l2i => (match st with | .inr (.inl x) :: st => some (.inl (pc + 1, ls, .inl (fm_l2i x) :: st, σ)) | _ => none)
  | .i2b => fm_una fm_i2b pc ls st σ
  | .i2c => fm_una fm_i2c pc ls st σ
  | .lcmp => (match st with | .inr (.inl y) :: .inr (.inl x) :: st => some (.inl (pc + 1, ls, .inl (fm_lcmp x y) :: st, σ)) | _ => none)
  | .dup => (match st with | .inl x :: st => some (.inl (pc + 1, ls, .inl x :: .inl x :: st, σ)) | .inr (.inr x) :: st => some (.inl (pc + 1, ls, .inr (.inr x) :: .inr (.inr x) :: st, σ)) | _ => none)
  | .dup2 => (match st with | .inl x :: .inr (.inr y) :: st => some (.inl (pc + 1, ls, .inl x :: .inr (.inr y) :: .inl x :: .inr (.inr y) :: st, σ)) | _ => none)
  | .goto _ => some (.inl (a, ls, st, σ))
  | .if_icmp cd _ => (match st with | .inl y :: .inl x :: st => some (.inl (if fm_cmp cd x y = true then a else pc + 3, ls, st, σ)) | _ => none)
  | .ifCond cd _ => (match st with | .inl x :: st => some (.inl (if fm_cmp cd x 0 = true then a else pc + 3, ls, st, σ)) | _ => none)
  | .tableswitch d lo hi offs => (match st with | .inl x :: st => if 0 ≤ fm_tsw pc d lo hi offs x then some (.inl ((fm_tsw pc d lo hi offs x).toNat, ls, st, σ)) else none | _ => none)
  | .lookupswitch d ps => (match st with | .inl x :: st => if 0 ≤ fm_lsw pc d ps x then some (.inl ((fm_lsw pc d ps x).toNat, ls, st, σ)) else none | _ => none)
  | .getfield _ => (match st with | .inr (.inr (some o)) :: st => if fm_obj σ o = some a then some (.inl (pc + 3, ls, fm_fget σ o b (fm_fty a b) :: st, σ)) else none | _ => none)
  | .putfield _ => (match st with | v :: .inr (.inr (some o)) :: st => if fm_obj σ o = some a then (match fm_fput σ o b (fm_fty a b) v with | some τ => some (.inl (pc + 3, ls, st, τ)) | none => none) else none | _ => none)
  | .iaload => (match st with | .inl i :: .inr (.inr (some o)) :: st => if fm_inB (fm_arr σ o) .int i = true then some (.inl (pc + 1, ls, .inl (σ.1 o (wr i).toNat) :: st, σ)) else none | _ => none)
  | .baload => (match st with | .inl i :: .inr (.inr (some o)) :: st => if fm_inB (fm_arw σ o) .boolean i = true ∨ fm_inB (fm_arw σ o) .byte i = true then some (.inl (pc + 1, ls, .inl (σ.1 o (wr i).toNat) :: st, σ)) else none | _ => none)
  | .laload => (match st with | .inl i :: .inr (.inr (some o)) :: st => if fm_inB (fm_arw σ o) .long i = true then some (.inl (pc + 1, ls, .inr (.inl (σ.2.1 o (wr i).toNat)) :: st, σ)) else none | _ => none)
  | .iastore => (match st with | .inl x :: .inl i :: .inr (.inr (some o)) :: st => if fm_inB (fm_arw σ o) .int i = true then some (.inl (pc + 1, ls, st, fm_wI σ o (wr i).toNat x)) else none | _ => none)
  | .bastore => (match st with | .inl x :: .inl i :: .inr (.inr (some o)) :: st => if fm_inB (fm_arw σ o) .boolean i = true then some (.inl (pc + 1, ls, st, fm_wI σ o (wr i).toNat (fm_nrw .boolean x))) else if fm_inB (fm_arw σ o) .byte i = true then some (.inl (pc + 1, ls, st, fm_wI σ o (wr i).toNat (fm_nrw .byte x))) else none | _ => none)
  | .lastore => (match st with | .inr (.inl x) :: .inl i :: .inr (.inr (some o)) :: st => if fm_inB (fm_arw σ o) .long i = true then some (.inl (pc + 1, ls, st, fm_wL σ o (wr i).toNat x)) else none | _ => none)
  | .arraylength => (match st with | .inr (.inr (some o)) :: st => (match fm_arr σ o with | some (_, n) => some (.inl (pc + 1, ls, .inl (n : Int) :: st, σ)) | none => none) | _ => none)
  | .newarray t => (match st with | .inl n :: st => if fm_shp[σ.2.2.2.1]? = some (.inl (newarray.typeOf t, n.toNat)) ∧ 0 ≤ n ∧ n < 2147483648 ∧ n = wr n then some (.inl (pc + 2, ls, .inr (.inr (some σ.2.2.2.1)) :: st, fm_new σ)) else none | _ => none)
  | .new _ => if fm_shp[σ.2.2.2.1]? = some (.inr a) then some (.inl (pc + 3, ls, .inr (.inr (some σ.2.2.2.1)) :: st, fm_new σ)) else none
  | .invokevirtual _ => fm_call 0 pc a b ls st σ
  | .invokespecial _ => fm_call 1 pc a b ls st σ
  | .invokestatic _ => fm_call 2 pc a b ls st σ
  | .ireturn => (match st with | [.inl x] => if a = 0 ∨ x = 0 ∨ x = 1 then some (.inr (.inl (some (.inl x), σ))) else none | _ => none)
  | .return_ => (match st with | [] => some (.inr (.inl (none, σ))) | _ => none)
  | _ => none
def fm_step (y : Nat) (c : fm_C) : Option fm_O := match fm_code y c.1 with
  | some (ins, len, a, b, k) => fm_exec ins len a b k c.1 c.2.1 c.2.2.1 c.2.2.2
  | none => none
def fm_sz (n : Nat) : Nat := fm_pre.getD n 0
/-- what a callee may have made -/
def fm_gr (y : Nat) (σ τ : fm_S) : Prop := τ.2.2.2.1 = σ.2.2.2.1 + fm_dna y ∧ fm_sz τ.2.2.2.1 = fm_sz σ.2.2.2.1 + fm_dsl y ∧ τ.2.2.2.2 = σ.2.2.2.2
def fm_grB (y : Nat) (σ τ : fm_S) : Bool := decide (τ.2.2.2.1 = σ.2.2.2.1 + fm_dna y) && decide (fm_sz τ.2.2.2.1 = fm_sz σ.2.2.2.1 + fm_dsl y) && decide (τ.2.2.2.2 = σ.2.2.2.2)
def fm_run : Nat → Nat → fm_C → Option (Option fm_V × fm_S)
  | 0, _, _ => none
  | n + 1, y, c => match fm_step y c with
    | none => none
    | some (.inl c') => fm_run n y c'
    | some (.inr (.inl r)) => some r
    | some (.inr (.inr (z, as, c'))) => match fm_run n z (0, fm_ent z as, [], c'.2.2.2) with
      | none => none
      | some (r, τ) => if fm_grB z c'.2.2.2 τ = true then fm_run n y (c'.1, c'.2.1, r.toList ++ c'.2.2.1, τ) else none
/-- the flat machine comes from c to an end with K -/
def fm_wp (y : Nat) (c : fm_C) (K : Option fm_V → fm_S → Prop) : Prop := ∃ (n : Nat) (r : Option fm_V × fm_S), fm_run n y c = some r ∧ K r.1 r.2
theorem fm_run_succ : ∀ (n y : Nat) (c : fm_C) (r : Option fm_V × fm_S), fm_run n y c = some r → fm_run (n + 1) y c = some r := by
  intro n
  induction n with
  | zero => intro y c r h; simp [fm_run] at h
  | succ n ih =>
    intro y c r h
    rw [fm_run] at h ⊢
    cases hs : fm_step y c with
    | none => rw [hs] at h; cases h
    | some o =>
      rw [hs] at h
      match o, h with
      | .inl c', h => exact ih y c' r h
      | .inr (.inl q), h => exact h
      | .inr (.inr (z, as, c')), h =>
        dsimp only at h ⊢
        cases hz : fm_run n z (0, fm_ent z as, [], c'.2.2.2) with
        | none => rw [hz] at h; cases h
        | some q =>
          rw [hz] at h
          rw [ih _ _ _ hz]
          dsimp only at h ⊢
          split at h
          · rename_i hg
            rw [if_pos hg]
            exact ih _ _ _ h
          · cases h
theorem fm_run_le {n k y : Nat} {c : fm_C} {r : Option fm_V × fm_S} (hk : n ≤ k) (h : fm_run n y c = some r) : fm_run k y c = some r := by
  induction hk with
  | refl => exact h
  | step _ ih => exact fm_run_succ _ _ _ _ ih
theorem fm_wp_next {y : Nat} {c c' : fm_C} {K : Option fm_V → fm_S → Prop} (hs : fm_step y c = some (.inl c')) : fm_wp y c K ↔ fm_wp y c' K := by
  constructor
  · rintro ⟨n, r, h, hK⟩
    cases n with
    | zero => simp [fm_run] at h
    | succ n => rw [fm_run, hs] at h; exact ⟨n, r, h, hK⟩
  · rintro ⟨n, r, h, hK⟩
    exact ⟨n + 1, r, by rw [fm_run, hs]; exact h, hK⟩
theorem fm_wp_stuck {y : Nat} {c : fm_C} {K : Option fm_V → fm_S → Prop} (hs : fm_step y c = none) : ¬ fm_wp y c K := by
  rintro ⟨n, r, h, hK⟩
  cases n with
  | zero => simp [fm_run] at h
  | succ n => rw [fm_run, hs] at h; cases h
theorem fm_wp_ret {y : Nat} {c : fm_C} {q : Option fm_V × fm_S} {K : Option fm_V → fm_S → Prop} (hs : fm_step y c = some (.inr (.inl q))) : fm_wp y c K ↔ K q.1 q.2 := by
  constructor
  · rintro ⟨n, r, h, hK⟩
    cases n with
    | zero => simp [fm_run] at h
    | succ n => rw [fm_run, hs] at h; cases h; exact hK
  · intro hK
    exact ⟨1, q, by rw [fm_run, hs], hK⟩
theorem fm_grB_iff {y : Nat} {σ τ : fm_S} : fm_grB y σ τ = true ↔ fm_gr y σ τ := by
  simp [fm_grB, fm_gr, and_assoc]
theorem fm_wp_call {y z : Nat} {c c' : fm_C} {as : List fm_V} {K : Option fm_V → fm_S → Prop} (hs : fm_step y c = some (.inr (.inr (z, as, c')))) : fm_wp y c K ↔ fm_wp z (0, fm_ent z as, [], c'.2.2.2) (fun r τ => fm_gr z c'.2.2.2 τ ∧ fm_wp y (c'.1, c'.2.1, r.toList ++ c'.2.2.1, τ) K) := by
  constructor
  · rintro ⟨n, r, h, hK⟩
    cases n with
    | zero => simp [fm_run] at h
    | succ n =>
      rw [fm_run, hs] at h
      dsimp only at h
      cases hz : fm_run n z (0, fm_ent z as, [], c'.2.2.2) with
      | none => rw [hz] at h; cases h
      | some q =>
        rw [hz] at h
        dsimp only at h
        split at h
        · rename_i hg
          exact ⟨n, q, hz, fm_grB_iff.mp hg, n, r, h, hK⟩
        · cases h
  · rintro ⟨n, q, hz, hg, k, r, h, hK⟩
    refine ⟨n + k + 1, r, ?_, hK⟩
    rw [fm_run, hs]
    dsimp only
    rw [fm_run_le (Nat.le_add_right n k) hz]
    dsimp only
    rw [if_pos (fm_grB_iff.mpr hg)]
    exact fm_run_le (Nat.le_add_left k n) h
theorem fm_wp_mono {y : Nat} {c : fm_C} {K K' : Option fm_V → fm_S → Prop} (h : fm_wp y c K) (hK : ∀ r τ, K r τ → K' r τ) : fm_wp y c K' := by
  obtain ⟨n, r, h1, h2⟩ := h
  exact ⟨n, r, h1, hK _ _ h2⟩
