/-! ===== THE FLAT MACHINE: a pure picture of the bytecode over a memory of numbers ===== -/
abbrev fm_C : Type := Nat × List (Option fm_V) × List fm_V × fm_S
abbrev fm_O : Type := fm_C ⊕ (Option fm_V × fm_S) ⊕ (Nat × List fm_V × fm_C)
def fm_i (x : Int) : Int32 := Int32.ofInt x
def fm_l (x : Int) : Int64 := Int64.ofInt x
/-- the number that 32 bits keep of x -/
def wr (x : Int) : Int := (fm_i x).toInt
def wl (x : Int) : Int := (fm_l x).toInt
def fm_and (x y : Int) : Int := (fm_i x &&& fm_i y).toInt
def fm_or (x y : Int) : Int := (fm_i x ||| fm_i y).toInt
def fm_xor (x y : Int) : Int := (fm_i x ^^^ fm_i y).toInt
def fm_shl (x y : Int) : Int := (fm_i x <<< (fm_i y &&& 31)).toInt
def fm_shr (x y : Int) : Int := (fm_i x >>> (fm_i y &&& 31)).toInt
def fm_div (x y : Int) : Int := (fm_i x / fm_i y).toInt
def fm_rem (x y : Int) : Int := (fm_i x - fm_i x / fm_i y * fm_i y).toInt
def fm_i2b (x : Int) : Int := ((fm_i x).toInt8.toInt32).toInt
def fm_i2c (x : Int) : Int := (((fm_i x).toUInt32 % 65536).toInt32).toInt
def fm_l2i (x : Int) : Int := ((fm_l x).toInt32).toInt
def fm_lcmp (x y : Int) : Int := if wl x < wl y then -1 else if wl y < wl x then 1 else 0
def fm_cmp (cd : Jvm.ClassFile.Cond) (x y : Int) : Bool := match cd with
  | .eq => decide (wr x = wr y)
  | .ne => decide (¬ wr x = wr y)
  | .lt => decide (wr x < wr y)
  | .ge => decide (wr y ≤ wr x)
  | .gt => decide (wr y < wr x)
  | .le => decide (wr x ≤ wr y)
/-- cell a with the contents f -/
def fm_cl {α : Type} (I : Nat → Nat → α) (a : Nat) (f : Nat → α) : Nat → Nat → α := fun b => if b = a then f else I b
/-- place k with v -/
def fm_pt {α : Type} (f : Nat → α) (k : Nat) (v : α) : Nat → α := fun j => if j = k then v else f j
def fm_wI (σ : fm_S) (a k : Nat) (v : Int) : fm_S := (fm_cl σ.1 a (fm_pt (σ.1 a) k v), σ.2)
def fm_wL (σ : fm_S) (a k : Nat) (v : Int) : fm_S := (σ.1, fm_cl σ.2.1 a (fm_pt (σ.2.1 a) k v), σ.2.2)
def fm_wR (σ : fm_S) (a k : Nat) (v : Option Nat) : fm_S := (σ.1, σ.2.1, fm_cl σ.2.2.1 a (fm_pt (σ.2.2.1 a) k v), σ.2.2.2)
/-- one cell more, all zero -/
def fm_new (σ : fm_S) : fm_S := (fm_cl σ.1 σ.2.2.2.1 (fun _ => 0), fm_cl σ.2.1 σ.2.2.2.1 (fun _ => 0), fm_cl σ.2.2.1 σ.2.2.2.1 (fun _ => none), σ.2.2.2.1 + 1, σ.2.2.2.2)
/-- the array at a that may be written -/
def fm_arw (σ : fm_S) (a : Nat) : Option (FieldType × Nat) := if a < σ.2.2.2.1 then (match fm_shp[a]? with | some (.inl q) => some q | _ => none) else none
/-- the array at a, the script too -/
def fm_arr (σ : fm_S) (a : Nat) : Option (FieldType × Nat) := if a = 500 then some (.int, σ.2.2.2.2) else fm_arw σ a
def fm_obj (σ : fm_S) (a : Nat) : Option Nat := if a < σ.2.2.2.1 then (match fm_shp[a]? with | some (.inr c) => some c | _ => none) else none
def fm_fget (σ : fm_S) (a k : Nat) (ty : FieldType) : fm_V := match ty with
  | .int => .inl (σ.1 a k)
  | .long => .inr (.inl (σ.2.1 a k))
  | _ => .inr (.inr (σ.2.2.1 a k))
def fm_fput (σ : fm_S) (a k : Nat) (ty : FieldType) (v : fm_V) : Option fm_S := match ty with
  | .int => (match v with | .inl x => some (fm_wI σ a k x) | _ => none)
  | .long => (match v with | .inr (.inl x) => some (fm_wL σ a k x) | _ => none)
  | .object _ => (match v with | .inr (.inr (some r)) => some (fm_wR σ a k (some r)) | _ => none)
  | .array _ => (match v with | .inr (.inr (some r)) => some (fm_wR σ a k (some r)) | _ => none)
  | _ => none
/-- not a long -/
def fm_nl (v : Option fm_V) : Bool := match v with
  | some (.inr (.inl _)) => false
  | _ => true
def fm_prev (ls : List (Option fm_V)) (a : Nat) : Option fm_V := match a with
  | 0 => none
  | k + 1 => ls.getD k none
def fm_worth (r : Nat) : Option Int := match r with
  | 600 => some 24170600
  | 601 => some 595572
  | 602 => some 75148
  | 603 => some 152972
  | 604 => some 12748366
  | 605 => some 12748404
  | _ => none
def fm_me (y : Nat) : fm_M := fm_ms.getD y fm_m0
abbrev fm_own (y : Nat) : Nat := (fm_me y).1
abbrev fm_nm (y : Nat) : MethodName := (fm_me y).2.1
abbrev fm_by (y : Nat) : ByteArray := (fm_me y).2.2.1
abbrev fm_maxL (y : Nat) : Nat := (fm_me y).2.2.2.1
abbrev fm_ret (y : Nat) : Option FieldType := (fm_me y).2.2.2.2.1
abbrev fm_fr (y : Nat) : Nat := (fm_me y).2.2.2.2.2.1.1
abbrev fm_lo (y : Nat) : Nat := (fm_me y).2.2.2.2.2.1.2
abbrev fm_dna (y : Nat) : Nat := (fm_me y).2.2.2.2.2.2.1.1
abbrev fm_dsl (y : Nat) : Nat := (fm_me y).2.2.2.2.2.2.1.2
abbrev fm_nar (y : Nat) : Nat := (fm_me y).2.2.2.2.2.2.2.1
abbrev fm_stc (y : Nat) : Bool := (fm_me y).2.2.2.2.2.2.2.2
def fm_tsw (pc : Nat) (d lo hi : Int) (offs : Array Int) (x : Int) : Int := (pc : Int) + (if wr x < lo ∨ hi < wr x then d else offs.getD (wr x - lo).toNat d)
def fm_lsw (pc : Nat) (d : Int) (ps : Array (Int × Int)) (x : Int) : Int := (pc : Int) + Op.lookupswitch.offset ps.toList d (wr x)
def fm_call (k : Nat) (pc a b : Nat) (ls : List (Option fm_V)) (st : List fm_V) (σ : fm_S) : Option fm_O :=
  match b with
  | 1 => (match st with | .inr (.inr (some _)) :: st => some (.inl (pc + 3, ls, st, σ)) | _ => none)
  | 2 => (match st with | .inr (.inr (some r)) :: st => (match fm_worth r with | some v => some (.inl (pc + 3, ls, .inr (.inl v) :: st, σ)) | none => none) | _ => none)
  | _ => if fm_nar a ≤ st.length ∧ (st.drop (fm_nar a)).length ≤ 4 ∧ (k = 0 → ∃ r, ((st.take (fm_nar a)).reverse).head? = some (.inr (.inr (some r))) ∧ fm_obj σ r = some (fm_own a)) ∧ (k = 1 → ∃ r, ((st.take (fm_nar a)).reverse).head? = some (.inr (.inr (some r)))) then some (.inr (.inr (a, (st.take (fm_nar a)).reverse, (pc + 3, ls, st.drop (fm_nar a), σ)))) else none
