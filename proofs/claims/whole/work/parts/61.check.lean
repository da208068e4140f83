/-! ===== every row of the tables is an instruction of the method, with its links and its room ===== -/
def fm_init (y : Nat) : Bool := decide ((fm_nm y).name = "<init>")
/-- a callee's room under the caller's -/
def fm_rmB (z y : Nat) : Bool := decide (z < 140 ∧ z ≠ 137 ∧ z ≠ 138) && (decide (fm_fr z + 1 ≤ fm_fr y) && decide (8 + (fm_maxL z + 11) + fm_lo z ≤ fm_lo y))
def fm_okB (y pc : Nat) (ins : Instr) (len a b : Nat) (k : Int) : Bool := match ins with
  | .iconst n => len == 1 && decide (k = n)
  | .bipush n => len == 2 && decide ((Int8.ofInt n).toInt32 = fm_i k)
  | .sipush n => len == 3 && decide ((Int16.ofInt n).toInt32 = fm_i k)
  | .ldc ix => len == 2 && ((b == 0 && fm_ki.any (fun q => q.1 == fm_own y && q.2.1 == ix && decide (q.2.2.1 = k))) || (b == 1 && y == 53 && ((ix == 19 && a == 600) || (ix == 25 && a == 601) || (ix == 27 && a == 602) || (ix == 29 && a == 603) || (ix == 31 && a == 604) || (ix == 33 && a == 605))))
  | .ldc_w ix => len == 3 && fm_ki.any (fun q => q.1 == fm_own y && q.2.1 == ix && decide (q.2.2.1 = k))
  | .lconst n => len == 1 && decide (k = ((n : Nat) : Int))
  | .ldc2_w ix => len == 3 && fm_kl.any (fun q => q.1 == fm_own y && q.2.1 == ix && decide (q.2.2.1 = k))
  | .iload_n i => len == 1 && (i : Nat) == a
  | .iload i => len == 2 && i == a
  | .lload_n i => len == 1 && (i : Nat) == a
  | .lload i => len == 2 && i == a
  | .aload_n i => len == 1 && (i : Nat) == a
  | .aload i => len == 2 && i == a
  | .istore_n i => len == 1 && (i : Nat) == a
  | .istore i => len == 2 && i == a
  | .astore_n i => len == 1 && (i : Nat) == a
  | .astore i => len == 2 && i == a
  | .iinc i n => len == 3 && i == a && decide (n = k)
  | .iadd => len == 1
  | .isub => len == 1
  | .imul => len == 1
  | .iand => len == 1
  | .ior => len == 1
  | .ixor => len == 1
  | .ishl => len == 1
  | .ishr => len == 1
  | .idiv => len == 1
  | .irem => len == 1
  | .ladd => len == 1
  | .lsub => len == 1
  | .lmul => len == 1
  | .i2l => len == 1
  | .l2i => len == 1
  | .i2b => len == 1
  | .i2c => len == 1
  | .lcmp => len == 1
  | .dup => len == 1
  | .dup2 => len == 1
  | .goto off => len == 3 && decide ((pc : Int) + off = (a : Int))
  | .if_icmp _ off => len == 3 && decide ((pc : Int) + off = (a : Int))
  | .ifCond _ off => len == 3 && decide ((pc : Int) + off = (a : Int))
  | .tableswitch _ lo hi offs => decide (offs.size = (hi - lo + 1).toNat)
  | .lookupswitch _ ps => (ps.toList.zip (ps.toList.drop 1)).all (fun (a, next) => a.1 < next.1)
  | .getfield ix => len == 3 && decide (a < 9) && decide (b < (fm_cls.getD a (RX0, TX0, 13)).2.2) && fm_fl.any (fun q => q.1 == fm_own y && q.2.1 == ix && q.2.2.1 == a && q.2.2.2.1 == b)
  | .putfield ix => len == 3 && decide (a < 9) && decide (b < (fm_cls.getD a (RX0, TX0, 13)).2.2) && fm_fl.any (fun q => q.1 == fm_own y && q.2.1 == ix && q.2.2.1 == a && q.2.2.2.1 == b) && (!(fm_clT a b).2.2.2 || (fm_init y && fm_own y == a))
  | .iaload => len == 1
  | .baload => len == 1
  | .laload => len == 1
  | .iastore => len == 1
  | .bastore => len == 1
  | .lastore => len == 1
  | .arraylength => len == 1
  | .newarray t => len == 2 && (t == .int || t == .boolean || t == .byte || t == .long)
  | .new ix => len == 3 && decide (a < 9) && fm_kc.any (fun q => q.1 == fm_own y && q.2.1 == ix && q.2.2.1 == a)
  | .invokevirtual ix => len == 3 && b == 0 && !fm_stc a && fm_rmB a y && fm_ml.any (fun q => q.1 == fm_own y && q.2.1 == ix && q.2.2.1 == a) && fm_sv.any (fun q => q.1 == a)
  | .invokestatic ix => len == 3 && ((b == 0 && fm_stc a && fm_rmB a y && fm_ml.any (fun q => q.1 == fm_own y && q.2.1 == ix && q.2.2.1 == a)) || (b == 4 && a == 137 && decide (1 ≤ fm_fr y) && decide (21 ≤ fm_lo y) && fm_ml.any (fun q => q.1 == fm_own y && q.2.1 == ix && q.2.2.1 == a)) || (b == 5 && a == 138 && decide (1 ≤ fm_fr y) && decide (21 ≤ fm_lo y) && fm_ml.any (fun q => q.1 == fm_own y && q.2.1 == ix && q.2.2.1 == a)) || (b == 2 && a == 69 && fm_rmB a y && fm_ml.any (fun q => q.1 == fm_own y && q.2.1 == ix && q.2.2.1 == a)))
  | .invokespecial ix => len == 3 && ((b == 1 && decide (1 ≤ fm_fr y) && decide (20 ≤ fm_lo y) && fm_oi.any (fun q => q.1 == fm_own y && q.2.1 == ix)) || (b == 0 && !fm_stc a && fm_init a && (fm_ret a).isNone && fm_rmB a y && fm_ml.any (fun q => q.1 == fm_own y && q.2.1 == ix && q.2.2.1 == a)) || (b == 3 && !fm_stc a && fm_init a && (fm_ret a).isNone && fm_rmB a y && fm_nl3.any (fun q => q.1 == fm_own y && q.2.1 == ix && q.2.2.1 == a)))
  | .ireturn => len == 1 && ((a == 0 && decide (fm_ret y = some .int)) || (a == 1 && decide (fm_ret y = some .boolean)))
  | .return_ => len == 1 && decide (fm_ret y = none)
  | _ => false
def fm_chkB (y pc : Nat) : Bool := match fm_code y pc with
  | none => true
  | some (ins, len, a, b, k) => decide (decode (fm_by y) pc = .ok (ins, len)) && fm_okB y pc ins len a b k
def fm_mlen (y : Nat) : Nat := 32 * (fm_ts.getD y []).length
def fm_chk (y : Nat) : Bool := (List.range (fm_mlen y)).all (fm_chkB y)
