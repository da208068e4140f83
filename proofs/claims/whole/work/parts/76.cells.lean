/-! ===== the cells, one by one, once all are there ===== -/
section CELLS
variable {I L : Nat → Nat → Int} {R : Nat → Nat → Option Nat} {n : Nat}
theorem ob_0 : fm_obj (I, L, R, 96, n) 0 = some 7 := rfl
theorem ob_1 : fm_obj (I, L, R, 96, n) 1 = some 5 := rfl
theorem aw_2 : fm_arw (I, L, R, 96, n) 2 = some (.int, 400) := rfl
theorem ar_2 : fm_arr (I, L, R, 96, n) 2 = some (.int, 400) := rfl
theorem ob_3 : fm_obj (I, L, R, 96, n) 3 = some 6 := rfl
theorem aw_4 : fm_arw (I, L, R, 96, n) 4 = some (.long, 8) := rfl
theorem ar_4 : fm_arr (I, L, R, 96, n) 4 = some (.long, 8) := rfl
theorem aw_5 : fm_arw (I, L, R, 96, n) 5 = some (.long, 6) := rfl
theorem ar_5 : fm_arr (I, L, R, 96, n) 5 = some (.long, 6) := rfl
theorem ob_6 : fm_obj (I, L, R, 96, n) 6 = some 0 := rfl
theorem aw_7 : fm_arw (I, L, R, 96, n) 7 = some (.int, 16) := rfl
theorem ar_7 : fm_arr (I, L, R, 96, n) 7 = some (.int, 16) := rfl
theorem aw_8 : fm_arw (I, L, R, 96, n) 8 = some (.int, 16) := rfl
theorem ar_8 : fm_arr (I, L, R, 96, n) 8 = some (.int, 16) := rfl
theorem aw_9 : fm_arw (I, L, R, 96, n) 9 = some (.int, 16) := rfl
theorem ar_9 : fm_arr (I, L, R, 96, n) 9 = some (.int, 16) := rfl
theorem aw_10 : fm_arw (I, L, R, 96, n) 10 = some (.int, 16) := rfl
theorem ar_10 : fm_arr (I, L, R, 96, n) 10 = some (.int, 16) := rfl
theorem aw_11 : fm_arw (I, L, R, 96, n) 11 = some (.int, 16) := rfl
theorem ar_11 : fm_arr (I, L, R, 96, n) 11 = some (.int, 16) := rfl
theorem aw_12 : fm_arw (I, L, R, 96, n) 12 = some (.int, 16) := rfl
theorem ar_12 : fm_arr (I, L, R, 96, n) 12 = some (.int, 16) := rfl
theorem aw_13 : fm_arw (I, L, R, 96, n) 13 = some (.int, 16) := rfl
theorem ar_13 : fm_arr (I, L, R, 96, n) 13 = some (.int, 16) := rfl
theorem aw_14 : fm_arw (I, L, R, 96, n) 14 = some (.int, 16) := rfl
theorem ar_14 : fm_arr (I, L, R, 96, n) 14 = some (.int, 16) := rfl
theorem aw_15 : fm_arw (I, L, R, 96, n) 15 = some (.int, 16) := rfl
theorem ar_15 : fm_arr (I, L, R, 96, n) 15 = some (.int, 16) := rfl
theorem aw_16 : fm_arw (I, L, R, 96, n) 16 = some (.int, 16) := rfl
theorem ar_16 : fm_arr (I, L, R, 96, n) 16 = some (.int, 16) := rfl
theorem aw_17 : fm_arw (I, L, R, 96, n) 17 = some (.int, 96) := rfl
theorem ar_17 : fm_arr (I, L, R, 96, n) 17 = some (.int, 96) := rfl
theorem aw_18 : fm_arw (I, L, R, 96, n) 18 = some (.boolean, 16) := rfl
theorem ar_18 : fm_arr (I, L, R, 96, n) 18 = some (.boolean, 16) := rfl
theorem ob_19 : fm_obj (I, L, R, 96, n) 19 = some 1 := rfl
theorem aw_20 : fm_arw (I, L, R, 96, n) 20 = some (.int, 64) := rfl
theorem ar_20 : fm_arr (I, L, R, 96, n) 20 = some (.int, 64) := rfl
theorem aw_21 : fm_arw (I, L, R, 96, n) 21 = some (.int, 64) := rfl
theorem ar_21 : fm_arr (I, L, R, 96, n) 21 = some (.int, 64) := rfl
theorem aw_22 : fm_arw (I, L, R, 96, n) 22 = some (.int, 64) := rfl
theorem ar_22 : fm_arr (I, L, R, 96, n) 22 = some (.int, 64) := rfl
theorem aw_23 : fm_arw (I, L, R, 96, n) 23 = some (.boolean, 16) := rfl
theorem ar_23 : fm_arr (I, L, R, 96, n) 23 = some (.boolean, 16) := rfl
theorem aw_24 : fm_arw (I, L, R, 96, n) 24 = some (.int, 12) := rfl
theorem ar_24 : fm_arr (I, L, R, 96, n) 24 = some (.int, 12) := rfl
theorem ob_25 : fm_obj (I, L, R, 96, n) 25 = some 2 := rfl
theorem aw_26 : fm_arw (I, L, R, 96, n) 26 = some (.int, 60) := rfl
theorem ar_26 : fm_arr (I, L, R, 96, n) 26 = some (.int, 60) := rfl
theorem aw_27 : fm_arw (I, L, R, 96, n) 27 = some (.int, 60) := rfl
theorem ar_27 : fm_arr (I, L, R, 96, n) 27 = some (.int, 60) := rfl
theorem aw_28 : fm_arw (I, L, R, 96, n) 28 = some (.int, 60) := rfl
theorem ar_28 : fm_arr (I, L, R, 96, n) 28 = some (.int, 60) := rfl
theorem aw_29 : fm_arw (I, L, R, 96, n) 29 = some (.int, 60) := rfl
theorem ar_29 : fm_arr (I, L, R, 96, n) 29 = some (.int, 60) := rfl
theorem aw_30 : fm_arw (I, L, R, 96, n) 30 = some (.int, 60) := rfl
theorem ar_30 : fm_arr (I, L, R, 96, n) 30 = some (.int, 60) := rfl
theorem aw_31 : fm_arw (I, L, R, 96, n) 31 = some (.int, 720) := rfl
theorem ar_31 : fm_arr (I, L, R, 96, n) 31 = some (.int, 720) := rfl
theorem aw_32 : fm_arw (I, L, R, 96, n) 32 = some (.int, 720) := rfl
theorem ar_32 : fm_arr (I, L, R, 96, n) 32 = some (.int, 720) := rfl
theorem ob_33 : fm_obj (I, L, R, 96, n) 33 = some 4 := rfl
theorem aw_34 : fm_arw (I, L, R, 96, n) 34 = some (.int, 96) := rfl
theorem ar_34 : fm_arr (I, L, R, 96, n) 34 = some (.int, 96) := rfl
theorem aw_35 : fm_arw (I, L, R, 96, n) 35 = some (.int, 16) := rfl
theorem ar_35 : fm_arr (I, L, R, 96, n) 35 = some (.int, 16) := rfl
theorem aw_36 : fm_arw (I, L, R, 96, n) 36 = some (.int, 16) := rfl
theorem ar_36 : fm_arr (I, L, R, 96, n) 36 = some (.int, 16) := rfl
theorem aw_37 : fm_arw (I, L, R, 96, n) 37 = some (.int, 16) := rfl
theorem ar_37 : fm_arr (I, L, R, 96, n) 37 = some (.int, 16) := rfl
theorem aw_38 : fm_arw (I, L, R, 96, n) 38 = some (.int, 16) := rfl
theorem ar_38 : fm_arr (I, L, R, 96, n) 38 = some (.int, 16) := rfl
theorem aw_39 : fm_arw (I, L, R, 96, n) 39 = some (.int, 16) := rfl
theorem ar_39 : fm_arr (I, L, R, 96, n) 39 = some (.int, 16) := rfl
theorem aw_40 : fm_arw (I, L, R, 96, n) 40 = some (.int, 200) := rfl
theorem ar_40 : fm_arr (I, L, R, 96, n) 40 = some (.int, 200) := rfl
theorem aw_41 : fm_arw (I, L, R, 96, n) 41 = some (.int, 200) := rfl
theorem ar_41 : fm_arr (I, L, R, 96, n) 41 = some (.int, 200) := rfl
theorem aw_42 : fm_arw (I, L, R, 96, n) 42 = some (.int, 200) := rfl
theorem ar_42 : fm_arr (I, L, R, 96, n) 42 = some (.int, 200) := rfl
theorem ob_43 : fm_obj (I, L, R, 96, n) 43 = some 3 := rfl
theorem aw_44 : fm_arw (I, L, R, 96, n) 44 = some (.int, 12) := rfl
theorem ar_44 : fm_arr (I, L, R, 96, n) 44 = some (.int, 12) := rfl
theorem aw_45 : fm_arw (I, L, R, 96, n) 45 = some (.int, 12) := rfl
theorem ar_45 : fm_arr (I, L, R, 96, n) 45 = some (.int, 12) := rfl
theorem aw_46 : fm_arw (I, L, R, 96, n) 46 = some (.int, 8) := rfl
theorem ar_46 : fm_arr (I, L, R, 96, n) 46 = some (.int, 8) := rfl
theorem aw_47 : fm_arw (I, L, R, 96, n) 47 = some (.int, 8) := rfl
theorem ar_47 : fm_arr (I, L, R, 96, n) 47 = some (.int, 8) := rfl
theorem aw_48 : fm_arw (I, L, R, 96, n) 48 = some (.int, 96) := rfl
theorem ar_48 : fm_arr (I, L, R, 96, n) 48 = some (.int, 96) := rfl
theorem ob_49 : fm_obj (I, L, R, 96, n) 49 = some 3 := rfl
theorem aw_50 : fm_arw (I, L, R, 96, n) 50 = some (.int, 12) := rfl
theorem ar_50 : fm_arr (I, L, R, 96, n) 50 = some (.int, 12) := rfl
theorem aw_51 : fm_arw (I, L, R, 96, n) 51 = some (.int, 12) := rfl
theorem ar_51 : fm_arr (I, L, R, 96, n) 51 = some (.int, 12) := rfl
theorem aw_52 : fm_arw (I, L, R, 96, n) 52 = some (.int, 8) := rfl
theorem ar_52 : fm_arr (I, L, R, 96, n) 52 = some (.int, 8) := rfl
theorem aw_53 : fm_arw (I, L, R, 96, n) 53 = some (.int, 8) := rfl
theorem ar_53 : fm_arr (I, L, R, 96, n) 53 = some (.int, 8) := rfl
theorem aw_54 : fm_arw (I, L, R, 96, n) 54 = some (.int, 96) := rfl
theorem ar_54 : fm_arr (I, L, R, 96, n) 54 = some (.int, 96) := rfl
theorem ob_55 : fm_obj (I, L, R, 96, n) 55 = some 8 := rfl
theorem aw_56 : fm_arw (I, L, R, 96, n) 56 = some (.byte, 400) := rfl
theorem ar_56 : fm_arr (I, L, R, 96, n) 56 = some (.byte, 400) := rfl
theorem aw_57 : fm_arw (I, L, R, 96, n) 57 = some (.boolean, 6) := rfl
theorem ar_57 : fm_arr (I, L, R, 96, n) 57 = some (.boolean, 6) := rfl
theorem aw_58 : fm_arw (I, L, R, 96, n) 58 = some (.int, 12) := rfl
theorem ar_58 : fm_arr (I, L, R, 96, n) 58 = some (.int, 12) := rfl
theorem aw_59 : fm_arw (I, L, R, 96, n) 59 = some (.int, 12) := rfl
theorem ar_59 : fm_arr (I, L, R, 96, n) 59 = some (.int, 12) := rfl
theorem aw_60 : fm_arw (I, L, R, 96, n) 60 = some (.int, 6) := rfl
theorem ar_60 : fm_arr (I, L, R, 96, n) 60 = some (.int, 6) := rfl
theorem aw_61 : fm_arw (I, L, R, 96, n) 61 = some (.long, 8) := rfl
theorem ar_61 : fm_arr (I, L, R, 96, n) 61 = some (.long, 8) := rfl
theorem aw_62 : fm_arw (I, L, R, 96, n) 62 = some (.int, 8) := rfl
theorem ar_62 : fm_arr (I, L, R, 96, n) 62 = some (.int, 8) := rfl
theorem aw_63 : fm_arw (I, L, R, 96, n) 63 = some (.int, 8) := rfl
theorem ar_63 : fm_arr (I, L, R, 96, n) 63 = some (.int, 8) := rfl
theorem aw_64 : fm_arw (I, L, R, 96, n) 64 = some (.int, 96) := rfl
theorem ar_64 : fm_arr (I, L, R, 96, n) 64 = some (.int, 96) := rfl
theorem aw_65 : fm_arw (I, L, R, 96, n) 65 = some (.int, 12) := rfl
theorem ar_65 : fm_arr (I, L, R, 96, n) 65 = some (.int, 12) := rfl
theorem aw_66 : fm_arw (I, L, R, 96, n) 66 = some (.int, 12) := rfl
theorem ar_66 : fm_arr (I, L, R, 96, n) 66 = some (.int, 12) := rfl
theorem aw_67 : fm_arw (I, L, R, 96, n) 67 = some (.int, 8) := rfl
theorem ar_67 : fm_arr (I, L, R, 96, n) 67 = some (.int, 8) := rfl
theorem aw_68 : fm_arw (I, L, R, 96, n) 68 = some (.int, 8) := rfl
theorem ar_68 : fm_arr (I, L, R, 96, n) 68 = some (.int, 8) := rfl
theorem aw_69 : fm_arw (I, L, R, 96, n) 69 = some (.int, 96) := rfl
theorem ar_69 : fm_arr (I, L, R, 96, n) 69 = some (.int, 96) := rfl
theorem aw_70 : fm_arw (I, L, R, 96, n) 70 = some (.int, 16) := rfl
theorem ar_70 : fm_arr (I, L, R, 96, n) 70 = some (.int, 16) := rfl
theorem aw_71 : fm_arw (I, L, R, 96, n) 71 = some (.int, 16) := rfl
theorem ar_71 : fm_arr (I, L, R, 96, n) 71 = some (.int, 16) := rfl
theorem aw_72 : fm_arw (I, L, R, 96, n) 72 = some (.int, 16) := rfl
theorem ar_72 : fm_arr (I, L, R, 96, n) 72 = some (.int, 16) := rfl
theorem aw_73 : fm_arw (I, L, R, 96, n) 73 = some (.int, 16) := rfl
theorem ar_73 : fm_arr (I, L, R, 96, n) 73 = some (.int, 16) := rfl
theorem aw_74 : fm_arw (I, L, R, 96, n) 74 = some (.int, 16) := rfl
theorem ar_74 : fm_arr (I, L, R, 96, n) 74 = some (.int, 16) := rfl
theorem aw_75 : fm_arw (I, L, R, 96, n) 75 = some (.int, 16) := rfl
theorem ar_75 : fm_arr (I, L, R, 96, n) 75 = some (.int, 16) := rfl
theorem aw_76 : fm_arw (I, L, R, 96, n) 76 = some (.int, 16) := rfl
theorem ar_76 : fm_arr (I, L, R, 96, n) 76 = some (.int, 16) := rfl
theorem aw_77 : fm_arw (I, L, R, 96, n) 77 = some (.int, 16) := rfl
theorem ar_77 : fm_arr (I, L, R, 96, n) 77 = some (.int, 16) := rfl
theorem aw_78 : fm_arw (I, L, R, 96, n) 78 = some (.int, 96) := rfl
theorem ar_78 : fm_arr (I, L, R, 96, n) 78 = some (.int, 96) := rfl
theorem aw_79 : fm_arw (I, L, R, 96, n) 79 = some (.boolean, 16) := rfl
theorem ar_79 : fm_arr (I, L, R, 96, n) 79 = some (.boolean, 16) := rfl
theorem aw_80 : fm_arw (I, L, R, 96, n) 80 = some (.boolean, 1536) := rfl
theorem ar_80 : fm_arr (I, L, R, 96, n) 80 = some (.boolean, 1536) := rfl
theorem aw_81 : fm_arw (I, L, R, 96, n) 81 = some (.int, 1536) := rfl
theorem ar_81 : fm_arr (I, L, R, 96, n) 81 = some (.int, 1536) := rfl
theorem aw_82 : fm_arw (I, L, R, 96, n) 82 = some (.int, 60) := rfl
theorem ar_82 : fm_arr (I, L, R, 96, n) 82 = some (.int, 60) := rfl
theorem aw_83 : fm_arw (I, L, R, 96, n) 83 = some (.int, 60) := rfl
theorem ar_83 : fm_arr (I, L, R, 96, n) 83 = some (.int, 60) := rfl
theorem aw_84 : fm_arw (I, L, R, 96, n) 84 = some (.int, 60) := rfl
theorem ar_84 : fm_arr (I, L, R, 96, n) 84 = some (.int, 60) := rfl
theorem aw_85 : fm_arw (I, L, R, 96, n) 85 = some (.int, 720) := rfl
theorem ar_85 : fm_arr (I, L, R, 96, n) 85 = some (.int, 720) := rfl
theorem aw_86 : fm_arw (I, L, R, 96, n) 86 = some (.int, 720) := rfl
theorem ar_86 : fm_arr (I, L, R, 96, n) 86 = some (.int, 720) := rfl
theorem aw_87 : fm_arw (I, L, R, 96, n) 87 = some (.int, 200) := rfl
theorem ar_87 : fm_arr (I, L, R, 96, n) 87 = some (.int, 200) := rfl
theorem aw_88 : fm_arw (I, L, R, 96, n) 88 = some (.int, 200) := rfl
theorem ar_88 : fm_arr (I, L, R, 96, n) 88 = some (.int, 200) := rfl
theorem aw_89 : fm_arw (I, L, R, 96, n) 89 = some (.int, 200) := rfl
theorem ar_89 : fm_arr (I, L, R, 96, n) 89 = some (.int, 200) := rfl
theorem aw_90 : fm_arw (I, L, R, 96, n) 90 = some (.int, 851968) := rfl
theorem ar_90 : fm_arr (I, L, R, 96, n) 90 = some (.int, 851968) := rfl
theorem aw_91 : fm_arw (I, L, R, 96, n) 91 = some (.boolean, 192) := rfl
theorem ar_91 : fm_arr (I, L, R, 96, n) 91 = some (.boolean, 192) := rfl
theorem aw_92 : fm_arw (I, L, R, 96, n) 92 = some (.int, 16) := rfl
theorem ar_92 : fm_arr (I, L, R, 96, n) 92 = some (.int, 16) := rfl
theorem aw_93 : fm_arw (I, L, R, 96, n) 93 = some (.int, 12) := rfl
theorem ar_93 : fm_arr (I, L, R, 96, n) 93 = some (.int, 12) := rfl
theorem aw_94 : fm_arw (I, L, R, 96, n) 94 = some (.int, 16) := rfl
theorem ar_94 : fm_arr (I, L, R, 96, n) 94 = some (.int, 16) := rfl
theorem aw_95 : fm_arw (I, L, R, 96, n) 95 = some (.int, 12) := rfl
theorem ar_95 : fm_arr (I, L, R, 96, n) 95 = some (.int, 12) := rfl
theorem ar_500 : fm_arr (I, L, R, 96, n) 500 = some (.int, n) := rfl
theorem inB_eq {ty : FieldType} {k : Nat} {i : Int} : (fm_inB (some (ty, k)) ty i = true) = (0 ≤ wr i ∧ wr i < (k : Int)) := by
  simp [fm_inB]
theorem inB_ne {ty ty' : FieldType} {k : Nat} {i : Int} (h : ty ≠ ty') : (fm_inB (some (ty, k)) ty' i = true) = False := by
  simp [fm_inB, h]
theorem inB_by {k : Nat} {i : Int} : (fm_inB (some (.byte, k)) .boolean i = true) = False := inB_ne (by decide)
theorem inB_bo {k : Nat} {i : Int} : (fm_inB (some (.boolean, k)) .byte i = true) = False := inB_ne (by decide)
end CELLS
/-- the references, once all are there; p and q: the plan and the spare one -/
def rf_0 (p q : Nat) : Nat → Option Nat := fun k => match k with
  | 0 => some 1
  | 1 => some 3
  | 2 => some 6
  | 3 => some 19
  | 4 => some 25
  | 5 => some 33
  | 6 => some p
  | 7 => some q
  | _ => none
def rf_1 : Nat → Option Nat := fun k => match k with
  | 0 => some 2
  | _ => none
def rf_3 : Nat → Option Nat := fun k => match k with
  | 0 => some 1
  | 1 => some 5
  | 2 => some 4
  | _ => none
def rf_6 : Nat → Option Nat := fun k => match k with
  | 1 => some 7
  | 2 => some 8
  | 3 => some 9
  | 4 => some 10
  | 5 => some 11
  | 6 => some 12
  | 7 => some 13
  | 8 => some 14
  | 9 => some 15
  | 10 => some 16
  | 11 => some 17
  | 12 => some 18
  | _ => none
def rf_19 : Nat → Option Nat := fun k => match k with
  | 0 => some 20
  | 1 => some 21
  | 2 => some 22
  | 3 => some 23
  | 4 => some 24
  | _ => none
def rf_25 : Nat → Option Nat := fun k => match k with
  | 1 => some 26
  | 2 => some 27
  | 3 => some 28
  | 4 => some 29
  | 5 => some 30
  | 6 => some 31
  | 7 => some 32
  | _ => none
def rf_33 : Nat → Option Nat := fun k => match k with
  | 0 => some 34
  | 1 => some 35
  | 2 => some 36
  | 3 => some 37
  | 4 => some 38
  | 5 => some 39
  | 6 => some 40
  | 7 => some 41
  | 8 => some 42
  | _ => none
def rf_43 : Nat → Option Nat := fun k => match k with
  | 0 => some 44
  | 1 => some 45
  | 8 => some 46
  | 9 => some 47
  | 10 => some 48
  | _ => none
def rf_49 : Nat → Option Nat := fun k => match k with
  | 0 => some 50
  | 1 => some 51
  | 8 => some 52
  | 9 => some 53
  | 10 => some 54
  | _ => none
def rf_55 : Nat → Option Nat := fun k => match k with
  | 0 => some 56
  | 11 => some 57
  | 13 => some 58
  | 14 => some 59
  | 18 => some 60
  | 20 => some 61
  | 21 => some 62
  | 22 => some 63
  | 23 => some 64
  | 25 => some 65
  | 26 => some 66
  | 34 => some 67
  | 35 => some 68
  | 36 => some 69
  | 38 => some 70
  | 39 => some 71
  | 40 => some 72
  | 41 => some 73
  | 42 => some 74
  | 43 => some 75
  | 44 => some 76
  | 45 => some 77
  | 46 => some 78
  | 47 => some 79
  | 48 => some 80
  | 49 => some 81
  | 52 => some 82
  | 53 => some 83
  | 54 => some 84
  | 55 => some 85
  | 56 => some 86
  | 58 => some 87
  | 59 => some 88
  | 60 => some 89
  | 61 => some 90
  | 62 => some 91
  | 63 => some 92
  | 64 => some 93
  | 65 => some 94
  | 66 => some 95
  | _ => none
def fm_refs (p q : Nat) : Nat → Nat → Option Nat := fun o => match o with
  | 0 => rf_0 p q
  | 1 => rf_1
  | 3 => rf_3
  | 6 => rf_6
  | 19 => rf_19
  | 25 => rf_25
  | 33 => rf_33
  | 43 => rf_43
  | 49 => rf_49
  | 55 => rf_55
  | _ => fun _ => none
theorem re_0_0 {p q : Nat} : fm_refs p q 0 0 = some 1 := rfl
theorem re_0_1 {p q : Nat} : fm_refs p q 0 1 = some 3 := rfl
theorem re_0_2 {p q : Nat} : fm_refs p q 0 2 = some 6 := rfl
theorem re_0_3 {p q : Nat} : fm_refs p q 0 3 = some 19 := rfl
theorem re_0_4 {p q : Nat} : fm_refs p q 0 4 = some 25 := rfl
theorem re_0_5 {p q : Nat} : fm_refs p q 0 5 = some 33 := rfl
theorem re_0_6 {p q : Nat} : fm_refs p q 0 6 = some p := rfl
theorem re_0_7 {p q : Nat} : fm_refs p q 0 7 = some q := rfl
theorem re_1_0 {p q : Nat} : fm_refs p q 1 0 = some 2 := rfl
theorem re_3_0 {p q : Nat} : fm_refs p q 3 0 = some 1 := rfl
theorem re_3_1 {p q : Nat} : fm_refs p q 3 1 = some 5 := rfl
theorem re_3_2 {p q : Nat} : fm_refs p q 3 2 = some 4 := rfl
theorem re_6_1 {p q : Nat} : fm_refs p q 6 1 = some 7 := rfl
theorem re_6_2 {p q : Nat} : fm_refs p q 6 2 = some 8 := rfl
theorem re_6_3 {p q : Nat} : fm_refs p q 6 3 = some 9 := rfl
theorem re_6_4 {p q : Nat} : fm_refs p q 6 4 = some 10 := rfl
theorem re_6_5 {p q : Nat} : fm_refs p q 6 5 = some 11 := rfl
theorem re_6_6 {p q : Nat} : fm_refs p q 6 6 = some 12 := rfl
theorem re_6_7 {p q : Nat} : fm_refs p q 6 7 = some 13 := rfl
theorem re_6_8 {p q : Nat} : fm_refs p q 6 8 = some 14 := rfl
theorem re_6_9 {p q : Nat} : fm_refs p q 6 9 = some 15 := rfl
theorem re_6_10 {p q : Nat} : fm_refs p q 6 10 = some 16 := rfl
theorem re_6_11 {p q : Nat} : fm_refs p q 6 11 = some 17 := rfl
theorem re_6_12 {p q : Nat} : fm_refs p q 6 12 = some 18 := rfl
theorem re_19_0 {p q : Nat} : fm_refs p q 19 0 = some 20 := rfl
theorem re_19_1 {p q : Nat} : fm_refs p q 19 1 = some 21 := rfl
theorem re_19_2 {p q : Nat} : fm_refs p q 19 2 = some 22 := rfl
theorem re_19_3 {p q : Nat} : fm_refs p q 19 3 = some 23 := rfl
theorem re_19_4 {p q : Nat} : fm_refs p q 19 4 = some 24 := rfl
theorem re_25_1 {p q : Nat} : fm_refs p q 25 1 = some 26 := rfl
theorem re_25_2 {p q : Nat} : fm_refs p q 25 2 = some 27 := rfl
theorem re_25_3 {p q : Nat} : fm_refs p q 25 3 = some 28 := rfl
theorem re_25_4 {p q : Nat} : fm_refs p q 25 4 = some 29 := rfl
theorem re_25_5 {p q : Nat} : fm_refs p q 25 5 = some 30 := rfl
theorem re_25_6 {p q : Nat} : fm_refs p q 25 6 = some 31 := rfl
theorem re_25_7 {p q : Nat} : fm_refs p q 25 7 = some 32 := rfl
theorem re_33_0 {p q : Nat} : fm_refs p q 33 0 = some 34 := rfl
theorem re_33_1 {p q : Nat} : fm_refs p q 33 1 = some 35 := rfl
theorem re_33_2 {p q : Nat} : fm_refs p q 33 2 = some 36 := rfl
theorem re_33_3 {p q : Nat} : fm_refs p q 33 3 = some 37 := rfl
theorem re_33_4 {p q : Nat} : fm_refs p q 33 4 = some 38 := rfl
theorem re_33_5 {p q : Nat} : fm_refs p q 33 5 = some 39 := rfl
theorem re_33_6 {p q : Nat} : fm_refs p q 33 6 = some 40 := rfl
theorem re_33_7 {p q : Nat} : fm_refs p q 33 7 = some 41 := rfl
theorem re_33_8 {p q : Nat} : fm_refs p q 33 8 = some 42 := rfl
theorem re_43_0 {p q : Nat} : fm_refs p q 43 0 = some 44 := rfl
theorem re_43_1 {p q : Nat} : fm_refs p q 43 1 = some 45 := rfl
theorem re_43_8 {p q : Nat} : fm_refs p q 43 8 = some 46 := rfl
theorem re_43_9 {p q : Nat} : fm_refs p q 43 9 = some 47 := rfl
theorem re_43_10 {p q : Nat} : fm_refs p q 43 10 = some 48 := rfl
theorem re_49_0 {p q : Nat} : fm_refs p q 49 0 = some 50 := rfl
theorem re_49_1 {p q : Nat} : fm_refs p q 49 1 = some 51 := rfl
theorem re_49_8 {p q : Nat} : fm_refs p q 49 8 = some 52 := rfl
theorem re_49_9 {p q : Nat} : fm_refs p q 49 9 = some 53 := rfl
theorem re_49_10 {p q : Nat} : fm_refs p q 49 10 = some 54 := rfl
theorem re_55_0 {p q : Nat} : fm_refs p q 55 0 = some 56 := rfl
theorem re_55_11 {p q : Nat} : fm_refs p q 55 11 = some 57 := rfl
theorem re_55_13 {p q : Nat} : fm_refs p q 55 13 = some 58 := rfl
theorem re_55_14 {p q : Nat} : fm_refs p q 55 14 = some 59 := rfl
theorem re_55_18 {p q : Nat} : fm_refs p q 55 18 = some 60 := rfl
theorem re_55_20 {p q : Nat} : fm_refs p q 55 20 = some 61 := rfl
theorem re_55_21 {p q : Nat} : fm_refs p q 55 21 = some 62 := rfl
theorem re_55_22 {p q : Nat} : fm_refs p q 55 22 = some 63 := rfl
theorem re_55_23 {p q : Nat} : fm_refs p q 55 23 = some 64 := rfl
theorem re_55_25 {p q : Nat} : fm_refs p q 55 25 = some 65 := rfl
theorem re_55_26 {p q : Nat} : fm_refs p q 55 26 = some 66 := rfl
theorem re_55_34 {p q : Nat} : fm_refs p q 55 34 = some 67 := rfl
theorem re_55_35 {p q : Nat} : fm_refs p q 55 35 = some 68 := rfl
theorem re_55_36 {p q : Nat} : fm_refs p q 55 36 = some 69 := rfl
theorem re_55_38 {p q : Nat} : fm_refs p q 55 38 = some 70 := rfl
theorem re_55_39 {p q : Nat} : fm_refs p q 55 39 = some 71 := rfl
theorem re_55_40 {p q : Nat} : fm_refs p q 55 40 = some 72 := rfl
theorem re_55_41 {p q : Nat} : fm_refs p q 55 41 = some 73 := rfl
theorem re_55_42 {p q : Nat} : fm_refs p q 55 42 = some 74 := rfl
theorem re_55_43 {p q : Nat} : fm_refs p q 55 43 = some 75 := rfl
theorem re_55_44 {p q : Nat} : fm_refs p q 55 44 = some 76 := rfl
theorem re_55_45 {p q : Nat} : fm_refs p q 55 45 = some 77 := rfl
theorem re_55_46 {p q : Nat} : fm_refs p q 55 46 = some 78 := rfl
theorem re_55_47 {p q : Nat} : fm_refs p q 55 47 = some 79 := rfl
theorem re_55_48 {p q : Nat} : fm_refs p q 55 48 = some 80 := rfl
theorem re_55_49 {p q : Nat} : fm_refs p q 55 49 = some 81 := rfl
theorem re_55_52 {p q : Nat} : fm_refs p q 55 52 = some 82 := rfl
theorem re_55_53 {p q : Nat} : fm_refs p q 55 53 = some 83 := rfl
theorem re_55_54 {p q : Nat} : fm_refs p q 55 54 = some 84 := rfl
theorem re_55_55 {p q : Nat} : fm_refs p q 55 55 = some 85 := rfl
theorem re_55_56 {p q : Nat} : fm_refs p q 55 56 = some 86 := rfl
theorem re_55_58 {p q : Nat} : fm_refs p q 55 58 = some 87 := rfl
theorem re_55_59 {p q : Nat} : fm_refs p q 55 59 = some 88 := rfl
theorem re_55_60 {p q : Nat} : fm_refs p q 55 60 = some 89 := rfl
theorem re_55_61 {p q : Nat} : fm_refs p q 55 61 = some 90 := rfl
theorem re_55_62 {p q : Nat} : fm_refs p q 55 62 = some 91 := rfl
theorem re_55_63 {p q : Nat} : fm_refs p q 55 63 = some 92 := rfl
theorem re_55_64 {p q : Nat} : fm_refs p q 55 64 = some 93 := rfl
theorem re_55_65 {p q : Nat} : fm_refs p q 55 65 = some 94 := rfl
theorem re_55_66 {p q : Nat} : fm_refs p q 55 66 = some 95 := rfl
