/-! ===== what holds between two calls: the class (cells below 55) beside the reference (55 and on) ===== -/
theorem fm_cl_ap {α : Type} {I : Nat → Nat → α} {a b : Nat} {f : Nat → α} : fm_cl I a f b = if b = a then f else I b := rfl
theorem fm_pt_ap {α : Type} {f : Nat → α} {k j : Nat} {v : α} : fm_pt f k v j = if j = k then v else f j := rfl
theorem tn_1 {i : Nat} : ((i : Int) + 1).toNat = i + 1 := by omega
theorem tn_2 {i : Nat} : ((i : Int) + 2).toNat = i + 2 := by omega
theorem tn_3 {i : Nat} : ((i : Int) + 3).toNat = i + 3 := by omega
theorem tn_4 {i : Nat} : ((i : Int) + 4).toNat = i + 4 := by omega
theorem tn_5 {i : Nat} : ((i : Int) + 5).toNat = i + 5 := by omega
def iv_tape (t t' : Int) (b b' : Nat → Int) : Prop := 0 ≤ t ∧ t ≤ 400 ∧ t' = t ∧ ∀ j, b j = b' j % 256 ∧ -128 ≤ b' j ∧ b' j ≤ 127
def iv_fault (f f' g g' : Int) : Prop := f' = f ∧ g' = g
def iv_sum (b : Nat → Int) : Nat → Int
  | 0 => 0
  | k + 1 => iv_sum b k + b k
/-- spans, their sum, D R S, bills, dull learn least; arrays: watch and bells of spans, bells and stations of bills, skills -/
def iv_plan (ns rb rd rr rs nb du le la : Int) (sw sb bb bs sk : Nat → Int) : Prop :=
  (1 ≤ ns ∧ ns ≤ 12 ∧ rb = iv_sum sb ns.toNat ∧ (∀ k : Nat, (k : Int) < ns → 0 ≤ sw k ∧ sw k ≤ 2 ∧ 1 ≤ sb k ∧ sb k ≤ 48)) ∧ (1 ≤ rd ∧ rd ≤ 96 ∧ 0 ≤ rr ∧ rr ≤ rd ∧ 0 ≤ rs ∧ rs ≤ rd) ∧
  (0 ≤ nb ∧ nb ≤ 8 ∧ ∀ b : Nat, (b : Int) < nb → 1 ≤ bb b ∧ bb b ≤ 48 ∧ 1 ≤ bs b ∧ bs b ≤ 12 ∧ ∀ s : Nat, (s : Int) < bs b → 0 ≤ sk (12 * b + s) ∧ sk (12 * b + s) ≤ 5) ∧ (0 ≤ du ∧ du ≤ 8 ∧ 0 ≤ le ∧ le ≤ 100 ∧ 0 ≤ la ∧ la ≤ 16)
/-- the class's plan beside the reference's -/
def iv_plans (ns nb : Int) (sw sb bb bs sk sw' sb' bb' bs' sk' : Nat → Int) : Prop :=
  (∀ k : Nat, (k : Int) < ns → sw' k = sw k ∧ sb' k = sb k) ∧ ∀ b : Nat, (b : Int) < nb → bb' b = bb b ∧ bs' b = bs b ∧ ∀ s : Nat, (s : Int) < bs b → sk' (12 * b + s) = sk (12 * b + s)
/-- hands: how many; watch, skills, sick; turns, fills, breaches, worked, places, galley, learned are nought from c on -/
def iv_crew (c : Int) (w k s t f b wo pl ga le : Nat → Int) : Prop :=
  0 ≤ c ∧ c ≤ 16 ∧ (∀ h : Nat, (h : Int) < c → 0 ≤ w h ∧ w h ≤ 2 ∧ 0 ≤ k h ∧ k h ≤ 63) ∧ (∀ h, 0 ≤ s h ∧ s h ≤ 480) ∧ (∀ h : Nat, c ≤ (h : Int) → s h = 0 ∧ t h = 0 ∧ f h = 0 ∧ b h = 0 ∧ wo h = 0 ∧ ga h = 0) ∧ (∀ j : Nat, 6 * c ≤ (j : Int) → le j = 0) ∧ (∀ h, ga h = 0 ∨ ga h = 1) ∧ ∀ h, 0 ≤ pl h ∧ pl h ≤ 15
/-- how many of n places from a on aren't below 0 -/
def iv_cnt (f : Nat → Int) (a : Nat) : Nat → Int
  | 0 => 0
  | k + 1 => iv_cnt f a k + (if 0 ≤ f (a + k) then 1 else 0)
/-- orders: how many, of how many hands and bills; bill, left, learners, stations; hands, learners' rows; the order at whose station, as whose learner, a hand is -/
def iv_ord (m c nb : Int) (bs bi le nl st ha lr so lo : Nat → Int) : Prop :=
  0 ≤ m ∧ m ≤ 60 ∧ (∀ o : Nat, (o : Int) < m → 0 ≤ bi o ∧ bi o < nb ∧ st o = bs (bi o).toNat ∧ 0 ≤ le o ∧ le o ≤ 48 ∧ nl o = iv_cnt lr (12 * o) (st o).toNat ∧ ∀ s : Nat, (s : Int) < st o → 0 ≤ ha (12 * o + s) ∧ ha (12 * o + s) < c ∧ -1 ≤ lr (12 * o + s) ∧ lr (12 * o + s) < c) ∧
  (∀ o s : Nat, (o : Int) < m → 0 < le o → (s : Int) < st o → so (ha (12 * o + s)).toNat = o ∧ (0 ≤ lr (12 * o + s) → lo (lr (12 * o + s)).toNat = o)) ∧
  (∀ h : Nat, h < 16 → (so h = -1 ∨ ∃ o s : Nat, so h = o ∧ (o : Int) < m ∧ 0 < le o ∧ (s : Int) < st o ∧ ha (12 * o + s) = h) ∧ (lo h = -1 ∨ ∃ o s : Nat, lo h = o ∧ (o : Int) < m ∧ 0 < le o ∧ (s : Int) < st o ∧ lr (12 * o + s) = h))
/-- what was done: wk h t: hand h worked at bell t; og h t: the order at whose station it worked then, or -1 -/
def iv_free (wk : Nat → Nat → Bool) (h : Nat) (a : Nat) : Nat → Int
  | 0 => 0
  | k + 1 => iv_free wk h a k + (if wk h (a + k) then 0 else 1)
def iv_runl (wk : Nat → Nat → Bool) (h : Nat) : Nat → Int
  | 0 => 0
  | k + 1 => if wk h k then 0 else iv_runl wk h k + 1
/-- the last bell below t at which the run of free bells was s long, or -1 -/
def iv_last (wk : Nat → Nat → Bool) (s : Int) (h : Nat) : Nat → Int
  | 0 => -1
  | k + 1 => if s ≤ iv_runl wk h (k + 1) then (k : Int) else iv_last wk s h k
def iv_stb (og : Nat → Nat → Int) (h : Nat) : Nat → Int
  | 0 => -1
  | k + 1 => if 0 ≤ og h k then (k : Int) else iv_stb og h k
def iv_sto (og : Nat → Nat → Int) (h : Nat) : Nat → Int
  | 0 => -1
  | k + 1 => if 0 ≤ og h k then og h k else iv_sto og h k
def iv_rest (be c rd rs m : Int) (wb fb fr rb so sb dw dg cs : Nat → Int) : Prop :=
  ∃ (wk : Nat → Nat → Bool) (og : Nat → Nat → Int), (∀ h t : Nat, (h : Int) < c → (t : Int) < be → be ≤ (t : Int) + 96 → dw (96 * h + t % 96) = (if wk h t then 1 else 0) ∧ dg (96 * h + t % 96) = og h t ∧ ((wb (t % 96)).toNat.testBit h = wk h t ∧ 0 ≤ wb (t % 96) ∧ wb (t % 96) < 65536)) ∧
    (∀ h t : Nat, (h : Int) < c → (t : Int) < be → -1 ≤ og h t ∧ og h t < m ∧ (0 ≤ og h t → wk h t = true)) ∧ (∀ h t u : Nat, (h : Int) < c → t ≤ u → (u : Int) < be → 0 ≤ og h u → og h t ≤ og h u) ∧
    (∀ h : Nat, h < 16 → (h : Int) < c → fb h = iv_free wk h (be - rd).toNat (be.toNat - (be - rd).toNat) ∧ fr h = iv_runl wk h be.toNat ∧ rb h = iv_last wk rs h be.toNat ∧ so h = iv_sto og h be.toNat ∧ sb h = iv_stb og h be.toNat) ∧
    (be = 0 → ∀ h : Nat, h < 16 → fb h = 0 ∧ fr h = 0 ∧ rb h = -1 ∧ so h = -1 ∧ sb h = -1) ∧
    (∀ h t : Nat, (h : Int) < c → (t : Int) < be → 0 ≤ cs h → og h t ≤ cs h)
def iv_kw (k : Nat → Int) : Prop := k 0 = 24170600 ∧ k 1 = 595572 ∧ k 2 = 75148 ∧ k 3 = 152972 ∧ k 4 = 12748366 ∧ k 5 = 12748404
def Inv (I L : Nat → Nat → Int) (p q : Nat) : Prop :=
  (p = 43 ∧ q = 49 ∨ p = 49 ∧ q = 43) ∧ iv_tape (I 1 1) (I 55 1) (I 2) (I 56) ∧ iv_fault (I 0 9) (I 55 9) (I 0 10) (I 55 10) ∧
  iv_plan (I p 2) (I p 3) (I p 4) (I p 5) (I p 6) (I p 7) (I p 11) (I p 12) (I p 13) (I (p + 1)) (I (p + 2)) (I (p + 3)) (I (p + 4)) (I (p + 5)) ∧
  (I 55 24 = I p 2 ∧ I 55 27 = I p 4 ∧ I 55 28 = I p 5 ∧ I 55 29 = I p 6 ∧ I 55 33 = I p 7 ∧ I 55 30 = I p 11 ∧ I 55 31 = I p 12 ∧ I 55 32 = I p 13) ∧
  iv_plans (I p 2) (I p 7) (I (p + 1)) (I (p + 2)) (I (p + 3)) (I (p + 4)) (I (p + 5)) (I 65) (I 66) (I 67) (I 68) (I 69) ∧
  iv_crew (I 6 0) (I 7) (I 8) (I 9) (I 10) (I 11) (I 12) (I 13) (I 14) (I 18) (I 17) ∧
  (I 55 37 = I 6 0 ∧ I 70 = I 7 ∧ I 71 = I 8 ∧ I 72 = I 9 ∧ I 73 = I 10 ∧ I 74 = I 11 ∧ I 75 = I 12 ∧ I 76 = I 13 ∧ I 77 = I 14 ∧ I 79 = I 18 ∧ I 78 = I 17) ∧
  (I 55 50 = I 0 8 ∧ 0 ≤ I 0 8 ∧ I 0 8 ≤ 20000) ∧
  iv_ord (I 25 0) (I 6 0) (I p 7) (I (p + 4)) (I 26) (I 27) (I 29) (I 30) (I 31) (I 32) (I 15) (I 16) ∧
  (I 55 51 = I 25 0 ∧ I 82 = I 26 ∧ I 83 = I 27 ∧ I 84 = I 28 ∧ I 85 = I 31 ∧ I 86 = I 32) ∧
  iv_rest (I 0 8) (I 6 0) (I p 4) (I p 6) (I 25 0) (I 34) (I 35) (I 36) (I 37) (I 38) (I 39) (I 80) (I 81) (I 15) ∧
  (I 55 57 = I 33 9 ∧ 0 ≤ I 33 9 ∧ I 33 9 ≤ 16 * I 0 8 ∧ I 87 = I 40 ∧ I 88 = I 41 ∧ I 89 = I 42) ∧
  iv_kw (L 5) ∧ ∀ j, -2147483648 ≤ I 500 j ∧ I 500 j < 2147483648
