/-! THE SAME RULES over numbers: an int that is Int32.ofNat k -/
abbrev zM0 : Nat := 2147483648
theorem zn_inj {a b : Nat} (ha : a < 2147483648) (hb : b < 2147483648) : Int32.ofNat a = Int32.ofNat b ↔ a = b := by
  constructor
  · intro h
    have := congrArg Int32.toNatClampNeg h
    rw [Int32.toNatClampNeg_ofNat_of_lt ha, Int32.toNatClampNeg_ofNat_of_lt hb] at this
    exact this
  · rintro rfl; rfl
theorem zn_lt {a b : Nat} (ha : a < 2147483648) (hb : b < 2147483648) : Int32.ofNat a < Int32.ofNat b ↔ a < b := Int32.ofNat_lt_iff_lt ha hb
theorem zn_cl {a : Nat} (ha : a < 2147483648) : (Int32.ofNat a).toNatClampNeg = a := Int32.toNatClampNeg_ofNat_of_lt ha
theorem zn_nn {a : Nat} (ha : a < 2147483648) : (0 : Int32) ≤ Int32.ofNat a := Int32.ofNat_le_ofNat (k := 0) (by decide) ha |>.mpr (Nat.zero_le a)
theorem zn_rem {a b : Nat} (ha : a < 2147483648) (hb : b < 2147483648) : Int32.ofNat a - Int32.ofNat a / Int32.ofNat b * Int32.ofNat b = Int32.ofNat (a % b) := by
  rw [← Int32.ofNat_div ha hb, ← Int32.ofNat_mul, ← Int32.ofNat_sub _ _ (Nat.div_mul_le_self a b)]
  congr 1
  have := Nat.div_add_mod a b
  rw [Nat.mul_comm] at this
  omega
theorem zn_xor {a b : Nat} : Int32.ofNat a ^^^ Int32.ofNat b = Int32.ofNat (a ^^^ b) := by
  apply Int32.toBitVec_inj.mp
  rw [Int32.toBitVec_xor]
  show BitVec.ofNat 32 a ^^^ BitVec.ofNat 32 b = BitVec.ofNat 32 (a ^^^ b)
  rw [BitVec.ofNat_xor]
theorem zn_and {a b : Nat} : Int32.ofNat a &&& Int32.ofNat b = Int32.ofNat (a &&& b) := by
  apply Int32.toBitVec_inj.mp
  rw [Int32.toBitVec_and]
  show BitVec.ofNat 32 a &&& BitVec.ofNat 32 b = BitVec.ofNat 32 (a &&& b)
  rw [BitVec.ofNat_and]
theorem zn_shr {a b : Nat} (ha : a < 2147483648) (hb : b < 32) : Int32.ofNat a >>> (Int32.ofNat b &&& 31) = Int32.ofNat (a >>> b) := by
  have hm : Int32.ofNat b &&& 31 = Int32.ofNat b := by
    have : (31 : Int32) = Int32.ofNat 31 := rfl
    rw [this, zn_and]
    congr 1
    have h31 : (31 : Nat) = 2 ^ 5 - 1 := rfl
    rw [h31, Nat.and_two_pow_sub_one_eq_mod]
    omega
  rw [hm]
  apply Int32.toInt_inj.mp
  have hle : a >>> b ≤ a := Nat.shiftRight_le a b
  have e2 : (Int32.ofNat (a >>> b)).toInt = ((a >>> b : Nat) : Int) := Int32.toInt_ofNat_of_lt (Nat.lt_of_le_of_lt hle ha)
  rw [e2]
  show (Int32.ofNat a >>> Int32.ofNat b).toBitVec.toInt = _
  rw [Int32.toBitVec_shiftRight]
  have hs : (Int32.ofNat b).toBitVec.smod 32 = BitVec.ofNat 32 b := by
    have : ∀ q : Fin 32, (Int32.ofNat q.val).toBitVec.smod 32 = BitVec.ofNat 32 q.val := by decide
    exact this ⟨b, hb⟩
  rw [hs]
  show (BitVec.sshiftRight (BitVec.ofNat 32 a) (BitVec.ofNat 32 b).toNat).toInt = _
  rw [BitVec.toInt_sshiftRight]
  have h1 : (BitVec.ofNat 32 a).toInt = (a : Int) := Int32.toInt_ofNat_of_lt ha
  have h2 : (BitVec.ofNat 32 b).toNat = b := by rw [BitVec.toNat_ofNat]; omega
  rw [h1, h2]
  rfl
section ZXN
variable {L mi pc pc' : Nat} {lv : zLv} {st : List Value} {N U : Nat} {I : zI} {J : zJ} {R : zR} {Q : zOut → zHp → Prop} {r : zLv}
theorem zx_addN {x y : Nat} {h : zHp} (hd : zD mi pc .iadd 1 pc' = true) (w : zW L mi pc' lv (.int (Int32.ofNat (x + y)) :: st) h Q) : zW L mi pc lv (.int (Int32.ofNat y) :: .int (Int32.ofNat x) :: st) h Q := zx_add hd (by rw [← Int32.ofNat_add]; exact w)
theorem zx_subN {x y : Nat} {h : zHp} (hd : zD mi pc .isub 1 pc' = true) (hs : y ≤ x) (w : zW L mi pc' lv (.int (Int32.ofNat (x - y)) :: st) h Q) : zW L mi pc lv (.int (Int32.ofNat y) :: .int (Int32.ofNat x) :: st) h Q := zx_sub hd (by rw [← Int32.ofNat_sub _ _ hs]; exact w)
theorem zx_mulN {x y : Nat} {h : zHp} (hd : zD mi pc .imul 1 pc' = true) (w : zW L mi pc' lv (.int (Int32.ofNat (x * y)) :: st) h Q) : zW L mi pc lv (.int (Int32.ofNat y) :: .int (Int32.ofNat x) :: st) h Q := zx_mul hd (by rw [← Int32.ofNat_mul]; exact w)
theorem zx_divN {x y : Nat} {h : zHp} (hd : zD mi pc .idiv 1 pc' = true) (hs : x < 2147483648 ∧ 0 < y ∧ y < 2147483648) (w : zW L mi pc' lv (.int (Int32.ofNat (x / y)) :: st) h Q) : zW L mi pc lv (.int (Int32.ofNat y) :: .int (Int32.ofNat x) :: st) h Q := zx_div hd (fun e => by have := (zn_inj hs.2.2 (by decide : 0 < 2147483648)).mp e; omega) (by rw [← Int32.ofNat_div hs.1 hs.2.2]; exact w)
theorem zx_remN {x y : Nat} {h : zHp} (hd : zD mi pc .irem 1 pc' = true) (hs : x < 2147483648 ∧ 0 < y ∧ y < 2147483648) (w : zW L mi pc' lv (.int (Int32.ofNat (x % y)) :: st) h Q) : zW L mi pc lv (.int (Int32.ofNat y) :: .int (Int32.ofNat x) :: st) h Q := zx_rem hd (fun e => by have := (zn_inj hs.2.2 (by decide : 0 < 2147483648)).mp e; omega) (by rw [zn_rem hs.1 hs.2.2]; exact w)
theorem zx_xorN {x y : Nat} {h : zHp} (hd : zD mi pc .ixor 1 pc' = true) (w : zW L mi pc' lv (.int (Int32.ofNat (x ^^^ y)) :: st) h Q) : zW L mi pc lv (.int (Int32.ofNat y) :: .int (Int32.ofNat x) :: st) h Q := zx_xor hd (by rw [zn_xor]; exact w)
theorem zx_andN {x y : Nat} {h : zHp} (hd : zD mi pc .iand 1 pc' = true) (w : zW L mi pc' lv (.int (Int32.ofNat (x &&& y)) :: st) h Q) : zW L mi pc lv (.int (Int32.ofNat y) :: .int (Int32.ofNat x) :: st) h Q := zx_and hd (by rw [zn_and]; exact w)
theorem zx_shrN {x y : Nat} {h : zHp} (hd : zD mi pc .ishr 1 pc' = true) (hs : x < 2147483648 ∧ y < 32) (w : zW L mi pc' lv (.int (Int32.ofNat (x >>> y)) :: st) h Q) : zW L mi pc lv (.int (Int32.ofNat y) :: .int (Int32.ofNat x) :: st) h Q := zx_shr hd (by rw [zn_shr hs.1 hs.2]; exact w)
theorem zx_icmpeqN {tg nx x y : Nat} {h : zHp} (hd : zDm mi pc .eq tg nx = true) (hs : x < 2147483648 ∧ y < 2147483648) (w1 : x = y → zW L mi tg lv st h Q) (w2 : x ≠ y → zW L mi nx lv st h Q) : zW L mi pc lv (.int (Int32.ofNat y) :: .int (Int32.ofNat x) :: st) h Q := by
  refine zx_icmpeq hd (fun hc => w1 ?_) (fun hc => w2 ?_)
  all_goals (rw [zn_inj hs.1 hs.2] at hc; omega)
theorem zx_ifeqN {tg nx x : Nat} {h : zHp} (hd : zDf mi pc .eq tg nx = true) (hs : x < 2147483648) (w1 : x = 0 → zW L mi tg lv st h Q) (w2 : x ≠ 0 → zW L mi nx lv st h Q) : zW L mi pc lv (.int (Int32.ofNat x) :: st) h Q := by
  have z0 : (0 : Int32) = Int32.ofNat 0 := rfl
  refine zx_ifeq hd (fun hc => w1 ?_) (fun hc => w2 ?_)
  all_goals (rw [z0, zn_inj hs (by decide : 0 < 2147483648)] at hc; omega)
theorem zx_icmpneN {tg nx x y : Nat} {h : zHp} (hd : zDm mi pc .ne tg nx = true) (hs : x < 2147483648 ∧ y < 2147483648) (w1 : x ≠ y → zW L mi tg lv st h Q) (w2 : x = y → zW L mi nx lv st h Q) : zW L mi pc lv (.int (Int32.ofNat y) :: .int (Int32.ofNat x) :: st) h Q := by
  refine zx_icmpne hd (fun hc => w1 ?_) (fun hc => w2 ?_)
  all_goals (rw [zn_inj hs.1 hs.2] at hc; omega)
theorem zx_ifneN {tg nx x : Nat} {h : zHp} (hd : zDf mi pc .ne tg nx = true) (hs : x < 2147483648) (w1 : x ≠ 0 → zW L mi tg lv st h Q) (w2 : x = 0 → zW L mi nx lv st h Q) : zW L mi pc lv (.int (Int32.ofNat x) :: st) h Q := by
  have z0 : (0 : Int32) = Int32.ofNat 0 := rfl
  refine zx_ifne hd (fun hc => w1 ?_) (fun hc => w2 ?_)
  all_goals (rw [z0, zn_inj hs (by decide : 0 < 2147483648)] at hc; omega)
theorem zx_icmpltN {tg nx x y : Nat} {h : zHp} (hd : zDm mi pc .lt tg nx = true) (hs : x < 2147483648 ∧ y < 2147483648) (w1 : x < y → zW L mi tg lv st h Q) (w2 : y ≤ x → zW L mi nx lv st h Q) : zW L mi pc lv (.int (Int32.ofNat y) :: .int (Int32.ofNat x) :: st) h Q := by
  refine zx_icmplt hd (fun hc => w1 ?_) (fun hc => w2 ?_)
  all_goals (rw [zn_lt hs.1 hs.2] at hc; omega)
theorem zx_ifltN {tg nx x : Nat} {h : zHp} (hd : zDf mi pc .lt tg nx = true) (hs : x < 2147483648) (w1 : x < 0 → zW L mi tg lv st h Q) (w2 : 0 ≤ x → zW L mi nx lv st h Q) : zW L mi pc lv (.int (Int32.ofNat x) :: st) h Q := by
  have z0 : (0 : Int32) = Int32.ofNat 0 := rfl
  refine zx_iflt hd (fun hc => w1 ?_) (fun hc => w2 ?_)
  all_goals (rw [z0, zn_lt hs (by decide : 0 < 2147483648)] at hc; omega)
theorem zx_icmpgeN {tg nx x y : Nat} {h : zHp} (hd : zDm mi pc .ge tg nx = true) (hs : x < 2147483648 ∧ y < 2147483648) (w1 : y ≤ x → zW L mi tg lv st h Q) (w2 : x < y → zW L mi nx lv st h Q) : zW L mi pc lv (.int (Int32.ofNat y) :: .int (Int32.ofNat x) :: st) h Q := by
  refine zx_icmpge hd (fun hc => w1 ?_) (fun hc => w2 ?_)
  all_goals (rw [zn_lt hs.1 hs.2] at hc; omega)
theorem zx_ifgeN {tg nx x : Nat} {h : zHp} (hd : zDf mi pc .ge tg nx = true) (hs : x < 2147483648) (w1 : 0 ≤ x → zW L mi tg lv st h Q) (w2 : x < 0 → zW L mi nx lv st h Q) : zW L mi pc lv (.int (Int32.ofNat x) :: st) h Q := by
  have z0 : (0 : Int32) = Int32.ofNat 0 := rfl
  refine zx_ifge hd (fun hc => w1 ?_) (fun hc => w2 ?_)
  all_goals (rw [z0, zn_lt hs (by decide : 0 < 2147483648)] at hc; omega)
theorem zx_icmpgtN {tg nx x y : Nat} {h : zHp} (hd : zDm mi pc .gt tg nx = true) (hs : x < 2147483648 ∧ y < 2147483648) (w1 : y < x → zW L mi tg lv st h Q) (w2 : x ≤ y → zW L mi nx lv st h Q) : zW L mi pc lv (.int (Int32.ofNat y) :: .int (Int32.ofNat x) :: st) h Q := by
  refine zx_icmpgt hd (fun hc => w1 ?_) (fun hc => w2 ?_)
  all_goals (rw [zn_lt hs.2 hs.1] at hc; omega)
theorem zx_ifgtN {tg nx x : Nat} {h : zHp} (hd : zDf mi pc .gt tg nx = true) (hs : x < 2147483648) (w1 : 0 < x → zW L mi tg lv st h Q) (w2 : x ≤ 0 → zW L mi nx lv st h Q) : zW L mi pc lv (.int (Int32.ofNat x) :: st) h Q := by
  have z0 : (0 : Int32) = Int32.ofNat 0 := rfl
  refine zx_ifgt hd (fun hc => w1 ?_) (fun hc => w2 ?_)
  all_goals (rw [z0, zn_lt (by decide : 0 < 2147483648) hs] at hc; omega)
theorem zx_icmpleN {tg nx x y : Nat} {h : zHp} (hd : zDm mi pc .le tg nx = true) (hs : x < 2147483648 ∧ y < 2147483648) (w1 : x ≤ y → zW L mi tg lv st h Q) (w2 : y < x → zW L mi nx lv st h Q) : zW L mi pc lv (.int (Int32.ofNat y) :: .int (Int32.ofNat x) :: st) h Q := by
  refine zx_icmple hd (fun hc => w1 ?_) (fun hc => w2 ?_)
  all_goals (rw [zn_lt hs.2 hs.1] at hc; omega)
theorem zx_ifleN {tg nx x : Nat} {h : zHp} (hd : zDf mi pc .le tg nx = true) (hs : x < 2147483648) (w1 : x ≤ 0 → zW L mi tg lv st h Q) (w2 : 0 < x → zW L mi nx lv st h Q) : zW L mi pc lv (.int (Int32.ofNat x) :: st) h Q := by
  have z0 : (0 : Int32) = Int32.ofNat 0 := rfl
  refine zx_ifle hd (fun hc => w1 ?_) (fun hc => w2 ?_)
  all_goals (rw [z0, zn_lt (by decide : 0 < 2147483648) hs] at hc; omega)
theorem zx_iin0 {x n : Nat} {h : zHp} (hd : zDi mi pc pc' 0 (Int32.ofNat n) = true) (w : zW L mi pc' (some (.int (Int32.ofNat (x + n))) :: r) st h Q) : zW L mi pc (some (.int (Int32.ofNat x)) :: r) st h Q := zx_ii0 hd (by rw [← Int32.ofNat_add]; exact w)
theorem zx_iid0 {x n : Nat} {h : zHp} (hd : zDi mi pc pc' 0 (-(Int32.ofNat n)) = true) (hs : n ≤ x) (w : zW L mi pc' (some (.int (Int32.ofNat (x - n))) :: r) st h Q) : zW L mi pc (some (.int (Int32.ofNat x)) :: r) st h Q := zx_ii0 hd (by rw [← Int32.sub_eq_add_neg, ← Int32.ofNat_sub _ _ hs]; exact w)
theorem zx_iin1 {l0 : Option Value} {x n : Nat} {h : zHp} (hd : zDi mi pc pc' 1 (Int32.ofNat n) = true) (w : zW L mi pc' (l0 :: some (.int (Int32.ofNat (x + n))) :: r) st h Q) : zW L mi pc (l0 :: some (.int (Int32.ofNat x)) :: r) st h Q := zx_ii1 hd (by rw [← Int32.ofNat_add]; exact w)
theorem zx_iid1 {l0 : Option Value} {x n : Nat} {h : zHp} (hd : zDi mi pc pc' 1 (-(Int32.ofNat n)) = true) (hs : n ≤ x) (w : zW L mi pc' (l0 :: some (.int (Int32.ofNat (x - n))) :: r) st h Q) : zW L mi pc (l0 :: some (.int (Int32.ofNat x)) :: r) st h Q := zx_ii1 hd (by rw [← Int32.sub_eq_add_neg, ← Int32.ofNat_sub _ _ hs]; exact w)
theorem zx_iin2 {l0 l1 : Option Value} {x n : Nat} {h : zHp} (hd : zDi mi pc pc' 2 (Int32.ofNat n) = true) (w : zW L mi pc' (l0 :: l1 :: some (.int (Int32.ofNat (x + n))) :: r) st h Q) : zW L mi pc (l0 :: l1 :: some (.int (Int32.ofNat x)) :: r) st h Q := zx_ii2 hd (by rw [← Int32.ofNat_add]; exact w)
theorem zx_iid2 {l0 l1 : Option Value} {x n : Nat} {h : zHp} (hd : zDi mi pc pc' 2 (-(Int32.ofNat n)) = true) (hs : n ≤ x) (w : zW L mi pc' (l0 :: l1 :: some (.int (Int32.ofNat (x - n))) :: r) st h Q) : zW L mi pc (l0 :: l1 :: some (.int (Int32.ofNat x)) :: r) st h Q := zx_ii2 hd (by rw [← Int32.sub_eq_add_neg, ← Int32.ofNat_sub _ _ hs]; exact w)
theorem zx_iin3 {l0 l1 l2 : Option Value} {x n : Nat} {h : zHp} (hd : zDi mi pc pc' 3 (Int32.ofNat n) = true) (w : zW L mi pc' (l0 :: l1 :: l2 :: some (.int (Int32.ofNat (x + n))) :: r) st h Q) : zW L mi pc (l0 :: l1 :: l2 :: some (.int (Int32.ofNat x)) :: r) st h Q := zx_ii3 hd (by rw [← Int32.ofNat_add]; exact w)
theorem zx_iid3 {l0 l1 l2 : Option Value} {x n : Nat} {h : zHp} (hd : zDi mi pc pc' 3 (-(Int32.ofNat n)) = true) (hs : n ≤ x) (w : zW L mi pc' (l0 :: l1 :: l2 :: some (.int (Int32.ofNat (x - n))) :: r) st h Q) : zW L mi pc (l0 :: l1 :: l2 :: some (.int (Int32.ofNat x)) :: r) st h Q := zx_ii3 hd (by rw [← Int32.sub_eq_add_neg, ← Int32.ofNat_sub _ _ hs]; exact w)
theorem zx_iin4 {l0 l1 l2 l3 : Option Value} {x n : Nat} {h : zHp} (hd : zDi mi pc pc' 4 (Int32.ofNat n) = true) (w : zW L mi pc' (l0 :: l1 :: l2 :: l3 :: some (.int (Int32.ofNat (x + n))) :: r) st h Q) : zW L mi pc (l0 :: l1 :: l2 :: l3 :: some (.int (Int32.ofNat x)) :: r) st h Q := zx_ii4 hd (by rw [← Int32.ofNat_add]; exact w)
theorem zx_iid4 {l0 l1 l2 l3 : Option Value} {x n : Nat} {h : zHp} (hd : zDi mi pc pc' 4 (-(Int32.ofNat n)) = true) (hs : n ≤ x) (w : zW L mi pc' (l0 :: l1 :: l2 :: l3 :: some (.int (Int32.ofNat (x - n))) :: r) st h Q) : zW L mi pc (l0 :: l1 :: l2 :: l3 :: some (.int (Int32.ofNat x)) :: r) st h Q := zx_ii4 hd (by rw [← Int32.sub_eq_add_neg, ← Int32.ofNat_sub _ _ hs]; exact w)
theorem zx_iin5 {l0 l1 l2 l3 l4 : Option Value} {x n : Nat} {h : zHp} (hd : zDi mi pc pc' 5 (Int32.ofNat n) = true) (w : zW L mi pc' (l0 :: l1 :: l2 :: l3 :: l4 :: some (.int (Int32.ofNat (x + n))) :: r) st h Q) : zW L mi pc (l0 :: l1 :: l2 :: l3 :: l4 :: some (.int (Int32.ofNat x)) :: r) st h Q := zx_ii5 hd (by rw [← Int32.ofNat_add]; exact w)
theorem zx_iid5 {l0 l1 l2 l3 l4 : Option Value} {x n : Nat} {h : zHp} (hd : zDi mi pc pc' 5 (-(Int32.ofNat n)) = true) (hs : n ≤ x) (w : zW L mi pc' (l0 :: l1 :: l2 :: l3 :: l4 :: some (.int (Int32.ofNat (x - n))) :: r) st h Q) : zW L mi pc (l0 :: l1 :: l2 :: l3 :: l4 :: some (.int (Int32.ofNat x)) :: r) st h Q := zx_ii5 hd (by rw [← Int32.sub_eq_add_neg, ← Int32.ofNat_sub _ _ hs]; exact w)
theorem zx_iin6 {l0 l1 l2 l3 l4 l5 : Option Value} {x n : Nat} {h : zHp} (hd : zDi mi pc pc' 6 (Int32.ofNat n) = true) (w : zW L mi pc' (l0 :: l1 :: l2 :: l3 :: l4 :: l5 :: some (.int (Int32.ofNat (x + n))) :: r) st h Q) : zW L mi pc (l0 :: l1 :: l2 :: l3 :: l4 :: l5 :: some (.int (Int32.ofNat x)) :: r) st h Q := zx_ii6 hd (by rw [← Int32.ofNat_add]; exact w)
theorem zx_iid6 {l0 l1 l2 l3 l4 l5 : Option Value} {x n : Nat} {h : zHp} (hd : zDi mi pc pc' 6 (-(Int32.ofNat n)) = true) (hs : n ≤ x) (w : zW L mi pc' (l0 :: l1 :: l2 :: l3 :: l4 :: l5 :: some (.int (Int32.ofNat (x - n))) :: r) st h Q) : zW L mi pc (l0 :: l1 :: l2 :: l3 :: l4 :: l5 :: some (.int (Int32.ofNat x)) :: r) st h Q := zx_ii6 hd (by rw [← Int32.sub_eq_add_neg, ← Int32.ofNat_sub _ _ hs]; exact w)
theorem zx_iin7 {l0 l1 l2 l3 l4 l5 l6 : Option Value} {x n : Nat} {h : zHp} (hd : zDi mi pc pc' 7 (Int32.ofNat n) = true) (w : zW L mi pc' (l0 :: l1 :: l2 :: l3 :: l4 :: l5 :: l6 :: some (.int (Int32.ofNat (x + n))) :: r) st h Q) : zW L mi pc (l0 :: l1 :: l2 :: l3 :: l4 :: l5 :: l6 :: some (.int (Int32.ofNat x)) :: r) st h Q := zx_ii7 hd (by rw [← Int32.ofNat_add]; exact w)
theorem zx_iid7 {l0 l1 l2 l3 l4 l5 l6 : Option Value} {x n : Nat} {h : zHp} (hd : zDi mi pc pc' 7 (-(Int32.ofNat n)) = true) (hs : n ≤ x) (w : zW L mi pc' (l0 :: l1 :: l2 :: l3 :: l4 :: l5 :: l6 :: some (.int (Int32.ofNat (x - n))) :: r) st h Q) : zW L mi pc (l0 :: l1 :: l2 :: l3 :: l4 :: l5 :: l6 :: some (.int (Int32.ofNat x)) :: r) st h Q := zx_ii7 hd (by rw [← Int32.sub_eq_add_neg, ← Int32.ofNat_sub _ _ hs]; exact w)
theorem zx_iin8 {l0 l1 l2 l3 l4 l5 l6 l7 : Option Value} {x n : Nat} {h : zHp} (hd : zDi mi pc pc' 8 (Int32.ofNat n) = true) (w : zW L mi pc' (l0 :: l1 :: l2 :: l3 :: l4 :: l5 :: l6 :: l7 :: some (.int (Int32.ofNat (x + n))) :: r) st h Q) : zW L mi pc (l0 :: l1 :: l2 :: l3 :: l4 :: l5 :: l6 :: l7 :: some (.int (Int32.ofNat x)) :: r) st h Q := zx_ii8 hd (by rw [← Int32.ofNat_add]; exact w)
theorem zx_iid8 {l0 l1 l2 l3 l4 l5 l6 l7 : Option Value} {x n : Nat} {h : zHp} (hd : zDi mi pc pc' 8 (-(Int32.ofNat n)) = true) (hs : n ≤ x) (w : zW L mi pc' (l0 :: l1 :: l2 :: l3 :: l4 :: l5 :: l6 :: l7 :: some (.int (Int32.ofNat (x - n))) :: r) st h Q) : zW L mi pc (l0 :: l1 :: l2 :: l3 :: l4 :: l5 :: l6 :: l7 :: some (.int (Int32.ofNat x)) :: r) st h Q := zx_ii8 hd (by rw [← Int32.sub_eq_add_neg, ← Int32.ofNat_sub _ _ hs]; exact w)
theorem zx_iin9 {l0 l1 l2 l3 l4 l5 l6 l7 l8 : Option Value} {x n : Nat} {h : zHp} (hd : zDi mi pc pc' 9 (Int32.ofNat n) = true) (w : zW L mi pc' (l0 :: l1 :: l2 :: l3 :: l4 :: l5 :: l6 :: l7 :: l8 :: some (.int (Int32.ofNat (x + n))) :: r) st h Q) : zW L mi pc (l0 :: l1 :: l2 :: l3 :: l4 :: l5 :: l6 :: l7 :: l8 :: some (.int (Int32.ofNat x)) :: r) st h Q := zx_ii9 hd (by rw [← Int32.ofNat_add]; exact w)
theorem zx_iid9 {l0 l1 l2 l3 l4 l5 l6 l7 l8 : Option Value} {x n : Nat} {h : zHp} (hd : zDi mi pc pc' 9 (-(Int32.ofNat n)) = true) (hs : n ≤ x) (w : zW L mi pc' (l0 :: l1 :: l2 :: l3 :: l4 :: l5 :: l6 :: l7 :: l8 :: some (.int (Int32.ofNat (x - n))) :: r) st h Q) : zW L mi pc (l0 :: l1 :: l2 :: l3 :: l4 :: l5 :: l6 :: l7 :: l8 :: some (.int (Int32.ofNat x)) :: r) st h Q := zx_ii9 hd (by rw [← Int32.sub_eq_add_neg, ← Int32.ofNat_sub _ _ hs]; exact w)
theorem zx_iin10 {l0 l1 l2 l3 l4 l5 l6 l7 l8 l9 : Option Value} {x n : Nat} {h : zHp} (hd : zDi mi pc pc' 10 (Int32.ofNat n) = true) (w : zW L mi pc' (l0 :: l1 :: l2 :: l3 :: l4 :: l5 :: l6 :: l7 :: l8 :: l9 :: some (.int (Int32.ofNat (x + n))) :: r) st h Q) : zW L mi pc (l0 :: l1 :: l2 :: l3 :: l4 :: l5 :: l6 :: l7 :: l8 :: l9 :: some (.int (Int32.ofNat x)) :: r) st h Q := zx_ii10 hd (by rw [← Int32.ofNat_add]; exact w)
theorem zx_iid10 {l0 l1 l2 l3 l4 l5 l6 l7 l8 l9 : Option Value} {x n : Nat} {h : zHp} (hd : zDi mi pc pc' 10 (-(Int32.ofNat n)) = true) (hs : n ≤ x) (w : zW L mi pc' (l0 :: l1 :: l2 :: l3 :: l4 :: l5 :: l6 :: l7 :: l8 :: l9 :: some (.int (Int32.ofNat (x - n))) :: r) st h Q) : zW L mi pc (l0 :: l1 :: l2 :: l3 :: l4 :: l5 :: l6 :: l7 :: l8 :: l9 :: some (.int (Int32.ofNat x)) :: r) st h Q := zx_ii10 hd (by rw [← Int32.sub_eq_add_neg, ← Int32.ofNat_sub _ _ hs]; exact w)
theorem zx_iin11 {l0 l1 l2 l3 l4 l5 l6 l7 l8 l9 l10 : Option Value} {x n : Nat} {h : zHp} (hd : zDi mi pc pc' 11 (Int32.ofNat n) = true) (w : zW L mi pc' (l0 :: l1 :: l2 :: l3 :: l4 :: l5 :: l6 :: l7 :: l8 :: l9 :: l10 :: some (.int (Int32.ofNat (x + n))) :: r) st h Q) : zW L mi pc (l0 :: l1 :: l2 :: l3 :: l4 :: l5 :: l6 :: l7 :: l8 :: l9 :: l10 :: some (.int (Int32.ofNat x)) :: r) st h Q := zx_ii11 hd (by rw [← Int32.ofNat_add]; exact w)
theorem zx_iid11 {l0 l1 l2 l3 l4 l5 l6 l7 l8 l9 l10 : Option Value} {x n : Nat} {h : zHp} (hd : zDi mi pc pc' 11 (-(Int32.ofNat n)) = true) (hs : n ≤ x) (w : zW L mi pc' (l0 :: l1 :: l2 :: l3 :: l4 :: l5 :: l6 :: l7 :: l8 :: l9 :: l10 :: some (.int (Int32.ofNat (x - n))) :: r) st h Q) : zW L mi pc (l0 :: l1 :: l2 :: l3 :: l4 :: l5 :: l6 :: l7 :: l8 :: l9 :: l10 :: some (.int (Int32.ofNat x)) :: r) st h Q := zx_ii11 hd (by rw [← Int32.sub_eq_add_neg, ← Int32.ofNat_sub _ _ hs]; exact w)
theorem zx_iin12 {l0 l1 l2 l3 l4 l5 l6 l7 l8 l9 l10 l11 : Option Value} {x n : Nat} {h : zHp} (hd : zDi mi pc pc' 12 (Int32.ofNat n) = true) (w : zW L mi pc' (l0 :: l1 :: l2 :: l3 :: l4 :: l5 :: l6 :: l7 :: l8 :: l9 :: l10 :: l11 :: some (.int (Int32.ofNat (x + n))) :: r) st h Q) : zW L mi pc (l0 :: l1 :: l2 :: l3 :: l4 :: l5 :: l6 :: l7 :: l8 :: l9 :: l10 :: l11 :: some (.int (Int32.ofNat x)) :: r) st h Q := zx_ii12 hd (by rw [← Int32.ofNat_add]; exact w)
theorem zx_iid12 {l0 l1 l2 l3 l4 l5 l6 l7 l8 l9 l10 l11 : Option Value} {x n : Nat} {h : zHp} (hd : zDi mi pc pc' 12 (-(Int32.ofNat n)) = true) (hs : n ≤ x) (w : zW L mi pc' (l0 :: l1 :: l2 :: l3 :: l4 :: l5 :: l6 :: l7 :: l8 :: l9 :: l10 :: l11 :: some (.int (Int32.ofNat (x - n))) :: r) st h Q) : zW L mi pc (l0 :: l1 :: l2 :: l3 :: l4 :: l5 :: l6 :: l7 :: l8 :: l9 :: l10 :: l11 :: some (.int (Int32.ofNat x)) :: r) st h Q := zx_ii12 hd (by rw [← Int32.sub_eq_add_neg, ← Int32.ofNat_sub _ _ hs]; exact w)
theorem zx_iin13 {l0 l1 l2 l3 l4 l5 l6 l7 l8 l9 l10 l11 l12 : Option Value} {x n : Nat} {h : zHp} (hd : zDi mi pc pc' 13 (Int32.ofNat n) = true) (w : zW L mi pc' (l0 :: l1 :: l2 :: l3 :: l4 :: l5 :: l6 :: l7 :: l8 :: l9 :: l10 :: l11 :: l12 :: some (.int (Int32.ofNat (x + n))) :: r) st h Q) : zW L mi pc (l0 :: l1 :: l2 :: l3 :: l4 :: l5 :: l6 :: l7 :: l8 :: l9 :: l10 :: l11 :: l12 :: some (.int (Int32.ofNat x)) :: r) st h Q := zx_ii13 hd (by rw [← Int32.ofNat_add]; exact w)
theorem zx_iid13 {l0 l1 l2 l3 l4 l5 l6 l7 l8 l9 l10 l11 l12 : Option Value} {x n : Nat} {h : zHp} (hd : zDi mi pc pc' 13 (-(Int32.ofNat n)) = true) (hs : n ≤ x) (w : zW L mi pc' (l0 :: l1 :: l2 :: l3 :: l4 :: l5 :: l6 :: l7 :: l8 :: l9 :: l10 :: l11 :: l12 :: some (.int (Int32.ofNat (x - n))) :: r) st h Q) : zW L mi pc (l0 :: l1 :: l2 :: l3 :: l4 :: l5 :: l6 :: l7 :: l8 :: l9 :: l10 :: l11 :: l12 :: some (.int (Int32.ofNat x)) :: r) st h Q := zx_ii13 hd (by rw [← Int32.sub_eq_add_neg, ← Int32.ofNat_sub _ _ hs]; exact w)
theorem zx_iin14 {l0 l1 l2 l3 l4 l5 l6 l7 l8 l9 l10 l11 l12 l13 : Option Value} {x n : Nat} {h : zHp} (hd : zDi mi pc pc' 14 (Int32.ofNat n) = true) (w : zW L mi pc' (l0 :: l1 :: l2 :: l3 :: l4 :: l5 :: l6 :: l7 :: l8 :: l9 :: l10 :: l11 :: l12 :: l13 :: some (.int (Int32.ofNat (x + n))) :: r) st h Q) : zW L mi pc (l0 :: l1 :: l2 :: l3 :: l4 :: l5 :: l6 :: l7 :: l8 :: l9 :: l10 :: l11 :: l12 :: l13 :: some (.int (Int32.ofNat x)) :: r) st h Q := zx_ii14 hd (by rw [← Int32.ofNat_add]; exact w)
theorem zx_iid14 {l0 l1 l2 l3 l4 l5 l6 l7 l8 l9 l10 l11 l12 l13 : Option Value} {x n : Nat} {h : zHp} (hd : zDi mi pc pc' 14 (-(Int32.ofNat n)) = true) (hs : n ≤ x) (w : zW L mi pc' (l0 :: l1 :: l2 :: l3 :: l4 :: l5 :: l6 :: l7 :: l8 :: l9 :: l10 :: l11 :: l12 :: l13 :: some (.int (Int32.ofNat (x - n))) :: r) st h Q) : zW L mi pc (l0 :: l1 :: l2 :: l3 :: l4 :: l5 :: l6 :: l7 :: l8 :: l9 :: l10 :: l11 :: l12 :: l13 :: some (.int (Int32.ofNat x)) :: r) st h Q := zx_ii14 hd (by rw [← Int32.sub_eq_add_neg, ← Int32.ofNat_sub _ _ hs]; exact w)
theorem zx_iin15 {l0 l1 l2 l3 l4 l5 l6 l7 l8 l9 l10 l11 l12 l13 l14 : Option Value} {x n : Nat} {h : zHp} (hd : zDi mi pc pc' 15 (Int32.ofNat n) = true) (w : zW L mi pc' (l0 :: l1 :: l2 :: l3 :: l4 :: l5 :: l6 :: l7 :: l8 :: l9 :: l10 :: l11 :: l12 :: l13 :: l14 :: some (.int (Int32.ofNat (x + n))) :: r) st h Q) : zW L mi pc (l0 :: l1 :: l2 :: l3 :: l4 :: l5 :: l6 :: l7 :: l8 :: l9 :: l10 :: l11 :: l12 :: l13 :: l14 :: some (.int (Int32.ofNat x)) :: r) st h Q := zx_ii15 hd (by rw [← Int32.ofNat_add]; exact w)
theorem zx_iid15 {l0 l1 l2 l3 l4 l5 l6 l7 l8 l9 l10 l11 l12 l13 l14 : Option Value} {x n : Nat} {h : zHp} (hd : zDi mi pc pc' 15 (-(Int32.ofNat n)) = true) (hs : n ≤ x) (w : zW L mi pc' (l0 :: l1 :: l2 :: l3 :: l4 :: l5 :: l6 :: l7 :: l8 :: l9 :: l10 :: l11 :: l12 :: l13 :: l14 :: some (.int (Int32.ofNat (x - n))) :: r) st h Q) : zW L mi pc (l0 :: l1 :: l2 :: l3 :: l4 :: l5 :: l6 :: l7 :: l8 :: l9 :: l10 :: l11 :: l12 :: l13 :: l14 :: some (.int (Int32.ofNat x)) :: r) st h Q := zx_ii15 hd (by rw [← Int32.sub_eq_add_neg, ← Int32.ofNat_sub _ _ hs]; exact w)
theorem zx_iin16 {l0 l1 l2 l3 l4 l5 l6 l7 l8 l9 l10 l11 l12 l13 l14 l15 : Option Value} {x n : Nat} {h : zHp} (hd : zDi mi pc pc' 16 (Int32.ofNat n) = true) (w : zW L mi pc' (l0 :: l1 :: l2 :: l3 :: l4 :: l5 :: l6 :: l7 :: l8 :: l9 :: l10 :: l11 :: l12 :: l13 :: l14 :: l15 :: some (.int (Int32.ofNat (x + n))) :: r) st h Q) : zW L mi pc (l0 :: l1 :: l2 :: l3 :: l4 :: l5 :: l6 :: l7 :: l8 :: l9 :: l10 :: l11 :: l12 :: l13 :: l14 :: l15 :: some (.int (Int32.ofNat x)) :: r) st h Q := zx_ii16 hd (by rw [← Int32.ofNat_add]; exact w)
theorem zx_iid16 {l0 l1 l2 l3 l4 l5 l6 l7 l8 l9 l10 l11 l12 l13 l14 l15 : Option Value} {x n : Nat} {h : zHp} (hd : zDi mi pc pc' 16 (-(Int32.ofNat n)) = true) (hs : n ≤ x) (w : zW L mi pc' (l0 :: l1 :: l2 :: l3 :: l4 :: l5 :: l6 :: l7 :: l8 :: l9 :: l10 :: l11 :: l12 :: l13 :: l14 :: l15 :: some (.int (Int32.ofNat (x - n))) :: r) st h Q) : zW L mi pc (l0 :: l1 :: l2 :: l3 :: l4 :: l5 :: l6 :: l7 :: l8 :: l9 :: l10 :: l11 :: l12 :: l13 :: l14 :: l15 :: some (.int (Int32.ofNat x)) :: r) st h Q := zx_ii16 hd (by rw [← Int32.sub_eq_add_neg, ← Int32.ofNat_sub _ _ hs]; exact w)
theorem zx_ialdN {n a k : Nat} (hd : zD mi pc .iaload 1 pc' = true) (hk : zk L (N, U, I, J, R) a = some (.inl (.int, n))) (hj : k < n ∧ k < 2147483648) (w : zW L mi pc' lv (.int (I a k) :: st) (N, U, I, J, R) Q) : zW L mi pc lv (.int (Int32.ofNat k) :: .ref a :: st) (N, U, I, J, R) Q := zx_iald hd hk (zn_nn hj.2) (by rw [zn_cl hj.2]; exact hj.1) (by rw [zn_cl hj.2]; exact w)
theorem zx_zaldN {n a k : Nat} (hd : zD mi pc .baload 1 pc' = true) (hk : zk L (N, U, I, J, R) a = some (.inl (.boolean, n))) (hj : k < n ∧ k < 2147483648) (w : zW L mi pc' lv (.int (I a k) :: st) (N, U, I, J, R) Q) : zW L mi pc lv (.int (Int32.ofNat k) :: .ref a :: st) (N, U, I, J, R) Q := zx_zald hd hk (zn_nn hj.2) (by rw [zn_cl hj.2]; exact hj.1) (by rw [zn_cl hj.2]; exact w)
theorem zx_laldN {n a k : Nat} (hd : zD mi pc .laload 1 pc' = true) (hk : zk L (N, U, I, J, R) a = some (.inl (.long, n))) (hj : k < n ∧ k < 2147483648) (w : zW L mi pc' lv (.long (J a k) :: st) (N, U, I, J, R) Q) : zW L mi pc lv (.int (Int32.ofNat k) :: .ref a :: st) (N, U, I, J, R) Q := zx_lald hd hk (zn_nn hj.2) (by rw [zn_cl hj.2]; exact hj.1) (by rw [zn_cl hj.2]; exact w)
theorem zx_aaldAN {n a k : Nat} {b : Nat} {t : FieldType} (hd : zD mi pc .aaload 1 pc' = true) (hk : zk L (N, U, I, J, R) a = some (.inl (.array t, n))) (hj : k < n ∧ k < 2147483648) (hr : R a k = some b) (w : zW L mi pc' lv (.ref b :: st) (N, U, I, J, R) Q) : zW L mi pc lv (.int (Int32.ofNat k) :: .ref a :: st) (N, U, I, J, R) Q := zx_aald hd hk (Or.inr ⟨_, rfl⟩) (zn_nn hj.2) (by rw [zn_cl hj.2]; exact hj.1) (by rw [zn_cl hj.2]; exact hr) w
theorem zx_aaldON {n a k : Nat} {b : Nat} {t : String} (hd : zD mi pc .aaload 1 pc' = true) (hk : zk L (N, U, I, J, R) a = some (.inl (.object t, n))) (hj : k < n ∧ k < 2147483648) (hr : R a k = some b) (w : zW L mi pc' lv (.ref b :: st) (N, U, I, J, R) Q) : zW L mi pc lv (.int (Int32.ofNat k) :: .ref a :: st) (N, U, I, J, R) Q := zx_aald hd hk (Or.inl ⟨_, rfl⟩) (zn_nn hj.2) (by rw [zn_cl hj.2]; exact hj.1) (by rw [zn_cl hj.2]; exact hr) w
theorem zx_iastN {n a k : Nat} {v : Int32} (hd : zD mi pc .iastore 1 pc' = true) (hk : zk L (N, U, I, J, R) a = some (.inl (.int, n))) (hj : k < n ∧ k < 2147483648) (ha : 3 ≤ a) (w : zW L mi pc' lv st (N, U, zu I a k v, J, R) Q) : zW L mi pc lv (.int v :: .int (Int32.ofNat k) :: .ref a :: st) (N, U, I, J, R) Q := zx_iast hd hk (zn_nn hj.2) (by rw [zn_cl hj.2]; exact hj.1) ha (by rw [zn_cl hj.2]; exact w)
theorem zx_zastN {n a k : Nat} {v : Int32} (hd : zD mi pc .bastore 1 pc' = true) (hk : zk L (N, U, I, J, R) a = some (.inl (.boolean, n))) (hj : k < n ∧ k < 2147483648) (ha : 3 ≤ a) (hv : v = 0 ∨ v = 1) (w : zW L mi pc' lv st (N, U, zu I a k v, J, R) Q) : zW L mi pc lv (.int v :: .int (Int32.ofNat k) :: .ref a :: st) (N, U, I, J, R) Q := zx_zast hd hk (zn_nn hj.2) (by rw [zn_cl hj.2]; exact hj.1) ha hv (by rw [zn_cl hj.2]; exact w)
theorem zx_lastN {n a k : Nat} {v : Int64} (hd : zD mi pc .lastore 1 pc' = true) (hk : zk L (N, U, I, J, R) a = some (.inl (.long, n))) (hj : k < n ∧ k < 2147483648) (ha : 3 ≤ a) (w : zW L mi pc' lv st (N, U, I, zu J a k v, R) Q) : zW L mi pc lv (.long v :: .int (Int32.ofNat k) :: .ref a :: st) (N, U, I, J, R) Q := zx_last hd hk (zn_nn hj.2) (by rw [zn_cl hj.2]; exact hj.1) ha (by rw [zn_cl hj.2]; exact w)
theorem zx_aastN {n a v ci k : Nat} (hd : zD mi pc .aastore 1 pc' = true) (hv : zk L (N, U, I, J, R) v = some (.inr ci)) (hk : zk L (N, U, I, J, R) a = some (.inl (.object (zcn ci), n))) (hj : k < n ∧ k < 2147483648) (ha : 3 ≤ a) (w : zW L mi pc' lv st (N, U, I, J, zu R a k (some v)) Q) : zW L mi pc lv (.ref v :: .int (Int32.ofNat k) :: .ref a :: st) (N, U, I, J, R) Q := zx_aast hd hv hk (zn_nn hj.2) (by rw [zn_cl hj.2]; exact hj.1) ha (by rw [zn_cl hj.2]; exact w)
/-! kinds -/
theorem zkk {a : Nat} {kd : zKd} {U : Nat} {I : zI} {J : zJ} {R : zR} (hK : zK L a = some kd) (ha : a < N) : zk L (N, U, I, J, R) a = some kd := by
  unfold zk; rw [if_pos ha]; exact hK
/-- release r stands at zB r -/
abbrev zB (r : Nat) : Nat := 8 + 37 * r
theorem zK_B {r c : Nat} (hr : r < 11) (hc : c < 37) : zK L (8 + 37 * r + c) = zK37 c := by
  unfold zK
  rw [if_neg (by omega), if_neg (by omega), if_pos (by omega)]
  congr 1; omega
theorem zK_B0 {r : Nat} (hr : r < 11) : zK L (8 + 37 * r) = some (.inr 2) := zK_B (c := 0) hr (by decide)
theorem zK_row {r q : Nat} (hr : r < 11) (hq : q < 15) : zK L (8 + 37 * r + 4 + q) = some (.inl (.int, 32)) := by
  rw [show 8 + 37 * r + 4 + q = 8 + 37 * r + (4 + q) by omega, zK_B hr (by omega)]
  unfold zK37
  rw [if_neg (by omega), if_pos (by omega), if_neg (by omega)]
theorem zK_file {r j : Nat} (hr : r < 11) (hj : j < 8) : zK L (8 + 37 * r + 21 + 2 * j) = some (.inr 4) := by
  rw [show 8 + 37 * r + 21 + 2 * j = 8 + 37 * r + (21 + 2 * j) by omega, zK_B hr (by omega)]
  unfold zK37
  rw [if_neg (by omega), if_neg (by omega), if_neg (by omega), if_pos (by omega)]
theorem zK_byte {r j : Nat} (hr : r < 11) (hj : j < 8) : zK L (8 + 37 * r + 22 + 2 * j) = some (.inl (.int, 64)) := by
  rw [show 8 + 37 * r + 22 + 2 * j = 8 + 37 * r + (22 + 2 * j) by omega, zK_B hr (by omega)]
  unfold zK37
  rw [if_neg (by omega), if_neg (by omega), if_neg (by omega), if_neg (by omega)]
theorem zK_list {k : Nat} (hk : k < 11) : zK L (416 + k) = some (.inl (.int, 32)) := by
  unfold zK
  rw [if_neg (by omega), if_neg (by omega), if_neg (by omega), if_pos (by omega), if_neg (by omega)]
theorem zK_top {a : Nat} (ha : 459 ≤ a) : zK L a = none := by
  unfold zK
  rw [if_neg (by omega), if_neg (by omega), if_neg (by omega), if_neg (by omega)]
  exact List.getElem?_eq_none (by show 32 ≤ a - 427; omega)
end ZXN
