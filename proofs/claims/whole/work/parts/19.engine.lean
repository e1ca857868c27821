/-! THE RULES OF THE LOGICAL MACHINE, an instruction each. zD..: what is fixed of an instruction (its kind, what it names, the next pc), read off the code. -/
def zD (mi pc : Nat) (i : Instr) (len pc' : Nat) : Bool := (decide (decode (zcd mi) pc = .ok (i, len)) && zlok i len) && decide (pc + len = pc')
/-- an int constant; a long one -/
def zDc (mi pc pc' : Nat) (v : Int32) : Bool := match decode (zcd mi) pc with
  | .ok (i, len) => (zlok i len && decide (pc + len = pc')) && (match zcst i with
    | some w => decide (w = .int v)
    | none => (match i with
      | .ldc k => decide (zkl (zoc mi) k = some v)
      | _ => false))
  | _ => false
def zDC (mi pc pc' : Nat) (v : Int64) : Bool := match decode (zcd mi) pc with
  | .ok (i, len) => (zlok i len && decide (pc + len = pc')) && (match zcst i with
    | some w => decide (w = .long v)
    | none => (match i with
      | .ldc2_w k => decide (zkL (zoc mi) k = some v)
      | _ => false))
  | _ => false
/-- iinc: local k, by c -/
def zDi (mi pc pc' k : Nat) (c : Int32) : Bool := match decode (zcd mi) pc with
  | .ok (.iinc j n, 3) => (decide (j = k) && decide (Int32.ofInt n = c)) && (decide (pc + 3 = pc') && !zlg mi)
  | _ => false
def zDj (mi pc tg : Nat) : Bool := match decode (zcd mi) pc with
  | .ok (.goto off, 3) => decide (0 ≤ (pc : Int) + off) && decide (zjmp pc off = tg)
  | _ => false
def zDf (mi pc : Nat) (c : ClassFile.Cond) (tg nx : Nat) : Bool := match decode (zcd mi) pc with
  | .ok (.ifCond d off, 3) => (decide (d = c) && decide (0 ≤ (pc : Int) + off)) && (decide (zjmp pc off = tg) && decide (pc + 3 = nx))
  | _ => false
def zDm (mi pc : Nat) (c : ClassFile.Cond) (tg nx : Nat) : Bool := match decode (zcd mi) pc with
  | .ok (.if_icmp d off, 3) => (decide (d = c) && decide (0 ≤ (pc : Int) + off)) && (decide (zjmp pc off = tg) && decide (pc + 3 = nx))
  | _ => false
/-- fields: class ci, place f, type t; a store may be of a final field in its constructor alone -/
def zDg (mi pc pc' ci f : Nat) (t : FieldType) : Bool := match decode (zcd mi) pc with
  | .ok (.getfield k, 3) => (decide (zfl (zoc mi) k = some (ci, f)) && decide (f < zfN ci)) && (decide (zft ci f = t) && decide (pc + 3 = pc'))
  | _ => false
def zDp (mi pc pc' ci f : Nat) (t : FieldType) : Bool := match decode (zcd mi) pc with
  | .ok (.putfield k, 3) => ((decide (zfl (zoc mi) k = some (ci, f)) && decide (f < zfN ci)) && (decide (zft ci f = t) && decide (pc + 3 = pc'))) && (!(zfT ci f).2.2.2 || decide (zoc mi = ci ∧ (zy mi).name = "<init>"))
  | _ => false
def zDs (mi pc pc' a : Nat) : Bool := match decode (zcd mi) pc with
  | .ok (.getstatic k, 3) => decide (zsl (zoc mi) k = some a) && decide (pc + 3 = pc')
  | _ => false
/-- calls: method mj; 0: virtual, 1: a constructor, 2: static -/
def zDk (mi pc pc' mj kd : Nat) : Bool := match decode (zcd mi) pc with
  | .ok (i, 3) => ((decide (zml (zoc mi) (match i with | .invokevirtual k => k | .invokespecial k => k | .invokestatic k => k | _ => 0) = some mj) && decide (pc + 3 = pc')) && (decide (zrk mj < zrk mi) && decide (8 + (zmx mj + 11) + zlo mj ≤ zlo mi))) && ((zat mj == decide (kd = 2)) && decide (mj < zNm) &&
    (match i with
      | .invokevirtual _ => decide (kd = 0) && !decide ((zy mj).name = "<init>")
      | .invokespecial k => (decide (kd = 1) && decide ((zy mj).name = "<init>")) && !zob (zoc mi) k
      | .invokestatic k => (decide (kd = 2) && !zac (zoc mi) k) && !zmn (zoc mi) k
      | _ => false))
  | _ => false
/-- Object.<init>; arraycopy; min -/
def zDo (mi pc pc' : Nat) : Bool := match decode (zcd mi) pc with
  | .ok (.invokespecial k, 3) => (zob (zoc mi) k && decide (pc + 3 = pc')) && decide (1 ≤ zrk mi ∧ 20 ≤ zlo mi)
  | _ => false
def zDy (mi pc pc' : Nat) : Bool := match decode (zcd mi) pc with
  | .ok (.invokestatic k, 3) => (zac (zoc mi) k && decide (pc + 3 = pc')) && decide (1 ≤ zrk mi ∧ 26 ≤ zlo mi)
  | _ => false
def zDn (mi pc pc' : Nat) : Bool := match decode (zcd mi) pc with
  | .ok (.invokestatic k, 3) => (zmn (zoc mi) k && decide (pc + 3 = pc')) && (decide (1 ≤ zrk mi ∧ 21 ≤ zlo mi) && !zac (zoc mi) k)
  | _ => false
/-- makers -/
def zDw (mi pc pc' ci : Nat) : Bool := match decode (zcd mi) pc with
  | .ok (.new k, 3) => decide (zcl (zoc mi) k = some (.inl ci)) && decide (pc + 3 = pc')
  | _ => false
def zDa (mi pc pc' : Nat) (C : String) : Bool := match decode (zcd mi) pc with
  | .ok (.anewarray k, 3) => decide (zal (zoc mi) k = some C) && decide (pc + 3 = pc')
  | _ => false
def zDu (mi pc pc' : Nat) : Bool := match decode (zcd mi) pc with
  | .ok (.multianewarray k 2, 4) => zmu (zoc mi) k && decide (pc + 4 = pc')
  | _ => false
/-- a throw: new, dup, ldc, invokespecial, athrow -/
def zDx (mi pc x : Nat) : Bool := match decode (zcd mi) pc with
  | .ok (.new k, 3) => decide (zcl (zoc mi) k = some (.inr x)) && (match decode (zcd mi) (pc + 3), decode (zcd mi) (pc + 4), decode (zcd mi) (pc + 6), decode (zcd mi) (pc + 9) with
    | .ok (.dup, 1), .ok (.ldc is, 2), .ok (.invokespecial ic, 3), .ok (.athrow, 1) => (decide (zxl (zoc mi) ic = some x) && decide (zhd mi = [])) && (zxs (zoc mi) is && decide (6 ≤ zrk mi ∧ 90 ≤ zlo mi))
    | _, _, _, _ => false)
  | _ => false
section ZX
variable {L mi pc pc' : Nat} {lv : zLv} {st : List Value} {N U : Nat} {I : zI} {J : zJ} {R : zR} {Q : zOut → zHp → Prop} {r : zLv}
theorem zD_ok {i : Instr} {len : Nat} (h : zD mi pc i len pc' = true) : decode (zcd mi) pc = .ok (i, len) ∧ zlok i len = true ∧ pc + len = pc' := by
  unfold zD at h
  rw [Bool.and_eq_true, Bool.and_eq_true, decide_eq_true_eq, decide_eq_true_eq] at h
  exact ⟨h.1.1, h.1.2, h.2⟩
theorem zx_go {h h' : zHp} {i : Instr} {len : Nat} {lv' : zLv} {st' : List Value} (hd : zD mi pc i len pc' = true) (hs : zins L mi pc lv st h i len = some (.inl (pc + len, lv', st', h'))) (w : zW L mi pc' lv' st' h' Q) : zW L mi pc lv st h Q := by
  obtain ⟨h1, h2, h3⟩ := zD_ok hd
  refine (zw_next (pc' := pc + len) (lv' := lv') (st' := st') (h' := h') ?_).mpr (by rw [h3]; exact w)
  unfold zstep
  rw [h1]
  show (if zlok i len = true then _ else none) = _
  rw [if_pos h2]
  exact hs
/-- a step by decode alone -/
theorem zx_st {h h' : zHp} {i : Instr} {len : Nat} {lv' : zLv} {st' : List Value} (h1 : decode (zcd mi) pc = .ok (i, len)) (h2 : zlok i len = true) (hs : zins L mi pc lv st h i len = some (.inl (pc', lv', st', h'))) (w : zW L mi pc' lv' st' h' Q) : zW L mi pc lv st h Q := by
  refine (zw_next (pc' := pc') (lv' := lv') (st' := st') (h' := h') ?_).mpr w
  unfold zstep
  rw [h1]
  show (if zlok i len = true then _ else none) = _
  rw [if_pos h2]
  exact hs
theorem zx_c {v : Int32} (hd : zDc mi pc pc' v = true) {h : zHp} (w : zW L mi pc' lv (.int v :: st) h Q) : zW L mi pc lv st h Q := by
  unfold zDc at hd
  split at hd
  next i len h1 =>
    rw [Bool.and_eq_true, Bool.and_eq_true, decide_eq_true_eq] at hd
    obtain ⟨⟨h2, h3⟩, h4⟩ := hd
    subst h3
    split at h4
    next u hu =>
      rw [decide_eq_true_eq] at h4
      subst h4
      refine zx_st (pc' := pc + len) (st' := .int v :: st) h1 h2 ?_ w
      unfold zins; rw [hu]; rfl
    next hu =>
      split at h4
      next k =>
        rw [decide_eq_true_eq] at h4
        refine zx_st (pc' := pc + len) (st' := .int v :: st) h1 h2 ?_ w
        show zins2 L mi pc lv st h (.ldc k) len = _
        unfold zins2; dsimp only; rw [h4]; rfl
      next => cases h4
  next => cases hd
theorem zx_C {v : Int64} (hd : zDC mi pc pc' v = true) {h : zHp} (w : zW L mi pc' lv (.long v :: st) h Q) : zW L mi pc lv st h Q := by
  unfold zDC at hd
  split at hd
  next i len h1 =>
    rw [Bool.and_eq_true, Bool.and_eq_true, decide_eq_true_eq] at hd
    obtain ⟨⟨h2, h3⟩, h4⟩ := hd
    subst h3
    split at h4
    next u hu =>
      rw [decide_eq_true_eq] at h4
      subst h4
      refine zx_st (pc' := pc + len) (st' := .long v :: st) h1 h2 ?_ w
      unfold zins; rw [hu]; rfl
    next hu =>
      split at h4
      next k =>
        rw [decide_eq_true_eq] at h4
        refine zx_st (pc' := pc + len) (st' := .long v :: st) h1 h2 ?_ w
        show zins2 L mi pc lv st h (.ldc2_w k) len = _
        unfold zins2; dsimp only; rw [h4]; rfl
      next => cases h4
  next => cases hd
theorem zx_il0 {x : Int32} {h : zHp} (hd : zD mi pc (.iload_n 0) 1 pc' = true) (w : zW L mi pc' (some (.int x) :: r) (.int x :: st) h Q) : zW L mi pc (some (.int x) :: r) st h Q := zx_go hd rfl w
theorem zx_al0 {x : Nat} {h : zHp} (hd : zD mi pc (.aload_n 0) 1 pc' = true) (w : zW L mi pc' (some (.ref x) :: r) (.ref x :: st) h Q) : zW L mi pc (some (.ref x) :: r) st h Q := zx_go hd rfl w
theorem zx_is0 {v : Option Value} {x : Int32} {h : zHp} (hd : zD mi pc (.istore_n 0) 1 pc' = true) (hg : zlg mi = false) (w : zW L mi pc' (some (.int x) :: r) st h Q) : zW L mi pc (v :: r) (.int x :: st) h Q := by
  refine zx_go hd ?_ w
  show (if (_ ∧ _) ∧ _ then _ else _) = _
  rw [if_pos ⟨⟨rfl, by show 0 < _; simp⟩, hg⟩]; rfl
theorem zx_as0 {v : Option Value} {x : Nat} {h : zHp} (hd : zD mi pc (.astore_n 0) 1 pc' = true) (hg : zlg mi = false) (w : zW L mi pc' (some (.ref x) :: r) st h Q) : zW L mi pc (v :: r) (.ref x :: st) h Q := by
  refine zx_go hd ?_ w
  show (if (_ ∧ _) ∧ _ then _ else _) = _
  rw [if_pos ⟨⟨rfl, by show 0 < _; simp⟩, hg⟩]; rfl
theorem zx_ii0 {x c : Int32} {h : zHp} (hd : zDi mi pc pc' 0 c = true) (w : zW L mi pc' (some (.int (x + c)) :: r) st h Q) : zW L mi pc (some (.int x) :: r) st h Q := by
  unfold zDi at hd
  split at hd
  next j n h1 =>
    rw [Bool.and_eq_true, Bool.and_eq_true, Bool.and_eq_true, decide_eq_true_eq, decide_eq_true_eq, decide_eq_true_eq, Bool.not_eq_true'] at hd
    obtain ⟨⟨rfl, rfl⟩, rfl, hg⟩ := hd
    refine zx_st h1 rfl ?_ w
    show (if zlg mi = true then none else _) = _
    rw [if_neg (by rw [hg]; decide)]; rfl
  next => cases hd
theorem zx_il1 {l0 : Option Value} {x : Int32} {h : zHp} (hd : zD mi pc (.iload_n 1) 1 pc' = true) (w : zW L mi pc' (l0 :: some (.int x) :: r) (.int x :: st) h Q) : zW L mi pc (l0 :: some (.int x) :: r) st h Q := zx_go hd rfl w
theorem zx_al1 {l0 : Option Value} {x : Nat} {h : zHp} (hd : zD mi pc (.aload_n 1) 1 pc' = true) (w : zW L mi pc' (l0 :: some (.ref x) :: r) (.ref x :: st) h Q) : zW L mi pc (l0 :: some (.ref x) :: r) st h Q := zx_go hd rfl w
theorem zx_is1 {l0 : Option Value} {v : Option Value} {x : Int32} {h : zHp} (hd : zD mi pc (.istore_n 1) 1 pc' = true) (hg : zlg mi = false) (w : zW L mi pc' (l0 :: some (.int x) :: r) st h Q) : zW L mi pc (l0 :: v :: r) (.int x :: st) h Q := by
  refine zx_go hd ?_ w
  show (if (_ ∧ _) ∧ _ then _ else _) = _
  rw [if_pos ⟨⟨rfl, by show 1 < _; simp⟩, hg⟩]; rfl
theorem zx_as1 {l0 : Option Value} {v : Option Value} {x : Nat} {h : zHp} (hd : zD mi pc (.astore_n 1) 1 pc' = true) (hg : zlg mi = false) (w : zW L mi pc' (l0 :: some (.ref x) :: r) st h Q) : zW L mi pc (l0 :: v :: r) (.ref x :: st) h Q := by
  refine zx_go hd ?_ w
  show (if (_ ∧ _) ∧ _ then _ else _) = _
  rw [if_pos ⟨⟨rfl, by show 1 < _; simp⟩, hg⟩]; rfl
theorem zx_ii1 {l0 : Option Value} {x c : Int32} {h : zHp} (hd : zDi mi pc pc' 1 c = true) (w : zW L mi pc' (l0 :: some (.int (x + c)) :: r) st h Q) : zW L mi pc (l0 :: some (.int x) :: r) st h Q := by
  unfold zDi at hd
  split at hd
  next j n h1 =>
    rw [Bool.and_eq_true, Bool.and_eq_true, Bool.and_eq_true, decide_eq_true_eq, decide_eq_true_eq, decide_eq_true_eq, Bool.not_eq_true'] at hd
    obtain ⟨⟨rfl, rfl⟩, rfl, hg⟩ := hd
    refine zx_st h1 rfl ?_ w
    show (if zlg mi = true then none else _) = _
    rw [if_neg (by rw [hg]; decide)]; rfl
  next => cases hd
theorem zx_il2 {l0 l1 : Option Value} {x : Int32} {h : zHp} (hd : zD mi pc (.iload_n 2) 1 pc' = true) (w : zW L mi pc' (l0 :: l1 :: some (.int x) :: r) (.int x :: st) h Q) : zW L mi pc (l0 :: l1 :: some (.int x) :: r) st h Q := zx_go hd rfl w
theorem zx_al2 {l0 l1 : Option Value} {x : Nat} {h : zHp} (hd : zD mi pc (.aload_n 2) 1 pc' = true) (w : zW L mi pc' (l0 :: l1 :: some (.ref x) :: r) (.ref x :: st) h Q) : zW L mi pc (l0 :: l1 :: some (.ref x) :: r) st h Q := zx_go hd rfl w
theorem zx_is2 {l0 l1 : Option Value} {v : Option Value} {x : Int32} {h : zHp} (hd : zD mi pc (.istore_n 2) 1 pc' = true) (hg : zlg mi = false) (w : zW L mi pc' (l0 :: l1 :: some (.int x) :: r) st h Q) : zW L mi pc (l0 :: l1 :: v :: r) (.int x :: st) h Q := by
  refine zx_go hd ?_ w
  show (if (_ ∧ _) ∧ _ then _ else _) = _
  rw [if_pos ⟨⟨rfl, by show 2 < _; simp⟩, hg⟩]; rfl
theorem zx_as2 {l0 l1 : Option Value} {v : Option Value} {x : Nat} {h : zHp} (hd : zD mi pc (.astore_n 2) 1 pc' = true) (hg : zlg mi = false) (w : zW L mi pc' (l0 :: l1 :: some (.ref x) :: r) st h Q) : zW L mi pc (l0 :: l1 :: v :: r) (.ref x :: st) h Q := by
  refine zx_go hd ?_ w
  show (if (_ ∧ _) ∧ _ then _ else _) = _
  rw [if_pos ⟨⟨rfl, by show 2 < _; simp⟩, hg⟩]; rfl
theorem zx_ii2 {l0 l1 : Option Value} {x c : Int32} {h : zHp} (hd : zDi mi pc pc' 2 c = true) (w : zW L mi pc' (l0 :: l1 :: some (.int (x + c)) :: r) st h Q) : zW L mi pc (l0 :: l1 :: some (.int x) :: r) st h Q := by
  unfold zDi at hd
  split at hd
  next j n h1 =>
    rw [Bool.and_eq_true, Bool.and_eq_true, Bool.and_eq_true, decide_eq_true_eq, decide_eq_true_eq, decide_eq_true_eq, Bool.not_eq_true'] at hd
    obtain ⟨⟨rfl, rfl⟩, rfl, hg⟩ := hd
    refine zx_st h1 rfl ?_ w
    show (if zlg mi = true then none else _) = _
    rw [if_neg (by rw [hg]; decide)]; rfl
  next => cases hd
theorem zx_il3 {l0 l1 l2 : Option Value} {x : Int32} {h : zHp} (hd : zD mi pc (.iload_n 3) 1 pc' = true) (w : zW L mi pc' (l0 :: l1 :: l2 :: some (.int x) :: r) (.int x :: st) h Q) : zW L mi pc (l0 :: l1 :: l2 :: some (.int x) :: r) st h Q := zx_go hd rfl w
theorem zx_al3 {l0 l1 l2 : Option Value} {x : Nat} {h : zHp} (hd : zD mi pc (.aload_n 3) 1 pc' = true) (w : zW L mi pc' (l0 :: l1 :: l2 :: some (.ref x) :: r) (.ref x :: st) h Q) : zW L mi pc (l0 :: l1 :: l2 :: some (.ref x) :: r) st h Q := zx_go hd rfl w
theorem zx_is3 {l0 l1 l2 : Option Value} {v : Option Value} {x : Int32} {h : zHp} (hd : zD mi pc (.istore_n 3) 1 pc' = true) (hg : zlg mi = false) (w : zW L mi pc' (l0 :: l1 :: l2 :: some (.int x) :: r) st h Q) : zW L mi pc (l0 :: l1 :: l2 :: v :: r) (.int x :: st) h Q := by
  refine zx_go hd ?_ w
  show (if (_ ∧ _) ∧ _ then _ else _) = _
  rw [if_pos ⟨⟨rfl, by show 3 < _; simp⟩, hg⟩]; rfl
theorem zx_as3 {l0 l1 l2 : Option Value} {v : Option Value} {x : Nat} {h : zHp} (hd : zD mi pc (.astore_n 3) 1 pc' = true) (hg : zlg mi = false) (w : zW L mi pc' (l0 :: l1 :: l2 :: some (.ref x) :: r) st h Q) : zW L mi pc (l0 :: l1 :: l2 :: v :: r) (.ref x :: st) h Q := by
  refine zx_go hd ?_ w
  show (if (_ ∧ _) ∧ _ then _ else _) = _
  rw [if_pos ⟨⟨rfl, by show 3 < _; simp⟩, hg⟩]; rfl
theorem zx_ii3 {l0 l1 l2 : Option Value} {x c : Int32} {h : zHp} (hd : zDi mi pc pc' 3 c = true) (w : zW L mi pc' (l0 :: l1 :: l2 :: some (.int (x + c)) :: r) st h Q) : zW L mi pc (l0 :: l1 :: l2 :: some (.int x) :: r) st h Q := by
  unfold zDi at hd
  split at hd
  next j n h1 =>
    rw [Bool.and_eq_true, Bool.and_eq_true, Bool.and_eq_true, decide_eq_true_eq, decide_eq_true_eq, decide_eq_true_eq, Bool.not_eq_true'] at hd
    obtain ⟨⟨rfl, rfl⟩, rfl, hg⟩ := hd
    refine zx_st h1 rfl ?_ w
    show (if zlg mi = true then none else _) = _
    rw [if_neg (by rw [hg]; decide)]; rfl
  next => cases hd
theorem zx_il4 {l0 l1 l2 l3 : Option Value} {x : Int32} {h : zHp} (hd : zD mi pc (.iload 4) 2 pc' = true) (w : zW L mi pc' (l0 :: l1 :: l2 :: l3 :: some (.int x) :: r) (.int x :: st) h Q) : zW L mi pc (l0 :: l1 :: l2 :: l3 :: some (.int x) :: r) st h Q := zx_go hd rfl w
theorem zx_al4 {l0 l1 l2 l3 : Option Value} {x : Nat} {h : zHp} (hd : zD mi pc (.aload 4) 2 pc' = true) (w : zW L mi pc' (l0 :: l1 :: l2 :: l3 :: some (.ref x) :: r) (.ref x :: st) h Q) : zW L mi pc (l0 :: l1 :: l2 :: l3 :: some (.ref x) :: r) st h Q := zx_go hd rfl w
theorem zx_is4 {l0 l1 l2 l3 : Option Value} {v : Option Value} {x : Int32} {h : zHp} (hd : zD mi pc (.istore 4) 2 pc' = true) (hg : zlg mi = false) (w : zW L mi pc' (l0 :: l1 :: l2 :: l3 :: some (.int x) :: r) st h Q) : zW L mi pc (l0 :: l1 :: l2 :: l3 :: v :: r) (.int x :: st) h Q := by
  refine zx_go hd ?_ w
  show (if (_ ∧ _) ∧ _ then _ else _) = _
  rw [if_pos ⟨⟨rfl, by show 4 < _; simp⟩, hg⟩]; rfl
theorem zx_as4 {l0 l1 l2 l3 : Option Value} {v : Option Value} {x : Nat} {h : zHp} (hd : zD mi pc (.astore 4) 2 pc' = true) (hg : zlg mi = false) (w : zW L mi pc' (l0 :: l1 :: l2 :: l3 :: some (.ref x) :: r) st h Q) : zW L mi pc (l0 :: l1 :: l2 :: l3 :: v :: r) (.ref x :: st) h Q := by
  refine zx_go hd ?_ w
  show (if (_ ∧ _) ∧ _ then _ else _) = _
  rw [if_pos ⟨⟨rfl, by show 4 < _; simp⟩, hg⟩]; rfl
theorem zx_ii4 {l0 l1 l2 l3 : Option Value} {x c : Int32} {h : zHp} (hd : zDi mi pc pc' 4 c = true) (w : zW L mi pc' (l0 :: l1 :: l2 :: l3 :: some (.int (x + c)) :: r) st h Q) : zW L mi pc (l0 :: l1 :: l2 :: l3 :: some (.int x) :: r) st h Q := by
  unfold zDi at hd
  split at hd
  next j n h1 =>
    rw [Bool.and_eq_true, Bool.and_eq_true, Bool.and_eq_true, decide_eq_true_eq, decide_eq_true_eq, decide_eq_true_eq, Bool.not_eq_true'] at hd
    obtain ⟨⟨rfl, rfl⟩, rfl, hg⟩ := hd
    refine zx_st h1 rfl ?_ w
    show (if zlg mi = true then none else _) = _
    rw [if_neg (by rw [hg]; decide)]; rfl
  next => cases hd
theorem zx_il5 {l0 l1 l2 l3 l4 : Option Value} {x : Int32} {h : zHp} (hd : zD mi pc (.iload 5) 2 pc' = true) (w : zW L mi pc' (l0 :: l1 :: l2 :: l3 :: l4 :: some (.int x) :: r) (.int x :: st) h Q) : zW L mi pc (l0 :: l1 :: l2 :: l3 :: l4 :: some (.int x) :: r) st h Q := zx_go hd rfl w
theorem zx_al5 {l0 l1 l2 l3 l4 : Option Value} {x : Nat} {h : zHp} (hd : zD mi pc (.aload 5) 2 pc' = true) (w : zW L mi pc' (l0 :: l1 :: l2 :: l3 :: l4 :: some (.ref x) :: r) (.ref x :: st) h Q) : zW L mi pc (l0 :: l1 :: l2 :: l3 :: l4 :: some (.ref x) :: r) st h Q := zx_go hd rfl w
theorem zx_is5 {l0 l1 l2 l3 l4 : Option Value} {v : Option Value} {x : Int32} {h : zHp} (hd : zD mi pc (.istore 5) 2 pc' = true) (hg : zlg mi = false) (w : zW L mi pc' (l0 :: l1 :: l2 :: l3 :: l4 :: some (.int x) :: r) st h Q) : zW L mi pc (l0 :: l1 :: l2 :: l3 :: l4 :: v :: r) (.int x :: st) h Q := by
  refine zx_go hd ?_ w
  show (if (_ ∧ _) ∧ _ then _ else _) = _
  rw [if_pos ⟨⟨rfl, by show 5 < _; simp⟩, hg⟩]; rfl
theorem zx_as5 {l0 l1 l2 l3 l4 : Option Value} {v : Option Value} {x : Nat} {h : zHp} (hd : zD mi pc (.astore 5) 2 pc' = true) (hg : zlg mi = false) (w : zW L mi pc' (l0 :: l1 :: l2 :: l3 :: l4 :: some (.ref x) :: r) st h Q) : zW L mi pc (l0 :: l1 :: l2 :: l3 :: l4 :: v :: r) (.ref x :: st) h Q := by
  refine zx_go hd ?_ w
  show (if (_ ∧ _) ∧ _ then _ else _) = _
  rw [if_pos ⟨⟨rfl, by show 5 < _; simp⟩, hg⟩]; rfl
theorem zx_ii5 {l0 l1 l2 l3 l4 : Option Value} {x c : Int32} {h : zHp} (hd : zDi mi pc pc' 5 c = true) (w : zW L mi pc' (l0 :: l1 :: l2 :: l3 :: l4 :: some (.int (x + c)) :: r) st h Q) : zW L mi pc (l0 :: l1 :: l2 :: l3 :: l4 :: some (.int x) :: r) st h Q := by
  unfold zDi at hd
  split at hd
  next j n h1 =>
    rw [Bool.and_eq_true, Bool.and_eq_true, Bool.and_eq_true, decide_eq_true_eq, decide_eq_true_eq, decide_eq_true_eq, Bool.not_eq_true'] at hd
    obtain ⟨⟨rfl, rfl⟩, rfl, hg⟩ := hd
    refine zx_st h1 rfl ?_ w
    show (if zlg mi = true then none else _) = _
    rw [if_neg (by rw [hg]; decide)]; rfl
  next => cases hd
theorem zx_il6 {l0 l1 l2 l3 l4 l5 : Option Value} {x : Int32} {h : zHp} (hd : zD mi pc (.iload 6) 2 pc' = true) (w : zW L mi pc' (l0 :: l1 :: l2 :: l3 :: l4 :: l5 :: some (.int x) :: r) (.int x :: st) h Q) : zW L mi pc (l0 :: l1 :: l2 :: l3 :: l4 :: l5 :: some (.int x) :: r) st h Q := zx_go hd rfl w
theorem zx_al6 {l0 l1 l2 l3 l4 l5 : Option Value} {x : Nat} {h : zHp} (hd : zD mi pc (.aload 6) 2 pc' = true) (w : zW L mi pc' (l0 :: l1 :: l2 :: l3 :: l4 :: l5 :: some (.ref x) :: r) (.ref x :: st) h Q) : zW L mi pc (l0 :: l1 :: l2 :: l3 :: l4 :: l5 :: some (.ref x) :: r) st h Q := zx_go hd rfl w
theorem zx_is6 {l0 l1 l2 l3 l4 l5 : Option Value} {v : Option Value} {x : Int32} {h : zHp} (hd : zD mi pc (.istore 6) 2 pc' = true) (hg : zlg mi = false) (w : zW L mi pc' (l0 :: l1 :: l2 :: l3 :: l4 :: l5 :: some (.int x) :: r) st h Q) : zW L mi pc (l0 :: l1 :: l2 :: l3 :: l4 :: l5 :: v :: r) (.int x :: st) h Q := by
  refine zx_go hd ?_ w
  show (if (_ ∧ _) ∧ _ then _ else _) = _
  rw [if_pos ⟨⟨rfl, by show 6 < _; simp⟩, hg⟩]; rfl
theorem zx_as6 {l0 l1 l2 l3 l4 l5 : Option Value} {v : Option Value} {x : Nat} {h : zHp} (hd : zD mi pc (.astore 6) 2 pc' = true) (hg : zlg mi = false) (w : zW L mi pc' (l0 :: l1 :: l2 :: l3 :: l4 :: l5 :: some (.ref x) :: r) st h Q) : zW L mi pc (l0 :: l1 :: l2 :: l3 :: l4 :: l5 :: v :: r) (.ref x :: st) h Q := by
  refine zx_go hd ?_ w
  show (if (_ ∧ _) ∧ _ then _ else _) = _
  rw [if_pos ⟨⟨rfl, by show 6 < _; simp⟩, hg⟩]; rfl
theorem zx_ii6 {l0 l1 l2 l3 l4 l5 : Option Value} {x c : Int32} {h : zHp} (hd : zDi mi pc pc' 6 c = true) (w : zW L mi pc' (l0 :: l1 :: l2 :: l3 :: l4 :: l5 :: some (.int (x + c)) :: r) st h Q) : zW L mi pc (l0 :: l1 :: l2 :: l3 :: l4 :: l5 :: some (.int x) :: r) st h Q := by
  unfold zDi at hd
  split at hd
  next j n h1 =>
    rw [Bool.and_eq_true, Bool.and_eq_true, Bool.and_eq_true, decide_eq_true_eq, decide_eq_true_eq, decide_eq_true_eq, Bool.not_eq_true'] at hd
    obtain ⟨⟨rfl, rfl⟩, rfl, hg⟩ := hd
    refine zx_st h1 rfl ?_ w
    show (if zlg mi = true then none else _) = _
    rw [if_neg (by rw [hg]; decide)]; rfl
  next => cases hd
theorem zx_il7 {l0 l1 l2 l3 l4 l5 l6 : Option Value} {x : Int32} {h : zHp} (hd : zD mi pc (.iload 7) 2 pc' = true) (w : zW L mi pc' (l0 :: l1 :: l2 :: l3 :: l4 :: l5 :: l6 :: some (.int x) :: r) (.int x :: st) h Q) : zW L mi pc (l0 :: l1 :: l2 :: l3 :: l4 :: l5 :: l6 :: some (.int x) :: r) st h Q := zx_go hd rfl w
theorem zx_al7 {l0 l1 l2 l3 l4 l5 l6 : Option Value} {x : Nat} {h : zHp} (hd : zD mi pc (.aload 7) 2 pc' = true) (w : zW L mi pc' (l0 :: l1 :: l2 :: l3 :: l4 :: l5 :: l6 :: some (.ref x) :: r) (.ref x :: st) h Q) : zW L mi pc (l0 :: l1 :: l2 :: l3 :: l4 :: l5 :: l6 :: some (.ref x) :: r) st h Q := zx_go hd rfl w
theorem zx_is7 {l0 l1 l2 l3 l4 l5 l6 : Option Value} {v : Option Value} {x : Int32} {h : zHp} (hd : zD mi pc (.istore 7) 2 pc' = true) (hg : zlg mi = false) (w : zW L mi pc' (l0 :: l1 :: l2 :: l3 :: l4 :: l5 :: l6 :: some (.int x) :: r) st h Q) : zW L mi pc (l0 :: l1 :: l2 :: l3 :: l4 :: l5 :: l6 :: v :: r) (.int x :: st) h Q := by
  refine zx_go hd ?_ w
  show (if (_ ∧ _) ∧ _ then _ else _) = _
  rw [if_pos ⟨⟨rfl, by show 7 < _; simp⟩, hg⟩]; rfl
theorem zx_as7 {l0 l1 l2 l3 l4 l5 l6 : Option Value} {v : Option Value} {x : Nat} {h : zHp} (hd : zD mi pc (.astore 7) 2 pc' = true) (hg : zlg mi = false) (w : zW L mi pc' (l0 :: l1 :: l2 :: l3 :: l4 :: l5 :: l6 :: some (.ref x) :: r) st h Q) : zW L mi pc (l0 :: l1 :: l2 :: l3 :: l4 :: l5 :: l6 :: v :: r) (.ref x :: st) h Q := by
  refine zx_go hd ?_ w
  show (if (_ ∧ _) ∧ _ then _ else _) = _
  rw [if_pos ⟨⟨rfl, by show 7 < _; simp⟩, hg⟩]; rfl
theorem zx_ii7 {l0 l1 l2 l3 l4 l5 l6 : Option Value} {x c : Int32} {h : zHp} (hd : zDi mi pc pc' 7 c = true) (w : zW L mi pc' (l0 :: l1 :: l2 :: l3 :: l4 :: l5 :: l6 :: some (.int (x + c)) :: r) st h Q) : zW L mi pc (l0 :: l1 :: l2 :: l3 :: l4 :: l5 :: l6 :: some (.int x) :: r) st h Q := by
  unfold zDi at hd
  split at hd
  next j n h1 =>
    rw [Bool.and_eq_true, Bool.and_eq_true, Bool.and_eq_true, decide_eq_true_eq, decide_eq_true_eq, decide_eq_true_eq, Bool.not_eq_true'] at hd
    obtain ⟨⟨rfl, rfl⟩, rfl, hg⟩ := hd
    refine zx_st h1 rfl ?_ w
    show (if zlg mi = true then none else _) = _
    rw [if_neg (by rw [hg]; decide)]; rfl
  next => cases hd
theorem zx_il8 {l0 l1 l2 l3 l4 l5 l6 l7 : Option Value} {x : Int32} {h : zHp} (hd : zD mi pc (.iload 8) 2 pc' = true) (w : zW L mi pc' (l0 :: l1 :: l2 :: l3 :: l4 :: l5 :: l6 :: l7 :: some (.int x) :: r) (.int x :: st) h Q) : zW L mi pc (l0 :: l1 :: l2 :: l3 :: l4 :: l5 :: l6 :: l7 :: some (.int x) :: r) st h Q := zx_go hd rfl w
theorem zx_al8 {l0 l1 l2 l3 l4 l5 l6 l7 : Option Value} {x : Nat} {h : zHp} (hd : zD mi pc (.aload 8) 2 pc' = true) (w : zW L mi pc' (l0 :: l1 :: l2 :: l3 :: l4 :: l5 :: l6 :: l7 :: some (.ref x) :: r) (.ref x :: st) h Q) : zW L mi pc (l0 :: l1 :: l2 :: l3 :: l4 :: l5 :: l6 :: l7 :: some (.ref x) :: r) st h Q := zx_go hd rfl w
theorem zx_is8 {l0 l1 l2 l3 l4 l5 l6 l7 : Option Value} {v : Option Value} {x : Int32} {h : zHp} (hd : zD mi pc (.istore 8) 2 pc' = true) (hg : zlg mi = false) (w : zW L mi pc' (l0 :: l1 :: l2 :: l3 :: l4 :: l5 :: l6 :: l7 :: some (.int x) :: r) st h Q) : zW L mi pc (l0 :: l1 :: l2 :: l3 :: l4 :: l5 :: l6 :: l7 :: v :: r) (.int x :: st) h Q := by
  refine zx_go hd ?_ w
  show (if (_ ∧ _) ∧ _ then _ else _) = _
  rw [if_pos ⟨⟨rfl, by show 8 < _; simp⟩, hg⟩]; rfl
theorem zx_as8 {l0 l1 l2 l3 l4 l5 l6 l7 : Option Value} {v : Option Value} {x : Nat} {h : zHp} (hd : zD mi pc (.astore 8) 2 pc' = true) (hg : zlg mi = false) (w : zW L mi pc' (l0 :: l1 :: l2 :: l3 :: l4 :: l5 :: l6 :: l7 :: some (.ref x) :: r) st h Q) : zW L mi pc (l0 :: l1 :: l2 :: l3 :: l4 :: l5 :: l6 :: l7 :: v :: r) (.ref x :: st) h Q := by
  refine zx_go hd ?_ w
  show (if (_ ∧ _) ∧ _ then _ else _) = _
  rw [if_pos ⟨⟨rfl, by show 8 < _; simp⟩, hg⟩]; rfl
theorem zx_ii8 {l0 l1 l2 l3 l4 l5 l6 l7 : Option Value} {x c : Int32} {h : zHp} (hd : zDi mi pc pc' 8 c = true) (w : zW L mi pc' (l0 :: l1 :: l2 :: l3 :: l4 :: l5 :: l6 :: l7 :: some (.int (x + c)) :: r) st h Q) : zW L mi pc (l0 :: l1 :: l2 :: l3 :: l4 :: l5 :: l6 :: l7 :: some (.int x) :: r) st h Q := by
  unfold zDi at hd
  split at hd
  next j n h1 =>
    rw [Bool.and_eq_true, Bool.and_eq_true, Bool.and_eq_true, decide_eq_true_eq, decide_eq_true_eq, decide_eq_true_eq, Bool.not_eq_true'] at hd
    obtain ⟨⟨rfl, rfl⟩, rfl, hg⟩ := hd
    refine zx_st h1 rfl ?_ w
    show (if zlg mi = true then none else _) = _
    rw [if_neg (by rw [hg]; decide)]; rfl
  next => cases hd
theorem zx_il9 {l0 l1 l2 l3 l4 l5 l6 l7 l8 : Option Value} {x : Int32} {h : zHp} (hd : zD mi pc (.iload 9) 2 pc' = true) (w : zW L mi pc' (l0 :: l1 :: l2 :: l3 :: l4 :: l5 :: l6 :: l7 :: l8 :: some (.int x) :: r) (.int x :: st) h Q) : zW L mi pc (l0 :: l1 :: l2 :: l3 :: l4 :: l5 :: l6 :: l7 :: l8 :: some (.int x) :: r) st h Q := zx_go hd rfl w
theorem zx_al9 {l0 l1 l2 l3 l4 l5 l6 l7 l8 : Option Value} {x : Nat} {h : zHp} (hd : zD mi pc (.aload 9) 2 pc' = true) (w : zW L mi pc' (l0 :: l1 :: l2 :: l3 :: l4 :: l5 :: l6 :: l7 :: l8 :: some (.ref x) :: r) (.ref x :: st) h Q) : zW L mi pc (l0 :: l1 :: l2 :: l3 :: l4 :: l5 :: l6 :: l7 :: l8 :: some (.ref x) :: r) st h Q := zx_go hd rfl w
theorem zx_is9 {l0 l1 l2 l3 l4 l5 l6 l7 l8 : Option Value} {v : Option Value} {x : Int32} {h : zHp} (hd : zD mi pc (.istore 9) 2 pc' = true) (hg : zlg mi = false) (w : zW L mi pc' (l0 :: l1 :: l2 :: l3 :: l4 :: l5 :: l6 :: l7 :: l8 :: some (.int x) :: r) st h Q) : zW L mi pc (l0 :: l1 :: l2 :: l3 :: l4 :: l5 :: l6 :: l7 :: l8 :: v :: r) (.int x :: st) h Q := by
  refine zx_go hd ?_ w
  show (if (_ ∧ _) ∧ _ then _ else _) = _
  rw [if_pos ⟨⟨rfl, by show 9 < _; simp⟩, hg⟩]; rfl
theorem zx_as9 {l0 l1 l2 l3 l4 l5 l6 l7 l8 : Option Value} {v : Option Value} {x : Nat} {h : zHp} (hd : zD mi pc (.astore 9) 2 pc' = true) (hg : zlg mi = false) (w : zW L mi pc' (l0 :: l1 :: l2 :: l3 :: l4 :: l5 :: l6 :: l7 :: l8 :: some (.ref x) :: r) st h Q) : zW L mi pc (l0 :: l1 :: l2 :: l3 :: l4 :: l5 :: l6 :: l7 :: l8 :: v :: r) (.ref x :: st) h Q := by
  refine zx_go hd ?_ w
  show (if (_ ∧ _) ∧ _ then _ else _) = _
  rw [if_pos ⟨⟨rfl, by show 9 < _; simp⟩, hg⟩]; rfl
theorem zx_ii9 {l0 l1 l2 l3 l4 l5 l6 l7 l8 : Option Value} {x c : Int32} {h : zHp} (hd : zDi mi pc pc' 9 c = true) (w : zW L mi pc' (l0 :: l1 :: l2 :: l3 :: l4 :: l5 :: l6 :: l7 :: l8 :: some (.int (x + c)) :: r) st h Q) : zW L mi pc (l0 :: l1 :: l2 :: l3 :: l4 :: l5 :: l6 :: l7 :: l8 :: some (.int x) :: r) st h Q := by
  unfold zDi at hd
  split at hd
  next j n h1 =>
    rw [Bool.and_eq_true, Bool.and_eq_true, Bool.and_eq_true, decide_eq_true_eq, decide_eq_true_eq, decide_eq_true_eq, Bool.not_eq_true'] at hd
    obtain ⟨⟨rfl, rfl⟩, rfl, hg⟩ := hd
    refine zx_st h1 rfl ?_ w
    show (if zlg mi = true then none else _) = _
    rw [if_neg (by rw [hg]; decide)]; rfl
  next => cases hd
theorem zx_il10 {l0 l1 l2 l3 l4 l5 l6 l7 l8 l9 : Option Value} {x : Int32} {h : zHp} (hd : zD mi pc (.iload 10) 2 pc' = true) (w : zW L mi pc' (l0 :: l1 :: l2 :: l3 :: l4 :: l5 :: l6 :: l7 :: l8 :: l9 :: some (.int x) :: r) (.int x :: st) h Q) : zW L mi pc (l0 :: l1 :: l2 :: l3 :: l4 :: l5 :: l6 :: l7 :: l8 :: l9 :: some (.int x) :: r) st h Q := zx_go hd rfl w
theorem zx_al10 {l0 l1 l2 l3 l4 l5 l6 l7 l8 l9 : Option Value} {x : Nat} {h : zHp} (hd : zD mi pc (.aload 10) 2 pc' = true) (w : zW L mi pc' (l0 :: l1 :: l2 :: l3 :: l4 :: l5 :: l6 :: l7 :: l8 :: l9 :: some (.ref x) :: r) (.ref x :: st) h Q) : zW L mi pc (l0 :: l1 :: l2 :: l3 :: l4 :: l5 :: l6 :: l7 :: l8 :: l9 :: some (.ref x) :: r) st h Q := zx_go hd rfl w
theorem zx_is10 {l0 l1 l2 l3 l4 l5 l6 l7 l8 l9 : Option Value} {v : Option Value} {x : Int32} {h : zHp} (hd : zD mi pc (.istore 10) 2 pc' = true) (hg : zlg mi = false) (w : zW L mi pc' (l0 :: l1 :: l2 :: l3 :: l4 :: l5 :: l6 :: l7 :: l8 :: l9 :: some (.int x) :: r) st h Q) : zW L mi pc (l0 :: l1 :: l2 :: l3 :: l4 :: l5 :: l6 :: l7 :: l8 :: l9 :: v :: r) (.int x :: st) h Q := by
  refine zx_go hd ?_ w
  show (if (_ ∧ _) ∧ _ then _ else _) = _
  rw [if_pos ⟨⟨rfl, by show 10 < _; simp⟩, hg⟩]; rfl
theorem zx_as10 {l0 l1 l2 l3 l4 l5 l6 l7 l8 l9 : Option Value} {v : Option Value} {x : Nat} {h : zHp} (hd : zD mi pc (.astore 10) 2 pc' = true) (hg : zlg mi = false) (w : zW L mi pc' (l0 :: l1 :: l2 :: l3 :: l4 :: l5 :: l6 :: l7 :: l8 :: l9 :: some (.ref x) :: r) st h Q) : zW L mi pc (l0 :: l1 :: l2 :: l3 :: l4 :: l5 :: l6 :: l7 :: l8 :: l9 :: v :: r) (.ref x :: st) h Q := by
  refine zx_go hd ?_ w
  show (if (_ ∧ _) ∧ _ then _ else _) = _
  rw [if_pos ⟨⟨rfl, by show 10 < _; simp⟩, hg⟩]; rfl
theorem zx_ii10 {l0 l1 l2 l3 l4 l5 l6 l7 l8 l9 : Option Value} {x c : Int32} {h : zHp} (hd : zDi mi pc pc' 10 c = true) (w : zW L mi pc' (l0 :: l1 :: l2 :: l3 :: l4 :: l5 :: l6 :: l7 :: l8 :: l9 :: some (.int (x + c)) :: r) st h Q) : zW L mi pc (l0 :: l1 :: l2 :: l3 :: l4 :: l5 :: l6 :: l7 :: l8 :: l9 :: some (.int x) :: r) st h Q := by
  unfold zDi at hd
  split at hd
  next j n h1 =>
    rw [Bool.and_eq_true, Bool.and_eq_true, Bool.and_eq_true, decide_eq_true_eq, decide_eq_true_eq, decide_eq_true_eq, Bool.not_eq_true'] at hd
    obtain ⟨⟨rfl, rfl⟩, rfl, hg⟩ := hd
    refine zx_st h1 rfl ?_ w
    show (if zlg mi = true then none else _) = _
    rw [if_neg (by rw [hg]; decide)]; rfl
  next => cases hd
theorem zx_il11 {l0 l1 l2 l3 l4 l5 l6 l7 l8 l9 l10 : Option Value} {x : Int32} {h : zHp} (hd : zD mi pc (.iload 11) 2 pc' = true) (w : zW L mi pc' (l0 :: l1 :: l2 :: l3 :: l4 :: l5 :: l6 :: l7 :: l8 :: l9 :: l10 :: some (.int x) :: r) (.int x :: st) h Q) : zW L mi pc (l0 :: l1 :: l2 :: l3 :: l4 :: l5 :: l6 :: l7 :: l8 :: l9 :: l10 :: some (.int x) :: r) st h Q := zx_go hd rfl w
theorem zx_al11 {l0 l1 l2 l3 l4 l5 l6 l7 l8 l9 l10 : Option Value} {x : Nat} {h : zHp} (hd : zD mi pc (.aload 11) 2 pc' = true) (w : zW L mi pc' (l0 :: l1 :: l2 :: l3 :: l4 :: l5 :: l6 :: l7 :: l8 :: l9 :: l10 :: some (.ref x) :: r) (.ref x :: st) h Q) : zW L mi pc (l0 :: l1 :: l2 :: l3 :: l4 :: l5 :: l6 :: l7 :: l8 :: l9 :: l10 :: some (.ref x) :: r) st h Q := zx_go hd rfl w
theorem zx_is11 {l0 l1 l2 l3 l4 l5 l6 l7 l8 l9 l10 : Option Value} {v : Option Value} {x : Int32} {h : zHp} (hd : zD mi pc (.istore 11) 2 pc' = true) (hg : zlg mi = false) (w : zW L mi pc' (l0 :: l1 :: l2 :: l3 :: l4 :: l5 :: l6 :: l7 :: l8 :: l9 :: l10 :: some (.int x) :: r) st h Q) : zW L mi pc (l0 :: l1 :: l2 :: l3 :: l4 :: l5 :: l6 :: l7 :: l8 :: l9 :: l10 :: v :: r) (.int x :: st) h Q := by
  refine zx_go hd ?_ w
  show (if (_ ∧ _) ∧ _ then _ else _) = _
  rw [if_pos ⟨⟨rfl, by show 11 < _; simp⟩, hg⟩]; rfl
theorem zx_as11 {l0 l1 l2 l3 l4 l5 l6 l7 l8 l9 l10 : Option Value} {v : Option Value} {x : Nat} {h : zHp} (hd : zD mi pc (.astore 11) 2 pc' = true) (hg : zlg mi = false) (w : zW L mi pc' (l0 :: l1 :: l2 :: l3 :: l4 :: l5 :: l6 :: l7 :: l8 :: l9 :: l10 :: some (.ref x) :: r) st h Q) : zW L mi pc (l0 :: l1 :: l2 :: l3 :: l4 :: l5 :: l6 :: l7 :: l8 :: l9 :: l10 :: v :: r) (.ref x :: st) h Q := by
  refine zx_go hd ?_ w
  show (if (_ ∧ _) ∧ _ then _ else _) = _
  rw [if_pos ⟨⟨rfl, by show 11 < _; simp⟩, hg⟩]; rfl
theorem zx_ii11 {l0 l1 l2 l3 l4 l5 l6 l7 l8 l9 l10 : Option Value} {x c : Int32} {h : zHp} (hd : zDi mi pc pc' 11 c = true) (w : zW L mi pc' (l0 :: l1 :: l2 :: l3 :: l4 :: l5 :: l6 :: l7 :: l8 :: l9 :: l10 :: some (.int (x + c)) :: r) st h Q) : zW L mi pc (l0 :: l1 :: l2 :: l3 :: l4 :: l5 :: l6 :: l7 :: l8 :: l9 :: l10 :: some (.int x) :: r) st h Q := by
  unfold zDi at hd
  split at hd
  next j n h1 =>
    rw [Bool.and_eq_true, Bool.and_eq_true, Bool.and_eq_true, decide_eq_true_eq, decide_eq_true_eq, decide_eq_true_eq, Bool.not_eq_true'] at hd
    obtain ⟨⟨rfl, rfl⟩, rfl, hg⟩ := hd
    refine zx_st h1 rfl ?_ w
    show (if zlg mi = true then none else _) = _
    rw [if_neg (by rw [hg]; decide)]; rfl
  next => cases hd
theorem zx_il12 {l0 l1 l2 l3 l4 l5 l6 l7 l8 l9 l10 l11 : Option Value} {x : Int32} {h : zHp} (hd : zD mi pc (.iload 12) 2 pc' = true) (w : zW L mi pc' (l0 :: l1 :: l2 :: l3 :: l4 :: l5 :: l6 :: l7 :: l8 :: l9 :: l10 :: l11 :: some (.int x) :: r) (.int x :: st) h Q) : zW L mi pc (l0 :: l1 :: l2 :: l3 :: l4 :: l5 :: l6 :: l7 :: l8 :: l9 :: l10 :: l11 :: some (.int x) :: r) st h Q := zx_go hd rfl w
theorem zx_al12 {l0 l1 l2 l3 l4 l5 l6 l7 l8 l9 l10 l11 : Option Value} {x : Nat} {h : zHp} (hd : zD mi pc (.aload 12) 2 pc' = true) (w : zW L mi pc' (l0 :: l1 :: l2 :: l3 :: l4 :: l5 :: l6 :: l7 :: l8 :: l9 :: l10 :: l11 :: some (.ref x) :: r) (.ref x :: st) h Q) : zW L mi pc (l0 :: l1 :: l2 :: l3 :: l4 :: l5 :: l6 :: l7 :: l8 :: l9 :: l10 :: l11 :: some (.ref x) :: r) st h Q := zx_go hd rfl w
theorem zx_is12 {l0 l1 l2 l3 l4 l5 l6 l7 l8 l9 l10 l11 : Option Value} {v : Option Value} {x : Int32} {h : zHp} (hd : zD mi pc (.istore 12) 2 pc' = true) (hg : zlg mi = false) (w : zW L mi pc' (l0 :: l1 :: l2 :: l3 :: l4 :: l5 :: l6 :: l7 :: l8 :: l9 :: l10 :: l11 :: some (.int x) :: r) st h Q) : zW L mi pc (l0 :: l1 :: l2 :: l3 :: l4 :: l5 :: l6 :: l7 :: l8 :: l9 :: l10 :: l11 :: v :: r) (.int x :: st) h Q := by
  refine zx_go hd ?_ w
  show (if (_ ∧ _) ∧ _ then _ else _) = _
  rw [if_pos ⟨⟨rfl, by show 12 < _; simp⟩, hg⟩]; rfl
theorem zx_as12 {l0 l1 l2 l3 l4 l5 l6 l7 l8 l9 l10 l11 : Option Value} {v : Option Value} {x : Nat} {h : zHp} (hd : zD mi pc (.astore 12) 2 pc' = true) (hg : zlg mi = false) (w : zW L mi pc' (l0 :: l1 :: l2 :: l3 :: l4 :: l5 :: l6 :: l7 :: l8 :: l9 :: l10 :: l11 :: some (.ref x) :: r) st h Q) : zW L mi pc (l0 :: l1 :: l2 :: l3 :: l4 :: l5 :: l6 :: l7 :: l8 :: l9 :: l10 :: l11 :: v :: r) (.ref x :: st) h Q := by
  refine zx_go hd ?_ w
  show (if (_ ∧ _) ∧ _ then _ else _) = _
  rw [if_pos ⟨⟨rfl, by show 12 < _; simp⟩, hg⟩]; rfl
theorem zx_ii12 {l0 l1 l2 l3 l4 l5 l6 l7 l8 l9 l10 l11 : Option Value} {x c : Int32} {h : zHp} (hd : zDi mi pc pc' 12 c = true) (w : zW L mi pc' (l0 :: l1 :: l2 :: l3 :: l4 :: l5 :: l6 :: l7 :: l8 :: l9 :: l10 :: l11 :: some (.int (x + c)) :: r) st h Q) : zW L mi pc (l0 :: l1 :: l2 :: l3 :: l4 :: l5 :: l6 :: l7 :: l8 :: l9 :: l10 :: l11 :: some (.int x) :: r) st h Q := by
  unfold zDi at hd
  split at hd
  next j n h1 =>
    rw [Bool.and_eq_true, Bool.and_eq_true, Bool.and_eq_true, decide_eq_true_eq, decide_eq_true_eq, decide_eq_true_eq, Bool.not_eq_true'] at hd
    obtain ⟨⟨rfl, rfl⟩, rfl, hg⟩ := hd
    refine zx_st h1 rfl ?_ w
    show (if zlg mi = true then none else _) = _
    rw [if_neg (by rw [hg]; decide)]; rfl
  next => cases hd
theorem zx_il13 {l0 l1 l2 l3 l4 l5 l6 l7 l8 l9 l10 l11 l12 : Option Value} {x : Int32} {h : zHp} (hd : zD mi pc (.iload 13) 2 pc' = true) (w : zW L mi pc' (l0 :: l1 :: l2 :: l3 :: l4 :: l5 :: l6 :: l7 :: l8 :: l9 :: l10 :: l11 :: l12 :: some (.int x) :: r) (.int x :: st) h Q) : zW L mi pc (l0 :: l1 :: l2 :: l3 :: l4 :: l5 :: l6 :: l7 :: l8 :: l9 :: l10 :: l11 :: l12 :: some (.int x) :: r) st h Q := zx_go hd rfl w
theorem zx_al13 {l0 l1 l2 l3 l4 l5 l6 l7 l8 l9 l10 l11 l12 : Option Value} {x : Nat} {h : zHp} (hd : zD mi pc (.aload 13) 2 pc' = true) (w : zW L mi pc' (l0 :: l1 :: l2 :: l3 :: l4 :: l5 :: l6 :: l7 :: l8 :: l9 :: l10 :: l11 :: l12 :: some (.ref x) :: r) (.ref x :: st) h Q) : zW L mi pc (l0 :: l1 :: l2 :: l3 :: l4 :: l5 :: l6 :: l7 :: l8 :: l9 :: l10 :: l11 :: l12 :: some (.ref x) :: r) st h Q := zx_go hd rfl w
theorem zx_is13 {l0 l1 l2 l3 l4 l5 l6 l7 l8 l9 l10 l11 l12 : Option Value} {v : Option Value} {x : Int32} {h : zHp} (hd : zD mi pc (.istore 13) 2 pc' = true) (hg : zlg mi = false) (w : zW L mi pc' (l0 :: l1 :: l2 :: l3 :: l4 :: l5 :: l6 :: l7 :: l8 :: l9 :: l10 :: l11 :: l12 :: some (.int x) :: r) st h Q) : zW L mi pc (l0 :: l1 :: l2 :: l3 :: l4 :: l5 :: l6 :: l7 :: l8 :: l9 :: l10 :: l11 :: l12 :: v :: r) (.int x :: st) h Q := by
  refine zx_go hd ?_ w
  show (if (_ ∧ _) ∧ _ then _ else _) = _
  rw [if_pos ⟨⟨rfl, by show 13 < _; simp⟩, hg⟩]; rfl
theorem zx_as13 {l0 l1 l2 l3 l4 l5 l6 l7 l8 l9 l10 l11 l12 : Option Value} {v : Option Value} {x : Nat} {h : zHp} (hd : zD mi pc (.astore 13) 2 pc' = true) (hg : zlg mi = false) (w : zW L mi pc' (l0 :: l1 :: l2 :: l3 :: l4 :: l5 :: l6 :: l7 :: l8 :: l9 :: l10 :: l11 :: l12 :: some (.ref x) :: r) st h Q) : zW L mi pc (l0 :: l1 :: l2 :: l3 :: l4 :: l5 :: l6 :: l7 :: l8 :: l9 :: l10 :: l11 :: l12 :: v :: r) (.ref x :: st) h Q := by
  refine zx_go hd ?_ w
  show (if (_ ∧ _) ∧ _ then _ else _) = _
  rw [if_pos ⟨⟨rfl, by show 13 < _; simp⟩, hg⟩]; rfl
theorem zx_ii13 {l0 l1 l2 l3 l4 l5 l6 l7 l8 l9 l10 l11 l12 : Option Value} {x c : Int32} {h : zHp} (hd : zDi mi pc pc' 13 c = true) (w : zW L mi pc' (l0 :: l1 :: l2 :: l3 :: l4 :: l5 :: l6 :: l7 :: l8 :: l9 :: l10 :: l11 :: l12 :: some (.int (x + c)) :: r) st h Q) : zW L mi pc (l0 :: l1 :: l2 :: l3 :: l4 :: l5 :: l6 :: l7 :: l8 :: l9 :: l10 :: l11 :: l12 :: some (.int x) :: r) st h Q := by
  unfold zDi at hd
  split at hd
  next j n h1 =>
    rw [Bool.and_eq_true, Bool.and_eq_true, Bool.and_eq_true, decide_eq_true_eq, decide_eq_true_eq, decide_eq_true_eq, Bool.not_eq_true'] at hd
    obtain ⟨⟨rfl, rfl⟩, rfl, hg⟩ := hd
    refine zx_st h1 rfl ?_ w
    show (if zlg mi = true then none else _) = _
    rw [if_neg (by rw [hg]; decide)]; rfl
  next => cases hd
theorem zx_il14 {l0 l1 l2 l3 l4 l5 l6 l7 l8 l9 l10 l11 l12 l13 : Option Value} {x : Int32} {h : zHp} (hd : zD mi pc (.iload 14) 2 pc' = true) (w : zW L mi pc' (l0 :: l1 :: l2 :: l3 :: l4 :: l5 :: l6 :: l7 :: l8 :: l9 :: l10 :: l11 :: l12 :: l13 :: some (.int x) :: r) (.int x :: st) h Q) : zW L mi pc (l0 :: l1 :: l2 :: l3 :: l4 :: l5 :: l6 :: l7 :: l8 :: l9 :: l10 :: l11 :: l12 :: l13 :: some (.int x) :: r) st h Q := zx_go hd rfl w
theorem zx_al14 {l0 l1 l2 l3 l4 l5 l6 l7 l8 l9 l10 l11 l12 l13 : Option Value} {x : Nat} {h : zHp} (hd : zD mi pc (.aload 14) 2 pc' = true) (w : zW L mi pc' (l0 :: l1 :: l2 :: l3 :: l4 :: l5 :: l6 :: l7 :: l8 :: l9 :: l10 :: l11 :: l12 :: l13 :: some (.ref x) :: r) (.ref x :: st) h Q) : zW L mi pc (l0 :: l1 :: l2 :: l3 :: l4 :: l5 :: l6 :: l7 :: l8 :: l9 :: l10 :: l11 :: l12 :: l13 :: some (.ref x) :: r) st h Q := zx_go hd rfl w
theorem zx_is14 {l0 l1 l2 l3 l4 l5 l6 l7 l8 l9 l10 l11 l12 l13 : Option Value} {v : Option Value} {x : Int32} {h : zHp} (hd : zD mi pc (.istore 14) 2 pc' = true) (hg : zlg mi = false) (w : zW L mi pc' (l0 :: l1 :: l2 :: l3 :: l4 :: l5 :: l6 :: l7 :: l8 :: l9 :: l10 :: l11 :: l12 :: l13 :: some (.int x) :: r) st h Q) : zW L mi pc (l0 :: l1 :: l2 :: l3 :: l4 :: l5 :: l6 :: l7 :: l8 :: l9 :: l10 :: l11 :: l12 :: l13 :: v :: r) (.int x :: st) h Q := by
  refine zx_go hd ?_ w
  show (if (_ ∧ _) ∧ _ then _ else _) = _
  rw [if_pos ⟨⟨rfl, by show 14 < _; simp⟩, hg⟩]; rfl
theorem zx_as14 {l0 l1 l2 l3 l4 l5 l6 l7 l8 l9 l10 l11 l12 l13 : Option Value} {v : Option Value} {x : Nat} {h : zHp} (hd : zD mi pc (.astore 14) 2 pc' = true) (hg : zlg mi = false) (w : zW L mi pc' (l0 :: l1 :: l2 :: l3 :: l4 :: l5 :: l6 :: l7 :: l8 :: l9 :: l10 :: l11 :: l12 :: l13 :: some (.ref x) :: r) st h Q) : zW L mi pc (l0 :: l1 :: l2 :: l3 :: l4 :: l5 :: l6 :: l7 :: l8 :: l9 :: l10 :: l11 :: l12 :: l13 :: v :: r) (.ref x :: st) h Q := by
  refine zx_go hd ?_ w
  show (if (_ ∧ _) ∧ _ then _ else _) = _
  rw [if_pos ⟨⟨rfl, by show 14 < _; simp⟩, hg⟩]; rfl
theorem zx_ii14 {l0 l1 l2 l3 l4 l5 l6 l7 l8 l9 l10 l11 l12 l13 : Option Value} {x c : Int32} {h : zHp} (hd : zDi mi pc pc' 14 c = true) (w : zW L mi pc' (l0 :: l1 :: l2 :: l3 :: l4 :: l5 :: l6 :: l7 :: l8 :: l9 :: l10 :: l11 :: l12 :: l13 :: some (.int (x + c)) :: r) st h Q) : zW L mi pc (l0 :: l1 :: l2 :: l3 :: l4 :: l5 :: l6 :: l7 :: l8 :: l9 :: l10 :: l11 :: l12 :: l13 :: some (.int x) :: r) st h Q := by
  unfold zDi at hd
  split at hd
  next j n h1 =>
    rw [Bool.and_eq_true, Bool.and_eq_true, Bool.and_eq_true, decide_eq_true_eq, decide_eq_true_eq, decide_eq_true_eq, Bool.not_eq_true'] at hd
    obtain ⟨⟨rfl, rfl⟩, rfl, hg⟩ := hd
    refine zx_st h1 rfl ?_ w
    show (if zlg mi = true then none else _) = _
    rw [if_neg (by rw [hg]; decide)]; rfl
  next => cases hd
theorem zx_il15 {l0 l1 l2 l3 l4 l5 l6 l7 l8 l9 l10 l11 l12 l13 l14 : Option Value} {x : Int32} {h : zHp} (hd : zD mi pc (.iload 15) 2 pc' = true) (w : zW L mi pc' (l0 :: l1 :: l2 :: l3 :: l4 :: l5 :: l6 :: l7 :: l8 :: l9 :: l10 :: l11 :: l12 :: l13 :: l14 :: some (.int x) :: r) (.int x :: st) h Q) : zW L mi pc (l0 :: l1 :: l2 :: l3 :: l4 :: l5 :: l6 :: l7 :: l8 :: l9 :: l10 :: l11 :: l12 :: l13 :: l14 :: some (.int x) :: r) st h Q := zx_go hd rfl w
theorem zx_al15 {l0 l1 l2 l3 l4 l5 l6 l7 l8 l9 l10 l11 l12 l13 l14 : Option Value} {x : Nat} {h : zHp} (hd : zD mi pc (.aload 15) 2 pc' = true) (w : zW L mi pc' (l0 :: l1 :: l2 :: l3 :: l4 :: l5 :: l6 :: l7 :: l8 :: l9 :: l10 :: l11 :: l12 :: l13 :: l14 :: some (.ref x) :: r) (.ref x :: st) h Q) : zW L mi pc (l0 :: l1 :: l2 :: l3 :: l4 :: l5 :: l6 :: l7 :: l8 :: l9 :: l10 :: l11 :: l12 :: l13 :: l14 :: some (.ref x) :: r) st h Q := zx_go hd rfl w
theorem zx_is15 {l0 l1 l2 l3 l4 l5 l6 l7 l8 l9 l10 l11 l12 l13 l14 : Option Value} {v : Option Value} {x : Int32} {h : zHp} (hd : zD mi pc (.istore 15) 2 pc' = true) (hg : zlg mi = false) (w : zW L mi pc' (l0 :: l1 :: l2 :: l3 :: l4 :: l5 :: l6 :: l7 :: l8 :: l9 :: l10 :: l11 :: l12 :: l13 :: l14 :: some (.int x) :: r) st h Q) : zW L mi pc (l0 :: l1 :: l2 :: l3 :: l4 :: l5 :: l6 :: l7 :: l8 :: l9 :: l10 :: l11 :: l12 :: l13 :: l14 :: v :: r) (.int x :: st) h Q := by
  refine zx_go hd ?_ w
  show (if (_ ∧ _) ∧ _ then _ else _) = _
  rw [if_pos ⟨⟨rfl, by show 15 < _; simp⟩, hg⟩]; rfl
theorem zx_as15 {l0 l1 l2 l3 l4 l5 l6 l7 l8 l9 l10 l11 l12 l13 l14 : Option Value} {v : Option Value} {x : Nat} {h : zHp} (hd : zD mi pc (.astore 15) 2 pc' = true) (hg : zlg mi = false) (w : zW L mi pc' (l0 :: l1 :: l2 :: l3 :: l4 :: l5 :: l6 :: l7 :: l8 :: l9 :: l10 :: l11 :: l12 :: l13 :: l14 :: some (.ref x) :: r) st h Q) : zW L mi pc (l0 :: l1 :: l2 :: l3 :: l4 :: l5 :: l6 :: l7 :: l8 :: l9 :: l10 :: l11 :: l12 :: l13 :: l14 :: v :: r) (.ref x :: st) h Q := by
  refine zx_go hd ?_ w
  show (if (_ ∧ _) ∧ _ then _ else _) = _
  rw [if_pos ⟨⟨rfl, by show 15 < _; simp⟩, hg⟩]; rfl
theorem zx_ii15 {l0 l1 l2 l3 l4 l5 l6 l7 l8 l9 l10 l11 l12 l13 l14 : Option Value} {x c : Int32} {h : zHp} (hd : zDi mi pc pc' 15 c = true) (w : zW L mi pc' (l0 :: l1 :: l2 :: l3 :: l4 :: l5 :: l6 :: l7 :: l8 :: l9 :: l10 :: l11 :: l12 :: l13 :: l14 :: some (.int (x + c)) :: r) st h Q) : zW L mi pc (l0 :: l1 :: l2 :: l3 :: l4 :: l5 :: l6 :: l7 :: l8 :: l9 :: l10 :: l11 :: l12 :: l13 :: l14 :: some (.int x) :: r) st h Q := by
  unfold zDi at hd
  split at hd
  next j n h1 =>
    rw [Bool.and_eq_true, Bool.and_eq_true, Bool.and_eq_true, decide_eq_true_eq, decide_eq_true_eq, decide_eq_true_eq, Bool.not_eq_true'] at hd
    obtain ⟨⟨rfl, rfl⟩, rfl, hg⟩ := hd
    refine zx_st h1 rfl ?_ w
    show (if zlg mi = true then none else _) = _
    rw [if_neg (by rw [hg]; decide)]; rfl
  next => cases hd
theorem zx_il16 {l0 l1 l2 l3 l4 l5 l6 l7 l8 l9 l10 l11 l12 l13 l14 l15 : Option Value} {x : Int32} {h : zHp} (hd : zD mi pc (.iload 16) 2 pc' = true) (w : zW L mi pc' (l0 :: l1 :: l2 :: l3 :: l4 :: l5 :: l6 :: l7 :: l8 :: l9 :: l10 :: l11 :: l12 :: l13 :: l14 :: l15 :: some (.int x) :: r) (.int x :: st) h Q) : zW L mi pc (l0 :: l1 :: l2 :: l3 :: l4 :: l5 :: l6 :: l7 :: l8 :: l9 :: l10 :: l11 :: l12 :: l13 :: l14 :: l15 :: some (.int x) :: r) st h Q := zx_go hd rfl w
theorem zx_al16 {l0 l1 l2 l3 l4 l5 l6 l7 l8 l9 l10 l11 l12 l13 l14 l15 : Option Value} {x : Nat} {h : zHp} (hd : zD mi pc (.aload 16) 2 pc' = true) (w : zW L mi pc' (l0 :: l1 :: l2 :: l3 :: l4 :: l5 :: l6 :: l7 :: l8 :: l9 :: l10 :: l11 :: l12 :: l13 :: l14 :: l15 :: some (.ref x) :: r) (.ref x :: st) h Q) : zW L mi pc (l0 :: l1 :: l2 :: l3 :: l4 :: l5 :: l6 :: l7 :: l8 :: l9 :: l10 :: l11 :: l12 :: l13 :: l14 :: l15 :: some (.ref x) :: r) st h Q := zx_go hd rfl w
theorem zx_is16 {l0 l1 l2 l3 l4 l5 l6 l7 l8 l9 l10 l11 l12 l13 l14 l15 : Option Value} {v : Option Value} {x : Int32} {h : zHp} (hd : zD mi pc (.istore 16) 2 pc' = true) (hg : zlg mi = false) (w : zW L mi pc' (l0 :: l1 :: l2 :: l3 :: l4 :: l5 :: l6 :: l7 :: l8 :: l9 :: l10 :: l11 :: l12 :: l13 :: l14 :: l15 :: some (.int x) :: r) st h Q) : zW L mi pc (l0 :: l1 :: l2 :: l3 :: l4 :: l5 :: l6 :: l7 :: l8 :: l9 :: l10 :: l11 :: l12 :: l13 :: l14 :: l15 :: v :: r) (.int x :: st) h Q := by
  refine zx_go hd ?_ w
  show (if (_ ∧ _) ∧ _ then _ else _) = _
  rw [if_pos ⟨⟨rfl, by show 16 < _; simp⟩, hg⟩]; rfl
theorem zx_as16 {l0 l1 l2 l3 l4 l5 l6 l7 l8 l9 l10 l11 l12 l13 l14 l15 : Option Value} {v : Option Value} {x : Nat} {h : zHp} (hd : zD mi pc (.astore 16) 2 pc' = true) (hg : zlg mi = false) (w : zW L mi pc' (l0 :: l1 :: l2 :: l3 :: l4 :: l5 :: l6 :: l7 :: l8 :: l9 :: l10 :: l11 :: l12 :: l13 :: l14 :: l15 :: some (.ref x) :: r) st h Q) : zW L mi pc (l0 :: l1 :: l2 :: l3 :: l4 :: l5 :: l6 :: l7 :: l8 :: l9 :: l10 :: l11 :: l12 :: l13 :: l14 :: l15 :: v :: r) (.ref x :: st) h Q := by
  refine zx_go hd ?_ w
  show (if (_ ∧ _) ∧ _ then _ else _) = _
  rw [if_pos ⟨⟨rfl, by show 16 < _; simp⟩, hg⟩]; rfl
theorem zx_ii16 {l0 l1 l2 l3 l4 l5 l6 l7 l8 l9 l10 l11 l12 l13 l14 l15 : Option Value} {x c : Int32} {h : zHp} (hd : zDi mi pc pc' 16 c = true) (w : zW L mi pc' (l0 :: l1 :: l2 :: l3 :: l4 :: l5 :: l6 :: l7 :: l8 :: l9 :: l10 :: l11 :: l12 :: l13 :: l14 :: l15 :: some (.int (x + c)) :: r) st h Q) : zW L mi pc (l0 :: l1 :: l2 :: l3 :: l4 :: l5 :: l6 :: l7 :: l8 :: l9 :: l10 :: l11 :: l12 :: l13 :: l14 :: l15 :: some (.int x) :: r) st h Q := by
  unfold zDi at hd
  split at hd
  next j n h1 =>
    rw [Bool.and_eq_true, Bool.and_eq_true, Bool.and_eq_true, decide_eq_true_eq, decide_eq_true_eq, decide_eq_true_eq, Bool.not_eq_true'] at hd
    obtain ⟨⟨rfl, rfl⟩, rfl, hg⟩ := hd
    refine zx_st h1 rfl ?_ w
    show (if zlg mi = true then none else _) = _
    rw [if_neg (by rw [hg]; decide)]; rfl
  next => cases hd
theorem zx_ll2 {l0 l1 : Option Value} {x : Int64} {h : zHp} (hd : zD mi pc (.lload_n 2) 1 pc' = true) (w : zW L mi pc' (l0 :: l1 :: some (.long x) :: r) (.long x :: st) h Q) : zW L mi pc (l0 :: l1 :: some (.long x) :: r) st h Q := zx_go hd rfl w
theorem zx_ll4 {l0 l1 l2 l3 : Option Value} {x : Int64} {h : zHp} (hd : zD mi pc (.lload 4) 2 pc' = true) (w : zW L mi pc' (l0 :: l1 :: l2 :: l3 :: some (.long x) :: r) (.long x :: st) h Q) : zW L mi pc (l0 :: l1 :: l2 :: l3 :: some (.long x) :: r) st h Q := zx_go hd rfl w
theorem zx_ll6 {l0 l1 l2 l3 l4 l5 : Option Value} {x : Int64} {h : zHp} (hd : zD mi pc (.lload 6) 2 pc' = true) (w : zW L mi pc' (l0 :: l1 :: l2 :: l3 :: l4 :: l5 :: some (.long x) :: r) (.long x :: st) h Q) : zW L mi pc (l0 :: l1 :: l2 :: l3 :: l4 :: l5 :: some (.long x) :: r) st h Q := zx_go hd rfl w
theorem zx_ll8 {l0 l1 l2 l3 l4 l5 l6 l7 : Option Value} {x : Int64} {h : zHp} (hd : zD mi pc (.lload 8) 2 pc' = true) (w : zW L mi pc' (l0 :: l1 :: l2 :: l3 :: l4 :: l5 :: l6 :: l7 :: some (.long x) :: r) (.long x :: st) h Q) : zW L mi pc (l0 :: l1 :: l2 :: l3 :: l4 :: l5 :: l6 :: l7 :: some (.long x) :: r) st h Q := zx_go hd rfl w
theorem zx_add {x y : Int32} {h : zHp} (hd : zD mi pc .iadd 1 pc' = true) (w : zW L mi pc' lv (.int (x + y) :: st) h Q) : zW L mi pc lv (.int y :: .int x :: st) h Q := zx_go hd rfl w
theorem zx_sub {x y : Int32} {h : zHp} (hd : zD mi pc .isub 1 pc' = true) (w : zW L mi pc' lv (.int (x - y) :: st) h Q) : zW L mi pc lv (.int y :: .int x :: st) h Q := zx_go hd rfl w
theorem zx_mul {x y : Int32} {h : zHp} (hd : zD mi pc .imul 1 pc' = true) (w : zW L mi pc' lv (.int (x * y) :: st) h Q) : zW L mi pc lv (.int y :: .int x :: st) h Q := zx_go hd rfl w
theorem zx_and {x y : Int32} {h : zHp} (hd : zD mi pc .iand 1 pc' = true) (w : zW L mi pc' lv (.int (x &&& y) :: st) h Q) : zW L mi pc lv (.int y :: .int x :: st) h Q := zx_go hd rfl w
theorem zx_or {x y : Int32} {h : zHp} (hd : zD mi pc .ior 1 pc' = true) (w : zW L mi pc' lv (.int (x ||| y) :: st) h Q) : zW L mi pc lv (.int y :: .int x :: st) h Q := zx_go hd rfl w
theorem zx_xor {x y : Int32} {h : zHp} (hd : zD mi pc .ixor 1 pc' = true) (w : zW L mi pc' lv (.int (x ^^^ y) :: st) h Q) : zW L mi pc lv (.int y :: .int x :: st) h Q := zx_go hd rfl w
theorem zx_shl {x y : Int32} {h : zHp} (hd : zD mi pc .ishl 1 pc' = true) (w : zW L mi pc' lv (.int (x <<< (y &&& 31)) :: st) h Q) : zW L mi pc lv (.int y :: .int x :: st) h Q := zx_go hd rfl w
theorem zx_shr {x y : Int32} {h : zHp} (hd : zD mi pc .ishr 1 pc' = true) (w : zW L mi pc' lv (.int (x >>> (y &&& 31)) :: st) h Q) : zW L mi pc lv (.int y :: .int x :: st) h Q := zx_go hd rfl w
theorem zx_ushr {x y : Int32} {h : zHp} (hd : zD mi pc .iushr 1 pc' = true) (w : zW L mi pc' lv (.int ((x.toUInt32 >>> (y.toUInt32 &&& Int32.toUInt32 31)).toInt32) :: st) h Q) : zW L mi pc lv (.int y :: .int x :: st) h Q := zx_go hd rfl w
theorem zx_div {x y : Int32} {h : zHp} (hd : zD mi pc .idiv 1 pc' = true) (hy : y ≠ 0) (w : zW L mi pc' lv (.int (x / y) :: st) h Q) : zW L mi pc lv (.int y :: .int x :: st) h Q := by
  refine zx_go hd ?_ w
  show (match (if y = 0 then none else some (x / y)) with | some v => _ | none => _) = _
  rw [if_neg hy]; rfl
theorem zx_rem {x y : Int32} {h : zHp} (hd : zD mi pc .irem 1 pc' = true) (hy : y ≠ 0) (w : zW L mi pc' lv (.int (x - x / y * y) :: st) h Q) : zW L mi pc lv (.int y :: .int x :: st) h Q := by
  refine zx_go hd ?_ w
  show (match (if y = 0 then none else some (x - x / y * y)) with | some v => _ | none => _) = _
  rw [if_neg hy]; rfl
theorem zx_i2l {x : Int32} {h : zHp} (hd : zD mi pc .i2l 1 pc' = true) (w : zW L mi pc' lv (.long x.toInt64 :: st) h Q) : zW L mi pc lv (.int x :: st) h Q := zx_go hd rfl w
theorem zx_l2i {x : Int64} {h : zHp} (hd : zD mi pc .l2i 1 pc' = true) (w : zW L mi pc' lv (.int x.toInt32 :: st) h Q) : zW L mi pc lv (.long x :: st) h Q := zx_go hd rfl w
theorem zx_lshr {x : Int64} {y : Int32} {h : zHp} (hd : zD mi pc .lshr 1 pc' = true) (w : zW L mi pc' lv (.long (x >>> (y.toInt64 &&& 63)) :: st) h Q) : zW L mi pc lv (.int y :: .long x :: st) h Q := zx_go hd rfl w
theorem zx_lcmp {x y : Int64} {h : zHp} (hd : zD mi pc .lcmp 1 pc' = true) (w : zW L mi pc' lv (.int (lg_cmp x y) :: st) h Q) : zW L mi pc lv (.long y :: .long x :: st) h Q := zx_go hd rfl w
theorem zx_dupI {x : Int32} {h : zHp} (hd : zD mi pc .dup 1 pc' = true) (w : zW L mi pc' lv (.int x :: .int x :: st) h Q) : zW L mi pc lv (.int x :: st) h Q := zx_go hd rfl w
theorem zx_dupR {x : Nat} {h : zHp} (hd : zD mi pc .dup 1 pc' = true) (w : zW L mi pc' lv (.ref x :: .ref x :: st) h Q) : zW L mi pc lv (.ref x :: st) h Q := zx_go hd rfl w
theorem zx_dup2 {x : Int32} {y : Nat} {h : zHp} (hd : zD mi pc .dup2 1 pc' = true) (w : zW L mi pc' lv (.int x :: .ref y :: .int x :: .ref y :: st) h Q) : zW L mi pc lv (.int x :: .ref y :: st) h Q := zx_go hd rfl w
theorem zx_goto {tg : Nat} {h : zHp} (hd : zDj mi pc tg = true) (w : zW L mi tg lv st h Q) : zW L mi pc lv st h Q := by
  unfold zDj at hd
  split at hd
  next off h1 =>
    rw [Bool.and_eq_true, decide_eq_true_eq, decide_eq_true_eq] at hd
    refine zx_st h1 rfl ?_ w
    show (if 0 ≤ (pc : Int) + off then _ else none) = _
    rw [if_pos hd.1, hd.2]; rfl
  next => cases hd
theorem zx_if {c : ClassFile.Cond} {tg nx : Nat} {x : Int32} {h : zHp} (hd : zDf mi pc c tg nx = true) (w1 : zcmp c x 0 = true → zW L mi tg lv st h Q) (w2 : zcmp c x 0 = false → zW L mi nx lv st h Q) : zW L mi pc lv (.int x :: st) h Q := by
  unfold zDf at hd
  split at hd
  next d off h1 =>
    rw [Bool.and_eq_true, Bool.and_eq_true, Bool.and_eq_true, decide_eq_true_eq, decide_eq_true_eq, decide_eq_true_eq, decide_eq_true_eq] at hd
    obtain ⟨⟨rfl, h2⟩, rfl, rfl⟩ := hd
    cases hc : zcmp d x 0 with
    | true =>
      refine zx_st h1 rfl ?_ (w1 hc)
      show (if 0 ≤ (pc : Int) + off then _ else none) = _
      rw [if_pos h2, if_pos hc]; rfl
    | false =>
      refine zx_st h1 rfl ?_ (w2 hc)
      show (if 0 ≤ (pc : Int) + off then _ else none) = _
      rw [if_pos h2, if_neg (by rw [hc]; decide)]; rfl
  next => cases hd
theorem zx_icmp {c : ClassFile.Cond} {tg nx : Nat} {x y : Int32} {h : zHp} (hd : zDm mi pc c tg nx = true) (w1 : zcmp c x y = true → zW L mi tg lv st h Q) (w2 : zcmp c x y = false → zW L mi nx lv st h Q) : zW L mi pc lv (.int y :: .int x :: st) h Q := by
  unfold zDm at hd
  split at hd
  next d off h1 =>
    rw [Bool.and_eq_true, Bool.and_eq_true, Bool.and_eq_true, decide_eq_true_eq, decide_eq_true_eq, decide_eq_true_eq, decide_eq_true_eq] at hd
    obtain ⟨⟨rfl, h2⟩, rfl, rfl⟩ := hd
    cases hc : zcmp d x y with
    | true =>
      refine zx_st h1 rfl ?_ (w1 hc)
      show (if 0 ≤ (pc : Int) + off then _ else none) = _
      rw [if_pos h2, if_pos hc]; rfl
    | false =>
      refine zx_st h1 rfl ?_ (w2 hc)
      show (if 0 ≤ (pc : Int) + off then _ else none) = _
      rw [if_pos h2, if_neg (by rw [hc]; decide)]; rfl
  next => cases hd
theorem zx_icmpeq {tg nx : Nat} {x y : Int32} {h : zHp} (hd : zDm mi pc .eq tg nx = true) (w1 : x = y → zW L mi tg lv st h Q) (w2 : ¬ x = y → zW L mi nx lv st h Q) : zW L mi pc lv (.int y :: .int x :: st) h Q := zx_icmp hd (fun hc => w1 (by simpa [zcmp, Int32.not_lt] using hc)) (fun hc => w2 (by simpa [zcmp, Int32.not_lt] using hc))
theorem zx_ifeq {tg nx : Nat} {x : Int32} {h : zHp} (hd : zDf mi pc .eq tg nx = true) (w1 : x = 0 → zW L mi tg lv st h Q) (w2 : ¬ x = 0 → zW L mi nx lv st h Q) : zW L mi pc lv (.int x :: st) h Q := zx_if hd (fun hc => w1 (by simpa [zcmp, Int32.not_lt] using hc)) (fun hc => w2 (by simpa [zcmp, Int32.not_lt] using hc))
theorem zx_icmpne {tg nx : Nat} {x y : Int32} {h : zHp} (hd : zDm mi pc .ne tg nx = true) (w1 : ¬ x = y → zW L mi tg lv st h Q) (w2 : x = y → zW L mi nx lv st h Q) : zW L mi pc lv (.int y :: .int x :: st) h Q := zx_icmp hd (fun hc => w1 (by simpa [zcmp, Int32.not_lt] using hc)) (fun hc => w2 (by simpa [zcmp, Int32.not_lt] using hc))
theorem zx_ifne {tg nx : Nat} {x : Int32} {h : zHp} (hd : zDf mi pc .ne tg nx = true) (w1 : ¬ x = 0 → zW L mi tg lv st h Q) (w2 : x = 0 → zW L mi nx lv st h Q) : zW L mi pc lv (.int x :: st) h Q := zx_if hd (fun hc => w1 (by simpa [zcmp, Int32.not_lt] using hc)) (fun hc => w2 (by simpa [zcmp, Int32.not_lt] using hc))
theorem zx_icmplt {tg nx : Nat} {x y : Int32} {h : zHp} (hd : zDm mi pc .lt tg nx = true) (w1 : x < y → zW L mi tg lv st h Q) (w2 : ¬ x < y → zW L mi nx lv st h Q) : zW L mi pc lv (.int y :: .int x :: st) h Q := zx_icmp hd (fun hc => w1 (by simpa [zcmp, Int32.not_lt] using hc)) (fun hc => w2 (by simpa [zcmp, Int32.not_lt] using hc))
theorem zx_iflt {tg nx : Nat} {x : Int32} {h : zHp} (hd : zDf mi pc .lt tg nx = true) (w1 : x < 0 → zW L mi tg lv st h Q) (w2 : ¬ x < 0 → zW L mi nx lv st h Q) : zW L mi pc lv (.int x :: st) h Q := zx_if hd (fun hc => w1 (by simpa [zcmp, Int32.not_lt] using hc)) (fun hc => w2 (by simpa [zcmp, Int32.not_lt] using hc))
theorem zx_icmpge {tg nx : Nat} {x y : Int32} {h : zHp} (hd : zDm mi pc .ge tg nx = true) (w1 : ¬ x < y → zW L mi tg lv st h Q) (w2 : x < y → zW L mi nx lv st h Q) : zW L mi pc lv (.int y :: .int x :: st) h Q := zx_icmp hd (fun hc => w1 (by simpa [zcmp, Int32.not_lt] using hc)) (fun hc => w2 (by simpa [zcmp, Int32.not_lt] using hc))
theorem zx_ifge {tg nx : Nat} {x : Int32} {h : zHp} (hd : zDf mi pc .ge tg nx = true) (w1 : ¬ x < 0 → zW L mi tg lv st h Q) (w2 : x < 0 → zW L mi nx lv st h Q) : zW L mi pc lv (.int x :: st) h Q := zx_if hd (fun hc => w1 (by simpa [zcmp, Int32.not_lt] using hc)) (fun hc => w2 (by simpa [zcmp, Int32.not_lt] using hc))
theorem zx_icmpgt {tg nx : Nat} {x y : Int32} {h : zHp} (hd : zDm mi pc .gt tg nx = true) (w1 : y < x → zW L mi tg lv st h Q) (w2 : ¬ y < x → zW L mi nx lv st h Q) : zW L mi pc lv (.int y :: .int x :: st) h Q := zx_icmp hd (fun hc => w1 (by simpa [zcmp, Int32.not_lt] using hc)) (fun hc => w2 (by simpa [zcmp, Int32.not_lt] using hc))
theorem zx_ifgt {tg nx : Nat} {x : Int32} {h : zHp} (hd : zDf mi pc .gt tg nx = true) (w1 : 0 < x → zW L mi tg lv st h Q) (w2 : ¬ 0 < x → zW L mi nx lv st h Q) : zW L mi pc lv (.int x :: st) h Q := zx_if hd (fun hc => w1 (by simpa [zcmp, Int32.not_lt] using hc)) (fun hc => w2 (by simpa [zcmp, Int32.not_lt] using hc))
theorem zx_icmple {tg nx : Nat} {x y : Int32} {h : zHp} (hd : zDm mi pc .le tg nx = true) (w1 : ¬ y < x → zW L mi tg lv st h Q) (w2 : y < x → zW L mi nx lv st h Q) : zW L mi pc lv (.int y :: .int x :: st) h Q := zx_icmp hd (fun hc => w1 (by simpa [zcmp, Int32.not_lt] using hc)) (fun hc => w2 (by simpa [zcmp, Int32.not_lt] using hc))
theorem zx_ifle {tg nx : Nat} {x : Int32} {h : zHp} (hd : zDf mi pc .le tg nx = true) (w1 : ¬ 0 < x → zW L mi tg lv st h Q) (w2 : 0 < x → zW L mi nx lv st h Q) : zW L mi pc lv (.int x :: st) h Q := zx_if hd (fun hc => w1 (by simpa [zcmp, Int32.not_lt] using hc)) (fun hc => w2 (by simpa [zcmp, Int32.not_lt] using hc))
/-! fields -/
theorem zDg_ok {ci f : Nat} {t : FieldType} (h : zDg mi pc pc' ci f t = true) : ∃ k, decode (zcd mi) pc = .ok (.getfield k, 3) ∧ zfl (zoc mi) k = some (ci, f) ∧ f < zfN ci ∧ zft ci f = t ∧ pc + 3 = pc' := by
  unfold zDg at h
  split at h
  next k h1 =>
    rw [Bool.and_eq_true, Bool.and_eq_true, Bool.and_eq_true, decide_eq_true_eq, decide_eq_true_eq, decide_eq_true_eq, decide_eq_true_eq] at h
    exact ⟨k, h1, h.1.1, h.1.2, h.2.1, h.2.2⟩
  next => cases h
theorem zx_gf {ci f a : Nat} {t : FieldType} {h : zHp} (hd : zDg mi pc pc' ci f t = true) (hk : zk L h a = some (.inr ci)) (w : zW L mi pc' lv (zval t h a f :: st) h Q) : zW L mi pc lv (.ref a :: st) h Q := by
  obtain ⟨k, h1, h2, h3, rfl, rfl⟩ := zDg_ok hd
  refine zx_st h1 rfl ?_ w
  show zins2 L mi pc lv (.ref a :: st) h (.getfield k) 3 = _
  unfold zins2; dsimp only; rw [h2]; dsimp only
  rw [if_pos ⟨hk, h3⟩]; rfl
theorem zx_gfI {ci f a : Nat} (hd : zDg mi pc pc' ci f .int = true) (hk : zk L (N, U, I, J, R) a = some (.inr ci)) (w : zW L mi pc' lv (.int (I a f) :: st) (N, U, I, J, R) Q) : zW L mi pc lv (.ref a :: st) (N, U, I, J, R) Q := zx_gf hd hk w
theorem zx_gfZ {ci f a : Nat} (hd : zDg mi pc pc' ci f .boolean = true) (hk : zk L (N, U, I, J, R) a = some (.inr ci)) (w : zW L mi pc' lv (.int (I a f) :: st) (N, U, I, J, R) Q) : zW L mi pc lv (.ref a :: st) (N, U, I, J, R) Q := zx_gf hd hk w
theorem zx_gfA {ci f a b : Nat} {t : FieldType} (hd : zDg mi pc pc' ci f (.array t) = true) (hk : zk L (N, U, I, J, R) a = some (.inr ci)) (hr : R a f = some b) (w : zW L mi pc' lv (.ref b :: st) (N, U, I, J, R) Q) : zW L mi pc lv (.ref a :: st) (N, U, I, J, R) Q := zx_gf hd hk (by show zW L mi pc' lv (va_rf (R a f) :: st) _ Q; rw [hr]; exact w)
theorem zx_gfO {ci f a b : Nat} {t : String} (hd : zDg mi pc pc' ci f (.object t) = true) (hk : zk L (N, U, I, J, R) a = some (.inr ci)) (hr : R a f = some b) (w : zW L mi pc' lv (.ref b :: st) (N, U, I, J, R) Q) : zW L mi pc lv (.ref a :: st) (N, U, I, J, R) Q := zx_gf hd hk (by show zW L mi pc' lv (va_rf (R a f) :: st) _ Q; rw [hr]; exact w)
theorem zx_pf {ci f a : Nat} {t : FieldType} {v : Value} {h h' : zHp} (hd : zDp mi pc pc' ci f t = true) (hk : zk L h a = some (.inr ci)) (ha : zS ≤ a) (hp : zput t h a f v = some h') (w : zW L mi pc' lv st h' Q) : zW L mi pc lv (v :: .ref a :: st) h Q := by
  unfold zDp at hd
  split at hd
  next k h1 =>
    rw [Bool.and_eq_true, Bool.and_eq_true, Bool.and_eq_true, Bool.and_eq_true, decide_eq_true_eq, decide_eq_true_eq, decide_eq_true_eq, decide_eq_true_eq, Bool.or_eq_true, decide_eq_true_eq, Bool.not_eq_true'] at hd
    obtain ⟨⟨⟨h2, h3⟩, rfl, rfl⟩, h4⟩ := hd
    have hs : zins2 L mi pc lv (v :: .ref a :: st) h (.putfield k) 3 = some (.inl (pc + 3, lv, st, h')) := by
      unfold zins2; dsimp only; rw [h2]; dsimp only
      rw [if_pos ⟨⟨hk, h3, ha⟩, fun hf => by rcases h4 with h4 | h4; (rw [h4] at hf; cases hf); exact h4⟩, hp]; rfl
    exact zx_st h1 rfl hs w
  next => cases hd
theorem zx_pfI {ci f a : Nat} {v : Int32} (hd : zDp mi pc pc' ci f .int = true) (hk : zk L (N, U, I, J, R) a = some (.inr ci)) (ha : 3 ≤ a) (w : zW L mi pc' lv st (N, U, zu I a f v, J, R) Q) : zW L mi pc lv (.int v :: .ref a :: st) (N, U, I, J, R) Q := zx_pf hd hk ha rfl w
theorem zx_pfZ {ci f a : Nat} {v : Int32} (hd : zDp mi pc pc' ci f .boolean = true) (hk : zk L (N, U, I, J, R) a = some (.inr ci)) (ha : 3 ≤ a) (hv : v = 0 ∨ v = 1) (w : zW L mi pc' lv st (N, U, zu I a f v, J, R) Q) : zW L mi pc lv (.int v :: .ref a :: st) (N, U, I, J, R) Q := zx_pf hd hk ha (by show (if _ then _ else _) = _; rw [if_pos hv]) w
theorem zx_pfA {ci f a v : Nat} {t : FieldType} (hd : zDp mi pc pc' ci f (.array t) = true) (hk : zk L (N, U, I, J, R) a = some (.inr ci)) (ha : 3 ≤ a) (w : zW L mi pc' lv st (N, U, I, J, zu R a f (some v)) Q) : zW L mi pc lv (.ref v :: .ref a :: st) (N, U, I, J, R) Q := zx_pf hd hk ha rfl w
theorem zx_pfO {ci f a v : Nat} {t : String} (hd : zDp mi pc pc' ci f (.object t) = true) (hk : zk L (N, U, I, J, R) a = some (.inr ci)) (ha : 3 ≤ a) (w : zW L mi pc' lv st (N, U, I, J, zu R a f (some v)) Q) : zW L mi pc lv (.ref v :: .ref a :: st) (N, U, I, J, R) Q := zx_pf hd hk ha rfl w
theorem zx_gs {a : Nat} {h : zHp} (hd : zDs mi pc pc' a = true) (w : zW L mi pc' lv (.ref a :: st) h Q) : zW L mi pc lv st h Q := by
  unfold zDs at hd
  split at hd
  next k h1 =>
    rw [Bool.and_eq_true, decide_eq_true_eq, decide_eq_true_eq] at hd
    obtain ⟨h2, rfl⟩ := hd
    refine zx_st h1 rfl ?_ w
    show zins2 L mi pc lv st h (.getstatic k) 3 = _
    unfold zins2; dsimp only; rw [h2]; rfl
  next => cases hd
/-! arrays -/
theorem zald_eq {ty : FieldType → Bool} {t : FieldType} {n a : Nat} {h : zHp} {j : Int32} (hk : zk L h a = some (.inl (t, n))) (ht : ty t = true) (h0 : 0 ≤ j) (hj : j.toNatClampNeg < n) : zald L ty h a j = some (zval t h a j.toNatClampNeg) := by
  unfold zald; rw [hk]; dsimp only; rw [if_pos ⟨ht, h0, hj⟩]
theorem zast_eq {ty : FieldType → Bool} {t : FieldType} {n a : Nat} {h : zHp} {j : Int32} {v : Value} (hk : zk L h a = some (.inl (t, n))) (ht : ty t = true) (h0 : 0 ≤ j) (hj : j.toNatClampNeg < n) (ha : 3 ≤ a) : zast L ty h a j v = zput t h a j.toNatClampNeg v := by
  unfold zast; rw [hk]; dsimp only; rw [if_pos ⟨ht, h0, hj, ha⟩]
theorem zx_iald {n a : Nat} {j : Int32} (hd : zD mi pc .iaload 1 pc' = true) (hk : zk L (N, U, I, J, R) a = some (.inl (.int, n))) (h0 : 0 ≤ j) (hj : j.toNatClampNeg < n) (w : zW L mi pc' lv (.int (I a j.toNatClampNeg) :: st) (N, U, I, J, R) Q) : zW L mi pc lv (.int j :: .ref a :: st) (N, U, I, J, R) Q := by
  refine zx_go hd ?_ w
  show zpush (zald L zisI _ a j) _ _ _ _ = _
  rw [zald_eq hk rfl h0 hj]; rfl
theorem zx_zald {n a : Nat} {j : Int32} (hd : zD mi pc .baload 1 pc' = true) (hk : zk L (N, U, I, J, R) a = some (.inl (.boolean, n))) (h0 : 0 ≤ j) (hj : j.toNatClampNeg < n) (w : zW L mi pc' lv (.int (I a j.toNatClampNeg) :: st) (N, U, I, J, R) Q) : zW L mi pc lv (.int j :: .ref a :: st) (N, U, I, J, R) Q := by
  refine zx_go hd ?_ w
  show zpush (zald L zisZ _ a j) _ _ _ _ = _
  rw [zald_eq hk rfl h0 hj]; rfl
theorem zx_lald {n a : Nat} {j : Int32} (hd : zD mi pc .laload 1 pc' = true) (hk : zk L (N, U, I, J, R) a = some (.inl (.long, n))) (h0 : 0 ≤ j) (hj : j.toNatClampNeg < n) (w : zW L mi pc' lv (.long (J a j.toNatClampNeg) :: st) (N, U, I, J, R) Q) : zW L mi pc lv (.int j :: .ref a :: st) (N, U, I, J, R) Q := by
  refine zx_go hd ?_ w
  show zpush (zald L zisL _ a j) _ _ _ _ = _
  rw [zald_eq hk rfl h0 hj]; rfl
theorem zx_aald {n a b : Nat} {t : FieldType} {j : Int32} (hd : zD mi pc .aaload 1 pc' = true) (hk : zk L (N, U, I, J, R) a = some (.inl (t, n))) (ht : (∃ C, t = .object C) ∨ ∃ u, t = .array u) (h0 : 0 ≤ j) (hj : j.toNatClampNeg < n) (hr : R a j.toNatClampNeg = some b) (w : zW L mi pc' lv (.ref b :: st) (N, U, I, J, R) Q) : zW L mi pc lv (.int j :: .ref a :: st) (N, U, I, J, R) Q := by
  refine zx_go hd ?_ w
  show zpush (zald L zisR _ a j) _ _ _ _ = _
  rw [zald_eq hk (by rcases ht with ⟨C, rfl⟩ | ⟨u, rfl⟩ <;> rfl) h0 hj]
  have e : zval t (N, U, I, J, R) a j.toNatClampNeg = .ref b := by
    rcases ht with ⟨C, rfl⟩ | ⟨u, rfl⟩
    · show va_rf (R a j.toNatClampNeg) = _; rw [hr]; rfl
    · show va_rf (R a j.toNatClampNeg) = _; rw [hr]; rfl
  rw [e]; rfl
theorem zx_iast {n a : Nat} {j v : Int32} (hd : zD mi pc .iastore 1 pc' = true) (hk : zk L (N, U, I, J, R) a = some (.inl (.int, n))) (h0 : 0 ≤ j) (hj : j.toNatClampNeg < n) (ha : 3 ≤ a) (w : zW L mi pc' lv st (N, U, zu I a j.toNatClampNeg v, J, R) Q) : zW L mi pc lv (.int v :: .int j :: .ref a :: st) (N, U, I, J, R) Q := by
  refine zx_go hd ?_ w
  show zo (zast L zisI _ a j (.int v)) _ _ _ = _
  rw [zast_eq hk rfl h0 hj ha]; rfl
theorem zx_zast {n a : Nat} {j v : Int32} (hd : zD mi pc .bastore 1 pc' = true) (hk : zk L (N, U, I, J, R) a = some (.inl (.boolean, n))) (h0 : 0 ≤ j) (hj : j.toNatClampNeg < n) (ha : 3 ≤ a) (hv : v = 0 ∨ v = 1) (w : zW L mi pc' lv st (N, U, zu I a j.toNatClampNeg v, J, R) Q) : zW L mi pc lv (.int v :: .int j :: .ref a :: st) (N, U, I, J, R) Q := by
  refine zx_go hd ?_ w
  show zo (zast L zisZ _ a j (.int v)) _ _ _ = _
  rw [zast_eq hk rfl h0 hj ha]
  show zo (if _ then _ else _) _ _ _ = _
  rw [if_pos hv]; rfl
theorem zx_last {n a : Nat} {j : Int32} {v : Int64} (hd : zD mi pc .lastore 1 pc' = true) (hk : zk L (N, U, I, J, R) a = some (.inl (.long, n))) (h0 : 0 ≤ j) (hj : j.toNatClampNeg < n) (ha : 3 ≤ a) (w : zW L mi pc' lv st (N, U, I, zu J a j.toNatClampNeg v, R) Q) : zW L mi pc lv (.long v :: .int j :: .ref a :: st) (N, U, I, J, R) Q := by
  refine zx_go hd ?_ w
  show zo (zast L zisL _ a j (.long v)) _ _ _ = _
  rw [zast_eq hk rfl h0 hj ha]; rfl
theorem zx_aast {n a v ci : Nat} {j : Int32} (hd : zD mi pc .aastore 1 pc' = true) (hv : zk L (N, U, I, J, R) v = some (.inr ci)) (hk : zk L (N, U, I, J, R) a = some (.inl (.object (zcn ci), n))) (h0 : 0 ≤ j) (hj : j.toNatClampNeg < n) (ha : 3 ≤ a) (w : zW L mi pc' lv st (N, U, I, J, zu R a j.toNatClampNeg (some v)) Q) : zW L mi pc lv (.ref v :: .int j :: .ref a :: st) (N, U, I, J, R) Q := by
  refine zx_go hd ?_ w
  show zins2 L mi pc lv (.ref v :: .int j :: .ref a :: st) (N, U, I, J, R) .aastore 1 = _
  unfold zins2; dsimp only; rw [hv, hk]; dsimp only
  rw [if_pos ⟨⟨rfl, h0⟩, hj, ha⟩]; rfl
theorem zx_alen {n a : Nat} {t : FieldType} {h : zHp} (hd : zD mi pc .arraylength 1 pc' = true) (hk : zk L h a = some (.inl (t, n))) (w : zW L mi pc' lv (.int (Int32.ofNat n) :: st) h Q) : zW L mi pc lv (.ref a :: st) h Q := by
  refine zx_go hd ?_ w
  show zins2 L mi pc lv (.ref a :: st) h .arraylength 1 = _
  unfold zins2; dsimp only; rw [hk]; rfl
/-! makers -/
theorem zx_new {ci : Nat} (hd : zDw mi pc pc' ci = true) (hK : zK L N = some (.inr ci)) (w : zW L mi pc' lv (.ref N :: st) (N + 1, U + zfN ci, zc I N 0, zc J N 0, zc R N none) Q) : zW L mi pc lv st (N, U, I, J, R) Q := by
  unfold zDw at hd
  split at hd
  next k h1 =>
    rw [Bool.and_eq_true, decide_eq_true_eq, decide_eq_true_eq] at hd
    obtain ⟨h2, rfl⟩ := hd
    refine zx_st h1 rfl ?_ w
    show zins2 L mi pc lv st _ (.new k) 3 = _
    unfold zins2; dsimp only; rw [h2]; dsimp only
    rw [if_pos hK]; rfl
  next => cases hd
theorem zx_newa {t : ArrayType} {n : Nat} (hd : zD mi pc (.newarray t) 2 pc' = true) (hn : n ≤ 65536) (ht : zna t = true) (hK : zK L N = some (.inl (newarray.typeOf t, n))) (w : zW L mi pc' lv (.ref N :: st) (N + 1, U + n, zc I N 0, zc J N 0, zc R N none) Q) : zW L mi pc lv (.int (Int32.ofNat n) :: st) (N, U, I, J, R) Q := by
  have e : (Int32.ofNat n).toNatClampNeg = n := Int32.toNatClampNeg_ofNat_of_lt (by omega)
  refine zx_go hd ?_ w
  show zins2 L mi pc lv (.int (Int32.ofNat n) :: st) (N, U, I, J, R) (.newarray t) 2 = _
  unfold zins2; dsimp only; rw [e]
  rw [if_pos ⟨⟨Int32.ofNat_le_ofNat (by decide) (by omega) |>.mpr (Nat.zero_le n), ht⟩, hK, hn⟩]; rfl
theorem zx_anew {C : String} {n : Nat} (hd : zDa mi pc pc' C = true) (hn : n ≤ 65536) (hK : zK L N = some (.inl (.object C, n))) (w : zW L mi pc' lv (.ref N :: st) (N + 1, U + n, zc I N 0, zc J N 0, zc R N none) Q) : zW L mi pc lv (.int (Int32.ofNat n) :: st) (N, U, I, J, R) Q := by
  have e : (Int32.ofNat n).toNatClampNeg = n := Int32.toNatClampNeg_ofNat_of_lt (by omega)
  unfold zDa at hd
  split at hd
  next k h1 =>
    rw [Bool.and_eq_true, decide_eq_true_eq, decide_eq_true_eq] at hd
    obtain ⟨h2, rfl⟩ := hd
    refine zx_st h1 rfl ?_ w
    show zins2 L mi pc lv (.int (Int32.ofNat n) :: st) (N, U, I, J, R) (.anewarray k) 3 = _
    unfold zins2; dsimp only; rw [h2]; dsimp only; rw [e]
    rw [if_pos ⟨Int32.ofNat_le_ofNat (by decide) (by omega) |>.mpr (Nat.zero_le n), hK, hn⟩]; rfl
  next => cases hd
theorem zx_multi {n k : Nat} (hd : zDu mi pc pc' = true) (hn : n ≤ 65536) (hw : k ≤ 65536) (hK : zK L N = some (.inl (.array .int, n))) (hKi : (List.range n).all (fun i => decide (zK L (N + 1 + i) = some (.inl (.int, k)))) = true) (w : zW L mi pc' lv (.ref N :: st) (zrows (N, U, I, J, R) n k) Q) : zW L mi pc lv (.int (Int32.ofNat k) :: .int (Int32.ofNat n) :: st) (N, U, I, J, R) Q := by
  have e : (Int32.ofNat n).toNatClampNeg = n := Int32.toNatClampNeg_ofNat_of_lt (by omega)
  have e2 : (Int32.ofNat k).toNatClampNeg = k := Int32.toNatClampNeg_ofNat_of_lt (by omega)
  unfold zDu at hd
  split at hd
  next q h1 =>
    rw [Bool.and_eq_true, decide_eq_true_eq] at hd
    obtain ⟨h2, rfl⟩ := hd
    refine zx_st h1 rfl ?_ w
    show zins2 L mi pc lv (.int (Int32.ofNat k) :: .int (Int32.ofNat n) :: st) (N, U, I, J, R) (.multianewarray q 2) 4 = _
    unfold zins2
    show (if (_ ∧ _ ∧ _) ∧ (_ ∧ _) ∧ (_ ∧ _) then _ else none) = _
    rw [e, e2]
    rw [if_pos ⟨⟨h2, Int32.ofNat_le_ofNat (by decide) (by omega) |>.mpr (Nat.zero_le n), Int32.ofNat_le_ofNat (by decide) (by omega) |>.mpr (Nat.zero_le k)⟩, ⟨hK, hKi⟩, hn, hw⟩]; rfl
  next => cases hd
theorem zx_obj {a : Nat} {h : zHp} (hd : zDo mi pc pc' = true) (hc : Nat.ble (zcat st) 8 = true) (w : zW L mi pc' lv st h Q) : zW L mi pc lv (.ref a :: st) h Q := by
  unfold zDo at hd
  split at hd
  next k h1 =>
    rw [Bool.and_eq_true, Bool.and_eq_true, decide_eq_true_eq, decide_eq_true_eq] at hd
    obtain ⟨⟨h2, rfl⟩, h3⟩ := hd
    refine zx_st h1 rfl ?_ w
    show zins2 L mi pc lv (.ref a :: st) h (.invokespecial k) 3 = _
    unfold zins2; dsimp only
    rw [if_pos h2, if_pos ⟨Nat.le_of_ble_eq_true hc, h3⟩]; rfl
  next => cases hd
theorem zx_min {x y : Int32} {h : zHp} (hd : zDn mi pc pc' = true) (hc : Nat.ble (zcat st) 8 = true) (w : zW L mi pc' lv (.int (if y < x then y else x) :: st) h Q) : zW L mi pc lv (.int y :: .int x :: st) h Q := by
  unfold zDn at hd
  split at hd
  next k h1 =>
    rw [Bool.and_eq_true, Bool.and_eq_true, Bool.and_eq_true, decide_eq_true_eq, decide_eq_true_eq, Bool.not_eq_true'] at hd
    obtain ⟨⟨h2, rfl⟩, h3, h4⟩ := hd
    refine zx_st h1 rfl ?_ w
    show zins2 L mi pc lv (.int y :: .int x :: st) h (.invokestatic k) 3 = _
    unfold zins2; dsimp only
    rw [if_neg (by rw [h4]; decide), if_pos h2, if_pos ⟨Nat.le_of_ble_eq_true hc, h3⟩]; rfl
  next => cases hd
theorem zx_copy {s d n sp dp n0 n1 : Nat} (hd : zDy mi pc pc' = true) (hc : Nat.ble (zcat st) 8 = true) (hs : zk L (N, U, I, J, R) s = some (.inl (.int, n0))) (ht : zk L (N, U, I, J, R) d = some (.inl (.int, n1))) (h1 : sp + n ≤ n0) (h2 : dp + n ≤ n1) (h3 : n0 ≤ 65536) (h4 : n1 ≤ 65536) (ha : 3 ≤ d)
    (w : zW L mi pc' lv st (N, U, (fun b j => if b = d then va_cpy (I s) (I d) sp dp n j else I b j), J, R) Q) : zW L mi pc lv (.int (Int32.ofNat n) :: .int (Int32.ofNat dp) :: .ref d :: .int (Int32.ofNat sp) :: .ref s :: st) (N, U, I, J, R) Q := by
  have e1 : (Int32.ofNat n).toNatClampNeg = n := Int32.toNatClampNeg_ofNat_of_lt (by omega)
  have e2 : (Int32.ofNat dp).toNatClampNeg = dp := Int32.toNatClampNeg_ofNat_of_lt (by omega)
  have e3 : (Int32.ofNat sp).toNatClampNeg = sp := Int32.toNatClampNeg_ofNat_of_lt (by omega)
  have p : ∀ m : Nat, m ≤ 65536 → (0 : Int32) ≤ Int32.ofNat m := fun m hm => Int32.ofNat_le_ofNat (by decide) (by omega) |>.mpr (Nat.zero_le m)
  unfold zDy at hd
  split at hd
  next k g1 =>
    rw [Bool.and_eq_true, Bool.and_eq_true, decide_eq_true_eq, decide_eq_true_eq] at hd
    obtain ⟨⟨g2, rfl⟩, g3⟩ := hd
    refine zx_st g1 rfl ?_ w
    show zins2 L mi pc lv _ _ (.invokestatic k) 3 = _
    unfold zins2; dsimp only
    rw [if_pos g2]
    unfold zacopy; dsimp only
    rw [hs, ht]; dsimp only
    rw [e1, e2, e3, if_pos ⟨⟨⟨p n (by omega), p dp (by omega), p sp (by omega)⟩, h1, h2⟩, ⟨ha, Nat.le_of_ble_eq_true hc⟩, g3⟩]; rfl
  next => cases hd
/-! the ends -/
theorem zx_iret {v : Int32} {h : zHp} (hd : zD mi pc .ireturn 1 pc' = true) (ht : zrt mi = some .int ∨ zrt mi = some .boolean ∧ (v = 0 ∨ v = 1)) (q : Q (.inl (some (.int v))) h) : zW L mi pc lv [.int v] h Q := by
  obtain ⟨h1, h2, h3⟩ := zD_ok hd
  refine (zw_end (o := .inl (some (.int v))) (h' := h) ?_).mpr q
  unfold zstep; rw [h1]
  show (if zlok .ireturn 1 = true then _ else none) = _
  rw [if_pos h2]
  show zret mi [.int v] h = _
  unfold zret
  rcases ht with ht | ⟨ht, hv⟩
  · rw [ht]
  · rw [ht]; dsimp only; rw [if_pos hv]
theorem zx_aret {v : Nat} {h : zHp} {t : FieldType} (hd : zD mi pc .areturn 1 pc' = true) (ht : zrt mi = some t) (hr : zisR t = true) (q : Q (.inl (some (.ref v))) h) : zW L mi pc lv [.ref v] h Q := by
  obtain ⟨h1, h2, h3⟩ := zD_ok hd
  refine (zw_end (o := .inl (some (.ref v))) (h' := h) ?_).mpr q
  unfold zstep; rw [h1]
  show (if zlok .areturn 1 = true then _ else none) = _
  rw [if_pos h2]
  show zaret mi [.ref v] h = _
  unfold zaret
  rw [ht]
  cases t <;> first | rfl | cases hr
theorem zx_vret {h : zHp} (hd : zD mi pc .return_ 1 pc' = true) (ht : zrt mi = none) (q : Q (.inl none) h) : zW L mi pc lv [] h Q := by
  obtain ⟨h1, h2, h3⟩ := zD_ok hd
  refine (zw_end (o := .inl none) (h' := h) ?_).mpr q
  unfold zstep; rw [h1]
  show (if zlok .return_ 1 = true then _ else none) = _
  rw [if_pos h2]
  show zvret mi [] h = _
  unfold zvret
  rw [ht]
theorem zx_throw {x : Nat} (hd : zDx mi pc x = true) (hK : zK L N = none) (hc : Nat.ble (zcat st) 8 = true) (q : Q (.inr (x, N)) (N + 1, U + 6, I, J, R)) : zW L mi pc lv st (N, U, I, J, R) Q := by
  unfold zDx at hd
  split at hd
  next k h1 =>
    rw [Bool.and_eq_true, decide_eq_true_eq] at hd
    obtain ⟨h2, h3⟩ := hd
    split at h3
    next is ic e3 e4 e6 e9 =>
      rw [Bool.and_eq_true, Bool.and_eq_true, Bool.and_eq_true, decide_eq_true_eq, decide_eq_true_eq, decide_eq_true_eq] at h3
      obtain ⟨⟨g1, g2⟩, g3, g4⟩ := h3
      refine (zw_end (o := .inr (x, N)) (h' := (N + 1, U + 6, I, J, R)) ?_).mpr q
      unfold zstep; rw [h1]
      show (if zlok (.new k) 3 = true then _ else none) = _
      rw [if_pos (by rfl)]
      show zins2 L mi pc lv st _ (.new k) 3 = _
      unfold zins2; dsimp only; rw [h2]; dsimp only
      unfold zthrow; rw [e3, e4, e6, e9]
      show (if _ then _ else _) = _
      rw [if_pos ⟨⟨⟨g1, hK⟩, g2, g3⟩, g4, Nat.le_of_ble_eq_true hc⟩]
    next => cases h3
  next => cases hd
/-! calls -/
/-- the method mj, called with as, returns v and leaves h'; or throws x -/
def zRet (L mj : Nat) (as : List Value) (h : zHp) (v : Option Value) (h' : zHp) : Prop := zW L mj 0 (zent mj as) [] h (fun o k => o = .inl v ∧ k = h')
def zThr (L mj : Nat) (as : List Value) (h : zHp) (x : Nat × Nat) (h' : zHp) : Prop := zW L mj 0 (zent mj as) [] h (fun o k => o = .inr x ∧ k = h')
theorem zDk_ok {mj kd : Nat} (h : zDk mi pc pc' mj kd = true) : ∃ i k, decode (zcd mi) pc = .ok (i, 3) ∧ zml (zoc mi) k = some mj ∧ pc + 3 = pc' ∧ ((zrk mj < zrk mi ∧ 8 + (zmx mj + 11) + zlo mj ≤ zlo mi) ∧ (zat mj = decide (kd = 2) ∧ mj < zNm)) ∧
    ((i = .invokevirtual k ∧ kd = 0 ∧ (zy mj).name ≠ "<init>") ∨ (i = .invokespecial k ∧ kd = 1 ∧ (zy mj).name = "<init>" ∧ zob (zoc mi) k = false) ∨ (i = .invokestatic k ∧ kd = 2 ∧ zac (zoc mi) k = false ∧ zmn (zoc mi) k = false)) := by
  unfold zDk at h
  split at h
  next i h1 =>
    rw [Bool.and_eq_true, Bool.and_eq_true, Bool.and_eq_true, Bool.and_eq_true, Bool.and_eq_true, Bool.and_eq_true, decide_eq_true_eq, decide_eq_true_eq, decide_eq_true_eq, decide_eq_true_eq, decide_eq_true_eq, beq_iff_eq] at h
    obtain ⟨⟨⟨h2, h3⟩, h4, h5⟩, ⟨h6, h7⟩, h8⟩ := h
    split at h8
    next k =>
      rw [Bool.and_eq_true, decide_eq_true_eq, Bool.not_eq_true', decide_eq_false_iff_not] at h8
      exact ⟨_, k, h1, h2, h3, ⟨⟨h4, h5⟩, h6, h7⟩, Or.inl ⟨rfl, h8.1, h8.2⟩⟩
    next k =>
      rw [Bool.and_eq_true, Bool.and_eq_true, decide_eq_true_eq, decide_eq_true_eq, Bool.not_eq_true'] at h8
      exact ⟨_, k, h1, h2, h3, ⟨⟨h4, h5⟩, h6, h7⟩, Or.inr (Or.inl ⟨rfl, h8.1.1, h8.1.2, h8.2⟩)⟩
    next k =>
      rw [Bool.and_eq_true, Bool.and_eq_true, decide_eq_true_eq, Bool.not_eq_true', Bool.not_eq_true'] at h8
      exact ⟨_, k, h1, h2, h3, ⟨⟨h4, h5⟩, h6, h7⟩, Or.inr (Or.inr ⟨rfl, h8.1.1, h8.1.2, h8.2⟩)⟩
    next => cases h8
  next => cases h
def znostk (i : Instr) : Bool := match i with | .invokevirtual _ => true | .invokespecial _ => true | .invokestatic _ => true | _ => false
theorem zstk_none {i : Instr} (h : znostk i = true) : zstk i st = none := by
  cases i <;> first | cases h | skip
  all_goals (unfold zstk; rfl)
theorem zx_call {mj kd : Nat} {as rest st : List Value} {h : zHp} (hd : zDk mi pc pc' mj kd = true) (hs : zcall mi mj (!decide (kd = 2)) L h st = some (.inr (.inl (mj, as, rest, 3))))
    (w : zW L mj 0 (zent mj as) [] h (fun o h' => match o with
      | .inl v => zW L mi pc' lv (v.toList ++ rest) h' Q
      | .inr x => (match zcatch mi pc x.1 with
        | some pc' => zW L mi pc' lv [.ref x.2] h' Q
        | none => zhd mi = [] ∧ Q (.inr x) h'))) : zW L mi pc lv st h Q := by
  obtain ⟨i, k, h1, h2, rfl, h4, h5⟩ := zDk_ok hd
  refine zw_call (len := 3) (mj := mj) (as := as) (rest := rest) ?_ w
  unfold zstep; rw [h1]
  rcases h5 with ⟨rfl, rfl, h6⟩ | ⟨rfl, rfl, h6, h7⟩ | ⟨rfl, rfl, h6, h7⟩
  · show (if zlok (.invokevirtual k) 3 = true then _ else none) = _
    rw [if_pos (by rfl)]
    have e : zins L mi pc lv st h (.invokevirtual k) 3 = zins2 L mi pc lv st h (.invokevirtual k) 3 := by unfold zins; rw [zstk_none (by rfl)]; rfl
    rw [e]; unfold zins2; dsimp only; rw [h2]; dsimp only
    rw [if_neg h6]; exact hs
  · show (if zlok (.invokespecial k) 3 = true then _ else none) = _
    rw [if_pos (by rfl)]
    have e : zins L mi pc lv st h (.invokespecial k) 3 = zins2 L mi pc lv st h (.invokespecial k) 3 := by unfold zins; rw [zstk_none (by rfl)]; rfl
    rw [e]; unfold zins2; dsimp only; rw [if_neg (by rw [h7]; decide), h2]; dsimp only
    rw [if_pos h6]; exact hs
  · show (if zlok (.invokestatic k) 3 = true then _ else none) = _
    rw [if_pos (by rfl)]
    have e : zins L mi pc lv st h (.invokestatic k) 3 = zins2 L mi pc lv st h (.invokestatic k) 3 := by unfold zins; rw [zstk_none (by rfl)]; rfl
    rw [e]; unfold zins2; dsimp only; rw [if_neg (by rw [h6]; decide), if_neg (by rw [h7]; decide), h2]; dsimp only
    exact hs
/-- the shape of the stack at a call -/
theorem zcall_v {mj kd b : Nat} {as rest : List Value} {h : zHp} (hd : zDk mi pc pc' mj kd = true) (hkd : decide (kd = 2) = false) (hn : as.length = znp mj) (hc : (zlg mj || as.all (fun v => v.category == 1)) = true) (hx : Nat.ble ((zexp as).length + 1) (zmx mj) = true) (hb : zk L h b = some (.inr (zoc mj))) (hr : Nat.ble (zcat rest) 8 = true) :
    zcall mi mj (!decide (kd = 2)) L h (as.reverse ++ .ref b :: rest) = some (.inr (.inl (mj, .ref b :: as, rest, 3))) := by
  obtain ⟨i, k, h1, h2, h3, h4, h5⟩ := zDk_ok hd
  have ht : ztake (znp mj) (as.reverse ++ .ref b :: rest) = some (as, .ref b :: rest) := by
    unfold ztake
    rw [if_pos (by rw [List.length_append, List.length_reverse, hn]; omega)]
    rw [← hn, List.take_left' (List.length_reverse ..), List.drop_left' (List.length_reverse ..), List.reverse_reverse]
  rw [hkd]
  unfold zcall
  rw [if_pos ⟨h4.1, by rw [h4.2.1, hkd]; rfl, h4.2.2⟩, ht]
  show (if _ ∧ (zexp as).length + 1 ≤ zmx mj + 0 then _ else none) = _
  rw [if_pos ⟨hc, by have := Nat.le_of_ble_eq_true hx; omega⟩]
  show (if _ ∧ _ then _ else none) = _
  rw [if_pos ⟨hb, Nat.le_of_ble_eq_true hr⟩]
theorem zcall_s {mj : Nat} {as rest : List Value} {h : zHp} (hd : zDk mi pc pc' mj 2 = true) (hn : as.length = znp mj) (hc : (zlg mj || as.all (fun v => v.category == 1)) = true) (hx : Nat.ble (zexp as).length (zmx mj) = true) (hr : Nat.ble (zcat rest) 8 = true) :
    zcall mi mj (!decide (2 = 2)) L h (as.reverse ++ rest) = some (.inr (.inl (mj, as, rest, 3))) := by
  obtain ⟨i, k, h1, h2, h3, h4, h5⟩ := zDk_ok hd
  have ht : ztake (znp mj) (as.reverse ++ rest) = some (as, rest) := by
    unfold ztake
    rw [if_pos (by rw [List.length_append, List.length_reverse, hn]; omega)]
    rw [← hn, List.take_left' (List.length_reverse ..), List.drop_left' (List.length_reverse ..), List.reverse_reverse]
  unfold zcall
  rw [if_pos ⟨h4.1, by rw [h4.2.1]; rfl, h4.2.2⟩, ht]
  show (if _ ∧ (zexp as).length + 1 ≤ zmx mj + 1 then _ else none) = _
  rw [if_pos ⟨hc, by have := Nat.le_of_ble_eq_true hx; omega⟩]
  show (if _ then _ else none) = _
  rw [if_pos (Nat.le_of_ble_eq_true hr)]
theorem zx_cv0I {mj kd b : Nat} {v : Int32} {rest : List Value} {h h' : zHp} (hd : zDk mi pc pc' mj kd = true) (hb : zk L h b = some (.inr (zoc mj))) (hr : zRet L mj (.ref b :: []) h (some (.int v)) h') (w : zW L mi pc' lv (.int v :: rest) h' Q) (hkd : decide (kd = 2) = false := by rfl) (hn : Nat.beq (znp mj) 0 = true := by rfl) (hc : (zlg mj || ([] : List Value).all (fun v => v.category == 1)) = true := by rfl) (hx : Nat.ble ((zexp []).length + 1) (zmx mj) = true := by rfl) (hl : Nat.ble (zcat rest) 8 = true := by rfl) : zW L mi pc lv (.ref b :: rest) h Q :=
  zx_call hd (zcall_v (as := []) hd hkd (Nat.eq_of_beq_eq_true hn).symm hc hx hb hl) (zW.mono hr (fun o k hq => by obtain ⟨rfl, rfl⟩ := hq; exact w))
theorem zx_cv0R {mj kd b : Nat} {v : Nat} {rest : List Value} {h h' : zHp} (hd : zDk mi pc pc' mj kd = true) (hb : zk L h b = some (.inr (zoc mj))) (hr : zRet L mj (.ref b :: []) h (some (.ref v)) h') (w : zW L mi pc' lv (.ref v :: rest) h' Q) (hkd : decide (kd = 2) = false := by rfl) (hn : Nat.beq (znp mj) 0 = true := by rfl) (hc : (zlg mj || ([] : List Value).all (fun v => v.category == 1)) = true := by rfl) (hx : Nat.ble ((zexp []).length + 1) (zmx mj) = true := by rfl) (hl : Nat.ble (zcat rest) 8 = true := by rfl) : zW L mi pc lv (.ref b :: rest) h Q :=
  zx_call hd (zcall_v (as := []) hd hkd (Nat.eq_of_beq_eq_true hn).symm hc hx hb hl) (zW.mono hr (fun o k hq => by obtain ⟨rfl, rfl⟩ := hq; exact w))
theorem zx_cv0V {mj kd b : Nat} {rest : List Value} {h h' : zHp} (hd : zDk mi pc pc' mj kd = true) (hb : zk L h b = some (.inr (zoc mj))) (hr : zRet L mj (.ref b :: []) h none h') (w : zW L mi pc' lv (rest) h' Q) (hkd : decide (kd = 2) = false := by rfl) (hn : Nat.beq (znp mj) 0 = true := by rfl) (hc : (zlg mj || ([] : List Value).all (fun v => v.category == 1)) = true := by rfl) (hx : Nat.ble ((zexp []).length + 1) (zmx mj) = true := by rfl) (hl : Nat.ble (zcat rest) 8 = true := by rfl) : zW L mi pc lv (.ref b :: rest) h Q :=
  zx_call hd (zcall_v (as := []) hd hkd (Nat.eq_of_beq_eq_true hn).symm hc hx hb hl) (zW.mono hr (fun o k hq => by obtain ⟨rfl, rfl⟩ := hq; exact w))
theorem zx_ct0v {mj kd b x y : Nat} {rest : List Value} {h h' : zHp} (hd : zDk mi pc pc' mj kd = true) (hb : zk L h b = some (.inr (zoc mj))) (hr : zThr L mj (.ref b :: []) h (x, y) h') (w : match zcatch mi pc x with | some pq => zW L mi pq lv [.ref y] h' Q | none => zhd mi = [] ∧ Q (.inr (x, y)) h') (hkd : decide (kd = 2) = false := by rfl) (hn : Nat.beq (znp mj) 0 = true := by rfl) (hc : (zlg mj || ([] : List Value).all (fun v => v.category == 1)) = true := by rfl) (hx : Nat.ble ((zexp []).length + 1) (zmx mj) = true := by rfl) (hl : Nat.ble (zcat rest) 8 = true := by rfl) : zW L mi pc lv (.ref b :: rest) h Q :=
  zx_call hd (zcall_v (as := []) hd hkd (Nat.eq_of_beq_eq_true hn).symm hc hx hb hl) (zW.mono hr (fun o k hq => by obtain ⟨rfl, rfl⟩ := hq; exact w))
theorem zx_cv1I {mj kd b : Nat} {a1 : Value} {v : Int32} {rest : List Value} {h h' : zHp} (hd : zDk mi pc pc' mj kd = true) (hb : zk L h b = some (.inr (zoc mj))) (hr : zRet L mj (.ref b :: [a1]) h (some (.int v)) h') (w : zW L mi pc' lv (.int v :: rest) h' Q) (hkd : decide (kd = 2) = false := by rfl) (hn : Nat.beq (znp mj) 1 = true := by rfl) (hc : (zlg mj || ([a1] : List Value).all (fun v => v.category == 1)) = true := by rfl) (hx : Nat.ble ((zexp [a1]).length + 1) (zmx mj) = true := by rfl) (hl : Nat.ble (zcat rest) 8 = true := by rfl) : zW L mi pc lv (a1 :: .ref b :: rest) h Q :=
  zx_call hd (zcall_v (as := [a1]) hd hkd (Nat.eq_of_beq_eq_true hn).symm hc hx hb hl) (zW.mono hr (fun o k hq => by obtain ⟨rfl, rfl⟩ := hq; exact w))
theorem zx_cs1I {mj : Nat} {a1 : Value} {v : Int32} {rest : List Value} {h h' : zHp} (hd : zDk mi pc pc' mj 2 = true) (hr : zRet L mj [a1] h (some (.int v)) h') (w : zW L mi pc' lv (.int v :: rest) h' Q) (hn : Nat.beq (znp mj) 1 = true := by rfl) (hc : (zlg mj || ([a1] : List Value).all (fun v => v.category == 1)) = true := by rfl) (hx : Nat.ble (zexp [a1]).length (zmx mj) = true := by rfl) (hl : Nat.ble (zcat rest) 8 = true := by rfl) : zW L mi pc lv (a1 :: rest) h Q :=
  zx_call hd (zcall_s (as := [a1]) hd (Nat.eq_of_beq_eq_true hn).symm hc hx hl) (zW.mono hr (fun o k hq => by obtain ⟨rfl, rfl⟩ := hq; exact w))
theorem zx_cv1R {mj kd b : Nat} {a1 : Value} {v : Nat} {rest : List Value} {h h' : zHp} (hd : zDk mi pc pc' mj kd = true) (hb : zk L h b = some (.inr (zoc mj))) (hr : zRet L mj (.ref b :: [a1]) h (some (.ref v)) h') (w : zW L mi pc' lv (.ref v :: rest) h' Q) (hkd : decide (kd = 2) = false := by rfl) (hn : Nat.beq (znp mj) 1 = true := by rfl) (hc : (zlg mj || ([a1] : List Value).all (fun v => v.category == 1)) = true := by rfl) (hx : Nat.ble ((zexp [a1]).length + 1) (zmx mj) = true := by rfl) (hl : Nat.ble (zcat rest) 8 = true := by rfl) : zW L mi pc lv (a1 :: .ref b :: rest) h Q :=
  zx_call hd (zcall_v (as := [a1]) hd hkd (Nat.eq_of_beq_eq_true hn).symm hc hx hb hl) (zW.mono hr (fun o k hq => by obtain ⟨rfl, rfl⟩ := hq; exact w))
theorem zx_cs1R {mj : Nat} {a1 : Value} {v : Nat} {rest : List Value} {h h' : zHp} (hd : zDk mi pc pc' mj 2 = true) (hr : zRet L mj [a1] h (some (.ref v)) h') (w : zW L mi pc' lv (.ref v :: rest) h' Q) (hn : Nat.beq (znp mj) 1 = true := by rfl) (hc : (zlg mj || ([a1] : List Value).all (fun v => v.category == 1)) = true := by rfl) (hx : Nat.ble (zexp [a1]).length (zmx mj) = true := by rfl) (hl : Nat.ble (zcat rest) 8 = true := by rfl) : zW L mi pc lv (a1 :: rest) h Q :=
  zx_call hd (zcall_s (as := [a1]) hd (Nat.eq_of_beq_eq_true hn).symm hc hx hl) (zW.mono hr (fun o k hq => by obtain ⟨rfl, rfl⟩ := hq; exact w))
theorem zx_cv1V {mj kd b : Nat} {a1 : Value} {rest : List Value} {h h' : zHp} (hd : zDk mi pc pc' mj kd = true) (hb : zk L h b = some (.inr (zoc mj))) (hr : zRet L mj (.ref b :: [a1]) h none h') (w : zW L mi pc' lv (rest) h' Q) (hkd : decide (kd = 2) = false := by rfl) (hn : Nat.beq (znp mj) 1 = true := by rfl) (hc : (zlg mj || ([a1] : List Value).all (fun v => v.category == 1)) = true := by rfl) (hx : Nat.ble ((zexp [a1]).length + 1) (zmx mj) = true := by rfl) (hl : Nat.ble (zcat rest) 8 = true := by rfl) : zW L mi pc lv (a1 :: .ref b :: rest) h Q :=
  zx_call hd (zcall_v (as := [a1]) hd hkd (Nat.eq_of_beq_eq_true hn).symm hc hx hb hl) (zW.mono hr (fun o k hq => by obtain ⟨rfl, rfl⟩ := hq; exact w))
theorem zx_cs1V {mj : Nat} {a1 : Value} {rest : List Value} {h h' : zHp} (hd : zDk mi pc pc' mj 2 = true) (hr : zRet L mj [a1] h none h') (w : zW L mi pc' lv (rest) h' Q) (hn : Nat.beq (znp mj) 1 = true := by rfl) (hc : (zlg mj || ([a1] : List Value).all (fun v => v.category == 1)) = true := by rfl) (hx : Nat.ble (zexp [a1]).length (zmx mj) = true := by rfl) (hl : Nat.ble (zcat rest) 8 = true := by rfl) : zW L mi pc lv (a1 :: rest) h Q :=
  zx_call hd (zcall_s (as := [a1]) hd (Nat.eq_of_beq_eq_true hn).symm hc hx hl) (zW.mono hr (fun o k hq => by obtain ⟨rfl, rfl⟩ := hq; exact w))
theorem zx_ct1v {mj kd b x y : Nat} {a1 : Value} {rest : List Value} {h h' : zHp} (hd : zDk mi pc pc' mj kd = true) (hb : zk L h b = some (.inr (zoc mj))) (hr : zThr L mj (.ref b :: [a1]) h (x, y) h') (w : match zcatch mi pc x with | some pq => zW L mi pq lv [.ref y] h' Q | none => zhd mi = [] ∧ Q (.inr (x, y)) h') (hkd : decide (kd = 2) = false := by rfl) (hn : Nat.beq (znp mj) 1 = true := by rfl) (hc : (zlg mj || ([a1] : List Value).all (fun v => v.category == 1)) = true := by rfl) (hx : Nat.ble ((zexp [a1]).length + 1) (zmx mj) = true := by rfl) (hl : Nat.ble (zcat rest) 8 = true := by rfl) : zW L mi pc lv (a1 :: .ref b :: rest) h Q :=
  zx_call hd (zcall_v (as := [a1]) hd hkd (Nat.eq_of_beq_eq_true hn).symm hc hx hb hl) (zW.mono hr (fun o k hq => by obtain ⟨rfl, rfl⟩ := hq; exact w))
theorem zx_ct1s {mj x y : Nat} {a1 : Value} {rest : List Value} {h h' : zHp} (hd : zDk mi pc pc' mj 2 = true) (hr : zThr L mj [a1] h (x, y) h') (w : match zcatch mi pc x with | some pq => zW L mi pq lv [.ref y] h' Q | none => zhd mi = [] ∧ Q (.inr (x, y)) h') (hn : Nat.beq (znp mj) 1 = true := by rfl) (hc : (zlg mj || ([a1] : List Value).all (fun v => v.category == 1)) = true := by rfl) (hx : Nat.ble (zexp [a1]).length (zmx mj) = true := by rfl) (hl : Nat.ble (zcat rest) 8 = true := by rfl) : zW L mi pc lv (a1 :: rest) h Q :=
  zx_call hd (zcall_s (as := [a1]) hd (Nat.eq_of_beq_eq_true hn).symm hc hx hl) (zW.mono hr (fun o k hq => by obtain ⟨rfl, rfl⟩ := hq; exact w))
theorem zx_cv2I {mj kd b : Nat} {a1 a2 : Value} {v : Int32} {rest : List Value} {h h' : zHp} (hd : zDk mi pc pc' mj kd = true) (hb : zk L h b = some (.inr (zoc mj))) (hr : zRet L mj (.ref b :: [a1, a2]) h (some (.int v)) h') (w : zW L mi pc' lv (.int v :: rest) h' Q) (hkd : decide (kd = 2) = false := by rfl) (hn : Nat.beq (znp mj) 2 = true := by rfl) (hc : (zlg mj || ([a1, a2] : List Value).all (fun v => v.category == 1)) = true := by rfl) (hx : Nat.ble ((zexp [a1, a2]).length + 1) (zmx mj) = true := by rfl) (hl : Nat.ble (zcat rest) 8 = true := by rfl) : zW L mi pc lv (a2 :: a1 :: .ref b :: rest) h Q :=
  zx_call hd (zcall_v (as := [a1, a2]) hd hkd (Nat.eq_of_beq_eq_true hn).symm hc hx hb hl) (zW.mono hr (fun o k hq => by obtain ⟨rfl, rfl⟩ := hq; exact w))
theorem zx_cs2I {mj : Nat} {a1 a2 : Value} {v : Int32} {rest : List Value} {h h' : zHp} (hd : zDk mi pc pc' mj 2 = true) (hr : zRet L mj [a1, a2] h (some (.int v)) h') (w : zW L mi pc' lv (.int v :: rest) h' Q) (hn : Nat.beq (znp mj) 2 = true := by rfl) (hc : (zlg mj || ([a1, a2] : List Value).all (fun v => v.category == 1)) = true := by rfl) (hx : Nat.ble (zexp [a1, a2]).length (zmx mj) = true := by rfl) (hl : Nat.ble (zcat rest) 8 = true := by rfl) : zW L mi pc lv (a2 :: a1 :: rest) h Q :=
  zx_call hd (zcall_s (as := [a1, a2]) hd (Nat.eq_of_beq_eq_true hn).symm hc hx hl) (zW.mono hr (fun o k hq => by obtain ⟨rfl, rfl⟩ := hq; exact w))
theorem zx_cv2R {mj kd b : Nat} {a1 a2 : Value} {v : Nat} {rest : List Value} {h h' : zHp} (hd : zDk mi pc pc' mj kd = true) (hb : zk L h b = some (.inr (zoc mj))) (hr : zRet L mj (.ref b :: [a1, a2]) h (some (.ref v)) h') (w : zW L mi pc' lv (.ref v :: rest) h' Q) (hkd : decide (kd = 2) = false := by rfl) (hn : Nat.beq (znp mj) 2 = true := by rfl) (hc : (zlg mj || ([a1, a2] : List Value).all (fun v => v.category == 1)) = true := by rfl) (hx : Nat.ble ((zexp [a1, a2]).length + 1) (zmx mj) = true := by rfl) (hl : Nat.ble (zcat rest) 8 = true := by rfl) : zW L mi pc lv (a2 :: a1 :: .ref b :: rest) h Q :=
  zx_call hd (zcall_v (as := [a1, a2]) hd hkd (Nat.eq_of_beq_eq_true hn).symm hc hx hb hl) (zW.mono hr (fun o k hq => by obtain ⟨rfl, rfl⟩ := hq; exact w))
theorem zx_cs2R {mj : Nat} {a1 a2 : Value} {v : Nat} {rest : List Value} {h h' : zHp} (hd : zDk mi pc pc' mj 2 = true) (hr : zRet L mj [a1, a2] h (some (.ref v)) h') (w : zW L mi pc' lv (.ref v :: rest) h' Q) (hn : Nat.beq (znp mj) 2 = true := by rfl) (hc : (zlg mj || ([a1, a2] : List Value).all (fun v => v.category == 1)) = true := by rfl) (hx : Nat.ble (zexp [a1, a2]).length (zmx mj) = true := by rfl) (hl : Nat.ble (zcat rest) 8 = true := by rfl) : zW L mi pc lv (a2 :: a1 :: rest) h Q :=
  zx_call hd (zcall_s (as := [a1, a2]) hd (Nat.eq_of_beq_eq_true hn).symm hc hx hl) (zW.mono hr (fun o k hq => by obtain ⟨rfl, rfl⟩ := hq; exact w))
theorem zx_cv2V {mj kd b : Nat} {a1 a2 : Value} {rest : List Value} {h h' : zHp} (hd : zDk mi pc pc' mj kd = true) (hb : zk L h b = some (.inr (zoc mj))) (hr : zRet L mj (.ref b :: [a1, a2]) h none h') (w : zW L mi pc' lv (rest) h' Q) (hkd : decide (kd = 2) = false := by rfl) (hn : Nat.beq (znp mj) 2 = true := by rfl) (hc : (zlg mj || ([a1, a2] : List Value).all (fun v => v.category == 1)) = true := by rfl) (hx : Nat.ble ((zexp [a1, a2]).length + 1) (zmx mj) = true := by rfl) (hl : Nat.ble (zcat rest) 8 = true := by rfl) : zW L mi pc lv (a2 :: a1 :: .ref b :: rest) h Q :=
  zx_call hd (zcall_v (as := [a1, a2]) hd hkd (Nat.eq_of_beq_eq_true hn).symm hc hx hb hl) (zW.mono hr (fun o k hq => by obtain ⟨rfl, rfl⟩ := hq; exact w))
theorem zx_cs2V {mj : Nat} {a1 a2 : Value} {rest : List Value} {h h' : zHp} (hd : zDk mi pc pc' mj 2 = true) (hr : zRet L mj [a1, a2] h none h') (w : zW L mi pc' lv (rest) h' Q) (hn : Nat.beq (znp mj) 2 = true := by rfl) (hc : (zlg mj || ([a1, a2] : List Value).all (fun v => v.category == 1)) = true := by rfl) (hx : Nat.ble (zexp [a1, a2]).length (zmx mj) = true := by rfl) (hl : Nat.ble (zcat rest) 8 = true := by rfl) : zW L mi pc lv (a2 :: a1 :: rest) h Q :=
  zx_call hd (zcall_s (as := [a1, a2]) hd (Nat.eq_of_beq_eq_true hn).symm hc hx hl) (zW.mono hr (fun o k hq => by obtain ⟨rfl, rfl⟩ := hq; exact w))
theorem zx_ct2v {mj kd b x y : Nat} {a1 a2 : Value} {rest : List Value} {h h' : zHp} (hd : zDk mi pc pc' mj kd = true) (hb : zk L h b = some (.inr (zoc mj))) (hr : zThr L mj (.ref b :: [a1, a2]) h (x, y) h') (w : match zcatch mi pc x with | some pq => zW L mi pq lv [.ref y] h' Q | none => zhd mi = [] ∧ Q (.inr (x, y)) h') (hkd : decide (kd = 2) = false := by rfl) (hn : Nat.beq (znp mj) 2 = true := by rfl) (hc : (zlg mj || ([a1, a2] : List Value).all (fun v => v.category == 1)) = true := by rfl) (hx : Nat.ble ((zexp [a1, a2]).length + 1) (zmx mj) = true := by rfl) (hl : Nat.ble (zcat rest) 8 = true := by rfl) : zW L mi pc lv (a2 :: a1 :: .ref b :: rest) h Q :=
  zx_call hd (zcall_v (as := [a1, a2]) hd hkd (Nat.eq_of_beq_eq_true hn).symm hc hx hb hl) (zW.mono hr (fun o k hq => by obtain ⟨rfl, rfl⟩ := hq; exact w))
theorem zx_ct2s {mj x y : Nat} {a1 a2 : Value} {rest : List Value} {h h' : zHp} (hd : zDk mi pc pc' mj 2 = true) (hr : zThr L mj [a1, a2] h (x, y) h') (w : match zcatch mi pc x with | some pq => zW L mi pq lv [.ref y] h' Q | none => zhd mi = [] ∧ Q (.inr (x, y)) h') (hn : Nat.beq (znp mj) 2 = true := by rfl) (hc : (zlg mj || ([a1, a2] : List Value).all (fun v => v.category == 1)) = true := by rfl) (hx : Nat.ble (zexp [a1, a2]).length (zmx mj) = true := by rfl) (hl : Nat.ble (zcat rest) 8 = true := by rfl) : zW L mi pc lv (a2 :: a1 :: rest) h Q :=
  zx_call hd (zcall_s (as := [a1, a2]) hd (Nat.eq_of_beq_eq_true hn).symm hc hx hl) (zW.mono hr (fun o k hq => by obtain ⟨rfl, rfl⟩ := hq; exact w))
theorem zx_cv3I {mj kd b : Nat} {a1 a2 a3 : Value} {v : Int32} {rest : List Value} {h h' : zHp} (hd : zDk mi pc pc' mj kd = true) (hb : zk L h b = some (.inr (zoc mj))) (hr : zRet L mj (.ref b :: [a1, a2, a3]) h (some (.int v)) h') (w : zW L mi pc' lv (.int v :: rest) h' Q) (hkd : decide (kd = 2) = false := by rfl) (hn : Nat.beq (znp mj) 3 = true := by rfl) (hc : (zlg mj || ([a1, a2, a3] : List Value).all (fun v => v.category == 1)) = true := by rfl) (hx : Nat.ble ((zexp [a1, a2, a3]).length + 1) (zmx mj) = true := by rfl) (hl : Nat.ble (zcat rest) 8 = true := by rfl) : zW L mi pc lv (a3 :: a2 :: a1 :: .ref b :: rest) h Q :=
  zx_call hd (zcall_v (as := [a1, a2, a3]) hd hkd (Nat.eq_of_beq_eq_true hn).symm hc hx hb hl) (zW.mono hr (fun o k hq => by obtain ⟨rfl, rfl⟩ := hq; exact w))
theorem zx_cs3I {mj : Nat} {a1 a2 a3 : Value} {v : Int32} {rest : List Value} {h h' : zHp} (hd : zDk mi pc pc' mj 2 = true) (hr : zRet L mj [a1, a2, a3] h (some (.int v)) h') (w : zW L mi pc' lv (.int v :: rest) h' Q) (hn : Nat.beq (znp mj) 3 = true := by rfl) (hc : (zlg mj || ([a1, a2, a3] : List Value).all (fun v => v.category == 1)) = true := by rfl) (hx : Nat.ble (zexp [a1, a2, a3]).length (zmx mj) = true := by rfl) (hl : Nat.ble (zcat rest) 8 = true := by rfl) : zW L mi pc lv (a3 :: a2 :: a1 :: rest) h Q :=
  zx_call hd (zcall_s (as := [a1, a2, a3]) hd (Nat.eq_of_beq_eq_true hn).symm hc hx hl) (zW.mono hr (fun o k hq => by obtain ⟨rfl, rfl⟩ := hq; exact w))
theorem zx_cv3R {mj kd b : Nat} {a1 a2 a3 : Value} {v : Nat} {rest : List Value} {h h' : zHp} (hd : zDk mi pc pc' mj kd = true) (hb : zk L h b = some (.inr (zoc mj))) (hr : zRet L mj (.ref b :: [a1, a2, a3]) h (some (.ref v)) h') (w : zW L mi pc' lv (.ref v :: rest) h' Q) (hkd : decide (kd = 2) = false := by rfl) (hn : Nat.beq (znp mj) 3 = true := by rfl) (hc : (zlg mj || ([a1, a2, a3] : List Value).all (fun v => v.category == 1)) = true := by rfl) (hx : Nat.ble ((zexp [a1, a2, a3]).length + 1) (zmx mj) = true := by rfl) (hl : Nat.ble (zcat rest) 8 = true := by rfl) : zW L mi pc lv (a3 :: a2 :: a1 :: .ref b :: rest) h Q :=
  zx_call hd (zcall_v (as := [a1, a2, a3]) hd hkd (Nat.eq_of_beq_eq_true hn).symm hc hx hb hl) (zW.mono hr (fun o k hq => by obtain ⟨rfl, rfl⟩ := hq; exact w))
theorem zx_cs3R {mj : Nat} {a1 a2 a3 : Value} {v : Nat} {rest : List Value} {h h' : zHp} (hd : zDk mi pc pc' mj 2 = true) (hr : zRet L mj [a1, a2, a3] h (some (.ref v)) h') (w : zW L mi pc' lv (.ref v :: rest) h' Q) (hn : Nat.beq (znp mj) 3 = true := by rfl) (hc : (zlg mj || ([a1, a2, a3] : List Value).all (fun v => v.category == 1)) = true := by rfl) (hx : Nat.ble (zexp [a1, a2, a3]).length (zmx mj) = true := by rfl) (hl : Nat.ble (zcat rest) 8 = true := by rfl) : zW L mi pc lv (a3 :: a2 :: a1 :: rest) h Q :=
  zx_call hd (zcall_s (as := [a1, a2, a3]) hd (Nat.eq_of_beq_eq_true hn).symm hc hx hl) (zW.mono hr (fun o k hq => by obtain ⟨rfl, rfl⟩ := hq; exact w))
theorem zx_cv3V {mj kd b : Nat} {a1 a2 a3 : Value} {rest : List Value} {h h' : zHp} (hd : zDk mi pc pc' mj kd = true) (hb : zk L h b = some (.inr (zoc mj))) (hr : zRet L mj (.ref b :: [a1, a2, a3]) h none h') (w : zW L mi pc' lv (rest) h' Q) (hkd : decide (kd = 2) = false := by rfl) (hn : Nat.beq (znp mj) 3 = true := by rfl) (hc : (zlg mj || ([a1, a2, a3] : List Value).all (fun v => v.category == 1)) = true := by rfl) (hx : Nat.ble ((zexp [a1, a2, a3]).length + 1) (zmx mj) = true := by rfl) (hl : Nat.ble (zcat rest) 8 = true := by rfl) : zW L mi pc lv (a3 :: a2 :: a1 :: .ref b :: rest) h Q :=
  zx_call hd (zcall_v (as := [a1, a2, a3]) hd hkd (Nat.eq_of_beq_eq_true hn).symm hc hx hb hl) (zW.mono hr (fun o k hq => by obtain ⟨rfl, rfl⟩ := hq; exact w))
theorem zx_cs3V {mj : Nat} {a1 a2 a3 : Value} {rest : List Value} {h h' : zHp} (hd : zDk mi pc pc' mj 2 = true) (hr : zRet L mj [a1, a2, a3] h none h') (w : zW L mi pc' lv (rest) h' Q) (hn : Nat.beq (znp mj) 3 = true := by rfl) (hc : (zlg mj || ([a1, a2, a3] : List Value).all (fun v => v.category == 1)) = true := by rfl) (hx : Nat.ble (zexp [a1, a2, a3]).length (zmx mj) = true := by rfl) (hl : Nat.ble (zcat rest) 8 = true := by rfl) : zW L mi pc lv (a3 :: a2 :: a1 :: rest) h Q :=
  zx_call hd (zcall_s (as := [a1, a2, a3]) hd (Nat.eq_of_beq_eq_true hn).symm hc hx hl) (zW.mono hr (fun o k hq => by obtain ⟨rfl, rfl⟩ := hq; exact w))
theorem zx_ct3v {mj kd b x y : Nat} {a1 a2 a3 : Value} {rest : List Value} {h h' : zHp} (hd : zDk mi pc pc' mj kd = true) (hb : zk L h b = some (.inr (zoc mj))) (hr : zThr L mj (.ref b :: [a1, a2, a3]) h (x, y) h') (w : match zcatch mi pc x with | some pq => zW L mi pq lv [.ref y] h' Q | none => zhd mi = [] ∧ Q (.inr (x, y)) h') (hkd : decide (kd = 2) = false := by rfl) (hn : Nat.beq (znp mj) 3 = true := by rfl) (hc : (zlg mj || ([a1, a2, a3] : List Value).all (fun v => v.category == 1)) = true := by rfl) (hx : Nat.ble ((zexp [a1, a2, a3]).length + 1) (zmx mj) = true := by rfl) (hl : Nat.ble (zcat rest) 8 = true := by rfl) : zW L mi pc lv (a3 :: a2 :: a1 :: .ref b :: rest) h Q :=
  zx_call hd (zcall_v (as := [a1, a2, a3]) hd hkd (Nat.eq_of_beq_eq_true hn).symm hc hx hb hl) (zW.mono hr (fun o k hq => by obtain ⟨rfl, rfl⟩ := hq; exact w))
theorem zx_ct3s {mj x y : Nat} {a1 a2 a3 : Value} {rest : List Value} {h h' : zHp} (hd : zDk mi pc pc' mj 2 = true) (hr : zThr L mj [a1, a2, a3] h (x, y) h') (w : match zcatch mi pc x with | some pq => zW L mi pq lv [.ref y] h' Q | none => zhd mi = [] ∧ Q (.inr (x, y)) h') (hn : Nat.beq (znp mj) 3 = true := by rfl) (hc : (zlg mj || ([a1, a2, a3] : List Value).all (fun v => v.category == 1)) = true := by rfl) (hx : Nat.ble (zexp [a1, a2, a3]).length (zmx mj) = true := by rfl) (hl : Nat.ble (zcat rest) 8 = true := by rfl) : zW L mi pc lv (a3 :: a2 :: a1 :: rest) h Q :=
  zx_call hd (zcall_s (as := [a1, a2, a3]) hd (Nat.eq_of_beq_eq_true hn).symm hc hx hl) (zW.mono hr (fun o k hq => by obtain ⟨rfl, rfl⟩ := hq; exact w))
theorem zx_cv4I {mj kd b : Nat} {a1 a2 a3 a4 : Value} {v : Int32} {rest : List Value} {h h' : zHp} (hd : zDk mi pc pc' mj kd = true) (hb : zk L h b = some (.inr (zoc mj))) (hr : zRet L mj (.ref b :: [a1, a2, a3, a4]) h (some (.int v)) h') (w : zW L mi pc' lv (.int v :: rest) h' Q) (hkd : decide (kd = 2) = false := by rfl) (hn : Nat.beq (znp mj) 4 = true := by rfl) (hc : (zlg mj || ([a1, a2, a3, a4] : List Value).all (fun v => v.category == 1)) = true := by rfl) (hx : Nat.ble ((zexp [a1, a2, a3, a4]).length + 1) (zmx mj) = true := by rfl) (hl : Nat.ble (zcat rest) 8 = true := by rfl) : zW L mi pc lv (a4 :: a3 :: a2 :: a1 :: .ref b :: rest) h Q :=
  zx_call hd (zcall_v (as := [a1, a2, a3, a4]) hd hkd (Nat.eq_of_beq_eq_true hn).symm hc hx hb hl) (zW.mono hr (fun o k hq => by obtain ⟨rfl, rfl⟩ := hq; exact w))
theorem zx_cs4I {mj : Nat} {a1 a2 a3 a4 : Value} {v : Int32} {rest : List Value} {h h' : zHp} (hd : zDk mi pc pc' mj 2 = true) (hr : zRet L mj [a1, a2, a3, a4] h (some (.int v)) h') (w : zW L mi pc' lv (.int v :: rest) h' Q) (hn : Nat.beq (znp mj) 4 = true := by rfl) (hc : (zlg mj || ([a1, a2, a3, a4] : List Value).all (fun v => v.category == 1)) = true := by rfl) (hx : Nat.ble (zexp [a1, a2, a3, a4]).length (zmx mj) = true := by rfl) (hl : Nat.ble (zcat rest) 8 = true := by rfl) : zW L mi pc lv (a4 :: a3 :: a2 :: a1 :: rest) h Q :=
  zx_call hd (zcall_s (as := [a1, a2, a3, a4]) hd (Nat.eq_of_beq_eq_true hn).symm hc hx hl) (zW.mono hr (fun o k hq => by obtain ⟨rfl, rfl⟩ := hq; exact w))
theorem zx_cv4R {mj kd b : Nat} {a1 a2 a3 a4 : Value} {v : Nat} {rest : List Value} {h h' : zHp} (hd : zDk mi pc pc' mj kd = true) (hb : zk L h b = some (.inr (zoc mj))) (hr : zRet L mj (.ref b :: [a1, a2, a3, a4]) h (some (.ref v)) h') (w : zW L mi pc' lv (.ref v :: rest) h' Q) (hkd : decide (kd = 2) = false := by rfl) (hn : Nat.beq (znp mj) 4 = true := by rfl) (hc : (zlg mj || ([a1, a2, a3, a4] : List Value).all (fun v => v.category == 1)) = true := by rfl) (hx : Nat.ble ((zexp [a1, a2, a3, a4]).length + 1) (zmx mj) = true := by rfl) (hl : Nat.ble (zcat rest) 8 = true := by rfl) : zW L mi pc lv (a4 :: a3 :: a2 :: a1 :: .ref b :: rest) h Q :=
  zx_call hd (zcall_v (as := [a1, a2, a3, a4]) hd hkd (Nat.eq_of_beq_eq_true hn).symm hc hx hb hl) (zW.mono hr (fun o k hq => by obtain ⟨rfl, rfl⟩ := hq; exact w))
theorem zx_cs4R {mj : Nat} {a1 a2 a3 a4 : Value} {v : Nat} {rest : List Value} {h h' : zHp} (hd : zDk mi pc pc' mj 2 = true) (hr : zRet L mj [a1, a2, a3, a4] h (some (.ref v)) h') (w : zW L mi pc' lv (.ref v :: rest) h' Q) (hn : Nat.beq (znp mj) 4 = true := by rfl) (hc : (zlg mj || ([a1, a2, a3, a4] : List Value).all (fun v => v.category == 1)) = true := by rfl) (hx : Nat.ble (zexp [a1, a2, a3, a4]).length (zmx mj) = true := by rfl) (hl : Nat.ble (zcat rest) 8 = true := by rfl) : zW L mi pc lv (a4 :: a3 :: a2 :: a1 :: rest) h Q :=
  zx_call hd (zcall_s (as := [a1, a2, a3, a4]) hd (Nat.eq_of_beq_eq_true hn).symm hc hx hl) (zW.mono hr (fun o k hq => by obtain ⟨rfl, rfl⟩ := hq; exact w))
theorem zx_cv4V {mj kd b : Nat} {a1 a2 a3 a4 : Value} {rest : List Value} {h h' : zHp} (hd : zDk mi pc pc' mj kd = true) (hb : zk L h b = some (.inr (zoc mj))) (hr : zRet L mj (.ref b :: [a1, a2, a3, a4]) h none h') (w : zW L mi pc' lv (rest) h' Q) (hkd : decide (kd = 2) = false := by rfl) (hn : Nat.beq (znp mj) 4 = true := by rfl) (hc : (zlg mj || ([a1, a2, a3, a4] : List Value).all (fun v => v.category == 1)) = true := by rfl) (hx : Nat.ble ((zexp [a1, a2, a3, a4]).length + 1) (zmx mj) = true := by rfl) (hl : Nat.ble (zcat rest) 8 = true := by rfl) : zW L mi pc lv (a4 :: a3 :: a2 :: a1 :: .ref b :: rest) h Q :=
  zx_call hd (zcall_v (as := [a1, a2, a3, a4]) hd hkd (Nat.eq_of_beq_eq_true hn).symm hc hx hb hl) (zW.mono hr (fun o k hq => by obtain ⟨rfl, rfl⟩ := hq; exact w))
theorem zx_cs4V {mj : Nat} {a1 a2 a3 a4 : Value} {rest : List Value} {h h' : zHp} (hd : zDk mi pc pc' mj 2 = true) (hr : zRet L mj [a1, a2, a3, a4] h none h') (w : zW L mi pc' lv (rest) h' Q) (hn : Nat.beq (znp mj) 4 = true := by rfl) (hc : (zlg mj || ([a1, a2, a3, a4] : List Value).all (fun v => v.category == 1)) = true := by rfl) (hx : Nat.ble (zexp [a1, a2, a3, a4]).length (zmx mj) = true := by rfl) (hl : Nat.ble (zcat rest) 8 = true := by rfl) : zW L mi pc lv (a4 :: a3 :: a2 :: a1 :: rest) h Q :=
  zx_call hd (zcall_s (as := [a1, a2, a3, a4]) hd (Nat.eq_of_beq_eq_true hn).symm hc hx hl) (zW.mono hr (fun o k hq => by obtain ⟨rfl, rfl⟩ := hq; exact w))
theorem zx_ct4v {mj kd b x y : Nat} {a1 a2 a3 a4 : Value} {rest : List Value} {h h' : zHp} (hd : zDk mi pc pc' mj kd = true) (hb : zk L h b = some (.inr (zoc mj))) (hr : zThr L mj (.ref b :: [a1, a2, a3, a4]) h (x, y) h') (w : match zcatch mi pc x with | some pq => zW L mi pq lv [.ref y] h' Q | none => zhd mi = [] ∧ Q (.inr (x, y)) h') (hkd : decide (kd = 2) = false := by rfl) (hn : Nat.beq (znp mj) 4 = true := by rfl) (hc : (zlg mj || ([a1, a2, a3, a4] : List Value).all (fun v => v.category == 1)) = true := by rfl) (hx : Nat.ble ((zexp [a1, a2, a3, a4]).length + 1) (zmx mj) = true := by rfl) (hl : Nat.ble (zcat rest) 8 = true := by rfl) : zW L mi pc lv (a4 :: a3 :: a2 :: a1 :: .ref b :: rest) h Q :=
  zx_call hd (zcall_v (as := [a1, a2, a3, a4]) hd hkd (Nat.eq_of_beq_eq_true hn).symm hc hx hb hl) (zW.mono hr (fun o k hq => by obtain ⟨rfl, rfl⟩ := hq; exact w))
theorem zx_ct4s {mj x y : Nat} {a1 a2 a3 a4 : Value} {rest : List Value} {h h' : zHp} (hd : zDk mi pc pc' mj 2 = true) (hr : zThr L mj [a1, a2, a3, a4] h (x, y) h') (w : match zcatch mi pc x with | some pq => zW L mi pq lv [.ref y] h' Q | none => zhd mi = [] ∧ Q (.inr (x, y)) h') (hn : Nat.beq (znp mj) 4 = true := by rfl) (hc : (zlg mj || ([a1, a2, a3, a4] : List Value).all (fun v => v.category == 1)) = true := by rfl) (hx : Nat.ble (zexp [a1, a2, a3, a4]).length (zmx mj) = true := by rfl) (hl : Nat.ble (zcat rest) 8 = true := by rfl) : zW L mi pc lv (a4 :: a3 :: a2 :: a1 :: rest) h Q :=
  zx_call hd (zcall_s (as := [a1, a2, a3, a4]) hd (Nat.eq_of_beq_eq_true hn).symm hc hx hl) (zW.mono hr (fun o k hq => by obtain ⟨rfl, rfl⟩ := hq; exact w))
theorem zx_cv5I {mj kd b : Nat} {a1 a2 a3 a4 a5 : Value} {v : Int32} {rest : List Value} {h h' : zHp} (hd : zDk mi pc pc' mj kd = true) (hb : zk L h b = some (.inr (zoc mj))) (hr : zRet L mj (.ref b :: [a1, a2, a3, a4, a5]) h (some (.int v)) h') (w : zW L mi pc' lv (.int v :: rest) h' Q) (hkd : decide (kd = 2) = false := by rfl) (hn : Nat.beq (znp mj) 5 = true := by rfl) (hc : (zlg mj || ([a1, a2, a3, a4, a5] : List Value).all (fun v => v.category == 1)) = true := by rfl) (hx : Nat.ble ((zexp [a1, a2, a3, a4, a5]).length + 1) (zmx mj) = true := by rfl) (hl : Nat.ble (zcat rest) 8 = true := by rfl) : zW L mi pc lv (a5 :: a4 :: a3 :: a2 :: a1 :: .ref b :: rest) h Q :=
  zx_call hd (zcall_v (as := [a1, a2, a3, a4, a5]) hd hkd (Nat.eq_of_beq_eq_true hn).symm hc hx hb hl) (zW.mono hr (fun o k hq => by obtain ⟨rfl, rfl⟩ := hq; exact w))
theorem zx_cs5I {mj : Nat} {a1 a2 a3 a4 a5 : Value} {v : Int32} {rest : List Value} {h h' : zHp} (hd : zDk mi pc pc' mj 2 = true) (hr : zRet L mj [a1, a2, a3, a4, a5] h (some (.int v)) h') (w : zW L mi pc' lv (.int v :: rest) h' Q) (hn : Nat.beq (znp mj) 5 = true := by rfl) (hc : (zlg mj || ([a1, a2, a3, a4, a5] : List Value).all (fun v => v.category == 1)) = true := by rfl) (hx : Nat.ble (zexp [a1, a2, a3, a4, a5]).length (zmx mj) = true := by rfl) (hl : Nat.ble (zcat rest) 8 = true := by rfl) : zW L mi pc lv (a5 :: a4 :: a3 :: a2 :: a1 :: rest) h Q :=
  zx_call hd (zcall_s (as := [a1, a2, a3, a4, a5]) hd (Nat.eq_of_beq_eq_true hn).symm hc hx hl) (zW.mono hr (fun o k hq => by obtain ⟨rfl, rfl⟩ := hq; exact w))
theorem zx_cv5R {mj kd b : Nat} {a1 a2 a3 a4 a5 : Value} {v : Nat} {rest : List Value} {h h' : zHp} (hd : zDk mi pc pc' mj kd = true) (hb : zk L h b = some (.inr (zoc mj))) (hr : zRet L mj (.ref b :: [a1, a2, a3, a4, a5]) h (some (.ref v)) h') (w : zW L mi pc' lv (.ref v :: rest) h' Q) (hkd : decide (kd = 2) = false := by rfl) (hn : Nat.beq (znp mj) 5 = true := by rfl) (hc : (zlg mj || ([a1, a2, a3, a4, a5] : List Value).all (fun v => v.category == 1)) = true := by rfl) (hx : Nat.ble ((zexp [a1, a2, a3, a4, a5]).length + 1) (zmx mj) = true := by rfl) (hl : Nat.ble (zcat rest) 8 = true := by rfl) : zW L mi pc lv (a5 :: a4 :: a3 :: a2 :: a1 :: .ref b :: rest) h Q :=
  zx_call hd (zcall_v (as := [a1, a2, a3, a4, a5]) hd hkd (Nat.eq_of_beq_eq_true hn).symm hc hx hb hl) (zW.mono hr (fun o k hq => by obtain ⟨rfl, rfl⟩ := hq; exact w))
theorem zx_cs5R {mj : Nat} {a1 a2 a3 a4 a5 : Value} {v : Nat} {rest : List Value} {h h' : zHp} (hd : zDk mi pc pc' mj 2 = true) (hr : zRet L mj [a1, a2, a3, a4, a5] h (some (.ref v)) h') (w : zW L mi pc' lv (.ref v :: rest) h' Q) (hn : Nat.beq (znp mj) 5 = true := by rfl) (hc : (zlg mj || ([a1, a2, a3, a4, a5] : List Value).all (fun v => v.category == 1)) = true := by rfl) (hx : Nat.ble (zexp [a1, a2, a3, a4, a5]).length (zmx mj) = true := by rfl) (hl : Nat.ble (zcat rest) 8 = true := by rfl) : zW L mi pc lv (a5 :: a4 :: a3 :: a2 :: a1 :: rest) h Q :=
  zx_call hd (zcall_s (as := [a1, a2, a3, a4, a5]) hd (Nat.eq_of_beq_eq_true hn).symm hc hx hl) (zW.mono hr (fun o k hq => by obtain ⟨rfl, rfl⟩ := hq; exact w))
theorem zx_cv5V {mj kd b : Nat} {a1 a2 a3 a4 a5 : Value} {rest : List Value} {h h' : zHp} (hd : zDk mi pc pc' mj kd = true) (hb : zk L h b = some (.inr (zoc mj))) (hr : zRet L mj (.ref b :: [a1, a2, a3, a4, a5]) h none h') (w : zW L mi pc' lv (rest) h' Q) (hkd : decide (kd = 2) = false := by rfl) (hn : Nat.beq (znp mj) 5 = true := by rfl) (hc : (zlg mj || ([a1, a2, a3, a4, a5] : List Value).all (fun v => v.category == 1)) = true := by rfl) (hx : Nat.ble ((zexp [a1, a2, a3, a4, a5]).length + 1) (zmx mj) = true := by rfl) (hl : Nat.ble (zcat rest) 8 = true := by rfl) : zW L mi pc lv (a5 :: a4 :: a3 :: a2 :: a1 :: .ref b :: rest) h Q :=
  zx_call hd (zcall_v (as := [a1, a2, a3, a4, a5]) hd hkd (Nat.eq_of_beq_eq_true hn).symm hc hx hb hl) (zW.mono hr (fun o k hq => by obtain ⟨rfl, rfl⟩ := hq; exact w))
theorem zx_cs5V {mj : Nat} {a1 a2 a3 a4 a5 : Value} {rest : List Value} {h h' : zHp} (hd : zDk mi pc pc' mj 2 = true) (hr : zRet L mj [a1, a2, a3, a4, a5] h none h') (w : zW L mi pc' lv (rest) h' Q) (hn : Nat.beq (znp mj) 5 = true := by rfl) (hc : (zlg mj || ([a1, a2, a3, a4, a5] : List Value).all (fun v => v.category == 1)) = true := by rfl) (hx : Nat.ble (zexp [a1, a2, a3, a4, a5]).length (zmx mj) = true := by rfl) (hl : Nat.ble (zcat rest) 8 = true := by rfl) : zW L mi pc lv (a5 :: a4 :: a3 :: a2 :: a1 :: rest) h Q :=
  zx_call hd (zcall_s (as := [a1, a2, a3, a4, a5]) hd (Nat.eq_of_beq_eq_true hn).symm hc hx hl) (zW.mono hr (fun o k hq => by obtain ⟨rfl, rfl⟩ := hq; exact w))
theorem zx_ct5v {mj kd b x y : Nat} {a1 a2 a3 a4 a5 : Value} {rest : List Value} {h h' : zHp} (hd : zDk mi pc pc' mj kd = true) (hb : zk L h b = some (.inr (zoc mj))) (hr : zThr L mj (.ref b :: [a1, a2, a3, a4, a5]) h (x, y) h') (w : match zcatch mi pc x with | some pq => zW L mi pq lv [.ref y] h' Q | none => zhd mi = [] ∧ Q (.inr (x, y)) h') (hkd : decide (kd = 2) = false := by rfl) (hn : Nat.beq (znp mj) 5 = true := by rfl) (hc : (zlg mj || ([a1, a2, a3, a4, a5] : List Value).all (fun v => v.category == 1)) = true := by rfl) (hx : Nat.ble ((zexp [a1, a2, a3, a4, a5]).length + 1) (zmx mj) = true := by rfl) (hl : Nat.ble (zcat rest) 8 = true := by rfl) : zW L mi pc lv (a5 :: a4 :: a3 :: a2 :: a1 :: .ref b :: rest) h Q :=
  zx_call hd (zcall_v (as := [a1, a2, a3, a4, a5]) hd hkd (Nat.eq_of_beq_eq_true hn).symm hc hx hb hl) (zW.mono hr (fun o k hq => by obtain ⟨rfl, rfl⟩ := hq; exact w))
theorem zx_ct5s {mj x y : Nat} {a1 a2 a3 a4 a5 : Value} {rest : List Value} {h h' : zHp} (hd : zDk mi pc pc' mj 2 = true) (hr : zThr L mj [a1, a2, a3, a4, a5] h (x, y) h') (w : match zcatch mi pc x with | some pq => zW L mi pq lv [.ref y] h' Q | none => zhd mi = [] ∧ Q (.inr (x, y)) h') (hn : Nat.beq (znp mj) 5 = true := by rfl) (hc : (zlg mj || ([a1, a2, a3, a4, a5] : List Value).all (fun v => v.category == 1)) = true := by rfl) (hx : Nat.ble (zexp [a1, a2, a3, a4, a5]).length (zmx mj) = true := by rfl) (hl : Nat.ble (zcat rest) 8 = true := by rfl) : zW L mi pc lv (a5 :: a4 :: a3 :: a2 :: a1 :: rest) h Q :=
  zx_call hd (zcall_s (as := [a1, a2, a3, a4, a5]) hd (Nat.eq_of_beq_eq_true hn).symm hc hx hl) (zW.mono hr (fun o k hq => by obtain ⟨rfl, rfl⟩ := hq; exact w))
end ZX
