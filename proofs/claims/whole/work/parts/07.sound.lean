/-! SOUNDNESS: what the logical machine does, the machine does. S0: the state at the law's entry; B = S0.heap.size; logical addresses from zS on are the cells from B on, in order. -/
def zr (S0 : State) (z : Nat → Nat) (a : Nat) : Nat := if a < zS then z a else S0.heap.size + (a - zS)
def zv (S0 : State) (z : Nat → Nat) (v : Value) : Value := match v with
  | .ref a => .ref (zr S0 z a)
  | v => v
/-- so many places, as its length says (a static's array is known by its length alone) -/
def zsz (k n : Nat) : Prop := n ≤ k ∧ k.toInt32 = Int32.ofNat n
theorem zsz_of {k n : Nat} (h : k = n) : zsz k n := ⟨by omega, by rw [h]⟩
def zcell (S0 : State) (D : va_G) (z : Nat → Nat) (h : zHp) (a : Nat) (kd : zKd) (cell : Cell) : Prop := match kd with
  | .inl (ty, n) => cell.vm ≠ .unknown ∧ S0.isArrayOf cell ty ∧ zsz cell.slots.size n ∧ (∀ j, j < n → cell.slots[j]? = some (zv S0 z (zval ty h a j))) ∧
      ∀ C, ty = .object C → ∃ (k : Class) (comp : ClassId), S0.vm.classes[cell.cls]? = some k ∧ k.kind = .array comp ty ∧ S0.vm.findClass C = some comp
  | .inr ci => ci < zNc ∧ cell.vm = .none ∧ cell.cls = D.1 ci ∧ ∀ k, k < zfN ci → cell.slots[D.2 ci k]? = some (zv S0 z (zval (zft ci k) h a k))
def zRl (S0 : State) (D : va_G) (z : Nat → Nat) (L : Nat) (h : zHp) (H : Heap) : Prop :=
  zS ≤ h.1 ∧ H.size = S0.heap.size + (h.1 - zS) ∧ (∀ q : Nat, q < S0.heap.size → H[q]? = S0.heap[q]?) ∧ (∀ a : Nat, a < zS → z a < S0.heap.size) ∧
  (∀ (a : Nat) (kd : zKd), a < h.1 → zK L a = some kd → ∃ cell : Cell, H[zr S0 z a]? = some cell ∧ zcell S0 D z h a kd cell) ∧
  ∀ (q : Nat) (cell : Cell), S0.heap.size ≤ q → H[q]? = some cell → cell.vm.isStatics = false
/-- what is fixed of the start -/
def zFix (S0 : State) (D : va_G) (z : Nat → Nat) : Prop :=
  (∀ w ∈ zws, ∀ (a : Array Value) (U : State), S0.WarmedH U.vm → w.before a U = true) ∧ va_K D zcls [] S0 ∧
  ∀ (oc k a : Nat), zsl oc k = some a → a < zS ∧ ∃ (C n d : String), Cond.fieldLink (zcn oc) k C n d ∈ zws ∧ va_Z C n d (.ref (z a)) (fun q => S0.heap.size ≤ q) S0 S0.heap
/-- the method that runs -/
def zCx (S0 : State) (p : Program) (s : State) (m : MethodId) (meth : Method) (c : Code) (mi : Nat) : Prop :=
  p.tables.exec = Jvm.exec ∧ c.code = zcd mi ∧ c.maxLocals = zmx mi ∧ s.vm.findClass (zcn (zoc mi)) = some m.cls ∧ meth.locks = false ∧ meth.sig.returnType = zrt mi ∧ meth.name = (zy mi).name ∧
  S0.WarmedH s.vm ∧ S0.heap.size ≤ s.heap.size ∧ (zhd mi = [(0, 0, 0, 0)] ∨ c.exceptionTable.toList.map (fun h => (h.startPc, h.endPc, h.handlerPc, h.catchType)) = zhd mi) ∧
  (∀ q : Nat, q < S0.heap.size → s.heap[q]? = S0.heap[q]?) ∧ ∀ (q : Nat) (cell : Cell), S0.heap.size ≤ q → s.heap[q]? = some cell → cell.vm.isStatics = false
theorem zv_cat (S0 : State) (z : Nat → Nat) (v : Value) : (zv S0 z v).category = v.category := by cases v <;> rfl
/-- as the kit's rows have it -/
def zal0 (S0 : State) (z : Nat → Nat) (lv : zLv) : List (Nat × Value) := (List.range lv.length).filterMap (fun i => match lv[i]? with
  | some (some v) => some (i, zv S0 z v)
  | _ => none)
def zLs (S0 : State) (z : Nat → Nat) (mi : Nat) (lv : zLv) (ls : Array Slot) : Prop :=
  lv.length = zmx mi ∧ lv_has ls (zmx mi) (zal0 S0 z lv) ∧ (zlg mi = false → ∀ (i : Nat) (v : Value), lv[i]? = some (some v) → v.category = 1)
theorem zal0_mem {S0 : State} {z : Nat → Nat} {lv : zLv} {i : Nat} {v : Value} (h : lv[i]? = some (some v)) : (i, zv S0 z v) ∈ zal0 S0 z lv := by
  refine List.mem_filterMap.mpr ⟨i, List.mem_range.mpr ?_, by rw [h]⟩
  exact (List.getElem?_eq_some_iff.mp h).1
theorem zal0_of {S0 : State} {z : Nat → Nat} {lv : zLv} {q : Nat × Value} (h : q ∈ zal0 S0 z lv) : ∃ v, lv[q.1]? = some (some v) ∧ q.2 = zv S0 z v := by
  obtain ⟨i, -, hi⟩ := List.mem_filterMap.mp h
  split at hi
  next v hv => cases hi; exact ⟨v, hv, rfl⟩
  next => cases hi
theorem zLs.get {S0 : State} {z : Nat → Nat} {mi : Nat} {lv : zLv} {ls : Array Slot} (h : zLs S0 z mi lv ls) {i : Nat} {v : Value} (hv : lv[i]? = some (some v)) : ls[i]? = some (.val (zv S0 z v)) := h.2.1.2.2 _ (zal0_mem hv)
theorem zLs.store {S0 : State} {z : Nat → Nat} {mi : Nat} {lv : zLv} {ls ls' : Array Slot} (h : zLs S0 z mi lv ls) (hg : zlg mi = false) {i : Nat} {v : Value} (hc : v.category = 1)
    (h' : lv_has ls' (zmx mi) ((i, zv S0 z v) :: (zal0 S0 z lv).filter (fun q => !(q.1 == i) && !(q.1 + 1 == i && q.2.category == 2)))) : zLs S0 z mi (lv.set i (some v)) ls' := by
  have key : ∀ (j : Nat) (w : Value), (lv.set i (some v))[j]? = some (some w) → w.category = 1 ∧ (j, zv S0 z w) ∈ ((i, zv S0 z v) :: (zal0 S0 z lv).filter (fun q => !(q.1 == i) && !(q.1 + 1 == i && q.2.category == 2))) := by
    intro j w hw
    rw [List.getElem?_set] at hw
    by_cases hj : i = j
    · subst hj
      rw [if_pos rfl] at hw
      split at hw
      next => cases hw; exact ⟨hc, List.mem_cons_self⟩
      next => cases hw
    · rw [if_neg hj] at hw
      have h1 : w.category = 1 := h.2.2 hg j w hw
      refine ⟨h1, List.mem_cons_of_mem _ (List.mem_filter.mpr ⟨zal0_mem hw, ?_⟩)⟩
      have h2 : (zv S0 z w).category = 1 := by rw [zv_cat]; exact h1
      simp [h2, Ne.symm hj]
  refine ⟨by rw [List.length_set]; exact h.1, ⟨h'.1, h'.2.1, fun q hq => ?_⟩, fun _ j w hw => (key j w hw).1⟩
  obtain ⟨w, e1, e2⟩ := zal0_of hq
  have := h'.2.2 _ (key q.1 w e1).2
  rw [e2]
  exact this
theorem zLs.size {S0 : State} {z : Nat → Nat} {mi : Nat} {lv : zLv} {ls : Array Slot} (h : zLs S0 z mi lv ls) : ls.size = zmx mi := h.2.1.1
theorem zargs {S0 : State} {z : Nat → Nat} : ∀ (as : List Value) (off i : Nat) (v : Value), (zexp as)[i]? = some (some v) → (off + i, zv S0 z v) ∈ lv_args off (as.map (zv S0 z))
  | [], off, i, v, h => by simp [zexp] at h
  | w :: r, off, i, v, h => by
    show _ ∈ (off, zv S0 z w) :: lv_args (if (zv S0 z w).category = 2 then off + 2 else off + 1) (r.map (zv S0 z))
    rw [zv_cat]
    unfold zexp at h
    by_cases hw : w.category = 2
    · rw [if_pos hw] at h
      rw [if_pos hw]
      match i, h with
      | 0, h => cases h; exact List.mem_cons_self
      | 1, h => cases h
      | i + 2, h =>
        refine List.mem_cons_of_mem _ ?_
        have := zargs (S0 := S0) (z := z) r (off + 2) i v (by simpa using h)
        rw [show off + (i + 2) = off + 2 + i by omega]; exact this
    · rw [if_neg hw] at h
      rw [if_neg hw]
      match i, h with
      | 0, h => cases h; exact List.mem_cons_self
      | i + 1, h =>
        refine List.mem_cons_of_mem _ ?_
        have := zargs (S0 := S0) (z := z) r (off + 1) i v (by simpa using h)
        rw [show off + (i + 1) = off + 1 + i by omega]; exact this
theorem zexp_len (S0 : State) (z : Nat → Nat) : ∀ as : List Value, (lg_sl (as.map (zv S0 z))).length = (zexp as).length
  | [] => rfl
  | w :: r => by
    have ih := zexp_len S0 z r
    have e : lg_sl ((w :: r).map (zv S0 z)) = (if (zv S0 z w).category = 2 then [.val (zv S0 z w), .second] else [.val (zv S0 z w)]) ++ lg_sl (r.map (zv S0 z)) := rfl
    rw [e, List.length_append, ih, zv_cat]
    by_cases hw : w.category = 2
    · simp [zexp, hw]; omega
    · simp [zexp, hw]; omega
theorem zexp_cat : ∀ (as : List Value), (∀ v ∈ as, v.category = 1) → ∀ (i : Nat) (v : Value), (zexp as)[i]? = some (some v) → v.category = 1
  | [], _, i, v, h => by simp [zexp] at h
  | w :: r, hc, i, v, h => by
    have hw : w.category = 1 := hc w List.mem_cons_self
    unfold zexp at h
    rw [if_neg (by omega)] at h
    match i, h with
    | 0, h => cases h; exact hw
    | i + 1, h => exact zexp_cat r (fun u hu => hc u (List.mem_cons_of_mem _ hu)) i v (by simpa using h)
theorem zLs.entry {S0 : State} {z : Nat → Nat} {mj : Nat} {as : List Value} (hc : zlg mj = false → ∀ v ∈ as, v.category = 1) (hn : (zexp as).length ≤ zmx mj) (mk : MethodId) :
    ∃ ls : Array Slot, entryFrame mk (as.map (zv S0 z)).toArray (zmx mj) = F0 mk 0 ls [] ∧ zLs S0 z mj (zent mj as) ls := by
  have hl := lv_entry (as.map (zv S0 z)) (n := zmx mj) (by rw [zexp_len]; exact hn)
  have hg : ∀ (i : Nat) (v : Value), (zent mj as)[i]? = some (some v) → (zexp as)[i]? = some (some v) := by
    intro i v hv
    unfold zent at hv
    by_cases hi : i < (zexp as).length
    · rw [List.getElem?_append_left hi] at hv; exact hv
    · rw [List.getElem?_append_right (by omega), List.getElem?_replicate] at hv
      split at hv
      next => cases hv
      next => cases hv
  refine ⟨_, lg_entry_eq mk (as.map (zv S0 z)) (zmx mj), ?_, ⟨hl.1, hl.2.1, fun q hq => ?_⟩, fun h1 i v hv => zexp_cat as (hc h1) i v (hg i v hv)⟩
  · unfold zent
    rw [List.length_append, List.length_replicate]
    omega
  · obtain ⟨v, e1, e2⟩ := zal0_of hq
    have := hl.2.2 _ (zargs (S0 := S0) (z := z) as 0 q.1 v (hg _ _ e1))
    rw [Nat.zero_add] at this
    rw [e2]; exact this
/-! ### the tables and the heap -/
section ZRL
variable {S0 : State} {D : va_G} {z : Nat → Nat} {L : Nat} {h h' : zHp} {H H' : Heap}
theorem zRl.at (hR : zRl S0 D z L h H) {a : Nat} {kd : zKd} (hk : zk L h a = some kd) : ∃ cell : Cell, H[zr S0 z a]? = some cell ∧ zcell S0 D z h a kd cell := by
  unfold zk at hk
  split at hk
  next hl => exact hR.2.2.2.2.1 a kd hl hk
  next => cases hk
theorem zr_big (hR : zRl S0 D z L h H) {a : Nat} (ha : zS ≤ a) : S0.heap.size ≤ zr S0 z a := by
  unfold zr
  rw [if_neg (by omega)]
  omega
theorem zr_ne (hR : zRl S0 D z L h H) {a b : Nat} (ha : zS ≤ a) (hne : b ≠ a) : zr S0 z b ≠ zr S0 z a := by
  unfold zr
  rw [if_neg (show ¬ a < zS by omega)]
  by_cases hb : b < zS
  · rw [if_pos hb]
    have := hR.2.2.2.1 b hb
    omega
  · rw [if_neg hb]
    omega
theorem zcell.congr {a : Nat} {kd : zKd} {cell : Cell} (hv : ∀ (t : FieldType) (j : Nat), zval t h' a j = zval t h a j) (hc : zcell S0 D z h a kd cell) : zcell S0 D z h' a kd cell := by
  rcases kd with ⟨ty, n⟩ | ci
  · obtain ⟨h1, h2, h3, h4, h5⟩ := hc
    exact ⟨h1, h2, h3, fun j hj => by rw [hv]; exact h4 j hj, h5⟩
  · obtain ⟨h1, h2, h3, h4⟩ := hc
    exact ⟨h1, h2, h3, fun k hk => by rw [hv]; exact h4 k hk⟩
theorem zstat_of {x : VmData} (h : ∀ k, x ≠ .statics k) : x.isStatics = false := by
  cases x <;> first | rfl | exact absurd rfl (h _)
theorem zcell.stat {a : Nat} {kd : zKd} {cell : Cell} (hc : zcell S0 D z h a kd cell) : cell.vm.isStatics = false := by
  rcases kd with ⟨ty, n⟩ | ci
  · exact zstat_of hc.2.1.1
  · rw [hc.2.1]; rfl
/-- one cell has changed -/
theorem zRl.set (hR : zRl S0 D z L h H) {a : Nat} {kd : zKd} (ha : zS ≤ a) (hk : zk L h a = some kd) (h1 : h'.1 = h.1) (hv : ∀ b, b ≠ a → ∀ (t : FieldType) (j : Nat), zval t h' b j = zval t h b j)
    {cell : Cell} (hc : H'[zr S0 z a]? = some cell) (hok : zcell S0 D z h' a kd cell) (hsz : H'.size = H.size) (ho : ∀ q, q ≠ zr S0 z a → H'[q]? = H[q]?) : zRl S0 D z L h' H' := by
  have hka : zK L a = some kd := by
    unfold zk at hk
    split at hk
    next => exact hk
    next => cases hk
  refine ⟨by rw [h1]; exact hR.1, by rw [h1, hsz]; exact hR.2.1, fun q hq => ?_, hR.2.2.2.1, fun b kb hb hkb => ?_, fun q cq hq hcq => ?_⟩
  · rw [ho q (fun e => by have := zr_big hR ha; omega)]
    exact hR.2.2.1 q hq
  · by_cases hba : b = a
    · subst hba
      rw [hka] at hkb
      cases hkb
      exact ⟨cell, hc, hok⟩
    · obtain ⟨cb, g1, g2⟩ := hR.2.2.2.2.1 b kb (by rw [← h1]; exact hb) hkb
      exact ⟨cb, by rw [ho _ (zr_ne hR ha hba)]; exact g1, g2.congr (hv b hba)⟩
  · by_cases hqa : q = zr S0 z a
    · subst hqa
      rw [hc] at hcq
      cases hcq
      exact hok.stat
    · rw [ho q hqa] at hcq
      exact hR.2.2.2.2.2 q cq hq hcq
/-- a cell has come -/
theorem zRl.new (hR : zRl S0 D z L h H) (h1 : h'.1 = h.1 + 1) (hv : ∀ b, b < h.1 → ∀ (t : FieldType) (j : Nat), zval t h' b j = zval t h b j)
    {cell : Cell} (hc : H'[H.size]? = some cell) (hstat : cell.vm.isStatics = false) (hok : ∀ kd, zK L h.1 = some kd → zcell S0 D z h' h.1 kd cell) (hsz : H'.size = H.size + 1) (ho : ∀ q, q < H.size → H'[q]? = H[q]?) : zRl S0 D z L h' H' := by
  have hz := hR.1
  have hs := hR.2.1
  refine ⟨by rw [h1]; omega, by rw [h1, hsz, hs]; omega, fun q hq => ?_, hR.2.2.2.1, fun b kb hb hkb => ?_, fun q cq hq hcq => ?_⟩
  · rw [ho q (by omega)]
    exact hR.2.2.1 q hq
  · by_cases hba : b = h.1
    · subst hba
      have e : zr S0 z h.1 = H.size := by
        unfold zr
        rw [if_neg (by omega), hs]
      exact ⟨cell, by rw [e]; exact hc, hok kb hkb⟩
    · obtain ⟨cb, g1, g2⟩ := hR.2.2.2.2.1 b kb (by omega) hkb
      exact ⟨cb, by rw [ho _ (Array.getElem?_eq_some_iff.mp g1).1]; exact g1, g2.congr (hv b (by omega))⟩
  · have hlt := (Array.getElem?_eq_some_iff.mp hcq).1
    by_cases hqa : q = H.size
    · subst hqa
      rw [hc] at hcq
      cases hcq
      exact hstat
    · rw [ho q (by omega)] at hcq
      exact hR.2.2.2.2.2 q cq hq hcq
theorem zr_new (hR : zRl S0 D z L h H) : zr S0 z h.1 = H.size := by
  have hz := hR.1
  unfold zr
  rw [if_neg (by omega), hR.2.1]
theorem zput_facts {ty : FieldType} {a k : Nat} {v : Value} (hp : zput ty h a k v = some h') :
    h'.1 = h.1 ∧ h'.2.1 = h.2.1 ∧ (∀ b, b ≠ a → ∀ (t : FieldType) (j : Nat), zval t h' b j = zval t h b j) ∧ (∀ (t : FieldType) (j : Nat), j ≠ k → zval t h' a j = zval t h a j) ∧ zval ty h' a k = v ∧ narrow ty (zv S0 z v) = zv S0 z v ∧ fits ty (zv S0 z v) = true := by
  unfold zput at hp
  split at hp
  case h_7 =>
    split at hp
    next hx =>
      cases hp
      refine ⟨rfl, rfl, fun b hb t j => ?_, fun t j hj => ?_, ?_, ?_, ?_⟩
      · cases t <;> simp [zval, zu, hb]
      · cases t <;> simp [zval, zu, hj]
      · simp [zval, zu]
      · rcases hx with rfl | rfl <;> rfl
      · rcases hx with rfl | rfl <;> rfl
    next => cases hp
  all_goals first
    | (cases hp
       refine ⟨rfl, rfl, fun b hb t j => ?_, fun t j hj => ?_, ?_, ?_, ?_⟩
       · cases t <;> simp [zval, zu, hb]
       · cases t <;> simp [zval, zu, hj]
       · simp [zval, zu, va_rf]
       · rfl
       · rfl)
    | cases hp
end ZRL
