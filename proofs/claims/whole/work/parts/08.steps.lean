section ZST
variable {p : Program} {l : Launch} {e : Env} {Rm : Room} {s : State} {m : MethodId} {args : Array Value} {below : List Frame} {meth : Method} {c : Code} {H : Heap} {locs : List Loc} {cells slots : Nat} {Q : State → Prop}
variable {S0 : State} {D : va_G} {z : Nat → Nat} {L mi pc : Nat} {lv : zLv} {st : List Value} {h : zHp} {ls : Array Slot}
/-- at a logical point: from every state that holds it, the machine comes to Q -/
def zG (p : Program) (l : Launch) (e : Env) (Rm : Room) (s : State) (m : MethodId) (args : Array Value) (below : List Frame) (meth : Method) (c : Code) (Q : State → Prop) (S0 : State) (D : va_G) (z : Nat → Nat) (L mi : Nat) (pc : Nat) (lv : zLv) (st : List Value) (h : zHp) (cells slots : Nat) : Prop :=
  ∀ (H : Heap) (locs : List Loc) (ls : Array Slot), zRl S0 D z L h H → zLs S0 z mi lv ls → (∀ q ∈ locs, S0.heap.size ≤ q.base) → W p l e Rm s m args below meth c H locs cells slots Q (F0 m pc ls (st.map (zv S0 z)))
theorem zg_w (kk : zG p l e Rm s m args below meth c Q S0 D z L mi pc lv st h cells slots) (hR : zRl S0 D z L h H) (hl : zLs S0 z mi lv ls) (hq : ∀ q ∈ locs, S0.heap.size ≤ q.base) : W p l e Rm s m args below meth c H locs cells slots Q (F0 m pc ls (st.map (zv S0 z))) := kk H locs ls hR hl hq
theorem zs_const (C : zCx S0 p s m meth c mi) {i : Instr} {len : Nat} {v : Value} (hd : decode (zcd mi) pc = .ok (i, len)) (hlen : zlok i len = true) (hv : zcst i = some v) (kk : zG p l e Rm s m args below meth c Q S0 D z L mi (pc + len) lv (v :: st) h cells slots) : zG p l e Rm s m args below meth c Q S0 D z L mi pc lv st h cells slots := by
  intro H locs ls hR hl hq
  obtain ⟨hx, hb, -⟩ := C
  have k := zg_w kk hR hl hq
  cases i
  case iconst n => cases hv; simp only [zlok, zlen, beq_iff_eq] at hlen; subst hlen; exact lv_iconst hx hb hd rfl k
  case bipush n => cases hv; simp only [zlok, zlen, beq_iff_eq] at hlen; subst hlen; exact lv_bipush hx hb hd rfl k
  case sipush n => cases hv; simp only [zlok, zlen, beq_iff_eq] at hlen; subst hlen; exact lv_sipush hx hb hd rfl k
  case lconst n => cases hv; simp only [zlok, zlen, beq_iff_eq] at hlen; subst hlen; exact lv_lconst hx hb hd rfl k
  all_goals cases hv
theorem zs_bin (C : zCx S0 p s m meth c mi) {i : Instr} {len : Nat} {x y v : Int32} (hd : decode (zcd mi) pc = .ok (i, len)) (hlen : zlok i len = true) (hv : zbin i x y = some v) (kk : zG p l e Rm s m args below meth c Q S0 D z L mi (pc + len) lv (.int v :: st) h cells slots) : zG p l e Rm s m args below meth c Q S0 D z L mi pc lv (.int y :: .int x :: st) h cells slots := by
  intro H locs ls hR hl hq
  obtain ⟨hx, hb, -⟩ := C
  have k := zg_w kk hR hl hq
  cases i <;> simp only [zbin, reduceCtorEq] at hv
  case iadd => cases hv; simp only [zlok, zlen, beq_iff_eq] at hlen; subst hlen; exact lv_iadd hx hb hd k
  case isub => cases hv; simp only [zlok, zlen, beq_iff_eq] at hlen; subst hlen; exact lv_isub hx hb hd k
  case imul => cases hv; simp only [zlok, zlen, beq_iff_eq] at hlen; subst hlen; exact lv_imul hx hb hd k
  case iand => cases hv; simp only [zlok, zlen, beq_iff_eq] at hlen; subst hlen; exact lv_iand hx hb hd k
  case ior => cases hv; simp only [zlok, zlen, beq_iff_eq] at hlen; subst hlen; exact lv_ior hx hb hd k
  case ixor => cases hv; simp only [zlok, zlen, beq_iff_eq] at hlen; subst hlen; exact lv_ixor hx hb hd k
  case ishl => cases hv; simp only [zlok, zlen, beq_iff_eq] at hlen; subst hlen; exact lv_ishl hx hb hd k
  case ishr => cases hv; simp only [zlok, zlen, beq_iff_eq] at hlen; subst hlen; exact lv_ishr hx hb hd k
  case iushr => cases hv; simp only [zlok, zlen, beq_iff_eq] at hlen; subst hlen; exact lv_iushr hx hb hd rfl k
  case idiv =>
    split at hv
    next => cases hv
    next hne => cases hv; simp only [zlok, zlen, beq_iff_eq] at hlen; subst hlen; exact lv_idiv hx hb hd hne k
  case irem =>
    split at hv
    next => cases hv
    next hne => cases hv; simp only [zlok, zlen, beq_iff_eq] at hlen; subst hlen; exact lv_irem hx hb hd hne k
theorem zs_load (C : zCx S0 p s m meth c mi) {i : Instr} {len k b : Nat} {v : Value} (hd : decode (zcd mi) pc = .ok (i, len)) (hlen : zlok i len = true) (hi : zldi i = some (k, b)) (hv : zld lv[k]? b = some v) (kk : zG p l e Rm s m args below meth c Q S0 D z L mi (pc + len) lv (v :: st) h cells slots) : zG p l e Rm s m args below meth c Q S0 D z L mi pc lv st h cells slots := by
  intro H locs ls hR hl hq
  obtain ⟨hx, hb, -⟩ := C
  have kw := zg_w kk hR hl hq
  unfold zld at hv
  split at hv
  next x hlv =>
    cases hv
    have g := hl.get hlv
    cases i
    case iload k' => cases hi; simp only [zlok, zlen, beq_iff_eq] at hlen; subst hlen; exact lv_iload hx hb hd g kw
    case iload_n k' => cases hi; simp only [zlok, zlen, beq_iff_eq] at hlen; subst hlen; exact lv_iload_n hx hb hd rfl g kw
    all_goals cases hi
  next x hlv =>
    cases hv
    have g := hl.get hlv
    cases i
    case aload k' => cases hi; simp only [zlok, zlen, beq_iff_eq] at hlen; subst hlen; exact lv_aload hx hb hd g kw
    case aload_n k' => cases hi; simp only [zlok, zlen, beq_iff_eq] at hlen; subst hlen; exact lv_aload_n hx hb hd rfl g kw
    all_goals cases hi
  next x hlv =>
    cases hv
    have g := hl.get hlv
    cases i
    case lload k' => cases hi; simp only [zlok, zlen, beq_iff_eq] at hlen; subst hlen; exact lv_lload hx hb hd g kw
    case lload_n k' => cases hi; simp only [zlok, zlen, beq_iff_eq] at hlen; subst hlen; exact lv_lload_n hx hb hd rfl g kw
    all_goals cases hi
  next => cases hv
theorem zs_store (C : zCx S0 p s m meth c mi) {i : Instr} {len k : Nat} {b : Bool} {v : Value} (hd : decode (zcd mi) pc = .ok (i, len)) (hlen : zlok i len = true) (hi : zsti i = some (k, b)) (hv : zstv b v = true) (hk : k < lv.length) (hg : zlg mi = false) (kk : zG p l e Rm s m args below meth c Q S0 D z L mi (pc + len) (lv.set k (some v)) st h cells slots) : zG p l e Rm s m args below meth c Q S0 D z L mi pc lv (v :: st) h cells slots := by
  intro H locs ls hR hl hq
  obtain ⟨hx, hb, -⟩ := C
  have hk' : k < zmx mi := by rw [← hl.1]; exact hk
  unfold zstv at hv
  split at hv
  next x =>
    subst hv
    cases i
    case istore k' => cases hi; simp only [zlok, zlen, beq_iff_eq] at hlen; subst hlen; exact lv_istore hx hb hd hl.2.1 hk' rfl (fun ls' h' => zg_w kk hR (hl.store hg rfl h') hq)
    case istore_n k' => cases hi; simp only [zlok, zlen, beq_iff_eq] at hlen; subst hlen; exact lv_istore_n hx hb hd rfl hl.2.1 hk' rfl (fun ls' h' => zg_w kk hR (hl.store hg rfl h') hq)
    all_goals cases hi
  next x =>
    have hbf : b = false := by simpa using hv
    subst hbf
    cases i
    case astore k' => cases hi; simp only [zlok, zlen, beq_iff_eq] at hlen; subst hlen; exact lv_astore hx hb hd hl.2.1 hk' rfl (fun ls' h' => zg_w kk hR (hl.store hg rfl h') hq)
    case astore_n k' => cases hi; simp only [zlok, zlen, beq_iff_eq] at hlen; subst hlen; exact lv_astore_n hx hb hd rfl hl.2.1 hk' rfl (fun ls' h' => zg_w kk hR (hl.store hg rfl h') hq)
    all_goals cases hi
  next => cases hv
theorem zs_iinc (C : zCx S0 p s m meth c mi) {len k : Nat} {n : Int} {x : Int32} (hd : decode (zcd mi) pc = .ok (.iinc k n, len)) (hlen : zlok (.iinc k n) len = true) (hg : zlg mi = false) (hv : lv[k]? = some (some (.int x))) (kk : zG p l e Rm s m args below meth c Q S0 D z L mi (pc + len) (lv.set k (some (.int (x + Int32.ofInt n)))) st h cells slots) : zG p l e Rm s m args below meth c Q S0 D z L mi pc lv st h cells slots := by
  intro H locs ls hR hl hq
  obtain ⟨hx, hb, -⟩ := C
  have hk' : k < zmx mi := by rw [← hl.1]; exact (List.getElem?_eq_some_iff.mp hv).1
  simp only [zlok, zlen, beq_iff_eq] at hlen
  subst hlen
  obtain ⟨j, hj, ej⟩ := List.getElem_of_mem (zal0_mem (S0 := S0) (z := z) hv)
  have hj2 : (zal0 S0 z lv)[j]? = some (k, .int x) := by rw [List.getElem?_eq_getElem hj, ej]; rfl
  exact lv_iinc hx hb hd hl.2.1 hj2 rfl hk' rfl (fun ls' h' => zg_w kk hR (hl.store hg (v := .int (x + Int32.ofInt n)) rfl h') hq)
theorem zs_goto (C : zCx S0 p s m meth c mi) {len : Nat} {off : Int} (hd : decode (zcd mi) pc = .ok (.goto off, len)) (hlen : zlok (.goto off) len = true) (ho : 0 ≤ (pc : Int) + off) (kk : zG p l e Rm s m args below meth c Q S0 D z L mi (zjmp pc off) lv st h cells slots) : zG p l e Rm s m args below meth c Q S0 D z L mi pc lv st h cells slots := by
  intro H locs ls hR hl hq
  obtain ⟨hx, hb, -⟩ := C
  simp only [zlok, zlen, beq_iff_eq] at hlen
  subst hlen
  exact lv_goto (tgt := zjmp pc off) hx hb hd (by unfold zjmp; omega) (zg_w kk hR hl hq)
theorem zs_if (C : zCx S0 p s m meth c mi) {len : Nat} {cd : ClassFile.Cond} {off : Int} {x : Int32} (hd : decode (zcd mi) pc = .ok (.ifCond cd off, len)) (hlen : zlok (.ifCond cd off) len = true) (ho : 0 ≤ (pc : Int) + off)
    (kk : zG p l e Rm s m args below meth c Q S0 D z L mi (if zcmp cd x 0 = true then zjmp pc off else pc + len) lv st h cells slots) : zG p l e Rm s m args below meth c Q S0 D z L mi pc lv (.int x :: st) h cells slots := by
  intro H locs ls hR hl hq
  obtain ⟨hx, hb, -⟩ := C
  simp only [zlok, zlen, beq_iff_eq] at hlen
  subst hlen
  have kw := zg_w kk hR hl hq
  have ht : (pc : Int) + off = (zjmp pc off : Nat) := by unfold zjmp; omega
  cases cd
  · exact lv_if_eq hx hb hd ht (fun q => by simpa [zcmp, q] using kw) (fun q => by simpa [zcmp, q] using kw)
  · exact lv_if_ne hx hb hd ht (fun q => by simpa [zcmp, q] using kw) (fun q => by simpa [zcmp, q] using kw)
  · exact lv_if_lt hx hb hd ht (fun q => by simpa [zcmp, q] using kw) (fun q => by simpa [zcmp, q] using kw)
  · exact lv_if_ge hx hb hd ht (fun q => by simpa [zcmp, q] using kw) (fun q => by simpa [zcmp, q] using kw)
  · exact lv_if_gt hx hb hd ht (fun q => by simpa [zcmp, q] using kw) (fun q => by simpa [zcmp, q] using kw)
  · exact lv_if_le hx hb hd ht (fun q => by simpa [zcmp, q] using kw) (fun q => by simpa [zcmp, q] using kw)
theorem zs_icmp (C : zCx S0 p s m meth c mi) {len : Nat} {cd : ClassFile.Cond} {off : Int} {x y : Int32} (hd : decode (zcd mi) pc = .ok (.if_icmp cd off, len)) (hlen : zlok (.if_icmp cd off) len = true) (ho : 0 ≤ (pc : Int) + off)
    (kk : zG p l e Rm s m args below meth c Q S0 D z L mi (if zcmp cd x y = true then zjmp pc off else pc + len) lv st h cells slots) : zG p l e Rm s m args below meth c Q S0 D z L mi pc lv (.int y :: .int x :: st) h cells slots := by
  intro H locs ls hR hl hq
  obtain ⟨hx, hb, -⟩ := C
  simp only [zlok, zlen, beq_iff_eq] at hlen
  subst hlen
  have kw := zg_w kk hR hl hq
  have ht : (pc : Int) + off = (zjmp pc off : Nat) := by unfold zjmp; omega
  cases cd
  · exact lv_icmp_eq hx hb hd ht (fun q => by simpa [zcmp, q] using kw) (fun q => by simpa [zcmp, q] using kw)
  · exact lv_icmp_ne hx hb hd ht (fun q => by simpa [zcmp, q] using kw) (fun q => by simpa [zcmp, q] using kw)
  · exact lv_icmp_lt hx hb hd ht (fun q => by simpa [zcmp, q] using kw) (fun q => by simpa [zcmp, q] using kw)
  · exact lv_icmp_ge hx hb hd ht (fun q => by simpa [zcmp, q] using kw) (fun q => by simpa [zcmp, q] using kw)
  · exact lv_icmp_gt hx hb hd ht (fun q => by simpa [zcmp, q] using kw) (fun q => by simpa [zcmp, q] using kw)
  · exact lv_icmp_le hx hb hd ht (fun q => by simpa [zcmp, q] using kw) (fun q => by simpa [zcmp, q] using kw)
theorem zs_sw (C : zCx S0 p s m meth c mi) {len : Nat} {d lo hi : Int} {offs : Array Int} {x : Int32} (hd : decode (zcd mi) pc = .ok (.tableswitch d lo hi offs, len)) (hof : ((hi - lo).toNat) < offs.size) (ho : 0 ≤ (pc : Int) + zsw lo hi d offs x.toInt)
    (kk : zG p l e Rm s m args below meth c Q S0 D z L mi (zjmp pc (zsw lo hi d offs x.toInt)) lv st h cells slots) : zG p l e Rm s m args below meth c Q S0 D z L mi pc lv (.int x :: st) h cells slots := by
  intro H locs ls hR hl hq
  obtain ⟨hx, hb, -⟩ := C
  have kw := zg_w kk hR hl hq
  have ht : (pc : Int) + zsw lo hi d offs x.toInt = (zjmp pc (zsw lo hi d offs x.toInt) : Nat) := by unfold zjmp; omega
  by_cases hin : x.toInt < lo ∨ hi < x.toInt
  · have e1 : zsw lo hi d offs x.toInt = d := by simp [zsw, hin]
    rw [e1] at ht kw
    exact lv_tableOut hx hb hd hin ht kw
  · have hlt : (x.toInt - lo).toNat < offs.size := by omega
    have e2 : offs[(x.toInt - lo).toNat]? = some (zsw lo hi d offs x.toInt) := by
      simp [zsw, hin, hlt]
    exact lv_tableIn hx hb hd (fun q => hin (Or.inl q)) (fun q => hin (Or.inr q)) e2 ht kw
theorem zs_stk (C : zCx S0 p s m meth c mi) {i : Instr} {len : Nat} {st' : List Value} (hd : decode (zcd mi) pc = .ok (i, len)) (hlen : zlok i len = true) (hi : zstk i st = some st') (kk : zG p l e Rm s m args below meth c Q S0 D z L mi (pc + len) lv st' h cells slots) : zG p l e Rm s m args below meth c Q S0 D z L mi pc lv st h cells slots := by
  intro H locs ls hR hl hq
  obtain ⟨hx, hb, -⟩ := C
  have kw := zg_w kk hR hl hq
  unfold zstk at hi
  split at hi
  all_goals first
    | (cases hi; done)
    | (cases hi; simp only [zlok, zlen, beq_iff_eq] at hlen; subst hlen; first
        | exact lv_ineg hx hb hd kw
        | exact lv_i2l hx hb hd rfl kw
        | exact lv_l2i hx hb hd rfl kw
        | exact lv_lshr hx hb hd rfl kw
        | exact W.lcmp hx hb hd kw
        | exact lv_dup hx hb hd rfl kw
        | exact lv_dup2_11 hx hb hd rfl rfl kw
        | exact lv_dup_x1 hx hb hd rfl rfl kw
        | exact lv_pop hx hb hd rfl kw)
theorem zCx.ts (F : zFix S0 D z) (C : zCx S0 p s m meth c mi) : ∀ w ∈ zws, w.before args s = true := fun w hw => F.1 w hw args s C.2.2.2.2.2.2.2.1
theorem zs_getf (F : zFix S0 D z) (C : zCx S0 p s m meth c mi) {len k ci f a : Nat} (hd : decode (zcd mi) pc = .ok (.getfield k, len)) (hlen : zlok (.getfield k) len = true) (hf : zfl (zoc mi) k = some (ci, f)) (hk : zk L h a = some (.inr ci)) (hfl : f < zfN ci)
    (kk : zG p l e Rm s m args below meth c Q S0 D z L mi (pc + len) lv (zval (zft ci f) h a f :: st) h cells slots) : zG p l e Rm s m args below meth c Q S0 D z L mi pc lv (.ref a :: st) h cells slots := by
  intro H locs ls hR hl hq
  have hts := zCx.ts (args := args) F C
  obtain ⟨hx, hb, hml, hown, hlocks, hret, hname, hW, hsz, htab, hag, hns⟩ := C
  simp only [zlok, zlen, beq_iff_eq] at hlen
  subst hlen
  have kw := zg_w kk hR hl hq
  obtain ⟨cell, g1, hci, g2, g3, g4⟩ := hR.at hk
  have hK := va_K.moved hW.alike F.2.1
  obtain ⟨hS, hfc, kC, hkC, hkind⟩ := hK.1 ci _ (zcls_at ci hci)
  obtain ⟨cf, kf, fi, fd, hi, hsl⟩ := hS f hfl
  have hlay := u_lays hts (zlay ci hci) hfl
  have hst := (u_facts hfc hkC hlay hi).1
  have hkn : cell.vm ≠ .unknown := by rw [g2]; exact fun q => by cases q
  have hv : cell.slots[fd.slot]? = some (zv S0 z (zval (zft ci f) h a f)) := by rw [hsl]; exact g4 f hfl
  rcases zfl_ok hf with hlk | ⟨host, hlk⟩
  · exact W.getf hx hb hown (hts _ hlk) hi hst g1 hkn hv rfl rfl hd kw
  · exact va_Wgetf hx hb hown (hts _ hlk) hi hst g1 hkn hv rfl rfl hd kw
theorem zs_putf (F : zFix S0 D z) (C : zCx S0 p s m meth c mi) {len k ci f a : Nat} {v : Value} {h' : zHp} (hd : decode (zcd mi) pc = .ok (.putfield k, len)) (hlen : zlok (.putfield k) len = true) (hf : zfl (zoc mi) k = some (ci, f)) (hk : zk L h a = some (.inr ci)) (hfl : f < zfN ci) (ha : zS ≤ a) (hfin : (zfT ci f).2.2.2 = true → zoc mi = ci ∧ (zy mi).name = "<init>") (hp : zput (zft ci f) h a f v = some h')
    (kk : zG p l e Rm s m args below meth c Q S0 D z L mi (pc + len) lv st h' cells slots) : zG p l e Rm s m args below meth c Q S0 D z L mi pc lv (v :: .ref a :: st) h cells slots := by
  intro H locs ls hR hl hq
  have hts := zCx.ts (args := args) F C
  obtain ⟨hx, hb, hml, hown, hlocks, hret, hname, hW, hsz, htab, hag, hns⟩ := C
  simp only [zlok, zlen, beq_iff_eq] at hlen
  subst hlen
  obtain ⟨p1, p2, p3, p4, p5, p6, p7⟩ := zput_facts (S0 := S0) (z := z) hp
  obtain ⟨cell, g1, hci, g2, g3, g4⟩ := hR.at hk
  have hK := va_K.moved hW.alike F.2.1
  have hap := va_apart (own := zcn (zoc mi)) hts (zlay ci hci) (zft ci) (zty_ok ci hci) (znm_ok ci hci) hK (zcls_at ci hci)
  obtain ⟨hS, hfc, kC, hkC, hkind⟩ := hK.1 ci _ (zcls_at ci hci)
  obtain ⟨cf, kf, fi, fd, hi, hsl⟩ := hS f hfl
  have hlay := u_lays hts (zlay ci hci) hfl
  have hst := (u_facts hfc hkC hlay hi).1
  have hkn : cell.vm ≠ .unknown := by rw [g2]; exact fun q => by cases q
  have hfit := u_fits hfc hkC hkind hlay hi (zty_ok ci hci f hfl) p6 p7
  have hlt : fd.slot < cell.slots.size := by rw [hsl]; exact k2_hasslot (g4 f hfl)
  have hfinal : hasFlag fd.accessFlags Acc.final = false ∨ (m.cls = cf ∧ meth.name = "<init>") := by
    have hlay2 := hts _ (zlay ci hci _ (u_in_lay hfl))
    unfold u_lay at hlay2
    by_cases hff : (zfT ci f).2.2.2 = true
    · rw [if_pos hff] at hlay2
      obtain ⟨e1, e2⟩ := hfin hff
      refine Or.inr ⟨?_, by rw [hname]; exact e2⟩
      obtain ⟨_, _, c', _, _, _, -, -, hf', -, -, -, hown2, -⟩ := Cond.laysFinal_spec hlay2
      have e3 : c' = cf := by have := hi.symm.trans hf'; simp at this; exact this.1.symm
      rw [zdecl ci hci f hfl, ← e1] at hown2
      rw [← e3]; exact Option.some.inj (hown.symm.trans hown2)
    · rw [if_neg hff] at hlay2
      exact Or.inl (u_store hfc hkC hkind hlay2 hi (zty_ok ci hci f hfl) p6 p7).1
  have hlt1 : zr S0 z a < H.size := (Array.getElem?_eq_some_iff.mp g1).1
  have hR' : zRl S0 D z L h' (H.setIfInBounds (zr S0 z a) (cell.setSlot fd.slot (zv S0 z v))) := by
    refine hR.set ha hk p1 p3 (cell := cell.setSlot fd.slot (zv S0 z v)) (by simp [Array.getElem?_setIfInBounds, hlt1]) ⟨hci, g2, g3, fun j hj => ?_⟩ (by simp) (fun q hq' => by simp [Array.getElem?_setIfInBounds, Ne.symm hq'])
    have e := t_set g4 hap hfl (zv S0 z v) j hj
    rw [hsl, e]
    by_cases hjf : j = f
    · subst hjf
      simp [updV, p5]
    · simp [updV, hjf, p4 _ j hjf]
  have kw := zg_w (locs := locs ++ [⟨zr S0 z a, fd.slot⟩]) kk hR' hl (fun q hq' => by
    rcases List.mem_append.mp hq' with g | g
    · exact hq q g
    · rw [List.mem_singleton.mp g]; exact zr_big hR ha)
  rcases zfl_ok hf with hlk | ⟨host, hlk⟩
  · exact W.putf hx hb hown (hts _ hlk) hi hst hfinal g1 hkn hlt hfit.1 (by rw [g2, g3]; exact hfit.2) rfl rfl hd kw
  · exact va_Wputf hx hb hown (hts _ hlk) hi hst hfinal g1 hkn hlt hfit.1 (by rw [g2, g3]; exact hfit.2) rfl rfl hd kw
theorem zs_gets (F : zFix S0 D z) (C : zCx S0 p s m meth c mi) {len k a : Nat} (hd : decode (zcd mi) pc = .ok (.getstatic k, len)) (hlen : zlok (.getstatic k) len = true) (hf : zsl (zoc mi) k = some a)
    (kk : zG p l e Rm s m args below meth c Q S0 D z L mi (pc + len) lv (.ref a :: st) h cells slots) : zG p l e Rm s m args below meth c Q S0 D z L mi pc lv st h cells slots := by
  intro H locs ls hR hl hq
  have hts := zCx.ts (args := args) F C
  obtain ⟨hx, hb, hml, hown, hlocks, hret, hname, hW, hsz, htab, hag, hns⟩ := C
  simp only [zlok, zlen, beq_iff_eq] at hlen
  subst hlen
  have kw := zg_w kk hR hl hq
  obtain ⟨haS, C1, n1, d1, hlk, hZ⟩ := F.2.2 _ _ _ hf
  obtain ⟨cf, kf, fi, fd, q, cell, e1, e2, e3, e4, e5, e6, e7, e8⟩ := va_Z.moved hW.alike hZ
  have hqlt : q < S0.heap.size := (Array.getElem?_eq_some_iff.mp e5).1
  have hkn : cell.vm ≠ .unknown := by intro q; rw [q] at e6; cases e6
  have hzr : zr S0 z a = z a := by unfold zr; rw [if_pos haS]
  refine W.gets hx hb hown (hts _ hlk) e1 e2 e3 e4 (by rw [hR.2.2.1 q hqlt]; exact e5) hkn e7 rfl hd ?_
  have kw2 : W p l e Rm s m args below meth c H locs cells slots Q (F0 m (pc + 3) ls (.ref (z a) :: st.map (zv S0 z))) := by
    have : (Value.ref a :: st).map (zv S0 z) = .ref (z a) :: st.map (zv S0 z) := by
      show Value.ref (zr S0 z a) :: _ = _
      rw [hzr]
    rw [← this]; exact kw
  exact kw2
theorem zs_ald (F : zFix S0 D z) (C : zCx S0 p s m meth c mi) {i : Instr} {len a : Nat} {j : Int32} {ty : FieldType → Bool} {v : Value} (hd : decode (zcd mi) pc = .ok (i, len)) (hlen : zlok i len = true) (hi : zaldi i = some ty) (hv : zald L ty h a j = some v)
    (kk : zG p l e Rm s m args below meth c Q S0 D z L mi (pc + len) lv (v :: st) h cells slots) : zG p l e Rm s m args below meth c Q S0 D z L mi pc lv (.int j :: .ref a :: st) h cells slots := by
  intro H locs ls hR hl hq
  obtain ⟨hx, hb, hml, hown, hlocks, hret, hname, hW, hsz, htab, hag, hns⟩ := C
  have kw := zg_w kk hR hl hq
  unfold zald at hv
  split at hv
  next t n hk =>
    split at hv
    next hc =>
      obtain ⟨h1, h2, h3⟩ := hc
      cases hv
      obtain ⟨cell, g1, g2, g3, g4, g5, -⟩ := hR.at hk
      have harr : s.isArrayOf cell t := State.isArrayOf_alike hW.alike g3
      have hin : ¬ (j < 0 ∨ cell.slots.size ≤ j.toNatClampNeg) := by
        have := g4.1
        rintro (q | q)
        · exact absurd h2 (Int32.not_le.mpr q)
        · omega
      have hvv := g5 _ h3
      cases i
      case aaload =>
        cases hi
        simp only [zlok, zlen, beq_iff_eq] at hlen; subst hlen
        cases t <;> simp only [zisR, Bool.false_eq_true] at h1
        · exact W.aald hx hb g1 harr rfl g2 hin hvv rfl rfl hd kw
        · exact W.aald hx hb g1 harr rfl g2 hin hvv rfl rfl hd kw
      case baload =>
        cases hi
        simp only [zlok, zlen, beq_iff_eq] at hlen; subst hlen
        cases t <;> simp only [zisZ, Bool.false_eq_true] at h1
        exact W.zald hx hb g1 harr g2 hin hvv rfl rfl hd kw
      case iaload =>
        cases hi
        simp only [zlok, zlen, beq_iff_eq] at hlen; subst hlen
        cases t <;> simp only [zisI, Bool.false_eq_true] at h1
        exact W.iald hx hb g1 harr g2 hin hvv rfl rfl hd kw
      case laload =>
        cases hi
        simp only [zlok, zlen, beq_iff_eq] at hlen; subst hlen
        cases t <;> simp only [zisL, Bool.false_eq_true] at h1
        exact W.lald hx hb g1 harr g2 hin hvv rfl rfl hd kw
      all_goals cases hi
    next => cases hv
  next => cases hv
theorem zcell.store {h' : zHp} {a n k : Nat} {ty : FieldType} {cell : Cell} {v : Value} (hc : zcell S0 D z h a (.inl (ty, n)) cell) (hk : k < n) (p4 : ∀ (t : FieldType) (j : Nat), j ≠ k → zval t h' a j = zval t h a j) (p5 : zval ty h' a k = v) : zcell S0 D z h' a (.inl (ty, n)) (cell.setSlot k (zv S0 z v)) := by
  obtain ⟨g2, g3, g4, g5, g6⟩ := hc
  refine ⟨g2, g3, by rw [k2_slotsz]; exact g4, fun j hj => ?_, g6⟩
  by_cases hjk : j = k
  · subst hjk
    rw [Cell.slots_setSlot_self _ (Nat.lt_of_lt_of_le hk g4.1), p5]
  · rw [slot_ne _ _ (Ne.symm hjk), g5 j hj, p4 _ j hjk]
theorem zs_ast (F : zFix S0 D z) (C : zCx S0 p s m meth c mi) {i : Instr} {len a : Nat} {j : Int32} {ty : FieldType → Bool} {v : Value} {h' : zHp} (hd : decode (zcd mi) pc = .ok (i, len)) (hlen : zlok i len = true) (hi : zasti i = some ty) (hv : zast L ty h a j v = some h')
    (kk : zG p l e Rm s m args below meth c Q S0 D z L mi (pc + len) lv st h' cells slots) : zG p l e Rm s m args below meth c Q S0 D z L mi pc lv (v :: .int j :: .ref a :: st) h cells slots := by
  intro H locs ls hR hl hq
  obtain ⟨hx, hb, hml, hown, hlocks, hret, hname, hW, hsz, htab, hag, hns⟩ := C
  unfold zast at hv
  split at hv
  next t n hk =>
    split at hv
    next hc =>
      obtain ⟨h1, h2, h3, ha⟩ := hc
      obtain ⟨p1, p2, p3, p4, p5, p6, p7⟩ := zput_facts (S0 := S0) (z := z) hv
      obtain ⟨cell, g1, gc⟩ := hR.at hk
      have gc' := gc
      obtain ⟨g2, g3, g4, g5, -⟩ := gc'
      have harr : s.isArrayOf cell t := State.isArrayOf_alike hW.alike g3
      have hin : ¬ (j < 0 ∨ cell.slots.size ≤ j.toNatClampNeg) := by
        have := g4.1
        rintro (q | q)
        · exact absurd h2 (Int32.not_le.mpr q)
        · omega
      have fin : ∀ H' : Heap, H'[zr S0 z a]? = some (cell.setSlot j.toNatClampNeg (zv S0 z v)) → H'.size = H.size → (∀ q, q ≠ zr S0 z a → H'[q]? = H[q]?) → W p l e Rm s m args below meth c H' (locs ++ [⟨zr S0 z a, j.toNatClampNeg⟩]) cells slots Q (F0 m (pc + len) ls (st.map (zv S0 z))) := fun H' e1 e2 e3 =>
        zg_w kk (hR.set ha hk p1 p3 e1 (gc.store h3 p4 p5) e2 e3) hl (fun q hq' => by
          rcases List.mem_append.mp hq' with g | g
          · exact hq q g
          · rw [List.mem_singleton.mp g]; exact zr_big hR ha)
      cases i
      case bastore =>
        cases hi
        simp only [zlok, zlen, beq_iff_eq] at hlen; subst hlen
        cases t <;> simp only [zisZ, Bool.false_eq_true] at h1
        cases v <;> simp only [zput, reduceCtorEq] at hv
        exact W.zast hx hb g1 harr g2 hin rfl rfl hd (fun H' e1 e2 e3 => fin H' (by rw [e1]; exact congrArg (fun y => some (cell.setSlot j.toNatClampNeg y)) p6) e2 e3)
      case iastore =>
        cases hi
        simp only [zlok, zlen, beq_iff_eq] at hlen; subst hlen
        cases t <;> simp only [zisI, Bool.false_eq_true] at h1
        cases v <;> simp only [zput, reduceCtorEq] at hv
        exact W.iast hx hb g1 harr g2 hin rfl rfl hd fin
      case lastore =>
        cases hi
        simp only [zlok, zlen, beq_iff_eq] at hlen; subst hlen
        cases t <;> simp only [zisL, Bool.false_eq_true] at h1
        cases v <;> simp only [zput, reduceCtorEq] at hv
        exact W.last hx hb g1 harr g2 hin rfl rfl hd fin
      all_goals cases hi
    next => cases hv
  next => cases hv
theorem zs_aast (F : zFix S0 D z) (C : zCx S0 p s m meth c mi) {len a v ci n : Nat} {j : Int32} (hd : decode (zcd mi) pc = .ok (.aastore, len)) (hlen : zlok .aastore len = true) (hkv : zk L h v = some (.inr ci)) (hka : zk L h a = some (.inl (.object (zcn ci), n))) (h2 : 0 ≤ j) (h3 : j.toNatClampNeg < n) (ha : zS ≤ a)
    (kk : zG p l e Rm s m args below meth c Q S0 D z L mi (pc + len) lv st (h.1, h.2.1, h.2.2.1, h.2.2.2.1, zu h.2.2.2.2 a j.toNatClampNeg (some v)) cells slots) : zG p l e Rm s m args below meth c Q S0 D z L mi pc lv (.ref v :: .int j :: .ref a :: st) h cells slots := by
  intro H locs ls hR hl hq
  obtain ⟨hx, hb, hml, hown, hlocks, hret, hname, hW, hsz, htab, hag, hns⟩ := C
  simp only [zlok, zlen, beq_iff_eq] at hlen
  subst hlen
  have hp : zput (.object (zcn ci)) h a j.toNatClampNeg (.ref v) = some (h.1, h.2.1, h.2.2.1, h.2.2.2.1, zu h.2.2.2.2 a j.toNatClampNeg (some v)) := rfl
  obtain ⟨p1, p2, p3, p4, p5, p6, p7⟩ := zput_facts (S0 := S0) (z := z) hp
  obtain ⟨cell, g1, gc⟩ := hR.at hka
  obtain ⟨cv, v1, vci, v2, v3, -⟩ := hR.at hkv
  have gc' := gc
  obtain ⟨g2, g3, g4, g5, g6⟩ := gc'
  obtain ⟨kA, comp, k1, k2, k3⟩ := g6 _ rfl
  have hK := va_K.moved hW.alike F.2.1
  obtain ⟨-, hfc, kC, hkC, hkind⟩ := hK.1 ci _ (zcls_at ci vci)
  obtain ⟨kA', ka1, ka2⟩ := hW.alike.2.2 _ _ k1
  have ecomp : s.vm.findClass (zcn ci) = some comp := by rw [← k3]; exact hW.alike.findClass _ _
  have ec : D.1 ci = comp := Option.some.inj (hfc.symm.trans ecomp)
  refine W.aast hx hb g1 g3.1 g2 ka1 (by rw [ka2]; exact k2) rfl (kcomp := kC) (by rw [← ec]; exact hkC) ⟨Int32.not_lt.mpr h2, Nat.lt_of_lt_of_le h3 g4.1⟩ v1 (by rw [v2]; exact fun q => by intro e; cases e) (kv := kC) (by rw [v3]; exact hkC) (by rw [v3, ec]; exact va_asg _ _) rfl rfl hd (fun H' e1 e2 e3 => ?_)
  exact zg_w kk (hR.set ha hka p1 p3 e1 (gc.store h3 p4 p5) e2 e3) hl (fun q hq' => by
          rcases List.mem_append.mp hq' with g | g
          · exact hq q g
          · rw [List.mem_singleton.mp g]; exact zr_big hR ha)
theorem zs_alen (F : zFix S0 D z) (C : zCx S0 p s m meth c mi) {len a n : Nat} {t : FieldType} (hd : decode (zcd mi) pc = .ok (.arraylength, len)) (hlen : zlok .arraylength len = true) (hk : zk L h a = some (.inl (t, n)))
    (kk : zG p l e Rm s m args below meth c Q S0 D z L mi (pc + len) lv (.int (Int32.ofNat n) :: st) h cells slots) : zG p l e Rm s m args below meth c Q S0 D z L mi pc lv (.ref a :: st) h cells slots := by
  intro H locs ls hR hl hq
  obtain ⟨hx, hb, hml, hown, hlocks, hret, hname, hW, hsz, htab, hag, hns⟩ := C
  simp only [zlok, zlen, beq_iff_eq] at hlen
  subst hlen
  obtain ⟨cell, g1, g2, g3, g4, g5, -⟩ := hR.at hk
  exact W.alen hx hb g1 (State.isArrayOf_alike hW.alike g3) g4.2 rfl rfl hd (zg_w kk hR hl hq)
def zzero (t : FieldType) : Value := match t with
  | .long => .long 0
  | .object _ => .null
  | .array _ => .null
  | _ => .int 0
theorem znew_facts (n : Nat) : (znew h n).1 = h.1 + 1 ∧ (znew h n).2.1 = h.2.1 + n ∧ (∀ b, b < h.1 → ∀ (t : FieldType) (j : Nat), zval t (znew h n) b j = zval t h b j) ∧ ∀ (t : FieldType) (j : Nat), zval t (znew h n) h.1 j = zzero t := by
  refine ⟨rfl, rfl, fun b hb t j => ?_, fun t j => ?_⟩
  · have hne : b ≠ h.1 := by omega
    cases t <;> simp [zval, znew, zc, hne]
  · cases t <;> simp [zval, znew, zc, va_rf, zzero]
theorem zdef (t : FieldType) (ht : zftok t = true) : defaultValue t = zv S0 z (zzero t) := by
  cases t <;> first | rfl | cases ht
theorem zna_ok {t : ArrayType} (h : zna t = true) : Cond.arrayClass (newarray.typeOf t) ∈ zws := by
  cases t <;> first | exact zarr_ok.1.2 | exact zarr_ok.2.1 | exact zarr_ok.2.2 | cases h
theorem zs_new (F : zFix S0 D z) (C : zCx S0 p s m meth c mi) {len k ci : Nat} (hd : decode (zcd mi) pc = .ok (.new k, len)) (hlen : zlok (.new k) len = true) (hf : zcl (zoc mi) k = some (.inl ci)) (hk : zK L h.1 = some (.inr ci)) (hc1 : cells + 1 ≤ Rm.cells) (hc2 : slots + zfN ci ≤ Rm.slots)
    (kk : zG p l e Rm s m args below meth c Q S0 D z L mi (pc + len) lv (.ref h.1 :: st) (znew h (zfN ci)) (cells + 1) (slots + zfN ci)) : zG p l e Rm s m args below meth c Q S0 D z L mi pc lv st h cells slots := by
  intro H locs ls hR hl hq
  have hts := zCx.ts (args := args) F C
  obtain ⟨hx, hb, hml, hown, hlocks, hret, hname, hW, hsz, htab, hag, hns⟩ := C
  simp only [zlok, zlen, beq_iff_eq] at hlen
  subst hlen
  obtain ⟨hci, w1, w2, w3⟩ := zcl_ok hf
  have hK := va_K.moved hW.alike F.2.1
  have hKn := hK.1 ci _ (zcls_at ci hci)
  obtain ⟨n1, n2, n3, n4⟩ := znew_facts (h := h) (zfN ci)
  refine W.newcK hx hb hown (hts _ w1) (hts _ w2) (hts _ w3) rfl hd hc1 hc2 hKn.2.1 rfl (fun H' kC e0 e1 e2 e3 => ?_)
  obtain ⟨cell, b1, b2, b3, b4⟩ := u_born (zft ci) hts (zlay ci hci) hKn e0 e1 (zty_ok ci hci)
  have hR' : zRl S0 D z L (znew h (zfN ci)) H' := by
    refine hR.new n1 n3 (cell := cell) b1 (by rw [b3]; rfl) (fun kd hkd => ?_) e2 e3
    rw [hk] at hkd
    cases hkd
    refine ⟨hci, b3, b2, fun j hj => ?_⟩
    rw [b4 j hj, n4]
    exact congrArg some (zdef _ (zft_ok ci hci j hj))
  have kw := zg_w kk hR' hl hq
  have ez : ((Value.ref h.1 :: st).map (zv S0 z)) = .ref H.size :: st.map (zv S0 z) := by
    show Value.ref (zr S0 z h.1) :: _ = _
    rw [zr_new hR]
  rw [ez] at kw
  exact kw
theorem zs_newa (F : zFix S0 D z) (C : zCx S0 p s m meth c mi) {len : Nat} {t : ArrayType} {n : Int32} (hd : decode (zcd mi) pc = .ok (.newarray t, len)) (hlen : zlok (.newarray t) len = true) (hna : zna t = true) (hn : 0 ≤ n) (hk : zK L h.1 = some (.inl (newarray.typeOf t, n.toNatClampNeg))) (hN : n.toNatClampNeg ≤ 65536) (hc1 : cells + 1 ≤ Rm.cells) (hc2 : slots + n.toNatClampNeg ≤ Rm.slots)
    (kk : zG p l e Rm s m args below meth c Q S0 D z L mi (pc + len) lv (.ref h.1 :: st) (znew h n.toNatClampNeg) (cells + 1) (slots + n.toNatClampNeg)) : zG p l e Rm s m args below meth c Q S0 D z L mi pc lv (.int n :: st) h cells slots := by
  intro H locs ls hR hl hq
  have hts := zCx.ts (args := args) F C
  obtain ⟨hx, hb, hml, hown, hlocks, hret, hname, hW, hsz, htab, hag, hns⟩ := C
  simp only [zlok, zlen, beq_iff_eq] at hlen
  subst hlen
  obtain ⟨n1, n2, n3, n4⟩ := znew_facts (h := h) n.toNatClampNeg
  have hby : n.toNatClampNeg * componentBytes (newarray.typeOf t) ≤ 536870912 := by
    cases t <;> simp only [newarray.typeOf, componentBytes] <;> omega
  refine W.newaK hx hb (hts _ (zna_ok hna)) rfl hd rfl (Int32.not_lt.mpr hn) rfl hby hc1 hc2 rfl (fun H' cA e1 e2 e3 e4 => ?_)
  have hR' : zRl S0 D z L (znew h n.toNatClampNeg) H' := by
    refine hR.new n1 n3 e1 rfl (fun kd hkd => ?_) e2 e3
    rw [hk] at hkd
    cases hkd
    refine ⟨fun q => (by cases q), State.isArrayOf_alike hW.alike.symm (e4 _ _), zsz_of (arrV_size _ _ _), fun j hj => ?_, fun C hC => ?_⟩
    · rw [arrV_read _ _ hj, n4]
      cases t <;> first | rfl | (simp [zna] at hna)
    · cases t <;> simp [newarray.typeOf] at hC
  have kw := zg_w kk hR' hl hq
  have ez : ((Value.ref h.1 :: st).map (zv S0 z)) = .ref H.size :: st.map (zv S0 z) := by
    show Value.ref (zr S0 z h.1) :: _ = _
    rw [zr_new hR]
  rw [ez] at kw
  exact kw
theorem zs_anew (F : zFix S0 D z) (C : zCx S0 p s m meth c mi) {len k : Nat} {A : String} {n : Int32} (hd : decode (zcd mi) pc = .ok (.anewarray k, len)) (hlen : zlok (.anewarray k) len = true) (hal : zal (zoc mi) k = some A) (hn : 0 ≤ n) (hk : zK L h.1 = some (.inl (.object A, n.toNatClampNeg))) (hN : n.toNatClampNeg ≤ 65536) (hc1 : cells + 1 ≤ Rm.cells) (hc2 : slots + n.toNatClampNeg ≤ Rm.slots)
    (kk : zG p l e Rm s m args below meth c Q S0 D z L mi (pc + len) lv (.ref h.1 :: st) (znew h n.toNatClampNeg) (cells + 1) (slots + n.toNatClampNeg)) : zG p l e Rm s m args below meth c Q S0 D z L mi pc lv (.int n :: st) h cells slots := by
  intro H locs ls hR hl hq
  have hts := zCx.ts (args := args) F C
  obtain ⟨hx, hb, hml, hown, hlocks, hret, hname, hW, hsz, htab, hag, hns⟩ := C
  simp only [zlok, zlen, beq_iff_eq] at hlen
  subst hlen
  obtain ⟨n1, n2, n3, n4⟩ := znew_facts (h := h) n.toNatClampNeg
  obtain ⟨w1, w2⟩ := zal_ok hal
  refine W.anew hx hb hown (hts _ w1) (hts _ w2) rfl hd rfl (Int32.not_lt.mpr hn) (by omega) hc1 hc2 (fun cA kA comp q1 q2 q3 q4 => ?_)
  obtain ⟨kA', ka1, ka2⟩ := hW.alike.symm.2.2 _ _ q2
  have hfc : S0.vm.findClass A = some comp := by rw [← q4]; exact hW.alike.symm.findClass _ _
  have hR' : zRl S0 D z L (znew h n.toNatClampNeg) (H.push { cls := cA, slots := Array.replicate n.toNatClampNeg .null, vm := .none }) := by
    refine hR.new n1 n3 (cell := { cls := cA, slots := Array.replicate n.toNatClampNeg .null, vm := .none }) (by simp) rfl (fun kd hkd => ?_) (by simp) (fun q hq' => by rw [Array.getElem?_push, if_neg (Nat.ne_of_lt hq')])
    rw [hk] at hkd
    cases hkd
    refine ⟨fun q => (by cases q), ⟨fun q e => (by cases e), kA', ka1, comp, by rw [ka2]; exact q3⟩, zsz_of (by simp), fun j hj => ?_, fun C2 hC2 => ?_⟩
    · rw [n4]
      simp [hj, zv, zzero]
    · cases hC2
      exact ⟨kA', comp, ka1, by rw [ka2]; exact q3, hfc⟩
  have kw := zg_w kk hR' hl hq
  have ez : ((Value.ref h.1 :: st).map (zv S0 z)) = .ref H.size :: st.map (zv S0 z) := by
    show Value.ref (zr S0 z h.1) :: _ = _
    rw [zr_new hR]
  rw [ez] at kw
  exact kw
theorem zs_obj (F : zFix S0 D z) (C : zCx S0 p s m meth c mi) {len k a : Nat} (hd : decode (zcd mi) pc = .ok (.invokespecial k, len)) (hlen : zlok (.invokespecial k) len = true) (hob : zob (zoc mi) k = true) (hfr : 1 ≤ Rm.frames) (hlo : zcat st + 12 ≤ Rm.locals)
    (kk : zG p l e Rm s m args below meth c Q S0 D z L mi (pc + len) lv st h cells slots) : zG p l e Rm s m args below meth c Q S0 D z L mi pc lv (.ref a :: st) h cells slots := by
  intro H locs ls hR hl hq
  have hts := zCx.ts (args := args) F C
  obtain ⟨hx, hb, hml, hown, hlocks, hret, hname, hW, hsz, htab, hag, hns⟩ := C
  simp only [zlok, zlen, beq_iff_eq] at hlen
  subst hlen
  obtain ⟨w1, w2, w3⟩ := zob_ok hob
  refine W.objInit hx hb hown (hts _ w1) (hts _ w2) (hts _ w3) rfl (by rw [hml]; exact hl.size) rfl hd hfr ?_ (zg_w kk hR hl hq)
  have e : ((st.map (zv S0 z)).map fun v => v.category) = st.map fun v => v.category := by
    rw [List.map_map]; exact List.map_congr_left (fun v _ => zv_cat S0 z v)
  show 2 * 0 + (((st.map (zv S0 z)).map fun v => v.category)).sum + 12 ≤ Rm.locals
  rw [e]
  unfold zcat at hlo
  omega
theorem zs_copy (F : zFix S0 D z) (C : zCx S0 p s m meth c mi) {len k src dst n0 n1 : Nat} {n dp sp : Int32} (hd : decode (zcd mi) pc = .ok (.invokestatic k, len)) (hlen : zlok (.invokestatic k) len = true) (hac : zac (zoc mi) k = true) (hks : zk L h src = some (.inl (.int, n0))) (hkd : zk L h dst = some (.inl (.int, n1)))
    (h1 : 0 ≤ n) (h2 : 0 ≤ dp) (h3 : 0 ≤ sp) (h4 : sp.toNatClampNeg + n.toNatClampNeg ≤ n0) (h5 : dp.toNatClampNeg + n.toNatClampNeg ≤ n1) (ha : zS ≤ dst) (hfr : 1 ≤ Rm.frames) (hlo : zcat st + 18 ≤ Rm.locals)
    (kk : zG p l e Rm s m args below meth c Q S0 D z L mi (pc + len) lv st (h.1, h.2.1, (fun b j => if b = dst then va_cpy (h.2.2.1 src) (h.2.2.1 dst) sp.toNatClampNeg dp.toNatClampNeg n.toNatClampNeg j else h.2.2.1 b j), h.2.2.2.1, h.2.2.2.2) cells slots) : zG p l e Rm s m args below meth c Q S0 D z L mi pc lv (.int n :: .int dp :: .ref dst :: .int sp :: .ref src :: st) h cells slots := by
  intro H locs ls hR hl hq
  have hts := zCx.ts (args := args) F C
  obtain ⟨hx, hb, hml, hown, hlocks, hret, hname, hW, hsz, htab, hag, hns⟩ := C
  simp only [zlok, zlen, beq_iff_eq] at hlen
  subst hlen
  obtain ⟨w1, w2, w3, w4⟩ := zac_ok hac
  obtain ⟨cs, s1, s2, s3, s4, s5, -⟩ := hR.at hks
  obtain ⟨cd, d1, dc⟩ := hR.at hkd
  have dc' := dc
  obtain ⟨d2, d3, d4, d5, -⟩ := dc'
  obtain ⟨-, ks, ks1, sComp, ks2⟩ := State.isArrayOf_alike hW.alike s3
  obtain ⟨-, kd, kd1, dComp, kd2⟩ := State.isArrayOf_alike hW.alike d3
  have nn : ∀ y : Int32, 0 ≤ y → y.toInt = (y.toNatClampNeg : Int) := fun y hy => (toNatClampNeg_of_not_neg32 y (Int32.not_lt.mpr hy)).symm
  intro T hT X
  have e : ((st.map (zv S0 z)).map fun v => v.category) = st.map fun v => v.category := by
    rw [List.map_map]; exact List.map_congr_left (fun v _ => zv_cat S0 z v)
  have hget : ∀ i, i < n.toNatClampNeg → cs.slots.getD (sp.toNatClampNeg + i) .null = .int (h.2.2.1 src (sp.toNatClampNeg + i)) := fun i hi => by
    rw [Array.getD_eq_getD_getElem?, s5 _ (by omega)]; rfl
  obtain ⟨vm', X', step⟩ := X.arraycopy hx hown (hts _ w1) (hts _ w2) (hts _ w3) (hts _ w4) (src := zr S0 z src) (dst := zr S0 z dst) (cs := cs) (cd := cd) (srcPos := sp) (destPos := dp) (n := n) (by rw [hT]; exact s1) (by rw [hT]; exact d1)
    s3.1 d3.1 s2 d2 ks1 kd1 ks2 kd2 (by decide) (Int32.not_lt.mpr h3) (Int32.not_lt.mpr h2) (Int32.not_lt.mpr h1)
    (by have := s4.1; rw [nn sp h3, nn n h1]; omega) (by have := d4.1; rw [nn dp h2, nn n h1]; omega)
    (fun vm₁ _ i hi => by rw [hget i hi]; exact ⟨rfl, trivial⟩)
    (g := F0 m pc ls (.int n :: .int dp :: .ref (zr S0 z dst) :: .int sp :: .ref (zr S0 z src) :: st.map (zv S0 z))) rfl (by rw [hml]; exact hl.size) (rest := st.map (zv S0 z)) rfl (by rw [hb]; exact hd) hfr (by
      show 2 * 0 + (((st.map (zv S0 z)).map fun v => v.category)).sum + (7 + 11) ≤ Rm.locals
      rw [e]; unfold zcat at hlo; omega)
  have hlt : zr S0 z dst < H.size := (Array.getElem?_eq_some_iff.mp d1).1
  have hheap : ((T.setVm vm').setCell (zr S0 z dst) (copied cs cd sp dp n)).heap = H.setIfInBounds (zr S0 z dst) (copied cs cd sp dp n) := by rw [← hT]; rfl
  have hF := Cell.storeRun_facts cd dp.toNatClampNeg (cs.stretch sp.toNatClampNeg n.toNatClampNeg)
  have hR' : zRl S0 D z L (h.1, h.2.1, (fun b j => if b = dst then va_cpy (h.2.2.1 src) (h.2.2.1 dst) sp.toNatClampNeg dp.toNatClampNeg n.toNatClampNeg j else h.2.2.1 b j), h.2.2.2.1, h.2.2.2.2) (H.setIfInBounds (zr S0 z dst) (copied cs cd sp dp n)) := by
    refine hR.set ha hkd rfl (fun b hb' t j => ?_) (cell := copied cs cd sp dp n) (by simp [Array.getElem?_setIfInBounds, hlt]) ?_ (by simp) (fun q hq' => by simp [Array.getElem?_setIfInBounds, Ne.symm hq'])
    · cases t <;> simp [zval, hb']
    · refine ⟨by show (cd.storeRun _ _).vm ≠ _; rw [hF.2.1]; exact d2, ⟨by show ∀ k, (cd.storeRun _ _).vm ≠ _; rw [hF.2.1]; exact d3.1, by show ∃ k, S0.vm.classes[(cd.storeRun _ _).cls]? = _ ∧ _; rw [hF.1]; exact d3.2⟩, by show zsz (cd.storeRun _ _).slots.size _; rw [hF.2.2.1]; exact d4, fun j hj => ?_, fun C2 hC2 => by cases hC2⟩
      show (cd.storeRun dp.toNatClampNeg (cs.stretch sp.toNatClampNeg n.toNatClampNeg)).slots[j]? = _
      rw [Cell.storeRun_get cd _ _ j (by rw [Cell.stretch_length]; exact Nat.le_trans h5 d4.1), Cell.stretch_length]
      by_cases hin : dp.toNatClampNeg ≤ j ∧ j < dp.toNatClampNeg + n.toNatClampNeg
      · rw [if_pos hin]
        have e1 : (cs.stretch sp.toNatClampNeg n.toNatClampNeg)[j - dp.toNatClampNeg]? = some (.int (h.2.2.1 src (sp.toNatClampNeg + (j - dp.toNatClampNeg)))) := by
          unfold Cell.stretch
          rw [List.getElem?_map, List.getElem?_range (by omega)]
          show some (cs.slots.getD _ _) = _
          rw [hget _ (by omega)]
        rw [e1]
        simp [zval, va_cpy, hin, zv]
      · rw [if_neg hin, d5 j hj]
        simp [zval, va_cpy, hin, zv]
  obtain ⟨t, a1, b1⟩ := zg_w kk hR' hl (locs := locs ++ (cs.stretch sp.toNatClampNeg n.toNatClampNeg).zipIdx.map fun q => ⟨zr S0 z dst, dp.toNatClampNeg + q.2⟩) (fun q hq' => by
    rcases List.mem_append.mp hq' with g | g
    · exact hq q g
    · obtain ⟨y, -, hy⟩ := List.mem_map.mp g
      rw [← hy]; exact zr_big hR ha) _ hheap X'
  exact ⟨t, step t a1, b1⟩
end ZST
