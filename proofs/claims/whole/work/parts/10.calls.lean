/-! CALLS, RETURNS, THROWS -/
section ZCL
variable {p : Program} {l : Launch} {e : Env} {Rm : Room} {s : State} {m : MethodId} {args : Array Value} {below : List Frame} {meth : Method} {c : Code} {H : Heap} {locs : List Loc} {cells slots : Nat} {Q : State → Prop}
variable {S0 : State} {D : va_G} {z : Nat → Nat} {L mi pc : Nat} {lv : zLv} {st : List Value} {h : zHp} {ls : Array Slot}
theorem zweaken {tb : Tables} {mid below : List Frame} {a b : State} (h : Steps tb e (mid ++ below) a b) : Steps tb e below a b := by
  obtain ⟨n, hn, w⟩ := h
  refine ⟨n, hn, fun k hk => ?_⟩
  obtain ⟨above, h1, h2, h3⟩ := w k hk
  refine ⟨above ++ mid, by rw [h1, List.append_assoc], by simp [h2], fun x hx => ?_⟩
  match above, h2, h3, hx with
  | [], h2, _, _ => exact h2 rfl
  | [y], _, h3, hx =>
    simp only [List.cons_append, List.nil_append, List.cons.injEq] at hx
    exact h3 x (by rw [hx.1])
  | y :: y2 :: r, _, _, hx => simp at hx
/-- how a run of a method ends in the machine -/
def zEnd (S0 : State) (D : va_G) (z : Nat → Nat) (L : Nat) (s : State) (below : List Frame) (o : zOut) (h' : zHp) (cells slots : Nat) : State → Prop := fun t =>
  ∃ oc : Outcome, t.status = .running ∧ Ended t below oc ∧ s.WarmedH t.vm ∧ zRl S0 D z L h' t.heap ∧ (∃ Lc : List Loc, s.sameButNew ({ t with vm := s.vm } : State) Lc cells slots ∧ ∀ q ∈ Lc, S0.heap.size ≤ q.base) ∧
    (match o with
      | .inl v => oc = .returned (v.map (zv S0 z))
      | .inr x => oc = .threw (zr S0 z x.2) ∧ ∃ cell : Cell, t.heap[zr S0 z x.2]? = some cell ∧ cell.vm = .none ∧ S0.vm.findClass (zxn x.1) = some cell.cls)
theorem zw_mono {Q' : State → Prop} {g : JFrame} (hq : ∀ t, Q t → Q' t) (w : W p l e Rm s m args below meth c H locs cells slots Q g) : W p l e Rm s m args below meth c H locs cells slots Q' g := by
  intro T hT X
  obtain ⟨t, a, b⟩ := w T hT X
  exact ⟨t, a, hq t b⟩
theorem zs_end {v : Option Value} (hR : zRl S0 D z L h H) : ∀ t, MQ below (fun _ _ o t => o = .returned (v.map (zv S0 z)) ∧ t.heap = H) args s cells slots (fun q => S0.heap.size ≤ q) t → zEnd S0 D z L s below (.inl v) h cells slots t := by
  rintro t ⟨o, h1, h2, ⟨h3, h4⟩, Lc, ⟨-, h5, h6⟩, h7⟩
  exact ⟨o, h1, h2, h5, by rw [h4]; exact hR, ⟨Lc, h6, h7⟩, h3⟩
theorem zs_iret (C : zCx S0 p s m meth c mi) {len : Nat} {v : Int32} (hd : decode (zcd mi) pc = .ok (.ireturn, len)) (hlen : zlok .ireturn len = true) (hr : zrt mi = some .int ∨ (zrt mi = some .boolean ∧ (v = 0 ∨ v = 1))) :
    zG p l e Rm s m args below meth c (zEnd S0 D z L s below (.inl (some (.int v))) h cells slots) S0 D z L mi pc lv [.int v] h cells slots := by
  intro H locs ls hR hl hq
  obtain ⟨hx, hb, hml, hown, hlocks, hret, hrest⟩ := C
  simp only [zlok, zlen, beq_iff_eq] at hlen
  subst hlen
  refine zw_mono (zs_end (v := some (.int v)) (args := args) hR) ?_
  rcases hr with hr | ⟨hr, hv⟩
  · exact W.iret hx hb (by rw [hret]; exact hr) (fun t ht _ => ⟨rfl, ht⟩) hq hd hlocks
  · exact W.zret (ty := .boolean) hx hb (by rw [hret]; exact hr) (by rcases hv with rfl | rfl <;> rfl) (fun t ht _ => ⟨rfl, ht⟩) hq hd hlocks
theorem zs_aret (C : zCx S0 p s m meth c mi) {len a : Nat} {rt : FieldType} (hd : decode (zcd mi) pc = .ok (.areturn, len)) (hlen : zlok .areturn len = true) (hr : zrt mi = some rt) (hrt : (∃ n, rt = .object n) ∨ ∃ t, rt = .array t) :
    zG p l e Rm s m args below meth c (zEnd S0 D z L s below (.inl (some (.ref a))) h cells slots) S0 D z L mi pc lv [.ref a] h cells slots := by
  intro H locs ls hR hl hq
  obtain ⟨hx, hb, hml, hown, hlocks, hret, hrest⟩ := C
  simp only [zlok, zlen, beq_iff_eq] at hlen
  subst hlen
  refine zw_mono (zs_end (v := some (.ref a)) (args := args) hR) ?_
  exact W.aret hx hb (by rw [hret]; exact hr) hrt (Or.inr ⟨_, rfl⟩) (fun t ht _ => ⟨rfl, ht⟩) hq hd hlocks
theorem zs_vret (C : zCx S0 p s m meth c mi) {len : Nat} (hd : decode (zcd mi) pc = .ok (.return_, len)) (hlen : zlok .return_ len = true) (hr : zrt mi = none) :
    zG p l e Rm s m args below meth c (zEnd S0 D z L s below (.inl none) h cells slots) S0 D z L mi pc lv [] h cells slots := by
  intro H locs ls hR hl hq
  obtain ⟨hx, hb, hml, hown, hlocks, hret, hrest⟩ := C
  simp only [zlok, zlen, beq_iff_eq] at hlen
  subst hlen
  refine zw_mono (zs_end (v := none) (args := args) hR) ?_
  exact W.vret hx hb (by rw [hret]; exact hr) (fun t ht _ => ⟨rfl, ht⟩) hq hd hlocks
/-- INTO THE CALLEE AND OUT OF IT -/
theorem zcore {T : State} (hR : zRl S0 D z L h T.heap) (X : Stand p l e Rm s m args below meth c T locs cells slots) (hq : ∀ q ∈ locs, S0.heap.size ≤ q.base) {g : JFrame} (hg : g.method = m) (hgs : g.locals.size = c.maxLocals) {ig : Instr} {len : Nat} (hdg : decode c.code g.pc = .ok (ig, len)) (hgw : 2 * g.monitorRoom + (g.stack.map fun v => v.category).sum ≤ 8)
    {mj : Nat} {mk : MethodId} {methk : Method} {ck : Code} {as : List Value} (hmk : T.vm.method? mk = some methk) (hck : methk.code = some ck) (hlk : methk.locks = false) (hmx : ck.maxLocals = zmx mj) (hpk : T.plainMethod mk) (hac : zlg mj = false → ∀ v ∈ as, v.category = 1) (hal : (zexp as).length ≤ zmx mj)
    (Ck : zCx S0 p (T.calling g mk (as.map (zv S0 z)).toArray) mk methk ck mj) {o : zOut} {h1 : zHp} (hcells : cells + (h1.1 - h.1) ≤ Rm.cells) (hslots : slots + (h1.2.1 - h.2.1) ≤ Rm.slots) (hfr : zrk mj + 1 ≤ Rm.frames) (hlo : 8 + (zmx mj + 11) + zlo mj ≤ Rm.locals)
    (ih : ∀ (R' : Room) (s' : State) (m' : MethodId) (args' : Array Value) (below' : List Frame) (meth' : Method) (c' : Code), zCx S0 p s' m' meth' c' mj → R'.frames = zrk mj → R'.locals = zlo mj → R'.cells = h1.1 - h.1 → R'.slots = h1.2.1 - h.2.1 →
      zG p l e R' s' m' args' below' meth' c' (zEnd S0 D z L s' below' o h1 (h1.1 - h.1) (h1.2.1 - h.2.1)) S0 D z L mj 0 (zent mj as) [] h 0 0) :
    ∃ (T' : State) (Lc : List Loc), Stand p l e Rm s m args below meth c T' (locs ++ Lc) (cells + (h1.1 - h.1)) (slots + (h1.2.1 - h.2.1)) ∧ (∀ q ∈ locs ++ Lc, S0.heap.size ≤ q.base) ∧ zRl S0 D z L h1 T'.heap ∧
      (match o with
        | .inl v => ∀ target, Steps p.tables e below (T'.setTop { g with pc := g.pc + len, stack := (v.map (zv S0 z)).toList ++ g.stack }) target → Steps p.tables e below (doInvoke e (T.setTop g) [] mk (as.map (zv S0 z)).toArray).1 target
        | .inr x => (∃ cell : Cell, T'.heap[zr S0 z x.2]? = some cell ∧ cell.vm = .none ∧ S0.vm.findClass (zxn x.1) = some cell.cls) ∧
            ∀ target, Steps p.tables e below ((T'.setTop g).pushFrame (.throwing (zr S0 z x.2))) target → Steps p.tables e below (doInvoke e (T.setTop g) [] mk (as.map (zv S0 z)).toArray).1 target) := by
  obtain ⟨Y₀, hin⟩ := X.into hg hgs hdg (as.map (zv S0 z)).toArray (R' := { frames := zrk mj, cells := h1.1 - h.1, slots := h1.2.1 - h.2.1, locals := zlo mj }) hmk hck hlk hpk hfr (by rw [hmx]; show 2 * g.monitorRoom + (g.stack.map fun v => v.category).sum + (zmx mj + 11) + zlo mj ≤ Rm.locals; omega) hcells hslots
  obtain ⟨ls0, e0, hl0⟩ := zLs.entry (S0 := S0) (z := z) hac hal mk
  have w := zg_w (ih { frames := zrk mj, cells := h1.1 - h.1, slots := h1.2.1 - h.2.1, locals := zlo mj } _ mk (as.map (zv S0 z)).toArray (.java g :: below) methk ck Ck rfl rfl rfl rfl) (H := T.heap) (locs := []) hR hl0 (fun q h => by cases h)
  have e0' : entryFrame mk (as.map (zv S0 z)).toArray ck.maxLocals = F0 mk 0 ls0 [] := by rw [hmx]; exact e0
  rw [e0'] at Y₀
  obtain ⟨t, st, oc, e1, e2, e3, e4, ⟨Lc, e5, e6⟩, e7⟩ := w ((T.setTop g).pushFrame (.java (F0 mk 0 ls0 []))) rfl Y₀
  have hst : Steps p.tables e below (doInvoke e (T.setTop g) [] mk (as.map (zv S0 z)).toArray).1 t := by
    rw [hin [], e0']
    exact zweaken (mid := [.java g]) st
  have hqq : ∀ q ∈ locs ++ Lc, S0.heap.size ≤ q.base := fun q hq' => by
    rcases List.mem_append.mp hq' with g | g
    · exact hq q g
    · exact e6 q g
  cases o with
  | inl v =>
    subst e7
    obtain ⟨T', X', -, -, ht⟩ := X.outOf hg hdg e2 e3 e5
    refine ⟨T', Lc, X', hqq, by have : t.heap = T'.heap := by rw [ht]; rfl
                                rw [← this]; exact e4, fun target hs => hst.trans (by rw [ht]; exact hs)⟩
  | inr x =>
    obtain ⟨rfl, cell, q1, q2, q3⟩ := e7
    obtain ⟨T', X', -, -, ht⟩ := X.outOfThrown hg e2 e3 e5
    have hh : t.heap = T'.heap := by rw [ht]; rfl
    exact ⟨T', Lc, X', hqq, by rw [← hh]; exact e4, ⟨cell, by rw [← hh]; exact q1, q2, q3⟩, fun target hs => hst.trans (by rw [ht]; exact hs)⟩
end ZCL
