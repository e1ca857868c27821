/-- what is fixed of exceptions at the start: which class is assignable to which; the words of their constructors; the texts -/
def zxnames : List String := ["java/lang/RuntimeException", "java/lang/Exception"]
def zFx (S0 : State) : Prop :=
  (∀ x y : Nat, x < 2 → y < 2 → ∀ cx cy : ClassId, S0.vm.findClass (zxn x) = some cx → S0.vm.findClass (zxn y) = some cy → S0.vm.assignable cx cy = decide (x = y)) ∧
  (∀ oc ic x : Nat, zxl oc ic = some x → ∀ (s : State) (args : Array Value), S0.WarmedH s.vm → (∀ q : Nat, q < S0.heap.size → s.heap[q]? = S0.heap[q]?) → ∀ a ∈ Jvm.Bundle.ownAtoms (zcn oc) ic (zxn x) zxnames, a.before args s = true) ∧
  ∀ oc k : Nat, zxs oc k = true → ∃ (tx : String) (q : Nat), vk_R (zcn oc) k tx q S0
theorem zxc_all : (List.range 10).all (fun oc => (zxcL.getD oc []).all (fun q => decide (q.2.1 < 2) && zat0 q.2.2 (.classLink (zcn oc) q.1 (zxn q.2.1)))) = true := by decide +kernel
theorem zxc_ok {oc k x : Nat} (h : zxc oc k = some x) : x < 2 ∧ Cond.classLink (zcn oc) k (zxn x) ∈ zws := by
  obtain ⟨q, hq, hk, e⟩ := zfind h
  have hc := zall zxc_all (by decide) hq
  cases e
  have hk' : q.1 = k := by simpa using hk
  subst hk'
  rw [Bool.and_eq_true, decide_eq_true_eq] at hc
  exact ⟨hc.1, zin hc.2⟩
theorem zhd_all : ((List.range zNm).drop 1).all (fun mi => (zhd mi).all (fun q => (zxc (zoc mi) q.2.2.2).isSome && decide (q.2.2.2 ≠ 0))) = true := by decide +kernel
theorem zhd_ok {mi : Nat} (h0 : mi ≠ 0) (h : mi < zNm) {q : Nat × Nat × Nat × Nat} (hq : q ∈ zhd mi) : (∃ x, zxc (zoc mi) q.2.2.2 = some x) ∧ q.2.2.2 ≠ 0 := by
  have h1 : mi ∈ (List.range zNm).drop 1 := by
    obtain ⟨k, rfl⟩ : ∃ k, mi = k + 1 := ⟨mi - 1, by omega⟩
    refine List.mem_of_getElem? (i := k) ?_
    rw [List.getElem?_drop, List.getElem?_range (by omega)]
    congr 1; omega
  have h2 := List.all_eq_true.mp (List.all_eq_true.mp zhd_all mi h1) q hq
  rw [Bool.and_eq_true, decide_eq_true_eq] at h2
  exact ⟨Option.isSome_iff_exists.mp h2.1, h2.2⟩
section ZCL2
variable {p : Program} {l : Launch} {e : Env} {Rm : Room} {s : State} {m : MethodId} {args : Array Value} {below : List Frame} {meth : Method} {c : Code} {H : Heap} {locs : List Loc} {cells slots : Nat} {Q : State → Prop}
variable {S0 : State} {D : va_G} {z : Nat → Nat} {L mi pc : Nat} {lv : zLv} {st : List Value} {h : zHp} {ls : Array Slot}
/-- a thrown object comes into the method: its handler, or out -/
theorem zcaught (Fx : zFx S0) (F : zFix S0 D z) (C : zCx S0 p s m meth c mi) (hmi : mi < zNm) {T : State} (X : Stand p l e Rm s m args below meth c T locs cells slots) (hq : ∀ q ∈ locs, S0.heap.size ≤ q.base) (hR : zRl S0 D z L h T.heap) (hl : zLs S0 z mi lv ls) {stk : List Value} {x : Nat × Nat}
    (hcell : ∃ cell : Cell, T.heap[zr S0 z x.2]? = some cell ∧ cell.vm = .none ∧ S0.vm.findClass (zxn x.1) = some cell.cls)
    (kk : match zcatch mi pc x.1 with
      | some pc' => zG p l e Rm s m args below meth c Q S0 D z L mi pc' lv [.ref x.2] h cells slots
      | none => zhd mi = [] ∧ ∀ t, zEnd S0 D z L s below (.inr x) h cells slots t → Q t) :
    ∃ t, Steps p.tables e below ((T.setTop (F0 m pc ls stk)).pushFrame (.throwing (zr S0 z x.2))) t ∧ Q t := by
  have hts := zCx.ts (args := args) F C
  obtain ⟨hx, hb, hml, hown, hlocks, hret, hname, hW, hsz, htab, hag, hns⟩ := C
  obtain ⟨cell, c1, c2, c3⟩ := hcell
  cases hk : zcatch mi pc x.1 with
  | none =>
    rw [hk] at kk
    obtain ⟨hh, hQ⟩ := kk
    have hout : ∀ y ∈ c.exceptionTable.toList, covers y (F0 m pc ls stk).pc = false := by
      intro y hy
      rcases htab with ht | ht
      · rw [hh] at ht; cases ht
      · rw [hh] at ht
        rw [List.map_eq_nil_iff.mp ht] at hy
        cases hy
    obtain ⟨w1, w2, w3, w4, w5⟩ := X.leaveThrown (zr S0 z x.2) (g := F0 m pc ls stk) rfl rfl rfl hout hlocks
    exact ⟨_, w1, hQ _ ⟨_, w2, w3, w4, hR, ⟨locs, w5, hq⟩, rfl, cell, c1, c2, c3⟩⟩
  | some pc' =>
    rw [hk] at kk
    dsimp only at kk
    unfold zcatch at hk
    obtain ⟨q, hq1, epc⟩ := Option.map_eq_some_iff.mp hk
    obtain ⟨hp, as, bs, hsp, hno⟩ := List.find?_eq_some_iff_append.mp hq1
    rw [Bool.and_eq_true, decide_eq_true_eq, decide_eq_true_eq] at hp
    obtain ⟨hcov, hxq⟩ := hp
    have hmi0 : mi ≠ 0 := by
      rintro rfl
      have : q ∈ zhd 0 := by rw [hsp]; simp
      have h2 : zhd 0 = [(0, 0, 0, 0)] := rfl
      rw [h2, List.mem_singleton] at this
      subst this
      exact absurd hcov.2 (by simp)
    have ht : c.exceptionTable.toList.map (fun h => (h.startPc, h.endPc, h.handlerPc, h.catchType)) = as ++ q :: bs := by
      rcases htab with ht | ht
      · have : q ∈ zhd mi := by rw [hsp]; simp
        rw [ht, List.mem_singleton] at this
        subst this
        exact absurd hcov.2 (by simp)
      · rw [ht, hsp]
    obtain ⟨l1, l2, e1, e2, e3⟩ := List.map_eq_append_iff.mp ht
    obtain ⟨y, l3, e4, e5, e6⟩ := List.map_eq_cons_iff.mp e3
    subst e5
    have hpl : e.platform.magicAccessors = ({} : Platform).magicAccessors := by rw [X.admits.platform]
    have hal := hW.alike
    obtain ⟨hx2, hwx⟩ := zxc_ok hxq
    obtain ⟨cT, hcT, hclT⟩ := Cond.classLink_spec hown (hts _ hwx) e.platform hpl
    have hcT0 : S0.vm.findClass (zxn x.1) = some cT := by rw [← hcT]; exact (hal.findClass _ _).symm
    have ecT : cT = cell.cls := Option.some.inj (hcT0.symm.trans c3)
    have hself : s.vm.assignable cell.cls cT = true := by
      rw [hal.assignable, Fx.1 x.1 x.1 hx2 hx2 cell.cls cT c3 hcT0]
      simp
    obtain ⟨hy0, -⟩ := (⟨(zhd_ok hmi0 hmi (show (y.startPc, y.endPc, y.handlerPc, y.catchType) ∈ zhd mi by rw [hsp]; simp)).2, trivial⟩ : y.catchType ≠ 0 ∧ True)
    obtain ⟨vm', X', step⟩ := X.caughtThrough (zr S0 z x.2) (g := F0 m pc ls stk) rfl c1 (by rw [c2]; rfl) (by
        rw [← ecT]
        exact Vm.classAt_of_findClass hcT) l1 y l3 (by rw [e1, e4]) (fun w hw => by
        have hwm : (w.startPc, w.endPc, w.handlerPc, w.catchType) ∈ as := by
          rw [← e2]; exact List.mem_map.mpr ⟨w, hw, rfl⟩
        have hn1 := hno _ hwm
        by_cases hcw : w.startPc ≤ pc ∧ pc < w.endPc
        · refine Or.inr ?_
          obtain ⟨⟨x2, hx2'⟩, hw0⟩ := zhd_ok hmi0 hmi (q := (w.startPc, w.endPc, w.handlerPc, w.catchType)) (by rw [hsp]; exact List.mem_append_left _ hwm)
          have hne : x2 ≠ x.1 := by
            rintro rfl
            simp [hcw] at hn1
            exact hn1 hx2'
          obtain ⟨hlt2, hw2⟩ := zxc_ok hx2'
          obtain ⟨c9, hc9, hcl9⟩ := Cond.classLink_spec hown (hts _ hw2) e.platform hpl
          have hc90 : S0.vm.findClass (zxn x2) = some c9 := by rw [← hc9]; exact (hal.findClass _ _).symm
          refine ⟨hw0, c9, hcl9, ?_⟩
          rw [hal.assignable, Fx.1 x.1 x2 hx2 hlt2 cell.cls c9 c3 hc90]
          simp [Ne.symm hne]
        · refine Or.inl ?_
          show (decide (w.startPc ≤ pc) && decide (pc < w.endPc)) = false
          by_cases h1 : w.startPc ≤ pc
          · have h2 : ¬ pc < w.endPc := fun h2 => hcw ⟨h1, h2⟩
            simp [h2]
          · simp [h1]) (by
        show (decide (y.startPc ≤ pc) && decide (pc < y.endPc)) = true
        simp [hcov.1, hcov.2]) (Or.inr ⟨hy0, cT, hclT, hself⟩)
    subst epc
    obtain ⟨t, a1, b1⟩ := zg_w kk hR hl hq (T.setVm vm') rfl X'
    refine ⟨t, ?_, b1⟩
    rw [X.pushThrowing_eq]
    exact step t a1
/-- what goes on behind the call (zfin's last premise) -/
def zKk (p : Program) (l : Launch) (e : Env) (Rm : Room) (s : State) (m : MethodId) (args : Array Value) (below : List Frame) (meth : Method) (c : Code) (Q : State → Prop) (S0 : State) (D : va_G) (z : Nat → Nat) (L mi pc : Nat) (lv : zLv) (rest : List Value) (h h1 : zHp) (o : zOut) (cells slots : Nat) : Prop :=
  match o with
      | .inl v => zG p l e Rm s m args below meth c Q S0 D z L mi (pc + 3) lv (v.toList ++ rest) h1 (cells + (h1.1 - h.1)) (slots + (h1.2.1 - h.2.1))
      | .inr x => (match zcatch mi pc x.1 with
        | some pc' => zG p l e Rm s m args below meth c Q S0 D z L mi pc' lv [.ref x.2] h1 (cells + (h1.1 - h.1)) (slots + (h1.2.1 - h.2.1))
        | none => zhd mi = [] ∧ ∀ t, zEnd S0 D z L s below (.inr x) h1 (cells + (h1.1 - h.1)) (slots + (h1.2.1 - h.2.1)) t → Q t)
theorem zfin (Fx : zFx S0) (F : zFix S0 D z) (C : zCx S0 p s m meth c mi) (hmi : mi < zNm) {T : State} (hR : zRl S0 D z L h T.heap) (X : Stand p l e Rm s m args below meth c T locs cells slots) (hq : ∀ q ∈ locs, S0.heap.size ≤ q.base) (hl : zLs S0 z mi lv ls) {rest as : List Value} (hcr : zcat rest ≤ 8)
    {ig : Instr} (hd : decode (zcd mi) pc = .ok (ig, 3)) {mj : Nat} (h0 : mj ≠ 0) (hlt : mj < zNm) {mk : MethodId} (hn : T.methodNamed? (zy mj) = some mk) (hac : zlg mj = false → ∀ v ∈ as, v.category = 1) (hal : (zexp as).length ≤ zmx mj)
    {o : zOut} {h1 : zHp} (hcells : cells + (h1.1 - h.1) ≤ Rm.cells) (hslots : slots + (h1.2.1 - h.2.1) ≤ Rm.slots) (hfr : zrk mj + 1 ≤ Rm.frames) (hlo : 8 + (zmx mj + 11) + zlo mj ≤ Rm.locals)
    (ih : ∀ (R' : Room) (s' : State) (m' : MethodId) (args' : Array Value) (below' : List Frame) (meth' : Method) (c' : Code), zCx S0 p s' m' meth' c' mj → R'.frames = zrk mj → R'.locals = zlo mj → R'.cells = h1.1 - h.1 → R'.slots = h1.2.1 - h.2.1 →
      zG p l e R' s' m' args' below' meth' c' (zEnd S0 D z L s' below' o h1 (h1.1 - h.1) (h1.2.1 - h.2.1)) S0 D z L mj 0 (zent mj as) [] h 0 0)
    (kk : zKk p l e Rm s m args below meth c Q S0 D z L mi pc lv rest h h1 o cells slots) :
    ∃ t, Steps p.tables e below (doInvoke e (T.setTop (F0 m pc ls (rest.map (zv S0 z)))) [] mk (as.map (zv S0 z)).toArray).1 t ∧ Q t := by
  have hWT : S0.WarmedH T.vm := State.WarmedH.trans C.2.2.2.2.2.2.2.1 X.warmed
  obtain ⟨mk', methk, ck, k0, k1, k2, k3, k4, k5, k6, k7, k8, k9, k10, k11, k12⟩ := zmeth F hWT h0 hlt
  cases Option.some.inj (hn.symm.trans k0)
  have Ck : zCx S0 p (T.calling (F0 m pc ls (rest.map (zv S0 z))) mk (as.map (zv S0 z)).toArray) mk methk ck mj :=
    ⟨C.1, k3, k4, k11, k6, k5, k10, hWT, by show S0.heap.size ≤ T.heap.size; rw [hR.2.1]; omega, Or.inr k7, hR.2.2.1, hR.2.2.2.2.2⟩
  obtain ⟨T', Lc, X', hqq, hR1, hm⟩ := zcore hR X hq (g := F0 m pc ls (rest.map (zv S0 z))) rfl (by rw [C.2.2.1]; exact hl.size) (ig := ig) (len := 3) (by rw [C.2.1]; exact hd) (by show 2 * 0 + _ ≤ 8; rw [zcat_map]; omega) k1 k2 k6 k4 k9 hac hal Ck hcells hslots hfr hlo ih
  cases o with
  | inl v =>
    unfold zKk at kk
    dsimp only at kk hm
    obtain ⟨t, a1, b1⟩ := zg_w kk hR1 hl hqq T' rfl X'
    refine ⟨t, hm t ?_, b1⟩
    have ev : (v.toList ++ rest).map (zv S0 z) = (v.map (zv S0 z)).toList ++ rest.map (zv S0 z) := by cases v <;> rfl
    rw [ev] at a1
    exact a1
  | inr x =>
    unfold zKk at kk
    dsimp only at kk hm
    obtain ⟨t, a1, b1⟩ := zcaught (stk := rest.map (zv S0 z)) Fx F C hmi X' hqq hR1 hl hm.1 kk
    exact ⟨t, hm.2 t a1, b1⟩
end ZCL2
