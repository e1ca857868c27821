/-! THE START: exceptions and their texts -/
theorem zst_moved {S0 U : State} {A A' : Array Value} (hal : S0.vm.Alike U.vm) (hh : ∀ q : Nat, q < S0.heap.size → U.heap[q]? = S0.heap[q]?) {O f d : String} (h : (Cond.laysStatic O f d).before A S0 = true) :
    (Cond.laysStatic O f d).before A' U = true ∧ ((Cond.isRef (.static O f d)).before A S0 = true → (Cond.isRef (.static O f d)).before A' U = true) := by
  obtain ⟨c, k, i, fd, a, cell, hc, hf, hst, hsta, hcell, hiss, hcls, hlt, hty⟩ := Cond.laysStatic_spec h
  obtain ⟨k', hi', hek⟩ := State.fieldFound?_setVm hal hf
  have hf' : U.fieldFound? O f d = some (c, k', i, fd) := hi'
  have ha : a < S0.heap.size := (Array.getElem?_eq_some_iff.mp hcell).1
  have hcell' : U.heap[a]? = some cell := by rw [hh a ha]; exact hcell
  have hk' : k'.statics = some a := by rw [hek]; exact hsta
  refine ⟨Cond.laysStatic_of (s := U) (by rw [hal.findClass]; exact hc) hf' hst hk' hcell' hiss hcls hlt (by rw [hek]; exact hty), fun hr => ?_⟩
  have e0 : (Term.static O f d).eval A S0 none [] S0 = cell.slots[fd.slot]? := by
    simp [Term.eval, State.fieldNamed?, hf, hst, hsta, hcell, hiss]
  have e1 : (Term.static O f d).eval A' U none [] U = cell.slots[fd.slot]? := by
    simp [Term.eval, State.fieldNamed?, hf', hst, hk', hcell', hiss]
  simp only [Cond.before, Cond.holds, Cond.value] at hr ⊢
  rw [e0] at hr
  rw [e1]
  exact hr
/-- a word of an exception's: of the tables, or of a static -/
def zxw (w : Cond) : Bool := match w with
  | .laysStatic O f d => decide (Cond.laysStatic O f d ∈ lw_tbl)
  | .isRef (.static O f d) => decide (Cond.isRef (.static O f d) ∈ zfl0) && decide (Cond.laysStatic O f d ∈ lw_tbl)
  | .declares x => decide (Cond.declares x ∈ lw_tbl)
  | .castable a b => decide (Cond.castable a b ∈ lw_tbl)
  | w => decide (w ∈ lw_tbl) && goodWord w
theorem zxw_all : (List.range 10).all (fun oc => (zxlL.getD oc []).all (fun q => (Jvm.Bundle.ownAtoms (zcn oc) q.1 (zxn q.2.1) zxnames).all zxw)) = true := by decide +kernel
theorem zxw_ok {S0 U : State} {A A' : Array Value} (hts : ∀ w ∈ lw_tbl, w.before A S0 = true) (hf : ∀ w ∈ zfl0, w.before A S0 = true) (hW : S0.WarmedH U.vm) (hh : ∀ q : Nat, q < S0.heap.size → U.heap[q]? = S0.heap[q]?) {w : Cond} (h : zxw w = true) : w.before A' U = true := by
  unfold zxw at h
  split at h
  next O f d => exact (zst_moved hW.alike hh (hts _ (of_decide_eq_true h))).1
  next O f d =>
    rw [Bool.and_eq_true, decide_eq_true_eq, decide_eq_true_eq] at h
    exact (zst_moved hW.alike hh (hts _ h.2)).2 (hf _ h.1)
  next x =>
    have h1 := hts _ (of_decide_eq_true h)
    rw [← Cond.declares_setVm hW.alike] at h1
    exact va_tabs rfl (rfl : (S0.setVm U.vm).vm = U.vm) h1
  next a b =>
    have h1 := hts _ (of_decide_eq_true h)
    rw [← Cond.castable_setVm hW.alike] at h1
    exact va_tabs rfl (rfl : (S0.setVm U.vm).vm = U.vm) h1
  next =>
    rw [Bool.and_eq_true, decide_eq_true_eq] at h
    exact word_at hW (good_of_word h.2) (hts _ h.1)
theorem zxcast : (Cond.castable (zxn 0) (zxn 0) ∈ lw_tbl ∧ Cond.castable (zxn 1) (zxn 1) ∈ lw_tbl) ∧ (Cond.not (.castable (zxn 0) (zxn 1)) ∈ zfl0 ∧ Cond.not (.castable (zxn 1) (zxn 0)) ∈ zfl0) := by
  refine ⟨⟨?_, ?_⟩, ?_, ?_⟩ <;> decide +kernel
theorem zxs_all : zxsL.all (fun q => decide (lw_tbl[q.2.2.2]? = some (.stringRef (zcn q.1) q.2.1 q.2.2.1))) = true := by decide +kernel
theorem zstartx {s : State} {A : Array Value} (hts : ∀ w ∈ lw_tbl, w.before A s = true) (hg : (Jvm.Cond.and given_1 narrow_1).before A s = true) : zFx s := by
  have hf : ∀ w ∈ zfl0, w.before A s = true := flat_of_before _ hg
  refine ⟨fun x y hx hy cx cy hcx hcy => ?_, fun oc ic x hx U args hW hh w hw => ?_, fun oc k hk => ?_⟩
  · obtain ⟨⟨c1, c2⟩, c3, c4⟩ := zxcast
    have pos : ∀ x' : Nat, Cond.castable (zxn x') (zxn x') ∈ lw_tbl → ∀ c : ClassId, s.vm.findClass (zxn x') = some c → s.vm.assignable c c = true := by
      intro x' hw c hc
      obtain ⟨c3, c4, hc3, hc4, hasg⟩ := Cond.castable_spec (hts _ hw)
      cases Option.some.inj (hc3.symm.trans hc)
      cases Option.some.inj (hc4.symm.trans hc)
      exact hasg
    have neg : ∀ x' y' : Nat, Cond.not (.castable (zxn x') (zxn y')) ∈ zfl0 → ∀ c d : ClassId, s.vm.findClass (zxn x') = some c → s.vm.findClass (zxn y') = some d → s.vm.assignable c d = false := by
      intro x' y' hw c d hc hd
      have h1 := hf _ hw
      simp only [Cond.before, Cond.holds, Cond.value, hc, hd] at h1
      simpa using h1
    match x, y, hx, hy with
    | 0, 0, _, _ => cases Option.some.inj (hcx.symm.trans hcy); exact pos 0 c1 cx hcx
    | 1, 1, _, _ => cases Option.some.inj (hcx.symm.trans hcy); exact pos 1 c2 cx hcx
    | 0, 1, _, _ => exact neg 0 1 c3 cx cy hcx hcy
    | 1, 0, _, _ => exact neg 1 0 c4 cx cy hcx hcy
  · obtain ⟨q, hq, hk, e⟩ := zfind hx
    have hc := zall zxw_all (by decide) hq
    have hk' : q.1 = ic := by simpa using hk
    subst hk'
    subst e
    exact zxw_ok hts hf hW hh (List.all_eq_true.mp hc w hw)
  · obtain ⟨q, hq, e⟩ := List.any_eq_true.mp hk
    rw [Bool.and_eq_true, beq_iff_eq, beq_iff_eq] at e
    obtain ⟨rfl, rfl⟩ := e
    have h1 := hts _ (List.mem_of_getElem? (of_decide_eq_true (List.all_eq_true.mp zxs_all q hq)))
    have hcur : ∃ cur, s.vm.findClass (zcn q.1) = some cur := by
      have h2 := h1
      simp only [Cond.before, Cond.holds, Cond.value] at h2
      cases hc : s.vm.findClass (zcn q.1) with
      | none => simp [hc] at h2
      | some cur => exact ⟨cur, rfl⟩
    obtain ⟨cur, hcur⟩ := hcur
    obtain ⟨k, cf, i, a, -, -, -, -, -, h6⟩ := Cond.stringRef_spec hcur h1
    exact ⟨q.2.2.1, a, vk_R.of h1 h6⟩
