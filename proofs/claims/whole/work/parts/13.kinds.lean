/-! THE THREE KINDS OF CALLS -/
theorem zml_nz_all : (List.range 10).all (fun oc => (zmlL.getD oc []).all (fun q => decide (q.2.1 ≠ 0))) = true := by decide +kernel
theorem zml_nz {oc k mj : Nat} (h : zml oc k = some mj) : mj ≠ 0 := by
  obtain ⟨q, hq, hk, e⟩ := zfind h
  have hc := zall zml_nz_all (by decide) hq
  cases e
  exact of_decide_eq_true hc
theorem zinit_all : (List.range zNm).all (fun mj => !decide ((zy mj).name = "<init>") || (decide (zrt mj = none) && [1, 2, 3, 4, 5, 12, 13, 81].contains mj)) = true := by decide +kernel
theorem zinit_ok {mj : Nat} (h : mj < zNm) (hn : (zy mj).name = "<init>") : zrt mj = none ∧ Cond.code (zy mj) (zcd mj) (zmx mj) (zrt mj) ∈ zws := by
  have h1 := List.all_eq_true.mp zinit_all mj (List.mem_range.mpr h)
  rw [Bool.or_eq_true, Bool.and_eq_true, decide_eq_true_eq] at h1
  rcases h1 with h1 | ⟨h1, h2⟩
  · simp [hn] at h1
  · refine ⟨h1, ?_⟩
    have h3 : mj ∈ [1, 2, 3, 4, 5, 12, 13, 81] := List.contains_iff_mem.mp h2
    simp only [List.mem_cons, List.not_mem_nil, or_false] at h3
    rcases h3 with rfl | rfl | rfl | rfl | rfl | rfl | rfl | rfl
    · exact List.mem_filter.mpr ⟨List.mem_of_getElem? zco_1, rfl⟩
    · exact List.mem_filter.mpr ⟨List.mem_of_getElem? zco_2, rfl⟩
    · exact List.mem_filter.mpr ⟨List.mem_of_getElem? zco_3, rfl⟩
    · exact List.mem_filter.mpr ⟨List.mem_of_getElem? zco_4, rfl⟩
    · exact List.mem_filter.mpr ⟨List.mem_of_getElem? zco_5, rfl⟩
    · exact List.mem_filter.mpr ⟨List.mem_of_getElem? zco_12, rfl⟩
    · exact List.mem_filter.mpr ⟨List.mem_of_getElem? zco_13, rfl⟩
    · exact List.mem_filter.mpr ⟨List.mem_of_getElem? zco_81, rfl⟩
/-- what a call that the logical machine makes has -/
def zCf (mi mj : Nat) (as rest : List Value) (len : Nat) : Prop :=
  zrk mj < zrk mi ∧ 8 + (zmx mj + 11) + zlo mj ≤ zlo mi ∧ mj < zNm ∧ zcat rest ≤ 8 ∧ (zlg mj = false → ∀ v ∈ as, v.category = 1) ∧ (zexp as).length ≤ zmx mj ∧ len = 3
theorem ztake_ok {n : Nat} {st as rest : List Value} (h : ztake n st = some (as, rest)) : st = as.reverse ++ rest ∧ as.length = n := by
  unfold ztake at h
  split at h
  next hl =>
    cases h
    refine ⟨by rw [List.reverse_reverse, List.take_append_drop], ?_⟩
    rw [List.length_reverse, List.length_take]; omega
  next => cases h
theorem zcall_true {mi mj mj' L len : Nat} {h : zHp} {st as rest : List Value} (hc : zcall mi mj true L h st = some (.inr (.inl (mj', as, rest, len)))) :
    mj' = mj ∧ zCf mi mj as rest len ∧ zat mj = false ∧ ∃ (b : Nat) (as' : List Value), as = .ref b :: as' ∧ as'.length = znp mj ∧ st = as'.reverse ++ .ref b :: rest ∧ zk L h b = some (.inr (zoc mj)) := by
  unfold zcall at hc
  split at hc
  next h1 =>
    split at hc
    next as' rest' ht =>
      obtain ⟨e1, e2⟩ := ztake_ok ht
      refine Decidable.byCases (fun h2 => ?_) (fun h2 => by rw [if_neg h2] at hc; cases hc)
      · rw [if_pos h2] at hc
        dsimp only at hc
        split at hc
        next b r =>
          split at hc
          next h3 =>
            cases hc
            refine ⟨rfl, ⟨h1.1.1, h1.1.2, h1.2.2, h3.2, fun hg v hv => ?_, ?_, rfl⟩, by simpa using h1.2.1, b, as', rfl, e2, e1, h3.1⟩
            · rcases List.mem_cons.mp hv with rfl | hv
              · rfl
              · have := h2.1
                rw [hg, Bool.false_or] at this
                simpa using List.all_eq_true.mp this v hv
            · have := h2.2
              show (some (Value.ref b) :: zexp as').length ≤ _
              simp at this ⊢
              omega
          next => cases hc
        next => cases hc
    next => cases hc
  next => cases hc
theorem zcall_false {mi mj mj' L len : Nat} {h : zHp} {st as rest : List Value} (hc : zcall mi mj false L h st = some (.inr (.inl (mj', as, rest, len)))) :
    mj' = mj ∧ zCf mi mj as rest len ∧ zat mj = true ∧ as.length = znp mj ∧ st = as.reverse ++ rest := by
  unfold zcall at hc
  split at hc
  next h1 =>
    split at hc
    next as' rest' ht =>
      obtain ⟨e1, e2⟩ := ztake_ok ht
      refine Decidable.byCases (fun h2 => ?_) (fun h2 => by rw [if_neg h2] at hc; cases hc)
      · rw [if_pos h2] at hc
        dsimp only at hc
        split at hc
        next h3 =>
          cases hc
          refine ⟨rfl, ⟨h1.1.1, h1.1.2, h1.2.2, h3, fun hg v hv => ?_, ?_, rfl⟩, by simpa using h1.2.1, e2, e1⟩
          · have := h2.1
            rw [hg, Bool.false_or] at this
            simpa using List.all_eq_true.mp this v hv
          · have := h2.2
            simp at this ⊢
            omega
        next => cases hc
    next => cases hc
  next => cases hc
section ZCK
variable {p : Program} {l : Launch} {e : Env} {Rm : Room} {s : State} {m : MethodId} {args : Array Value} {below : List Frame} {meth : Method} {c : Code} {H : Heap} {locs : List Loc} {cells slots : Nat} {Q : State → Prop}
variable {S0 : State} {D : va_G} {z : Nat → Nat} {L mi pc : Nat} {lv : zLv} {st : List Value} {h : zHp} {ls : Array Slot}
/-- the words of a method that is called -/
theorem zmw {mj : Nat} (h0 : mj ≠ 0) (hlt : mj < zNm) (hts : ∀ w ∈ zws, w.before args s = true) : (Cond.initialized (zy mj).cls).before args s = true ∧ (zat mj = true → (Cond.static (zy mj)).before args s = true) ∧
    (zat mj = false → (Cond.instanceMethod (zy mj)).before args s = true ∧ ((zy mj).name ≠ "<init>" → (Cond.selects (zy mj).cls (zy mj) (zy mj)).before args s = true)) ∧
    (zy mj).cls = zcn (zoc mj) ∧ (parseMethodDescriptor (zy mj).desc).map (fun d => d.parameters.length) = some (znp mj) ∧ ((zy mj).cls ≠ "java/lang/invoke/MethodHandle" ∧ (zy mj).cls ≠ "java/lang/invoke/VarHandle") := by
  have hm := zm_ok h0 hlt
  unfold zmC at hm
  rw [Bool.and_eq_true, Bool.and_eq_true, Bool.and_eq_true, Bool.and_eq_true, Bool.and_eq_true, decide_eq_true_eq, decide_eq_true_eq, decide_eq_true_eq] at hm
  obtain ⟨hi, hs, ⟨⟨hc, hp⟩, hpl⟩, hne⟩ := hm
  refine ⟨hts _ (zin hi), fun ha => ?_, fun ha => ?_, hc, hp, hne⟩
  · rw [if_pos ha] at hs
    exact hts _ (zin hs)
  · rw [if_neg (by rw [ha]; decide), Bool.and_eq_true, Bool.or_eq_true] at hs
    refine ⟨hts _ (zin hs.1), fun hn => ?_⟩
    rcases hs.2 with h2 | h2
    · exact absurd (of_decide_eq_true h2) hn
    · exact hts _ (zin h2)
def zIh (p : Program) (l : Launch) (e : Env) (S0 : State) (D : va_G) (z : Nat → Nat) (L mj : Nat) (as : List Value) (h h1 : zHp) (o : zOut) : Prop :=
  ∀ (R' : Room) (s' : State) (m' : MethodId) (args' : Array Value) (below' : List Frame) (meth' : Method) (c' : Code), zCx S0 p s' m' meth' c' mj → R'.frames = zrk mj → R'.locals = zlo mj → R'.cells = h1.1 - h.1 → R'.slots = h1.2.1 - h.2.1 →
      zG p l e R' s' m' args' below' meth' c' (zEnd S0 D z L s' below' o h1 (h1.1 - h.1) (h1.2.1 - h.2.1)) S0 D z L mj 0 (zent mj as) [] h 0 0
theorem zs_callV (Fx : zFx S0) (F : zFix S0 D z) (C : zCx S0 p s m meth c mi) (hmi : mi < zNm) {k len mj b : Nat} {as rest : List Value} (hd : decode (zcd mi) pc = .ok (.invokevirtual k, 3)) (hk : zml (zoc mi) k = some mj) (hni : (zy mj).name ≠ "<init>") (hcf : zCf mi mj (.ref b :: as) rest len) (hat : zat mj = false) (hal : as.length = znp mj) (hst : st = as.reverse ++ .ref b :: rest) (hb : zk L h b = some (.inr (zoc mj)))
    {o : zOut} {h1 : zHp} (hcells : cells + (h1.1 - h.1) ≤ Rm.cells) (hslots : slots + (h1.2.1 - h.2.1) ≤ Rm.slots) (hfr : zrk mi ≤ Rm.frames) (hlo : zlo mi ≤ Rm.locals)
    (ih : zIh p l e S0 D z L mj (.ref b :: as) h h1 o) (kk : zKk p l e Rm s m args below meth c Q S0 D z L mi pc lv rest h h1 o cells slots) : zG p l e Rm s m args below meth c Q S0 D z L mi pc lv st h cells slots := by
  intro H locs ls hR hl hq T hT X
  subst hT
  subst hst
  have hts := zCx.ts (args := args) F C
  have CC := C
  obtain ⟨hx, hbb, hml, hown, hlocks, hret, hname, hW, hsz, htab, hag, hns⟩ := C
  obtain ⟨hr1, hr2, hlt, hcr, hac, hxl, hl3⟩ := hcf
  have h0 := zml_nz hk
  obtain ⟨-, w2, w3, hcl, hpar, hy⟩ := zmw (args := args) (s := s) h0 hlt hts
  obtain ⟨hinst, hsel⟩ := w3 hat
  have hsel := hsel hni
  obtain ⟨cellB, c1, hci, c2, c3, -⟩ := hR.at hb
  have hfc : s.vm.findClass (zcn (zoc mj)) = some cellB.cls := by
    have hK := va_K.moved hW.alike F.2.1
    obtain ⟨-, hfc, -⟩ := hK.1 (zoc mj) _ (zcls_at _ hci)
    rw [c3]; exact hfc
  rw [← hcl] at hfc
  obtain ⟨mk, methM, hnamed, hmethM, hstM, habM⟩ := Cond.instanceMethod_spec hinst
  obtain ⟨c2', r2, m2, q1, q2, q3, q4, kP, hkP, hkPi⟩ := Cond.selects_spec hsel
  cases hfc.symm.trans q1
  cases (State.methodFound?_of_named hnamed hy).symm.trans q2
  cases hnamed.symm.trans q3
  have hselP : selectMethod e.platform s.vm cellB.cls mk = .method mk := by rw [Launch.admits_selectMethod X.admits]; exact q4
  obtain ⟨mk', methk, ck, k0, k1, k2, k3, k4, k5, k6, k7, k8, k9, k10, k11, k12⟩ := zmeth F hW h0 hlt
  cases Option.some.inj (hnamed.symm.trans k0)
  cases Option.some.inj (hmethM.symm.trans k1)
  have hlen : (as.map (zv S0 z)).length = methM.sig.parameters.length := by rw [List.length_map, hal, k12]
  have hstk : (F0 m pc ls ((as.reverse ++ .ref b :: rest).map (zv S0 z))).stack = (as.map (zv S0 z)).reverse ++ .ref (zr S0 z b) :: rest.map (zv S0 z) := by
    show (as.reverse ++ .ref b :: rest).map (zv S0 z) = _
    rw [List.map_append, List.map_reverse]; rfl
  have fin : ∀ vm₁, Stand p l e Rm s m args below meth c (T.setVm vm₁) locs cells slots → ∃ t, Steps p.tables e below (doInvoke e ((T.setVm vm₁).setTop (F0 m pc ls (rest.map (zv S0 z)))) [] mk ((.ref b :: as).map (zv S0 z)).toArray).1 t ∧ Q t := by
    intro vm₁ X₁
    exact zfin Fx F CC hmi (T := T.setVm vm₁) hR X₁ hq hl hcr hd h0 hlt (X₁.named hnamed) hac hxl hcells hslots (by omega) (by omega) ih kk
  rcases (zml_ok hk).2 with hlk | ⟨host, hlk⟩
  · obtain ⟨vm₁, X₁, hstep₁⟩ := X.invokevirtual hx hown (hts _ hlk) hnamed hmethM hstM hkP hkPi hy (a := zr S0 z b) (cell := cellB) c1
      (fun z h => by rw [h] at c2; cases c2) hselP hmethM habM hkP hkPi (g := F0 m pc ls ((as.reverse ++ .ref b :: rest).map (zv S0 z))) rfl (argsL := as.map (zv S0 z)) (rest := rest.map (zv S0 z)) hlen hstk (by rw [hbb]; exact hd)
    obtain ⟨t, a1, b1⟩ := fin vm₁ X₁
    exact ⟨t, hstep₁ _ fun acts => by rw [doInvoke_state]; exact a1, b1⟩
  · obtain ⟨vm₁, X₁, hstep₁⟩ := X.invokevirtualNest hx hown (hts _ hlk) hnamed hmethM hstM hkP hkPi hy (a := zr S0 z b) (cell := cellB) c1
      (fun z h => by rw [h] at c2; cases c2) hselP hmethM habM hkP hkPi (g := F0 m pc ls ((as.reverse ++ .ref b :: rest).map (zv S0 z))) rfl (argsL := as.map (zv S0 z)) (rest := rest.map (zv S0 z)) hlen hstk (by rw [hbb]; exact hd)
    obtain ⟨t, a1, b1⟩ := fin vm₁ X₁
    exact ⟨t, hstep₁ _ fun acts => by rw [doInvoke_state]; exact a1, b1⟩
theorem zs_callS (Fx : zFx S0) (F : zFix S0 D z) (C : zCx S0 p s m meth c mi) (hmi : mi < zNm) {k len mj : Nat} {as rest : List Value} (hd : decode (zcd mi) pc = .ok (.invokestatic k, 3)) (hk : zml (zoc mi) k = some mj) (hcf : zCf mi mj as rest len) (hat : zat mj = true) (hal : as.length = znp mj) (hst : st = as.reverse ++ rest)
    {o : zOut} {h1 : zHp} (hcells : cells + (h1.1 - h.1) ≤ Rm.cells) (hslots : slots + (h1.2.1 - h.2.1) ≤ Rm.slots) (hfr : zrk mi ≤ Rm.frames) (hlo : zlo mi ≤ Rm.locals)
    (ih : zIh p l e S0 D z L mj as h h1 o) (kk : zKk p l e Rm s m args below meth c Q S0 D z L mi pc lv rest h h1 o cells slots) : zG p l e Rm s m args below meth c Q S0 D z L mi pc lv st h cells slots := by
  intro H locs ls hR hl hq T hT X
  subst hT
  subst hst
  have hts := zCx.ts (args := args) F C
  have CC := C
  obtain ⟨hx, hbb, hml, hown, hlocks, hret, hname, hW, hsz, htab, hag, hns⟩ := C
  obtain ⟨hr1, hr2, hlt, hcr, hac, hxl, hl3⟩ := hcf
  have h0 := zml_nz hk
  obtain ⟨hinit, w2, w3, hcl, hpar, hy⟩ := zmw (args := args) (s := s) h0 hlt hts
  have hstat := w2 hat
  obtain ⟨mk, methk, ck, hnamed, k1, k2, k3, k4, k5, k6, k7, k8, k9, k10, k11, k12⟩ := zmeth F hW h0 hlt
  have hstatic : methk.isStatic = true := Cond.static_spec hnamed k1 hstat
  obtain ⟨kP, hkP, -⟩ := className_of_methodNamed hnamed
  have hinitP : kP.init = .initialized := Cond.initialized_spec (findClass_of_methodNamed hnamed) hkP hinit
  have hlen : (as.map (zv S0 z)).length = methk.sig.parameters.length := by rw [List.length_map, hal, k12]
  have hstk : (F0 m pc ls ((as.reverse ++ rest).map (zv S0 z))).stack = (as.map (zv S0 z)).reverse ++ rest.map (zv S0 z) := by
    show (as.reverse ++ rest).map (zv S0 z) = _
    rw [List.map_append, List.map_reverse]
  have fin : ∀ vm₁, Stand p l e Rm s m args below meth c (T.setVm vm₁) locs cells slots → ∃ t, Steps p.tables e below (doInvoke e ((T.setVm vm₁).setTop (F0 m pc ls (rest.map (zv S0 z)))) [] mk (as.map (zv S0 z)).toArray).1 t ∧ Q t := by
    intro vm₁ X₁
    exact zfin Fx F CC hmi (T := T.setVm vm₁) hR X₁ hq hl hcr hd h0 hlt (X₁.named hnamed) hac hxl hcells hslots (by omega) (by omega) ih kk
  rcases (zml_ok hk).2 with hlk | ⟨host, hlk⟩
  · obtain ⟨vm₁, X₁, hstep₁⟩ := X.invokestatic hx hown (hts _ hlk) hnamed k1 hstatic hkP hinitP hy (g := F0 m pc ls ((as.reverse ++ rest).map (zv S0 z))) rfl (argsL := as.map (zv S0 z)) (rest := rest.map (zv S0 z)) hlen hstk (by rw [hbb]; exact hd)
    obtain ⟨t, a1, b1⟩ := fin vm₁ X₁
    exact ⟨t, hstep₁ _ fun acts => by rw [doInvoke_state]; exact a1, b1⟩
  · obtain ⟨vm₁, X₁, hstep₁⟩ := X.invokestaticNest hx hown (hts _ hlk) hnamed k1 hstatic hkP hinitP hy (g := F0 m pc ls ((as.reverse ++ rest).map (zv S0 z))) rfl (argsL := as.map (zv S0 z)) (rest := rest.map (zv S0 z)) hlen hstk (by rw [hbb]; exact hd)
    obtain ⟨t, a1, b1⟩ := fin vm₁ X₁
    exact ⟨t, hstep₁ _ fun acts => by rw [doInvoke_state]; exact a1, b1⟩
theorem zs_callI (Fx : zFx S0) (F : zFix S0 D z) (C : zCx S0 p s m meth c mi) (hmi : mi < zNm) {k len mj b : Nat} {as rest : List Value} (hd : decode (zcd mi) pc = .ok (.invokespecial k, 3)) (hk : zml (zoc mi) k = some mj) (hni : (zy mj).name = "<init>") (hcf : zCf mi mj (.ref b :: as) rest len) (hat : zat mj = false) (hal : as.length = znp mj) (hst : st = as.reverse ++ .ref b :: rest)
    {o : zOut} {h1 : zHp} (hcells : cells + (h1.1 - h.1) ≤ Rm.cells) (hslots : slots + (h1.2.1 - h.2.1) ≤ Rm.slots) (hfr : zrk mi ≤ Rm.frames) (hlo : zlo mi ≤ Rm.locals)
    (ih : zIh p l e S0 D z L mj (.ref b :: as) h h1 o) (kk : zKk p l e Rm s m args below meth c Q S0 D z L mi pc lv rest h h1 o cells slots) : zG p l e Rm s m args below meth c Q S0 D z L mi pc lv st h cells slots := by
  intro H locs ls hR hl hq T hT X
  subst hT
  subst hst
  have hts := zCx.ts (args := args) F C
  have CC := C
  obtain ⟨hx, hbb, hml, hown, hlocks, hret, hname, hW, hsz, htab, hag, hns⟩ := C
  obtain ⟨hr1, hr2, hlt, hcr, hac, hxl, hl3⟩ := hcf
  have h0 := zml_nz hk
  obtain ⟨-, w2, w3, hcl, hpar, hy⟩ := zmw (args := args) (s := s) h0 hlt hts
  obtain ⟨hinst, -⟩ := w3 hat
  obtain ⟨hrt, hcw⟩ := zinit_ok hlt hni
  rw [hrt] at hcw
  have hcode := hts _ hcw
  have hpl : e.platform.magicAccessors = ({} : Platform).magicAccessors := by rw [X.admits.platform]
  have hlen : ∀ sig, parseMethodDescriptor (zy mj).desc = some sig → (as.map (zv S0 z)).length = sig.parameters.length := by
    intro sig hsig
    rw [hsig] at hpar
    rw [List.length_map, hal]
    exact (Option.some.inj hpar).symm
  have hstk : (F0 m pc ls ((as.reverse ++ .ref b :: rest).map (zv S0 z))).stack = (as.map (zv S0 z)).reverse ++ .ref (zr S0 z b) :: rest.map (zv S0 z) := by
    show (as.reverse ++ .ref b :: rest).map (zv S0 z) = _
    rw [List.map_append, List.map_reverse]; rfl
  have fin : ∀ mk vm₁, s.methodNamed? (zy mj) = some mk → Stand p l e Rm s m args below meth c (T.setVm vm₁) locs cells slots → ∃ t, Steps p.tables e below (doInvoke e ((T.setVm vm₁).setTop (F0 m pc ls (rest.map (zv S0 z)))) [] mk ((.ref b :: as).map (zv S0 z)).toArray).1 t ∧ Q t := by
    intro mk vm₁ hnamed X₁
    exact zfin Fx F CC hmi (T := T.setVm vm₁) hR X₁ hq hl hcr hd h0 hlt (X₁.named hnamed) hac hxl hcells hslots (by omega) (by omega) ih kk
  rcases (zml_ok hk).2 with hlk | ⟨host, hlk⟩
  · obtain ⟨mk, methM, cM, kP, vm₁, hnamed, hmethM, hcodeM, -, hlocalsM, -, hkP, -, hW₁, hstep₁⟩ := Steps.initColdArgs (e := e) X.here hx X.warmed hpl hown hni hy (hts _ hlk) hinst hcode (f := F0 m pc ls ((as.reverse ++ .ref b :: rest).map (zv S0 z))) rfl hlen hstk (by rw [hbb]; exact hd)
    obtain ⟨t, a1, b1⟩ := fin mk vm₁ hnamed (X.noted hW₁)
    exact ⟨t, hstep₁ _ fun acts => by rw [doInvoke_state]; exact a1, b1⟩
  · obtain ⟨mk, methM, cM, kP, vm₁, hnamed, hmethM, hcodeM, -, hlocalsM, -, hkP, -, hW₁, hstep₁⟩ := Steps.initColdArgsNest (e := e) X.here hx X.warmed hpl hown hni hy (hts _ hlk) hinst hcode (f := F0 m pc ls ((as.reverse ++ .ref b :: rest).map (zv S0 z))) rfl hlen hstk (by rw [hbb]; exact hd)
    obtain ⟨t, a1, b1⟩ := fin mk vm₁ hnamed (X.noted hW₁)
    exact ⟨t, hstep₁ _ fun acts => by rw [doInvoke_state]; exact a1, b1⟩
end ZCK
