/-! A THROW: the walk is begun anew at the point where it stands, so that what was made before keeps its contents -/
section ZTH
variable {p : Program} {l : Launch} {e : Env} {Rm : Room} {s : State} {m : MethodId} {args : Array Value} {below : List Frame} {meth : Method} {c : Code} {H : Heap} {locs : List Loc} {cells slots : Nat} {Q : State → Prop}
variable {S0 : State} {D : va_G} {z : Nat → Nat} {L mi pc : Nat} {lv : zLv} {st : List Value} {h : zHp} {ls : Array Slot}
theorem zhears {s s' : State} (hvm : s.vm.Alike s'.vm) {m : MethodId} {below : List Frame} (h : s.hears m below = true) : s'.hears m below = true := by
  have hm : ∀ k, s'.vm.method? k = s.vm.method? k := fun k => hvm.method? k
  have hc : ∀ k, s'.code? k = s.code? k := fun k => by rw [State.code?_eq, State.code?_eq, hm]
  unfold State.hears at h ⊢
  split
  next g r => dsimp only at h; rw [hc]; exact h
  next => rfl
  next => rfl
  next h1 h2 h3 =>
    split at h
    next => exact absurd rfl (h1 _ _)
    next => exact absurd rfl (h2 _ _)
    next => exact absurd rfl (h3 _ _)
    next => rw [hm]; exact h
theorem zrebase {T : State} (X : Stand p l e Rm s m args below meth c T locs cells slots) (hc : cells ≤ Rm.cells) (hs : slots ≤ Rm.slots) :
    Stand p l e { frames := Rm.frames, cells := Rm.cells - cells, slots := Rm.slots - slots, locals := Rm.locals } (T.setFrames (.invoking m args :: below)) m args below meth c T [] 0 0 := by
  obtain ⟨g₀, hg₀⟩ := X.frames_eq
  obtain ⟨th, hth, -⟩ := State.frames_cons hg₀
  have hcur : T.cur < T.threads.size := (Array.getElem?_eq_some_iff.mp hth).1
  have hfr : (T.setFrames (.invoking m args :: below)).frames = .invoking m args :: below := State.frames_setFrames _ hcur
  have hal := X.warmed.alike
  have hm : (T.setFrames (.invoking m args :: below)).vm.method? m = some meth := by
    show T.vm.method? m = _
    rw [hal.method?]; exact X.method
  obtain ⟨e2, q2, q3, q4, q5, q6⟩ := X.same
  have hcT : T.heap.size ≤ s.heap.size + cells := q3
  have hsT : T.slotsUsed ≤ s.slotsUsed + slots := by
    have q4' : T.slotsUsed = s.slotsUsed + ((T.heap.toList.drop s.heap.size).map (·.slots.size)).sum := q4
    have q5' : ((T.heap.toList.drop s.heap.size).map (·.slots.size)).sum ≤ slots := q5
    omega
  have hcur' : (T.setFrames (.invoking m args :: below)).cur < (T.setFrames (.invoking m args :: below)).threads.size := State.cur_lt_of_frames hfr
  obtain ⟨th', hth', -⟩ := State.frames_cons hfr
  refine ⟨X.admits, X.cas, X.clock, hfr, ?_, zhears (s := s) hal X.hears, hm, X.code, X.here, X.tail, State.WarmedH.refl _, by rw [State.stackLimits_setFrames], by rw [State.stackBytes_setFrames], ?_⟩
  · refine State.hasRoom_ride (s := s) (r := Rm) ?_ ?_ ?_ ?_ ?_ ?_ ?_ X.room
    · rw [hfr, X.frames]; exact Nat.le_refl _
    · rw [State.localsInUse_invoking hfr hm X.code, State.localsInUse_invoking X.frames X.method X.code]; exact Nat.le_refl _
    · rw [State.stackLimits_setFrames]; exact X.limits
    · rw [State.stackBytes_setFrames]; exact X.bytes
    · show T.heap.size + (Rm.cells - cells) ≤ _
      omega
    · show T.slotsUsed + (Rm.slots - slots) ≤ _
      omega
    · exact X.book
  · have h := (State.sameButNew.refl (T.setFrames (.invoking m args :: below)) hth').setFrames (.java g₀ :: below) hcur'
    have : (T.setFrames (.invoking m args :: below)).setFrames (.java g₀ :: below) = T := by
      rw [State.setFrames_setFrames, ← hg₀]
      exact State.setFrames_self hth
    rw [this] at h
    exact h
theorem zxl_all : (List.range 10).all (fun oc => (zxlL.getD oc []).all (fun q => decide (q.2.1 < 2))) = true := by decide +kernel
theorem zxi_all : (List.range 2).all (fun x => zat0 (44 + x) (.initialized (zxn x)) && Jvm.Bundle.fit (zxn x)) = true := by decide +kernel
theorem zs_throw (hfl : l.flags = pinnedFlags ++ [noTraceFlag]) (Fx : zFx S0) (F : zFix S0 D z) (C : zCx S0 p s m meth c mi) {k x : Nat} {o : zOut} {h' : zHp} (hd : decode (zcd mi) pc = .ok (.new k, 3)) (hk : zcl (zoc mi) k = some (.inr x)) (hz : zthrow L mi pc x st h = some (.inr (.inr (o, h')))) (hc1 : cells + 1 ≤ Rm.cells) (hs1 : slots + 6 ≤ Rm.slots) (hfr : zrk mi ≤ Rm.frames) (hlo : zlo mi ≤ Rm.locals) :
    h'.1 = h.1 + 1 ∧ h'.2.1 = h.2.1 + 6 ∧ zG p l e Rm s m args below meth c (zEnd S0 D z L s below o h' (cells + 1) (slots + 6)) S0 D z L mi pc lv st h cells slots := by
  unfold zthrow at hz
  split at hz
  next is ic e3 e4 e6 e9 =>
    split at hz
    next hh =>
      cases hz
      refine ⟨rfl, rfl, ?_⟩
      obtain ⟨⟨⟨hxl, hK⟩, hhd, hxs⟩, ⟨h6, h90⟩, hcat⟩ := hh
      intro H locs ls hR hl hq T hT X
      subst hT
      obtain ⟨hx, hb, hml, hown, hlocks, hret, hname, hW, hsz, htab, hag, hns⟩ := C
      have Xr := zrebase X (by omega) (by omega)
      have htr := Launch.traces_off hfl X.admits
      have hWT : S0.WarmedH T.vm := State.WarmedH.trans hW X.warmed
      have hx2 : x < 2 := by
        obtain ⟨q, hq', hk', e⟩ := zfind hxl
        have hc := zall zxl_all (by decide) hq'
        cases e
        exact of_decide_eq_true hc
      have hxi := List.all_eq_true.mp zxi_all x (List.mem_range.mpr hx2)
      rw [Bool.and_eq_true] at hxi
      generalize hs' : T.setFrames (.invoking m args :: below) = s' at Xr
      have hvm' : s'.vm = T.vm := by rw [← hs']; rfl
      have hhp' : s'.heap = T.heap := by rw [← hs']; rfl
      have hW' : S0.WarmedH s'.vm := by rw [hvm']; exact hWT
      have hts' : ∀ w ∈ zws, w.before args s' = true := fun w hw => F.1 w hw args s' hW'
      have hown' : s'.vm.findClass (zcn (zoc mi)) = some m.cls := by rw [hvm']; exact (X.warmed.alike.findClass _ _).trans hown
      have hat := Fx.2.1 (zoc mi) ic x hxl s' args hW' (fun q hq => by rw [hhp']; exact hR.2.2.1 q hq)
      obtain ⟨tx, qs, hstr⟩ := Fx.2.2 (zoc mi) is hxs
      have hstr' := vk_R.warm hW' hstr
      have hout : ∀ y ∈ c.exceptionTable.toList, covers y (pc + 9) = false := by
        intro y hy
        rcases htab with ht | ht
        · rw [hhd] at ht; cases ht
        · rw [hhd] at ht
          rw [List.map_eq_nil_iff.mp ht] at hy
          cases hy
      have hcatm : (((st.map (zv S0 z)).map fun v => v.category)).sum ≤ 8 := by rw [zcat_map]; exact hcat
      have key : W p l e { frames := Rm.frames, cells := Rm.cells - cells, slots := Rm.slots - slots, locals := Rm.locals } s' m args below meth c T.heap [] 0 0
          (fun t => t.status = .running ∧ Ended t below (.threw T.heap.size) ∧ s'.WarmedH t.vm ∧ s'.sameButNew ({ t with vm := s'.vm } : State) [] 1 6 ∧ ∃ ce : Cell, t.heap[T.heap.size]? = some ce ∧ ce.vm = .none ∧ s'.vm.findClass (zxn x) = some ce.cls) (F0 m pc ls (st.map (zv S0 z))) := by
        refine W.newc hx hb hown' (hts' _ (zclx_ok hk)) (hat (.instantiable (zxn x) 6) (by simp [Jvm.Bundle.ownAtoms])) (hts' _ (zin hxi.1)) rfl hd (by show 0 + 1 ≤ Rm.cells - cells; omega) (by show 0 + 6 ≤ Rm.slots - slots; omega) (fun cC kC q1 q2 q3 q4 => ?_)
        refine lv_dup (pc := pc + 3) (va := .ref T.heap.size) hx hb e3 rfl ?_
        refine va_ldcS (pc := pc + 4) hx hb hown' hstr' e4 ?_
        intro W2 hW2 X2
        obtain ⟨U, u1, u2, u3, u4, u5, ce, u6, u7⟩ := X2.ctorThrowS hx htr (names := zxnames) hown' hxi.2 (by decide +kernel) hat (fun y hy => by cases hy) q1 q2 (a := T.heap.size) (by rw [hW2]; simp [freshCell]) (by rw [hhp']; exact Nat.le_refl _) (msg := .ref qs) rfl
          (g := F0 m (pc + 6) ls (.ref qs :: .ref T.heap.size :: .ref T.heap.size :: st.map (zv S0 z))) rfl (by rw [hml]; exact hl.size) rfl rfl rfl (by rw [hb]; exact e6) (by rw [hb]; exact e9) hout (by show 2 + 3 < Rm.frames; omega) (by
            show 2 * 0 + (((Value.ref T.heap.size :: st.map (zv S0 z)).map fun v => v.category)).sum + (13 * (2 + 1) + 42) ≤ Rm.locals
            rw [List.map_cons, List.sum_cons]
            show 2 * 0 + (1 + _) + _ ≤ _
            omega) hlocks
        exact ⟨U, u1, u2, u3, u4, u5, ce, u6, u7.vm, u7.cls⟩
      obtain ⟨t, a1, b1, b2, b3, b4, ce, b5, b6, b7⟩ := key T rfl Xr
      have hzr := zr_new hR
      have hts : t.heap.size = T.heap.size + 1 := by
        have h1 := (Array.getElem?_eq_some_iff.mp b5).1
        have h2 : t.heap.size ≤ s'.heap.size + 1 := b4.2.2.1
        rw [hhp'] at h2
        omega
      have hold : ∀ q : Nat, q < T.heap.size → t.heap[q]? = T.heap[q]? := by
        intro q hq
        have h1 : s'.heap[q]? = some T.heap[q] := by rw [hhp']; exact Array.getElem?_eq_getElem hq
        have h2 : t.heap[q]? = some T.heap[q] := b4.old_cell h1
        rw [h2, Array.getElem?_eq_getElem hq]
      have hfX : s.sameButNew ({ t with vm := s.vm } : State) locs (cells + 1) (slots + 6) := by
        have h1 := X.same.setFrames (.invoking m args :: below) X.cur
        have e1 : (T.setVm s.vm).setFrames (.invoking m args :: below) = s'.setVm s.vm := by rw [← hs']; rfl
        rw [e1] at h1
        have h2 := h1.trans (b4.setVm s.vm)
        rw [List.append_nil] at h2
        exact h2
      refine ⟨t, a1, _, b1, b2, ?_, ?_, ⟨locs, hfX, hq⟩, ?_⟩
      · exact State.WarmedH.trans (show s.WarmedH s'.vm by rw [hvm']; exact X.warmed) b3
      · exact hR.new rfl (fun b hb t j => rfl) b5 (by rw [b6]; rfl) (fun kd hkd => by rw [hK] at hkd; cases hkd) hts hold
      · refine ⟨by rw [hzr], ce, by rw [hzr]; exact b5, b6, ?_⟩
        rw [← b7]; exact (hW'.alike.findClass _ _).symm
    next => cases hz
  next => cases hz
end ZTH
