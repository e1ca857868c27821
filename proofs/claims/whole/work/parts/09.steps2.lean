section ZST2
variable {p : Program} {l : Launch} {e : Env} {Rm : Room} {s : State} {m : MethodId} {args : Array Value} {below : List Frame} {meth : Method} {c : Code} {H : Heap} {locs : List Loc} {cells slots : Nat} {Q : State → Prop}
variable {S0 : State} {D : va_G} {z : Nat → Nat} {L mi pc : Nat} {lv : zLv} {st : List Value} {h : zHp} {ls : Array Slot}
theorem zs_ldc (F : zFix S0 D z) (C : zCx S0 p s m meth c mi) {len k : Nat} {v : Int32} (hd : decode (zcd mi) pc = .ok (.ldc k, len)) (hlen : zlok (.ldc k) len = true) (hf : zkl (zoc mi) k = some v)
    (kk : zG p l e Rm s m args below meth c Q S0 D z L mi (pc + len) lv (.int v :: st) h cells slots) : zG p l e Rm s m args below meth c Q S0 D z L mi pc lv st h cells slots := by
  intro H locs ls hR hl hq
  have hts := zCx.ts (args := args) F C
  obtain ⟨hx, hb, hml, hown, hrest⟩ := C
  simp only [zlok, zlen, beq_iff_eq] at hlen
  subst hlen
  exact lv_ldc hx hb hown (hts _ (zkl_ok hf)) hd (zg_w kk hR hl hq)
theorem zs_ldc2 (F : zFix S0 D z) (C : zCx S0 p s m meth c mi) {len k : Nat} {v : Int64} (hd : decode (zcd mi) pc = .ok (.ldc2_w k, len)) (hlen : zlok (.ldc2_w k) len = true) (hf : zkL (zoc mi) k = some v)
    (kk : zG p l e Rm s m args below meth c Q S0 D z L mi (pc + len) lv (.long v :: st) h cells slots) : zG p l e Rm s m args below meth c Q S0 D z L mi pc lv st h cells slots := by
  intro H locs ls hR hl hq
  have hts := zCx.ts (args := args) F C
  obtain ⟨hx, hb, hml, hown, hrest⟩ := C
  simp only [zlok, zlen, beq_iff_eq] at hlen
  subst hlen
  exact lv_ldc2 hx hb hown (hts _ (zkL_ok hf)) hd (zg_w kk hR hl hq)
theorem zcat_map : ((st.map (zv S0 z)).map fun v => v.category).sum = zcat st := by
  unfold zcat
  rw [List.map_map]
  exact congrArg List.sum (List.map_congr_left (fun v _ => zv_cat S0 z v))
theorem zs_min (F : zFix S0 D z) (C : zCx S0 p s m meth c mi) {len k : Nat} {x y : Int32} (hd : decode (zcd mi) pc = .ok (.invokestatic k, len)) (hlen : zlok (.invokestatic k) len = true) (hmn : zmn (zoc mi) k = true) (hfr : 1 ≤ Rm.frames) (hlo : zcat st + 13 ≤ Rm.locals) (hc : cells ≤ Rm.cells) (hs : slots ≤ Rm.slots)
    (kk : zG p l e Rm s m args below meth c Q S0 D z L mi (pc + len) lv (.int (if y < x then y else x) :: st) h cells slots) : zG p l e Rm s m args below meth c Q S0 D z L mi pc lv (.int y :: .int x :: st) h cells slots := by
  intro H locs ls hR hl hq
  have hts := zCx.ts (args := args) F C
  obtain ⟨hx, hb, hml, hown, hrest⟩ := C
  simp only [zlok, zlen, beq_iff_eq] at hlen
  subst hlen
  obtain ⟨w1, w2, w3, w4⟩ := zmn_ok hmn
  exact va_mmin hx hb (by rw [hml]; exact hl.size.symm) hown (hts _ w1) (hts _ w2) (hts _ w3) (hts _ w4) hfr (by rw [zcat_map]; exact hlo) hc hs hd (zg_w kk hR hl hq)
theorem zrows_facts (N M : Nat) : (∀ b, b < h.1 → ∀ (t : FieldType) (j : Nat), zval t (zrows h N M) b j = zval t h b j) ∧ (∀ j, zval (.array .int) (zrows h N M) h.1 j = va_rf (if j < N then some (h.1 + 1 + j) else none)) ∧
    ∀ i, i < N → ∀ j, zval .int (zrows h N M) (h.1 + 1 + i) j = .int 0 := by
  refine ⟨fun b hb t j => ?_, fun j => ?_, fun i hi j => ?_⟩
  · have h1 : ¬ (h.1 ≤ b ∧ b ≤ h.1 + N) := by omega
    have h2 : b ≠ h.1 := by omega
    cases t <;> simp [zval, zrows, h1, h2]
  · simp [zval, zrows]
  · have h1 : h.1 ≤ h.1 + 1 + i ∧ h.1 + 1 + i ≤ h.1 + N := by omega
    simp [zval, zrows, h1]
theorem zr_add (hR : zRl S0 D z L h H) (k : Nat) : zr S0 z (h.1 + k) = H.size + k := by
  have hz := hR.1
  unfold zr
  rw [if_neg (by omega), hR.2.1]
  omega
theorem zs_multi (F : zFix S0 D z) (C : zCx S0 p s m meth c mi) {len k : Nat} {n w : Int32} (hd : decode (zcd mi) pc = .ok (.multianewarray k 2, len)) (hlen : zlok (.multianewarray k 2) len = true) (hmu : zmu (zoc mi) k = true) (hn : 0 ≤ n) (hw : 0 ≤ w)
    (hk : zK L h.1 = some (.inl (.array .int, n.toNatClampNeg))) (hki : ∀ i, i < n.toNatClampNeg → zK L (h.1 + 1 + i) = some (.inl (.int, w.toNatClampNeg))) (hN : n.toNatClampNeg ≤ 65536) (hM : w.toNatClampNeg ≤ 65536)
    (hc1 : cells + (1 + n.toNatClampNeg) ≤ Rm.cells) (hc2 : slots + (n.toNatClampNeg + n.toNatClampNeg * w.toNatClampNeg) ≤ Rm.slots)
    (kk : zG p l e Rm s m args below meth c Q S0 D z L mi (pc + len) lv (.ref h.1 :: st) (zrows h n.toNatClampNeg w.toNatClampNeg) (cells + 1 + n.toNatClampNeg) (slots + n.toNatClampNeg + n.toNatClampNeg * w.toNatClampNeg)) : zG p l e Rm s m args below meth c Q S0 D z L mi pc lv (.int w :: .int n :: st) h cells slots := by
  intro H locs ls hR hl hq
  have hts := zCx.ts (args := args) F C
  obtain ⟨hx, hb, hml, hown, hlocks, hret, hname, hW, hrest⟩ := C
  simp only [zlok, zlen, beq_iff_eq] at hlen
  subst hlen
  intro T hT X
  obtain ⟨vm₁, cA, comp, -, f1, f2, X', step⟩ := X.multianewarray2 hx hown (ty := .int) (hts _ (zmu_ok hmu)) (hts _ zarr_ok.1.1) (hts _ zarr_ok.1.2) (g := F0 m pc ls (.int w :: .int n :: st.map (zv S0 z))) rfl (by rw [hb]; exact hd) (n := n) (k := w) (rest := st.map (zv S0 z)) rfl
    (Int32.not_lt.mpr hn) (Int32.not_lt.mpr hw) (by omega) (by show _ * 4 ≤ _; omega) (by omega) rfl rfl hc1 hc2
  obtain ⟨comp2, cA2, kA, a1, a2, a3, a4, a5⟩ := arrayOverA_spec (hts _ zarr_ok.1.1)
  obtain ⟨comp3, kC, cc, b1, b2, b3⟩ := Cond.arrayClass_spec (hts _ zarr_ok.1.2)
  cases Option.some.inj (f1.symm.trans a5)
  cases Option.some.inj (f2.symm.trans b1)
  obtain ⟨kA', ka1, ka2⟩ := hW.alike.symm.2.2 _ _ a3
  obtain ⟨kC', kc1, kc2⟩ := hW.alike.symm.2.2 _ _ b2
  obtain ⟨g1, g2, g3, g4⟩ := Jvm.Free.Multi.fill_facts (T.setVm vm₁) cA comp n.toNatClampNeg w.toNatClampNeg (defaultValue .int) n.toNatClampNeg
  have hTs : (T.setVm vm₁).heap = H := hT
  have hold : ∀ q, q < H.size → (Jvm.Free.Multi.fill (T.setVm vm₁) cA comp n.toNatClampNeg w.toNatClampNeg (defaultValue .int) n.toNatClampNeg).heap[q]? = H[q]? := fun q hq' => by
    have := Jvm.Free.Multi.fill_old (T.setVm vm₁) cA comp n.toNatClampNeg w.toNatClampNeg (defaultValue .int) (a := q) (by rw [hTs]; exact hq') n.toNatClampNeg
    rw [this, hTs]
  have hin : ∀ i, i < n.toNatClampNeg → (Jvm.Free.Multi.fill (T.setVm vm₁) cA comp n.toNatClampNeg w.toNatClampNeg (defaultValue .int) n.toNatClampNeg).heap[H.size + 1 + i]? = some (Jvm.Free.Multi.innerC comp w.toNatClampNeg (defaultValue .int)) := fun i hi => by
    have := Jvm.Free.Multi.fill_inner (T.setVm vm₁) cA comp n.toNatClampNeg w.toNatClampNeg (defaultValue .int) n.toNatClampNeg i hi
    rw [hTs] at this
    exact this
  rw [hTs] at g1 g2
  obtain ⟨o1, o2, o3⟩ := Jvm.Free.Multi.outerC_facts cA n.toNatClampNeg H.size n.toNatClampNeg
  have ho := Jvm.Free.Multi.outerC_slot cA n.toNatClampNeg H.size n.toNatClampNeg
  obtain ⟨z1, z2, z3⟩ := zrows_facts (h := h) n.toNatClampNeg w.toNatClampNeg
  have hz := hR.1
  have hs := hR.2.1
  have hR' : zRl S0 D z L (zrows h n.toNatClampNeg w.toNatClampNeg) (Jvm.Free.Multi.fill (T.setVm vm₁) cA comp n.toNatClampNeg w.toNatClampNeg (defaultValue .int) n.toNatClampNeg).heap := by
    refine ⟨by show zS ≤ h.1 + 1 + _; omega, by rw [g1, hs]; show _ = _ + (h.1 + 1 + n.toNatClampNeg - zS); omega, fun q hq' => ?_, hR.2.2.2.1, fun b kb hb' hkb => ?_, fun q cq hq' hcq => ?_⟩
    · rw [hold q (by omega)]; exact hR.2.2.1 q hq'
    · have hb2 : b < h.1 + 1 + n.toNatClampNeg := hb'
      by_cases hb1 : b < h.1
      · obtain ⟨cb, q1, q2⟩ := hR.2.2.2.2.1 b kb hb1 hkb
        exact ⟨cb, by rw [hold _ (Array.getElem?_eq_some_iff.mp q1).1]; exact q1, q2.congr (z1 b hb1)⟩
      · by_cases hb3 : b = h.1
        · subst hb3
          rw [hk] at hkb
          cases hkb
          refine ⟨Jvm.Free.Multi.outerC cA n.toNatClampNeg H.size n.toNatClampNeg, by rw [zr_new hR]; exact g2, ?_⟩
          refine ⟨(by rw [o2]; exact fun q => by cases q), ⟨fun q e => (by rw [o2] at e; cases e), kA', by rw [o1]; exact ka1, comp2, by rw [ka2]; exact a4⟩, zsz_of o3, fun j hj => ?_, fun C2 hC2 => by cases hC2⟩
          rw [ho j hj, z2 j, if_pos hj, if_pos hj]
          show some (Value.ref _) = some (Value.ref (zr S0 z (h.1 + 1 + j)))
          rw [show h.1 + 1 + j = h.1 + (1 + j) by omega, zr_add hR, Nat.add_assoc]
        · obtain ⟨i, rfl⟩ : ∃ i, b = h.1 + 1 + i := ⟨b - h.1 - 1, by omega⟩
          have hi : i < n.toNatClampNeg := by omega
          rw [hki i hi] at hkb
          cases hkb
          refine ⟨Jvm.Free.Multi.innerC comp w.toNatClampNeg (defaultValue .int), by rw [show h.1 + 1 + i = h.1 + (1 + i) by omega, zr_add hR, ← Nat.add_assoc]; exact hin i hi, ?_⟩
          refine ⟨(fun q => by cases q), ⟨fun q e => (by cases e), kC', kc1, cc, by rw [kc2]; exact b3⟩, zsz_of (by simp [Jvm.Free.Multi.innerC]), fun j hj => ?_, fun C2 hC2 => by cases hC2⟩
          rw [z3 i hi j]
          simp [Jvm.Free.Multi.innerC, hj, zv, defaultValue]
    · have hlt := (Array.getElem?_eq_some_iff.mp hcq).1
      rw [g1] at hlt
      by_cases h1 : q < H.size
      · rw [hold q h1] at hcq
        exact hR.2.2.2.2.2 q cq hq' hcq
      · by_cases h2 : q = H.size
        · subst h2
          rw [g2] at hcq
          cases hcq
          rw [o2]; rfl
        · obtain ⟨i, rfl⟩ : ∃ i, q = H.size + 1 + i := ⟨q - H.size - 1, by omega⟩
          rw [hin i (by omega)] at hcq
          cases hcq
          rfl
  have hTsz : T.heap.size = H.size := by rw [hT]
  obtain ⟨t, e1, e2⟩ := zg_w kk hR' hl (locs := locs ++ (List.range n.toNatClampNeg).map fun j => ⟨T.heap.size, j⟩) (fun q hq' => by
    rcases List.mem_append.mp hq' with g | g
    · exact hq q g
    · obtain ⟨y, -, hy⟩ := List.mem_map.mp g
      rw [← hy]
      show S0.heap.size ≤ T.heap.size
      rw [hTsz, hs]; omega) _ rfl X'
  refine ⟨t, step t ?_, e2⟩
  have ez : ((Value.ref h.1 :: st).map (zv S0 z)) = .ref T.heap.size :: st.map (zv S0 z) := by
    show Value.ref (zr S0 z h.1) :: _ = _
    rw [zr_new hR, hTsz]
  rw [ez] at e1
  exact e1
end ZST2
