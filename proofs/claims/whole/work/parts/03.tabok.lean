/-! the tables are the words' -/
theorem zall {α : Type} {n : Nat} {T : List (List α)} {C : Nat → α → Bool} (h : (List.range n).all (fun oc => (T.getD oc []).all (C oc)) = true) (hn : T.length ≤ n) {oc : Nat} {q : α} (hq : q ∈ T.getD oc []) : C oc q = true := by
  have hlt : oc < T.length := by
    refine Nat.lt_of_not_le (fun hge => ?_)
    rw [List.getD_eq_getElem?_getD, List.getElem?_eq_none hge] at hq
    exact absurd hq List.not_mem_nil
  have h1 := List.all_eq_true.mp h oc (List.mem_range.mpr (Nat.lt_of_lt_of_le hlt hn))
  exact List.all_eq_true.mp h1 q hq
theorem zfind {α β : Type} {l : List α} {p : α → Bool} {f : α → β} {b : β} (h : (l.find? p).map f = some b) : ∃ q, q ∈ l ∧ p q = true ∧ f q = b := by
  obtain ⟨q, hq, e⟩ := Option.map_eq_some_iff.mp h
  exact ⟨q, List.mem_of_find?_eq_some hq, List.find?_some hq, e⟩
def zflC (oc : Nat) (q : Nat × Nat × Nat × Nat × Nat) : Bool :=
  (decide (q.2.1 < zNc) && decide (q.2.2.1 < zfN q.2.1)) && (if q.2.2.2.1 = 0 then zat0 q.2.2.2.2 (.fieldLink (zcn oc) q.1 (zfT q.2.1 q.2.2.1).1 (zfT q.2.1 q.2.2.1).2.1 (zfT q.2.1 q.2.2.1).2.2.1) else zat0 q.2.2.2.2 (.fieldLinkNest (zcn oc) q.1 (zfT q.2.1 q.2.2.1).1 (zfT q.2.1 q.2.2.1).2.1 (zfT q.2.1 q.2.2.1).2.2.1 "ReleaseLeaves"))
theorem zfl_all : (List.range 10).all (fun oc => (zflL.getD oc []).all (zflC oc)) = true := by decide +kernel
theorem zfl_ok {oc k ci f : Nat} (h : zfl oc k = some (ci, f)) : Cond.fieldLink (zcn oc) k (zfT ci f).1 (zfT ci f).2.1 (zfT ci f).2.2.1 ∈ zws ∨ ∃ host, Cond.fieldLinkNest (zcn oc) k (zfT ci f).1 (zfT ci f).2.1 (zfT ci f).2.2.1 host ∈ zws := by
  obtain ⟨q, hq, hk, e⟩ := zfind h
  have hc := zall zfl_all (by decide) hq
  cases e
  have hk' : q.1 = k := by simpa using hk
  subst hk'
  unfold zflC at hc
  rw [Bool.and_eq_true] at hc
  have h2 := hc.2
  split at h2
  · exact Or.inl (zin h2)
  · exact Or.inr ⟨_, zin h2⟩
theorem zfl_lt {oc k ci f : Nat} (h : zfl oc k = some (ci, f)) : ci < zNc ∧ f < zfN ci := by
  obtain ⟨q, hq, hk, e⟩ := zfind h
  have hc := zall zfl_all (by decide) hq
  cases e
  unfold zflC at hc
  rw [Bool.and_eq_true, Bool.and_eq_true, decide_eq_true_eq, decide_eq_true_eq] at hc
  exact hc.1
theorem zcls_at : ∀ ci, ci < zNc → zcls[ci]? = some (zcn ci, zfT ci, zfN ci) := by
  intro ci h
  match ci, h with
  | 0, _ => rfl
  | 1, _ => rfl
  | 2, _ => rfl
  | 3, _ => rfl
  | 4, _ => rfl
  | 5, _ => rfl
  | 6, _ => rfl
  | 7, _ => rfl
  | n + 8, h => exact absurd (show n + 8 < 8 from h) (by omega)
theorem zlay_all : (List.range zNc).all (fun ci => (List.range (zfN ci)).all (fun k => zat0 ((zlayP.getD ci []).getD k 0) (u_lay (zcn ci) (zfT ci) k))) = true := by decide +kernel
theorem zlay : ∀ ci, ci < zNc → ∀ w ∈ u_ws (zcn ci) (zfT ci) (zfN ci), w ∈ zws := by
  intro ci hci w hw
  obtain ⟨k, hk, rfl⟩ := List.mem_map.mp hw
  exact zin (List.all_eq_true.mp (List.all_eq_true.mp zlay_all ci (List.mem_range.mpr hci)) k hk)
theorem zty_all : (List.range zNc).all (fun ci => (List.range (zfN ci)).all (fun k => decide (parseFieldDescriptor (zfT ci k).2.2.1 = some (zft ci k)) && decide ((zfT ci k).1 = zcn ci))) = true := by decide +kernel
theorem zty_ok : ∀ ci, ci < zNc → ∀ k, k < zfN ci → parseFieldDescriptor (zfT ci k).2.2.1 = some (zft ci k) := by
  intro ci hci k hk
  have h := List.all_eq_true.mp (List.all_eq_true.mp zty_all ci (List.mem_range.mpr hci)) k (List.mem_range.mpr hk)
  rw [Bool.and_eq_true, decide_eq_true_eq] at h
  exact h.1
theorem zdecl : ∀ ci, ci < zNc → ∀ k, k < zfN ci → (zfT ci k).1 = zcn ci := by
  intro ci hci k hk
  have h := List.all_eq_true.mp (List.all_eq_true.mp zty_all ci (List.mem_range.mpr hci)) k (List.mem_range.mpr hk)
  rw [Bool.and_eq_true, decide_eq_true_eq, decide_eq_true_eq] at h
  exact h.2
theorem znm_all : (List.range zNc).all (fun ci => (List.range (zfN ci)).all (fun a => (List.range (zfN ci)).all (fun b => decide (a = b) || !decide ((zfT ci a).2.1 = (zfT ci b).2.1)))) = true := by decide +kernel
theorem znm_ok : ∀ ci, ci < zNc → ∀ a, a < zfN ci → ∀ b, b < zfN ci → a ≠ b → (zfT ci a).2.1 ≠ (zfT ci b).2.1 := by
  intro ci hci a ha b hb hne
  have h := List.all_eq_true.mp (List.all_eq_true.mp (List.all_eq_true.mp znm_all ci (List.mem_range.mpr hci)) a (List.mem_range.mpr ha)) b (List.mem_range.mpr hb)
  simpa [hne] using h
def zftok (t : FieldType) : Bool := match t with
  | .int => true | .boolean => true | .long => true | .object _ => true | .array _ => true | _ => false
theorem zft_all : (List.range zNc).all (fun ci => (List.range (zfN ci)).all (fun k => zftok (zft ci k))) = true := by decide +kernel
theorem zft_ok : ∀ ci, ci < zNc → ∀ k, k < zfN ci → zftok (zft ci k) = true := by
  intro ci hci k hk
  exact List.all_eq_true.mp (List.all_eq_true.mp zft_all ci (List.mem_range.mpr hci)) k (List.mem_range.mpr hk)
theorem zkl_all : (List.range 10).all (fun oc => (zklL.getD oc []).all (fun q => zat0 q.2.2 (.constant (zcn oc) q.1 q.2.1))) = true := by decide +kernel
theorem zkl_ok {oc k : Nat} {v : Int32} (h : zkl oc k = some v) : Cond.constant (zcn oc) k v ∈ zws := by
  obtain ⟨q, hq, hk, e⟩ := zfind h
  have hc := zall zkl_all (by decide) hq
  cases e
  have hk' : q.1 = k := by simpa using hk
  subst hk'
  exact zin hc
theorem zkL_all : (List.range 10).all (fun oc => (zkLL.getD oc []).all (fun q => zat0 q.2.2 (.constantLong (zcn oc) q.1 q.2.1))) = true := by decide +kernel
theorem zkL_ok {oc k : Nat} {v : Int64} (h : zkL oc k = some v) : Cond.constantLong (zcn oc) k v ∈ zws := by
  obtain ⟨q, hq, hk, e⟩ := zfind h
  have hc := zall zkL_all (by decide) hq
  cases e
  have hk' : q.1 = k := by simpa using hk
  subst hk'
  exact zin hc
/-- instantiable, initialised: of an own class -/
def zinsP : List (Nat × Nat) := [(48, 32), (56, 33), (76, 34), (84, 35), (101, 36), (168, 38), (190, 39), (603, 40)]
theorem zins_all : (List.range zNc).all (fun ci => zat0 (zinsP.getD ci (0, 0)).1 (.instantiable (zcn ci) (zfN ci)) && zat0 (zinsP.getD ci (0, 0)).2 (.initialized (zcn ci))) = true := by decide +kernel
def zclC (oc : Nat) (q : Nat × (Nat ⊕ Nat) × Nat) : Bool := match q.2.1 with
  | .inl ci => decide (ci < zNc) && zat0 q.2.2 (.classLink (zcn oc) q.1 (zcn ci))
  | .inr x => zat0 q.2.2 (.classLink (zcn oc) q.1 (zxn x))
theorem zcl_all : (List.range 10).all (fun oc => (zclL.getD oc []).all (zclC oc)) = true := by decide +kernel
theorem zcl_ok {oc k ci : Nat} (h : zcl oc k = some (.inl ci)) : ci < zNc ∧ Cond.classLink (zcn oc) k (zcn ci) ∈ zws ∧ Cond.instantiable (zcn ci) (zfN ci) ∈ zws ∧ Cond.initialized (zcn ci) ∈ zws := by
  obtain ⟨q, hq, hk, e⟩ := zfind h
  have hc := zall zcl_all (by decide) hq
  have hk' : q.1 = k := by simpa using hk
  subst hk'
  unfold zclC at hc
  rw [e] at hc
  rw [Bool.and_eq_true, decide_eq_true_eq] at hc
  have h2 := List.all_eq_true.mp zins_all ci (List.mem_range.mpr hc.1)
  rw [Bool.and_eq_true] at h2
  exact ⟨hc.1, zin hc.2, zin h2.1, zin h2.2⟩
theorem zclx_ok {oc k x : Nat} (h : zcl oc k = some (.inr x)) : Cond.classLink (zcn oc) k (zxn x) ∈ zws := by
  obtain ⟨q, hq, hk, e⟩ := zfind h
  have hc := zall zcl_all (by decide) hq
  have hk' : q.1 = k := by simpa using hk
  subst hk'
  unfold zclC at hc
  rw [e] at hc
  exact zin hc
theorem zal_all : (List.range 10).all (fun oc => (zalL.getD oc []).all (fun q => zat0 q.2.2.1 (.classLink (zcn oc) q.1 q.2.1) && zat0 q.2.2.2 (.arrayOver (.object q.2.1)))) = true := by decide +kernel
theorem zal_ok {oc k : Nat} {A : String} (h : zal oc k = some A) : Cond.classLink (zcn oc) k A ∈ zws ∧ Cond.arrayOver (.object A) ∈ zws := by
  obtain ⟨q, hq, hk, e⟩ := zfind h
  have hc := zall zal_all (by decide) hq
  cases e
  have hk' : q.1 = k := by simpa using hk
  subst hk'
  rw [Bool.and_eq_true] at hc
  exact ⟨zin hc.1, zin hc.2⟩
theorem zany {l : List (Nat × Nat × Nat)} {C : Nat × Nat × Nat → Bool} (h : l.all C = true) {oc k : Nat} (ha : l.any (fun q => q.1 == oc && q.2.1 == k) = true) : ∃ p, C (oc, k, p) = true := by
  obtain ⟨q, hq, e⟩ := List.any_eq_true.mp ha
  obtain ⟨a, b, p⟩ := q
  simp only [Bool.and_eq_true, beq_iff_eq] at e
  obtain ⟨rfl, rfl⟩ := e
  exact ⟨p, List.all_eq_true.mp h _ hq⟩
theorem zmu_all : zmuL.all (fun q => zat0 q.2.2 (.classLink (zcn q.1) q.2.1 "[[I")) = true := by decide +kernel
theorem zmu_ok {oc k : Nat} (h : zmu oc k = true) : Cond.classLink (zcn oc) k "[[I" ∈ zws := by
  obtain ⟨p, hp⟩ := zany zmu_all h
  exact zin hp
theorem zarr_all : ((zat0 90 (.arrayOver (.array .int)) && zat0 73 (.arrayClass .int)) && (zat0 745 (.arrayClass .boolean) && zat0 904 (.arrayClass .long))) = true := by decide +kernel
theorem zarr_ok : (Cond.arrayOver (.array .int) ∈ zws ∧ Cond.arrayClass .int ∈ zws) ∧ (Cond.arrayClass .boolean ∈ zws ∧ Cond.arrayClass .long ∈ zws) := by
  have h := zarr_all
  rw [Bool.and_eq_true, Bool.and_eq_true, Bool.and_eq_true] at h
  exact ⟨⟨zin h.1.1, zin h.1.2⟩, zin h.2.1, zin h.2.2⟩
theorem zob_all : (zobL.all (fun q => zat0 q.2.2 (.methodLink (zcn q.1) q.2.1 objectInit)) && (zat0 53 (.instanceMethod objectInit) && zat0 54 (.code objectInit ⟨#[0xb1]⟩ 1 none))) = true := by decide +kernel
theorem zob_ok {oc k : Nat} (h : zob oc k = true) : Cond.methodLink (zcn oc) k objectInit ∈ zws ∧ Cond.instanceMethod objectInit ∈ zws ∧ Cond.code objectInit ⟨#[0xb1]⟩ 1 none ∈ zws := by
  have ha := zob_all
  rw [Bool.and_eq_true, Bool.and_eq_true] at ha
  obtain ⟨p, hp⟩ := zany ha.1 h
  exact ⟨zin hp, zin ha.2.1, zin ha.2.2⟩
theorem zac_all : (zacL.all (fun q => zat0 q.2.2 (.methodLink (zcn q.1) q.2.1 arraycopyName)) && ((zat0 147 (.native arraycopyName) && zat0 146 (.static arraycopyName)) && zat0 37 (.initialized "java/lang/System"))) = true := by decide +kernel
theorem zac_ok {oc k : Nat} (h : zac oc k = true) : Cond.methodLink (zcn oc) k arraycopyName ∈ zws ∧ Cond.native arraycopyName ∈ zws ∧ Cond.static arraycopyName ∈ zws ∧ Cond.initialized "java/lang/System" ∈ zws := by
  have ha := zac_all
  rw [Bool.and_eq_true, Bool.and_eq_true, Bool.and_eq_true] at ha
  obtain ⟨p, hp⟩ := zany ha.1 h
  exact ⟨zin hp, zin ha.2.1.1, zin ha.2.1.2, zin ha.2.2⟩
def zmlC (oc : Nat) (q : Nat × Nat × Nat × Nat) : Bool :=
  decide (q.2.1 < zNm) && (if q.2.2.1 = 0 then zat0 q.2.2.2 (.methodLink (zcn oc) q.1 (zy q.2.1)) else zat0 q.2.2.2 (.methodLinkNest (zcn oc) q.1 (zy q.2.1) "ReleaseLeaves"))
theorem zml_all : (List.range 10).all (fun oc => (zmlL.getD oc []).all (zmlC oc)) = true := by decide +kernel
theorem zml_ok {oc k mj : Nat} (h : zml oc k = some mj) : mj < zNm ∧ (Cond.methodLink (zcn oc) k (zy mj) ∈ zws ∨ ∃ host, Cond.methodLinkNest (zcn oc) k (zy mj) host ∈ zws) := by
  obtain ⟨q, hq, hk, e⟩ := zfind h
  have hc := zall zml_all (by decide) hq
  cases e
  have hk' : q.1 = k := by simpa using hk
  subst hk'
  unfold zmlC at hc
  rw [Bool.and_eq_true, decide_eq_true_eq] at hc
  refine ⟨hc.1, ?_⟩
  have h2 := hc.2
  split at h2
  · exact Or.inl (zin h2)
  · exact Or.inr ⟨_, zin h2⟩
/-- the words of a method (not of the law itself), but for its code -/
def zmC (mj : Nat) : Bool :=
  zat0 (zmP.getD mj (0, 0, 0, 0)).2.1 (.initialized (zy mj).cls) &&
  ((if zat mj = true then zat0 (zmP.getD mj (0, 0, 0, 0)).2.2.1 (.static (zy mj)) else (zat0 (zmP.getD mj (0, 0, 0, 0)).2.2.1 (.instanceMethod (zy mj)) && (decide ((zy mj).name = "<init>") || zat0 (zmP.getD mj (0, 0, 0, 0)).2.2.2 (.selects (zy mj).cls (zy mj) (zy mj))))) &&
   (decide ((zy mj).cls = zcn (zoc mj)) && decide ((parseMethodDescriptor (zy mj).desc).map (fun d => d.parameters.length) = some (znp mj)) && Jvm.plainName (zy mj).cls && decide ((zy mj).cls ≠ "java/lang/invoke/MethodHandle" ∧ (zy mj).cls ≠ "java/lang/invoke/VarHandle")))
theorem zm_all : ((List.range zNm).drop 1).all zmC = true := by decide +kernel
theorem zm_ok {mj : Nat} (h0 : mj ≠ 0) (h : mj < zNm) : zmC mj = true := by
  refine List.all_eq_true.mp zm_all mj ?_
  obtain ⟨k, rfl⟩ : ∃ k, mj = k + 1 := ⟨mj - 1, by omega⟩
  refine List.mem_of_getElem? (i := k) ?_
  rw [List.getElem?_drop, List.getElem?_range (by omega)]
  congr 1; omega
theorem zmn_all : (zmnL.all (fun q => zat0 q.2.2 (.methodLink (zcn q.1) q.2.1 Lib.Math.min.name)) && ((zat0 265 (.static Lib.Math.min.name) && zat0 46 (.initialized "java/lang/Math")) && zat0 266 (.code Lib.Math.min.name Lib.Math.min.code 2 (some .int)))) = true := by decide +kernel
theorem zmn_ok {oc k : Nat} (h : zmn oc k = true) : Cond.methodLink (zcn oc) k Lib.Math.min.name ∈ zws ∧ Cond.static Lib.Math.min.name ∈ zws ∧ Cond.initialized "java/lang/Math" ∈ zws ∧ Cond.code Lib.Math.min.name Lib.Math.min.code 2 (some .int) ∈ zws := by
  have ha := zmn_all
  rw [Bool.and_eq_true, Bool.and_eq_true, Bool.and_eq_true] at ha
  obtain ⟨p, hp⟩ := zany ha.1 h
  exact ⟨zin hp, zin ha.2.1.1, zin ha.2.1.2, zin ha.2.2⟩
