/-! the code word of every method but the law, by program; what the words say of a method -/
theorem zco_ok : ∀ mj, mj ≠ 0 → mj < zNm → (zhd mj = [] ∧ Cond.code (zy mj) (zcd mj) (zmx mj) (zrt mj) ∈ zws) ∨ Cond.codeWith (zy mj) (zcd mj) (zmx mj) (zrt mj) (zhd mj) ∈ zws := by
  intro mj h0 h
  match mj, h0, h with
  | 0, h0, _ => exact absurd rfl h0
  | 1, _, _ => exact Or.inl ⟨rfl, List.mem_filter.mpr ⟨List.mem_of_getElem? zco_1, rfl⟩⟩
  | 2, _, _ => exact Or.inl ⟨rfl, List.mem_filter.mpr ⟨List.mem_of_getElem? zco_2, rfl⟩⟩
  | 3, _, _ => exact Or.inl ⟨rfl, List.mem_filter.mpr ⟨List.mem_of_getElem? zco_3, rfl⟩⟩
  | 4, _, _ => exact Or.inl ⟨rfl, List.mem_filter.mpr ⟨List.mem_of_getElem? zco_4, rfl⟩⟩
  | 5, _, _ => exact Or.inl ⟨rfl, List.mem_filter.mpr ⟨List.mem_of_getElem? zco_5, rfl⟩⟩
  | 6, _, _ => exact Or.inl ⟨rfl, List.mem_filter.mpr ⟨List.mem_of_getElem? zco_6, rfl⟩⟩
  | 7, _, _ => exact Or.inl ⟨rfl, List.mem_filter.mpr ⟨List.mem_of_getElem? zco_7, rfl⟩⟩
  | 8, _, _ => exact Or.inl ⟨rfl, List.mem_filter.mpr ⟨List.mem_of_getElem? zco_8, rfl⟩⟩
  | 9, _, _ => exact Or.inl ⟨rfl, List.mem_filter.mpr ⟨List.mem_of_getElem? zco_9, rfl⟩⟩
  | 10, _, _ => exact Or.inl ⟨rfl, List.mem_filter.mpr ⟨List.mem_of_getElem? zco_10, rfl⟩⟩
  | 11, _, _ => exact Or.inl ⟨rfl, List.mem_filter.mpr ⟨List.mem_of_getElem? zco_11, rfl⟩⟩
  | 12, _, _ => exact Or.inl ⟨rfl, List.mem_filter.mpr ⟨List.mem_of_getElem? zco_12, rfl⟩⟩
  | 13, _, _ => exact Or.inl ⟨rfl, List.mem_filter.mpr ⟨List.mem_of_getElem? zco_13, rfl⟩⟩
  | 14, _, _ => exact Or.inl ⟨rfl, List.mem_filter.mpr ⟨List.mem_of_getElem? zco_14, rfl⟩⟩
  | 15, _, _ => exact Or.inl ⟨rfl, List.mem_filter.mpr ⟨List.mem_of_getElem? zco_15, rfl⟩⟩
  | 16, _, _ => exact Or.inl ⟨rfl, List.mem_filter.mpr ⟨List.mem_of_getElem? zco_16, rfl⟩⟩
  | 17, _, _ => exact Or.inl ⟨rfl, List.mem_filter.mpr ⟨List.mem_of_getElem? zco_17, rfl⟩⟩
  | 18, _, _ => exact Or.inl ⟨rfl, List.mem_filter.mpr ⟨List.mem_of_getElem? zco_18, rfl⟩⟩
  | 19, _, _ => exact Or.inl ⟨rfl, List.mem_filter.mpr ⟨List.mem_of_getElem? zco_19, rfl⟩⟩
  | 20, _, _ => exact Or.inl ⟨rfl, List.mem_filter.mpr ⟨List.mem_of_getElem? zco_20, rfl⟩⟩
  | 21, _, _ => exact Or.inl ⟨rfl, List.mem_filter.mpr ⟨List.mem_of_getElem? zco_21, rfl⟩⟩
  | 22, _, _ => exact Or.inl ⟨rfl, List.mem_filter.mpr ⟨List.mem_of_getElem? zco_22, rfl⟩⟩
  | 23, _, _ => exact Or.inl ⟨rfl, List.mem_filter.mpr ⟨List.mem_of_getElem? zco_23, rfl⟩⟩
  | 24, _, _ => exact Or.inl ⟨rfl, List.mem_filter.mpr ⟨List.mem_of_getElem? zco_24, rfl⟩⟩
  | 25, _, _ => exact Or.inl ⟨rfl, List.mem_filter.mpr ⟨List.mem_of_getElem? zco_25, rfl⟩⟩
  | 26, _, _ => exact Or.inl ⟨rfl, List.mem_filter.mpr ⟨List.mem_of_getElem? zco_26, rfl⟩⟩
  | 27, _, _ => exact Or.inl ⟨rfl, List.mem_filter.mpr ⟨List.mem_of_getElem? zco_27, rfl⟩⟩
  | 28, _, _ => exact Or.inl ⟨rfl, List.mem_filter.mpr ⟨List.mem_of_getElem? zco_28, rfl⟩⟩
  | 29, _, _ => exact Or.inl ⟨rfl, List.mem_filter.mpr ⟨List.mem_of_getElem? zco_29, rfl⟩⟩
  | 30, _, _ => exact Or.inl ⟨rfl, List.mem_filter.mpr ⟨List.mem_of_getElem? zco_30, rfl⟩⟩
  | 31, _, _ => exact Or.inl ⟨rfl, List.mem_filter.mpr ⟨List.mem_of_getElem? zco_31, rfl⟩⟩
  | 32, _, _ => exact Or.inl ⟨rfl, List.mem_filter.mpr ⟨List.mem_of_getElem? zco_32, rfl⟩⟩
  | 33, _, _ => exact Or.inl ⟨rfl, List.mem_filter.mpr ⟨List.mem_of_getElem? zco_33, rfl⟩⟩
  | 34, _, _ => exact Or.inl ⟨rfl, List.mem_filter.mpr ⟨List.mem_of_getElem? zco_34, rfl⟩⟩
  | 35, _, _ => exact Or.inl ⟨rfl, List.mem_filter.mpr ⟨List.mem_of_getElem? zco_35, rfl⟩⟩
  | 36, _, _ => exact Or.inl ⟨rfl, List.mem_filter.mpr ⟨List.mem_of_getElem? zco_36, rfl⟩⟩
  | 37, _, _ => exact Or.inl ⟨rfl, List.mem_filter.mpr ⟨List.mem_of_getElem? zco_37, rfl⟩⟩
  | 38, _, _ => exact Or.inl ⟨rfl, List.mem_filter.mpr ⟨List.mem_of_getElem? zco_38, rfl⟩⟩
  | 39, _, _ => exact Or.inr (List.mem_filter.mpr ⟨List.mem_of_getElem? zco_39, rfl⟩)
  | 40, _, _ => exact Or.inl ⟨rfl, List.mem_filter.mpr ⟨List.mem_of_getElem? zco_40, rfl⟩⟩
  | 41, _, _ => exact Or.inl ⟨rfl, List.mem_filter.mpr ⟨List.mem_of_getElem? zco_41, rfl⟩⟩
  | 42, _, _ => exact Or.inl ⟨rfl, List.mem_filter.mpr ⟨List.mem_of_getElem? zco_42, rfl⟩⟩
  | 43, _, _ => exact Or.inr (List.mem_filter.mpr ⟨List.mem_of_getElem? zco_43, rfl⟩)
  | 44, _, _ => exact Or.inl ⟨rfl, List.mem_filter.mpr ⟨List.mem_of_getElem? zco_44, rfl⟩⟩
  | 45, _, _ => exact Or.inl ⟨rfl, List.mem_filter.mpr ⟨List.mem_of_getElem? zco_45, rfl⟩⟩
  | 46, _, _ => exact Or.inl ⟨rfl, List.mem_filter.mpr ⟨List.mem_of_getElem? zco_46, rfl⟩⟩
  | 47, _, _ => exact Or.inr (List.mem_filter.mpr ⟨List.mem_of_getElem? zco_47, rfl⟩)
  | 48, _, _ => exact Or.inl ⟨rfl, List.mem_filter.mpr ⟨List.mem_of_getElem? zco_48, rfl⟩⟩
  | 49, _, _ => exact Or.inl ⟨rfl, List.mem_filter.mpr ⟨List.mem_of_getElem? zco_49, rfl⟩⟩
  | 50, _, _ => exact Or.inl ⟨rfl, List.mem_filter.mpr ⟨List.mem_of_getElem? zco_50, rfl⟩⟩
  | 51, _, _ => exact Or.inr (List.mem_filter.mpr ⟨List.mem_of_getElem? zco_51, rfl⟩)
  | 52, _, _ => exact Or.inl ⟨rfl, List.mem_filter.mpr ⟨List.mem_of_getElem? zco_52, rfl⟩⟩
  | 53, _, _ => exact Or.inl ⟨rfl, List.mem_filter.mpr ⟨List.mem_of_getElem? zco_53, rfl⟩⟩
  | 54, _, _ => exact Or.inl ⟨rfl, List.mem_filter.mpr ⟨List.mem_of_getElem? zco_54, rfl⟩⟩
  | 55, _, _ => exact Or.inl ⟨rfl, List.mem_filter.mpr ⟨List.mem_of_getElem? zco_55, rfl⟩⟩
  | 56, _, _ => exact Or.inl ⟨rfl, List.mem_filter.mpr ⟨List.mem_of_getElem? zco_56, rfl⟩⟩
  | 57, _, _ => exact Or.inl ⟨rfl, List.mem_filter.mpr ⟨List.mem_of_getElem? zco_57, rfl⟩⟩
  | 58, _, _ => exact Or.inl ⟨rfl, List.mem_filter.mpr ⟨List.mem_of_getElem? zco_58, rfl⟩⟩
  | 59, _, _ => exact Or.inr (List.mem_filter.mpr ⟨List.mem_of_getElem? zco_59, rfl⟩)
  | 60, _, _ => exact Or.inl ⟨rfl, List.mem_filter.mpr ⟨List.mem_of_getElem? zco_60, rfl⟩⟩
  | 61, _, _ => exact Or.inl ⟨rfl, List.mem_filter.mpr ⟨List.mem_of_getElem? zco_61, rfl⟩⟩
  | 62, _, _ => exact Or.inl ⟨rfl, List.mem_filter.mpr ⟨List.mem_of_getElem? zco_62, rfl⟩⟩
  | 63, _, _ => exact Or.inr (List.mem_filter.mpr ⟨List.mem_of_getElem? zco_63, rfl⟩)
  | 64, _, _ => exact Or.inl ⟨rfl, List.mem_filter.mpr ⟨List.mem_of_getElem? zco_64, rfl⟩⟩
  | 65, _, _ => exact Or.inr (List.mem_filter.mpr ⟨List.mem_of_getElem? zco_65, rfl⟩)
  | 66, _, _ => exact Or.inl ⟨rfl, List.mem_filter.mpr ⟨List.mem_of_getElem? zco_66, rfl⟩⟩
  | 67, _, _ => exact Or.inr (List.mem_filter.mpr ⟨List.mem_of_getElem? zco_67, rfl⟩)
  | 68, _, _ => exact Or.inl ⟨rfl, List.mem_filter.mpr ⟨List.mem_of_getElem? zco_68, rfl⟩⟩
  | 69, _, _ => exact Or.inl ⟨rfl, List.mem_filter.mpr ⟨List.mem_of_getElem? zco_69, rfl⟩⟩
  | 70, _, _ => exact Or.inl ⟨rfl, List.mem_filter.mpr ⟨List.mem_of_getElem? zco_70, rfl⟩⟩
  | 71, _, _ => exact Or.inr (List.mem_filter.mpr ⟨List.mem_of_getElem? zco_71, rfl⟩)
  | 72, _, _ => exact Or.inl ⟨rfl, List.mem_filter.mpr ⟨List.mem_of_getElem? zco_72, rfl⟩⟩
  | 73, _, _ => exact Or.inr (List.mem_filter.mpr ⟨List.mem_of_getElem? zco_73, rfl⟩)
  | 74, _, _ => exact Or.inl ⟨rfl, List.mem_filter.mpr ⟨List.mem_of_getElem? zco_74, rfl⟩⟩
  | 75, _, _ => exact Or.inr (List.mem_filter.mpr ⟨List.mem_of_getElem? zco_75, rfl⟩)
  | 76, _, _ => exact Or.inl ⟨rfl, List.mem_filter.mpr ⟨List.mem_of_getElem? zco_76, rfl⟩⟩
  | 77, _, _ => exact Or.inl ⟨rfl, List.mem_filter.mpr ⟨List.mem_of_getElem? zco_77, rfl⟩⟩
  | 78, _, _ => exact Or.inr (List.mem_filter.mpr ⟨List.mem_of_getElem? zco_78, rfl⟩)
  | 79, _, _ => exact Or.inl ⟨rfl, List.mem_filter.mpr ⟨List.mem_of_getElem? zco_79, rfl⟩⟩
  | 80, _, _ => exact Or.inl ⟨rfl, List.mem_filter.mpr ⟨List.mem_of_getElem? zco_80, rfl⟩⟩
  | 81, _, _ => exact Or.inl ⟨rfl, List.mem_filter.mpr ⟨List.mem_of_getElem? zco_81, rfl⟩⟩
  | 82, _, _ => exact Or.inl ⟨rfl, List.mem_filter.mpr ⟨List.mem_of_getElem? zco_82, rfl⟩⟩
  | 83, _, _ => exact Or.inl ⟨rfl, List.mem_filter.mpr ⟨List.mem_of_getElem? zco_83, rfl⟩⟩
  | 84, _, _ => exact Or.inl ⟨rfl, List.mem_filter.mpr ⟨List.mem_of_getElem? zco_84, rfl⟩⟩
  | 85, _, _ => exact Or.inl ⟨rfl, List.mem_filter.mpr ⟨List.mem_of_getElem? zco_85, rfl⟩⟩
  | 86, _, _ => exact Or.inl ⟨rfl, List.mem_filter.mpr ⟨List.mem_of_getElem? zco_86, rfl⟩⟩
  | 87, _, _ => exact Or.inl ⟨rfl, List.mem_filter.mpr ⟨List.mem_of_getElem? zco_87, rfl⟩⟩
  | 88, _, _ => exact Or.inl ⟨rfl, List.mem_filter.mpr ⟨List.mem_of_getElem? zco_88, rfl⟩⟩
  | 89, _, _ => exact Or.inl ⟨rfl, List.mem_filter.mpr ⟨List.mem_of_getElem? zco_89, rfl⟩⟩
  | 90, _, _ => exact Or.inl ⟨rfl, List.mem_filter.mpr ⟨List.mem_of_getElem? zco_90, rfl⟩⟩
  | 91, _, _ => exact Or.inl ⟨rfl, List.mem_filter.mpr ⟨List.mem_of_getElem? zco_91, rfl⟩⟩
  | 92, _, _ => exact Or.inl ⟨rfl, List.mem_filter.mpr ⟨List.mem_of_getElem? zco_92, rfl⟩⟩
  | 93, _, _ => exact Or.inl ⟨rfl, List.mem_filter.mpr ⟨List.mem_of_getElem? zco_93, rfl⟩⟩
  | 94, _, _ => exact Or.inl ⟨rfl, List.mem_filter.mpr ⟨List.mem_of_getElem? zco_94, rfl⟩⟩
  | 95, _, _ => exact Or.inl ⟨rfl, List.mem_filter.mpr ⟨List.mem_of_getElem? zco_95, rfl⟩⟩
  | 96, _, _ => exact Or.inl ⟨rfl, List.mem_filter.mpr ⟨List.mem_of_getElem? zco_96, rfl⟩⟩
  | 97, _, _ => exact Or.inl ⟨rfl, List.mem_filter.mpr ⟨List.mem_of_getElem? zco_97, rfl⟩⟩
  | 98, _, _ => exact Or.inl ⟨rfl, List.mem_filter.mpr ⟨List.mem_of_getElem? zco_98, rfl⟩⟩
  | 99, _, _ => exact Or.inl ⟨rfl, List.mem_filter.mpr ⟨List.mem_of_getElem? zco_99, rfl⟩⟩
  | 100, _, _ => exact Or.inl ⟨rfl, List.mem_filter.mpr ⟨List.mem_of_getElem? zco_100, rfl⟩⟩
  | 101, _, _ => exact Or.inl ⟨rfl, List.mem_filter.mpr ⟨List.mem_of_getElem? zco_101, rfl⟩⟩
  | 102, _, _ => exact Or.inl ⟨rfl, List.mem_filter.mpr ⟨List.mem_of_getElem? zco_102, rfl⟩⟩
  | 103, _, _ => exact Or.inl ⟨rfl, List.mem_filter.mpr ⟨List.mem_of_getElem? zco_103, rfl⟩⟩
  | 104, _, _ => exact Or.inl ⟨rfl, List.mem_filter.mpr ⟨List.mem_of_getElem? zco_104, rfl⟩⟩
  | 105, _, _ => exact Or.inl ⟨rfl, List.mem_filter.mpr ⟨List.mem_of_getElem? zco_105, rfl⟩⟩
  | 106, _, _ => exact Or.inl ⟨rfl, List.mem_filter.mpr ⟨List.mem_of_getElem? zco_106, rfl⟩⟩
  | 107, _, _ => exact Or.inl ⟨rfl, List.mem_filter.mpr ⟨List.mem_of_getElem? zco_107, rfl⟩⟩
  | 108, _, _ => exact Or.inl ⟨rfl, List.mem_filter.mpr ⟨List.mem_of_getElem? zco_108, rfl⟩⟩
  | 109, _, _ => exact Or.inl ⟨rfl, List.mem_filter.mpr ⟨List.mem_of_getElem? zco_109, rfl⟩⟩
  | 110, _, _ => exact Or.inl ⟨rfl, List.mem_filter.mpr ⟨List.mem_of_getElem? zco_110, rfl⟩⟩
  | 111, _, _ => exact Or.inl ⟨rfl, List.mem_filter.mpr ⟨List.mem_of_getElem? zco_111, rfl⟩⟩
  | 112, _, _ => exact Or.inl ⟨rfl, List.mem_filter.mpr ⟨List.mem_of_getElem? zco_112, rfl⟩⟩
  | 113, _, _ => exact Or.inl ⟨rfl, List.mem_filter.mpr ⟨List.mem_of_getElem? zco_113, rfl⟩⟩
  | 114, _, _ => exact Or.inl ⟨rfl, List.mem_filter.mpr ⟨List.mem_of_getElem? zco_114, rfl⟩⟩
  | 115, _, _ => exact Or.inl ⟨rfl, List.mem_filter.mpr ⟨List.mem_of_getElem? zco_115, rfl⟩⟩
  | 116, _, _ => exact Or.inl ⟨rfl, List.mem_filter.mpr ⟨List.mem_of_getElem? zco_116, rfl⟩⟩
  | 117, _, _ => exact Or.inl ⟨rfl, List.mem_filter.mpr ⟨List.mem_of_getElem? zco_117, rfl⟩⟩
  | 118, _, _ => exact Or.inl ⟨rfl, List.mem_filter.mpr ⟨List.mem_of_getElem? zco_118, rfl⟩⟩
  | 119, _, _ => exact Or.inl ⟨rfl, List.mem_filter.mpr ⟨List.mem_of_getElem? zco_119, rfl⟩⟩
  | 120, _, _ => exact Or.inl ⟨rfl, List.mem_filter.mpr ⟨List.mem_of_getElem? zco_120, rfl⟩⟩
  | 121, _, _ => exact Or.inl ⟨rfl, List.mem_filter.mpr ⟨List.mem_of_getElem? zco_121, rfl⟩⟩
  | n + 122, _, h => exact absurd (show n + 122 < 122 from h) (by omega)
/-- what stands in the tables of a method -/
theorem zmeth {S0 : State} {D : va_G} {z : Nat → Nat} (F : zFix S0 D z) {T : State} (hW : S0.WarmedH T.vm) {mj : Nat} (h0 : mj ≠ 0) (hlt : mj < zNm) :
    ∃ (mk : MethodId) (methk : Method) (ck : Code), T.methodNamed? (zy mj) = some mk ∧ T.vm.method? mk = some methk ∧ methk.code = some ck ∧ ck.code = zcd mj ∧ ck.maxLocals = zmx mj ∧ methk.sig.returnType = zrt mj ∧ methk.locks = false ∧
      ck.exceptionTable.toList.map (fun h => (h.startPc, h.endPc, h.handlerPc, h.catchType)) = zhd mj ∧ parseMethodDescriptor (zy mj).desc = some methk.sig ∧ T.plainMethod mk ∧ methk.name = (zy mj).name ∧ T.vm.findClass (zcn (zoc mj)) = some mk.cls ∧ methk.sig.parameters.length = znp mj := by
  have hm := zm_ok h0 hlt
  unfold zmC at hm
  simp only [Bool.and_eq_true, decide_eq_true_eq] at hm
  obtain ⟨-, -, ⟨⟨hcls, hpar⟩, hplain⟩, -⟩ := hm
  have key : ∃ (mk : MethodId) (methk : Method) (ck : Code), T.methodNamed? (zy mj) = some mk ∧ T.vm.method? mk = some methk ∧ methk.code = some ck ∧ ck.code = zcd mj ∧ ck.maxLocals = zmx mj ∧ methk.sig.returnType = zrt mj ∧ methk.locks = false ∧
      ck.exceptionTable.toList.map (fun h => (h.startPc, h.endPc, h.handlerPc, h.catchType)) = zhd mj ∧ parseMethodDescriptor (zy mj).desc = some methk.sig := by
    rcases zco_ok mj h0 hlt with ⟨hh, hw⟩ | hw
    · have hc : (Cond.code (zy mj) (zcd mj) (zmx mj) (zrt mj)).before #[] T = true := F.1 _ hw #[] T hW
      obtain ⟨mk, hn⟩ := Cond.code_named hc
      obtain ⟨meth, c, q1, q2, q3, q4, q5, q6, q7, q8⟩ := Cond.code_spec hn hc
      refine ⟨mk, meth, c, hn, q1, q2, q3, q4, q5, q6, ?_, q8⟩
      rw [hh]
      have : c.exceptionTable.toList = [] := by simpa using q7
      rw [this]; rfl
    · have hc : (Cond.codeWith (zy mj) (zcd mj) (zmx mj) (zrt mj) (zhd mj)).before #[] T = true := F.1 _ hw #[] T hW
      obtain ⟨mk, meth, c, hn, q1, q2, q3, q4, q5, q6, q7, q8⟩ := Cond.codeWith_spec hc
      exact ⟨mk, meth, c, hn, q1, q2, q3, q4, q6, q7, q5, q8⟩
  obtain ⟨mk, methk, ck, hn, h1, h2, h3, h4, h5, h6, h7, h8⟩ := key
  refine ⟨mk, methk, ck, hn, h1, h2, h3, h4, h5, h6, h7, h8, ?_, (name_of_methodNamed hn h1).1, ?_, ?_⟩
  · refine State.plainMethod.of_name (fun k hk => ?_)
    obtain ⟨k', hk', hname⟩ := className_of_methodNamed hn
    cases hk.symm.trans hk'
    rw [hname]; exact hplain
  · rw [← hcls]; exact findClass_of_methodNamed hn
  · rw [h8] at hpar
    exact Option.some.inj hpar
