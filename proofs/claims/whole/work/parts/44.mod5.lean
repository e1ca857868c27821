/-! THE REFERENCE: changes; the check -/
section ZM5
variable {L N U : Nat} {I : zI} {J : zJ} {R : zR} {c : Nat} {Q : zOut → zHp → Prop}
theorem zm_chT (hR : zRs R) (hN : 646 ≤ N) {x y : Int32} (h : zRet L 102 [.ref 623, .int x, .int y] (N, U, I, J, R) (some (.int (Int32.ofNat 0))) (N, U, I, J, R)) : zRet L 120 [.ref 623, .int x, .int y] (N, U, I, J, R) (some (.int (Int32.ofNat 0))) (N, U, zT I 1, J, R) := by
  show zW L 120 0 [some (.ref 623), some (.int x), some (.int y), none, none, none, none, none] [] _ _
  refine zx_al0 zd120_0 ?_
  refine zx_al0 zd120_1 ?_
  refine zx_il1 zd120_2 ?_
  refine zx_il2 zd120_3 ?_
  (refine zx_cv2I zd120_4 ?k5 (h) ?_); (case k5 => first | exact zkk rfl (by omega) | exact zkk (zK_B0 (by omega)) (by omega) | exact zkk ((zK_B (by omega) (by decide)).trans rfl) (by omega) | exact zkk (zK_row (by omega) (by omega)) (by omega) | exact zkk (zK_file (by omega) (by omega)) (by omega) | exact zkk (zK_byte (by omega) (by omega)) (by omega) | exact zkk (zK_list (by omega)) (by omega) | assumption)
  first | ((with_reducible refine zx_ifeqN zd120_7 ?s6 (fun h => ?_) (fun h => ?_)); (case s6 => omega)) | refine zx_ifeq zd120_7 (fun h => ?_) (fun h => ?_)
  · refine zx_c zd120_14 ?_
    (refine zx_pfI zd120_15 ?k8 ?a8 ?_); (case k8 => first | exact zkk rfl (by omega) | exact zkk (zK_B0 (by omega)) (by omega) | exact zkk ((zK_B (by omega) (by decide)).trans rfl) (by omega) | exact zkk (zK_row (by omega) (by omega)) (by omega) | exact zkk (zK_file (by omega) (by omega)) (by omega) | exact zkk (zK_byte (by omega) (by omega)) (by omega) | exact zkk (zK_list (by omega)) (by omega) | assumption); (case a8 => omega)
    refine zx_al0 zd120_18 ?_
    (refine zx_gfI zd120_19 ?k10 ?_); (case k10 => first | exact zkk rfl (by omega) | exact zkk (zK_B0 (by omega)) (by omega) | exact zkk ((zK_B (by omega) (by decide)).trans rfl) (by omega) | exact zkk (zK_row (by omega) (by omega)) (by omega) | exact zkk (zK_file (by omega) (by omega)) (by omega) | exact zkk (zK_byte (by omega) (by omega)) (by omega) | exact zkk (zK_list (by omega)) (by omega) | assumption)
    rw [show zu I 623 0 (Int32.ofNat 1) 623 0 = Int32.ofNat 1 from rfl]
    first | ((with_reducible refine zx_ifeqN zd120_22 ?s11 (fun h2 => ?_) (fun h2 => ?_)); (case s11 => omega)) | refine zx_ifeq zd120_22 (fun h2 => ?_) (fun h2 => ?_)
    · omega
    · refine zx_c zd120_25 ?_
      refine zx_iret zd120_26 (Or.inl rfl) ?_
      exact ⟨rfl, rfl⟩
  · omega
theorem zm_ch0 (hR : zRs R) (hN : 646 ≤ N) (hc : I 623 8 = Int32.ofNat c) (hc10 : c ≤ 10) {n j : Nat} (hr : 0 < c) (hn : I 630 0 = Int32.ofNat n) (hn8 : n ≤ 8) (hj : j < n) : zRet L 120 [.ref 623, .int (Int32.ofNat 0), .int (Int32.ofNat j)] (N, U, I, J, R) (some (.int (Int32.ofNat 2))) (N, U, zT I 0, J, R) := by
  show zW L 120 0 [some (.ref 623), some (.int (Int32.ofNat 0)), some (.int (Int32.ofNat j)), none, none, none, none, none] [] _ _
  refine zx_al0 zd120_0 ?_
  refine zx_al0 zd120_1 ?_
  refine zx_il1 zd120_2 ?_
  refine zx_il2 zd120_3 ?_
  (refine zx_cv2I zd120_4 ?k18 (zm_il hR hN hc hc10 hr hn hn8 hj) ?_); (case k18 => first | exact zkk rfl (by omega) | exact zkk (zK_B0 (by omega)) (by omega) | exact zkk ((zK_B (by omega) (by decide)).trans rfl) (by omega) | exact zkk (zK_row (by omega) (by omega)) (by omega) | exact zkk (zK_file (by omega) (by omega)) (by omega) | exact zkk (zK_byte (by omega) (by omega)) (by omega) | exact zkk (zK_list (by omega)) (by omega) | assumption)
  first | ((with_reducible refine zx_ifeqN zd120_7 ?s19 (fun h => ?_) (fun h => ?_)); (case s19 => omega)) | refine zx_ifeq zd120_7 (fun h => ?_) (fun h => ?_)
  · omega
  · refine zx_c zd120_10 ?_
    refine zx_goto zd120_11 ?_
    (refine zx_pfI zd120_15 ?k22 ?a22 ?_); (case k22 => first | exact zkk rfl (by omega) | exact zkk (zK_B0 (by omega)) (by omega) | exact zkk ((zK_B (by omega) (by decide)).trans rfl) (by omega) | exact zkk (zK_row (by omega) (by omega)) (by omega) | exact zkk (zK_file (by omega) (by omega)) (by omega) | exact zkk (zK_byte (by omega) (by omega)) (by omega) | exact zkk (zK_list (by omega)) (by omega) | assumption); (case a22 => omega)
    refine zx_al0 zd120_18 ?_
    (refine zx_gfI zd120_19 ?k24 ?_); (case k24 => first | exact zkk rfl (by omega) | exact zkk (zK_B0 (by omega)) (by omega) | exact zkk ((zK_B (by omega) (by decide)).trans rfl) (by omega) | exact zkk (zK_row (by omega) (by omega)) (by omega) | exact zkk (zK_file (by omega) (by omega)) (by omega) | exact zkk (zK_byte (by omega) (by omega)) (by omega) | exact zkk (zK_list (by omega)) (by omega) | assumption)
    rw [show zu I 623 0 (Int32.ofNat 0) 623 0 = Int32.ofNat 0 from rfl]
    first | ((with_reducible refine zx_ifeqN zd120_22 ?s25 (fun h2 => ?_) (fun h2 => ?_)); (case s25 => omega)) | refine zx_ifeq zd120_22 (fun h2 => ?_) (fun h2 => ?_)
    · refine zx_c zd120_27 ?_
      refine zx_il1 zd120_29 ?_
      first | with_reducible refine zx_mulN zd120_30 ?_ | refine zx_mul zd120_30 ?_
      refine zx_il2 zd120_31 ?_
      first | with_reducible refine zx_addN zd120_32 ?_ | refine zx_add zd120_32 ?_
      refine zx_is3 zd120_33 rfl ?_
      refine zx_il1 zd120_34 ?_
      first | ((with_reducible refine zx_ifneN zd120_35 ?s33 (fun h3 => ?_) (fun h3 => ?_)); (case s33 => omega)) | refine zx_ifne zd120_35 (fun h3 => ?_) (fun h3 => ?_)
      · omega
      · refine zx_c zd120_38 ?_
        refine zx_goto zd120_39 ?_
        refine zx_is4 zd120_55 rfl ?_
        refine zx_il4 zd120_57 ?_
        refine zx_c zd120_59 ?_
        refine zx_icmpne zd120_60 (fun h5 => absurd rfl h5) (fun h5 => ?_)
        refine zx_c zd120_63 ?_
        refine zx_iret zd120_64 (Or.inl rfl) ?_
        exact ⟨rfl, rfl⟩
    · omega
theorem zm_chl (hR : zRs R) (hN : 646 ≤ N) {f g l : Nat} (hf : f < 88) (hg : g < 88) (hl : I 632 f = Int32.ofNat l) (hl6 : l ≤ 64) {l1 l2 l4 : Option Value} : ∀ (k i : Nat), i + k = l →
    zW L 120 102 [some (.ref 623), l1, l2, some (.int (Int32.ofNat f)), l4, some (.int (Int32.ofNat g)), some (.int (Int32.ofNat 1)), some (.int (Int32.ofNat i))] [] (N, U, I, J, R) (fun o h => o = .inl (some (.int (if zeqn (fun q => I 633 (64 * f + q)) (fun q => I 633 (64 * g + q)) i k = true then Int32.ofNat 0 else Int32.ofNat 1))) ∧ h = (N, U, I, J, R)) := by
  intro k
  induction k with
  | zero =>
    intro i hi
    refine zx_il7 zd120_102 ?_
    refine zx_al0 zd120_104 ?_
    (refine' zx_gfA zd120_105 ?k43 ?r43 ?_); (case k43 => first | exact zkk rfl (by omega) | exact zkk (zK_B0 (by omega)) (by omega) | exact zkk ((zK_B (by omega) (by decide)).trans rfl) (by omega) | exact zkk (zK_row (by omega) (by omega)) (by omega) | exact zkk (zK_file (by omega) (by omega)) (by omega) | exact zkk (zK_byte (by omega) (by omega)) (by omega) | exact zkk (zK_list (by omega)) (by omega) | assumption); (case r43 => first | exact hR.1 _ _ _ rfl | assumption)
    refine zx_il3 zd120_108 ?_
    (with_reducible refine' zx_ialdN zd120_109 ?k45 ?j45 ?_); (case k45 => first | exact zkk rfl (by omega) | exact zkk (zK_B0 (by omega)) (by omega) | exact zkk ((zK_B (by omega) (by decide)).trans rfl) (by omega) | exact zkk (zK_row (by omega) (by omega)) (by omega) | exact zkk (zK_file (by omega) (by omega)) (by omega) | exact zkk (zK_byte (by omega) (by omega)) (by omega) | exact zkk (zK_list (by omega)) (by omega) | assumption); (case j45 => omega)
    rw [hl]
    first | ((with_reducible refine zx_icmpgeN zd120_110 ?s46 (fun h => ?_) (fun h => ?_)); (case s46 => omega)) | refine zx_icmpge zd120_110 (fun h => ?_) (fun h => ?_)
    · refine zx_il6 zd120_159 ?_
      first | ((with_reducible refine zx_ifeqN zd120_161 ?s48 (fun h2 => ?_) (fun h2 => ?_)); (case s48 => omega)) | refine zx_ifeq zd120_161 (fun h2 => ?_) (fun h2 => ?_)
      · omega
      · refine zx_c zd120_164 ?_
        refine zx_goto zd120_165 ?_
        refine zx_iret zd120_169 (Or.inl rfl) ?_
        exact ⟨rfl, rfl⟩
    · omega
  | succ k ih =>
    intro i hi
    refine zx_il7 zd120_102 ?_
    refine zx_al0 zd120_104 ?_
    (refine' zx_gfA zd120_105 ?k54 ?r54 ?_); (case k54 => first | exact zkk rfl (by omega) | exact zkk (zK_B0 (by omega)) (by omega) | exact zkk ((zK_B (by omega) (by decide)).trans rfl) (by omega) | exact zkk (zK_row (by omega) (by omega)) (by omega) | exact zkk (zK_file (by omega) (by omega)) (by omega) | exact zkk (zK_byte (by omega) (by omega)) (by omega) | exact zkk (zK_list (by omega)) (by omega) | assumption); (case r54 => first | exact hR.1 _ _ _ rfl | assumption)
    refine zx_il3 zd120_108 ?_
    (with_reducible refine' zx_ialdN zd120_109 ?k56 ?j56 ?_); (case k56 => first | exact zkk rfl (by omega) | exact zkk (zK_B0 (by omega)) (by omega) | exact zkk ((zK_B (by omega) (by decide)).trans rfl) (by omega) | exact zkk (zK_row (by omega) (by omega)) (by omega) | exact zkk (zK_file (by omega) (by omega)) (by omega) | exact zkk (zK_byte (by omega) (by omega)) (by omega) | exact zkk (zK_list (by omega)) (by omega) | assumption); (case j56 => omega)
    rw [hl]
    first | ((with_reducible refine zx_icmpgeN zd120_110 ?s57 (fun h => ?_) (fun h => ?_)); (case s57 => omega)) | refine zx_icmpge zd120_110 (fun h => ?_) (fun h => ?_)
    · omega
    · refine zx_il6 zd120_113 ?_
      first | ((with_reducible refine zx_ifeqN zd120_115 ?s59 (fun h2 => ?_) (fun h2 => ?_)); (case s59 => omega)) | refine zx_ifeq zd120_115 (fun h2 => ?_) (fun h2 => ?_)
      · omega
      · refine zx_al0 zd120_118 ?_
        (refine' zx_gfA zd120_119 ?k61 ?r61 ?_); (case k61 => first | exact zkk rfl (by omega) | exact zkk (zK_B0 (by omega)) (by omega) | exact zkk ((zK_B (by omega) (by decide)).trans rfl) (by omega) | exact zkk (zK_row (by omega) (by omega)) (by omega) | exact zkk (zK_file (by omega) (by omega)) (by omega) | exact zkk (zK_byte (by omega) (by omega)) (by omega) | exact zkk (zK_list (by omega)) (by omega) | assumption); (case r61 => first | exact hR.1 _ _ _ rfl | assumption)
        refine zx_c zd120_122 ?_
        refine zx_il3 zd120_124 ?_
        first | with_reducible refine zx_mulN zd120_125 ?_ | refine zx_mul zd120_125 ?_
        refine zx_il7 zd120_126 ?_
        first | with_reducible refine zx_addN zd120_128 ?_ | refine zx_add zd120_128 ?_
        (with_reducible refine' zx_ialdN zd120_129 ?k67 ?j67 ?_); (case k67 => first | exact zkk rfl (by omega) | exact zkk (zK_B0 (by omega)) (by omega) | exact zkk ((zK_B (by omega) (by decide)).trans rfl) (by omega) | exact zkk (zK_row (by omega) (by omega)) (by omega) | exact zkk (zK_file (by omega) (by omega)) (by omega) | exact zkk (zK_byte (by omega) (by omega)) (by omega) | exact zkk (zK_list (by omega)) (by omega) | assumption); (case j67 => omega)
        refine zx_al0 zd120_130 ?_
        (refine' zx_gfA zd120_131 ?k69 ?r69 ?_); (case k69 => first | exact zkk rfl (by omega) | exact zkk (zK_B0 (by omega)) (by omega) | exact zkk ((zK_B (by omega) (by decide)).trans rfl) (by omega) | exact zkk (zK_row (by omega) (by omega)) (by omega) | exact zkk (zK_file (by omega) (by omega)) (by omega) | exact zkk (zK_byte (by omega) (by omega)) (by omega) | exact zkk (zK_list (by omega)) (by omega) | assumption); (case r69 => first | exact hR.1 _ _ _ rfl | assumption)
        refine zx_c zd120_134 ?_
        refine zx_il5 zd120_136 ?_
        first | with_reducible refine zx_mulN zd120_138 ?_ | refine zx_mul zd120_138 ?_
        refine zx_il7 zd120_139 ?_
        first | with_reducible refine zx_addN zd120_141 ?_ | refine zx_add zd120_141 ?_
        (with_reducible refine' zx_ialdN zd120_142 ?k75 ?j75 ?_); (case k75 => first | exact zkk rfl (by omega) | exact zkk (zK_B0 (by omega)) (by omega) | exact zkk ((zK_B (by omega) (by decide)).trans rfl) (by omega) | exact zkk (zK_row (by omega) (by omega)) (by omega) | exact zkk (zK_file (by omega) (by omega)) (by omega) | exact zkk (zK_byte (by omega) (by omega)) (by omega) | exact zkk (zK_list (by omega)) (by omega) | assumption); (case j75 => omega)
        refine zx_icmpne zd120_143 (fun h3 => ?_) (fun h3 => ?_)
        · have e : zeqn (fun q => I 633 (64 * f + q)) (fun q => I 633 (64 * g + q)) i (k + 1) = false := if_neg h3
          rw [e]
          refine zx_c zd120_150 ?_
          refine zx_is6 zd120_151 rfl ?_
          first | with_reducible refine zx_iin7 zd120_153 ?_ | refine zx_ii7 zd120_153 ?_
          refine zx_goto zd120_156 ?_
          refine zx_il7 zd120_102 ?_
          refine zx_al0 zd120_104 ?_
          (refine' zx_gfA zd120_105 ?k82 ?r82 ?_); (case k82 => first | exact zkk rfl (by omega) | exact zkk (zK_B0 (by omega)) (by omega) | exact zkk ((zK_B (by omega) (by decide)).trans rfl) (by omega) | exact zkk (zK_row (by omega) (by omega)) (by omega) | exact zkk (zK_file (by omega) (by omega)) (by omega) | exact zkk (zK_byte (by omega) (by omega)) (by omega) | exact zkk (zK_list (by omega)) (by omega) | assumption); (case r82 => first | exact hR.1 _ _ _ rfl | assumption)
          refine zx_il3 zd120_108 ?_
          (with_reducible refine' zx_ialdN zd120_109 ?k84 ?j84 ?_); (case k84 => first | exact zkk rfl (by omega) | exact zkk (zK_B0 (by omega)) (by omega) | exact zkk ((zK_B (by omega) (by decide)).trans rfl) (by omega) | exact zkk (zK_row (by omega) (by omega)) (by omega) | exact zkk (zK_file (by omega) (by omega)) (by omega) | exact zkk (zK_byte (by omega) (by omega)) (by omega) | exact zkk (zK_list (by omega)) (by omega) | assumption); (case j84 => omega)
          rw [hl]
          first | ((with_reducible refine zx_icmpgeN zd120_110 ?s85 (fun h4 => ?_) (fun h4 => ?_)); (case s85 => omega)) | refine zx_icmpge zd120_110 (fun h4 => ?_) (fun h4 => ?_)
          · refine zx_il6 zd120_159 ?_
            first | ((with_reducible refine zx_ifeqN zd120_161 ?s87 (fun h5 => ?_) (fun h5 => ?_)); (case s87 => omega)) | refine zx_ifeq zd120_161 (fun h5 => ?_) (fun h5 => ?_)
            · refine zx_c zd120_168 ?_
              refine zx_iret zd120_169 (Or.inl rfl) ?_
              exact ⟨rfl, rfl⟩
            · omega
          · refine zx_il6 zd120_113 ?_
            first | ((with_reducible refine zx_ifeqN zd120_115 ?s91 (fun h5 => ?_) (fun h5 => ?_)); (case s91 => omega)) | refine zx_ifeq zd120_115 (fun h5 => ?_) (fun h5 => ?_)
            · refine zx_il6 zd120_159 ?_
              first | ((with_reducible refine zx_ifeqN zd120_161 ?s93 (fun h6 => ?_) (fun h6 => ?_)); (case s93 => omega)) | refine zx_ifeq zd120_161 (fun h6 => ?_) (fun h6 => ?_)
              · refine zx_c zd120_168 ?_
                refine zx_iret zd120_169 (Or.inl rfl) ?_
                exact ⟨rfl, rfl⟩
              · omega
            · omega
        · have e : zeqn (fun q => I 633 (64 * f + q)) (fun q => I 633 (64 * g + q)) i (k + 1) = zeqn (fun q => I 633 (64 * f + q)) (fun q => I 633 (64 * g + q)) (i + 1) k := if_pos h3
          rw [e]
          refine zx_c zd120_146 ?_
          refine zx_goto zd120_147 ?_
          refine zx_is6 zd120_151 rfl ?_
          first | with_reducible refine zx_iin7 zd120_153 ?_ | refine zx_ii7 zd120_153 ?_
          refine zx_goto zd120_156 ?_
          exact ih (i + 1) (by omega)
/-- changed's answer behind the first release -/
def zmch (I : zI) (r r1 j l n2 : Nat) (ln : Nat → Nat) : Int32 := match zfnd (fun k => decide (I 631 (8 * r + k) = I 631 (8 * r1 + j))) 0 n2 with
  | none => Int32.ofNat 2
  | some q => if (decide (l = ln q) && zeqn (fun k => I 633 (64 * (8 * r1 + j) + k)) (fun k => I 633 (64 * (8 * r + q) + k)) 0 l) = true then Int32.ofNat 0 else Int32.ofNat 1
theorem zm_ch (hR : zRs R) (hN : 646 ≤ N) (hc : I 623 8 = Int32.ofNat c) (hc10 : c ≤ 10) {r r1 m j l n2 : Nat} {ln : Nat → Nat} (hr : r1 < c) (hr1 : r1 = r + 1) (hm : I 630 r1 = Int32.ofNat m) (hm8 : m ≤ 8) (hj : j < m) (hn2 : I 630 r = Int32.ofNat n2) (hn28 : n2 ≤ 8) (hl : I 632 (8 * r1 + j) = Int32.ofNat l) (hl6 : l ≤ 64) (hln : ∀ q, q < n2 → I 632 (8 * r + q) = Int32.ofNat (ln q) ∧ ln q ≤ 64) :
    zRet L 120 [.ref 623, .int (Int32.ofNat r1), .int (Int32.ofNat j)] (N, U, I, J, R) (some (.int (zmch I r r1 j l n2 ln))) (N, U, zT I 0, J, R) := by
  show zW L 120 0 [some (.ref 623), some (.int (Int32.ofNat r1)), some (.int (Int32.ofNat j)), none, none, none, none, none] [] _ _
  refine zx_al0 zd120_0 ?_
  refine zx_al0 zd120_1 ?_
  refine zx_il1 zd120_2 ?_
  refine zx_il2 zd120_3 ?_
  (refine zx_cv2I zd120_4 ?k105 (zm_il hR hN hc hc10 hr hm hm8 hj) ?_); (case k105 => first | exact zkk rfl (by omega) | exact zkk (zK_B0 (by omega)) (by omega) | exact zkk ((zK_B (by omega) (by decide)).trans rfl) (by omega) | exact zkk (zK_row (by omega) (by omega)) (by omega) | exact zkk (zK_file (by omega) (by omega)) (by omega) | exact zkk (zK_byte (by omega) (by omega)) (by omega) | exact zkk (zK_list (by omega)) (by omega) | assumption)
  first | ((with_reducible refine zx_ifeqN zd120_7 ?s106 (fun h => ?_) (fun h => ?_)); (case s106 => omega)) | refine zx_ifeq zd120_7 (fun h => ?_) (fun h => ?_)
  · omega
  · refine zx_c zd120_10 ?_
    refine zx_goto zd120_11 ?_
    (refine zx_pfI zd120_15 ?k109 ?a109 ?_); (case k109 => first | exact zkk rfl (by omega) | exact zkk (zK_B0 (by omega)) (by omega) | exact zkk ((zK_B (by omega) (by decide)).trans rfl) (by omega) | exact zkk (zK_row (by omega) (by omega)) (by omega) | exact zkk (zK_file (by omega) (by omega)) (by omega) | exact zkk (zK_byte (by omega) (by omega)) (by omega) | exact zkk (zK_list (by omega)) (by omega) | assumption); (case a109 => omega)
    refine zx_al0 zd120_18 ?_
    (refine zx_gfI zd120_19 ?k111 ?_); (case k111 => first | exact zkk rfl (by omega) | exact zkk (zK_B0 (by omega)) (by omega) | exact zkk ((zK_B (by omega) (by decide)).trans rfl) (by omega) | exact zkk (zK_row (by omega) (by omega)) (by omega) | exact zkk (zK_file (by omega) (by omega)) (by omega) | exact zkk (zK_byte (by omega) (by omega)) (by omega) | exact zkk (zK_list (by omega)) (by omega) | assumption)
    rw [show zu I 623 0 (Int32.ofNat 0) 623 0 = Int32.ofNat 0 from rfl]
    first | ((with_reducible refine zx_ifeqN zd120_22 ?s112 (fun h2 => ?_) (fun h2 => ?_)); (case s112 => omega)) | refine zx_ifeq zd120_22 (fun h2 => ?_) (fun h2 => ?_)
    · refine zx_c zd120_27 ?_
      refine zx_il1 zd120_29 ?_
      first | with_reducible refine zx_mulN zd120_30 ?_ | refine zx_mul zd120_30 ?_
      refine zx_il2 zd120_31 ?_
      first | with_reducible refine zx_addN zd120_32 ?_ | refine zx_add zd120_32 ?_
      refine zx_is3 zd120_33 rfl ?_
      refine zx_il1 zd120_34 ?_
      first | ((with_reducible refine zx_ifneN zd120_35 ?s120 (fun h3 => ?_) (fun h3 => ?_)); (case s120 => omega)) | refine zx_ifne zd120_35 (fun h3 => ?_) (fun h3 => ?_)
      · refine zx_al0 zd120_42 ?_
        refine zx_il1 zd120_43 ?_
        refine zx_c zd120_44 ?_
        first | ((with_reducible refine zx_subN zd120_45 ?h124 ?_); (case h124 => omega)) | refine zx_sub zd120_45 ?_
        rw [show r1 - 1 = r by omega]
        refine zx_al0 zd120_46 ?_
        (refine' zx_gfA zd120_47 ?k126 ?r126 ?_); (case k126 => first | exact zkk rfl (by omega) | exact zkk (zK_B0 (by omega)) (by omega) | exact zkk ((zK_B (by omega) (by decide)).trans rfl) (by omega) | exact zkk (zK_row (by omega) (by omega)) (by omega) | exact zkk (zK_file (by omega) (by omega)) (by omega) | exact zkk (zK_byte (by omega) (by omega)) (by omega) | exact zkk (zK_list (by omega)) (by omega) | assumption); (case r126 => first | exact hR.1 _ _ _ rfl | assumption)
        refine zx_il3 zd120_50 ?_
        (with_reducible refine' zx_ialdN zd120_51 ?k128 ?j128 ?_); (case k128 => first | exact zkk rfl (by omega) | exact zkk (zK_B0 (by omega)) (by omega) | exact zkk ((zK_B (by omega) (by decide)).trans rfl) (by omega) | exact zkk (zK_row (by omega) (by omega)) (by omega) | exact zkk (zK_file (by omega) (by omega)) (by omega) | exact zkk (zK_byte (by omega) (by omega)) (by omega) | exact zkk (zK_list (by omega)) (by omega) | assumption); (case j128 => omega)
        rw [show zu I 623 0 (Int32.ofNat 0) 631 (8 * r1 + j) = I 631 (8 * r1 + j) from rfl]
        (refine zx_cv2I zd120_52 ?k129 (zm_fw hR hN (show r < 11 by omega) (show zu I 623 0 (Int32.ofNat 0) 630 r = Int32.ofNat n2 from hn2) hn28 _) ?_); (case k129 => first | exact zkk rfl (by omega) | exact zkk (zK_B0 (by omega)) (by omega) | exact zkk ((zK_B (by omega) (by decide)).trans rfl) (by omega) | exact zkk (zK_row (by omega) (by omega)) (by omega) | exact zkk (zK_file (by omega) (by omega)) (by omega) | exact zkk (zK_byte (by omega) (by omega)) (by omega) | exact zkk (zK_list (by omega)) (by omega) | assumption)
        refine zx_is4 zd120_55 rfl ?_
        refine zx_il4 zd120_57 ?_
        refine zx_c zd120_59 ?_
        have e1 : zfnd (fun k => decide (zu I 623 0 (Int32.ofNat 0) 631 (8 * r + k) = I 631 (8 * r1 + j))) 0 n2 = zfnd (fun k => decide (I 631 (8 * r + k) = I 631 (8 * r1 + j))) 0 n2 := rfl
        rw [e1]
        unfold zmch
        cases hz : zfnd (fun k => decide (I 631 (8 * r + k) = I 631 (8 * r1 + j))) 0 n2 with
        | none =>
          refine zx_icmpne zd120_60 (fun h5 => absurd rfl h5) (fun h5 => ?_)
          refine zx_c zd120_63 ?_
          refine zx_iret zd120_64 (Or.inl rfl) ?_
          exact ⟨rfl, rfl⟩
        | some q =>
          have hq := zfnd_lt hz
          have hlq := hln q (by omega)
          refine zx_icmpne zd120_60 (fun h5 => ?_) (fun h5 => absurd h5 (zfi_ne (by simp) (fun j hj => by cases hj; omega)))
          show zW L 120 65 [some (.ref 623), some (.int (Int32.ofNat r1)), some (.int (Int32.ofNat j)), some (.int (Int32.ofNat (8 * r1 + j))), some (.int (Int32.ofNat q)), none, none, none] [] _ _
          refine zx_c zd120_65 ?_
          refine zx_il1 zd120_67 ?_
          refine zx_c zd120_68 ?_
          first | ((with_reducible refine zx_subN zd120_69 ?h138 ?_); (case h138 => omega)) | refine zx_sub zd120_69 ?_
          rw [show r1 - 1 = r by omega]
          first | with_reducible refine zx_mulN zd120_70 ?_ | refine zx_mul zd120_70 ?_
          refine zx_il4 zd120_71 ?_
          first | with_reducible refine zx_addN zd120_73 ?_ | refine zx_add zd120_73 ?_
          refine zx_is5 zd120_74 rfl ?_
          refine zx_al0 zd120_76 ?_
          (refine' zx_gfA zd120_77 ?k144 ?r144 ?_); (case k144 => first | exact zkk rfl (by omega) | exact zkk (zK_B0 (by omega)) (by omega) | exact zkk ((zK_B (by omega) (by decide)).trans rfl) (by omega) | exact zkk (zK_row (by omega) (by omega)) (by omega) | exact zkk (zK_file (by omega) (by omega)) (by omega) | exact zkk (zK_byte (by omega) (by omega)) (by omega) | exact zkk (zK_list (by omega)) (by omega) | assumption); (case r144 => first | exact hR.1 _ _ _ rfl | assumption)
          refine zx_il3 zd120_80 ?_
          (with_reducible refine' zx_ialdN zd120_81 ?k146 ?j146 ?_); (case k146 => first | exact zkk rfl (by omega) | exact zkk (zK_B0 (by omega)) (by omega) | exact zkk ((zK_B (by omega) (by decide)).trans rfl) (by omega) | exact zkk (zK_row (by omega) (by omega)) (by omega) | exact zkk (zK_file (by omega) (by omega)) (by omega) | exact zkk (zK_byte (by omega) (by omega)) (by omega) | exact zkk (zK_list (by omega)) (by omega) | assumption); (case j146 => omega)
          refine zx_al0 zd120_82 ?_
          (refine' zx_gfA zd120_83 ?k148 ?r148 ?_); (case k148 => first | exact zkk rfl (by omega) | exact zkk (zK_B0 (by omega)) (by omega) | exact zkk ((zK_B (by omega) (by decide)).trans rfl) (by omega) | exact zkk (zK_row (by omega) (by omega)) (by omega) | exact zkk (zK_file (by omega) (by omega)) (by omega) | exact zkk (zK_byte (by omega) (by omega)) (by omega) | exact zkk (zK_list (by omega)) (by omega) | assumption); (case r148 => first | exact hR.1 _ _ _ rfl | assumption)
          refine zx_il5 zd120_86 ?_
          (with_reducible refine' zx_ialdN zd120_88 ?k150 ?j150 ?_); (case k150 => first | exact zkk rfl (by omega) | exact zkk (zK_B0 (by omega)) (by omega) | exact zkk ((zK_B (by omega) (by decide)).trans rfl) (by omega) | exact zkk (zK_row (by omega) (by omega)) (by omega) | exact zkk (zK_file (by omega) (by omega)) (by omega) | exact zkk (zK_byte (by omega) (by omega)) (by omega) | exact zkk (zK_list (by omega)) (by omega) | assumption); (case j150 => omega)
          rw [show zu I 623 0 (Int32.ofNat 0) 632 (8 * r1 + j) = I 632 (8 * r1 + j) from rfl, show zu I 623 0 (Int32.ofNat 0) 632 (8 * r + q) = I 632 (8 * r + q) from rfl, hl, hlq.1]
          have h64 := hlq.2
          dsimp only
          first | ((with_reducible refine zx_icmpneN zd120_89 ?s151 (fun h6 => ?_) (fun h6 => ?_)); (case s151 => omega)) | refine zx_icmpne zd120_89 (fun h6 => ?_) (fun h6 => ?_)
          · rw [decide_eq_false h6]
            refine zx_c zd120_96 ?_
            refine zx_is6 zd120_97 rfl ?_
            refine zx_c zd120_99 ?_
            refine zx_is7 zd120_100 rfl ?_
            refine zx_il7 zd120_102 ?_
            refine zx_al0 zd120_104 ?_
            (refine' zx_gfA zd120_105 ?k158 ?r158 ?_); (case k158 => first | exact zkk rfl (by omega) | exact zkk (zK_B0 (by omega)) (by omega) | exact zkk ((zK_B (by omega) (by decide)).trans rfl) (by omega) | exact zkk (zK_row (by omega) (by omega)) (by omega) | exact zkk (zK_file (by omega) (by omega)) (by omega) | exact zkk (zK_byte (by omega) (by omega)) (by omega) | exact zkk (zK_list (by omega)) (by omega) | assumption); (case r158 => first | exact hR.1 _ _ _ rfl | assumption)
            refine zx_il3 zd120_108 ?_
            (with_reducible refine' zx_ialdN zd120_109 ?k160 ?j160 ?_); (case k160 => first | exact zkk rfl (by omega) | exact zkk (zK_B0 (by omega)) (by omega) | exact zkk ((zK_B (by omega) (by decide)).trans rfl) (by omega) | exact zkk (zK_row (by omega) (by omega)) (by omega) | exact zkk (zK_file (by omega) (by omega)) (by omega) | exact zkk (zK_byte (by omega) (by omega)) (by omega) | exact zkk (zK_list (by omega)) (by omega) | assumption); (case j160 => omega)
            rw [show zu I 623 0 (Int32.ofNat 0) 632 (8 * r1 + j) = I 632 (8 * r1 + j) from rfl, hl]
            first | ((with_reducible refine zx_icmpgeN zd120_110 ?s161 (fun h7 => ?_) (fun h7 => ?_)); (case s161 => omega)) | refine zx_icmpge zd120_110 (fun h7 => ?_) (fun h7 => ?_)
            · refine zx_il6 zd120_159 ?_
              first | ((with_reducible refine zx_ifeqN zd120_161 ?s163 (fun h8 => ?_) (fun h8 => ?_)); (case s163 => omega)) | refine zx_ifeq zd120_161 (fun h8 => ?_) (fun h8 => ?_)
              · refine zx_c zd120_168 ?_
                refine zx_iret zd120_169 (Or.inl rfl) ?_
                exact ⟨rfl, rfl⟩
              · omega
            · refine zx_il6 zd120_113 ?_
              first | ((with_reducible refine zx_ifeqN zd120_115 ?s167 (fun h8 => ?_) (fun h8 => ?_)); (case s167 => omega)) | refine zx_ifeq zd120_115 (fun h8 => ?_) (fun h8 => ?_)
              · refine zx_il6 zd120_159 ?_
                first | ((with_reducible refine zx_ifeqN zd120_161 ?s169 (fun h9 => ?_) (fun h9 => ?_)); (case s169 => omega)) | refine zx_ifeq zd120_161 (fun h9 => ?_) (fun h9 => ?_)
                · refine zx_c zd120_168 ?_
                  refine zx_iret zd120_169 (Or.inl rfl) ?_
                  exact ⟨rfl, rfl⟩
                · omega
              · omega
          · rw [decide_eq_true h6, Bool.true_and]
            refine zx_c zd120_92 ?_
            refine zx_goto zd120_93 ?_
            refine zx_is6 zd120_97 rfl ?_
            refine zx_c zd120_99 ?_
            refine zx_is7 zd120_100 rfl ?_
            exact zm_chl (I := zT I 0) hR hN (by omega) (by omega) hl hl6 l 0 (by omega)
      · omega
    · omega
/-! holds -/
theorem zm_ho1 (hR : zRs R) (hN : 646 ≤ N) {I0 : zI} {m0 : List Int32} (hm0 : m0.length = 3) {n : Nat} (hn : n ≤ 64)
    (kk : ∀ (I' : zI) (l2 : Option Value), zMg (m0 ++ zrw0 (I0 637) 4 n) I' → zF2 I0 I' → zW L 111 120 [some (.ref 623), some (.int (Int32.ofNat n)), l2, none, none] [] (N, U, I', J, R) Q) :
    ∀ (q i : Nat) (I' : zI), i + q = n → zMg (m0 ++ zrw0 (I0 637) 4 i) I' → zF2 I0 I' → zW L 111 97 [some (.ref 623), some (.int (Int32.ofNat n)), some (.int (Int32.ofNat i)), none, none] [] (N, U, I', J, R) Q := by
  intro q
  induction q with
  | zero =>
    intro i I' hi hm hf
    obtain rfl : i = n := by omega
    refine zx_il2 zd111_97 ?_
    refine zx_il1 zd111_98 ?_
    first | ((with_reducible refine zx_icmpgeN zd111_99 ?s179 (fun h => ?_) (fun h => ?_)); (case s179 => omega)) | refine zx_icmpge zd111_99 (fun h => ?_) (fun h => ?_)
    · exact kk I' _ hm hf
    · omega
  | succ q ih =>
    intro i I' hi hm hf
    refine zx_il2 zd111_97 ?_
    refine zx_il1 zd111_98 ?_
    first | ((with_reducible refine zx_icmpgeN zd111_99 ?s182 (fun h => ?_) (fun h => ?_)); (case s182 => omega)) | refine zx_icmpge zd111_99 (fun h => ?_) (fun h => ?_)
    · omega
    · refine zx_al0 zd111_102 ?_
      refine zx_al0 zd111_103 ?_
      (refine' zx_gfA zd111_104 ?k185 ?r185 ?_); (case k185 => first | exact zkk rfl (by omega) | exact zkk (zK_B0 (by omega)) (by omega) | exact zkk ((zK_B (by omega) (by decide)).trans rfl) (by omega) | exact zkk (zK_row (by omega) (by omega)) (by omega) | exact zkk (zK_file (by omega) (by omega)) (by omega) | exact zkk (zK_byte (by omega) (by omega)) (by omega) | exact zkk (zK_list (by omega)) (by omega) | assumption); (case r185 => first | exact hR.1 _ _ _ rfl | assumption)
      refine zx_c zd111_107 ?_
      refine zx_il2 zd111_108 ?_
      first | with_reducible refine zx_addN zd111_109 ?_ | refine zx_add zd111_109 ?_
      (with_reducible refine' zx_ialdN zd111_110 ?k189 ?j189 ?_); (case k189 => first | exact zkk rfl (by omega) | exact zkk (zK_B0 (by omega)) (by omega) | exact zkk ((zK_B (by omega) (by decide)).trans rfl) (by omega) | exact zkk (zK_row (by omega) (by omega)) (by omega) | exact zkk (zK_file (by omega) (by omega)) (by omega) | exact zkk (zK_byte (by omega) (by omega)) (by omega) | exact zkk (zK_list (by omega)) (by omega) | assumption); (case j189 => omega)
      obtain ⟨I2, hr, hm2, hf2⟩ := zs_mput2 (L := L) (U := U) (J := J) hR hN hm (by rw [List.length_append, zrw0_len]; omega) (I' 637 (4 + i))
      (refine zx_cv1V zd111_111 ?k190 (hr) ?_); (case k190 => first | exact zkk rfl (by omega) | exact zkk (zK_B0 (by omega)) (by omega) | exact zkk ((zK_B (by omega) (by decide)).trans rfl) (by omega) | exact zkk (zK_row (by omega) (by omega)) (by omega) | exact zkk (zK_file (by omega) (by omega)) (by omega) | exact zkk (zK_byte (by omega) (by omega)) (by omega) | exact zkk (zK_list (by omega)) (by omega) | assumption)
      first | with_reducible refine zx_iin2 zd111_114 ?_ | refine zx_ii2 zd111_114 ?_
      refine zx_goto zd111_117 ?_
      refine ih (i + 1) I2 (by omega) ?_ (hf.trans hf2)
      rw [zrw0_succ, ← List.append_assoc]
      rw [hf.1 637 (by decide) (by decide)] at hm2
      exact hm2
theorem zm_ho2 (hR : zRs R) (hN : 646 ≤ N) {l1 l3 l4 : Option Value}
    (kk : ∀ l2 : Option Value, zW L 111 150 [some (.ref 623), l1, l2, l3, l4] [] (N, U, zrw I 636 (zfill (I 636) 0 32 (I 629)), J, R) Q) :
    ∀ (q i : Nat), i + q = 32 → zW L 111 126 [some (.ref 623), l1, some (.int (Int32.ofNat i)), l3, l4] [] (N, U, zrw I 636 (zfill (I 636) 0 i (I 629)), J, R) Q := by
  intro q
  induction q with
  | zero =>
    intro i hi
    obtain rfl : i = 32 := by omega
    refine zx_il2 zd111_126 ?_
    refine zx_c zd111_127 ?_
    first | ((with_reducible refine zx_icmpgeN zd111_129 ?s195 (fun h => ?_) (fun h => ?_)); (case s195 => omega)) | refine zx_icmpge zd111_129 (fun h => ?_) (fun h => ?_)
    · exact kk _
    · omega
  | succ q ih =>
    intro i hi
    refine zx_il2 zd111_126 ?_
    refine zx_c zd111_127 ?_
    first | ((with_reducible refine zx_icmpgeN zd111_129 ?s198 (fun h => ?_) (fun h => ?_)); (case s198 => omega)) | refine zx_icmpge zd111_129 (fun h => ?_) (fun h => ?_)
    · omega
    · refine zx_al0 zd111_132 ?_
      (refine' zx_gfA zd111_133 ?k200 ?r200 ?_); (case k200 => first | exact zkk rfl (by omega) | exact zkk (zK_B0 (by omega)) (by omega) | exact zkk ((zK_B (by omega) (by decide)).trans rfl) (by omega) | exact zkk (zK_row (by omega) (by omega)) (by omega) | exact zkk (zK_file (by omega) (by omega)) (by omega) | exact zkk (zK_byte (by omega) (by omega)) (by omega) | exact zkk (zK_list (by omega)) (by omega) | assumption); (case r200 => first | exact hR.1 _ _ _ rfl | assumption)
      refine zx_il2 zd111_136 ?_
      refine zx_al0 zd111_137 ?_
      (refine' zx_gfA zd111_138 ?k203 ?r203 ?_); (case k203 => first | exact zkk rfl (by omega) | exact zkk (zK_B0 (by omega)) (by omega) | exact zkk ((zK_B (by omega) (by decide)).trans rfl) (by omega) | exact zkk (zK_row (by omega) (by omega)) (by omega) | exact zkk (zK_file (by omega) (by omega)) (by omega) | exact zkk (zK_byte (by omega) (by omega)) (by omega) | exact zkk (zK_list (by omega)) (by omega) | assumption); (case r203 => first | exact hR.1 _ _ _ rfl | assumption)
      refine zx_il2 zd111_141 ?_
      (with_reducible refine' zx_ialdN zd111_142 ?k205 ?j205 ?_); (case k205 => first | exact zkk rfl (by omega) | exact zkk (zK_B0 (by omega)) (by omega) | exact zkk ((zK_B (by omega) (by decide)).trans rfl) (by omega) | exact zkk (zK_row (by omega) (by omega)) (by omega) | exact zkk (zK_file (by omega) (by omega)) (by omega) | exact zkk (zK_byte (by omega) (by omega)) (by omega) | exact zkk (zK_list (by omega)) (by omega) | assumption); (case j205 => omega)
      (with_reducible refine' zx_iastN zd111_143 ?k206 ?j206 ?a206 ?_); (case k206 => first | exact zkk rfl (by omega) | exact zkk (zK_B0 (by omega)) (by omega) | exact zkk ((zK_B (by omega) (by decide)).trans rfl) (by omega) | exact zkk (zK_row (by omega) (by omega)) (by omega) | exact zkk (zK_file (by omega) (by omega)) (by omega) | exact zkk (zK_byte (by omega) (by omega)) (by omega) | exact zkk (zK_list (by omega)) (by omega) | assumption); (case j206 => omega); (case a206 => omega)
      first | with_reducible refine zx_iin2 zd111_144 ?_ | refine zx_ii2 zd111_144 ?_
      refine zx_goto zd111_147 ?_
      have e := zfill_succ (I 636) 0 i (I 629)
      rw [Nat.zero_add] at e
      have k1 := ih (i + 1) (by omega)
      rw [← e] at k1
      rw [zu_rw, zrw_rw, zrw_at, zrw_ne _ _ (show 629 ≠ 636 by decide)]
      exact k1
theorem zm_ho3 (hR : zRs R) (hN : 646 ≤ N) {l1 l2 l3 : Option Value}
    (kk : ∀ l4 : Option Value, zW L 111 272 [some (.ref 623), l1, l2, l3, l4] [] (N, U, zrw I 636 (zfill (I 636) 0 32 (I 629)), J, R) Q) :
    ∀ (q i : Nat), i + q = 32 → zW L 111 245 [some (.ref 623), l1, l2, l3, some (.int (Int32.ofNat i))] [] (N, U, zrw I 636 (zfill (I 636) 0 i (I 629)), J, R) Q := by
  intro q
  induction q with
  | zero =>
    intro i hi
    obtain rfl : i = 32 := by omega
    refine zx_il4 zd111_245 ?_
    refine zx_c zd111_247 ?_
    first | ((with_reducible refine zx_icmpgeN zd111_249 ?s211 (fun h => ?_) (fun h => ?_)); (case s211 => omega)) | refine zx_icmpge zd111_249 (fun h => ?_) (fun h => ?_)
    · exact kk _
    · omega
  | succ q ih =>
    intro i hi
    refine zx_il4 zd111_245 ?_
    refine zx_c zd111_247 ?_
    first | ((with_reducible refine zx_icmpgeN zd111_249 ?s214 (fun h => ?_) (fun h => ?_)); (case s214 => omega)) | refine zx_icmpge zd111_249 (fun h => ?_) (fun h => ?_)
    · omega
    · refine zx_al0 zd111_252 ?_
      (refine' zx_gfA zd111_253 ?k216 ?r216 ?_); (case k216 => first | exact zkk rfl (by omega) | exact zkk (zK_B0 (by omega)) (by omega) | exact zkk ((zK_B (by omega) (by decide)).trans rfl) (by omega) | exact zkk (zK_row (by omega) (by omega)) (by omega) | exact zkk (zK_file (by omega) (by omega)) (by omega) | exact zkk (zK_byte (by omega) (by omega)) (by omega) | exact zkk (zK_list (by omega)) (by omega) | assumption); (case r216 => first | exact hR.1 _ _ _ rfl | assumption)
      refine zx_il4 zd111_256 ?_
      refine zx_al0 zd111_258 ?_
      (refine' zx_gfA zd111_259 ?k219 ?r219 ?_); (case k219 => first | exact zkk rfl (by omega) | exact zkk (zK_B0 (by omega)) (by omega) | exact zkk ((zK_B (by omega) (by decide)).trans rfl) (by omega) | exact zkk (zK_row (by omega) (by omega)) (by omega) | exact zkk (zK_file (by omega) (by omega)) (by omega) | exact zkk (zK_byte (by omega) (by omega)) (by omega) | exact zkk (zK_list (by omega)) (by omega) | assumption); (case r219 => first | exact hR.1 _ _ _ rfl | assumption)
      refine zx_il4 zd111_262 ?_
      (with_reducible refine' zx_ialdN zd111_264 ?k221 ?j221 ?_); (case k221 => first | exact zkk rfl (by omega) | exact zkk (zK_B0 (by omega)) (by omega) | exact zkk ((zK_B (by omega) (by decide)).trans rfl) (by omega) | exact zkk (zK_row (by omega) (by omega)) (by omega) | exact zkk (zK_file (by omega) (by omega)) (by omega) | exact zkk (zK_byte (by omega) (by omega)) (by omega) | exact zkk (zK_list (by omega)) (by omega) | assumption); (case j221 => omega)
      (with_reducible refine' zx_iastN zd111_265 ?k222 ?j222 ?a222 ?_); (case k222 => first | exact zkk rfl (by omega) | exact zkk (zK_B0 (by omega)) (by omega) | exact zkk ((zK_B (by omega) (by decide)).trans rfl) (by omega) | exact zkk (zK_row (by omega) (by omega)) (by omega) | exact zkk (zK_file (by omega) (by omega)) (by omega) | exact zkk (zK_byte (by omega) (by omega)) (by omega) | exact zkk (zK_list (by omega)) (by omega) | assumption); (case j222 => omega); (case a222 => omega)
      first | with_reducible refine zx_iin4 zd111_266 ?_ | refine zx_ii4 zd111_266 ?_
      refine zx_goto zd111_269 ?_
      have e := zfill_succ (I 636) 0 i (I 629)
      rw [Nat.zero_add] at e
      have k1 := ih (i + 1) (by omega)
      rw [← e] at k1
      rw [zu_rw, zrw_rw, zrw_at, zrw_ne _ _ (show 629 ≠ 636 by decide)]
      exact k1
/-- the last comparison: v is what is good so far -/
theorem zm_ho5 (hR : zRs R) (hN : 646 ≤ N) {b0 : Nat} (hb0 : I 637 0 = Int32.ofNat b0) (hb10 : b0 < 10) {l1 l4 : Option Value} : ∀ (k i : Nat) (v : Bool), i + k = 32 →
    zW L 111 280 [some (.ref 623), l1, some (.int (zbi v)), some (.int (Int32.ofNat i)), l4] [] (N, U, I, J, R) (fun o h => o = .inl (some (.int (zbi (v && zeqn (I 636) (fun q => I 635 (32 * b0 + q)) i k)))) ∧ h = (N, U, I, J, R)) := by
  intro k
  induction k with
  | zero =>
    intro i v hi
    refine zx_il3 zd111_280 ?_
    refine zx_c zd111_281 ?_
    first | ((with_reducible refine zx_icmpgeN zd111_283 ?s227 (fun h => ?_) (fun h => ?_)); (case s227 => omega)) | refine zx_icmpge zd111_283 (fun h => ?_) (fun h => ?_)
    · refine zx_il2 zd111_327 ?_
      refine zx_iret zd111_328 (Or.inr ⟨rfl, by exact zbi_01 _⟩) ?_
      refine ⟨?_, rfl⟩
      rw [show zeqn (I 636) (fun q => I 635 (32 * b0 + q)) i 0 = true from rfl, Bool.and_true]
    · omega
  | succ k ih =>
    intro i v hi
    refine zx_il3 zd111_280 ?_
    refine zx_c zd111_281 ?_
    first | ((with_reducible refine zx_icmpgeN zd111_283 ?s232 (fun h => ?_) (fun h => ?_)); (case s232 => omega)) | refine zx_icmpge zd111_283 (fun h => ?_) (fun h => ?_)
    · omega
    · refine zx_il2 zd111_286 ?_
      cases v with
      | false =>
        show zW L 111 287 _ [.int (Int32.ofNat 0)] _ _
        first | ((with_reducible refine zx_ifeqN zd111_287 ?s234 (fun h2 => ?_) (fun h2 => ?_)); (case s234 => omega)) | refine zx_ifeq zd111_287 (fun h2 => ?_) (fun h2 => ?_)
        · refine zx_c zd111_319 ?_
          refine zx_is2 zd111_320 rfl ?_
          first | with_reducible refine zx_iin3 zd111_321 ?_ | refine zx_ii3 zd111_321 ?_
          refine zx_goto zd111_324 ?_
          exact ih (i + 1) false (by omega)
        · omega
      | true =>
        show zW L 111 287 _ [.int (Int32.ofNat 1)] _ _
        first | ((with_reducible refine zx_ifeqN zd111_287 ?s239 (fun h2 => ?_) (fun h2 => ?_)); (case s239 => omega)) | refine zx_ifeq zd111_287 (fun h2 => ?_) (fun h2 => ?_)
        · omega
        · refine zx_al0 zd111_290 ?_
          (refine' zx_gfA zd111_291 ?k241 ?r241 ?_); (case k241 => first | exact zkk rfl (by omega) | exact zkk (zK_B0 (by omega)) (by omega) | exact zkk ((zK_B (by omega) (by decide)).trans rfl) (by omega) | exact zkk (zK_row (by omega) (by omega)) (by omega) | exact zkk (zK_file (by omega) (by omega)) (by omega) | exact zkk (zK_byte (by omega) (by omega)) (by omega) | exact zkk (zK_list (by omega)) (by omega) | assumption); (case r241 => first | exact hR.1 _ _ _ rfl | assumption)
          refine zx_il3 zd111_294 ?_
          (with_reducible refine' zx_ialdN zd111_295 ?k243 ?j243 ?_); (case k243 => first | exact zkk rfl (by omega) | exact zkk (zK_B0 (by omega)) (by omega) | exact zkk ((zK_B (by omega) (by decide)).trans rfl) (by omega) | exact zkk (zK_row (by omega) (by omega)) (by omega) | exact zkk (zK_file (by omega) (by omega)) (by omega) | exact zkk (zK_byte (by omega) (by omega)) (by omega) | exact zkk (zK_list (by omega)) (by omega) | assumption); (case j243 => omega)
          refine zx_al0 zd111_296 ?_
          (refine' zx_gfA zd111_297 ?k245 ?r245 ?_); (case k245 => first | exact zkk rfl (by omega) | exact zkk (zK_B0 (by omega)) (by omega) | exact zkk ((zK_B (by omega) (by decide)).trans rfl) (by omega) | exact zkk (zK_row (by omega) (by omega)) (by omega) | exact zkk (zK_file (by omega) (by omega)) (by omega) | exact zkk (zK_byte (by omega) (by omega)) (by omega) | exact zkk (zK_list (by omega)) (by omega) | assumption); (case r245 => first | exact hR.1 _ _ _ rfl | assumption)
          refine zx_c zd111_300 ?_
          refine zx_al0 zd111_302 ?_
          (refine' zx_gfA zd111_303 ?k248 ?r248 ?_); (case k248 => first | exact zkk rfl (by omega) | exact zkk (zK_B0 (by omega)) (by omega) | exact zkk ((zK_B (by omega) (by decide)).trans rfl) (by omega) | exact zkk (zK_row (by omega) (by omega)) (by omega) | exact zkk (zK_file (by omega) (by omega)) (by omega) | exact zkk (zK_byte (by omega) (by omega)) (by omega) | exact zkk (zK_list (by omega)) (by omega) | assumption); (case r248 => first | exact hR.1 _ _ _ rfl | assumption)
          refine zx_c zd111_306 ?_
          (with_reducible refine' zx_ialdN zd111_307 ?k250 ?j250 ?_); (case k250 => first | exact zkk rfl (by omega) | exact zkk (zK_B0 (by omega)) (by omega) | exact zkk ((zK_B (by omega) (by decide)).trans rfl) (by omega) | exact zkk (zK_row (by omega) (by omega)) (by omega) | exact zkk (zK_file (by omega) (by omega)) (by omega) | exact zkk (zK_byte (by omega) (by omega)) (by omega) | exact zkk (zK_list (by omega)) (by omega) | assumption); (case j250 => omega)
          rw [hb0]
          first | with_reducible refine zx_mulN zd111_308 ?_ | refine zx_mul zd111_308 ?_
          refine zx_il3 zd111_309 ?_
          first | with_reducible refine zx_addN zd111_310 ?_ | refine zx_add zd111_310 ?_
          (with_reducible refine' zx_ialdN zd111_311 ?k254 ?j254 ?_); (case k254 => first | exact zkk rfl (by omega) | exact zkk (zK_B0 (by omega)) (by omega) | exact zkk ((zK_B (by omega) (by decide)).trans rfl) (by omega) | exact zkk (zK_row (by omega) (by omega)) (by omega) | exact zkk (zK_file (by omega) (by omega)) (by omega) | exact zkk (zK_byte (by omega) (by omega)) (by omega) | exact zkk (zK_list (by omega)) (by omega) | assumption); (case j254 => omega)
          refine zx_icmpne zd111_312 (fun h3 => ?_) (fun h3 => ?_)
          · have e : zeqn (I 636) (fun q => I 635 (32 * b0 + q)) i (k + 1) = false := if_neg h3
            rw [e]
            refine zx_c zd111_319 ?_
            refine zx_is2 zd111_320 rfl ?_
            first | with_reducible refine zx_iin3 zd111_321 ?_ | refine zx_ii3 zd111_321 ?_
            refine zx_goto zd111_324 ?_
            exact ih (i + 1) false (by omega)
          · have e : zeqn (I 636) (fun q => I 635 (32 * b0 + q)) i (k + 1) = zeqn (I 636) (fun q => I 635 (32 * b0 + q)) (i + 1) k := if_pos h3
            rw [e]
            refine zx_c zd111_315 ?_
            refine zx_goto zd111_316 ?_
            refine zx_is2 zd111_320 rfl ?_
            first | with_reducible refine zx_iin3 zd111_321 ?_ | refine zx_ii3 zd111_321 ?_
            refine zx_goto zd111_324 ?_
            exact ih (i + 1) true (by omega)
end ZM5
