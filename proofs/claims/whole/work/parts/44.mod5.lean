/-! THE REFERENCE: changes; the check -/
section ZM5
variable {L N U : Nat} {I : zI} {J : zJ} {R : zR} {c : Nat} {Q : zOut → zHp → Prop}
theorem zm_chT (hR : zRs R) (hN : 459 ≤ N) {x y : Int32} (h : zRet L 103 [.ref 436, .int x, .int y] (N, U, I, J, R) (some (.int (Int32.ofNat 0))) (N, U, I, J, R)) : zRet L 121 [.ref 436, .int x, .int y] (N, U, I, J, R) (some (.int (Int32.ofNat 0))) (N, U, zT I 1, J, R) := by
  show zW L 121 0 [some (.ref 436), some (.int x), some (.int y), none, none, none, none, none] [] _ _
  refine zx_al0 zd121_0 ?_
  refine zx_al0 zd121_1 ?_
  refine zx_il1 zd121_2 ?_
  refine zx_il2 zd121_3 ?_
  (refine zx_cv2I zd121_4 ?k5 (h) ?_); (case k5 => first | exact zkk rfl (by omega) | exact zkk (zK_B0 (by omega)) (by omega) | exact zkk ((zK_B (by omega) (by decide)).trans rfl) (by omega) | exact zkk (zK_row (by omega) (by omega)) (by omega) | exact zkk (zK_file (by omega) (by omega)) (by omega) | exact zkk (zK_byte (by omega) (by omega)) (by omega) | exact zkk (zK_list (by omega)) (by omega) | assumption)
  first | ((with_reducible refine zx_ifeqN zd121_7 ?s6 (fun h => ?_) (fun h => ?_)); (case s6 => omega)) | refine zx_ifeq zd121_7 (fun h => ?_) (fun h => ?_)
  · refine zx_c zd121_14 ?_
    (refine zx_pfI zd121_15 ?k8 ?a8 ?_); (case k8 => first | exact zkk rfl (by omega) | exact zkk (zK_B0 (by omega)) (by omega) | exact zkk ((zK_B (by omega) (by decide)).trans rfl) (by omega) | exact zkk (zK_row (by omega) (by omega)) (by omega) | exact zkk (zK_file (by omega) (by omega)) (by omega) | exact zkk (zK_byte (by omega) (by omega)) (by omega) | exact zkk (zK_list (by omega)) (by omega) | assumption); (case a8 => omega)
    refine zx_al0 zd121_18 ?_
    (refine zx_gfI zd121_19 ?k10 ?_); (case k10 => first | exact zkk rfl (by omega) | exact zkk (zK_B0 (by omega)) (by omega) | exact zkk ((zK_B (by omega) (by decide)).trans rfl) (by omega) | exact zkk (zK_row (by omega) (by omega)) (by omega) | exact zkk (zK_file (by omega) (by omega)) (by omega) | exact zkk (zK_byte (by omega) (by omega)) (by omega) | exact zkk (zK_list (by omega)) (by omega) | assumption)
    rw [show zu I 436 0 (Int32.ofNat 1) 436 0 = Int32.ofNat 1 from rfl]
    first | ((with_reducible refine zx_ifeqN zd121_22 ?s11 (fun h2 => ?_) (fun h2 => ?_)); (case s11 => omega)) | refine zx_ifeq zd121_22 (fun h2 => ?_) (fun h2 => ?_)
    · omega
    · refine zx_c zd121_25 ?_
      refine zx_iret zd121_26 (Or.inl rfl) ?_
      exact ⟨rfl, rfl⟩
  · omega
theorem zm_ch0 (hR : zRs R) (hN : 459 ≤ N) (hc : I 436 8 = Int32.ofNat c) (hc10 : c ≤ 10) {n j : Nat} (hr : 0 < c) (hn : I 443 0 = Int32.ofNat n) (hn8 : n ≤ 8) (hj : j < n) : zRet L 121 [.ref 436, .int (Int32.ofNat 0), .int (Int32.ofNat j)] (N, U, I, J, R) (some (.int (Int32.ofNat 2))) (N, U, zT I 0, J, R) := by
  show zW L 121 0 [some (.ref 436), some (.int (Int32.ofNat 0)), some (.int (Int32.ofNat j)), none, none, none, none, none] [] _ _
  refine zx_al0 zd121_0 ?_
  refine zx_al0 zd121_1 ?_
  refine zx_il1 zd121_2 ?_
  refine zx_il2 zd121_3 ?_
  (refine zx_cv2I zd121_4 ?k18 (zm_il hR hN hc hc10 hr hn hn8 hj) ?_); (case k18 => first | exact zkk rfl (by omega) | exact zkk (zK_B0 (by omega)) (by omega) | exact zkk ((zK_B (by omega) (by decide)).trans rfl) (by omega) | exact zkk (zK_row (by omega) (by omega)) (by omega) | exact zkk (zK_file (by omega) (by omega)) (by omega) | exact zkk (zK_byte (by omega) (by omega)) (by omega) | exact zkk (zK_list (by omega)) (by omega) | assumption)
  first | ((with_reducible refine zx_ifeqN zd121_7 ?s19 (fun h => ?_) (fun h => ?_)); (case s19 => omega)) | refine zx_ifeq zd121_7 (fun h => ?_) (fun h => ?_)
  · omega
  · refine zx_c zd121_10 ?_
    refine zx_goto zd121_11 ?_
    (refine zx_pfI zd121_15 ?k22 ?a22 ?_); (case k22 => first | exact zkk rfl (by omega) | exact zkk (zK_B0 (by omega)) (by omega) | exact zkk ((zK_B (by omega) (by decide)).trans rfl) (by omega) | exact zkk (zK_row (by omega) (by omega)) (by omega) | exact zkk (zK_file (by omega) (by omega)) (by omega) | exact zkk (zK_byte (by omega) (by omega)) (by omega) | exact zkk (zK_list (by omega)) (by omega) | assumption); (case a22 => omega)
    refine zx_al0 zd121_18 ?_
    (refine zx_gfI zd121_19 ?k24 ?_); (case k24 => first | exact zkk rfl (by omega) | exact zkk (zK_B0 (by omega)) (by omega) | exact zkk ((zK_B (by omega) (by decide)).trans rfl) (by omega) | exact zkk (zK_row (by omega) (by omega)) (by omega) | exact zkk (zK_file (by omega) (by omega)) (by omega) | exact zkk (zK_byte (by omega) (by omega)) (by omega) | exact zkk (zK_list (by omega)) (by omega) | assumption)
    rw [show zu I 436 0 (Int32.ofNat 0) 436 0 = Int32.ofNat 0 from rfl]
    first | ((with_reducible refine zx_ifeqN zd121_22 ?s25 (fun h2 => ?_) (fun h2 => ?_)); (case s25 => omega)) | refine zx_ifeq zd121_22 (fun h2 => ?_) (fun h2 => ?_)
    · refine zx_c zd121_27 ?_
      refine zx_il1 zd121_29 ?_
      first | with_reducible refine zx_mulN zd121_30 ?_ | refine zx_mul zd121_30 ?_
      refine zx_il2 zd121_31 ?_
      first | with_reducible refine zx_addN zd121_32 ?_ | refine zx_add zd121_32 ?_
      refine zx_is3 zd121_33 rfl ?_
      refine zx_il1 zd121_34 ?_
      first | ((with_reducible refine zx_ifneN zd121_35 ?s33 (fun h3 => ?_) (fun h3 => ?_)); (case s33 => omega)) | refine zx_ifne zd121_35 (fun h3 => ?_) (fun h3 => ?_)
      · omega
      · refine zx_c zd121_38 ?_
        refine zx_goto zd121_39 ?_
        refine zx_is4 zd121_55 rfl ?_
        refine zx_il4 zd121_57 ?_
        refine zx_c zd121_59 ?_
        refine zx_icmpne zd121_60 (fun h5 => absurd rfl h5) (fun h5 => ?_)
        refine zx_c zd121_63 ?_
        refine zx_iret zd121_64 (Or.inl rfl) ?_
        exact ⟨rfl, rfl⟩
    · omega
theorem zm_chl (hR : zRs R) (hN : 459 ≤ N) {f g l : Nat} (hf : f < 88) (hg : g < 88) (hl : I 445 f = Int32.ofNat l) (hl6 : l ≤ 64) {l1 l2 l4 : Option Value} : ∀ (k i : Nat), i + k = l →
    zW L 121 102 [some (.ref 436), l1, l2, some (.int (Int32.ofNat f)), l4, some (.int (Int32.ofNat g)), some (.int (Int32.ofNat 1)), some (.int (Int32.ofNat i))] [] (N, U, I, J, R) (fun o h => o = .inl (some (.int (if zeqn (fun q => I 446 (64 * f + q)) (fun q => I 446 (64 * g + q)) i k = true then Int32.ofNat 0 else Int32.ofNat 1))) ∧ h = (N, U, I, J, R)) := by
  intro k
  induction k with
  | zero =>
    intro i hi
    refine zx_il7 zd121_102 ?_
    refine zx_al0 zd121_104 ?_
    (refine' zx_gfA zd121_105 ?k43 ?r43 ?_); (case k43 => first | exact zkk rfl (by omega) | exact zkk (zK_B0 (by omega)) (by omega) | exact zkk ((zK_B (by omega) (by decide)).trans rfl) (by omega) | exact zkk (zK_row (by omega) (by omega)) (by omega) | exact zkk (zK_file (by omega) (by omega)) (by omega) | exact zkk (zK_byte (by omega) (by omega)) (by omega) | exact zkk (zK_list (by omega)) (by omega) | assumption); (case r43 => first | exact hR.1 _ _ _ rfl | assumption)
    refine zx_il3 zd121_108 ?_
    (with_reducible refine' zx_ialdN zd121_109 ?k45 ?j45 ?_); (case k45 => first | exact zkk rfl (by omega) | exact zkk (zK_B0 (by omega)) (by omega) | exact zkk ((zK_B (by omega) (by decide)).trans rfl) (by omega) | exact zkk (zK_row (by omega) (by omega)) (by omega) | exact zkk (zK_file (by omega) (by omega)) (by omega) | exact zkk (zK_byte (by omega) (by omega)) (by omega) | exact zkk (zK_list (by omega)) (by omega) | assumption); (case j45 => omega)
    rw [hl]
    first | ((with_reducible refine zx_icmpgeN zd121_110 ?s46 (fun h => ?_) (fun h => ?_)); (case s46 => omega)) | refine zx_icmpge zd121_110 (fun h => ?_) (fun h => ?_)
    · refine zx_il6 zd121_159 ?_
      first | ((with_reducible refine zx_ifeqN zd121_161 ?s48 (fun h2 => ?_) (fun h2 => ?_)); (case s48 => omega)) | refine zx_ifeq zd121_161 (fun h2 => ?_) (fun h2 => ?_)
      · omega
      · refine zx_c zd121_164 ?_
        refine zx_goto zd121_165 ?_
        refine zx_iret zd121_169 (Or.inl rfl) ?_
        exact ⟨rfl, rfl⟩
    · omega
  | succ k ih =>
    intro i hi
    refine zx_il7 zd121_102 ?_
    refine zx_al0 zd121_104 ?_
    (refine' zx_gfA zd121_105 ?k54 ?r54 ?_); (case k54 => first | exact zkk rfl (by omega) | exact zkk (zK_B0 (by omega)) (by omega) | exact zkk ((zK_B (by omega) (by decide)).trans rfl) (by omega) | exact zkk (zK_row (by omega) (by omega)) (by omega) | exact zkk (zK_file (by omega) (by omega)) (by omega) | exact zkk (zK_byte (by omega) (by omega)) (by omega) | exact zkk (zK_list (by omega)) (by omega) | assumption); (case r54 => first | exact hR.1 _ _ _ rfl | assumption)
    refine zx_il3 zd121_108 ?_
    (with_reducible refine' zx_ialdN zd121_109 ?k56 ?j56 ?_); (case k56 => first | exact zkk rfl (by omega) | exact zkk (zK_B0 (by omega)) (by omega) | exact zkk ((zK_B (by omega) (by decide)).trans rfl) (by omega) | exact zkk (zK_row (by omega) (by omega)) (by omega) | exact zkk (zK_file (by omega) (by omega)) (by omega) | exact zkk (zK_byte (by omega) (by omega)) (by omega) | exact zkk (zK_list (by omega)) (by omega) | assumption); (case j56 => omega)
    rw [hl]
    first | ((with_reducible refine zx_icmpgeN zd121_110 ?s57 (fun h => ?_) (fun h => ?_)); (case s57 => omega)) | refine zx_icmpge zd121_110 (fun h => ?_) (fun h => ?_)
    · omega
    · refine zx_il6 zd121_113 ?_
      first | ((with_reducible refine zx_ifeqN zd121_115 ?s59 (fun h2 => ?_) (fun h2 => ?_)); (case s59 => omega)) | refine zx_ifeq zd121_115 (fun h2 => ?_) (fun h2 => ?_)
      · omega
      · refine zx_al0 zd121_118 ?_
        (refine' zx_gfA zd121_119 ?k61 ?r61 ?_); (case k61 => first | exact zkk rfl (by omega) | exact zkk (zK_B0 (by omega)) (by omega) | exact zkk ((zK_B (by omega) (by decide)).trans rfl) (by omega) | exact zkk (zK_row (by omega) (by omega)) (by omega) | exact zkk (zK_file (by omega) (by omega)) (by omega) | exact zkk (zK_byte (by omega) (by omega)) (by omega) | exact zkk (zK_list (by omega)) (by omega) | assumption); (case r61 => first | exact hR.1 _ _ _ rfl | assumption)
        refine zx_c zd121_122 ?_
        refine zx_il3 zd121_124 ?_
        first | with_reducible refine zx_mulN zd121_125 ?_ | refine zx_mul zd121_125 ?_
        refine zx_il7 zd121_126 ?_
        first | with_reducible refine zx_addN zd121_128 ?_ | refine zx_add zd121_128 ?_
        (with_reducible refine' zx_ialdN zd121_129 ?k67 ?j67 ?_); (case k67 => first | exact zkk rfl (by omega) | exact zkk (zK_B0 (by omega)) (by omega) | exact zkk ((zK_B (by omega) (by decide)).trans rfl) (by omega) | exact zkk (zK_row (by omega) (by omega)) (by omega) | exact zkk (zK_file (by omega) (by omega)) (by omega) | exact zkk (zK_byte (by omega) (by omega)) (by omega) | exact zkk (zK_list (by omega)) (by omega) | assumption); (case j67 => omega)
        refine zx_al0 zd121_130 ?_
        (refine' zx_gfA zd121_131 ?k69 ?r69 ?_); (case k69 => first | exact zkk rfl (by omega) | exact zkk (zK_B0 (by omega)) (by omega) | exact zkk ((zK_B (by omega) (by decide)).trans rfl) (by omega) | exact zkk (zK_row (by omega) (by omega)) (by omega) | exact zkk (zK_file (by omega) (by omega)) (by omega) | exact zkk (zK_byte (by omega) (by omega)) (by omega) | exact zkk (zK_list (by omega)) (by omega) | assumption); (case r69 => first | exact hR.1 _ _ _ rfl | assumption)
        refine zx_c zd121_134 ?_
        refine zx_il5 zd121_136 ?_
        first | with_reducible refine zx_mulN zd121_138 ?_ | refine zx_mul zd121_138 ?_
        refine zx_il7 zd121_139 ?_
        first | with_reducible refine zx_addN zd121_141 ?_ | refine zx_add zd121_141 ?_
        (with_reducible refine' zx_ialdN zd121_142 ?k75 ?j75 ?_); (case k75 => first | exact zkk rfl (by omega) | exact zkk (zK_B0 (by omega)) (by omega) | exact zkk ((zK_B (by omega) (by decide)).trans rfl) (by omega) | exact zkk (zK_row (by omega) (by omega)) (by omega) | exact zkk (zK_file (by omega) (by omega)) (by omega) | exact zkk (zK_byte (by omega) (by omega)) (by omega) | exact zkk (zK_list (by omega)) (by omega) | assumption); (case j75 => omega)
        refine zx_icmpne zd121_143 (fun h3 => ?_) (fun h3 => ?_)
        · have e : zeqn (fun q => I 446 (64 * f + q)) (fun q => I 446 (64 * g + q)) i (k + 1) = false := if_neg h3
          rw [e]
          refine zx_c zd121_150 ?_
          refine zx_is6 zd121_151 rfl ?_
          first | with_reducible refine zx_iin7 zd121_153 ?_ | refine zx_ii7 zd121_153 ?_
          refine zx_goto zd121_156 ?_
          refine zx_il7 zd121_102 ?_
          refine zx_al0 zd121_104 ?_
          (refine' zx_gfA zd121_105 ?k82 ?r82 ?_); (case k82 => first | exact zkk rfl (by omega) | exact zkk (zK_B0 (by omega)) (by omega) | exact zkk ((zK_B (by omega) (by decide)).trans rfl) (by omega) | exact zkk (zK_row (by omega) (by omega)) (by omega) | exact zkk (zK_file (by omega) (by omega)) (by omega) | exact zkk (zK_byte (by omega) (by omega)) (by omega) | exact zkk (zK_list (by omega)) (by omega) | assumption); (case r82 => first | exact hR.1 _ _ _ rfl | assumption)
          refine zx_il3 zd121_108 ?_
          (with_reducible refine' zx_ialdN zd121_109 ?k84 ?j84 ?_); (case k84 => first | exact zkk rfl (by omega) | exact zkk (zK_B0 (by omega)) (by omega) | exact zkk ((zK_B (by omega) (by decide)).trans rfl) (by omega) | exact zkk (zK_row (by omega) (by omega)) (by omega) | exact zkk (zK_file (by omega) (by omega)) (by omega) | exact zkk (zK_byte (by omega) (by omega)) (by omega) | exact zkk (zK_list (by omega)) (by omega) | assumption); (case j84 => omega)
          rw [hl]
          first | ((with_reducible refine zx_icmpgeN zd121_110 ?s85 (fun h4 => ?_) (fun h4 => ?_)); (case s85 => omega)) | refine zx_icmpge zd121_110 (fun h4 => ?_) (fun h4 => ?_)
          · refine zx_il6 zd121_159 ?_
            first | ((with_reducible refine zx_ifeqN zd121_161 ?s87 (fun h5 => ?_) (fun h5 => ?_)); (case s87 => omega)) | refine zx_ifeq zd121_161 (fun h5 => ?_) (fun h5 => ?_)
            · refine zx_c zd121_168 ?_
              refine zx_iret zd121_169 (Or.inl rfl) ?_
              exact ⟨rfl, rfl⟩
            · omega
          · refine zx_il6 zd121_113 ?_
            first | ((with_reducible refine zx_ifeqN zd121_115 ?s91 (fun h5 => ?_) (fun h5 => ?_)); (case s91 => omega)) | refine zx_ifeq zd121_115 (fun h5 => ?_) (fun h5 => ?_)
            · refine zx_il6 zd121_159 ?_
              first | ((with_reducible refine zx_ifeqN zd121_161 ?s93 (fun h6 => ?_) (fun h6 => ?_)); (case s93 => omega)) | refine zx_ifeq zd121_161 (fun h6 => ?_) (fun h6 => ?_)
              · refine zx_c zd121_168 ?_
                refine zx_iret zd121_169 (Or.inl rfl) ?_
                exact ⟨rfl, rfl⟩
              · omega
            · omega
        · have e : zeqn (fun q => I 446 (64 * f + q)) (fun q => I 446 (64 * g + q)) i (k + 1) = zeqn (fun q => I 446 (64 * f + q)) (fun q => I 446 (64 * g + q)) (i + 1) k := if_pos h3
          rw [e]
          refine zx_c zd121_146 ?_
          refine zx_goto zd121_147 ?_
          refine zx_is6 zd121_151 rfl ?_
          first | with_reducible refine zx_iin7 zd121_153 ?_ | refine zx_ii7 zd121_153 ?_
          refine zx_goto zd121_156 ?_
          exact ih (i + 1) (by omega)
/-- changed's answer behind the first release -/
def zmch (I : zI) (r r1 j l n2 : Nat) (ln : Nat → Nat) : Int32 := match zfnd (fun k => decide (I 444 (8 * r + k) = I 444 (8 * r1 + j))) 0 n2 with
  | none => Int32.ofNat 2
  | some q => if (decide (l = ln q) && zeqn (fun k => I 446 (64 * (8 * r1 + j) + k)) (fun k => I 446 (64 * (8 * r + q) + k)) 0 l) = true then Int32.ofNat 0 else Int32.ofNat 1
theorem zm_ch (hR : zRs R) (hN : 459 ≤ N) (hc : I 436 8 = Int32.ofNat c) (hc10 : c ≤ 10) {r r1 m j l n2 : Nat} {ln : Nat → Nat} (hr : r1 < c) (hr1 : r1 = r + 1) (hm : I 443 r1 = Int32.ofNat m) (hm8 : m ≤ 8) (hj : j < m) (hn2 : I 443 r = Int32.ofNat n2) (hn28 : n2 ≤ 8) (hl : I 445 (8 * r1 + j) = Int32.ofNat l) (hl6 : l ≤ 64) (hln : ∀ q, q < n2 → I 445 (8 * r + q) = Int32.ofNat (ln q) ∧ ln q ≤ 64) :
    zRet L 121 [.ref 436, .int (Int32.ofNat r1), .int (Int32.ofNat j)] (N, U, I, J, R) (some (.int (zmch I r r1 j l n2 ln))) (N, U, zT I 0, J, R) := by
  show zW L 121 0 [some (.ref 436), some (.int (Int32.ofNat r1)), some (.int (Int32.ofNat j)), none, none, none, none, none] [] _ _
  refine zx_al0 zd121_0 ?_
  refine zx_al0 zd121_1 ?_
  refine zx_il1 zd121_2 ?_
  refine zx_il2 zd121_3 ?_
  (refine zx_cv2I zd121_4 ?k105 (zm_il hR hN hc hc10 hr hm hm8 hj) ?_); (case k105 => first | exact zkk rfl (by omega) | exact zkk (zK_B0 (by omega)) (by omega) | exact zkk ((zK_B (by omega) (by decide)).trans rfl) (by omega) | exact zkk (zK_row (by omega) (by omega)) (by omega) | exact zkk (zK_file (by omega) (by omega)) (by omega) | exact zkk (zK_byte (by omega) (by omega)) (by omega) | exact zkk (zK_list (by omega)) (by omega) | assumption)
  first | ((with_reducible refine zx_ifeqN zd121_7 ?s106 (fun h => ?_) (fun h => ?_)); (case s106 => omega)) | refine zx_ifeq zd121_7 (fun h => ?_) (fun h => ?_)
  · omega
  · refine zx_c zd121_10 ?_
    refine zx_goto zd121_11 ?_
    (refine zx_pfI zd121_15 ?k109 ?a109 ?_); (case k109 => first | exact zkk rfl (by omega) | exact zkk (zK_B0 (by omega)) (by omega) | exact zkk ((zK_B (by omega) (by decide)).trans rfl) (by omega) | exact zkk (zK_row (by omega) (by omega)) (by omega) | exact zkk (zK_file (by omega) (by omega)) (by omega) | exact zkk (zK_byte (by omega) (by omega)) (by omega) | exact zkk (zK_list (by omega)) (by omega) | assumption); (case a109 => omega)
    refine zx_al0 zd121_18 ?_
    (refine zx_gfI zd121_19 ?k111 ?_); (case k111 => first | exact zkk rfl (by omega) | exact zkk (zK_B0 (by omega)) (by omega) | exact zkk ((zK_B (by omega) (by decide)).trans rfl) (by omega) | exact zkk (zK_row (by omega) (by omega)) (by omega) | exact zkk (zK_file (by omega) (by omega)) (by omega) | exact zkk (zK_byte (by omega) (by omega)) (by omega) | exact zkk (zK_list (by omega)) (by omega) | assumption)
    rw [show zu I 436 0 (Int32.ofNat 0) 436 0 = Int32.ofNat 0 from rfl]
    first | ((with_reducible refine zx_ifeqN zd121_22 ?s112 (fun h2 => ?_) (fun h2 => ?_)); (case s112 => omega)) | refine zx_ifeq zd121_22 (fun h2 => ?_) (fun h2 => ?_)
    · refine zx_c zd121_27 ?_
      refine zx_il1 zd121_29 ?_
      first | with_reducible refine zx_mulN zd121_30 ?_ | refine zx_mul zd121_30 ?_
      refine zx_il2 zd121_31 ?_
      first | with_reducible refine zx_addN zd121_32 ?_ | refine zx_add zd121_32 ?_
      refine zx_is3 zd121_33 rfl ?_
      refine zx_il1 zd121_34 ?_
      first | ((with_reducible refine zx_ifneN zd121_35 ?s120 (fun h3 => ?_) (fun h3 => ?_)); (case s120 => omega)) | refine zx_ifne zd121_35 (fun h3 => ?_) (fun h3 => ?_)
      · refine zx_al0 zd121_42 ?_
        refine zx_il1 zd121_43 ?_
        refine zx_c zd121_44 ?_
        first | ((with_reducible refine zx_subN zd121_45 ?h124 ?_); (case h124 => omega)) | refine zx_sub zd121_45 ?_
        rw [show r1 - 1 = r by omega]
        refine zx_al0 zd121_46 ?_
        (refine' zx_gfA zd121_47 ?k126 ?r126 ?_); (case k126 => first | exact zkk rfl (by omega) | exact zkk (zK_B0 (by omega)) (by omega) | exact zkk ((zK_B (by omega) (by decide)).trans rfl) (by omega) | exact zkk (zK_row (by omega) (by omega)) (by omega) | exact zkk (zK_file (by omega) (by omega)) (by omega) | exact zkk (zK_byte (by omega) (by omega)) (by omega) | exact zkk (zK_list (by omega)) (by omega) | assumption); (case r126 => first | exact hR.1 _ _ _ rfl | assumption)
        refine zx_il3 zd121_50 ?_
        (with_reducible refine' zx_ialdN zd121_51 ?k128 ?j128 ?_); (case k128 => first | exact zkk rfl (by omega) | exact zkk (zK_B0 (by omega)) (by omega) | exact zkk ((zK_B (by omega) (by decide)).trans rfl) (by omega) | exact zkk (zK_row (by omega) (by omega)) (by omega) | exact zkk (zK_file (by omega) (by omega)) (by omega) | exact zkk (zK_byte (by omega) (by omega)) (by omega) | exact zkk (zK_list (by omega)) (by omega) | assumption); (case j128 => omega)
        rw [show zu I 436 0 (Int32.ofNat 0) 444 (8 * r1 + j) = I 444 (8 * r1 + j) from rfl]
        (refine zx_cv2I zd121_52 ?k129 (zm_fw hR hN (show r < 11 by omega) (show zu I 436 0 (Int32.ofNat 0) 443 r = Int32.ofNat n2 from hn2) hn28 _) ?_); (case k129 => first | exact zkk rfl (by omega) | exact zkk (zK_B0 (by omega)) (by omega) | exact zkk ((zK_B (by omega) (by decide)).trans rfl) (by omega) | exact zkk (zK_row (by omega) (by omega)) (by omega) | exact zkk (zK_file (by omega) (by omega)) (by omega) | exact zkk (zK_byte (by omega) (by omega)) (by omega) | exact zkk (zK_list (by omega)) (by omega) | assumption)
        refine zx_is4 zd121_55 rfl ?_
        refine zx_il4 zd121_57 ?_
        refine zx_c zd121_59 ?_
        have e1 : zfnd (fun k => decide (zu I 436 0 (Int32.ofNat 0) 444 (8 * r + k) = I 444 (8 * r1 + j))) 0 n2 = zfnd (fun k => decide (I 444 (8 * r + k) = I 444 (8 * r1 + j))) 0 n2 := rfl
        rw [e1]
        unfold zmch
        cases hz : zfnd (fun k => decide (I 444 (8 * r + k) = I 444 (8 * r1 + j))) 0 n2 with
        | none =>
          refine zx_icmpne zd121_60 (fun h5 => absurd rfl h5) (fun h5 => ?_)
          refine zx_c zd121_63 ?_
          refine zx_iret zd121_64 (Or.inl rfl) ?_
          exact ⟨rfl, rfl⟩
        | some q =>
          have hq := zfnd_lt hz
          have hlq := hln q (by omega)
          refine zx_icmpne zd121_60 (fun h5 => ?_) (fun h5 => absurd h5 (zfi_ne (by simp) (fun j hj => by cases hj; omega)))
          show zW L 121 65 [some (.ref 436), some (.int (Int32.ofNat r1)), some (.int (Int32.ofNat j)), some (.int (Int32.ofNat (8 * r1 + j))), some (.int (Int32.ofNat q)), none, none, none] [] _ _
          refine zx_c zd121_65 ?_
          refine zx_il1 zd121_67 ?_
          refine zx_c zd121_68 ?_
          first | ((with_reducible refine zx_subN zd121_69 ?h138 ?_); (case h138 => omega)) | refine zx_sub zd121_69 ?_
          rw [show r1 - 1 = r by omega]
          first | with_reducible refine zx_mulN zd121_70 ?_ | refine zx_mul zd121_70 ?_
          refine zx_il4 zd121_71 ?_
          first | with_reducible refine zx_addN zd121_73 ?_ | refine zx_add zd121_73 ?_
          refine zx_is5 zd121_74 rfl ?_
          refine zx_al0 zd121_76 ?_
          (refine' zx_gfA zd121_77 ?k144 ?r144 ?_); (case k144 => first | exact zkk rfl (by omega) | exact zkk (zK_B0 (by omega)) (by omega) | exact zkk ((zK_B (by omega) (by decide)).trans rfl) (by omega) | exact zkk (zK_row (by omega) (by omega)) (by omega) | exact zkk (zK_file (by omega) (by omega)) (by omega) | exact zkk (zK_byte (by omega) (by omega)) (by omega) | exact zkk (zK_list (by omega)) (by omega) | assumption); (case r144 => first | exact hR.1 _ _ _ rfl | assumption)
          refine zx_il3 zd121_80 ?_
          (with_reducible refine' zx_ialdN zd121_81 ?k146 ?j146 ?_); (case k146 => first | exact zkk rfl (by omega) | exact zkk (zK_B0 (by omega)) (by omega) | exact zkk ((zK_B (by omega) (by decide)).trans rfl) (by omega) | exact zkk (zK_row (by omega) (by omega)) (by omega) | exact zkk (zK_file (by omega) (by omega)) (by omega) | exact zkk (zK_byte (by omega) (by omega)) (by omega) | exact zkk (zK_list (by omega)) (by omega) | assumption); (case j146 => omega)
          refine zx_al0 zd121_82 ?_
          (refine' zx_gfA zd121_83 ?k148 ?r148 ?_); (case k148 => first | exact zkk rfl (by omega) | exact zkk (zK_B0 (by omega)) (by omega) | exact zkk ((zK_B (by omega) (by decide)).trans rfl) (by omega) | exact zkk (zK_row (by omega) (by omega)) (by omega) | exact zkk (zK_file (by omega) (by omega)) (by omega) | exact zkk (zK_byte (by omega) (by omega)) (by omega) | exact zkk (zK_list (by omega)) (by omega) | assumption); (case r148 => first | exact hR.1 _ _ _ rfl | assumption)
          refine zx_il5 zd121_86 ?_
          (with_reducible refine' zx_ialdN zd121_88 ?k150 ?j150 ?_); (case k150 => first | exact zkk rfl (by omega) | exact zkk (zK_B0 (by omega)) (by omega) | exact zkk ((zK_B (by omega) (by decide)).trans rfl) (by omega) | exact zkk (zK_row (by omega) (by omega)) (by omega) | exact zkk (zK_file (by omega) (by omega)) (by omega) | exact zkk (zK_byte (by omega) (by omega)) (by omega) | exact zkk (zK_list (by omega)) (by omega) | assumption); (case j150 => omega)
          rw [show zu I 436 0 (Int32.ofNat 0) 445 (8 * r1 + j) = I 445 (8 * r1 + j) from rfl, show zu I 436 0 (Int32.ofNat 0) 445 (8 * r + q) = I 445 (8 * r + q) from rfl, hl, hlq.1]
          have h64 := hlq.2
          dsimp only
          first | ((with_reducible refine zx_icmpneN zd121_89 ?s151 (fun h6 => ?_) (fun h6 => ?_)); (case s151 => omega)) | refine zx_icmpne zd121_89 (fun h6 => ?_) (fun h6 => ?_)
          · rw [decide_eq_false h6]
            refine zx_c zd121_96 ?_
            refine zx_is6 zd121_97 rfl ?_
            refine zx_c zd121_99 ?_
            refine zx_is7 zd121_100 rfl ?_
            refine zx_il7 zd121_102 ?_
            refine zx_al0 zd121_104 ?_
            (refine' zx_gfA zd121_105 ?k158 ?r158 ?_); (case k158 => first | exact zkk rfl (by omega) | exact zkk (zK_B0 (by omega)) (by omega) | exact zkk ((zK_B (by omega) (by decide)).trans rfl) (by omega) | exact zkk (zK_row (by omega) (by omega)) (by omega) | exact zkk (zK_file (by omega) (by omega)) (by omega) | exact zkk (zK_byte (by omega) (by omega)) (by omega) | exact zkk (zK_list (by omega)) (by omega) | assumption); (case r158 => first | exact hR.1 _ _ _ rfl | assumption)
            refine zx_il3 zd121_108 ?_
            (with_reducible refine' zx_ialdN zd121_109 ?k160 ?j160 ?_); (case k160 => first | exact zkk rfl (by omega) | exact zkk (zK_B0 (by omega)) (by omega) | exact zkk ((zK_B (by omega) (by decide)).trans rfl) (by omega) | exact zkk (zK_row (by omega) (by omega)) (by omega) | exact zkk (zK_file (by omega) (by omega)) (by omega) | exact zkk (zK_byte (by omega) (by omega)) (by omega) | exact zkk (zK_list (by omega)) (by omega) | assumption); (case j160 => omega)
            rw [show zu I 436 0 (Int32.ofNat 0) 445 (8 * r1 + j) = I 445 (8 * r1 + j) from rfl, hl]
            first | ((with_reducible refine zx_icmpgeN zd121_110 ?s161 (fun h7 => ?_) (fun h7 => ?_)); (case s161 => omega)) | refine zx_icmpge zd121_110 (fun h7 => ?_) (fun h7 => ?_)
            · refine zx_il6 zd121_159 ?_
              first | ((with_reducible refine zx_ifeqN zd121_161 ?s163 (fun h8 => ?_) (fun h8 => ?_)); (case s163 => omega)) | refine zx_ifeq zd121_161 (fun h8 => ?_) (fun h8 => ?_)
              · refine zx_c zd121_168 ?_
                refine zx_iret zd121_169 (Or.inl rfl) ?_
                exact ⟨rfl, rfl⟩
              · omega
            · refine zx_il6 zd121_113 ?_
              first | ((with_reducible refine zx_ifeqN zd121_115 ?s167 (fun h8 => ?_) (fun h8 => ?_)); (case s167 => omega)) | refine zx_ifeq zd121_115 (fun h8 => ?_) (fun h8 => ?_)
              · refine zx_il6 zd121_159 ?_
                first | ((with_reducible refine zx_ifeqN zd121_161 ?s169 (fun h9 => ?_) (fun h9 => ?_)); (case s169 => omega)) | refine zx_ifeq zd121_161 (fun h9 => ?_) (fun h9 => ?_)
                · refine zx_c zd121_168 ?_
                  refine zx_iret zd121_169 (Or.inl rfl) ?_
                  exact ⟨rfl, rfl⟩
                · omega
              · omega
          · rw [decide_eq_true h6, Bool.true_and]
            refine zx_c zd121_92 ?_
            refine zx_goto zd121_93 ?_
            refine zx_is6 zd121_97 rfl ?_
            refine zx_c zd121_99 ?_
            refine zx_is7 zd121_100 rfl ?_
            exact zm_chl (I := zT I 0) hR hN (by omega) (by omega) hl hl6 l 0 (by omega)
      · omega
    · omega
/-! holds -/
theorem zm_ho1 (hR : zRs R) (hN : 459 ≤ N) {I0 : zI} {m0 : List Int32} (hm0 : m0.length = 3) {n : Nat} (hn : n ≤ 64)
    (kk : ∀ (I' : zI) (l2 : Option Value), zMg (m0 ++ zrw0 (I0 450) 4 n) I' → zF2 I0 I' → zW L 112 120 [some (.ref 436), some (.int (Int32.ofNat n)), l2, none, none] [] (N, U, I', J, R) Q) :
    ∀ (q i : Nat) (I' : zI), i + q = n → zMg (m0 ++ zrw0 (I0 450) 4 i) I' → zF2 I0 I' → zW L 112 97 [some (.ref 436), some (.int (Int32.ofNat n)), some (.int (Int32.ofNat i)), none, none] [] (N, U, I', J, R) Q := by
  intro q
  induction q with
  | zero =>
    intro i I' hi hm hf
    obtain rfl : i = n := by omega
    refine zx_il2 zd112_97 ?_
    refine zx_il1 zd112_98 ?_
    first | ((with_reducible refine zx_icmpgeN zd112_99 ?s179 (fun h => ?_) (fun h => ?_)); (case s179 => omega)) | refine zx_icmpge zd112_99 (fun h => ?_) (fun h => ?_)
    · exact kk I' _ hm hf
    · omega
  | succ q ih =>
    intro i I' hi hm hf
    refine zx_il2 zd112_97 ?_
    refine zx_il1 zd112_98 ?_
    first | ((with_reducible refine zx_icmpgeN zd112_99 ?s182 (fun h => ?_) (fun h => ?_)); (case s182 => omega)) | refine zx_icmpge zd112_99 (fun h => ?_) (fun h => ?_)
    · omega
    · refine zx_al0 zd112_102 ?_
      refine zx_al0 zd112_103 ?_
      (refine' zx_gfA zd112_104 ?k185 ?r185 ?_); (case k185 => first | exact zkk rfl (by omega) | exact zkk (zK_B0 (by omega)) (by omega) | exact zkk ((zK_B (by omega) (by decide)).trans rfl) (by omega) | exact zkk (zK_row (by omega) (by omega)) (by omega) | exact zkk (zK_file (by omega) (by omega)) (by omega) | exact zkk (zK_byte (by omega) (by omega)) (by omega) | exact zkk (zK_list (by omega)) (by omega) | assumption); (case r185 => first | exact hR.1 _ _ _ rfl | assumption)
      refine zx_c zd112_107 ?_
      refine zx_il2 zd112_108 ?_
      first | with_reducible refine zx_addN zd112_109 ?_ | refine zx_add zd112_109 ?_
      (with_reducible refine' zx_ialdN zd112_110 ?k189 ?j189 ?_); (case k189 => first | exact zkk rfl (by omega) | exact zkk (zK_B0 (by omega)) (by omega) | exact zkk ((zK_B (by omega) (by decide)).trans rfl) (by omega) | exact zkk (zK_row (by omega) (by omega)) (by omega) | exact zkk (zK_file (by omega) (by omega)) (by omega) | exact zkk (zK_byte (by omega) (by omega)) (by omega) | exact zkk (zK_list (by omega)) (by omega) | assumption); (case j189 => omega)
      obtain ⟨I2, hr, hm2, hf2⟩ := zs_mput2 (L := L) (U := U) (J := J) hR hN hm (by rw [List.length_append, zrw0_len]; omega) (I' 450 (4 + i))
      (refine zx_cv1V zd112_111 ?k190 (hr) ?_); (case k190 => first | exact zkk rfl (by omega) | exact zkk (zK_B0 (by omega)) (by omega) | exact zkk ((zK_B (by omega) (by decide)).trans rfl) (by omega) | exact zkk (zK_row (by omega) (by omega)) (by omega) | exact zkk (zK_file (by omega) (by omega)) (by omega) | exact zkk (zK_byte (by omega) (by omega)) (by omega) | exact zkk (zK_list (by omega)) (by omega) | assumption)
      first | with_reducible refine zx_iin2 zd112_114 ?_ | refine zx_ii2 zd112_114 ?_
      refine zx_goto zd112_117 ?_
      refine ih (i + 1) I2 (by omega) ?_ (hf.trans hf2)
      rw [zrw0_succ, ← List.append_assoc]
      rw [hf.1 450 (by decide) (by decide)] at hm2
      exact hm2
theorem zm_ho2 (hR : zRs R) (hN : 459 ≤ N) {l1 l3 l4 : Option Value}
    (kk : ∀ l2 : Option Value, zW L 112 150 [some (.ref 436), l1, l2, l3, l4] [] (N, U, zrw I 449 (zfill (I 449) 0 32 (I 442)), J, R) Q) :
    ∀ (q i : Nat), i + q = 32 → zW L 112 126 [some (.ref 436), l1, some (.int (Int32.ofNat i)), l3, l4] [] (N, U, zrw I 449 (zfill (I 449) 0 i (I 442)), J, R) Q := by
  intro q
  induction q with
  | zero =>
    intro i hi
    obtain rfl : i = 32 := by omega
    refine zx_il2 zd112_126 ?_
    refine zx_c zd112_127 ?_
    first | ((with_reducible refine zx_icmpgeN zd112_129 ?s195 (fun h => ?_) (fun h => ?_)); (case s195 => omega)) | refine zx_icmpge zd112_129 (fun h => ?_) (fun h => ?_)
    · exact kk _
    · omega
  | succ q ih =>
    intro i hi
    refine zx_il2 zd112_126 ?_
    refine zx_c zd112_127 ?_
    first | ((with_reducible refine zx_icmpgeN zd112_129 ?s198 (fun h => ?_) (fun h => ?_)); (case s198 => omega)) | refine zx_icmpge zd112_129 (fun h => ?_) (fun h => ?_)
    · omega
    · refine zx_al0 zd112_132 ?_
      (refine' zx_gfA zd112_133 ?k200 ?r200 ?_); (case k200 => first | exact zkk rfl (by omega) | exact zkk (zK_B0 (by omega)) (by omega) | exact zkk ((zK_B (by omega) (by decide)).trans rfl) (by omega) | exact zkk (zK_row (by omega) (by omega)) (by omega) | exact zkk (zK_file (by omega) (by omega)) (by omega) | exact zkk (zK_byte (by omega) (by omega)) (by omega) | exact zkk (zK_list (by omega)) (by omega) | assumption); (case r200 => first | exact hR.1 _ _ _ rfl | assumption)
      refine zx_il2 zd112_136 ?_
      refine zx_al0 zd112_137 ?_
      (refine' zx_gfA zd112_138 ?k203 ?r203 ?_); (case k203 => first | exact zkk rfl (by omega) | exact zkk (zK_B0 (by omega)) (by omega) | exact zkk ((zK_B (by omega) (by decide)).trans rfl) (by omega) | exact zkk (zK_row (by omega) (by omega)) (by omega) | exact zkk (zK_file (by omega) (by omega)) (by omega) | exact zkk (zK_byte (by omega) (by omega)) (by omega) | exact zkk (zK_list (by omega)) (by omega) | assumption); (case r203 => first | exact hR.1 _ _ _ rfl | assumption)
      refine zx_il2 zd112_141 ?_
      (with_reducible refine' zx_ialdN zd112_142 ?k205 ?j205 ?_); (case k205 => first | exact zkk rfl (by omega) | exact zkk (zK_B0 (by omega)) (by omega) | exact zkk ((zK_B (by omega) (by decide)).trans rfl) (by omega) | exact zkk (zK_row (by omega) (by omega)) (by omega) | exact zkk (zK_file (by omega) (by omega)) (by omega) | exact zkk (zK_byte (by omega) (by omega)) (by omega) | exact zkk (zK_list (by omega)) (by omega) | assumption); (case j205 => omega)
      (with_reducible refine' zx_iastN zd112_143 ?k206 ?j206 ?a206 ?_); (case k206 => first | exact zkk rfl (by omega) | exact zkk (zK_B0 (by omega)) (by omega) | exact zkk ((zK_B (by omega) (by decide)).trans rfl) (by omega) | exact zkk (zK_row (by omega) (by omega)) (by omega) | exact zkk (zK_file (by omega) (by omega)) (by omega) | exact zkk (zK_byte (by omega) (by omega)) (by omega) | exact zkk (zK_list (by omega)) (by omega) | assumption); (case j206 => omega); (case a206 => omega)
      first | with_reducible refine zx_iin2 zd112_144 ?_ | refine zx_ii2 zd112_144 ?_
      refine zx_goto zd112_147 ?_
      have e := zfill_succ (I 449) 0 i (I 442)
      rw [Nat.zero_add] at e
      have k1 := ih (i + 1) (by omega)
      rw [← e] at k1
      rw [zu_rw, zrw_rw, zrw_at, zrw_ne _ _ (show 442 ≠ 449 by decide)]
      exact k1
theorem zm_ho3 (hR : zRs R) (hN : 459 ≤ N) {l1 l2 l3 : Option Value}
    (kk : ∀ l4 : Option Value, zW L 112 272 [some (.ref 436), l1, l2, l3, l4] [] (N, U, zrw I 449 (zfill (I 449) 0 32 (I 442)), J, R) Q) :
    ∀ (q i : Nat), i + q = 32 → zW L 112 245 [some (.ref 436), l1, l2, l3, some (.int (Int32.ofNat i))] [] (N, U, zrw I 449 (zfill (I 449) 0 i (I 442)), J, R) Q := by
  intro q
  induction q with
  | zero =>
    intro i hi
    obtain rfl : i = 32 := by omega
    refine zx_il4 zd112_245 ?_
    refine zx_c zd112_247 ?_
    first | ((with_reducible refine zx_icmpgeN zd112_249 ?s211 (fun h => ?_) (fun h => ?_)); (case s211 => omega)) | refine zx_icmpge zd112_249 (fun h => ?_) (fun h => ?_)
    · exact kk _
    · omega
  | succ q ih =>
    intro i hi
    refine zx_il4 zd112_245 ?_
    refine zx_c zd112_247 ?_
    first | ((with_reducible refine zx_icmpgeN zd112_249 ?s214 (fun h => ?_) (fun h => ?_)); (case s214 => omega)) | refine zx_icmpge zd112_249 (fun h => ?_) (fun h => ?_)
    · omega
    · refine zx_al0 zd112_252 ?_
      (refine' zx_gfA zd112_253 ?k216 ?r216 ?_); (case k216 => first | exact zkk rfl (by omega) | exact zkk (zK_B0 (by omega)) (by omega) | exact zkk ((zK_B (by omega) (by decide)).trans rfl) (by omega) | exact zkk (zK_row (by omega) (by omega)) (by omega) | exact zkk (zK_file (by omega) (by omega)) (by omega) | exact zkk (zK_byte (by omega) (by omega)) (by omega) | exact zkk (zK_list (by omega)) (by omega) | assumption); (case r216 => first | exact hR.1 _ _ _ rfl | assumption)
      refine zx_il4 zd112_256 ?_
      refine zx_al0 zd112_258 ?_
      (refine' zx_gfA zd112_259 ?k219 ?r219 ?_); (case k219 => first | exact zkk rfl (by omega) | exact zkk (zK_B0 (by omega)) (by omega) | exact zkk ((zK_B (by omega) (by decide)).trans rfl) (by omega) | exact zkk (zK_row (by omega) (by omega)) (by omega) | exact zkk (zK_file (by omega) (by omega)) (by omega) | exact zkk (zK_byte (by omega) (by omega)) (by omega) | exact zkk (zK_list (by omega)) (by omega) | assumption); (case r219 => first | exact hR.1 _ _ _ rfl | assumption)
      refine zx_il4 zd112_262 ?_
      (with_reducible refine' zx_ialdN zd112_264 ?k221 ?j221 ?_); (case k221 => first | exact zkk rfl (by omega) | exact zkk (zK_B0 (by omega)) (by omega) | exact zkk ((zK_B (by omega) (by decide)).trans rfl) (by omega) | exact zkk (zK_row (by omega) (by omega)) (by omega) | exact zkk (zK_file (by omega) (by omega)) (by omega) | exact zkk (zK_byte (by omega) (by omega)) (by omega) | exact zkk (zK_list (by omega)) (by omega) | assumption); (case j221 => omega)
      (with_reducible refine' zx_iastN zd112_265 ?k222 ?j222 ?a222 ?_); (case k222 => first | exact zkk rfl (by omega) | exact zkk (zK_B0 (by omega)) (by omega) | exact zkk ((zK_B (by omega) (by decide)).trans rfl) (by omega) | exact zkk (zK_row (by omega) (by omega)) (by omega) | exact zkk (zK_file (by omega) (by omega)) (by omega) | exact zkk (zK_byte (by omega) (by omega)) (by omega) | exact zkk (zK_list (by omega)) (by omega) | assumption); (case j222 => omega); (case a222 => omega)
      first | with_reducible refine zx_iin4 zd112_266 ?_ | refine zx_ii4 zd112_266 ?_
      refine zx_goto zd112_269 ?_
      have e := zfill_succ (I 449) 0 i (I 442)
      rw [Nat.zero_add] at e
      have k1 := ih (i + 1) (by omega)
      rw [← e] at k1
      rw [zu_rw, zrw_rw, zrw_at, zrw_ne _ _ (show 442 ≠ 449 by decide)]
      exact k1
/-- the last comparison: v is what is good so far -/
theorem zm_ho5 (hR : zRs R) (hN : 459 ≤ N) {b0 : Nat} (hb0 : I 450 0 = Int32.ofNat b0) (hb10 : b0 < 10) {l1 l4 : Option Value} : ∀ (k i : Nat) (v : Bool), i + k = 32 →
    zW L 112 280 [some (.ref 436), l1, some (.int (zbi v)), some (.int (Int32.ofNat i)), l4] [] (N, U, I, J, R) (fun o h => o = .inl (some (.int (zbi (v && zeqn (I 449) (fun q => I 448 (32 * b0 + q)) i k)))) ∧ h = (N, U, I, J, R)) := by
  intro k
  induction k with
  | zero =>
    intro i v hi
    refine zx_il3 zd112_280 ?_
    refine zx_c zd112_281 ?_
    first | ((with_reducible refine zx_icmpgeN zd112_283 ?s227 (fun h => ?_) (fun h => ?_)); (case s227 => omega)) | refine zx_icmpge zd112_283 (fun h => ?_) (fun h => ?_)
    · refine zx_il2 zd112_327 ?_
      refine zx_iret zd112_328 (Or.inr ⟨rfl, by exact zbi_01 _⟩) ?_
      refine ⟨?_, rfl⟩
      rw [show zeqn (I 449) (fun q => I 448 (32 * b0 + q)) i 0 = true from rfl, Bool.and_true]
    · omega
  | succ k ih =>
    intro i v hi
    refine zx_il3 zd112_280 ?_
    refine zx_c zd112_281 ?_
    first | ((with_reducible refine zx_icmpgeN zd112_283 ?s232 (fun h => ?_) (fun h => ?_)); (case s232 => omega)) | refine zx_icmpge zd112_283 (fun h => ?_) (fun h => ?_)
    · omega
    · refine zx_il2 zd112_286 ?_
      cases v with
      | false =>
        show zW L 112 287 _ [.int (Int32.ofNat 0)] _ _
        first | ((with_reducible refine zx_ifeqN zd112_287 ?s234 (fun h2 => ?_) (fun h2 => ?_)); (case s234 => omega)) | refine zx_ifeq zd112_287 (fun h2 => ?_) (fun h2 => ?_)
        · refine zx_c zd112_319 ?_
          refine zx_is2 zd112_320 rfl ?_
          first | with_reducible refine zx_iin3 zd112_321 ?_ | refine zx_ii3 zd112_321 ?_
          refine zx_goto zd112_324 ?_
          exact ih (i + 1) false (by omega)
        · omega
      | true =>
        show zW L 112 287 _ [.int (Int32.ofNat 1)] _ _
        first | ((with_reducible refine zx_ifeqN zd112_287 ?s239 (fun h2 => ?_) (fun h2 => ?_)); (case s239 => omega)) | refine zx_ifeq zd112_287 (fun h2 => ?_) (fun h2 => ?_)
        · omega
        · refine zx_al0 zd112_290 ?_
          (refine' zx_gfA zd112_291 ?k241 ?r241 ?_); (case k241 => first | exact zkk rfl (by omega) | exact zkk (zK_B0 (by omega)) (by omega) | exact zkk ((zK_B (by omega) (by decide)).trans rfl) (by omega) | exact zkk (zK_row (by omega) (by omega)) (by omega) | exact zkk (zK_file (by omega) (by omega)) (by omega) | exact zkk (zK_byte (by omega) (by omega)) (by omega) | exact zkk (zK_list (by omega)) (by omega) | assumption); (case r241 => first | exact hR.1 _ _ _ rfl | assumption)
          refine zx_il3 zd112_294 ?_
          (with_reducible refine' zx_ialdN zd112_295 ?k243 ?j243 ?_); (case k243 => first | exact zkk rfl (by omega) | exact zkk (zK_B0 (by omega)) (by omega) | exact zkk ((zK_B (by omega) (by decide)).trans rfl) (by omega) | exact zkk (zK_row (by omega) (by omega)) (by omega) | exact zkk (zK_file (by omega) (by omega)) (by omega) | exact zkk (zK_byte (by omega) (by omega)) (by omega) | exact zkk (zK_list (by omega)) (by omega) | assumption); (case j243 => omega)
          refine zx_al0 zd112_296 ?_
          (refine' zx_gfA zd112_297 ?k245 ?r245 ?_); (case k245 => first | exact zkk rfl (by omega) | exact zkk (zK_B0 (by omega)) (by omega) | exact zkk ((zK_B (by omega) (by decide)).trans rfl) (by omega) | exact zkk (zK_row (by omega) (by omega)) (by omega) | exact zkk (zK_file (by omega) (by omega)) (by omega) | exact zkk (zK_byte (by omega) (by omega)) (by omega) | exact zkk (zK_list (by omega)) (by omega) | assumption); (case r245 => first | exact hR.1 _ _ _ rfl | assumption)
          refine zx_c zd112_300 ?_
          refine zx_al0 zd112_302 ?_
          (refine' zx_gfA zd112_303 ?k248 ?r248 ?_); (case k248 => first | exact zkk rfl (by omega) | exact zkk (zK_B0 (by omega)) (by omega) | exact zkk ((zK_B (by omega) (by decide)).trans rfl) (by omega) | exact zkk (zK_row (by omega) (by omega)) (by omega) | exact zkk (zK_file (by omega) (by omega)) (by omega) | exact zkk (zK_byte (by omega) (by omega)) (by omega) | exact zkk (zK_list (by omega)) (by omega) | assumption); (case r248 => first | exact hR.1 _ _ _ rfl | assumption)
          refine zx_c zd112_306 ?_
          (with_reducible refine' zx_ialdN zd112_307 ?k250 ?j250 ?_); (case k250 => first | exact zkk rfl (by omega) | exact zkk (zK_B0 (by omega)) (by omega) | exact zkk ((zK_B (by omega) (by decide)).trans rfl) (by omega) | exact zkk (zK_row (by omega) (by omega)) (by omega) | exact zkk (zK_file (by omega) (by omega)) (by omega) | exact zkk (zK_byte (by omega) (by omega)) (by omega) | exact zkk (zK_list (by omega)) (by omega) | assumption); (case j250 => omega)
          rw [hb0]
          first | with_reducible refine zx_mulN zd112_308 ?_ | refine zx_mul zd112_308 ?_
          refine zx_il3 zd112_309 ?_
          first | with_reducible refine zx_addN zd112_310 ?_ | refine zx_add zd112_310 ?_
          (with_reducible refine' zx_ialdN zd112_311 ?k254 ?j254 ?_); (case k254 => first | exact zkk rfl (by omega) | exact zkk (zK_B0 (by omega)) (by omega) | exact zkk ((zK_B (by omega) (by decide)).trans rfl) (by omega) | exact zkk (zK_row (by omega) (by omega)) (by omega) | exact zkk (zK_file (by omega) (by omega)) (by omega) | exact zkk (zK_byte (by omega) (by omega)) (by omega) | exact zkk (zK_list (by omega)) (by omega) | assumption); (case j254 => omega)
          refine zx_icmpne zd112_312 (fun h3 => ?_) (fun h3 => ?_)
          · have e : zeqn (I 449) (fun q => I 448 (32 * b0 + q)) i (k + 1) = false := if_neg h3
            rw [e]
            refine zx_c zd112_319 ?_
            refine zx_is2 zd112_320 rfl ?_
            first | with_reducible refine zx_iin3 zd112_321 ?_ | refine zx_ii3 zd112_321 ?_
            refine zx_goto zd112_324 ?_
            exact ih (i + 1) false (by omega)
          · have e : zeqn (I 449) (fun q => I 448 (32 * b0 + q)) i (k + 1) = zeqn (I 449) (fun q => I 448 (32 * b0 + q)) (i + 1) k := if_pos h3
            rw [e]
            refine zx_c zd112_315 ?_
            refine zx_goto zd112_316 ?_
            refine zx_is2 zd112_320 rfl ?_
            first | with_reducible refine zx_iin3 zd112_321 ?_ | refine zx_ii3 zd112_321 ?_
            refine zx_goto zd112_324 ?_
            exact ih (i + 1) true (by omega)
end ZM5
