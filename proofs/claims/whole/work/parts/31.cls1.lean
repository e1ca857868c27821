/-! THE CLASS: small methods -/
theorem zn_of {x : Int32} {c : Nat} (h0 : ¬ x < 0) (h1 : x < Int32.ofNat c) (hc : c < 2147483648) : ∃ r, x = Int32.ofNat r ∧ r < c := by
  have h0' : 0 ≤ x := Int32.not_lt.mp h0
  have e := Int32.ofNat_toNatClampNeg x h0'
  have hb : x.toNatClampNeg < 2147483648 := Int32.toNatClampNeg_lt x
  refine ⟨x.toNatClampNeg, e.symm, ?_⟩
  rw [← e, zn_lt hb hc] at h1
  exact h1
section ZC1
variable {L N U : Nat} {I : zI} {J : zJ} {R : zR} {c : Nat}
theorem zc_cr (hR : zRs R) (hN : 646 ≤ N) (hc : I 3 2 = Int32.ofNat c) (hc10 : c ≤ 10) {r : Nat} (hr : r < c) : zRet L 48 [.ref 3, .int (Int32.ofNat r)] (N, U, I, J, R) (some (.ref (8 + 54 * r))) (N, U, I, J, R) := by
  show zW L 48 0 [some (.ref 3), some (.int (Int32.ofNat r))] [] _ _
  refine zx_il1 zd48_0 ?_
  first | ((with_reducible refine zx_ifltN zd48_1 ?s2 (fun h => ?_) (fun h => ?_)); (case s2 => omega)) | refine zx_iflt zd48_1 (fun h => ?_) (fun h => ?_)
  · omega
  · refine zx_il1 zd48_4 ?_
    refine zx_al0 zd48_5 ?_
    (refine zx_gfI zd48_6 ?k5 ?_); (case k5 => first | exact zkk rfl (by omega) | exact zkk (zK_B0 (by omega)) (by omega) | exact zkk ((zK_B (by omega) (by decide)).trans rfl) (by omega) | exact zkk (zK_row (by omega) (by omega)) (by omega) | exact zkk (zK_file (by omega) (by omega)) (by omega) | exact zkk (zK_byte (by omega) (by omega)) (by omega) | exact zkk (zK_list (by omega)) (by omega) | assumption)
    rw [hc]
    first | ((with_reducible refine zx_icmpltN zd48_9 ?s6 (fun h2 => ?_) (fun h2 => ?_)); (case s6 => omega)) | refine zx_icmplt zd48_9 (fun h2 => ?_) (fun h2 => ?_)
    · refine zx_al0 zd48_22 ?_
      (refine' zx_gfA zd48_23 ?k8 ?r8 ?_); (case k8 => first | exact zkk rfl (by omega) | exact zkk (zK_B0 (by omega)) (by omega) | exact zkk ((zK_B (by omega) (by decide)).trans rfl) (by omega) | exact zkk (zK_row (by omega) (by omega)) (by omega) | exact zkk (zK_file (by omega) (by omega)) (by omega) | exact zkk (zK_byte (by omega) (by omega)) (by omega) | exact zkk (zK_list (by omega)) (by omega) | assumption); (case r8 => first | exact hR.1 _ _ _ rfl | exact hR.2.1 _ (by omega) | exact (hR.2.2.2 _ (by omega)).1.1 | exact (hR.2.2.2 _ (by omega)).1.2.1 | exact (hR.2.2.2 _ (by omega)).1.2.2 | exact (hR.2.2.2 _ (by omega)).2.1.1 | exact (hR.2.2.2 _ (by omega)).2.1.2 | exact (hR.2.2.2 _ (by omega)).2.2.1 _ (by omega) | exact (hR.2.2.2 _ (by omega)).2.2.2 _ (by omega) | exact hR.2.2.1 _ (by omega) | assumption)
      refine zx_il1 zd48_26 ?_
      first | ((with_reducible refine' zx_aaldAN zd48_27 ?k10 ?j10 ?r10 ?_); (case k10 => first | exact zkk rfl (by omega) | exact zkk (zK_B0 (by omega)) (by omega) | exact zkk ((zK_B (by omega) (by decide)).trans rfl) (by omega) | exact zkk (zK_row (by omega) (by omega)) (by omega) | exact zkk (zK_file (by omega) (by omega)) (by omega) | exact zkk (zK_byte (by omega) (by omega)) (by omega) | exact zkk (zK_list (by omega)) (by omega) | assumption); (case j10 => omega); (case r10 => first | exact hR.1 _ _ _ rfl | exact hR.2.1 _ (by omega) | exact (hR.2.2.2 _ (by omega)).1.1 | exact (hR.2.2.2 _ (by omega)).1.2.1 | exact (hR.2.2.2 _ (by omega)).1.2.2 | exact (hR.2.2.2 _ (by omega)).2.1.1 | exact (hR.2.2.2 _ (by omega)).2.1.2 | exact (hR.2.2.2 _ (by omega)).2.2.1 _ (by omega) | exact (hR.2.2.2 _ (by omega)).2.2.2 _ (by omega) | exact hR.2.2.1 _ (by omega) | assumption)) | ((with_reducible refine' zx_aaldON zd48_27 ?k10 ?j10 ?r10 ?_); (case k10 => first | exact zkk rfl (by omega) | exact zkk (zK_B0 (by omega)) (by omega) | exact zkk ((zK_B (by omega) (by decide)).trans rfl) (by omega) | exact zkk (zK_row (by omega) (by omega)) (by omega) | exact zkk (zK_file (by omega) (by omega)) (by omega) | exact zkk (zK_byte (by omega) (by omega)) (by omega) | exact zkk (zK_list (by omega)) (by omega) | assumption); (case j10 => omega); (case r10 => first | exact hR.1 _ _ _ rfl | exact hR.2.1 _ (by omega) | exact (hR.2.2.2 _ (by omega)).1.1 | exact (hR.2.2.2 _ (by omega)).1.2.1 | exact (hR.2.2.2 _ (by omega)).1.2.2 | exact (hR.2.2.2 _ (by omega)).2.1.1 | exact (hR.2.2.2 _ (by omega)).2.1.2 | exact (hR.2.2.2 _ (by omega)).2.2.1 _ (by omega) | exact (hR.2.2.2 _ (by omega)).2.2.2 _ (by omega) | exact hR.2.2.1 _ (by omega) | assumption))
      refine zx_aret zd48_28 rfl rfl ?_
      exact ⟨rfl, rfl⟩
    · omega
theorem zc_crT (hN : 646 ≤ N) (hc : I 3 2 = Int32.ofNat c) {x : Int32} (hx : x < 0 ∨ ¬ x < Int32.ofNat c) : zThr L 48 [.ref 3, .int x] (N, U, I, J, R) (1, N) (N + 1, U + 6, I, J, R) := by
  show zW L 48 0 [some (.ref 3), some (.int x)] [] _ _
  refine zx_il1 zd48_0 ?_
  first | ((with_reducible refine zx_ifltN zd48_1 ?s13 (fun h => ?_) (fun h => ?_)); (case s13 => omega)) | refine zx_iflt zd48_1 (fun h => ?_) (fun h => ?_)
  · refine zx_throw zd48_12 (zK_top (by omega)) rfl ?_
    exact ⟨rfl, rfl⟩
  · refine zx_il1 zd48_4 ?_
    refine zx_al0 zd48_5 ?_
    (refine zx_gfI zd48_6 ?k17 ?_); (case k17 => first | exact zkk rfl (by omega) | exact zkk (zK_B0 (by omega)) (by omega) | exact zkk ((zK_B (by omega) (by decide)).trans rfl) (by omega) | exact zkk (zK_row (by omega) (by omega)) (by omega) | exact zkk (zK_file (by omega) (by omega)) (by omega) | exact zkk (zK_byte (by omega) (by omega)) (by omega) | exact zkk (zK_list (by omega)) (by omega) | assumption)
    rw [hc]
    refine zx_icmplt zd48_9 (fun h2 => ?_) (fun h2 => ?_)
    · rcases hx with hx | hx
      · exact absurd hx h
      · exact absurd h2 hx
    · refine zx_throw zd48_12 (zK_top (by omega)) rfl ?_
      exact ⟨rfl, rfl⟩
theorem zc_rd {h : zHp} {i : Nat} (hi : i < 32) : zRet L 49 [.int (Int32.ofNat i)] h none h := by
  show zW L 49 0 [some (.int (Int32.ofNat i))] [] _ _
  refine zx_il0 zd49_0 ?_
  first | ((with_reducible refine zx_ifltN zd49_1 ?s20 (fun h => ?_) (fun h => ?_)); (case s20 => omega)) | refine zx_iflt zd49_1 (fun h => ?_) (fun h => ?_)
  · omega
  · refine zx_il0 zd49_4 ?_
    refine zx_c zd49_5 ?_
    first | ((with_reducible refine zx_icmpltN zd49_7 ?s23 (fun h2 => ?_) (fun h2 => ?_)); (case s23 => omega)) | refine zx_icmplt zd49_7 (fun h2 => ?_) (fun h2 => ?_)
    · refine zx_vret zd49_20 rfl ?_
      exact ⟨rfl, rfl⟩
    · omega
theorem zc_rdT (hN : 646 ≤ N) {x : Int32} (hx : x < 0 ∨ ¬ x < Int32.ofNat 32) : zThr L 49 [.int x] (N, U, I, J, R) (1, N) (N + 1, U + 6, I, J, R) := by
  show zW L 49 0 [some (.int x)] [] _ _
  refine zx_il0 zd49_0 ?_
  first | ((with_reducible refine zx_ifltN zd49_1 ?s26 (fun h => ?_) (fun h => ?_)); (case s26 => omega)) | refine zx_iflt zd49_1 (fun h => ?_) (fun h => ?_)
  · refine zx_throw zd49_10 (zK_top (by omega)) rfl ?_
    exact ⟨rfl, rfl⟩
  · refine zx_il0 zd49_4 ?_
    refine zx_c zd49_5 ?_
    refine zx_icmplt zd49_7 (fun h2 => ?_) (fun h2 => ?_)
    · rcases hx with hx | hx
      · exact absurd hx h
      · exact absurd h2 hx
    · refine zx_throw zd49_10 (zK_top (by omega)) rfl ?_
      exact ⟨rfl, rfl⟩
/-- hasFile; isByte; hasByte -/
theorem zc_hf (hN : 646 ≤ N) {r n j : Nat} (hr : r < 11) (hn : I (8 + 54 * r) 1 = Int32.ofNat n) (hn8 : n ≤ 8) (hj : j < n) : zRet L 44 [.ref (8 + 54 * r), .int (Int32.ofNat j)] (N, U, I, J, R) (some (.int (Int32.ofNat 1))) (N, U, I, J, R) := by
  show zW L 44 0 [some (.ref (8 + 54 * r)), some (.int (Int32.ofNat j))] [] _ _
  refine zx_il1 zd44_0 ?_
  first | ((with_reducible refine zx_ifltN zd44_1 ?s32 (fun h => ?_) (fun h => ?_)); (case s32 => omega)) | refine zx_iflt zd44_1 (fun h => ?_) (fun h => ?_)
  · omega
  · refine zx_il1 zd44_4 ?_
    refine zx_al0 zd44_5 ?_
    (refine zx_gfI zd44_6 ?k35 ?_); (case k35 => first | exact zkk rfl (by omega) | exact zkk (zK_B0 (by omega)) (by omega) | exact zkk ((zK_B (by omega) (by decide)).trans rfl) (by omega) | exact zkk (zK_row (by omega) (by omega)) (by omega) | exact zkk (zK_file (by omega) (by omega)) (by omega) | exact zkk (zK_byte (by omega) (by omega)) (by omega) | exact zkk (zK_list (by omega)) (by omega) | assumption)
    rw [hn]
    first | ((with_reducible refine zx_icmpgeN zd44_9 ?s36 (fun h2 => ?_) (fun h2 => ?_)); (case s36 => omega)) | refine zx_icmpge zd44_9 (fun h2 => ?_) (fun h2 => ?_)
    · omega
    · refine zx_c zd44_12 ?_
      refine zx_goto zd44_13 ?_
      refine zx_iret zd44_17 (Or.inr ⟨rfl, by first | exact Or.inl rfl | exact Or.inr rfl | assumption⟩) ?_
      exact ⟨rfl, rfl⟩
theorem zc_hfN (hN : 646 ≤ N) {r n : Nat} (hr : r < 11) (hn : I (8 + 54 * r) 1 = Int32.ofNat n) {x : Int32} (hx : x < 0 ∨ ¬ x < Int32.ofNat n) : zRet L 44 [.ref (8 + 54 * r), .int x] (N, U, I, J, R) (some (.int (Int32.ofNat 0))) (N, U, I, J, R) := by
  show zW L 44 0 [some (.ref (8 + 54 * r)), some (.int x)] [] _ _
  refine zx_il1 zd44_0 ?_
  first | ((with_reducible refine zx_ifltN zd44_1 ?s41 (fun h => ?_) (fun h => ?_)); (case s41 => omega)) | refine zx_iflt zd44_1 (fun h => ?_) (fun h => ?_)
  · refine zx_c zd44_16 ?_
    refine zx_iret zd44_17 (Or.inr ⟨rfl, by first | exact Or.inl rfl | exact Or.inr rfl | assumption⟩) ?_
    exact ⟨rfl, rfl⟩
  · refine zx_il1 zd44_4 ?_
    refine zx_al0 zd44_5 ?_
    (refine zx_gfI zd44_6 ?k46 ?_); (case k46 => first | exact zkk rfl (by omega) | exact zkk (zK_B0 (by omega)) (by omega) | exact zkk ((zK_B (by omega) (by decide)).trans rfl) (by omega) | exact zkk (zK_row (by omega) (by omega)) (by omega) | exact zkk (zK_file (by omega) (by omega)) (by omega) | exact zkk (zK_byte (by omega) (by omega)) (by omega) | exact zkk (zK_list (by omega)) (by omega) | assumption)
    rw [hn]
    refine zx_icmpge zd44_9 (fun h2 => ?_) (fun h2 => ?_)
    · refine zx_c zd44_16 ?_
      refine zx_iret zd44_17 (Or.inr ⟨rfl, by first | exact Or.inl rfl | exact Or.inr rfl | assumption⟩) ?_
      exact ⟨rfl, rfl⟩
    · rcases hx with hx | hx
      · exact absurd hx h
      · exact absurd h2 hx
theorem zc_ib {h : zHp} {b : Nat} (hb : b < 256) : zRet L 24 [.int (Int32.ofNat b)] h (some (.int (Int32.ofNat 1))) h := by
  show zW L 24 0 [some (.int (Int32.ofNat b))] [] _ _
  refine zx_il0 zd24_0 ?_
  first | ((with_reducible refine zx_ifltN zd24_1 ?s50 (fun h => ?_) (fun h => ?_)); (case s50 => omega)) | refine zx_iflt zd24_1 (fun h => ?_) (fun h => ?_)
  · omega
  · refine zx_il0 zd24_4 ?_
    refine zx_c zd24_5 ?_
    first | ((with_reducible refine zx_icmpgtN zd24_8 ?s53 (fun h2 => ?_) (fun h2 => ?_)); (case s53 => omega)) | refine zx_icmpgt zd24_8 (fun h2 => ?_) (fun h2 => ?_)
    · omega
    · refine zx_c zd24_11 ?_
      refine zx_goto zd24_12 ?_
      refine zx_iret zd24_16 (Or.inr ⟨rfl, by first | exact Or.inl rfl | exact Or.inr rfl | assumption⟩) ?_
      exact ⟨rfl, rfl⟩
theorem zn_le {x : Int32} {c : Nat} (hc : c + 1 < 2147483648) : Int32.ofNat c < x ↔ ¬ x < Int32.ofNat (c + 1) := by
  constructor
  · intro h h2
    have h0 : ¬ x < 0 := by
      intro h3
      have : (0 : Int32) ≤ Int32.ofNat c := zn_nn (by omega)
      exact absurd (Int32.lt_of_lt_of_le h3 this) (Int32.lt_asymm h)
    obtain ⟨r, rfl, hr⟩ := zn_of h0 h2 hc
    rw [zn_lt (by omega) (by omega)] at h
    omega
  · intro h
    have h0 : ¬ x < 0 := by
      intro h3
      have : (0 : Int32) ≤ Int32.ofNat (c + 1) := zn_nn (by omega)
      exact h (Int32.lt_of_lt_of_le h3 this)
    have e := Int32.ofNat_toNatClampNeg x (Int32.not_lt.mp h0)
    have hb : x.toNatClampNeg < 2147483648 := Int32.toNatClampNeg_lt x
    rw [← e, zn_lt hb hc] at h
    rw [← e, zn_lt (by omega) hb]
    omega
theorem zc_ibN {h : zHp} {x : Int32} (hx : x < 0 ∨ ¬ x < Int32.ofNat 256) : zRet L 24 [.int x] h (some (.int (Int32.ofNat 0))) h := by
  show zW L 24 0 [some (.int x)] [] _ _
  refine zx_il0 zd24_0 ?_
  first | ((with_reducible refine zx_ifltN zd24_1 ?s58 (fun h => ?_) (fun h => ?_)); (case s58 => omega)) | refine zx_iflt zd24_1 (fun h => ?_) (fun h => ?_)
  · refine zx_c zd24_15 ?_
    refine zx_iret zd24_16 (Or.inr ⟨rfl, by first | exact Or.inl rfl | exact Or.inr rfl | assumption⟩) ?_
    exact ⟨rfl, rfl⟩
  · refine zx_il0 zd24_4 ?_
    refine zx_c zd24_5 ?_
    refine zx_icmpgt zd24_8 (fun h2 => ?_) (fun h2 => ?_)
    · refine zx_c zd24_15 ?_
      refine zx_iret zd24_16 (Or.inr ⟨rfl, by first | exact Or.inl rfl | exact Or.inr rfl | assumption⟩) ?_
      exact ⟨rfl, rfl⟩
    · rcases hx with hx | hx
      · exact absurd hx h
      · exact absurd ((zn_le (c := 255) (by decide)).mpr hx) h2
theorem zc_hb (hN : 646 ≤ N) {n j : Nat} (hn : I 620 1 = Int32.ofNat n) (hn8 : n ≤ 300) (hj : j < n) : zRet L 28 [.ref 620, .int (Int32.ofNat j)] (N, U, I, J, R) (some (.int (Int32.ofNat 1))) (N, U, I, J, R) := by
  show zW L 28 0 [some (.ref 620), some (.int (Int32.ofNat j))] [] _ _
  refine zx_il1 zd28_0 ?_
  first | ((with_reducible refine zx_ifltN zd28_1 ?s66 (fun h => ?_) (fun h => ?_)); (case s66 => omega)) | refine zx_iflt zd28_1 (fun h => ?_) (fun h => ?_)
  · omega
  · refine zx_il1 zd28_4 ?_
    refine zx_al0 zd28_5 ?_
    (refine zx_gfI zd28_6 ?k69 ?_); (case k69 => first | exact zkk rfl (by omega) | exact zkk (zK_B0 (by omega)) (by omega) | exact zkk ((zK_B (by omega) (by decide)).trans rfl) (by omega) | exact zkk (zK_row (by omega) (by omega)) (by omega) | exact zkk (zK_file (by omega) (by omega)) (by omega) | exact zkk (zK_byte (by omega) (by omega)) (by omega) | exact zkk (zK_list (by omega)) (by omega) | assumption)
    rw [hn]
    first | ((with_reducible refine zx_icmpgeN zd28_9 ?s70 (fun h2 => ?_) (fun h2 => ?_)); (case s70 => omega)) | refine zx_icmpge zd28_9 (fun h2 => ?_) (fun h2 => ?_)
    · omega
    · refine zx_c zd28_12 ?_
      refine zx_goto zd28_13 ?_
      refine zx_iret zd28_17 (Or.inr ⟨rfl, by first | exact Or.inl rfl | exact Or.inr rfl | assumption⟩) ?_
      exact ⟨rfl, rfl⟩
theorem zc_hbN (hN : 646 ≤ N) {n : Nat} (hn : I 620 1 = Int32.ofNat n) {x : Int32} (hx : x < 0 ∨ ¬ x < Int32.ofNat n) : zRet L 28 [.ref 620, .int x] (N, U, I, J, R) (some (.int (Int32.ofNat 0))) (N, U, I, J, R) := by
  show zW L 28 0 [some (.ref 620), some (.int x)] [] _ _
  refine zx_il1 zd28_0 ?_
  first | ((with_reducible refine zx_ifltN zd28_1 ?s75 (fun h => ?_) (fun h => ?_)); (case s75 => omega)) | refine zx_iflt zd28_1 (fun h => ?_) (fun h => ?_)
  · refine zx_c zd28_16 ?_
    refine zx_iret zd28_17 (Or.inr ⟨rfl, by first | exact Or.inl rfl | exact Or.inr rfl | assumption⟩) ?_
    exact ⟨rfl, rfl⟩
  · refine zx_il1 zd28_4 ?_
    refine zx_al0 zd28_5 ?_
    (refine zx_gfI zd28_6 ?k80 ?_); (case k80 => first | exact zkk rfl (by omega) | exact zkk (zK_B0 (by omega)) (by omega) | exact zkk ((zK_B (by omega) (by decide)).trans rfl) (by omega) | exact zkk (zK_row (by omega) (by omega)) (by omega) | exact zkk (zK_file (by omega) (by omega)) (by omega) | exact zkk (zK_byte (by omega) (by omega)) (by omega) | exact zkk (zK_list (by omega)) (by omega) | assumption)
    rw [hn]
    refine zx_icmpge zd28_9 (fun h2 => ?_) (fun h2 => ?_)
    · refine zx_c zd28_16 ?_
      refine zx_iret zd28_17 (Or.inr ⟨rfl, by first | exact Or.inl rfl | exact Or.inr rfl | assumption⟩) ?_
      exact ⟨rfl, rfl⟩
    · rcases hx with hx | hx
      · exact absurd hx h
      · exact absurd h2 hx
/-- releaseWithLeaf -/
theorem zc_rl (hR : zRs R) (hN : 646 ≤ N) (hc : I 3 2 = Int32.ofNat c) (hc10 : c ≤ 10) {r n j : Nat} (hr : r < c) (hn : I (8 + 54 * r) 1 = Int32.ofNat n) (hn8 : n ≤ 8) (hj : j < n) : zRet L 52 [.ref 3, .int (Int32.ofNat r), .int (Int32.ofNat j)] (N, U, I, J, R) (some (.ref (8 + 54 * r))) (N, U, I, J, R) := by
  show zW L 52 0 [some (.ref 3), some (.int (Int32.ofNat r)), some (.int (Int32.ofNat j)), none] [] _ _
  refine zx_al0 zd52_0 ?_
  refine zx_il1 zd52_1 ?_
  (refine zx_cv1R zd52_2 ?k85 (zc_cr hR hN hc hc10 hr) ?_); (case k85 => first | exact zkk rfl (by omega) | exact zkk (zK_B0 (by omega)) (by omega) | exact zkk ((zK_B (by omega) (by decide)).trans rfl) (by omega) | exact zkk (zK_row (by omega) (by omega)) (by omega) | exact zkk (zK_file (by omega) (by omega)) (by omega) | exact zkk (zK_byte (by omega) (by omega)) (by omega) | exact zkk (zK_list (by omega)) (by omega) | assumption)
  refine zx_as3 zd52_5 rfl ?_
  refine zx_al3 zd52_6 ?_
  refine zx_il2 zd52_7 ?_
  (refine zx_cv1I zd52_8 ?k89 (zc_hf hN (by omega) hn hn8 hj) ?_); (case k89 => first | exact zkk rfl (by omega) | exact zkk (zK_B0 (by omega)) (by omega) | exact zkk ((zK_B (by omega) (by decide)).trans rfl) (by omega) | exact zkk (zK_row (by omega) (by omega)) (by omega) | exact zkk (zK_file (by omega) (by omega)) (by omega) | exact zkk (zK_byte (by omega) (by omega)) (by omega) | exact zkk (zK_list (by omega)) (by omega) | assumption)
  first | ((with_reducible refine zx_ifneN zd52_11 ?s90 (fun h => ?_) (fun h => ?_)); (case s90 => omega)) | refine zx_ifne zd52_11 (fun h => ?_) (fun h => ?_)
  · refine zx_al3 zd52_24 ?_
    refine zx_aret zd52_25 rfl rfl ?_
    exact ⟨rfl, rfl⟩
  · omega
theorem zc_rlT1 (hN : 646 ≤ N) (hc : I 3 2 = Int32.ofNat c) {x y : Int32} (hx : x < 0 ∨ ¬ x < Int32.ofNat c) : zThr L 52 [.ref 3, .int x, .int y] (N, U, I, J, R) (1, N) (N + 1, U + 6, I, J, R) := by
  show zW L 52 0 [some (.ref 3), some (.int x), some (.int y), none] [] _ _
  refine zx_al0 zd52_0 ?_
  refine zx_il1 zd52_1 ?_
  (refine zx_ct1v zd52_2 ?k95 (zc_crT hN hc hx) ?_); (case k95 => first | exact zkk rfl (by omega) | exact zkk (zK_B0 (by omega)) (by omega) | exact zkk ((zK_B (by omega) (by decide)).trans rfl) (by omega) | exact zkk (zK_row (by omega) (by omega)) (by omega) | exact zkk (zK_file (by omega) (by omega)) (by omega) | exact zkk (zK_byte (by omega) (by omega)) (by omega) | exact zkk (zK_list (by omega)) (by omega) | assumption)
  exact ⟨rfl, rfl, rfl⟩
theorem zc_rlT2 (hR : zRs R) (hN : 646 ≤ N) (hc : I 3 2 = Int32.ofNat c) (hc10 : c ≤ 10) {r n : Nat} {y : Int32} (hr : r < c) (hn : I (8 + 54 * r) 1 = Int32.ofNat n) (hy : y < 0 ∨ ¬ y < Int32.ofNat n) : zThr L 52 [.ref 3, .int (Int32.ofNat r), .int y] (N, U, I, J, R) (1, N) (N + 1, U + 6, I, J, R) := by
  show zW L 52 0 [some (.ref 3), some (.int (Int32.ofNat r)), some (.int y), none] [] _ _
  refine zx_al0 zd52_0 ?_
  refine zx_il1 zd52_1 ?_
  (refine zx_cv1R zd52_2 ?k98 (zc_cr hR hN hc hc10 hr) ?_); (case k98 => first | exact zkk rfl (by omega) | exact zkk (zK_B0 (by omega)) (by omega) | exact zkk ((zK_B (by omega) (by decide)).trans rfl) (by omega) | exact zkk (zK_row (by omega) (by omega)) (by omega) | exact zkk (zK_file (by omega) (by omega)) (by omega) | exact zkk (zK_byte (by omega) (by omega)) (by omega) | exact zkk (zK_list (by omega)) (by omega) | assumption)
  refine zx_as3 zd52_5 rfl ?_
  refine zx_al3 zd52_6 ?_
  refine zx_il2 zd52_7 ?_
  (refine zx_cv1I zd52_8 ?k102 (zc_hfN hN (by omega) hn hy) ?_); (case k102 => first | exact zkk rfl (by omega) | exact zkk (zK_B0 (by omega)) (by omega) | exact zkk ((zK_B (by omega) (by decide)).trans rfl) (by omega) | exact zkk (zK_row (by omega) (by omega)) (by omega) | exact zkk (zK_file (by omega) (by omega)) (by omega) | exact zkk (zK_byte (by omega) (by omega)) (by omega) | exact zkk (zK_list (by omega)) (by omega) | assumption)
  first | ((with_reducible refine zx_ifneN zd52_11 ?s103 (fun h => ?_) (fun h => ?_)); (case s103 => omega)) | refine zx_ifne zd52_11 (fun h => ?_) (fun h => ?_)
  · omega
  · refine zx_throw zd52_14 (zK_top (by omega)) rfl ?_
    exact ⟨rfl, rfl⟩
/-- rows of the tree -/
theorem zc_node (hR : zRs R) (hN : 646 ≤ N) {r w i : Nat} (hr : r < 11) (hw : w * 8 + i < 32) : zRet L 17 [.ref (8 + 54 * r + 2), .int (Int32.ofNat w), .int (Int32.ofNat i)] (N, U, I, J, R) (some (.ref (8 + 54 * r + 4 + (w * 8 + i)))) (N, U, I, J, R) := by
  show zW L 17 0 [some (.ref (8 + 54 * r + 2)), some (.int (Int32.ofNat w)), some (.int (Int32.ofNat i))] [] _ _
  refine zx_al0 zd17_0 ?_
  (refine' zx_gfA zd17_1 ?k106 ?r106 ?_); (case k106 => first | exact zkk rfl (by omega) | exact zkk (zK_B0 (by omega)) (by omega) | exact zkk ((zK_B (by omega) (by decide)).trans rfl) (by omega) | exact zkk (zK_row (by omega) (by omega)) (by omega) | exact zkk (zK_file (by omega) (by omega)) (by omega) | exact zkk (zK_byte (by omega) (by omega)) (by omega) | exact zkk (zK_list (by omega)) (by omega) | assumption); (case r106 => first | exact hR.1 _ _ _ rfl | exact hR.2.1 _ (by omega) | exact (hR.2.2.2 _ (by omega)).1.1 | exact (hR.2.2.2 _ (by omega)).1.2.1 | exact (hR.2.2.2 _ (by omega)).1.2.2 | exact (hR.2.2.2 _ (by omega)).2.1.1 | exact (hR.2.2.2 _ (by omega)).2.1.2 | exact (hR.2.2.2 _ (by omega)).2.2.1 _ (by omega) | exact (hR.2.2.2 _ (by omega)).2.2.2 _ (by omega) | exact hR.2.2.1 _ (by omega) | assumption)
  refine zx_il1 zd17_4 ?_
  refine zx_c zd17_5 ?_
  first | with_reducible refine zx_mulN zd17_7 ?_ | refine zx_mul zd17_7 ?_
  refine zx_il2 zd17_8 ?_
  first | with_reducible refine zx_addN zd17_9 ?_ | refine zx_add zd17_9 ?_
  first | ((with_reducible refine' zx_aaldAN zd17_10 ?k112 ?j112 ?r112 ?_); (case k112 => first | exact zkk rfl (by omega) | exact zkk (zK_B0 (by omega)) (by omega) | exact zkk ((zK_B (by omega) (by decide)).trans rfl) (by omega) | exact zkk (zK_row (by omega) (by omega)) (by omega) | exact zkk (zK_file (by omega) (by omega)) (by omega) | exact zkk (zK_byte (by omega) (by omega)) (by omega) | exact zkk (zK_list (by omega)) (by omega) | assumption); (case j112 => omega); (case r112 => first | exact hR.1 _ _ _ rfl | exact hR.2.1 _ (by omega) | exact (hR.2.2.2 _ (by omega)).1.1 | exact (hR.2.2.2 _ (by omega)).1.2.1 | exact (hR.2.2.2 _ (by omega)).1.2.2 | exact (hR.2.2.2 _ (by omega)).2.1.1 | exact (hR.2.2.2 _ (by omega)).2.1.2 | exact (hR.2.2.2 _ (by omega)).2.2.1 _ (by omega) | exact (hR.2.2.2 _ (by omega)).2.2.2 _ (by omega) | exact hR.2.2.1 _ (by omega) | assumption)) | ((with_reducible refine' zx_aaldON zd17_10 ?k112 ?j112 ?r112 ?_); (case k112 => first | exact zkk rfl (by omega) | exact zkk (zK_B0 (by omega)) (by omega) | exact zkk ((zK_B (by omega) (by decide)).trans rfl) (by omega) | exact zkk (zK_row (by omega) (by omega)) (by omega) | exact zkk (zK_file (by omega) (by omega)) (by omega) | exact zkk (zK_byte (by omega) (by omega)) (by omega) | exact zkk (zK_list (by omega)) (by omega) | assumption); (case j112 => omega); (case r112 => first | exact hR.1 _ _ _ rfl | exact hR.2.1 _ (by omega) | exact (hR.2.2.2 _ (by omega)).1.1 | exact (hR.2.2.2 _ (by omega)).1.2.1 | exact (hR.2.2.2 _ (by omega)).1.2.2 | exact (hR.2.2.2 _ (by omega)).2.1.1 | exact (hR.2.2.2 _ (by omega)).2.1.2 | exact (hR.2.2.2 _ (by omega)).2.2.1 _ (by omega) | exact (hR.2.2.2 _ (by omega)).2.2.2 _ (by omega) | exact hR.2.2.1 _ (by omega) | assumption))
  refine zx_aret zd17_11 rfl rfl ?_
  exact ⟨rfl, rfl⟩
theorem zc_top (hR : zRs R) (hN : 646 ≤ N) {r t : Nat} (hr : r < 11) (ht : I (8 + 54 * r + 2) 2 = Int32.ofNat t) (h4 : t < 4) : zRet L 22 [.ref (8 + 54 * r + 2)] (N, U, I, J, R) (some (.ref (8 + 54 * r + 4 + t * 8))) (N, U, I, J, R) := by
  show zW L 22 0 [some (.ref (8 + 54 * r + 2))] [] _ _
  refine zx_al0 zd22_0 ?_
  refine zx_al0 zd22_1 ?_
  (refine zx_gfI zd22_2 ?k116 ?_); (case k116 => first | exact zkk rfl (by omega) | exact zkk (zK_B0 (by omega)) (by omega) | exact zkk ((zK_B (by omega) (by decide)).trans rfl) (by omega) | exact zkk (zK_row (by omega) (by omega)) (by omega) | exact zkk (zK_file (by omega) (by omega)) (by omega) | exact zkk (zK_byte (by omega) (by omega)) (by omega) | exact zkk (zK_list (by omega)) (by omega) | assumption)
  rw [ht]
  refine zx_c zd22_5 ?_
  (refine zx_cv2R zd22_6 ?k118 (zc_node hR hN hr (by omega)) ?_); (case k118 => first | exact zkk rfl (by omega) | exact zkk (zK_B0 (by omega)) (by omega) | exact zkk ((zK_B (by omega) (by decide)).trans rfl) (by omega) | exact zkk (zK_row (by omega) (by omega)) (by omega) | exact zkk (zK_file (by omega) (by omega)) (by omega) | exact zkk (zK_byte (by omega) (by omega)) (by omega) | exact zkk (zK_list (by omega)) (by omega) | assumption)
  refine zx_aret zd22_9 rfl rfl ?_
  exact ⟨rfl, rfl⟩
/-- root -/
theorem zc_root (hR : zRs R) (hN : 646 ≤ N) (hc : I 3 2 = Int32.ofNat c) (hc10 : c ≤ 10) {r i t : Nat} (hr : r < c) (hi : i < 32) (ht : I (8 + 54 * r + 2) 2 = Int32.ofNat t) (h4 : t < 4) : zRet L 47 [.ref 3, .int (Int32.ofNat r), .int (Int32.ofNat i)] (N, U, I, J, R) (some (.int (I (8 + 54 * r + 4 + t * 8) i))) (N, U, I, J, R) := by
  show zW L 47 0 [some (.ref 3), some (.int (Int32.ofNat r)), some (.int (Int32.ofNat i)), none] [] _ _
  refine zx_al0 zd47_0 ?_
  refine zx_il1 zd47_1 ?_
  (refine zx_cv1R zd47_2 ?k122 (zc_cr hR hN hc hc10 hr) ?_); (case k122 => first | exact zkk rfl (by omega) | exact zkk (zK_B0 (by omega)) (by omega) | exact zkk ((zK_B (by omega) (by decide)).trans rfl) (by omega) | exact zkk (zK_row (by omega) (by omega)) (by omega) | exact zkk (zK_file (by omega) (by omega)) (by omega) | exact zkk (zK_byte (by omega) (by omega)) (by omega) | exact zkk (zK_list (by omega)) (by omega) | assumption)
  refine zx_as3 zd47_5 rfl ?_
  refine zx_il2 zd47_6 ?_
  refine zx_cs1V zd47_7 (zc_rd hi) ?_
  refine zx_al3 zd47_10 ?_
  (refine' zx_gfO zd47_11 ?k127 ?r127 ?_); (case k127 => first | exact zkk rfl (by omega) | exact zkk (zK_B0 (by omega)) (by omega) | exact zkk ((zK_B (by omega) (by decide)).trans rfl) (by omega) | exact zkk (zK_row (by omega) (by omega)) (by omega) | exact zkk (zK_file (by omega) (by omega)) (by omega) | exact zkk (zK_byte (by omega) (by omega)) (by omega) | exact zkk (zK_list (by omega)) (by omega) | assumption); (case r127 => first | exact hR.1 _ _ _ rfl | exact hR.2.1 _ (by omega) | exact (hR.2.2.2 _ (by omega)).1.1 | exact (hR.2.2.2 _ (by omega)).1.2.1 | exact (hR.2.2.2 _ (by omega)).1.2.2 | exact (hR.2.2.2 _ (by omega)).2.1.1 | exact (hR.2.2.2 _ (by omega)).2.1.2 | exact (hR.2.2.2 _ (by omega)).2.2.1 _ (by omega) | exact (hR.2.2.2 _ (by omega)).2.2.2 _ (by omega) | exact hR.2.2.1 _ (by omega) | assumption)
  (refine zx_cv0R zd47_14 ?k128 (zc_top hR hN (by omega) ht h4) ?_); (case k128 => first | exact zkk rfl (by omega) | exact zkk (zK_B0 (by omega)) (by omega) | exact zkk ((zK_B (by omega) (by decide)).trans rfl) (by omega) | exact zkk (zK_row (by omega) (by omega)) (by omega) | exact zkk (zK_file (by omega) (by omega)) (by omega) | exact zkk (zK_byte (by omega) (by omega)) (by omega) | exact zkk (zK_list (by omega)) (by omega) | assumption)
  refine zx_il2 zd47_17 ?_
  (with_reducible refine' zx_ialdN zd47_18 ?k130 ?j130 ?_); (case k130 => first | exact zkk rfl (by omega) | exact zkk (zK_B0 (by omega)) (by omega) | exact zkk ((zK_B (by omega) (by decide)).trans rfl) (by omega) | exact zkk (zK_row (by omega) (by omega)) (by omega) | exact zkk (zK_file (by omega) (by omega)) (by omega) | exact zkk (zK_byte (by omega) (by omega)) (by omega) | exact zkk (zK_list (by omega)) (by omega) | assumption); (case j130 => omega)
  refine zx_iret zd47_19 (Or.inl rfl) ?_
  exact ⟨rfl, rfl⟩
theorem zc_rootT1 (hN : 646 ≤ N) (hc : I 3 2 = Int32.ofNat c) {x y : Int32} (hx : x < 0 ∨ ¬ x < Int32.ofNat c) : zThr L 47 [.ref 3, .int x, .int y] (N, U, I, J, R) (1, N) (N + 1, U + 6, I, J, R) := by
  show zW L 47 0 [some (.ref 3), some (.int x), some (.int y), none] [] _ _
  refine zx_al0 zd47_0 ?_
  refine zx_il1 zd47_1 ?_
  (refine zx_ct1v zd47_2 ?k134 (zc_crT hN hc hx) ?_); (case k134 => first | exact zkk rfl (by omega) | exact zkk (zK_B0 (by omega)) (by omega) | exact zkk ((zK_B (by omega) (by decide)).trans rfl) (by omega) | exact zkk (zK_row (by omega) (by omega)) (by omega) | exact zkk (zK_file (by omega) (by omega)) (by omega) | exact zkk (zK_byte (by omega) (by omega)) (by omega) | exact zkk (zK_list (by omega)) (by omega) | assumption)
  exact ⟨rfl, rfl, rfl⟩
theorem zc_rootT2 (hR : zRs R) (hN : 646 ≤ N) (hc : I 3 2 = Int32.ofNat c) (hc10 : c ≤ 10) {r : Nat} {y : Int32} (hr : r < c) (hy : y < 0 ∨ ¬ y < Int32.ofNat 32) : zThr L 47 [.ref 3, .int (Int32.ofNat r), .int y] (N, U, I, J, R) (1, N) (N + 1, U + 6, I, J, R) := by
  show zW L 47 0 [some (.ref 3), some (.int (Int32.ofNat r)), some (.int y), none] [] _ _
  refine zx_al0 zd47_0 ?_
  refine zx_il1 zd47_1 ?_
  (refine zx_cv1R zd47_2 ?k137 (zc_cr hR hN hc hc10 hr) ?_); (case k137 => first | exact zkk rfl (by omega) | exact zkk (zK_B0 (by omega)) (by omega) | exact zkk ((zK_B (by omega) (by decide)).trans rfl) (by omega) | exact zkk (zK_row (by omega) (by omega)) (by omega) | exact zkk (zK_file (by omega) (by omega)) (by omega) | exact zkk (zK_byte (by omega) (by omega)) (by omega) | exact zkk (zK_list (by omega)) (by omega) | assumption)
  refine zx_as3 zd47_5 rfl ?_
  refine zx_il2 zd47_6 ?_
  refine zx_ct1s zd47_7 (zc_rdT hN hy) ?_
  exact ⟨rfl, rfl, rfl⟩
end ZC1
