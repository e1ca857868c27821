/-! THE CLASS: small methods -/
theorem zn_of {x : Int32} {c : Nat} (h0 : ¬ x < 0) (h1 : x < Int32.ofNat c) (hc : c < 2147483648) : ∃ r, x = Int32.ofNat r ∧ r < c := by
  have h0' : 0 ≤ x := Int32.not_lt.mp h0
  have e := Int32.ofNat_toNatClampNeg x h0'
  have hb : x.toNatClampNeg < 2147483648 := Int32.toNatClampNeg_lt x
  refine ⟨x.toNatClampNeg, e.symm, ?_⟩
  rw [← e, zn_lt hb hc] at h1
  exact h1
section ZC1
variable {L N U : Nat} {I : zI} {J : zJ} {R : zR} {c : Nat}
theorem zc_cr (hR : zRs R) (hN : 459 ≤ N) (hc : I 3 2 = Int32.ofNat c) (hc10 : c ≤ 10) {r : Nat} (hr : r < c) : zRet L 49 [.ref 3, .int (Int32.ofNat r)] (N, U, I, J, R) (some (.ref (8 + 37 * r))) (N, U, I, J, R) := by
  show zW L 49 0 [some (.ref 3), some (.int (Int32.ofNat r))] [] _ _
  refine zx_il1 zd49_0 ?_
  first | ((with_reducible refine zx_ifltN zd49_1 ?s2 (fun h => ?_) (fun h => ?_)); (case s2 => omega)) | refine zx_iflt zd49_1 (fun h => ?_) (fun h => ?_)
  · omega
  · refine zx_il1 zd49_4 ?_
    refine zx_al0 zd49_5 ?_
    (refine zx_gfI zd49_6 ?k5 ?_); (case k5 => first | exact zkk rfl (by omega) | exact zkk (zK_B0 (by omega)) (by omega) | exact zkk ((zK_B (by omega) (by decide)).trans rfl) (by omega) | exact zkk (zK_row (by omega) (by omega)) (by omega) | exact zkk (zK_file (by omega) (by omega)) (by omega) | exact zkk (zK_byte (by omega) (by omega)) (by omega) | exact zkk (zK_list (by omega)) (by omega) | assumption)
    rw [hc]
    first | ((with_reducible refine zx_icmpltN zd49_9 ?s6 (fun h2 => ?_) (fun h2 => ?_)); (case s6 => omega)) | refine zx_icmplt zd49_9 (fun h2 => ?_) (fun h2 => ?_)
    · refine zx_al0 zd49_22 ?_
      (refine' zx_gfA zd49_23 ?k8 ?r8 ?_); (case k8 => first | exact zkk rfl (by omega) | exact zkk (zK_B0 (by omega)) (by omega) | exact zkk ((zK_B (by omega) (by decide)).trans rfl) (by omega) | exact zkk (zK_row (by omega) (by omega)) (by omega) | exact zkk (zK_file (by omega) (by omega)) (by omega) | exact zkk (zK_byte (by omega) (by omega)) (by omega) | exact zkk (zK_list (by omega)) (by omega) | assumption); (case r8 => first | exact hR.1 _ _ _ rfl | exact hR.2.1 _ (by omega) | exact (hR.2.2.2 _ (by omega)).1.1 | exact (hR.2.2.2 _ (by omega)).1.2.1 | exact (hR.2.2.2 _ (by omega)).1.2.2 | exact (hR.2.2.2 _ (by omega)).2.1.1 | exact (hR.2.2.2 _ (by omega)).2.1.2 | exact (hR.2.2.2 _ (by omega)).2.2.1 _ (by omega) | exact (hR.2.2.2 _ (by omega)).2.2.2 _ (by omega) | exact hR.2.2.1 _ (by omega) | assumption)
      refine zx_il1 zd49_26 ?_
      first | ((with_reducible refine' zx_aaldAN zd49_27 ?k10 ?j10 ?r10 ?_); (case k10 => first | exact zkk rfl (by omega) | exact zkk (zK_B0 (by omega)) (by omega) | exact zkk ((zK_B (by omega) (by decide)).trans rfl) (by omega) | exact zkk (zK_row (by omega) (by omega)) (by omega) | exact zkk (zK_file (by omega) (by omega)) (by omega) | exact zkk (zK_byte (by omega) (by omega)) (by omega) | exact zkk (zK_list (by omega)) (by omega) | assumption); (case j10 => omega); (case r10 => first | exact hR.1 _ _ _ rfl | exact hR.2.1 _ (by omega) | exact (hR.2.2.2 _ (by omega)).1.1 | exact (hR.2.2.2 _ (by omega)).1.2.1 | exact (hR.2.2.2 _ (by omega)).1.2.2 | exact (hR.2.2.2 _ (by omega)).2.1.1 | exact (hR.2.2.2 _ (by omega)).2.1.2 | exact (hR.2.2.2 _ (by omega)).2.2.1 _ (by omega) | exact (hR.2.2.2 _ (by omega)).2.2.2 _ (by omega) | exact hR.2.2.1 _ (by omega) | assumption)) | ((with_reducible refine' zx_aaldON zd49_27 ?k10 ?j10 ?r10 ?_); (case k10 => first | exact zkk rfl (by omega) | exact zkk (zK_B0 (by omega)) (by omega) | exact zkk ((zK_B (by omega) (by decide)).trans rfl) (by omega) | exact zkk (zK_row (by omega) (by omega)) (by omega) | exact zkk (zK_file (by omega) (by omega)) (by omega) | exact zkk (zK_byte (by omega) (by omega)) (by omega) | exact zkk (zK_list (by omega)) (by omega) | assumption); (case j10 => omega); (case r10 => first | exact hR.1 _ _ _ rfl | exact hR.2.1 _ (by omega) | exact (hR.2.2.2 _ (by omega)).1.1 | exact (hR.2.2.2 _ (by omega)).1.2.1 | exact (hR.2.2.2 _ (by omega)).1.2.2 | exact (hR.2.2.2 _ (by omega)).2.1.1 | exact (hR.2.2.2 _ (by omega)).2.1.2 | exact (hR.2.2.2 _ (by omega)).2.2.1 _ (by omega) | exact (hR.2.2.2 _ (by omega)).2.2.2 _ (by omega) | exact hR.2.2.1 _ (by omega) | assumption))
      refine zx_aret zd49_28 rfl rfl ?_
      exact ⟨rfl, rfl⟩
    · omega
theorem zc_crT (hN : 459 ≤ N) (hc : I 3 2 = Int32.ofNat c) {x : Int32} (hx : x < 0 ∨ ¬ x < Int32.ofNat c) : zThr L 49 [.ref 3, .int x] (N, U, I, J, R) (1, N) (N + 1, U + 6, I, J, R) := by
  show zW L 49 0 [some (.ref 3), some (.int x)] [] _ _
  refine zx_il1 zd49_0 ?_
  first | ((with_reducible refine zx_ifltN zd49_1 ?s13 (fun h => ?_) (fun h => ?_)); (case s13 => omega)) | refine zx_iflt zd49_1 (fun h => ?_) (fun h => ?_)
  · refine zx_throw zd49_12 (zK_top (by omega)) rfl ?_
    exact ⟨rfl, rfl⟩
  · refine zx_il1 zd49_4 ?_
    refine zx_al0 zd49_5 ?_
    (refine zx_gfI zd49_6 ?k17 ?_); (case k17 => first | exact zkk rfl (by omega) | exact zkk (zK_B0 (by omega)) (by omega) | exact zkk ((zK_B (by omega) (by decide)).trans rfl) (by omega) | exact zkk (zK_row (by omega) (by omega)) (by omega) | exact zkk (zK_file (by omega) (by omega)) (by omega) | exact zkk (zK_byte (by omega) (by omega)) (by omega) | exact zkk (zK_list (by omega)) (by omega) | assumption)
    rw [hc]
    refine zx_icmplt zd49_9 (fun h2 => ?_) (fun h2 => ?_)
    · rcases hx with hx | hx
      · exact absurd hx h
      · exact absurd h2 hx
    · refine zx_throw zd49_12 (zK_top (by omega)) rfl ?_
      exact ⟨rfl, rfl⟩
theorem zc_rd {h : zHp} {i : Nat} (hi : i < 32) : zRet L 50 [.int (Int32.ofNat i)] h none h := by
  show zW L 50 0 [some (.int (Int32.ofNat i))] [] _ _
  refine zx_il0 zd50_0 ?_
  first | ((with_reducible refine zx_ifltN zd50_1 ?s20 (fun h => ?_) (fun h => ?_)); (case s20 => omega)) | refine zx_iflt zd50_1 (fun h => ?_) (fun h => ?_)
  · omega
  · refine zx_il0 zd50_4 ?_
    refine zx_c zd50_5 ?_
    first | ((with_reducible refine zx_icmpltN zd50_7 ?s23 (fun h2 => ?_) (fun h2 => ?_)); (case s23 => omega)) | refine zx_icmplt zd50_7 (fun h2 => ?_) (fun h2 => ?_)
    · refine zx_vret zd50_20 rfl ?_
      exact ⟨rfl, rfl⟩
    · omega
theorem zc_rdT (hN : 459 ≤ N) {x : Int32} (hx : x < 0 ∨ ¬ x < Int32.ofNat 32) : zThr L 50 [.int x] (N, U, I, J, R) (1, N) (N + 1, U + 6, I, J, R) := by
  show zW L 50 0 [some (.int x)] [] _ _
  refine zx_il0 zd50_0 ?_
  first | ((with_reducible refine zx_ifltN zd50_1 ?s26 (fun h => ?_) (fun h => ?_)); (case s26 => omega)) | refine zx_iflt zd50_1 (fun h => ?_) (fun h => ?_)
  · refine zx_throw zd50_10 (zK_top (by omega)) rfl ?_
    exact ⟨rfl, rfl⟩
  · refine zx_il0 zd50_4 ?_
    refine zx_c zd50_5 ?_
    refine zx_icmplt zd50_7 (fun h2 => ?_) (fun h2 => ?_)
    · rcases hx with hx | hx
      · exact absurd hx h
      · exact absurd h2 hx
    · refine zx_throw zd50_10 (zK_top (by omega)) rfl ?_
      exact ⟨rfl, rfl⟩
/-- hasFile; isByte; hasByte -/
theorem zc_hf (hN : 459 ≤ N) {r n j : Nat} (hr : r < 11) (hn : I (8 + 37 * r) 1 = Int32.ofNat n) (hn8 : n ≤ 8) (hj : j < n) : zRet L 45 [.ref (8 + 37 * r), .int (Int32.ofNat j)] (N, U, I, J, R) (some (.int (Int32.ofNat 1))) (N, U, I, J, R) := by
  show zW L 45 0 [some (.ref (8 + 37 * r)), some (.int (Int32.ofNat j))] [] _ _
  refine zx_il1 zd45_0 ?_
  first | ((with_reducible refine zx_ifltN zd45_1 ?s32 (fun h => ?_) (fun h => ?_)); (case s32 => omega)) | refine zx_iflt zd45_1 (fun h => ?_) (fun h => ?_)
  · omega
  · refine zx_il1 zd45_4 ?_
    refine zx_al0 zd45_5 ?_
    (refine zx_gfI zd45_6 ?k35 ?_); (case k35 => first | exact zkk rfl (by omega) | exact zkk (zK_B0 (by omega)) (by omega) | exact zkk ((zK_B (by omega) (by decide)).trans rfl) (by omega) | exact zkk (zK_row (by omega) (by omega)) (by omega) | exact zkk (zK_file (by omega) (by omega)) (by omega) | exact zkk (zK_byte (by omega) (by omega)) (by omega) | exact zkk (zK_list (by omega)) (by omega) | assumption)
    rw [hn]
    first | ((with_reducible refine zx_icmpgeN zd45_9 ?s36 (fun h2 => ?_) (fun h2 => ?_)); (case s36 => omega)) | refine zx_icmpge zd45_9 (fun h2 => ?_) (fun h2 => ?_)
    · omega
    · refine zx_c zd45_12 ?_
      refine zx_goto zd45_13 ?_
      refine zx_iret zd45_17 (Or.inr ⟨rfl, by first | exact Or.inl rfl | exact Or.inr rfl | assumption⟩) ?_
      exact ⟨rfl, rfl⟩
theorem zc_hfN (hN : 459 ≤ N) {r n : Nat} (hr : r < 11) (hn : I (8 + 37 * r) 1 = Int32.ofNat n) {x : Int32} (hx : x < 0 ∨ ¬ x < Int32.ofNat n) : zRet L 45 [.ref (8 + 37 * r), .int x] (N, U, I, J, R) (some (.int (Int32.ofNat 0))) (N, U, I, J, R) := by
  show zW L 45 0 [some (.ref (8 + 37 * r)), some (.int x)] [] _ _
  refine zx_il1 zd45_0 ?_
  first | ((with_reducible refine zx_ifltN zd45_1 ?s41 (fun h => ?_) (fun h => ?_)); (case s41 => omega)) | refine zx_iflt zd45_1 (fun h => ?_) (fun h => ?_)
  · refine zx_c zd45_16 ?_
    refine zx_iret zd45_17 (Or.inr ⟨rfl, by first | exact Or.inl rfl | exact Or.inr rfl | assumption⟩) ?_
    exact ⟨rfl, rfl⟩
  · refine zx_il1 zd45_4 ?_
    refine zx_al0 zd45_5 ?_
    (refine zx_gfI zd45_6 ?k46 ?_); (case k46 => first | exact zkk rfl (by omega) | exact zkk (zK_B0 (by omega)) (by omega) | exact zkk ((zK_B (by omega) (by decide)).trans rfl) (by omega) | exact zkk (zK_row (by omega) (by omega)) (by omega) | exact zkk (zK_file (by omega) (by omega)) (by omega) | exact zkk (zK_byte (by omega) (by omega)) (by omega) | exact zkk (zK_list (by omega)) (by omega) | assumption)
    rw [hn]
    refine zx_icmpge zd45_9 (fun h2 => ?_) (fun h2 => ?_)
    · refine zx_c zd45_16 ?_
      refine zx_iret zd45_17 (Or.inr ⟨rfl, by first | exact Or.inl rfl | exact Or.inr rfl | assumption⟩) ?_
      exact ⟨rfl, rfl⟩
    · rcases hx with hx | hx
      · exact absurd hx h
      · exact absurd h2 hx
theorem zc_ib {h : zHp} {b : Nat} (hb : b < 256) : zRet L 25 [.int (Int32.ofNat b)] h (some (.int (Int32.ofNat 1))) h := by
  show zW L 25 0 [some (.int (Int32.ofNat b))] [] _ _
  refine zx_il0 zd25_0 ?_
  first | ((with_reducible refine zx_ifltN zd25_1 ?s50 (fun h => ?_) (fun h => ?_)); (case s50 => omega)) | refine zx_iflt zd25_1 (fun h => ?_) (fun h => ?_)
  · omega
  · refine zx_il0 zd25_4 ?_
    refine zx_c zd25_5 ?_
    first | ((with_reducible refine zx_icmpgtN zd25_8 ?s53 (fun h2 => ?_) (fun h2 => ?_)); (case s53 => omega)) | refine zx_icmpgt zd25_8 (fun h2 => ?_) (fun h2 => ?_)
    · omega
    · refine zx_c zd25_11 ?_
      refine zx_goto zd25_12 ?_
      refine zx_iret zd25_16 (Or.inr ⟨rfl, by first | exact Or.inl rfl | exact Or.inr rfl | assumption⟩) ?_
      exact ⟨rfl, rfl⟩
theorem zn_le {x : Int32} {c : Nat} (hc : c + 1 < 2147483648) : Int32.ofNat c < x ↔ ¬ x < Int32.ofNat (c + 1) := by
  constructor
  · intro h h2
    have h0 : ¬ x < 0 := by
      intro h3
      have : (0 : Int32) ≤ Int32.ofNat c := zn_nn (by omega)
      exact absurd (Int32.lt_of_lt_of_le h3 this) (Int32.lt_asymm h)
    obtain ⟨r, rfl, hr⟩ := zn_of h0 h2 hc
    rw [zn_lt (by omega) (by omega)] at h
    omega
  · intro h
    have h0 : ¬ x < 0 := by
      intro h3
      have : (0 : Int32) ≤ Int32.ofNat (c + 1) := zn_nn (by omega)
      exact h (Int32.lt_of_lt_of_le h3 this)
    have e := Int32.ofNat_toNatClampNeg x (Int32.not_lt.mp h0)
    have hb : x.toNatClampNeg < 2147483648 := Int32.toNatClampNeg_lt x
    rw [← e, zn_lt hb hc] at h
    rw [← e, zn_lt (by omega) hb]
    omega
theorem zc_ibN {h : zHp} {x : Int32} (hx : x < 0 ∨ ¬ x < Int32.ofNat 256) : zRet L 25 [.int x] h (some (.int (Int32.ofNat 0))) h := by
  show zW L 25 0 [some (.int x)] [] _ _
  refine zx_il0 zd25_0 ?_
  first | ((with_reducible refine zx_ifltN zd25_1 ?s58 (fun h => ?_) (fun h => ?_)); (case s58 => omega)) | refine zx_iflt zd25_1 (fun h => ?_) (fun h => ?_)
  · refine zx_c zd25_15 ?_
    refine zx_iret zd25_16 (Or.inr ⟨rfl, by first | exact Or.inl rfl | exact Or.inr rfl | assumption⟩) ?_
    exact ⟨rfl, rfl⟩
  · refine zx_il0 zd25_4 ?_
    refine zx_c zd25_5 ?_
    refine zx_icmpgt zd25_8 (fun h2 => ?_) (fun h2 => ?_)
    · refine zx_c zd25_15 ?_
      refine zx_iret zd25_16 (Or.inr ⟨rfl, by first | exact Or.inl rfl | exact Or.inr rfl | assumption⟩) ?_
      exact ⟨rfl, rfl⟩
    · rcases hx with hx | hx
      · exact absurd hx h
      · exact absurd ((zn_le (c := 255) (by decide)).mpr hx) h2
theorem zc_hb (hN : 459 ≤ N) {n j : Nat} (hn : I 433 1 = Int32.ofNat n) (hn8 : n ≤ 300) (hj : j < n) : zRet L 29 [.ref 433, .int (Int32.ofNat j)] (N, U, I, J, R) (some (.int (Int32.ofNat 1))) (N, U, I, J, R) := by
  show zW L 29 0 [some (.ref 433), some (.int (Int32.ofNat j))] [] _ _
  refine zx_il1 zd29_0 ?_
  first | ((with_reducible refine zx_ifltN zd29_1 ?s66 (fun h => ?_) (fun h => ?_)); (case s66 => omega)) | refine zx_iflt zd29_1 (fun h => ?_) (fun h => ?_)
  · omega
  · refine zx_il1 zd29_4 ?_
    refine zx_al0 zd29_5 ?_
    (refine zx_gfI zd29_6 ?k69 ?_); (case k69 => first | exact zkk rfl (by omega) | exact zkk (zK_B0 (by omega)) (by omega) | exact zkk ((zK_B (by omega) (by decide)).trans rfl) (by omega) | exact zkk (zK_row (by omega) (by omega)) (by omega) | exact zkk (zK_file (by omega) (by omega)) (by omega) | exact zkk (zK_byte (by omega) (by omega)) (by omega) | exact zkk (zK_list (by omega)) (by omega) | assumption)
    rw [hn]
    first | ((with_reducible refine zx_icmpgeN zd29_9 ?s70 (fun h2 => ?_) (fun h2 => ?_)); (case s70 => omega)) | refine zx_icmpge zd29_9 (fun h2 => ?_) (fun h2 => ?_)
    · omega
    · refine zx_c zd29_12 ?_
      refine zx_goto zd29_13 ?_
      refine zx_iret zd29_17 (Or.inr ⟨rfl, by first | exact Or.inl rfl | exact Or.inr rfl | assumption⟩) ?_
      exact ⟨rfl, rfl⟩
theorem zc_hbN (hN : 459 ≤ N) {n : Nat} (hn : I 433 1 = Int32.ofNat n) {x : Int32} (hx : x < 0 ∨ ¬ x < Int32.ofNat n) : zRet L 29 [.ref 433, .int x] (N, U, I, J, R) (some (.int (Int32.ofNat 0))) (N, U, I, J, R) := by
  show zW L 29 0 [some (.ref 433), some (.int x)] [] _ _
  refine zx_il1 zd29_0 ?_
  first | ((with_reducible refine zx_ifltN zd29_1 ?s75 (fun h => ?_) (fun h => ?_)); (case s75 => omega)) | refine zx_iflt zd29_1 (fun h => ?_) (fun h => ?_)
  · refine zx_c zd29_16 ?_
    refine zx_iret zd29_17 (Or.inr ⟨rfl, by first | exact Or.inl rfl | exact Or.inr rfl | assumption⟩) ?_
    exact ⟨rfl, rfl⟩
  · refine zx_il1 zd29_4 ?_
    refine zx_al0 zd29_5 ?_
    (refine zx_gfI zd29_6 ?k80 ?_); (case k80 => first | exact zkk rfl (by omega) | exact zkk (zK_B0 (by omega)) (by omega) | exact zkk ((zK_B (by omega) (by decide)).trans rfl) (by omega) | exact zkk (zK_row (by omega) (by omega)) (by omega) | exact zkk (zK_file (by omega) (by omega)) (by omega) | exact zkk (zK_byte (by omega) (by omega)) (by omega) | exact zkk (zK_list (by omega)) (by omega) | assumption)
    rw [hn]
    refine zx_icmpge zd29_9 (fun h2 => ?_) (fun h2 => ?_)
    · refine zx_c zd29_16 ?_
      refine zx_iret zd29_17 (Or.inr ⟨rfl, by first | exact Or.inl rfl | exact Or.inr rfl | assumption⟩) ?_
      exact ⟨rfl, rfl⟩
    · rcases hx with hx | hx
      · exact absurd hx h
      · exact absurd h2 hx
/-- releaseWithLeaf -/
theorem zc_rl (hR : zRs R) (hN : 459 ≤ N) (hc : I 3 2 = Int32.ofNat c) (hc10 : c ≤ 10) {r n j : Nat} (hr : r < c) (hn : I (8 + 37 * r) 1 = Int32.ofNat n) (hn8 : n ≤ 8) (hj : j < n) : zRet L 53 [.ref 3, .int (Int32.ofNat r), .int (Int32.ofNat j)] (N, U, I, J, R) (some (.ref (8 + 37 * r))) (N, U, I, J, R) := by
  show zW L 53 0 [some (.ref 3), some (.int (Int32.ofNat r)), some (.int (Int32.ofNat j)), none] [] _ _
  refine zx_al0 zd53_0 ?_
  refine zx_il1 zd53_1 ?_
  (refine zx_cv1R zd53_2 ?k85 (zc_cr hR hN hc hc10 hr) ?_); (case k85 => first | exact zkk rfl (by omega) | exact zkk (zK_B0 (by omega)) (by omega) | exact zkk ((zK_B (by omega) (by decide)).trans rfl) (by omega) | exact zkk (zK_row (by omega) (by omega)) (by omega) | exact zkk (zK_file (by omega) (by omega)) (by omega) | exact zkk (zK_byte (by omega) (by omega)) (by omega) | exact zkk (zK_list (by omega)) (by omega) | assumption)
  refine zx_as3 zd53_5 rfl ?_
  refine zx_al3 zd53_6 ?_
  refine zx_il2 zd53_7 ?_
  (refine zx_cv1I zd53_8 ?k89 (zc_hf hN (by omega) hn hn8 hj) ?_); (case k89 => first | exact zkk rfl (by omega) | exact zkk (zK_B0 (by omega)) (by omega) | exact zkk ((zK_B (by omega) (by decide)).trans rfl) (by omega) | exact zkk (zK_row (by omega) (by omega)) (by omega) | exact zkk (zK_file (by omega) (by omega)) (by omega) | exact zkk (zK_byte (by omega) (by omega)) (by omega) | exact zkk (zK_list (by omega)) (by omega) | assumption)
  first | ((with_reducible refine zx_ifneN zd53_11 ?s90 (fun h => ?_) (fun h => ?_)); (case s90 => omega)) | refine zx_ifne zd53_11 (fun h => ?_) (fun h => ?_)
  · refine zx_al3 zd53_24 ?_
    refine zx_aret zd53_25 rfl rfl ?_
    exact ⟨rfl, rfl⟩
  · omega
theorem zc_rlT1 (hN : 459 ≤ N) (hc : I 3 2 = Int32.ofNat c) {x y : Int32} (hx : x < 0 ∨ ¬ x < Int32.ofNat c) : zThr L 53 [.ref 3, .int x, .int y] (N, U, I, J, R) (1, N) (N + 1, U + 6, I, J, R) := by
  show zW L 53 0 [some (.ref 3), some (.int x), some (.int y), none] [] _ _
  refine zx_al0 zd53_0 ?_
  refine zx_il1 zd53_1 ?_
  (refine zx_ct1v zd53_2 ?k95 (zc_crT hN hc hx) ?_); (case k95 => first | exact zkk rfl (by omega) | exact zkk (zK_B0 (by omega)) (by omega) | exact zkk ((zK_B (by omega) (by decide)).trans rfl) (by omega) | exact zkk (zK_row (by omega) (by omega)) (by omega) | exact zkk (zK_file (by omega) (by omega)) (by omega) | exact zkk (zK_byte (by omega) (by omega)) (by omega) | exact zkk (zK_list (by omega)) (by omega) | assumption)
  exact ⟨rfl, rfl, rfl⟩
theorem zc_rlT2 (hR : zRs R) (hN : 459 ≤ N) (hc : I 3 2 = Int32.ofNat c) (hc10 : c ≤ 10) {r n : Nat} {y : Int32} (hr : r < c) (hn : I (8 + 37 * r) 1 = Int32.ofNat n) (hy : y < 0 ∨ ¬ y < Int32.ofNat n) : zThr L 53 [.ref 3, .int (Int32.ofNat r), .int y] (N, U, I, J, R) (1, N) (N + 1, U + 6, I, J, R) := by
  show zW L 53 0 [some (.ref 3), some (.int (Int32.ofNat r)), some (.int y), none] [] _ _
  refine zx_al0 zd53_0 ?_
  refine zx_il1 zd53_1 ?_
  (refine zx_cv1R zd53_2 ?k98 (zc_cr hR hN hc hc10 hr) ?_); (case k98 => first | exact zkk rfl (by omega) | exact zkk (zK_B0 (by omega)) (by omega) | exact zkk ((zK_B (by omega) (by decide)).trans rfl) (by omega) | exact zkk (zK_row (by omega) (by omega)) (by omega) | exact zkk (zK_file (by omega) (by omega)) (by omega) | exact zkk (zK_byte (by omega) (by omega)) (by omega) | exact zkk (zK_list (by omega)) (by omega) | assumption)
  refine zx_as3 zd53_5 rfl ?_
  refine zx_al3 zd53_6 ?_
  refine zx_il2 zd53_7 ?_
  (refine zx_cv1I zd53_8 ?k102 (zc_hfN hN (by omega) hn hy) ?_); (case k102 => first | exact zkk rfl (by omega) | exact zkk (zK_B0 (by omega)) (by omega) | exact zkk ((zK_B (by omega) (by decide)).trans rfl) (by omega) | exact zkk (zK_row (by omega) (by omega)) (by omega) | exact zkk (zK_file (by omega) (by omega)) (by omega) | exact zkk (zK_byte (by omega) (by omega)) (by omega) | exact zkk (zK_list (by omega)) (by omega) | assumption)
  first | ((with_reducible refine zx_ifneN zd53_11 ?s103 (fun h => ?_) (fun h => ?_)); (case s103 => omega)) | refine zx_ifne zd53_11 (fun h => ?_) (fun h => ?_)
  · omega
  · refine zx_throw zd53_14 (zK_top (by omega)) rfl ?_
    exact ⟨rfl, rfl⟩
/-- rows of the tree -/
theorem zc_rs {h : zHp} {w : Nat} (hw : w < 4) : zRet L 18 [.int (Int32.ofNat w)] h (some (.int (Int32.ofNat (zq w)))) h := by
  rcases (by omega : w = 0 ∨ w = 1 ∨ w = 2 ∨ w = 3) with e | e | e | e
  · subst e
    show zW L 18 0 [some (.int (Int32.ofNat 0))] [] _ _
    refine zx_c zd18_0 ?_
    refine zx_c zd18_2 ?_
    refine zx_il0 zd18_4 ?_
    first | ((with_reducible refine zx_shrN zd18_5 ?h108 ?_); (case h108 => omega)) | refine zx_shr zd18_5 ?_
    first | ((with_reducible refine zx_subN zd18_6 ?h109 ?_); (case h109 => omega)) | refine zx_sub zd18_6 ?_
    refine zx_iret zd18_7 (Or.inl rfl) ?_
    exact ⟨rfl, rfl⟩
  · subst e
    show zW L 18 0 [some (.int (Int32.ofNat 1))] [] _ _
    refine zx_c zd18_0 ?_
    refine zx_c zd18_2 ?_
    refine zx_il0 zd18_4 ?_
    first | ((with_reducible refine zx_shrN zd18_5 ?h114 ?_); (case h114 => omega)) | refine zx_shr zd18_5 ?_
    first | ((with_reducible refine zx_subN zd18_6 ?h115 ?_); (case h115 => omega)) | refine zx_sub zd18_6 ?_
    refine zx_iret zd18_7 (Or.inl rfl) ?_
    exact ⟨rfl, rfl⟩
  · subst e
    show zW L 18 0 [some (.int (Int32.ofNat 2))] [] _ _
    refine zx_c zd18_0 ?_
    refine zx_c zd18_2 ?_
    refine zx_il0 zd18_4 ?_
    first | ((with_reducible refine zx_shrN zd18_5 ?h120 ?_); (case h120 => omega)) | refine zx_shr zd18_5 ?_
    first | ((with_reducible refine zx_subN zd18_6 ?h121 ?_); (case h121 => omega)) | refine zx_sub zd18_6 ?_
    refine zx_iret zd18_7 (Or.inl rfl) ?_
    exact ⟨rfl, rfl⟩
  · subst e
    show zW L 18 0 [some (.int (Int32.ofNat 3))] [] _ _
    refine zx_c zd18_0 ?_
    refine zx_c zd18_2 ?_
    refine zx_il0 zd18_4 ?_
    first | ((with_reducible refine zx_shrN zd18_5 ?h126 ?_); (case h126 => omega)) | refine zx_shr zd18_5 ?_
    first | ((with_reducible refine zx_subN zd18_6 ?h127 ?_); (case h127 => omega)) | refine zx_sub zd18_6 ?_
    refine zx_iret zd18_7 (Or.inl rfl) ?_
    exact ⟨rfl, rfl⟩
theorem zc_node (hR : zRs R) (hN : 459 ≤ N) {r w i : Nat} (hr : r < 11) (hw4 : w < 4) (hw : zq w + i < 15) : zRet L 17 [.ref (8 + 37 * r + 2), .int (Int32.ofNat w), .int (Int32.ofNat i)] (N, U, I, J, R) (some (.ref (8 + 37 * r + 4 + (zq w + i)))) (N, U, I, J, R) := by
  show zW L 17 0 [some (.ref (8 + 37 * r + 2)), some (.int (Int32.ofNat w)), some (.int (Int32.ofNat i))] [] _ _
  refine zx_al0 zd17_0 ?_
  (refine' zx_gfA zd17_1 ?k130 ?r130 ?_); (case k130 => first | exact zkk rfl (by omega) | exact zkk (zK_B0 (by omega)) (by omega) | exact zkk ((zK_B (by omega) (by decide)).trans rfl) (by omega) | exact zkk (zK_row (by omega) (by omega)) (by omega) | exact zkk (zK_file (by omega) (by omega)) (by omega) | exact zkk (zK_byte (by omega) (by omega)) (by omega) | exact zkk (zK_list (by omega)) (by omega) | assumption); (case r130 => first | exact hR.1 _ _ _ rfl | exact hR.2.1 _ (by omega) | exact (hR.2.2.2 _ (by omega)).1.1 | exact (hR.2.2.2 _ (by omega)).1.2.1 | exact (hR.2.2.2 _ (by omega)).1.2.2 | exact (hR.2.2.2 _ (by omega)).2.1.1 | exact (hR.2.2.2 _ (by omega)).2.1.2 | exact (hR.2.2.2 _ (by omega)).2.2.1 _ (by omega) | exact (hR.2.2.2 _ (by omega)).2.2.2 _ (by omega) | exact hR.2.2.1 _ (by omega) | assumption)
  refine zx_il1 zd17_4 ?_
  refine zx_cs1I zd17_5 (zc_rs hw4) ?_
  refine zx_il2 zd17_8 ?_
  first | with_reducible refine zx_addN zd17_9 ?_ | refine zx_add zd17_9 ?_
  first | ((with_reducible refine' zx_aaldAN zd17_10 ?k135 ?j135 ?r135 ?_); (case k135 => first | exact zkk rfl (by omega) | exact zkk (zK_B0 (by omega)) (by omega) | exact zkk ((zK_B (by omega) (by decide)).trans rfl) (by omega) | exact zkk (zK_row (by omega) (by omega)) (by omega) | exact zkk (zK_file (by omega) (by omega)) (by omega) | exact zkk (zK_byte (by omega) (by omega)) (by omega) | exact zkk (zK_list (by omega)) (by omega) | assumption); (case j135 => omega); (case r135 => first | exact hR.1 _ _ _ rfl | exact hR.2.1 _ (by omega) | exact (hR.2.2.2 _ (by omega)).1.1 | exact (hR.2.2.2 _ (by omega)).1.2.1 | exact (hR.2.2.2 _ (by omega)).1.2.2 | exact (hR.2.2.2 _ (by omega)).2.1.1 | exact (hR.2.2.2 _ (by omega)).2.1.2 | exact (hR.2.2.2 _ (by omega)).2.2.1 _ (by omega) | exact (hR.2.2.2 _ (by omega)).2.2.2 _ (by omega) | exact hR.2.2.1 _ (by omega) | assumption)) | ((with_reducible refine' zx_aaldON zd17_10 ?k135 ?j135 ?r135 ?_); (case k135 => first | exact zkk rfl (by omega) | exact zkk (zK_B0 (by omega)) (by omega) | exact zkk ((zK_B (by omega) (by decide)).trans rfl) (by omega) | exact zkk (zK_row (by omega) (by omega)) (by omega) | exact zkk (zK_file (by omega) (by omega)) (by omega) | exact zkk (zK_byte (by omega) (by omega)) (by omega) | exact zkk (zK_list (by omega)) (by omega) | assumption); (case j135 => omega); (case r135 => first | exact hR.1 _ _ _ rfl | exact hR.2.1 _ (by omega) | exact (hR.2.2.2 _ (by omega)).1.1 | exact (hR.2.2.2 _ (by omega)).1.2.1 | exact (hR.2.2.2 _ (by omega)).1.2.2 | exact (hR.2.2.2 _ (by omega)).2.1.1 | exact (hR.2.2.2 _ (by omega)).2.1.2 | exact (hR.2.2.2 _ (by omega)).2.2.1 _ (by omega) | exact (hR.2.2.2 _ (by omega)).2.2.2 _ (by omega) | exact hR.2.2.1 _ (by omega) | assumption))
  refine zx_aret zd17_11 rfl rfl ?_
  exact ⟨rfl, rfl⟩
theorem zc_top (hR : zRs R) (hN : 459 ≤ N) {r t : Nat} (hr : r < 11) (ht : I (8 + 37 * r + 2) 2 = Int32.ofNat t) (h4 : t < 4) : zRet L 23 [.ref (8 + 37 * r + 2)] (N, U, I, J, R) (some (.ref (8 + 37 * r + 4 + zq t))) (N, U, I, J, R) := by
  show zW L 23 0 [some (.ref (8 + 37 * r + 2))] [] _ _
  refine zx_al0 zd23_0 ?_
  refine zx_al0 zd23_1 ?_
  (refine zx_gfI zd23_2 ?k139 ?_); (case k139 => first | exact zkk rfl (by omega) | exact zkk (zK_B0 (by omega)) (by omega) | exact zkk ((zK_B (by omega) (by decide)).trans rfl) (by omega) | exact zkk (zK_row (by omega) (by omega)) (by omega) | exact zkk (zK_file (by omega) (by omega)) (by omega) | exact zkk (zK_byte (by omega) (by omega)) (by omega) | exact zkk (zK_list (by omega)) (by omega) | assumption)
  rw [ht]
  refine zx_c zd23_5 ?_
  have hq := zq_f h4
  (refine zx_cv2R zd23_6 ?k141 (zc_node hR hN hr h4 (by omega)) ?_); (case k141 => first | exact zkk rfl (by omega) | exact zkk (zK_B0 (by omega)) (by omega) | exact zkk ((zK_B (by omega) (by decide)).trans rfl) (by omega) | exact zkk (zK_row (by omega) (by omega)) (by omega) | exact zkk (zK_file (by omega) (by omega)) (by omega) | exact zkk (zK_byte (by omega) (by omega)) (by omega) | exact zkk (zK_list (by omega)) (by omega) | assumption)
  refine zx_aret zd23_9 rfl rfl ?_
  exact ⟨rfl, rfl⟩
/-- root -/
theorem zc_root (hR : zRs R) (hN : 459 ≤ N) (hc : I 3 2 = Int32.ofNat c) (hc10 : c ≤ 10) {r i t : Nat} (hr : r < c) (hi : i < 32) (ht : I (8 + 37 * r + 2) 2 = Int32.ofNat t) (h4 : t < 4) : zRet L 48 [.ref 3, .int (Int32.ofNat r), .int (Int32.ofNat i)] (N, U, I, J, R) (some (.int (I (8 + 37 * r + 4 + zq t) i))) (N, U, I, J, R) := by
  show zW L 48 0 [some (.ref 3), some (.int (Int32.ofNat r)), some (.int (Int32.ofNat i)), none] [] _ _
  refine zx_al0 zd48_0 ?_
  refine zx_il1 zd48_1 ?_
  (refine zx_cv1R zd48_2 ?k145 (zc_cr hR hN hc hc10 hr) ?_); (case k145 => first | exact zkk rfl (by omega) | exact zkk (zK_B0 (by omega)) (by omega) | exact zkk ((zK_B (by omega) (by decide)).trans rfl) (by omega) | exact zkk (zK_row (by omega) (by omega)) (by omega) | exact zkk (zK_file (by omega) (by omega)) (by omega) | exact zkk (zK_byte (by omega) (by omega)) (by omega) | exact zkk (zK_list (by omega)) (by omega) | assumption)
  refine zx_as3 zd48_5 rfl ?_
  refine zx_il2 zd48_6 ?_
  refine zx_cs1V zd48_7 (zc_rd hi) ?_
  refine zx_al3 zd48_10 ?_
  (refine' zx_gfO zd48_11 ?k150 ?r150 ?_); (case k150 => first | exact zkk rfl (by omega) | exact zkk (zK_B0 (by omega)) (by omega) | exact zkk ((zK_B (by omega) (by decide)).trans rfl) (by omega) | exact zkk (zK_row (by omega) (by omega)) (by omega) | exact zkk (zK_file (by omega) (by omega)) (by omega) | exact zkk (zK_byte (by omega) (by omega)) (by omega) | exact zkk (zK_list (by omega)) (by omega) | assumption); (case r150 => first | exact hR.1 _ _ _ rfl | exact hR.2.1 _ (by omega) | exact (hR.2.2.2 _ (by omega)).1.1 | exact (hR.2.2.2 _ (by omega)).1.2.1 | exact (hR.2.2.2 _ (by omega)).1.2.2 | exact (hR.2.2.2 _ (by omega)).2.1.1 | exact (hR.2.2.2 _ (by omega)).2.1.2 | exact (hR.2.2.2 _ (by omega)).2.2.1 _ (by omega) | exact (hR.2.2.2 _ (by omega)).2.2.2 _ (by omega) | exact hR.2.2.1 _ (by omega) | assumption)
  (refine zx_cv0R zd48_14 ?k151 (zc_top hR hN (by omega) ht h4) ?_); (case k151 => first | exact zkk rfl (by omega) | exact zkk (zK_B0 (by omega)) (by omega) | exact zkk ((zK_B (by omega) (by decide)).trans rfl) (by omega) | exact zkk (zK_row (by omega) (by omega)) (by omega) | exact zkk (zK_file (by omega) (by omega)) (by omega) | exact zkk (zK_byte (by omega) (by omega)) (by omega) | exact zkk (zK_list (by omega)) (by omega) | assumption)
  have hq := zq_f h4
  refine zx_il2 zd48_17 ?_
  (with_reducible refine' zx_ialdN zd48_18 ?k153 ?j153 ?_); (case k153 => first | exact zkk rfl (by omega) | exact zkk (zK_B0 (by omega)) (by omega) | exact zkk ((zK_B (by omega) (by decide)).trans rfl) (by omega) | exact zkk (zK_row (by omega) (by omega)) (by omega) | exact zkk (zK_file (by omega) (by omega)) (by omega) | exact zkk (zK_byte (by omega) (by omega)) (by omega) | exact zkk (zK_list (by omega)) (by omega) | assumption); (case j153 => omega)
  refine zx_iret zd48_19 (Or.inl rfl) ?_
  exact ⟨rfl, rfl⟩
theorem zc_rootT1 (hN : 459 ≤ N) (hc : I 3 2 = Int32.ofNat c) {x y : Int32} (hx : x < 0 ∨ ¬ x < Int32.ofNat c) : zThr L 48 [.ref 3, .int x, .int y] (N, U, I, J, R) (1, N) (N + 1, U + 6, I, J, R) := by
  show zW L 48 0 [some (.ref 3), some (.int x), some (.int y), none] [] _ _
  refine zx_al0 zd48_0 ?_
  refine zx_il1 zd48_1 ?_
  (refine zx_ct1v zd48_2 ?k157 (zc_crT hN hc hx) ?_); (case k157 => first | exact zkk rfl (by omega) | exact zkk (zK_B0 (by omega)) (by omega) | exact zkk ((zK_B (by omega) (by decide)).trans rfl) (by omega) | exact zkk (zK_row (by omega) (by omega)) (by omega) | exact zkk (zK_file (by omega) (by omega)) (by omega) | exact zkk (zK_byte (by omega) (by omega)) (by omega) | exact zkk (zK_list (by omega)) (by omega) | assumption)
  exact ⟨rfl, rfl, rfl⟩
theorem zc_rootT2 (hR : zRs R) (hN : 459 ≤ N) (hc : I 3 2 = Int32.ofNat c) (hc10 : c ≤ 10) {r : Nat} {y : Int32} (hr : r < c) (hy : y < 0 ∨ ¬ y < Int32.ofNat 32) : zThr L 48 [.ref 3, .int (Int32.ofNat r), .int y] (N, U, I, J, R) (1, N) (N + 1, U + 6, I, J, R) := by
  show zW L 48 0 [some (.ref 3), some (.int (Int32.ofNat r)), some (.int y), none] [] _ _
  refine zx_al0 zd48_0 ?_
  refine zx_il1 zd48_1 ?_
  (refine zx_cv1R zd48_2 ?k160 (zc_cr hR hN hc hc10 hr) ?_); (case k160 => first | exact zkk rfl (by omega) | exact zkk (zK_B0 (by omega)) (by omega) | exact zkk ((zK_B (by omega) (by decide)).trans rfl) (by omega) | exact zkk (zK_row (by omega) (by omega)) (by omega) | exact zkk (zK_file (by omega) (by omega)) (by omega) | exact zkk (zK_byte (by omega) (by omega)) (by omega) | exact zkk (zK_list (by omega)) (by omega) | assumption)
  refine zx_as3 zd48_5 rfl ?_
  refine zx_il2 zd48_6 ?_
  refine zx_ct1s zd48_7 (zc_rdT hN hy) ?_
  exact ⟨rfl, rfl, rfl⟩
end ZC1
