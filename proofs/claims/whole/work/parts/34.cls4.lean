/-! THE CLASS: digests, changes, growth, proofs -/
/-- two rows are alike from i on, n places -/
def zeqn (f g : Nat → Int32) : Nat → Nat → Bool
  | _, 0 => true
  | i, n + 1 => if f i = g i then zeqn f g (i + 1) n else false
theorem zeqn_iff {f g : Nat → Int32} : ∀ {n i : Nat}, zeqn f g i n = true ↔ ∀ j, i ≤ j → j < i + n → f j = g j
  | 0, i => by
    constructor
    · intro _ j h1 h2; omega
    · intro _; rfl
  | n + 1, i => by
    unfold zeqn
    split
    next he =>
      rw [zeqn_iff]
      constructor
      · intro h j h1 h2
        by_cases hj : j = i
        · rw [hj]; exact he
        · exact h j (by omega) (by omega)
      · intro h j h1 h2
        exact h j (by omega) (by omega)
    next he =>
      constructor
      · intro h; cases h
      · intro h; exact absurd (h i (Nat.le_refl _) (by omega)) he
def zbi (b : Bool) : Int32 := if b = true then Int32.ofNat 1 else Int32.ofNat 0
theorem zbi_01 (b : Bool) : zbi b = 0 ∨ zbi b = 1 := by cases b; exact Or.inl rfl; exact Or.inr rfl
/-- the widths and the rows of a tree of n leaves -/
def zwid (n : Nat) : Nat → Nat
  | 0 => n
  | k + 1 => (zwid n k + 1) / 2
def zlvl (n : Nat) : Nat := if n ≤ 1 then 0 else if n ≤ 2 then 1 else if n ≤ 4 then 2 else 3
/-- what stands beside the place of leaf j in row k -/
def zoth (j k : Nat) : Nat := (j >>> k) ^^^ 1
theorem zoth_lt {j k : Nat} (hj : j < 8) (hk : k < 4) : zoth j k < 8 ∧ j >>> k < 8 := by
  have : ∀ a : Fin 8, ∀ b : Fin 4, zoth a.val b.val < 8 ∧ a.val >>> b.val < 8 := by decide
  exact this ⟨j, hj⟩ ⟨k, hk⟩
theorem zoth_cp {j k : Nat} (hj : j < 8) (hk : k < 3) : zoth j k < zcp k := by
  have h : ∀ a : Fin 8, ∀ b : Fin 3, zoth a.val b.val < zcp b.val := by decide
  exact h ⟨j, hj⟩ ⟨k, hk⟩
theorem zwid_cp {n k : Nat} (hn : n ≤ 8) (hk : k < 4) : zwid n k ≤ zcp k := by
  have h : ∀ a : Fin 9, ∀ b : Fin 4, zwid a.val b.val ≤ zcp b.val := by decide
  exact h ⟨n, by omega⟩ ⟨k, hk⟩
/-- how many are of p; the s-th that is of p -/
def zcn1 (p : Nat → Bool) : Nat → Nat
  | 0 => 0
  | n + 1 => zcn1 p n + (if p n = true then 1 else 0)
def zsth (p : Nat → Bool) : Nat → Nat → Nat → Option Nat
  | _, _, 0 => none
  | s, i, n + 1 => if p i = true then (if s = 0 then some i else zsth p (s - 1) (i + 1) n) else zsth p s (i + 1) n
theorem zsth_lt {p : Nat → Bool} : ∀ {n s i j : Nat}, zsth p s i n = some j → i ≤ j ∧ j < i + n ∧ p j = true
  | 0, s, i, j, h => by cases h
  | n + 1, s, i, j, h => by
    unfold zsth at h
    split at h
    next hp =>
      split at h
      next => cases h; exact ⟨Nat.le_refl _, by omega, hp⟩
      next => have h2 := zsth_lt h; exact ⟨by omega, by omega, h2.2.2⟩
    next => have h2 := zsth_lt h; exact ⟨by omega, by omega, h2.2.2⟩
theorem zcn1_le (p : Nat → Bool) : ∀ n, zcn1 p n ≤ n
  | 0 => Nat.le_refl _
  | n + 1 => by
    have := zcn1_le p n
    unfold zcn1
    split <;> omega
section ZC4
variable {L N U : Nat} {I : zI} {J : zJ} {R : zR} {c : Nat}
theorem zc_sn0 {a b n1 n2 n : Nat} (ha : zk L (N, U, I, J, R) a = some (.inl (.int, n1))) (hb : zk L (N, U, I, J, R) b = some (.inl (.int, n2))) (h1 : n ≤ n1) (h2 : n ≤ n2) (hn : n ≤ 1000) : ∀ (k i : Nat), i + k = n →
    zW L 35 16 [some (.ref a), some (.ref b), some (.int (Int32.ofNat n)), some (.int (Int32.ofNat i))] [] (N, U, I, J, R) (fun o h => o = .inl (some (.int (zbi (zeqn (I a) (I b) i k)))) ∧ h = (N, U, I, J, R)) := by
  intro k
  induction k with
  | zero =>
    intro i hi
    refine zx_il3 zd35_16 ?_
    refine zx_il2 zd35_17 ?_
    first | ((with_reducible refine zx_icmpgeN zd35_18 ?s3 (fun h => ?_) (fun h => ?_)); (case s3 => omega)) | refine zx_icmpge zd35_18 (fun h => ?_) (fun h => ?_)
    · refine zx_c zd35_38 ?_
      refine zx_iret zd35_39 (Or.inr ⟨rfl, by first | exact Or.inl rfl | exact Or.inr rfl | assumption⟩) ?_
      exact ⟨rfl, rfl⟩
    · omega
  | succ k ih =>
    intro i hi
    refine zx_il3 zd35_16 ?_
    refine zx_il2 zd35_17 ?_
    first | ((with_reducible refine zx_icmpgeN zd35_18 ?s8 (fun h => ?_) (fun h => ?_)); (case s8 => omega)) | refine zx_icmpge zd35_18 (fun h => ?_) (fun h => ?_)
    · omega
    · refine zx_al0 zd35_21 ?_
      refine zx_il3 zd35_22 ?_
      (with_reducible refine' zx_ialdN zd35_23 ?k11 ?j11 ?_); (case k11 => assumption); (case j11 => omega)
      refine zx_al1 zd35_24 ?_
      refine zx_il3 zd35_25 ?_
      (with_reducible refine' zx_ialdN zd35_26 ?k14 ?j14 ?_); (case k14 => assumption); (case j14 => omega)
      refine zx_icmpeq zd35_27 (fun h3 => ?_) (fun h3 => ?_)
      · first | with_reducible refine zx_iin3 zd35_32 ?_ | refine zx_ii3 zd35_32 ?_
        refine zx_goto zd35_35 ?_
        have e : zeqn (I a) (I b) i (k + 1) = zeqn (I a) (I b) (i + 1) k := if_pos h3
        rw [e]; exact ih (i + 1) (by omega)
      · refine zx_c zd35_30 ?_
        refine zx_iret zd35_31 (Or.inr ⟨rfl, by first | exact Or.inl rfl | exact Or.inr rfl | assumption⟩) ?_
        have e : zeqn (I a) (I b) i (k + 1) = false := if_neg h3
        rw [e]; exact ⟨rfl, rfl⟩
theorem zc_sn {a b n1 n2 n : Nat} (ha : zk L (N, U, I, J, R) a = some (.inl (.int, n1))) (hb : zk L (N, U, I, J, R) b = some (.inl (.int, n2))) (h1 : n ≤ n1) (h2 : n ≤ n2) (hn1 : n1 ≤ 1000) (hn2 : n2 ≤ 1000) :
    zRet L 35 [.ref a, .ref b, .int (Int32.ofNat n)] (N, U, I, J, R) (some (.int (zbi (zeqn (I a) (I b) 0 n)))) (N, U, I, J, R) := by
  show zW L 35 0 [some (.ref a), some (.ref b), some (.int (Int32.ofNat n)), none] [] _ _
  refine zx_il2 zd35_0 ?_
  refine zx_al0 zd35_1 ?_
  (refine' zx_alen zd35_2 ?k21 ?_); (case k21 => assumption)
  first | ((with_reducible refine zx_icmpgtN zd35_3 ?s22 (fun h => ?_) (fun h => ?_)); (case s22 => omega)) | refine zx_icmpgt zd35_3 (fun h => ?_) (fun h => ?_)
  · omega
  · refine zx_il2 zd35_6 ?_
    refine zx_al1 zd35_7 ?_
    (refine' zx_alen zd35_8 ?k25 ?_); (case k25 => assumption)
    first | ((with_reducible refine zx_icmpleN zd35_9 ?s26 (fun h3 => ?_) (fun h3 => ?_)); (case s26 => omega)) | refine zx_icmple zd35_9 (fun h3 => ?_) (fun h3 => ?_)
    · refine zx_c zd35_14 ?_
      refine zx_is3 zd35_15 rfl ?_
      exact zc_sn0 ha hb h1 h2 (by omega) n 0 (by omega)
    · omega
theorem zc_hbo (hR : zRs R) (hN : 459 ≤ N) {r j r2 j2 n n2 : Nat} (hr : r < 11) (hj : j < 8) (hr2 : r2 < 11) (hj2 : j2 < 8) (hn : I (8 + 37 * r + 21 + 2 * j) 2 = Int32.ofNat n) (hn2 : I (8 + 37 * r2 + 21 + 2 * j2) 2 = Int32.ofNat n2) (h1 : n ≤ 64) (h2 : n2 ≤ 64) :
    zRet L 80 [.ref (8 + 37 * r + 21 + 2 * j), .ref (8 + 37 * r2 + 21 + 2 * j2)] (N, U, I, J, R) (some (.int (zbi (decide (n = n2) && zeqn (I (8 + 37 * r + 22 + 2 * j)) (I (8 + 37 * r2 + 22 + 2 * j2)) 0 n)))) (N, U, I, J, R) := by
  show zW L 80 0 [some (.ref (8 + 37 * r + 21 + 2 * j)), some (.ref (8 + 37 * r2 + 21 + 2 * j2))] [] _ _
  refine zx_al0 zd80_0 ?_
  (refine zx_gfI zd80_1 ?k30 ?_); (case k30 => first | exact zkk rfl (by omega) | exact zkk (zK_B0 (by omega)) (by omega) | exact zkk ((zK_B (by omega) (by decide)).trans rfl) (by omega) | exact zkk (zK_row (by omega) (by omega)) (by omega) | exact zkk (zK_file (by omega) (by omega)) (by omega) | exact zkk (zK_byte (by omega) (by omega)) (by omega) | exact zkk (zK_list (by omega)) (by omega) | assumption)
  refine zx_al1 zd80_4 ?_
  (refine zx_gfI zd80_5 ?k32 ?_); (case k32 => first | exact zkk rfl (by omega) | exact zkk (zK_B0 (by omega)) (by omega) | exact zkk ((zK_B (by omega) (by decide)).trans rfl) (by omega) | exact zkk (zK_row (by omega) (by omega)) (by omega) | exact zkk (zK_file (by omega) (by omega)) (by omega) | exact zkk (zK_byte (by omega) (by omega)) (by omega) | exact zkk (zK_list (by omega)) (by omega) | assumption)
  rw [hn, hn2]
  first | ((with_reducible refine zx_icmpneN zd80_8 ?s33 (fun h => ?_) (fun h => ?_)); (case s33 => omega)) | refine zx_icmpne zd80_8 (fun h => ?_) (fun h => ?_)
  · refine zx_c zd80_33 ?_
    refine zx_iret zd80_34 (Or.inr ⟨rfl, by first | exact Or.inl rfl | exact Or.inr rfl | assumption⟩) ?_
    rw [decide_eq_false h]; exact ⟨rfl, rfl⟩
  · rw [decide_eq_true h, Bool.true_and]
    refine zx_al0 zd80_11 ?_
    (refine' zx_gfA zd80_12 ?k37 ?r37 ?_); (case k37 => first | exact zkk rfl (by omega) | exact zkk (zK_B0 (by omega)) (by omega) | exact zkk ((zK_B (by omega) (by decide)).trans rfl) (by omega) | exact zkk (zK_row (by omega) (by omega)) (by omega) | exact zkk (zK_file (by omega) (by omega)) (by omega) | exact zkk (zK_byte (by omega) (by omega)) (by omega) | exact zkk (zK_list (by omega)) (by omega) | assumption); (case r37 => first | exact hR.1 _ _ _ rfl | exact hR.2.1 _ (by omega) | exact (hR.2.2.2 _ (by omega)).1.1 | exact (hR.2.2.2 _ (by omega)).1.2.1 | exact (hR.2.2.2 _ (by omega)).1.2.2 | exact (hR.2.2.2 _ (by omega)).2.1.1 | exact (hR.2.2.2 _ (by omega)).2.1.2 | exact (hR.2.2.2 _ (by omega)).2.2.1 _ (by omega) | exact (hR.2.2.2 _ (by omega)).2.2.2 _ (by omega) | exact hR.2.2.1 _ (by omega) | exact (hF _ (by omega)).1 | assumption)
    refine zx_al1 zd80_15 ?_
    (refine' zx_gfA zd80_16 ?k39 ?r39 ?_); (case k39 => first | exact zkk rfl (by omega) | exact zkk (zK_B0 (by omega)) (by omega) | exact zkk ((zK_B (by omega) (by decide)).trans rfl) (by omega) | exact zkk (zK_row (by omega) (by omega)) (by omega) | exact zkk (zK_file (by omega) (by omega)) (by omega) | exact zkk (zK_byte (by omega) (by omega)) (by omega) | exact zkk (zK_list (by omega)) (by omega) | assumption); (case r39 => first | exact hR.1 _ _ _ rfl | exact hR.2.1 _ (by omega) | exact (hR.2.2.2 _ (by omega)).1.1 | exact (hR.2.2.2 _ (by omega)).1.2.1 | exact (hR.2.2.2 _ (by omega)).1.2.2 | exact (hR.2.2.2 _ (by omega)).2.1.1 | exact (hR.2.2.2 _ (by omega)).2.1.2 | exact (hR.2.2.2 _ (by omega)).2.2.1 _ (by omega) | exact (hR.2.2.2 _ (by omega)).2.2.2 _ (by omega) | exact hR.2.2.1 _ (by omega) | exact (hF _ (by omega)).1 | assumption)
    refine zx_al0 zd80_19 ?_
    (refine zx_gfI zd80_20 ?k41 ?_); (case k41 => first | exact zkk rfl (by omega) | exact zkk (zK_B0 (by omega)) (by omega) | exact zkk ((zK_B (by omega) (by decide)).trans rfl) (by omega) | exact zkk (zK_row (by omega) (by omega)) (by omega) | exact zkk (zK_file (by omega) (by omega)) (by omega) | exact zkk (zK_byte (by omega) (by omega)) (by omega) | exact zkk (zK_list (by omega)) (by omega) | assumption)
    rw [hn]
    refine zx_cs3I zd80_23 (zc_sn (zkk (zK_byte hr hj) (by omega)) (zkk (zK_byte hr2 hj2) (by omega)) h1 (by omega) (by decide) (by decide)) ?_
    cases zeqn (I (8 + 37 * r + 22 + 2 * j)) (I (8 + 37 * r2 + 22 + 2 * j2)) 0 n with
    | true =>
      show zW L 80 26 _ [.int (Int32.ofNat 1)] _ _
      first | ((with_reducible refine zx_ifeqN zd80_26 ?s43 (fun h5 => ?_) (fun h5 => ?_)); (case s43 => omega)) | refine zx_ifeq zd80_26 (fun h5 => ?_) (fun h5 => ?_)
      · omega
      · refine zx_c zd80_29 ?_
        refine zx_goto zd80_30 ?_
        refine zx_iret zd80_34 (Or.inr ⟨rfl, by first | exact Or.inl rfl | exact Or.inr rfl | assumption⟩) ?_
        exact ⟨rfl, rfl⟩
    | false =>
      show zW L 80 26 _ [.int (Int32.ofNat 0)] _ _
      first | ((with_reducible refine zx_ifeqN zd80_26 ?s47 (fun h5 => ?_) (fun h5 => ?_)); (case s47 => omega)) | refine zx_ifeq zd80_26 (fun h5 => ?_) (fun h5 => ?_)
      · refine zx_c zd80_33 ?_
        refine zx_iret zd80_34 (Or.inr ⟨rfl, by first | exact Or.inl rfl | exact Or.inr rfl | assumption⟩) ?_
        exact ⟨rfl, rfl⟩
      · omega
/-- digest -/
theorem zc_dgT1 (hN : 459 ≤ N) (hc : I 3 2 = Int32.ofNat c) {x y z : Int32} (hx : x < 0 ∨ ¬ x < Int32.ofNat c) : zThr L 72 [.ref 3, .int x, .int y, .int z] (N, U, I, J, R) (1, N) (N + 1, U + 6, I, J, R) := by
  show zW L 72 0 [some (.ref 3), some (.int x), some (.int y), some (.int z), none] [] _ _
  refine zx_al0 zd72_0 ?_
  refine zx_il1 zd72_1 ?_
  refine zx_il2 zd72_2 ?_
  (refine zx_ct2v zd72_3 ?k53 (zc_rlT1 hN hc hx) ?_); (case k53 => first | exact zkk rfl (by omega) | exact zkk (zK_B0 (by omega)) (by omega) | exact zkk ((zK_B (by omega) (by decide)).trans rfl) (by omega) | exact zkk (zK_row (by omega) (by omega)) (by omega) | exact zkk (zK_file (by omega) (by omega)) (by omega) | exact zkk (zK_byte (by omega) (by omega)) (by omega) | exact zkk (zK_list (by omega)) (by omega) | assumption)
  exact ⟨rfl, rfl, rfl⟩
theorem zc_dgT2 (hR : zRs R) (hN : 459 ≤ N) (hc : I 3 2 = Int32.ofNat c) (hc10 : c ≤ 10) {r n : Nat} {y z : Int32} (hr : r < c) (hn : I (8 + 37 * r) 1 = Int32.ofNat n) (hy : y < 0 ∨ ¬ y < Int32.ofNat n) : zThr L 72 [.ref 3, .int (Int32.ofNat r), .int y, .int z] (N, U, I, J, R) (1, N) (N + 1, U + 6, I, J, R) := by
  show zW L 72 0 [some (.ref 3), some (.int (Int32.ofNat r)), some (.int y), some (.int z), none] [] _ _
  refine zx_al0 zd72_0 ?_
  refine zx_il1 zd72_1 ?_
  refine zx_il2 zd72_2 ?_
  (refine zx_ct2v zd72_3 ?k57 (zc_rlT2 hR hN hc hc10 hr hn hy) ?_); (case k57 => first | exact zkk rfl (by omega) | exact zkk (zK_B0 (by omega)) (by omega) | exact zkk ((zK_B (by omega) (by decide)).trans rfl) (by omega) | exact zkk (zK_row (by omega) (by omega)) (by omega) | exact zkk (zK_file (by omega) (by omega)) (by omega) | exact zkk (zK_byte (by omega) (by omega)) (by omega) | exact zkk (zK_list (by omega)) (by omega) | assumption)
  exact ⟨rfl, rfl, rfl⟩
theorem zc_dgT3 (hR : zRs R) (hN : 459 ≤ N) (hc : I 3 2 = Int32.ofNat c) (hc10 : c ≤ 10) {r n j : Nat} {z : Int32} (hr : r < c) (hn : I (8 + 37 * r) 1 = Int32.ofNat n) (hn8 : n ≤ 8) (hj : j < n) (hz : z < 0 ∨ ¬ z < Int32.ofNat 32) : zThr L 72 [.ref 3, .int (Int32.ofNat r), .int (Int32.ofNat j), .int z] (N, U, I, J, R) (1, N) (N + 1, U + 6, I, J, R) := by
  show zW L 72 0 [some (.ref 3), some (.int (Int32.ofNat r)), some (.int (Int32.ofNat j)), some (.int z), none] [] _ _
  refine zx_al0 zd72_0 ?_
  refine zx_il1 zd72_1 ?_
  refine zx_il2 zd72_2 ?_
  (refine zx_cv2R zd72_3 ?k61 (zc_rl hR hN hc hc10 hr hn hn8 hj) ?_); (case k61 => first | exact zkk rfl (by omega) | exact zkk (zK_B0 (by omega)) (by omega) | exact zkk ((zK_B (by omega) (by decide)).trans rfl) (by omega) | exact zkk (zK_row (by omega) (by omega)) (by omega) | exact zkk (zK_file (by omega) (by omega)) (by omega) | exact zkk (zK_byte (by omega) (by omega)) (by omega) | exact zkk (zK_list (by omega)) (by omega) | assumption)
  refine zx_as4 zd72_6 rfl ?_
  refine zx_il3 zd72_8 ?_
  refine zx_ct1s zd72_9 (zc_rdT hN hz) ?_
  exact ⟨rfl, rfl, rfl⟩
theorem zc_dg (hR : zRs R) (hN : 459 ≤ N) (hc : I 3 2 = Int32.ofNat c) (hc10 : c ≤ 10) {r n j i : Nat} (hr : r < c) (hn : I (8 + 37 * r) 1 = Int32.ofNat n) (hn8 : n ≤ 8) (hj : j < n) (hi : i < 32) : zRet L 72 [.ref 3, .int (Int32.ofNat r), .int (Int32.ofNat j), .int (Int32.ofNat i)] (N, U, I, J, R) (some (.int (I (8 + 37 * r + 4 + j) i))) (N, U, I, J, R) := by
  show zW L 72 0 [some (.ref 3), some (.int (Int32.ofNat r)), some (.int (Int32.ofNat j)), some (.int (Int32.ofNat i)), none] [] _ _
  refine zx_al0 zd72_0 ?_
  refine zx_il1 zd72_1 ?_
  refine zx_il2 zd72_2 ?_
  (refine zx_cv2R zd72_3 ?k68 (zc_rl hR hN hc hc10 hr hn hn8 hj) ?_); (case k68 => first | exact zkk rfl (by omega) | exact zkk (zK_B0 (by omega)) (by omega) | exact zkk ((zK_B (by omega) (by decide)).trans rfl) (by omega) | exact zkk (zK_row (by omega) (by omega)) (by omega) | exact zkk (zK_file (by omega) (by omega)) (by omega) | exact zkk (zK_byte (by omega) (by omega)) (by omega) | exact zkk (zK_list (by omega)) (by omega) | assumption)
  refine zx_as4 zd72_6 rfl ?_
  refine zx_il3 zd72_8 ?_
  refine zx_cs1V zd72_9 (zc_rd hi) ?_
  refine zx_al4 zd72_12 ?_
  (refine' zx_gfO zd72_14 ?k73 ?r73 ?_); (case k73 => first | exact zkk rfl (by omega) | exact zkk (zK_B0 (by omega)) (by omega) | exact zkk ((zK_B (by omega) (by decide)).trans rfl) (by omega) | exact zkk (zK_row (by omega) (by omega)) (by omega) | exact zkk (zK_file (by omega) (by omega)) (by omega) | exact zkk (zK_byte (by omega) (by omega)) (by omega) | exact zkk (zK_list (by omega)) (by omega) | assumption); (case r73 => first | exact hR.1 _ _ _ rfl | exact hR.2.1 _ (by omega) | exact (hR.2.2.2 _ (by omega)).1.1 | exact (hR.2.2.2 _ (by omega)).1.2.1 | exact (hR.2.2.2 _ (by omega)).1.2.2 | exact (hR.2.2.2 _ (by omega)).2.1.1 | exact (hR.2.2.2 _ (by omega)).2.1.2 | exact (hR.2.2.2 _ (by omega)).2.2.1 _ (by omega) | exact (hR.2.2.2 _ (by omega)).2.2.2 _ (by omega) | exact hR.2.2.1 _ (by omega) | exact (hF _ (by omega)).1 | assumption)
  refine zx_c zd72_17 ?_
  refine zx_il2 zd72_18 ?_
  have z0 : zq 0 = 0 := rfl
  (refine zx_cv2R zd72_19 ?k76 (zc_node hR hN (by omega) (by decide) (by omega)) ?_); (case k76 => first | exact zkk rfl (by omega) | exact zkk (zK_B0 (by omega)) (by omega) | exact zkk ((zK_B (by omega) (by decide)).trans rfl) (by omega) | exact zkk (zK_row (by omega) (by omega)) (by omega) | exact zkk (zK_file (by omega) (by omega)) (by omega) | exact zkk (zK_byte (by omega) (by omega)) (by omega) | exact zkk (zK_list (by omega)) (by omega) | assumption)
  rw [show zq 0 + j = j by omega]
  refine zx_il3 zd72_22 ?_
  (with_reducible refine' zx_ialdN zd72_23 ?k78 ?j78 ?_); (case k78 => first | exact zkk rfl (by omega) | exact zkk (zK_B0 (by omega)) (by omega) | exact zkk ((zK_B (by omega) (by decide)).trans rfl) (by omega) | exact zkk (zK_row (by omega) (by omega)) (by omega) | exact zkk (zK_file (by omega) (by omega)) (by omega) | exact zkk (zK_byte (by omega) (by omega)) (by omega) | exact zkk (zK_list (by omega)) (by omega) | assumption); (case j78 => omega)
  refine zx_iret zd72_24 (Or.inl rfl) ?_
  exact ⟨rfl, rfl⟩
/-- changed -/
theorem zc_chT1 (hN : 459 ≤ N) (hc : I 3 2 = Int32.ofNat c) {x y : Int32} (hx : x < 0 ∨ ¬ x < Int32.ofNat c) : zThr L 79 [.ref 3, .int x, .int y] (N, U, I, J, R) (1, N) (N + 1, U + 6, I, J, R) := by
  show zW L 79 0 [some (.ref 3), some (.int x), some (.int y), none, none, none] [] _ _
  refine zx_al0 zd79_0 ?_
  refine zx_il1 zd79_1 ?_
  refine zx_il2 zd79_2 ?_
  (refine zx_ct2v zd79_3 ?k83 (zc_rlT1 hN hc hx) ?_); (case k83 => first | exact zkk rfl (by omega) | exact zkk (zK_B0 (by omega)) (by omega) | exact zkk ((zK_B (by omega) (by decide)).trans rfl) (by omega) | exact zkk (zK_row (by omega) (by omega)) (by omega) | exact zkk (zK_file (by omega) (by omega)) (by omega) | exact zkk (zK_byte (by omega) (by omega)) (by omega) | exact zkk (zK_list (by omega)) (by omega) | assumption)
  exact ⟨rfl, rfl, rfl⟩
theorem zc_chT2 (hR : zRs R) (hN : 459 ≤ N) (hc : I 3 2 = Int32.ofNat c) (hc10 : c ≤ 10) {r n : Nat} {y : Int32} (hr : r < c) (hn : I (8 + 37 * r) 1 = Int32.ofNat n) (hy : y < 0 ∨ ¬ y < Int32.ofNat n) : zThr L 79 [.ref 3, .int (Int32.ofNat r), .int y] (N, U, I, J, R) (1, N) (N + 1, U + 6, I, J, R) := by
  show zW L 79 0 [some (.ref 3), some (.int (Int32.ofNat r)), some (.int y), none, none, none] [] _ _
  refine zx_al0 zd79_0 ?_
  refine zx_il1 zd79_1 ?_
  refine zx_il2 zd79_2 ?_
  (refine zx_ct2v zd79_3 ?k87 (zc_rlT2 hR hN hc hc10 hr hn hy) ?_); (case k87 => first | exact zkk rfl (by omega) | exact zkk (zK_B0 (by omega)) (by omega) | exact zkk ((zK_B (by omega) (by decide)).trans rfl) (by omega) | exact zkk (zK_row (by omega) (by omega)) (by omega) | exact zkk (zK_file (by omega) (by omega)) (by omega) | exact zkk (zK_byte (by omega) (by omega)) (by omega) | exact zkk (zK_list (by omega)) (by omega) | assumption)
  exact ⟨rfl, rfl, rfl⟩
theorem zc_ch0 (hR : zRs R) (hN : 459 ≤ N) (hc : I 3 2 = Int32.ofNat c) (hc10 : c ≤ 10) {n j : Nat} {s : Nat → Nat} (hF : zFl R 0 s) (hr : 0 < c) (hn : I (8 + 37 * 0) 1 = Int32.ofNat n) (hn8 : n ≤ 8) (hj : j < n) : zRet L 79 [.ref 3, .int (Int32.ofNat 0), .int (Int32.ofNat j)] (N, U, I, J, R) (some (.int (Int32.ofNat 2))) (N, U, I, J, R) := by
  have hs := (hF j (by omega)).2
  have hFj := (hF j (by omega)).1
  show zW L 79 0 [some (.ref 3), some (.int (Int32.ofNat 0)), some (.int (Int32.ofNat j)), none, none, none] [] _ _
  refine zx_al0 zd79_0 ?_
  refine zx_il1 zd79_1 ?_
  refine zx_il2 zd79_2 ?_
  (refine zx_cv2R zd79_3 ?k91 (zc_rl hR hN hc hc10 hr hn hn8 hj) ?_); (case k91 => first | exact zkk rfl (by omega) | exact zkk (zK_B0 (by omega)) (by omega) | exact zkk ((zK_B (by omega) (by decide)).trans rfl) (by omega) | exact zkk (zK_row (by omega) (by omega)) (by omega) | exact zkk (zK_file (by omega) (by omega)) (by omega) | exact zkk (zK_byte (by omega) (by omega)) (by omega) | exact zkk (zK_list (by omega)) (by omega) | assumption)
  (refine' zx_gfA zd79_6 ?k92 ?r92 ?_); (case k92 => first | exact zkk rfl (by omega) | exact zkk (zK_B0 (by omega)) (by omega) | exact zkk ((zK_B (by omega) (by decide)).trans rfl) (by omega) | exact zkk (zK_row (by omega) (by omega)) (by omega) | exact zkk (zK_file (by omega) (by omega)) (by omega) | exact zkk (zK_byte (by omega) (by omega)) (by omega) | exact zkk (zK_list (by omega)) (by omega) | assumption); (case r92 => first | exact hR.1 _ _ _ rfl | exact hR.2.1 _ (by omega) | exact (hR.2.2.2 _ (by omega)).1.1 | exact (hR.2.2.2 _ (by omega)).1.2.1 | exact (hR.2.2.2 _ (by omega)).1.2.2 | exact (hR.2.2.2 _ (by omega)).2.1.1 | exact (hR.2.2.2 _ (by omega)).2.1.2 | exact (hR.2.2.2 _ (by omega)).2.2.1 _ (by omega) | exact (hR.2.2.2 _ (by omega)).2.2.2 _ (by omega) | exact hR.2.2.1 _ (by omega) | exact (hF _ (by omega)).1 | assumption)
  refine zx_il2 zd79_9 ?_
  first | ((with_reducible refine' zx_aaldAN zd79_10 ?k94 ?j94 ?r94 ?_); (case k94 => first | exact zkk rfl (by omega) | exact zkk (zK_B0 (by omega)) (by omega) | exact zkk ((zK_B (by omega) (by decide)).trans rfl) (by omega) | exact zkk (zK_row (by omega) (by omega)) (by omega) | exact zkk (zK_file (by omega) (by omega)) (by omega) | exact zkk (zK_byte (by omega) (by omega)) (by omega) | exact zkk (zK_list (by omega)) (by omega) | assumption); (case j94 => omega); (case r94 => first | exact hR.1 _ _ _ rfl | exact hR.2.1 _ (by omega) | exact (hR.2.2.2 _ (by omega)).1.1 | exact (hR.2.2.2 _ (by omega)).1.2.1 | exact (hR.2.2.2 _ (by omega)).1.2.2 | exact (hR.2.2.2 _ (by omega)).2.1.1 | exact (hR.2.2.2 _ (by omega)).2.1.2 | exact (hR.2.2.2 _ (by omega)).2.2.1 _ (by omega) | exact (hR.2.2.2 _ (by omega)).2.2.2 _ (by omega) | exact hR.2.2.1 _ (by omega) | exact (hF _ (by omega)).1 | assumption)) | ((with_reducible refine' zx_aaldON zd79_10 ?k94 ?j94 ?r94 ?_); (case k94 => first | exact zkk rfl (by omega) | exact zkk (zK_B0 (by omega)) (by omega) | exact zkk ((zK_B (by omega) (by decide)).trans rfl) (by omega) | exact zkk (zK_row (by omega) (by omega)) (by omega) | exact zkk (zK_file (by omega) (by omega)) (by omega) | exact zkk (zK_byte (by omega) (by omega)) (by omega) | exact zkk (zK_list (by omega)) (by omega) | assumption); (case j94 => omega); (case r94 => first | exact hR.1 _ _ _ rfl | exact hR.2.1 _ (by omega) | exact (hR.2.2.2 _ (by omega)).1.1 | exact (hR.2.2.2 _ (by omega)).1.2.1 | exact (hR.2.2.2 _ (by omega)).1.2.2 | exact (hR.2.2.2 _ (by omega)).2.1.1 | exact (hR.2.2.2 _ (by omega)).2.1.2 | exact (hR.2.2.2 _ (by omega)).2.2.1 _ (by omega) | exact (hR.2.2.2 _ (by omega)).2.2.2 _ (by omega) | exact hR.2.2.1 _ (by omega) | exact (hF _ (by omega)).1 | assumption))
  refine zx_as3 zd79_11 rfl ?_
  refine zx_il1 zd79_12 ?_
  first | ((with_reducible refine zx_ifneN zd79_13 ?s97 (fun h => ?_) (fun h => ?_)); (case s97 => omega)) | refine zx_ifne zd79_13 (fun h => ?_) (fun h => ?_)
  · omega
  · refine zx_c zd79_16 ?_
    refine zx_iret zd79_17 (Or.inl rfl) ?_
    exact ⟨rfl, rfl⟩
/-- changed's answer behind the first release -/
def zchg (I : zI) (r r1 : Nat) (s s2 : Nat → Nat) (j n n2 : Nat) (ln : Nat → Nat) : Int32 := match zfnd (fun k => decide (I (8 + 37 * r + 21 + 2 * s2 k) 0 = I (8 + 37 * r1 + 21 + 2 * s j) 0)) 0 n2 with
  | none => Int32.ofNat 2
  | some q => if (decide (n = ln q) && zeqn (I (8 + 37 * r1 + 22 + 2 * s j)) (I (8 + 37 * r + 22 + 2 * s2 q)) 0 n) = true then Int32.ofNat 0 else Int32.ofNat 1
theorem zc_ch (hR : zRs R) (hN : 459 ≤ N) (hc : I 3 2 = Int32.ofNat c) (hc10 : c ≤ 10) {r r1 m j n n2 : Nat} {s s2 : Nat → Nat} {ln : Nat → Nat} (hr : r1 < c) (hr1 : r1 = r + 1) (hF1 : zFl R r1 s) (hF2 : zFl R r s2) (hm : I (8 + 37 * r1) 1 = Int32.ofNat m) (hm8 : m ≤ 8) (hj : j < m) (hn2 : I (8 + 37 * r) 1 = Int32.ofNat n2) (hn28 : n2 ≤ 8)
    (hn : I (8 + 37 * r1 + 21 + 2 * s j) 2 = Int32.ofNat n) (hn64 : n ≤ 64) (hl : ∀ q, q < n2 → I (8 + 37 * r + 21 + 2 * s2 q) 2 = Int32.ofNat (ln q) ∧ ln q ≤ 64) :
    zRet L 79 [.ref 3, .int (Int32.ofNat r1), .int (Int32.ofNat j)] (N, U, I, J, R) (some (.int (zchg I r r1 s s2 j n n2 ln))) (N, U, I, J, R) := by
  have hs := (hF1 j (by omega)).2
  have hFj := (hF1 j (by omega)).1
  show zW L 79 0 [some (.ref 3), some (.int (Int32.ofNat r1)), some (.int (Int32.ofNat j)), none, none, none] [] _ _
  refine zx_al0 zd79_0 ?_
  refine zx_il1 zd79_1 ?_
  refine zx_il2 zd79_2 ?_
  (refine zx_cv2R zd79_3 ?k103 (zc_rl hR hN hc hc10 hr hm hm8 hj) ?_); (case k103 => first | exact zkk rfl (by omega) | exact zkk (zK_B0 (by omega)) (by omega) | exact zkk ((zK_B (by omega) (by decide)).trans rfl) (by omega) | exact zkk (zK_row (by omega) (by omega)) (by omega) | exact zkk (zK_file (by omega) (by omega)) (by omega) | exact zkk (zK_byte (by omega) (by omega)) (by omega) | exact zkk (zK_list (by omega)) (by omega) | assumption)
  (refine' zx_gfA zd79_6 ?k104 ?r104 ?_); (case k104 => first | exact zkk rfl (by omega) | exact zkk (zK_B0 (by omega)) (by omega) | exact zkk ((zK_B (by omega) (by decide)).trans rfl) (by omega) | exact zkk (zK_row (by omega) (by omega)) (by omega) | exact zkk (zK_file (by omega) (by omega)) (by omega) | exact zkk (zK_byte (by omega) (by omega)) (by omega) | exact zkk (zK_list (by omega)) (by omega) | assumption); (case r104 => first | exact hR.1 _ _ _ rfl | exact hR.2.1 _ (by omega) | exact (hR.2.2.2 _ (by omega)).1.1 | exact (hR.2.2.2 _ (by omega)).1.2.1 | exact (hR.2.2.2 _ (by omega)).1.2.2 | exact (hR.2.2.2 _ (by omega)).2.1.1 | exact (hR.2.2.2 _ (by omega)).2.1.2 | exact (hR.2.2.2 _ (by omega)).2.2.1 _ (by omega) | exact (hR.2.2.2 _ (by omega)).2.2.2 _ (by omega) | exact hR.2.2.1 _ (by omega) | exact (hF _ (by omega)).1 | assumption)
  refine zx_il2 zd79_9 ?_
  first | ((with_reducible refine' zx_aaldAN zd79_10 ?k106 ?j106 ?r106 ?_); (case k106 => first | exact zkk rfl (by omega) | exact zkk (zK_B0 (by omega)) (by omega) | exact zkk ((zK_B (by omega) (by decide)).trans rfl) (by omega) | exact zkk (zK_row (by omega) (by omega)) (by omega) | exact zkk (zK_file (by omega) (by omega)) (by omega) | exact zkk (zK_byte (by omega) (by omega)) (by omega) | exact zkk (zK_list (by omega)) (by omega) | assumption); (case j106 => omega); (case r106 => first | exact hR.1 _ _ _ rfl | exact hR.2.1 _ (by omega) | exact (hR.2.2.2 _ (by omega)).1.1 | exact (hR.2.2.2 _ (by omega)).1.2.1 | exact (hR.2.2.2 _ (by omega)).1.2.2 | exact (hR.2.2.2 _ (by omega)).2.1.1 | exact (hR.2.2.2 _ (by omega)).2.1.2 | exact (hR.2.2.2 _ (by omega)).2.2.1 _ (by omega) | exact (hR.2.2.2 _ (by omega)).2.2.2 _ (by omega) | exact hR.2.2.1 _ (by omega) | exact (hF _ (by omega)).1 | assumption)) | ((with_reducible refine' zx_aaldON zd79_10 ?k106 ?j106 ?r106 ?_); (case k106 => first | exact zkk rfl (by omega) | exact zkk (zK_B0 (by omega)) (by omega) | exact zkk ((zK_B (by omega) (by decide)).trans rfl) (by omega) | exact zkk (zK_row (by omega) (by omega)) (by omega) | exact zkk (zK_file (by omega) (by omega)) (by omega) | exact zkk (zK_byte (by omega) (by omega)) (by omega) | exact zkk (zK_list (by omega)) (by omega) | assumption); (case j106 => omega); (case r106 => first | exact hR.1 _ _ _ rfl | exact hR.2.1 _ (by omega) | exact (hR.2.2.2 _ (by omega)).1.1 | exact (hR.2.2.2 _ (by omega)).1.2.1 | exact (hR.2.2.2 _ (by omega)).1.2.2 | exact (hR.2.2.2 _ (by omega)).2.1.1 | exact (hR.2.2.2 _ (by omega)).2.1.2 | exact (hR.2.2.2 _ (by omega)).2.2.1 _ (by omega) | exact (hR.2.2.2 _ (by omega)).2.2.2 _ (by omega) | exact hR.2.2.1 _ (by omega) | exact (hF _ (by omega)).1 | assumption))
  refine zx_as3 zd79_11 rfl ?_
  refine zx_il1 zd79_12 ?_
  first | ((with_reducible refine zx_ifneN zd79_13 ?s109 (fun h => ?_) (fun h => ?_)); (case s109 => omega)) | refine zx_ifne zd79_13 (fun h => ?_) (fun h => ?_)
  · refine zx_al0 zd79_18 ?_
    (refine' zx_gfA zd79_19 ?k111 ?r111 ?_); (case k111 => first | exact zkk rfl (by omega) | exact zkk (zK_B0 (by omega)) (by omega) | exact zkk ((zK_B (by omega) (by decide)).trans rfl) (by omega) | exact zkk (zK_row (by omega) (by omega)) (by omega) | exact zkk (zK_file (by omega) (by omega)) (by omega) | exact zkk (zK_byte (by omega) (by omega)) (by omega) | exact zkk (zK_list (by omega)) (by omega) | assumption); (case r111 => first | exact hR.1 _ _ _ rfl | exact hR.2.1 _ (by omega) | exact (hR.2.2.2 _ (by omega)).1.1 | exact (hR.2.2.2 _ (by omega)).1.2.1 | exact (hR.2.2.2 _ (by omega)).1.2.2 | exact (hR.2.2.2 _ (by omega)).2.1.1 | exact (hR.2.2.2 _ (by omega)).2.1.2 | exact (hR.2.2.2 _ (by omega)).2.2.1 _ (by omega) | exact (hR.2.2.2 _ (by omega)).2.2.2 _ (by omega) | exact hR.2.2.1 _ (by omega) | exact (hF _ (by omega)).1 | assumption)
    refine zx_il1 zd79_22 ?_
    refine zx_c zd79_23 ?_
    first | ((with_reducible refine zx_subN zd79_24 ?h114 ?_); (case h114 => omega)) | refine zx_sub zd79_24 ?_
    rw [show r1 - 1 = r by omega]
    first | ((with_reducible refine' zx_aaldAN zd79_25 ?k115 ?j115 ?r115 ?_); (case k115 => first | exact zkk rfl (by omega) | exact zkk (zK_B0 (by omega)) (by omega) | exact zkk ((zK_B (by omega) (by decide)).trans rfl) (by omega) | exact zkk (zK_row (by omega) (by omega)) (by omega) | exact zkk (zK_file (by omega) (by omega)) (by omega) | exact zkk (zK_byte (by omega) (by omega)) (by omega) | exact zkk (zK_list (by omega)) (by omega) | assumption); (case j115 => omega); (case r115 => first | exact hR.1 _ _ _ rfl | exact hR.2.1 _ (by omega) | exact (hR.2.2.2 _ (by omega)).1.1 | exact (hR.2.2.2 _ (by omega)).1.2.1 | exact (hR.2.2.2 _ (by omega)).1.2.2 | exact (hR.2.2.2 _ (by omega)).2.1.1 | exact (hR.2.2.2 _ (by omega)).2.1.2 | exact (hR.2.2.2 _ (by omega)).2.2.1 _ (by omega) | exact (hR.2.2.2 _ (by omega)).2.2.2 _ (by omega) | exact hR.2.2.1 _ (by omega) | exact (hF _ (by omega)).1 | assumption)) | ((with_reducible refine' zx_aaldON zd79_25 ?k115 ?j115 ?r115 ?_); (case k115 => first | exact zkk rfl (by omega) | exact zkk (zK_B0 (by omega)) (by omega) | exact zkk ((zK_B (by omega) (by decide)).trans rfl) (by omega) | exact zkk (zK_row (by omega) (by omega)) (by omega) | exact zkk (zK_file (by omega) (by omega)) (by omega) | exact zkk (zK_byte (by omega) (by omega)) (by omega) | exact zkk (zK_list (by omega)) (by omega) | assumption); (case j115 => omega); (case r115 => first | exact hR.1 _ _ _ rfl | exact hR.2.1 _ (by omega) | exact (hR.2.2.2 _ (by omega)).1.1 | exact (hR.2.2.2 _ (by omega)).1.2.1 | exact (hR.2.2.2 _ (by omega)).1.2.2 | exact (hR.2.2.2 _ (by omega)).2.1.1 | exact (hR.2.2.2 _ (by omega)).2.1.2 | exact (hR.2.2.2 _ (by omega)).2.2.1 _ (by omega) | exact (hR.2.2.2 _ (by omega)).2.2.2 _ (by omega) | exact hR.2.2.1 _ (by omega) | exact (hF _ (by omega)).1 | assumption))
    refine zx_as4 zd79_26 rfl ?_
    refine zx_al4 zd79_28 ?_
    refine zx_al3 zd79_30 ?_
    (refine zx_gfI zd79_31 ?k119 ?_); (case k119 => first | exact zkk rfl (by omega) | exact zkk (zK_B0 (by omega)) (by omega) | exact zkk ((zK_B (by omega) (by decide)).trans rfl) (by omega) | exact zkk (zK_row (by omega) (by omega)) (by omega) | exact zkk (zK_file (by omega) (by omega)) (by omega) | exact zkk (zK_byte (by omega) (by omega)) (by omega) | exact zkk (zK_list (by omega)) (by omega) | assumption)
    (refine zx_cv1I zd79_34 ?k120 (zc_fn hR hN (by omega) hF2 hn2 hn28 _) ?_); (case k120 => first | exact zkk rfl (by omega) | exact zkk (zK_B0 (by omega)) (by omega) | exact zkk ((zK_B (by omega) (by decide)).trans rfl) (by omega) | exact zkk (zK_row (by omega) (by omega)) (by omega) | exact zkk (zK_file (by omega) (by omega)) (by omega) | exact zkk (zK_byte (by omega) (by omega)) (by omega) | exact zkk (zK_list (by omega)) (by omega) | assumption)
    refine zx_is5 zd79_37 rfl ?_
    refine zx_il5 zd79_39 ?_
    refine zx_c zd79_41 ?_
    unfold zchg
    cases hz : zfnd (fun k => decide (I (8 + 37 * r + 21 + 2 * s2 k) 0 = I (8 + 37 * r1 + 21 + 2 * s j) 0)) 0 n2 with
    | none =>
      refine zx_icmpne zd79_42 (fun h5 => absurd rfl h5) (fun h5 => ?_)
      refine zx_c zd79_45 ?_
      refine zx_iret zd79_46 (Or.inl rfl) ?_
      exact ⟨rfl, rfl⟩
    | some q =>
      have hq := zfnd_lt hz
      have hs2 := (hF2 q (by omega)).2
      have hFq := (hF2 q (by omega)).1
      have hlq := hl q (by omega)
      refine zx_icmpne zd79_42 (fun h5 => ?_) (fun h5 => absurd h5 (zfi_ne (by simp) (fun j hj => by cases hj; omega)))
      show zW L 79 47 [some (.ref 3), some (.int (Int32.ofNat r1)), some (.int (Int32.ofNat j)), some (.ref (8 + 37 * r1 + 21 + 2 * s j)), some (.ref (8 + 37 * r)), some (.int (Int32.ofNat q))] [] _ _
      refine zx_al3 zd79_47 ?_
      refine zx_al4 zd79_48 ?_
      (refine' zx_gfA zd79_50 ?k128 ?r128 ?_); (case k128 => first | exact zkk rfl (by omega) | exact zkk (zK_B0 (by omega)) (by omega) | exact zkk ((zK_B (by omega) (by decide)).trans rfl) (by omega) | exact zkk (zK_row (by omega) (by omega)) (by omega) | exact zkk (zK_file (by omega) (by omega)) (by omega) | exact zkk (zK_byte (by omega) (by omega)) (by omega) | exact zkk (zK_list (by omega)) (by omega) | assumption); (case r128 => first | exact hR.1 _ _ _ rfl | exact hR.2.1 _ (by omega) | exact (hR.2.2.2 _ (by omega)).1.1 | exact (hR.2.2.2 _ (by omega)).1.2.1 | exact (hR.2.2.2 _ (by omega)).1.2.2 | exact (hR.2.2.2 _ (by omega)).2.1.1 | exact (hR.2.2.2 _ (by omega)).2.1.2 | exact (hR.2.2.2 _ (by omega)).2.2.1 _ (by omega) | exact (hR.2.2.2 _ (by omega)).2.2.2 _ (by omega) | exact hR.2.2.1 _ (by omega) | exact (hF _ (by omega)).1 | assumption)
      refine zx_il5 zd79_53 ?_
      first | ((with_reducible refine' zx_aaldAN zd79_55 ?k130 ?j130 ?r130 ?_); (case k130 => first | exact zkk rfl (by omega) | exact zkk (zK_B0 (by omega)) (by omega) | exact zkk ((zK_B (by omega) (by decide)).trans rfl) (by omega) | exact zkk (zK_row (by omega) (by omega)) (by omega) | exact zkk (zK_file (by omega) (by omega)) (by omega) | exact zkk (zK_byte (by omega) (by omega)) (by omega) | exact zkk (zK_list (by omega)) (by omega) | assumption); (case j130 => omega); (case r130 => first | exact hR.1 _ _ _ rfl | exact hR.2.1 _ (by omega) | exact (hR.2.2.2 _ (by omega)).1.1 | exact (hR.2.2.2 _ (by omega)).1.2.1 | exact (hR.2.2.2 _ (by omega)).1.2.2 | exact (hR.2.2.2 _ (by omega)).2.1.1 | exact (hR.2.2.2 _ (by omega)).2.1.2 | exact (hR.2.2.2 _ (by omega)).2.2.1 _ (by omega) | exact (hR.2.2.2 _ (by omega)).2.2.2 _ (by omega) | exact hR.2.2.1 _ (by omega) | exact (hF _ (by omega)).1 | assumption)) | ((with_reducible refine' zx_aaldON zd79_55 ?k130 ?j130 ?r130 ?_); (case k130 => first | exact zkk rfl (by omega) | exact zkk (zK_B0 (by omega)) (by omega) | exact zkk ((zK_B (by omega) (by decide)).trans rfl) (by omega) | exact zkk (zK_row (by omega) (by omega)) (by omega) | exact zkk (zK_file (by omega) (by omega)) (by omega) | exact zkk (zK_byte (by omega) (by omega)) (by omega) | exact zkk (zK_list (by omega)) (by omega) | assumption); (case j130 => omega); (case r130 => first | exact hR.1 _ _ _ rfl | exact hR.2.1 _ (by omega) | exact (hR.2.2.2 _ (by omega)).1.1 | exact (hR.2.2.2 _ (by omega)).1.2.1 | exact (hR.2.2.2 _ (by omega)).1.2.2 | exact (hR.2.2.2 _ (by omega)).2.1.1 | exact (hR.2.2.2 _ (by omega)).2.1.2 | exact (hR.2.2.2 _ (by omega)).2.2.1 _ (by omega) | exact (hR.2.2.2 _ (by omega)).2.2.2 _ (by omega) | exact hR.2.2.1 _ (by omega) | exact (hF _ (by omega)).1 | assumption))
      (refine zx_cv1I zd79_56 ?k131 (zc_hbo hR hN (by omega) hs (by omega) hs2 hn hlq.1 hn64 hlq.2) ?_); (case k131 => first | exact zkk rfl (by omega) | exact zkk (zK_B0 (by omega)) (by omega) | exact zkk ((zK_B (by omega) (by decide)).trans rfl) (by omega) | exact zkk (zK_row (by omega) (by omega)) (by omega) | exact zkk (zK_file (by omega) (by omega)) (by omega) | exact zkk (zK_byte (by omega) (by omega)) (by omega) | exact zkk (zK_list (by omega)) (by omega) | assumption)
      cases hz2 : (decide (n = ln q) && zeqn (I (8 + 37 * r1 + 22 + 2 * s j)) (I (8 + 37 * r + 22 + 2 * s2 q)) 0 n) with
      | true =>
        show zW L 79 59 _ [.int (Int32.ofNat 1)] _ _
        first | ((with_reducible refine zx_ifeqN zd79_59 ?s132 (fun h6 => ?_) (fun h6 => ?_)); (case s132 => omega)) | refine zx_ifeq zd79_59 (fun h6 => ?_) (fun h6 => ?_)
        · omega
        · refine zx_c zd79_62 ?_
          refine zx_goto zd79_63 ?_
          refine zx_iret zd79_67 (Or.inl rfl) ?_
          refine ⟨?_, rfl⟩
          show Sum.inl (some (Value.int (Int32.ofNat 0))) = Sum.inl (some (Value.int (if (decide (n = ln q) && _) = true then _ else _)))
          rw [hz2]; rfl
      | false =>
        show zW L 79 59 _ [.int (Int32.ofNat 0)] _ _
        first | ((with_reducible refine zx_ifeqN zd79_59 ?s136 (fun h6 => ?_) (fun h6 => ?_)); (case s136 => omega)) | refine zx_ifeq zd79_59 (fun h6 => ?_) (fun h6 => ?_)
        · refine zx_c zd79_66 ?_
          refine zx_iret zd79_67 (Or.inl rfl) ?_
          refine ⟨?_, rfl⟩
          show Sum.inl (some (Value.int (Int32.ofNat 1))) = Sum.inl (some (Value.int (if (decide (n = ln q) && _) = true then _ else _)))
          rw [hz2]; rfl
        · omega
  · omega
/-- growth -/
theorem zc_grT1 (hN : 459 ≤ N) (hc : I 3 2 = Int32.ofNat c) {x y z : Int32} (hx : x < 0 ∨ y < x ∨ Int32.ofNat c < y) : zThr L 74 [.ref 3, .int x, .int y, .int z] (N, U, I, J, R) (1, N) (N + 1, U + 6, I, J, R) := by
  show zW L 74 0 [some (.ref 3), some (.int x), some (.int y), some (.int z), none, none, none] [] _ _
  refine zx_il1 zd74_0 ?_
  first | ((with_reducible refine zx_ifltN zd74_1 ?s140 (fun h => ?_) (fun h => ?_)); (case s140 => omega)) | refine zx_iflt zd74_1 (fun h => ?_) (fun h => ?_)
  · refine zx_throw zd74_17 (zK_top (by omega)) rfl ?_
    exact ⟨rfl, rfl⟩
  · refine zx_il1 zd74_4 ?_
    refine zx_il2 zd74_5 ?_
    refine zx_icmpgt zd74_6 (fun h2 => ?_) (fun h2 => ?_)
    · refine zx_throw zd74_17 (zK_top (by omega)) rfl ?_
      exact ⟨rfl, rfl⟩
    · refine zx_il2 zd74_9 ?_
      refine zx_al0 zd74_10 ?_
      (refine zx_gfI zd74_11 ?k147 ?_); (case k147 => first | exact zkk rfl (by omega) | exact zkk (zK_B0 (by omega)) (by omega) | exact zkk ((zK_B (by omega) (by decide)).trans rfl) (by omega) | exact zkk (zK_row (by omega) (by omega)) (by omega) | exact zkk (zK_file (by omega) (by omega)) (by omega) | exact zkk (zK_byte (by omega) (by omega)) (by omega) | exact zkk (zK_list (by omega)) (by omega) | assumption)
      rw [hc]
      refine zx_icmple zd74_14 (fun h3 => ?_) (fun h3 => ?_)
      · rcases hx with hx | hx | hx
        · exact absurd hx h
        · exact absurd hx h2
        · exact absurd hx h3
      · refine zx_throw zd74_17 (zK_top (by omega)) rfl ?_
        exact ⟨rfl, rfl⟩
theorem zc_grT2 (hN : 459 ≤ N) (hc : I 3 2 = Int32.ofNat c) (hc10 : c ≤ 10) {f t : Nat} (hf : f ≤ t) (ht : t ≤ c) {z : Int32} (hz : z < 0) : zThr L 74 [.ref 3, .int (Int32.ofNat f), .int (Int32.ofNat t), .int z] (N, U, I, J, R) (1, N) (N + 1, U + 6, I, J, R) := by
  show zW L 74 0 [some (.ref 3), some (.int (Int32.ofNat f)), some (.int (Int32.ofNat t)), some (.int z), none, none, none] [] _ _
  refine zx_il1 zd74_0 ?_
  first | ((with_reducible refine zx_ifltN zd74_1 ?s150 (fun h => ?_) (fun h => ?_)); (case s150 => omega)) | refine zx_iflt zd74_1 (fun h => ?_) (fun h => ?_)
  · omega
  · refine zx_il1 zd74_4 ?_
    refine zx_il2 zd74_5 ?_
    first | ((with_reducible refine zx_icmpgtN zd74_6 ?s153 (fun h2 => ?_) (fun h2 => ?_)); (case s153 => omega)) | refine zx_icmpgt zd74_6 (fun h2 => ?_) (fun h2 => ?_)
    · omega
    · refine zx_il2 zd74_9 ?_
      refine zx_al0 zd74_10 ?_
      (refine zx_gfI zd74_11 ?k156 ?_); (case k156 => first | exact zkk rfl (by omega) | exact zkk (zK_B0 (by omega)) (by omega) | exact zkk ((zK_B (by omega) (by decide)).trans rfl) (by omega) | exact zkk (zK_row (by omega) (by omega)) (by omega) | exact zkk (zK_file (by omega) (by omega)) (by omega) | exact zkk (zK_byte (by omega) (by omega)) (by omega) | exact zkk (zK_list (by omega)) (by omega) | assumption)
      rw [hc]
      first | ((with_reducible refine zx_icmpleN zd74_14 ?s157 (fun h3 => ?_) (fun h3 => ?_)); (case s157 => omega)) | refine zx_icmple zd74_14 (fun h3 => ?_) (fun h3 => ?_)
      · refine zx_il3 zd74_27 ?_
        first | ((with_reducible refine zx_ifgeN zd74_28 ?s159 (fun h4 => ?_) (fun h4 => ?_)); (case s159 => omega)) | refine zx_ifge zd74_28 (fun h4 => ?_) (fun h4 => ?_)
        · exact absurd hz h4
        · refine zx_throw zd74_31 (zK_top (by omega)) rfl ?_
          exact ⟨rfl, rfl⟩
      · omega
def zgro (I : zI) (f t i : Nat) (tp : Nat → Nat) : Int32 := if i / 32 = 0 then I (416 + f) (i % 32) else if i / 32 ≤ t - f then I (8 + 37 * (f + i / 32 - 1) + 4 + zq (tp (f + i / 32 - 1))) (i % 32) else if i / 32 = t - f + 1 then I (416 + t) (i % 32) else -1
theorem zc_gr (hR : zRs R) (hN : 459 ≤ N) (hc : I 3 2 = Int32.ofNat c) (hc10 : c ≤ 10) {f t i : Nat} {tp : Nat → Nat} (hf : f ≤ t) (ht : t ≤ c) (hi : i < 2147483648) (htp : ∀ r, r < c → I (8 + 37 * r + 2) 2 = Int32.ofNat (tp r) ∧ tp r < 4) :
    zRet L 74 [.ref 3, .int (Int32.ofNat f), .int (Int32.ofNat t), .int (Int32.ofNat i)] (N, U, I, J, R) (some (.int (zgro I f t i tp))) (N, U, I, J, R) := by
  have him : i % 32 < 32 := by omega
  show zW L 74 0 [some (.ref 3), some (.int (Int32.ofNat f)), some (.int (Int32.ofNat t)), some (.int (Int32.ofNat i)), none, none, none] [] _ _
  refine zx_il1 zd74_0 ?_
  first | ((with_reducible refine zx_ifltN zd74_1 ?s162 (fun h => ?_) (fun h => ?_)); (case s162 => omega)) | refine zx_iflt zd74_1 (fun h => ?_) (fun h => ?_)
  · omega
  · refine zx_il1 zd74_4 ?_
    refine zx_il2 zd74_5 ?_
    first | ((with_reducible refine zx_icmpgtN zd74_6 ?s165 (fun h2 => ?_) (fun h2 => ?_)); (case s165 => omega)) | refine zx_icmpgt zd74_6 (fun h2 => ?_) (fun h2 => ?_)
    · omega
    · refine zx_il2 zd74_9 ?_
      refine zx_al0 zd74_10 ?_
      (refine zx_gfI zd74_11 ?k168 ?_); (case k168 => first | exact zkk rfl (by omega) | exact zkk (zK_B0 (by omega)) (by omega) | exact zkk ((zK_B (by omega) (by decide)).trans rfl) (by omega) | exact zkk (zK_row (by omega) (by omega)) (by omega) | exact zkk (zK_file (by omega) (by omega)) (by omega) | exact zkk (zK_byte (by omega) (by omega)) (by omega) | exact zkk (zK_list (by omega)) (by omega) | assumption)
      rw [hc]
      first | ((with_reducible refine zx_icmpleN zd74_14 ?s169 (fun h3 => ?_) (fun h3 => ?_)); (case s169 => omega)) | refine zx_icmple zd74_14 (fun h3 => ?_) (fun h3 => ?_)
      · refine zx_il3 zd74_27 ?_
        first | ((with_reducible refine zx_ifgeN zd74_28 ?s171 (fun h4 => ?_) (fun h4 => ?_)); (case s171 => omega)) | refine zx_ifge zd74_28 (fun h4 => ?_) (fun h4 => ?_)
        · refine zx_il3 zd74_41 ?_
          refine zx_c zd74_42 ?_
          first | ((with_reducible refine zx_divN zd74_44 ?h174 ?_); (case h174 => omega)) | refine zx_div zd74_44 (by decide) ?_
          refine zx_is4 zd74_45 rfl ?_
          refine zx_il3 zd74_47 ?_
          refine zx_c zd74_48 ?_
          first | ((with_reducible refine zx_remN zd74_50 ?h178 ?_); (case h178 => omega)) | refine zx_rem zd74_50 (by decide) ?_
          refine zx_is5 zd74_51 rfl ?_
          refine zx_il2 zd74_53 ?_
          refine zx_il1 zd74_54 ?_
          first | ((with_reducible refine zx_subN zd74_55 ?h182 ?_); (case h182 => omega)) | refine zx_sub zd74_55 ?_
          refine zx_is6 zd74_56 rfl ?_
          refine zx_il4 zd74_58 ?_
          unfold zgro
          first | ((with_reducible refine zx_ifneN zd74_60 ?s185 (fun h5 => ?_) (fun h5 => ?_)); (case s185 => omega)) | refine zx_ifne zd74_60 (fun h5 => ?_) (fun h5 => ?_)
          · rw [if_neg h5]
            refine zx_il4 zd74_73 ?_
            refine zx_il6 zd74_75 ?_
            first | ((with_reducible refine zx_icmpgtN zd74_77 ?s188 (fun h6 => ?_) (fun h6 => ?_)); (case s188 => omega)) | refine zx_icmpgt zd74_77 (fun h6 => ?_) (fun h6 => ?_)
            · rw [if_neg (by omega)]
              refine zx_il4 zd74_101 ?_
              refine zx_il6 zd74_103 ?_
              refine zx_c zd74_105 ?_
              first | with_reducible refine zx_addN zd74_106 ?_ | refine zx_add zd74_106 ?_
              first | ((with_reducible refine zx_icmpneN zd74_107 ?s193 (fun h7 => ?_) (fun h7 => ?_)); (case s193 => omega)) | refine zx_icmpne zd74_107 (fun h7 => ?_) (fun h7 => ?_)
              · rw [if_neg h7]
                refine zx_c zd74_122 ?_
                refine zx_iret zd74_123 (Or.inl rfl) ?_
                exact ⟨rfl, rfl⟩
              · rw [if_pos h7]
                refine zx_al0 zd74_110 ?_
                (refine' zx_gfA zd74_111 ?k197 ?r197 ?_); (case k197 => first | exact zkk rfl (by omega) | exact zkk (zK_B0 (by omega)) (by omega) | exact zkk ((zK_B (by omega) (by decide)).trans rfl) (by omega) | exact zkk (zK_row (by omega) (by omega)) (by omega) | exact zkk (zK_file (by omega) (by omega)) (by omega) | exact zkk (zK_byte (by omega) (by omega)) (by omega) | exact zkk (zK_list (by omega)) (by omega) | assumption); (case r197 => first | exact hR.1 _ _ _ rfl | exact hR.2.1 _ (by omega) | exact (hR.2.2.2 _ (by omega)).1.1 | exact (hR.2.2.2 _ (by omega)).1.2.1 | exact (hR.2.2.2 _ (by omega)).1.2.2 | exact (hR.2.2.2 _ (by omega)).2.1.1 | exact (hR.2.2.2 _ (by omega)).2.1.2 | exact (hR.2.2.2 _ (by omega)).2.2.1 _ (by omega) | exact (hR.2.2.2 _ (by omega)).2.2.2 _ (by omega) | exact hR.2.2.1 _ (by omega) | exact (hF _ (by omega)).1 | assumption)
                refine zx_il2 zd74_114 ?_
                first | ((with_reducible refine' zx_aaldAN zd74_115 ?k199 ?j199 ?r199 ?_); (case k199 => first | exact zkk rfl (by omega) | exact zkk (zK_B0 (by omega)) (by omega) | exact zkk ((zK_B (by omega) (by decide)).trans rfl) (by omega) | exact zkk (zK_row (by omega) (by omega)) (by omega) | exact zkk (zK_file (by omega) (by omega)) (by omega) | exact zkk (zK_byte (by omega) (by omega)) (by omega) | exact zkk (zK_list (by omega)) (by omega) | assumption); (case j199 => omega); (case r199 => first | exact hR.1 _ _ _ rfl | exact hR.2.1 _ (by omega) | exact (hR.2.2.2 _ (by omega)).1.1 | exact (hR.2.2.2 _ (by omega)).1.2.1 | exact (hR.2.2.2 _ (by omega)).1.2.2 | exact (hR.2.2.2 _ (by omega)).2.1.1 | exact (hR.2.2.2 _ (by omega)).2.1.2 | exact (hR.2.2.2 _ (by omega)).2.2.1 _ (by omega) | exact (hR.2.2.2 _ (by omega)).2.2.2 _ (by omega) | exact hR.2.2.1 _ (by omega) | exact (hF _ (by omega)).1 | assumption)) | ((with_reducible refine' zx_aaldON zd74_115 ?k199 ?j199 ?r199 ?_); (case k199 => first | exact zkk rfl (by omega) | exact zkk (zK_B0 (by omega)) (by omega) | exact zkk ((zK_B (by omega) (by decide)).trans rfl) (by omega) | exact zkk (zK_row (by omega) (by omega)) (by omega) | exact zkk (zK_file (by omega) (by omega)) (by omega) | exact zkk (zK_byte (by omega) (by omega)) (by omega) | exact zkk (zK_list (by omega)) (by omega) | assumption); (case j199 => omega); (case r199 => first | exact hR.1 _ _ _ rfl | exact hR.2.1 _ (by omega) | exact (hR.2.2.2 _ (by omega)).1.1 | exact (hR.2.2.2 _ (by omega)).1.2.1 | exact (hR.2.2.2 _ (by omega)).1.2.2 | exact (hR.2.2.2 _ (by omega)).2.1.1 | exact (hR.2.2.2 _ (by omega)).2.1.2 | exact (hR.2.2.2 _ (by omega)).2.2.1 _ (by omega) | exact (hR.2.2.2 _ (by omega)).2.2.2 _ (by omega) | exact hR.2.2.1 _ (by omega) | exact (hF _ (by omega)).1 | assumption))
                refine zx_il5 zd74_116 ?_
                (with_reducible refine' zx_ialdN zd74_118 ?k201 ?j201 ?_); (case k201 => first | exact zkk rfl (by omega) | exact zkk (zK_B0 (by omega)) (by omega) | exact zkk ((zK_B (by omega) (by decide)).trans rfl) (by omega) | exact zkk (zK_row (by omega) (by omega)) (by omega) | exact zkk (zK_file (by omega) (by omega)) (by omega) | exact zkk (zK_byte (by omega) (by omega)) (by omega) | exact zkk (zK_list (by omega)) (by omega) | assumption); (case j201 => omega)
                refine zx_goto zd74_119 ?_
                refine zx_iret zd74_123 (Or.inl rfl) ?_
                exact ⟨rfl, rfl⟩
            · rw [if_pos h6]
              have hrr : f + i / 32 - 1 < c := by omega
              refine zx_al0 zd74_80 ?_
              (refine' zx_gfA zd74_81 ?k205 ?r205 ?_); (case k205 => first | exact zkk rfl (by omega) | exact zkk (zK_B0 (by omega)) (by omega) | exact zkk ((zK_B (by omega) (by decide)).trans rfl) (by omega) | exact zkk (zK_row (by omega) (by omega)) (by omega) | exact zkk (zK_file (by omega) (by omega)) (by omega) | exact zkk (zK_byte (by omega) (by omega)) (by omega) | exact zkk (zK_list (by omega)) (by omega) | assumption); (case r205 => first | exact hR.1 _ _ _ rfl | exact hR.2.1 _ (by omega) | exact (hR.2.2.2 _ (by omega)).1.1 | exact (hR.2.2.2 _ (by omega)).1.2.1 | exact (hR.2.2.2 _ (by omega)).1.2.2 | exact (hR.2.2.2 _ (by omega)).2.1.1 | exact (hR.2.2.2 _ (by omega)).2.1.2 | exact (hR.2.2.2 _ (by omega)).2.2.1 _ (by omega) | exact (hR.2.2.2 _ (by omega)).2.2.2 _ (by omega) | exact hR.2.2.1 _ (by omega) | exact (hF _ (by omega)).1 | assumption)
              refine zx_il1 zd74_84 ?_
              refine zx_il4 zd74_85 ?_
              first | with_reducible refine zx_addN zd74_87 ?_ | refine zx_add zd74_87 ?_
              refine zx_c zd74_88 ?_
              first | ((with_reducible refine zx_subN zd74_89 ?h210 ?_); (case h210 => omega)) | refine zx_sub zd74_89 ?_
              first | ((with_reducible refine' zx_aaldAN zd74_90 ?k211 ?j211 ?r211 ?_); (case k211 => first | exact zkk rfl (by omega) | exact zkk (zK_B0 (by omega)) (by omega) | exact zkk ((zK_B (by omega) (by decide)).trans rfl) (by omega) | exact zkk (zK_row (by omega) (by omega)) (by omega) | exact zkk (zK_file (by omega) (by omega)) (by omega) | exact zkk (zK_byte (by omega) (by omega)) (by omega) | exact zkk (zK_list (by omega)) (by omega) | assumption); (case j211 => omega); (case r211 => first | exact hR.1 _ _ _ rfl | exact hR.2.1 _ (by omega) | exact (hR.2.2.2 _ (by omega)).1.1 | exact (hR.2.2.2 _ (by omega)).1.2.1 | exact (hR.2.2.2 _ (by omega)).1.2.2 | exact (hR.2.2.2 _ (by omega)).2.1.1 | exact (hR.2.2.2 _ (by omega)).2.1.2 | exact (hR.2.2.2 _ (by omega)).2.2.1 _ (by omega) | exact (hR.2.2.2 _ (by omega)).2.2.2 _ (by omega) | exact hR.2.2.1 _ (by omega) | exact (hF _ (by omega)).1 | assumption)) | ((with_reducible refine' zx_aaldON zd74_90 ?k211 ?j211 ?r211 ?_); (case k211 => first | exact zkk rfl (by omega) | exact zkk (zK_B0 (by omega)) (by omega) | exact zkk ((zK_B (by omega) (by decide)).trans rfl) (by omega) | exact zkk (zK_row (by omega) (by omega)) (by omega) | exact zkk (zK_file (by omega) (by omega)) (by omega) | exact zkk (zK_byte (by omega) (by omega)) (by omega) | exact zkk (zK_list (by omega)) (by omega) | assumption); (case j211 => omega); (case r211 => first | exact hR.1 _ _ _ rfl | exact hR.2.1 _ (by omega) | exact (hR.2.2.2 _ (by omega)).1.1 | exact (hR.2.2.2 _ (by omega)).1.2.1 | exact (hR.2.2.2 _ (by omega)).1.2.2 | exact (hR.2.2.2 _ (by omega)).2.1.1 | exact (hR.2.2.2 _ (by omega)).2.1.2 | exact (hR.2.2.2 _ (by omega)).2.2.1 _ (by omega) | exact (hR.2.2.2 _ (by omega)).2.2.2 _ (by omega) | exact hR.2.2.1 _ (by omega) | exact (hF _ (by omega)).1 | assumption))
              (refine' zx_gfO zd74_91 ?k212 ?r212 ?_); (case k212 => first | exact zkk rfl (by omega) | exact zkk (zK_B0 (by omega)) (by omega) | exact zkk ((zK_B (by omega) (by decide)).trans rfl) (by omega) | exact zkk (zK_row (by omega) (by omega)) (by omega) | exact zkk (zK_file (by omega) (by omega)) (by omega) | exact zkk (zK_byte (by omega) (by omega)) (by omega) | exact zkk (zK_list (by omega)) (by omega) | assumption); (case r212 => first | exact hR.1 _ _ _ rfl | exact hR.2.1 _ (by omega) | exact (hR.2.2.2 _ (by omega)).1.1 | exact (hR.2.2.2 _ (by omega)).1.2.1 | exact (hR.2.2.2 _ (by omega)).1.2.2 | exact (hR.2.2.2 _ (by omega)).2.1.1 | exact (hR.2.2.2 _ (by omega)).2.1.2 | exact (hR.2.2.2 _ (by omega)).2.2.1 _ (by omega) | exact (hR.2.2.2 _ (by omega)).2.2.2 _ (by omega) | exact hR.2.2.1 _ (by omega) | exact (hF _ (by omega)).1 | assumption)
              (refine zx_cv0R zd74_94 ?k213 (zc_top hR hN (by omega) (htp _ hrr).1 (htp _ hrr).2) ?_); (case k213 => first | exact zkk rfl (by omega) | exact zkk (zK_B0 (by omega)) (by omega) | exact zkk ((zK_B (by omega) (by decide)).trans rfl) (by omega) | exact zkk (zK_row (by omega) (by omega)) (by omega) | exact zkk (zK_file (by omega) (by omega)) (by omega) | exact zkk (zK_byte (by omega) (by omega)) (by omega) | exact zkk (zK_list (by omega)) (by omega) | assumption)
              have h4' := (htp _ hrr).2
              have hq4 := zq_f h4'
              refine zx_il5 zd74_97 ?_
              (with_reducible refine' zx_ialdN zd74_99 ?k215 ?j215 ?_); (case k215 => first | exact zkk rfl (by omega) | exact zkk (zK_B0 (by omega)) (by omega) | exact zkk ((zK_B (by omega) (by decide)).trans rfl) (by omega) | exact zkk (zK_row (by omega) (by omega)) (by omega) | exact zkk (zK_file (by omega) (by omega)) (by omega) | exact zkk (zK_byte (by omega) (by omega)) (by omega) | exact zkk (zK_list (by omega)) (by omega) | assumption); (case j215 => omega)
              refine zx_iret zd74_100 (Or.inl rfl) ?_
              exact ⟨rfl, rfl⟩
          · rw [if_pos h5]
            refine zx_al0 zd74_63 ?_
            (refine' zx_gfA zd74_64 ?k218 ?r218 ?_); (case k218 => first | exact zkk rfl (by omega) | exact zkk (zK_B0 (by omega)) (by omega) | exact zkk ((zK_B (by omega) (by decide)).trans rfl) (by omega) | exact zkk (zK_row (by omega) (by omega)) (by omega) | exact zkk (zK_file (by omega) (by omega)) (by omega) | exact zkk (zK_byte (by omega) (by omega)) (by omega) | exact zkk (zK_list (by omega)) (by omega) | assumption); (case r218 => first | exact hR.1 _ _ _ rfl | exact hR.2.1 _ (by omega) | exact (hR.2.2.2 _ (by omega)).1.1 | exact (hR.2.2.2 _ (by omega)).1.2.1 | exact (hR.2.2.2 _ (by omega)).1.2.2 | exact (hR.2.2.2 _ (by omega)).2.1.1 | exact (hR.2.2.2 _ (by omega)).2.1.2 | exact (hR.2.2.2 _ (by omega)).2.2.1 _ (by omega) | exact (hR.2.2.2 _ (by omega)).2.2.2 _ (by omega) | exact hR.2.2.1 _ (by omega) | exact (hF _ (by omega)).1 | assumption)
            refine zx_il1 zd74_67 ?_
            first | ((with_reducible refine' zx_aaldAN zd74_68 ?k220 ?j220 ?r220 ?_); (case k220 => first | exact zkk rfl (by omega) | exact zkk (zK_B0 (by omega)) (by omega) | exact zkk ((zK_B (by omega) (by decide)).trans rfl) (by omega) | exact zkk (zK_row (by omega) (by omega)) (by omega) | exact zkk (zK_file (by omega) (by omega)) (by omega) | exact zkk (zK_byte (by omega) (by omega)) (by omega) | exact zkk (zK_list (by omega)) (by omega) | assumption); (case j220 => omega); (case r220 => first | exact hR.1 _ _ _ rfl | exact hR.2.1 _ (by omega) | exact (hR.2.2.2 _ (by omega)).1.1 | exact (hR.2.2.2 _ (by omega)).1.2.1 | exact (hR.2.2.2 _ (by omega)).1.2.2 | exact (hR.2.2.2 _ (by omega)).2.1.1 | exact (hR.2.2.2 _ (by omega)).2.1.2 | exact (hR.2.2.2 _ (by omega)).2.2.1 _ (by omega) | exact (hR.2.2.2 _ (by omega)).2.2.2 _ (by omega) | exact hR.2.2.1 _ (by omega) | exact (hF _ (by omega)).1 | assumption)) | ((with_reducible refine' zx_aaldON zd74_68 ?k220 ?j220 ?r220 ?_); (case k220 => first | exact zkk rfl (by omega) | exact zkk (zK_B0 (by omega)) (by omega) | exact zkk ((zK_B (by omega) (by decide)).trans rfl) (by omega) | exact zkk (zK_row (by omega) (by omega)) (by omega) | exact zkk (zK_file (by omega) (by omega)) (by omega) | exact zkk (zK_byte (by omega) (by omega)) (by omega) | exact zkk (zK_list (by omega)) (by omega) | assumption); (case j220 => omega); (case r220 => first | exact hR.1 _ _ _ rfl | exact hR.2.1 _ (by omega) | exact (hR.2.2.2 _ (by omega)).1.1 | exact (hR.2.2.2 _ (by omega)).1.2.1 | exact (hR.2.2.2 _ (by omega)).1.2.2 | exact (hR.2.2.2 _ (by omega)).2.1.1 | exact (hR.2.2.2 _ (by omega)).2.1.2 | exact (hR.2.2.2 _ (by omega)).2.2.1 _ (by omega) | exact (hR.2.2.2 _ (by omega)).2.2.2 _ (by omega) | exact hR.2.2.1 _ (by omega) | exact (hF _ (by omega)).1 | assumption))
            refine zx_il5 zd74_69 ?_
            (with_reducible refine' zx_ialdN zd74_71 ?k222 ?j222 ?_); (case k222 => first | exact zkk rfl (by omega) | exact zkk (zK_B0 (by omega)) (by omega) | exact zkk ((zK_B (by omega) (by decide)).trans rfl) (by omega) | exact zkk (zK_row (by omega) (by omega)) (by omega) | exact zkk (zK_file (by omega) (by omega)) (by omega) | exact zkk (zK_byte (by omega) (by omega)) (by omega) | exact zkk (zK_list (by omega)) (by omega) | assumption); (case j222 => omega)
            refine zx_iret zd74_72 (Or.inl rfl) ?_
            exact ⟨rfl, rfl⟩
        · omega
      · omega
end ZC4
