/-! THE CLASS: files, bytes, the log, the claim -/
/-- the first place that is of p, from i on, n places -/
def zfnd (p : Nat → Bool) : Nat → Nat → Option Nat
  | _, 0 => none
  | i, n + 1 => if p i = true then some i else zfnd p (i + 1) n
def zfi (o : Option Nat) : Int32 := match o with
  | some i => Int32.ofNat i
  | none => -1
theorem zfnd_lt {p : Nat → Bool} : ∀ {n i j : Nat}, zfnd p i n = some j → i ≤ j ∧ j < i + n ∧ p j = true
  | 0, i, j, h => by cases h
  | n + 1, i, j, h => by
    unfold zfnd at h
    split at h
    next hp => cases h; exact ⟨Nat.le_refl _, by omega, hp⟩
    next =>
      have h2 := zfnd_lt h
      exact ⟨by omega, by omega, h2.2.2⟩
theorem zfnd_congr {p p' : Nat → Bool} : ∀ {n i : Nat}, (∀ j, i ≤ j → j < i + n → p j = p' j) → zfnd p i n = zfnd p' i n
  | 0, _, _ => rfl
  | n + 1, i, h => by
    unfold zfnd
    rw [h i (Nat.le_refl _) (by omega), zfnd_congr (fun j h1 h2 => h j (by omega) (by omega))]
/-- the files of release r stand in the order s -/
def zFl (R : zR) (r : Nat) (s : Nat → Nat) : Prop := ∀ j, j < 8 → R (8 + 37 * r + 1) j = some (8 + 37 * r + 21 + 2 * s j) ∧ s j < 8
section ZC2
variable {L N U : Nat} {I : zI} {J : zJ} {R : zR} {c : Nat}
theorem zc_fn0 (hR : zRs R) (hN : 459 ≤ N) {r n : Nat} {s : Nat → Nat} (hr : r < 11) (hF : zFl R r s) (hn : I (8 + 37 * r) 1 = Int32.ofNat n) (hn8 : n ≤ 8) (x : Int32) :
    ∀ (k i : Nat), i + k = n → zW L 42 2 [some (.ref (8 + 37 * r)), some (.int x), some (.int (Int32.ofNat i))] [] (N, U, I, J, R) (fun o h => o = .inl (some (.int (zfi (zfnd (fun j => decide (I (8 + 37 * r + 21 + 2 * s j) 0 = x)) i k)))) ∧ h = (N, U, I, J, R)) := by
  intro k
  induction k with
  | zero =>
    intro i hi
    refine zx_il2 zd42_2 ?_
    refine zx_al0 zd42_3 ?_
    (refine zx_gfI zd42_4 ?k3 ?_); (case k3 => first | exact zkk rfl (by omega) | exact zkk (zK_B0 (by omega)) (by omega) | exact zkk ((zK_B (by omega) (by decide)).trans rfl) (by omega) | exact zkk (zK_row (by omega) (by omega)) (by omega) | exact zkk (zK_file (by omega) (by omega)) (by omega) | exact zkk (zK_byte (by omega) (by omega)) (by omega) | exact zkk (zK_list (by omega)) (by omega) | assumption)
    rw [hn]
    first | ((with_reducible refine zx_icmpgeN zd42_7 ?s4 (fun h => ?_) (fun h => ?_)); (case s4 => omega)) | refine zx_icmpge zd42_7 (fun h => ?_) (fun h => ?_)
    · refine zx_c zd42_31 ?_
      refine zx_iret zd42_32 (Or.inl rfl) ?_
      exact ⟨rfl, rfl⟩
    · omega
  | succ k ih =>
    intro i hi
    have hs := (hF i (by omega)).2
    refine zx_il2 zd42_2 ?_
    refine zx_al0 zd42_3 ?_
    (refine zx_gfI zd42_4 ?k9 ?_); (case k9 => first | exact zkk rfl (by omega) | exact zkk (zK_B0 (by omega)) (by omega) | exact zkk ((zK_B (by omega) (by decide)).trans rfl) (by omega) | exact zkk (zK_row (by omega) (by omega)) (by omega) | exact zkk (zK_file (by omega) (by omega)) (by omega) | exact zkk (zK_byte (by omega) (by omega)) (by omega) | exact zkk (zK_list (by omega)) (by omega) | assumption)
    rw [hn]
    first | ((with_reducible refine zx_icmpgeN zd42_7 ?s10 (fun h => ?_) (fun h => ?_)); (case s10 => omega)) | refine zx_icmpge zd42_7 (fun h => ?_) (fun h => ?_)
    · omega
    · refine zx_al0 zd42_10 ?_
      (refine' zx_gfA zd42_11 ?k12 ?r12 ?_); (case k12 => first | exact zkk rfl (by omega) | exact zkk (zK_B0 (by omega)) (by omega) | exact zkk ((zK_B (by omega) (by decide)).trans rfl) (by omega) | exact zkk (zK_row (by omega) (by omega)) (by omega) | exact zkk (zK_file (by omega) (by omega)) (by omega) | exact zkk (zK_byte (by omega) (by omega)) (by omega) | exact zkk (zK_list (by omega)) (by omega) | assumption); (case r12 => first | exact hR.1 _ _ _ rfl | exact hR.2.1 _ (by omega) | exact (hR.2.2.2 _ (by omega)).1.1 | exact (hR.2.2.2 _ (by omega)).1.2.1 | exact (hR.2.2.2 _ (by omega)).1.2.2 | exact (hR.2.2.2 _ (by omega)).2.1.1 | exact (hR.2.2.2 _ (by omega)).2.1.2 | exact (hR.2.2.2 _ (by omega)).2.2.1 _ (by omega) | exact (hR.2.2.2 _ (by omega)).2.2.2 _ (by omega) | exact hR.2.2.1 _ (by omega) | exact (hF _ (by omega)).1 | assumption)
      refine zx_il2 zd42_14 ?_
      first | ((with_reducible refine' zx_aaldAN zd42_15 ?k14 ?j14 ?r14 ?_); (case k14 => first | exact zkk rfl (by omega) | exact zkk (zK_B0 (by omega)) (by omega) | exact zkk ((zK_B (by omega) (by decide)).trans rfl) (by omega) | exact zkk (zK_row (by omega) (by omega)) (by omega) | exact zkk (zK_file (by omega) (by omega)) (by omega) | exact zkk (zK_byte (by omega) (by omega)) (by omega) | exact zkk (zK_list (by omega)) (by omega) | assumption); (case j14 => omega); (case r14 => first | exact hR.1 _ _ _ rfl | exact hR.2.1 _ (by omega) | exact (hR.2.2.2 _ (by omega)).1.1 | exact (hR.2.2.2 _ (by omega)).1.2.1 | exact (hR.2.2.2 _ (by omega)).1.2.2 | exact (hR.2.2.2 _ (by omega)).2.1.1 | exact (hR.2.2.2 _ (by omega)).2.1.2 | exact (hR.2.2.2 _ (by omega)).2.2.1 _ (by omega) | exact (hR.2.2.2 _ (by omega)).2.2.2 _ (by omega) | exact hR.2.2.1 _ (by omega) | exact (hF _ (by omega)).1 | assumption)) | ((with_reducible refine' zx_aaldON zd42_15 ?k14 ?j14 ?r14 ?_); (case k14 => first | exact zkk rfl (by omega) | exact zkk (zK_B0 (by omega)) (by omega) | exact zkk ((zK_B (by omega) (by decide)).trans rfl) (by omega) | exact zkk (zK_row (by omega) (by omega)) (by omega) | exact zkk (zK_file (by omega) (by omega)) (by omega) | exact zkk (zK_byte (by omega) (by omega)) (by omega) | exact zkk (zK_list (by omega)) (by omega) | assumption); (case j14 => omega); (case r14 => first | exact hR.1 _ _ _ rfl | exact hR.2.1 _ (by omega) | exact (hR.2.2.2 _ (by omega)).1.1 | exact (hR.2.2.2 _ (by omega)).1.2.1 | exact (hR.2.2.2 _ (by omega)).1.2.2 | exact (hR.2.2.2 _ (by omega)).2.1.1 | exact (hR.2.2.2 _ (by omega)).2.1.2 | exact (hR.2.2.2 _ (by omega)).2.2.1 _ (by omega) | exact (hR.2.2.2 _ (by omega)).2.2.2 _ (by omega) | exact hR.2.2.1 _ (by omega) | exact (hF _ (by omega)).1 | assumption))
      (refine zx_gfI zd42_16 ?k15 ?_); (case k15 => first | exact zkk rfl (by omega) | exact zkk (zK_B0 (by omega)) (by omega) | exact zkk ((zK_B (by omega) (by decide)).trans rfl) (by omega) | exact zkk (zK_row (by omega) (by omega)) (by omega) | exact zkk (zK_file (by omega) (by omega)) (by omega) | exact zkk (zK_byte (by omega) (by omega)) (by omega) | exact zkk (zK_list (by omega)) (by omega) | assumption)
      refine zx_il1 zd42_19 ?_
      refine zx_icmpne zd42_20 (fun h2 => ?_) (fun h2 => ?_)
      · first | with_reducible refine zx_iin2 zd42_25 ?_ | refine zx_ii2 zd42_25 ?_
        refine zx_goto zd42_28 ?_
        have e : zfnd (fun j => decide (I (8 + 37 * r + 21 + 2 * s j) 0 = x)) i (k + 1) = zfnd (fun j => decide (I (8 + 37 * r + 21 + 2 * s j) 0 = x)) (i + 1) k := if_neg (by simpa using h2)
        rw [e]
        exact ih (i + 1) (by omega)
      · refine zx_il2 zd42_23 ?_
        refine zx_iret zd42_24 (Or.inl rfl) ?_
        have e : zfnd (fun j => decide (I (8 + 37 * r + 21 + 2 * s j) 0 = x)) i (k + 1) = some i := if_pos (by simpa using h2)
        rw [e]
        exact ⟨rfl, rfl⟩
theorem zc_fn (hR : zRs R) (hN : 459 ≤ N) {r n : Nat} {s : Nat → Nat} (hr : r < 11) (hF : zFl R r s) (hn : I (8 + 37 * r) 1 = Int32.ofNat n) (hn8 : n ≤ 8) (x : Int32) :
    zRet L 42 [.ref (8 + 37 * r), .int x] (N, U, I, J, R) (some (.int (zfi (zfnd (fun j => decide (I (8 + 37 * r + 21 + 2 * s j) 0 = x)) 0 n)))) (N, U, I, J, R) := by
  show zW L 42 0 [some (.ref (8 + 37 * r)), some (.int x), none] [] _ _
  refine zx_c zd42_0 ?_
  refine zx_is2 zd42_1 rfl ?_
  exact zc_fn0 hR hN hr hF hn hn8 x n 0 (by omega)
theorem zfi_ne {o : Option Nat} (h : o ≠ none) (hb : ∀ j, o = some j → j < 100) : zfi o ≠ -1 := by
  cases o with
  | none => exact absurd rfl h
  | some j =>
    intro e
    have hj := hb j rfl
    have e2 : Int32.ofNat j = -1 := e
    have h1 : (0 : Int32) ≤ Int32.ofNat j := zn_nn (by omega)
    rw [e2] at h1
    exact absurd h1 (by decide)
/-- addFile, file: full or there, or a new one -/
theorem zc_afN (hR : zRs R) (hN : 459 ≤ N) {r n : Nat} {s : Nat → Nat} (hr : r < 11) (hF : zFl R r s) (hn : I (8 + 37 * r) 1 = Int32.ofNat n) (hn8 : n ≤ 8) {x : Int32} (hx : n = 8 ∨ zfnd (fun j => decide (I (8 + 37 * r + 21 + 2 * s j) 0 = x)) 0 n ≠ none) :
    zRet L 41 [.ref (8 + 37 * r), .int x] (N, U, I, J, R) (some (.int (-1))) (N, U, I, J, R) := by
  show zW L 41 0 [some (.ref (8 + 37 * r)), some (.int x), none] [] _ _
  refine zx_al0 zd41_0 ?_
  (refine zx_gfI zd41_1 ?k24 ?_); (case k24 => first | exact zkk rfl (by omega) | exact zkk (zK_B0 (by omega)) (by omega) | exact zkk ((zK_B (by omega) (by decide)).trans rfl) (by omega) | exact zkk (zK_row (by omega) (by omega)) (by omega) | exact zkk (zK_file (by omega) (by omega)) (by omega) | exact zkk (zK_byte (by omega) (by omega)) (by omega) | exact zkk (zK_list (by omega)) (by omega) | assumption)
  rw [hn]
  refine zx_c zd41_4 ?_
  first | ((with_reducible refine zx_icmpgeN zd41_6 ?s26 (fun h => ?_) (fun h => ?_)); (case s26 => omega)) | refine zx_icmpge zd41_6 (fun h => ?_) (fun h => ?_)
  · refine zx_c zd41_18 ?_
    refine zx_iret zd41_19 (Or.inl rfl) ?_
    exact ⟨rfl, rfl⟩
  · refine zx_al0 zd41_9 ?_
    refine zx_il1 zd41_10 ?_
    (refine zx_cv1I zd41_11 ?k31 (zc_fn hR hN hr hF hn hn8 x) ?_); (case k31 => first | exact zkk rfl (by omega) | exact zkk (zK_B0 (by omega)) (by omega) | exact zkk ((zK_B (by omega) (by decide)).trans rfl) (by omega) | exact zkk (zK_row (by omega) (by omega)) (by omega) | exact zkk (zK_file (by omega) (by omega)) (by omega) | exact zkk (zK_byte (by omega) (by omega)) (by omega) | exact zkk (zK_list (by omega)) (by omega) | assumption)
    refine zx_c zd41_14 ?_
    refine zx_icmpeq zd41_15 (fun h2 => ?_) (fun h2 => ?_)
    · rcases hx with hx | hx
      · omega
      · exact absurd h2 (zfi_ne hx (fun j hj => by have := zfnd_lt hj; omega))
    · refine zx_c zd41_18 ?_
      refine zx_iret zd41_19 (Or.inl rfl) ?_
      exact ⟨rfl, rfl⟩
theorem zc_af (hR : zRs R) (hN : 459 ≤ N) {r n : Nat} {s : Nat → Nat} (hr : r < 11) (hF : zFl R r s) (hn : I (8 + 37 * r) 1 = Int32.ofNat n) (hn8 : n < 8) {x : Int32} (hx : zfnd (fun j => decide (I (8 + 37 * r + 21 + 2 * s j) 0 = x)) 0 n = none) :
    zRet L 41 [.ref (8 + 37 * r), .int x] (N, U, I, J, R) (some (.int (Int32.ofNat n))) (N, U, zu (zu I (8 + 37 * r + 21 + 2 * s n) 0 x) (8 + 37 * r) 1 (Int32.ofNat (n + 1)), J, R) := by
  have hs := (hF n (by omega)).2
  show zW L 41 0 [some (.ref (8 + 37 * r)), some (.int x), none] [] _ _
  refine zx_al0 zd41_0 ?_
  (refine zx_gfI zd41_1 ?k36 ?_); (case k36 => first | exact zkk rfl (by omega) | exact zkk (zK_B0 (by omega)) (by omega) | exact zkk ((zK_B (by omega) (by decide)).trans rfl) (by omega) | exact zkk (zK_row (by omega) (by omega)) (by omega) | exact zkk (zK_file (by omega) (by omega)) (by omega) | exact zkk (zK_byte (by omega) (by omega)) (by omega) | exact zkk (zK_list (by omega)) (by omega) | assumption)
  rw [hn]
  refine zx_c zd41_4 ?_
  first | ((with_reducible refine zx_icmpgeN zd41_6 ?s38 (fun h => ?_) (fun h => ?_)); (case s38 => omega)) | refine zx_icmpge zd41_6 (fun h => ?_) (fun h => ?_)
  · omega
  · refine zx_al0 zd41_9 ?_
    refine zx_il1 zd41_10 ?_
    (refine zx_cv1I zd41_11 ?k41 (zc_fn hR hN hr hF hn (by omega) x) ?_); (case k41 => first | exact zkk rfl (by omega) | exact zkk (zK_B0 (by omega)) (by omega) | exact zkk ((zK_B (by omega) (by decide)).trans rfl) (by omega) | exact zkk (zK_row (by omega) (by omega)) (by omega) | exact zkk (zK_file (by omega) (by omega)) (by omega) | exact zkk (zK_byte (by omega) (by omega)) (by omega) | exact zkk (zK_list (by omega)) (by omega) | assumption)
    refine zx_c zd41_14 ?_
    rw [hx]
    refine zx_icmpeq zd41_15 (fun h2 => ?_) (fun h2 => absurd rfl h2)
    refine zx_al0 zd41_20 ?_
    (refine zx_gfI zd41_21 ?k44 ?_); (case k44 => first | exact zkk rfl (by omega) | exact zkk (zK_B0 (by omega)) (by omega) | exact zkk ((zK_B (by omega) (by decide)).trans rfl) (by omega) | exact zkk (zK_row (by omega) (by omega)) (by omega) | exact zkk (zK_file (by omega) (by omega)) (by omega) | exact zkk (zK_byte (by omega) (by omega)) (by omega) | exact zkk (zK_list (by omega)) (by omega) | assumption)
    rw [hn]
    refine zx_is2 zd41_24 rfl ?_
    refine zx_al0 zd41_25 ?_
    (refine' zx_gfA zd41_26 ?k47 ?r47 ?_); (case k47 => first | exact zkk rfl (by omega) | exact zkk (zK_B0 (by omega)) (by omega) | exact zkk ((zK_B (by omega) (by decide)).trans rfl) (by omega) | exact zkk (zK_row (by omega) (by omega)) (by omega) | exact zkk (zK_file (by omega) (by omega)) (by omega) | exact zkk (zK_byte (by omega) (by omega)) (by omega) | exact zkk (zK_list (by omega)) (by omega) | assumption); (case r47 => first | exact hR.1 _ _ _ rfl | exact hR.2.1 _ (by omega) | exact (hR.2.2.2 _ (by omega)).1.1 | exact (hR.2.2.2 _ (by omega)).1.2.1 | exact (hR.2.2.2 _ (by omega)).1.2.2 | exact (hR.2.2.2 _ (by omega)).2.1.1 | exact (hR.2.2.2 _ (by omega)).2.1.2 | exact (hR.2.2.2 _ (by omega)).2.2.1 _ (by omega) | exact (hR.2.2.2 _ (by omega)).2.2.2 _ (by omega) | exact hR.2.2.1 _ (by omega) | exact (hF _ (by omega)).1 | assumption)
    refine zx_il2 zd41_29 ?_
    first | ((with_reducible refine' zx_aaldAN zd41_30 ?k49 ?j49 ?r49 ?_); (case k49 => first | exact zkk rfl (by omega) | exact zkk (zK_B0 (by omega)) (by omega) | exact zkk ((zK_B (by omega) (by decide)).trans rfl) (by omega) | exact zkk (zK_row (by omega) (by omega)) (by omega) | exact zkk (zK_file (by omega) (by omega)) (by omega) | exact zkk (zK_byte (by omega) (by omega)) (by omega) | exact zkk (zK_list (by omega)) (by omega) | assumption); (case j49 => omega); (case r49 => first | exact hR.1 _ _ _ rfl | exact hR.2.1 _ (by omega) | exact (hR.2.2.2 _ (by omega)).1.1 | exact (hR.2.2.2 _ (by omega)).1.2.1 | exact (hR.2.2.2 _ (by omega)).1.2.2 | exact (hR.2.2.2 _ (by omega)).2.1.1 | exact (hR.2.2.2 _ (by omega)).2.1.2 | exact (hR.2.2.2 _ (by omega)).2.2.1 _ (by omega) | exact (hR.2.2.2 _ (by omega)).2.2.2 _ (by omega) | exact hR.2.2.1 _ (by omega) | exact (hF _ (by omega)).1 | assumption)) | ((with_reducible refine' zx_aaldON zd41_30 ?k49 ?j49 ?r49 ?_); (case k49 => first | exact zkk rfl (by omega) | exact zkk (zK_B0 (by omega)) (by omega) | exact zkk ((zK_B (by omega) (by decide)).trans rfl) (by omega) | exact zkk (zK_row (by omega) (by omega)) (by omega) | exact zkk (zK_file (by omega) (by omega)) (by omega) | exact zkk (zK_byte (by omega) (by omega)) (by omega) | exact zkk (zK_list (by omega)) (by omega) | assumption); (case j49 => omega); (case r49 => first | exact hR.1 _ _ _ rfl | exact hR.2.1 _ (by omega) | exact (hR.2.2.2 _ (by omega)).1.1 | exact (hR.2.2.2 _ (by omega)).1.2.1 | exact (hR.2.2.2 _ (by omega)).1.2.2 | exact (hR.2.2.2 _ (by omega)).2.1.1 | exact (hR.2.2.2 _ (by omega)).2.1.2 | exact (hR.2.2.2 _ (by omega)).2.2.1 _ (by omega) | exact (hR.2.2.2 _ (by omega)).2.2.2 _ (by omega) | exact hR.2.2.1 _ (by omega) | exact (hF _ (by omega)).1 | assumption))
    refine zx_il1 zd41_31 ?_
    (refine zx_pfI zd41_32 ?k51 ?a51 ?_); (case k51 => first | exact zkk rfl (by omega) | exact zkk (zK_B0 (by omega)) (by omega) | exact zkk ((zK_B (by omega) (by decide)).trans rfl) (by omega) | exact zkk (zK_row (by omega) (by omega)) (by omega) | exact zkk (zK_file (by omega) (by omega)) (by omega) | exact zkk (zK_byte (by omega) (by omega)) (by omega) | exact zkk (zK_list (by omega)) (by omega) | assumption); (case a51 => omega)
    refine zx_al0 zd41_35 ?_
    refine zx_il2 zd41_36 ?_
    refine zx_c zd41_37 ?_
    first | with_reducible refine zx_addN zd41_38 ?_ | refine zx_add zd41_38 ?_
    (refine zx_pfI zd41_39 ?k56 ?a56 ?_); (case k56 => first | exact zkk rfl (by omega) | exact zkk (zK_B0 (by omega)) (by omega) | exact zkk ((zK_B (by omega) (by decide)).trans rfl) (by omega) | exact zkk (zK_row (by omega) (by omega)) (by omega) | exact zkk (zK_file (by omega) (by omega)) (by omega) | exact zkk (zK_byte (by omega) (by omega)) (by omega) | exact zkk (zK_list (by omega)) (by omega) | assumption); (case a56 => omega)
    refine zx_il2 zd41_42 ?_
    refine zx_iret zd41_43 (Or.inl rfl) ?_
    exact ⟨rfl, rfl⟩
theorem zc_fileT (hN : 459 ≤ N) {x : Int32} (hx : x < 0 ∨ ¬ x < Int32.ofNat 65536) : zThr L 40 [.ref 3, .int x] (N, U, I, J, R) (0, N) (N + 1, U + 6, I, J, R) := by
  show zW L 40 0 [some (.ref 3), some (.int x)] [] _ _
  refine zx_il1 zd40_0 ?_
  first | ((with_reducible refine zx_ifltN zd40_1 ?s60 (fun h => ?_) (fun h => ?_)); (case s60 => omega)) | refine zx_iflt zd40_1 (fun h => ?_) (fun h => ?_)
  · refine zx_throw zd40_10 (zK_top (by omega)) rfl ?_
    exact ⟨rfl, rfl⟩
  · refine zx_il1 zd40_4 ?_
    refine zx_c zd40_5 ?_
    refine zx_icmple zd40_7 (fun h2 => ?_) (fun h2 => ?_)
    · rcases hx with hx | hx
      · exact absurd hx h
      · exact absurd ((zn_le (c := 65535) (by decide)).mpr hx) h2
    · refine zx_throw zd40_10 (zK_top (by omega)) rfl ?_
      exact ⟨rfl, rfl⟩
theorem zc_file (hR : zRs R) (hN : 459 ≤ N) (hc : I 3 2 = Int32.ofNat c) (hc10 : c ≤ 10) {x : Nat} (hx : x < 65536) {v : Int32} {I' : zI} (hr : zRet L 41 [.ref (8 + 37 * c), .int (Int32.ofNat x)] (N, U, I, J, R) (some (.int v)) (N, U, I', J, R)) :
    zRet L 40 [.ref 3, .int (Int32.ofNat x)] (N, U, I, J, R) (some (.int v)) (N, U, I', J, R) := by
  show zW L 40 0 [some (.ref 3), some (.int (Int32.ofNat x))] [] _ _
  refine zx_il1 zd40_0 ?_
  first | ((with_reducible refine zx_ifltN zd40_1 ?s66 (fun h => ?_) (fun h => ?_)); (case s66 => omega)) | refine zx_iflt zd40_1 (fun h => ?_) (fun h => ?_)
  · omega
  · refine zx_il1 zd40_4 ?_
    refine zx_c zd40_5 ?_
    first | ((with_reducible refine zx_icmpleN zd40_7 ?s69 (fun h2 => ?_) (fun h2 => ?_)); (case s69 => omega)) | refine zx_icmple zd40_7 (fun h2 => ?_) (fun h2 => ?_)
    · refine zx_al0 zd40_20 ?_
      (refine' zx_gfA zd40_21 ?k71 ?r71 ?_); (case k71 => first | exact zkk rfl (by omega) | exact zkk (zK_B0 (by omega)) (by omega) | exact zkk ((zK_B (by omega) (by decide)).trans rfl) (by omega) | exact zkk (zK_row (by omega) (by omega)) (by omega) | exact zkk (zK_file (by omega) (by omega)) (by omega) | exact zkk (zK_byte (by omega) (by omega)) (by omega) | exact zkk (zK_list (by omega)) (by omega) | assumption); (case r71 => first | exact hR.1 _ _ _ rfl | exact hR.2.1 _ (by omega) | exact (hR.2.2.2 _ (by omega)).1.1 | exact (hR.2.2.2 _ (by omega)).1.2.1 | exact (hR.2.2.2 _ (by omega)).1.2.2 | exact (hR.2.2.2 _ (by omega)).2.1.1 | exact (hR.2.2.2 _ (by omega)).2.1.2 | exact (hR.2.2.2 _ (by omega)).2.2.1 _ (by omega) | exact (hR.2.2.2 _ (by omega)).2.2.2 _ (by omega) | exact hR.2.2.1 _ (by omega) | exact (hF _ (by omega)).1 | assumption)
      refine zx_al0 zd40_24 ?_
      (refine zx_gfI zd40_25 ?k73 ?_); (case k73 => first | exact zkk rfl (by omega) | exact zkk (zK_B0 (by omega)) (by omega) | exact zkk ((zK_B (by omega) (by decide)).trans rfl) (by omega) | exact zkk (zK_row (by omega) (by omega)) (by omega) | exact zkk (zK_file (by omega) (by omega)) (by omega) | exact zkk (zK_byte (by omega) (by omega)) (by omega) | exact zkk (zK_list (by omega)) (by omega) | assumption)
      rw [hc]
      first | ((with_reducible refine' zx_aaldAN zd40_28 ?k74 ?j74 ?r74 ?_); (case k74 => first | exact zkk rfl (by omega) | exact zkk (zK_B0 (by omega)) (by omega) | exact zkk ((zK_B (by omega) (by decide)).trans rfl) (by omega) | exact zkk (zK_row (by omega) (by omega)) (by omega) | exact zkk (zK_file (by omega) (by omega)) (by omega) | exact zkk (zK_byte (by omega) (by omega)) (by omega) | exact zkk (zK_list (by omega)) (by omega) | assumption); (case j74 => omega); (case r74 => first | exact hR.1 _ _ _ rfl | exact hR.2.1 _ (by omega) | exact (hR.2.2.2 _ (by omega)).1.1 | exact (hR.2.2.2 _ (by omega)).1.2.1 | exact (hR.2.2.2 _ (by omega)).1.2.2 | exact (hR.2.2.2 _ (by omega)).2.1.1 | exact (hR.2.2.2 _ (by omega)).2.1.2 | exact (hR.2.2.2 _ (by omega)).2.2.1 _ (by omega) | exact (hR.2.2.2 _ (by omega)).2.2.2 _ (by omega) | exact hR.2.2.1 _ (by omega) | exact (hF _ (by omega)).1 | assumption)) | ((with_reducible refine' zx_aaldON zd40_28 ?k74 ?j74 ?r74 ?_); (case k74 => first | exact zkk rfl (by omega) | exact zkk (zK_B0 (by omega)) (by omega) | exact zkk ((zK_B (by omega) (by decide)).trans rfl) (by omega) | exact zkk (zK_row (by omega) (by omega)) (by omega) | exact zkk (zK_file (by omega) (by omega)) (by omega) | exact zkk (zK_byte (by omega) (by omega)) (by omega) | exact zkk (zK_list (by omega)) (by omega) | assumption); (case j74 => omega); (case r74 => first | exact hR.1 _ _ _ rfl | exact hR.2.1 _ (by omega) | exact (hR.2.2.2 _ (by omega)).1.1 | exact (hR.2.2.2 _ (by omega)).1.2.1 | exact (hR.2.2.2 _ (by omega)).1.2.2 | exact (hR.2.2.2 _ (by omega)).2.1.1 | exact (hR.2.2.2 _ (by omega)).2.1.2 | exact (hR.2.2.2 _ (by omega)).2.2.1 _ (by omega) | exact (hR.2.2.2 _ (by omega)).2.2.2 _ (by omega) | exact hR.2.2.1 _ (by omega) | exact (hF _ (by omega)).1 | assumption))
      refine zx_il1 zd40_29 ?_
      (refine zx_cv1I zd40_30 ?k76 (hr) ?_); (case k76 => first | exact zkk rfl (by omega) | exact zkk (zK_B0 (by omega)) (by omega) | exact zkk ((zK_B (by omega) (by decide)).trans rfl) (by omega) | exact zkk (zK_row (by omega) (by omega)) (by omega) | exact zkk (zK_file (by omega) (by omega)) (by omega) | exact zkk (zK_byte (by omega) (by omega)) (by omega) | exact zkk (zK_list (by omega)) (by omega) | assumption)
      refine zx_iret zd40_33 (Or.inl rfl) ?_
      exact ⟨rfl, rfl⟩
    · omega
/-- addByte of a file; byteOf -/
theorem zc_abN (hN : 459 ≤ N) {a : Nat} (ha : zk L (N, U, I, J, R) a = some (.inr 4)) (hn : I a 2 = Int32.ofNat 64) (b : Int32) : zRet L 46 [.ref a, .int b] (N, U, I, J, R) (some (.int (Int32.ofNat 0))) (N, U, I, J, R) := by
  show zW L 46 0 [some (.ref a), some (.int b)] [] _ _
  refine zx_al0 zd46_0 ?_
  (refine zx_gfI zd46_1 ?k79 ?_); (case k79 => first | exact zkk rfl (by omega) | exact zkk (zK_B0 (by omega)) (by omega) | exact zkk ((zK_B (by omega) (by decide)).trans rfl) (by omega) | exact zkk (zK_row (by omega) (by omega)) (by omega) | exact zkk (zK_file (by omega) (by omega)) (by omega) | exact zkk (zK_byte (by omega) (by omega)) (by omega) | exact zkk (zK_list (by omega)) (by omega) | assumption)
  rw [hn]
  refine zx_c zd46_4 ?_
  first | ((with_reducible refine zx_icmpltN zd46_6 ?s81 (fun h => ?_) (fun h => ?_)); (case s81 => omega)) | refine zx_icmplt zd46_6 (fun h => ?_) (fun h => ?_)
  · omega
  · refine zx_c zd46_9 ?_
    refine zx_iret zd46_10 (Or.inr ⟨rfl, by first | exact Or.inl rfl | exact Or.inr rfl | assumption⟩) ?_
    exact ⟨rfl, rfl⟩
theorem zc_ab (hR : zRs R) (hN : 459 ≤ N) {r j n : Nat} (hr : r < 11) (hj : j < 8) (hn : I (8 + 37 * r + 21 + 2 * j) 2 = Int32.ofNat n) (hn8 : n < 64) (b : Int32) : zRet L 46 [.ref (8 + 37 * r + 21 + 2 * j), .int b] (N, U, I, J, R) (some (.int (Int32.ofNat 1))) (N, U, zu (zu I (8 + 37 * r + 22 + 2 * j) n b) (8 + 37 * r + 21 + 2 * j) 2 (Int32.ofNat (n + 1)), J, R) := by
  show zW L 46 0 [some (.ref (8 + 37 * r + 21 + 2 * j)), some (.int b)] [] _ _
  refine zx_al0 zd46_0 ?_
  (refine zx_gfI zd46_1 ?k85 ?_); (case k85 => first | exact zkk rfl (by omega) | exact zkk (zK_B0 (by omega)) (by omega) | exact zkk ((zK_B (by omega) (by decide)).trans rfl) (by omega) | exact zkk (zK_row (by omega) (by omega)) (by omega) | exact zkk (zK_file (by omega) (by omega)) (by omega) | exact zkk (zK_byte (by omega) (by omega)) (by omega) | exact zkk (zK_list (by omega)) (by omega) | assumption)
  rw [hn]
  refine zx_c zd46_4 ?_
  first | ((with_reducible refine zx_icmpltN zd46_6 ?s87 (fun h => ?_) (fun h => ?_)); (case s87 => omega)) | refine zx_icmplt zd46_6 (fun h => ?_) (fun h => ?_)
  · refine zx_al0 zd46_11 ?_
    (refine' zx_gfA zd46_12 ?k89 ?r89 ?_); (case k89 => first | exact zkk rfl (by omega) | exact zkk (zK_B0 (by omega)) (by omega) | exact zkk ((zK_B (by omega) (by decide)).trans rfl) (by omega) | exact zkk (zK_row (by omega) (by omega)) (by omega) | exact zkk (zK_file (by omega) (by omega)) (by omega) | exact zkk (zK_byte (by omega) (by omega)) (by omega) | exact zkk (zK_list (by omega)) (by omega) | assumption); (case r89 => first | exact hR.1 _ _ _ rfl | exact hR.2.1 _ (by omega) | exact (hR.2.2.2 _ (by omega)).1.1 | exact (hR.2.2.2 _ (by omega)).1.2.1 | exact (hR.2.2.2 _ (by omega)).1.2.2 | exact (hR.2.2.2 _ (by omega)).2.1.1 | exact (hR.2.2.2 _ (by omega)).2.1.2 | exact (hR.2.2.2 _ (by omega)).2.2.1 _ (by omega) | exact (hR.2.2.2 _ (by omega)).2.2.2 _ (by omega) | exact hR.2.2.1 _ (by omega) | exact (hF _ (by omega)).1 | assumption)
    refine zx_al0 zd46_15 ?_
    (refine zx_gfI zd46_16 ?k91 ?_); (case k91 => first | exact zkk rfl (by omega) | exact zkk (zK_B0 (by omega)) (by omega) | exact zkk ((zK_B (by omega) (by decide)).trans rfl) (by omega) | exact zkk (zK_row (by omega) (by omega)) (by omega) | exact zkk (zK_file (by omega) (by omega)) (by omega) | exact zkk (zK_byte (by omega) (by omega)) (by omega) | exact zkk (zK_list (by omega)) (by omega) | assumption)
    rw [hn]
    refine zx_il1 zd46_19 ?_
    (with_reducible refine' zx_iastN zd46_20 ?k93 ?j93 ?a93 ?_); (case k93 => first | exact zkk rfl (by omega) | exact zkk (zK_B0 (by omega)) (by omega) | exact zkk ((zK_B (by omega) (by decide)).trans rfl) (by omega) | exact zkk (zK_row (by omega) (by omega)) (by omega) | exact zkk (zK_file (by omega) (by omega)) (by omega) | exact zkk (zK_byte (by omega) (by omega)) (by omega) | exact zkk (zK_list (by omega)) (by omega) | assumption); (case j93 => omega); (case a93 => omega)
    refine zx_al0 zd46_21 ?_
    first | refine zx_dupR zd46_22 ?_ | refine zx_dupI zd46_22 ?_
    (refine zx_gfI zd46_23 ?k96 ?_); (case k96 => first | exact zkk rfl (by omega) | exact zkk (zK_B0 (by omega)) (by omega) | exact zkk ((zK_B (by omega) (by decide)).trans rfl) (by omega) | exact zkk (zK_row (by omega) (by omega)) (by omega) | exact zkk (zK_file (by omega) (by omega)) (by omega) | exact zkk (zK_byte (by omega) (by omega)) (by omega) | exact zkk (zK_list (by omega)) (by omega) | assumption)
    rw [show zu I (8 + 37 * r + 22 + 2 * j) n b (8 + 37 * r + 21 + 2 * j) 2 = I (8 + 37 * r + 21 + 2 * j) 2 from if_neg (by omega), hn]
    refine zx_c zd46_26 ?_
    first | with_reducible refine zx_addN zd46_27 ?_ | refine zx_add zd46_27 ?_
    (refine zx_pfI zd46_28 ?k99 ?a99 ?_); (case k99 => first | exact zkk rfl (by omega) | exact zkk (zK_B0 (by omega)) (by omega) | exact zkk ((zK_B (by omega) (by decide)).trans rfl) (by omega) | exact zkk (zK_row (by omega) (by omega)) (by omega) | exact zkk (zK_file (by omega) (by omega)) (by omega) | exact zkk (zK_byte (by omega) (by omega)) (by omega) | exact zkk (zK_list (by omega)) (by omega) | assumption); (case a99 => omega)
    refine zx_c zd46_31 ?_
    refine zx_iret zd46_32 (Or.inr ⟨rfl, by first | exact Or.inl rfl | exact Or.inr rfl | assumption⟩) ?_
    exact ⟨rfl, rfl⟩
  · omega
theorem zc_boT1 (hR : zRs R) (hN : 459 ≤ N) (hc : I 3 2 = Int32.ofNat c) (hc10 : c ≤ 10) {n : Nat} (hn : I (8 + 37 * c) 1 = Int32.ofNat n) {x y : Int32} (hx : x < 0 ∨ ¬ x < Int32.ofNat n) : zThr L 44 [.ref 3, .int x, .int y] (N, U, I, J, R) (1, N) (N + 1, U + 6, I, J, R) := by
  show zW L 44 0 [some (.ref 3), some (.int x), some (.int y), none] [] _ _
  refine zx_al0 zd44_0 ?_
  (refine' zx_gfA zd44_1 ?k103 ?r103 ?_); (case k103 => first | exact zkk rfl (by omega) | exact zkk (zK_B0 (by omega)) (by omega) | exact zkk ((zK_B (by omega) (by decide)).trans rfl) (by omega) | exact zkk (zK_row (by omega) (by omega)) (by omega) | exact zkk (zK_file (by omega) (by omega)) (by omega) | exact zkk (zK_byte (by omega) (by omega)) (by omega) | exact zkk (zK_list (by omega)) (by omega) | assumption); (case r103 => first | exact hR.1 _ _ _ rfl | exact hR.2.1 _ (by omega) | exact (hR.2.2.2 _ (by omega)).1.1 | exact (hR.2.2.2 _ (by omega)).1.2.1 | exact (hR.2.2.2 _ (by omega)).1.2.2 | exact (hR.2.2.2 _ (by omega)).2.1.1 | exact (hR.2.2.2 _ (by omega)).2.1.2 | exact (hR.2.2.2 _ (by omega)).2.2.1 _ (by omega) | exact (hR.2.2.2 _ (by omega)).2.2.2 _ (by omega) | exact hR.2.2.1 _ (by omega) | exact (hF _ (by omega)).1 | assumption)
  refine zx_al0 zd44_4 ?_
  (refine zx_gfI zd44_5 ?k105 ?_); (case k105 => first | exact zkk rfl (by omega) | exact zkk (zK_B0 (by omega)) (by omega) | exact zkk ((zK_B (by omega) (by decide)).trans rfl) (by omega) | exact zkk (zK_row (by omega) (by omega)) (by omega) | exact zkk (zK_file (by omega) (by omega)) (by omega) | exact zkk (zK_byte (by omega) (by omega)) (by omega) | exact zkk (zK_list (by omega)) (by omega) | assumption)
  rw [hc]
  first | ((with_reducible refine' zx_aaldAN zd44_8 ?k106 ?j106 ?r106 ?_); (case k106 => first | exact zkk rfl (by omega) | exact zkk (zK_B0 (by omega)) (by omega) | exact zkk ((zK_B (by omega) (by decide)).trans rfl) (by omega) | exact zkk (zK_row (by omega) (by omega)) (by omega) | exact zkk (zK_file (by omega) (by omega)) (by omega) | exact zkk (zK_byte (by omega) (by omega)) (by omega) | exact zkk (zK_list (by omega)) (by omega) | assumption); (case j106 => omega); (case r106 => first | exact hR.1 _ _ _ rfl | exact hR.2.1 _ (by omega) | exact (hR.2.2.2 _ (by omega)).1.1 | exact (hR.2.2.2 _ (by omega)).1.2.1 | exact (hR.2.2.2 _ (by omega)).1.2.2 | exact (hR.2.2.2 _ (by omega)).2.1.1 | exact (hR.2.2.2 _ (by omega)).2.1.2 | exact (hR.2.2.2 _ (by omega)).2.2.1 _ (by omega) | exact (hR.2.2.2 _ (by omega)).2.2.2 _ (by omega) | exact hR.2.2.1 _ (by omega) | exact (hF _ (by omega)).1 | assumption)) | ((with_reducible refine' zx_aaldON zd44_8 ?k106 ?j106 ?r106 ?_); (case k106 => first | exact zkk rfl (by omega) | exact zkk (zK_B0 (by omega)) (by omega) | exact zkk ((zK_B (by omega) (by decide)).trans rfl) (by omega) | exact zkk (zK_row (by omega) (by omega)) (by omega) | exact zkk (zK_file (by omega) (by omega)) (by omega) | exact zkk (zK_byte (by omega) (by omega)) (by omega) | exact zkk (zK_list (by omega)) (by omega) | assumption); (case j106 => omega); (case r106 => first | exact hR.1 _ _ _ rfl | exact hR.2.1 _ (by omega) | exact (hR.2.2.2 _ (by omega)).1.1 | exact (hR.2.2.2 _ (by omega)).1.2.1 | exact (hR.2.2.2 _ (by omega)).1.2.2 | exact (hR.2.2.2 _ (by omega)).2.1.1 | exact (hR.2.2.2 _ (by omega)).2.1.2 | exact (hR.2.2.2 _ (by omega)).2.2.1 _ (by omega) | exact (hR.2.2.2 _ (by omega)).2.2.2 _ (by omega) | exact hR.2.2.1 _ (by omega) | exact (hF _ (by omega)).1 | assumption))
  refine zx_as3 zd44_9 rfl ?_
  refine zx_al3 zd44_10 ?_
  refine zx_il1 zd44_11 ?_
  (refine zx_cv1I zd44_12 ?k110 (zc_hfN hN (by omega) hn hx) ?_); (case k110 => first | exact zkk rfl (by omega) | exact zkk (zK_B0 (by omega)) (by omega) | exact zkk ((zK_B (by omega) (by decide)).trans rfl) (by omega) | exact zkk (zK_row (by omega) (by omega)) (by omega) | exact zkk (zK_file (by omega) (by omega)) (by omega) | exact zkk (zK_byte (by omega) (by omega)) (by omega) | exact zkk (zK_list (by omega)) (by omega) | assumption)
  first | ((with_reducible refine zx_ifneN zd44_15 ?s111 (fun h => ?_) (fun h => ?_)); (case s111 => omega)) | refine zx_ifne zd44_15 (fun h => ?_) (fun h => ?_)
  · omega
  · refine zx_throw zd44_18 (zK_top (by omega)) rfl ?_
    exact ⟨rfl, rfl⟩
theorem zc_boT2 (hR : zRs R) (hN : 459 ≤ N) (hc : I 3 2 = Int32.ofNat c) (hc10 : c ≤ 10) {n j : Nat} (hn : I (8 + 37 * c) 1 = Int32.ofNat n) (hn8 : n ≤ 8) (hj : j < n) {y : Int32} (hy : y < 0 ∨ ¬ y < Int32.ofNat 256) : zThr L 44 [.ref 3, .int (Int32.ofNat j), .int y] (N, U, I, J, R) (0, N) (N + 1, U + 6, I, J, R) := by
  show zW L 44 0 [some (.ref 3), some (.int (Int32.ofNat j)), some (.int y), none] [] _ _
  refine zx_al0 zd44_0 ?_
  (refine' zx_gfA zd44_1 ?k114 ?r114 ?_); (case k114 => first | exact zkk rfl (by omega) | exact zkk (zK_B0 (by omega)) (by omega) | exact zkk ((zK_B (by omega) (by decide)).trans rfl) (by omega) | exact zkk (zK_row (by omega) (by omega)) (by omega) | exact zkk (zK_file (by omega) (by omega)) (by omega) | exact zkk (zK_byte (by omega) (by omega)) (by omega) | exact zkk (zK_list (by omega)) (by omega) | assumption); (case r114 => first | exact hR.1 _ _ _ rfl | exact hR.2.1 _ (by omega) | exact (hR.2.2.2 _ (by omega)).1.1 | exact (hR.2.2.2 _ (by omega)).1.2.1 | exact (hR.2.2.2 _ (by omega)).1.2.2 | exact (hR.2.2.2 _ (by omega)).2.1.1 | exact (hR.2.2.2 _ (by omega)).2.1.2 | exact (hR.2.2.2 _ (by omega)).2.2.1 _ (by omega) | exact (hR.2.2.2 _ (by omega)).2.2.2 _ (by omega) | exact hR.2.2.1 _ (by omega) | exact (hF _ (by omega)).1 | assumption)
  refine zx_al0 zd44_4 ?_
  (refine zx_gfI zd44_5 ?k116 ?_); (case k116 => first | exact zkk rfl (by omega) | exact zkk (zK_B0 (by omega)) (by omega) | exact zkk ((zK_B (by omega) (by decide)).trans rfl) (by omega) | exact zkk (zK_row (by omega) (by omega)) (by omega) | exact zkk (zK_file (by omega) (by omega)) (by omega) | exact zkk (zK_byte (by omega) (by omega)) (by omega) | exact zkk (zK_list (by omega)) (by omega) | assumption)
  rw [hc]
  first | ((with_reducible refine' zx_aaldAN zd44_8 ?k117 ?j117 ?r117 ?_); (case k117 => first | exact zkk rfl (by omega) | exact zkk (zK_B0 (by omega)) (by omega) | exact zkk ((zK_B (by omega) (by decide)).trans rfl) (by omega) | exact zkk (zK_row (by omega) (by omega)) (by omega) | exact zkk (zK_file (by omega) (by omega)) (by omega) | exact zkk (zK_byte (by omega) (by omega)) (by omega) | exact zkk (zK_list (by omega)) (by omega) | assumption); (case j117 => omega); (case r117 => first | exact hR.1 _ _ _ rfl | exact hR.2.1 _ (by omega) | exact (hR.2.2.2 _ (by omega)).1.1 | exact (hR.2.2.2 _ (by omega)).1.2.1 | exact (hR.2.2.2 _ (by omega)).1.2.2 | exact (hR.2.2.2 _ (by omega)).2.1.1 | exact (hR.2.2.2 _ (by omega)).2.1.2 | exact (hR.2.2.2 _ (by omega)).2.2.1 _ (by omega) | exact (hR.2.2.2 _ (by omega)).2.2.2 _ (by omega) | exact hR.2.2.1 _ (by omega) | exact (hF _ (by omega)).1 | assumption)) | ((with_reducible refine' zx_aaldON zd44_8 ?k117 ?j117 ?r117 ?_); (case k117 => first | exact zkk rfl (by omega) | exact zkk (zK_B0 (by omega)) (by omega) | exact zkk ((zK_B (by omega) (by decide)).trans rfl) (by omega) | exact zkk (zK_row (by omega) (by omega)) (by omega) | exact zkk (zK_file (by omega) (by omega)) (by omega) | exact zkk (zK_byte (by omega) (by omega)) (by omega) | exact zkk (zK_list (by omega)) (by omega) | assumption); (case j117 => omega); (case r117 => first | exact hR.1 _ _ _ rfl | exact hR.2.1 _ (by omega) | exact (hR.2.2.2 _ (by omega)).1.1 | exact (hR.2.2.2 _ (by omega)).1.2.1 | exact (hR.2.2.2 _ (by omega)).1.2.2 | exact (hR.2.2.2 _ (by omega)).2.1.1 | exact (hR.2.2.2 _ (by omega)).2.1.2 | exact (hR.2.2.2 _ (by omega)).2.2.1 _ (by omega) | exact (hR.2.2.2 _ (by omega)).2.2.2 _ (by omega) | exact hR.2.2.1 _ (by omega) | exact (hF _ (by omega)).1 | assumption))
  refine zx_as3 zd44_9 rfl ?_
  refine zx_al3 zd44_10 ?_
  refine zx_il1 zd44_11 ?_
  (refine zx_cv1I zd44_12 ?k121 (zc_hf hN (by omega) hn hn8 hj) ?_); (case k121 => first | exact zkk rfl (by omega) | exact zkk (zK_B0 (by omega)) (by omega) | exact zkk ((zK_B (by omega) (by decide)).trans rfl) (by omega) | exact zkk (zK_row (by omega) (by omega)) (by omega) | exact zkk (zK_file (by omega) (by omega)) (by omega) | exact zkk (zK_byte (by omega) (by omega)) (by omega) | exact zkk (zK_list (by omega)) (by omega) | assumption)
  first | ((with_reducible refine zx_ifneN zd44_15 ?s122 (fun h => ?_) (fun h => ?_)); (case s122 => omega)) | refine zx_ifne zd44_15 (fun h => ?_) (fun h => ?_)
  · refine zx_il2 zd44_28 ?_
    refine zx_cs1I zd44_29 (zc_ibN hy) ?_
    first | ((with_reducible refine zx_ifneN zd44_32 ?s125 (fun h2 => ?_) (fun h2 => ?_)); (case s125 => omega)) | refine zx_ifne zd44_32 (fun h2 => ?_) (fun h2 => ?_)
    · omega
    · refine zx_throw zd44_35 (zK_top (by omega)) rfl ?_
      exact ⟨rfl, rfl⟩
  · omega
theorem zc_bo (hR : zRs R) (hN : 459 ≤ N) (hc : I 3 2 = Int32.ofNat c) (hc10 : c ≤ 10) {s : Nat → Nat} (hF : zFl R c s) {n j b : Nat} (hn : I (8 + 37 * c) 1 = Int32.ofNat n) (hn8 : n ≤ 8) (hj : j < n) (hb : b < 256) {v : Nat} {I' : zI} (hv : v = 0 ∨ v = 1) (hr : zRet L 46 [.ref (8 + 37 * c + 21 + 2 * s j), .int (Int32.ofNat b)] (N, U, I, J, R) (some (.int (Int32.ofNat v))) (N, U, I', J, R)) :
    zRet L 44 [.ref 3, .int (Int32.ofNat j), .int (Int32.ofNat b)] (N, U, I, J, R) (some (.int (Int32.ofNat v))) (N, U, I', J, R) := by
  have hs := (hF j (by omega)).2
  have hvv : Int32.ofNat v = 0 ∨ Int32.ofNat v = 1 := by rcases hv with rfl | rfl; exact Or.inl rfl; exact Or.inr rfl
  show zW L 44 0 [some (.ref 3), some (.int (Int32.ofNat j)), some (.int (Int32.ofNat b)), none] [] _ _
  refine zx_al0 zd44_0 ?_
  (refine' zx_gfA zd44_1 ?k128 ?r128 ?_); (case k128 => first | exact zkk rfl (by omega) | exact zkk (zK_B0 (by omega)) (by omega) | exact zkk ((zK_B (by omega) (by decide)).trans rfl) (by omega) | exact zkk (zK_row (by omega) (by omega)) (by omega) | exact zkk (zK_file (by omega) (by omega)) (by omega) | exact zkk (zK_byte (by omega) (by omega)) (by omega) | exact zkk (zK_list (by omega)) (by omega) | assumption); (case r128 => first | exact hR.1 _ _ _ rfl | exact hR.2.1 _ (by omega) | exact (hR.2.2.2 _ (by omega)).1.1 | exact (hR.2.2.2 _ (by omega)).1.2.1 | exact (hR.2.2.2 _ (by omega)).1.2.2 | exact (hR.2.2.2 _ (by omega)).2.1.1 | exact (hR.2.2.2 _ (by omega)).2.1.2 | exact (hR.2.2.2 _ (by omega)).2.2.1 _ (by omega) | exact (hR.2.2.2 _ (by omega)).2.2.2 _ (by omega) | exact hR.2.2.1 _ (by omega) | exact (hF _ (by omega)).1 | assumption)
  refine zx_al0 zd44_4 ?_
  (refine zx_gfI zd44_5 ?k130 ?_); (case k130 => first | exact zkk rfl (by omega) | exact zkk (zK_B0 (by omega)) (by omega) | exact zkk ((zK_B (by omega) (by decide)).trans rfl) (by omega) | exact zkk (zK_row (by omega) (by omega)) (by omega) | exact zkk (zK_file (by omega) (by omega)) (by omega) | exact zkk (zK_byte (by omega) (by omega)) (by omega) | exact zkk (zK_list (by omega)) (by omega) | assumption)
  rw [hc]
  first | ((with_reducible refine' zx_aaldAN zd44_8 ?k131 ?j131 ?r131 ?_); (case k131 => first | exact zkk rfl (by omega) | exact zkk (zK_B0 (by omega)) (by omega) | exact zkk ((zK_B (by omega) (by decide)).trans rfl) (by omega) | exact zkk (zK_row (by omega) (by omega)) (by omega) | exact zkk (zK_file (by omega) (by omega)) (by omega) | exact zkk (zK_byte (by omega) (by omega)) (by omega) | exact zkk (zK_list (by omega)) (by omega) | assumption); (case j131 => omega); (case r131 => first | exact hR.1 _ _ _ rfl | exact hR.2.1 _ (by omega) | exact (hR.2.2.2 _ (by omega)).1.1 | exact (hR.2.2.2 _ (by omega)).1.2.1 | exact (hR.2.2.2 _ (by omega)).1.2.2 | exact (hR.2.2.2 _ (by omega)).2.1.1 | exact (hR.2.2.2 _ (by omega)).2.1.2 | exact (hR.2.2.2 _ (by omega)).2.2.1 _ (by omega) | exact (hR.2.2.2 _ (by omega)).2.2.2 _ (by omega) | exact hR.2.2.1 _ (by omega) | exact (hF _ (by omega)).1 | assumption)) | ((with_reducible refine' zx_aaldON zd44_8 ?k131 ?j131 ?r131 ?_); (case k131 => first | exact zkk rfl (by omega) | exact zkk (zK_B0 (by omega)) (by omega) | exact zkk ((zK_B (by omega) (by decide)).trans rfl) (by omega) | exact zkk (zK_row (by omega) (by omega)) (by omega) | exact zkk (zK_file (by omega) (by omega)) (by omega) | exact zkk (zK_byte (by omega) (by omega)) (by omega) | exact zkk (zK_list (by omega)) (by omega) | assumption); (case j131 => omega); (case r131 => first | exact hR.1 _ _ _ rfl | exact hR.2.1 _ (by omega) | exact (hR.2.2.2 _ (by omega)).1.1 | exact (hR.2.2.2 _ (by omega)).1.2.1 | exact (hR.2.2.2 _ (by omega)).1.2.2 | exact (hR.2.2.2 _ (by omega)).2.1.1 | exact (hR.2.2.2 _ (by omega)).2.1.2 | exact (hR.2.2.2 _ (by omega)).2.2.1 _ (by omega) | exact (hR.2.2.2 _ (by omega)).2.2.2 _ (by omega) | exact hR.2.2.1 _ (by omega) | exact (hF _ (by omega)).1 | assumption))
  refine zx_as3 zd44_9 rfl ?_
  refine zx_al3 zd44_10 ?_
  refine zx_il1 zd44_11 ?_
  (refine zx_cv1I zd44_12 ?k135 (zc_hf hN (by omega) hn hn8 hj) ?_); (case k135 => first | exact zkk rfl (by omega) | exact zkk (zK_B0 (by omega)) (by omega) | exact zkk ((zK_B (by omega) (by decide)).trans rfl) (by omega) | exact zkk (zK_row (by omega) (by omega)) (by omega) | exact zkk (zK_file (by omega) (by omega)) (by omega) | exact zkk (zK_byte (by omega) (by omega)) (by omega) | exact zkk (zK_list (by omega)) (by omega) | assumption)
  first | ((with_reducible refine zx_ifneN zd44_15 ?s136 (fun h => ?_) (fun h => ?_)); (case s136 => omega)) | refine zx_ifne zd44_15 (fun h => ?_) (fun h => ?_)
  · refine zx_il2 zd44_28 ?_
    refine zx_cs1I zd44_29 (zc_ib hb) ?_
    first | ((with_reducible refine zx_ifneN zd44_32 ?s139 (fun h2 => ?_) (fun h2 => ?_)); (case s139 => omega)) | refine zx_ifne zd44_32 (fun h2 => ?_) (fun h2 => ?_)
    · refine zx_al3 zd44_45 ?_
      (refine' zx_gfA zd44_46 ?k141 ?r141 ?_); (case k141 => first | exact zkk rfl (by omega) | exact zkk (zK_B0 (by omega)) (by omega) | exact zkk ((zK_B (by omega) (by decide)).trans rfl) (by omega) | exact zkk (zK_row (by omega) (by omega)) (by omega) | exact zkk (zK_file (by omega) (by omega)) (by omega) | exact zkk (zK_byte (by omega) (by omega)) (by omega) | exact zkk (zK_list (by omega)) (by omega) | assumption); (case r141 => first | exact hR.1 _ _ _ rfl | exact hR.2.1 _ (by omega) | exact (hR.2.2.2 _ (by omega)).1.1 | exact (hR.2.2.2 _ (by omega)).1.2.1 | exact (hR.2.2.2 _ (by omega)).1.2.2 | exact (hR.2.2.2 _ (by omega)).2.1.1 | exact (hR.2.2.2 _ (by omega)).2.1.2 | exact (hR.2.2.2 _ (by omega)).2.2.1 _ (by omega) | exact (hR.2.2.2 _ (by omega)).2.2.2 _ (by omega) | exact hR.2.2.1 _ (by omega) | exact (hF _ (by omega)).1 | assumption)
      refine zx_il1 zd44_49 ?_
      first | ((with_reducible refine' zx_aaldAN zd44_50 ?k143 ?j143 ?r143 ?_); (case k143 => first | exact zkk rfl (by omega) | exact zkk (zK_B0 (by omega)) (by omega) | exact zkk ((zK_B (by omega) (by decide)).trans rfl) (by omega) | exact zkk (zK_row (by omega) (by omega)) (by omega) | exact zkk (zK_file (by omega) (by omega)) (by omega) | exact zkk (zK_byte (by omega) (by omega)) (by omega) | exact zkk (zK_list (by omega)) (by omega) | assumption); (case j143 => omega); (case r143 => first | exact hR.1 _ _ _ rfl | exact hR.2.1 _ (by omega) | exact (hR.2.2.2 _ (by omega)).1.1 | exact (hR.2.2.2 _ (by omega)).1.2.1 | exact (hR.2.2.2 _ (by omega)).1.2.2 | exact (hR.2.2.2 _ (by omega)).2.1.1 | exact (hR.2.2.2 _ (by omega)).2.1.2 | exact (hR.2.2.2 _ (by omega)).2.2.1 _ (by omega) | exact (hR.2.2.2 _ (by omega)).2.2.2 _ (by omega) | exact hR.2.2.1 _ (by omega) | exact (hF _ (by omega)).1 | assumption)) | ((with_reducible refine' zx_aaldON zd44_50 ?k143 ?j143 ?r143 ?_); (case k143 => first | exact zkk rfl (by omega) | exact zkk (zK_B0 (by omega)) (by omega) | exact zkk ((zK_B (by omega) (by decide)).trans rfl) (by omega) | exact zkk (zK_row (by omega) (by omega)) (by omega) | exact zkk (zK_file (by omega) (by omega)) (by omega) | exact zkk (zK_byte (by omega) (by omega)) (by omega) | exact zkk (zK_list (by omega)) (by omega) | assumption); (case j143 => omega); (case r143 => first | exact hR.1 _ _ _ rfl | exact hR.2.1 _ (by omega) | exact (hR.2.2.2 _ (by omega)).1.1 | exact (hR.2.2.2 _ (by omega)).1.2.1 | exact (hR.2.2.2 _ (by omega)).1.2.2 | exact (hR.2.2.2 _ (by omega)).2.1.1 | exact (hR.2.2.2 _ (by omega)).2.1.2 | exact (hR.2.2.2 _ (by omega)).2.2.1 _ (by omega) | exact (hR.2.2.2 _ (by omega)).2.2.2 _ (by omega) | exact hR.2.2.1 _ (by omega) | exact (hF _ (by omega)).1 | assumption))
      refine zx_il2 zd44_51 ?_
      (refine zx_cv1I zd44_52 ?k145 (hr) ?_); (case k145 => first | exact zkk rfl (by omega) | exact zkk (zK_B0 (by omega)) (by omega) | exact zkk ((zK_B (by omega) (by decide)).trans rfl) (by omega) | exact zkk (zK_row (by omega) (by omega)) (by omega) | exact zkk (zK_file (by omega) (by omega)) (by omega) | exact zkk (zK_byte (by omega) (by omega)) (by omega) | exact zkk (zK_list (by omega)) (by omega) | assumption)
      refine zx_iret zd44_55 (Or.inr ⟨rfl, by first | exact Or.inl rfl | exact Or.inr rfl | assumption⟩) ?_
      exact ⟨rfl, rfl⟩
    · omega
  · omega
/-- the claim's bytes -/
theorem zc_ckN {x : Int32} (hN : 459 ≤ N) (hx : x < 0 ∨ ¬ x < Int32.ofNat 256) : zRet L 24 [.ref 3, .int x] (N, U, I, J, R) (some (.int (Int32.ofNat 0))) (N, U, I, J, R) := by
  show zW L 24 0 [some (.ref 3), some (.int x)] [] _ _
  refine zx_il1 zd24_0 ?_
  refine zx_cs1I zd24_1 (zc_ibN hx) ?_
  first | ((with_reducible refine zx_ifeqN zd24_4 ?s149 (fun h => ?_) (fun h => ?_)); (case s149 => omega)) | refine zx_ifeq zd24_4 (fun h => ?_) (fun h => ?_)
  · refine zx_c zd24_22 ?_
    refine zx_iret zd24_23 (Or.inr ⟨rfl, by first | exact Or.inl rfl | exact Or.inr rfl | assumption⟩) ?_
    exact ⟨rfl, rfl⟩
  · omega
theorem zc_ckF (hR : zRs R) (hN : 459 ≤ N) {b : Nat} (hb : b < 256) (hn : I 433 1 = Int32.ofNat 300) : zRet L 24 [.ref 3, .int (Int32.ofNat b)] (N, U, I, J, R) (some (.int (Int32.ofNat 0))) (N, U, I, J, R) := by
  have hr : zRet L 26 [.ref 433, .int (Int32.ofNat b)] (N, U, I, J, R) (some (.int (Int32.ofNat 0))) (N, U, I, J, R) := by
    show zW L 26 0 [some (.ref 433), some (.int (Int32.ofNat b))] [] _ _
    refine zx_al0 zd26_0 ?_
    (refine zx_gfI zd26_1 ?k153 ?_); (case k153 => first | exact zkk rfl (by omega) | exact zkk (zK_B0 (by omega)) (by omega) | exact zkk ((zK_B (by omega) (by decide)).trans rfl) (by omega) | exact zkk (zK_row (by omega) (by omega)) (by omega) | exact zkk (zK_file (by omega) (by omega)) (by omega) | exact zkk (zK_byte (by omega) (by omega)) (by omega) | exact zkk (zK_list (by omega)) (by omega) | assumption)
    rw [hn]
    refine zx_c zd26_4 ?_
    first | ((with_reducible refine zx_icmpltN zd26_7 ?s155 (fun h => ?_) (fun h => ?_)); (case s155 => omega)) | refine zx_icmplt zd26_7 (fun h => ?_) (fun h => ?_)
    · omega
    · refine zx_c zd26_10 ?_
      refine zx_iret zd26_11 (Or.inr ⟨rfl, by first | exact Or.inl rfl | exact Or.inr rfl | assumption⟩) ?_
      exact ⟨rfl, rfl⟩
  show zW L 24 0 [some (.ref 3), some (.int (Int32.ofNat b))] [] _ _
  refine zx_il1 zd24_0 ?_
  refine zx_cs1I zd24_1 (zc_ib hb) ?_
  first | ((with_reducible refine zx_ifeqN zd24_4 ?s160 (fun h => ?_) (fun h => ?_)); (case s160 => omega)) | refine zx_ifeq zd24_4 (fun h => ?_) (fun h => ?_)
  · omega
  · refine zx_al0 zd24_7 ?_
    (refine' zx_gfO zd24_8 ?k162 ?r162 ?_); (case k162 => first | exact zkk rfl (by omega) | exact zkk (zK_B0 (by omega)) (by omega) | exact zkk ((zK_B (by omega) (by decide)).trans rfl) (by omega) | exact zkk (zK_row (by omega) (by omega)) (by omega) | exact zkk (zK_file (by omega) (by omega)) (by omega) | exact zkk (zK_byte (by omega) (by omega)) (by omega) | exact zkk (zK_list (by omega)) (by omega) | assumption); (case r162 => first | exact hR.1 _ _ _ rfl | exact hR.2.1 _ (by omega) | exact (hR.2.2.2 _ (by omega)).1.1 | exact (hR.2.2.2 _ (by omega)).1.2.1 | exact (hR.2.2.2 _ (by omega)).1.2.2 | exact (hR.2.2.2 _ (by omega)).2.1.1 | exact (hR.2.2.2 _ (by omega)).2.1.2 | exact (hR.2.2.2 _ (by omega)).2.2.1 _ (by omega) | exact (hR.2.2.2 _ (by omega)).2.2.2 _ (by omega) | exact hR.2.2.1 _ (by omega) | exact (hF _ (by omega)).1 | assumption)
    refine zx_il1 zd24_11 ?_
    (refine zx_cv1I zd24_12 ?k164 (hr) ?_); (case k164 => first | exact zkk rfl (by omega) | exact zkk (zK_B0 (by omega)) (by omega) | exact zkk ((zK_B (by omega) (by decide)).trans rfl) (by omega) | exact zkk (zK_row (by omega) (by omega)) (by omega) | exact zkk (zK_file (by omega) (by omega)) (by omega) | exact zkk (zK_byte (by omega) (by omega)) (by omega) | exact zkk (zK_list (by omega)) (by omega) | assumption)
    first | ((with_reducible refine zx_ifeqN zd24_15 ?s165 (fun h2 => ?_) (fun h2 => ?_)); (case s165 => omega)) | refine zx_ifeq zd24_15 (fun h2 => ?_) (fun h2 => ?_)
    · refine zx_c zd24_22 ?_
      refine zx_iret zd24_23 (Or.inr ⟨rfl, by first | exact Or.inl rfl | exact Or.inr rfl | assumption⟩) ?_
      exact ⟨rfl, rfl⟩
    · omega
theorem zc_ck (hR : zRs R) (hN : 459 ≤ N) {b n : Nat} (hb : b < 256) (hn : I 433 1 = Int32.ofNat n) (hn3 : n < 300) : zRet L 24 [.ref 3, .int (Int32.ofNat b)] (N, U, I, J, R) (some (.int (Int32.ofNat 1))) (N, U, zu (zu I 434 n (Int32.ofNat b)) 433 1 (Int32.ofNat (n + 1)), J, R) := by
  have hr : zRet L 26 [.ref 433, .int (Int32.ofNat b)] (N, U, I, J, R) (some (.int (Int32.ofNat 1))) (N, U, zu (zu I 434 n (Int32.ofNat b)) 433 1 (Int32.ofNat (n + 1)), J, R) := by
    show zW L 26 0 [some (.ref 433), some (.int (Int32.ofNat b))] [] _ _
    refine zx_al0 zd26_0 ?_
    (refine zx_gfI zd26_1 ?k169 ?_); (case k169 => first | exact zkk rfl (by omega) | exact zkk (zK_B0 (by omega)) (by omega) | exact zkk ((zK_B (by omega) (by decide)).trans rfl) (by omega) | exact zkk (zK_row (by omega) (by omega)) (by omega) | exact zkk (zK_file (by omega) (by omega)) (by omega) | exact zkk (zK_byte (by omega) (by omega)) (by omega) | exact zkk (zK_list (by omega)) (by omega) | assumption)
    rw [hn]
    refine zx_c zd26_4 ?_
    first | ((with_reducible refine zx_icmpltN zd26_7 ?s171 (fun h => ?_) (fun h => ?_)); (case s171 => omega)) | refine zx_icmplt zd26_7 (fun h => ?_) (fun h => ?_)
    · refine zx_al0 zd26_12 ?_
      (refine' zx_gfA zd26_13 ?k173 ?r173 ?_); (case k173 => first | exact zkk rfl (by omega) | exact zkk (zK_B0 (by omega)) (by omega) | exact zkk ((zK_B (by omega) (by decide)).trans rfl) (by omega) | exact zkk (zK_row (by omega) (by omega)) (by omega) | exact zkk (zK_file (by omega) (by omega)) (by omega) | exact zkk (zK_byte (by omega) (by omega)) (by omega) | exact zkk (zK_list (by omega)) (by omega) | assumption); (case r173 => first | exact hR.1 _ _ _ rfl | exact hR.2.1 _ (by omega) | exact (hR.2.2.2 _ (by omega)).1.1 | exact (hR.2.2.2 _ (by omega)).1.2.1 | exact (hR.2.2.2 _ (by omega)).1.2.2 | exact (hR.2.2.2 _ (by omega)).2.1.1 | exact (hR.2.2.2 _ (by omega)).2.1.2 | exact (hR.2.2.2 _ (by omega)).2.2.1 _ (by omega) | exact (hR.2.2.2 _ (by omega)).2.2.2 _ (by omega) | exact hR.2.2.1 _ (by omega) | exact (hF _ (by omega)).1 | assumption)
      refine zx_al0 zd26_16 ?_
      (refine zx_gfI zd26_17 ?k175 ?_); (case k175 => first | exact zkk rfl (by omega) | exact zkk (zK_B0 (by omega)) (by omega) | exact zkk ((zK_B (by omega) (by decide)).trans rfl) (by omega) | exact zkk (zK_row (by omega) (by omega)) (by omega) | exact zkk (zK_file (by omega) (by omega)) (by omega) | exact zkk (zK_byte (by omega) (by omega)) (by omega) | exact zkk (zK_list (by omega)) (by omega) | assumption)
      rw [hn]
      refine zx_il1 zd26_20 ?_
      (with_reducible refine' zx_iastN zd26_21 ?k177 ?j177 ?a177 ?_); (case k177 => first | exact zkk rfl (by omega) | exact zkk (zK_B0 (by omega)) (by omega) | exact zkk ((zK_B (by omega) (by decide)).trans rfl) (by omega) | exact zkk (zK_row (by omega) (by omega)) (by omega) | exact zkk (zK_file (by omega) (by omega)) (by omega) | exact zkk (zK_byte (by omega) (by omega)) (by omega) | exact zkk (zK_list (by omega)) (by omega) | assumption); (case j177 => omega); (case a177 => omega)
      refine zx_al0 zd26_22 ?_
      first | refine zx_dupR zd26_23 ?_ | refine zx_dupI zd26_23 ?_
      (refine zx_gfI zd26_24 ?k180 ?_); (case k180 => first | exact zkk rfl (by omega) | exact zkk (zK_B0 (by omega)) (by omega) | exact zkk ((zK_B (by omega) (by decide)).trans rfl) (by omega) | exact zkk (zK_row (by omega) (by omega)) (by omega) | exact zkk (zK_file (by omega) (by omega)) (by omega) | exact zkk (zK_byte (by omega) (by omega)) (by omega) | exact zkk (zK_list (by omega)) (by omega) | assumption)
      rw [show zu I 434 n (Int32.ofNat b) 433 1 = I 433 1 from rfl, hn]
      refine zx_c zd26_27 ?_
      first | with_reducible refine zx_addN zd26_28 ?_ | refine zx_add zd26_28 ?_
      (refine zx_pfI zd26_29 ?k183 ?a183 ?_); (case k183 => first | exact zkk rfl (by omega) | exact zkk (zK_B0 (by omega)) (by omega) | exact zkk ((zK_B (by omega) (by decide)).trans rfl) (by omega) | exact zkk (zK_row (by omega) (by omega)) (by omega) | exact zkk (zK_file (by omega) (by omega)) (by omega) | exact zkk (zK_byte (by omega) (by omega)) (by omega) | exact zkk (zK_list (by omega)) (by omega) | assumption); (case a183 => omega)
      refine zx_c zd26_32 ?_
      refine zx_iret zd26_33 (Or.inr ⟨rfl, by first | exact Or.inl rfl | exact Or.inr rfl | assumption⟩) ?_
      exact ⟨rfl, rfl⟩
    · omega
  show zW L 24 0 [some (.ref 3), some (.int (Int32.ofNat b))] [] _ _
  refine zx_il1 zd24_0 ?_
  refine zx_cs1I zd24_1 (zc_ib hb) ?_
  first | ((with_reducible refine zx_ifeqN zd24_4 ?s188 (fun h => ?_) (fun h => ?_)); (case s188 => omega)) | refine zx_ifeq zd24_4 (fun h => ?_) (fun h => ?_)
  · omega
  · refine zx_al0 zd24_7 ?_
    (refine' zx_gfO zd24_8 ?k190 ?r190 ?_); (case k190 => first | exact zkk rfl (by omega) | exact zkk (zK_B0 (by omega)) (by omega) | exact zkk ((zK_B (by omega) (by decide)).trans rfl) (by omega) | exact zkk (zK_row (by omega) (by omega)) (by omega) | exact zkk (zK_file (by omega) (by omega)) (by omega) | exact zkk (zK_byte (by omega) (by omega)) (by omega) | exact zkk (zK_list (by omega)) (by omega) | assumption); (case r190 => first | exact hR.1 _ _ _ rfl | exact hR.2.1 _ (by omega) | exact (hR.2.2.2 _ (by omega)).1.1 | exact (hR.2.2.2 _ (by omega)).1.2.1 | exact (hR.2.2.2 _ (by omega)).1.2.2 | exact (hR.2.2.2 _ (by omega)).2.1.1 | exact (hR.2.2.2 _ (by omega)).2.1.2 | exact (hR.2.2.2 _ (by omega)).2.2.1 _ (by omega) | exact (hR.2.2.2 _ (by omega)).2.2.2 _ (by omega) | exact hR.2.2.1 _ (by omega) | exact (hF _ (by omega)).1 | assumption)
    refine zx_il1 zd24_11 ?_
    (refine zx_cv1I zd24_12 ?k192 (hr) ?_); (case k192 => first | exact zkk rfl (by omega) | exact zkk (zK_B0 (by omega)) (by omega) | exact zkk ((zK_B (by omega) (by decide)).trans rfl) (by omega) | exact zkk (zK_row (by omega) (by omega)) (by omega) | exact zkk (zK_file (by omega) (by omega)) (by omega) | exact zkk (zK_byte (by omega) (by omega)) (by omega) | exact zkk (zK_list (by omega)) (by omega) | assumption)
    first | ((with_reducible refine zx_ifeqN zd24_15 ?s193 (fun h2 => ?_) (fun h2 => ?_)); (case s193 => omega)) | refine zx_ifeq zd24_15 (fun h2 => ?_) (fun h2 => ?_)
    · omega
    · refine zx_c zd24_18 ?_
      refine zx_goto zd24_19 ?_
      refine zx_iret zd24_23 (Or.inr ⟨rfl, by first | exact Or.inl rfl | exact Or.inr rfl | assumption⟩) ?_
      exact ⟨rfl, rfl⟩
theorem zc_made (hN : 459 ≤ N) : zRet L 36 [.ref 3] (N, U, I, J, R) (some (.int (I 3 2))) (N, U, I, J, R) := by
  show zW L 36 0 [some (.ref 3)] [] _ _
  refine zx_al0 zd36_0 ?_
  (refine zx_gfI zd36_1 ?k198 ?_); (case k198 => first | exact zkk rfl (by omega) | exact zkk (zK_B0 (by omega)) (by omega) | exact zkk ((zK_B (by omega) (by decide)).trans rfl) (by omega) | exact zkk (zK_row (by omega) (by omega)) (by omega) | exact zkk (zK_file (by omega) (by omega)) (by omega) | exact zkk (zK_byte (by omega) (by omega)) (by omega) | exact zkk (zK_list (by omega)) (by omega) | assumption)
  refine zx_iret zd36_4 (Or.inl rfl) ?_
  exact ⟨rfl, rfl⟩
theorem zc_clr (hR : zRs R) (hN : 459 ≤ N) : zRet L 37 [.ref 3] (N, U, I, J, R) none (N, U, zu I 433 1 (Int32.ofNat 0), J, R) := by
  have hr : zRet L 38 [.ref 433] (N, U, I, J, R) none (N, U, zu I 433 1 (Int32.ofNat 0), J, R) := by
    show zW L 38 0 [some (.ref 433)] [] _ _
    refine zx_al0 zd38_0 ?_
    refine zx_c zd38_1 ?_
    (refine zx_pfI zd38_2 ?k202 ?a202 ?_); (case k202 => first | exact zkk rfl (by omega) | exact zkk (zK_B0 (by omega)) (by omega) | exact zkk ((zK_B (by omega) (by decide)).trans rfl) (by omega) | exact zkk (zK_row (by omega) (by omega)) (by omega) | exact zkk (zK_file (by omega) (by omega)) (by omega) | exact zkk (zK_byte (by omega) (by omega)) (by omega) | exact zkk (zK_list (by omega)) (by omega) | assumption); (case a202 => omega)
    refine zx_vret zd38_5 rfl ?_
    exact ⟨rfl, rfl⟩
  show zW L 37 0 [some (.ref 3)] [] _ _
  refine zx_al0 zd37_0 ?_
  (refine' zx_gfO zd37_1 ?k205 ?r205 ?_); (case k205 => first | exact zkk rfl (by omega) | exact zkk (zK_B0 (by omega)) (by omega) | exact zkk ((zK_B (by omega) (by decide)).trans rfl) (by omega) | exact zkk (zK_row (by omega) (by omega)) (by omega) | exact zkk (zK_file (by omega) (by omega)) (by omega) | exact zkk (zK_byte (by omega) (by omega)) (by omega) | exact zkk (zK_list (by omega)) (by omega) | assumption); (case r205 => first | exact hR.1 _ _ _ rfl | exact hR.2.1 _ (by omega) | exact (hR.2.2.2 _ (by omega)).1.1 | exact (hR.2.2.2 _ (by omega)).1.2.1 | exact (hR.2.2.2 _ (by omega)).1.2.2 | exact (hR.2.2.2 _ (by omega)).2.1.1 | exact (hR.2.2.2 _ (by omega)).2.1.2 | exact (hR.2.2.2 _ (by omega)).2.2.1 _ (by omega) | exact (hR.2.2.2 _ (by omega)).2.2.2 _ (by omega) | exact hR.2.2.1 _ (by omega) | exact (hF _ (by omega)).1 | assumption)
  (refine zx_cv0V zd37_4 ?k206 (hr) ?_); (case k206 => first | exact zkk rfl (by omega) | exact zkk (zK_B0 (by omega)) (by omega) | exact zkk ((zK_B (by omega) (by decide)).trans rfl) (by omega) | exact zkk (zK_row (by omega) (by omega)) (by omega) | exact zkk (zK_file (by omega) (by omega)) (by omega) | exact zkk (zK_byte (by omega) (by omega)) (by omega) | exact zkk (zK_list (by omega)) (by omega) | assumption)
  refine zx_vret zd37_7 rfl ?_
  exact ⟨rfl, rfl⟩
theorem zc_pokeT (hR : zRs R) (hN : 459 ≤ N) {n : Nat} (hn : I 433 1 = Int32.ofNat n) {x y : Int32} (hx : x < 0 ∨ ¬ x < Int32.ofNat n) : zThr L 76 [.ref 3, .int x, .int y] (N, U, I, J, R) (1, N) (N + 1, U + 6, I, J, R) := by
  show zW L 76 0 [some (.ref 3), some (.int x), some (.int y)] [] _ _
  refine zx_al0 zd76_0 ?_
  (refine' zx_gfO zd76_1 ?k209 ?r209 ?_); (case k209 => first | exact zkk rfl (by omega) | exact zkk (zK_B0 (by omega)) (by omega) | exact zkk ((zK_B (by omega) (by decide)).trans rfl) (by omega) | exact zkk (zK_row (by omega) (by omega)) (by omega) | exact zkk (zK_file (by omega) (by omega)) (by omega) | exact zkk (zK_byte (by omega) (by omega)) (by omega) | exact zkk (zK_list (by omega)) (by omega) | assumption); (case r209 => first | exact hR.1 _ _ _ rfl | exact hR.2.1 _ (by omega) | exact (hR.2.2.2 _ (by omega)).1.1 | exact (hR.2.2.2 _ (by omega)).1.2.1 | exact (hR.2.2.2 _ (by omega)).1.2.2 | exact (hR.2.2.2 _ (by omega)).2.1.1 | exact (hR.2.2.2 _ (by omega)).2.1.2 | exact (hR.2.2.2 _ (by omega)).2.2.1 _ (by omega) | exact (hR.2.2.2 _ (by omega)).2.2.2 _ (by omega) | exact hR.2.2.1 _ (by omega) | exact (hF _ (by omega)).1 | assumption)
  refine zx_il1 zd76_4 ?_
  (refine zx_cv1I zd76_5 ?k211 (zc_hbN hN hn hx) ?_); (case k211 => first | exact zkk rfl (by omega) | exact zkk (zK_B0 (by omega)) (by omega) | exact zkk ((zK_B (by omega) (by decide)).trans rfl) (by omega) | exact zkk (zK_row (by omega) (by omega)) (by omega) | exact zkk (zK_file (by omega) (by omega)) (by omega) | exact zkk (zK_byte (by omega) (by omega)) (by omega) | exact zkk (zK_list (by omega)) (by omega) | assumption)
  first | ((with_reducible refine zx_ifneN zd76_8 ?s212 (fun h => ?_) (fun h => ?_)); (case s212 => omega)) | refine zx_ifne zd76_8 (fun h => ?_) (fun h => ?_)
  · omega
  · refine zx_throw zd76_11 (zK_top (by omega)) rfl ?_
    exact ⟨rfl, rfl⟩
theorem zc_poke (hR : zRs R) (hN : 459 ≤ N) {n j : Nat} (hn : I 433 1 = Int32.ofNat n) (hn3 : n ≤ 300) (hj : j < n) (y : Int32) : zRet L 76 [.ref 3, .int (Int32.ofNat j), .int y] (N, U, I, J, R) (some (.int (if I 434 j ^^^ y &&& Int32.ofNat 255 = I 434 j then Int32.ofNat 0 else Int32.ofNat 1))) (N, U, zu I 434 j (I 434 j ^^^ y &&& Int32.ofNat 255), J, R) := by
  have hr : zRet L 77 [.ref 433, .int (Int32.ofNat j), .int y] (N, U, I, J, R) (some (.int (if I 434 j ^^^ y &&& Int32.ofNat 255 = I 434 j then Int32.ofNat 0 else Int32.ofNat 1))) (N, U, zu I 434 j (I 434 j ^^^ y &&& Int32.ofNat 255), J, R) := by
    show zW L 77 0 [some (.ref 433), some (.int (Int32.ofNat j)), some (.int y), none] [] _ _
    refine zx_al0 zd77_0 ?_
    (refine' zx_gfA zd77_1 ?k215 ?r215 ?_); (case k215 => first | exact zkk rfl (by omega) | exact zkk (zK_B0 (by omega)) (by omega) | exact zkk ((zK_B (by omega) (by decide)).trans rfl) (by omega) | exact zkk (zK_row (by omega) (by omega)) (by omega) | exact zkk (zK_file (by omega) (by omega)) (by omega) | exact zkk (zK_byte (by omega) (by omega)) (by omega) | exact zkk (zK_list (by omega)) (by omega) | assumption); (case r215 => first | exact hR.1 _ _ _ rfl | exact hR.2.1 _ (by omega) | exact (hR.2.2.2 _ (by omega)).1.1 | exact (hR.2.2.2 _ (by omega)).1.2.1 | exact (hR.2.2.2 _ (by omega)).1.2.2 | exact (hR.2.2.2 _ (by omega)).2.1.1 | exact (hR.2.2.2 _ (by omega)).2.1.2 | exact (hR.2.2.2 _ (by omega)).2.2.1 _ (by omega) | exact (hR.2.2.2 _ (by omega)).2.2.2 _ (by omega) | exact hR.2.2.1 _ (by omega) | exact (hF _ (by omega)).1 | assumption)
    refine zx_il1 zd77_4 ?_
    (with_reducible refine' zx_ialdN zd77_5 ?k217 ?j217 ?_); (case k217 => first | exact zkk rfl (by omega) | exact zkk (zK_B0 (by omega)) (by omega) | exact zkk ((zK_B (by omega) (by decide)).trans rfl) (by omega) | exact zkk (zK_row (by omega) (by omega)) (by omega) | exact zkk (zK_file (by omega) (by omega)) (by omega) | exact zkk (zK_byte (by omega) (by omega)) (by omega) | exact zkk (zK_list (by omega)) (by omega) | assumption); (case j217 => omega)
    refine zx_is3 zd77_6 rfl ?_
    refine zx_al0 zd77_7 ?_
    (refine' zx_gfA zd77_8 ?k220 ?r220 ?_); (case k220 => first | exact zkk rfl (by omega) | exact zkk (zK_B0 (by omega)) (by omega) | exact zkk ((zK_B (by omega) (by decide)).trans rfl) (by omega) | exact zkk (zK_row (by omega) (by omega)) (by omega) | exact zkk (zK_file (by omega) (by omega)) (by omega) | exact zkk (zK_byte (by omega) (by omega)) (by omega) | exact zkk (zK_list (by omega)) (by omega) | assumption); (case r220 => first | exact hR.1 _ _ _ rfl | exact hR.2.1 _ (by omega) | exact (hR.2.2.2 _ (by omega)).1.1 | exact (hR.2.2.2 _ (by omega)).1.2.1 | exact (hR.2.2.2 _ (by omega)).1.2.2 | exact (hR.2.2.2 _ (by omega)).2.1.1 | exact (hR.2.2.2 _ (by omega)).2.1.2 | exact (hR.2.2.2 _ (by omega)).2.2.1 _ (by omega) | exact (hR.2.2.2 _ (by omega)).2.2.2 _ (by omega) | exact hR.2.2.1 _ (by omega) | exact (hF _ (by omega)).1 | assumption)
    refine zx_il1 zd77_11 ?_
    refine zx_il3 zd77_12 ?_
    refine zx_il2 zd77_13 ?_
    refine zx_c zd77_14 ?_
    first | with_reducible refine zx_andN zd77_17 ?_ | refine zx_and zd77_17 ?_
    first | with_reducible refine zx_xorN zd77_18 ?_ | refine zx_xor zd77_18 ?_
    (with_reducible refine' zx_iastN zd77_19 ?k227 ?j227 ?a227 ?_); (case k227 => first | exact zkk rfl (by omega) | exact zkk (zK_B0 (by omega)) (by omega) | exact zkk ((zK_B (by omega) (by decide)).trans rfl) (by omega) | exact zkk (zK_row (by omega) (by omega)) (by omega) | exact zkk (zK_file (by omega) (by omega)) (by omega) | exact zkk (zK_byte (by omega) (by omega)) (by omega) | exact zkk (zK_list (by omega)) (by omega) | assumption); (case j227 => omega); (case a227 => omega)
    refine zx_al0 zd77_20 ?_
    (refine' zx_gfA zd77_21 ?k229 ?r229 ?_); (case k229 => first | exact zkk rfl (by omega) | exact zkk (zK_B0 (by omega)) (by omega) | exact zkk ((zK_B (by omega) (by decide)).trans rfl) (by omega) | exact zkk (zK_row (by omega) (by omega)) (by omega) | exact zkk (zK_file (by omega) (by omega)) (by omega) | exact zkk (zK_byte (by omega) (by omega)) (by omega) | exact zkk (zK_list (by omega)) (by omega) | assumption); (case r229 => first | exact hR.1 _ _ _ rfl | exact hR.2.1 _ (by omega) | exact (hR.2.2.2 _ (by omega)).1.1 | exact (hR.2.2.2 _ (by omega)).1.2.1 | exact (hR.2.2.2 _ (by omega)).1.2.2 | exact (hR.2.2.2 _ (by omega)).2.1.1 | exact (hR.2.2.2 _ (by omega)).2.1.2 | exact (hR.2.2.2 _ (by omega)).2.2.1 _ (by omega) | exact (hR.2.2.2 _ (by omega)).2.2.2 _ (by omega) | exact hR.2.2.1 _ (by omega) | exact (hF _ (by omega)).1 | assumption)
    refine zx_il1 zd77_24 ?_
    (with_reducible refine' zx_ialdN zd77_25 ?k231 ?j231 ?_); (case k231 => first | exact zkk rfl (by omega) | exact zkk (zK_B0 (by omega)) (by omega) | exact zkk ((zK_B (by omega) (by decide)).trans rfl) (by omega) | exact zkk (zK_row (by omega) (by omega)) (by omega) | exact zkk (zK_file (by omega) (by omega)) (by omega) | exact zkk (zK_byte (by omega) (by omega)) (by omega) | exact zkk (zK_list (by omega)) (by omega) | assumption); (case j231 => omega)
    refine zx_il3 zd77_26 ?_
    rw [show zu I 434 j (I 434 j ^^^ y &&& Int32.ofNat 255) 434 j = I 434 j ^^^ y &&& Int32.ofNat 255 from if_pos ⟨rfl, rfl⟩]
    refine zx_icmpeq zd77_27 (fun h => ?_) (fun h => ?_)
    · refine zx_c zd77_34 ?_
      refine zx_iret zd77_35 (Or.inr ⟨rfl, by first | exact Or.inl rfl | exact Or.inr rfl | assumption⟩) ?_
      rw [if_pos h]; exact ⟨rfl, rfl⟩
    · refine zx_c zd77_30 ?_
      refine zx_goto zd77_31 ?_
      refine zx_iret zd77_35 (Or.inr ⟨rfl, by first | exact Or.inl rfl | exact Or.inr rfl | assumption⟩) ?_
      rw [if_neg h]; exact ⟨rfl, rfl⟩
  show zW L 76 0 [some (.ref 3), some (.int (Int32.ofNat j)), some (.int y)] [] _ _
  refine zx_al0 zd76_0 ?_
  (refine' zx_gfO zd76_1 ?k239 ?r239 ?_); (case k239 => first | exact zkk rfl (by omega) | exact zkk (zK_B0 (by omega)) (by omega) | exact zkk ((zK_B (by omega) (by decide)).trans rfl) (by omega) | exact zkk (zK_row (by omega) (by omega)) (by omega) | exact zkk (zK_file (by omega) (by omega)) (by omega) | exact zkk (zK_byte (by omega) (by omega)) (by omega) | exact zkk (zK_list (by omega)) (by omega) | assumption); (case r239 => first | exact hR.1 _ _ _ rfl | exact hR.2.1 _ (by omega) | exact (hR.2.2.2 _ (by omega)).1.1 | exact (hR.2.2.2 _ (by omega)).1.2.1 | exact (hR.2.2.2 _ (by omega)).1.2.2 | exact (hR.2.2.2 _ (by omega)).2.1.1 | exact (hR.2.2.2 _ (by omega)).2.1.2 | exact (hR.2.2.2 _ (by omega)).2.2.1 _ (by omega) | exact (hR.2.2.2 _ (by omega)).2.2.2 _ (by omega) | exact hR.2.2.1 _ (by omega) | exact (hF _ (by omega)).1 | assumption)
  refine zx_il1 zd76_4 ?_
  (refine zx_cv1I zd76_5 ?k241 (zc_hb hN hn hn3 hj) ?_); (case k241 => first | exact zkk rfl (by omega) | exact zkk (zK_B0 (by omega)) (by omega) | exact zkk ((zK_B (by omega) (by decide)).trans rfl) (by omega) | exact zkk (zK_row (by omega) (by omega)) (by omega) | exact zkk (zK_file (by omega) (by omega)) (by omega) | exact zkk (zK_byte (by omega) (by omega)) (by omega) | exact zkk (zK_list (by omega)) (by omega) | assumption)
  first | ((with_reducible refine zx_ifneN zd76_8 ?s242 (fun h => ?_) (fun h => ?_)); (case s242 => omega)) | refine zx_ifne zd76_8 (fun h => ?_) (fun h => ?_)
  · refine zx_al0 zd76_21 ?_
    (refine' zx_gfO zd76_22 ?k244 ?r244 ?_); (case k244 => first | exact zkk rfl (by omega) | exact zkk (zK_B0 (by omega)) (by omega) | exact zkk ((zK_B (by omega) (by decide)).trans rfl) (by omega) | exact zkk (zK_row (by omega) (by omega)) (by omega) | exact zkk (zK_file (by omega) (by omega)) (by omega) | exact zkk (zK_byte (by omega) (by omega)) (by omega) | exact zkk (zK_list (by omega)) (by omega) | assumption); (case r244 => first | exact hR.1 _ _ _ rfl | exact hR.2.1 _ (by omega) | exact (hR.2.2.2 _ (by omega)).1.1 | exact (hR.2.2.2 _ (by omega)).1.2.1 | exact (hR.2.2.2 _ (by omega)).1.2.2 | exact (hR.2.2.2 _ (by omega)).2.1.1 | exact (hR.2.2.2 _ (by omega)).2.1.2 | exact (hR.2.2.2 _ (by omega)).2.2.1 _ (by omega) | exact (hR.2.2.2 _ (by omega)).2.2.2 _ (by omega) | exact hR.2.2.1 _ (by omega) | exact (hF _ (by omega)).1 | assumption)
    refine zx_il1 zd76_25 ?_
    refine zx_il2 zd76_26 ?_
    (refine zx_cv2I zd76_27 ?k247 (hr) ?_); (case k247 => first | exact zkk rfl (by omega) | exact zkk (zK_B0 (by omega)) (by omega) | exact zkk ((zK_B (by omega) (by decide)).trans rfl) (by omega) | exact zkk (zK_row (by omega) (by omega)) (by omega) | exact zkk (zK_file (by omega) (by omega)) (by omega) | exact zkk (zK_byte (by omega) (by omega)) (by omega) | exact zkk (zK_list (by omega)) (by omega) | assumption)
    refine zx_iret zd76_30 (Or.inr ⟨rfl, by (split; exact Or.inl rfl; exact Or.inr rfl)⟩) ?_
    exact ⟨rfl, rfl⟩
  · omega
end ZC2
