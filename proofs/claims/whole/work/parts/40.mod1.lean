/-! THE REFERENCE: small methods -/
/-- what is thrown is noted -/
def zT (I : zI) (k : Nat) : zI := zu I 436 0 (Int32.ofNat k)
theorem zT_row (I : zI) (k : Nat) {b : Nat} (h : b ≠ 436) : zT I k b = I b := by unfold zT; rw [zu_rw, zrw_ne _ _ h]
theorem zT_f (I : zI) (k : Nat) {f : Nat} (h : f ≠ 0) : zT I k 436 f = I 436 f := if_neg (fun e => h e.2)
theorem zT_0 (I : zI) (k : Nat) : zT I k 436 0 = Int32.ofNat k := rfl
section ZM1
variable {L N U : Nat} {I : zI} {J : zJ} {R : zR} {c : Nat}
theorem zm_thr (hN : 459 ≤ N) : zRet L 84 [.ref 436] (N, U, I, J, R) (some (.int (I 436 0))) (N, U, I, J, R) := by
  show zW L 84 0 [some (.ref 436)] [] _ _
  refine zx_al0 zd84_0 ?_
  (refine zx_gfI zd84_1 ?k2 ?_); (case k2 => first | exact zkk rfl (by omega) | exact zkk (zK_B0 (by omega)) (by omega) | exact zkk ((zK_B (by omega) (by decide)).trans rfl) (by omega) | exact zkk (zK_row (by omega) (by omega)) (by omega) | exact zkk (zK_file (by omega) (by omega)) (by omega) | exact zkk (zK_byte (by omega) (by omega)) (by omega) | exact zkk (zK_list (by omega)) (by omega) | assumption)
  refine zx_iret zd84_4 (Or.inl rfl) ?_
  exact ⟨rfl, rfl⟩
theorem zm_ib {h : zHp} {b : Nat} (hb : b < 256) : zRet L 88 [.int (Int32.ofNat b)] h (some (.int (Int32.ofNat 1))) h := by
  show zW L 88 0 [some (.int (Int32.ofNat b))] [] _ _
  refine zx_il0 zd88_0 ?_
  first | ((with_reducible refine zx_ifltN zd88_1 ?s5 (fun h => ?_) (fun h => ?_)); (case s5 => omega)) | refine zx_iflt zd88_1 (fun h => ?_) (fun h => ?_)
  · omega
  · refine zx_il0 zd88_4 ?_
    refine zx_c zd88_5 ?_
    first | ((with_reducible refine zx_icmpgeN zd88_8 ?s8 (fun h2 => ?_) (fun h2 => ?_)); (case s8 => omega)) | refine zx_icmpge zd88_8 (fun h2 => ?_) (fun h2 => ?_)
    · omega
    · refine zx_c zd88_11 ?_
      refine zx_goto zd88_12 ?_
      refine zx_iret zd88_16 (Or.inr ⟨rfl, by first | exact Or.inl rfl | exact Or.inr rfl | assumption⟩) ?_
      exact ⟨rfl, rfl⟩
theorem zm_ibN {h : zHp} {x : Int32} (hx : x < 0 ∨ ¬ x < Int32.ofNat 256) : zRet L 88 [.int x] h (some (.int (Int32.ofNat 0))) h := by
  show zW L 88 0 [some (.int x)] [] _ _
  refine zx_il0 zd88_0 ?_
  first | ((with_reducible refine zx_ifltN zd88_1 ?s13 (fun h => ?_) (fun h => ?_)); (case s13 => omega)) | refine zx_iflt zd88_1 (fun h => ?_) (fun h => ?_)
  · refine zx_c zd88_15 ?_
    refine zx_iret zd88_16 (Or.inr ⟨rfl, by first | exact Or.inl rfl | exact Or.inr rfl | assumption⟩) ?_
    exact ⟨rfl, rfl⟩
  · refine zx_il0 zd88_4 ?_
    refine zx_c zd88_5 ?_
    refine zx_icmpge zd88_8 (fun h2 => ?_) (fun h2 => ?_)
    · refine zx_c zd88_15 ?_
      refine zx_iret zd88_16 (Or.inr ⟨rfl, by first | exact Or.inl rfl | exact Or.inr rfl | assumption⟩) ?_
      exact ⟨rfl, rfl⟩
    · rcases hx with hx | hx
      · exact absurd hx h
      · exact absurd h2 hx
theorem zm_ir (hN : 459 ≤ N) (hc : I 436 8 = Int32.ofNat c) (hc10 : c ≤ 10) {r : Nat} (hr : r < c) : zRet L 101 [.ref 436, .int (Int32.ofNat r)] (N, U, I, J, R) (some (.int (Int32.ofNat 1))) (N, U, I, J, R) := by
  show zW L 101 0 [some (.ref 436), some (.int (Int32.ofNat r))] [] _ _
  refine zx_il1 zd101_0 ?_
  first | ((with_reducible refine zx_ifltN zd101_1 ?s21 (fun h => ?_) (fun h => ?_)); (case s21 => omega)) | refine zx_iflt zd101_1 (fun h => ?_) (fun h => ?_)
  · omega
  · refine zx_il1 zd101_4 ?_
    refine zx_al0 zd101_5 ?_
    (refine zx_gfI zd101_6 ?k24 ?_); (case k24 => first | exact zkk rfl (by omega) | exact zkk (zK_B0 (by omega)) (by omega) | exact zkk ((zK_B (by omega) (by decide)).trans rfl) (by omega) | exact zkk (zK_row (by omega) (by omega)) (by omega) | exact zkk (zK_file (by omega) (by omega)) (by omega) | exact zkk (zK_byte (by omega) (by omega)) (by omega) | exact zkk (zK_list (by omega)) (by omega) | assumption)
    rw [hc]
    first | ((with_reducible refine zx_icmpgeN zd101_9 ?s25 (fun h2 => ?_) (fun h2 => ?_)); (case s25 => omega)) | refine zx_icmpge zd101_9 (fun h2 => ?_) (fun h2 => ?_)
    · omega
    · refine zx_c zd101_12 ?_
      refine zx_goto zd101_13 ?_
      refine zx_iret zd101_17 (Or.inr ⟨rfl, by first | exact Or.inl rfl | exact Or.inr rfl | assumption⟩) ?_
      exact ⟨rfl, rfl⟩
theorem zm_irN (hN : 459 ≤ N) (hc : I 436 8 = Int32.ofNat c) {x : Int32} (hx : x < 0 ∨ ¬ x < Int32.ofNat c) : zRet L 101 [.ref 436, .int x] (N, U, I, J, R) (some (.int (Int32.ofNat 0))) (N, U, I, J, R) := by
  show zW L 101 0 [some (.ref 436), some (.int x)] [] _ _
  refine zx_il1 zd101_0 ?_
  first | ((with_reducible refine zx_ifltN zd101_1 ?s30 (fun h => ?_) (fun h => ?_)); (case s30 => omega)) | refine zx_iflt zd101_1 (fun h => ?_) (fun h => ?_)
  · refine zx_c zd101_16 ?_
    refine zx_iret zd101_17 (Or.inr ⟨rfl, by first | exact Or.inl rfl | exact Or.inr rfl | assumption⟩) ?_
    exact ⟨rfl, rfl⟩
  · refine zx_il1 zd101_4 ?_
    refine zx_al0 zd101_5 ?_
    (refine zx_gfI zd101_6 ?k35 ?_); (case k35 => first | exact zkk rfl (by omega) | exact zkk (zK_B0 (by omega)) (by omega) | exact zkk ((zK_B (by omega) (by decide)).trans rfl) (by omega) | exact zkk (zK_row (by omega) (by omega)) (by omega) | exact zkk (zK_file (by omega) (by omega)) (by omega) | exact zkk (zK_byte (by omega) (by omega)) (by omega) | exact zkk (zK_list (by omega)) (by omega) | assumption)
    rw [hc]
    refine zx_icmpge zd101_9 (fun h2 => ?_) (fun h2 => ?_)
    · refine zx_c zd101_16 ?_
      refine zx_iret zd101_17 (Or.inr ⟨rfl, by first | exact Or.inl rfl | exact Or.inr rfl | assumption⟩) ?_
      exact ⟨rfl, rfl⟩
    · rcases hx with hx | hx
      · exact absurd hx h
      · exact absurd h2 hx
theorem zm_il (hR : zRs R) (hN : 459 ≤ N) (hc : I 436 8 = Int32.ofNat c) (hc10 : c ≤ 10) {r n j : Nat} (hr : r < c) (hn : I 443 r = Int32.ofNat n) (hn8 : n ≤ 8) (hj : j < n) : zRet L 103 [.ref 436, .int (Int32.ofNat r), .int (Int32.ofNat j)] (N, U, I, J, R) (some (.int (Int32.ofNat 1))) (N, U, I, J, R) := by
  show zW L 103 0 [some (.ref 436), some (.int (Int32.ofNat r)), some (.int (Int32.ofNat j))] [] _ _
  refine zx_al0 zd103_0 ?_
  refine zx_il1 zd103_1 ?_
  (refine zx_cv1I zd103_2 ?k40 (zm_ir hN hc hc10 hr) ?_); (case k40 => first | exact zkk rfl (by omega) | exact zkk (zK_B0 (by omega)) (by omega) | exact zkk ((zK_B (by omega) (by decide)).trans rfl) (by omega) | exact zkk (zK_row (by omega) (by omega)) (by omega) | exact zkk (zK_file (by omega) (by omega)) (by omega) | exact zkk (zK_byte (by omega) (by omega)) (by omega) | exact zkk (zK_list (by omega)) (by omega) | assumption)
  first | ((with_reducible refine zx_ifeqN zd103_5 ?s41 (fun h => ?_) (fun h => ?_)); (case s41 => omega)) | refine zx_ifeq zd103_5 (fun h => ?_) (fun h => ?_)
  · omega
  · refine zx_il2 zd103_8 ?_
    first | ((with_reducible refine zx_ifltN zd103_9 ?s43 (fun h2 => ?_) (fun h2 => ?_)); (case s43 => omega)) | refine zx_iflt zd103_9 (fun h2 => ?_) (fun h2 => ?_)
    · omega
    · refine zx_il2 zd103_12 ?_
      refine zx_al0 zd103_13 ?_
      (refine' zx_gfA zd103_14 ?k46 ?r46 ?_); (case k46 => first | exact zkk rfl (by omega) | exact zkk (zK_B0 (by omega)) (by omega) | exact zkk ((zK_B (by omega) (by decide)).trans rfl) (by omega) | exact zkk (zK_row (by omega) (by omega)) (by omega) | exact zkk (zK_file (by omega) (by omega)) (by omega) | exact zkk (zK_byte (by omega) (by omega)) (by omega) | exact zkk (zK_list (by omega)) (by omega) | assumption); (case r46 => first | exact hR.1 _ _ _ rfl | assumption)
      refine zx_il1 zd103_17 ?_
      (with_reducible refine' zx_ialdN zd103_18 ?k48 ?j48 ?_); (case k48 => first | exact zkk rfl (by omega) | exact zkk (zK_B0 (by omega)) (by omega) | exact zkk ((zK_B (by omega) (by decide)).trans rfl) (by omega) | exact zkk (zK_row (by omega) (by omega)) (by omega) | exact zkk (zK_file (by omega) (by omega)) (by omega) | exact zkk (zK_byte (by omega) (by omega)) (by omega) | exact zkk (zK_list (by omega)) (by omega) | assumption); (case j48 => omega)
      rw [hn]
      first | ((with_reducible refine zx_icmpgeN zd103_19 ?s49 (fun h3 => ?_) (fun h3 => ?_)); (case s49 => omega)) | refine zx_icmpge zd103_19 (fun h3 => ?_) (fun h3 => ?_)
      · omega
      · refine zx_c zd103_22 ?_
        refine zx_goto zd103_23 ?_
        refine zx_iret zd103_27 (Or.inr ⟨rfl, by first | exact Or.inl rfl | exact Or.inr rfl | assumption⟩) ?_
        exact ⟨rfl, rfl⟩
theorem zm_ilN1 (hN : 459 ≤ N) (hc : I 436 8 = Int32.ofNat c) {x y : Int32} (hx : x < 0 ∨ ¬ x < Int32.ofNat c) : zRet L 103 [.ref 436, .int x, .int y] (N, U, I, J, R) (some (.int (Int32.ofNat 0))) (N, U, I, J, R) := by
  show zW L 103 0 [some (.ref 436), some (.int x), some (.int y)] [] _ _
  refine zx_al0 zd103_0 ?_
  refine zx_il1 zd103_1 ?_
  (refine zx_cv1I zd103_2 ?k55 (zm_irN hN hc hx) ?_); (case k55 => first | exact zkk rfl (by omega) | exact zkk (zK_B0 (by omega)) (by omega) | exact zkk ((zK_B (by omega) (by decide)).trans rfl) (by omega) | exact zkk (zK_row (by omega) (by omega)) (by omega) | exact zkk (zK_file (by omega) (by omega)) (by omega) | exact zkk (zK_byte (by omega) (by omega)) (by omega) | exact zkk (zK_list (by omega)) (by omega) | assumption)
  first | ((with_reducible refine zx_ifeqN zd103_5 ?s56 (fun h => ?_) (fun h => ?_)); (case s56 => omega)) | refine zx_ifeq zd103_5 (fun h => ?_) (fun h => ?_)
  · refine zx_c zd103_26 ?_
    refine zx_iret zd103_27 (Or.inr ⟨rfl, by first | exact Or.inl rfl | exact Or.inr rfl | assumption⟩) ?_
    exact ⟨rfl, rfl⟩
  · omega
theorem zm_ilN2 (hR : zRs R) (hN : 459 ≤ N) (hc : I 436 8 = Int32.ofNat c) (hc10 : c ≤ 10) {r n : Nat} {y : Int32} (hr : r < c) (hn : I 443 r = Int32.ofNat n) (hy : y < 0 ∨ ¬ y < Int32.ofNat n) : zRet L 103 [.ref 436, .int (Int32.ofNat r), .int y] (N, U, I, J, R) (some (.int (Int32.ofNat 0))) (N, U, I, J, R) := by
  show zW L 103 0 [some (.ref 436), some (.int (Int32.ofNat r)), some (.int y)] [] _ _
  refine zx_al0 zd103_0 ?_
  refine zx_il1 zd103_1 ?_
  (refine zx_cv1I zd103_2 ?k61 (zm_ir hN hc hc10 hr) ?_); (case k61 => first | exact zkk rfl (by omega) | exact zkk (zK_B0 (by omega)) (by omega) | exact zkk ((zK_B (by omega) (by decide)).trans rfl) (by omega) | exact zkk (zK_row (by omega) (by omega)) (by omega) | exact zkk (zK_file (by omega) (by omega)) (by omega) | exact zkk (zK_byte (by omega) (by omega)) (by omega) | exact zkk (zK_list (by omega)) (by omega) | assumption)
  first | ((with_reducible refine zx_ifeqN zd103_5 ?s62 (fun h => ?_) (fun h => ?_)); (case s62 => omega)) | refine zx_ifeq zd103_5 (fun h => ?_) (fun h => ?_)
  · omega
  · refine zx_il2 zd103_8 ?_
    first | ((with_reducible refine zx_ifltN zd103_9 ?s64 (fun h2 => ?_) (fun h2 => ?_)); (case s64 => omega)) | refine zx_iflt zd103_9 (fun h2 => ?_) (fun h2 => ?_)
    · refine zx_c zd103_26 ?_
      refine zx_iret zd103_27 (Or.inr ⟨rfl, by first | exact Or.inl rfl | exact Or.inr rfl | assumption⟩) ?_
      exact ⟨rfl, rfl⟩
    · refine zx_il2 zd103_12 ?_
      refine zx_al0 zd103_13 ?_
      (refine' zx_gfA zd103_14 ?k69 ?r69 ?_); (case k69 => first | exact zkk rfl (by omega) | exact zkk (zK_B0 (by omega)) (by omega) | exact zkk ((zK_B (by omega) (by decide)).trans rfl) (by omega) | exact zkk (zK_row (by omega) (by omega)) (by omega) | exact zkk (zK_file (by omega) (by omega)) (by omega) | exact zkk (zK_byte (by omega) (by omega)) (by omega) | exact zkk (zK_list (by omega)) (by omega) | assumption); (case r69 => first | exact hR.1 _ _ _ rfl | assumption)
      refine zx_il1 zd103_17 ?_
      (with_reducible refine' zx_ialdN zd103_18 ?k71 ?j71 ?_); (case k71 => first | exact zkk rfl (by omega) | exact zkk (zK_B0 (by omega)) (by omega) | exact zkk ((zK_B (by omega) (by decide)).trans rfl) (by omega) | exact zkk (zK_row (by omega) (by omega)) (by omega) | exact zkk (zK_file (by omega) (by omega)) (by omega) | exact zkk (zK_byte (by omega) (by omega)) (by omega) | exact zkk (zK_list (by omega)) (by omega) | assumption); (case j71 => omega)
      rw [hn]
      refine zx_icmpge zd103_19 (fun h3 => ?_) (fun h3 => ?_)
      · refine zx_c zd103_26 ?_
        refine zx_iret zd103_27 (Or.inr ⟨rfl, by first | exact Or.inl rfl | exact Or.inr rfl | assumption⟩) ?_
        exact ⟨rfl, rfl⟩
      · rcases hy with hy | hy
        · exact absurd hy h2
        · exact absurd h3 hy
/-- fileWith -/
theorem zm_fw0 (hR : zRs R) (hN : 459 ≤ N) {r n : Nat} (hr : r < 11) (hn : I 443 r = Int32.ofNat n) (hn8 : n ≤ 8) (x : Int32) : ∀ (k i : Nat), i + k = n →
    zW L 86 2 [some (.ref 436), some (.int (Int32.ofNat r)), some (.int x), some (.int (Int32.ofNat i))] [] (N, U, I, J, R) (fun o h => o = .inl (some (.int (zfi (zfnd (fun j => decide (I 444 (8 * r + j) = x)) i k)))) ∧ h = (N, U, I, J, R)) := by
  intro k
  induction k with
  | zero =>
    intro i hi
    refine zx_il3 zd86_2 ?_
    refine zx_al0 zd86_3 ?_
    (refine' zx_gfA zd86_4 ?k76 ?r76 ?_); (case k76 => first | exact zkk rfl (by omega) | exact zkk (zK_B0 (by omega)) (by omega) | exact zkk ((zK_B (by omega) (by decide)).trans rfl) (by omega) | exact zkk (zK_row (by omega) (by omega)) (by omega) | exact zkk (zK_file (by omega) (by omega)) (by omega) | exact zkk (zK_byte (by omega) (by omega)) (by omega) | exact zkk (zK_list (by omega)) (by omega) | assumption); (case r76 => first | exact hR.1 _ _ _ rfl | assumption)
    refine zx_il1 zd86_7 ?_
    (with_reducible refine' zx_ialdN zd86_8 ?k78 ?j78 ?_); (case k78 => first | exact zkk rfl (by omega) | exact zkk (zK_B0 (by omega)) (by omega) | exact zkk ((zK_B (by omega) (by decide)).trans rfl) (by omega) | exact zkk (zK_row (by omega) (by omega)) (by omega) | exact zkk (zK_file (by omega) (by omega)) (by omega) | exact zkk (zK_byte (by omega) (by omega)) (by omega) | exact zkk (zK_list (by omega)) (by omega) | assumption); (case j78 => omega)
    rw [hn]
    first | ((with_reducible refine zx_icmpgeN zd86_9 ?s79 (fun h => ?_) (fun h => ?_)); (case s79 => omega)) | refine zx_icmpge zd86_9 (fun h => ?_) (fun h => ?_)
    · refine zx_c zd86_35 ?_
      refine zx_iret zd86_36 (Or.inl rfl) ?_
      exact ⟨rfl, rfl⟩
    · omega
  | succ k ih =>
    intro i hi
    refine zx_il3 zd86_2 ?_
    refine zx_al0 zd86_3 ?_
    (refine' zx_gfA zd86_4 ?k84 ?r84 ?_); (case k84 => first | exact zkk rfl (by omega) | exact zkk (zK_B0 (by omega)) (by omega) | exact zkk ((zK_B (by omega) (by decide)).trans rfl) (by omega) | exact zkk (zK_row (by omega) (by omega)) (by omega) | exact zkk (zK_file (by omega) (by omega)) (by omega) | exact zkk (zK_byte (by omega) (by omega)) (by omega) | exact zkk (zK_list (by omega)) (by omega) | assumption); (case r84 => first | exact hR.1 _ _ _ rfl | assumption)
    refine zx_il1 zd86_7 ?_
    (with_reducible refine' zx_ialdN zd86_8 ?k86 ?j86 ?_); (case k86 => first | exact zkk rfl (by omega) | exact zkk (zK_B0 (by omega)) (by omega) | exact zkk ((zK_B (by omega) (by decide)).trans rfl) (by omega) | exact zkk (zK_row (by omega) (by omega)) (by omega) | exact zkk (zK_file (by omega) (by omega)) (by omega) | exact zkk (zK_byte (by omega) (by omega)) (by omega) | exact zkk (zK_list (by omega)) (by omega) | assumption); (case j86 => omega)
    rw [hn]
    first | ((with_reducible refine zx_icmpgeN zd86_9 ?s87 (fun h => ?_) (fun h => ?_)); (case s87 => omega)) | refine zx_icmpge zd86_9 (fun h => ?_) (fun h => ?_)
    · omega
    · refine zx_al0 zd86_12 ?_
      (refine' zx_gfA zd86_13 ?k89 ?r89 ?_); (case k89 => first | exact zkk rfl (by omega) | exact zkk (zK_B0 (by omega)) (by omega) | exact zkk ((zK_B (by omega) (by decide)).trans rfl) (by omega) | exact zkk (zK_row (by omega) (by omega)) (by omega) | exact zkk (zK_file (by omega) (by omega)) (by omega) | exact zkk (zK_byte (by omega) (by omega)) (by omega) | exact zkk (zK_list (by omega)) (by omega) | assumption); (case r89 => first | exact hR.1 _ _ _ rfl | assumption)
      refine zx_c zd86_16 ?_
      refine zx_il1 zd86_18 ?_
      first | with_reducible refine zx_mulN zd86_19 ?_ | refine zx_mul zd86_19 ?_
      refine zx_il3 zd86_20 ?_
      first | with_reducible refine zx_addN zd86_21 ?_ | refine zx_add zd86_21 ?_
      (with_reducible refine' zx_ialdN zd86_22 ?k95 ?j95 ?_); (case k95 => first | exact zkk rfl (by omega) | exact zkk (zK_B0 (by omega)) (by omega) | exact zkk ((zK_B (by omega) (by decide)).trans rfl) (by omega) | exact zkk (zK_row (by omega) (by omega)) (by omega) | exact zkk (zK_file (by omega) (by omega)) (by omega) | exact zkk (zK_byte (by omega) (by omega)) (by omega) | exact zkk (zK_list (by omega)) (by omega) | assumption); (case j95 => omega)
      refine zx_il2 zd86_23 ?_
      refine zx_icmpne zd86_24 (fun h2 => ?_) (fun h2 => ?_)
      · first | with_reducible refine zx_iin3 zd86_29 ?_ | refine zx_ii3 zd86_29 ?_
        refine zx_goto zd86_32 ?_
        have e : zfnd (fun j => decide (I 444 (8 * r + j) = x)) i (k + 1) = zfnd (fun j => decide (I 444 (8 * r + j) = x)) (i + 1) k := if_neg (by simpa using h2)
        rw [e]; exact ih (i + 1) (by omega)
      · refine zx_il3 zd86_27 ?_
        refine zx_iret zd86_28 (Or.inl rfl) ?_
        have e : zfnd (fun j => decide (I 444 (8 * r + j) = x)) i (k + 1) = some i := if_pos (by simpa using h2)
        rw [e]; exact ⟨rfl, rfl⟩
theorem zm_fw (hR : zRs R) (hN : 459 ≤ N) {r n : Nat} (hr : r < 11) (hn : I 443 r = Int32.ofNat n) (hn8 : n ≤ 8) (x : Int32) : zRet L 86 [.ref 436, .int (Int32.ofNat r), .int x] (N, U, I, J, R) (some (.int (zfi (zfnd (fun j => decide (I 444 (8 * r + j) = x)) 0 n)))) (N, U, I, J, R) := by
  show zW L 86 0 [some (.ref 436), some (.int (Int32.ofNat r)), some (.int x), none] [] _ _
  refine zx_c zd86_0 ?_
  refine zx_is3 zd86_1 rfl ?_
  exact zm_fw0 hR hN hr hn hn8 x n 0 (by omega)
/-- file -/
theorem zm_fileT (hN : 459 ≤ N) {x : Int32} (hx : x < 0 ∨ ¬ x < Int32.ofNat 65536) : zRet L 85 [.ref 436, .int x] (N, U, I, J, R) (some (.int (Int32.ofNat 0))) (N, U, zT I 1, J, R) := by
  have fin : zW L 85 16 [some (.ref 436), some (.int x)] [.int (Int32.ofNat 1), .ref 436] (N, U, I, J, R) (fun o k => o = .inl (some (.int (Int32.ofNat 0))) ∧ k = (N, U, zT I 1, J, R)) := by
    (refine zx_pfI zd85_16 ?k103 ?a103 ?_); (case k103 => first | exact zkk rfl (by omega) | exact zkk (zK_B0 (by omega)) (by omega) | exact zkk ((zK_B (by omega) (by decide)).trans rfl) (by omega) | exact zkk (zK_row (by omega) (by omega)) (by omega) | exact zkk (zK_file (by omega) (by omega)) (by omega) | exact zkk (zK_byte (by omega) (by omega)) (by omega) | exact zkk (zK_list (by omega)) (by omega) | assumption); (case a103 => omega)
    refine zx_al0 zd85_19 ?_
    (refine zx_gfI zd85_20 ?k105 ?_); (case k105 => first | exact zkk rfl (by omega) | exact zkk (zK_B0 (by omega)) (by omega) | exact zkk ((zK_B (by omega) (by decide)).trans rfl) (by omega) | exact zkk (zK_row (by omega) (by omega)) (by omega) | exact zkk (zK_file (by omega) (by omega)) (by omega) | exact zkk (zK_byte (by omega) (by omega)) (by omega) | exact zkk (zK_list (by omega)) (by omega) | assumption)
    rw [show zu I 436 0 (Int32.ofNat 1) 436 0 = Int32.ofNat 1 from rfl]
    first | ((with_reducible refine zx_ifeqN zd85_23 ?s106 (fun h => ?_) (fun h => ?_)); (case s106 => omega)) | refine zx_ifeq zd85_23 (fun h => ?_) (fun h => ?_)
    · omega
    · refine zx_c zd85_26 ?_
      refine zx_iret zd85_27 (Or.inl rfl) ?_
      exact ⟨rfl, rfl⟩
  show zW L 85 0 [some (.ref 436), some (.int x)] [] _ _
  refine zx_al0 zd85_0 ?_
  refine zx_il1 zd85_1 ?_
  first | ((with_reducible refine zx_ifltN zd85_2 ?s111 (fun h => ?_) (fun h => ?_)); (case s111 => omega)) | refine zx_iflt zd85_2 (fun h => ?_) (fun h => ?_)
  · refine zx_c zd85_15 ?_
    exact fin
  · refine zx_il1 zd85_5 ?_
    refine zx_c zd85_6 ?_
    refine zx_icmpge zd85_8 (fun h2 => ?_) (fun h2 => ?_)
    · refine zx_c zd85_15 ?_
      exact fin
    · rcases hx with hx | hx
      · exact absurd hx h
      · exact absurd h2 hx
theorem zm_fileN (hR : zRs R) (hN : 459 ≤ N) {x n : Nat} (hx : x < 65536) (hn : I 443 10 = Int32.ofNat n) (hn8 : n ≤ 8) (hf : n = 8 ∨ zfnd (fun j => decide (I 444 (8 * 10 + j) = Int32.ofNat x)) 0 n ≠ none) : zRet L 85 [.ref 436, .int (Int32.ofNat x)] (N, U, I, J, R) (some (.int (-1))) (N, U, zT I 0, J, R) := by
  show zW L 85 0 [some (.ref 436), some (.int (Int32.ofNat x))] [] _ _
  refine zx_al0 zd85_0 ?_
  refine zx_il1 zd85_1 ?_
  first | ((with_reducible refine zx_ifltN zd85_2 ?s118 (fun h => ?_) (fun h => ?_)); (case s118 => omega)) | refine zx_iflt zd85_2 (fun h => ?_) (fun h => ?_)
  · omega
  · refine zx_il1 zd85_5 ?_
    refine zx_c zd85_6 ?_
    first | ((with_reducible refine zx_icmpgeN zd85_8 ?s121 (fun h2 => ?_) (fun h2 => ?_)); (case s121 => omega)) | refine zx_icmpge zd85_8 (fun h2 => ?_) (fun h2 => ?_)
    · omega
    · refine zx_c zd85_11 ?_
      refine zx_goto zd85_12 ?_
      (refine zx_pfI zd85_16 ?k124 ?a124 ?_); (case k124 => first | exact zkk rfl (by omega) | exact zkk (zK_B0 (by omega)) (by omega) | exact zkk ((zK_B (by omega) (by decide)).trans rfl) (by omega) | exact zkk (zK_row (by omega) (by omega)) (by omega) | exact zkk (zK_file (by omega) (by omega)) (by omega) | exact zkk (zK_byte (by omega) (by omega)) (by omega) | exact zkk (zK_list (by omega)) (by omega) | assumption); (case a124 => omega)
      refine zx_al0 zd85_19 ?_
      (refine zx_gfI zd85_20 ?k126 ?_); (case k126 => first | exact zkk rfl (by omega) | exact zkk (zK_B0 (by omega)) (by omega) | exact zkk ((zK_B (by omega) (by decide)).trans rfl) (by omega) | exact zkk (zK_row (by omega) (by omega)) (by omega) | exact zkk (zK_file (by omega) (by omega)) (by omega) | exact zkk (zK_byte (by omega) (by omega)) (by omega) | exact zkk (zK_list (by omega)) (by omega) | assumption)
      rw [show zu I 436 0 (Int32.ofNat 0) 436 0 = Int32.ofNat 0 from rfl]
      first | ((with_reducible refine zx_ifeqN zd85_23 ?s127 (fun h3 => ?_) (fun h3 => ?_)); (case s127 => omega)) | refine zx_ifeq zd85_23 (fun h3 => ?_) (fun h3 => ?_)
      · refine zx_al0 zd85_28 ?_
        (refine' zx_gfA zd85_29 ?k129 ?r129 ?_); (case k129 => first | exact zkk rfl (by omega) | exact zkk (zK_B0 (by omega)) (by omega) | exact zkk ((zK_B (by omega) (by decide)).trans rfl) (by omega) | exact zkk (zK_row (by omega) (by omega)) (by omega) | exact zkk (zK_file (by omega) (by omega)) (by omega) | exact zkk (zK_byte (by omega) (by omega)) (by omega) | exact zkk (zK_list (by omega)) (by omega) | assumption); (case r129 => first | exact hR.1 _ _ _ rfl | assumption)
        refine zx_c zd85_32 ?_
        (with_reducible refine' zx_ialdN zd85_34 ?k131 ?j131 ?_); (case k131 => first | exact zkk rfl (by omega) | exact zkk (zK_B0 (by omega)) (by omega) | exact zkk ((zK_B (by omega) (by decide)).trans rfl) (by omega) | exact zkk (zK_row (by omega) (by omega)) (by omega) | exact zkk (zK_file (by omega) (by omega)) (by omega) | exact zkk (zK_byte (by omega) (by omega)) (by omega) | exact zkk (zK_list (by omega)) (by omega) | assumption); (case j131 => omega)
        rw [show zu I 436 0 (Int32.ofNat 0) 443 10 = I 443 10 from rfl, hn]
        refine zx_c zd85_35 ?_
        first | ((with_reducible refine zx_icmpeqN zd85_37 ?s133 (fun h4 => ?_) (fun h4 => ?_)); (case s133 => omega)) | refine zx_icmpeq zd85_37 (fun h4 => ?_) (fun h4 => ?_)
        · refine zx_c zd85_51 ?_
          refine zx_iret zd85_52 (Or.inl rfl) ?_
          exact ⟨rfl, rfl⟩
        · refine zx_al0 zd85_40 ?_
          refine zx_c zd85_41 ?_
          refine zx_il1 zd85_43 ?_
          (refine zx_cv2I zd85_44 ?k139 (zm_fw hR hN (r := 10) (by decide) (show zu I 436 0 (Int32.ofNat 0) 443 10 = Int32.ofNat n from hn) hn8 _) ?_); (case k139 => first | exact zkk rfl (by omega) | exact zkk (zK_B0 (by omega)) (by omega) | exact zkk ((zK_B (by omega) (by decide)).trans rfl) (by omega) | exact zkk (zK_row (by omega) (by omega)) (by omega) | exact zkk (zK_file (by omega) (by omega)) (by omega) | exact zkk (zK_byte (by omega) (by omega)) (by omega) | exact zkk (zK_list (by omega)) (by omega) | assumption)
          refine zx_c zd85_47 ?_
          refine zx_icmpeq zd85_48 (fun h5 => ?_) (fun h5 => ?_)
          · rcases hf with hf | hf
            · omega
            · exact absurd h5 (zfi_ne hf (fun j hj => by have := zfnd_lt hj; omega))
          · refine zx_c zd85_51 ?_
            refine zx_iret zd85_52 (Or.inl rfl) ?_
            exact ⟨rfl, rfl⟩
      · omega
theorem zm_file (hR : zRs R) (hN : 459 ≤ N) {x n : Nat} (hx : x < 65536) (hn : I 443 10 = Int32.ofNat n) (hn8 : n < 8) (hf : zfnd (fun j => decide (I 444 (8 * 10 + j) = Int32.ofNat x)) 0 n = none) : zRet L 85 [.ref 436, .int (Int32.ofNat x)] (N, U, I, J, R) (some (.int (Int32.ofNat n))) (N, U, zu (zu (zu (zT I 0) 444 (80 + n) (Int32.ofNat x)) 445 (80 + n) (Int32.ofNat 0)) 443 10 (Int32.ofNat (n + 1)), J, R) := by
  show zW L 85 0 [some (.ref 436), some (.int (Int32.ofNat x))] [] _ _
  refine zx_al0 zd85_0 ?_
  refine zx_il1 zd85_1 ?_
  first | ((with_reducible refine zx_ifltN zd85_2 ?s145 (fun h => ?_) (fun h => ?_)); (case s145 => omega)) | refine zx_iflt zd85_2 (fun h => ?_) (fun h => ?_)
  · omega
  · refine zx_il1 zd85_5 ?_
    refine zx_c zd85_6 ?_
    first | ((with_reducible refine zx_icmpgeN zd85_8 ?s148 (fun h2 => ?_) (fun h2 => ?_)); (case s148 => omega)) | refine zx_icmpge zd85_8 (fun h2 => ?_) (fun h2 => ?_)
    · omega
    · refine zx_c zd85_11 ?_
      refine zx_goto zd85_12 ?_
      (refine zx_pfI zd85_16 ?k151 ?a151 ?_); (case k151 => first | exact zkk rfl (by omega) | exact zkk (zK_B0 (by omega)) (by omega) | exact zkk ((zK_B (by omega) (by decide)).trans rfl) (by omega) | exact zkk (zK_row (by omega) (by omega)) (by omega) | exact zkk (zK_file (by omega) (by omega)) (by omega) | exact zkk (zK_byte (by omega) (by omega)) (by omega) | exact zkk (zK_list (by omega)) (by omega) | assumption); (case a151 => omega)
      refine zx_al0 zd85_19 ?_
      (refine zx_gfI zd85_20 ?k153 ?_); (case k153 => first | exact zkk rfl (by omega) | exact zkk (zK_B0 (by omega)) (by omega) | exact zkk ((zK_B (by omega) (by decide)).trans rfl) (by omega) | exact zkk (zK_row (by omega) (by omega)) (by omega) | exact zkk (zK_file (by omega) (by omega)) (by omega) | exact zkk (zK_byte (by omega) (by omega)) (by omega) | exact zkk (zK_list (by omega)) (by omega) | assumption)
      rw [show zu I 436 0 (Int32.ofNat 0) 436 0 = Int32.ofNat 0 from rfl]
      first | ((with_reducible refine zx_ifeqN zd85_23 ?s154 (fun h3 => ?_) (fun h3 => ?_)); (case s154 => omega)) | refine zx_ifeq zd85_23 (fun h3 => ?_) (fun h3 => ?_)
      · refine zx_al0 zd85_28 ?_
        (refine' zx_gfA zd85_29 ?k156 ?r156 ?_); (case k156 => first | exact zkk rfl (by omega) | exact zkk (zK_B0 (by omega)) (by omega) | exact zkk ((zK_B (by omega) (by decide)).trans rfl) (by omega) | exact zkk (zK_row (by omega) (by omega)) (by omega) | exact zkk (zK_file (by omega) (by omega)) (by omega) | exact zkk (zK_byte (by omega) (by omega)) (by omega) | exact zkk (zK_list (by omega)) (by omega) | assumption); (case r156 => first | exact hR.1 _ _ _ rfl | assumption)
        refine zx_c zd85_32 ?_
        (with_reducible refine' zx_ialdN zd85_34 ?k158 ?j158 ?_); (case k158 => first | exact zkk rfl (by omega) | exact zkk (zK_B0 (by omega)) (by omega) | exact zkk ((zK_B (by omega) (by decide)).trans rfl) (by omega) | exact zkk (zK_row (by omega) (by omega)) (by omega) | exact zkk (zK_file (by omega) (by omega)) (by omega) | exact zkk (zK_byte (by omega) (by omega)) (by omega) | exact zkk (zK_list (by omega)) (by omega) | assumption); (case j158 => omega)
        rw [show zu I 436 0 (Int32.ofNat 0) 443 10 = I 443 10 from rfl, hn]
        refine zx_c zd85_35 ?_
        first | ((with_reducible refine zx_icmpeqN zd85_37 ?s160 (fun h4 => ?_) (fun h4 => ?_)); (case s160 => omega)) | refine zx_icmpeq zd85_37 (fun h4 => ?_) (fun h4 => ?_)
        · omega
        · refine zx_al0 zd85_40 ?_
          refine zx_c zd85_41 ?_
          refine zx_il1 zd85_43 ?_
          (refine zx_cv2I zd85_44 ?k164 (zm_fw hR hN (r := 10) (by decide) (show zu I 436 0 (Int32.ofNat 0) 443 10 = Int32.ofNat n from hn) (by omega) _) ?_); (case k164 => first | exact zkk rfl (by omega) | exact zkk (zK_B0 (by omega)) (by omega) | exact zkk ((zK_B (by omega) (by decide)).trans rfl) (by omega) | exact zkk (zK_row (by omega) (by omega)) (by omega) | exact zkk (zK_file (by omega) (by omega)) (by omega) | exact zkk (zK_byte (by omega) (by omega)) (by omega) | exact zkk (zK_list (by omega)) (by omega) | assumption)
          refine zx_c zd85_47 ?_
          rw [show zfnd (fun j => decide (zu I 436 0 (Int32.ofNat 0) 444 (8 * 10 + j) = Int32.ofNat x)) 0 n = none from hf]
          refine zx_icmpeq zd85_48 (fun h5 => ?_) (fun h5 => absurd rfl h5)
          refine zx_al0 zd85_53 ?_
          (refine' zx_gfA zd85_54 ?k167 ?r167 ?_); (case k167 => first | exact zkk rfl (by omega) | exact zkk (zK_B0 (by omega)) (by omega) | exact zkk ((zK_B (by omega) (by decide)).trans rfl) (by omega) | exact zkk (zK_row (by omega) (by omega)) (by omega) | exact zkk (zK_file (by omega) (by omega)) (by omega) | exact zkk (zK_byte (by omega) (by omega)) (by omega) | exact zkk (zK_list (by omega)) (by omega) | assumption); (case r167 => first | exact hR.1 _ _ _ rfl | assumption)
          refine zx_c zd85_57 ?_
          refine zx_al0 zd85_59 ?_
          (refine' zx_gfA zd85_60 ?k170 ?r170 ?_); (case k170 => first | exact zkk rfl (by omega) | exact zkk (zK_B0 (by omega)) (by omega) | exact zkk ((zK_B (by omega) (by decide)).trans rfl) (by omega) | exact zkk (zK_row (by omega) (by omega)) (by omega) | exact zkk (zK_file (by omega) (by omega)) (by omega) | exact zkk (zK_byte (by omega) (by omega)) (by omega) | exact zkk (zK_list (by omega)) (by omega) | assumption); (case r170 => first | exact hR.1 _ _ _ rfl | assumption)
          refine zx_c zd85_63 ?_
          (with_reducible refine' zx_ialdN zd85_65 ?k172 ?j172 ?_); (case k172 => first | exact zkk rfl (by omega) | exact zkk (zK_B0 (by omega)) (by omega) | exact zkk ((zK_B (by omega) (by decide)).trans rfl) (by omega) | exact zkk (zK_row (by omega) (by omega)) (by omega) | exact zkk (zK_file (by omega) (by omega)) (by omega) | exact zkk (zK_byte (by omega) (by omega)) (by omega) | exact zkk (zK_list (by omega)) (by omega) | assumption); (case j172 => omega)
          rw [show zu I 436 0 (Int32.ofNat 0) 443 10 = I 443 10 from rfl, hn]
          first | with_reducible refine zx_addN zd85_66 ?_ | refine zx_add zd85_66 ?_
          refine zx_il1 zd85_67 ?_
          (with_reducible refine' zx_iastN zd85_68 ?k175 ?j175 ?a175 ?_); (case k175 => first | exact zkk rfl (by omega) | exact zkk (zK_B0 (by omega)) (by omega) | exact zkk ((zK_B (by omega) (by decide)).trans rfl) (by omega) | exact zkk (zK_row (by omega) (by omega)) (by omega) | exact zkk (zK_file (by omega) (by omega)) (by omega) | exact zkk (zK_byte (by omega) (by omega)) (by omega) | exact zkk (zK_list (by omega)) (by omega) | assumption); (case j175 => omega); (case a175 => omega)
          refine zx_al0 zd85_69 ?_
          (refine' zx_gfA zd85_70 ?k177 ?r177 ?_); (case k177 => first | exact zkk rfl (by omega) | exact zkk (zK_B0 (by omega)) (by omega) | exact zkk ((zK_B (by omega) (by decide)).trans rfl) (by omega) | exact zkk (zK_row (by omega) (by omega)) (by omega) | exact zkk (zK_file (by omega) (by omega)) (by omega) | exact zkk (zK_byte (by omega) (by omega)) (by omega) | exact zkk (zK_list (by omega)) (by omega) | assumption); (case r177 => first | exact hR.1 _ _ _ rfl | assumption)
          refine zx_c zd85_73 ?_
          refine zx_al0 zd85_75 ?_
          (refine' zx_gfA zd85_76 ?k180 ?r180 ?_); (case k180 => first | exact zkk rfl (by omega) | exact zkk (zK_B0 (by omega)) (by omega) | exact zkk ((zK_B (by omega) (by decide)).trans rfl) (by omega) | exact zkk (zK_row (by omega) (by omega)) (by omega) | exact zkk (zK_file (by omega) (by omega)) (by omega) | exact zkk (zK_byte (by omega) (by omega)) (by omega) | exact zkk (zK_list (by omega)) (by omega) | assumption); (case r180 => first | exact hR.1 _ _ _ rfl | assumption)
          refine zx_c zd85_79 ?_
          (with_reducible refine' zx_ialdN zd85_81 ?k182 ?j182 ?_); (case k182 => first | exact zkk rfl (by omega) | exact zkk (zK_B0 (by omega)) (by omega) | exact zkk ((zK_B (by omega) (by decide)).trans rfl) (by omega) | exact zkk (zK_row (by omega) (by omega)) (by omega) | exact zkk (zK_file (by omega) (by omega)) (by omega) | exact zkk (zK_byte (by omega) (by omega)) (by omega) | exact zkk (zK_list (by omega)) (by omega) | assumption); (case j182 => omega)
          rw [show zu (zu I 436 0 (Int32.ofNat 0)) 444 (80 + n) (Int32.ofNat x) 443 10 = I 443 10 from rfl, hn]
          first | with_reducible refine zx_addN zd85_82 ?_ | refine zx_add zd85_82 ?_
          refine zx_c zd85_83 ?_
          (with_reducible refine' zx_iastN zd85_84 ?k185 ?j185 ?a185 ?_); (case k185 => first | exact zkk rfl (by omega) | exact zkk (zK_B0 (by omega)) (by omega) | exact zkk ((zK_B (by omega) (by decide)).trans rfl) (by omega) | exact zkk (zK_row (by omega) (by omega)) (by omega) | exact zkk (zK_file (by omega) (by omega)) (by omega) | exact zkk (zK_byte (by omega) (by omega)) (by omega) | exact zkk (zK_list (by omega)) (by omega) | assumption); (case j185 => omega); (case a185 => omega)
          refine zx_al0 zd85_85 ?_
          (refine' zx_gfA zd85_86 ?k187 ?r187 ?_); (case k187 => first | exact zkk rfl (by omega) | exact zkk (zK_B0 (by omega)) (by omega) | exact zkk ((zK_B (by omega) (by decide)).trans rfl) (by omega) | exact zkk (zK_row (by omega) (by omega)) (by omega) | exact zkk (zK_file (by omega) (by omega)) (by omega) | exact zkk (zK_byte (by omega) (by omega)) (by omega) | exact zkk (zK_list (by omega)) (by omega) | assumption); (case r187 => first | exact hR.1 _ _ _ rfl | assumption)
          refine zx_c zd85_89 ?_
          refine zx_dup2 zd85_91 ?_
          (with_reducible refine' zx_ialdN zd85_92 ?k190 ?j190 ?_); (case k190 => first | exact zkk rfl (by omega) | exact zkk (zK_B0 (by omega)) (by omega) | exact zkk ((zK_B (by omega) (by decide)).trans rfl) (by omega) | exact zkk (zK_row (by omega) (by omega)) (by omega) | exact zkk (zK_file (by omega) (by omega)) (by omega) | exact zkk (zK_byte (by omega) (by omega)) (by omega) | exact zkk (zK_list (by omega)) (by omega) | assumption); (case j190 => omega)
          rw [show zu (zu (zu I 436 0 (Int32.ofNat 0)) 444 (80 + n) (Int32.ofNat x)) 445 (80 + n) (Int32.ofNat 0) 443 10 = I 443 10 from rfl, hn]
          refine zx_c zd85_93 ?_
          first | with_reducible refine zx_addN zd85_94 ?_ | refine zx_add zd85_94 ?_
          (with_reducible refine' zx_iastN zd85_95 ?k193 ?j193 ?a193 ?_); (case k193 => first | exact zkk rfl (by omega) | exact zkk (zK_B0 (by omega)) (by omega) | exact zkk ((zK_B (by omega) (by decide)).trans rfl) (by omega) | exact zkk (zK_row (by omega) (by omega)) (by omega) | exact zkk (zK_file (by omega) (by omega)) (by omega) | exact zkk (zK_byte (by omega) (by omega)) (by omega) | exact zkk (zK_list (by omega)) (by omega) | assumption); (case j193 => omega); (case a193 => omega)
          refine zx_al0 zd85_96 ?_
          (refine' zx_gfA zd85_97 ?k195 ?r195 ?_); (case k195 => first | exact zkk rfl (by omega) | exact zkk (zK_B0 (by omega)) (by omega) | exact zkk ((zK_B (by omega) (by decide)).trans rfl) (by omega) | exact zkk (zK_row (by omega) (by omega)) (by omega) | exact zkk (zK_file (by omega) (by omega)) (by omega) | exact zkk (zK_byte (by omega) (by omega)) (by omega) | exact zkk (zK_list (by omega)) (by omega) | assumption); (case r195 => first | exact hR.1 _ _ _ rfl | assumption)
          refine zx_c zd85_100 ?_
          (with_reducible refine' zx_ialdN zd85_102 ?k197 ?j197 ?_); (case k197 => first | exact zkk rfl (by omega) | exact zkk (zK_B0 (by omega)) (by omega) | exact zkk ((zK_B (by omega) (by decide)).trans rfl) (by omega) | exact zkk (zK_row (by omega) (by omega)) (by omega) | exact zkk (zK_file (by omega) (by omega)) (by omega) | exact zkk (zK_byte (by omega) (by omega)) (by omega) | exact zkk (zK_list (by omega)) (by omega) | assumption); (case j197 => omega)
          rw [show zu (zu (zu (zu I 436 0 (Int32.ofNat 0)) 444 (80 + n) (Int32.ofNat x)) 445 (80 + n) (Int32.ofNat 0)) 443 10 (Int32.ofNat (n + 1)) 443 10 = Int32.ofNat (n + 1) from rfl]
          refine zx_c zd85_103 ?_
          first | ((with_reducible refine zx_subN zd85_104 ?h199 ?_); (case h199 => omega)) | refine zx_sub zd85_104 ?_
          refine zx_iret zd85_105 (Or.inl rfl) ?_
          rw [Nat.add_sub_cancel]
          exact ⟨rfl, rfl⟩
      · omega
/-- byteOf -/
theorem zm_boT1 (hR : zRs R) (hN : 459 ≤ N) {n : Nat} (hn : I 443 10 = Int32.ofNat n) {x y : Int32} (hx : x < 0 ∨ ¬ x < Int32.ofNat n) : zRet L 87 [.ref 436, .int x, .int y] (N, U, I, J, R) (some (.int (Int32.ofNat 0))) (N, U, zT I 1, J, R) := by
  have fin : zW L 87 32 [some (.ref 436), some (.int x), some (.int y), none] [.int (Int32.ofNat 1), .ref 436] (N, U, I, J, R) (fun o k => o = .inl (some (.int (Int32.ofNat 0))) ∧ k = (N, U, zT I 1, J, R)) := by
    (refine zx_pfI zd87_32 ?k201 ?a201 ?_); (case k201 => first | exact zkk rfl (by omega) | exact zkk (zK_B0 (by omega)) (by omega) | exact zkk ((zK_B (by omega) (by decide)).trans rfl) (by omega) | exact zkk (zK_row (by omega) (by omega)) (by omega) | exact zkk (zK_file (by omega) (by omega)) (by omega) | exact zkk (zK_byte (by omega) (by omega)) (by omega) | exact zkk (zK_list (by omega)) (by omega) | assumption); (case a201 => omega)
    refine zx_c zd87_35 ?_
    refine zx_il1 zd87_37 ?_
    first | with_reducible refine zx_addN zd87_38 ?_ | refine zx_add zd87_38 ?_
    refine zx_is3 zd87_39 rfl ?_
    refine zx_al0 zd87_40 ?_
    (refine zx_gfI zd87_41 ?k207 ?_); (case k207 => first | exact zkk rfl (by omega) | exact zkk (zK_B0 (by omega)) (by omega) | exact zkk ((zK_B (by omega) (by decide)).trans rfl) (by omega) | exact zkk (zK_row (by omega) (by omega)) (by omega) | exact zkk (zK_file (by omega) (by omega)) (by omega) | exact zkk (zK_byte (by omega) (by omega)) (by omega) | exact zkk (zK_list (by omega)) (by omega) | assumption)
    rw [show zu I 436 0 (Int32.ofNat 1) 436 0 = Int32.ofNat 1 from rfl]
    first | ((with_reducible refine zx_ifneN zd87_44 ?s208 (fun h => ?_) (fun h => ?_)); (case s208 => omega)) | refine zx_ifne zd87_44 (fun h => ?_) (fun h => ?_)
    · refine zx_c zd87_58 ?_
      refine zx_iret zd87_59 (Or.inr ⟨rfl, by first | exact Or.inl rfl | exact Or.inr rfl | assumption⟩) ?_
      exact ⟨rfl, rfl⟩
    · omega
  show zW L 87 0 [some (.ref 436), some (.int x), some (.int y), none] [] _ _
  refine zx_al0 zd87_0 ?_
  refine zx_il1 zd87_1 ?_
  first | ((with_reducible refine zx_ifltN zd87_2 ?s213 (fun h => ?_) (fun h => ?_)); (case s213 => omega)) | refine zx_iflt zd87_2 (fun h => ?_) (fun h => ?_)
  · refine zx_c zd87_16 ?_
    refine zx_goto zd87_17 ?_
    exact fin
  · refine zx_il1 zd87_5 ?_
    refine zx_al0 zd87_6 ?_
    (refine' zx_gfA zd87_7 ?k218 ?r218 ?_); (case k218 => first | exact zkk rfl (by omega) | exact zkk (zK_B0 (by omega)) (by omega) | exact zkk ((zK_B (by omega) (by decide)).trans rfl) (by omega) | exact zkk (zK_row (by omega) (by omega)) (by omega) | exact zkk (zK_file (by omega) (by omega)) (by omega) | exact zkk (zK_byte (by omega) (by omega)) (by omega) | exact zkk (zK_list (by omega)) (by omega) | assumption); (case r218 => first | exact hR.1 _ _ _ rfl | assumption)
    refine zx_c zd87_10 ?_
    (with_reducible refine' zx_ialdN zd87_12 ?k220 ?j220 ?_); (case k220 => first | exact zkk rfl (by omega) | exact zkk (zK_B0 (by omega)) (by omega) | exact zkk ((zK_B (by omega) (by decide)).trans rfl) (by omega) | exact zkk (zK_row (by omega) (by omega)) (by omega) | exact zkk (zK_file (by omega) (by omega)) (by omega) | exact zkk (zK_byte (by omega) (by omega)) (by omega) | exact zkk (zK_list (by omega)) (by omega) | assumption); (case j220 => omega)
    rw [hn]
    refine zx_icmplt zd87_13 (fun h2 => ?_) (fun h2 => ?_)
    · rcases hx with hx | hx
      · exact absurd hx h
      · exact absurd h2 hx
    · refine zx_c zd87_16 ?_
      refine zx_goto zd87_17 ?_
      exact fin
theorem zm_boT2 (hR : zRs R) (hN : 459 ≤ N) {n j : Nat} (hn : I 443 10 = Int32.ofNat n) (hn8 : n ≤ 8) (hj : j < n) {y : Int32} (hy : y < 0 ∨ ¬ y < Int32.ofNat 256) : zRet L 87 [.ref 436, .int (Int32.ofNat j), .int y] (N, U, I, J, R) (some (.int (Int32.ofNat 0))) (N, U, zT I 2, J, R) := by
  show zW L 87 0 [some (.ref 436), some (.int (Int32.ofNat j)), some (.int y), none] [] _ _
  refine zx_al0 zd87_0 ?_
  refine zx_il1 zd87_1 ?_
  first | ((with_reducible refine zx_ifltN zd87_2 ?s225 (fun h => ?_) (fun h => ?_)); (case s225 => omega)) | refine zx_iflt zd87_2 (fun h => ?_) (fun h => ?_)
  · omega
  · refine zx_il1 zd87_5 ?_
    refine zx_al0 zd87_6 ?_
    (refine' zx_gfA zd87_7 ?k228 ?r228 ?_); (case k228 => first | exact zkk rfl (by omega) | exact zkk (zK_B0 (by omega)) (by omega) | exact zkk ((zK_B (by omega) (by decide)).trans rfl) (by omega) | exact zkk (zK_row (by omega) (by omega)) (by omega) | exact zkk (zK_file (by omega) (by omega)) (by omega) | exact zkk (zK_byte (by omega) (by omega)) (by omega) | exact zkk (zK_list (by omega)) (by omega) | assumption); (case r228 => first | exact hR.1 _ _ _ rfl | assumption)
    refine zx_c zd87_10 ?_
    (with_reducible refine' zx_ialdN zd87_12 ?k230 ?j230 ?_); (case k230 => first | exact zkk rfl (by omega) | exact zkk (zK_B0 (by omega)) (by omega) | exact zkk ((zK_B (by omega) (by decide)).trans rfl) (by omega) | exact zkk (zK_row (by omega) (by omega)) (by omega) | exact zkk (zK_file (by omega) (by omega)) (by omega) | exact zkk (zK_byte (by omega) (by omega)) (by omega) | exact zkk (zK_list (by omega)) (by omega) | assumption); (case j230 => omega)
    rw [hn]
    first | ((with_reducible refine zx_icmpltN zd87_13 ?s231 (fun h2 => ?_) (fun h2 => ?_)); (case s231 => omega)) | refine zx_icmplt zd87_13 (fun h2 => ?_) (fun h2 => ?_)
    · refine zx_il2 zd87_20 ?_
      refine zx_cs1I zd87_21 (zm_ibN hy) ?_
      first | ((with_reducible refine zx_ifeqN zd87_24 ?s234 (fun h3 => ?_) (fun h3 => ?_)); (case s234 => omega)) | refine zx_ifeq zd87_24 (fun h3 => ?_) (fun h3 => ?_)
      · refine zx_c zd87_31 ?_
        (refine zx_pfI zd87_32 ?k236 ?a236 ?_); (case k236 => first | exact zkk rfl (by omega) | exact zkk (zK_B0 (by omega)) (by omega) | exact zkk ((zK_B (by omega) (by decide)).trans rfl) (by omega) | exact zkk (zK_row (by omega) (by omega)) (by omega) | exact zkk (zK_file (by omega) (by omega)) (by omega) | exact zkk (zK_byte (by omega) (by omega)) (by omega) | exact zkk (zK_list (by omega)) (by omega) | assumption); (case a236 => omega)
        refine zx_c zd87_35 ?_
        refine zx_il1 zd87_37 ?_
        first | with_reducible refine zx_addN zd87_38 ?_ | refine zx_add zd87_38 ?_
        refine zx_is3 zd87_39 rfl ?_
        refine zx_al0 zd87_40 ?_
        (refine zx_gfI zd87_41 ?k242 ?_); (case k242 => first | exact zkk rfl (by omega) | exact zkk (zK_B0 (by omega)) (by omega) | exact zkk ((zK_B (by omega) (by decide)).trans rfl) (by omega) | exact zkk (zK_row (by omega) (by omega)) (by omega) | exact zkk (zK_file (by omega) (by omega)) (by omega) | exact zkk (zK_byte (by omega) (by omega)) (by omega) | exact zkk (zK_list (by omega)) (by omega) | assumption)
        rw [show zu I 436 0 (Int32.ofNat 2) 436 0 = Int32.ofNat 2 from rfl]
        first | ((with_reducible refine zx_ifneN zd87_44 ?s243 (fun h4 => ?_) (fun h4 => ?_)); (case s243 => omega)) | refine zx_ifne zd87_44 (fun h4 => ?_) (fun h4 => ?_)
        · refine zx_c zd87_58 ?_
          refine zx_iret zd87_59 (Or.inr ⟨rfl, by first | exact Or.inl rfl | exact Or.inr rfl | assumption⟩) ?_
          exact ⟨rfl, rfl⟩
        · omega
      · omega
    · omega
theorem zm_boF (hR : zRs R) (hN : 459 ≤ N) {n j b : Nat} (hn : I 443 10 = Int32.ofNat n) (hn8 : n ≤ 8) (hj : j < n) (hb : b < 256) (hl : I 445 (80 + j) = Int32.ofNat 64) : zRet L 87 [.ref 436, .int (Int32.ofNat j), .int (Int32.ofNat b)] (N, U, I, J, R) (some (.int (Int32.ofNat 0))) (N, U, zT I 0, J, R) := by
  show zW L 87 0 [some (.ref 436), some (.int (Int32.ofNat j)), some (.int (Int32.ofNat b)), none] [] _ _
  refine zx_al0 zd87_0 ?_
  refine zx_il1 zd87_1 ?_
  first | ((with_reducible refine zx_ifltN zd87_2 ?s248 (fun h => ?_) (fun h => ?_)); (case s248 => omega)) | refine zx_iflt zd87_2 (fun h => ?_) (fun h => ?_)
  · omega
  · refine zx_il1 zd87_5 ?_
    refine zx_al0 zd87_6 ?_
    (refine' zx_gfA zd87_7 ?k251 ?r251 ?_); (case k251 => first | exact zkk rfl (by omega) | exact zkk (zK_B0 (by omega)) (by omega) | exact zkk ((zK_B (by omega) (by decide)).trans rfl) (by omega) | exact zkk (zK_row (by omega) (by omega)) (by omega) | exact zkk (zK_file (by omega) (by omega)) (by omega) | exact zkk (zK_byte (by omega) (by omega)) (by omega) | exact zkk (zK_list (by omega)) (by omega) | assumption); (case r251 => first | exact hR.1 _ _ _ rfl | assumption)
    refine zx_c zd87_10 ?_
    (with_reducible refine' zx_ialdN zd87_12 ?k253 ?j253 ?_); (case k253 => first | exact zkk rfl (by omega) | exact zkk (zK_B0 (by omega)) (by omega) | exact zkk ((zK_B (by omega) (by decide)).trans rfl) (by omega) | exact zkk (zK_row (by omega) (by omega)) (by omega) | exact zkk (zK_file (by omega) (by omega)) (by omega) | exact zkk (zK_byte (by omega) (by omega)) (by omega) | exact zkk (zK_list (by omega)) (by omega) | assumption); (case j253 => omega)
    rw [hn]
    first | ((with_reducible refine zx_icmpltN zd87_13 ?s254 (fun h2 => ?_) (fun h2 => ?_)); (case s254 => omega)) | refine zx_icmplt zd87_13 (fun h2 => ?_) (fun h2 => ?_)
    · refine zx_il2 zd87_20 ?_
      refine zx_cs1I zd87_21 (zm_ib hb) ?_
      first | ((with_reducible refine zx_ifeqN zd87_24 ?s257 (fun h3 => ?_) (fun h3 => ?_)); (case s257 => omega)) | refine zx_ifeq zd87_24 (fun h3 => ?_) (fun h3 => ?_)
      · omega
      · refine zx_c zd87_27 ?_
        refine zx_goto zd87_28 ?_
        (refine zx_pfI zd87_32 ?k260 ?a260 ?_); (case k260 => first | exact zkk rfl (by omega) | exact zkk (zK_B0 (by omega)) (by omega) | exact zkk ((zK_B (by omega) (by decide)).trans rfl) (by omega) | exact zkk (zK_row (by omega) (by omega)) (by omega) | exact zkk (zK_file (by omega) (by omega)) (by omega) | exact zkk (zK_byte (by omega) (by omega)) (by omega) | exact zkk (zK_list (by omega)) (by omega) | assumption); (case a260 => omega)
        refine zx_c zd87_35 ?_
        refine zx_il1 zd87_37 ?_
        first | with_reducible refine zx_addN zd87_38 ?_ | refine zx_add zd87_38 ?_
        refine zx_is3 zd87_39 rfl ?_
        refine zx_al0 zd87_40 ?_
        (refine zx_gfI zd87_41 ?k266 ?_); (case k266 => first | exact zkk rfl (by omega) | exact zkk (zK_B0 (by omega)) (by omega) | exact zkk ((zK_B (by omega) (by decide)).trans rfl) (by omega) | exact zkk (zK_row (by omega) (by omega)) (by omega) | exact zkk (zK_file (by omega) (by omega)) (by omega) | exact zkk (zK_byte (by omega) (by omega)) (by omega) | exact zkk (zK_list (by omega)) (by omega) | assumption)
        rw [show zu I 436 0 (Int32.ofNat 0) 436 0 = Int32.ofNat 0 from rfl]
        first | ((with_reducible refine zx_ifneN zd87_44 ?s267 (fun h4 => ?_) (fun h4 => ?_)); (case s267 => omega)) | refine zx_ifne zd87_44 (fun h4 => ?_) (fun h4 => ?_)
        · omega
        · refine zx_al0 zd87_47 ?_
          (refine' zx_gfA zd87_48 ?k269 ?r269 ?_); (case k269 => first | exact zkk rfl (by omega) | exact zkk (zK_B0 (by omega)) (by omega) | exact zkk ((zK_B (by omega) (by decide)).trans rfl) (by omega) | exact zkk (zK_row (by omega) (by omega)) (by omega) | exact zkk (zK_file (by omega) (by omega)) (by omega) | exact zkk (zK_byte (by omega) (by omega)) (by omega) | exact zkk (zK_list (by omega)) (by omega) | assumption); (case r269 => first | exact hR.1 _ _ _ rfl | assumption)
          refine zx_il3 zd87_51 ?_
          (with_reducible refine' zx_ialdN zd87_52 ?k271 ?j271 ?_); (case k271 => first | exact zkk rfl (by omega) | exact zkk (zK_B0 (by omega)) (by omega) | exact zkk ((zK_B (by omega) (by decide)).trans rfl) (by omega) | exact zkk (zK_row (by omega) (by omega)) (by omega) | exact zkk (zK_file (by omega) (by omega)) (by omega) | exact zkk (zK_byte (by omega) (by omega)) (by omega) | exact zkk (zK_list (by omega)) (by omega) | assumption); (case j271 => omega)
          rw [show zu I 436 0 (Int32.ofNat 0) 445 (80 + j) = I 445 (80 + j) from rfl, hl]
          refine zx_c zd87_53 ?_
          first | ((with_reducible refine zx_icmpneN zd87_55 ?s273 (fun h5 => ?_) (fun h5 => ?_)); (case s273 => omega)) | refine zx_icmpne zd87_55 (fun h5 => ?_) (fun h5 => ?_)
          · omega
          · refine zx_c zd87_58 ?_
            refine zx_iret zd87_59 (Or.inr ⟨rfl, by first | exact Or.inl rfl | exact Or.inr rfl | assumption⟩) ?_
            exact ⟨rfl, rfl⟩
    · omega
theorem zm_bo (hR : zRs R) (hN : 459 ≤ N) {n j b l : Nat} (hn : I 443 10 = Int32.ofNat n) (hn8 : n ≤ 8) (hj : j < n) (hb : b < 256) (hl : I 445 (80 + j) = Int32.ofNat l) (hl6 : l < 64) : zRet L 87 [.ref 436, .int (Int32.ofNat j), .int (Int32.ofNat b)] (N, U, I, J, R) (some (.int (Int32.ofNat 1))) (N, U, zu (zu (zT I 0) 446 (64 * (80 + j) + l) (Int32.ofNat b)) 445 (80 + j) (Int32.ofNat (l + 1)), J, R) := by
  show zW L 87 0 [some (.ref 436), some (.int (Int32.ofNat j)), some (.int (Int32.ofNat b)), none] [] _ _
  refine zx_al0 zd87_0 ?_
  refine zx_il1 zd87_1 ?_
  first | ((with_reducible refine zx_ifltN zd87_2 ?s278 (fun h => ?_) (fun h => ?_)); (case s278 => omega)) | refine zx_iflt zd87_2 (fun h => ?_) (fun h => ?_)
  · omega
  · refine zx_il1 zd87_5 ?_
    refine zx_al0 zd87_6 ?_
    (refine' zx_gfA zd87_7 ?k281 ?r281 ?_); (case k281 => first | exact zkk rfl (by omega) | exact zkk (zK_B0 (by omega)) (by omega) | exact zkk ((zK_B (by omega) (by decide)).trans rfl) (by omega) | exact zkk (zK_row (by omega) (by omega)) (by omega) | exact zkk (zK_file (by omega) (by omega)) (by omega) | exact zkk (zK_byte (by omega) (by omega)) (by omega) | exact zkk (zK_list (by omega)) (by omega) | assumption); (case r281 => first | exact hR.1 _ _ _ rfl | assumption)
    refine zx_c zd87_10 ?_
    (with_reducible refine' zx_ialdN zd87_12 ?k283 ?j283 ?_); (case k283 => first | exact zkk rfl (by omega) | exact zkk (zK_B0 (by omega)) (by omega) | exact zkk ((zK_B (by omega) (by decide)).trans rfl) (by omega) | exact zkk (zK_row (by omega) (by omega)) (by omega) | exact zkk (zK_file (by omega) (by omega)) (by omega) | exact zkk (zK_byte (by omega) (by omega)) (by omega) | exact zkk (zK_list (by omega)) (by omega) | assumption); (case j283 => omega)
    rw [hn]
    first | ((with_reducible refine zx_icmpltN zd87_13 ?s284 (fun h2 => ?_) (fun h2 => ?_)); (case s284 => omega)) | refine zx_icmplt zd87_13 (fun h2 => ?_) (fun h2 => ?_)
    · refine zx_il2 zd87_20 ?_
      refine zx_cs1I zd87_21 (zm_ib hb) ?_
      first | ((with_reducible refine zx_ifeqN zd87_24 ?s287 (fun h3 => ?_) (fun h3 => ?_)); (case s287 => omega)) | refine zx_ifeq zd87_24 (fun h3 => ?_) (fun h3 => ?_)
      · omega
      · refine zx_c zd87_27 ?_
        refine zx_goto zd87_28 ?_
        (refine zx_pfI zd87_32 ?k290 ?a290 ?_); (case k290 => first | exact zkk rfl (by omega) | exact zkk (zK_B0 (by omega)) (by omega) | exact zkk ((zK_B (by omega) (by decide)).trans rfl) (by omega) | exact zkk (zK_row (by omega) (by omega)) (by omega) | exact zkk (zK_file (by omega) (by omega)) (by omega) | exact zkk (zK_byte (by omega) (by omega)) (by omega) | exact zkk (zK_list (by omega)) (by omega) | assumption); (case a290 => omega)
        refine zx_c zd87_35 ?_
        refine zx_il1 zd87_37 ?_
        first | with_reducible refine zx_addN zd87_38 ?_ | refine zx_add zd87_38 ?_
        refine zx_is3 zd87_39 rfl ?_
        refine zx_al0 zd87_40 ?_
        (refine zx_gfI zd87_41 ?k296 ?_); (case k296 => first | exact zkk rfl (by omega) | exact zkk (zK_B0 (by omega)) (by omega) | exact zkk ((zK_B (by omega) (by decide)).trans rfl) (by omega) | exact zkk (zK_row (by omega) (by omega)) (by omega) | exact zkk (zK_file (by omega) (by omega)) (by omega) | exact zkk (zK_byte (by omega) (by omega)) (by omega) | exact zkk (zK_list (by omega)) (by omega) | assumption)
        rw [show zu I 436 0 (Int32.ofNat 0) 436 0 = Int32.ofNat 0 from rfl]
        first | ((with_reducible refine zx_ifneN zd87_44 ?s297 (fun h4 => ?_) (fun h4 => ?_)); (case s297 => omega)) | refine zx_ifne zd87_44 (fun h4 => ?_) (fun h4 => ?_)
        · omega
        · refine zx_al0 zd87_47 ?_
          (refine' zx_gfA zd87_48 ?k299 ?r299 ?_); (case k299 => first | exact zkk rfl (by omega) | exact zkk (zK_B0 (by omega)) (by omega) | exact zkk ((zK_B (by omega) (by decide)).trans rfl) (by omega) | exact zkk (zK_row (by omega) (by omega)) (by omega) | exact zkk (zK_file (by omega) (by omega)) (by omega) | exact zkk (zK_byte (by omega) (by omega)) (by omega) | exact zkk (zK_list (by omega)) (by omega) | assumption); (case r299 => first | exact hR.1 _ _ _ rfl | assumption)
          refine zx_il3 zd87_51 ?_
          (with_reducible refine' zx_ialdN zd87_52 ?k301 ?j301 ?_); (case k301 => first | exact zkk rfl (by omega) | exact zkk (zK_B0 (by omega)) (by omega) | exact zkk ((zK_B (by omega) (by decide)).trans rfl) (by omega) | exact zkk (zK_row (by omega) (by omega)) (by omega) | exact zkk (zK_file (by omega) (by omega)) (by omega) | exact zkk (zK_byte (by omega) (by omega)) (by omega) | exact zkk (zK_list (by omega)) (by omega) | assumption); (case j301 => omega)
          rw [show zu I 436 0 (Int32.ofNat 0) 445 (80 + j) = I 445 (80 + j) from rfl, hl]
          refine zx_c zd87_53 ?_
          first | ((with_reducible refine zx_icmpneN zd87_55 ?s303 (fun h5 => ?_) (fun h5 => ?_)); (case s303 => omega)) | refine zx_icmpne zd87_55 (fun h5 => ?_) (fun h5 => ?_)
          · refine zx_al0 zd87_60 ?_
            (refine' zx_gfA zd87_61 ?k305 ?r305 ?_); (case k305 => first | exact zkk rfl (by omega) | exact zkk (zK_B0 (by omega)) (by omega) | exact zkk ((zK_B (by omega) (by decide)).trans rfl) (by omega) | exact zkk (zK_row (by omega) (by omega)) (by omega) | exact zkk (zK_file (by omega) (by omega)) (by omega) | exact zkk (zK_byte (by omega) (by omega)) (by omega) | exact zkk (zK_list (by omega)) (by omega) | assumption); (case r305 => first | exact hR.1 _ _ _ rfl | assumption)
            refine zx_c zd87_64 ?_
            refine zx_il3 zd87_66 ?_
            first | with_reducible refine zx_mulN zd87_67 ?_ | refine zx_mul zd87_67 ?_
            refine zx_al0 zd87_68 ?_
            (refine' zx_gfA zd87_69 ?k310 ?r310 ?_); (case k310 => first | exact zkk rfl (by omega) | exact zkk (zK_B0 (by omega)) (by omega) | exact zkk ((zK_B (by omega) (by decide)).trans rfl) (by omega) | exact zkk (zK_row (by omega) (by omega)) (by omega) | exact zkk (zK_file (by omega) (by omega)) (by omega) | exact zkk (zK_byte (by omega) (by omega)) (by omega) | exact zkk (zK_list (by omega)) (by omega) | assumption); (case r310 => first | exact hR.1 _ _ _ rfl | assumption)
            refine zx_il3 zd87_72 ?_
            (with_reducible refine' zx_ialdN zd87_73 ?k312 ?j312 ?_); (case k312 => first | exact zkk rfl (by omega) | exact zkk (zK_B0 (by omega)) (by omega) | exact zkk ((zK_B (by omega) (by decide)).trans rfl) (by omega) | exact zkk (zK_row (by omega) (by omega)) (by omega) | exact zkk (zK_file (by omega) (by omega)) (by omega) | exact zkk (zK_byte (by omega) (by omega)) (by omega) | exact zkk (zK_list (by omega)) (by omega) | assumption); (case j312 => omega)
            rw [show zu I 436 0 (Int32.ofNat 0) 445 (80 + j) = I 445 (80 + j) from rfl, hl]
            first | with_reducible refine zx_addN zd87_74 ?_ | refine zx_add zd87_74 ?_
            refine zx_il2 zd87_75 ?_
            (with_reducible refine' zx_iastN zd87_76 ?k315 ?j315 ?a315 ?_); (case k315 => first | exact zkk rfl (by omega) | exact zkk (zK_B0 (by omega)) (by omega) | exact zkk ((zK_B (by omega) (by decide)).trans rfl) (by omega) | exact zkk (zK_row (by omega) (by omega)) (by omega) | exact zkk (zK_file (by omega) (by omega)) (by omega) | exact zkk (zK_byte (by omega) (by omega)) (by omega) | exact zkk (zK_list (by omega)) (by omega) | assumption); (case j315 => omega); (case a315 => omega)
            refine zx_al0 zd87_77 ?_
            (refine' zx_gfA zd87_78 ?k317 ?r317 ?_); (case k317 => first | exact zkk rfl (by omega) | exact zkk (zK_B0 (by omega)) (by omega) | exact zkk ((zK_B (by omega) (by decide)).trans rfl) (by omega) | exact zkk (zK_row (by omega) (by omega)) (by omega) | exact zkk (zK_file (by omega) (by omega)) (by omega) | exact zkk (zK_byte (by omega) (by omega)) (by omega) | exact zkk (zK_list (by omega)) (by omega) | assumption); (case r317 => first | exact hR.1 _ _ _ rfl | assumption)
            refine zx_il3 zd87_81 ?_
            refine zx_dup2 zd87_82 ?_
            (with_reducible refine' zx_ialdN zd87_83 ?k320 ?j320 ?_); (case k320 => first | exact zkk rfl (by omega) | exact zkk (zK_B0 (by omega)) (by omega) | exact zkk ((zK_B (by omega) (by decide)).trans rfl) (by omega) | exact zkk (zK_row (by omega) (by omega)) (by omega) | exact zkk (zK_file (by omega) (by omega)) (by omega) | exact zkk (zK_byte (by omega) (by omega)) (by omega) | exact zkk (zK_list (by omega)) (by omega) | assumption); (case j320 => omega)
            rw [show zu (zu I 436 0 (Int32.ofNat 0)) 446 (64 * (80 + j) + l) (Int32.ofNat b) 445 (80 + j) = I 445 (80 + j) from rfl, hl]
            refine zx_c zd87_84 ?_
            first | with_reducible refine zx_addN zd87_85 ?_ | refine zx_add zd87_85 ?_
            (with_reducible refine' zx_iastN zd87_86 ?k323 ?j323 ?a323 ?_); (case k323 => first | exact zkk rfl (by omega) | exact zkk (zK_B0 (by omega)) (by omega) | exact zkk ((zK_B (by omega) (by decide)).trans rfl) (by omega) | exact zkk (zK_row (by omega) (by omega)) (by omega) | exact zkk (zK_file (by omega) (by omega)) (by omega) | exact zkk (zK_byte (by omega) (by omega)) (by omega) | exact zkk (zK_list (by omega)) (by omega) | assumption); (case j323 => omega); (case a323 => omega)
            refine zx_c zd87_87 ?_
            refine zx_iret zd87_88 (Or.inr ⟨rfl, by first | exact Or.inl rfl | exact Or.inr rfl | assumption⟩) ?_
            exact ⟨rfl, rfl⟩
          · omega
    · omega
end ZM1
