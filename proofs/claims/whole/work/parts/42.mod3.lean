/-! THE REFERENCE: rows of digests -/
/-- what the rows' making leaves -/
def zFg (I I' : zI) : Prop := (∀ b, b ≠ 436 → (b < 438 ∨ 442 < b) → b ≠ 449 → I' b = I b) ∧ ∀ f, f ≠ 2 → f ≠ 15 → I' 436 f = I 436 f
theorem zFg.refl (I : zI) : zFg I I := ⟨fun _ _ _ _ => rfl, fun _ _ _ => rfl⟩
theorem zFg.trans {I I' I'' : zI} (h : zFg I I') (h' : zFg I' I'') : zFg I I'' := ⟨fun b h1 h2 h3 => (h'.1 b h1 h2 h3).trans (h.1 b h1 h2 h3), fun f h1 h2 => (h'.2 f h1 h2).trans (h.2 f h1 h2)⟩
theorem zFd.to {I I' : zI} (h : zFd I I') : zFg I I' := ⟨fun b h1 h2 _ => h.1 b h1 (by omega) (by omega) (by omega) (by omega) (by omega), fun f h1 _ => h.2 f h1⟩
theorem zFg.row {I : zI} (f : Nat → Int32) : zFg I (zrw I 449 f) := ⟨fun b _ _ h => zrw_ne _ _ h, fun q _ _ => by rw [zrw_ne _ _ (by decide)]⟩
/-- the row holds w digests D -/
def zRo (I : zI) (w : Nat) (D : Nat → Nat → Int32) : Prop := ∀ i, i < w → ∀ b, b < 32 → I 449 (32 * i + b) = D i b
section ZM3
variable {L N U : Nat} {I : zI} {J : zJ} {R : zR} {c : Nat} {Q : zOut → zHp → Prop}
theorem zm_lr0 (hR : zRs R) (hN : 459 ≤ N) {r n : Nat} (hr : r < 10) (hn8 : n ≤ 8) (hw : I 436 15 = Int32.ofNat n) : ∀ (k i : Nat), i + k = 32 * n →
    zW L 96 12 [some (.ref 436), some (.int (Int32.ofNat r)), some (.int (Int32.ofNat i))] [] (N, U, zrw I 449 (zfill (I 449) 0 i (fun q => I 447 (256 * r + q))), J, R) (fun o h => o = .inl none ∧ h = (N, U, zrw I 449 (zfill (I 449) 0 (32 * n) (fun q => I 447 (256 * r + q))), J, R)) := by
  intro k
  induction k with
  | zero =>
    intro i hi
    obtain rfl : i = 32 * n := by omega
    refine zx_il2 zd96_12 ?_
    refine zx_c zd96_13 ?_
    refine zx_al0 zd96_15 ?_
    (refine zx_gfI zd96_16 ?k4 ?_); (case k4 => first | exact zkk rfl (by omega) | exact zkk (zK_B0 (by omega)) (by omega) | exact zkk ((zK_B (by omega) (by decide)).trans rfl) (by omega) | exact zkk (zK_row (by omega) (by omega)) (by omega) | exact zkk (zK_file (by omega) (by omega)) (by omega) | exact zkk (zK_byte (by omega) (by omega)) (by omega) | exact zkk (zK_list (by omega)) (by omega) | assumption)
    rw [zrw_ne _ _ (show 436 ≠ 449 by decide), hw]
    first | with_reducible refine zx_mulN zd96_19 ?_ | refine zx_mul zd96_19 ?_
    first | ((with_reducible refine zx_icmpgeN zd96_20 ?s6 (fun h => ?_) (fun h => ?_)); (case s6 => omega)) | refine zx_icmpge zd96_20 (fun h => ?_) (fun h => ?_)
    · refine zx_vret zd96_47 rfl ?_
      exact ⟨rfl, rfl⟩
    · omega
  | succ k ih =>
    intro i hi
    refine zx_il2 zd96_12 ?_
    refine zx_c zd96_13 ?_
    refine zx_al0 zd96_15 ?_
    (refine zx_gfI zd96_16 ?k11 ?_); (case k11 => first | exact zkk rfl (by omega) | exact zkk (zK_B0 (by omega)) (by omega) | exact zkk ((zK_B (by omega) (by decide)).trans rfl) (by omega) | exact zkk (zK_row (by omega) (by omega)) (by omega) | exact zkk (zK_file (by omega) (by omega)) (by omega) | exact zkk (zK_byte (by omega) (by omega)) (by omega) | exact zkk (zK_list (by omega)) (by omega) | assumption)
    rw [zrw_ne _ _ (show 436 ≠ 449 by decide), hw]
    first | with_reducible refine zx_mulN zd96_19 ?_ | refine zx_mul zd96_19 ?_
    first | ((with_reducible refine zx_icmpgeN zd96_20 ?s13 (fun h => ?_) (fun h => ?_)); (case s13 => omega)) | refine zx_icmpge zd96_20 (fun h => ?_) (fun h => ?_)
    · omega
    · refine zx_al0 zd96_23 ?_
      (refine' zx_gfA zd96_24 ?k15 ?r15 ?_); (case k15 => first | exact zkk rfl (by omega) | exact zkk (zK_B0 (by omega)) (by omega) | exact zkk ((zK_B (by omega) (by decide)).trans rfl) (by omega) | exact zkk (zK_row (by omega) (by omega)) (by omega) | exact zkk (zK_file (by omega) (by omega)) (by omega) | exact zkk (zK_byte (by omega) (by omega)) (by omega) | exact zkk (zK_list (by omega)) (by omega) | assumption); (case r15 => first | exact hR.1 _ _ _ rfl | assumption)
      refine zx_il2 zd96_27 ?_
      refine zx_al0 zd96_28 ?_
      (refine' zx_gfA zd96_29 ?k18 ?r18 ?_); (case k18 => first | exact zkk rfl (by omega) | exact zkk (zK_B0 (by omega)) (by omega) | exact zkk ((zK_B (by omega) (by decide)).trans rfl) (by omega) | exact zkk (zK_row (by omega) (by omega)) (by omega) | exact zkk (zK_file (by omega) (by omega)) (by omega) | exact zkk (zK_byte (by omega) (by omega)) (by omega) | exact zkk (zK_list (by omega)) (by omega) | assumption); (case r18 => first | exact hR.1 _ _ _ rfl | assumption)
      refine zx_c zd96_32 ?_
      refine zx_il1 zd96_35 ?_
      first | with_reducible refine zx_mulN zd96_36 ?_ | refine zx_mul zd96_36 ?_
      refine zx_il2 zd96_37 ?_
      first | with_reducible refine zx_addN zd96_38 ?_ | refine zx_add zd96_38 ?_
      (with_reducible refine' zx_ialdN zd96_39 ?k24 ?j24 ?_); (case k24 => first | exact zkk rfl (by omega) | exact zkk (zK_B0 (by omega)) (by omega) | exact zkk ((zK_B (by omega) (by decide)).trans rfl) (by omega) | exact zkk (zK_row (by omega) (by omega)) (by omega) | exact zkk (zK_file (by omega) (by omega)) (by omega) | exact zkk (zK_byte (by omega) (by omega)) (by omega) | exact zkk (zK_list (by omega)) (by omega) | assumption); (case j24 => omega)
      (with_reducible refine' zx_iastN zd96_40 ?k25 ?j25 ?a25 ?_); (case k25 => first | exact zkk rfl (by omega) | exact zkk (zK_B0 (by omega)) (by omega) | exact zkk ((zK_B (by omega) (by decide)).trans rfl) (by omega) | exact zkk (zK_row (by omega) (by omega)) (by omega) | exact zkk (zK_file (by omega) (by omega)) (by omega) | exact zkk (zK_byte (by omega) (by omega)) (by omega) | exact zkk (zK_list (by omega)) (by omega) | assumption); (case j25 => omega); (case a25 => omega)
      first | with_reducible refine zx_iin2 zd96_41 ?_ | refine zx_ii2 zd96_41 ?_
      refine zx_goto zd96_44 ?_
      have e := zfill_succ (I 449) 0 i (fun q => I 447 (256 * r + q))
      rw [Nat.zero_add] at e
      have k := ih (i + 1) (by omega)
      rw [← e] at k
      rw [zu_rw, zrw_rw, zrw_at, zrw_ne _ _ (show 447 ≠ 449 by decide)]
      exact k
theorem zm_lr (hR : zRs R) (hN : 459 ≤ N) {r n : Nat} (hr : r < 10) (hn : I 443 r = Int32.ofNat n) (hn8 : n ≤ 8) : ∃ I', zRet L 96 [.ref 436, .int (Int32.ofNat r)] (N, U, I, J, R) none (N, U, I', J, R) ∧ zRo I' n (fun i b => I 447 (256 * r + (32 * i + b))) ∧ I' 436 15 = Int32.ofNat n ∧ zFg I I' ∧ I' 436 2 = I 436 2 := by
  have w : zRet L 96 [.ref 436, .int (Int32.ofNat r)] (N, U, I, J, R) none (N, U, zrw (zu I 436 15 (Int32.ofNat n)) 449 (zfill (zu I 436 15 (Int32.ofNat n) 449) 0 (32 * n) (fun q => zu I 436 15 (Int32.ofNat n) 447 (256 * r + q))), J, R) := by
    show zW L 96 0 [some (.ref 436), some (.int (Int32.ofNat r)), none] [] _ _
    refine zx_al0 zd96_0 ?_
    refine zx_al0 zd96_1 ?_
    (refine' zx_gfA zd96_2 ?k30 ?r30 ?_); (case k30 => first | exact zkk rfl (by omega) | exact zkk (zK_B0 (by omega)) (by omega) | exact zkk ((zK_B (by omega) (by decide)).trans rfl) (by omega) | exact zkk (zK_row (by omega) (by omega)) (by omega) | exact zkk (zK_file (by omega) (by omega)) (by omega) | exact zkk (zK_byte (by omega) (by omega)) (by omega) | exact zkk (zK_list (by omega)) (by omega) | assumption); (case r30 => first | exact hR.1 _ _ _ rfl | assumption)
    refine zx_il1 zd96_5 ?_
    (with_reducible refine' zx_ialdN zd96_6 ?k32 ?j32 ?_); (case k32 => first | exact zkk rfl (by omega) | exact zkk (zK_B0 (by omega)) (by omega) | exact zkk ((zK_B (by omega) (by decide)).trans rfl) (by omega) | exact zkk (zK_row (by omega) (by omega)) (by omega) | exact zkk (zK_file (by omega) (by omega)) (by omega) | exact zkk (zK_byte (by omega) (by omega)) (by omega) | exact zkk (zK_list (by omega)) (by omega) | assumption); (case j32 => omega)
    rw [hn]
    (refine zx_pfI zd96_7 ?k33 ?a33 ?_); (case k33 => first | exact zkk rfl (by omega) | exact zkk (zK_B0 (by omega)) (by omega) | exact zkk ((zK_B (by omega) (by decide)).trans rfl) (by omega) | exact zkk (zK_row (by omega) (by omega)) (by omega) | exact zkk (zK_file (by omega) (by omega)) (by omega) | exact zkk (zK_byte (by omega) (by omega)) (by omega) | exact zkk (zK_list (by omega)) (by omega) | assumption); (case a33 => omega)
    refine zx_c zd96_10 ?_
    refine zx_is2 zd96_11 rfl ?_
    have k := zm_lr0 (L := L) (U := U) (I := zu I 436 15 (Int32.ofNat n)) (J := J) hR hN hr hn8 rfl (32 * n) 0 (by omega)
    rw [zfill_zero, zrw_id] at k
    exact k
  refine ⟨_, w, fun i hi b hb => ?_, ?_, ⟨fun b h1 h2 h3 => ?_, fun f h1 h2 => ?_⟩, ?_⟩
  · rw [zrw_at, zfill_in0 _ _ _ (by omega)]
    rfl
  · rw [zrw_ne _ _ (by decide)]; rfl
  · rw [zrw_ne _ _ h3, zu_rw, zrw_ne _ _ h1]
  · rw [zrw_ne _ _ (by decide)]
    exact if_neg (fun e => h2 e.2)
  · rw [zrw_ne _ _ (by decide)]; rfl
/-- a digest is laid into the row -/
theorem zm_gu1 (hR : zRs R) (hN : 459 ≤ N) {k j : Nat} (hk : k = 2 * j) (hj : j < 4)
    (kk : ∀ l2 : Option Value, zW L 97 126 [some (.ref 436), some (.int (Int32.ofNat k)), l2] [] (N, U, zrw I 449 (zfill (I 449) (32 * j) 32 (I 442)), J, R) Q) :
    ∀ (q i : Nat), i + q = 32 → zW L 97 97 [some (.ref 436), some (.int (Int32.ofNat k)), some (.int (Int32.ofNat i))] [] (N, U, zrw I 449 (zfill (I 449) (32 * j) i (I 442)), J, R) Q := by
  intro q
  induction q with
  | zero =>
    intro i hi
    obtain rfl : i = 32 := by omega
    refine zx_il2 zd97_97 ?_
    refine zx_c zd97_98 ?_
    first | ((with_reducible refine zx_icmpgeN zd97_100 ?s38 (fun h => ?_) (fun h => ?_)); (case s38 => omega)) | refine zx_icmpge zd97_100 (fun h => ?_) (fun h => ?_)
    · exact kk _
    · omega
  | succ q ih =>
    intro i hi
    refine zx_il2 zd97_97 ?_
    refine zx_c zd97_98 ?_
    first | ((with_reducible refine zx_icmpgeN zd97_100 ?s41 (fun h => ?_) (fun h => ?_)); (case s41 => omega)) | refine zx_icmpge zd97_100 (fun h => ?_) (fun h => ?_)
    · omega
    · refine zx_al0 zd97_103 ?_
      (refine' zx_gfA zd97_104 ?k43 ?r43 ?_); (case k43 => first | exact zkk rfl (by omega) | exact zkk (zK_B0 (by omega)) (by omega) | exact zkk ((zK_B (by omega) (by decide)).trans rfl) (by omega) | exact zkk (zK_row (by omega) (by omega)) (by omega) | exact zkk (zK_file (by omega) (by omega)) (by omega) | exact zkk (zK_byte (by omega) (by omega)) (by omega) | exact zkk (zK_list (by omega)) (by omega) | assumption); (case r43 => first | exact hR.1 _ _ _ rfl | assumption)
      refine zx_c zd97_107 ?_
      refine zx_il1 zd97_109 ?_
      first | with_reducible refine zx_mulN zd97_110 ?_ | refine zx_mul zd97_110 ?_
      refine zx_il2 zd97_111 ?_
      first | with_reducible refine zx_addN zd97_112 ?_ | refine zx_add zd97_112 ?_
      refine zx_al0 zd97_113 ?_
      (refine' zx_gfA zd97_114 ?k50 ?r50 ?_); (case k50 => first | exact zkk rfl (by omega) | exact zkk (zK_B0 (by omega)) (by omega) | exact zkk ((zK_B (by omega) (by decide)).trans rfl) (by omega) | exact zkk (zK_row (by omega) (by omega)) (by omega) | exact zkk (zK_file (by omega) (by omega)) (by omega) | exact zkk (zK_byte (by omega) (by omega)) (by omega) | exact zkk (zK_list (by omega)) (by omega) | assumption); (case r50 => first | exact hR.1 _ _ _ rfl | assumption)
      refine zx_il2 zd97_117 ?_
      (with_reducible refine' zx_ialdN zd97_118 ?k52 ?j52 ?_); (case k52 => first | exact zkk rfl (by omega) | exact zkk (zK_B0 (by omega)) (by omega) | exact zkk ((zK_B (by omega) (by decide)).trans rfl) (by omega) | exact zkk (zK_row (by omega) (by omega)) (by omega) | exact zkk (zK_file (by omega) (by omega)) (by omega) | exact zkk (zK_byte (by omega) (by omega)) (by omega) | exact zkk (zK_list (by omega)) (by omega) | assumption); (case j52 => omega)
      (with_reducible refine' zx_iastN zd97_119 ?k53 ?j53 ?a53 ?_); (case k53 => first | exact zkk rfl (by omega) | exact zkk (zK_B0 (by omega)) (by omega) | exact zkk ((zK_B (by omega) (by decide)).trans rfl) (by omega) | exact zkk (zK_row (by omega) (by omega)) (by omega) | exact zkk (zK_file (by omega) (by omega)) (by omega) | exact zkk (zK_byte (by omega) (by omega)) (by omega) | exact zkk (zK_list (by omega)) (by omega) | assumption); (case j53 => omega); (case a53 => omega)
      first | with_reducible refine zx_iin2 zd97_120 ?_ | refine zx_ii2 zd97_120 ?_
      refine zx_goto zd97_123 ?_
      have e := zfill_succ (I 449) (32 * j) i (I 442)
      have k1 := ih (i + 1) (by omega)
      rw [← e] at k1
      rw [zu_rw, zrw_rw, zrw_at, zrw_ne _ _ (show 442 ≠ 449 by decide), show 16 * k + i = 32 * j + i by omega]
      exact k1
theorem zm_gu2 (hR : zRs R) (hN : 459 ≤ N) {k j : Nat} (hk : k = 2 * j) (hj : 0 < j) (hj4 : j < 4)
    (kk : ∀ l2 : Option Value, zW L 97 56 [some (.ref 436), some (.int (Int32.ofNat k)), l2] [] (N, U, zrw I 449 (zfill (I 449) (32 * j) 32 (fun q => I 449 (64 * j + q))), J, R) Q) :
    ∀ (q i : Nat), i + q = 32 → zW L 97 22 [some (.ref 436), some (.int (Int32.ofNat k)), some (.int (Int32.ofNat i))] [] (N, U, zrw I 449 (zfill (I 449) (32 * j) i (fun q => I 449 (64 * j + q))), J, R) Q := by
  intro q
  induction q with
  | zero =>
    intro i hi
    obtain rfl : i = 32 := by omega
    refine zx_il2 zd97_22 ?_
    refine zx_c zd97_23 ?_
    first | ((with_reducible refine zx_icmpgeN zd97_25 ?s58 (fun h => ?_) (fun h => ?_)); (case s58 => omega)) | refine zx_icmpge zd97_25 (fun h => ?_) (fun h => ?_)
    · exact kk _
    · omega
  | succ q ih =>
    intro i hi
    refine zx_il2 zd97_22 ?_
    refine zx_c zd97_23 ?_
    first | ((with_reducible refine zx_icmpgeN zd97_25 ?s61 (fun h => ?_) (fun h => ?_)); (case s61 => omega)) | refine zx_icmpge zd97_25 (fun h => ?_) (fun h => ?_)
    · omega
    · refine zx_al0 zd97_28 ?_
      (refine' zx_gfA zd97_29 ?k63 ?r63 ?_); (case k63 => first | exact zkk rfl (by omega) | exact zkk (zK_B0 (by omega)) (by omega) | exact zkk ((zK_B (by omega) (by decide)).trans rfl) (by omega) | exact zkk (zK_row (by omega) (by omega)) (by omega) | exact zkk (zK_file (by omega) (by omega)) (by omega) | exact zkk (zK_byte (by omega) (by omega)) (by omega) | exact zkk (zK_list (by omega)) (by omega) | assumption); (case r63 => first | exact hR.1 _ _ _ rfl | assumption)
      refine zx_c zd97_32 ?_
      refine zx_il1 zd97_34 ?_
      first | with_reducible refine zx_mulN zd97_35 ?_ | refine zx_mul zd97_35 ?_
      refine zx_il2 zd97_36 ?_
      first | with_reducible refine zx_addN zd97_37 ?_ | refine zx_add zd97_37 ?_
      refine zx_al0 zd97_38 ?_
      (refine' zx_gfA zd97_39 ?k70 ?r70 ?_); (case k70 => first | exact zkk rfl (by omega) | exact zkk (zK_B0 (by omega)) (by omega) | exact zkk ((zK_B (by omega) (by decide)).trans rfl) (by omega) | exact zkk (zK_row (by omega) (by omega)) (by omega) | exact zkk (zK_file (by omega) (by omega)) (by omega) | exact zkk (zK_byte (by omega) (by omega)) (by omega) | exact zkk (zK_list (by omega)) (by omega) | assumption); (case r70 => first | exact hR.1 _ _ _ rfl | assumption)
      refine zx_c zd97_42 ?_
      refine zx_il1 zd97_44 ?_
      first | with_reducible refine zx_mulN zd97_45 ?_ | refine zx_mul zd97_45 ?_
      refine zx_il2 zd97_46 ?_
      first | with_reducible refine zx_addN zd97_47 ?_ | refine zx_add zd97_47 ?_
      (with_reducible refine' zx_ialdN zd97_48 ?k76 ?j76 ?_); (case k76 => first | exact zkk rfl (by omega) | exact zkk (zK_B0 (by omega)) (by omega) | exact zkk ((zK_B (by omega) (by decide)).trans rfl) (by omega) | exact zkk (zK_row (by omega) (by omega)) (by omega) | exact zkk (zK_file (by omega) (by omega)) (by omega) | exact zkk (zK_byte (by omega) (by omega)) (by omega) | exact zkk (zK_list (by omega)) (by omega) | assumption); (case j76 => omega)
      (with_reducible refine' zx_iastN zd97_49 ?k77 ?j77 ?a77 ?_); (case k77 => first | exact zkk rfl (by omega) | exact zkk (zK_B0 (by omega)) (by omega) | exact zkk ((zK_B (by omega) (by decide)).trans rfl) (by omega) | exact zkk (zK_row (by omega) (by omega)) (by omega) | exact zkk (zK_file (by omega) (by omega)) (by omega) | exact zkk (zK_byte (by omega) (by omega)) (by omega) | exact zkk (zK_list (by omega)) (by omega) | assumption); (case j77 => omega); (case a77 => omega)
      first | with_reducible refine zx_iin2 zd97_50 ?_ | refine zx_ii2 zd97_50 ?_
      refine zx_goto zd97_53 ?_
      have e := zfill_succ (I 449) (32 * j) i (fun q => I 449 (64 * j + q))
      have k1 := ih (i + 1) (by omega)
      rw [← e] at k1
      rw [zu_rw, zrw_rw, zrw_at, zfill_out _ _ _ _ (show ¬ (32 * j ≤ 32 * k + i ∧ 32 * k + i < 32 * j + i) by omega), show 16 * k + i = 32 * j + i by omega, show 32 * k + i = 64 * j + i by omega]
      exact k1
theorem zm_gu0 (hR : zRs R) (hN : 459 ≤ N) {I0 : zI} {w : Nat} {D : Nat → Nat → Int32} (hw : I0 436 15 = Int32.ofNat w) (hw2 : 2 ≤ w) (hw8 : w ≤ 8) (hK : ∀ j, j < 64 → I0 437 j = zKr j) : ∀ (q j : Nat) (I' : zI) (l2 : Option Value), j + q = (w + 1) / 2 → zMg [] I' → zFg I0 I' → I' 436 15 = Int32.ofNat w → (∀ i, i < j → ∀ b, b < 32 → I' 449 (32 * i + b) = zpu w D i b) → (∀ i, 2 * j ≤ i → i < w → ∀ b, b < 32 → I' 449 (32 * i + b) = D i b) →
    zW L 97 2 [some (.ref 436), some (.int (Int32.ofNat (2 * j))), l2] [] (N, U, I', J, R) (fun o h => o = .inl none ∧ ∃ I' : zI, h = (N, U, I', J, R) ∧ zRo I' ((w + 1) / 2) (zpu w D) ∧ I' 436 15 = Int32.ofNat ((w + 1) / 2) ∧ zMg [] I' ∧ zFg I0 I') := by
  intro q
  induction q with
  | zero =>
    intro j I' l2 hj hm hf h15 hlo hhi
    refine zx_il1 zd97_2 ?_
    refine zx_al0 zd97_3 ?_
    (refine zx_gfI zd97_4 ?k82 ?_); (case k82 => first | exact zkk rfl (by omega) | exact zkk (zK_B0 (by omega)) (by omega) | exact zkk ((zK_B (by omega) (by decide)).trans rfl) (by omega) | exact zkk (zK_row (by omega) (by omega)) (by omega) | exact zkk (zK_file (by omega) (by omega)) (by omega) | exact zkk (zK_byte (by omega) (by omega)) (by omega) | exact zkk (zK_list (by omega)) (by omega) | assumption)
    rw [h15]
    first | ((with_reducible refine zx_icmpgeN zd97_7 ?s83 (fun h => ?_) (fun h => ?_)); (case s83 => omega)) | refine zx_icmpge zd97_7 (fun h => ?_) (fun h => ?_)
    · refine zx_al0 zd97_132 ?_
      refine zx_al0 zd97_133 ?_
      (refine zx_gfI zd97_134 ?k86 ?_); (case k86 => first | exact zkk rfl (by omega) | exact zkk (zK_B0 (by omega)) (by omega) | exact zkk ((zK_B (by omega) (by decide)).trans rfl) (by omega) | exact zkk (zK_row (by omega) (by omega)) (by omega) | exact zkk (zK_file (by omega) (by omega)) (by omega) | exact zkk (zK_byte (by omega) (by omega)) (by omega) | exact zkk (zK_list (by omega)) (by omega) | assumption)
      rw [h15]
      refine zx_c zd97_137 ?_
      first | with_reducible refine zx_addN zd97_138 ?_ | refine zx_add zd97_138 ?_
      refine zx_c zd97_139 ?_
      first | ((with_reducible refine zx_divN zd97_140 ?h90 ?_); (case h90 => omega)) | refine zx_div zd97_140 (by decide) ?_
      (refine zx_pfI zd97_141 ?k91 ?a91 ?_); (case k91 => first | exact zkk rfl (by omega) | exact zkk (zK_B0 (by omega)) (by omega) | exact zkk ((zK_B (by omega) (by decide)).trans rfl) (by omega) | exact zkk (zK_row (by omega) (by omega)) (by omega) | exact zkk (zK_file (by omega) (by omega)) (by omega) | exact zkk (zK_byte (by omega) (by omega)) (by omega) | exact zkk (zK_list (by omega)) (by omega) | assumption); (case a91 => omega)
      refine zx_vret zd97_144 rfl ?_
      refine ⟨rfl, _, rfl, fun i hi b hb => ?_, rfl, ⟨hm.1, hm.2⟩, ⟨fun b h1 h2 h3 => ?_, fun f h1 h2 => ?_⟩⟩
      · rw [zu_rw, zrw_ne _ _ (by decide)]; exact hlo i (by omega) b hb
      · rw [zu_rw, zrw_ne _ _ h1]; exact hf.1 b h1 h2 h3
      · refine Eq.trans (if_neg (fun e => h2 e.2)) (hf.2 f h1 h2)
    · omega
  | succ q ih =>
    intro j I' l2 hj hm hf h15 hlo hhi
    refine zx_il1 zd97_2 ?_
    refine zx_al0 zd97_3 ?_
    (refine zx_gfI zd97_4 ?k95 ?_); (case k95 => first | exact zkk rfl (by omega) | exact zkk (zK_B0 (by omega)) (by omega) | exact zkk ((zK_B (by omega) (by decide)).trans rfl) (by omega) | exact zkk (zK_row (by omega) (by omega)) (by omega) | exact zkk (zK_file (by omega) (by omega)) (by omega) | exact zkk (zK_byte (by omega) (by omega)) (by omega) | exact zkk (zK_list (by omega)) (by omega) | assumption)
    rw [h15]
    first | ((with_reducible refine zx_icmpgeN zd97_7 ?s96 (fun h => ?_) (fun h => ?_)); (case s96 => omega)) | refine zx_icmpge zd97_7 (fun h => ?_) (fun h => ?_)
    · omega
    · refine zx_il1 zd97_10 ?_
      refine zx_c zd97_11 ?_
      first | with_reducible refine zx_addN zd97_12 ?_ | refine zx_add zd97_12 ?_
      refine zx_al0 zd97_13 ?_
      (refine zx_gfI zd97_14 ?k101 ?_); (case k101 => first | exact zkk rfl (by omega) | exact zkk (zK_B0 (by omega)) (by omega) | exact zkk ((zK_B (by omega) (by decide)).trans rfl) (by omega) | exact zkk (zK_row (by omega) (by omega)) (by omega) | exact zkk (zK_file (by omega) (by omega)) (by omega) | exact zkk (zK_byte (by omega) (by omega)) (by omega) | exact zkk (zK_list (by omega)) (by omega) | assumption)
      rw [h15]
      first | ((with_reducible refine zx_icmpneN zd97_17 ?s102 (fun h2 => ?_) (fun h2 => ?_)); (case s102 => omega)) | refine zx_icmpne zd97_17 (fun h2 => ?_) (fun h2 => ?_)
      · refine zx_al0 zd97_59 ?_
        refine zx_c zd97_60 ?_
        obtain ⟨I1, hr1, hm1, hf1⟩ := zs_mput2 (L := L) (U := U) (J := J) hR hN hm (by decide) (Int32.ofNat 1)
        (refine zx_cv1V zd97_61 ?k105 (hr1) ?_); (case k105 => first | exact zkk rfl (by omega) | exact zkk (zK_B0 (by omega)) (by omega) | exact zkk ((zK_B (by omega) (by decide)).trans rfl) (by omega) | exact zkk (zK_row (by omega) (by omega)) (by omega) | exact zkk (zK_file (by omega) (by omega)) (by omega) | exact zkk (zK_byte (by omega) (by omega)) (by omega) | exact zkk (zK_list (by omega)) (by omega) | assumption)
        refine zx_al0 zd97_64 ?_
        refine zx_al0 zd97_65 ?_
        (refine' zx_gfA zd97_66 ?k108 ?r108 ?_); (case k108 => first | exact zkk rfl (by omega) | exact zkk (zK_B0 (by omega)) (by omega) | exact zkk ((zK_B (by omega) (by decide)).trans rfl) (by omega) | exact zkk (zK_row (by omega) (by omega)) (by omega) | exact zkk (zK_file (by omega) (by omega)) (by omega) | exact zkk (zK_byte (by omega) (by omega)) (by omega) | exact zkk (zK_list (by omega)) (by omega) | assumption); (case r108 => first | exact hR.1 _ _ _ rfl | assumption)
        refine zx_c zd97_69 ?_
        refine zx_il1 zd97_71 ?_
        first | with_reducible refine zx_mulN zd97_72 ?_ | refine zx_mul zd97_72 ?_
        obtain ⟨I2, hr2, hm2, hf2⟩ := zs_mpd (L := L) (U := U) (J := J) hR hN (a := 449) (n := 256) (p := 32 * (2 * j)) (zkk rfl (by omega)) (by decide) (by decide) (by omega) hm1 (by decide)
        (refine zx_cv2V zd97_73 ?k112 (hr2) ?_); (case k112 => first | exact zkk rfl (by omega) | exact zkk (zK_B0 (by omega)) (by omega) | exact zkk ((zK_B (by omega) (by decide)).trans rfl) (by omega) | exact zkk (zK_row (by omega) (by omega)) (by omega) | exact zkk (zK_file (by omega) (by omega)) (by omega) | exact zkk (zK_byte (by omega) (by omega)) (by omega) | exact zkk (zK_list (by omega)) (by omega) | assumption)
        refine zx_al0 zd97_76 ?_
        refine zx_al0 zd97_77 ?_
        (refine' zx_gfA zd97_78 ?k115 ?r115 ?_); (case k115 => first | exact zkk rfl (by omega) | exact zkk (zK_B0 (by omega)) (by omega) | exact zkk ((zK_B (by omega) (by decide)).trans rfl) (by omega) | exact zkk (zK_row (by omega) (by omega)) (by omega) | exact zkk (zK_file (by omega) (by omega)) (by omega) | exact zkk (zK_byte (by omega) (by omega)) (by omega) | exact zkk (zK_list (by omega)) (by omega) | assumption); (case r115 => first | exact hR.1 _ _ _ rfl | assumption)
        refine zx_c zd97_81 ?_
        refine zx_il1 zd97_83 ?_
        first | with_reducible refine zx_mulN zd97_84 ?_ | refine zx_mul zd97_84 ?_
        refine zx_c zd97_85 ?_
        first | with_reducible refine zx_addN zd97_87 ?_ | refine zx_add zd97_87 ?_
        obtain ⟨I3, hr3, hm3, hf3⟩ := zs_mpd (L := L) (U := U) (J := J) hR hN (a := 449) (n := 256) (p := 32 * (2 * j) + 32) (zkk rfl (by omega)) (by decide) (by decide) (by omega) hm2 (by rw [List.length_append, zrw0_len]; decide)
        (refine zx_cv2V zd97_88 ?k121 (hr3) ?_); (case k121 => first | exact zkk rfl (by omega) | exact zkk (zK_B0 (by omega)) (by omega) | exact zkk ((zK_B (by omega) (by decide)).trans rfl) (by omega) | exact zkk (zK_row (by omega) (by omega)) (by omega) | exact zkk (zK_file (by omega) (by omega)) (by omega) | exact zkk (zK_byte (by omega) (by omega)) (by omega) | exact zkk (zK_list (by omega)) (by omega) | assumption)
        refine zx_al0 zd97_91 ?_
        have hf13 := (hf1.trans hf2).trans hf3
        obtain ⟨I4, hr4, ho4, hm4, hf4⟩ := zs_mdig (L := L) (U := U) (J := J) hR hN (fun i hi => by rw [hf13.1 437 (by decide) (by decide), hf.1 437 (by decide) (by decide) (by decide)]; exact hK i hi) hm3 (by rw [List.length_append, zrw0_len, List.length_append, zrw0_len]; decide)
        (refine zx_cv0V zd97_92 ?k123 (hr4) ?_); (case k123 => first | exact zkk rfl (by omega) | exact zkk (zK_B0 (by omega)) (by omega) | exact zkk ((zK_B (by omega) (by decide)).trans rfl) (by omega) | exact zkk (zK_row (by omega) (by omega)) (by omega) | exact zkk (zK_file (by omega) (by omega)) (by omega) | exact zkk (zK_byte (by omega) (by omega)) (by omega) | exact zkk (zK_list (by omega)) (by omega) | assumption)
        refine zx_c zd97_95 ?_
        refine zx_is2 zd97_96 rfl ?_
        have hf14 : zFg I' I4 := (hf13.to.trans hf4).to
        have e636 : I4 449 = I' 449 := by rw [hf4.1 449 (by decide) (by decide) (by decide) (by decide) (by decide) (by decide), hf13.1 449 (by decide) (by decide)]
        have k1 := fun kk => zm_gu1 (L := L) (U := U) (I := I4) (J := J) (Q := fun o h => o = .inl none ∧ ∃ I' : zI, h = (N, U, I', J, R) ∧ zRo I' ((w + 1) / 2) (zpu w D) ∧ I' 436 15 = Int32.ofNat ((w + 1) / 2) ∧ zMg [] I' ∧ zFg I0 I') hR hN (k := 2 * j) (j := j) rfl (by omega) kk 32 0 rfl
        rw [zfill_zero, zrw_id] at k1
        refine k1 (fun l2 => ?_)
        first | with_reducible refine zx_iin1 zd97_126 ?_ | refine zx_ii1 zd97_126 ?_
        refine zx_goto zd97_129 ?_
        refine ih (j + 1) _ _ (by omega) ⟨by rw [zrw_ne _ _ (by decide)]; exact hm4.1, fun i hi => absurd hi (by simp)⟩ ((hf.trans hf14).trans (zFg.row _)) (by rw [zrw_ne _ _ (by decide), hf4.2 15 (by decide), hf13.2 15 (by decide)]; exact h15) (fun i hi b hb => ?_) (fun i h1 hi b hb => ?_)
        · rw [zrw_at]
          by_cases hij : i = j
          · subst hij
            rw [zfill_in _ _ _ _ hb, ho4, zfill_in0 _ _ _ hb]
            unfold zpu
            rw [if_pos (by omega), hf1.1 449 (by decide) (by decide), (hf1.trans hf2).1 449 (by decide) (by decide)]
            have e1 : zrw0 (I' 449) (32 * (2 * i)) 32 = zrw0 (D (2 * i)) 0 32 := zrw0_congr (fun b hb => by rw [Nat.zero_add]; exact hhi (2 * i) (by omega) (by omega) b hb)
            have e2 : zrw0 (I' 449) (32 * (2 * i) + 32) 32 = zrw0 (D (2 * i + 1)) 0 32 := zrw0_congr (fun b hb => by rw [Nat.zero_add, show 32 * (2 * i) + 32 + b = 32 * (2 * i + 1) + b by omega]; exact hhi (2 * i + 1) (by omega) (by omega) b hb)
            rw [e1, e2]
            rfl
          · rw [zfill_out _ _ _ _ (by omega), e636]
            exact hlo i (by omega) b hb
        · rw [zrw_at, zfill_out _ _ _ _ (by omega), e636]
          exact hhi i (by omega) hi b hb
      · refine zx_c zd97_20 ?_
        refine zx_is2 zd97_21 rfl ?_
        have k1 := fun kk => zm_gu2 (L := L) (U := U) (I := I') (J := J) (Q := fun o h => o = .inl none ∧ ∃ I' : zI, h = (N, U, I', J, R) ∧ zRo I' ((w + 1) / 2) (zpu w D) ∧ I' 436 15 = Int32.ofNat ((w + 1) / 2) ∧ zMg [] I' ∧ zFg I0 I') hR hN (k := 2 * j) (j := j) rfl (by omega) (by omega) kk 32 0 rfl
        rw [zfill_zero, zrw_id] at k1
        refine k1 (fun l2 => ?_)
        refine zx_goto zd97_56 ?_
        first | with_reducible refine zx_iin1 zd97_126 ?_ | refine zx_ii1 zd97_126 ?_
        refine zx_goto zd97_129 ?_
        refine ih (j + 1) _ _ (by omega) ⟨by rw [zrw_ne _ _ (by decide)]; exact hm.1, fun i hi => absurd hi (by simp)⟩ (hf.trans (zFg.row _)) (by rw [zrw_ne _ _ (by decide)]; exact h15) (fun i hi b hb => ?_) (fun i h1 hi b hb => by omega)
        rw [zrw_at]
        by_cases hij : i = j
        · subst hij
          rw [zfill_in _ _ _ _ hb]
          unfold zpu
          rw [if_neg (by omega), show 64 * i + b = 32 * (2 * i) + b by omega]
          exact hhi (2 * i) (by omega) (by omega) b hb
        · rw [zfill_out _ _ _ _ (by omega)]
          exact hlo i (by omega) b hb
theorem zm_gu (hR : zRs R) (hN : 459 ≤ N) {w : Nat} {D : Nat → Nat → Int32} (hw : I 436 15 = Int32.ofNat w) (hw2 : 2 ≤ w) (hw8 : w ≤ 8) (hK : ∀ j, j < 64 → I 437 j = zKr j) (hm : zMg [] I) (hD : zRo I w D) :
    ∃ I', zRet L 97 [.ref 436] (N, U, I, J, R) none (N, U, I', J, R) ∧ zRo I' ((w + 1) / 2) (zpu w D) ∧ I' 436 15 = Int32.ofNat ((w + 1) / 2) ∧ zMg [] I' ∧ zFg I I' := by
  have w0 : zW L 97 0 (zent 97 [.ref 436]) [] (N, U, I, J, R) (fun o h => o = .inl none ∧ ∃ I' : zI, h = (N, U, I', J, R) ∧ zRo I' ((w + 1) / 2) (zpu w D) ∧ I' 436 15 = Int32.ofNat ((w + 1) / 2) ∧ zMg [] I' ∧ zFg I I') := by
    show zW L 97 0 [some (.ref 436), none, none] [] _ _
    refine zx_c zd97_0 ?_
    refine zx_is1 zd97_1 rfl ?_
    exact zm_gu0 hR hN hw hw2 hw8 hK ((w + 1) / 2) 0 I _ (by omega) hm (zFg.refl I) hw (fun i hi => by omega) (fun i _ hi b hb => hD i hi b hb)
  obtain ⟨k, hr, I', rfl, hd⟩ := zRet_of w0
  exact ⟨I', hr, hd⟩
end ZM3
