/-! THE CLASS: a tree grows -/
/-- a leaf's message; a pair's; a row above -/
def zlm (nm l : Nat) (f : Nat → Int32) (p : Nat) : List Int32 := [Int32.ofNat 0] ++ [Int32.ofNat (nm / 256)] ++ [Int32.ofNat (nm % 256)] ++ zrw0 f p l
def zpm (f g : Nat → Int32) : List Int32 := [Int32.ofNat 1] ++ zrw0 f 0 32 ++ zrw0 g 0 32
def zpu (w : Nat) (D : Nat → Nat → Int32) : Nat → Nat → Int32 := fun i => if 2 * i + 1 < w then zsha (zpm (D (2 * i)) (D (2 * i + 1))) else D (2 * i)
def zlev (n : Nat) (D : Nat → Nat → Int32) : Nat → Nat → Nat → Int32
  | 0 => D
  | k + 1 => zpu (zwid n k) (zlev n D k)
/-- rows of the tree of release r, row k, w places, hold D -/
def zTr (I : zI) (r k w : Nat) (D : Nat → Nat → Int32) : Prop := ∀ i, i < w → ∀ b, b < 32 → I (8 + 37 * r + 4 + (zq k + i)) b = D i b
def zB32 (D : Nat → Nat → Int32) (w : Nat) : Prop := ∀ i, i < w → ∀ b, b < 32 → zb8 (D i b)
theorem zpu_b8 {w : Nat} {D : Nat → Nat → Int32} (h : zB32 D w) : zB32 (zpu w D) ((w + 1) / 2) := by
  intro i hi b hb
  unfold zpu
  split
  · exact zb8_sha _ _
  · exact h (2 * i) (by omega) b hb
theorem zlev_b8 {n : Nat} {D : Nat → Nat → Int32} (h : zB32 D n) : ∀ k, zB32 (zlev n D k) (zwid n k)
  | 0 => h
  | k + 1 => zpu_b8 (zlev_b8 h k)
/-- only the digester and the tree of release r have changed -/
def zFt (r : Nat) (I I' : zI) : Prop := ∀ b, b ≠ 4 → b ≠ 5 → b ≠ 6 → (b < 8 + 37 * r + 2 ∨ 8 + 37 * r + 19 < b) → I' b = I b
theorem zFt.trans {r : Nat} {I I' I'' : zI} (h : zFt r I I') (h' : zFt r I' I'') : zFt r I I'' := fun b h4 h5 h6 hb => (h' b h4 h5 h6 hb).trans (h b h4 h5 h6 hb)
theorem zFt.refl (r : Nat) (I : zI) : zFt r I I := fun _ _ _ _ _ => rfl
theorem zFt.cs {r : Nat} {I I' : zI} (h : zFt r I I') (hC : zCs I) : zCs I' := by
  refine ⟨fun j hj => ?_, fun j hj => ?_⟩
  · rw [h 1 (by decide) (by decide) (by decide) (by omega)]; exact hC.1 j hj
  · rw [h 2 (by decide) (by decide) (by decide) (by omega)]; exact hC.2 j hj
section ZC8
variable {L N U : Nat} {I : zI} {J : zJ} {R : zR} {c : Nat} {Q : zOut → zHp → Prop}
theorem zc_di (hR : zRs R) (hN : 459 ≤ N) (hC : zCs I) {r o a nm l : Nat} (hr : r < 11) (ho : o < 8) (ha : zk L (N, U, I, J, R) a = some (.inl (.int, 32))) (ha6 : 6 < a) (hane : a ≠ 8 + 37 * r + 21 + 2 * o ∧ a ≠ 8 + 37 * r + 22 + 2 * o) (hnm : I (8 + 37 * r + 21 + 2 * o) 0 = Int32.ofNat nm) (hnm6 : nm < 65536) (hl : I (8 + 37 * r + 21 + 2 * o) 2 = Int32.ofNat l) (hl6 : l ≤ 64) (h8 : ∀ i, i < l → zb8 (I (8 + 37 * r + 22 + 2 * o) i)) :
    ∃ I', zRet L 19 [.ref (8 + 37 * r + 21 + 2 * o), .ref 4, .ref a] (N, U, I, J, R) none (N, U, I', J, R) ∧ I' a = zfill (I a) 0 32 (zsha (zlm nm l (I (8 + 37 * r + 22 + 2 * o)) 0)) ∧ zF4 a I I' := by
  have r0 : R 4 0 = some 5 := hR.1 _ _ _ rfl
  have r1 : R 4 1 = some 6 := hR.1 _ _ _ rfl
  have w : zW L 19 0 (zent 19 [.ref (8 + 37 * r + 21 + 2 * o), .ref 4, .ref a]) [] (N, U, I, J, R) (fun oo k => oo = .inl none ∧ ∃ I' : zI, k = (N, U, I', J, R) ∧ I' a = zfill (I a) 0 32 (zsha (zlm nm l (I (8 + 37 * r + 22 + 2 * o)) 0)) ∧ zF4 a I I') := by
    show zW L 19 0 [some (.ref (8 + 37 * r + 21 + 2 * o)), some (.ref 4), some (.ref a)] [] _ _
    refine zx_al1 zd19_0 ?_
    obtain ⟨I1, hr1, hd1, hf1⟩ := zs_begin (L := L) (U := U) (J := J) r0 (show 6 < N by omega) hC
    (refine zx_cv0V zd19_1 ?k2 (hr1) ?_); (case k2 => first | exact zkk rfl (by omega) | exact zkk (zK_B0 (by omega)) (by omega) | exact zkk ((zK_B (by omega) (by decide)).trans rfl) (by omega) | exact zkk (zK_row (by omega) (by omega)) (by omega) | exact zkk (zK_file (by omega) (by omega)) (by omega) | exact zkk (zK_byte (by omega) (by omega)) (by omega) | exact zkk (zK_list (by omega)) (by omega) | assumption)
    refine zx_al1 zd19_4 ?_
    refine zx_c zd19_5 ?_
    have hC1 := hf1.cs hC
    obtain ⟨I2, hr2, hd2, hf2⟩ := zs_put (L := L) (U := U) (J := J) r0 r1 (show 6 < N by omega) hC1 hd1 (by decide) (Int32.ofNat 0)
    (refine zx_cv1V zd19_6 ?k5 (hr2) ?_); (case k5 => first | exact zkk rfl (by omega) | exact zkk (zK_B0 (by omega)) (by omega) | exact zkk ((zK_B (by omega) (by decide)).trans rfl) (by omega) | exact zkk (zK_row (by omega) (by omega)) (by omega) | exact zkk (zK_file (by omega) (by omega)) (by omega) | exact zkk (zK_byte (by omega) (by omega)) (by omega) | exact zkk (zK_list (by omega)) (by omega) | assumption)
    have hC2 := hf2.cs hC1
    have hf12 := hf1.trans hf2
    refine zx_al1 zd19_9 ?_
    refine zx_al0 zd19_10 ?_
    (refine zx_gfI zd19_11 ?k8 ?_); (case k8 => first | exact zkk rfl (by omega) | exact zkk (zK_B0 (by omega)) (by omega) | exact zkk ((zK_B (by omega) (by decide)).trans rfl) (by omega) | exact zkk (zK_row (by omega) (by omega)) (by omega) | exact zkk (zK_file (by omega) (by omega)) (by omega) | exact zkk (zK_byte (by omega) (by omega)) (by omega) | exact zkk (zK_list (by omega)) (by omega) | assumption)
    rw [hf12 _ (by omega) (by omega) (by omega), hnm]
    refine zx_c zd19_14 ?_
    first | ((with_reducible refine zx_divN zd19_17 ?h10 ?_); (case h10 => omega)) | refine zx_div zd19_17 (by decide) ?_
    obtain ⟨I3, hr3, hd3, hf3⟩ := zs_put (L := L) (U := U) (J := J) r0 r1 (show 6 < N by omega) hC2 hd2 (by decide) (Int32.ofNat (nm / 256))
    (refine zx_cv1V zd19_18 ?k11 (hr3) ?_); (case k11 => first | exact zkk rfl (by omega) | exact zkk (zK_B0 (by omega)) (by omega) | exact zkk ((zK_B (by omega) (by decide)).trans rfl) (by omega) | exact zkk (zK_row (by omega) (by omega)) (by omega) | exact zkk (zK_file (by omega) (by omega)) (by omega) | exact zkk (zK_byte (by omega) (by omega)) (by omega) | exact zkk (zK_list (by omega)) (by omega) | assumption)
    have hC3 := hf3.cs hC2
    have hf123 := hf12.trans hf3
    refine zx_al1 zd19_21 ?_
    refine zx_al0 zd19_22 ?_
    (refine zx_gfI zd19_23 ?k14 ?_); (case k14 => first | exact zkk rfl (by omega) | exact zkk (zK_B0 (by omega)) (by omega) | exact zkk ((zK_B (by omega) (by decide)).trans rfl) (by omega) | exact zkk (zK_row (by omega) (by omega)) (by omega) | exact zkk (zK_file (by omega) (by omega)) (by omega) | exact zkk (zK_byte (by omega) (by omega)) (by omega) | exact zkk (zK_list (by omega)) (by omega) | assumption)
    rw [hf123 _ (by omega) (by omega) (by omega), hnm]
    refine zx_c zd19_26 ?_
    first | ((with_reducible refine zx_remN zd19_29 ?h16 ?_); (case h16 => omega)) | refine zx_rem zd19_29 (by decide) ?_
    obtain ⟨I4, hr4, hd4, hf4⟩ := zs_put (L := L) (U := U) (J := J) r0 r1 (show 6 < N by omega) hC3 hd3 (by show 0 + 1 + 1 < _; decide) (Int32.ofNat (nm % 256))
    (refine zx_cv1V zd19_30 ?k17 (hr4) ?_); (case k17 => first | exact zkk rfl (by omega) | exact zkk (zK_B0 (by omega)) (by omega) | exact zkk ((zK_B (by omega) (by decide)).trans rfl) (by omega) | exact zkk (zK_row (by omega) (by omega)) (by omega) | exact zkk (zK_file (by omega) (by omega)) (by omega) | exact zkk (zK_byte (by omega) (by omega)) (by omega) | exact zkk (zK_list (by omega)) (by omega) | assumption)
    have hC4 := hf4.cs hC3
    have hf14 := hf123.trans hf4
    refine zx_al1 zd19_33 ?_
    refine zx_al0 zd19_34 ?_
    (refine' zx_gfA zd19_35 ?k20 ?r20 ?_); (case k20 => first | exact zkk rfl (by omega) | exact zkk (zK_B0 (by omega)) (by omega) | exact zkk ((zK_B (by omega) (by decide)).trans rfl) (by omega) | exact zkk (zK_row (by omega) (by omega)) (by omega) | exact zkk (zK_file (by omega) (by omega)) (by omega) | exact zkk (zK_byte (by omega) (by omega)) (by omega) | exact zkk (zK_list (by omega)) (by omega) | assumption); (case r20 => first | exact hR.1 _ _ _ rfl | exact hR.2.1 _ (by omega) | exact (hR.2.2.2 _ (by omega)).1.1 | exact (hR.2.2.2 _ (by omega)).1.2.1 | exact (hR.2.2.2 _ (by omega)).1.2.2 | exact (hR.2.2.2 _ (by omega)).2.1.1 | exact (hR.2.2.2 _ (by omega)).2.1.2 | exact (hR.2.2.2 _ (by omega)).2.2.1 _ (by omega) | exact (hR.2.2.2 _ (by omega)).2.2.2 _ (by omega) | exact hR.2.2.1 _ (by omega) | assumption | exact (hF _ (by omega)).1)
    refine zx_c zd19_38 ?_
    refine zx_al0 zd19_39 ?_
    (refine zx_gfI zd19_40 ?k23 ?_); (case k23 => first | exact zkk rfl (by omega) | exact zkk (zK_B0 (by omega)) (by omega) | exact zkk ((zK_B (by omega) (by decide)).trans rfl) (by omega) | exact zkk (zK_row (by omega) (by omega)) (by omega) | exact zkk (zK_file (by omega) (by omega)) (by omega) | exact zkk (zK_byte (by omega) (by omega)) (by omega) | exact zkk (zK_list (by omega)) (by omega) | assumption)
    rw [hf14 _ (by omega) (by omega) (by omega), hl]
    obtain ⟨I5, hr5, hd5, hf5⟩ := zs_putPart (L := L) (U := U) (J := J) r0 r1 (show 6 < N by omega) (a := 8 + 37 * r + 22 + 2 * o) (n := 64) (p := 0) (c := l) (zkk (zK_byte hr ho) (by omega)) (by omega) (by decide) (by omega) hC4 hd4 (by show 0 + 1 + 1 + 1 + l < _; omega)
    (refine zx_cv3V zd19_43 ?k24 (hr5) ?_); (case k24 => first | exact zkk rfl (by omega) | exact zkk (zK_B0 (by omega)) (by omega) | exact zkk ((zK_B (by omega) (by decide)).trans rfl) (by omega) | exact zkk (zK_row (by omega) (by omega)) (by omega) | exact zkk (zK_file (by omega) (by omega)) (by omega) | exact zkk (zK_byte (by omega) (by omega)) (by omega) | exact zkk (zK_list (by omega)) (by omega) | assumption)
    have hC5 := hf5.cs hC4
    refine zx_al1 zd19_46 ?_
    refine zx_al2 zd19_47 ?_
    have hF5 := hf14.trans hf5
    obtain ⟨I6, hr6, hd6, hf6⟩ := zs_finish (L := L) (U := U) (J := J) r0 r1 (show 6 < N by omega) (a := a) (show zk L (N, U, I5, J, R) a = _ from ha) ha6 hC5 hd5 (by rw [List.length_append, zrow_len]; show 0 + 1 + 1 + 1 + l < _; omega)
    (refine zx_cv1V zd19_48 ?k27 (hr6) ?_); (case k27 => first | exact zkk rfl (by omega) | exact zkk (zK_B0 (by omega)) (by omega) | exact zkk ((zK_B (by omega) (by decide)).trans rfl) (by omega) | exact zkk (zK_row (by omega) (by omega)) (by omega) | exact zkk (zK_file (by omega) (by omega)) (by omega) | exact zkk (zK_byte (by omega) (by omega)) (by omega) | exact zkk (zK_list (by omega)) (by omega) | assumption)
    refine zx_vret zd19_51 rfl ?_
    refine ⟨rfl, I6, rfl, ?_, (hF5.to4).trans hf6⟩
    have m0 : Int32.ofNat 0 &&& Int32.ofNat 255 = Int32.ofNat 0 := zb8_n (by decide)
    have m1 : Int32.ofNat (nm / 256) &&& Int32.ofNat 255 = Int32.ofNat (nm / 256) := zb8_n (by omega)
    have m2 : Int32.ofNat (nm % 256) &&& Int32.ofNat 255 = Int32.ofNat (nm % 256) := zb8_n (by omega)
    rw [hd6, hF5 a (by omega) (by omega) (by omega), hf14 (8 + 37 * r + 22 + 2 * o) (by omega) (by omega) (by omega), zrow_eq (fun i hi => by rw [Nat.zero_add]; exact h8 i hi), m0, m1, m2]
    rfl
  obtain ⟨k, hr, I', rfl, hd, hf⟩ := zRet_of w
  exact ⟨I', hr, hd, hf⟩
theorem zpm_congr {f f' g g' : Nat → Int32} (h1 : ∀ b, b < 32 → f b = f' b) (h2 : ∀ b, b < 32 → g b = g' b) : zpm f g = zpm f' g' := by
  unfold zpm
  rw [zrw0_congr (f := f) (g := f') (p := 0) (q := 0) (fun i hi => by rw [Nat.zero_add]; exact h1 i hi), zrw0_congr (f := g) (g := g') (p := 0) (q := 0) (fun i hi => by rw [Nat.zero_add]; exact h2 i hi)]
/-- the pairs of a row -/
theorem zc_pu0 (hR : zRs R) (hN : 459 ≤ N) {I0 : zI} {r k w : Nat} {D : Nat → Nat → Int32} (hr : r < 11) (hk : k < 3) (hw8 : w ≤ zcp k) (hT : zTr I0 r k w D) (h8 : zB32 D w)
    (kk : ∀ I' : zI, zCs I' → (∀ i, i < w / 2 → ∀ b, b < 32 → I' (8 + 37 * r + 4 + (zq (k + 1) + i)) b = zpu w D i b) → (∀ b, b ≠ 4 → b ≠ 5 → b ≠ 6 → (b < 8 + 37 * r + 4 + zq (k + 1) ∨ 8 + 37 * r + 4 + zq (k + 1) + zcp (k + 1) ≤ b) → I' b = I0 b) → zW L 21 78 [some (.ref (8 + 37 * r + 2)), some (.int (Int32.ofNat k)), some (.ref 4), some (.int (Int32.ofNat w)), some (.int (Int32.ofNat (w / 2))), some (.int (Int32.ofNat (w / 2)))] [] (N, U, I', J, R) Q) :
    ∀ (q i : Nat) (I' : zI), i + q = w / 2 → zCs I' → (∀ j, j < i → ∀ b, b < 32 → I' (8 + 37 * r + 4 + (zq (k + 1) + j)) b = zpu w D j b) → (∀ b, b ≠ 4 → b ≠ 5 → b ≠ 6 → (b < 8 + 37 * r + 4 + zq (k + 1) ∨ 8 + 37 * r + 4 + zq (k + 1) + zcp (k + 1) ≤ b) → I' b = I0 b) →
    zW L 21 15 [some (.ref (8 + 37 * r + 2)), some (.int (Int32.ofNat k)), some (.ref 4), some (.int (Int32.ofNat w)), some (.int (Int32.ofNat (w / 2))), some (.int (Int32.ofNat i))] [] (N, U, I', J, R) Q := by
  have r0 : R 4 0 = some 5 := hR.1 _ _ _ rfl
  have r1 : R 4 1 = some 6 := hR.1 _ _ _ rfl
  have q1 := zq_s hk
  have q2 := zq_f (show k + 1 < 4 by omega)
  intro q
  induction q with
  | zero =>
    intro i I' hi hC hm hf
    obtain rfl : i = w / 2 := by omega
    refine zx_il5 zd21_15 ?_
    refine zx_il4 zd21_17 ?_
    first | ((with_reducible refine zx_icmpgeN zd21_19 ?s31 (fun h => ?_) (fun h => ?_)); (case s31 => omega)) | refine zx_icmpge zd21_19 (fun h => ?_) (fun h => ?_)
    · exact kk I' hC hm hf
    · omega
  | succ q ih =>
    intro i I' hi hC hm hf
    refine zx_il5 zd21_15 ?_
    refine zx_il4 zd21_17 ?_
    first | ((with_reducible refine zx_icmpgeN zd21_19 ?s34 (fun h => ?_) (fun h => ?_)); (case s34 => omega)) | refine zx_icmpge zd21_19 (fun h => ?_) (fun h => ?_)
    · omega
    · have hrow : ∀ j, j < w → ∀ b, b < 32 → I' (8 + 37 * r + 4 + (zq k + j)) b = D j b := fun j hj b hb => by
        rw [hf _ (by omega) (by omega) (by omega) (by omega)]; exact hT j hj b hb
      refine zx_al2 zd21_22 ?_
      obtain ⟨I1, hr1, hd1, hf1⟩ := zs_begin (L := L) (U := U) (J := J) r0 (show 6 < N by omega) hC
      (refine zx_cv0V zd21_23 ?k36 (hr1) ?_); (case k36 => first | exact zkk rfl (by omega) | exact zkk (zK_B0 (by omega)) (by omega) | exact zkk ((zK_B (by omega) (by decide)).trans rfl) (by omega) | exact zkk (zK_row (by omega) (by omega)) (by omega) | exact zkk (zK_file (by omega) (by omega)) (by omega) | exact zkk (zK_byte (by omega) (by omega)) (by omega) | exact zkk (zK_list (by omega)) (by omega) | assumption)
      refine zx_al2 zd21_26 ?_
      refine zx_c zd21_27 ?_
      have hC1 := hf1.cs hC
      obtain ⟨I2, hr2, hd2, hf2⟩ := zs_put (L := L) (U := U) (J := J) r0 r1 (show 6 < N by omega) hC1 hd1 (by decide) (Int32.ofNat 1)
      (refine zx_cv1V zd21_28 ?k39 (hr2) ?_); (case k39 => first | exact zkk rfl (by omega) | exact zkk (zK_B0 (by omega)) (by omega) | exact zkk ((zK_B (by omega) (by decide)).trans rfl) (by omega) | exact zkk (zK_row (by omega) (by omega)) (by omega) | exact zkk (zK_file (by omega) (by omega)) (by omega) | exact zkk (zK_byte (by omega) (by omega)) (by omega) | exact zkk (zK_list (by omega)) (by omega) | assumption)
      have hC2 := hf2.cs hC1
      have hf12 := hf1.trans hf2
      refine zx_al2 zd21_31 ?_
      refine zx_al0 zd21_32 ?_
      refine zx_il1 zd21_33 ?_
      refine zx_c zd21_34 ?_
      refine zx_il5 zd21_35 ?_
      first | with_reducible refine zx_mulN zd21_37 ?_ | refine zx_mul zd21_37 ?_
      (refine zx_cv2R zd21_38 ?k46 (zc_node hR hN hr (by omega) (by omega)) ?_); (case k46 => first | exact zkk rfl (by omega) | exact zkk (zK_B0 (by omega)) (by omega) | exact zkk ((zK_B (by omega) (by decide)).trans rfl) (by omega) | exact zkk (zK_row (by omega) (by omega)) (by omega) | exact zkk (zK_file (by omega) (by omega)) (by omega) | exact zkk (zK_byte (by omega) (by omega)) (by omega) | exact zkk (zK_list (by omega)) (by omega) | assumption)
      obtain ⟨I3, hr3, hd3, hf3⟩ := zs_putAll (L := L) (U := U) (J := J) r0 r1 (show 6 < N by omega) (a := 8 + 37 * r + 4 + (zq k + 2 * i)) (n := 32) (zkk (zK_row hr (by omega)) (by omega)) (by omega) (by decide) hC2 hd2 (by decide)
      (refine zx_cv1V zd21_41 ?k47 (hr3) ?_); (case k47 => first | exact zkk rfl (by omega) | exact zkk (zK_B0 (by omega)) (by omega) | exact zkk ((zK_B (by omega) (by decide)).trans rfl) (by omega) | exact zkk (zK_row (by omega) (by omega)) (by omega) | exact zkk (zK_file (by omega) (by omega)) (by omega) | exact zkk (zK_byte (by omega) (by omega)) (by omega) | exact zkk (zK_list (by omega)) (by omega) | assumption)
      have hC3 := hf3.cs hC2
      have hf13 := hf12.trans hf3
      refine zx_al2 zd21_44 ?_
      refine zx_al0 zd21_45 ?_
      refine zx_il1 zd21_46 ?_
      refine zx_c zd21_47 ?_
      refine zx_il5 zd21_48 ?_
      first | with_reducible refine zx_mulN zd21_50 ?_ | refine zx_mul zd21_50 ?_
      refine zx_c zd21_51 ?_
      first | with_reducible refine zx_addN zd21_52 ?_ | refine zx_add zd21_52 ?_
      (refine zx_cv2R zd21_53 ?k56 (zc_node hR hN hr (by omega) (by omega)) ?_); (case k56 => first | exact zkk rfl (by omega) | exact zkk (zK_B0 (by omega)) (by omega) | exact zkk ((zK_B (by omega) (by decide)).trans rfl) (by omega) | exact zkk (zK_row (by omega) (by omega)) (by omega) | exact zkk (zK_file (by omega) (by omega)) (by omega) | exact zkk (zK_byte (by omega) (by omega)) (by omega) | exact zkk (zK_list (by omega)) (by omega) | assumption)
      obtain ⟨I4, hr4, hd4, hf4⟩ := zs_putAll (L := L) (U := U) (J := J) r0 r1 (show 6 < N by omega) (a := 8 + 37 * r + 4 + (zq k + (2 * i + 1))) (n := 32) (zkk (zK_row hr (by omega)) (by omega)) (by omega) (by decide) hC3 hd3 (by rw [List.length_append, zrow_len]; decide)
      (refine zx_cv1V zd21_56 ?k57 (hr4) ?_); (case k57 => first | exact zkk rfl (by omega) | exact zkk (zK_B0 (by omega)) (by omega) | exact zkk ((zK_B (by omega) (by decide)).trans rfl) (by omega) | exact zkk (zK_row (by omega) (by omega)) (by omega) | exact zkk (zK_file (by omega) (by omega)) (by omega) | exact zkk (zK_byte (by omega) (by omega)) (by omega) | exact zkk (zK_list (by omega)) (by omega) | assumption)
      have hC4 := hf4.cs hC3
      have hf14 := hf13.trans hf4
      refine zx_al2 zd21_59 ?_
      refine zx_al0 zd21_60 ?_
      refine zx_il1 zd21_61 ?_
      refine zx_c zd21_62 ?_
      first | with_reducible refine zx_addN zd21_63 ?_ | refine zx_add zd21_63 ?_
      refine zx_il5 zd21_64 ?_
      (refine zx_cv2R zd21_66 ?k64 (zc_node hR hN hr (by omega) (by omega)) ?_); (case k64 => first | exact zkk rfl (by omega) | exact zkk (zK_B0 (by omega)) (by omega) | exact zkk ((zK_B (by omega) (by decide)).trans rfl) (by omega) | exact zkk (zK_row (by omega) (by omega)) (by omega) | exact zkk (zK_file (by omega) (by omega)) (by omega) | exact zkk (zK_byte (by omega) (by omega)) (by omega) | exact zkk (zK_list (by omega)) (by omega) | assumption)
      obtain ⟨I5, hr5, hd5, hf5⟩ := zs_finish (L := L) (U := U) (J := J) r0 r1 (show 6 < N by omega) (a := 8 + 37 * r + 4 + (zq (k + 1) + i)) (zkk (zK_row hr (by omega)) (by omega)) (by omega) hC4 hd4 (by rw [List.length_append, zrow_len, List.length_append, zrow_len]; decide)
      (refine zx_cv1V zd21_69 ?k65 (hr5) ?_); (case k65 => first | exact zkk rfl (by omega) | exact zkk (zK_B0 (by omega)) (by omega) | exact zkk ((zK_B (by omega) (by decide)).trans rfl) (by omega) | exact zkk (zK_row (by omega) (by omega)) (by omega) | exact zkk (zK_file (by omega) (by omega)) (by omega) | exact zkk (zK_byte (by omega) (by omega)) (by omega) | exact zkk (zK_list (by omega)) (by omega) | assumption)
      first | with_reducible refine zx_iin5 zd21_72 ?_ | refine zx_ii5 zd21_72 ?_
      refine zx_goto zd21_75 ?_
      have hF5 : zF4 (8 + 37 * r + 4 + (zq (k + 1) + i)) I' I5 := (hf14.to4).trans hf5
      refine ih (i + 1) I5 (by omega) (hF5.cs (by omega) hC) (fun j hj b hb => ?_) (fun b g4 g5 g6 hb => by rw [hF5 b g4 g5 g6 (by omega)]; exact hf b g4 g5 g6 hb)
      by_cases hji : j = i
      · subst hji
        rw [hd5, zfill_in0 _ _ _ hb]
        unfold zpu
        rw [if_pos (by omega), hf12 _ (by omega) (by omega) (by omega), hf13 _ (by omega) (by omega) (by omega)]
        rw [zrow_eq (f := I' (8 + 37 * r + 4 + (zq k + 2 * j))) (fun i hi => by rw [Nat.zero_add, hrow _ (by omega) _ hi]; exact h8 _ (by omega) _ hi)]
        rw [zrow_eq (f := I' (8 + 37 * r + 4 + (zq k + (2 * j + 1)))) (fun i hi => by rw [Nat.zero_add, hrow _ (by omega) _ hi]; exact h8 _ (by omega) _ hi)]
        rw [← zpm_congr (hrow (2 * j) (by omega)) (hrow (2 * j + 1) (by omega))]
        rfl
      · rw [hF5 _ (by omega) (by omega) (by omega) (by omega)]
        exact hm j (by omega) b hb
theorem zc_pu (hR : zRs R) (hN : 459 ≤ N) (hC : zCs I) {r k w : Nat} {D : Nat → Nat → Int32} (hr : r < 11) (hk : k < 3) (hw8 : w ≤ zcp k) (hw : I (8 + 37 * r + 19) k = Int32.ofNat w) (hT : zTr I r k w D) (h8 : zB32 D w) :
    ∃ I', zRet L 21 [.ref (8 + 37 * r + 2), .int (Int32.ofNat k), .ref 4] (N, U, I, J, R) none (N, U, I', J, R) ∧ zTr I' r (k + 1) ((w + 1) / 2) (zpu w D) ∧ I' (8 + 37 * r + 19) = zup (I (8 + 37 * r + 19)) (k + 1) (Int32.ofNat ((w + 1) / 2)) ∧
      (∀ b, b ≠ 4 → b ≠ 5 → b ≠ 6 → b ≠ 8 + 37 * r + 19 → (b < 8 + 37 * r + 4 + zq (k + 1) ∨ 8 + 37 * r + 4 + zq (k + 1) + zcp (k + 1) ≤ b) → I' b = I b) := by
  have q1 := zq_s hk
  have q2 := zq_f (show k + 1 < 4 by omega)
  have w0 : zW L 21 0 (zent 21 [.ref (8 + 37 * r + 2), .int (Int32.ofNat k), .ref 4]) [] (N, U, I, J, R) (fun o kk => o = .inl none ∧ ∃ I' : zI, kk = (N, U, I', J, R) ∧ zTr I' r (k + 1) ((w + 1) / 2) (zpu w D) ∧ I' (8 + 37 * r + 19) = zup (I (8 + 37 * r + 19)) (k + 1) (Int32.ofNat ((w + 1) / 2)) ∧
      (∀ b, b ≠ 4 → b ≠ 5 → b ≠ 6 → b ≠ 8 + 37 * r + 19 → (b < 8 + 37 * r + 4 + zq (k + 1) ∨ 8 + 37 * r + 4 + zq (k + 1) + zcp (k + 1) ≤ b) → I' b = I b)) := by
    show zW L 21 0 [some (.ref (8 + 37 * r + 2)), some (.int (Int32.ofNat k)), some (.ref 4), none, none, none] [] _ _
    refine zx_al0 zd21_0 ?_
    (refine' zx_gfA zd21_1 ?k69 ?r69 ?_); (case k69 => first | exact zkk rfl (by omega) | exact zkk (zK_B0 (by omega)) (by omega) | exact zkk ((zK_B (by omega) (by decide)).trans rfl) (by omega) | exact zkk (zK_row (by omega) (by omega)) (by omega) | exact zkk (zK_file (by omega) (by omega)) (by omega) | exact zkk (zK_byte (by omega) (by omega)) (by omega) | exact zkk (zK_list (by omega)) (by omega) | assumption); (case r69 => first | exact hR.1 _ _ _ rfl | exact hR.2.1 _ (by omega) | exact (hR.2.2.2 _ (by omega)).1.1 | exact (hR.2.2.2 _ (by omega)).1.2.1 | exact (hR.2.2.2 _ (by omega)).1.2.2 | exact (hR.2.2.2 _ (by omega)).2.1.1 | exact (hR.2.2.2 _ (by omega)).2.1.2 | exact (hR.2.2.2 _ (by omega)).2.2.1 _ (by omega) | exact (hR.2.2.2 _ (by omega)).2.2.2 _ (by omega) | exact hR.2.2.1 _ (by omega) | assumption | exact (hF _ (by omega)).1)
    refine zx_il1 zd21_4 ?_
    (with_reducible refine' zx_ialdN zd21_5 ?k71 ?j71 ?_); (case k71 => first | exact zkk rfl (by omega) | exact zkk (zK_B0 (by omega)) (by omega) | exact zkk ((zK_B (by omega) (by decide)).trans rfl) (by omega) | exact zkk (zK_row (by omega) (by omega)) (by omega) | exact zkk (zK_file (by omega) (by omega)) (by omega) | exact zkk (zK_byte (by omega) (by omega)) (by omega) | exact zkk (zK_list (by omega)) (by omega) | assumption); (case j71 => omega)
    rw [hw]
    refine zx_is3 zd21_6 rfl ?_
    refine zx_il3 zd21_7 ?_
    refine zx_c zd21_8 ?_
    first | ((with_reducible refine zx_divN zd21_9 ?h75 ?_); (case h75 => omega)) | refine zx_div zd21_9 (by decide) ?_
    refine zx_is4 zd21_10 rfl ?_
    refine zx_c zd21_12 ?_
    refine zx_is5 zd21_13 rfl ?_
    refine zc_pu0 hR hN hr hk hw8 hT h8 ?_ (w / 2) 0 I (by omega) hC (fun j hj => by omega) (fun _ _ _ _ _ => rfl)
    intro I1 hC1 hm1 hf1
    refine zx_il3 zd21_78 ?_
    refine zx_c zd21_79 ?_
    first | ((with_reducible refine zx_remN zd21_80 ?h81 ?_); (case h81 => omega)) | refine zx_rem zd21_80 (by decide) ?_
    refine zx_c zd21_81 ?_
    first | ((with_reducible refine zx_icmpneN zd21_82 ?s83 (fun h => ?_) (fun h => ?_)); (case s83 => omega)) | refine zx_icmpne zd21_82 (fun h => ?_) (fun h => ?_)
    · refine zx_al0 zd21_109 ?_
      (refine' zx_gfA zd21_110 ?k85 ?r85 ?_); (case k85 => first | exact zkk rfl (by omega) | exact zkk (zK_B0 (by omega)) (by omega) | exact zkk ((zK_B (by omega) (by decide)).trans rfl) (by omega) | exact zkk (zK_row (by omega) (by omega)) (by omega) | exact zkk (zK_file (by omega) (by omega)) (by omega) | exact zkk (zK_byte (by omega) (by omega)) (by omega) | exact zkk (zK_list (by omega)) (by omega) | assumption); (case r85 => first | exact hR.1 _ _ _ rfl | exact hR.2.1 _ (by omega) | exact (hR.2.2.2 _ (by omega)).1.1 | exact (hR.2.2.2 _ (by omega)).1.2.1 | exact (hR.2.2.2 _ (by omega)).1.2.2 | exact (hR.2.2.2 _ (by omega)).2.1.1 | exact (hR.2.2.2 _ (by omega)).2.1.2 | exact (hR.2.2.2 _ (by omega)).2.2.1 _ (by omega) | exact (hR.2.2.2 _ (by omega)).2.2.2 _ (by omega) | exact hR.2.2.1 _ (by omega) | assumption | exact (hF _ (by omega)).1)
      refine zx_il1 zd21_113 ?_
      refine zx_c zd21_114 ?_
      first | with_reducible refine zx_addN zd21_115 ?_ | refine zx_add zd21_115 ?_
      refine zx_il4 zd21_116 ?_
      refine zx_il3 zd21_118 ?_
      refine zx_c zd21_119 ?_
      first | ((with_reducible refine zx_remN zd21_120 ?h92 ?_); (case h92 => omega)) | refine zx_rem zd21_120 (by decide) ?_
      first | with_reducible refine zx_addN zd21_121 ?_ | refine zx_add zd21_121 ?_
      (with_reducible refine' zx_iastN zd21_122 ?k94 ?j94 ?a94 ?_); (case k94 => first | exact zkk rfl (by omega) | exact zkk (zK_B0 (by omega)) (by omega) | exact zkk ((zK_B (by omega) (by decide)).trans rfl) (by omega) | exact zkk (zK_row (by omega) (by omega)) (by omega) | exact zkk (zK_file (by omega) (by omega)) (by omega) | exact zkk (zK_byte (by omega) (by omega)) (by omega) | exact zkk (zK_list (by omega)) (by omega) | assumption); (case j94 => omega); (case a94 => omega)
      refine zx_vret zd21_123 rfl ?_
      refine ⟨rfl, _, rfl, fun i hi b hb => ?_, ?_, fun b h4 h5 h6 hb hb2 => ?_⟩
      · rw [zu_rw, zrw_ne _ _ (by omega)]
        exact hm1 i (by omega) b hb
      · rw [zu_rw, zrw_at, hf1 _ (by omega) (by omega) (by omega) (by omega), show w / 2 + w % 2 = (w + 1) / 2 by omega]
      · rw [zu_rw, zrw_ne _ _ hb]; exact hf1 b h4 h5 h6 hb2
    · refine zx_al0 zd21_85 ?_
      refine zx_il1 zd21_86 ?_
      refine zx_il3 zd21_87 ?_
      refine zx_c zd21_88 ?_
      first | ((with_reducible refine zx_subN zd21_89 ?h100 ?_); (case h100 => omega)) | refine zx_sub zd21_89 ?_
      (refine zx_cv2R zd21_90 ?k101 (zc_node hR hN hr (by omega) (by omega)) ?_); (case k101 => first | exact zkk rfl (by omega) | exact zkk (zK_B0 (by omega)) (by omega) | exact zkk ((zK_B (by omega) (by decide)).trans rfl) (by omega) | exact zkk (zK_row (by omega) (by omega)) (by omega) | exact zkk (zK_file (by omega) (by omega)) (by omega) | exact zkk (zK_byte (by omega) (by omega)) (by omega) | exact zkk (zK_list (by omega)) (by omega) | assumption)
      refine zx_c zd21_93 ?_
      refine zx_al0 zd21_94 ?_
      refine zx_il1 zd21_95 ?_
      refine zx_c zd21_96 ?_
      first | with_reducible refine zx_addN zd21_97 ?_ | refine zx_add zd21_97 ?_
      refine zx_il4 zd21_98 ?_
      (refine zx_cv2R zd21_100 ?k108 (zc_node hR hN hr (by omega) (by omega)) ?_); (case k108 => first | exact zkk rfl (by omega) | exact zkk (zK_B0 (by omega)) (by omega) | exact zkk ((zK_B (by omega) (by decide)).trans rfl) (by omega) | exact zkk (zK_row (by omega) (by omega)) (by omega) | exact zkk (zK_file (by omega) (by omega)) (by omega) | exact zkk (zK_byte (by omega) (by omega)) (by omega) | exact zkk (zK_list (by omega)) (by omega) | assumption)
      refine zx_c zd21_103 ?_
      refine zx_c zd21_104 ?_
      refine zx_copy zd21_106 rfl (zkk (zK_row hr (by omega)) (by omega)) (zkk (zK_row hr (by omega)) (by omega)) (n0 := 32) (n1 := 32) (by decide) (by decide) (by decide) (by decide) (by omega) ?_
      refine zx_al0 zd21_109 ?_
      (refine' zx_gfA zd21_110 ?k112 ?r112 ?_); (case k112 => first | exact zkk rfl (by omega) | exact zkk (zK_B0 (by omega)) (by omega) | exact zkk ((zK_B (by omega) (by decide)).trans rfl) (by omega) | exact zkk (zK_row (by omega) (by omega)) (by omega) | exact zkk (zK_file (by omega) (by omega)) (by omega) | exact zkk (zK_byte (by omega) (by omega)) (by omega) | exact zkk (zK_list (by omega)) (by omega) | assumption); (case r112 => first | exact hR.1 _ _ _ rfl | exact hR.2.1 _ (by omega) | exact (hR.2.2.2 _ (by omega)).1.1 | exact (hR.2.2.2 _ (by omega)).1.2.1 | exact (hR.2.2.2 _ (by omega)).1.2.2 | exact (hR.2.2.2 _ (by omega)).2.1.1 | exact (hR.2.2.2 _ (by omega)).2.1.2 | exact (hR.2.2.2 _ (by omega)).2.2.1 _ (by omega) | exact (hR.2.2.2 _ (by omega)).2.2.2 _ (by omega) | exact hR.2.2.1 _ (by omega) | assumption | exact (hF _ (by omega)).1)
      refine zx_il1 zd21_113 ?_
      refine zx_c zd21_114 ?_
      first | with_reducible refine zx_addN zd21_115 ?_ | refine zx_add zd21_115 ?_
      refine zx_il4 zd21_116 ?_
      refine zx_il3 zd21_118 ?_
      refine zx_c zd21_119 ?_
      first | ((with_reducible refine zx_remN zd21_120 ?h119 ?_); (case h119 => omega)) | refine zx_rem zd21_120 (by decide) ?_
      first | with_reducible refine zx_addN zd21_121 ?_ | refine zx_add zd21_121 ?_
      (with_reducible refine' zx_iastN zd21_122 ?k121 ?j121 ?a121 ?_); (case k121 => first | exact zkk rfl (by omega) | exact zkk (zK_B0 (by omega)) (by omega) | exact zkk ((zK_B (by omega) (by decide)).trans rfl) (by omega) | exact zkk (zK_row (by omega) (by omega)) (by omega) | exact zkk (zK_file (by omega) (by omega)) (by omega) | exact zkk (zK_byte (by omega) (by omega)) (by omega) | exact zkk (zK_list (by omega)) (by omega) | assumption); (case j121 => omega); (case a121 => omega)
      refine zx_vret zd21_123 rfl ?_
      refine ⟨rfl, _, rfl, fun i hi b hb => ?_, ?_, fun b h4 h5 h6 hb hb2 => ?_⟩
      · rw [zu_rw, zrw_ne _ _ (by omega)]
        by_cases hi2 : i = w / 2
        · subst hi2
          rw [if_pos rfl]
          show (if 0 ≤ b ∧ b < 0 + 32 then I1 _ (0 + (b - 0)) else _) = _
          rw [if_pos (by omega), Nat.sub_zero, Nat.zero_add, hf1 _ (by omega) (by omega) (by omega) (by omega), hT _ (by omega) b hb]
          unfold zpu
          rw [if_neg (by omega), show 2 * (w / 2) = w - 1 by omega]
        · rw [if_neg (by omega)]
          exact hm1 i (by omega) b hb
      · rw [zu_rw, zrw_at]
        have e : ∀ g : Nat → Int32, (fun j => if 8 + 37 * r + 19 = 8 + 37 * r + 4 + (zq (k + 1) + w / 2) then g j else I1 (8 + 37 * r + 19) j) = I1 (8 + 37 * r + 19) := fun g => by
          funext j; exact if_neg (by omega)
        rw [e, hf1 _ (by omega) (by omega) (by omega) (by omega), show w / 2 + w % 2 = (w + 1) / 2 by omega]
      · rw [zu_rw, zrw_ne _ _ hb]
        refine Eq.trans (funext fun j => if_neg (by omega)) (hf1 b h4 h5 h6 hb2)
  obtain ⟨kx, hr, I', rfl, hd⟩ := zRet_of w0
  exact ⟨I', hr, hd⟩
end ZC8
