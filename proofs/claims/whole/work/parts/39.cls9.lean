/-! THE CLASS: grow and close -/
/-- the tree of release r, of n leaves D -/
def zTree (I : zI) (r n : Nat) (D : Nat → Nat → Int32) : Prop := zWd I r (zlvl n) (zwid n) ∧ (∀ k, k ≤ zlvl n → zTr I r k (zwid n k) (zlev n D k)) ∧ (n = 0 → ∀ b, b < 32 → I (8 + 37 * r + 4) b = zsha [] b)
theorem zlvl_of {n k : Nat} (hn : n ≤ 8) (hk : k ≤ 3) (h1 : ∀ j, j < k → 1 < zwid n j) (h2 : k = 3 ∨ zwid n k ≤ 1) : k = zlvl n := by
  have key : ∀ a : Fin 9, ∀ b : Fin 4, (∀ j : Fin 4, j.val < b.val → 1 < zwid a.val j.val) → (b.val = 3 ∨ zwid a.val b.val ≤ 1) → b.val = zlvl a.val := by decide
  exact key ⟨n, by omega⟩ ⟨k, by omega⟩ (fun j hj => h1 j.val hj) h2
theorem zwid_le {n : Nat} (hn : n ≤ 8) : ∀ k, zwid n k ≤ 8
  | 0 => hn
  | k + 1 => by
    have := zwid_le hn k
    show (zwid n k + 1) / 2 ≤ 8
    omega
/-- the files' contents: names, lengths, bytes -/
def zFc (I : zI) (r : Nat) (nm ln : Nat → Nat) : Prop := ∀ o, o < 8 → (I (8 + 37 * r + 21 + 2 * o) 0 = Int32.ofNat (nm o) ∧ nm o < 65536) ∧ (I (8 + 37 * r + 21 + 2 * o) 2 = Int32.ofNat (ln o) ∧ ln o ≤ 64) ∧ ∀ k, k < ln o → zb8 (I (8 + 37 * r + 22 + 2 * o) k)
theorem zFt.fc {r : Nat} {I I' : zI} {nm ln : Nat → Nat} (h : zFt r I I') (hc : zFc I r nm ln) : zFc I' r nm ln := by
  intro o ho
  rw [h _ (by omega) (by omega) (by omega) (by omega), h (8 + 37 * r + 22 + 2 * o) (by omega) (by omega) (by omega) (by omega)]
  exact hc o ho
section ZC9
variable {L N U : Nat} {I : zI} {J : zJ} {R : zR} {c : Nat} {Q : zOut → zHp → Prop}
/-- the leaves -/
theorem zc_gw1 (hR : zRs R) (hN : 459 ≤ N) {I0 : zI} {r n : Nat} {s nm ln : Nat → Nat} (hr : r < 11) (hn8 : n ≤ 8) (hF : zFl R r s) (hFc : zFc I0 r nm ln)
    (kk : ∀ (I' : zI) (l4 : Option Value), zCs I' → zFt r I0 I' → I' (8 + 37 * r + 2) = I0 (8 + 37 * r + 2) → I' (8 + 37 * r + 19) = I0 (8 + 37 * r + 19) → zTr I' r 0 n (fun j => zsha (zlm (nm (s j)) (ln (s j)) (I0 (8 + 37 * r + 22 + 2 * s j)) 0)) → (n = 0 → ∀ b, b < 32 → I' (8 + 37 * r + 4) b = zsha [] b) → zW L 16 44 [some (.ref (8 + 37 * r + 2)), some (.ref (8 + 37 * r + 1)), some (.int (Int32.ofNat n)), some (.ref 4), l4] [] (N, U, I', J, R) Q) :
    ∀ (q i : Nat) (I' : zI), i + q = n → zCs I' → zFt r I0 I' → I' (8 + 37 * r + 2) = I0 (8 + 37 * r + 2) → I' (8 + 37 * r + 19) = I0 (8 + 37 * r + 19) → zTr I' r 0 i (fun j => zsha (zlm (nm (s j)) (ln (s j)) (I0 (8 + 37 * r + 22 + 2 * s j)) 0)) → (i = 0 → ∀ b, b < 32 → I' (8 + 37 * r + 4) b = zsha [] b) →
    zW L 16 17 [some (.ref (8 + 37 * r + 2)), some (.ref (8 + 37 * r + 1)), some (.int (Int32.ofNat n)), some (.ref 4), some (.int (Int32.ofNat i))] [] (N, U, I', J, R) Q := by
  have z0 : zq 0 = 0 := rfl
  intro q
  induction q with
  | zero =>
    intro i I' hi hC hf h2 h36 hT h0
    obtain rfl : i = n := by omega
    refine zx_il4 zd16_17 ?_
    refine zx_il2 zd16_19 ?_
    first | ((with_reducible refine zx_icmpgeN zd16_20 ?s3 (fun h => ?_) (fun h => ?_)); (case s3 => omega)) | refine zx_icmpge zd16_20 (fun h => ?_) (fun h => ?_)
    · exact kk I' _ hC hf h2 h36 hT h0
    · omega
  | succ q ih =>
    intro i I' hi hC hf h2 h36 hT h0
    have hs := (hF i (by omega)).2
    have hFi := (hF i (by omega)).1
    have hfc := (hf.fc hFc) (s i) hs
    refine zx_il4 zd16_17 ?_
    refine zx_il2 zd16_19 ?_
    first | ((with_reducible refine zx_icmpgeN zd16_20 ?s6 (fun h => ?_) (fun h => ?_)); (case s6 => omega)) | refine zx_icmpge zd16_20 (fun h => ?_) (fun h => ?_)
    · omega
    · refine zx_al1 zd16_23 ?_
      refine zx_il4 zd16_24 ?_
      first | ((with_reducible refine' zx_aaldAN zd16_26 ?k9 ?j9 ?r9 ?_); (case k9 => first | exact zkk rfl (by omega) | exact zkk (zK_B0 (by omega)) (by omega) | exact zkk ((zK_B (by omega) (by decide)).trans rfl) (by omega) | exact zkk (zK_row (by omega) (by omega)) (by omega) | exact zkk (zK_file (by omega) (by omega)) (by omega) | exact zkk (zK_byte (by omega) (by omega)) (by omega) | exact zkk (zK_list (by omega)) (by omega) | assumption); (case j9 => omega); (case r9 => first | exact hR.1 _ _ _ rfl | exact hR.2.1 _ (by omega) | exact (hR.2.2.2 _ (by omega)).1.1 | exact (hR.2.2.2 _ (by omega)).1.2.1 | exact (hR.2.2.2 _ (by omega)).1.2.2 | exact (hR.2.2.2 _ (by omega)).2.1.1 | exact (hR.2.2.2 _ (by omega)).2.1.2 | exact (hR.2.2.2 _ (by omega)).2.2.1 _ (by omega) | exact (hR.2.2.2 _ (by omega)).2.2.2 _ (by omega) | exact hR.2.2.1 _ (by omega) | assumption | exact (hF _ (by omega)).1)) | ((with_reducible refine' zx_aaldON zd16_26 ?k9 ?j9 ?r9 ?_); (case k9 => first | exact zkk rfl (by omega) | exact zkk (zK_B0 (by omega)) (by omega) | exact zkk ((zK_B (by omega) (by decide)).trans rfl) (by omega) | exact zkk (zK_row (by omega) (by omega)) (by omega) | exact zkk (zK_file (by omega) (by omega)) (by omega) | exact zkk (zK_byte (by omega) (by omega)) (by omega) | exact zkk (zK_list (by omega)) (by omega) | assumption); (case j9 => omega); (case r9 => first | exact hR.1 _ _ _ rfl | exact hR.2.1 _ (by omega) | exact (hR.2.2.2 _ (by omega)).1.1 | exact (hR.2.2.2 _ (by omega)).1.2.1 | exact (hR.2.2.2 _ (by omega)).1.2.2 | exact (hR.2.2.2 _ (by omega)).2.1.1 | exact (hR.2.2.2 _ (by omega)).2.1.2 | exact (hR.2.2.2 _ (by omega)).2.2.1 _ (by omega) | exact (hR.2.2.2 _ (by omega)).2.2.2 _ (by omega) | exact hR.2.2.1 _ (by omega) | assumption | exact (hF _ (by omega)).1))
      refine zx_al3 zd16_27 ?_
      refine zx_al0 zd16_28 ?_
      refine zx_c zd16_29 ?_
      refine zx_il4 zd16_30 ?_
      (refine zx_cv2R zd16_32 ?k14 (zc_node hR hN hr (by decide) (by omega)) ?_); (case k14 => first | exact zkk rfl (by omega) | exact zkk (zK_B0 (by omega)) (by omega) | exact zkk ((zK_B (by omega) (by decide)).trans rfl) (by omega) | exact zkk (zK_row (by omega) (by omega)) (by omega) | exact zkk (zK_file (by omega) (by omega)) (by omega) | exact zkk (zK_byte (by omega) (by omega)) (by omega) | exact zkk (zK_list (by omega)) (by omega) | assumption)
      obtain ⟨I2, hr2, hd2, hf2⟩ := zc_di (L := L) (U := U) (J := J) hR hN hC (a := 8 + 37 * r + 4 + (zq 0 + i)) hr hs (zkk (zK_row hr (by omega)) (by omega)) (by omega) (by omega) hfc.1.1 hfc.1.2 hfc.2.1.1 hfc.2.1.2 hfc.2.2
      (refine zx_cv2V zd16_35 ?k15 (hr2) ?_); (case k15 => first | exact zkk rfl (by omega) | exact zkk (zK_B0 (by omega)) (by omega) | exact zkk ((zK_B (by omega) (by decide)).trans rfl) (by omega) | exact zkk (zK_row (by omega) (by omega)) (by omega) | exact zkk (zK_file (by omega) (by omega)) (by omega) | exact zkk (zK_byte (by omega) (by omega)) (by omega) | exact zkk (zK_list (by omega)) (by omega) | assumption)
      first | with_reducible refine zx_iin4 zd16_38 ?_ | refine zx_ii4 zd16_38 ?_
      refine zx_goto zd16_41 ?_
      have hf2' : zFt r I' I2 := fun b h4 h5 h6 hb => hf2 b h4 h5 h6 (by omega)
      refine ih (i + 1) I2 (by omega) (hf2.cs (by omega) hC) (hf.trans hf2') (by rw [hf2 _ (by omega) (by omega) (by omega) (by omega)]; exact h2) (by rw [hf2 _ (by omega) (by omega) (by omega) (by omega)]; exact h36) (fun j hj b hb => ?_) (fun e => by omega)
      by_cases hji : j = i
      · subst hji
        rw [hd2, zfill_in0 _ _ _ hb, hf _ (by omega) (by omega) (by omega) (by omega)]
      · rw [hf2 _ (by omega) (by omega) (by omega) (by omega)]
        exact hT j (by omega) b hb
/-- the rows above -/
theorem zc_gw2 (hR : zRs R) (hN : 459 ≤ N) {I0 : zI} {r n : Nat} {D : Nat → Nat → Int32} {l1 l2 : Option Value} (hr : r < 11) (hn8 : n ≤ 8) (h8 : zB32 D n) :
    ∀ (q k : Nat) (I' : zI), k + q = 3 → zCs I' → zFt r I0 I' → I' (8 + 37 * r + 2) 2 = Int32.ofNat k → (∀ j, j ≤ k → I' (8 + 37 * r + 19) j = Int32.ofNat (zwid n j)) → (∀ j, j ≤ k → zTr I' r j (zwid n j) (zlev n D j)) → (∀ j, j < k → 1 < zwid n j) → (n = 0 → ∀ b, b < 32 → I' (8 + 37 * r + 4) b = zsha [] b) →
    zW L 16 54 [some (.ref (8 + 37 * r + 2)), l1, l2, some (.ref 4), some (.int (Int32.ofNat k))] [] (N, U, I', J, R) (fun o kk => o = .inl none ∧ ∃ I' : zI, kk = (N, U, I', J, R) ∧ zTree I' r n D ∧ zFt r I0 I') := by
  intro q
  induction q with
  | zero =>
    intro k I' hi hC hf ht hw hT hgt h0
    obtain rfl : k = 3 := by omega
    refine zx_il4 zd16_54 ?_
    refine zx_c zd16_56 ?_
    first | with_reducible refine zx_addN zd16_57 ?_ | refine zx_add zd16_57 ?_
    refine zx_c zd16_58 ?_
    first | ((with_reducible refine zx_icmpgeN zd16_59 ?s22 (fun h => ?_) (fun h => ?_)); (case s22 => omega)) | refine zx_icmpge zd16_59 (fun h => ?_) (fun h => ?_)
    · refine zx_vret zd16_94 rfl ?_
      have e := zlvl_of hn8 (Nat.le_refl 3) hgt (Or.inl rfl)
      refine ⟨rfl, I', rfl, ⟨⟨by rw [← e]; exact ht, by omega, fun j hj => ⟨hw j (by omega), zwid_le hn8 j⟩⟩, fun j hj => hT j (by omega), h0⟩, hf⟩
    · omega
  | succ q ih =>
    intro k I' hi hC hf ht hw hT hgt h0
    have hwk8 := zwid_le hn8 k
    have hwk := zwid_cp hn8 (show k < 4 by omega)
    have q1 := zq_s (show k < 3 by omega)
    have q2 := zq_f (show k + 1 < 4 by omega)
    refine zx_il4 zd16_54 ?_
    refine zx_c zd16_56 ?_
    first | with_reducible refine zx_addN zd16_57 ?_ | refine zx_add zd16_57 ?_
    refine zx_c zd16_58 ?_
    first | ((with_reducible refine zx_icmpgeN zd16_59 ?s28 (fun h => ?_) (fun h => ?_)); (case s28 => omega)) | refine zx_icmpge zd16_59 (fun h => ?_) (fun h => ?_)
    · omega
    · refine zx_al0 zd16_62 ?_
      (refine' zx_gfA zd16_63 ?k30 ?r30 ?_); (case k30 => first | exact zkk rfl (by omega) | exact zkk (zK_B0 (by omega)) (by omega) | exact zkk ((zK_B (by omega) (by decide)).trans rfl) (by omega) | exact zkk (zK_row (by omega) (by omega)) (by omega) | exact zkk (zK_file (by omega) (by omega)) (by omega) | exact zkk (zK_byte (by omega) (by omega)) (by omega) | exact zkk (zK_list (by omega)) (by omega) | assumption); (case r30 => first | exact hR.1 _ _ _ rfl | exact hR.2.1 _ (by omega) | exact (hR.2.2.2 _ (by omega)).1.1 | exact (hR.2.2.2 _ (by omega)).1.2.1 | exact (hR.2.2.2 _ (by omega)).1.2.2 | exact (hR.2.2.2 _ (by omega)).2.1.1 | exact (hR.2.2.2 _ (by omega)).2.1.2 | exact (hR.2.2.2 _ (by omega)).2.2.1 _ (by omega) | exact (hR.2.2.2 _ (by omega)).2.2.2 _ (by omega) | exact hR.2.2.1 _ (by omega) | assumption | exact (hF _ (by omega)).1)
      refine zx_il4 zd16_66 ?_
      (with_reducible refine' zx_ialdN zd16_68 ?k32 ?j32 ?_); (case k32 => first | exact zkk rfl (by omega) | exact zkk (zK_B0 (by omega)) (by omega) | exact zkk ((zK_B (by omega) (by decide)).trans rfl) (by omega) | exact zkk (zK_row (by omega) (by omega)) (by omega) | exact zkk (zK_file (by omega) (by omega)) (by omega) | exact zkk (zK_byte (by omega) (by omega)) (by omega) | exact zkk (zK_list (by omega)) (by omega) | assumption); (case j32 => omega)
      rw [hw k (Nat.le_refl _)]
      refine zx_c zd16_69 ?_
      first | ((with_reducible refine zx_icmpleN zd16_70 ?s34 (fun h2 => ?_) (fun h2 => ?_)); (case s34 => omega)) | refine zx_icmple zd16_70 (fun h2 => ?_) (fun h2 => ?_)
      · refine zx_vret zd16_94 rfl ?_
        have e := zlvl_of hn8 (by omega) hgt (Or.inr h2)
        refine ⟨rfl, I', rfl, ⟨⟨by rw [← e]; exact ht, by omega, fun j hj => ⟨hw j (by omega), zwid_le hn8 j⟩⟩, fun j hj => hT j (by omega), h0⟩, hf⟩
      · refine zx_al0 zd16_73 ?_
        refine zx_il4 zd16_74 ?_
        refine zx_al3 zd16_76 ?_
        obtain ⟨I2, hr2, hT2, hw2, hf2⟩ := zc_pu (L := L) (U := U) (J := J) hR hN hC hr (k := k) (by omega) hwk (hw k (Nat.le_refl _)) (hT k (Nat.le_refl _)) (zlev_b8 h8 k)
        (refine zx_cv2V zd16_77 ?k39 (hr2) ?_); (case k39 => first | exact zkk rfl (by omega) | exact zkk (zK_B0 (by omega)) (by omega) | exact zkk ((zK_B (by omega) (by decide)).trans rfl) (by omega) | exact zkk (zK_row (by omega) (by omega)) (by omega) | exact zkk (zK_file (by omega) (by omega)) (by omega) | exact zkk (zK_byte (by omega) (by omega)) (by omega) | exact zkk (zK_list (by omega)) (by omega) | assumption)
        refine zx_al0 zd16_80 ?_
        refine zx_il4 zd16_81 ?_
        refine zx_c zd16_83 ?_
        first | with_reducible refine zx_addN zd16_84 ?_ | refine zx_add zd16_84 ?_
        (refine zx_pfI zd16_85 ?k44 ?a44 ?_); (case k44 => first | exact zkk rfl (by omega) | exact zkk (zK_B0 (by omega)) (by omega) | exact zkk ((zK_B (by omega) (by decide)).trans rfl) (by omega) | exact zkk (zK_row (by omega) (by omega)) (by omega) | exact zkk (zK_file (by omega) (by omega)) (by omega) | exact zkk (zK_byte (by omega) (by omega)) (by omega) | exact zkk (zK_list (by omega)) (by omega) | assumption); (case a44 => omega)
        first | with_reducible refine zx_iin4 zd16_88 ?_ | refine zx_ii4 zd16_88 ?_
        refine zx_goto zd16_91 ?_
        have hf2' : zFt r I' (zu I2 (8 + 37 * r + 2) 2 (Int32.ofNat (k + 1))) := fun b h4 h5 h6 hb => by
          rw [zu_rw, zrw_ne _ _ (by omega)]; exact hf2 b h4 h5 h6 (by omega) (by omega)
        have hrow : ∀ b, b ≠ 8 + 37 * r + 2 → zu I2 (8 + 37 * r + 2) 2 (Int32.ofNat (k + 1)) b = I2 b := fun b hb => by rw [zu_rw, zrw_ne _ _ hb]
        refine ih (k + 1) _ (by omega) (hf2'.cs hC) (hf.trans hf2') (if_pos ⟨rfl, rfl⟩) (fun j hj => ?_) (fun j hj => ?_) (fun j hj => ?_) (fun e b hb => ?_)
        · rw [hrow _ (by omega), hw2]
          by_cases hjk : j = k + 1
          · rw [hjk, zup_at]; rfl
          · rw [zup_ne _ _ hjk]; exact hw j (by omega)
        · intro i hi' b hb
          rw [hrow _ (by omega)]
          by_cases hjk : j = k + 1
          · subst hjk
            exact hT2 i hi' b hb
          · have hwj := zwid_cp hn8 (show j < 4 by omega)
            have hqj := zq_m (show j < k + 1 by omega) (show k + 1 < 4 by omega)
            rw [hf2 _ (by omega) (by omega) (by omega) (by omega) (by omega)]
            exact hT j (by omega) i hi' b hb
        · by_cases hjk : j = k
          · rw [hjk]; exact h2
          · exact hgt j (by omega)
        · rw [hrow _ (by omega), hf2 _ (by omega) (by omega) (by omega) (by omega) (by omega)]
          exact h0 e b hb
theorem zc_gw (hR : zRs R) (hN : 459 ≤ N) (hC : zCs I) {r n : Nat} {s nm ln : Nat → Nat} (hr : r < 11) (hn8 : n ≤ 8) (hF : zFl R r s) (hFc : zFc I r nm ln) (ht : I (8 + 37 * r + 2) 2 = Int32.ofNat 0) :
    ∃ I', zRet L 16 [.ref (8 + 37 * r + 2), .ref (8 + 37 * r + 1), .int (Int32.ofNat n), .ref 4] (N, U, I, J, R) none (N, U, I', J, R) ∧ zTree I' r n (fun j => zsha (zlm (nm (s j)) (ln (s j)) (I (8 + 37 * r + 22 + 2 * s j)) 0)) ∧ zFt r I I' := by
  have r0 : R 4 0 = some 5 := hR.1 _ _ _ rfl
  have r1 : R 4 1 = some 6 := hR.1 _ _ _ rfl
  have w : zW L 16 0 (zent 16 [.ref (8 + 37 * r + 2), .ref (8 + 37 * r + 1), .int (Int32.ofNat n), .ref 4]) [] (N, U, I, J, R) (fun o kk => o = .inl none ∧ ∃ I' : zI, kk = (N, U, I', J, R) ∧ zTree I' r n (fun j => zsha (zlm (nm (s j)) (ln (s j)) (I (8 + 37 * r + 22 + 2 * s j)) 0)) ∧ zFt r I I') := by
    show zW L 16 0 [some (.ref (8 + 37 * r + 2)), some (.ref (8 + 37 * r + 1)), some (.int (Int32.ofNat n)), some (.ref 4), none] [] _ _
    refine zx_al3 zd16_0 ?_
    obtain ⟨I1, hr1, hd1, hf1⟩ := zs_begin (L := L) (U := U) (J := J) r0 (show 6 < N by omega) hC
    (refine zx_cv0V zd16_1 ?k48 (hr1) ?_); (case k48 => first | exact zkk rfl (by omega) | exact zkk (zK_B0 (by omega)) (by omega) | exact zkk ((zK_B (by omega) (by decide)).trans rfl) (by omega) | exact zkk (zK_row (by omega) (by omega)) (by omega) | exact zkk (zK_file (by omega) (by omega)) (by omega) | exact zkk (zK_byte (by omega) (by omega)) (by omega) | exact zkk (zK_list (by omega)) (by omega) | assumption)
    refine zx_al3 zd16_4 ?_
    refine zx_al0 zd16_5 ?_
    refine zx_c zd16_6 ?_
    refine zx_c zd16_7 ?_
    have hC1 := hf1.cs hC
    have z0 : zq 0 = 0 := rfl
    (refine zx_cv2R zd16_8 ?k53 (zc_node hR hN hr (by decide) (by omega)) ?_); (case k53 => first | exact zkk rfl (by omega) | exact zkk (zK_B0 (by omega)) (by omega) | exact zkk ((zK_B (by omega) (by decide)).trans rfl) (by omega) | exact zkk (zK_row (by omega) (by omega)) (by omega) | exact zkk (zK_file (by omega) (by omega)) (by omega) | exact zkk (zK_byte (by omega) (by omega)) (by omega) | exact zkk (zK_list (by omega)) (by omega) | assumption)
    obtain ⟨I2, hr2, hd2, hf2⟩ := zs_finish (L := L) (U := U) (J := J) r0 r1 (show 6 < N by omega) (a := 8 + 37 * r + 4 + (zq 0 + 0)) (zkk (zK_row hr (by omega)) (by omega)) (by omega) hC1 hd1 (by decide)
    (refine zx_cv1V zd16_11 ?k54 (hr2) ?_); (case k54 => first | exact zkk rfl (by omega) | exact zkk (zK_B0 (by omega)) (by omega) | exact zkk ((zK_B (by omega) (by decide)).trans rfl) (by omega) | exact zkk (zK_row (by omega) (by omega)) (by omega) | exact zkk (zK_file (by omega) (by omega)) (by omega) | exact zkk (zK_byte (by omega) (by omega)) (by omega) | exact zkk (zK_list (by omega)) (by omega) | assumption)
    refine zx_c zd16_14 ?_
    refine zx_is4 zd16_15 rfl ?_
    have hf12 : zFt r I I2 := fun b h4 h5 h6 hb => by rw [hf2 b h4 h5 h6 (by omega)]; exact hf1 b h4 h5 h6
    refine zc_gw1 hR hN hr hn8 hF hFc ?_ n 0 I2 (by omega) (hf2.cs (by omega) hC1) hf12 (by rw [hf2 _ (by omega) (by omega) (by omega) (by omega)]; exact hf1 _ (by omega) (by omega) (by omega)) (by rw [hf2 _ (by omega) (by omega) (by omega) (by omega)]; exact hf1 _ (by omega) (by omega) (by omega)) (fun j hj => by omega) (fun _ b hb => ?_)
    · intro I3 l4 hC3 hf3 h23 h363 hT3 h03
      refine zx_al0 zd16_44 ?_
      (refine' zx_gfA zd16_45 ?k58 ?r58 ?_); (case k58 => first | exact zkk rfl (by omega) | exact zkk (zK_B0 (by omega)) (by omega) | exact zkk ((zK_B (by omega) (by decide)).trans rfl) (by omega) | exact zkk (zK_row (by omega) (by omega)) (by omega) | exact zkk (zK_file (by omega) (by omega)) (by omega) | exact zkk (zK_byte (by omega) (by omega)) (by omega) | exact zkk (zK_list (by omega)) (by omega) | assumption); (case r58 => first | exact hR.1 _ _ _ rfl | exact hR.2.1 _ (by omega) | exact (hR.2.2.2 _ (by omega)).1.1 | exact (hR.2.2.2 _ (by omega)).1.2.1 | exact (hR.2.2.2 _ (by omega)).1.2.2 | exact (hR.2.2.2 _ (by omega)).2.1.1 | exact (hR.2.2.2 _ (by omega)).2.1.2 | exact (hR.2.2.2 _ (by omega)).2.2.1 _ (by omega) | exact (hR.2.2.2 _ (by omega)).2.2.2 _ (by omega) | exact hR.2.2.1 _ (by omega) | assumption | exact (hF _ (by omega)).1)
      refine zx_c zd16_48 ?_
      refine zx_il2 zd16_49 ?_
      (with_reducible refine' zx_iastN zd16_50 ?k61 ?j61 ?a61 ?_); (case k61 => first | exact zkk rfl (by omega) | exact zkk (zK_B0 (by omega)) (by omega) | exact zkk ((zK_B (by omega) (by decide)).trans rfl) (by omega) | exact zkk (zK_row (by omega) (by omega)) (by omega) | exact zkk (zK_file (by omega) (by omega)) (by omega) | exact zkk (zK_byte (by omega) (by omega)) (by omega) | exact zkk (zK_list (by omega)) (by omega) | assumption); (case j61 => omega); (case a61 => omega)
      refine zx_c zd16_51 ?_
      refine zx_is4 zd16_52 rfl ?_
      have hrow : ∀ b, b ≠ 8 + 37 * r + 19 → zu I3 (8 + 37 * r + 19) 0 (Int32.ofNat n) b = I3 b := fun b hb => by rw [zu_rw, zrw_ne _ _ hb]
      have hf4 : zFt r I3 (zu I3 (8 + 37 * r + 19) 0 (Int32.ofNat n)) := fun b h4 h5 h6 hb => hrow b (by omega)
      refine zc_gw2 hR hN hr hn8 (fun i _ b _ => zb8_sha _ _) 3 0 _ rfl (hf4.cs hC3) (hf3.trans hf4) (by rw [hrow _ (by omega), h23]; exact ht) (fun j hj => ?_) (fun j hj => ?_) (fun j hj => by omega) (fun e b hb => by rw [hrow _ (by omega)]; exact h03 e b hb)
      · obtain rfl : j = 0 := by omega
        exact if_pos ⟨rfl, rfl⟩
      · obtain rfl : j = 0 := by omega
        intro i hi b hb
        have hi' : i < n := hi
        rw [hrow _ (by omega)]
        exact hT3 i hi b hb
    · have := hd2
      rw [show 8 + 37 * r + 4 + (zq 0 + 0) = 8 + 37 * r + 4 by omega] at this
      rw [this, zfill_in0 _ _ _ hb]
  obtain ⟨k, hr, I', rfl, hd, hf⟩ := zRet_of w
  exact ⟨I', hr, hd, hf⟩
/-- close -/
theorem zc_clN (hN : 459 ≤ N) (hc : I 3 2 = Int32.ofNat 10) : zRet L 14 [.ref 3] (N, U, I, J, R) (some (.int (-1))) (N, U, I, J, R) := by
  show zW L 14 0 [some (.ref 3), none, none] [] _ _
  refine zx_al0 zd14_0 ?_
  (refine zx_gfI zd14_1 ?k65 ?_); (case k65 => first | exact zkk rfl (by omega) | exact zkk (zK_B0 (by omega)) (by omega) | exact zkk ((zK_B (by omega) (by decide)).trans rfl) (by omega) | exact zkk (zK_row (by omega) (by omega)) (by omega) | exact zkk (zK_file (by omega) (by omega)) (by omega) | exact zkk (zK_byte (by omega) (by omega)) (by omega) | exact zkk (zK_list (by omega)) (by omega) | assumption)
  rw [hc]
  refine zx_c zd14_4 ?_
  first | ((with_reducible refine zx_icmpltN zd14_6 ?s67 (fun h => ?_) (fun h => ?_)); (case s67 => omega)) | refine zx_icmplt zd14_6 (fun h => ?_) (fun h => ?_)
  · omega
  · refine zx_c zd14_9 ?_
    refine zx_iret zd14_10 (Or.inl rfl) ?_
    exact ⟨rfl, rfl⟩
theorem zc_cl (hR : zRs R) (hN : 459 ≤ N) (hC : zCs I) (hc : I 3 2 = Int32.ofNat c) (hc10 : c < 10) {n : Nat} {nm ln : Nat → Nat} (hn : I (8 + 37 * c) 1 = Int32.ofNat n) (hn8 : n ≤ 8) (hF : zFl R c (fun j => j)) (hFc : zFc I c nm ln) (hne : ∀ a b, a < b → b < n → nm a ≠ nm b) (ht : I (8 + 37 * c + 2) 2 = Int32.ofNat 0) (hl8 : ∀ b, b < 32 → zb8 (I (416 + c) b)) :
    ∃ (I' : zI) (R' : zR) (s : Nat → Nat), zRet L 14 [.ref 3] (N, U, I, J, R) (some (.int (Int32.ofNat c))) (N, U, I', J, R') ∧ (zOrd s nm n ∧ (∀ j, n ≤ j → s j = j) ∧ zRs R' ∧ zFl R' c s ∧ zFr c R R') ∧ zTree I' c n (fun j => zsha (zlm (nm (s j)) (ln (s j)) (I (8 + 37 * c + 22 + 2 * s j)) 0)) ∧
      I' 3 = zup (I 3) 2 (Int32.ofNat (c + 1)) ∧ (∀ b, b < 32 → I' (416 + c + 1) b = zsha (zrw0 (I (416 + c)) 0 32 ++ zrw0 (I' (8 + 37 * c + 4 + zq (zlvl n))) 0 32) b) ∧
      ∀ b, b ≠ 3 → b ≠ 4 → b ≠ 5 → b ≠ 6 → b ≠ 416 + c + 1 → (b < 8 + 37 * c + 2 ∨ 8 + 37 * c + 19 < b) → I' b = I b := by
  obtain ⟨R', s, hrs, o1, o2, o3, o4, o5⟩ := zc_srt (L := L) (U := U) (J := J) hR hN (show c < 11 by omega) hn hn8 (fun o ho => (hFc o ho).1) hne hF
  have r0 : R' 4 0 = some 5 := o3.1 _ _ _ rfl
  have r1 : R' 4 1 = some 6 := o3.1 _ _ _ rfl
  obtain ⟨I1, hr1, hT1, hf1⟩ := zc_gw (L := L) (U := U) (J := J) o3 hN hC (show c < 11 by omega) hn8 o4 hFc ht
  have w : zW L 14 0 (zent 14 [.ref 3]) [] (N, U, I, J, R) (fun o kk => o = .inl (some (.int (Int32.ofNat c))) ∧ ∃ I' : zI, kk = (N, U, I', J, R') ∧ zTree I' c n (fun j => zsha (zlm (nm (s j)) (ln (s j)) (I (8 + 37 * c + 22 + 2 * s j)) 0)) ∧
      I' 3 = zup (I 3) 2 (Int32.ofNat (c + 1)) ∧ (∀ b, b < 32 → I' (416 + c + 1) b = zsha (zrw0 (I (416 + c)) 0 32 ++ zrw0 (I' (8 + 37 * c + 4 + zq (zlvl n))) 0 32) b) ∧
      ∀ b, b ≠ 3 → b ≠ 4 → b ≠ 5 → b ≠ 6 → b ≠ 416 + c + 1 → (b < 8 + 37 * c + 2 ∨ 8 + 37 * c + 19 < b) → I' b = I b) := by
    show zW L 14 0 [some (.ref 3), none, none] [] _ _
    refine zx_al0 zd14_0 ?_
    (refine zx_gfI zd14_1 ?k71 ?_); (case k71 => first | exact zkk rfl (by omega) | exact zkk (zK_B0 (by omega)) (by omega) | exact zkk ((zK_B (by omega) (by decide)).trans rfl) (by omega) | exact zkk (zK_row (by omega) (by omega)) (by omega) | exact zkk (zK_file (by omega) (by omega)) (by omega) | exact zkk (zK_byte (by omega) (by omega)) (by omega) | exact zkk (zK_list (by omega)) (by omega) | assumption)
    rw [hc]
    refine zx_c zd14_4 ?_
    first | ((with_reducible refine zx_icmpltN zd14_6 ?s73 (fun h => ?_) (fun h => ?_)); (case s73 => omega)) | refine zx_icmplt zd14_6 (fun h => ?_) (fun h => ?_)
    · refine zx_al0 zd14_11 ?_
      (refine zx_gfI zd14_12 ?k75 ?_); (case k75 => first | exact zkk rfl (by omega) | exact zkk (zK_B0 (by omega)) (by omega) | exact zkk ((zK_B (by omega) (by decide)).trans rfl) (by omega) | exact zkk (zK_row (by omega) (by omega)) (by omega) | exact zkk (zK_file (by omega) (by omega)) (by omega) | exact zkk (zK_byte (by omega) (by omega)) (by omega) | exact zkk (zK_list (by omega)) (by omega) | assumption)
      rw [hc]
      refine zx_is1 zd14_15 rfl ?_
      refine zx_al0 zd14_16 ?_
      (refine' zx_gfA zd14_17 ?k78 ?r78 ?_); (case k78 => first | exact zkk rfl (by omega) | exact zkk (zK_B0 (by omega)) (by omega) | exact zkk ((zK_B (by omega) (by decide)).trans rfl) (by omega) | exact zkk (zK_row (by omega) (by omega)) (by omega) | exact zkk (zK_file (by omega) (by omega)) (by omega) | exact zkk (zK_byte (by omega) (by omega)) (by omega) | exact zkk (zK_list (by omega)) (by omega) | assumption); (case r78 => first | exact hR.1 _ _ _ rfl | exact hR.2.1 _ (by omega) | exact (hR.2.2.2 _ (by omega)).1.1 | exact (hR.2.2.2 _ (by omega)).1.2.1 | exact (hR.2.2.2 _ (by omega)).1.2.2 | exact (hR.2.2.2 _ (by omega)).2.1.1 | exact (hR.2.2.2 _ (by omega)).2.1.2 | exact (hR.2.2.2 _ (by omega)).2.2.1 _ (by omega) | exact (hR.2.2.2 _ (by omega)).2.2.2 _ (by omega) | exact hR.2.2.1 _ (by omega) | assumption | exact (hF _ (by omega)).1)
      refine zx_il1 zd14_20 ?_
      first | ((with_reducible refine' zx_aaldAN zd14_21 ?k80 ?j80 ?r80 ?_); (case k80 => first | exact zkk rfl (by omega) | exact zkk (zK_B0 (by omega)) (by omega) | exact zkk ((zK_B (by omega) (by decide)).trans rfl) (by omega) | exact zkk (zK_row (by omega) (by omega)) (by omega) | exact zkk (zK_file (by omega) (by omega)) (by omega) | exact zkk (zK_byte (by omega) (by omega)) (by omega) | exact zkk (zK_list (by omega)) (by omega) | assumption); (case j80 => omega); (case r80 => first | exact hR.1 _ _ _ rfl | exact hR.2.1 _ (by omega) | exact (hR.2.2.2 _ (by omega)).1.1 | exact (hR.2.2.2 _ (by omega)).1.2.1 | exact (hR.2.2.2 _ (by omega)).1.2.2 | exact (hR.2.2.2 _ (by omega)).2.1.1 | exact (hR.2.2.2 _ (by omega)).2.1.2 | exact (hR.2.2.2 _ (by omega)).2.2.1 _ (by omega) | exact (hR.2.2.2 _ (by omega)).2.2.2 _ (by omega) | exact hR.2.2.1 _ (by omega) | assumption | exact (hF _ (by omega)).1)) | ((with_reducible refine' zx_aaldON zd14_21 ?k80 ?j80 ?r80 ?_); (case k80 => first | exact zkk rfl (by omega) | exact zkk (zK_B0 (by omega)) (by omega) | exact zkk ((zK_B (by omega) (by decide)).trans rfl) (by omega) | exact zkk (zK_row (by omega) (by omega)) (by omega) | exact zkk (zK_file (by omega) (by omega)) (by omega) | exact zkk (zK_byte (by omega) (by omega)) (by omega) | exact zkk (zK_list (by omega)) (by omega) | assumption); (case j80 => omega); (case r80 => first | exact hR.1 _ _ _ rfl | exact hR.2.1 _ (by omega) | exact (hR.2.2.2 _ (by omega)).1.1 | exact (hR.2.2.2 _ (by omega)).1.2.1 | exact (hR.2.2.2 _ (by omega)).1.2.2 | exact (hR.2.2.2 _ (by omega)).2.1.1 | exact (hR.2.2.2 _ (by omega)).2.1.2 | exact (hR.2.2.2 _ (by omega)).2.2.1 _ (by omega) | exact (hR.2.2.2 _ (by omega)).2.2.2 _ (by omega) | exact hR.2.2.1 _ (by omega) | assumption | exact (hF _ (by omega)).1))
      refine zx_as2 zd14_22 rfl ?_
      refine zx_al2 zd14_23 ?_
      (refine zx_cv0V zd14_24 ?k83 (hrs) ?_); (case k83 => first | exact zkk rfl (by omega) | exact zkk (zK_B0 (by omega)) (by omega) | exact zkk ((zK_B (by omega) (by decide)).trans rfl) (by omega) | exact zkk (zK_row (by omega) (by omega)) (by omega) | exact zkk (zK_file (by omega) (by omega)) (by omega) | exact zkk (zK_byte (by omega) (by omega)) (by omega) | exact zkk (zK_list (by omega)) (by omega) | assumption)
      have hR := o3
      refine zx_al2 zd14_27 ?_
      (refine' zx_gfO zd14_28 ?k85 ?r85 ?_); (case k85 => first | exact zkk rfl (by omega) | exact zkk (zK_B0 (by omega)) (by omega) | exact zkk ((zK_B (by omega) (by decide)).trans rfl) (by omega) | exact zkk (zK_row (by omega) (by omega)) (by omega) | exact zkk (zK_file (by omega) (by omega)) (by omega) | exact zkk (zK_byte (by omega) (by omega)) (by omega) | exact zkk (zK_list (by omega)) (by omega) | assumption); (case r85 => first | exact hR.1 _ _ _ rfl | exact hR.2.1 _ (by omega) | exact (hR.2.2.2 _ (by omega)).1.1 | exact (hR.2.2.2 _ (by omega)).1.2.1 | exact (hR.2.2.2 _ (by omega)).1.2.2 | exact (hR.2.2.2 _ (by omega)).2.1.1 | exact (hR.2.2.2 _ (by omega)).2.1.2 | exact (hR.2.2.2 _ (by omega)).2.2.1 _ (by omega) | exact (hR.2.2.2 _ (by omega)).2.2.2 _ (by omega) | exact hR.2.2.1 _ (by omega) | assumption | exact (hF _ (by omega)).1)
      refine zx_al2 zd14_31 ?_
      (refine' zx_gfA zd14_32 ?k87 ?r87 ?_); (case k87 => first | exact zkk rfl (by omega) | exact zkk (zK_B0 (by omega)) (by omega) | exact zkk ((zK_B (by omega) (by decide)).trans rfl) (by omega) | exact zkk (zK_row (by omega) (by omega)) (by omega) | exact zkk (zK_file (by omega) (by omega)) (by omega) | exact zkk (zK_byte (by omega) (by omega)) (by omega) | exact zkk (zK_list (by omega)) (by omega) | assumption); (case r87 => first | exact hR.1 _ _ _ rfl | exact hR.2.1 _ (by omega) | exact (hR.2.2.2 _ (by omega)).1.1 | exact (hR.2.2.2 _ (by omega)).1.2.1 | exact (hR.2.2.2 _ (by omega)).1.2.2 | exact (hR.2.2.2 _ (by omega)).2.1.1 | exact (hR.2.2.2 _ (by omega)).2.1.2 | exact (hR.2.2.2 _ (by omega)).2.2.1 _ (by omega) | exact (hR.2.2.2 _ (by omega)).2.2.2 _ (by omega) | exact hR.2.2.1 _ (by omega) | assumption | exact (hF _ (by omega)).1)
      refine zx_al2 zd14_35 ?_
      (refine zx_gfI zd14_36 ?k89 ?_); (case k89 => first | exact zkk rfl (by omega) | exact zkk (zK_B0 (by omega)) (by omega) | exact zkk ((zK_B (by omega) (by decide)).trans rfl) (by omega) | exact zkk (zK_row (by omega) (by omega)) (by omega) | exact zkk (zK_file (by omega) (by omega)) (by omega) | exact zkk (zK_byte (by omega) (by omega)) (by omega) | exact zkk (zK_list (by omega)) (by omega) | assumption)
      rw [hn]
      refine zx_al0 zd14_39 ?_
      (refine' zx_gfO zd14_40 ?k91 ?r91 ?_); (case k91 => first | exact zkk rfl (by omega) | exact zkk (zK_B0 (by omega)) (by omega) | exact zkk ((zK_B (by omega) (by decide)).trans rfl) (by omega) | exact zkk (zK_row (by omega) (by omega)) (by omega) | exact zkk (zK_file (by omega) (by omega)) (by omega) | exact zkk (zK_byte (by omega) (by omega)) (by omega) | exact zkk (zK_list (by omega)) (by omega) | assumption); (case r91 => first | exact hR.1 _ _ _ rfl | exact hR.2.1 _ (by omega) | exact (hR.2.2.2 _ (by omega)).1.1 | exact (hR.2.2.2 _ (by omega)).1.2.1 | exact (hR.2.2.2 _ (by omega)).1.2.2 | exact (hR.2.2.2 _ (by omega)).2.1.1 | exact (hR.2.2.2 _ (by omega)).2.1.2 | exact (hR.2.2.2 _ (by omega)).2.2.1 _ (by omega) | exact (hR.2.2.2 _ (by omega)).2.2.2 _ (by omega) | exact hR.2.2.1 _ (by omega) | assumption | exact (hF _ (by omega)).1)
      (refine zx_cv3V zd14_43 ?k92 (hr1) ?_); (case k92 => first | exact zkk rfl (by omega) | exact zkk (zK_B0 (by omega)) (by omega) | exact zkk ((zK_B (by omega) (by decide)).trans rfl) (by omega) | exact zkk (zK_row (by omega) (by omega)) (by omega) | exact zkk (zK_file (by omega) (by omega)) (by omega) | exact zkk (zK_byte (by omega) (by omega)) (by omega) | exact zkk (zK_list (by omega)) (by omega) | assumption)
      have hC1 := hf1.cs hC
      refine zx_al0 zd14_46 ?_
      (refine' zx_gfO zd14_47 ?k94 ?r94 ?_); (case k94 => first | exact zkk rfl (by omega) | exact zkk (zK_B0 (by omega)) (by omega) | exact zkk ((zK_B (by omega) (by decide)).trans rfl) (by omega) | exact zkk (zK_row (by omega) (by omega)) (by omega) | exact zkk (zK_file (by omega) (by omega)) (by omega) | exact zkk (zK_byte (by omega) (by omega)) (by omega) | exact zkk (zK_list (by omega)) (by omega) | assumption); (case r94 => first | exact hR.1 _ _ _ rfl | exact hR.2.1 _ (by omega) | exact (hR.2.2.2 _ (by omega)).1.1 | exact (hR.2.2.2 _ (by omega)).1.2.1 | exact (hR.2.2.2 _ (by omega)).1.2.2 | exact (hR.2.2.2 _ (by omega)).2.1.1 | exact (hR.2.2.2 _ (by omega)).2.1.2 | exact (hR.2.2.2 _ (by omega)).2.2.1 _ (by omega) | exact (hR.2.2.2 _ (by omega)).2.2.2 _ (by omega) | exact hR.2.2.1 _ (by omega) | assumption | exact (hF _ (by omega)).1)
      obtain ⟨I2, hr2, hd2, hf2⟩ := zs_begin (L := L) (U := U) (J := J) r0 (show 6 < N by omega) hC1
      (refine zx_cv0V zd14_50 ?k95 (hr2) ?_); (case k95 => first | exact zkk rfl (by omega) | exact zkk (zK_B0 (by omega)) (by omega) | exact zkk ((zK_B (by omega) (by decide)).trans rfl) (by omega) | exact zkk (zK_row (by omega) (by omega)) (by omega) | exact zkk (zK_file (by omega) (by omega)) (by omega) | exact zkk (zK_byte (by omega) (by omega)) (by omega) | exact zkk (zK_list (by omega)) (by omega) | assumption)
      have hC2 := hf2.cs hC1
      refine zx_al0 zd14_53 ?_
      (refine' zx_gfO zd14_54 ?k97 ?r97 ?_); (case k97 => first | exact zkk rfl (by omega) | exact zkk (zK_B0 (by omega)) (by omega) | exact zkk ((zK_B (by omega) (by decide)).trans rfl) (by omega) | exact zkk (zK_row (by omega) (by omega)) (by omega) | exact zkk (zK_file (by omega) (by omega)) (by omega) | exact zkk (zK_byte (by omega) (by omega)) (by omega) | exact zkk (zK_list (by omega)) (by omega) | assumption); (case r97 => first | exact hR.1 _ _ _ rfl | exact hR.2.1 _ (by omega) | exact (hR.2.2.2 _ (by omega)).1.1 | exact (hR.2.2.2 _ (by omega)).1.2.1 | exact (hR.2.2.2 _ (by omega)).1.2.2 | exact (hR.2.2.2 _ (by omega)).2.1.1 | exact (hR.2.2.2 _ (by omega)).2.1.2 | exact (hR.2.2.2 _ (by omega)).2.2.1 _ (by omega) | exact (hR.2.2.2 _ (by omega)).2.2.2 _ (by omega) | exact hR.2.2.1 _ (by omega) | assumption | exact (hF _ (by omega)).1)
      refine zx_al0 zd14_57 ?_
      (refine' zx_gfA zd14_58 ?k99 ?r99 ?_); (case k99 => first | exact zkk rfl (by omega) | exact zkk (zK_B0 (by omega)) (by omega) | exact zkk ((zK_B (by omega) (by decide)).trans rfl) (by omega) | exact zkk (zK_row (by omega) (by omega)) (by omega) | exact zkk (zK_file (by omega) (by omega)) (by omega) | exact zkk (zK_byte (by omega) (by omega)) (by omega) | exact zkk (zK_list (by omega)) (by omega) | assumption); (case r99 => first | exact hR.1 _ _ _ rfl | exact hR.2.1 _ (by omega) | exact (hR.2.2.2 _ (by omega)).1.1 | exact (hR.2.2.2 _ (by omega)).1.2.1 | exact (hR.2.2.2 _ (by omega)).1.2.2 | exact (hR.2.2.2 _ (by omega)).2.1.1 | exact (hR.2.2.2 _ (by omega)).2.1.2 | exact (hR.2.2.2 _ (by omega)).2.2.1 _ (by omega) | exact (hR.2.2.2 _ (by omega)).2.2.2 _ (by omega) | exact hR.2.2.1 _ (by omega) | assumption | exact (hF _ (by omega)).1)
      refine zx_il1 zd14_61 ?_
      first | ((with_reducible refine' zx_aaldAN zd14_62 ?k101 ?j101 ?r101 ?_); (case k101 => first | exact zkk rfl (by omega) | exact zkk (zK_B0 (by omega)) (by omega) | exact zkk ((zK_B (by omega) (by decide)).trans rfl) (by omega) | exact zkk (zK_row (by omega) (by omega)) (by omega) | exact zkk (zK_file (by omega) (by omega)) (by omega) | exact zkk (zK_byte (by omega) (by omega)) (by omega) | exact zkk (zK_list (by omega)) (by omega) | assumption); (case j101 => omega); (case r101 => first | exact hR.1 _ _ _ rfl | exact hR.2.1 _ (by omega) | exact (hR.2.2.2 _ (by omega)).1.1 | exact (hR.2.2.2 _ (by omega)).1.2.1 | exact (hR.2.2.2 _ (by omega)).1.2.2 | exact (hR.2.2.2 _ (by omega)).2.1.1 | exact (hR.2.2.2 _ (by omega)).2.1.2 | exact (hR.2.2.2 _ (by omega)).2.2.1 _ (by omega) | exact (hR.2.2.2 _ (by omega)).2.2.2 _ (by omega) | exact hR.2.2.1 _ (by omega) | assumption | exact (hF _ (by omega)).1)) | ((with_reducible refine' zx_aaldON zd14_62 ?k101 ?j101 ?r101 ?_); (case k101 => first | exact zkk rfl (by omega) | exact zkk (zK_B0 (by omega)) (by omega) | exact zkk ((zK_B (by omega) (by decide)).trans rfl) (by omega) | exact zkk (zK_row (by omega) (by omega)) (by omega) | exact zkk (zK_file (by omega) (by omega)) (by omega) | exact zkk (zK_byte (by omega) (by omega)) (by omega) | exact zkk (zK_list (by omega)) (by omega) | assumption); (case j101 => omega); (case r101 => first | exact hR.1 _ _ _ rfl | exact hR.2.1 _ (by omega) | exact (hR.2.2.2 _ (by omega)).1.1 | exact (hR.2.2.2 _ (by omega)).1.2.1 | exact (hR.2.2.2 _ (by omega)).1.2.2 | exact (hR.2.2.2 _ (by omega)).2.1.1 | exact (hR.2.2.2 _ (by omega)).2.1.2 | exact (hR.2.2.2 _ (by omega)).2.2.1 _ (by omega) | exact (hR.2.2.2 _ (by omega)).2.2.2 _ (by omega) | exact hR.2.2.1 _ (by omega) | assumption | exact (hF _ (by omega)).1))
      obtain ⟨I3, hr3, hd3, hf3⟩ := zs_putAll (L := L) (U := U) (J := J) r0 r1 (show 6 < N by omega) (a := 416 + c) (n := 32) (zkk (zK_list (by omega)) (by omega)) (by omega) (by decide) hC2 hd2 (by decide)
      (refine zx_cv1V zd14_63 ?k102 (hr3) ?_); (case k102 => first | exact zkk rfl (by omega) | exact zkk (zK_B0 (by omega)) (by omega) | exact zkk ((zK_B (by omega) (by decide)).trans rfl) (by omega) | exact zkk (zK_row (by omega) (by omega)) (by omega) | exact zkk (zK_file (by omega) (by omega)) (by omega) | exact zkk (zK_byte (by omega) (by omega)) (by omega) | exact zkk (zK_list (by omega)) (by omega) | assumption)
      have hC3 := hf3.cs hC2
      have hf13 : zF3 I1 I3 := hf2.trans hf3
      have ht3 : I3 (8 + 37 * c + 2) 2 = Int32.ofNat (zlvl n) := by rw [hf13 _ (by omega) (by omega) (by omega)]; exact hT1.1.1
      have hl4 := hT1.1.2.1
      have hq4 := zq_f hl4
      refine zx_al0 zd14_66 ?_
      (refine' zx_gfO zd14_67 ?k104 ?r104 ?_); (case k104 => first | exact zkk rfl (by omega) | exact zkk (zK_B0 (by omega)) (by omega) | exact zkk ((zK_B (by omega) (by decide)).trans rfl) (by omega) | exact zkk (zK_row (by omega) (by omega)) (by omega) | exact zkk (zK_file (by omega) (by omega)) (by omega) | exact zkk (zK_byte (by omega) (by omega)) (by omega) | exact zkk (zK_list (by omega)) (by omega) | assumption); (case r104 => first | exact hR.1 _ _ _ rfl | exact hR.2.1 _ (by omega) | exact (hR.2.2.2 _ (by omega)).1.1 | exact (hR.2.2.2 _ (by omega)).1.2.1 | exact (hR.2.2.2 _ (by omega)).1.2.2 | exact (hR.2.2.2 _ (by omega)).2.1.1 | exact (hR.2.2.2 _ (by omega)).2.1.2 | exact (hR.2.2.2 _ (by omega)).2.2.1 _ (by omega) | exact (hR.2.2.2 _ (by omega)).2.2.2 _ (by omega) | exact hR.2.2.1 _ (by omega) | assumption | exact (hF _ (by omega)).1)
      refine zx_al2 zd14_70 ?_
      (refine' zx_gfO zd14_71 ?k106 ?r106 ?_); (case k106 => first | exact zkk rfl (by omega) | exact zkk (zK_B0 (by omega)) (by omega) | exact zkk ((zK_B (by omega) (by decide)).trans rfl) (by omega) | exact zkk (zK_row (by omega) (by omega)) (by omega) | exact zkk (zK_file (by omega) (by omega)) (by omega) | exact zkk (zK_byte (by omega) (by omega)) (by omega) | exact zkk (zK_list (by omega)) (by omega) | assumption); (case r106 => first | exact hR.1 _ _ _ rfl | exact hR.2.1 _ (by omega) | exact (hR.2.2.2 _ (by omega)).1.1 | exact (hR.2.2.2 _ (by omega)).1.2.1 | exact (hR.2.2.2 _ (by omega)).1.2.2 | exact (hR.2.2.2 _ (by omega)).2.1.1 | exact (hR.2.2.2 _ (by omega)).2.1.2 | exact (hR.2.2.2 _ (by omega)).2.2.1 _ (by omega) | exact (hR.2.2.2 _ (by omega)).2.2.2 _ (by omega) | exact hR.2.2.1 _ (by omega) | assumption | exact (hF _ (by omega)).1)
      (refine zx_cv0R zd14_74 ?k107 (zc_top hR hN (by omega) ht3 hl4) ?_); (case k107 => first | exact zkk rfl (by omega) | exact zkk (zK_B0 (by omega)) (by omega) | exact zkk ((zK_B (by omega) (by decide)).trans rfl) (by omega) | exact zkk (zK_row (by omega) (by omega)) (by omega) | exact zkk (zK_file (by omega) (by omega)) (by omega) | exact zkk (zK_byte (by omega) (by omega)) (by omega) | exact zkk (zK_list (by omega)) (by omega) | assumption)
      obtain ⟨I4, hr4, hd4, hf4⟩ := zs_putAll (L := L) (U := U) (J := J) r0 r1 (show 6 < N by omega) (a := 8 + 37 * c + 4 + zq (zlvl n)) (n := 32) (zkk (zK_row (by omega) (by omega)) (by omega)) (by omega) (by decide) hC3 hd3 (by rw [List.length_append, zrow_len]; decide)
      (refine zx_cv1V zd14_77 ?k108 (hr4) ?_); (case k108 => first | exact zkk rfl (by omega) | exact zkk (zK_B0 (by omega)) (by omega) | exact zkk ((zK_B (by omega) (by decide)).trans rfl) (by omega) | exact zkk (zK_row (by omega) (by omega)) (by omega) | exact zkk (zK_file (by omega) (by omega)) (by omega) | exact zkk (zK_byte (by omega) (by omega)) (by omega) | exact zkk (zK_list (by omega)) (by omega) | assumption)
      have hC4 := hf4.cs hC3
      have hf14 := hf13.trans hf4
      refine zx_al0 zd14_80 ?_
      (refine' zx_gfO zd14_81 ?k110 ?r110 ?_); (case k110 => first | exact zkk rfl (by omega) | exact zkk (zK_B0 (by omega)) (by omega) | exact zkk ((zK_B (by omega) (by decide)).trans rfl) (by omega) | exact zkk (zK_row (by omega) (by omega)) (by omega) | exact zkk (zK_file (by omega) (by omega)) (by omega) | exact zkk (zK_byte (by omega) (by omega)) (by omega) | exact zkk (zK_list (by omega)) (by omega) | assumption); (case r110 => first | exact hR.1 _ _ _ rfl | exact hR.2.1 _ (by omega) | exact (hR.2.2.2 _ (by omega)).1.1 | exact (hR.2.2.2 _ (by omega)).1.2.1 | exact (hR.2.2.2 _ (by omega)).1.2.2 | exact (hR.2.2.2 _ (by omega)).2.1.1 | exact (hR.2.2.2 _ (by omega)).2.1.2 | exact (hR.2.2.2 _ (by omega)).2.2.1 _ (by omega) | exact (hR.2.2.2 _ (by omega)).2.2.2 _ (by omega) | exact hR.2.2.1 _ (by omega) | assumption | exact (hF _ (by omega)).1)
      refine zx_al0 zd14_84 ?_
      (refine' zx_gfA zd14_85 ?k112 ?r112 ?_); (case k112 => first | exact zkk rfl (by omega) | exact zkk (zK_B0 (by omega)) (by omega) | exact zkk ((zK_B (by omega) (by decide)).trans rfl) (by omega) | exact zkk (zK_row (by omega) (by omega)) (by omega) | exact zkk (zK_file (by omega) (by omega)) (by omega) | exact zkk (zK_byte (by omega) (by omega)) (by omega) | exact zkk (zK_list (by omega)) (by omega) | assumption); (case r112 => first | exact hR.1 _ _ _ rfl | exact hR.2.1 _ (by omega) | exact (hR.2.2.2 _ (by omega)).1.1 | exact (hR.2.2.2 _ (by omega)).1.2.1 | exact (hR.2.2.2 _ (by omega)).1.2.2 | exact (hR.2.2.2 _ (by omega)).2.1.1 | exact (hR.2.2.2 _ (by omega)).2.1.2 | exact (hR.2.2.2 _ (by omega)).2.2.1 _ (by omega) | exact (hR.2.2.2 _ (by omega)).2.2.2 _ (by omega) | exact hR.2.2.1 _ (by omega) | assumption | exact (hF _ (by omega)).1)
      refine zx_il1 zd14_88 ?_
      refine zx_c zd14_89 ?_
      first | with_reducible refine zx_addN zd14_90 ?_ | refine zx_add zd14_90 ?_
      first | ((with_reducible refine' zx_aaldAN zd14_91 ?k116 ?j116 ?r116 ?_); (case k116 => first | exact zkk rfl (by omega) | exact zkk (zK_B0 (by omega)) (by omega) | exact zkk ((zK_B (by omega) (by decide)).trans rfl) (by omega) | exact zkk (zK_row (by omega) (by omega)) (by omega) | exact zkk (zK_file (by omega) (by omega)) (by omega) | exact zkk (zK_byte (by omega) (by omega)) (by omega) | exact zkk (zK_list (by omega)) (by omega) | assumption); (case j116 => omega); (case r116 => first | exact hR.1 _ _ _ rfl | exact hR.2.1 _ (by omega) | exact (hR.2.2.2 _ (by omega)).1.1 | exact (hR.2.2.2 _ (by omega)).1.2.1 | exact (hR.2.2.2 _ (by omega)).1.2.2 | exact (hR.2.2.2 _ (by omega)).2.1.1 | exact (hR.2.2.2 _ (by omega)).2.1.2 | exact (hR.2.2.2 _ (by omega)).2.2.1 _ (by omega) | exact (hR.2.2.2 _ (by omega)).2.2.2 _ (by omega) | exact hR.2.2.1 _ (by omega) | assumption | exact (hF _ (by omega)).1)) | ((with_reducible refine' zx_aaldON zd14_91 ?k116 ?j116 ?r116 ?_); (case k116 => first | exact zkk rfl (by omega) | exact zkk (zK_B0 (by omega)) (by omega) | exact zkk ((zK_B (by omega) (by decide)).trans rfl) (by omega) | exact zkk (zK_row (by omega) (by omega)) (by omega) | exact zkk (zK_file (by omega) (by omega)) (by omega) | exact zkk (zK_byte (by omega) (by omega)) (by omega) | exact zkk (zK_list (by omega)) (by omega) | assumption); (case j116 => omega); (case r116 => first | exact hR.1 _ _ _ rfl | exact hR.2.1 _ (by omega) | exact (hR.2.2.2 _ (by omega)).1.1 | exact (hR.2.2.2 _ (by omega)).1.2.1 | exact (hR.2.2.2 _ (by omega)).1.2.2 | exact (hR.2.2.2 _ (by omega)).2.1.1 | exact (hR.2.2.2 _ (by omega)).2.1.2 | exact (hR.2.2.2 _ (by omega)).2.2.1 _ (by omega) | exact (hR.2.2.2 _ (by omega)).2.2.2 _ (by omega) | exact hR.2.2.1 _ (by omega) | assumption | exact (hF _ (by omega)).1))
      obtain ⟨I5, hr5, hd5, hf5⟩ := zs_finish (L := L) (U := U) (J := J) r0 r1 (show 6 < N by omega) (a := 416 + (c + 1)) (zkk (zK_list (by omega)) (by omega)) (by omega) hC4 hd4 (by rw [List.length_append, zrow_len, List.length_append, zrow_len]; decide)
      (refine zx_cv1V zd14_92 ?k117 (hr5) ?_); (case k117 => first | exact zkk rfl (by omega) | exact zkk (zK_B0 (by omega)) (by omega) | exact zkk ((zK_B (by omega) (by decide)).trans rfl) (by omega) | exact zkk (zK_row (by omega) (by omega)) (by omega) | exact zkk (zK_file (by omega) (by omega)) (by omega) | exact zkk (zK_byte (by omega) (by omega)) (by omega) | exact zkk (zK_list (by omega)) (by omega) | assumption)
      refine zx_al0 zd14_95 ?_
      refine zx_il1 zd14_96 ?_
      refine zx_c zd14_97 ?_
      first | with_reducible refine zx_addN zd14_98 ?_ | refine zx_add zd14_98 ?_
      (refine zx_pfI zd14_99 ?k122 ?a122 ?_); (case k122 => first | exact zkk rfl (by omega) | exact zkk (zK_B0 (by omega)) (by omega) | exact zkk ((zK_B (by omega) (by decide)).trans rfl) (by omega) | exact zkk (zK_row (by omega) (by omega)) (by omega) | exact zkk (zK_file (by omega) (by omega)) (by omega) | exact zkk (zK_byte (by omega) (by omega)) (by omega) | exact zkk (zK_list (by omega)) (by omega) | assumption); (case a122 => omega)
      refine zx_il1 zd14_102 ?_
      refine zx_iret zd14_103 (Or.inl rfl) ?_
      have hf15 : zF4 (416 + (c + 1)) I1 I5 := (hf14.to4).trans hf5
      have hrow : ∀ b, b ≠ 3 → zu I5 3 2 (Int32.ofNat (c + 1)) b = I5 b := fun b hb => by rw [zu_rw, zrw_ne _ _ hb]
      have hrow5 : ∀ b, b ≠ 3 → b ≠ 4 → b ≠ 5 → b ≠ 6 → b ≠ 416 + (c + 1) → zu I5 3 2 (Int32.ofNat (c + 1)) b = I1 b := fun b h3 h4 h5 h6 hb => by rw [hrow b h3]; exact hf15 b h4 h5 h6 hb
      have hwd := zwid_le hn8
      refine ⟨rfl, _, rfl, ⟨⟨?_, hl4, fun k hk => ?_⟩, fun k hk i hi b hb => ?_, fun e b hb => ?_⟩, ?_, fun b hb => ?_, fun b h3 h4 h5 h6 hb hb2 => ?_⟩
      · rw [hrow5 _ (by omega) (by omega) (by omega) (by omega) (by omega)]; exact hT1.1.1
      · rw [hrow5 _ (by omega) (by omega) (by omega) (by omega) (by omega)]; exact hT1.1.2.2 k hk
      · have hk4 : k < 4 := by omega
        have hz1 := zwid_cp hn8 hk4
        have hz2 := zq_f hk4
        rw [hrow5 _ (by omega) (by omega) (by omega) (by omega) (by omega)]; exact hT1.2.1 k hk i hi b hb
      · rw [hrow5 _ (by omega) (by omega) (by omega) (by omega) (by omega)]; exact hT1.2.2 e b hb
      · rw [zu_rw, zrw_at, hf15 3 (by decide) (by decide) (by decide) (by omega), hf1 3 (by decide) (by decide) (by decide) (by omega)]
      · rw [hrow _ (by omega), show 416 + c + 1 = 416 + (c + 1) by omega, hd5, zfill_in0 _ _ _ hb, hrow5 _ (by omega) (by omega) (by omega) (by omega) (by omega)]
        have e1 : I2 (416 + c) = I (416 + c) := by rw [hf2 _ (by omega) (by omega) (by omega)]; exact hf1 _ (by omega) (by omega) (by omega) (by omega)
        have e2 : I3 (8 + 37 * c + 4 + zq (zlvl n)) = I1 (8 + 37 * c + 4 + zq (zlvl n)) := hf13 _ (by omega) (by omega) (by omega)
        rw [e1, e2, zrow_eq (fun i hi => by rw [Nat.zero_add]; exact hl8 i hi), zrow_eq (fun i hi => ?_)]
        · rfl
        · rw [Nat.zero_add]
          by_cases h0 : n = 0
          · subst h0
            have z0 : zq (zlvl 0) = 0 := rfl
            rw [show 8 + 37 * c + 4 + zq (zlvl 0) = 8 + 37 * c + 4 by omega, hT1.2.2 rfl i hi]
            exact zb8_sha _ _
          · have hw1 : 0 < zwid n (zlvl n) := by
              have key : ∀ a : Fin 9, a.val ≠ 0 → 0 < zwid a.val (zlvl a.val) := by decide
              exact key ⟨n, by omega⟩ h0
            show zb8 (I1 (8 + 37 * c + 4 + (zq (zlvl n) + 0)) i)
            rw [hT1.2.1 (zlvl n) (Nat.le_refl _) 0 hw1 i hi]
            exact zlev_b8 (fun i _ b _ => zb8_sha _ _) _ 0 hw1 i hi
      · rw [hrow5 b h3 h4 h5 h6 (by omega)]
        exact hf1 b h4 h5 h6 hb2
    · omega
  obtain ⟨k, hr, I', rfl, hd⟩ := zRet_of w
  exact ⟨I', R', s, hr, ⟨o1, o2, o3, o4, o5⟩, hd⟩
end ZC9
