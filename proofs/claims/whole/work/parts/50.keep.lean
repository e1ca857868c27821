/-! THE INVARIANT: at the start, and after each change -/
theorem zInv_0 {I : zI} {R : zR} (h : zSi I R) : zInv 0 459 I R := by
  obtain ⟨⟨h1, h2⟩, h3, h4, h5, h6, h7, h8, h9⟩ := h
  have hFc : ∀ r, r < 11 → zFc I r (fun _ => 0) (fun _ => 0) := fun r hr o ho => ⟨⟨h4 _ 0 (by omega) (by omega) (by omega), (by decide : 0 < 65536)⟩, ⟨h4 _ 2 (by omega) (by omega) (by omega), (by decide : 0 ≤ 64)⟩, fun k hk => absurd hk (Nat.not_lt_zero k)⟩
  refine ⟨⟨⟨h8, Nat.le_refl _, h1, h2, zMg0 (h7 436 2 (by decide) (by decide) (by decide))⟩, h3 2, h7 436 8 (by decide) (by decide) (by decide), by decide⟩, ⟨fun r hr => absurd hr (by omega), ⟨0, fun _ => 0, fun _ => 0, ⟨by decide, h4 _ 1 (by decide) (by decide) (by decide), h7 443 10 (by decide) (by decide) (by decide)⟩, h9 0 (by decide), h4 _ 2 (by decide) (by decide) (by decide), hFc 0 (by decide), fun _ _ _ => rfl, fun a b _ hb => absurd hb (by omega), fun j hj => absurd hj (by omega)⟩, fun r hr1 hr2 => ⟨h4 _ 1 (by omega) (by omega) (by omega), h9 r hr2, h4 _ 2 (by omega) (by omega) (by omega), hFc r hr2⟩⟩,
    ⟨fun r hr p hp => Or.inl ⟨h5 r (by omega) p hp, h7 451 _ (by decide) (by decide) (by decide)⟩, ⟨fun r hr => ⟨0, by decide, h4 _ 4 (by omega) (by omega) (by omega), h7 452 _ (by decide) (by decide) (by decide)⟩, ?_⟩, ⟨0, by decide, h3 6, h7 436 22 (by decide) (by decide) (by decide), fun k hk => absurd hk (by omega)⟩, ⟨0, by decide, h7 428 4 (by decide) (by decide) (by decide), h7 436 24 (by decide) (by decide) (by decide), fun k hk => absurd hk (by omega)⟩⟩, ⟨0, fun _ => 0, ⟨h7 433 1 (by decide) (by decide) (by decide), by decide, fun i hi => absurd hi (by omega)⟩, h7 436 17 (by decide) (by decide) (by decide), by decide, fun i hi => absurd hi (by omega)⟩, fun k hk b hb => ?_⟩
  · rw [h3 4, h7 436 21 (by decide) (by decide) (by decide)]
  · obtain rfl : k = 0 := by omega
    exact h6 b hb
/-- all but the open release is as it was -/
theorem zInv_op {c N : Nat} {I I' : zI} {R : zR} (h : zInv c N I R) (hm : zMg [] I') (he : ∀ a k, ¬ (zSo c a k ∨ (a = 436 ∧ k = 0)) → I' a k = I a k) (ho : zOp I' R c) : zInv c N I' R := by
  obtain ⟨⟨a1, a2, a3, a4⟩, ⟨b1, b2, b3⟩, ⟨c1, c2, c3, c4⟩, d1, e1⟩ := h
  refine ⟨⟨zBs_c (Nat.le_refl N) hm (fun a k hk => he a k (by unfold zSb at hk; unfold zSo zSn; omega)) a1, ?_, ?_, a4⟩, ⟨fun r hr => zCd_c rfl (fun a k hk => he a k (by unfold zSd at hk; unfold zSo zSn; omega)) (b1 r hr), ho, fun r h1 h2 => zNw_c rfl (fun a k hk => he a k (by unfold zSn at hk; unfold zSo zSn; omega)) (b3 r h1 h2)⟩,
    ⟨zPr_c (fun a k hk => he a k (by unfold zSp at hk; unfold zSo zSn; omega)) c1, zWi_c (fun a k hk => he a k (by unfold zSw at hk; unfold zSo zSn; omega)) c2, zSr_c (fun a k hk => he a k (by unfold zSs at hk; unfold zSo zSn; omega)) c3, zEv_c (fun a k hk => he a k (by unfold zSe at hk; unfold zSo zSn; omega)) c4⟩, zCk_c (fun a k hk => he a k (by unfold zSk at hk; unfold zSo zSn; omega)) d1, zLi_c a4 (fun a k hk => he a k (by unfold zSl at hk; unfold zSo zSn; omega)) e1⟩
  · rw [he _ _ (by unfold zSo zSn; omega)]; exact a2
  · rw [he _ _ (by unfold zSo zSn; omega)]; exact a3
/-- a file comes -/
theorem zOp_file {c n x : Nat} {I I' : zI} {R : zR} {nm ln : Nat → Nat} (h : zOpd I R c n nm ln) (hn : n < 8) (hx : x < 65536) (hne : ∀ j, j < n → nm j ≠ x) (he : ∀ a k, ¬ ((a = 8 + 37 * c + 21 + 2 * n ∧ k = 0) ∨ (a = 8 + 37 * c ∧ k = 1) ∨ (a = 436 ∧ k = 0) ∨ (a = 444 ∧ k = 80 + n) ∨ (a = 445 ∧ k = 80 + n) ∨ (a = 443 ∧ k = 10)) → I' a k = I a k)
    (hc : c ≤ 10) (e1 : I' (8 + 37 * c + 21 + 2 * n) 0 = Int32.ofNat x) (e2 : I' (8 + 37 * c) 1 = Int32.ofNat (n + 1)) (e3 : I' 444 (80 + n) = Int32.ofNat x) (e4 : I' 445 (80 + n) = Int32.ofNat 0) (e5 : I' 443 10 = Int32.ofNat (n + 1)) : zOpd I' R c (n + 1) (zup nm n x) ln := by
  obtain ⟨⟨h1, h2, h3⟩, h4, h5, h6, h7, h8, h9⟩ := h
  refine ⟨⟨by omega, e2, e5⟩, h4, ?_, fun o ho => ?_, fun j hj hj8 => h7 j (by omega) hj8, fun a b hab hb => ?_, fun j hj => ?_⟩
  · rw [he _ _ (by omega)]; exact h5
  · obtain ⟨g1, g2, g3⟩ := h6 o ho
    by_cases e : o = n
    · subst e
      refine ⟨⟨by rw [e1, zup_at], by rw [zup_at]; exact hx⟩, ⟨by rw [he _ _ (by omega)]; exact g2.1, g2.2⟩, fun k hk => ?_⟩
      rw [h7 o (by omega) ho] at hk
      exact absurd hk (by omega)
    · refine ⟨⟨by rw [he _ _ (by omega), zup_ne _ _ e]; exact g1.1, by rw [zup_ne _ _ e]; exact g1.2⟩, ⟨by rw [he _ _ (by omega)]; exact g2.1, g2.2⟩, fun k hk => ?_⟩
      rw [he _ _ (by omega)]; exact g3 k hk
  · by_cases e : b = n
    · rw [e, zup_at, zup_ne _ _ (by omega)]; exact hne a (by omega)
    · rw [zup_ne _ _ e, zup_ne _ _ (by omega)]; exact h8 a b hab (by omega)
  · by_cases e : j = n
    · subst e
      refine ⟨by rw [e3, zup_at], by rw [e4, h7 j (by omega) (by omega)], fun k hk => ?_⟩
      rw [h7 j (by omega) (by omega)] at hk
      exact absurd hk (by omega)
    · obtain ⟨g1, g2, g3⟩ := h9 j (by omega)
      refine ⟨by rw [he _ _ (by omega), zup_ne _ _ e]; exact g1, by rw [he _ _ (by omega)]; exact g2, fun k hk => ?_⟩
      rw [he _ _ (by omega), he _ _ (by omega)]; exact g3 k hk
/-- a byte comes -/
theorem zOp_byte {c n j l b : Nat} {I I' : zI} {R : zR} {nm ln : Nat → Nat} (h : zOpd I R c n nm ln) (hj : j < n) (hl : ln j = l) (hl6 : l < 64) (hb : zb8 (Int32.ofNat b)) (hc : c ≤ 10) (he : ∀ a k, ¬ ((a = 8 + 37 * c + 22 + 2 * j ∧ k = l) ∨ (a = 8 + 37 * c + 21 + 2 * j ∧ k = 2) ∨ (a = 436 ∧ k = 0) ∨ (a = 446 ∧ k = 64 * (80 + j) + l) ∨ (a = 445 ∧ k = 80 + j)) → I' a k = I a k)
    (e1 : I' (8 + 37 * c + 22 + 2 * j) l = Int32.ofNat b) (e2 : I' (8 + 37 * c + 21 + 2 * j) 2 = Int32.ofNat (l + 1)) (e3 : I' 446 (64 * (80 + j) + l) = Int32.ofNat b) (e4 : I' 445 (80 + j) = Int32.ofNat (l + 1)) : zOpd I' R c n nm (zup ln j (l + 1)) := by
  obtain ⟨⟨h1, h2, h3⟩, h4, h5, h6, h7, h8, h9⟩ := h
  refine ⟨⟨h1, ?_, ?_⟩, h4, ?_, fun o ho => ?_, fun q hq hq8 => ?_, h8, fun q hq => ?_⟩
  · rw [he _ _ (by omega)]; exact h2
  · rw [he _ _ (by omega)]; exact h3
  · rw [he _ _ (by omega)]; exact h5
  · obtain ⟨g1, g2, g3⟩ := h6 o ho
    by_cases e : o = j
    · subst e
      refine ⟨⟨by rw [he _ _ (by omega)]; exact g1.1, g1.2⟩, ⟨by rw [e2, zup_at], by rw [zup_at]; omega⟩, fun k hk => ?_⟩
      rw [zup_at] at hk
      by_cases ek : k = l
      · rw [ek, e1]; exact hb
      · rw [he _ _ (by omega)]; exact g3 k (by omega)
    · refine ⟨⟨by rw [he _ _ (by omega)]; exact g1.1, g1.2⟩, ⟨by rw [he _ _ (by omega), zup_ne _ _ e]; exact g2.1, by rw [zup_ne _ _ e]; exact g2.2⟩, fun k hk => ?_⟩
      rw [zup_ne _ _ e] at hk
      rw [he _ _ (by omega)]; exact g3 k hk
  · rw [zup_ne _ _ (by omega)]; exact h7 q hq hq8
  · obtain ⟨g1, g2, g3⟩ := h9 q hq
    have hlq := (h6 q (by omega)).2.1.2
    by_cases e : q = j
    · subst e
      refine ⟨by rw [he _ _ (by omega)]; exact g1, by rw [e4, zup_at], fun k hk => ?_⟩
      rw [zup_at] at hk
      by_cases ek : k = l
      · rw [ek, e1, e3]
      · rw [he _ _ (by omega), he _ _ (by omega)]; exact g3 k (by omega)
    · refine ⟨by rw [he _ _ (by omega)]; exact g1, by rw [he _ _ (by omega), zup_ne _ _ e]; exact g2, fun k hk => ?_⟩
      rw [zup_ne _ _ e] at hk
      rw [he _ _ (by omega), he _ _ (by omega)]; exact g3 k hk
/-- all but the check is as it was -/
theorem zInv_ck {c N : Nat} {I I' : zI} {R : zR} (h : zInv c N I R) (hm : zMg [] I') (he : ∀ a k, ¬ (zSk a k ∨ (a = 436 ∧ k = 0)) → I' a k = I a k) (ho : zCk I') : zInv c N I' R := by
  obtain ⟨⟨a1, a2, a3, a4⟩, ⟨b1, b2, b3⟩, ⟨c1, c2, c3, c4⟩, d1, e1⟩ := h
  refine ⟨⟨zBs_c (Nat.le_refl N) hm (fun a k hk => he a k (by unfold zSb at hk; unfold zSk; omega)) a1, ?_, ?_, a4⟩, ⟨fun r hr => zCd_c rfl (fun a k hk => he a k (by unfold zSd at hk; unfold zSk; omega)) (b1 r hr), zOp_c rfl (fun a k hk => he a k (by unfold zSo zSn at hk; unfold zSk; omega)) b2, fun r h1 h2 => zNw_c rfl (fun a k hk => he a k (by unfold zSn at hk; unfold zSk; omega)) (b3 r h1 h2)⟩,
    ⟨zPr_c (fun a k hk => he a k (by unfold zSp at hk; unfold zSk; omega)) c1, zWi_c (fun a k hk => he a k (by unfold zSw at hk; unfold zSk; omega)) c2, zSr_c (fun a k hk => he a k (by unfold zSs at hk; unfold zSk; omega)) c3, zEv_c (fun a k hk => he a k (by unfold zSe at hk; unfold zSk; omega)) c4⟩, ho, zLi_c a4 (fun a k hk => he a k (by unfold zSl at hk; unfold zSk; omega)) e1⟩
  · rw [he _ _ (by unfold zSk; omega)]; exact a2
  · rw [he _ _ (by unfold zSk; omega)]; exact a3
/-- all but roles, withdrawals, serial numbers and events is as it was -/
theorem zInv_ev {c N : Nat} {I I' : zI} {R : zR} (h : zInv c N I R) (hm : zMg [] I') (he : ∀ a k, ¬ ((zSp a k ∨ zSw a k ∨ zSs a k ∨ zSe a k) ∨ (a = 436 ∧ k = 0)) → I' a k = I a k) (h1 : zPr I') (h2 : zWi I') (h3 : zSr I') (h4 : zEv I') : zInv c N I' R := by
  obtain ⟨⟨a1, a2, a3, a4⟩, ⟨b1, b2, b3⟩, ⟨c1, c2, c3, c4⟩, d1, e1⟩ := h
  refine ⟨⟨zBs_c (Nat.le_refl N) hm (fun a k hk => he a k (by unfold zSb at hk; unfold zSp zSw zSs zSe; omega)) a1, ?_, ?_, a4⟩, ⟨fun r hr => zCd_c rfl (fun a k hk => he a k (by unfold zSd at hk; unfold zSp zSw zSs zSe; omega)) (b1 r hr), zOp_c rfl (fun a k hk => he a k (by unfold zSo zSn at hk; unfold zSp zSw zSs zSe; omega)) b2, fun r h1 h2 => zNw_c rfl (fun a k hk => he a k (by unfold zSn at hk; unfold zSp zSw zSs zSe; omega)) (b3 r h1 h2)⟩,
    ⟨h1, h2, h3, h4⟩, zCk_c (fun a k hk => he a k (by unfold zSk at hk; unfold zSp zSw zSs zSe; omega)) d1, zLi_c a4 (fun a k hk => he a k (by unfold zSl at hk; unfold zSp zSw zSs zSe; omega)) e1⟩
  · rw [he _ _ (by unfold zSp zSw zSs zSe; omega)]; exact a2
  · rw [he _ _ (by unfold zSp zSw zSs zSe; omega)]; exact a3
/-- a release is closed on both sides -/
theorem zwid_tp {n : Nat} (h0 : 0 < n) (hn : n ≤ 8) : zwid n (zlvl n) = 1 := by
  have : ∀ m : Fin 9, 0 < m.val → zwid m.val (zlvl m.val) = 1 := by decide
  exact this ⟨n, by omega⟩ h0
theorem zInv_cl {c c1 N n : Nat} {I I1 I2 : zI} {R R' : zR} {nm ln s : Nat → Nat} {D : Nat → Nat → Int32} (h : zInv c N I R) (hc1 : c1 = c + 1) (hc10 : c < 10) (hO : zOpd I R c n nm ln) (ho : zOrd s nm n) (hR' : zRs R') (hF : zFl R' c s) (hFr : zFr c R R')
    (hT : zTree I1 c n (fun j => zsha (zlm (nm (s j)) (ln (s j)) (I (8 + 37 * c + 22 + 2 * s j)) 0))) (h3 : I1 3 = zup (I 3) 2 (Int32.ofNat c1)) (hl : ∀ b, b < 32 → I1 (416 + c1) b = zsha (zrw0 (I (416 + c)) 0 32 ++ zrw0 (I1 (8 + 37 * c + 4 + zq (zlvl n))) 0 32) b)
    (h1 : ∀ b, b ≠ 3 → b ≠ 4 → b ≠ 5 → b ≠ 6 → b ≠ 416 + c1 → (b < 8 + 37 * c + 2 ∨ 8 + 37 * c + 19 < b) → I1 b = I b) (hm2 : zMg [] I2) (hD : ∀ j, j < n → D j = zsha (zlm (nm (s j)) (ln (s j)) (I1 446) (64 * (80 + s j)))) (h2 : zClo I1 I2 c n s D) : zInv c1 N I2 R' := by
  obtain ⟨⟨⟨a1, a2, a3, a4, a5⟩, a6, a7, a8⟩, ⟨b1, b2, b3⟩, ⟨c1', c2, c3, c4⟩, d1, e1⟩ := h
  obtain ⟨⟨o1, o2, o3⟩, o4, o5, o6, o7, o8, o9⟩ := hO
  obtain ⟨⟨m0, m1, m2, m3, m4, G, m5, m6⟩, m7, m8, m9⟩ := h2
  have h3' := zlvl_l3 n
  have hq3 := zq_f (show zlvl n < 4 by omega)
  have hlow : ∀ a, a < 436 → I2 a = I1 a := fun a ha => m7 a (by omega) (by omega)
  have g30 : I1 443 = I 443 := h1 443 (by omega) (by omega) (by omega) (by omega) (by omega) (by omega)
  have g31 : I1 444 = I 444 := h1 444 (by omega) (by omega) (by omega) (by omega) (by omega) (by omega)
  have g32 : I1 445 = I 445 := h1 445 (by omega) (by omega) (by omega) (by omega) (by omega) (by omega)
  have g33 : I1 446 = I 446 := h1 446 (by omega) (by omega) (by omega) (by omega) (by omega) (by omega)
  have g34 : I1 447 = I 447 := h1 447 (by omega) (by omega) (by omega) (by omega) (by omega) (by omega)
  have g35 : I1 448 = I 448 := h1 448 (by omega) (by omega) (by omega) (by omega) (by omega) (by omega)
  have g23 : I1 436 = I 436 := h1 436 (by omega) (by omega) (by omega) (by omega) (by omega) (by omega)
  have hout : ∀ a, a ≠ 3 → a ≠ 4 → a ≠ 5 → a ≠ 6 → a ≠ 416 + c1 → (a < 8 + 37 * c + 2 ∨ 8 + 37 * c + 19 < a) → a ≠ 436 → (a < 438 ∨ 449 < a) → I2 a = I a := fun a k1 k2 k3 k4 k5 k6 k7 k8 => (m7 a k7 k8).trans (h1 a k1 k2 k3 k4 k5 k6)
  have q30 : ∀ k, k ≠ c → k ≠ 10 → I2 443 k = I 443 k := fun k k1 k2 => by rw [m0, zup_ne _ _ k2, zup_ne _ _ k1, g30]
  have q31 : ∀ k, ¬ (8 * c ≤ k ∧ k < 8 * c + n) → I2 444 k = I 444 k := fun k hk => by rw [m1, zfill_out _ _ _ _ hk, g31]
  have q32 : ∀ k, ¬ (8 * c ≤ k ∧ k < 8 * c + n) → I2 445 k = I 445 k := fun k hk => by rw [m2, zfill_out _ _ _ _ hk, g32]
  have q33 : ∀ k, ¬ (512 * c ≤ k ∧ k < 512 * c + 64 * n) → I2 446 k = I 446 k := fun k hk => by rw [m3, zfill_out _ _ _ _ hk, g33]
  have q34 : ∀ k, ¬ (256 * c ≤ k ∧ k < 256 * c + 32 * n) → I2 447 k = I 447 k := fun k hk => by rw [m4, zfill_out _ _ _ _ hk, g34]
  have q35 : ∀ k, ¬ (32 * c ≤ k ∧ k < 32 * c + 32) → I2 448 k = I 448 k := fun k hk => by rw [m5, zfill_out _ _ _ _ hk, g35]
  have q23 : ∀ f, f ≠ 0 → f ≠ 2 → f ≠ 8 → f ≠ 15 → I2 436 f = I 436 f := fun f k1 k2 k3 k4 => by rw [m9 f k1 k2 k3 k4, g23]
  have q3 : ∀ f, f ≠ 2 → I2 3 f = I 3 f := fun f hf => by rw [hlow 3 (by decide), h3, zup_ne _ _ hf]
  have hDD : ∀ i, i < n → ∀ b, b < 32 → zsha (zlm (nm (s i)) (ln (s i)) (I (8 + 37 * c + 22 + 2 * s i)) 0) b = D i b := fun i hi b hb => by
    rw [hD i hi]
    have hsi := ho.2.1 i hi
    have e : zrw0 (I (8 + 37 * c + 22 + 2 * s i)) 0 (ln (s i)) = zrw0 (I1 446) (64 * (80 + s i)) (ln (s i)) := zrw0_congr (fun k hk => by rw [Nat.zero_add, g33]; exact ((o9 (s i) hsi).2.2 k hk).symm)
    unfold zlm
    rw [e]
  have htop : ∀ b, b < 32 → I1 (8 + 37 * c + 4 + zq (zlvl n)) b = I2 448 (32 * c + b) := fun b hb => by
    rw [m5, zfill_in _ _ _ _ hb, m6 b hb]
    rcases Nat.eq_zero_or_pos n with e | e
    · rw [if_pos e]
      subst e
      have z0 : zq (zlvl 0) = 0 := rfl
      rw [show 8 + 37 * c + 4 + zq (zlvl 0) = 8 + 37 * c + 4 by omega]
      exact hT.2.2 rfl b hb
    · rw [if_neg (by omega)]
      have k1 : I1 (8 + 37 * c + 4 + zq (zlvl n)) b = _ := hT.2.1 (zlvl n) (Nat.le_refl _) 0 (by rw [zwid_tp e o1]; decide) b hb
      rw [k1]
      exact zlev_cg hDD (zlvl n) 0 (by rw [zwid_tp e o1]; decide) b hb
  refine ⟨⟨⟨hR', a2, ⟨fun j hj => ?_, fun j hj => ?_⟩, fun j hj => ?_, hm2⟩, ?_, ?_, by omega⟩, ⟨fun r hr => ?_, ⟨0, fun _ => 0, fun _ => 0, ?_⟩, fun r hr1 hr2 => ?_⟩, ⟨zPr_c (fun a k hk => ?_) c1', zWi_c (fun a k hk => ?_) c2, zSr_c (fun a k hk => ?_) c3, zEv_c (fun a k hk => ?_) c4⟩, zCk_c (fun a k hk => ?_) d1, fun k hk b hb => ?_⟩
  · rw [hout 1 (by omega) (by omega) (by omega) (by omega) (by omega) (by omega) (by omega) (by omega)]; exact a3.1 j hj
  · rw [hout 2 (by omega) (by omega) (by omega) (by omega) (by omega) (by omega) (by omega) (by omega)]; exact a3.2 j hj
  · rw [hout 437 (by omega) (by omega) (by omega) (by omega) (by omega) (by omega) (by omega) (by omega)]; exact a4 j hj
  · rw [hlow 3 (by decide), h3, zup_at]
  · rw [m8, hc1]
  · by_cases e : r = c
    · subst e
      refine ⟨n, s, fun j => ln (s j), ⟨o1, ?_, ?_⟩, hF, fun j hj => ?_, ?_, fun b hb => ?_⟩
      · rw [hout _ (by omega) (by omega) (by omega) (by omega) (by omega) (by omega) (by omega) (by omega)]; exact o2
      · rw [m0, zup_ne _ _ (by omega), zup_at]
      · have hsj := ho.2.1 j hj
        obtain ⟨f1, f2, f3⟩ := o6 (s j) (by omega)
        obtain ⟨p1, p2, p3⟩ := o9 (s j) hsj
        have ef : I2 (8 + 37 * r + 21 + 2 * s j) = I (8 + 37 * r + 21 + 2 * s j) := hout _ (by omega) (by omega) (by omega) (by omega) (by omega) (by omega) (by omega) (by omega)
        have eg : I2 (8 + 37 * r + 22 + 2 * s j) = I (8 + 37 * r + 22 + 2 * s j) := hout _ (by omega) (by omega) (by omega) (by omega) (by omega) (by omega) (by omega) (by omega)
        refine ⟨?_, ?_, ?_, f2.2, fun k hk => ?_⟩
        · rw [ef, m1, zfill_in _ _ _ _ hj, g31, p1]; exact f1.1
        · rw [ef]; exact f2.1
        · rw [m2, zfill_in _ _ _ _ hj, g32]; exact p2
        · have hl6 := f2.2
          have hk' : k < ln (s j) := hk
          rw [eg, m3, show 64 * (8 * r + j) + k = 512 * r + (64 * j + k) by omega, zfill_in _ _ _ _ (by omega), show (64 * j + k) / 64 = j by omega, show (64 * j + k) % 64 = k by omega, g33]
          exact (p3 k hk').symm
      · refine zTree_row o1 (fun a k ha1 ha2 => by rw [hlow a (by omega)]) (zTree_cg (fun i hi b hb => ?_) hT)
        rw [m4, zfill_in _ _ _ _ (by omega), show (32 * i + b) / 32 = i by omega, show (32 * i + b) % 32 = b by omega]
        exact hDD i hi b hb
      · rw [hlow _ (by omega)]; exact htop b hb
    · refine zCd_c (hFr _ (by omega)) (fun a k hk => ?_) (b1 r (by omega))
      unfold zSd at hk
      rcases hk with hk | hk | hk | hk | hk | hk | hk
      · rw [hout a (by omega) (by omega) (by omega) (by omega) (by omega) (by omega) (by omega) (by omega)]
      · rw [hout a (by omega) (by omega) (by omega) (by omega) (by omega) (by omega) (by omega) (by omega)]
      · rw [hk.1]; exact q30 k (by omega) (by omega)
      · rcases hk.1 with e2 | e2
        · rw [e2]; exact q31 k (by omega)
        · rw [e2]; exact q32 k (by omega)
      · rw [hk.1]; exact q33 k (by omega)
      · rw [hk.1]; exact q34 k (by omega)
      · rw [hk.1]; exact q35 k (by omega)
  · obtain ⟨n1, n2, n3, n4⟩ := b3 c1 (by omega) (by omega)
    refine ⟨⟨by decide, ?_, ?_⟩, zFl_row (hFr _ (by omega)) n2, ?_, zFc_row (fun a k ha1 ha2 => ?_) n4, fun _ _ _ => rfl, fun a b _ hb => absurd hb (by omega), fun j hj => absurd hj (by omega)⟩
    · rw [hout _ (by omega) (by omega) (by omega) (by omega) (by omega) (by omega) (by omega) (by omega)]; exact n1
    · rw [m0, zup_at]
    · rw [hout _ (by omega) (by omega) (by omega) (by omega) (by omega) (by omega) (by omega) (by omega)]; exact n3
    · rw [hout a (by omega) (by omega) (by omega) (by omega) (by omega) (by omega) (by omega) (by omega)]
  · refine zNw_c (hFr _ (by omega)) (fun a k hk => ?_) (b3 r (by omega) hr2)
    unfold zSn at hk
    rw [hout a (by omega) (by omega) (by omega) (by omega) (by omega) (by omega) (by omega) (by omega)]
  · unfold zSp at hk
    rw [hout a (by omega) (by omega) (by omega) (by omega) (by omega) (by omega) (by omega) (by omega)]
  · unfold zSw at hk
    by_cases e3 : a = 3
    · rw [e3]; exact q3 k (by omega)
    · by_cases e23 : a = 436
      · rw [e23]; exact q23 k (by omega) (by omega) (by omega) (by omega)
      · rw [hout a (by omega) (by omega) (by omega) (by omega) (by omega) (by omega) (by omega) (by omega)]
  · unfold zSs at hk
    by_cases e3 : a = 3
    · rw [e3]; exact q3 k (by omega)
    · by_cases e23 : a = 436
      · rw [e23]; exact q23 k (by omega) (by omega) (by omega) (by omega)
      · rw [hout a (by omega) (by omega) (by omega) (by omega) (by omega) (by omega) (by omega) (by omega)]
  · unfold zSe at hk
    by_cases e23 : a = 436
    · rw [e23]; exact q23 k (by omega) (by omega) (by omega) (by omega)
    · rw [hout a (by omega) (by omega) (by omega) (by omega) (by omega) (by omega) (by omega) (by omega)]
  · unfold zSk at hk
    by_cases e23 : a = 436
    · rw [e23]; exact q23 k (by omega) (by omega) (by omega) (by omega)
    · rw [hout a (by omega) (by omega) (by omega) (by omega) (by omega) (by omega) (by omega) (by omega)]
  · by_cases e : k = c1
    · subst e
      rw [hlow _ (by omega), hl b hb]
      have es : zls (I2 448) k = zsha (zrw0 (zls (I2 448) c) 0 32 ++ zrw0 (I2 448) (32 * c) 32) := by rw [hc1]; rfl
      have ez : zls (I2 448) c = zls (I 448) c := zls_cg (fun i hi => q35 i (by omega))
      rw [es, ez]
      have e1' : zrw0 (I (416 + c)) 0 32 = zrw0 (zls (I 448) c) 0 32 := zrw0_congr (fun i hi => by rw [Nat.zero_add]; exact e1 c (Nat.le_refl c) i hi)
      have e2' : zrw0 (I1 (8 + 37 * c + 4 + zq (zlvl n))) 0 32 = zrw0 (I2 448) (32 * c) 32 := zrw0_congr (fun i hi => by rw [Nat.zero_add]; exact htop i hi)
      rw [e1', e2']
    · rw [hout _ (by omega) (by omega) (by omega) (by omega) (by omega) (by omega) (by omega) (by omega), e1 k (by omega) b hb]
      rw [zls_cg (f := I2 448) (g := I 448) (n := k) (fun i hi => q35 i (by omega))]
