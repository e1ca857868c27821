/-! A CALL ON BOTH SIDES: what changes roles, events, the check; close -/
section ZS2
variable {L c N U : Nat} {I : zI} {J : zJ} {R : zR}
theorem zS_poke (h : zInv c N I R) (x y : Int32) : zSt L c N U I J R 75 110 [.ref 436, .int x, .int y] [.ref 3, .int x, .int y, .ref 458] zPb := by
  obtain ⟨⟨⟨hR, hN, hC, hK, hm⟩, hc, hcm, hc10⟩, b0, b1, ⟨q, b, ⟨y1, y2, y3⟩, m1, m2, m3⟩, b4⟩ := id h
  by_cases hx : x < 0 ∨ ¬ x < Int32.ofNat q
  · exact zSt_T h (Or.inl rfl) (zh75_T1 hN (zc_pokeT hR hN y1 hx)) (zm_pokeT (by omega) m1 hx)
  · obtain ⟨j, rfl, hj⟩ := zn_of (fun e => hx (Or.inl e)) (znn (fun e => hx (Or.inr e))) (by omega)
    obtain ⟨m, hm6, em⟩ := zand255 y
    obtain ⟨I1, e1⟩ : ∃ I1 : zI, I1 = zu I 434 j (I 434 j ^^^ y &&& Int32.ofNat 255) := ⟨_, rfl⟩
    have c1 : ∀ a k, ¬ (a = 434 ∧ k = j) → I1 a k = I a k := fun a k hk => by
      rw [e1]; rw [zu_nc hk]
    have ej : I1 450 j = I 434 j := by rw [c1 450 j (by omega), (m3 j hj).1, (y3 j hj).1]
    obtain ⟨I2, e2⟩ : ∃ I2 : zI, I2 = zu (zT I1 0) 450 j (I1 450 j ^^^ y &&& Int32.ofNat 255) := ⟨_, rfl⟩
    have c2 : ∀ a k, ¬ ((a = 436 ∧ k = 0) ∨ (a = 450 ∧ k = j)) → I2 a k = I1 a k := fun a k hk => by
      rw [e2]; rw [zu_nc (by omega), zT_c (by omega)]
    have c3 : ∀ a k, ¬ ((a = 436 ∧ k = 0) ∨ (a = 450 ∧ k = j) ∨ (a = 434 ∧ k = j)) → I2 a k = I a k := fun a k hk => (c2 a k (by omega)).trans (c1 a k (by omega))
    have ev : I 434 j ^^^ y &&& Int32.ofNat 255 = Int32.ofNat (b j ^^^ m) := by rw [em, (y3 j hj).1, zn_xor]
    have hbm : b j ^^^ m < 256 := Nat.xor_lt_two_pow (n := 8) (y3 j hj).2 hm6
    have f1 : I2 434 j = Int32.ofNat (b j ^^^ m) := by rw [c2 434 j (by omega), e1, ← ev]; rw [zu_at]
    have f2 : I2 450 j = Int32.ofNat (b j ^^^ m) := by rw [e2, ej, ← ev]; rw [zu_at]
    have inv : zInv c N I2 R := by
      refine zInv_ck h ⟨(c3 436 2 (by omega)).trans hm.1, fun i hi => absurd hi (by simp)⟩ (fun a k hk => c3 a k (by unfold zSk at hk; omega)) ⟨q, zup b j (b j ^^^ m), ⟨(c3 433 1 (by omega)).trans y1, y2, fun i hi => ?_⟩, (c3 436 17 (by omega)).trans m1, m2, fun i hi => ?_⟩
      · by_cases e : i = j
        · subst e; rw [zup_at]; exact ⟨f1, hbm⟩
        · rw [zup_ne _ _ e, c3 434 i (by omega)]; exact y3 i hi
      · by_cases e : i = j
        · subst e; rw [zup_at]; exact ⟨f2, hbm⟩
        · rw [zup_ne _ _ e, c3 450 i (by omega)]; exact m3 i hi
    have hcl := zc_poke (L := L) (U := U) (J := J) hR hN y1 y2 hj y
    rw [← e1] at hcl
    have hr0 : I1 0 = I 0 := funext fun k => c1 0 k (by omega)
    by_cases hz : y &&& Int32.ofNat 255 = 0
    · rw [if_pos ((zxor_self _ _).mpr hz)] at hcl
      have hq := zm_poke (L := L) (U := U) (I := I1) (J := zu J 458 0 0) (R := R) hR hN ((c1 436 17 (by omega)).trans m1) m2 hj y
      rw [← e2, if_pos hz] at hq
      exact ⟨0, Int32.ofNat 0, N, U, I1, I2, _, zh75_0 hN hN hcl, hq, ⟨hr0, by rw [e2]; rfl, by decide⟩, fun _ => Or.inl ⟨rfl, rfl⟩, ⟨by omega, by omega⟩, inv⟩
    · rw [if_neg (fun e => hz ((zxor_self _ _).mp e))] at hcl
      have hq := zm_poke (L := L) (U := U) (I := I1) (J := zu J 458 0 1) (R := R) hR hN ((c1 436 17 (by omega)).trans m1) m2 hj y
      rw [← e2, if_neg hz] at hq
      exact ⟨0, Int32.ofNat 1, N, U, I1, I2, _, zh75_1 hN hN hcl, hq, ⟨hr0, by rw [e2]; rfl, by decide⟩, fun _ => Or.inr ⟨rfl, rfl⟩, ⟨by omega, by omega⟩, inv⟩
theorem zS_appr (h : zInv c N I R) (x y z : Int32) : zSt L c N U I J R 59 113 [.ref 436, .int x, .int y, .int z] [.ref 3, .int x, .int y, .int z, .ref 458] zPi := by
  obtain ⟨⟨⟨hR, hN, hC, hK, hm⟩, hc, hcm, hc10⟩, b0, ⟨b1, b2, b3, ⟨n, hE⟩⟩, b4⟩ := id h
  obtain ⟨v1, v2, v3, v4⟩ := id hE
  by_cases hx : x < 0 ∨ ¬ x < Int32.ofNat c
  · exact zSt_T h (Or.inl rfl) (zh59_T1 hN (zc_aprT1 hN hc hx)) (zm_aprT hR (by omega) hcm hc10 (Or.inl ⟨hx, rfl⟩))
  · by_cases hy : y < 0 ∨ ¬ y < Int32.ofNat 16 ∨ z < 0 ∨ ¬ z < Int32.ofNat 4
    · have hx' := hx
      obtain ⟨r, rfl, hr⟩ := zn_of (fun e => hx (Or.inl e)) (znn (fun e => hx (Or.inr e))) (by omega)
      exact zSt_T h (Or.inr rfl) (zh59_T0 hN (zc_aprT2 hR hN hc hc10 hr hy)) (zm_aprT hR (by omega) hcm hc10 (Or.inr ⟨hx', hy, rfl⟩))
    · obtain ⟨r, rfl, hr⟩ := zn_of (fun e => hx (Or.inl e)) (znn (fun e => hx (Or.inr e))) (by omega)
      obtain ⟨p, rfl, hp⟩ := zn_of (fun e => hy (Or.inl e)) (znn (fun e => hy (Or.inr (Or.inl e)))) (by decide)
      obtain ⟨w, rfl, hw⟩ := zn_of (fun e => hy (Or.inr (Or.inr (Or.inl e)))) (znn (fun e => hy (Or.inr (Or.inr (Or.inr e))))) (by decide)
      obtain ⟨Ia, ea⟩ : ∃ Ia : zI, Ia = zu I (8 + 37 * r + 20) p (Int32.ofNat w) := ⟨_, rfl⟩
      obtain ⟨I1, e1⟩ : ∃ I1 : zI, I1 = zrec0 Ia n (Int32.ofNat r) (Int32.ofNat 0) (Int32.ofNat p) (Int32.ofNat w) := ⟨_, rfl⟩
      obtain ⟨Ib, eb⟩ : ∃ Ib : zI, Ib = zu (zT I1 0) 451 (16 * r + p) (Int32.ofNat (1 + w)) := ⟨_, rfl⟩
      obtain ⟨I2, e2⟩ : ∃ I2 : zI, I2 = znot Ib n (Int32.ofNat r) (Int32.ofNat 0) (Int32.ofNat p) (Int32.ofNat w) := ⟨_, rfl⟩
      have ca : ∀ a k, ¬ (a = 8 + 37 * r + 20 ∧ k = p) → Ia a k = I a k := fun a k hk => by
        rw [ea]; rw [zu_nc hk]
      have c1 : ∀ a k, ¬ ((a = 8 + 37 * r + 20 ∧ k = p) ∨ (429 ≤ a ∧ a ≤ 432) ∨ (a = 428 ∧ k = 4)) → I1 a k = I a k := fun a k hk => by
        rw [e1, zrec0_ne (by omega)]; exact ca a k (by omega)
      have cb : ∀ a k, ¬ ((a = 436 ∧ k = 0) ∨ (a = 451 ∧ k = 16 * r + p)) → Ib a k = I1 a k := fun a k hk => by
        rw [eb]; rw [zu_nc (by omega), zT_c (by omega)]
      have c2 : ∀ a k, ¬ ((a = 436 ∧ k = 0) ∨ (a = 451 ∧ k = 16 * r + p) ∨ (454 ≤ a ∧ a ≤ 457) ∨ (a = 436 ∧ k = 24)) → I2 a k = I1 a k := fun a k hk => by
        rw [e2, znot_ne (by omega)]; exact cb a k (by omega)
      have c3 : ∀ a k, ¬ ((a = 8 + 37 * r + 20 ∧ k = p) ∨ (429 ≤ a ∧ a ≤ 432) ∨ (a = 428 ∧ k = 4) ∨ (a = 436 ∧ k = 0) ∨ (a = 451 ∧ k = 16 * r + p) ∨ (454 ≤ a ∧ a ≤ 457) ∨ (a = 436 ∧ k = 24)) → I2 a k = I a k := fun a k hk => (c2 a k (by omega)).trans (c1 a k (by omega))
      have f1 : I2 (8 + 37 * r + 20) p = Int32.ofNat w := by
        rw [c2 _ _ (by omega), e1, zrec0_ne (by omega), ea]; rw [zu_at]
      have f2 : I2 451 (16 * r + p) = Int32.ofNat (1 + w) := by
        rw [e2, znot_ne (by omega), eb]; rw [zu_at]
      have eq : zapp (zup (I (8 + 37 * r + 20)) p (Int32.ofNat w)) (-1) 0 16 = zmap (fun q => zup (I1 451) (16 * r + p) (Int32.ofNat (1 + w)) (16 * r + q)) := zapp_map (fun q hq => by
        by_cases e : q = p
        · subst e
          rw [zup_at, zup_at]
          exact Or.inr ⟨w, hw, rfl, rfl⟩
        · rw [zup_ne _ _ e, zup_ne _ _ (by omega), c1 451 _ (by omega)]
          exact b1 r (by omega) q hq)
      have hcl : zRet L 60 [.ref 3, .int (Int32.ofNat r), .int (Int32.ofNat p), .int (Int32.ofNat w)] (N, U, I, J, R) (some (.int (zbi (zmap (fun q => zup (I1 451) (16 * r + p) (Int32.ofNat (1 + w)) (16 * r + q)))))) (N, U, I1, J, R) := by
        rw [← eq, e1, ea]
        exact zc_apr hR hN hc hc10 hr hp hw v2 v1
      have hq : zRet L 113 [.ref 436, .int (Int32.ofNat r), .int (Int32.ofNat p), .int (Int32.ofNat w)] (N, U, I1, zu J 458 0 (zbi (zmap (fun q => zup (I1 451) (16 * r + p) (Int32.ofNat (1 + w)) (16 * r + q)))).toInt64, R) (some (.int (zbi (zmap (fun q => zup (I1 451) (16 * r + p) (Int32.ofNat (1 + w)) (16 * r + q)))))) (N, U, I2, zu J 458 0 (zbi (zmap (fun q => zup (I1 451) (16 * r + p) (Int32.ofNat (1 + w)) (16 * r + q)))).toInt64, R) := by
        rw [e2, eb]
        exact zm_apr hR hN ((c1 436 8 (by omega)).trans hcm) hc10 hr hp hw ((c1 436 24 (by omega)).trans v3) v1
      have he : ∀ a k, ¬ ((zSp a k ∨ zSw a k ∨ zSs a k ∨ zSe a k) ∨ (a = 436 ∧ k = 0)) → I2 a k = I a k := fun a k hk => c3 a k (fun hq => hk (by
        rcases hq with hq | hq | hq | hq | hq | hq | hq
        · exact Or.inl (Or.inl (by unfold zSp; omega))
        · exact Or.inl (Or.inr (Or.inr (Or.inr (by unfold zSe; omega))))
        · exact Or.inl (Or.inr (Or.inr (Or.inr (by unfold zSe; omega))))
        · exact Or.inr hq
        · exact Or.inl (Or.inl (by unfold zSp; omega))
        · exact Or.inl (Or.inr (Or.inr (Or.inr (by unfold zSe; omega))))
        · exact Or.inl (Or.inr (Or.inr (Or.inr (by unfold zSe; omega))))))
      refine ⟨0, _, N, U, I1, I2, _, zh59 hN hN hcl, hq, ⟨funext fun k => c1 0 k (by omega), by rw [e2, znot_ne (by omega), eb]; rfl, by decide⟩, fun _ => rfl, ⟨by omega, by omega⟩, zInv_ev h ⟨(c3 436 2 (by omega)).trans hm.1, fun i hi => absurd hi (by simp)⟩ he (fun r' hr' p' hp' => ?_) (zWi_c (fun a k hk => c3 a k (by unfold zSw at hk; omega)) b2) (zSr_c (fun a k hk => c3 a k (by unfold zSs at hk; omega)) b3) ?_⟩
      · by_cases e : r' = r ∧ p' = p
        · obtain ⟨rfl, rfl⟩ := e
          rw [f1, f2]
          exact Or.inr ⟨w, hw, rfl, rfl⟩
        · rw [c3 _ _ (by omega), c3 _ _ (by omega)]
          exact b1 r' hr' p' hp'
      · rw [e2]
        exact zEv_step hE _ _ _ _ (fun d k hd => ca d k (by unfold zSe at hd; omega)) (fun d k hd => by rw [cb d k (by unfold zSe at hd; omega), e1])
theorem zS_wdr (h : zInv c N I R) (x : Int32) : zSt L c N U I J R 63 116 [.ref 436, .int x] [.ref 3, .int x, .ref 458] zPi := by
  obtain ⟨⟨⟨hR, hN, hC, hK, hm⟩, hc, hcm, hc10⟩, b0, ⟨b1, b2, b3, ⟨n, hE⟩⟩, b4⟩ := id h
  obtain ⟨v1, v2, v3, v4⟩ := id hE
  by_cases hx : x < 0 ∨ ¬ x < Int32.ofNat c
  · exact zSt_T h (Or.inl rfl) (zh63_T1 hN (zc_wdT hN hc hx)) (zm_wdT hR (by omega) hcm hx)
  · obtain ⟨r, rfl, hr⟩ := zn_of (fun e => hx (Or.inl e)) (znn (fun e => hx (Or.inr e))) (by omega)
    obtain ⟨v, hv, w1, w2⟩ := b2.1 r (by omega)
    rcases (by omega : v = 1 ∨ v = 0) with e | e
    · subst e
      exact zSt_0 h (zh63 hN hN (zc_wdN hR hN hc hc10 hr w1)) (zm_wdN hR hN hcm hc10 hr w2) rfl
    · subst e
      obtain ⟨Ia, ea⟩ : ∃ Ia : zI, Ia = zu (zu I (8 + 37 * r) 4 (Int32.ofNat 1)) 3 4 (I 3 4 + Int32.ofNat 1) := ⟨_, rfl⟩
      obtain ⟨I1, e1⟩ : ∃ I1 : zI, I1 = zrec0 Ia n (Int32.ofNat r) (Int32.ofNat 2) (-1) (-1) := ⟨_, rfl⟩
      obtain ⟨Ib, eb⟩ : ∃ Ib : zI, Ib = zu (zu (zT I1 0) 452 r (Int32.ofNat 1)) 436 21 (I1 436 21 + Int32.ofNat 1) := ⟨_, rfl⟩
      obtain ⟨I2, e2⟩ : ∃ I2 : zI, I2 = znot Ib n (Int32.ofNat r) (Int32.ofNat 2) (-1) (-1) := ⟨_, rfl⟩
      have ca : ∀ a k, ¬ ((a = 8 + 37 * r ∧ k = 4) ∨ (a = 3 ∧ k = 4)) → Ia a k = I a k := fun a k hk => by
        rw [ea]; rw [zu_nc (by omega), zu_nc (by omega)]
      have c1 : ∀ a k, ¬ ((a = 8 + 37 * r ∧ k = 4) ∨ (a = 3 ∧ k = 4) ∨ (429 ≤ a ∧ a ≤ 432) ∨ (a = 428 ∧ k = 4)) → I1 a k = I a k := fun a k hk => by
        rw [e1, zrec0_ne (by omega)]; exact ca a k (by omega)
      have cb : ∀ a k, ¬ ((a = 436 ∧ k = 0) ∨ (a = 452 ∧ k = r) ∨ (a = 436 ∧ k = 21)) → Ib a k = I1 a k := fun a k hk => by
        rw [eb]; rw [zu_nc (by omega), zu_nc (by omega), zT_c (by omega)]
      have c2 : ∀ a k, ¬ ((a = 436 ∧ k = 0) ∨ (a = 452 ∧ k = r) ∨ (a = 436 ∧ k = 21) ∨ (454 ≤ a ∧ a ≤ 457) ∨ (a = 436 ∧ k = 24)) → I2 a k = I1 a k := fun a k hk => by
        rw [e2, znot_ne (by omega)]; exact cb a k (by omega)
      have c3 : ∀ a k, ¬ ((a = 8 + 37 * r ∧ k = 4) ∨ (a = 3 ∧ k = 4) ∨ (429 ≤ a ∧ a ≤ 432) ∨ (a = 428 ∧ k = 4) ∨ (a = 436 ∧ k = 0) ∨ (a = 452 ∧ k = r) ∨ (a = 436 ∧ k = 21) ∨ (454 ≤ a ∧ a ≤ 457) ∨ (a = 436 ∧ k = 24)) → I2 a k = I a k := fun a k hk => (c2 a k (by omega)).trans (c1 a k (by omega))
      have e21 : I1 436 21 = I 3 4 := (c1 436 21 (by omega)).trans b2.2.symm
      have hcl : zRet L 64 [.ref 3, .int (Int32.ofNat r)] (N, U, I, J, R) (some (.int (I 3 4 + Int32.ofNat 1))) (N, U, I1, J, R) := by
        rw [e1, ea]; exact zc_wd hR hN hc hc10 hr w1 v2 v1
      have hq : zRet L 116 [.ref 436, .int (Int32.ofNat r)] (N, U, I1, zu J 458 0 (I 3 4 + Int32.ofNat 1).toInt64, R) (some (.int (I 3 4 + Int32.ofNat 1))) (N, U, I2, zu J 458 0 (I 3 4 + Int32.ofNat 1).toInt64, R) := by
        rw [e2, eb, ← e21]
        exact zm_wd hR hN ((c1 436 8 (by omega)).trans hcm) hc10 hr ((c1 452 r (by omega)).trans w2) ((c1 436 24 (by omega)).trans v3) v1
      have he : ∀ a k, ¬ ((zSp a k ∨ zSw a k ∨ zSs a k ∨ zSe a k) ∨ (a = 436 ∧ k = 0)) → I2 a k = I a k := fun a k hk => c3 a k (fun hq => hk (by
        rcases hq with hq | hq | hq | hq | hq | hq | hq | hq | hq
        · exact Or.inl (Or.inr (Or.inl (by unfold zSw; omega)))
        · exact Or.inl (Or.inr (Or.inl (by unfold zSw; omega)))
        · exact Or.inl (Or.inr (Or.inr (Or.inr (by unfold zSe; omega))))
        · exact Or.inl (Or.inr (Or.inr (Or.inr (by unfold zSe; omega))))
        · exact Or.inr hq
        · exact Or.inl (Or.inr (Or.inl (by unfold zSw; omega)))
        · exact Or.inl (Or.inr (Or.inl (by unfold zSw; omega)))
        · exact Or.inl (Or.inr (Or.inr (Or.inr (by unfold zSe; omega))))
        · exact Or.inl (Or.inr (Or.inr (Or.inr (by unfold zSe; omega))))))
      refine ⟨0, _, N, U, I1, I2, _, zh63 hN hN hcl, hq, ⟨funext fun k => c1 0 k (by omega), by rw [e2, znot_ne (by omega), eb]; rfl, by decide⟩, fun _ => rfl, ⟨by omega, by omega⟩, zInv_ev h ⟨(c3 436 2 (by omega)).trans hm.1, fun i hi => absurd hi (by simp)⟩ he (zPr_c (fun a k hk => c3 a k (by unfold zSp at hk; omega)) b1) ⟨fun r' hr' => ?_, ?_⟩ (zSr_c (fun a k hk => c3 a k (by unfold zSs at hk; omega)) b3) ?_⟩
      · by_cases e : r' = r
        · subst e
          refine ⟨1, Nat.le_refl 1, ?_, ?_⟩
          · rw [c2 _ _ (by omega), e1, zrec0_ne (by omega), ea]; rw [zu_nc (by omega), zu_at]
          · rw [e2, znot_ne (by omega), eb]; rw [zu_nc (by omega), zu_at]
        · rw [c3 _ _ (by omega), c3 _ _ (by omega)]
          exact b2.1 r' hr'
      · rw [c2 3 4 (by omega), e1, zrec0_ne (by omega), ea, e2, znot_ne (by omega), eb, e21]
        rw [zu_at, zu_at]
      · rw [e2]
        exact zEv_step hE _ _ _ _ (fun d k hd => ca d k (by unfold zSe at hd; omega)) (fun d k hd => by rw [cb d k (by unfold zSe at hd; omega), e1])
theorem zS_ser (h : zInv c N I R) (x : Int32) : zSt L c N U I J R 65 117 [.ref 436, .int x] [.ref 3, .int x, .ref 458] zPi := by
  obtain ⟨⟨⟨hR, hN, hC, hK, hm⟩, hc, hcm, hc10⟩, b0, ⟨b1, b2, ⟨s, s1, s2, s3, s4⟩, ⟨n, hE⟩⟩, b4⟩ := id h
  obtain ⟨v1, v2, v3, v4⟩ := id hE
  by_cases hx : x < 0 ∨ ¬ x < Int32.ofNat c
  · exact zSt_T h (Or.inl rfl) (zh65_T1 hN (zc_srT hN hc hx)) (zm_srT hR (by omega) hcm hx)
  · obtain ⟨r, rfl, hr⟩ := zn_of (fun e => hx (Or.inl e)) (znn (fun e => hx (Or.inr e))) (by omega)
    obtain ⟨v, hv, w1, w2⟩ := b2.1 r (by omega)
    have eq : zapp (I (8 + 37 * r + 20)) (-1) 0 16 = zmap (fun p => I 451 (16 * r + p)) := zapp_map (fun p hp => b1 r (by omega) p hp)
    by_cases hf : v = 1 ∨ zapp (I (8 + 37 * r + 20)) (-1) 0 16 = false ∨ s = 60
    · exact zSt_0 h (zh65 hN hN (zc_srN hR hN hc hc10 hr w1 hv s2 s1 hf)) (zm_srN hR hN hcm hc10 hr w2 hv s3 s1 (by rw [← eq]; exact hf)) rfl
    · have hv0 : v = 0 := by
        have : v ≠ 1 := fun e => hf (Or.inl e)
        omega
      have hs6 : s < 60 := by
        have : s ≠ 60 := fun e => hf (Or.inr (Or.inr e))
        omega
      have hap : zapp (I (8 + 37 * r + 20)) (-1) 0 16 = true := by
        cases hz : zapp (I (8 + 37 * r + 20)) (-1) 0 16 with
        | true => rfl
        | false => exact absurd (Or.inr (Or.inl hz)) hf
      subst hv0
      obtain ⟨Ia, ea⟩ : ∃ Ia : zI, Ia = zu (zu I 427 s (Int32.ofNat r)) 3 6 (Int32.ofNat (s + 1)) := ⟨_, rfl⟩
      obtain ⟨I1, e1⟩ : ∃ I1 : zI, I1 = zrec0 Ia n (Int32.ofNat r) (Int32.ofNat 1) (Int32.ofNat s) (-1) := ⟨_, rfl⟩
      obtain ⟨Ib, eb⟩ : ∃ Ib : zI, Ib = zu (zT I1 0) 453 s (Int32.ofNat r) := ⟨_, rfl⟩
      obtain ⟨Id, ed⟩ : ∃ Id : zI, Id = znot Ib n (Int32.ofNat r) (Int32.ofNat 1) (Int32.ofNat s) (-1) := ⟨_, rfl⟩
      obtain ⟨I2, e2⟩ : ∃ I2 : zI, I2 = zu Id 436 22 (Int32.ofNat (s + 1)) := ⟨_, rfl⟩
      have ca : ∀ a k, ¬ ((a = 427 ∧ k = s) ∨ (a = 3 ∧ k = 6)) → Ia a k = I a k := fun a k hk => by
        rw [ea]; rw [zu_nc (by omega), zu_nc (by omega)]
      have c1 : ∀ a k, ¬ ((a = 427 ∧ k = s) ∨ (a = 3 ∧ k = 6) ∨ (429 ≤ a ∧ a ≤ 432) ∨ (a = 428 ∧ k = 4)) → I1 a k = I a k := fun a k hk => by
        rw [e1, zrec0_ne (by omega)]; exact ca a k (by omega)
      have cb : ∀ a k, ¬ ((a = 436 ∧ k = 0) ∨ (a = 453 ∧ k = s)) → Ib a k = I1 a k := fun a k hk => by
        rw [eb]; rw [zu_nc (by omega), zT_c (by omega)]
      have cd : ∀ a k, ¬ (a = 436 ∧ k = 22) → I2 a k = Id a k := fun a k hk => by
        rw [e2]; rw [zu_nc hk]
      have c2 : ∀ a k, ¬ ((a = 436 ∧ k = 0) ∨ (a = 453 ∧ k = s) ∨ (a = 436 ∧ k = 22) ∨ (454 ≤ a ∧ a ≤ 457) ∨ (a = 436 ∧ k = 24)) → I2 a k = I1 a k := fun a k hk => by
        rw [cd a k (by omega), ed, znot_ne (by omega)]; exact cb a k (by omega)
      have c3 : ∀ a k, ¬ ((a = 427 ∧ k = s) ∨ (a = 3 ∧ k = 6) ∨ (429 ≤ a ∧ a ≤ 432) ∨ (a = 428 ∧ k = 4) ∨ (a = 436 ∧ k = 0) ∨ (a = 453 ∧ k = s) ∨ (a = 436 ∧ k = 22) ∨ (454 ≤ a ∧ a ≤ 457) ∨ (a = 436 ∧ k = 24)) → I2 a k = I a k := fun a k hk => (c2 a k (by omega)).trans (c1 a k (by omega))
      have hcl : zRet L 66 [.ref 3, .int (Int32.ofNat r)] (N, U, I, J, R) (some (.int (Int32.ofNat s))) (N, U, I1, J, R) := by
        rw [e1, ea]; exact zc_sr hR hN hc hc10 hr w1 s2 hs6 hap v2 v1
      have e638 : (fun p => I1 451 (16 * r + p)) = fun p => I 451 (16 * r + p) := funext fun p => c1 451 _ (by omega)
      have hq : zRet L 117 [.ref 436, .int (Int32.ofNat r)] (N, U, I1, zu J 458 0 (Int32.ofNat s).toInt64, R) (some (.int (Int32.ofNat s))) (N, U, I2, zu J 458 0 (Int32.ofNat s).toInt64, R) := by
        rw [e2, ed, eb]
        exact zm_sr hR hN ((c1 436 8 (by omega)).trans hcm) hc10 hr ((c1 452 r (by omega)).trans w2) ((c1 436 22 (by omega)).trans s3) hs6 (by rw [e638, ← eq]; exact hap) ((c1 436 24 (by omega)).trans v3) v1
      have he : ∀ a k, ¬ ((zSp a k ∨ zSw a k ∨ zSs a k ∨ zSe a k) ∨ (a = 436 ∧ k = 0)) → I2 a k = I a k := fun a k hk => c3 a k (fun hq => hk (by
        rcases hq with hq | hq | hq | hq | hq | hq | hq | hq | hq
        · exact Or.inl (Or.inr (Or.inr (Or.inl (by unfold zSs; omega))))
        · exact Or.inl (Or.inr (Or.inr (Or.inl (by unfold zSs; omega))))
        · exact Or.inl (Or.inr (Or.inr (Or.inr (by unfold zSe; omega))))
        · exact Or.inl (Or.inr (Or.inr (Or.inr (by unfold zSe; omega))))
        · exact Or.inr hq
        · exact Or.inl (Or.inr (Or.inr (Or.inl (by unfold zSs; omega))))
        · exact Or.inl (Or.inr (Or.inr (Or.inl (by unfold zSs; omega))))
        · exact Or.inl (Or.inr (Or.inr (Or.inr (by unfold zSe; omega))))
        · exact Or.inl (Or.inr (Or.inr (Or.inr (by unfold zSe; omega))))))
      refine ⟨0, _, N, U, I1, I2, _, zh65 hN hN hcl, hq, ⟨funext fun k => c1 0 k (by omega), by rw [cd 436 0 (by omega), ed, znot_ne (by omega), eb]; rfl, by decide⟩, fun _ => rfl, ⟨by omega, by omega⟩, zInv_ev h ⟨(c3 436 2 (by omega)).trans hm.1, fun i hi => absurd hi (by simp)⟩ he (zPr_c (fun a k hk => c3 a k (by unfold zSp at hk; omega)) b1) (zWi_c (fun a k hk => c3 a k (by unfold zSw at hk; omega)) b2) ⟨s + 1, by omega, ?_, ?_, fun k hk => ?_⟩ ?_⟩
      · rw [c2 3 6 (by omega), e1, zrec0_ne (by omega), ea]; rw [zu_at]
      · rw [e2]; rw [zu_at]
      · by_cases e : k = s
        · subst e
          rw [c2 427 k (by omega), e1, zrec0_ne (by omega), ea, cd 453 k (by omega), ed, znot_ne (by omega), eb]
          rw [zu_nc (by omega), zu_at, zu_at]
        · rw [c3 427 k (by omega), c3 453 k (by omega)]
          exact s4 k (by omega)
      · refine zEv_c (I := Id) (fun a k hk => cd a k (by unfold zSe at hk; omega)) ?_
        rw [ed]
        exact zEv_step hE _ _ _ _ (fun d k hd => ca d k (by unfold zSe at hd; omega)) (fun d k hd => by rw [cb d k (by unfold zSe at hd; omega), e1])
/-! calls that throw nothing -/
def zSv (L N U : Nat) (I : zI) (J : zJ) (R : zR) (mj mm : Nat) (as bs : List Value) : Prop := ∃ (v : Int32) (c' : Nat) (I1 I2 : zI) (R1 : zR), zRet L mj bs (N, U, I, J, R) (some (.int v)) (N, U, I1, J, R1) ∧ zRet L mm as (N, U, I1, J, R1) (some (.int v)) (N, U, I2, J, R1) ∧ I1 0 = I 0 ∧ zInv c' N I2 R1
theorem zS_check (h : zInv c N I R) (x : Int32) : zSv L N U I J R 24 108 [.ref 436, .int x] [.ref 3, .int x] := by
  obtain ⟨⟨⟨hR, hN, hC, hK, hm⟩, hc, hcm, hc10⟩, b0, b1, ⟨q, b, ⟨y1, y2, y3⟩, m1, m2, m3⟩, b4⟩ := id h
  by_cases hx : x < 0 ∨ ¬ x < Int32.ofNat 256
  · exact ⟨_, c, I, _, R, zc_ckN hN hx, zm_ckN hN hx, rfl, zInv_T h (Nat.le_refl N)⟩
  · obtain ⟨w, rfl, hw⟩ := zn_of (fun e => hx (Or.inl e)) (znn (fun e => hx (Or.inr e))) (by decide)
    by_cases hq : q = 300
    · subst hq
      exact ⟨_, c, I, _, R, zc_ckF hR hN hw y1, zm_ckF hN hw m1, rfl, zInv_T h (Nat.le_refl N)⟩
    · obtain ⟨I1, e1⟩ : ∃ I1 : zI, I1 = zu (zu I 434 q (Int32.ofNat w)) 433 1 (Int32.ofNat (q + 1)) := ⟨_, rfl⟩
      obtain ⟨I2, e2⟩ : ∃ I2 : zI, I2 = zu (zu (zT I1 0) 450 q (Int32.ofNat w)) 436 17 (Int32.ofNat (q + 1)) := ⟨_, rfl⟩
      have c1 : ∀ a k, ¬ ((a = 434 ∧ k = q) ∨ (a = 433 ∧ k = 1)) → I1 a k = I a k := fun a k hk => by
        rw [e1]; rw [zu_nc (by omega), zu_nc (by omega)]
      have c2 : ∀ a k, ¬ ((a = 436 ∧ k = 0) ∨ (a = 450 ∧ k = q) ∨ (a = 436 ∧ k = 17)) → I2 a k = I1 a k := fun a k hk => by
        rw [e2]; rw [zu_nc (by omega), zu_nc (by omega), zT_c (by omega)]
      have c3 : ∀ a k, ¬ ((a = 434 ∧ k = q) ∨ (a = 433 ∧ k = 1) ∨ (a = 436 ∧ k = 0) ∨ (a = 450 ∧ k = q) ∨ (a = 436 ∧ k = 17)) → I2 a k = I a k := fun a k hk => (c2 a k (by omega)).trans (c1 a k (by omega))
      have hcl : zRet L 24 [.ref 3, .int (Int32.ofNat w)] (N, U, I, J, R) (some (.int (Int32.ofNat 1))) (N, U, I1, J, R) := by
        rw [e1]; exact zc_ck hR hN hw y1 (by omega)
      have hmo : zRet L 108 [.ref 436, .int (Int32.ofNat w)] (N, U, I1, J, R) (some (.int (Int32.ofNat 1))) (N, U, I2, J, R) := by
        rw [e2]; exact zm_ck hR hN hw ((c1 436 17 (by omega)).trans m1) (by omega)
      refine ⟨_, c, I1, I2, R, hcl, hmo, funext fun k => c1 0 k (by omega), zInv_ck h ⟨(c3 436 2 (by omega)).trans hm.1, fun i hi => absurd hi (by simp)⟩ (fun a k hk => c3 a k (by unfold zSk at hk; omega)) ⟨q + 1, zup b q w, ⟨?_, by omega, fun i hi => ?_⟩, ?_, by omega, fun i hi => ?_⟩⟩
      · rw [c2 433 1 (by omega), e1]; rw [zu_at]
      · by_cases e : i = q
        · subst e
          rw [zup_at, c2 434 i (by omega), e1]
          rw [zu_nc (by omega), zu_at]
          exact ⟨rfl, hw⟩
        · rw [zup_ne _ _ e, c3 434 i (by omega)]; exact y3 i (by omega)
      · rw [e2]; rw [zu_at]
      · by_cases e : i = q
        · subst e
          rw [zup_at, e2]
          rw [zu_nc (by omega), zu_at]
          exact ⟨rfl, hw⟩
        · rw [zup_ne _ _ e, c3 450 i (by omega)]; exact m3 i (by omega)
theorem zS_chkd (h : zInv c N I R) : zSv L N U I J R 27 111 [.ref 436] [.ref 3] := by
  obtain ⟨⟨⟨hR, hN, hC, hK, hm⟩, hc, hcm, hc10⟩, b0, b1, ⟨q, b, hy, hmm⟩, b4⟩ := id h
  obtain ⟨tp, htp⟩ := zInv_tp h
  obtain ⟨I1, hcl, hf⟩ := zc_chk (L := L) (U := U) (J := J) hR hN hC hc hc10 hy (fun r hr => (htp r hr).1)
  have h1 := zInv_4 h hf
  have r : ∀ a, 435 < a → I1 a = I a := fun a ha => hf a (by omega) (by omega) (by omega) (by omega)
  have e := zchk_eq (I := I) (I' := I1) (c := c) (q := q) (b := b) (tp := tp) (fun i hi => by rw [r 450 (by omega), (hy.2.2 i hi).1, (hmm.2.2 i hi).1]) (fun k hk x hx => by rw [r 448 (by omega)]; exact (htp k hk).2 x hx)
  rw [e] at hcl
  obtain ⟨I2, hmo, hm2, hf2⟩ := zm_chk (L := L) (U := U) (I := I1) (J := J) (R := R) (c := c) (q := q) (b := b) hR hN (by rw [r 436 (by omega)]; exact hcm) hc10 ⟨by rw [r 436 (by omega)]; exact hmm.1, hmm.2.1, fun i hi => by rw [r 450 (by omega)]; exact hmm.2.2 i hi⟩ h1.1.1.2.2.2.1 h1.1.1.2.2.2.2
  exact ⟨_, c, I1, I2, R, hcl, hmo, hf 0 (by decide) (by decide) (by decide) (by decide), zInv_Q h1 hf2 hm2⟩
theorem zS_made (h : zInv c N I R) : zSv L N U I J R 36 99 [.ref 436] [.ref 3] := by
  have hN := h.1.1.2.1
  have e : I 436 8 = I 3 2 := h.1.2.2.1.trans h.1.2.1.symm
  refine ⟨_, c, I, zT I 0, R, zc_made hN, ?_, rfl, zInv_T h (Nat.le_refl N)⟩
  rw [← e]
  exact zm_made hN
theorem zS_close (h : zInv c N I R) : zSv L N U I J R 14 89 [.ref 436] [.ref 3] := by
  obtain ⟨⟨⟨hR, hN, hC, hK, hm⟩, hc, hcm, hc10⟩, ⟨b1, ⟨n, nm, ln, hO⟩, b3⟩, b4, b5, b6⟩ := id h
  obtain ⟨⟨o1, o2, o3⟩, o4, o5, o6, o7, o8, o9⟩ := id hO
  by_cases e : c = 10
  · subst e
    exact ⟨_, 10, I, _, R, zc_clN hN hc, zm_clN hN hcm, rfl, zInv_T h (Nat.le_refl N)⟩
  · obtain ⟨I1, R1, s, hcl, ⟨q1, q2, q3, q4, q5⟩, hT, h3, hl, h1⟩ := zc_cl (L := L) (U := U) (J := J) hR hN hC hc (by omega) o2 o1 o4 o6 o8 o5 (fun b hb => by rw [b6 c (Nat.le_refl c) b hb]; exact zls_b8 _ _ _)
    have r : ∀ a, 435 < a → I1 a = I a := fun a ha => h1 a (by omega) (by omega) (by omega) (by omega) (by omega) (by omega)
    obtain ⟨I2, hmo, hm2, hZ⟩ := zm_cl (L := L) (U := U) (I := I1) (J := J) (R := R1) (c := c) (n := n) (s := s) (nm := nm) (ln := ln) (D := fun j => zsha (zlm (nm (s j)) (ln (s j)) (I1 446) (64 * (80 + s j)))) q3 hN (by rw [r 436 (by omega)]; exact hcm) (by omega) (by rw [r 443 (by omega)]; exact o3) o1 (fun f hf => by rw [r 444 (by omega)]; exact ⟨(o9 f hf).1, (o6 f (by omega)).1.2⟩) (fun f hf => by rw [r 445 (by omega)]; exact ⟨(o9 f hf).2.1, (o6 f (by omega)).2.1.2⟩) q1 (fun j hj => by rw [r 437 (by omega)]; exact hK j hj) ⟨by rw [r 436 (by omega)]; exact hm.1, fun i hi => absurd hi (by simp)⟩ (fun j hj => rfl)
    refine ⟨_, c + 1, I1, I2, R1, hcl, hmo, h1 0 (by omega) (by omega) (by omega) (by omega) (by omega) (by omega), zInv_cl h rfl (by omega) hO q1 q3 q4 q5 hT h3 ?_ ?_ hm2 (fun j hj => rfl) hZ⟩
    · intro b hb
      rw [show 416 + (c + 1) = 416 + c + 1 by omega]
      exact hl b hb
    · intro b k1 k2 k3 k4 k5 k6
      exact h1 b k1 k2 k3 k4 (by omega) k6
theorem zS_clr (h : zInv c N I R) : ∃ (I1 I2 : zI), zRet L 37 [.ref 3] (N, U, I, J, R) none (N, U, I1, J, R) ∧ zRet L 109 [.ref 436] (N, U, I1, J, R) none (N, U, I2, J, R) ∧ zInv c N I2 R := by
  obtain ⟨⟨⟨hR, hN, hC, hK, hm⟩, hc, hcm, hc10⟩, b0, b1, ⟨q, b, hy, hmm⟩, b4⟩ := id h
  refine ⟨_, _, zc_clr hR hN, zm_clr hN, zInv_ck h ⟨hm.1, fun i hi => absurd hi (by simp)⟩ (fun a k hk => ?_) ⟨0, fun _ => 0, ⟨rfl, by decide, fun i hi => absurd hi (by omega)⟩, rfl, by decide, fun i hi => absurd hi (by omega)⟩⟩
  unfold zSk at hk
  rw [zu_nc (by omega), zT_c (by omega), zu_nc (by omega)]
end ZS2
