theorem zfnd_some {p : Nat → Bool} : ∀ {n i j : Nat}, j < i + n → p j = true → i ≤ j → zfnd p i n ≠ none
  | 0, i, j, h1, _, h3 => by omega
  | n + 1, i, j, h1, h2, h3 => by
    unfold zfnd
    by_cases e : p i = true
    · rw [if_pos e]; simp
    · rw [if_neg e]
      have : i ≠ j := fun e2 => e (by rw [e2]; exact h2)
      exact zfnd_some (by omega) h2 (by omega)
theorem zn_of2 {x : Int32} (h : ¬ x < 0) : ∃ i, x = Int32.ofNat i ∧ i < 2147483648 := by
  rw [Int32.lt_iff_toInt_lt, show (0 : Int32).toInt = 0 from rfl] at h
  have hb := x.toInt_lt
  refine ⟨x.toInt.toNat, ?_, by omega⟩
  apply Int32.toInt_inj.mp
  rw [Int32.toInt_ofNat_of_lt (by omega)]
  omega
theorem zn_gr {x y : Int32} {c : Nat} (hc : c ≤ 10) (h : ¬ (x < 0 ∨ y < x ∨ Int32.ofNat c < y)) : ∃ a t, x = Int32.ofNat a ∧ y = Int32.ofNat t ∧ a ≤ t ∧ t ≤ c := by
  have h1 : ¬ x < 0 := fun e => h (Or.inl e)
  have h2 : ¬ y < x := fun e => h (Or.inr (Or.inl e))
  have h3 : ¬ Int32.ofNat c < y := fun e => h (Or.inr (Or.inr e))
  obtain ⟨a, rfl, ha⟩ := zn_of2 h1
  have h4 : ¬ y < 0 := fun e => by
    rw [Int32.lt_iff_toInt_lt, show (0 : Int32).toInt = 0 from rfl] at e h1
    rw [Int32.lt_iff_toInt_lt] at h2
    omega
  obtain ⟨t, rfl, ht⟩ := zn_of2 h4
  rw [zn_lt (by omega) (by omega)] at h2
  rw [zn_lt (by omega) (by omega)] at h3
  exact ⟨a, t, rfl, rfl, by omega, by omega⟩
theorem zMgT {I : zI} {k : Nat} (h : zMg [] I) : zMg [] (zT I k) := ⟨h.1, fun i hi => absurd hi (by simp)⟩
theorem zT_c {I : zI} {k a f : Nat} (h : ¬ (a = 436 ∧ f = 0)) : zT I k a f = I a f := by unfold zT; rw [zu_nc h]
theorem zInv_T {c N N' k : Nat} {I : zI} {R : zR} (h : zInv c N I R) (hN : N ≤ N') : zInv c N' (zT I k) R := zInv_q h hN (zMgT h.1.1.2.2.2.2) (fun a f hd => zT_c (by unfold zDt at hd; omega))
theorem zInv_Q {c N k : Nat} {I I' : zI} {R : zR} (h : zInv c N I R) (hf : zFq (zT I k) I') (hm : zMg [] I') : zInv c N I' R := by
  refine zInv_q h (Nat.le_refl N) hm (fun a f hd => ?_)
  unfold zDt at hd
  by_cases e : a = 436
  · subst e
    rw [hf.2 f (by omega) (by omega) (by omega) (by omega) (by omega)]
    exact zT_c (by omega)
  · rw [hf.1 a e (by omega) (by omega)]
    exact zT_c (by omega)
theorem zFq_0 {I I' : zI} {k : Nat} (hf : zFq (zT I k) I') : I' 436 0 = Int32.ofNat k := (hf.2 0 (by decide) (by decide) (by decide) (by decide) (by decide)).trans rfl

theorem zInv_4 {c N : Nat} {I I' : zI} {R : zR} (h : zInv c N I R) (hf : zF4 435 I I') : zInv c N I' R := by
  refine zInv_q h (Nat.le_refl N) ⟨?_, fun i hi => absurd hi (by simp)⟩ (fun a f hd => ?_)
  · rw [hf 436 (by decide) (by decide) (by decide) (by decide)]; exact h.1.1.2.2.2.2.1
  · unfold zDt at hd
    rw [hf a (by omega) (by omega) (by omega) (by omega)]
/-- the tops of the closed releases -/
theorem zInv_tp {c N : Nat} {I : zI} {R : zR} (h : zInv c N I R) : ∃ tp : Nat → Nat, ∀ r, r < c → (I (8 + 37 * r + 2) 2 = Int32.ofNat (tp r) ∧ tp r < 4) ∧ ∀ b, b < 32 → I (8 + 37 * r + 4 + zq (tp r)) b = I 448 (32 * r + b) := by
  have hx : ∀ r, r < c → ∃ t, (I (8 + 37 * r + 2) 2 = Int32.ofNat t ∧ t < 4) ∧ ∀ b, b < 32 → I (8 + 37 * r + 4 + zq t) b = I 448 (32 * r + b) := fun r hr => by
    obtain ⟨n, s, ln, h1, h2, h3, h4, h5⟩ := h.2.1.1 r hr
    exact ⟨zlvl n, ⟨h4.1.1, h4.1.2.1⟩, h5⟩
  refine ⟨fun r => if hr : r < c then Classical.choose (hx r hr) else 0, fun r hr => ?_⟩
  simp only [dif_pos hr]
  exact Classical.choose_spec (hx r hr)
/-! A CALL ON BOTH SIDES -/
def zPi (b : Int32) (j : Int64) : Prop := j = b.toInt64
def zPb (b : Int32) (j : Int64) : Prop := (b = Int32.ofNat 0 ∧ j = 0) ∨ (b = Int32.ofNat 1 ∧ j = 1)
def zSt (L c N U : Nat) (I : zI) (J : zJ) (R : zR) (hm mm : Nat) (as bs : List Value) (P : Int32 → Int64 → Prop) : Prop := ∃ (k : Nat) (b : Int32) (N1 U1 : Nat) (I1 I2 : zI) (J1 : zJ), zRet L hm bs (N, U, I, J, R) (some (.int (Int32.ofNat k))) (N1, U1, I1, J1, R) ∧ zRet L mm as (N1, U1, I1, J1, R) (some (.int b)) (N1, U1, I2, J1, R) ∧ (I1 0 = I 0 ∧ I2 436 0 = Int32.ofNat k ∧ k ≤ 2) ∧ (k = 0 → P b (J1 458 0)) ∧ (N1 ≤ N + 1 ∧ U1 ≤ U + 6) ∧ zInv c N1 I2 R
section ZS
variable {L c N U : Nat} {I : zI} {J : zJ} {R : zR}
theorem zSt_T {k hm mm : Nat} {as bs : List Value} {P : Int32 → Int64 → Prop} (h : zInv c N I R) (hk : k = 1 ∨ k = 2) (hr : zRet L hm bs (N, U, I, J, R) (some (.int (Int32.ofNat k))) (N + 1, U + 6, I, J, R)) (hq : zRet L mm as (N + 1, U + 6, I, J, R) (some (.int (Int32.ofNat 0))) (N + 1, U + 6, zT I k, J, R)) : zSt L c N U I J R hm mm as bs P :=
  ⟨k, Int32.ofNat 0, N + 1, U + 6, I, zT I k, J, hr, hq, ⟨rfl, rfl, by omega⟩, fun e => by omega, ⟨by omega, by omega⟩, zInv_T h (by omega)⟩
theorem zSt_0 {hm mm : Nat} {as bs : List Value} {P : Int32 → Int64 → Prop} {b : Int32} {J1 : zJ} (h : zInv c N I R) (hr : zRet L hm bs (N, U, I, J, R) (some (.int (Int32.ofNat 0))) (N, U, I, J1, R)) (hq : zRet L mm as (N, U, I, J1, R) (some (.int b)) (N, U, zT I 0, J1, R)) (hP : P b (J1 458 0)) : zSt L c N U I J R hm mm as bs P :=
  ⟨0, b, N, U, I, zT I 0, J1, hr, hq, ⟨rfl, rfl, by decide⟩, fun _ => hP, ⟨by omega, by omega⟩, zInv_T h (Nat.le_refl N)⟩
theorem zSt_Q {hm mm : Nat} {as bs : List Value} {P : Int32 → Int64 → Prop} {b : Int32} {I2 : zI} {J1 : zJ} (h : zInv c N I R) (hr : zRet L hm bs (N, U, I, J, R) (some (.int (Int32.ofNat 0))) (N, U, I, J1, R)) (hq : zRet L mm as (N, U, I, J1, R) (some (.int b)) (N, U, I2, J1, R)) (hf : zFq (zT I 0) I2) (hm2 : zMg [] I2) (hP : P b (J1 458 0)) : zSt L c N U I J R hm mm as bs P :=
  ⟨0, b, N, U, I, I2, J1, hr, hq, ⟨rfl, zFq_0 hf, by decide⟩, fun _ => hP, ⟨by omega, by omega⟩, zInv_Q h hf hm2⟩
theorem znn {p : Prop} (h : ¬ ¬ p) : p := Classical.byContradiction h
theorem zS_file (h : zInv c N I R) (x : Int32) : zSt L c N U I J R 39 85 [.ref 436, .int x] [.ref 3, .int x, .ref 458] zPi := by
  obtain ⟨⟨⟨hR, hN, hC, hK, hm⟩, hc, hcm, hc10⟩, ⟨b1, ⟨n, nm, ln, hO⟩, b3⟩, b4⟩ := id h
  obtain ⟨⟨o1, o2, o3⟩, o4, o5, o6, o7, o8, o9⟩ := id hO
  by_cases hx : x < 0 ∨ ¬ x < Int32.ofNat 65536
  · exact zSt_T h (Or.inl rfl) (zh39_T0 hN (zc_fileT hN hx)) (zm_fileT (by omega) hx)
  · obtain ⟨w, rfl, hw⟩ := zn_of (fun e => hx (Or.inl e)) (znn (fun e => hx (Or.inr e))) (by decide)
    have ef : zfnd (fun j => decide (I (8 + 37 * c + 21 + 2 * j) 0 = Int32.ofNat w)) 0 n = zfnd (fun j => decide (I 444 (8 * 10 + j) = Int32.ofNat w)) 0 n := zfnd_congr (fun j _ hj => by
      rw [show 8 * 10 + j = 80 + j by omega, (o6 j (by omega)).1.1, (o9 j (by omega)).1])
    by_cases hf : n = 8 ∨ zfnd (fun j => decide (I (8 + 37 * c + 21 + 2 * j) 0 = Int32.ofNat w)) 0 n ≠ none
    · exact zSt_0 h (zh39 hN hN (zc_file hR hN hc hc10 hw (zc_afN hR hN (by omega) o4 o2 o1 hf))) (zm_fileN hR hN hw o3 o1 (by rw [← ef]; exact hf)) rfl
    · have hn8 : n < 8 := by
        have : n ≠ 8 := fun e => hf (Or.inl e)
        omega
      have hz : zfnd (fun j => decide (I (8 + 37 * c + 21 + 2 * j) 0 = Int32.ofNat w)) 0 n = none := znn (fun e => hf (Or.inr e))
      obtain ⟨I1, e1⟩ : ∃ I1 : zI, I1 = zu (zu I (8 + 37 * c + 21 + 2 * n) 0 (Int32.ofNat w)) (8 + 37 * c) 1 (Int32.ofNat (n + 1)) := ⟨_, rfl⟩
      have hr : zRet L 40 [.ref 3, .int (Int32.ofNat w)] (N, U, I, J, R) (some (.int (Int32.ofNat n))) (N, U, I1, J, R) := by
        rw [e1]; exact zc_file hR hN hc hc10 hw (zc_af hR hN (by omega) o4 o2 hn8 hz)
      have c1 : ∀ a k, ¬ ((a = 8 + 37 * c + 21 + 2 * n ∧ k = 0) ∨ (a = 8 + 37 * c ∧ k = 1)) → I1 a k = I a k := fun a k hk => by
        rw [e1]; rw [zu_nc (by omega), zu_nc (by omega)]
      obtain ⟨I2, e2⟩ : ∃ I2 : zI, I2 = zu (zu (zu (zT I1 0) 444 (80 + n) (Int32.ofNat w)) 445 (80 + n) (Int32.ofNat 0)) 443 10 (Int32.ofNat (n + 1)) := ⟨_, rfl⟩
      have hq : zRet L 85 [.ref 436, .int (Int32.ofNat w)] (N, U, I1, zu J 458 0 (Int32.ofNat n).toInt64, R) (some (.int (Int32.ofNat n))) (N, U, I2, zu J 458 0 (Int32.ofNat n).toInt64, R) := by
        rw [e2]
        refine zm_file hR hN hw ((c1 443 10 (by omega)).trans o3) hn8 ?_
        rw [← hz, ef]
        exact zfnd_congr (fun j _ hj => by rw [c1 444 _ (by omega)])
      have c2 : ∀ a k, ¬ ((a = 436 ∧ k = 0) ∨ (a = 444 ∧ k = 80 + n) ∨ (a = 445 ∧ k = 80 + n) ∨ (a = 443 ∧ k = 10)) → I2 a k = I1 a k := fun a k hk => by
        rw [e2]; rw [zu_nc (by omega), zu_nc (by omega), zu_nc (by omega), zT_c (by omega)]
      have c3 : ∀ a k, ¬ ((a = 8 + 37 * c + 21 + 2 * n ∧ k = 0) ∨ (a = 8 + 37 * c ∧ k = 1) ∨ (a = 436 ∧ k = 0) ∨ (a = 444 ∧ k = 80 + n) ∨ (a = 445 ∧ k = 80 + n) ∨ (a = 443 ∧ k = 10)) → I2 a k = I a k := fun a k hk => (c2 a k (by omega)).trans (c1 a k (by omega))
      refine ⟨0, Int32.ofNat n, N, U, I1, I2, _, zh39 hN hN hr, hq, ⟨funext fun k => c1 0 k (by omega), by rw [e2]; rfl, by decide⟩, fun _ => rfl, ⟨by omega, by omega⟩, zInv_op h ⟨(c3 436 2 (by omega)).trans hm.1, fun i hi => absurd hi (by simp)⟩ (fun a k hk => c3 a k (by unfold zSo zSn at hk; omega)) ⟨n + 1, zup nm n w, ln, zOp_file hO hn8 hw (fun j hj e => ?_) c3 hc10 ?_ ?_ ?_ ?_ ?_⟩⟩
      · have : zfnd (fun j => decide (I (8 + 37 * c + 21 + 2 * j) 0 = Int32.ofNat w)) 0 n ≠ none := zfnd_some (by omega) (decide_eq_true (by rw [(o6 j (by omega)).1.1, e])) (Nat.zero_le j)
        exact this hz
      · rw [c2 _ _ (by omega), e1]; rw [zu_nc (by omega), zu_at]
      · rw [c2 _ _ (by omega), e1]; rw [zu_at]
      · rw [e2]; rw [zu_nc (by omega), zu_nc (by omega), zu_at]
      · rw [e2]; rw [zu_nc (by omega), zu_at]
      · rw [e2]; rw [zu_at]
theorem zS_byte (h : zInv c N I R) (x y : Int32) : zSt L c N U I J R 43 87 [.ref 436, .int x, .int y] [.ref 3, .int x, .int y, .ref 458] zPb := by
  obtain ⟨⟨⟨hR, hN, hC, hK, hm⟩, hc, hcm, hc10⟩, ⟨b1, ⟨n, nm, ln, hO⟩, b3⟩, b4⟩ := id h
  obtain ⟨⟨o1, o2, o3⟩, o4, o5, o6, o7, o8, o9⟩ := id hO
  by_cases hx : x < 0 ∨ ¬ x < Int32.ofNat n
  · exact zSt_T h (Or.inl rfl) (zh43_T1 hN (zc_boT1 hR hN hc hc10 o2 hx)) (zm_boT1 hR (by omega) o3 hx)
  · obtain ⟨j, rfl, hj⟩ := zn_of (fun e => hx (Or.inl e)) (znn (fun e => hx (Or.inr e))) (by omega)
    by_cases hy : y < 0 ∨ ¬ y < Int32.ofNat 256
    · exact zSt_T h (Or.inr rfl) (zh43_T0 hN (zc_boT2 hR hN hc hc10 o2 o1 hj hy)) (zm_boT2 hR (by omega) o3 o1 hj hy)
    · obtain ⟨b, rfl, hb⟩ := zn_of (fun e => hy (Or.inl e)) (znn (fun e => hy (Or.inr e))) (by decide)
      obtain ⟨f1, f2, f3⟩ := o6 j (by omega)
      obtain ⟨p1, p2, p3⟩ := o9 j hj
      by_cases hl : ln j = 64
      · exact zSt_0 h (zh43_0 hN hN (zc_bo hR hN hc hc10 o4 o2 o1 hj hb (Or.inl rfl) (zc_abN hN (zkk (zK_file (by omega) (by omega)) (by omega)) (by rw [← hl]; exact f2.1) _))) (zm_boF hR hN o3 o1 hj hb (by rw [← hl]; exact p2)) (Or.inl ⟨rfl, rfl⟩)
      · have hl6 : ln j < 64 := by
          have := f2.2
          omega
        obtain ⟨I1, e1⟩ : ∃ I1 : zI, I1 = zu (zu I (8 + 37 * c + 22 + 2 * j) (ln j) (Int32.ofNat b)) (8 + 37 * c + 21 + 2 * j) 2 (Int32.ofNat (ln j + 1)) := ⟨_, rfl⟩
        have hr : zRet L 44 [.ref 3, .int (Int32.ofNat j), .int (Int32.ofNat b)] (N, U, I, J, R) (some (.int (Int32.ofNat 1))) (N, U, I1, J, R) := by
          rw [e1]; exact zc_bo hR hN hc hc10 o4 o2 o1 hj hb (Or.inr rfl) (zc_ab hR hN (by omega) (by omega) f2.1 hl6 _)
        have c1 : ∀ a k, ¬ ((a = 8 + 37 * c + 22 + 2 * j ∧ k = ln j) ∨ (a = 8 + 37 * c + 21 + 2 * j ∧ k = 2)) → I1 a k = I a k := fun a k hk => by
          rw [e1]; rw [zu_nc (by omega), zu_nc (by omega)]
        obtain ⟨I2, e2⟩ : ∃ I2 : zI, I2 = zu (zu (zT I1 0) 446 (64 * (80 + j) + ln j) (Int32.ofNat b)) 445 (80 + j) (Int32.ofNat (ln j + 1)) := ⟨_, rfl⟩
        have hq : zRet L 87 [.ref 436, .int (Int32.ofNat j), .int (Int32.ofNat b)] (N, U, I1, zu J 458 0 1, R) (some (.int (Int32.ofNat 1))) (N, U, I2, zu J 458 0 1, R) := by
          rw [e2]; exact zm_bo hR hN ((c1 443 10 (by omega)).trans o3) o1 hj hb ((c1 445 (80 + j) (by omega)).trans p2) hl6
        have c2 : ∀ a k, ¬ ((a = 436 ∧ k = 0) ∨ (a = 446 ∧ k = 64 * (80 + j) + ln j) ∨ (a = 445 ∧ k = 80 + j)) → I2 a k = I1 a k := fun a k hk => by
          rw [e2]; rw [zu_nc (by omega), zu_nc (by omega), zT_c (by omega)]
        have c3 : ∀ a k, ¬ ((a = 8 + 37 * c + 22 + 2 * j ∧ k = ln j) ∨ (a = 8 + 37 * c + 21 + 2 * j ∧ k = 2) ∨ (a = 436 ∧ k = 0) ∨ (a = 446 ∧ k = 64 * (80 + j) + ln j) ∨ (a = 445 ∧ k = 80 + j)) → I2 a k = I a k := fun a k hk => (c2 a k (by omega)).trans (c1 a k (by omega))
        refine ⟨0, Int32.ofNat 1, N, U, I1, I2, _, zh43_1 hN hN hr, hq, ⟨funext fun k => c1 0 k (by omega), by rw [e2]; rfl, by decide⟩, fun _ => Or.inr ⟨rfl, rfl⟩, ⟨by omega, by omega⟩, zInv_op h ⟨(c3 436 2 (by omega)).trans hm.1, fun i hi => absurd hi (by simp)⟩ (fun a k hk => c3 a k (by unfold zSo zSn at hk; omega)) ⟨n, nm, zup ln j (ln j + 1), zOp_byte hO hj rfl hl6 (zb8_n hb) hc10 c3 ?_ ?_ ?_ ?_⟩⟩
        · rw [c2 _ _ (by omega), e1]; rw [zu_nc (by omega), zu_at]
        · rw [c2 _ _ (by omega), e1]; rw [zu_at]
        · rw [e2]; rw [zu_nc (by omega), zu_at]
        · rw [e2]; rw [zu_at]
theorem zS_root (h : zInv c N I R) (x y : Int32) : zSt L c N U I J R 47 100 [.ref 436, .int x, .int y] [.ref 3, .int x, .int y, .ref 458] zPi := by
  obtain ⟨⟨⟨hR, hN, hC, hK, hm⟩, hc, hcm, hc10⟩, ⟨b1, b2, b3⟩, b4⟩ := id h
  by_cases hx : x < 0 ∨ ¬ x < Int32.ofNat c
  · exact zSt_T h (Or.inl rfl) (zh47_T1 hN (zc_rootT1 hN hc hx)) (zm_rootT hR (by omega) hcm hc10 (Or.inl hx))
  · obtain ⟨r, rfl, hr⟩ := zn_of (fun e => hx (Or.inl e)) (znn (fun e => hx (Or.inr e))) (by omega)
    by_cases hy : y < 0 ∨ ¬ y < Int32.ofNat 32
    · exact zSt_T h (Or.inl rfl) (zh47_T1 hN (zc_rootT2 hR hN hc hc10 hr hy)) (zm_rootT hR (by omega) hcm hc10 (Or.inr hy))
    · obtain ⟨i, rfl, hi⟩ := zn_of (fun e => hy (Or.inl e)) (znn (fun e => hy (Or.inr e))) (by decide)
      obtain ⟨n, s, ln, g1, g2, g3, g4, g5⟩ := b1 r hr
      refine zSt_0 h (zh47 hN hN (zc_root hR hN hc hc10 hr hi g4.1.1 g4.1.2.1)) (zm_root hR hN hcm hc10 hr hi) ?_
      show (I (8 + 37 * r + 4 + zq (zlvl n)) i).toInt64 = _
      rw [g5 i hi]
theorem zS_proof (h : zInv c N I R) (x y z : Int32) : zSt L c N U I J R 51 104 [.ref 436, .int x, .int y, .int z] [.ref 3, .int x, .int y, .int z, .ref 458] zPi := by
  obtain ⟨⟨⟨hR, hN, hC, hK, hm⟩, hc, hcm, hc10⟩, ⟨b1, b2, b3⟩, b4⟩ := id h
  by_cases hx : x < 0 ∨ ¬ x < Int32.ofNat c
  · exact zSt_T h (Or.inl rfl) (zh51_T1 hN (zc_prT1 hN hc hx)) (zm_prT hR (by omega) (Or.inl (zm_ilN1 (by omega) hcm hx)))
  · obtain ⟨r, rfl, hr⟩ := zn_of (fun e => hx (Or.inl e)) (znn (fun e => hx (Or.inr e))) (by omega)
    obtain ⟨n, s, ln, g1, g2, g3, g4, g5⟩ := b1 r hr
    by_cases hy : y < 0 ∨ ¬ y < Int32.ofNat n
    · exact zSt_T h (Or.inl rfl) (zh51_T1 hN (zc_prT2 hR hN hc hc10 hr g1.2.1 hy)) (zm_prT hR (by omega) (Or.inl (zm_ilN2 hR (by omega) hcm hc10 hr g1.2.2 hy)))
    · have g8 := g1.1
      obtain ⟨j, rfl, hj⟩ := zn_of (fun e => hy (Or.inl e)) (znn (fun e => hy (Or.inr e))) (by omega)
      by_cases hz : z < 0
      · exact zSt_T h (Or.inl rfl) (zh51_T1 hN (zc_prT3 hR hN hc hc10 hr g1.2.1 g1.1 hj hz)) (zm_prT hR (by omega) (Or.inr ⟨zm_il hR (by omega) hcm hc10 hr g1.2.2 g1.1 hj, hz⟩))
      · obtain ⟨i, rfl, hi⟩ := zn_of2 hz
        have hcl := zc_pr (L := L) (U := U) (J := J) hR hN hc hc10 hr g1.2.1 g1.1 hj g4.1 hi
        rw [zprf_eq g4] at hcl
        obtain ⟨I2, hq, hm2, hf2⟩ := zm_pr (L := L) (U := U) (J := zu J 458 0 (zprf (zlev n (fun q b => I 447 (256 * r + (32 * q + b)))) (zwid n) (zlvl n) j i).toInt64) hR hN hcm hc10 hr g1.2.2 g1.1 hj hi hK hm
        exact zSt_Q h (zh51 hN hN hcl) hq hf2 hm2 rfl
theorem zS_hist (h : zInv c N I R) (x y z : Int32) : zSt L c N U I J R 67 118 [.ref 436, .int x, .int y, .int z] [.ref 3, .int x, .int y, .int z, .ref 458] zPi := by
  obtain ⟨⟨⟨hR, hN, hC, hK, hm⟩, hc, hcm, hc10⟩, b0, ⟨b1, b2, ⟨s, s1, s2, s3, s4⟩, ⟨n, v1, v2, v3, v4⟩⟩, b4⟩ := id h
  by_cases hx : x < 0 ∨ ¬ x < Int32.ofNat s
  · exact zSt_T h (Or.inl rfl) (zh67_T1 hN (zc_hisT1 hN s2 hx)) (zm_hisT hR (by omega) s3 (Or.inl hx))
  · obtain ⟨q, rfl, hq⟩ := zn_of (fun e => hx (Or.inl e)) (znn (fun e => hx (Or.inr e))) (by omega)
    by_cases hz : z < 0 ∨ ¬ z < Int32.ofNat 3
    · exact zSt_T h (Or.inl rfl) (zh67_T1 hN (zc_hisT2 hN s2 s1 hq hz)) (zm_hisT hR (by omega) s3 (Or.inr hz))
    · obtain ⟨w, rfl, hw⟩ := zn_of (fun e => hz (Or.inl e)) (znn (fun e => hz (Or.inr e))) (by decide)
      have hcl := zc_his (L := L) (U := U) (J := J) hR hN s2 s1 hq hw v2 v1 y
      rw [zhis_eq (I' := I) hw (s4 q hq) v4] at hcl
      exact zSt_0 h (zh67 hN hN hcl) (zm_his hR hN s3 s1 hq hw v3 v1 y) rfl
theorem zS_dig (h : zInv c N I R) (x y z : Int32) : zSt L c N U I J R 71 102 [.ref 436, .int x, .int y, .int z] [.ref 3, .int x, .int y, .int z, .ref 458] zPi := by
  obtain ⟨⟨⟨hR, hN, hC, hK, hm⟩, hc, hcm, hc10⟩, ⟨b1, b2, b3⟩, b4⟩ := id h
  by_cases hx : x < 0 ∨ ¬ x < Int32.ofNat c
  · exact zSt_T h (Or.inl rfl) (zh71_T1 hN (zc_dgT1 hN hc hx)) (zm_dgT hR (by omega) (Or.inl (zm_ilN1 (by omega) hcm hx)))
  · obtain ⟨r, rfl, hr⟩ := zn_of (fun e => hx (Or.inl e)) (znn (fun e => hx (Or.inr e))) (by omega)
    obtain ⟨n, s, ln, g1, g2, g3, g4, g5⟩ := b1 r hr
    by_cases hy : y < 0 ∨ ¬ y < Int32.ofNat n
    · exact zSt_T h (Or.inl rfl) (zh71_T1 hN (zc_dgT2 hR hN hc hc10 hr g1.2.1 hy)) (zm_dgT hR (by omega) (Or.inl (zm_ilN2 hR (by omega) hcm hc10 hr g1.2.2 hy)))
    · have g8 := g1.1
      obtain ⟨j, rfl, hj⟩ := zn_of (fun e => hy (Or.inl e)) (znn (fun e => hy (Or.inr e))) (by omega)
      by_cases hz : z < 0 ∨ ¬ z < Int32.ofNat 32
      · exact zSt_T h (Or.inl rfl) (zh71_T1 hN (zc_dgT3 hR hN hc hc10 hr g1.2.1 g1.1 hj hz)) (zm_dgT hR (by omega) (Or.inr ⟨zm_il hR (by omega) hcm hc10 hr g1.2.2 g1.1 hj, hz⟩))
      · obtain ⟨i, rfl, hi⟩ := zn_of (fun e => hz (Or.inl e)) (znn (fun e => hz (Or.inr e))) (by decide)
        refine zSt_0 h (zh71 hN hN (zc_dg hR hN hc hc10 hr g1.2.1 g1.1 hj hi)) (zm_dg hR hN hcm hc10 hr g1.2.2 g1.1 hj hi) ?_
        have k1 := g4.2.1 0 (Nat.zero_le _) j hj i hi
        rw [show zq 0 = 0 from rfl, Nat.zero_add] at k1
        show (I (8 + 37 * r + 4 + j) i).toInt64 = _
        rw [k1, show 32 * (8 * r + j) + i = 256 * r + (32 * j + i) by omega]
        rfl
theorem zS_grow (h : zInv c N I R) (x y z : Int32) : zSt L c N U I J R 73 119 [.ref 436, .int x, .int y, .int z] [.ref 3, .int x, .int y, .int z, .ref 458] zPi := by
  obtain ⟨⟨⟨hR, hN, hC, hK, hm⟩, hc, hcm, hc10⟩, ⟨b1, b2, b3⟩, b4, b5, b6⟩ := id h
  by_cases hx : x < 0 ∨ y < x ∨ Int32.ofNat c < y
  · exact zSt_T h (Or.inl rfl) (zh73_T1 hN (zc_grT1 hN hc hx)) (zm_grT (by omega) hcm (by rcases hx with e | e | e; exact Or.inl e; exact Or.inr (Or.inl e); exact Or.inr (Or.inr (Or.inl e))))
  · obtain ⟨a, t, rfl, rfl, hat, ht⟩ := zn_gr hc10 hx
    by_cases hz : z < 0
    · exact zSt_T h (Or.inl rfl) (zh73_T1 hN (zc_grT2 hN hc hc10 hat ht hz)) (zm_grT (by omega) hcm (Or.inr (Or.inr (Or.inr hz))))
    · obtain ⟨i, rfl, hi⟩ := zn_of2 hz
      obtain ⟨tp, htp⟩ := zInv_tp h
      have hcl := zc_gr (L := L) (U := U) (J := J) hR hN hc hc10 hat ht hi (fun r hr => (htp r hr).1)
      rw [zgr_eq (I' := I) hat ht b6 (fun r hr => (htp r hr).2)] at hcl
      obtain ⟨I2, hq, hm2, hf2⟩ := zm_gr (L := L) (U := U) (J := zu J 458 0 (if i < 64 + 32 * (t - a) then zgrw (I 448) a t i else -1).toInt64) hR hN hcm hc10 hat ht hi hK hm
      exact zSt_Q h (zh73 hN hN hcl) hq hf2 hm2 rfl
theorem zS_chg (h : zInv c N I R) (x y : Int32) : zSt L c N U I J R 78 121 [.ref 436, .int x, .int y] [.ref 3, .int x, .int y, .ref 458] zPi := by
  obtain ⟨⟨⟨hR, hN, hC, hK, hm⟩, hc, hcm, hc10⟩, ⟨b1, b2, b3⟩, b4⟩ := id h
  by_cases hx : x < 0 ∨ ¬ x < Int32.ofNat c
  · exact zSt_T h (Or.inl rfl) (zh78_T1 hN (zc_chT1 hN hc hx)) (zm_chT hR (by omega) (zm_ilN1 (by omega) hcm hx))
  · obtain ⟨r1, rfl, hr⟩ := zn_of (fun e => hx (Or.inl e)) (znn (fun e => hx (Or.inr e))) (by omega)
    obtain ⟨m, s, ln, g1, g2, g3, g4, g5⟩ := b1 r1 hr
    by_cases hy : y < 0 ∨ ¬ y < Int32.ofNat m
    · exact zSt_T h (Or.inl rfl) (zh78_T1 hN (zc_chT2 hR hN hc hc10 hr g1.2.1 hy)) (zm_chT hR (by omega) (zm_ilN2 hR (by omega) hcm hc10 hr g1.2.2 hy))
    · have g8 := g1.1
      obtain ⟨j, rfl, hj⟩ := zn_of (fun e => hy (Or.inl e)) (znn (fun e => hy (Or.inr e))) (by omega)
      rcases Nat.eq_zero_or_pos r1 with e | e
      · subst e
        exact zSt_0 h (zh78 hN hN (zc_ch0 hR hN hc hc10 g2 hr g1.2.1 g1.1 hj)) (zm_ch0 hR hN hcm hc10 hr g1.2.2 g1.1 hj) rfl
      · obtain ⟨r, hr1⟩ : ∃ r, r1 = r + 1 := ⟨r1 - 1, by omega⟩
        obtain ⟨n2, s2, ln2, f1, f2, f3, f4, f5⟩ := b1 r (by omega)
        have gj := g3 j hj
        have f8 := f1.1
        have hcl := zc_ch (L := L) (U := U) (J := J) (ln := ln2) hR hN hc hc10 hr hr1 g2 f2 g1.2.1 g1.1 hj f1.2.1 f1.1 gj.2.1 gj.2.2.2.1 (fun q hq => ⟨(f3 q hq).2.1, (f3 q hq).2.2.2.1⟩)
        rw [zch_eq (I' := I) (fun k hk => (f3 k hk).1) gj.1 gj.2.2.2.2 (fun q hq => (f3 q hq).2.2.2.2)] at hcl
        exact zSt_0 h (zh78 hN hN hcl) (zm_ch hR hN hcm hc10 hr hr1 g1.2.2 g1.1 hj f1.2.2 f1.1 gj.2.2.1 gj.2.2.2.1 (fun q hq => ⟨(f3 q hq).2.2.1, (f3 q hq).2.2.2.1⟩)) rfl
theorem zls_b8 (f : Nat → Int32) (n i : Nat) : zb8 (zls f n i) := by
  cases n with
  | zero => exact zb8_sha _ _
  | succ n => exact zb8_sha _ _
end ZS
