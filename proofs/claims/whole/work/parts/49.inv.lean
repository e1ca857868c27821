/-! THE INVARIANT between the class and the reference -/
def zBs (N : Nat) (I : zI) (R : zR) : Prop := zRs R ∧ 459 ≤ N ∧ zCs I ∧ (∀ j, j < 64 → I 437 j = zKr j) ∧ zMg [] I
/-- a closed release -/
def zCdd (I : zI) (R : zR) (r n : Nat) (s ln : Nat → Nat) : Prop := (n ≤ 8 ∧ I (8 + 37 * r) 1 = Int32.ofNat n ∧ I 443 r = Int32.ofNat n) ∧ zFl R r s ∧
  (∀ j, j < n → I (8 + 37 * r + 21 + 2 * s j) 0 = I 444 (8 * r + j) ∧ I (8 + 37 * r + 21 + 2 * s j) 2 = Int32.ofNat (ln j) ∧ I 445 (8 * r + j) = Int32.ofNat (ln j) ∧ ln j ≤ 64 ∧ ∀ k, k < ln j → I (8 + 37 * r + 22 + 2 * s j) k = I 446 (64 * (8 * r + j) + k)) ∧
  zTree I r n (fun q b => I 447 (256 * r + (32 * q + b))) ∧ ∀ b, b < 32 → I (8 + 37 * r + 4 + zq (zlvl n)) b = I 448 (32 * r + b)
def zCd (I : zI) (R : zR) (r : Nat) : Prop := ∃ (n : Nat) (s ln : Nat → Nat), zCdd I R r n s ln
/-- the open one -/
def zOpd (I : zI) (R : zR) (c n : Nat) (nm ln : Nat → Nat) : Prop := (n ≤ 8 ∧ I (8 + 37 * c) 1 = Int32.ofNat n ∧ I 443 10 = Int32.ofNat n) ∧ zFl R c (fun j => j) ∧ I (8 + 37 * c + 2) 2 = Int32.ofNat 0 ∧ zFc I c nm ln ∧ (∀ j, n ≤ j → j < 8 → ln j = 0) ∧ (∀ a b, a < b → b < n → nm a ≠ nm b) ∧
  ∀ j, j < n → I 444 (80 + j) = Int32.ofNat (nm j) ∧ I 445 (80 + j) = Int32.ofNat (ln j) ∧ ∀ k, k < ln j → I 446 (64 * (80 + j) + k) = I (8 + 37 * c + 22 + 2 * j) k
def zOp (I : zI) (R : zR) (c : Nat) : Prop := ∃ (n : Nat) (nm ln : Nat → Nat), zOpd I R c n nm ln
/-- one that is not begun -/
def zNw (I : zI) (R : zR) (r : Nat) : Prop := I (8 + 37 * r) 1 = Int32.ofNat 0 ∧ zFl R r (fun j => j) ∧ I (8 + 37 * r + 2) 2 = Int32.ofNat 0 ∧ zFc I r (fun _ => 0) (fun _ => 0)
def zPr (I : zI) : Prop := ∀ r, r < 10 → ∀ p, p < 16 → zRp (I (8 + 37 * r + 20) p) (I 451 (16 * r + p))
def zWi (I : zI) : Prop := (∀ r, r < 10 → ∃ v, v ≤ 1 ∧ I (8 + 37 * r) 4 = Int32.ofNat v ∧ I 452 r = Int32.ofNat v) ∧ I 3 4 = I 436 21
def zSr (I : zI) : Prop := ∃ s, s ≤ 60 ∧ I 3 6 = Int32.ofNat s ∧ I 436 22 = Int32.ofNat s ∧ ∀ k, k < s → I 427 k = I 453 k
def zEvn (I : zI) (n : Nat) : Prop := n ≤ 100 ∧ I 428 4 = Int32.ofNat n ∧ I 436 24 = Int32.ofNat n ∧ ∀ k, k < n → I 429 k = I 454 k ∧ I 430 k = I 455 k ∧ I 431 k = I 456 k ∧ I 432 k = I 457 k
def zEv (I : zI) : Prop := ∃ n, zEvn I n
def zCk (I : zI) : Prop := ∃ (q : Nat) (b : Nat → Nat), zBy I q b ∧ zBm I q b
def zLi (I : zI) (c : Nat) : Prop := ∀ k, k ≤ c → ∀ b, b < 32 → I (416 + k) b = zls (I 448) k b
def zInv (c N : Nat) (I : zI) (R : zR) : Prop := (zBs N I R ∧ I 3 2 = Int32.ofNat c ∧ I 436 8 = Int32.ofNat c ∧ c ≤ 10) ∧ ((∀ r, r < c → zCd I R r) ∧ zOp I R c ∧ ∀ r, c < r → r < 11 → zNw I R r) ∧ (zPr I ∧ zWi I ∧ zSr I ∧ zEv I) ∧ zCk I ∧ zLi I c
/-! the cells that each part of it speaks of -/
def zSd (r a k : Nat) : Prop := (8 + 37 * r + 2 ≤ a ∧ a < 8 + 37 * r + 37 ∧ a ≠ 8 + 37 * r + 20) ∨ (a = 8 + 37 * r ∧ k = 1) ∨ (a = 443 ∧ k = r) ∨ ((a = 444 ∨ a = 445) ∧ 8 * r ≤ k ∧ k < 8 * r + 8) ∨ (a = 446 ∧ 512 * r ≤ k ∧ k < 512 * r + 512) ∨ (a = 447 ∧ 256 * r ≤ k ∧ k < 256 * r + 256) ∨ (a = 448 ∧ 32 * r ≤ k ∧ k < 32 * r + 32)
def zSn (r a k : Nat) : Prop := (8 + 37 * r + 2 ≤ a ∧ a < 8 + 37 * r + 37 ∧ a ≠ 8 + 37 * r + 20) ∨ (a = 8 + 37 * r ∧ k = 1)
def zSo (r a k : Nat) : Prop := zSn r a k ∨ (a = 443 ∧ k = 10) ∨ ((a = 444 ∨ a = 445) ∧ 80 ≤ k ∧ k < 88) ∨ (a = 446 ∧ 5120 ≤ k ∧ k < 5632)
def zSp (a k : Nat) : Prop := (8 ≤ a ∧ a < 415 ∧ (a - 8) % 37 = 20) ∨ a = 451
def zSw (a k : Nat) : Prop := (8 ≤ a ∧ a < 415 ∧ (a - 8) % 37 = 0 ∧ k = 4) ∨ a = 452 ∨ (a = 3 ∧ k = 4) ∨ (a = 436 ∧ k = 21)
def zSs (a k : Nat) : Prop := (a = 3 ∧ k = 6) ∨ (a = 436 ∧ k = 22) ∨ a = 427 ∨ a = 453
def zSe (a k : Nat) : Prop := (429 ≤ a ∧ a ≤ 432) ∨ (a = 428 ∧ k = 4) ∨ (454 ≤ a ∧ a ≤ 457) ∨ (a = 436 ∧ k = 24)
def zSk (a k : Nat) : Prop := (a = 433 ∧ k = 1) ∨ a = 434 ∨ (a = 436 ∧ k = 17) ∨ a = 450
def zSl (c a k : Nat) : Prop := (416 ≤ a ∧ a ≤ 416 + c ∧ a < 427) ∨ (a = 448 ∧ k < 32 * c)
def zSb (a k : Nat) : Prop := a = 1 ∨ a = 2 ∨ a = 437 ∨ (a = 3 ∧ k = 2) ∨ (a = 436 ∧ k = 8)
theorem zwid_l8 {n : Nat} (hn : n ≤ 8) : ∀ k, zwid n k ≤ 8
  | 0 => hn
  | k + 1 => by
    have := zwid_l8 hn k
    show (zwid n k + 1) / 2 ≤ 8
    omega
theorem zlvl_l3 (n : Nat) : zlvl n ≤ 3 := by unfold zlvl; repeat (first | omega | split)
theorem zTree_row {I I' : zI} {r n : Nat} {D : Nat → Nat → Int32} (hn : n ≤ 8) (he : ∀ a k, 8 + 37 * r + 2 ≤ a → a ≤ 8 + 37 * r + 19 → I' a k = I a k) (h : zTree I r n D) : zTree I' r n D := by
  obtain ⟨⟨a1, a2, a3⟩, b1, c1⟩ := h
  refine ⟨⟨?_, a2, fun k hk => ?_⟩, fun k hk i hi b hb => ?_, fun h0 b hb => ?_⟩
  · rw [he _ _ (by omega) (by omega)]; exact a1
  · rw [he _ _ (by omega) (by omega)]; exact a3 k hk
  · have hk3 := zlvl_l3 n
    have hz1 := zwid_cp hn (show k < 4 by omega)
    have hz2 := zq_f (show k < 4 by omega)
    rw [he _ _ (by omega) (by omega)]; exact b1 k hk i hi b hb
  · rw [he _ _ (by omega) (by omega)]; exact c1 h0 b hb
theorem zFc_row {I I' : zI} {r : Nat} {nm ln : Nat → Nat} (he : ∀ a k, 8 + 37 * r + 21 ≤ a → a < 8 + 37 * r + 37 → I' a k = I a k) (h : zFc I r nm ln) : zFc I' r nm ln := by
  intro o ho
  obtain ⟨a1, a2, a3⟩ := h o ho
  rw [he _ _ (by omega) (by omega), he _ _ (by omega) (by omega)]
  refine ⟨a1, a2, fun k hk => ?_⟩
  rw [he _ _ (by omega) (by omega)]
  exact a3 k hk
theorem zFl_row {R R' : zR} {r : Nat} {s : Nat → Nat} (he : R' (8 + 37 * r + 1) = R (8 + 37 * r + 1)) (h : zFl R r s) : zFl R' r s := fun j hj => by rw [he]; exact h j hj
theorem zCd_c {I I' : zI} {R R' : zR} {r : Nat} (hr : R' (8 + 37 * r + 1) = R (8 + 37 * r + 1)) (he : ∀ a k, zSd r a k → I' a k = I a k) (h : zCd I R r) : zCd I' R' r := by
  obtain ⟨n, s, ln, ⟨h1, h2, h3⟩, h4, h5, h6, h7⟩ := h
  have h3' := zlvl_l3 n
  have hq3 := zq_f (show zlvl n < 4 by omega)
  refine ⟨n, s, ln, ⟨h1, ?_, ?_⟩, zFl_row hr h4, fun j hj => ?_, ?_, fun b hb => ?_⟩
  · rw [he _ _ (by unfold zSd; omega)]; exact h2
  · rw [he _ _ (by unfold zSd; omega)]; exact h3
  · have hs := (h4 j (by omega)).2
    obtain ⟨g1, g2, g3, g4, g5⟩ := h5 j hj
    refine ⟨?_, ?_, ?_, g4, fun k hk => ?_⟩
    · rw [he _ _ (by unfold zSd; omega), he _ _ (by unfold zSd; omega)]; exact g1
    · rw [he _ _ (by unfold zSd; omega)]; exact g2
    · rw [he _ _ (by unfold zSd; omega)]; exact g3
    · rw [he _ _ (by unfold zSd; omega), he _ _ (by unfold zSd; omega)]; exact g5 k hk
  · refine zTree_row h1 (fun a k ha1 ha2 => he a k (by unfold zSd; omega)) (zTree_cg (fun i hi b hb => ?_) h6)
    exact (he _ _ (by unfold zSd; omega)).symm
  · rw [he (8 + 37 * r + 4 + zq (zlvl n)) b (Or.inl ⟨by omega, by omega, by omega⟩), he 448 (32 * r + b) (by unfold zSd; omega)]; exact h7 b hb
theorem zNw_c {I I' : zI} {R R' : zR} {r : Nat} (hr : R' (8 + 37 * r + 1) = R (8 + 37 * r + 1)) (he : ∀ a k, zSn r a k → I' a k = I a k) (h : zNw I R r) : zNw I' R' r := by
  obtain ⟨h1, h2, h3, h4⟩ := h
  refine ⟨?_, zFl_row hr h2, ?_, zFc_row (fun a k ha1 ha2 => he a k (by unfold zSn; omega)) h4⟩
  · rw [he _ _ (by unfold zSn; omega)]; exact h1
  · rw [he _ _ (by unfold zSn; omega)]; exact h3
theorem zOp_c {I I' : zI} {R R' : zR} {c : Nat} (hr : R' (8 + 37 * c + 1) = R (8 + 37 * c + 1)) (he : ∀ a k, zSo c a k → I' a k = I a k) (h : zOp I R c) : zOp I' R' c := by
  obtain ⟨n, nm, ln, ⟨h1, h2, h3⟩, h4, h5, h6, h7, h8, h9⟩ := h
  refine ⟨n, nm, ln, ⟨h1, ?_, ?_⟩, zFl_row hr h4, ?_, zFc_row (fun a k ha1 ha2 => he a k (by unfold zSo zSn; omega)) h6, h7, h8, fun j hj => ?_⟩
  · rw [he _ _ (by unfold zSo zSn; omega)]; exact h2
  · rw [he _ _ (by unfold zSo zSn; omega)]; exact h3
  · rw [he _ _ (by unfold zSo zSn; omega)]; exact h5
  · obtain ⟨g1, g2, g3⟩ := h9 j hj
    have hl := (h6 j (by omega)).2.1.2
    refine ⟨?_, ?_, fun k hk => ?_⟩
    · rw [he _ _ (by unfold zSo zSn; omega)]; exact g1
    · rw [he _ _ (by unfold zSo zSn; omega)]; exact g2
    · rw [he _ _ (by unfold zSo zSn; omega), he _ _ (by unfold zSo zSn; omega)]; exact g3 k hk
theorem zPr_c {I I' : zI} (he : ∀ a k, zSp a k → I' a k = I a k) (h : zPr I) : zPr I' := fun r hr p hp => by
  rw [he _ _ (by unfold zSp; omega), he _ _ (by unfold zSp; omega)]; exact h r hr p hp
theorem zWi_c {I I' : zI} (he : ∀ a k, zSw a k → I' a k = I a k) (h : zWi I) : zWi I' := by
  refine ⟨fun r hr => ?_, ?_⟩
  · rw [he _ _ (by unfold zSw; omega), he _ _ (by unfold zSw; omega)]; exact h.1 r hr
  · rw [he _ _ (by unfold zSw; omega), he _ _ (by unfold zSw; omega)]; exact h.2
theorem zSr_c {I I' : zI} (he : ∀ a k, zSs a k → I' a k = I a k) (h : zSr I) : zSr I' := by
  obtain ⟨s, h1, h2, h3, h4⟩ := h
  refine ⟨s, h1, ?_, ?_, fun k hk => ?_⟩
  · rw [he _ _ (by unfold zSs; omega)]; exact h2
  · rw [he _ _ (by unfold zSs; omega)]; exact h3
  · rw [he _ _ (by unfold zSs; omega), he _ _ (by unfold zSs; omega)]; exact h4 k hk
theorem zEvn_c {I I' : zI} {n : Nat} (he : ∀ a k, zSe a k → I' a k = I a k) (h : zEvn I n) : zEvn I' n := by
  obtain ⟨h1, h2, h3, h4⟩ := h
  refine ⟨h1, ?_, ?_, fun k hk => ?_⟩
  · rw [he _ _ (by unfold zSe; omega)]; exact h2
  · rw [he _ _ (by unfold zSe; omega)]; exact h3
  · rw [he 429 _ (by unfold zSe; omega), he 430 _ (by unfold zSe; omega), he 431 _ (by unfold zSe; omega), he 432 _ (by unfold zSe; omega), he 454 _ (by unfold zSe; omega), he 455 _ (by unfold zSe; omega), he 456 _ (by unfold zSe; omega), he 457 _ (by unfold zSe; omega)]; exact h4 k hk
theorem zEv_c {I I' : zI} (he : ∀ a k, zSe a k → I' a k = I a k) (h : zEv I) : zEv I' := by
  obtain ⟨n, h⟩ := h
  exact ⟨n, zEvn_c he h⟩
theorem zCk_c {I I' : zI} (he : ∀ a k, zSk a k → I' a k = I a k) (h : zCk I) : zCk I' := by
  obtain ⟨q, b, ⟨h1, h2, h3⟩, h4, h5, h6⟩ := h
  refine ⟨q, b, ⟨?_, h2, fun i hi => ?_⟩, ?_, h5, fun i hi => ?_⟩
  · rw [he _ _ (by unfold zSk; omega)]; exact h1
  · rw [he _ _ (by unfold zSk; omega)]; exact h3 i hi
  · rw [he _ _ (by unfold zSk; omega)]; exact h4
  · rw [he _ _ (by unfold zSk; omega)]; exact h6 i hi
theorem zLi_c {I I' : zI} {c : Nat} (hc : c ≤ 10) (he : ∀ a k, zSl c a k → I' a k = I a k) (h : zLi I c) : zLi I' c := fun k hk b hb => by
  rw [he _ _ (by unfold zSl; omega), h k hk b hb]
  rw [zls_cg (f := I' 448) (g := I 448) (n := k) (fun i hi => he _ _ (by unfold zSl; omega))]
theorem zBs_c {N N' : Nat} {I I' : zI} {R : zR} (hN : N ≤ N') (hm : zMg [] I') (he : ∀ a k, zSb a k → I' a k = I a k) (h : zBs N I R) : zBs N' I' R := by
  obtain ⟨h1, h2, h3, h4, h5⟩ := h
  refine ⟨h1, by omega, ⟨fun j hj => ?_, fun j hj => ?_⟩, fun j hj => ?_, hm⟩
  · rw [he _ _ (by unfold zSb; omega)]; exact h3.1 j hj
  · rw [he _ _ (by unfold zSb; omega)]; exact h3.2 j hj
  · rw [he _ _ (by unfold zSb; omega)]; exact h4 j hj
/-- cells that count -/
def zDt (a k : Nat) : Prop := (a < 4 ∨ 6 < a) ∧ a ≠ 435 ∧ (a < 438 ∨ 442 < a) ∧ a ≠ 449 ∧ (a = 436 → k ≠ 0 ∧ k ≠ 2 ∧ k ≠ 15 ∧ k ≠ 29 ∧ k ≠ 30 ∧ k ≠ 31)
theorem zInv_q {c N N' : Nat} {I I' : zI} {R : zR} (h : zInv c N I R) (hN : N ≤ N') (hm : zMg [] I') (he : ∀ a k, zDt a k → I' a k = I a k) : zInv c N' I' R := by
  obtain ⟨⟨a1, a2, a3, a4⟩, ⟨b1, b2, b3⟩, ⟨c1, c2, c3, c4⟩, d1, e1⟩ := h
  refine ⟨⟨zBs_c hN hm (fun a k hk => he a k (by unfold zSb at hk; unfold zDt; omega)) a1, ?_, ?_, a4⟩, ⟨fun r hr => zCd_c rfl (fun a k hk => he a k (by unfold zSd at hk; unfold zDt; omega)) (b1 r hr), zOp_c rfl (fun a k hk => he a k (by unfold zSo zSn at hk; unfold zDt; omega)) b2, fun r h1 h2 => zNw_c rfl (fun a k hk => he a k (by unfold zSn at hk; unfold zDt; omega)) (b3 r h1 h2)⟩,
    ⟨zPr_c (fun a k hk => he a k (by unfold zSp at hk; unfold zDt; omega)) c1, zWi_c (fun a k hk => he a k (by unfold zSw at hk; unfold zDt; omega)) c2, zSr_c (fun a k hk => he a k (by unfold zSs at hk; unfold zDt; omega)) c3, zEv_c (fun a k hk => he a k (by unfold zSe at hk; unfold zDt; omega)) c4⟩, zCk_c (fun a k hk => he a k (by unfold zSk at hk; unfold zDt; omega)) d1, zLi_c a4 (fun a k hk => he a k (by unfold zSl at hk; unfold zDt; omega)) e1⟩
  · rw [he _ _ (by unfold zDt; omega)]; exact a2
  · rw [he _ _ (by unfold zDt; omega)]; exact a3
/-- the start -/
theorem zMg0 {I : zI} (h : I 436 2 = 0) : zMg [] I := ⟨h, fun i hi => absurd hi (by simp)⟩
/-- an event comes on both sides -/
theorem zrec0_ne {I : zI} {n : Nat} {a b x y : Int32} {d k : Nat} (h : ¬ ((429 ≤ d ∧ d ≤ 432) ∨ (d = 428 ∧ k = 4))) : zrec0 I n a b x y d k = I d k := by
  unfold zrec0 zrec
  split
  · simp only [zu]
    rw [if_neg (by omega), if_neg (by omega), if_neg (by omega), if_neg (by omega), if_neg (by omega)]
  · rfl
theorem znot_ne {I : zI} {n : Nat} {a b x y : Int32} {d k : Nat} (h : ¬ ((454 ≤ d ∧ d ≤ 457) ∨ (d = 436 ∧ k = 24))) : znot I n a b x y d k = I d k := by
  unfold znot
  split
  · simp only [zu]
    rw [if_neg (by omega), if_neg (by omega), if_neg (by omega), if_neg (by omega), if_neg (by omega)]
  · rfl
theorem zEv_step {I Ia Ib : zI} {n : Nat} (h : zEvn I n) (a b x y : Int32) (ha : ∀ d k, zSe d k → Ia d k = I d k) (hb : ∀ d k, zSe d k → Ib d k = zrec0 Ia n a b x y d k) : zEv (znot Ib n a b x y) := by
  have ha' := zEvn_c ha h
  by_cases hn : n < 100
  · have e1 : ∀ d k, zSe d k → Ib d k = zrec Ia n a b x y d k := fun d k hd => by rw [hb d k hd]; unfold zrec0; rw [if_pos hn]
    have e2 : znot Ib n a b x y = zu (zu (zu (zu (zu Ib 454 n a) 455 n b) 456 n x) 457 n y) 436 24 (Int32.ofNat (n + 1)) := by unfold znot; rw [if_pos hn]
    rw [e2]
    have c16 : ∀ k, Ib 429 k = if k = n then a else Ia 429 k := fun k => by
      rw [e1 429 k (by unfold zSe; omega)]
      by_cases e : k = n
      · subst e; rw [if_pos rfl]; simp [zrec, zu]
      · rw [if_neg e]; simp [zrec, zu, e]
    have c17 : ∀ k, Ib 430 k = if k = n then b else Ia 430 k := fun k => by
      rw [e1 430 k (by unfold zSe; omega)]
      by_cases e : k = n
      · subst e; rw [if_pos rfl]; simp [zrec, zu]
      · rw [if_neg e]; simp [zrec, zu, e]
    have c18 : ∀ k, Ib 431 k = if k = n then x else Ia 431 k := fun k => by
      rw [e1 431 k (by unfold zSe; omega)]
      by_cases e : k = n
      · subst e; rw [if_pos rfl]; simp [zrec, zu]
      · rw [if_neg e]; simp [zrec, zu, e]
    have c19 : ∀ k, Ib 432 k = if k = n then y else Ia 432 k := fun k => by
      rw [e1 432 k (by unfold zSe; omega)]
      by_cases e : k = n
      · subst e; rw [if_pos rfl]; simp [zrec, zu]
      · rw [if_neg e]; simp [zrec, zu, e]
    have d4 : ∀ d k, 454 ≤ d → d ≤ 457 → Ib d k = Ia d k := fun d k h1 h2 => by
      rw [hb d k (by unfold zSe; omega)]; exact zrec0_ne (by omega)
    refine ⟨n + 1, by omega, ?_, rfl, fun k hk => ?_⟩
    · show Ib 428 4 = _
      rw [e1 428 4 (by unfold zSe; omega)]; rfl
    · show Ib 429 k = (if 454 = 454 ∧ k = n then a else Ib 454 k) ∧ Ib 430 k = (if 455 = 455 ∧ k = n then b else Ib 455 k) ∧ Ib 431 k = (if 456 = 456 ∧ k = n then x else Ib 456 k) ∧ Ib 432 k = (if 457 = 457 ∧ k = n then y else Ib 457 k)
      rw [c16, c17, c18, c19, d4 454 k (by omega) (by omega), d4 455 k (by omega) (by omega), d4 456 k (by omega) (by omega), d4 457 k (by omega) (by omega)]
      by_cases e : k = n
      · simp [e]
      · have hk4 := ha'.2.2.2 k (by omega)
        simp [e, hk4]
  · have e1 : zrec0 Ia n a b x y = Ia := by unfold zrec0; rw [if_neg hn]
    have e2 : znot Ib n a b x y = Ib := by unfold znot; rw [if_neg hn]
    rw [e2]
    rw [e1] at hb
    exact ⟨n, zEvn_c hb ha'⟩
