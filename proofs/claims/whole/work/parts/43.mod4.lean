/-! THE REFERENCE: proofs and growth, byte by byte -/
/-- what has been said: k bytes of W; the i-th is wanted -/
def zSy (I : zI) (W : Nat → Int32) (k i : Nat) : Prop := I 436 30 = Int32.ofNat k ∧ I 436 29 = Int32.ofNat i ∧ I 436 31 = if i < k then W i else -1
/-- only what is said has changed -/
def zFs (I I' : zI) : Prop := (∀ b, b ≠ 436 → I' b = I b) ∧ ∀ f, f ≠ 29 → f ≠ 30 → f ≠ 31 → I' 436 f = I 436 f
theorem zFs.refl (I : zI) : zFs I I := ⟨fun _ _ => rfl, fun _ _ _ _ => rfl⟩
theorem zFs.trans {I I' I'' : zI} (h : zFs I I') (h' : zFs I' I'') : zFs I I'' := ⟨fun b h1 => (h'.1 b h1).trans (h.1 b h1), fun f h1 h2 h3 => (h'.2 f h1 h2 h3).trans (h.2 f h1 h2 h3)⟩
/-- scratch: what a question may change of the reference -/
def zFq (I I' : zI) : Prop := (∀ b, b ≠ 436 → (b < 438 ∨ 442 < b) → b ≠ 449 → I' b = I b) ∧ ∀ f, f ≠ 2 → f ≠ 15 → f ≠ 29 → f ≠ 30 → f ≠ 31 → I' 436 f = I 436 f
theorem zFq.refl (I : zI) : zFq I I := ⟨fun _ _ _ _ => rfl, fun _ _ _ _ _ _ => rfl⟩
theorem zFq.trans {I I' I'' : zI} (h : zFq I I') (h' : zFq I' I'') : zFq I I'' := ⟨fun b h1 h2 h3 => (h'.1 b h1 h2 h3).trans (h.1 b h1 h2 h3), fun f h2 h3 h4 h5 h6 => (h'.2 f h2 h3 h4 h5 h6).trans (h.2 f h2 h3 h4 h5 h6)⟩
theorem zFs.q {I I' : zI} (h : zFs I I') : zFq I I' := ⟨fun b h1 _ _ => h.1 b h1, fun f _ _ h4 h5 h6 => h.2 f h4 h5 h6⟩
theorem zFg.q {I I' : zI} (h : zFg I I') : zFq I I' := ⟨h.1, fun f h2 h3 _ _ _ => h.2 f h2 h3⟩
theorem zFg.sy {I I' : zI} {W : Nat → Int32} {k i : Nat} (h : zFg I I') (hs : zSy I W k i) : zSy I' W k i := ⟨by rw [h.2 30 (by decide) (by decide)]; exact hs.1, by rw [h.2 29 (by decide) (by decide)]; exact hs.2.1, by rw [h.2 31 (by decide) (by decide)]; exact hs.2.2⟩
theorem zcn1_mono (p : Nat → Bool) {a b : Nat} (h : a ≤ b) : zcn1 p a ≤ zcn1 p b := by
  induction h with
  | refl => exact Nat.le_refl _
  | step _ ih => exact Nat.le_trans ih (Nat.le_add_right _ _)
theorem zcn1_succ (p : Nat → Bool) (n : Nat) : zcn1 p (n + 1) = zcn1 p n + (if p n = true then 1 else 0) := rfl
theorem zsth_at (p : Nat → Bool) : ∀ (n i s k : Nat), i ≤ k → k < i + n → p k = true → zcn1 p i + s = zcn1 p k → zsth p s i n = some k
  | 0, i, s, k, h1, h2, _, _ => by omega
  | n + 1, i, s, k, h1, h2, hp, hs => by
    unfold zsth
    have e := zcn1_succ p i
    by_cases hki : k = i
    · subst hki
      rw [if_pos hp, if_pos (by omega)]
    · have hm := zcn1_mono p (show i + 1 ≤ k by omega)
      by_cases hpi : p i = true
      · rw [if_pos hpi] at e
        rw [if_pos hpi, if_neg (by omega)]
        exact zsth_at p n (i + 1) (s - 1) k (by omega) (by omega) hp (by omega)
      · rw [if_neg hpi] at e
        rw [if_neg hpi]
        exact zsth_at p n (i + 1) s k (by omega) (by omega) hp (by omega)
theorem zsth_none (p : Nat → Bool) : ∀ (n i s : Nat), zcn1 p (i + n) ≤ zcn1 p i + s → zsth p s i n = none
  | 0, _, _, _ => rfl
  | n + 1, i, s, h => by
    unfold zsth
    have e := zcn1_succ p i
    have hm := zcn1_mono p (show i + 1 ≤ i + (n + 1) by omega)
    have h' : zcn1 p (i + 1 + n) = zcn1 p (i + (n + 1)) := by congr 1; omega
    by_cases hpi : p i = true
    · rw [if_pos hpi] at e
      rw [if_pos hpi, if_neg (by omega)]
      exact zsth_none p n (i + 1) (s - 1) (by omega)
    · rw [if_neg hpi] at e
      rw [if_neg hpi]
      exact zsth_none p n (i + 1) s (by omega)
theorem zwid_gt {n k : Nat} (hn : n ≤ 8) (hk : k ≤ zlvl n) : 1 < zwid n k ↔ k < zlvl n := by
  have key : ∀ a : Fin 9, ∀ b : Fin 4, b.val ≤ zlvl a.val → (1 < zwid a.val b.val ↔ b.val < zlvl a.val) := by decide
  have h3 : zlvl n ≤ 3 := by unfold zlvl; repeat (first | omega | split)
  exact key ⟨n, by omega⟩ ⟨k, by omega⟩ hk
theorem zlvl_le (n : Nat) : zlvl n ≤ 3 := by unfold zlvl; repeat (first | omega | split)
section ZM4
variable {L N U : Nat} {I : zI} {J : zJ} {R : zR} {c : Nat} {Q : zOut → zHp → Prop}
theorem zm_beg (hN : 459 ≤ N) (W : Nat → Int32) (i : Nat) : ∃ I', zRet L 105 [.ref 436, .int (Int32.ofNat i)] (N, U, I, J, R) none (N, U, I', J, R) ∧ zSy I' W 0 i ∧ zFs I I' := by
  have w : zRet L 105 [.ref 436, .int (Int32.ofNat i)] (N, U, I, J, R) none (N, U, zu (zu (zu I 436 29 (Int32.ofNat i)) 436 30 (Int32.ofNat 0)) 436 31 (-1), J, R) := by
    show zW L 105 0 [some (.ref 436), some (.int (Int32.ofNat i))] [] _ _
    refine zx_al0 zd105_0 ?_
    refine zx_il1 zd105_1 ?_
    (refine zx_pfI zd105_2 ?k3 ?a3 ?_); (case k3 => first | exact zkk rfl (by omega) | exact zkk (zK_B0 (by omega)) (by omega) | exact zkk ((zK_B (by omega) (by decide)).trans rfl) (by omega) | exact zkk (zK_row (by omega) (by omega)) (by omega) | exact zkk (zK_file (by omega) (by omega)) (by omega) | exact zkk (zK_byte (by omega) (by omega)) (by omega) | exact zkk (zK_list (by omega)) (by omega) | assumption); (case a3 => omega)
    refine zx_al0 zd105_5 ?_
    refine zx_c zd105_6 ?_
    (refine zx_pfI zd105_7 ?k6 ?a6 ?_); (case k6 => first | exact zkk rfl (by omega) | exact zkk (zK_B0 (by omega)) (by omega) | exact zkk ((zK_B (by omega) (by decide)).trans rfl) (by omega) | exact zkk (zK_row (by omega) (by omega)) (by omega) | exact zkk (zK_file (by omega) (by omega)) (by omega) | exact zkk (zK_byte (by omega) (by omega)) (by omega) | exact zkk (zK_list (by omega)) (by omega) | assumption); (case a6 => omega)
    refine zx_al0 zd105_10 ?_
    refine zx_c zd105_11 ?_
    (refine zx_pfI zd105_12 ?k9 ?a9 ?_); (case k9 => first | exact zkk rfl (by omega) | exact zkk (zK_B0 (by omega)) (by omega) | exact zkk ((zK_B (by omega) (by decide)).trans rfl) (by omega) | exact zkk (zK_row (by omega) (by omega)) (by omega) | exact zkk (zK_file (by omega) (by omega)) (by omega) | exact zkk (zK_byte (by omega) (by omega)) (by omega) | exact zkk (zK_list (by omega)) (by omega) | assumption); (case a9 => omega)
    refine zx_vret zd105_15 rfl ?_
    exact ⟨rfl, rfl⟩
  refine ⟨_, w, ⟨rfl, rfl, by rw [if_neg (by omega)]; rfl⟩, fun b h1 => ?_, fun f h1 h2 h3 => ?_⟩
  · rw [zu_rw, zrw_ne _ _ h1, zu_rw, zrw_ne _ _ h1, zu_rw, zrw_ne _ _ h1]
  · simp [zu, h1, h2, h3]
theorem zm_say (hN : 459 ≤ N) {W : Nat → Int32} {k i : Nat} (hs : zSy I W k i) (hk : k < 1000000) (hi : i < 2147483648) {b : Int32} (hb : b = W k) : ∃ I', zRet L 107 [.ref 436, .int b] (N, U, I, J, R) none (N, U, I', J, R) ∧ zSy I' W (k + 1) i ∧ zFs I I' := by
  obtain ⟨h1, h2, h3⟩ := hs
  by_cases hki : k = i
  · have w : zRet L 107 [.ref 436, .int b] (N, U, I, J, R) none (N, U, zu (zu I 436 31 b) 436 30 (Int32.ofNat (k + 1)), J, R) := by
      show zW L 107 0 [some (.ref 436), some (.int b)] [] _ _
      refine zx_al0 zd107_0 ?_
      (refine zx_gfI zd107_1 ?k12 ?_); (case k12 => first | exact zkk rfl (by omega) | exact zkk (zK_B0 (by omega)) (by omega) | exact zkk ((zK_B (by omega) (by decide)).trans rfl) (by omega) | exact zkk (zK_row (by omega) (by omega)) (by omega) | exact zkk (zK_file (by omega) (by omega)) (by omega) | exact zkk (zK_byte (by omega) (by omega)) (by omega) | exact zkk (zK_list (by omega)) (by omega) | assumption)
      refine zx_al0 zd107_4 ?_
      (refine zx_gfI zd107_5 ?k14 ?_); (case k14 => first | exact zkk rfl (by omega) | exact zkk (zK_B0 (by omega)) (by omega) | exact zkk ((zK_B (by omega) (by decide)).trans rfl) (by omega) | exact zkk (zK_row (by omega) (by omega)) (by omega) | exact zkk (zK_file (by omega) (by omega)) (by omega) | exact zkk (zK_byte (by omega) (by omega)) (by omega) | exact zkk (zK_list (by omega)) (by omega) | assumption)
      rw [h1, h2]
      first | ((with_reducible refine zx_icmpneN zd107_8 ?s15 (fun h => ?_) (fun h => ?_)); (case s15 => omega)) | refine zx_icmpne zd107_8 (fun h => ?_) (fun h => ?_)
      · omega
      · refine zx_al0 zd107_11 ?_
        refine zx_il1 zd107_12 ?_
        (refine zx_pfI zd107_13 ?k18 ?a18 ?_); (case k18 => first | exact zkk rfl (by omega) | exact zkk (zK_B0 (by omega)) (by omega) | exact zkk ((zK_B (by omega) (by decide)).trans rfl) (by omega) | exact zkk (zK_row (by omega) (by omega)) (by omega) | exact zkk (zK_file (by omega) (by omega)) (by omega) | exact zkk (zK_byte (by omega) (by omega)) (by omega) | exact zkk (zK_list (by omega)) (by omega) | assumption); (case a18 => omega)
        refine zx_al0 zd107_16 ?_
        first | refine zx_dupR zd107_17 ?_ | refine zx_dupI zd107_17 ?_
        (refine zx_gfI zd107_18 ?k21 ?_); (case k21 => first | exact zkk rfl (by omega) | exact zkk (zK_B0 (by omega)) (by omega) | exact zkk ((zK_B (by omega) (by decide)).trans rfl) (by omega) | exact zkk (zK_row (by omega) (by omega)) (by omega) | exact zkk (zK_file (by omega) (by omega)) (by omega) | exact zkk (zK_byte (by omega) (by omega)) (by omega) | exact zkk (zK_list (by omega)) (by omega) | assumption)
        rw [show zu I 436 31 b 436 30 = I 436 30 from rfl, h1]
        refine zx_c zd107_21 ?_
        first | with_reducible refine zx_addN zd107_22 ?_ | refine zx_add zd107_22 ?_
        (refine zx_pfI zd107_23 ?k24 ?a24 ?_); (case k24 => first | exact zkk rfl (by omega) | exact zkk (zK_B0 (by omega)) (by omega) | exact zkk ((zK_B (by omega) (by decide)).trans rfl) (by omega) | exact zkk (zK_row (by omega) (by omega)) (by omega) | exact zkk (zK_file (by omega) (by omega)) (by omega) | exact zkk (zK_byte (by omega) (by omega)) (by omega) | exact zkk (zK_list (by omega)) (by omega) | assumption); (case a24 => omega)
        refine zx_vret zd107_26 rfl ?_
        exact ⟨rfl, rfl⟩
    refine ⟨_, w, ⟨rfl, h2, ?_⟩, fun q hq => ?_, fun f g1 g2 g3 => ?_⟩
    · rw [if_pos (by omega), ← hki, ← hb]; rfl
    · rw [zu_rw, zrw_ne _ _ hq, zu_rw, zrw_ne _ _ hq]
    · simp [zu, g2, g3]
  · have w : zRet L 107 [.ref 436, .int b] (N, U, I, J, R) none (N, U, zu I 436 30 (Int32.ofNat (k + 1)), J, R) := by
      show zW L 107 0 [some (.ref 436), some (.int b)] [] _ _
      refine zx_al0 zd107_0 ?_
      (refine zx_gfI zd107_1 ?k27 ?_); (case k27 => first | exact zkk rfl (by omega) | exact zkk (zK_B0 (by omega)) (by omega) | exact zkk ((zK_B (by omega) (by decide)).trans rfl) (by omega) | exact zkk (zK_row (by omega) (by omega)) (by omega) | exact zkk (zK_file (by omega) (by omega)) (by omega) | exact zkk (zK_byte (by omega) (by omega)) (by omega) | exact zkk (zK_list (by omega)) (by omega) | assumption)
      refine zx_al0 zd107_4 ?_
      (refine zx_gfI zd107_5 ?k29 ?_); (case k29 => first | exact zkk rfl (by omega) | exact zkk (zK_B0 (by omega)) (by omega) | exact zkk ((zK_B (by omega) (by decide)).trans rfl) (by omega) | exact zkk (zK_row (by omega) (by omega)) (by omega) | exact zkk (zK_file (by omega) (by omega)) (by omega) | exact zkk (zK_byte (by omega) (by omega)) (by omega) | exact zkk (zK_list (by omega)) (by omega) | assumption)
      rw [h1, h2]
      first | ((with_reducible refine zx_icmpneN zd107_8 ?s30 (fun h => ?_) (fun h => ?_)); (case s30 => omega)) | refine zx_icmpne zd107_8 (fun h => ?_) (fun h => ?_)
      · refine zx_al0 zd107_16 ?_
        first | refine zx_dupR zd107_17 ?_ | refine zx_dupI zd107_17 ?_
        (refine zx_gfI zd107_18 ?k33 ?_); (case k33 => first | exact zkk rfl (by omega) | exact zkk (zK_B0 (by omega)) (by omega) | exact zkk ((zK_B (by omega) (by decide)).trans rfl) (by omega) | exact zkk (zK_row (by omega) (by omega)) (by omega) | exact zkk (zK_file (by omega) (by omega)) (by omega) | exact zkk (zK_byte (by omega) (by omega)) (by omega) | exact zkk (zK_list (by omega)) (by omega) | assumption)
        rw [h1]
        refine zx_c zd107_21 ?_
        first | with_reducible refine zx_addN zd107_22 ?_ | refine zx_add zd107_22 ?_
        (refine zx_pfI zd107_23 ?k36 ?a36 ?_); (case k36 => first | exact zkk rfl (by omega) | exact zkk (zK_B0 (by omega)) (by omega) | exact zkk ((zK_B (by omega) (by decide)).trans rfl) (by omega) | exact zkk (zK_row (by omega) (by omega)) (by omega) | exact zkk (zK_file (by omega) (by omega)) (by omega) | exact zkk (zK_byte (by omega) (by omega)) (by omega) | exact zkk (zK_list (by omega)) (by omega) | assumption); (case a36 => omega)
        refine zx_vret zd107_26 rfl ?_
        exact ⟨rfl, rfl⟩
      · omega
    refine ⟨_, w, ⟨rfl, h2, ?_⟩, fun q hq => ?_, fun f g1 g2 g3 => ?_⟩
    · have e : zu I 436 30 (Int32.ofNat (k + 1)) 436 31 = I 436 31 := rfl
      rw [e, h3]
      by_cases hlt : i < k
      · rw [if_pos hlt, if_pos (by omega)]
      · rw [if_neg hlt, if_neg (by omega)]
    · rw [zu_rw, zrw_ne _ _ hq]
    · simp [zu, g2]
/-- steps -/
theorem zshr_succ (j k : Nat) : (j >>> k) / 2 = j >>> (k + 1) := (Nat.shiftRight_succ j k).symm
theorem zm_so0 {h : zHp} {j n : Nat} (hj : j < 8) (hn : n ≤ 8) {l0 l1 : Option Value} : ∀ (q k : Nat), k + q = zlvl n →
    zW L 106 7 [l0, l1, some (.int (Int32.ofNat (zcn1 (fun k => decide (zoth j k < zwid n k)) k))), some (.int (Int32.ofNat (j >>> k))), some (.int (Int32.ofNat (zwid n k)))] [] h (fun o hh => o = .inl (some (.int (Int32.ofNat (zcn1 (fun k => decide (zoth j k < zwid n k)) (zlvl n))))) ∧ hh = h) := by
  intro q
  have h3 := zlvl_le n
  induction q with
  | zero =>
    intro k hk
    obtain rfl : k = zlvl n := by omega
    have hw := zwid_le hn (zlvl n)
    have hg := zwid_gt hn (Nat.le_refl (zlvl n))
    refine zx_il4 zd106_7 ?_
    refine zx_c zd106_9 ?_
    first | ((with_reducible refine zx_icmpleN zd106_10 ?s40 (fun h => ?_) (fun h => ?_)); (case s40 => omega)) | refine zx_icmple zd106_10 (fun h => ?_) (fun h => ?_)
    · refine zx_il2 zd106_44 ?_
      refine zx_iret zd106_45 (Or.inl rfl) ?_
      exact ⟨rfl, rfl⟩
    · omega
  | succ q ih =>
    intro k hk
    have hw := zwid_le hn k
    have hg := zwid_gt hn (show k ≤ zlvl n by omega)
    obtain ⟨o1, o2⟩ := zoth_lt hj (show k < 4 by omega)
    have ho : (j >>> k) ^^^ 1 = zoth j k := rfl
    refine zx_il4 zd106_7 ?_
    refine zx_c zd106_9 ?_
    first | ((with_reducible refine zx_icmpleN zd106_10 ?s45 (fun h => ?_) (fun h => ?_)); (case s45 => omega)) | refine zx_icmple zd106_10 (fun h => ?_) (fun h => ?_)
    · omega
    · refine zx_il2 zd106_13 ?_
      refine zx_il3 zd106_14 ?_
      refine zx_c zd106_15 ?_
      first | with_reducible refine zx_xorN zd106_16 ?_ | refine zx_xor zd106_16 ?_
      rw [ho]
      refine zx_il4 zd106_17 ?_
      have k1 := ih (k + 1) (by omega)
      rw [zcn1_succ, ← zshr_succ, show zwid n (k + 1) = (zwid n k + 1) / 2 from rfl] at k1
      first | ((with_reducible refine zx_icmpgeN zd106_19 ?s51 (fun h2 => ?_) (fun h2 => ?_)); (case s51 => omega)) | refine zx_icmpge zd106_19 (fun h2 => ?_) (fun h2 => ?_)
      · rw [decide_eq_false (show ¬ zoth j k < zwid n k by omega), if_neg (by decide)] at k1
        refine zx_c zd106_26 ?_
        first | with_reducible refine zx_addN zd106_27 ?_ | refine zx_add zd106_27 ?_
        refine zx_is2 zd106_28 rfl ?_
        refine zx_il3 zd106_29 ?_
        refine zx_c zd106_30 ?_
        first | ((with_reducible refine zx_divN zd106_31 ?h57 ?_); (case h57 => omega)) | refine zx_div zd106_31 (by decide) ?_
        refine zx_is3 zd106_32 rfl ?_
        refine zx_il4 zd106_33 ?_
        refine zx_c zd106_35 ?_
        first | with_reducible refine zx_addN zd106_36 ?_ | refine zx_add zd106_36 ?_
        refine zx_c zd106_37 ?_
        first | ((with_reducible refine zx_divN zd106_38 ?h63 ?_); (case h63 => omega)) | refine zx_div zd106_38 (by decide) ?_
        refine zx_is4 zd106_39 rfl ?_
        refine zx_goto zd106_41 ?_
        exact k1
      · rw [decide_eq_true h2, if_pos rfl] at k1
        refine zx_c zd106_22 ?_
        refine zx_goto zd106_23 ?_
        first | with_reducible refine zx_addN zd106_27 ?_ | refine zx_add zd106_27 ?_
        refine zx_is2 zd106_28 rfl ?_
        refine zx_il3 zd106_29 ?_
        refine zx_c zd106_30 ?_
        first | ((with_reducible refine zx_divN zd106_31 ?h72 ?_); (case h72 => omega)) | refine zx_div zd106_31 (by decide) ?_
        refine zx_is3 zd106_32 rfl ?_
        refine zx_il4 zd106_33 ?_
        refine zx_c zd106_35 ?_
        first | with_reducible refine zx_addN zd106_36 ?_ | refine zx_add zd106_36 ?_
        refine zx_c zd106_37 ?_
        first | ((with_reducible refine zx_divN zd106_38 ?h78 ?_); (case h78 => omega)) | refine zx_div zd106_38 (by decide) ?_
        refine zx_is4 zd106_39 rfl ?_
        refine zx_goto zd106_41 ?_
        exact k1
theorem zm_so {h : zHp} {j n : Nat} (hj : j < 8) (hn : n ≤ 8) : zRet L 106 [.int (Int32.ofNat j), .int (Int32.ofNat n)] h (some (.int (Int32.ofNat (zcn1 (fun k => decide (zoth j k < zwid n k)) (zlvl n))))) h := by
  show zW L 106 0 [some (.int (Int32.ofNat j)), some (.int (Int32.ofNat n)), none, none, none] [] _ _
  refine zx_c zd106_0 ?_
  refine zx_is2 zd106_1 rfl ?_
  refine zx_il0 zd106_2 ?_
  refine zx_is3 zd106_3 rfl ?_
  refine zx_il1 zd106_4 ?_
  refine zx_is4 zd106_5 rfl ?_
  exact zm_so0 hj hn (zlvl n) 0 (by omega)
/-- 32 bytes of the row are said -/
theorem zm_pr1 (hR : zRs R) (hN : 459 ≤ N) {I0 : zI} {W : Nat → Int32} {k0 i o : Nat} (hi : i < 2147483648) (ho : o < 8) (hk0 : k0 < 1000) (hW : ∀ b, b < 32 → I0 449 (32 * o + b) = W (k0 + b)) {l1 l2 l3 l4 : Option Value}
    (kk : ∀ (I' : zI) (l6 : Option Value), zSy I' W (k0 + 32) i → zFs I0 I' → zW L 104 130 [some (.ref 436), l1, l2, l3, l4, some (.int (Int32.ofNat o)), l6] [] (N, U, I', J, R) Q) :
    ∀ (q b : Nat) (I' : zI), b + q = 32 → zSy I' W (k0 + b) i → zFs I0 I' → zW L 104 100 [some (.ref 436), l1, l2, l3, l4, some (.int (Int32.ofNat o)), some (.int (Int32.ofNat b))] [] (N, U, I', J, R) Q := by
  intro q
  induction q with
  | zero =>
    intro b I' hb hs hf
    obtain rfl : b = 32 := by omega
    refine zx_il6 zd104_100 ?_
    refine zx_c zd104_102 ?_
    first | ((with_reducible refine zx_icmpgeN zd104_104 ?s89 (fun h => ?_) (fun h => ?_)); (case s89 => omega)) | refine zx_icmpge zd104_104 (fun h => ?_) (fun h => ?_)
    · exact kk I' _ hs hf
    · omega
  | succ q ih =>
    intro b I' hb hs hf
    refine zx_il6 zd104_100 ?_
    refine zx_c zd104_102 ?_
    first | ((with_reducible refine zx_icmpgeN zd104_104 ?s92 (fun h => ?_) (fun h => ?_)); (case s92 => omega)) | refine zx_icmpge zd104_104 (fun h => ?_) (fun h => ?_)
    · omega
    · refine zx_al0 zd104_107 ?_
      refine zx_al0 zd104_108 ?_
      (refine' zx_gfA zd104_109 ?k95 ?r95 ?_); (case k95 => first | exact zkk rfl (by omega) | exact zkk (zK_B0 (by omega)) (by omega) | exact zkk ((zK_B (by omega) (by decide)).trans rfl) (by omega) | exact zkk (zK_row (by omega) (by omega)) (by omega) | exact zkk (zK_file (by omega) (by omega)) (by omega) | exact zkk (zK_byte (by omega) (by omega)) (by omega) | exact zkk (zK_list (by omega)) (by omega) | assumption); (case r95 => first | exact hR.1 _ _ _ rfl | assumption)
      refine zx_c zd104_112 ?_
      refine zx_il5 zd104_114 ?_
      first | with_reducible refine zx_mulN zd104_116 ?_ | refine zx_mul zd104_116 ?_
      refine zx_il6 zd104_117 ?_
      first | with_reducible refine zx_addN zd104_119 ?_ | refine zx_add zd104_119 ?_
      (with_reducible refine' zx_ialdN zd104_120 ?k101 ?j101 ?_); (case k101 => first | exact zkk rfl (by omega) | exact zkk (zK_B0 (by omega)) (by omega) | exact zkk ((zK_B (by omega) (by decide)).trans rfl) (by omega) | exact zkk (zK_row (by omega) (by omega)) (by omega) | exact zkk (zK_file (by omega) (by omega)) (by omega) | exact zkk (zK_byte (by omega) (by omega)) (by omega) | exact zkk (zK_list (by omega)) (by omega) | assumption); (case j101 => omega)
      obtain ⟨I2, hr2, hs2, hf2⟩ := zm_say (L := L) (U := U) (J := J) (R := R) hN hs (by omega) hi (b := I' 449 (32 * o + b)) (by rw [hf.1 449 (by decide)]; exact hW b h)
      (refine zx_cv1V zd104_121 ?k102 (hr2) ?_); (case k102 => first | exact zkk rfl (by omega) | exact zkk (zK_B0 (by omega)) (by omega) | exact zkk ((zK_B (by omega) (by decide)).trans rfl) (by omega) | exact zkk (zK_row (by omega) (by omega)) (by omega) | exact zkk (zK_file (by omega) (by omega)) (by omega) | exact zkk (zK_byte (by omega) (by omega)) (by omega) | exact zkk (zK_list (by omega)) (by omega) | assumption)
      first | with_reducible refine zx_iin6 zd104_124 ?_ | refine zx_ii6 zd104_124 ?_
      refine zx_goto zd104_127 ?_
      exact ih (b + 1) I2 (by omega) (by rw [← Nat.add_assoc]; exact hs2) (hf.trans hf2)
theorem zm_pr0 (hR : zRs R) (hN : 459 ≤ N) {I0 : zI} {D : Nat → Nat → Int32} {n j i : Nat} (hj : j < n) (hn : n ≤ 8) (hi : i < 2147483648) (hK : ∀ j, j < 64 → I0 437 j = zKr j) {l1 l2 l3 : Option Value} : ∀ (q k : Nat) (I' : zI) (l5 l6 : Option Value), k + q = zlvl n → zMg [] I' → zRo I' (zwid n k) (zlev n D k) → I' 436 15 = Int32.ofNat (zwid n k) → zSy I' (zprf (zlev n D) (zwid n) (zlvl n) j) (1 + 33 * zcn1 (fun k => decide (zoth j k < zwid n k)) k) i → zFq I0 I' →
    zW L 104 58 [some (.ref 436), l1, l2, l3, some (.int (Int32.ofNat (j >>> k))), l5, l6] [] (N, U, I', J, R) (fun o hh => o = .inl (some (.int (zprf (zlev n D) (zwid n) (zlvl n) j i))) ∧ ∃ I' : zI, hh = (N, U, I', J, R) ∧ zMg [] I' ∧ zFq I0 I') := by
  have h3 := zlvl_le n
  intro q
  induction q with
  | zero =>
    intro k I' l5 l6 hk hm hD hw hs hf
    obtain rfl : k = zlvl n := by omega
    have hw8 := zwid_le hn (zlvl n)
    have hg := zwid_gt hn (Nat.le_refl (zlvl n))
    refine zx_al0 zd104_58 ?_
    (refine zx_gfI zd104_59 ?k106 ?_); (case k106 => first | exact zkk rfl (by omega) | exact zkk (zK_B0 (by omega)) (by omega) | exact zkk ((zK_B (by omega) (by decide)).trans rfl) (by omega) | exact zkk (zK_row (by omega) (by omega)) (by omega) | exact zkk (zK_file (by omega) (by omega)) (by omega) | exact zkk (zK_byte (by omega) (by omega)) (by omega) | exact zkk (zK_list (by omega)) (by omega) | assumption)
    rw [hw]
    refine zx_c zd104_62 ?_
    first | ((with_reducible refine zx_icmpleN zd104_63 ?s108 (fun h => ?_) (fun h => ?_)); (case s108 => omega)) | refine zx_icmple zd104_63 (fun h => ?_) (fun h => ?_)
    · refine zx_al0 zd104_143 ?_
      (refine zx_gfI zd104_144 ?k110 ?_); (case k110 => first | exact zkk rfl (by omega) | exact zkk (zK_B0 (by omega)) (by omega) | exact zkk ((zK_B (by omega) (by decide)).trans rfl) (by omega) | exact zkk (zK_row (by omega) (by omega)) (by omega) | exact zkk (zK_file (by omega) (by omega)) (by omega) | exact zkk (zK_byte (by omega) (by omega)) (by omega) | exact zkk (zK_list (by omega)) (by omega) | assumption)
      rw [hs.2.2]
      refine zx_iret zd104_147 (Or.inl rfl) ?_
      refine ⟨?_, I', rfl, hm, hf⟩
      by_cases hlt : i < 1 + 33 * zcn1 (fun k => decide (zoth j k < zwid n k)) (zlvl n)
      · rw [if_pos hlt]
      · rw [if_neg hlt]
        have e : zprf (zlev n D) (zwid n) (zlvl n) j i = -1 := by
          unfold zprf
          rw [if_neg (by omega), zsth_none _ _ _ _ (by show zcn1 _ (0 + zlvl n) ≤ 0 + _; rw [Nat.zero_add]; omega)]
        rw [e]
    · omega
  | succ q ih =>
    intro k I' l5 l6 hk hm hD hw hs hf
    have hw8 := zwid_le hn k
    have hg := zwid_gt hn (show k ≤ zlvl n by omega)
    obtain ⟨o1, o2⟩ := zoth_lt (show j < 8 by omega) (show k < 4 by omega)
    have ho : (j >>> k) ^^^ 1 = zoth j k := rfl
    have hc8 := zcn1_le (fun k => decide (zoth j k < zwid n k)) k
    have fin : ∀ (I2 : zI) (l5 l6 : Option Value), zMg [] I2 → zRo I2 (zwid n k) (zlev n D k) → I2 436 15 = Int32.ofNat (zwid n k) → zSy I2 (zprf (zlev n D) (zwid n) (zlvl n) j) (1 + 33 * zcn1 (fun k => decide (zoth j k < zwid n k)) (k + 1)) i → zFq I0 I2 →
        zW L 104 130 [some (.ref 436), l1, l2, l3, some (.int (Int32.ofNat (j >>> k))), l5, l6] [] (N, U, I2, J, R) (fun o hh => o = .inl (some (.int (zprf (zlev n D) (zwid n) (zlvl n) j i))) ∧ ∃ I' : zI, hh = (N, U, I', J, R) ∧ zMg [] I' ∧ zFq I0 I') := by
      intro I2 l5 l6 hm2 hD2 hw2 hs2 hf2
      refine zx_al0 zd104_130 ?_
      obtain ⟨I3, hr3, hD3, hw3, hm3, hf3⟩ := zm_gu (L := L) (U := U) (J := J) hR hN hw2 (by omega) hw8 (fun j hj => by rw [hf2.1 437 (by decide) (by decide) (by decide)]; exact hK j hj) hm2 hD2
      (refine zx_cv0V zd104_131 ?k113 (hr3) ?_); (case k113 => first | exact zkk rfl (by omega) | exact zkk (zK_B0 (by omega)) (by omega) | exact zkk ((zK_B (by omega) (by decide)).trans rfl) (by omega) | exact zkk (zK_row (by omega) (by omega)) (by omega) | exact zkk (zK_file (by omega) (by omega)) (by omega) | exact zkk (zK_byte (by omega) (by omega)) (by omega) | exact zkk (zK_list (by omega)) (by omega) | assumption)
      refine zx_il4 zd104_134 ?_
      refine zx_c zd104_136 ?_
      first | ((with_reducible refine zx_divN zd104_137 ?h116 ?_); (case h116 => omega)) | refine zx_div zd104_137 (by decide) ?_
      refine zx_is4 zd104_138 rfl ?_
      rw [zshr_succ]
      refine zx_goto zd104_140 ?_
      exact ih (k + 1) I3 _ _ (by omega) hm3 hD3 hw3 (hf3.sy hs2) (hf2.trans hf3.q)
    refine zx_al0 zd104_58 ?_
    (refine zx_gfI zd104_59 ?k120 ?_); (case k120 => first | exact zkk rfl (by omega) | exact zkk (zK_B0 (by omega)) (by omega) | exact zkk ((zK_B (by omega) (by decide)).trans rfl) (by omega) | exact zkk (zK_row (by omega) (by omega)) (by omega) | exact zkk (zK_file (by omega) (by omega)) (by omega) | exact zkk (zK_byte (by omega) (by omega)) (by omega) | exact zkk (zK_list (by omega)) (by omega) | assumption)
    rw [hw]
    refine zx_c zd104_62 ?_
    first | ((with_reducible refine zx_icmpleN zd104_63 ?s122 (fun h => ?_) (fun h => ?_)); (case s122 => omega)) | refine zx_icmple zd104_63 (fun h => ?_) (fun h => ?_)
    · omega
    · refine zx_il4 zd104_66 ?_
      refine zx_c zd104_68 ?_
      first | with_reducible refine zx_xorN zd104_69 ?_ | refine zx_xor zd104_69 ?_
      rw [ho]
      refine zx_is5 zd104_70 rfl ?_
      refine zx_il5 zd104_72 ?_
      refine zx_al0 zd104_74 ?_
      (refine zx_gfI zd104_75 ?k129 ?_); (case k129 => first | exact zkk rfl (by omega) | exact zkk (zK_B0 (by omega)) (by omega) | exact zkk ((zK_B (by omega) (by decide)).trans rfl) (by omega) | exact zkk (zK_row (by omega) (by omega)) (by omega) | exact zkk (zK_file (by omega) (by omega)) (by omega) | exact zkk (zK_byte (by omega) (by omega)) (by omega) | exact zkk (zK_list (by omega)) (by omega) | assumption)
      rw [hw]
      first | ((with_reducible refine zx_icmpgeN zd104_78 ?s130 (fun h2 => ?_) (fun h2 => ?_)); (case s130 => omega)) | refine zx_icmpge zd104_78 (fun h2 => ?_) (fun h2 => ?_)
      · refine fin I' _ _ hm hD hw ?_ hf
        rw [zcn1_succ, decide_eq_false (show ¬ zoth j k < zwid n k by omega)]
        exact hs
      · have hsk : zsth (fun k => decide (zoth j k < zwid n k)) (zcn1 (fun k => decide (zoth j k < zwid n k)) k) 0 (zlvl n) = some k := zsth_at _ _ _ _ _ (by omega) (by omega) (decide_eq_true h2) (by show 0 + _ = _; rw [Nat.zero_add])
        have hWm : ∀ b, b < 33 → zprf (zlev n D) (zwid n) (zlvl n) j (1 + 33 * zcn1 (fun k => decide (zoth j k < zwid n k)) k + b) = if b = 0 then (if zoth j k < j >>> k then Int32.ofNat 0 else Int32.ofNat 1) else zlev n D k (zoth j k) (b - 1) := by
          intro b hb
          unfold zprf
          rw [if_neg (by omega), show (1 + 33 * zcn1 (fun k => decide (zoth j k < zwid n k)) k + b - 1) / 33 = zcn1 (fun k => decide (zoth j k < zwid n k)) k by omega, hsk]
          show (if _ then _ else _) = _
          rw [show (1 + 33 * zcn1 (fun k => decide (zoth j k < zwid n k)) k + b - 1) % 33 = b by omega]
        have hsay : ∀ (v : Nat), Int32.ofNat v = (if zoth j k < j >>> k then Int32.ofNat 0 else Int32.ofNat 1) → zW L 104 94 [some (.ref 436), l1, l2, l3, some (.int (Int32.ofNat (j >>> k))), some (.int (Int32.ofNat (zoth j k))), l6] [.int (Int32.ofNat v), .ref 436] (N, U, I', J, R) (fun o hh => o = .inl (some (.int (zprf (zlev n D) (zwid n) (zlvl n) j i))) ∧ ∃ I' : zI, hh = (N, U, I', J, R) ∧ zMg [] I' ∧ zFq I0 I') := by
          intro v hv
          obtain ⟨I2, hr2, hs2, hf2⟩ := zm_say (L := L) (U := U) (J := J) (R := R) hN hs (by omega) hi (b := Int32.ofNat v) (by have := hWm 0 (by decide); rw [Nat.add_zero, if_pos rfl] at this; rw [this]; exact hv)
          (refine zx_cv1V zd104_94 ?k131 (hr2) ?_); (case k131 => first | exact zkk rfl (by omega) | exact zkk (zK_B0 (by omega)) (by omega) | exact zkk ((zK_B (by omega) (by decide)).trans rfl) (by omega) | exact zkk (zK_row (by omega) (by omega)) (by omega) | exact zkk (zK_file (by omega) (by omega)) (by omega) | exact zkk (zK_byte (by omega) (by omega)) (by omega) | exact zkk (zK_list (by omega)) (by omega) | assumption)
          refine zx_c zd104_97 ?_
          refine zx_is6 zd104_98 rfl ?_
          refine zm_pr1 hR hN (I0 := I2) (W := zprf (zlev n D) (zwid n) (zlvl n) j) (k0 := 1 + 33 * zcn1 (fun k => decide (zoth j k < zwid n k)) k + 1) hi o1 (by omega) (fun b hb => ?_) ?_ 32 0 I2 rfl hs2 (zFs.refl I2)
          · have := hWm (1 + b) (by omega)
            rw [if_neg (by omega), ← Nat.add_assoc, Nat.add_sub_cancel_left] at this
            rw [this, hf2.1 449 (by decide)]
            exact hD (zoth j k) h2 b hb
          · intro I3 l6' hs3 hf3
            refine fin I3 _ _ ⟨by rw [hf3.2 2 (by decide) (by decide) (by decide), hf2.2 2 (by decide) (by decide) (by decide)]; exact hm.1, fun i hi => absurd hi (by simp)⟩ (fun i hi b hb => by rw [hf3.1 449 (by decide), hf2.1 449 (by decide)]; exact hD i hi b hb) (by rw [hf3.2 15 (by decide) (by decide) (by decide), hf2.2 15 (by decide) (by decide) (by decide)]; exact hw) ?_ ((hf.trans hf2.q).trans hf3.q)
            rw [zcn1_succ, decide_eq_true h2, if_pos rfl, show 1 + 33 * (zcn1 (fun k => decide (zoth j k < zwid n k)) k + 1) = 1 + 33 * zcn1 (fun k => decide (zoth j k < zwid n k)) k + 1 + 32 by omega]
            exact hs3
        refine zx_al0 zd104_81 ?_
        refine zx_il5 zd104_82 ?_
        refine zx_il4 zd104_84 ?_
        first | ((with_reducible refine zx_icmpgeN zd104_86 ?s137 (fun h4 => ?_) (fun h4 => ?_)); (case s137 => omega)) | refine zx_icmpge zd104_86 (fun h4 => ?_) (fun h4 => ?_)
        · refine zx_c zd104_93 ?_
          exact hsay 1 (by rw [if_neg (by omega)])
        · refine zx_c zd104_89 ?_
          refine zx_goto zd104_90 ?_
          exact hsay 0 (by rw [if_pos h4])
theorem zm_prT (hR : zRs R) (hN : 459 ≤ N) {x y z : Int32} (h : zRet L 103 [.ref 436, .int x, .int y] (N, U, I, J, R) (some (.int (Int32.ofNat 0))) (N, U, I, J, R) ∨ (zRet L 103 [.ref 436, .int x, .int y] (N, U, I, J, R) (some (.int (Int32.ofNat 1))) (N, U, I, J, R) ∧ z < 0)) : zRet L 104 [.ref 436, .int x, .int y, .int z] (N, U, I, J, R) (some (.int (Int32.ofNat 0))) (N, U, zT I 1, J, R) := by
  have fin : zW L 104 19 [some (.ref 436), some (.int x), some (.int y), some (.int z), none, none, none] [.int (Int32.ofNat 1), .ref 436] (N, U, I, J, R) (fun o k => o = .inl (some (.int (Int32.ofNat 0))) ∧ k = (N, U, zT I 1, J, R)) := by
    (refine zx_pfI zd104_19 ?k141 ?a141 ?_); (case k141 => first | exact zkk rfl (by omega) | exact zkk (zK_B0 (by omega)) (by omega) | exact zkk ((zK_B (by omega) (by decide)).trans rfl) (by omega) | exact zkk (zK_row (by omega) (by omega)) (by omega) | exact zkk (zK_file (by omega) (by omega)) (by omega) | exact zkk (zK_byte (by omega) (by omega)) (by omega) | exact zkk (zK_list (by omega)) (by omega) | assumption); (case a141 => omega)
    refine zx_al0 zd104_22 ?_
    (refine zx_gfI zd104_23 ?k143 ?_); (case k143 => first | exact zkk rfl (by omega) | exact zkk (zK_B0 (by omega)) (by omega) | exact zkk ((zK_B (by omega) (by decide)).trans rfl) (by omega) | exact zkk (zK_row (by omega) (by omega)) (by omega) | exact zkk (zK_file (by omega) (by omega)) (by omega) | exact zkk (zK_byte (by omega) (by omega)) (by omega) | exact zkk (zK_list (by omega)) (by omega) | assumption)
    rw [show zu I 436 0 (Int32.ofNat 1) 436 0 = Int32.ofNat 1 from rfl]
    first | ((with_reducible refine zx_ifeqN zd104_26 ?s144 (fun h => ?_) (fun h => ?_)); (case s144 => omega)) | refine zx_ifeq zd104_26 (fun h => ?_) (fun h => ?_)
    · omega
    · refine zx_c zd104_29 ?_
      refine zx_iret zd104_30 (Or.inl rfl) ?_
      exact ⟨rfl, rfl⟩
  show zW L 104 0 [some (.ref 436), some (.int x), some (.int y), some (.int z), none, none, none] [] _ _
  refine zx_al0 zd104_0 ?_
  refine zx_al0 zd104_1 ?_
  refine zx_il1 zd104_2 ?_
  refine zx_il2 zd104_3 ?_
  rcases h with h | ⟨h, hz⟩
  · (refine zx_cv2I zd104_4 ?k151 (h) ?_); (case k151 => first | exact zkk rfl (by omega) | exact zkk (zK_B0 (by omega)) (by omega) | exact zkk ((zK_B (by omega) (by decide)).trans rfl) (by omega) | exact zkk (zK_row (by omega) (by omega)) (by omega) | exact zkk (zK_file (by omega) (by omega)) (by omega) | exact zkk (zK_byte (by omega) (by omega)) (by omega) | exact zkk (zK_list (by omega)) (by omega) | assumption)
    first | ((with_reducible refine zx_ifeqN zd104_7 ?s152 (fun h => ?_) (fun h => ?_)); (case s152 => omega)) | refine zx_ifeq zd104_7 (fun h => ?_) (fun h => ?_)
    · refine zx_c zd104_18 ?_
      exact fin
    · omega
  · (refine zx_cv2I zd104_4 ?k154 (h) ?_); (case k154 => first | exact zkk rfl (by omega) | exact zkk (zK_B0 (by omega)) (by omega) | exact zkk ((zK_B (by omega) (by decide)).trans rfl) (by omega) | exact zkk (zK_row (by omega) (by omega)) (by omega) | exact zkk (zK_file (by omega) (by omega)) (by omega) | exact zkk (zK_byte (by omega) (by omega)) (by omega) | exact zkk (zK_list (by omega)) (by omega) | assumption)
    first | ((with_reducible refine zx_ifeqN zd104_7 ?s155 (fun h => ?_) (fun h => ?_)); (case s155 => omega)) | refine zx_ifeq zd104_7 (fun h => ?_) (fun h => ?_)
    · omega
    · refine zx_il3 zd104_10 ?_
      first | ((with_reducible refine zx_ifltN zd104_11 ?s157 (fun h2 => ?_) (fun h2 => ?_)); (case s157 => omega)) | refine zx_iflt zd104_11 (fun h2 => ?_) (fun h2 => ?_)
      · refine zx_c zd104_18 ?_
        exact fin
      · exact absurd hz h2
theorem zm_pr (hR : zRs R) (hN : 459 ≤ N) (hc : I 436 8 = Int32.ofNat c) (hc10 : c ≤ 10) {r n j i : Nat} (hr : r < c) (hn : I 443 r = Int32.ofNat n) (hn8 : n ≤ 8) (hj : j < n) (hi : i < 2147483648) (hK : ∀ j, j < 64 → I 437 j = zKr j) (hm : zMg [] I) :
    ∃ I', zRet L 104 [.ref 436, .int (Int32.ofNat r), .int (Int32.ofNat j), .int (Int32.ofNat i)] (N, U, I, J, R) (some (.int (zprf (zlev n (fun q b => I 447 (256 * r + (32 * q + b)))) (zwid n) (zlvl n) j i))) (N, U, I', J, R) ∧ zMg [] I' ∧ zFq (zT I 0) I' := by
  have w : zW L 104 0 (zent 104 [.ref 436, .int (Int32.ofNat r), .int (Int32.ofNat j), .int (Int32.ofNat i)]) [] (N, U, I, J, R) (fun o hh => o = .inl (some (.int (zprf (zlev n (fun q b => I 447 (256 * r + (32 * q + b)))) (zwid n) (zlvl n) j i))) ∧ ∃ I' : zI, hh = (N, U, I', J, R) ∧ zMg [] I' ∧ zFq (zT I 0) I') := by
    show zW L 104 0 [some (.ref 436), some (.int (Int32.ofNat r)), some (.int (Int32.ofNat j)), some (.int (Int32.ofNat i)), none, none, none] [] _ _
    refine zx_al0 zd104_0 ?_
    refine zx_al0 zd104_1 ?_
    refine zx_il1 zd104_2 ?_
    refine zx_il2 zd104_3 ?_
    (refine zx_cv2I zd104_4 ?k163 (zm_il hR hN hc hc10 hr hn hn8 hj) ?_); (case k163 => first | exact zkk rfl (by omega) | exact zkk (zK_B0 (by omega)) (by omega) | exact zkk ((zK_B (by omega) (by decide)).trans rfl) (by omega) | exact zkk (zK_row (by omega) (by omega)) (by omega) | exact zkk (zK_file (by omega) (by omega)) (by omega) | exact zkk (zK_byte (by omega) (by omega)) (by omega) | exact zkk (zK_list (by omega)) (by omega) | assumption)
    first | ((with_reducible refine zx_ifeqN zd104_7 ?s164 (fun h => ?_) (fun h => ?_)); (case s164 => omega)) | refine zx_ifeq zd104_7 (fun h => ?_) (fun h => ?_)
    · omega
    · refine zx_il3 zd104_10 ?_
      first | ((with_reducible refine zx_ifltN zd104_11 ?s166 (fun h2 => ?_) (fun h2 => ?_)); (case s166 => omega)) | refine zx_iflt zd104_11 (fun h2 => ?_) (fun h2 => ?_)
      · omega
      · refine zx_c zd104_14 ?_
        refine zx_goto zd104_15 ?_
        (refine zx_pfI zd104_19 ?k169 ?a169 ?_); (case k169 => first | exact zkk rfl (by omega) | exact zkk (zK_B0 (by omega)) (by omega) | exact zkk ((zK_B (by omega) (by decide)).trans rfl) (by omega) | exact zkk (zK_row (by omega) (by omega)) (by omega) | exact zkk (zK_file (by omega) (by omega)) (by omega) | exact zkk (zK_byte (by omega) (by omega)) (by omega) | exact zkk (zK_list (by omega)) (by omega) | assumption); (case a169 => omega)
        refine zx_al0 zd104_22 ?_
        (refine zx_gfI zd104_23 ?k171 ?_); (case k171 => first | exact zkk rfl (by omega) | exact zkk (zK_B0 (by omega)) (by omega) | exact zkk ((zK_B (by omega) (by decide)).trans rfl) (by omega) | exact zkk (zK_row (by omega) (by omega)) (by omega) | exact zkk (zK_file (by omega) (by omega)) (by omega) | exact zkk (zK_byte (by omega) (by omega)) (by omega) | exact zkk (zK_list (by omega)) (by omega) | assumption)
        rw [show zu I 436 0 (Int32.ofNat 0) 436 0 = Int32.ofNat 0 from rfl]
        first | ((with_reducible refine zx_ifeqN zd104_26 ?s172 (fun h3 => ?_) (fun h3 => ?_)); (case s172 => omega)) | refine zx_ifeq zd104_26 (fun h3 => ?_) (fun h3 => ?_)
        · refine zx_al0 zd104_31 ?_
          refine zx_il3 zd104_32 ?_
          obtain ⟨I1, hr1, hs1, hf1⟩ := zm_beg (L := L) (U := U) (I := zT I 0) (J := J) (R := R) hN (zprf (zlev n (fun q b => I 447 (256 * r + (32 * q + b)))) (zwid n) (zlvl n) j) i
          (refine zx_cv1V zd104_33 ?k175 (hr1) ?_); (case k175 => first | exact zkk rfl (by omega) | exact zkk (zK_B0 (by omega)) (by omega) | exact zkk ((zK_B (by omega) (by decide)).trans rfl) (by omega) | exact zkk (zK_row (by omega) (by omega)) (by omega) | exact zkk (zK_file (by omega) (by omega)) (by omega) | exact zkk (zK_byte (by omega) (by omega)) (by omega) | exact zkk (zK_list (by omega)) (by omega) | assumption)
          refine zx_al0 zd104_36 ?_
          refine zx_il2 zd104_37 ?_
          refine zx_al0 zd104_38 ?_
          (refine' zx_gfA zd104_39 ?k179 ?r179 ?_); (case k179 => first | exact zkk rfl (by omega) | exact zkk (zK_B0 (by omega)) (by omega) | exact zkk ((zK_B (by omega) (by decide)).trans rfl) (by omega) | exact zkk (zK_row (by omega) (by omega)) (by omega) | exact zkk (zK_file (by omega) (by omega)) (by omega) | exact zkk (zK_byte (by omega) (by omega)) (by omega) | exact zkk (zK_list (by omega)) (by omega) | assumption); (case r179 => first | exact hR.1 _ _ _ rfl | assumption)
          refine zx_il1 zd104_42 ?_
          (with_reducible refine' zx_ialdN zd104_43 ?k181 ?j181 ?_); (case k181 => first | exact zkk rfl (by omega) | exact zkk (zK_B0 (by omega)) (by omega) | exact zkk ((zK_B (by omega) (by decide)).trans rfl) (by omega) | exact zkk (zK_row (by omega) (by omega)) (by omega) | exact zkk (zK_file (by omega) (by omega)) (by omega) | exact zkk (zK_byte (by omega) (by omega)) (by omega) | exact zkk (zK_list (by omega)) (by omega) | assumption); (case j181 => omega)
          rw [hf1.1 443 (by decide), show zT I 0 443 r = I 443 r from rfl, hn]
          refine zx_cs2I zd104_44 (zm_so (by omega) hn8) ?_
          obtain ⟨I2, hr2, hs2, hf2⟩ := zm_say (L := L) (U := U) (J := J) (R := R) hN hs1 (by omega) hi (b := Int32.ofNat (zcn1 (fun k => decide (zoth j k < zwid n k)) (zlvl n))) (by unfold zprf; rw [if_pos rfl])
          (refine zx_cv1V zd104_47 ?k183 (hr2) ?_); (case k183 => first | exact zkk rfl (by omega) | exact zkk (zK_B0 (by omega)) (by omega) | exact zkk ((zK_B (by omega) (by decide)).trans rfl) (by omega) | exact zkk (zK_row (by omega) (by omega)) (by omega) | exact zkk (zK_file (by omega) (by omega)) (by omega) | exact zkk (zK_byte (by omega) (by omega)) (by omega) | exact zkk (zK_list (by omega)) (by omega) | assumption)
          have hf12 := hf1.trans hf2
          refine zx_al0 zd104_50 ?_
          refine zx_il1 zd104_51 ?_
          obtain ⟨I3, hr3, hD3, hw3, hf3, hz3⟩ := zm_lr (L := L) (U := U) (J := J) hR hN (show r < 10 by omega) (show I2 443 r = Int32.ofNat n by rw [hf12.1 443 (by decide)]; exact hn) hn8
          (refine zx_cv1V zd104_52 ?k186 (hr3) ?_); (case k186 => first | exact zkk rfl (by omega) | exact zkk (zK_B0 (by omega)) (by omega) | exact zkk ((zK_B (by omega) (by decide)).trans rfl) (by omega) | exact zkk (zK_row (by omega) (by omega)) (by omega) | exact zkk (zK_file (by omega) (by omega)) (by omega) | exact zkk (zK_byte (by omega) (by omega)) (by omega) | exact zkk (zK_list (by omega)) (by omega) | assumption)
          refine zx_il2 zd104_55 ?_
          refine zx_is4 zd104_56 rfl ?_
          have hq3 : zFq (zT I 0) I3 := hf12.q.trans hf3.q
          have hm3 : zMg [] I3 := ⟨by rw [hz3, hf12.2 2 (by decide) (by decide) (by decide), zT_f I 0 (by decide)]; exact hm.1, fun i hi => absurd hi (by simp)⟩
          refine zW.mono (zm_pr0 (L := L) (U := U) (J := J) (I0 := I3) (D := fun q b => I 447 (256 * r + (32 * q + b))) hR hN hj hn8 hi (fun j hj => by rw [hq3.1 437 (by decide) (by decide) (by decide), zT_row I 0 (by decide)]; exact hK j hj) (zlvl n) 0 I3 none none (by omega) hm3 (fun q hq b hb => ?_) hw3 (by have := hf3.sy hs2; exact this) (zFq.refl I3)) ?_
          · rw [hD3 q hq b hb, hf12.1 447 (by decide)]; rfl
          · rintro o hh ⟨rfl, I', rfl, hm', hf'⟩
            exact ⟨rfl, I', rfl, hm', hq3.trans hf'⟩
        · omega
  obtain ⟨k, hr, I', rfl, hd, hf⟩ := zRet_of w
  exact ⟨I', hr, hd, hf⟩
/-! growth -/
/-- the digest of the list of the first n roots -/
def zls (f : Nat → Int32) : Nat → Nat → Int32
  | 0 => zsha []
  | n + 1 => zsha (zrw0 (zls f n) 0 32 ++ zrw0 f (32 * n) 32)
theorem zm_dl0 (hR : zRs R) (hN : 459 ≤ N) {I0 : zI} {n : Nat} (hn : n ≤ 10) (hK : ∀ j, j < 64 → I0 437 j = zKr j) : ∀ (q i : Nat) (I' : zI), i + q = n → zMg [] I' → (∀ b, b < 32 → I' 442 b = zls (I0 448) i b) → zFd I0 I' →
    zW L 120 6 [some (.ref 436), some (.int (Int32.ofNat n)), some (.int (Int32.ofNat i))] [] (N, U, I', J, R) (fun o hh => o = .inl none ∧ ∃ I' : zI, hh = (N, U, I', J, R) ∧ zMg [] I' ∧ (∀ b, b < 32 → I' 442 b = zls (I0 448) n b) ∧ zFd I0 I') := by
  intro q
  induction q with
  | zero =>
    intro i I' hi hm ho hf
    obtain rfl : i = n := by omega
    refine zx_il2 zd120_6 ?_
    refine zx_il1 zd120_7 ?_
    first | ((with_reducible refine zx_icmpgeN zd120_8 ?s191 (fun h => ?_) (fun h => ?_)); (case s191 => omega)) | refine zx_icmpge zd120_8 (fun h => ?_) (fun h => ?_)
    · refine zx_vret zd120_42 rfl ?_
      exact ⟨rfl, I', rfl, hm, ho, hf⟩
    · omega
  | succ q ih =>
    intro i I' hi hm ho hf
    refine zx_il2 zd120_6 ?_
    refine zx_il1 zd120_7 ?_
    first | ((with_reducible refine zx_icmpgeN zd120_8 ?s195 (fun h => ?_) (fun h => ?_)); (case s195 => omega)) | refine zx_icmpge zd120_8 (fun h => ?_) (fun h => ?_)
    · omega
    · refine zx_al0 zd120_11 ?_
      refine zx_al0 zd120_12 ?_
      (refine' zx_gfA zd120_13 ?k198 ?r198 ?_); (case k198 => first | exact zkk rfl (by omega) | exact zkk (zK_B0 (by omega)) (by omega) | exact zkk ((zK_B (by omega) (by decide)).trans rfl) (by omega) | exact zkk (zK_row (by omega) (by omega)) (by omega) | exact zkk (zK_file (by omega) (by omega)) (by omega) | exact zkk (zK_byte (by omega) (by omega)) (by omega) | exact zkk (zK_list (by omega)) (by omega) | assumption); (case r198 => first | exact hR.1 _ _ _ rfl | assumption)
      refine zx_c zd120_16 ?_
      obtain ⟨I1, hr1, hm1, hf1⟩ := zs_mpd (L := L) (U := U) (J := J) hR hN (a := 442) (n := 32) (p := 0) (zkk rfl (by omega)) (by decide) (by decide) (by decide) hm (by decide)
      (refine zx_cv2V zd120_17 ?k200 (hr1) ?_); (case k200 => first | exact zkk rfl (by omega) | exact zkk (zK_B0 (by omega)) (by omega) | exact zkk ((zK_B (by omega) (by decide)).trans rfl) (by omega) | exact zkk (zK_row (by omega) (by omega)) (by omega) | exact zkk (zK_file (by omega) (by omega)) (by omega) | exact zkk (zK_byte (by omega) (by omega)) (by omega) | exact zkk (zK_list (by omega)) (by omega) | assumption)
      refine zx_al0 zd120_20 ?_
      refine zx_al0 zd120_21 ?_
      (refine' zx_gfA zd120_22 ?k203 ?r203 ?_); (case k203 => first | exact zkk rfl (by omega) | exact zkk (zK_B0 (by omega)) (by omega) | exact zkk ((zK_B (by omega) (by decide)).trans rfl) (by omega) | exact zkk (zK_row (by omega) (by omega)) (by omega) | exact zkk (zK_file (by omega) (by omega)) (by omega) | exact zkk (zK_byte (by omega) (by omega)) (by omega) | exact zkk (zK_list (by omega)) (by omega) | assumption); (case r203 => first | exact hR.1 _ _ _ rfl | assumption)
      refine zx_c zd120_25 ?_
      refine zx_il2 zd120_27 ?_
      first | with_reducible refine zx_mulN zd120_28 ?_ | refine zx_mul zd120_28 ?_
      obtain ⟨I2, hr2, hm2, hf2⟩ := zs_mpd (L := L) (U := U) (J := J) hR hN (a := 448) (n := 320) (p := 32 * i) (zkk rfl (by omega)) (by decide) (by decide) (by omega) hm1 (by rw [List.length_append, zrw0_len]; decide)
      (refine zx_cv2V zd120_29 ?k207 (hr2) ?_); (case k207 => first | exact zkk rfl (by omega) | exact zkk (zK_B0 (by omega)) (by omega) | exact zkk ((zK_B (by omega) (by decide)).trans rfl) (by omega) | exact zkk (zK_row (by omega) (by omega)) (by omega) | exact zkk (zK_file (by omega) (by omega)) (by omega) | exact zkk (zK_byte (by omega) (by omega)) (by omega) | exact zkk (zK_list (by omega)) (by omega) | assumption)
      refine zx_al0 zd120_32 ?_
      have hf12 := hf1.trans hf2
      obtain ⟨I3, hr3, ho3, hm3, hf3⟩ := zs_mdig (L := L) (U := U) (J := J) hR hN (fun j hj => by rw [hf12.1 437 (by decide) (by decide), hf.1 437 (by decide) (by decide) (by decide) (by decide) (by decide) (by decide)]; exact hK j hj) hm2 (by rw [List.length_append, zrw0_len, List.length_append, zrw0_len]; decide)
      (refine zx_cv0V zd120_33 ?k209 (hr3) ?_); (case k209 => first | exact zkk rfl (by omega) | exact zkk (zK_B0 (by omega)) (by omega) | exact zkk ((zK_B (by omega) (by decide)).trans rfl) (by omega) | exact zkk (zK_row (by omega) (by omega)) (by omega) | exact zkk (zK_file (by omega) (by omega)) (by omega) | exact zkk (zK_byte (by omega) (by omega)) (by omega) | exact zkk (zK_list (by omega)) (by omega) | assumption)
      first | with_reducible refine zx_iin2 zd120_36 ?_ | refine zx_ii2 zd120_36 ?_
      refine zx_goto zd120_39 ?_
      refine ih (i + 1) I3 (by omega) hm3 (fun b hb => ?_) ((hf.trans hf12.to).trans hf3)
      rw [ho3, zfill_in0 _ _ _ hb]
      have e1 : zrw0 (I' 442) 0 32 = zrw0 (zls (I0 448) i) 0 32 := zrw0_congr (fun b hb => by rw [Nat.zero_add]; exact ho b hb)
      rw [e1, hf1.1 448 (by decide) (by decide), hf.1 448 (by decide) (by decide) (by decide) (by decide) (by decide) (by decide)]
      rfl
theorem zm_dl (hR : zRs R) (hN : 459 ≤ N) {n : Nat} (hn : n ≤ 10) (hK : ∀ j, j < 64 → I 437 j = zKr j) (hm : zMg [] I) : ∃ I', zRet L 120 [.ref 436, .int (Int32.ofNat n)] (N, U, I, J, R) none (N, U, I', J, R) ∧ zMg [] I' ∧ (∀ b, b < 32 → I' 442 b = zls (I 448) n b) ∧ zFd I I' := by
  have w : zW L 120 0 (zent 120 [.ref 436, .int (Int32.ofNat n)]) [] (N, U, I, J, R) (fun o hh => o = .inl none ∧ ∃ I' : zI, hh = (N, U, I', J, R) ∧ zMg [] I' ∧ (∀ b, b < 32 → I' 442 b = zls (I 448) n b) ∧ zFd I I') := by
    show zW L 120 0 [some (.ref 436), some (.int (Int32.ofNat n)), none] [] _ _
    refine zx_al0 zd120_0 ?_
    obtain ⟨I1, hr1, ho1, hm1, hf1⟩ := zs_mdig (L := L) (U := U) (J := J) hR hN hK hm (by decide)
    (refine zx_cv0V zd120_1 ?k213 (hr1) ?_); (case k213 => first | exact zkk rfl (by omega) | exact zkk (zK_B0 (by omega)) (by omega) | exact zkk ((zK_B (by omega) (by decide)).trans rfl) (by omega) | exact zkk (zK_row (by omega) (by omega)) (by omega) | exact zkk (zK_file (by omega) (by omega)) (by omega) | exact zkk (zK_byte (by omega) (by omega)) (by omega) | exact zkk (zK_list (by omega)) (by omega) | assumption)
    refine zx_c zd120_4 ?_
    refine zx_is2 zd120_5 rfl ?_
    exact zm_dl0 hR hN hn hK n 0 I1 (by omega) hm1 (fun b hb => by rw [ho1, zfill_in0 _ _ _ hb]; rfl) hf1
  obtain ⟨k, hr, I', rfl, hd⟩ := zRet_of w
  exact ⟨I', hr, hd⟩
theorem zFd.sy {I I' : zI} {W : Nat → Int32} {k i : Nat} (h : zFd I I') (hs : zSy I W k i) : zSy I' W k i := ⟨by rw [h.2 30 (by decide)]; exact hs.1, by rw [h.2 29 (by decide)]; exact hs.2.1, by rw [h.2 31 (by decide)]; exact hs.2.2⟩
/-- growth's three loops -/
theorem zm_gr1 (hR : zRs R) (hN : 459 ≤ N) {I0 : zI} {W : Nat → Int32} {k0 i : Nat} (hi : i < 2147483648) (hk0 : k0 < 1000) (hW : ∀ b, b < 32 → I0 442 b = W (k0 + b)) {l1 l2 l3 : Option Value}
    (kk : ∀ (I' : zI) (l4 : Option Value), zSy I' W (k0 + 32) i → zFs I0 I' → zW L 119 76 [some (.ref 436), l1, l2, l3, l4] [] (N, U, I', J, R) Q) :
    ∀ (q b : Nat) (I' : zI), b + q = 32 → zSy I' W (k0 + b) i → zFs I0 I' → zW L 119 52 [some (.ref 436), l1, l2, l3, some (.int (Int32.ofNat b))] [] (N, U, I', J, R) Q := by
  intro q
  induction q with
  | zero =>
    intro b I' hb hs hf
    obtain rfl : b = 32 := by omega
    refine zx_il4 zd119_52 ?_
    refine zx_c zd119_54 ?_
    first | ((with_reducible refine zx_icmpgeN zd119_56 ?s218 (fun h => ?_) (fun h => ?_)); (case s218 => omega)) | refine zx_icmpge zd119_56 (fun h => ?_) (fun h => ?_)
    · exact kk I' _ hs hf
    · omega
  | succ q ih =>
    intro b I' hb hs hf
    refine zx_il4 zd119_52 ?_
    refine zx_c zd119_54 ?_
    first | ((with_reducible refine zx_icmpgeN zd119_56 ?s221 (fun h => ?_) (fun h => ?_)); (case s221 => omega)) | refine zx_icmpge zd119_56 (fun h => ?_) (fun h => ?_)
    · omega
    · refine zx_al0 zd119_59 ?_
      refine zx_al0 zd119_60 ?_
      (refine' zx_gfA zd119_61 ?k224 ?r224 ?_); (case k224 => first | exact zkk rfl (by omega) | exact zkk (zK_B0 (by omega)) (by omega) | exact zkk ((zK_B (by omega) (by decide)).trans rfl) (by omega) | exact zkk (zK_row (by omega) (by omega)) (by omega) | exact zkk (zK_file (by omega) (by omega)) (by omega) | exact zkk (zK_byte (by omega) (by omega)) (by omega) | exact zkk (zK_list (by omega)) (by omega) | assumption); (case r224 => first | exact hR.1 _ _ _ rfl | assumption)
      refine zx_il4 zd119_64 ?_
      (with_reducible refine' zx_ialdN zd119_66 ?k226 ?j226 ?_); (case k226 => first | exact zkk rfl (by omega) | exact zkk (zK_B0 (by omega)) (by omega) | exact zkk ((zK_B (by omega) (by decide)).trans rfl) (by omega) | exact zkk (zK_row (by omega) (by omega)) (by omega) | exact zkk (zK_file (by omega) (by omega)) (by omega) | exact zkk (zK_byte (by omega) (by omega)) (by omega) | exact zkk (zK_list (by omega)) (by omega) | assumption); (case j226 => omega)
      obtain ⟨I2, hr2, hs2, hf2⟩ := zm_say (L := L) (U := U) (J := J) (R := R) hN hs (by omega) hi (b := I' 442 b) (by rw [hf.1 442 (by decide)]; exact hW b h)
      (refine zx_cv1V zd119_67 ?k227 (hr2) ?_); (case k227 => first | exact zkk rfl (by omega) | exact zkk (zK_B0 (by omega)) (by omega) | exact zkk ((zK_B (by omega) (by decide)).trans rfl) (by omega) | exact zkk (zK_row (by omega) (by omega)) (by omega) | exact zkk (zK_file (by omega) (by omega)) (by omega) | exact zkk (zK_byte (by omega) (by omega)) (by omega) | exact zkk (zK_list (by omega)) (by omega) | assumption)
      first | with_reducible refine zx_iin4 zd119_70 ?_ | refine zx_ii4 zd119_70 ?_
      refine zx_goto zd119_73 ?_
      exact ih (b + 1) I2 (by omega) (by rw [← Nat.add_assoc]; exact hs2) (hf.trans hf2)
theorem zm_gr2 (hR : zRs R) (hN : 459 ≤ N) {I0 : zI} {W : Nat → Int32} {i f t : Nat} (hi : i < 2147483648) (ht : t ≤ 10) (hft : f ≤ t) (hW : ∀ q, q < 32 * (t - f) → I0 448 (32 * f + q) = W (32 + q)) {l1 l3 : Option Value}
    (kk : ∀ (I' : zI) (l4 : Option Value), zSy I' W (32 + 32 * (t - f)) i → zFs I0 I' → zW L 119 108 [some (.ref 436), l1, some (.int (Int32.ofNat t)), l3, l4] [] (N, U, I', J, R) Q) :
    ∀ (q b : Nat) (I' : zI), b + q = 32 * (t - f) → zSy I' W (32 + b) i → zFs I0 I' → zW L 119 82 [some (.ref 436), l1, some (.int (Int32.ofNat t)), l3, some (.int (Int32.ofNat (32 * f + b)))] [] (N, U, I', J, R) Q := by
  intro q
  induction q with
  | zero =>
    intro b I' hb hs hf
    obtain rfl : b = 32 * (t - f) := by omega
    refine zx_il4 zd119_82 ?_
    refine zx_c zd119_84 ?_
    refine zx_il2 zd119_86 ?_
    first | with_reducible refine zx_mulN zd119_87 ?_ | refine zx_mul zd119_87 ?_
    first | ((with_reducible refine zx_icmpgeN zd119_88 ?s234 (fun h => ?_) (fun h => ?_)); (case s234 => omega)) | refine zx_icmpge zd119_88 (fun h => ?_) (fun h => ?_)
    · exact kk I' _ hs hf
    · omega
  | succ q ih =>
    intro b I' hb hs hf
    refine zx_il4 zd119_82 ?_
    refine zx_c zd119_84 ?_
    refine zx_il2 zd119_86 ?_
    first | with_reducible refine zx_mulN zd119_87 ?_ | refine zx_mul zd119_87 ?_
    first | ((with_reducible refine zx_icmpgeN zd119_88 ?s239 (fun h => ?_) (fun h => ?_)); (case s239 => omega)) | refine zx_icmpge zd119_88 (fun h => ?_) (fun h => ?_)
    · omega
    · refine zx_al0 zd119_91 ?_
      refine zx_al0 zd119_92 ?_
      (refine' zx_gfA zd119_93 ?k242 ?r242 ?_); (case k242 => first | exact zkk rfl (by omega) | exact zkk (zK_B0 (by omega)) (by omega) | exact zkk ((zK_B (by omega) (by decide)).trans rfl) (by omega) | exact zkk (zK_row (by omega) (by omega)) (by omega) | exact zkk (zK_file (by omega) (by omega)) (by omega) | exact zkk (zK_byte (by omega) (by omega)) (by omega) | exact zkk (zK_list (by omega)) (by omega) | assumption); (case r242 => first | exact hR.1 _ _ _ rfl | assumption)
      refine zx_il4 zd119_96 ?_
      (with_reducible refine' zx_ialdN zd119_98 ?k244 ?j244 ?_); (case k244 => first | exact zkk rfl (by omega) | exact zkk (zK_B0 (by omega)) (by omega) | exact zkk ((zK_B (by omega) (by decide)).trans rfl) (by omega) | exact zkk (zK_row (by omega) (by omega)) (by omega) | exact zkk (zK_file (by omega) (by omega)) (by omega) | exact zkk (zK_byte (by omega) (by omega)) (by omega) | exact zkk (zK_list (by omega)) (by omega) | assumption); (case j244 => omega)
      obtain ⟨I2, hr2, hs2, hf2⟩ := zm_say (L := L) (U := U) (J := J) (R := R) hN hs (by omega) hi (b := I' 448 (32 * f + b)) (by rw [hf.1 448 (by decide)]; exact hW b (by omega))
      (refine zx_cv1V zd119_99 ?k245 (hr2) ?_); (case k245 => first | exact zkk rfl (by omega) | exact zkk (zK_B0 (by omega)) (by omega) | exact zkk ((zK_B (by omega) (by decide)).trans rfl) (by omega) | exact zkk (zK_row (by omega) (by omega)) (by omega) | exact zkk (zK_file (by omega) (by omega)) (by omega) | exact zkk (zK_byte (by omega) (by omega)) (by omega) | exact zkk (zK_list (by omega)) (by omega) | assumption)
      first | with_reducible refine zx_iin4 zd119_102 ?_ | refine zx_ii4 zd119_102 ?_
      refine zx_goto zd119_105 ?_
      exact ih (b + 1) I2 (by omega) (by rw [← Nat.add_assoc]; exact hs2) (hf.trans hf2)
theorem zm_gr3 (hR : zRs R) (hN : 459 ≤ N) {I0 : zI} {W : Nat → Int32} {k0 i : Nat} (hi : i < 2147483648) (hk0 : k0 < 1000) (hW : ∀ b, b < 32 → I0 442 b = W (k0 + b)) {l1 l2 l3 : Option Value}
    (kk : ∀ (I' : zI) (l4 : Option Value), zSy I' W (k0 + 32) i → zFs I0 I' → zW L 119 140 [some (.ref 436), l1, l2, l3, l4] [] (N, U, I', J, R) Q) :
    ∀ (q b : Nat) (I' : zI), b + q = 32 → zSy I' W (k0 + b) i → zFs I0 I' → zW L 119 116 [some (.ref 436), l1, l2, l3, some (.int (Int32.ofNat b))] [] (N, U, I', J, R) Q := by
  intro q
  induction q with
  | zero =>
    intro b I' hb hs hf
    obtain rfl : b = 32 := by omega
    refine zx_il4 zd119_116 ?_
    refine zx_c zd119_118 ?_
    first | ((with_reducible refine zx_icmpgeN zd119_120 ?s250 (fun h => ?_) (fun h => ?_)); (case s250 => omega)) | refine zx_icmpge zd119_120 (fun h => ?_) (fun h => ?_)
    · exact kk I' _ hs hf
    · omega
  | succ q ih =>
    intro b I' hb hs hf
    refine zx_il4 zd119_116 ?_
    refine zx_c zd119_118 ?_
    first | ((with_reducible refine zx_icmpgeN zd119_120 ?s253 (fun h => ?_) (fun h => ?_)); (case s253 => omega)) | refine zx_icmpge zd119_120 (fun h => ?_) (fun h => ?_)
    · omega
    · refine zx_al0 zd119_123 ?_
      refine zx_al0 zd119_124 ?_
      (refine' zx_gfA zd119_125 ?k256 ?r256 ?_); (case k256 => first | exact zkk rfl (by omega) | exact zkk (zK_B0 (by omega)) (by omega) | exact zkk ((zK_B (by omega) (by decide)).trans rfl) (by omega) | exact zkk (zK_row (by omega) (by omega)) (by omega) | exact zkk (zK_file (by omega) (by omega)) (by omega) | exact zkk (zK_byte (by omega) (by omega)) (by omega) | exact zkk (zK_list (by omega)) (by omega) | assumption); (case r256 => first | exact hR.1 _ _ _ rfl | assumption)
      refine zx_il4 zd119_128 ?_
      (with_reducible refine' zx_ialdN zd119_130 ?k258 ?j258 ?_); (case k258 => first | exact zkk rfl (by omega) | exact zkk (zK_B0 (by omega)) (by omega) | exact zkk ((zK_B (by omega) (by decide)).trans rfl) (by omega) | exact zkk (zK_row (by omega) (by omega)) (by omega) | exact zkk (zK_file (by omega) (by omega)) (by omega) | exact zkk (zK_byte (by omega) (by omega)) (by omega) | exact zkk (zK_list (by omega)) (by omega) | assumption); (case j258 => omega)
      obtain ⟨I2, hr2, hs2, hf2⟩ := zm_say (L := L) (U := U) (J := J) (R := R) hN hs (by omega) hi (b := I' 442 b) (by rw [hf.1 442 (by decide)]; exact hW b h)
      (refine zx_cv1V zd119_131 ?k259 (hr2) ?_); (case k259 => first | exact zkk rfl (by omega) | exact zkk (zK_B0 (by omega)) (by omega) | exact zkk ((zK_B (by omega) (by decide)).trans rfl) (by omega) | exact zkk (zK_row (by omega) (by omega)) (by omega) | exact zkk (zK_file (by omega) (by omega)) (by omega) | exact zkk (zK_byte (by omega) (by omega)) (by omega) | exact zkk (zK_list (by omega)) (by omega) | assumption)
      first | with_reducible refine zx_iin4 zd119_134 ?_ | refine zx_ii4 zd119_134 ?_
      refine zx_goto zd119_137 ?_
      exact ih (b + 1) I2 (by omega) (by rw [← Nat.add_assoc]; exact hs2) (hf.trans hf2)
/-- growth's bytes -/
def zgrw (f : Nat → Int32) (a t : Nat) : Nat → Int32 := fun i => if i < 32 then zls f a i else if i < 32 + 32 * (t - a) then f (32 * a + (i - 32)) else zls f t (i - (32 + 32 * (t - a)))
theorem zm_gr (hR : zRs R) (hN : 459 ≤ N) (hc : I 436 8 = Int32.ofNat c) (hc10 : c ≤ 10) {a t i : Nat} (hat : a ≤ t) (ht : t ≤ c) (hi : i < 2147483648) (hK : ∀ j, j < 64 → I 437 j = zKr j) (hm : zMg [] I) :
    ∃ I', zRet L 119 [.ref 436, .int (Int32.ofNat a), .int (Int32.ofNat t), .int (Int32.ofNat i)] (N, U, I, J, R) (some (.int (if i < 64 + 32 * (t - a) then zgrw (I 448) a t i else -1))) (N, U, I', J, R) ∧ zMg [] I' ∧ zFq (zT I 0) I' := by
  have w : zW L 119 0 (zent 119 [.ref 436, .int (Int32.ofNat a), .int (Int32.ofNat t), .int (Int32.ofNat i)]) [] (N, U, I, J, R) (fun o hh => o = .inl (some (.int (if i < 64 + 32 * (t - a) then zgrw (I 448) a t i else -1))) ∧ ∃ I' : zI, hh = (N, U, I', J, R) ∧ zMg [] I' ∧ zFq (zT I 0) I') := by
    show zW L 119 0 [some (.ref 436), some (.int (Int32.ofNat a)), some (.int (Int32.ofNat t)), some (.int (Int32.ofNat i)), none] [] _ _
    refine zx_al0 zd119_0 ?_
    refine zx_il1 zd119_1 ?_
    first | ((with_reducible refine zx_ifltN zd119_2 ?s264 (fun h => ?_) (fun h => ?_)); (case s264 => omega)) | refine zx_iflt zd119_2 (fun h => ?_) (fun h => ?_)
    · omega
    · refine zx_il1 zd119_5 ?_
      refine zx_il2 zd119_6 ?_
      first | ((with_reducible refine zx_icmpgtN zd119_7 ?s267 (fun h2 => ?_) (fun h2 => ?_)); (case s267 => omega)) | refine zx_icmpgt zd119_7 (fun h2 => ?_) (fun h2 => ?_)
      · omega
      · refine zx_il2 zd119_10 ?_
        refine zx_al0 zd119_11 ?_
        (refine zx_gfI zd119_12 ?k270 ?_); (case k270 => first | exact zkk rfl (by omega) | exact zkk (zK_B0 (by omega)) (by omega) | exact zkk ((zK_B (by omega) (by decide)).trans rfl) (by omega) | exact zkk (zK_row (by omega) (by omega)) (by omega) | exact zkk (zK_file (by omega) (by omega)) (by omega) | exact zkk (zK_byte (by omega) (by omega)) (by omega) | exact zkk (zK_list (by omega)) (by omega) | assumption)
        rw [hc]
        first | ((with_reducible refine zx_icmpgtN zd119_15 ?s271 (fun h3 => ?_) (fun h3 => ?_)); (case s271 => omega)) | refine zx_icmpgt zd119_15 (fun h3 => ?_) (fun h3 => ?_)
        · omega
        · refine zx_il3 zd119_18 ?_
          first | ((with_reducible refine zx_ifltN zd119_19 ?s273 (fun h4 => ?_) (fun h4 => ?_)); (case s273 => omega)) | refine zx_iflt zd119_19 (fun h4 => ?_) (fun h4 => ?_)
          · omega
          · refine zx_c zd119_22 ?_
            refine zx_goto zd119_23 ?_
            (refine zx_pfI zd119_27 ?k276 ?a276 ?_); (case k276 => first | exact zkk rfl (by omega) | exact zkk (zK_B0 (by omega)) (by omega) | exact zkk ((zK_B (by omega) (by decide)).trans rfl) (by omega) | exact zkk (zK_row (by omega) (by omega)) (by omega) | exact zkk (zK_file (by omega) (by omega)) (by omega) | exact zkk (zK_byte (by omega) (by omega)) (by omega) | exact zkk (zK_list (by omega)) (by omega) | assumption); (case a276 => omega)
            refine zx_al0 zd119_30 ?_
            (refine zx_gfI zd119_31 ?k278 ?_); (case k278 => first | exact zkk rfl (by omega) | exact zkk (zK_B0 (by omega)) (by omega) | exact zkk ((zK_B (by omega) (by decide)).trans rfl) (by omega) | exact zkk (zK_row (by omega) (by omega)) (by omega) | exact zkk (zK_file (by omega) (by omega)) (by omega) | exact zkk (zK_byte (by omega) (by omega)) (by omega) | exact zkk (zK_list (by omega)) (by omega) | assumption)
            rw [show zu I 436 0 (Int32.ofNat 0) 436 0 = Int32.ofNat 0 from rfl]
            first | ((with_reducible refine zx_ifeqN zd119_34 ?s279 (fun h5 => ?_) (fun h5 => ?_)); (case s279 => omega)) | refine zx_ifeq zd119_34 (fun h5 => ?_) (fun h5 => ?_)
            · refine zx_al0 zd119_39 ?_
              refine zx_il3 zd119_40 ?_
              obtain ⟨I1, hr1, hs1, hf1⟩ := zm_beg (L := L) (U := U) (I := zT I 0) (J := J) (R := R) hN (zgrw (I 448) a t) i
              (refine zx_cv1V zd119_41 ?k282 (hr1) ?_); (case k282 => first | exact zkk rfl (by omega) | exact zkk (zK_B0 (by omega)) (by omega) | exact zkk ((zK_B (by omega) (by decide)).trans rfl) (by omega) | exact zkk (zK_row (by omega) (by omega)) (by omega) | exact zkk (zK_file (by omega) (by omega)) (by omega) | exact zkk (zK_byte (by omega) (by omega)) (by omega) | exact zkk (zK_list (by omega)) (by omega) | assumption)
              refine zx_al0 zd119_44 ?_
              refine zx_il1 zd119_45 ?_
              have hK1 : ∀ j, j < 64 → I1 437 j = zKr j := fun j hj => by rw [hf1.1 437 (by decide), zT_row I 0 (by decide)]; exact hK j hj
              have hm1 : zMg [] I1 := ⟨by rw [hf1.2 2 (by decide) (by decide) (by decide), zT_f I 0 (by decide)]; exact hm.1, fun i hi => absurd hi (by simp)⟩
              have e635 : I1 448 = I 448 := by rw [hf1.1 448 (by decide), zT_row I 0 (by decide)]
              obtain ⟨I2, hr2, hm2, ho2, hf2⟩ := zm_dl (L := L) (U := U) (J := J) hR hN (n := a) (by omega) hK1 hm1
              (refine zx_cv1V zd119_46 ?k285 (hr2) ?_); (case k285 => first | exact zkk rfl (by omega) | exact zkk (zK_B0 (by omega)) (by omega) | exact zkk ((zK_B (by omega) (by decide)).trans rfl) (by omega) | exact zkk (zK_row (by omega) (by omega)) (by omega) | exact zkk (zK_file (by omega) (by omega)) (by omega) | exact zkk (zK_byte (by omega) (by omega)) (by omega) | exact zkk (zK_list (by omega)) (by omega) | assumption)
              refine zx_c zd119_49 ?_
              refine zx_is4 zd119_50 rfl ?_
              refine zm_gr1 hR hN (I0 := I2) (W := zgrw (I 448) a t) (k0 := 0) hi (by decide) (fun b hb => ?_) ?_ 32 0 I2 rfl (hf2.sy hs1) (zFs.refl I2)
              · rw [ho2 b hb, e635, Nat.zero_add]
                unfold zgrw
                rw [if_pos hb]
              · intro I3 l4 hs3 hf3
                refine zx_c zd119_76 ?_
                refine zx_il1 zd119_78 ?_
                first | with_reducible refine zx_mulN zd119_79 ?_ | refine zx_mul zd119_79 ?_
                refine zx_is4 zd119_80 rfl ?_
                have f635 : I3 448 = I 448 := by rw [hf3.1 448 (by decide), hf2.1 448 (by decide) (by decide) (by decide) (by decide) (by decide) (by decide), e635]
                refine zm_gr2 hR hN (I0 := I3) (W := zgrw (I 448) a t) hi (by omega) hat (fun q hq => ?_) ?_ (32 * (t - a)) 0 I3 (by omega) hs3 (zFs.refl I3)
                · rw [f635]
                  unfold zgrw
                  rw [if_neg (by omega), if_pos (by omega), Nat.add_sub_cancel_left]
                · intro I4 l4 hs4 hf4
                  refine zx_al0 zd119_108 ?_
                  refine zx_il2 zd119_109 ?_
                  have hf34 := hf3.trans hf4
                  obtain ⟨I5, hr5, hm5, ho5, hf5⟩ := zm_dl (L := L) (U := U) (J := J) hR hN (I := I4) (n := t) (by omega) (fun j hj => by rw [hf34.1 437 (by decide), hf2.1 437 (by decide) (by decide) (by decide) (by decide) (by decide) (by decide)]; exact hK1 j hj) ⟨by rw [hf34.2 2 (by decide) (by decide) (by decide)]; exact hm2.1, fun i hi => absurd hi (by simp)⟩
                  (refine zx_cv1V zd119_110 ?k294 (hr5) ?_); (case k294 => first | exact zkk rfl (by omega) | exact zkk (zK_B0 (by omega)) (by omega) | exact zkk ((zK_B (by omega) (by decide)).trans rfl) (by omega) | exact zkk (zK_row (by omega) (by omega)) (by omega) | exact zkk (zK_file (by omega) (by omega)) (by omega) | exact zkk (zK_byte (by omega) (by omega)) (by omega) | exact zkk (zK_list (by omega)) (by omega) | assumption)
                  refine zx_c zd119_113 ?_
                  refine zx_is4 zd119_114 rfl ?_
                  have f635' : I4 448 = I 448 := by rw [hf4.1 448 (by decide), f635]
                  refine zm_gr3 hR hN (I0 := I5) (W := zgrw (I 448) a t) (k0 := 32 + 32 * (t - a)) hi (by omega) (fun b hb => ?_) ?_ 32 0 I5 rfl (hf5.sy hs4) (zFs.refl I5)
                  · rw [ho5 b hb, f635']
                    unfold zgrw
                    rw [if_neg (by omega), if_neg (by omega), Nat.add_sub_cancel_left]
                  · intro I6 l4 hs6 hf6
                    refine zx_al0 zd119_140 ?_
                    (refine zx_gfI zd119_141 ?k298 ?_); (case k298 => first | exact zkk rfl (by omega) | exact zkk (zK_B0 (by omega)) (by omega) | exact zkk ((zK_B (by omega) (by decide)).trans rfl) (by omega) | exact zkk (zK_row (by omega) (by omega)) (by omega) | exact zkk (zK_file (by omega) (by omega)) (by omega) | exact zkk (zK_byte (by omega) (by omega)) (by omega) | exact zkk (zK_list (by omega)) (by omega) | assumption)
                    rw [hs6.2.2]
                    refine zx_iret zd119_144 (Or.inl rfl) ?_
                    refine ⟨by rw [show 32 + 32 * (t - a) + 32 = 64 + 32 * (t - a) by omega], I6, rfl, ⟨by rw [hf6.2 2 (by decide) (by decide) (by decide)]; exact hm5.1, fun i hi => absurd hi (by simp)⟩, ?_⟩
                    exact ((((hf1.q.trans hf2.to.q).trans hf34.q).trans hf5.to.q).trans hf6.q)
            · omega
  obtain ⟨k, hr, I', rfl, hd⟩ := zRet_of w
  exact ⟨I', hr, hd⟩
theorem zm_grT (hN : 459 ≤ N) (hc : I 436 8 = Int32.ofNat c) {x y z : Int32} (hx : x < 0 ∨ y < x ∨ Int32.ofNat c < y ∨ z < 0) : zRet L 119 [.ref 436, .int x, .int y, .int z] (N, U, I, J, R) (some (.int (Int32.ofNat 0))) (N, U, zT I 1, J, R) := by
  have fin : zW L 119 27 [some (.ref 436), some (.int x), some (.int y), some (.int z), none] [.int (Int32.ofNat 1), .ref 436] (N, U, I, J, R) (fun o k => o = .inl (some (.int (Int32.ofNat 0))) ∧ k = (N, U, zT I 1, J, R)) := by
    (refine zx_pfI zd119_27 ?k300 ?a300 ?_); (case k300 => first | exact zkk rfl (by omega) | exact zkk (zK_B0 (by omega)) (by omega) | exact zkk ((zK_B (by omega) (by decide)).trans rfl) (by omega) | exact zkk (zK_row (by omega) (by omega)) (by omega) | exact zkk (zK_file (by omega) (by omega)) (by omega) | exact zkk (zK_byte (by omega) (by omega)) (by omega) | exact zkk (zK_list (by omega)) (by omega) | assumption); (case a300 => omega)
    refine zx_al0 zd119_30 ?_
    (refine zx_gfI zd119_31 ?k302 ?_); (case k302 => first | exact zkk rfl (by omega) | exact zkk (zK_B0 (by omega)) (by omega) | exact zkk ((zK_B (by omega) (by decide)).trans rfl) (by omega) | exact zkk (zK_row (by omega) (by omega)) (by omega) | exact zkk (zK_file (by omega) (by omega)) (by omega) | exact zkk (zK_byte (by omega) (by omega)) (by omega) | exact zkk (zK_list (by omega)) (by omega) | assumption)
    rw [show zu I 436 0 (Int32.ofNat 1) 436 0 = Int32.ofNat 1 from rfl]
    first | ((with_reducible refine zx_ifeqN zd119_34 ?s303 (fun h => ?_) (fun h => ?_)); (case s303 => omega)) | refine zx_ifeq zd119_34 (fun h => ?_) (fun h => ?_)
    · omega
    · refine zx_c zd119_37 ?_
      refine zx_iret zd119_38 (Or.inl rfl) ?_
      exact ⟨rfl, rfl⟩
  show zW L 119 0 [some (.ref 436), some (.int x), some (.int y), some (.int z), none] [] _ _
  refine zx_al0 zd119_0 ?_
  refine zx_il1 zd119_1 ?_
  first | ((with_reducible refine zx_ifltN zd119_2 ?s308 (fun h => ?_) (fun h => ?_)); (case s308 => omega)) | refine zx_iflt zd119_2 (fun h => ?_) (fun h => ?_)
  · refine zx_c zd119_26 ?_
    exact fin
  · refine zx_il1 zd119_5 ?_
    refine zx_il2 zd119_6 ?_
    refine zx_icmpgt zd119_7 (fun h2 => ?_) (fun h2 => ?_)
    · refine zx_c zd119_26 ?_
      exact fin
    · refine zx_il2 zd119_10 ?_
      refine zx_al0 zd119_11 ?_
      (refine zx_gfI zd119_12 ?k315 ?_); (case k315 => first | exact zkk rfl (by omega) | exact zkk (zK_B0 (by omega)) (by omega) | exact zkk ((zK_B (by omega) (by decide)).trans rfl) (by omega) | exact zkk (zK_row (by omega) (by omega)) (by omega) | exact zkk (zK_file (by omega) (by omega)) (by omega) | exact zkk (zK_byte (by omega) (by omega)) (by omega) | exact zkk (zK_list (by omega)) (by omega) | assumption)
      rw [hc]
      refine zx_icmpgt zd119_15 (fun h3 => ?_) (fun h3 => ?_)
      · refine zx_c zd119_26 ?_
        exact fin
      · refine zx_il3 zd119_18 ?_
        first | ((with_reducible refine zx_ifltN zd119_19 ?s318 (fun h4 => ?_) (fun h4 => ?_)); (case s318 => omega)) | refine zx_iflt zd119_19 (fun h4 => ?_) (fun h4 => ?_)
        · refine zx_c zd119_26 ?_
          exact fin
        · rcases hx with hx | hx | hx | hx
          · exact absurd hx h
          · exact absurd hx h2
          · exact absurd hx h3
          · exact absurd hx h4
end ZM4
