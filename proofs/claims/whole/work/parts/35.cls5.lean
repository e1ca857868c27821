/-! THE CLASS: proofs of leaves -/
section ZC5
variable {L N U : Nat} {I : zI} {J : zJ} {R : zR} {c : Nat}
theorem zc_oo {h : zHp} (x : Nat) : zRet L 57 [.int (Int32.ofNat x)] h (some (.int (Int32.ofNat (x ^^^ 1)))) h := by
  show zW L 57 0 [some (.int (Int32.ofNat x))] [] _ _
  refine zx_il0 zd57_0 ?_
  refine zx_c zd57_1 ?_
  first | with_reducible refine zx_xorN zd57_2 ?_ | refine zx_xor zd57_2 ?_
  refine zx_iret zd57_3 (Or.inl rfl) ?_
  exact ⟨rfl, rfl⟩
/-- the widths of the tree of release r, up to its top -/
def zWd (I : zI) (r t : Nat) (w : Nat → Nat) : Prop := I (8 + 37 * r + 2) 2 = Int32.ofNat t ∧ t < 4 ∧ ∀ k, k ≤ t → I (8 + 37 * r + 19) k = Int32.ofNat (w k) ∧ w k ≤ 8
theorem zc_ho (hR : zRs R) (hN : 459 ≤ N) {r t j k : Nat} {w : Nat → Nat} (hr : r < 11) (hw : zWd I r t w) (hj : j < 8) (hk : k < t) : zRet L 56 [.ref (8 + 37 * r + 2), .int (Int32.ofNat j), .int (Int32.ofNat k)] (N, U, I, J, R) (some (.int (zbi (decide (zoth j k < w k))))) (N, U, I, J, R) := by
  obtain ⟨-, ht, hw⟩ := hw
  obtain ⟨hwk, hwk8⟩ := hw k (by omega)
  obtain ⟨o1, o2⟩ := zoth_lt hj (show k < 4 by omega)
  unfold zoth at o1
  show zW L 56 0 [some (.ref (8 + 37 * r + 2)), some (.int (Int32.ofNat j)), some (.int (Int32.ofNat k))] [] _ _
  refine zx_il1 zd56_0 ?_
  refine zx_il2 zd56_1 ?_
  first | ((with_reducible refine zx_shrN zd56_2 ?h7 ?_); (case h7 => omega)) | refine zx_shr zd56_2 ?_
  refine zx_cs1I zd56_3 (zc_oo _) ?_
  refine zx_al0 zd56_6 ?_
  (refine' zx_gfA zd56_7 ?k10 ?r10 ?_); (case k10 => first | exact zkk rfl (by omega) | exact zkk (zK_B0 (by omega)) (by omega) | exact zkk ((zK_B (by omega) (by decide)).trans rfl) (by omega) | exact zkk (zK_row (by omega) (by omega)) (by omega) | exact zkk (zK_file (by omega) (by omega)) (by omega) | exact zkk (zK_byte (by omega) (by omega)) (by omega) | exact zkk (zK_list (by omega)) (by omega) | assumption); (case r10 => first | exact hR.1 _ _ _ rfl | exact hR.2.1 _ (by omega) | exact (hR.2.2.2 _ (by omega)).1.1 | exact (hR.2.2.2 _ (by omega)).1.2.1 | exact (hR.2.2.2 _ (by omega)).1.2.2 | exact (hR.2.2.2 _ (by omega)).2.1.1 | exact (hR.2.2.2 _ (by omega)).2.1.2 | exact (hR.2.2.2 _ (by omega)).2.2.1 _ (by omega) | exact (hR.2.2.2 _ (by omega)).2.2.2 _ (by omega) | exact hR.2.2.1 _ (by omega) | exact (hF _ (by omega)).1 | assumption)
  refine zx_il2 zd56_10 ?_
  (with_reducible refine' zx_ialdN zd56_11 ?k12 ?j12 ?_); (case k12 => first | exact zkk rfl (by omega) | exact zkk (zK_B0 (by omega)) (by omega) | exact zkk ((zK_B (by omega) (by decide)).trans rfl) (by omega) | exact zkk (zK_row (by omega) (by omega)) (by omega) | exact zkk (zK_file (by omega) (by omega)) (by omega) | exact zkk (zK_byte (by omega) (by omega)) (by omega) | exact zkk (zK_list (by omega)) (by omega) | assumption); (case j12 => omega)
  rw [hwk]
  unfold zoth
  first | ((with_reducible refine zx_icmpgeN zd56_12 ?s13 (fun h => ?_) (fun h => ?_)); (case s13 => omega)) | refine zx_icmpge zd56_12 (fun h => ?_) (fun h => ?_)
  · refine zx_c zd56_19 ?_
    refine zx_iret zd56_20 (Or.inr ⟨rfl, by first | exact Or.inl rfl | exact Or.inr rfl | assumption⟩) ?_
    rw [decide_eq_false (by omega)]; exact ⟨rfl, rfl⟩
  · refine zx_c zd56_15 ?_
    refine zx_goto zd56_16 ?_
    refine zx_iret zd56_20 (Or.inr ⟨rfl, by first | exact Or.inl rfl | exact Or.inr rfl | assumption⟩) ?_
    rw [decide_eq_true h]; exact ⟨rfl, rfl⟩
theorem zc_cs0 (hR : zRs R) (hN : 459 ≤ N) {r t j : Nat} {w : Nat → Nat} (hr : r < 11) (hw : zWd I r t w) (hj : j < 8) : ∀ (k i : Nat), i + k = t →
    zW L 55 4 [some (.ref (8 + 37 * r + 2)), some (.int (Int32.ofNat j)), some (.int (Int32.ofNat (zcn1 (fun k => decide (zoth j k < w k)) i))), some (.int (Int32.ofNat i))] [] (N, U, I, J, R) (fun o h => o = .inl (some (.int (Int32.ofNat (zcn1 (fun k => decide (zoth j k < w k)) t)))) ∧ h = (N, U, I, J, R)) := by
  intro k
  have hw1 := hw.1
  have ht := hw.2.1
  induction k with
  | zero =>
    intro i hi
    obtain rfl : i = t := by omega
    refine zx_il3 zd55_4 ?_
    refine zx_al0 zd55_5 ?_
    (refine zx_gfI zd55_6 ?k21 ?_); (case k21 => first | exact zkk rfl (by omega) | exact zkk (zK_B0 (by omega)) (by omega) | exact zkk ((zK_B (by omega) (by decide)).trans rfl) (by omega) | exact zkk (zK_row (by omega) (by omega)) (by omega) | exact zkk (zK_file (by omega) (by omega)) (by omega) | exact zkk (zK_byte (by omega) (by omega)) (by omega) | exact zkk (zK_list (by omega)) (by omega) | assumption)
    rw [hw1]
    first | ((with_reducible refine zx_icmpgeN zd55_9 ?s22 (fun h => ?_) (fun h => ?_)); (case s22 => omega)) | refine zx_icmpge zd55_9 (fun h => ?_) (fun h => ?_)
    · refine zx_il2 zd55_30 ?_
      refine zx_iret zd55_31 (Or.inl rfl) ?_
      exact ⟨rfl, rfl⟩
    · omega
  | succ k ih =>
    intro i hi
    refine zx_il3 zd55_4 ?_
    refine zx_al0 zd55_5 ?_
    (refine zx_gfI zd55_6 ?k27 ?_); (case k27 => first | exact zkk rfl (by omega) | exact zkk (zK_B0 (by omega)) (by omega) | exact zkk ((zK_B (by omega) (by decide)).trans rfl) (by omega) | exact zkk (zK_row (by omega) (by omega)) (by omega) | exact zkk (zK_file (by omega) (by omega)) (by omega) | exact zkk (zK_byte (by omega) (by omega)) (by omega) | exact zkk (zK_list (by omega)) (by omega) | assumption)
    rw [hw1]
    first | ((with_reducible refine zx_icmpgeN zd55_9 ?s28 (fun h => ?_) (fun h => ?_)); (case s28 => omega)) | refine zx_icmpge zd55_9 (fun h => ?_) (fun h => ?_)
    · omega
    · refine zx_al0 zd55_12 ?_
      refine zx_il1 zd55_13 ?_
      refine zx_il3 zd55_14 ?_
      (refine zx_cv2I zd55_15 ?k32 (zc_ho hR hN hr hw hj (by omega)) ?_); (case k32 => first | exact zkk rfl (by omega) | exact zkk (zK_B0 (by omega)) (by omega) | exact zkk ((zK_B (by omega) (by decide)).trans rfl) (by omega) | exact zkk (zK_row (by omega) (by omega)) (by omega) | exact zkk (zK_file (by omega) (by omega)) (by omega) | exact zkk (zK_byte (by omega) (by omega)) (by omega) | exact zkk (zK_list (by omega)) (by omega) | assumption)
      have k1 := ih (i + 1) (by omega)
      have e1 : zcn1 (fun k => decide (zoth j k < w k)) (i + 1) = zcn1 (fun k => decide (zoth j k < w k)) i + (if decide (zoth j i < w i) = true then 1 else 0) := rfl
      rw [e1] at k1
      cases hz : decide (zoth j i < w i) with
      | true =>
        rw [hz, if_pos rfl] at k1
        show zW L 55 18 _ [.int (Int32.ofNat 1)] _ _
        first | ((with_reducible refine zx_ifeqN zd55_18 ?s33 (fun h5 => ?_) (fun h5 => ?_)); (case s33 => omega)) | refine zx_ifeq zd55_18 (fun h5 => ?_) (fun h5 => ?_)
        · omega
        · first | with_reducible refine zx_iin2 zd55_21 ?_ | refine zx_ii2 zd55_21 ?_
          first | with_reducible refine zx_iin3 zd55_24 ?_ | refine zx_ii3 zd55_24 ?_
          refine zx_goto zd55_27 ?_
          exact k1
      | false =>
        rw [hz, if_neg (by decide)] at k1
        show zW L 55 18 _ [.int (Int32.ofNat 0)] _ _
        first | ((with_reducible refine zx_ifeqN zd55_18 ?s37 (fun h5 => ?_) (fun h5 => ?_)); (case s37 => omega)) | refine zx_ifeq zd55_18 (fun h5 => ?_) (fun h5 => ?_)
        · first | with_reducible refine zx_iin3 zd55_24 ?_ | refine zx_ii3 zd55_24 ?_
          refine zx_goto zd55_27 ?_
          exact k1
        · omega
theorem zc_cs (hR : zRs R) (hN : 459 ≤ N) {r t j : Nat} {w : Nat → Nat} (hr : r < 11) (hw : zWd I r t w) (hj : j < 8) : zRet L 55 [.ref (8 + 37 * r + 2), .int (Int32.ofNat j)] (N, U, I, J, R) (some (.int (Int32.ofNat (zcn1 (fun k => decide (zoth j k < w k)) t)))) (N, U, I, J, R) := by
  show zW L 55 0 [some (.ref (8 + 37 * r + 2)), some (.int (Int32.ofNat j)), none, none] [] _ _
  refine zx_c zd55_0 ?_
  refine zx_is2 zd55_1 rfl ?_
  refine zx_c zd55_2 ?_
  refine zx_is3 zd55_3 rfl ?_
  exact zc_cs0 hR hN hr hw hj t 0 (by omega)
theorem zc_fs0 (hR : zRs R) (hN : 459 ≤ N) {r t j s : Nat} {w : Nat → Nat} (hr : r < 11) (hw : zWd I r t w) (hj : j < 8) (hs : s < 2147483648) : ∀ (k i q : Nat), i + k = t → q ≤ i → q ≤ s →
    zW L 58 5 [some (.ref (8 + 37 * r + 2)), some (.int (Int32.ofNat j)), some (.int (Int32.ofNat s)), some (.int (Int32.ofNat q)), some (.int (Int32.ofNat i))] [] (N, U, I, J, R) (fun o h => o = .inl (some (.int (zfi (zsth (fun k => decide (zoth j k < w k)) (s - q) i k)))) ∧ h = (N, U, I, J, R)) := by
  intro k
  have hw1 := hw.1
  have ht := hw.2.1
  induction k with
  | zero =>
    intro i q hi hq hqs
    refine zx_il4 zd58_5 ?_
    refine zx_al0 zd58_7 ?_
    (refine zx_gfI zd58_8 ?k46 ?_); (case k46 => first | exact zkk rfl (by omega) | exact zkk (zK_B0 (by omega)) (by omega) | exact zkk ((zK_B (by omega) (by decide)).trans rfl) (by omega) | exact zkk (zK_row (by omega) (by omega)) (by omega) | exact zkk (zK_file (by omega) (by omega)) (by omega) | exact zkk (zK_byte (by omega) (by omega)) (by omega) | exact zkk (zK_list (by omega)) (by omega) | assumption)
    rw [hw1]
    first | ((with_reducible refine zx_icmpgeN zd58_11 ?s47 (fun h => ?_) (fun h => ?_)); (case s47 => omega)) | refine zx_icmpge zd58_11 (fun h => ?_) (fun h => ?_)
    · refine zx_c zd58_41 ?_
      refine zx_iret zd58_42 (Or.inl rfl) ?_
      exact ⟨rfl, rfl⟩
    · omega
  | succ k ih =>
    intro i q hi hq hqs
    refine zx_il4 zd58_5 ?_
    refine zx_al0 zd58_7 ?_
    (refine zx_gfI zd58_8 ?k52 ?_); (case k52 => first | exact zkk rfl (by omega) | exact zkk (zK_B0 (by omega)) (by omega) | exact zkk ((zK_B (by omega) (by decide)).trans rfl) (by omega) | exact zkk (zK_row (by omega) (by omega)) (by omega) | exact zkk (zK_file (by omega) (by omega)) (by omega) | exact zkk (zK_byte (by omega) (by omega)) (by omega) | exact zkk (zK_list (by omega)) (by omega) | assumption)
    rw [hw1]
    first | ((with_reducible refine zx_icmpgeN zd58_11 ?s53 (fun h => ?_) (fun h => ?_)); (case s53 => omega)) | refine zx_icmpge zd58_11 (fun h => ?_) (fun h => ?_)
    · omega
    · refine zx_al0 zd58_14 ?_
      refine zx_il1 zd58_15 ?_
      refine zx_il4 zd58_16 ?_
      (refine zx_cv2I zd58_18 ?k57 (zc_ho hR hN hr hw hj (by omega)) ?_); (case k57 => first | exact zkk rfl (by omega) | exact zkk (zK_B0 (by omega)) (by omega) | exact zkk ((zK_B (by omega) (by decide)).trans rfl) (by omega) | exact zkk (zK_row (by omega) (by omega)) (by omega) | exact zkk (zK_file (by omega) (by omega)) (by omega) | exact zkk (zK_byte (by omega) (by omega)) (by omega) | exact zkk (zK_list (by omega)) (by omega) | assumption)
      unfold zsth
      cases hz : decide (zoth j i < w i) with
      | true =>
        rw [if_pos rfl]
        show zW L 58 21 _ [.int (Int32.ofNat 1)] _ _
        first | ((with_reducible refine zx_ifeqN zd58_21 ?s58 (fun h5 => ?_) (fun h5 => ?_)); (case s58 => omega)) | refine zx_ifeq zd58_21 (fun h5 => ?_) (fun h5 => ?_)
        · omega
        · refine zx_il3 zd58_24 ?_
          refine zx_il2 zd58_25 ?_
          first | ((with_reducible refine zx_icmpneN zd58_26 ?s61 (fun h6 => ?_) (fun h6 => ?_)); (case s61 => omega)) | refine zx_icmpne zd58_26 (fun h6 => ?_) (fun h6 => ?_)
          · rw [if_neg (by omega), ← Nat.sub_add_eq]
            first | with_reducible refine zx_iin3 zd58_32 ?_ | refine zx_ii3 zd58_32 ?_
            first | with_reducible refine zx_iin4 zd58_35 ?_ | refine zx_ii4 zd58_35 ?_
            refine zx_goto zd58_38 ?_
            exact ih (i + 1) (q + 1) (by omega) (by omega) (by omega)
          · rw [if_pos (by omega)]
            refine zx_il4 zd58_29 ?_
            refine zx_iret zd58_31 (Or.inl rfl) ?_
            exact ⟨rfl, rfl⟩
      | false =>
        rw [if_neg (by decide)]
        show zW L 58 21 _ [.int (Int32.ofNat 0)] _ _
        first | ((with_reducible refine zx_ifeqN zd58_21 ?s67 (fun h5 => ?_) (fun h5 => ?_)); (case s67 => omega)) | refine zx_ifeq zd58_21 (fun h5 => ?_) (fun h5 => ?_)
        · first | with_reducible refine zx_iin4 zd58_35 ?_ | refine zx_ii4 zd58_35 ?_
          refine zx_goto zd58_38 ?_
          exact ih (i + 1) q (by omega) (by omega) hqs
        · omega
theorem zc_fs (hR : zRs R) (hN : 459 ≤ N) {r t j s : Nat} {w : Nat → Nat} (hr : r < 11) (hw : zWd I r t w) (hj : j < 8) (hs : s < 2147483648) : zRet L 58 [.ref (8 + 37 * r + 2), .int (Int32.ofNat j), .int (Int32.ofNat s)] (N, U, I, J, R) (some (.int (zfi (zsth (fun k => decide (zoth j k < w k)) s 0 t)))) (N, U, I, J, R) := by
  show zW L 58 0 [some (.ref (8 + 37 * r + 2)), some (.int (Int32.ofNat j)), some (.int (Int32.ofNat s)), none, none] [] _ _
  refine zx_c zd58_0 ?_
  refine zx_is3 zd58_1 rfl ?_
  refine zx_c zd58_2 ?_
  refine zx_is4 zd58_3 rfl ?_
  exact zc_fs0 hR hN hr hw hj hs t 0 0 (by omega) (by omega) (by omega)
/-- a proof's byte -/
def zprf (D : Nat → Nat → Nat → Int32) (w : Nat → Nat) (t j i : Nat) : Int32 := if i = 0 then Int32.ofNat (zcn1 (fun k => decide (zoth j k < w k)) t) else match zsth (fun k => decide (zoth j k < w k)) ((i - 1) / 33) 0 t with
  | none => -1
  | some k => if (i - 1) % 33 = 0 then (if zoth j k < j >>> k then Int32.ofNat 0 else Int32.ofNat 1) else D k (zoth j k) ((i - 1) % 33 - 1)
theorem zc_pb (hR : zRs R) (hN : 459 ≤ N) {r t j i : Nat} {w : Nat → Nat} (hr : r < 11) (hw : zWd I r t w) (hj : j < 8) (hi : i < 2147483648) : zRet L 54 [.ref (8 + 37 * r + 2), .int (Int32.ofNat j), .int (Int32.ofNat i)] (N, U, I, J, R) (some (.int (zprf (fun k o => I (8 + 37 * r + 4 + (zq k + o))) w t j i))) (N, U, I, J, R) := by
  have ht := hw.2.1
  show zW L 54 0 [some (.ref (8 + 37 * r + 2)), some (.int (Int32.ofNat j)), some (.int (Int32.ofNat i)), none, none, none, none] [] _ _
  refine zx_il2 zd54_0 ?_
  unfold zprf
  first | ((with_reducible refine zx_ifneN zd54_1 ?s75 (fun h => ?_) (fun h => ?_)); (case s75 => omega)) | refine zx_ifne zd54_1 (fun h => ?_) (fun h => ?_)
  · rw [if_neg h]
    refine zx_al0 zd54_10 ?_
    refine zx_il1 zd54_11 ?_
    refine zx_il2 zd54_12 ?_
    refine zx_c zd54_13 ?_
    first | ((with_reducible refine zx_subN zd54_14 ?h80 ?_); (case h80 => omega)) | refine zx_sub zd54_14 ?_
    refine zx_c zd54_15 ?_
    first | ((with_reducible refine zx_divN zd54_17 ?h82 ?_); (case h82 => omega)) | refine zx_div zd54_17 (by decide) ?_
    (refine zx_cv2I zd54_18 ?k83 (zc_fs hR hN hr hw hj (by omega)) ?_); (case k83 => first | exact zkk rfl (by omega) | exact zkk (zK_B0 (by omega)) (by omega) | exact zkk ((zK_B (by omega) (by decide)).trans rfl) (by omega) | exact zkk (zK_row (by omega) (by omega)) (by omega) | exact zkk (zK_file (by omega) (by omega)) (by omega) | exact zkk (zK_byte (by omega) (by omega)) (by omega) | exact zkk (zK_list (by omega)) (by omega) | assumption)
    refine zx_is3 zd54_21 rfl ?_
    refine zx_il3 zd54_22 ?_
    refine zx_c zd54_23 ?_
    cases hz : zsth (fun k => decide (zoth j k < w k)) ((i - 1) / 33) 0 t with
    | none =>
      refine zx_icmpne zd54_24 (fun h5 => absurd rfl h5) (fun h5 => ?_)
      refine zx_c zd54_27 ?_
      refine zx_iret zd54_28 (Or.inl rfl) ?_
      exact ⟨rfl, rfl⟩
    | some k =>
      have hk := zsth_lt hz
      obtain ⟨o1, o2⟩ := zoth_lt hj (show k < 4 by omega)
      have ho : zoth j k = (j >>> k) ^^^ 1 := rfl
      refine zx_icmpne zd54_24 (fun h5 => ?_) (fun h5 => absurd h5 (zfi_ne (by simp) (fun j hj => by cases hj; omega)))
      show zW L 54 29 [some (.ref (8 + 37 * r + 2)), some (.int (Int32.ofNat j)), some (.int (Int32.ofNat i)), some (.int (Int32.ofNat k)), none, none, none] [] _ _
      refine zx_il2 zd54_29 ?_
      refine zx_c zd54_30 ?_
      first | ((with_reducible refine zx_subN zd54_31 ?h91 ?_); (case h91 => omega)) | refine zx_sub zd54_31 ?_
      refine zx_c zd54_32 ?_
      first | ((with_reducible refine zx_remN zd54_34 ?h93 ?_); (case h93 => omega)) | refine zx_rem zd54_34 (by decide) ?_
      refine zx_is4 zd54_35 rfl ?_
      refine zx_il1 zd54_37 ?_
      refine zx_il3 zd54_38 ?_
      first | ((with_reducible refine zx_shrN zd54_39 ?h97 ?_); (case h97 => omega)) | refine zx_shr zd54_39 ?_
      refine zx_is5 zd54_40 rfl ?_
      refine zx_il5 zd54_42 ?_
      refine zx_cs1I zd54_44 (zc_oo _) ?_
      rw [← ho]
      refine zx_is6 zd54_47 rfl ?_
      refine zx_il4 zd54_49 ?_
      dsimp only
      first | ((with_reducible refine zx_ifneN zd54_51 ?s103 (fun h6 => ?_) (fun h6 => ?_)); (case s103 => omega)) | refine zx_ifne zd54_51 (fun h6 => ?_) (fun h6 => ?_)
      · rw [if_neg h6]
        refine zx_al0 zd54_67 ?_
        refine zx_il3 zd54_68 ?_
        refine zx_il6 zd54_69 ?_
        have hq3 := zq_f (show k < 4 by omega)
        have hq4 := zoth_cp hj (show k < 3 by omega)
        (refine zx_cv2R zd54_71 ?k107 (zc_node hR hN hr (by omega) (by omega)) ?_); (case k107 => first | exact zkk rfl (by omega) | exact zkk (zK_B0 (by omega)) (by omega) | exact zkk ((zK_B (by omega) (by decide)).trans rfl) (by omega) | exact zkk (zK_row (by omega) (by omega)) (by omega) | exact zkk (zK_file (by omega) (by omega)) (by omega) | exact zkk (zK_byte (by omega) (by omega)) (by omega) | exact zkk (zK_list (by omega)) (by omega) | assumption)
        refine zx_il4 zd54_74 ?_
        refine zx_c zd54_76 ?_
        first | ((with_reducible refine zx_subN zd54_77 ?h110 ?_); (case h110 => omega)) | refine zx_sub zd54_77 ?_
        (with_reducible refine' zx_ialdN zd54_78 ?k111 ?j111 ?_); (case k111 => first | exact zkk rfl (by omega) | exact zkk (zK_B0 (by omega)) (by omega) | exact zkk ((zK_B (by omega) (by decide)).trans rfl) (by omega) | exact zkk (zK_row (by omega) (by omega)) (by omega) | exact zkk (zK_file (by omega) (by omega)) (by omega) | exact zkk (zK_byte (by omega) (by omega)) (by omega) | exact zkk (zK_list (by omega)) (by omega) | assumption); (case j111 => omega)
        refine zx_iret zd54_79 (Or.inl rfl) ?_
        exact ⟨rfl, rfl⟩
      · rw [if_pos h6]
        refine zx_il6 zd54_54 ?_
        refine zx_il5 zd54_56 ?_
        first | ((with_reducible refine zx_icmpgeN zd54_58 ?s115 (fun h7 => ?_) (fun h7 => ?_)); (case s115 => omega)) | refine zx_icmpge zd54_58 (fun h7 => ?_) (fun h7 => ?_)
        · rw [if_neg (by omega)]
          refine zx_c zd54_65 ?_
          refine zx_iret zd54_66 (Or.inl rfl) ?_
          exact ⟨rfl, rfl⟩
        · rw [if_pos h7]
          refine zx_c zd54_61 ?_
          refine zx_goto zd54_62 ?_
          refine zx_iret zd54_66 (Or.inl rfl) ?_
          exact ⟨rfl, rfl⟩
  · rw [if_pos h]
    refine zx_al0 zd54_4 ?_
    refine zx_il1 zd54_5 ?_
    (refine zx_cv1I zd54_6 ?k123 (zc_cs hR hN hr hw hj) ?_); (case k123 => first | exact zkk rfl (by omega) | exact zkk (zK_B0 (by omega)) (by omega) | exact zkk ((zK_B (by omega) (by decide)).trans rfl) (by omega) | exact zkk (zK_row (by omega) (by omega)) (by omega) | exact zkk (zK_file (by omega) (by omega)) (by omega) | exact zkk (zK_byte (by omega) (by omega)) (by omega) | exact zkk (zK_list (by omega)) (by omega) | assumption)
    refine zx_iret zd54_9 (Or.inl rfl) ?_
    exact ⟨rfl, rfl⟩
theorem zc_prT1 (hN : 459 ≤ N) (hc : I 3 2 = Int32.ofNat c) {x y z : Int32} (hx : x < 0 ∨ ¬ x < Int32.ofNat c) : zThr L 52 [.ref 3, .int x, .int y, .int z] (N, U, I, J, R) (1, N) (N + 1, U + 6, I, J, R) := by
  show zW L 52 0 [some (.ref 3), some (.int x), some (.int y), some (.int z), none] [] _ _
  refine zx_al0 zd52_0 ?_
  refine zx_il1 zd52_1 ?_
  refine zx_il2 zd52_2 ?_
  (refine zx_ct2v zd52_3 ?k128 (zc_rlT1 hN hc hx) ?_); (case k128 => first | exact zkk rfl (by omega) | exact zkk (zK_B0 (by omega)) (by omega) | exact zkk ((zK_B (by omega) (by decide)).trans rfl) (by omega) | exact zkk (zK_row (by omega) (by omega)) (by omega) | exact zkk (zK_file (by omega) (by omega)) (by omega) | exact zkk (zK_byte (by omega) (by omega)) (by omega) | exact zkk (zK_list (by omega)) (by omega) | assumption)
  exact ⟨rfl, rfl, rfl⟩
theorem zc_prT2 (hR : zRs R) (hN : 459 ≤ N) (hc : I 3 2 = Int32.ofNat c) (hc10 : c ≤ 10) {r n : Nat} {y z : Int32} (hr : r < c) (hn : I (8 + 37 * r) 1 = Int32.ofNat n) (hy : y < 0 ∨ ¬ y < Int32.ofNat n) : zThr L 52 [.ref 3, .int (Int32.ofNat r), .int y, .int z] (N, U, I, J, R) (1, N) (N + 1, U + 6, I, J, R) := by
  show zW L 52 0 [some (.ref 3), some (.int (Int32.ofNat r)), some (.int y), some (.int z), none] [] _ _
  refine zx_al0 zd52_0 ?_
  refine zx_il1 zd52_1 ?_
  refine zx_il2 zd52_2 ?_
  (refine zx_ct2v zd52_3 ?k132 (zc_rlT2 hR hN hc hc10 hr hn hy) ?_); (case k132 => first | exact zkk rfl (by omega) | exact zkk (zK_B0 (by omega)) (by omega) | exact zkk ((zK_B (by omega) (by decide)).trans rfl) (by omega) | exact zkk (zK_row (by omega) (by omega)) (by omega) | exact zkk (zK_file (by omega) (by omega)) (by omega) | exact zkk (zK_byte (by omega) (by omega)) (by omega) | exact zkk (zK_list (by omega)) (by omega) | assumption)
  exact ⟨rfl, rfl, rfl⟩
theorem zc_prT3 (hR : zRs R) (hN : 459 ≤ N) (hc : I 3 2 = Int32.ofNat c) (hc10 : c ≤ 10) {r n j : Nat} {z : Int32} (hr : r < c) (hn : I (8 + 37 * r) 1 = Int32.ofNat n) (hn8 : n ≤ 8) (hj : j < n) (hz : z < 0) : zThr L 52 [.ref 3, .int (Int32.ofNat r), .int (Int32.ofNat j), .int z] (N, U, I, J, R) (1, N) (N + 1, U + 6, I, J, R) := by
  show zW L 52 0 [some (.ref 3), some (.int (Int32.ofNat r)), some (.int (Int32.ofNat j)), some (.int z), none] [] _ _
  refine zx_al0 zd52_0 ?_
  refine zx_il1 zd52_1 ?_
  refine zx_il2 zd52_2 ?_
  (refine zx_cv2R zd52_3 ?k136 (zc_rl hR hN hc hc10 hr hn hn8 hj) ?_); (case k136 => first | exact zkk rfl (by omega) | exact zkk (zK_B0 (by omega)) (by omega) | exact zkk ((zK_B (by omega) (by decide)).trans rfl) (by omega) | exact zkk (zK_row (by omega) (by omega)) (by omega) | exact zkk (zK_file (by omega) (by omega)) (by omega) | exact zkk (zK_byte (by omega) (by omega)) (by omega) | exact zkk (zK_list (by omega)) (by omega) | assumption)
  refine zx_as4 zd52_6 rfl ?_
  refine zx_il3 zd52_8 ?_
  first | ((with_reducible refine zx_ifgeN zd52_9 ?s139 (fun h => ?_) (fun h => ?_)); (case s139 => omega)) | refine zx_ifge zd52_9 (fun h => ?_) (fun h => ?_)
  · exact absurd hz h
  · refine zx_throw zd52_12 (zK_top (by omega)) rfl ?_
    exact ⟨rfl, rfl⟩
theorem zc_pr (hR : zRs R) (hN : 459 ≤ N) (hc : I 3 2 = Int32.ofNat c) (hc10 : c ≤ 10) {r n j i t : Nat} {w : Nat → Nat} (hr : r < c) (hn : I (8 + 37 * r) 1 = Int32.ofNat n) (hn8 : n ≤ 8) (hj : j < n) (hw : zWd I r t w) (hi : i < 2147483648) :
    zRet L 52 [.ref 3, .int (Int32.ofNat r), .int (Int32.ofNat j), .int (Int32.ofNat i)] (N, U, I, J, R) (some (.int (zprf (fun k o => I (8 + 37 * r + 4 + (zq k + o))) w t j i))) (N, U, I, J, R) := by
  show zW L 52 0 [some (.ref 3), some (.int (Int32.ofNat r)), some (.int (Int32.ofNat j)), some (.int (Int32.ofNat i)), none] [] _ _
  refine zx_al0 zd52_0 ?_
  refine zx_il1 zd52_1 ?_
  refine zx_il2 zd52_2 ?_
  (refine zx_cv2R zd52_3 ?k144 (zc_rl hR hN hc hc10 hr hn hn8 hj) ?_); (case k144 => first | exact zkk rfl (by omega) | exact zkk (zK_B0 (by omega)) (by omega) | exact zkk ((zK_B (by omega) (by decide)).trans rfl) (by omega) | exact zkk (zK_row (by omega) (by omega)) (by omega) | exact zkk (zK_file (by omega) (by omega)) (by omega) | exact zkk (zK_byte (by omega) (by omega)) (by omega) | exact zkk (zK_list (by omega)) (by omega) | assumption)
  refine zx_as4 zd52_6 rfl ?_
  refine zx_il3 zd52_8 ?_
  first | ((with_reducible refine zx_ifgeN zd52_9 ?s147 (fun h => ?_) (fun h => ?_)); (case s147 => omega)) | refine zx_ifge zd52_9 (fun h => ?_) (fun h => ?_)
  · refine zx_al4 zd52_22 ?_
    (refine' zx_gfO zd52_24 ?k149 ?r149 ?_); (case k149 => first | exact zkk rfl (by omega) | exact zkk (zK_B0 (by omega)) (by omega) | exact zkk ((zK_B (by omega) (by decide)).trans rfl) (by omega) | exact zkk (zK_row (by omega) (by omega)) (by omega) | exact zkk (zK_file (by omega) (by omega)) (by omega) | exact zkk (zK_byte (by omega) (by omega)) (by omega) | exact zkk (zK_list (by omega)) (by omega) | assumption); (case r149 => first | exact hR.1 _ _ _ rfl | exact hR.2.1 _ (by omega) | exact (hR.2.2.2 _ (by omega)).1.1 | exact (hR.2.2.2 _ (by omega)).1.2.1 | exact (hR.2.2.2 _ (by omega)).1.2.2 | exact (hR.2.2.2 _ (by omega)).2.1.1 | exact (hR.2.2.2 _ (by omega)).2.1.2 | exact (hR.2.2.2 _ (by omega)).2.2.1 _ (by omega) | exact (hR.2.2.2 _ (by omega)).2.2.2 _ (by omega) | exact hR.2.2.1 _ (by omega) | exact (hF _ (by omega)).1 | assumption)
    refine zx_il2 zd52_27 ?_
    refine zx_il3 zd52_28 ?_
    (refine zx_cv2I zd52_29 ?k152 (zc_pb hR hN (by omega) hw (by omega) hi) ?_); (case k152 => first | exact zkk rfl (by omega) | exact zkk (zK_B0 (by omega)) (by omega) | exact zkk ((zK_B (by omega) (by decide)).trans rfl) (by omega) | exact zkk (zK_row (by omega) (by omega)) (by omega) | exact zkk (zK_file (by omega) (by omega)) (by omega) | exact zkk (zK_byte (by omega) (by omega)) (by omega) | exact zkk (zK_list (by omega)) (by omega) | assumption)
    refine zx_iret zd52_32 (Or.inl rfl) ?_
    exact ⟨rfl, rfl⟩
  · omega
end ZC5
