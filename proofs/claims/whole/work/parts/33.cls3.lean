/-! THE CLASS: approvals, withdrawals, serial numbers, histories, digests, changes, growth -/
/-- an event comes -/
def zrec (I : zI) (n : Nat) (a b x y : Int32) : zI := zu (zu (zu (zu (zu I 429 n a) 430 n b) 431 n x) 432 n y) 428 4 (Int32.ofNat (n + 1))
def zrec0 (I : zI) (n : Nat) (a b x y : Int32) : zI := if n < 100 then zrec I n a b x y else I
/-- two persons of unlike roles: the last role seen is w -/
def zapp (f : Nat → Int32) : Int32 → Nat → Nat → Bool
  | _, _, 0 => false
  | w, i, n + 1 => if f i = -1 then zapp f w (i + 1) n else if w = -1 ∨ f i = w then zapp f (f i) (i + 1) n else true
/-- the s-th event of x, from i on -/
def zevf (own : Nat → Int32) (x : Int32) : Nat → Nat → Nat → Option Nat
  | _, _, 0 => none
  | s, i, n + 1 => if own i = x then (if s = 0 then some i else zevf own x (s - 1) (i + 1) n) else zevf own x s (i + 1) n
section ZC3
variable {L N U : Nat} {I : zI} {J : zJ} {R : zR} {c : Nat}
theorem zc_rec (hR : zRs R) (hN : 459 ≤ N) {n : Nat} (hn : I 428 4 = Int32.ofNat n) (hn1 : n ≤ 100) (a b x y : Int32) : zRet L 61 [.ref 428, .int a, .int b, .int x, .int y] (N, U, I, J, R) none (N, U, zrec0 I n a b x y, J, R) := by
  show zW L 61 0 [some (.ref 428), some (.int a), some (.int b), some (.int x), some (.int y)] [] _ _
  unfold zrec0
  refine zx_al0 zd61_0 ?_
  (refine zx_gfI zd61_1 ?k2 ?_); (case k2 => first | exact zkk rfl (by omega) | exact zkk (zK_B0 (by omega)) (by omega) | exact zkk ((zK_B (by omega) (by decide)).trans rfl) (by omega) | exact zkk (zK_row (by omega) (by omega)) (by omega) | exact zkk (zK_file (by omega) (by omega)) (by omega) | exact zkk (zK_byte (by omega) (by omega)) (by omega) | exact zkk (zK_list (by omega)) (by omega) | assumption)
  rw [hn]
  refine zx_c zd61_4 ?_
  first | ((with_reducible refine zx_icmpltN zd61_6 ?s4 (fun h => ?_) (fun h => ?_)); (case s4 => omega)) | refine zx_icmplt zd61_6 (fun h => ?_) (fun h => ?_)
  · rw [if_pos h]
    refine zx_al0 zd61_10 ?_
    (refine' zx_gfA zd61_11 ?k6 ?r6 ?_); (case k6 => first | exact zkk rfl (by omega) | exact zkk (zK_B0 (by omega)) (by omega) | exact zkk ((zK_B (by omega) (by decide)).trans rfl) (by omega) | exact zkk (zK_row (by omega) (by omega)) (by omega) | exact zkk (zK_file (by omega) (by omega)) (by omega) | exact zkk (zK_byte (by omega) (by omega)) (by omega) | exact zkk (zK_list (by omega)) (by omega) | assumption); (case r6 => first | exact hR.1 _ _ _ rfl | exact hR.2.1 _ (by omega) | exact (hR.2.2.2 _ (by omega)).1.1 | exact (hR.2.2.2 _ (by omega)).1.2.1 | exact (hR.2.2.2 _ (by omega)).1.2.2 | exact (hR.2.2.2 _ (by omega)).2.1.1 | exact (hR.2.2.2 _ (by omega)).2.1.2 | exact (hR.2.2.2 _ (by omega)).2.2.1 _ (by omega) | exact (hR.2.2.2 _ (by omega)).2.2.2 _ (by omega) | exact hR.2.2.1 _ (by omega) | exact (hF _ (by omega)).1 | assumption)
    refine zx_al0 zd61_14 ?_
    (refine zx_gfI zd61_15 ?k8 ?_); (case k8 => first | exact zkk rfl (by omega) | exact zkk (zK_B0 (by omega)) (by omega) | exact zkk ((zK_B (by omega) (by decide)).trans rfl) (by omega) | exact zkk (zK_row (by omega) (by omega)) (by omega) | exact zkk (zK_file (by omega) (by omega)) (by omega) | exact zkk (zK_byte (by omega) (by omega)) (by omega) | exact zkk (zK_list (by omega)) (by omega) | assumption)
    rw [hn]
    refine zx_il1 zd61_18 ?_
    (with_reducible refine' zx_iastN zd61_19 ?k10 ?j10 ?a10 ?_); (case k10 => first | exact zkk rfl (by omega) | exact zkk (zK_B0 (by omega)) (by omega) | exact zkk ((zK_B (by omega) (by decide)).trans rfl) (by omega) | exact zkk (zK_row (by omega) (by omega)) (by omega) | exact zkk (zK_file (by omega) (by omega)) (by omega) | exact zkk (zK_byte (by omega) (by omega)) (by omega) | exact zkk (zK_list (by omega)) (by omega) | assumption); (case j10 => omega); (case a10 => omega)
    refine zx_al0 zd61_20 ?_
    (refine' zx_gfA zd61_21 ?k12 ?r12 ?_); (case k12 => first | exact zkk rfl (by omega) | exact zkk (zK_B0 (by omega)) (by omega) | exact zkk ((zK_B (by omega) (by decide)).trans rfl) (by omega) | exact zkk (zK_row (by omega) (by omega)) (by omega) | exact zkk (zK_file (by omega) (by omega)) (by omega) | exact zkk (zK_byte (by omega) (by omega)) (by omega) | exact zkk (zK_list (by omega)) (by omega) | assumption); (case r12 => first | exact hR.1 _ _ _ rfl | exact hR.2.1 _ (by omega) | exact (hR.2.2.2 _ (by omega)).1.1 | exact (hR.2.2.2 _ (by omega)).1.2.1 | exact (hR.2.2.2 _ (by omega)).1.2.2 | exact (hR.2.2.2 _ (by omega)).2.1.1 | exact (hR.2.2.2 _ (by omega)).2.1.2 | exact (hR.2.2.2 _ (by omega)).2.2.1 _ (by omega) | exact (hR.2.2.2 _ (by omega)).2.2.2 _ (by omega) | exact hR.2.2.1 _ (by omega) | exact (hF _ (by omega)).1 | assumption)
    refine zx_al0 zd61_24 ?_
    (refine zx_gfI zd61_25 ?k14 ?_); (case k14 => first | exact zkk rfl (by omega) | exact zkk (zK_B0 (by omega)) (by omega) | exact zkk ((zK_B (by omega) (by decide)).trans rfl) (by omega) | exact zkk (zK_row (by omega) (by omega)) (by omega) | exact zkk (zK_file (by omega) (by omega)) (by omega) | exact zkk (zK_byte (by omega) (by omega)) (by omega) | exact zkk (zK_list (by omega)) (by omega) | assumption)
    rw [show zu I 429 n a 428 4 = I 428 4 from rfl, hn]
    refine zx_il2 zd61_28 ?_
    (with_reducible refine' zx_iastN zd61_29 ?k16 ?j16 ?a16 ?_); (case k16 => first | exact zkk rfl (by omega) | exact zkk (zK_B0 (by omega)) (by omega) | exact zkk ((zK_B (by omega) (by decide)).trans rfl) (by omega) | exact zkk (zK_row (by omega) (by omega)) (by omega) | exact zkk (zK_file (by omega) (by omega)) (by omega) | exact zkk (zK_byte (by omega) (by omega)) (by omega) | exact zkk (zK_list (by omega)) (by omega) | assumption); (case j16 => omega); (case a16 => omega)
    refine zx_al0 zd61_30 ?_
    (refine' zx_gfA zd61_31 ?k18 ?r18 ?_); (case k18 => first | exact zkk rfl (by omega) | exact zkk (zK_B0 (by omega)) (by omega) | exact zkk ((zK_B (by omega) (by decide)).trans rfl) (by omega) | exact zkk (zK_row (by omega) (by omega)) (by omega) | exact zkk (zK_file (by omega) (by omega)) (by omega) | exact zkk (zK_byte (by omega) (by omega)) (by omega) | exact zkk (zK_list (by omega)) (by omega) | assumption); (case r18 => first | exact hR.1 _ _ _ rfl | exact hR.2.1 _ (by omega) | exact (hR.2.2.2 _ (by omega)).1.1 | exact (hR.2.2.2 _ (by omega)).1.2.1 | exact (hR.2.2.2 _ (by omega)).1.2.2 | exact (hR.2.2.2 _ (by omega)).2.1.1 | exact (hR.2.2.2 _ (by omega)).2.1.2 | exact (hR.2.2.2 _ (by omega)).2.2.1 _ (by omega) | exact (hR.2.2.2 _ (by omega)).2.2.2 _ (by omega) | exact hR.2.2.1 _ (by omega) | exact (hF _ (by omega)).1 | assumption)
    refine zx_al0 zd61_34 ?_
    (refine zx_gfI zd61_35 ?k20 ?_); (case k20 => first | exact zkk rfl (by omega) | exact zkk (zK_B0 (by omega)) (by omega) | exact zkk ((zK_B (by omega) (by decide)).trans rfl) (by omega) | exact zkk (zK_row (by omega) (by omega)) (by omega) | exact zkk (zK_file (by omega) (by omega)) (by omega) | exact zkk (zK_byte (by omega) (by omega)) (by omega) | exact zkk (zK_list (by omega)) (by omega) | assumption)
    rw [show zu (zu I 429 n a) 430 n b 428 4 = I 428 4 from rfl, hn]
    refine zx_il3 zd61_38 ?_
    (with_reducible refine' zx_iastN zd61_39 ?k22 ?j22 ?a22 ?_); (case k22 => first | exact zkk rfl (by omega) | exact zkk (zK_B0 (by omega)) (by omega) | exact zkk ((zK_B (by omega) (by decide)).trans rfl) (by omega) | exact zkk (zK_row (by omega) (by omega)) (by omega) | exact zkk (zK_file (by omega) (by omega)) (by omega) | exact zkk (zK_byte (by omega) (by omega)) (by omega) | exact zkk (zK_list (by omega)) (by omega) | assumption); (case j22 => omega); (case a22 => omega)
    refine zx_al0 zd61_40 ?_
    (refine' zx_gfA zd61_41 ?k24 ?r24 ?_); (case k24 => first | exact zkk rfl (by omega) | exact zkk (zK_B0 (by omega)) (by omega) | exact zkk ((zK_B (by omega) (by decide)).trans rfl) (by omega) | exact zkk (zK_row (by omega) (by omega)) (by omega) | exact zkk (zK_file (by omega) (by omega)) (by omega) | exact zkk (zK_byte (by omega) (by omega)) (by omega) | exact zkk (zK_list (by omega)) (by omega) | assumption); (case r24 => first | exact hR.1 _ _ _ rfl | exact hR.2.1 _ (by omega) | exact (hR.2.2.2 _ (by omega)).1.1 | exact (hR.2.2.2 _ (by omega)).1.2.1 | exact (hR.2.2.2 _ (by omega)).1.2.2 | exact (hR.2.2.2 _ (by omega)).2.1.1 | exact (hR.2.2.2 _ (by omega)).2.1.2 | exact (hR.2.2.2 _ (by omega)).2.2.1 _ (by omega) | exact (hR.2.2.2 _ (by omega)).2.2.2 _ (by omega) | exact hR.2.2.1 _ (by omega) | exact (hF _ (by omega)).1 | assumption)
    refine zx_al0 zd61_44 ?_
    (refine zx_gfI zd61_45 ?k26 ?_); (case k26 => first | exact zkk rfl (by omega) | exact zkk (zK_B0 (by omega)) (by omega) | exact zkk ((zK_B (by omega) (by decide)).trans rfl) (by omega) | exact zkk (zK_row (by omega) (by omega)) (by omega) | exact zkk (zK_file (by omega) (by omega)) (by omega) | exact zkk (zK_byte (by omega) (by omega)) (by omega) | exact zkk (zK_list (by omega)) (by omega) | assumption)
    rw [show zu (zu (zu I 429 n a) 430 n b) 431 n x 428 4 = I 428 4 from rfl, hn]
    refine zx_il4 zd61_48 ?_
    (with_reducible refine' zx_iastN zd61_50 ?k28 ?j28 ?a28 ?_); (case k28 => first | exact zkk rfl (by omega) | exact zkk (zK_B0 (by omega)) (by omega) | exact zkk ((zK_B (by omega) (by decide)).trans rfl) (by omega) | exact zkk (zK_row (by omega) (by omega)) (by omega) | exact zkk (zK_file (by omega) (by omega)) (by omega) | exact zkk (zK_byte (by omega) (by omega)) (by omega) | exact zkk (zK_list (by omega)) (by omega) | assumption); (case j28 => omega); (case a28 => omega)
    refine zx_al0 zd61_51 ?_
    first | refine zx_dupR zd61_52 ?_ | refine zx_dupI zd61_52 ?_
    (refine zx_gfI zd61_53 ?k31 ?_); (case k31 => first | exact zkk rfl (by omega) | exact zkk (zK_B0 (by omega)) (by omega) | exact zkk ((zK_B (by omega) (by decide)).trans rfl) (by omega) | exact zkk (zK_row (by omega) (by omega)) (by omega) | exact zkk (zK_file (by omega) (by omega)) (by omega) | exact zkk (zK_byte (by omega) (by omega)) (by omega) | exact zkk (zK_list (by omega)) (by omega) | assumption)
    rw [show zu (zu (zu (zu I 429 n a) 430 n b) 431 n x) 432 n y 428 4 = I 428 4 from rfl, hn]
    refine zx_c zd61_56 ?_
    first | with_reducible refine zx_addN zd61_57 ?_ | refine zx_add zd61_57 ?_
    (refine zx_pfI zd61_58 ?k34 ?a34 ?_); (case k34 => first | exact zkk rfl (by omega) | exact zkk (zK_B0 (by omega)) (by omega) | exact zkk ((zK_B (by omega) (by decide)).trans rfl) (by omega) | exact zkk (zK_row (by omega) (by omega)) (by omega) | exact zkk (zK_file (by omega) (by omega)) (by omega) | exact zkk (zK_byte (by omega) (by omega)) (by omega) | exact zkk (zK_list (by omega)) (by omega) | assumption); (case a34 => omega)
    refine zx_vret zd61_61 rfl ?_
    exact ⟨rfl, rfl⟩
  · rw [if_neg (by omega)]
    refine zx_vret zd61_9 rfl ?_
    exact ⟨rfl, rfl⟩
theorem zc_app0 (hN : 459 ≤ N) {r : Nat} (hr : r < 11) : ∀ (k i : Nat) (w : Int32) (l5 : Option Value), i + k = 16 →
    zW L 62 13 [some (.ref (8 + 37 * r)), some (.int w), some (.ref (8 + 37 * r + 20)), some (.int (Int32.ofNat 16)), some (.int (Int32.ofNat i)), l5] [] (N, U, I, J, R) (fun o h => o = .inl (some (.int (if zapp (I (8 + 37 * r + 20)) w i k = true then Int32.ofNat 1 else Int32.ofNat 0))) ∧ h = (N, U, I, J, R)) := by
  intro k
  induction k with
  | zero =>
    intro i w l5 hi
    refine zx_il4 zd62_13 ?_
    refine zx_il3 zd62_15 ?_
    first | ((with_reducible refine zx_icmpgeN zd62_16 ?s39 (fun h => ?_) (fun h => ?_)); (case s39 => omega)) | refine zx_icmpge zd62_16 (fun h => ?_) (fun h => ?_)
    · refine zx_c zd62_56 ?_
      refine zx_iret zd62_57 (Or.inr ⟨rfl, by first | exact Or.inl rfl | exact Or.inr rfl | assumption⟩) ?_
      exact ⟨rfl, rfl⟩
    · omega
  | succ k ih =>
    intro i w l5 hi
    refine zx_il4 zd62_13 ?_
    refine zx_il3 zd62_15 ?_
    first | ((with_reducible refine zx_icmpgeN zd62_16 ?s44 (fun h => ?_) (fun h => ?_)); (case s44 => omega)) | refine zx_icmpge zd62_16 (fun h => ?_) (fun h => ?_)
    · omega
    · refine zx_al2 zd62_19 ?_
      refine zx_il4 zd62_20 ?_
      (with_reducible refine' zx_ialdN zd62_22 ?k47 ?j47 ?_); (case k47 => first | exact zkk rfl (by omega) | exact zkk (zK_B0 (by omega)) (by omega) | exact zkk ((zK_B (by omega) (by decide)).trans rfl) (by omega) | exact zkk (zK_row (by omega) (by omega)) (by omega) | exact zkk (zK_file (by omega) (by omega)) (by omega) | exact zkk (zK_byte (by omega) (by omega)) (by omega) | exact zkk (zK_list (by omega)) (by omega) | assumption); (case j47 => omega)
      refine zx_is5 zd62_23 rfl ?_
      refine zx_il5 zd62_25 ?_
      refine zx_c zd62_27 ?_
      refine zx_icmpne zd62_28 (fun h2 => ?_) (fun h2 => ?_)
      · refine zx_il1 zd62_34 ?_
        refine zx_c zd62_35 ?_
        refine zx_icmpeq zd62_36 (fun h3 => ?_) (fun h3 => ?_)
        · refine zx_il5 zd62_47 ?_
          refine zx_is1 zd62_49 rfl ?_
          first | with_reducible refine zx_iin4 zd62_50 ?_ | refine zx_ii4 zd62_50 ?_
          refine zx_goto zd62_53 ?_
          have e : zapp (I (8 + 37 * r + 20)) w i (k + 1) = zapp (I (8 + 37 * r + 20)) (I (8 + 37 * r + 20) i) (i + 1) k := by
            show (if _ then _ else if _ then _ else _) = _
            rw [if_neg h2, if_pos (Or.inl h3)]
          rw [e]; exact ih (i + 1) _ _ (by omega)
        · refine zx_il5 zd62_39 ?_
          refine zx_il1 zd62_41 ?_
          refine zx_icmpeq zd62_42 (fun h4 => ?_) (fun h4 => ?_)
          · refine zx_il5 zd62_47 ?_
            refine zx_is1 zd62_49 rfl ?_
            first | with_reducible refine zx_iin4 zd62_50 ?_ | refine zx_ii4 zd62_50 ?_
            refine zx_goto zd62_53 ?_
            have e : zapp (I (8 + 37 * r + 20)) w i (k + 1) = zapp (I (8 + 37 * r + 20)) (I (8 + 37 * r + 20) i) (i + 1) k := by
              show (if _ then _ else if _ then _ else _) = _
              rw [if_neg h2, if_pos (Or.inr h4)]
            rw [e]; exact ih (i + 1) _ _ (by omega)
          · refine zx_c zd62_45 ?_
            refine zx_iret zd62_46 (Or.inr ⟨rfl, by first | exact Or.inl rfl | exact Or.inr rfl | assumption⟩) ?_
            have e : zapp (I (8 + 37 * r + 20)) w i (k + 1) = true := by
              show (if _ then _ else if _ then _ else _) = _
              rw [if_neg h2, if_neg (fun q => by rcases q with q | q; exact h3 q; exact h4 q)]
            rw [e]; exact ⟨rfl, rfl⟩
      · refine zx_goto zd62_31 ?_
        first | with_reducible refine zx_iin4 zd62_50 ?_ | refine zx_ii4 zd62_50 ?_
        refine zx_goto zd62_53 ?_
        have e : zapp (I (8 + 37 * r + 20)) w i (k + 1) = zapp (I (8 + 37 * r + 20)) w (i + 1) k := by
          show (if _ then _ else if _ then _ else _) = _
          rw [if_pos h2]
        rw [e]; exact ih (i + 1) _ _ (by omega)
theorem zc_app (hR : zRs R) (hN : 459 ≤ N) {r : Nat} (hr : r < 11) : zRet L 62 [.ref (8 + 37 * r)] (N, U, I, J, R) (some (.int (if zapp (I (8 + 37 * r + 20)) (-1) 0 16 = true then Int32.ofNat 1 else Int32.ofNat 0))) (N, U, I, J, R) := by
  show zW L 62 0 [some (.ref (8 + 37 * r)), none, none, none, none, none] [] _ _
  refine zx_c zd62_0 ?_
  refine zx_is1 zd62_1 rfl ?_
  refine zx_al0 zd62_2 ?_
  (refine' zx_gfA zd62_3 ?k71 ?r71 ?_); (case k71 => first | exact zkk rfl (by omega) | exact zkk (zK_B0 (by omega)) (by omega) | exact zkk ((zK_B (by omega) (by decide)).trans rfl) (by omega) | exact zkk (zK_row (by omega) (by omega)) (by omega) | exact zkk (zK_file (by omega) (by omega)) (by omega) | exact zkk (zK_byte (by omega) (by omega)) (by omega) | exact zkk (zK_list (by omega)) (by omega) | assumption); (case r71 => first | exact hR.1 _ _ _ rfl | exact hR.2.1 _ (by omega) | exact (hR.2.2.2 _ (by omega)).1.1 | exact (hR.2.2.2 _ (by omega)).1.2.1 | exact (hR.2.2.2 _ (by omega)).1.2.2 | exact (hR.2.2.2 _ (by omega)).2.1.1 | exact (hR.2.2.2 _ (by omega)).2.1.2 | exact (hR.2.2.2 _ (by omega)).2.2.1 _ (by omega) | exact (hR.2.2.2 _ (by omega)).2.2.2 _ (by omega) | exact hR.2.2.1 _ (by omega) | exact (hF _ (by omega)).1 | assumption)
  refine zx_as2 zd62_6 rfl ?_
  refine zx_al2 zd62_7 ?_
  (refine' zx_alen zd62_8 ?k74 ?_); (case k74 => first | exact zkk rfl (by omega) | exact zkk (zK_B0 (by omega)) (by omega) | exact zkk ((zK_B (by omega) (by decide)).trans rfl) (by omega) | exact zkk (zK_row (by omega) (by omega)) (by omega) | exact zkk (zK_file (by omega) (by omega)) (by omega) | exact zkk (zK_byte (by omega) (by omega)) (by omega) | exact zkk (zK_list (by omega)) (by omega) | assumption)
  refine zx_is3 zd62_9 rfl ?_
  refine zx_c zd62_10 ?_
  refine zx_is4 zd62_11 rfl ?_
  exact zc_app0 hN hr 16 0 (-1) none rfl
theorem zc_aprT1 (hN : 459 ≤ N) (hc : I 3 2 = Int32.ofNat c) {x y z : Int32} (hx : x < 0 ∨ ¬ x < Int32.ofNat c) : zThr L 60 [.ref 3, .int x, .int y, .int z] (N, U, I, J, R) (1, N) (N + 1, U + 6, I, J, R) := by
  show zW L 60 0 [some (.ref 3), some (.int x), some (.int y), some (.int z), none] [] _ _
  refine zx_al0 zd60_0 ?_
  refine zx_il1 zd60_1 ?_
  (refine zx_ct1v zd60_2 ?k80 (zc_crT hN hc hx) ?_); (case k80 => first | exact zkk rfl (by omega) | exact zkk (zK_B0 (by omega)) (by omega) | exact zkk ((zK_B (by omega) (by decide)).trans rfl) (by omega) | exact zkk (zK_row (by omega) (by omega)) (by omega) | exact zkk (zK_file (by omega) (by omega)) (by omega) | exact zkk (zK_byte (by omega) (by omega)) (by omega) | exact zkk (zK_list (by omega)) (by omega) | assumption)
  exact ⟨rfl, rfl, rfl⟩
theorem zc_aprT2 (hR : zRs R) (hN : 459 ≤ N) (hc : I 3 2 = Int32.ofNat c) (hc10 : c ≤ 10) {r : Nat} {y z : Int32} (hr : r < c) (hy : y < 0 ∨ ¬ y < Int32.ofNat 16 ∨ z < 0 ∨ ¬ z < Int32.ofNat 4) : zThr L 60 [.ref 3, .int (Int32.ofNat r), .int y, .int z] (N, U, I, J, R) (0, N) (N + 1, U + 6, I, J, R) := by
  show zW L 60 0 [some (.ref 3), some (.int (Int32.ofNat r)), some (.int y), some (.int z), none] [] _ _
  refine zx_al0 zd60_0 ?_
  refine zx_il1 zd60_1 ?_
  (refine zx_cv1R zd60_2 ?k83 (zc_cr hR hN hc hc10 hr) ?_); (case k83 => first | exact zkk rfl (by omega) | exact zkk (zK_B0 (by omega)) (by omega) | exact zkk ((zK_B (by omega) (by decide)).trans rfl) (by omega) | exact zkk (zK_row (by omega) (by omega)) (by omega) | exact zkk (zK_file (by omega) (by omega)) (by omega) | exact zkk (zK_byte (by omega) (by omega)) (by omega) | exact zkk (zK_list (by omega)) (by omega) | assumption)
  refine zx_as4 zd60_5 rfl ?_
  refine zx_il2 zd60_7 ?_
  first | ((with_reducible refine zx_ifltN zd60_8 ?s86 (fun h => ?_) (fun h => ?_)); (case s86 => omega)) | refine zx_iflt zd60_8 (fun h => ?_) (fun h => ?_)
  · refine zx_throw zd60_17 (zK_top (by omega)) rfl ?_
    exact ⟨rfl, rfl⟩
  · refine zx_il2 zd60_11 ?_
    refine zx_c zd60_12 ?_
    refine zx_icmplt zd60_14 (fun h2 => ?_) (fun h2 => ?_)
    · refine zx_il3 zd60_27 ?_
      first | ((with_reducible refine zx_ifltN zd60_28 ?s91 (fun h3 => ?_) (fun h3 => ?_)); (case s91 => omega)) | refine zx_iflt zd60_28 (fun h3 => ?_) (fun h3 => ?_)
      · refine zx_throw zd60_36 (zK_top (by omega)) rfl ?_
        exact ⟨rfl, rfl⟩
      · refine zx_il3 zd60_31 ?_
        refine zx_c zd60_32 ?_
        refine zx_icmplt zd60_33 (fun h4 => ?_) (fun h4 => ?_)
        · rcases hy with hy | hy | hy | hy
          · exact absurd hy h
          · exact absurd h2 hy
          · exact absurd hy h3
          · exact absurd h4 hy
        · refine zx_throw zd60_36 (zK_top (by omega)) rfl ?_
          exact ⟨rfl, rfl⟩
    · refine zx_throw zd60_17 (zK_top (by omega)) rfl ?_
      exact ⟨rfl, rfl⟩
theorem zc_apr (hR : zRs R) (hN : 459 ≤ N) (hc : I 3 2 = Int32.ofNat c) (hc10 : c ≤ 10) {r p w n : Nat} (hr : r < c) (hp : p < 16) (hw : w < 4) (hn : I 428 4 = Int32.ofNat n) (hn1 : n ≤ 100) :
    zRet L 60 [.ref 3, .int (Int32.ofNat r), .int (Int32.ofNat p), .int (Int32.ofNat w)] (N, U, I, J, R) (some (.int (if zapp (zup (I (8 + 37 * r + 20)) p (Int32.ofNat w)) (-1) 0 16 = true then Int32.ofNat 1 else Int32.ofNat 0)))
      (N, U, zrec0 (zu I (8 + 37 * r + 20) p (Int32.ofNat w)) n (Int32.ofNat r) (Int32.ofNat 0) (Int32.ofNat p) (Int32.ofNat w), J, R) := by
  show zW L 60 0 [some (.ref 3), some (.int (Int32.ofNat r)), some (.int (Int32.ofNat p)), some (.int (Int32.ofNat w)), none] [] _ _
  refine zx_al0 zd60_0 ?_
  refine zx_il1 zd60_1 ?_
  (refine zx_cv1R zd60_2 ?k99 (zc_cr hR hN hc hc10 hr) ?_); (case k99 => first | exact zkk rfl (by omega) | exact zkk (zK_B0 (by omega)) (by omega) | exact zkk ((zK_B (by omega) (by decide)).trans rfl) (by omega) | exact zkk (zK_row (by omega) (by omega)) (by omega) | exact zkk (zK_file (by omega) (by omega)) (by omega) | exact zkk (zK_byte (by omega) (by omega)) (by omega) | exact zkk (zK_list (by omega)) (by omega) | assumption)
  refine zx_as4 zd60_5 rfl ?_
  refine zx_il2 zd60_7 ?_
  first | ((with_reducible refine zx_ifltN zd60_8 ?s102 (fun h => ?_) (fun h => ?_)); (case s102 => omega)) | refine zx_iflt zd60_8 (fun h => ?_) (fun h => ?_)
  · omega
  · refine zx_il2 zd60_11 ?_
    refine zx_c zd60_12 ?_
    first | ((with_reducible refine zx_icmpltN zd60_14 ?s105 (fun h2 => ?_) (fun h2 => ?_)); (case s105 => omega)) | refine zx_icmplt zd60_14 (fun h2 => ?_) (fun h2 => ?_)
    · refine zx_il3 zd60_27 ?_
      first | ((with_reducible refine zx_ifltN zd60_28 ?s107 (fun h3 => ?_) (fun h3 => ?_)); (case s107 => omega)) | refine zx_iflt zd60_28 (fun h3 => ?_) (fun h3 => ?_)
      · omega
      · refine zx_il3 zd60_31 ?_
        refine zx_c zd60_32 ?_
        first | ((with_reducible refine zx_icmpltN zd60_33 ?s110 (fun h4 => ?_) (fun h4 => ?_)); (case s110 => omega)) | refine zx_icmplt zd60_33 (fun h4 => ?_) (fun h4 => ?_)
        · refine zx_al4 zd60_46 ?_
          (refine' zx_gfA zd60_48 ?k112 ?r112 ?_); (case k112 => first | exact zkk rfl (by omega) | exact zkk (zK_B0 (by omega)) (by omega) | exact zkk ((zK_B (by omega) (by decide)).trans rfl) (by omega) | exact zkk (zK_row (by omega) (by omega)) (by omega) | exact zkk (zK_file (by omega) (by omega)) (by omega) | exact zkk (zK_byte (by omega) (by omega)) (by omega) | exact zkk (zK_list (by omega)) (by omega) | assumption); (case r112 => first | exact hR.1 _ _ _ rfl | exact hR.2.1 _ (by omega) | exact (hR.2.2.2 _ (by omega)).1.1 | exact (hR.2.2.2 _ (by omega)).1.2.1 | exact (hR.2.2.2 _ (by omega)).1.2.2 | exact (hR.2.2.2 _ (by omega)).2.1.1 | exact (hR.2.2.2 _ (by omega)).2.1.2 | exact (hR.2.2.2 _ (by omega)).2.2.1 _ (by omega) | exact (hR.2.2.2 _ (by omega)).2.2.2 _ (by omega) | exact hR.2.2.1 _ (by omega) | exact (hF _ (by omega)).1 | assumption)
          refine zx_il2 zd60_51 ?_
          refine zx_il3 zd60_52 ?_
          (with_reducible refine' zx_iastN zd60_53 ?k115 ?j115 ?a115 ?_); (case k115 => first | exact zkk rfl (by omega) | exact zkk (zK_B0 (by omega)) (by omega) | exact zkk ((zK_B (by omega) (by decide)).trans rfl) (by omega) | exact zkk (zK_row (by omega) (by omega)) (by omega) | exact zkk (zK_file (by omega) (by omega)) (by omega) | exact zkk (zK_byte (by omega) (by omega)) (by omega) | exact zkk (zK_list (by omega)) (by omega) | assumption); (case j115 => omega); (case a115 => omega)
          refine zx_al0 zd60_54 ?_
          (refine' zx_gfO zd60_55 ?k117 ?r117 ?_); (case k117 => first | exact zkk rfl (by omega) | exact zkk (zK_B0 (by omega)) (by omega) | exact zkk ((zK_B (by omega) (by decide)).trans rfl) (by omega) | exact zkk (zK_row (by omega) (by omega)) (by omega) | exact zkk (zK_file (by omega) (by omega)) (by omega) | exact zkk (zK_byte (by omega) (by omega)) (by omega) | exact zkk (zK_list (by omega)) (by omega) | assumption); (case r117 => first | exact hR.1 _ _ _ rfl | exact hR.2.1 _ (by omega) | exact (hR.2.2.2 _ (by omega)).1.1 | exact (hR.2.2.2 _ (by omega)).1.2.1 | exact (hR.2.2.2 _ (by omega)).1.2.2 | exact (hR.2.2.2 _ (by omega)).2.1.1 | exact (hR.2.2.2 _ (by omega)).2.1.2 | exact (hR.2.2.2 _ (by omega)).2.2.1 _ (by omega) | exact (hR.2.2.2 _ (by omega)).2.2.2 _ (by omega) | exact hR.2.2.1 _ (by omega) | exact (hF _ (by omega)).1 | assumption)
          refine zx_il1 zd60_58 ?_
          refine zx_c zd60_59 ?_
          refine zx_il2 zd60_60 ?_
          refine zx_il3 zd60_61 ?_
          have hn' : zu I (8 + 37 * r + 20) p (Int32.ofNat w) 428 4 = Int32.ofNat n := by rw [← hn]; exact if_neg (by omega)
          (refine zx_cv4V zd60_62 ?k122 (zc_rec hR hN hn' hn1 _ _ _ _) ?_); (case k122 => first | exact zkk rfl (by omega) | exact zkk (zK_B0 (by omega)) (by omega) | exact zkk ((zK_B (by omega) (by decide)).trans rfl) (by omega) | exact zkk (zK_row (by omega) (by omega)) (by omega) | exact zkk (zK_file (by omega) (by omega)) (by omega) | exact zkk (zK_byte (by omega) (by omega)) (by omega) | exact zkk (zK_list (by omega)) (by omega) | assumption)
          refine zx_al4 zd60_65 ?_
          (refine zx_cv0I zd60_67 ?k124 (zc_app hR hN (by omega)) ?_); (case k124 => first | exact zkk rfl (by omega) | exact zkk (zK_B0 (by omega)) (by omega) | exact zkk ((zK_B (by omega) (by decide)).trans rfl) (by omega) | exact zkk (zK_row (by omega) (by omega)) (by omega) | exact zkk (zK_file (by omega) (by omega)) (by omega) | exact zkk (zK_byte (by omega) (by omega)) (by omega) | exact zkk (zK_list (by omega)) (by omega) | assumption)
          have e : zrec0 (zu I (8 + 37 * r + 20) p (Int32.ofNat w)) n (Int32.ofNat r) (Int32.ofNat 0) (Int32.ofNat p) (Int32.ofNat w) (8 + 37 * r + 20) = zup (I (8 + 37 * r + 20)) p (Int32.ofNat w) := by
            unfold zrec0 zrec
            split
            · rw [zu_rw, zrw_ne _ _ (by omega), zu_rw, zrw_ne _ _ (by omega), zu_rw, zrw_ne _ _ (by omega), zu_rw, zrw_ne _ _ (by omega), zu_rw, zrw_ne _ _ (by omega), zu_rw, zrw_at]
            · rw [zu_rw, zrw_at]
          rw [e]
          cases hz : zapp (zup (I (8 + 37 * r + 20)) p (Int32.ofNat w)) (-1) 0 16 with
          | true =>
            rw [if_pos rfl]
            first | ((with_reducible refine zx_ifeqN zd60_70 ?s125 (fun h5 => ?_) (fun h5 => ?_)); (case s125 => omega)) | refine zx_ifeq zd60_70 (fun h5 => ?_) (fun h5 => ?_)
            · omega
            · refine zx_c zd60_73 ?_
              refine zx_goto zd60_74 ?_
              refine zx_iret zd60_78 (Or.inl rfl) ?_
              exact ⟨rfl, rfl⟩
          | false =>
            rw [if_neg (by decide)]
            first | ((with_reducible refine zx_ifeqN zd60_70 ?s129 (fun h5 => ?_) (fun h5 => ?_)); (case s129 => omega)) | refine zx_ifeq zd60_70 (fun h5 => ?_) (fun h5 => ?_)
            · refine zx_c zd60_77 ?_
              refine zx_iret zd60_78 (Or.inl rfl) ?_
              exact ⟨rfl, rfl⟩
            · omega
        · omega
    · omega
theorem zc_wdT (hN : 459 ≤ N) (hc : I 3 2 = Int32.ofNat c) {x : Int32} (hx : x < 0 ∨ ¬ x < Int32.ofNat c) : zThr L 64 [.ref 3, .int x] (N, U, I, J, R) (1, N) (N + 1, U + 6, I, J, R) := by
  show zW L 64 0 [some (.ref 3), some (.int x), none] [] _ _
  refine zx_al0 zd64_0 ?_
  refine zx_il1 zd64_1 ?_
  (refine zx_ct1v zd64_2 ?k134 (zc_crT hN hc hx) ?_); (case k134 => first | exact zkk rfl (by omega) | exact zkk (zK_B0 (by omega)) (by omega) | exact zkk ((zK_B (by omega) (by decide)).trans rfl) (by omega) | exact zkk (zK_row (by omega) (by omega)) (by omega) | exact zkk (zK_file (by omega) (by omega)) (by omega) | exact zkk (zK_byte (by omega) (by omega)) (by omega) | exact zkk (zK_list (by omega)) (by omega) | assumption)
  exact ⟨rfl, rfl, rfl⟩
theorem zc_wdN (hR : zRs R) (hN : 459 ≤ N) (hc : I 3 2 = Int32.ofNat c) (hc10 : c ≤ 10) {r : Nat} (hr : r < c) (hw : I (8 + 37 * r) 4 = Int32.ofNat 1) : zRet L 64 [.ref 3, .int (Int32.ofNat r)] (N, U, I, J, R) (some (.int (-1))) (N, U, I, J, R) := by
  show zW L 64 0 [some (.ref 3), some (.int (Int32.ofNat r)), none] [] _ _
  refine zx_al0 zd64_0 ?_
  refine zx_il1 zd64_1 ?_
  (refine zx_cv1R zd64_2 ?k137 (zc_cr hR hN hc hc10 hr) ?_); (case k137 => first | exact zkk rfl (by omega) | exact zkk (zK_B0 (by omega)) (by omega) | exact zkk ((zK_B (by omega) (by decide)).trans rfl) (by omega) | exact zkk (zK_row (by omega) (by omega)) (by omega) | exact zkk (zK_file (by omega) (by omega)) (by omega) | exact zkk (zK_byte (by omega) (by omega)) (by omega) | exact zkk (zK_list (by omega)) (by omega) | assumption)
  refine zx_as2 zd64_5 rfl ?_
  refine zx_al2 zd64_6 ?_
  (refine zx_gfZ zd64_7 ?k140 ?_); (case k140 => first | exact zkk rfl (by omega) | exact zkk (zK_B0 (by omega)) (by omega) | exact zkk ((zK_B (by omega) (by decide)).trans rfl) (by omega) | exact zkk (zK_row (by omega) (by omega)) (by omega) | exact zkk (zK_file (by omega) (by omega)) (by omega) | exact zkk (zK_byte (by omega) (by omega)) (by omega) | exact zkk (zK_list (by omega)) (by omega) | assumption)
  rw [hw]
  first | ((with_reducible refine zx_ifeqN zd64_10 ?s141 (fun h => ?_) (fun h => ?_)); (case s141 => omega)) | refine zx_ifeq zd64_10 (fun h => ?_) (fun h => ?_)
  · omega
  · refine zx_c zd64_13 ?_
    refine zx_iret zd64_14 (Or.inl rfl) ?_
    exact ⟨rfl, rfl⟩
theorem zc_wd (hR : zRs R) (hN : 459 ≤ N) (hc : I 3 2 = Int32.ofNat c) (hc10 : c ≤ 10) {r n : Nat} (hr : r < c) (hw : I (8 + 37 * r) 4 = Int32.ofNat 0) (hn : I 428 4 = Int32.ofNat n) (hn1 : n ≤ 100) :
    zRet L 64 [.ref 3, .int (Int32.ofNat r)] (N, U, I, J, R) (some (.int (I 3 4 + Int32.ofNat 1))) (N, U, zrec0 (zu (zu I (8 + 37 * r) 4 (Int32.ofNat 1)) 3 4 (I 3 4 + Int32.ofNat 1)) n (Int32.ofNat r) (Int32.ofNat 2) (-1) (-1), J, R) := by
  show zW L 64 0 [some (.ref 3), some (.int (Int32.ofNat r)), none] [] _ _
  refine zx_al0 zd64_0 ?_
  refine zx_il1 zd64_1 ?_
  (refine zx_cv1R zd64_2 ?k146 (zc_cr hR hN hc hc10 hr) ?_); (case k146 => first | exact zkk rfl (by omega) | exact zkk (zK_B0 (by omega)) (by omega) | exact zkk ((zK_B (by omega) (by decide)).trans rfl) (by omega) | exact zkk (zK_row (by omega) (by omega)) (by omega) | exact zkk (zK_file (by omega) (by omega)) (by omega) | exact zkk (zK_byte (by omega) (by omega)) (by omega) | exact zkk (zK_list (by omega)) (by omega) | assumption)
  refine zx_as2 zd64_5 rfl ?_
  refine zx_al2 zd64_6 ?_
  (refine zx_gfZ zd64_7 ?k149 ?_); (case k149 => first | exact zkk rfl (by omega) | exact zkk (zK_B0 (by omega)) (by omega) | exact zkk ((zK_B (by omega) (by decide)).trans rfl) (by omega) | exact zkk (zK_row (by omega) (by omega)) (by omega) | exact zkk (zK_file (by omega) (by omega)) (by omega) | exact zkk (zK_byte (by omega) (by omega)) (by omega) | exact zkk (zK_list (by omega)) (by omega) | assumption)
  rw [hw]
  first | ((with_reducible refine zx_ifeqN zd64_10 ?s150 (fun h => ?_) (fun h => ?_)); (case s150 => omega)) | refine zx_ifeq zd64_10 (fun h => ?_) (fun h => ?_)
  · refine zx_al2 zd64_15 ?_
    refine zx_c zd64_16 ?_
    (refine zx_pfZ zd64_17 ?k153 ?a153 ?v153 ?_); (case k153 => first | exact zkk rfl (by omega) | exact zkk (zK_B0 (by omega)) (by omega) | exact zkk ((zK_B (by omega) (by decide)).trans rfl) (by omega) | exact zkk (zK_row (by omega) (by omega)) (by omega) | exact zkk (zK_file (by omega) (by omega)) (by omega) | exact zkk (zK_byte (by omega) (by omega)) (by omega) | exact zkk (zK_list (by omega)) (by omega) | assumption); (case a153 => omega); (case v153 => first | exact Or.inl rfl | exact Or.inr rfl | assumption)
    refine zx_al0 zd64_20 ?_
    first | refine zx_dupR zd64_21 ?_ | refine zx_dupI zd64_21 ?_
    (refine zx_gfI zd64_22 ?k156 ?_); (case k156 => first | exact zkk rfl (by omega) | exact zkk (zK_B0 (by omega)) (by omega) | exact zkk ((zK_B (by omega) (by decide)).trans rfl) (by omega) | exact zkk (zK_row (by omega) (by omega)) (by omega) | exact zkk (zK_file (by omega) (by omega)) (by omega) | exact zkk (zK_byte (by omega) (by omega)) (by omega) | exact zkk (zK_list (by omega)) (by omega) | assumption)
    rw [show zu I (8 + 37 * r) 4 (Int32.ofNat 1) 3 4 = I 3 4 from if_neg (by omega)]
    refine zx_c zd64_25 ?_
    refine zx_add zd64_26 ?_
    (refine zx_pfI zd64_27 ?k157 ?a157 ?_); (case k157 => first | exact zkk rfl (by omega) | exact zkk (zK_B0 (by omega)) (by omega) | exact zkk ((zK_B (by omega) (by decide)).trans rfl) (by omega) | exact zkk (zK_row (by omega) (by omega)) (by omega) | exact zkk (zK_file (by omega) (by omega)) (by omega) | exact zkk (zK_byte (by omega) (by omega)) (by omega) | exact zkk (zK_list (by omega)) (by omega) | assumption); (case a157 => omega)
    refine zx_al0 zd64_30 ?_
    (refine' zx_gfO zd64_31 ?k159 ?r159 ?_); (case k159 => first | exact zkk rfl (by omega) | exact zkk (zK_B0 (by omega)) (by omega) | exact zkk ((zK_B (by omega) (by decide)).trans rfl) (by omega) | exact zkk (zK_row (by omega) (by omega)) (by omega) | exact zkk (zK_file (by omega) (by omega)) (by omega) | exact zkk (zK_byte (by omega) (by omega)) (by omega) | exact zkk (zK_list (by omega)) (by omega) | assumption); (case r159 => first | exact hR.1 _ _ _ rfl | exact hR.2.1 _ (by omega) | exact (hR.2.2.2 _ (by omega)).1.1 | exact (hR.2.2.2 _ (by omega)).1.2.1 | exact (hR.2.2.2 _ (by omega)).1.2.2 | exact (hR.2.2.2 _ (by omega)).2.1.1 | exact (hR.2.2.2 _ (by omega)).2.1.2 | exact (hR.2.2.2 _ (by omega)).2.2.1 _ (by omega) | exact (hR.2.2.2 _ (by omega)).2.2.2 _ (by omega) | exact hR.2.2.1 _ (by omega) | exact (hF _ (by omega)).1 | assumption)
    refine zx_il1 zd64_34 ?_
    refine zx_c zd64_35 ?_
    refine zx_c zd64_36 ?_
    refine zx_c zd64_37 ?_
    have hn' : zu (zu I (8 + 37 * r) 4 (Int32.ofNat 1)) 3 4 (I 3 4 + Int32.ofNat 1) 428 4 = Int32.ofNat n := by
      rw [← hn, zu_rw, zrw_ne _ _ (by decide), zu_rw, zrw_ne _ _ (by omega)]
    (refine zx_cv4V zd64_38 ?k164 (zc_rec hR hN hn' hn1 _ _ _ _) ?_); (case k164 => first | exact zkk rfl (by omega) | exact zkk (zK_B0 (by omega)) (by omega) | exact zkk ((zK_B (by omega) (by decide)).trans rfl) (by omega) | exact zkk (zK_row (by omega) (by omega)) (by omega) | exact zkk (zK_file (by omega) (by omega)) (by omega) | exact zkk (zK_byte (by omega) (by omega)) (by omega) | exact zkk (zK_list (by omega)) (by omega) | assumption)
    refine zx_al0 zd64_41 ?_
    (refine zx_gfI zd64_42 ?k166 ?_); (case k166 => first | exact zkk rfl (by omega) | exact zkk (zK_B0 (by omega)) (by omega) | exact zkk ((zK_B (by omega) (by decide)).trans rfl) (by omega) | exact zkk (zK_row (by omega) (by omega)) (by omega) | exact zkk (zK_file (by omega) (by omega)) (by omega) | exact zkk (zK_byte (by omega) (by omega)) (by omega) | exact zkk (zK_list (by omega)) (by omega) | assumption)
    have e : zrec0 (zu (zu I (8 + 37 * r) 4 (Int32.ofNat 1)) 3 4 (I 3 4 + Int32.ofNat 1)) n (Int32.ofNat r) (Int32.ofNat 2) (-1) (-1) 3 4 = I 3 4 + Int32.ofNat 1 := by
      unfold zrec0 zrec
      split <;> rfl
    rw [e]
    refine zx_iret zd64_45 (Or.inl rfl) ?_
    exact ⟨rfl, rfl⟩
  · omega
theorem zc_srT (hN : 459 ≤ N) (hc : I 3 2 = Int32.ofNat c) {x : Int32} (hx : x < 0 ∨ ¬ x < Int32.ofNat c) : zThr L 66 [.ref 3, .int x] (N, U, I, J, R) (1, N) (N + 1, U + 6, I, J, R) := by
  show zW L 66 0 [some (.ref 3), some (.int x), none, none] [] _ _
  refine zx_al0 zd66_0 ?_
  refine zx_il1 zd66_1 ?_
  (refine zx_ct1v zd66_2 ?k170 (zc_crT hN hc hx) ?_); (case k170 => first | exact zkk rfl (by omega) | exact zkk (zK_B0 (by omega)) (by omega) | exact zkk ((zK_B (by omega) (by decide)).trans rfl) (by omega) | exact zkk (zK_row (by omega) (by omega)) (by omega) | exact zkk (zK_file (by omega) (by omega)) (by omega) | exact zkk (zK_byte (by omega) (by omega)) (by omega) | exact zkk (zK_list (by omega)) (by omega) | assumption)
  exact ⟨rfl, rfl, rfl⟩
theorem zc_srN (hR : zRs R) (hN : 459 ≤ N) (hc : I 3 2 = Int32.ofNat c) (hc10 : c ≤ 10) {r n s : Nat} (hr : r < c) (hn : I (8 + 37 * r) 4 = Int32.ofNat n) (hn1 : n ≤ 1) (hs : I 3 6 = Int32.ofNat s) (hs1 : s ≤ 60) (hx : n = 1 ∨ zapp (I (8 + 37 * r + 20)) (-1) 0 16 = false ∨ s = 60) : zRet L 66 [.ref 3, .int (Int32.ofNat r)] (N, U, I, J, R) (some (.int (-1))) (N, U, I, J, R) := by
  show zW L 66 0 [some (.ref 3), some (.int (Int32.ofNat r)), none, none] [] _ _
  refine zx_al0 zd66_0 ?_
  refine zx_il1 zd66_1 ?_
  (refine zx_cv1R zd66_2 ?k173 (zc_cr hR hN hc hc10 hr) ?_); (case k173 => first | exact zkk rfl (by omega) | exact zkk (zK_B0 (by omega)) (by omega) | exact zkk ((zK_B (by omega) (by decide)).trans rfl) (by omega) | exact zkk (zK_row (by omega) (by omega)) (by omega) | exact zkk (zK_file (by omega) (by omega)) (by omega) | exact zkk (zK_byte (by omega) (by omega)) (by omega) | exact zkk (zK_list (by omega)) (by omega) | assumption)
  refine zx_as2 zd66_5 rfl ?_
  refine zx_al2 zd66_6 ?_
  (refine zx_gfZ zd66_7 ?k176 ?_); (case k176 => first | exact zkk rfl (by omega) | exact zkk (zK_B0 (by omega)) (by omega) | exact zkk ((zK_B (by omega) (by decide)).trans rfl) (by omega) | exact zkk (zK_row (by omega) (by omega)) (by omega) | exact zkk (zK_file (by omega) (by omega)) (by omega) | exact zkk (zK_byte (by omega) (by omega)) (by omega) | exact zkk (zK_list (by omega)) (by omega) | assumption)
  rw [hn]
  first | ((with_reducible refine zx_ifneN zd66_10 ?s177 (fun h => ?_) (fun h => ?_)); (case s177 => omega)) | refine zx_ifne zd66_10 (fun h => ?_) (fun h => ?_)
  · refine zx_c zd66_29 ?_
    refine zx_iret zd66_30 (Or.inl rfl) ?_
    exact ⟨rfl, rfl⟩
  · refine zx_al2 zd66_13 ?_
    (refine zx_cv0I zd66_14 ?k181 (zc_app hR hN (by omega)) ?_); (case k181 => first | exact zkk rfl (by omega) | exact zkk (zK_B0 (by omega)) (by omega) | exact zkk ((zK_B (by omega) (by decide)).trans rfl) (by omega) | exact zkk (zK_row (by omega) (by omega)) (by omega) | exact zkk (zK_file (by omega) (by omega)) (by omega) | exact zkk (zK_byte (by omega) (by omega)) (by omega) | exact zkk (zK_list (by omega)) (by omega) | assumption)
    cases hz : zapp (I (8 + 37 * r + 20)) (-1) 0 16 with
    | true =>
      rw [if_pos rfl]
      first | ((with_reducible refine zx_ifeqN zd66_17 ?s182 (fun h5 => ?_) (fun h5 => ?_)); (case s182 => omega)) | refine zx_ifeq zd66_17 (fun h5 => ?_) (fun h5 => ?_)
      · omega
      · refine zx_al0 zd66_20 ?_
        (refine zx_gfI zd66_21 ?k184 ?_); (case k184 => first | exact zkk rfl (by omega) | exact zkk (zK_B0 (by omega)) (by omega) | exact zkk ((zK_B (by omega) (by decide)).trans rfl) (by omega) | exact zkk (zK_row (by omega) (by omega)) (by omega) | exact zkk (zK_file (by omega) (by omega)) (by omega) | exact zkk (zK_byte (by omega) (by omega)) (by omega) | exact zkk (zK_list (by omega)) (by omega) | assumption)
        rw [hs]
        refine zx_c zd66_24 ?_
        first | ((with_reducible refine zx_icmpltN zd66_26 ?s186 (fun h6 => ?_) (fun h6 => ?_)); (case s186 => omega)) | refine zx_icmplt zd66_26 (fun h6 => ?_) (fun h6 => ?_)
        · rcases hx with hx | hx | hx
          · omega
          · rw [hz] at hx; cases hx
          · omega
        · refine zx_c zd66_29 ?_
          refine zx_iret zd66_30 (Or.inl rfl) ?_
          exact ⟨rfl, rfl⟩
    | false =>
      rw [if_neg (by decide)]
      first | ((with_reducible refine zx_ifeqN zd66_17 ?s189 (fun h5 => ?_) (fun h5 => ?_)); (case s189 => omega)) | refine zx_ifeq zd66_17 (fun h5 => ?_) (fun h5 => ?_)
      · refine zx_c zd66_29 ?_
        refine zx_iret zd66_30 (Or.inl rfl) ?_
        exact ⟨rfl, rfl⟩
      · omega
theorem zc_sr (hR : zRs R) (hN : 459 ≤ N) (hc : I 3 2 = Int32.ofNat c) (hc10 : c ≤ 10) {r s n : Nat} (hr : r < c) (hw : I (8 + 37 * r) 4 = Int32.ofNat 0) (hs : I 3 6 = Int32.ofNat s) (hs1 : s < 60) (hx : zapp (I (8 + 37 * r + 20)) (-1) 0 16 = true) (hn : I 428 4 = Int32.ofNat n) (hn1 : n ≤ 100) :
    zRet L 66 [.ref 3, .int (Int32.ofNat r)] (N, U, I, J, R) (some (.int (Int32.ofNat s))) (N, U, zrec0 (zu (zu I 427 s (Int32.ofNat r)) 3 6 (Int32.ofNat (s + 1))) n (Int32.ofNat r) (Int32.ofNat 1) (Int32.ofNat s) (-1), J, R) := by
  show zW L 66 0 [some (.ref 3), some (.int (Int32.ofNat r)), none, none] [] _ _
  refine zx_al0 zd66_0 ?_
  refine zx_il1 zd66_1 ?_
  (refine zx_cv1R zd66_2 ?k194 (zc_cr hR hN hc hc10 hr) ?_); (case k194 => first | exact zkk rfl (by omega) | exact zkk (zK_B0 (by omega)) (by omega) | exact zkk ((zK_B (by omega) (by decide)).trans rfl) (by omega) | exact zkk (zK_row (by omega) (by omega)) (by omega) | exact zkk (zK_file (by omega) (by omega)) (by omega) | exact zkk (zK_byte (by omega) (by omega)) (by omega) | exact zkk (zK_list (by omega)) (by omega) | assumption)
  refine zx_as2 zd66_5 rfl ?_
  refine zx_al2 zd66_6 ?_
  (refine zx_gfZ zd66_7 ?k197 ?_); (case k197 => first | exact zkk rfl (by omega) | exact zkk (zK_B0 (by omega)) (by omega) | exact zkk ((zK_B (by omega) (by decide)).trans rfl) (by omega) | exact zkk (zK_row (by omega) (by omega)) (by omega) | exact zkk (zK_file (by omega) (by omega)) (by omega) | exact zkk (zK_byte (by omega) (by omega)) (by omega) | exact zkk (zK_list (by omega)) (by omega) | assumption)
  rw [hw]
  first | ((with_reducible refine zx_ifneN zd66_10 ?s198 (fun h => ?_) (fun h => ?_)); (case s198 => omega)) | refine zx_ifne zd66_10 (fun h => ?_) (fun h => ?_)
  · omega
  · refine zx_al2 zd66_13 ?_
    (refine zx_cv0I zd66_14 ?k200 (zc_app hR hN (by omega)) ?_); (case k200 => first | exact zkk rfl (by omega) | exact zkk (zK_B0 (by omega)) (by omega) | exact zkk ((zK_B (by omega) (by decide)).trans rfl) (by omega) | exact zkk (zK_row (by omega) (by omega)) (by omega) | exact zkk (zK_file (by omega) (by omega)) (by omega) | exact zkk (zK_byte (by omega) (by omega)) (by omega) | exact zkk (zK_list (by omega)) (by omega) | assumption)
    rw [hx, if_pos rfl]
    first | ((with_reducible refine zx_ifeqN zd66_17 ?s201 (fun h5 => ?_) (fun h5 => ?_)); (case s201 => omega)) | refine zx_ifeq zd66_17 (fun h5 => ?_) (fun h5 => ?_)
    · omega
    · refine zx_al0 zd66_20 ?_
      (refine zx_gfI zd66_21 ?k203 ?_); (case k203 => first | exact zkk rfl (by omega) | exact zkk (zK_B0 (by omega)) (by omega) | exact zkk ((zK_B (by omega) (by decide)).trans rfl) (by omega) | exact zkk (zK_row (by omega) (by omega)) (by omega) | exact zkk (zK_file (by omega) (by omega)) (by omega) | exact zkk (zK_byte (by omega) (by omega)) (by omega) | exact zkk (zK_list (by omega)) (by omega) | assumption)
      rw [hs]
      refine zx_c zd66_24 ?_
      first | ((with_reducible refine zx_icmpltN zd66_26 ?s205 (fun h6 => ?_) (fun h6 => ?_)); (case s205 => omega)) | refine zx_icmplt zd66_26 (fun h6 => ?_) (fun h6 => ?_)
      · refine zx_al0 zd66_31 ?_
        (refine zx_gfI zd66_32 ?k207 ?_); (case k207 => first | exact zkk rfl (by omega) | exact zkk (zK_B0 (by omega)) (by omega) | exact zkk ((zK_B (by omega) (by decide)).trans rfl) (by omega) | exact zkk (zK_row (by omega) (by omega)) (by omega) | exact zkk (zK_file (by omega) (by omega)) (by omega) | exact zkk (zK_byte (by omega) (by omega)) (by omega) | exact zkk (zK_list (by omega)) (by omega) | assumption)
        rw [hs]
        refine zx_is3 zd66_35 rfl ?_
        refine zx_al0 zd66_36 ?_
        (refine' zx_gfA zd66_37 ?k210 ?r210 ?_); (case k210 => first | exact zkk rfl (by omega) | exact zkk (zK_B0 (by omega)) (by omega) | exact zkk ((zK_B (by omega) (by decide)).trans rfl) (by omega) | exact zkk (zK_row (by omega) (by omega)) (by omega) | exact zkk (zK_file (by omega) (by omega)) (by omega) | exact zkk (zK_byte (by omega) (by omega)) (by omega) | exact zkk (zK_list (by omega)) (by omega) | assumption); (case r210 => first | exact hR.1 _ _ _ rfl | exact hR.2.1 _ (by omega) | exact (hR.2.2.2 _ (by omega)).1.1 | exact (hR.2.2.2 _ (by omega)).1.2.1 | exact (hR.2.2.2 _ (by omega)).1.2.2 | exact (hR.2.2.2 _ (by omega)).2.1.1 | exact (hR.2.2.2 _ (by omega)).2.1.2 | exact (hR.2.2.2 _ (by omega)).2.2.1 _ (by omega) | exact (hR.2.2.2 _ (by omega)).2.2.2 _ (by omega) | exact hR.2.2.1 _ (by omega) | exact (hF _ (by omega)).1 | assumption)
        refine zx_il3 zd66_40 ?_
        refine zx_il1 zd66_41 ?_
        (with_reducible refine' zx_iastN zd66_42 ?k213 ?j213 ?a213 ?_); (case k213 => first | exact zkk rfl (by omega) | exact zkk (zK_B0 (by omega)) (by omega) | exact zkk ((zK_B (by omega) (by decide)).trans rfl) (by omega) | exact zkk (zK_row (by omega) (by omega)) (by omega) | exact zkk (zK_file (by omega) (by omega)) (by omega) | exact zkk (zK_byte (by omega) (by omega)) (by omega) | exact zkk (zK_list (by omega)) (by omega) | assumption); (case j213 => omega); (case a213 => omega)
        refine zx_al0 zd66_43 ?_
        refine zx_il3 zd66_44 ?_
        refine zx_c zd66_45 ?_
        first | with_reducible refine zx_addN zd66_46 ?_ | refine zx_add zd66_46 ?_
        (refine zx_pfI zd66_47 ?k218 ?a218 ?_); (case k218 => first | exact zkk rfl (by omega) | exact zkk (zK_B0 (by omega)) (by omega) | exact zkk ((zK_B (by omega) (by decide)).trans rfl) (by omega) | exact zkk (zK_row (by omega) (by omega)) (by omega) | exact zkk (zK_file (by omega) (by omega)) (by omega) | exact zkk (zK_byte (by omega) (by omega)) (by omega) | exact zkk (zK_list (by omega)) (by omega) | assumption); (case a218 => omega)
        refine zx_al0 zd66_50 ?_
        (refine' zx_gfO zd66_51 ?k220 ?r220 ?_); (case k220 => first | exact zkk rfl (by omega) | exact zkk (zK_B0 (by omega)) (by omega) | exact zkk ((zK_B (by omega) (by decide)).trans rfl) (by omega) | exact zkk (zK_row (by omega) (by omega)) (by omega) | exact zkk (zK_file (by omega) (by omega)) (by omega) | exact zkk (zK_byte (by omega) (by omega)) (by omega) | exact zkk (zK_list (by omega)) (by omega) | assumption); (case r220 => first | exact hR.1 _ _ _ rfl | exact hR.2.1 _ (by omega) | exact (hR.2.2.2 _ (by omega)).1.1 | exact (hR.2.2.2 _ (by omega)).1.2.1 | exact (hR.2.2.2 _ (by omega)).1.2.2 | exact (hR.2.2.2 _ (by omega)).2.1.1 | exact (hR.2.2.2 _ (by omega)).2.1.2 | exact (hR.2.2.2 _ (by omega)).2.2.1 _ (by omega) | exact (hR.2.2.2 _ (by omega)).2.2.2 _ (by omega) | exact hR.2.2.1 _ (by omega) | exact (hF _ (by omega)).1 | assumption)
        refine zx_il1 zd66_54 ?_
        refine zx_c zd66_55 ?_
        refine zx_il3 zd66_56 ?_
        refine zx_c zd66_57 ?_
        have hn' : zu (zu I 427 s (Int32.ofNat r)) 3 6 (Int32.ofNat (s + 1)) 428 4 = Int32.ofNat n := by rw [← hn]; rfl
        (refine zx_cv4V zd66_58 ?k225 (zc_rec hR hN hn' hn1 _ _ _ _) ?_); (case k225 => first | exact zkk rfl (by omega) | exact zkk (zK_B0 (by omega)) (by omega) | exact zkk ((zK_B (by omega) (by decide)).trans rfl) (by omega) | exact zkk (zK_row (by omega) (by omega)) (by omega) | exact zkk (zK_file (by omega) (by omega)) (by omega) | exact zkk (zK_byte (by omega) (by omega)) (by omega) | exact zkk (zK_list (by omega)) (by omega) | assumption)
        refine zx_il3 zd66_61 ?_
        refine zx_iret zd66_62 (Or.inl rfl) ?_
        exact ⟨rfl, rfl⟩
      · omega
/-- the log's find and tell -/
theorem zc_find0 (hR : zRs R) (hN : 459 ≤ N) {n : Nat} (hn : I 428 4 = Int32.ofNat n) (hn1 : n ≤ 100) (x : Int32) {kk : Nat} (hk : kk < 2147483648) : ∀ (k i q : Nat), i + k = n → q ≤ i → q ≤ kk →
    zW L 69 5 [some (.ref 428), some (.int x), some (.int (Int32.ofNat kk)), some (.int (Int32.ofNat q)), some (.int (Int32.ofNat i))] [] (N, U, I, J, R) (fun o h => o = .inl (some (.int (zfi (zevf (I 429) x (kk - q) i k)))) ∧ h = (N, U, I, J, R)) := by
  intro k
  induction k with
  | zero =>
    intro i q hi hq hqk
    refine zx_il4 zd69_5 ?_
    refine zx_al0 zd69_7 ?_
    (refine zx_gfI zd69_8 ?k230 ?_); (case k230 => first | exact zkk rfl (by omega) | exact zkk (zK_B0 (by omega)) (by omega) | exact zkk ((zK_B (by omega) (by decide)).trans rfl) (by omega) | exact zkk (zK_row (by omega) (by omega)) (by omega) | exact zkk (zK_file (by omega) (by omega)) (by omega) | exact zkk (zK_byte (by omega) (by omega)) (by omega) | exact zkk (zK_list (by omega)) (by omega) | assumption)
    rw [hn]
    first | ((with_reducible refine zx_icmpgeN zd69_11 ?s231 (fun h => ?_) (fun h => ?_)); (case s231 => omega)) | refine zx_icmpge zd69_11 (fun h => ?_) (fun h => ?_)
    · refine zx_c zd69_42 ?_
      refine zx_iret zd69_43 (Or.inl rfl) ?_
      exact ⟨rfl, rfl⟩
    · omega
  | succ k ih =>
    intro i q hi hq hqk
    refine zx_il4 zd69_5 ?_
    refine zx_al0 zd69_7 ?_
    (refine zx_gfI zd69_8 ?k236 ?_); (case k236 => first | exact zkk rfl (by omega) | exact zkk (zK_B0 (by omega)) (by omega) | exact zkk ((zK_B (by omega) (by decide)).trans rfl) (by omega) | exact zkk (zK_row (by omega) (by omega)) (by omega) | exact zkk (zK_file (by omega) (by omega)) (by omega) | exact zkk (zK_byte (by omega) (by omega)) (by omega) | exact zkk (zK_list (by omega)) (by omega) | assumption)
    rw [hn]
    first | ((with_reducible refine zx_icmpgeN zd69_11 ?s237 (fun h => ?_) (fun h => ?_)); (case s237 => omega)) | refine zx_icmpge zd69_11 (fun h => ?_) (fun h => ?_)
    · omega
    · refine zx_al0 zd69_14 ?_
      (refine' zx_gfA zd69_15 ?k239 ?r239 ?_); (case k239 => first | exact zkk rfl (by omega) | exact zkk (zK_B0 (by omega)) (by omega) | exact zkk ((zK_B (by omega) (by decide)).trans rfl) (by omega) | exact zkk (zK_row (by omega) (by omega)) (by omega) | exact zkk (zK_file (by omega) (by omega)) (by omega) | exact zkk (zK_byte (by omega) (by omega)) (by omega) | exact zkk (zK_list (by omega)) (by omega) | assumption); (case r239 => first | exact hR.1 _ _ _ rfl | exact hR.2.1 _ (by omega) | exact (hR.2.2.2 _ (by omega)).1.1 | exact (hR.2.2.2 _ (by omega)).1.2.1 | exact (hR.2.2.2 _ (by omega)).1.2.2 | exact (hR.2.2.2 _ (by omega)).2.1.1 | exact (hR.2.2.2 _ (by omega)).2.1.2 | exact (hR.2.2.2 _ (by omega)).2.2.1 _ (by omega) | exact (hR.2.2.2 _ (by omega)).2.2.2 _ (by omega) | exact hR.2.2.1 _ (by omega) | exact (hF _ (by omega)).1 | assumption)
      refine zx_il4 zd69_18 ?_
      (with_reducible refine' zx_ialdN zd69_20 ?k241 ?j241 ?_); (case k241 => first | exact zkk rfl (by omega) | exact zkk (zK_B0 (by omega)) (by omega) | exact zkk ((zK_B (by omega) (by decide)).trans rfl) (by omega) | exact zkk (zK_row (by omega) (by omega)) (by omega) | exact zkk (zK_file (by omega) (by omega)) (by omega) | exact zkk (zK_byte (by omega) (by omega)) (by omega) | exact zkk (zK_list (by omega)) (by omega) | assumption); (case j241 => omega)
      refine zx_il1 zd69_21 ?_
      refine zx_icmpne zd69_22 (fun h2 => ?_) (fun h2 => ?_)
      · first | with_reducible refine zx_iin4 zd69_36 ?_ | refine zx_ii4 zd69_36 ?_
        refine zx_goto zd69_39 ?_
        have e : zevf (I 429) x (kk - q) i (k + 1) = zevf (I 429) x (kk - q) (i + 1) k := if_neg h2
        rw [e]; exact ih (i + 1) q (by omega) (by omega) hqk
      · refine zx_il3 zd69_25 ?_
        refine zx_il2 zd69_26 ?_
        first | ((with_reducible refine zx_icmpneN zd69_27 ?s247 (fun h3 => ?_) (fun h3 => ?_)); (case s247 => omega)) | refine zx_icmpne zd69_27 (fun h3 => ?_) (fun h3 => ?_)
        · first | with_reducible refine zx_iin3 zd69_33 ?_ | refine zx_ii3 zd69_33 ?_
          first | with_reducible refine zx_iin4 zd69_36 ?_ | refine zx_ii4 zd69_36 ?_
          refine zx_goto zd69_39 ?_
          have e : zevf (I 429) x (kk - q) i (k + 1) = zevf (I 429) x (kk - (q + 1)) (i + 1) k := by
            show (if _ then (if _ then _ else _) else _) = _
            rw [if_pos h2, if_neg (by omega), Nat.sub_add_eq]
          rw [e]; exact ih (i + 1) (q + 1) (by omega) (by omega) (by omega)
        · refine zx_il4 zd69_30 ?_
          refine zx_iret zd69_32 (Or.inl rfl) ?_
          have e : zevf (I 429) x (kk - q) i (k + 1) = some i := by
            show (if _ then (if _ then _ else _) else _) = _
            rw [if_pos h2, if_pos (by omega)]
          rw [e]; exact ⟨rfl, rfl⟩
theorem zc_find0N (hR : zRs R) (hN : 459 ≤ N) {n : Nat} (hn : I 428 4 = Int32.ofNat n) (hn1 : n ≤ 100) (x y : Int32) (hy : y < 0) : ∀ (k i q : Nat), i + k = n → q ≤ i →
    zW L 69 5 [some (.ref 428), some (.int x), some (.int y), some (.int (Int32.ofNat q)), some (.int (Int32.ofNat i))] [] (N, U, I, J, R) (fun o h => o = .inl (some (.int (-1))) ∧ h = (N, U, I, J, R)) := by
  intro k
  induction k with
  | zero =>
    intro i q hi hq
    refine zx_il4 zd69_5 ?_
    refine zx_al0 zd69_7 ?_
    (refine zx_gfI zd69_8 ?k255 ?_); (case k255 => first | exact zkk rfl (by omega) | exact zkk (zK_B0 (by omega)) (by omega) | exact zkk ((zK_B (by omega) (by decide)).trans rfl) (by omega) | exact zkk (zK_row (by omega) (by omega)) (by omega) | exact zkk (zK_file (by omega) (by omega)) (by omega) | exact zkk (zK_byte (by omega) (by omega)) (by omega) | exact zkk (zK_list (by omega)) (by omega) | assumption)
    rw [hn]
    first | ((with_reducible refine zx_icmpgeN zd69_11 ?s256 (fun h => ?_) (fun h => ?_)); (case s256 => omega)) | refine zx_icmpge zd69_11 (fun h => ?_) (fun h => ?_)
    · refine zx_c zd69_42 ?_
      refine zx_iret zd69_43 (Or.inl rfl) ?_
      exact ⟨rfl, rfl⟩
    · omega
  | succ k ih =>
    intro i q hi hq
    refine zx_il4 zd69_5 ?_
    refine zx_al0 zd69_7 ?_
    (refine zx_gfI zd69_8 ?k261 ?_); (case k261 => first | exact zkk rfl (by omega) | exact zkk (zK_B0 (by omega)) (by omega) | exact zkk ((zK_B (by omega) (by decide)).trans rfl) (by omega) | exact zkk (zK_row (by omega) (by omega)) (by omega) | exact zkk (zK_file (by omega) (by omega)) (by omega) | exact zkk (zK_byte (by omega) (by omega)) (by omega) | exact zkk (zK_list (by omega)) (by omega) | assumption)
    rw [hn]
    first | ((with_reducible refine zx_icmpgeN zd69_11 ?s262 (fun h => ?_) (fun h => ?_)); (case s262 => omega)) | refine zx_icmpge zd69_11 (fun h => ?_) (fun h => ?_)
    · omega
    · refine zx_al0 zd69_14 ?_
      (refine' zx_gfA zd69_15 ?k264 ?r264 ?_); (case k264 => first | exact zkk rfl (by omega) | exact zkk (zK_B0 (by omega)) (by omega) | exact zkk ((zK_B (by omega) (by decide)).trans rfl) (by omega) | exact zkk (zK_row (by omega) (by omega)) (by omega) | exact zkk (zK_file (by omega) (by omega)) (by omega) | exact zkk (zK_byte (by omega) (by omega)) (by omega) | exact zkk (zK_list (by omega)) (by omega) | assumption); (case r264 => first | exact hR.1 _ _ _ rfl | exact hR.2.1 _ (by omega) | exact (hR.2.2.2 _ (by omega)).1.1 | exact (hR.2.2.2 _ (by omega)).1.2.1 | exact (hR.2.2.2 _ (by omega)).1.2.2 | exact (hR.2.2.2 _ (by omega)).2.1.1 | exact (hR.2.2.2 _ (by omega)).2.1.2 | exact (hR.2.2.2 _ (by omega)).2.2.1 _ (by omega) | exact (hR.2.2.2 _ (by omega)).2.2.2 _ (by omega) | exact hR.2.2.1 _ (by omega) | exact (hF _ (by omega)).1 | assumption)
      refine zx_il4 zd69_18 ?_
      (with_reducible refine' zx_ialdN zd69_20 ?k266 ?j266 ?_); (case k266 => first | exact zkk rfl (by omega) | exact zkk (zK_B0 (by omega)) (by omega) | exact zkk ((zK_B (by omega) (by decide)).trans rfl) (by omega) | exact zkk (zK_row (by omega) (by omega)) (by omega) | exact zkk (zK_file (by omega) (by omega)) (by omega) | exact zkk (zK_byte (by omega) (by omega)) (by omega) | exact zkk (zK_list (by omega)) (by omega) | assumption); (case j266 => omega)
      refine zx_il1 zd69_21 ?_
      refine zx_icmpne zd69_22 (fun h2 => ?_) (fun h2 => ?_)
      · first | with_reducible refine zx_iin4 zd69_36 ?_ | refine zx_ii4 zd69_36 ?_
        refine zx_goto zd69_39 ?_
        exact ih (i + 1) q (by omega) (by omega)
      · refine zx_il3 zd69_25 ?_
        refine zx_il2 zd69_26 ?_
        refine zx_icmpne zd69_27 (fun h3 => ?_) (fun h3 => ?_)
        · first | with_reducible refine zx_iin3 zd69_33 ?_ | refine zx_ii3 zd69_33 ?_
          first | with_reducible refine zx_iin4 zd69_36 ?_ | refine zx_ii4 zd69_36 ?_
          refine zx_goto zd69_39 ?_
          exact ih (i + 1) (q + 1) (by omega) (by omega)
        · rw [← h3] at hy
          exact absurd hy (Int32.not_lt.mpr (zn_nn (by omega)))
theorem zc_tell (hR : zRs R) (hN : 459 ≤ N) {e w : Nat} (he : e < 100) (hw : w < 3) : zRet L 70 [.ref 428, .int (Int32.ofNat e), .int (Int32.ofNat w)] (N, U, I, J, R) (some (.int (I (430 + w) e))) (N, U, I, J, R) := by
  show zW L 70 0 [some (.ref 428), some (.int (Int32.ofNat e)), some (.int (Int32.ofNat w))] [] _ _
  refine zx_il2 zd70_0 ?_
  first | ((with_reducible refine zx_ifneN zd70_1 ?s276 (fun h => ?_) (fun h => ?_)); (case s276 => omega)) | refine zx_ifne zd70_1 (fun h => ?_) (fun h => ?_)
  · refine zx_il2 zd70_11 ?_
    refine zx_c zd70_12 ?_
    first | ((with_reducible refine zx_icmpneN zd70_13 ?s279 (fun h2 => ?_) (fun h2 => ?_)); (case s279 => omega)) | refine zx_icmpne zd70_13 (fun h2 => ?_) (fun h2 => ?_)
    · refine zx_al0 zd70_25 ?_
      (refine' zx_gfA zd70_26 ?k281 ?r281 ?_); (case k281 => first | exact zkk rfl (by omega) | exact zkk (zK_B0 (by omega)) (by omega) | exact zkk ((zK_B (by omega) (by decide)).trans rfl) (by omega) | exact zkk (zK_row (by omega) (by omega)) (by omega) | exact zkk (zK_file (by omega) (by omega)) (by omega) | exact zkk (zK_byte (by omega) (by omega)) (by omega) | exact zkk (zK_list (by omega)) (by omega) | assumption); (case r281 => first | exact hR.1 _ _ _ rfl | exact hR.2.1 _ (by omega) | exact (hR.2.2.2 _ (by omega)).1.1 | exact (hR.2.2.2 _ (by omega)).1.2.1 | exact (hR.2.2.2 _ (by omega)).1.2.2 | exact (hR.2.2.2 _ (by omega)).2.1.1 | exact (hR.2.2.2 _ (by omega)).2.1.2 | exact (hR.2.2.2 _ (by omega)).2.2.1 _ (by omega) | exact (hR.2.2.2 _ (by omega)).2.2.2 _ (by omega) | exact hR.2.2.1 _ (by omega) | exact (hF _ (by omega)).1 | assumption)
      refine zx_il1 zd70_29 ?_
      (with_reducible refine' zx_ialdN zd70_30 ?k283 ?j283 ?_); (case k283 => first | exact zkk rfl (by omega) | exact zkk (zK_B0 (by omega)) (by omega) | exact zkk ((zK_B (by omega) (by decide)).trans rfl) (by omega) | exact zkk (zK_row (by omega) (by omega)) (by omega) | exact zkk (zK_file (by omega) (by omega)) (by omega) | exact zkk (zK_byte (by omega) (by omega)) (by omega) | exact zkk (zK_list (by omega)) (by omega) | assumption); (case j283 => omega)
      refine zx_iret zd70_31 (Or.inl rfl) ?_
      obtain rfl : w = 2 := by omega
      exact ⟨rfl, rfl⟩
    · refine zx_al0 zd70_16 ?_
      (refine' zx_gfA zd70_17 ?k286 ?r286 ?_); (case k286 => first | exact zkk rfl (by omega) | exact zkk (zK_B0 (by omega)) (by omega) | exact zkk ((zK_B (by omega) (by decide)).trans rfl) (by omega) | exact zkk (zK_row (by omega) (by omega)) (by omega) | exact zkk (zK_file (by omega) (by omega)) (by omega) | exact zkk (zK_byte (by omega) (by omega)) (by omega) | exact zkk (zK_list (by omega)) (by omega) | assumption); (case r286 => first | exact hR.1 _ _ _ rfl | exact hR.2.1 _ (by omega) | exact (hR.2.2.2 _ (by omega)).1.1 | exact (hR.2.2.2 _ (by omega)).1.2.1 | exact (hR.2.2.2 _ (by omega)).1.2.2 | exact (hR.2.2.2 _ (by omega)).2.1.1 | exact (hR.2.2.2 _ (by omega)).2.1.2 | exact (hR.2.2.2 _ (by omega)).2.2.1 _ (by omega) | exact (hR.2.2.2 _ (by omega)).2.2.2 _ (by omega) | exact hR.2.2.1 _ (by omega) | exact (hF _ (by omega)).1 | assumption)
      refine zx_il1 zd70_20 ?_
      (with_reducible refine' zx_ialdN zd70_21 ?k288 ?j288 ?_); (case k288 => first | exact zkk rfl (by omega) | exact zkk (zK_B0 (by omega)) (by omega) | exact zkk ((zK_B (by omega) (by decide)).trans rfl) (by omega) | exact zkk (zK_row (by omega) (by omega)) (by omega) | exact zkk (zK_file (by omega) (by omega)) (by omega) | exact zkk (zK_byte (by omega) (by omega)) (by omega) | exact zkk (zK_list (by omega)) (by omega) | assumption); (case j288 => omega)
      refine zx_goto zd70_22 ?_
      refine zx_iret zd70_31 (Or.inl rfl) ?_
      subst h2
      exact ⟨rfl, rfl⟩
  · refine zx_al0 zd70_4 ?_
    (refine' zx_gfA zd70_5 ?k292 ?r292 ?_); (case k292 => first | exact zkk rfl (by omega) | exact zkk (zK_B0 (by omega)) (by omega) | exact zkk ((zK_B (by omega) (by decide)).trans rfl) (by omega) | exact zkk (zK_row (by omega) (by omega)) (by omega) | exact zkk (zK_file (by omega) (by omega)) (by omega) | exact zkk (zK_byte (by omega) (by omega)) (by omega) | exact zkk (zK_list (by omega)) (by omega) | assumption); (case r292 => first | exact hR.1 _ _ _ rfl | exact hR.2.1 _ (by omega) | exact (hR.2.2.2 _ (by omega)).1.1 | exact (hR.2.2.2 _ (by omega)).1.2.1 | exact (hR.2.2.2 _ (by omega)).1.2.2 | exact (hR.2.2.2 _ (by omega)).2.1.1 | exact (hR.2.2.2 _ (by omega)).2.1.2 | exact (hR.2.2.2 _ (by omega)).2.2.1 _ (by omega) | exact (hR.2.2.2 _ (by omega)).2.2.2 _ (by omega) | exact hR.2.2.1 _ (by omega) | exact (hF _ (by omega)).1 | assumption)
    refine zx_il1 zd70_8 ?_
    (with_reducible refine' zx_ialdN zd70_9 ?k294 ?j294 ?_); (case k294 => first | exact zkk rfl (by omega) | exact zkk (zK_B0 (by omega)) (by omega) | exact zkk ((zK_B (by omega) (by decide)).trans rfl) (by omega) | exact zkk (zK_row (by omega) (by omega)) (by omega) | exact zkk (zK_file (by omega) (by omega)) (by omega) | exact zkk (zK_byte (by omega) (by omega)) (by omega) | exact zkk (zK_list (by omega)) (by omega) | assumption); (case j294 => omega)
    refine zx_iret zd70_10 (Or.inl rfl) ?_
    subst h
    exact ⟨rfl, rfl⟩
theorem zc_hisT1 (hN : 459 ≤ N) {s : Nat} (hs : I 3 6 = Int32.ofNat s) {x y z : Int32} (hx : x < 0 ∨ ¬ x < Int32.ofNat s) : zThr L 68 [.ref 3, .int x, .int y, .int z] (N, U, I, J, R) (1, N) (N + 1, U + 6, I, J, R) := by
  show zW L 68 0 [some (.ref 3), some (.int x), some (.int y), some (.int z), none] [] _ _
  refine zx_il1 zd68_0 ?_
  first | ((with_reducible refine zx_ifltN zd68_1 ?s297 (fun h => ?_) (fun h => ?_)); (case s297 => omega)) | refine zx_iflt zd68_1 (fun h => ?_) (fun h => ?_)
  · refine zx_throw zd68_12 (zK_top (by omega)) rfl ?_
    exact ⟨rfl, rfl⟩
  · refine zx_il1 zd68_4 ?_
    refine zx_al0 zd68_5 ?_
    (refine zx_gfI zd68_6 ?k301 ?_); (case k301 => first | exact zkk rfl (by omega) | exact zkk (zK_B0 (by omega)) (by omega) | exact zkk ((zK_B (by omega) (by decide)).trans rfl) (by omega) | exact zkk (zK_row (by omega) (by omega)) (by omega) | exact zkk (zK_file (by omega) (by omega)) (by omega) | exact zkk (zK_byte (by omega) (by omega)) (by omega) | exact zkk (zK_list (by omega)) (by omega) | assumption)
    rw [hs]
    refine zx_icmplt zd68_9 (fun h2 => ?_) (fun h2 => ?_)
    · rcases hx with hx | hx
      · exact absurd hx h
      · exact absurd h2 hx
    · refine zx_throw zd68_12 (zK_top (by omega)) rfl ?_
      exact ⟨rfl, rfl⟩
theorem zc_hisT2 (hN : 459 ≤ N) {s q : Nat} (hs : I 3 6 = Int32.ofNat s) (hs1 : s ≤ 60) (hq : q < s) {y z : Int32} (hz : z < 0 ∨ ¬ z < Int32.ofNat 3) : zThr L 68 [.ref 3, .int (Int32.ofNat q), .int y, .int z] (N, U, I, J, R) (1, N) (N + 1, U + 6, I, J, R) := by
  show zW L 68 0 [some (.ref 3), some (.int (Int32.ofNat q)), some (.int y), some (.int z), none] [] _ _
  refine zx_il1 zd68_0 ?_
  first | ((with_reducible refine zx_ifltN zd68_1 ?s304 (fun h => ?_) (fun h => ?_)); (case s304 => omega)) | refine zx_iflt zd68_1 (fun h => ?_) (fun h => ?_)
  · omega
  · refine zx_il1 zd68_4 ?_
    refine zx_al0 zd68_5 ?_
    (refine zx_gfI zd68_6 ?k307 ?_); (case k307 => first | exact zkk rfl (by omega) | exact zkk (zK_B0 (by omega)) (by omega) | exact zkk ((zK_B (by omega) (by decide)).trans rfl) (by omega) | exact zkk (zK_row (by omega) (by omega)) (by omega) | exact zkk (zK_file (by omega) (by omega)) (by omega) | exact zkk (zK_byte (by omega) (by omega)) (by omega) | exact zkk (zK_list (by omega)) (by omega) | assumption)
    rw [hs]
    first | ((with_reducible refine zx_icmpltN zd68_9 ?s308 (fun h2 => ?_) (fun h2 => ?_)); (case s308 => omega)) | refine zx_icmplt zd68_9 (fun h2 => ?_) (fun h2 => ?_)
    · refine zx_il3 zd68_22 ?_
      first | ((with_reducible refine zx_ifltN zd68_23 ?s310 (fun h3 => ?_) (fun h3 => ?_)); (case s310 => omega)) | refine zx_iflt zd68_23 (fun h3 => ?_) (fun h3 => ?_)
      · refine zx_throw zd68_31 (zK_top (by omega)) rfl ?_
        exact ⟨rfl, rfl⟩
      · refine zx_il3 zd68_26 ?_
        refine zx_c zd68_27 ?_
        refine zx_icmple zd68_28 (fun h4 => ?_) (fun h4 => ?_)
        · rcases hz with hz | hz
          · exact absurd hz h3
          · exact absurd ((zn_le (c := 2) (by decide)).mpr hz) h4
        · refine zx_throw zd68_31 (zK_top (by omega)) rfl ?_
          exact ⟨rfl, rfl⟩
    · omega
/-- history's answer -/
def zhis (I : zI) (q w : Nat) (y : Int32) (n : Nat) : Int32 := if y < 0 then -1 else match zevf (I 429) (I 427 q) y.toNatClampNeg 0 n with
  | some e => I (430 + w) e
  | none => -1
theorem zevf_lt {own : Nat → Int32} {x : Int32} : ∀ {n s i j : Nat}, zevf own x s i n = some j → i ≤ j ∧ j < i + n
  | 0, s, i, j, h => by cases h
  | n + 1, s, i, j, h => by
    unfold zevf at h
    split at h
    · split at h
      · cases h; omega
      · have := zevf_lt h; omega
    · have := zevf_lt h; omega
theorem zc_his (hR : zRs R) (hN : 459 ≤ N) {s q w n : Nat} (hs : I 3 6 = Int32.ofNat s) (hs1 : s ≤ 60) (hq : q < s) (hw : w < 3) (hn : I 428 4 = Int32.ofNat n) (hn1 : n ≤ 100) (y : Int32) : zRet L 68 [.ref 3, .int (Int32.ofNat q), .int y, .int (Int32.ofNat w)] (N, U, I, J, R) (some (.int (zhis I q w y n))) (N, U, I, J, R) := by
  have hfind : zRet L 69 [.ref 428, .int (I 427 q), .int y] (N, U, I, J, R) (some (.int (if y < 0 then -1 else zfi (zevf (I 429) (I 427 q) y.toNatClampNeg 0 n)))) (N, U, I, J, R) := by
    show zW L 69 0 [some (.ref 428), some (.int (I 427 q)), some (.int y), none, none] [] _ _
    refine zx_c zd69_0 ?_
    refine zx_is3 zd69_1 rfl ?_
    refine zx_c zd69_2 ?_
    refine zx_is4 zd69_3 rfl ?_
    by_cases hy : y < 0
    · rw [if_pos hy]
      exact zc_find0N hR hN hn hn1 _ _ hy n 0 0 (by omega) (by omega)
    · rw [if_neg hy]
      have e := Int32.ofNat_toNatClampNeg y (Int32.not_lt.mp hy)
      have hb : y.toNatClampNeg < 2147483648 := Int32.toNatClampNeg_lt y
      have k := zc_find0 (L := L) (U := U) (J := J) hR hN hn hn1 (I 427 q) hb n 0 0 (by omega) (by omega) (by omega)
      rw [e, Nat.sub_zero] at k
      exact k
  show zW L 68 0 [some (.ref 3), some (.int (Int32.ofNat q)), some (.int y), some (.int (Int32.ofNat w)), none] [] _ _
  refine zx_il1 zd68_0 ?_
  first | ((with_reducible refine zx_ifltN zd68_1 ?s320 (fun h => ?_) (fun h => ?_)); (case s320 => omega)) | refine zx_iflt zd68_1 (fun h => ?_) (fun h => ?_)
  · omega
  · refine zx_il1 zd68_4 ?_
    refine zx_al0 zd68_5 ?_
    (refine zx_gfI zd68_6 ?k323 ?_); (case k323 => first | exact zkk rfl (by omega) | exact zkk (zK_B0 (by omega)) (by omega) | exact zkk ((zK_B (by omega) (by decide)).trans rfl) (by omega) | exact zkk (zK_row (by omega) (by omega)) (by omega) | exact zkk (zK_file (by omega) (by omega)) (by omega) | exact zkk (zK_byte (by omega) (by omega)) (by omega) | exact zkk (zK_list (by omega)) (by omega) | assumption)
    rw [hs]
    first | ((with_reducible refine zx_icmpltN zd68_9 ?s324 (fun h2 => ?_) (fun h2 => ?_)); (case s324 => omega)) | refine zx_icmplt zd68_9 (fun h2 => ?_) (fun h2 => ?_)
    · refine zx_il3 zd68_22 ?_
      first | ((with_reducible refine zx_ifltN zd68_23 ?s326 (fun h3 => ?_) (fun h3 => ?_)); (case s326 => omega)) | refine zx_iflt zd68_23 (fun h3 => ?_) (fun h3 => ?_)
      · omega
      · refine zx_il3 zd68_26 ?_
        refine zx_c zd68_27 ?_
        first | ((with_reducible refine zx_icmpleN zd68_28 ?s329 (fun h4 => ?_) (fun h4 => ?_)); (case s329 => omega)) | refine zx_icmple zd68_28 (fun h4 => ?_) (fun h4 => ?_)
        · refine zx_al0 zd68_41 ?_
          (refine' zx_gfO zd68_42 ?k331 ?r331 ?_); (case k331 => first | exact zkk rfl (by omega) | exact zkk (zK_B0 (by omega)) (by omega) | exact zkk ((zK_B (by omega) (by decide)).trans rfl) (by omega) | exact zkk (zK_row (by omega) (by omega)) (by omega) | exact zkk (zK_file (by omega) (by omega)) (by omega) | exact zkk (zK_byte (by omega) (by omega)) (by omega) | exact zkk (zK_list (by omega)) (by omega) | assumption); (case r331 => first | exact hR.1 _ _ _ rfl | exact hR.2.1 _ (by omega) | exact (hR.2.2.2 _ (by omega)).1.1 | exact (hR.2.2.2 _ (by omega)).1.2.1 | exact (hR.2.2.2 _ (by omega)).1.2.2 | exact (hR.2.2.2 _ (by omega)).2.1.1 | exact (hR.2.2.2 _ (by omega)).2.1.2 | exact (hR.2.2.2 _ (by omega)).2.2.1 _ (by omega) | exact (hR.2.2.2 _ (by omega)).2.2.2 _ (by omega) | exact hR.2.2.1 _ (by omega) | exact (hF _ (by omega)).1 | assumption)
          refine zx_al0 zd68_45 ?_
          (refine' zx_gfA zd68_46 ?k333 ?r333 ?_); (case k333 => first | exact zkk rfl (by omega) | exact zkk (zK_B0 (by omega)) (by omega) | exact zkk ((zK_B (by omega) (by decide)).trans rfl) (by omega) | exact zkk (zK_row (by omega) (by omega)) (by omega) | exact zkk (zK_file (by omega) (by omega)) (by omega) | exact zkk (zK_byte (by omega) (by omega)) (by omega) | exact zkk (zK_list (by omega)) (by omega) | assumption); (case r333 => first | exact hR.1 _ _ _ rfl | exact hR.2.1 _ (by omega) | exact (hR.2.2.2 _ (by omega)).1.1 | exact (hR.2.2.2 _ (by omega)).1.2.1 | exact (hR.2.2.2 _ (by omega)).1.2.2 | exact (hR.2.2.2 _ (by omega)).2.1.1 | exact (hR.2.2.2 _ (by omega)).2.1.2 | exact (hR.2.2.2 _ (by omega)).2.2.1 _ (by omega) | exact (hR.2.2.2 _ (by omega)).2.2.2 _ (by omega) | exact hR.2.2.1 _ (by omega) | exact (hF _ (by omega)).1 | assumption)
          refine zx_il1 zd68_49 ?_
          (with_reducible refine' zx_ialdN zd68_50 ?k335 ?j335 ?_); (case k335 => first | exact zkk rfl (by omega) | exact zkk (zK_B0 (by omega)) (by omega) | exact zkk ((zK_B (by omega) (by decide)).trans rfl) (by omega) | exact zkk (zK_row (by omega) (by omega)) (by omega) | exact zkk (zK_file (by omega) (by omega)) (by omega) | exact zkk (zK_byte (by omega) (by omega)) (by omega) | exact zkk (zK_list (by omega)) (by omega) | assumption); (case j335 => omega)
          refine zx_il2 zd68_51 ?_
          (refine zx_cv2I zd68_52 ?k337 (hfind) ?_); (case k337 => first | exact zkk rfl (by omega) | exact zkk (zK_B0 (by omega)) (by omega) | exact zkk ((zK_B (by omega) (by decide)).trans rfl) (by omega) | exact zkk (zK_row (by omega) (by omega)) (by omega) | exact zkk (zK_file (by omega) (by omega)) (by omega) | exact zkk (zK_byte (by omega) (by omega)) (by omega) | exact zkk (zK_list (by omega)) (by omega) | assumption)
          refine zx_is4 zd68_55 rfl ?_
          refine zx_il4 zd68_57 ?_
          refine zx_c zd68_59 ?_
          unfold zhis
          by_cases hy : y < 0
          · rw [if_pos hy, if_pos hy]
            refine zx_icmpne zd68_60 (fun h5 => absurd rfl h5) (fun h5 => ?_)
            refine zx_c zd68_63 ?_
            refine zx_goto zd68_64 ?_
            refine zx_iret zd68_77 (Or.inl rfl) ?_
            exact ⟨rfl, rfl⟩
          · rw [if_neg hy, if_neg hy]
            cases hz : zevf (I 429) (I 427 q) y.toNatClampNeg 0 n with
            | none =>
              refine zx_icmpne zd68_60 (fun h5 => absurd rfl h5) (fun h5 => ?_)
              refine zx_c zd68_63 ?_
              refine zx_goto zd68_64 ?_
              refine zx_iret zd68_77 (Or.inl rfl) ?_
              exact ⟨rfl, rfl⟩
            | some e =>
              have he := zevf_lt hz
              refine zx_icmpne zd68_60 (fun h5 => ?_) (fun h5 => absurd h5 (zfi_ne (by simp) (fun j hj => by cases hj; omega)))
              show zW L 68 67 [some (.ref 3), some (.int (Int32.ofNat q)), some (.int y), some (.int (Int32.ofNat w)), some (.int (Int32.ofNat e))] [] _ _
              refine zx_al0 zd68_67 ?_
              (refine' zx_gfO zd68_68 ?k348 ?r348 ?_); (case k348 => first | exact zkk rfl (by omega) | exact zkk (zK_B0 (by omega)) (by omega) | exact zkk ((zK_B (by omega) (by decide)).trans rfl) (by omega) | exact zkk (zK_row (by omega) (by omega)) (by omega) | exact zkk (zK_file (by omega) (by omega)) (by omega) | exact zkk (zK_byte (by omega) (by omega)) (by omega) | exact zkk (zK_list (by omega)) (by omega) | assumption); (case r348 => first | exact hR.1 _ _ _ rfl | exact hR.2.1 _ (by omega) | exact (hR.2.2.2 _ (by omega)).1.1 | exact (hR.2.2.2 _ (by omega)).1.2.1 | exact (hR.2.2.2 _ (by omega)).1.2.2 | exact (hR.2.2.2 _ (by omega)).2.1.1 | exact (hR.2.2.2 _ (by omega)).2.1.2 | exact (hR.2.2.2 _ (by omega)).2.2.1 _ (by omega) | exact (hR.2.2.2 _ (by omega)).2.2.2 _ (by omega) | exact hR.2.2.1 _ (by omega) | exact (hF _ (by omega)).1 | assumption)
              refine zx_il4 zd68_71 ?_
              refine zx_il3 zd68_73 ?_
              (refine zx_cv2I zd68_74 ?k351 (zc_tell hR hN (by omega) hw) ?_); (case k351 => first | exact zkk rfl (by omega) | exact zkk (zK_B0 (by omega)) (by omega) | exact zkk ((zK_B (by omega) (by decide)).trans rfl) (by omega) | exact zkk (zK_row (by omega) (by omega)) (by omega) | exact zkk (zK_file (by omega) (by omega)) (by omega) | exact zkk (zK_byte (by omega) (by omega)) (by omega) | exact zkk (zK_list (by omega)) (by omega) | assumption)
              refine zx_iret zd68_77 (Or.inl rfl) ?_
              exact ⟨rfl, rfl⟩
        · omega
    · omega
end ZC3
