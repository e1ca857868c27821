/-! THE REFERENCE: roots, the check's bytes, approvals, withdrawals, serial numbers, histories -/
def znot (I : zI) (n : Nat) (a b x y : Int32) : zI := if n < 100 then zu (zu (zu (zu (zu I 454 n a) 455 n b) 456 n x) 457 n y) 436 24 (Int32.ofNat (n + 1)) else I
def zbts (g : Nat → Int32) : Int32 → Nat → Nat → Int32
  | b, _, 0 => b
  | b, i, n + 1 => zbts g (if 0 < g i then b ||| zshl (Int32.ofNat 1) (g i) else b) (i + 1) n
def zmap (g : Nat → Int32) : Bool := !decide (zbts g (Int32.ofNat 0) 0 16 &&& (zbts g (Int32.ofNat 0) 0 16 - Int32.ofNat 1) = 0)
section ZM2
variable {L N U : Nat} {I : zI} {J : zJ} {R : zR} {c : Nat}
theorem zm_made (hN : 459 ≤ N) : zRet L 99 [.ref 436] (N, U, I, J, R) (some (.int (I 436 8))) (N, U, zT I 0, J, R) := by
  show zW L 99 0 [some (.ref 436)] [] _ _
  refine zx_al0 zd99_0 ?_
  refine zx_c zd99_1 ?_
  (refine zx_pfI zd99_2 ?k3 ?a3 ?_); (case k3 => first | exact zkk rfl (by omega) | exact zkk (zK_B0 (by omega)) (by omega) | exact zkk ((zK_B (by omega) (by decide)).trans rfl) (by omega) | exact zkk (zK_row (by omega) (by omega)) (by omega) | exact zkk (zK_file (by omega) (by omega)) (by omega) | exact zkk (zK_byte (by omega) (by omega)) (by omega) | exact zkk (zK_list (by omega)) (by omega) | assumption); (case a3 => omega)
  refine zx_al0 zd99_5 ?_
  (refine zx_gfI zd99_6 ?k5 ?_); (case k5 => first | exact zkk rfl (by omega) | exact zkk (zK_B0 (by omega)) (by omega) | exact zkk ((zK_B (by omega) (by decide)).trans rfl) (by omega) | exact zkk (zK_row (by omega) (by omega)) (by omega) | exact zkk (zK_file (by omega) (by omega)) (by omega) | exact zkk (zK_byte (by omega) (by omega)) (by omega) | exact zkk (zK_list (by omega)) (by omega) | assumption)
  refine zx_iret zd99_9 (Or.inl rfl) ?_
  exact ⟨rfl, rfl⟩
theorem zm_clr (hN : 459 ≤ N) : zRet L 109 [.ref 436] (N, U, I, J, R) none (N, U, zu (zT I 0) 436 17 (Int32.ofNat 0), J, R) := by
  show zW L 109 0 [some (.ref 436)] [] _ _
  refine zx_al0 zd109_0 ?_
  refine zx_c zd109_1 ?_
  (refine zx_pfI zd109_2 ?k9 ?a9 ?_); (case k9 => first | exact zkk rfl (by omega) | exact zkk (zK_B0 (by omega)) (by omega) | exact zkk ((zK_B (by omega) (by decide)).trans rfl) (by omega) | exact zkk (zK_row (by omega) (by omega)) (by omega) | exact zkk (zK_file (by omega) (by omega)) (by omega) | exact zkk (zK_byte (by omega) (by omega)) (by omega) | exact zkk (zK_list (by omega)) (by omega) | assumption); (case a9 => omega)
  refine zx_al0 zd109_5 ?_
  refine zx_c zd109_6 ?_
  (refine zx_pfI zd109_7 ?k12 ?a12 ?_); (case k12 => first | exact zkk rfl (by omega) | exact zkk (zK_B0 (by omega)) (by omega) | exact zkk ((zK_B (by omega) (by decide)).trans rfl) (by omega) | exact zkk (zK_row (by omega) (by omega)) (by omega) | exact zkk (zK_file (by omega) (by omega)) (by omega) | exact zkk (zK_byte (by omega) (by omega)) (by omega) | exact zkk (zK_list (by omega)) (by omega) | assumption); (case a12 => omega)
  refine zx_vret zd109_10 rfl ?_
  exact ⟨rfl, rfl⟩
theorem zm_rootT (hR : zRs R) (hN : 459 ≤ N) (hc : I 436 8 = Int32.ofNat c) (hc10 : c ≤ 10) {x y : Int32} (hx : (x < 0 ∨ ¬ x < Int32.ofNat c) ∨ y < 0 ∨ ¬ y < Int32.ofNat 32) : zRet L 100 [.ref 436, .int x, .int y] (N, U, I, J, R) (some (.int (Int32.ofNat 0))) (N, U, zT I 1, J, R) := by
  have fin : zW L 100 24 [some (.ref 436), some (.int x), some (.int y)] [.int (Int32.ofNat 1), .ref 436] (N, U, I, J, R) (fun o k => o = .inl (some (.int (Int32.ofNat 0))) ∧ k = (N, U, zT I 1, J, R)) := by
    (refine zx_pfI zd100_24 ?k14 ?a14 ?_); (case k14 => first | exact zkk rfl (by omega) | exact zkk (zK_B0 (by omega)) (by omega) | exact zkk ((zK_B (by omega) (by decide)).trans rfl) (by omega) | exact zkk (zK_row (by omega) (by omega)) (by omega) | exact zkk (zK_file (by omega) (by omega)) (by omega) | exact zkk (zK_byte (by omega) (by omega)) (by omega) | exact zkk (zK_list (by omega)) (by omega) | assumption); (case a14 => omega)
    refine zx_al0 zd100_27 ?_
    (refine zx_gfI zd100_28 ?k16 ?_); (case k16 => first | exact zkk rfl (by omega) | exact zkk (zK_B0 (by omega)) (by omega) | exact zkk ((zK_B (by omega) (by decide)).trans rfl) (by omega) | exact zkk (zK_row (by omega) (by omega)) (by omega) | exact zkk (zK_file (by omega) (by omega)) (by omega) | exact zkk (zK_byte (by omega) (by omega)) (by omega) | exact zkk (zK_list (by omega)) (by omega) | assumption)
    rw [show zu I 436 0 (Int32.ofNat 1) 436 0 = Int32.ofNat 1 from rfl]
    first | ((with_reducible refine zx_ifneN zd100_31 ?s17 (fun h => ?_) (fun h => ?_)); (case s17 => omega)) | refine zx_ifne zd100_31 (fun h => ?_) (fun h => ?_)
    · refine zx_c zd100_48 ?_
      refine zx_iret zd100_49 (Or.inl rfl) ?_
      exact ⟨rfl, rfl⟩
    · omega
  show zW L 100 0 [some (.ref 436), some (.int x), some (.int y)] [] _ _
  refine zx_al0 zd100_0 ?_
  refine zx_al0 zd100_1 ?_
  refine zx_il1 zd100_2 ?_
  by_cases hv : x < 0 ∨ ¬ x < Int32.ofNat c
  · (refine zx_cv1I zd100_3 ?k23 (zm_irN hN hc hv) ?_); (case k23 => first | exact zkk rfl (by omega) | exact zkk (zK_B0 (by omega)) (by omega) | exact zkk ((zK_B (by omega) (by decide)).trans rfl) (by omega) | exact zkk (zK_row (by omega) (by omega)) (by omega) | exact zkk (zK_file (by omega) (by omega)) (by omega) | exact zkk (zK_byte (by omega) (by omega)) (by omega) | exact zkk (zK_list (by omega)) (by omega) | assumption)
    first | ((with_reducible refine zx_ifeqN zd100_6 ?s24 (fun h => ?_) (fun h => ?_)); (case s24 => omega)) | refine zx_ifeq zd100_6 (fun h => ?_) (fun h => ?_)
    · refine zx_c zd100_23 ?_
      exact fin
    · omega
  · obtain ⟨r, rfl, hr⟩ := zn_of (fun h => hv (Or.inl h)) (Classical.not_not.mp fun h => hv (Or.inr h)) (show c < 2147483648 by omega)
    (refine zx_cv1I zd100_3 ?k26 (zm_ir hN hc hc10 hr) ?_); (case k26 => first | exact zkk rfl (by omega) | exact zkk (zK_B0 (by omega)) (by omega) | exact zkk ((zK_B (by omega) (by decide)).trans rfl) (by omega) | exact zkk (zK_row (by omega) (by omega)) (by omega) | exact zkk (zK_file (by omega) (by omega)) (by omega) | exact zkk (zK_byte (by omega) (by omega)) (by omega) | exact zkk (zK_list (by omega)) (by omega) | assumption)
    first | ((with_reducible refine zx_ifeqN zd100_6 ?s27 (fun h => ?_) (fun h => ?_)); (case s27 => omega)) | refine zx_ifeq zd100_6 (fun h => ?_) (fun h => ?_)
    · omega
    · refine zx_il2 zd100_9 ?_
      first | ((with_reducible refine zx_ifltN zd100_10 ?s29 (fun h2 => ?_) (fun h2 => ?_)); (case s29 => omega)) | refine zx_iflt zd100_10 (fun h2 => ?_) (fun h2 => ?_)
      · refine zx_c zd100_23 ?_
        exact fin
      · refine zx_il2 zd100_13 ?_
        refine zx_c zd100_14 ?_
        refine zx_icmpge zd100_16 (fun h3 => ?_) (fun h3 => ?_)
        · refine zx_c zd100_23 ?_
          exact fin
        · rcases hx with hx | hx | hx
          · exact absurd hx hv
          · exact absurd hx h2
          · exact absurd h3 hx
theorem zm_root (hR : zRs R) (hN : 459 ≤ N) (hc : I 436 8 = Int32.ofNat c) (hc10 : c ≤ 10) {r i : Nat} (hr : r < c) (hi : i < 32) : zRet L 100 [.ref 436, .int (Int32.ofNat r), .int (Int32.ofNat i)] (N, U, I, J, R) (some (.int (I 448 (32 * r + i)))) (N, U, zT I 0, J, R) := by
  show zW L 100 0 [some (.ref 436), some (.int (Int32.ofNat r)), some (.int (Int32.ofNat i))] [] _ _
  refine zx_al0 zd100_0 ?_
  refine zx_al0 zd100_1 ?_
  refine zx_il1 zd100_2 ?_
  (refine zx_cv1I zd100_3 ?k37 (zm_ir hN hc hc10 hr) ?_); (case k37 => first | exact zkk rfl (by omega) | exact zkk (zK_B0 (by omega)) (by omega) | exact zkk ((zK_B (by omega) (by decide)).trans rfl) (by omega) | exact zkk (zK_row (by omega) (by omega)) (by omega) | exact zkk (zK_file (by omega) (by omega)) (by omega) | exact zkk (zK_byte (by omega) (by omega)) (by omega) | exact zkk (zK_list (by omega)) (by omega) | assumption)
  first | ((with_reducible refine zx_ifeqN zd100_6 ?s38 (fun h => ?_) (fun h => ?_)); (case s38 => omega)) | refine zx_ifeq zd100_6 (fun h => ?_) (fun h => ?_)
  · omega
  · refine zx_il2 zd100_9 ?_
    first | ((with_reducible refine zx_ifltN zd100_10 ?s40 (fun h2 => ?_) (fun h2 => ?_)); (case s40 => omega)) | refine zx_iflt zd100_10 (fun h2 => ?_) (fun h2 => ?_)
    · omega
    · refine zx_il2 zd100_13 ?_
      refine zx_c zd100_14 ?_
      first | ((with_reducible refine zx_icmpgeN zd100_16 ?s43 (fun h3 => ?_) (fun h3 => ?_)); (case s43 => omega)) | refine zx_icmpge zd100_16 (fun h3 => ?_) (fun h3 => ?_)
      · omega
      · refine zx_c zd100_19 ?_
        refine zx_goto zd100_20 ?_
        (refine zx_pfI zd100_24 ?k46 ?a46 ?_); (case k46 => first | exact zkk rfl (by omega) | exact zkk (zK_B0 (by omega)) (by omega) | exact zkk ((zK_B (by omega) (by decide)).trans rfl) (by omega) | exact zkk (zK_row (by omega) (by omega)) (by omega) | exact zkk (zK_file (by omega) (by omega)) (by omega) | exact zkk (zK_byte (by omega) (by omega)) (by omega) | exact zkk (zK_list (by omega)) (by omega) | assumption); (case a46 => omega)
        refine zx_al0 zd100_27 ?_
        (refine zx_gfI zd100_28 ?k48 ?_); (case k48 => first | exact zkk rfl (by omega) | exact zkk (zK_B0 (by omega)) (by omega) | exact zkk ((zK_B (by omega) (by decide)).trans rfl) (by omega) | exact zkk (zK_row (by omega) (by omega)) (by omega) | exact zkk (zK_file (by omega) (by omega)) (by omega) | exact zkk (zK_byte (by omega) (by omega)) (by omega) | exact zkk (zK_list (by omega)) (by omega) | assumption)
        rw [show zu I 436 0 (Int32.ofNat 0) 436 0 = Int32.ofNat 0 from rfl]
        first | ((with_reducible refine zx_ifneN zd100_31 ?s49 (fun h4 => ?_) (fun h4 => ?_)); (case s49 => omega)) | refine zx_ifne zd100_31 (fun h4 => ?_) (fun h4 => ?_)
        · omega
        · refine zx_al0 zd100_34 ?_
          (refine' zx_gfA zd100_35 ?k51 ?r51 ?_); (case k51 => first | exact zkk rfl (by omega) | exact zkk (zK_B0 (by omega)) (by omega) | exact zkk ((zK_B (by omega) (by decide)).trans rfl) (by omega) | exact zkk (zK_row (by omega) (by omega)) (by omega) | exact zkk (zK_file (by omega) (by omega)) (by omega) | exact zkk (zK_byte (by omega) (by omega)) (by omega) | exact zkk (zK_list (by omega)) (by omega) | assumption); (case r51 => first | exact hR.1 _ _ _ rfl | assumption)
          refine zx_c zd100_38 ?_
          refine zx_il1 zd100_40 ?_
          first | with_reducible refine zx_mulN zd100_41 ?_ | refine zx_mul zd100_41 ?_
          refine zx_il2 zd100_42 ?_
          first | with_reducible refine zx_addN zd100_43 ?_ | refine zx_add zd100_43 ?_
          (with_reducible refine' zx_ialdN zd100_44 ?k57 ?j57 ?_); (case k57 => first | exact zkk rfl (by omega) | exact zkk (zK_B0 (by omega)) (by omega) | exact zkk ((zK_B (by omega) (by decide)).trans rfl) (by omega) | exact zkk (zK_row (by omega) (by omega)) (by omega) | exact zkk (zK_file (by omega) (by omega)) (by omega) | exact zkk (zK_byte (by omega) (by omega)) (by omega) | exact zkk (zK_list (by omega)) (by omega) | assumption); (case j57 => omega)
          refine zx_goto zd100_45 ?_
          refine zx_iret zd100_49 (Or.inl rfl) ?_
          exact ⟨rfl, rfl⟩
theorem zm_dgT (hR : zRs R) (hN : 459 ≤ N) {x y z : Int32} (h : zRet L 103 [.ref 436, .int x, .int y] (N, U, I, J, R) (some (.int (Int32.ofNat 0))) (N, U, I, J, R) ∨ (zRet L 103 [.ref 436, .int x, .int y] (N, U, I, J, R) (some (.int (Int32.ofNat 1))) (N, U, I, J, R) ∧ (z < 0 ∨ ¬ z < Int32.ofNat 32))) : zRet L 102 [.ref 436, .int x, .int y, .int z] (N, U, I, J, R) (some (.int (Int32.ofNat 0))) (N, U, zT I 1, J, R) := by
  have fin : zW L 102 25 [some (.ref 436), some (.int x), some (.int y), some (.int z)] [.int (Int32.ofNat 1), .ref 436] (N, U, I, J, R) (fun o k => o = .inl (some (.int (Int32.ofNat 0))) ∧ k = (N, U, zT I 1, J, R)) := by
    (refine zx_pfI zd102_25 ?k60 ?a60 ?_); (case k60 => first | exact zkk rfl (by omega) | exact zkk (zK_B0 (by omega)) (by omega) | exact zkk ((zK_B (by omega) (by decide)).trans rfl) (by omega) | exact zkk (zK_row (by omega) (by omega)) (by omega) | exact zkk (zK_file (by omega) (by omega)) (by omega) | exact zkk (zK_byte (by omega) (by omega)) (by omega) | exact zkk (zK_list (by omega)) (by omega) | assumption); (case a60 => omega)
    refine zx_al0 zd102_28 ?_
    (refine zx_gfI zd102_29 ?k62 ?_); (case k62 => first | exact zkk rfl (by omega) | exact zkk (zK_B0 (by omega)) (by omega) | exact zkk ((zK_B (by omega) (by decide)).trans rfl) (by omega) | exact zkk (zK_row (by omega) (by omega)) (by omega) | exact zkk (zK_file (by omega) (by omega)) (by omega) | exact zkk (zK_byte (by omega) (by omega)) (by omega) | exact zkk (zK_list (by omega)) (by omega) | assumption)
    rw [show zu I 436 0 (Int32.ofNat 1) 436 0 = Int32.ofNat 1 from rfl]
    first | ((with_reducible refine zx_ifneN zd102_32 ?s63 (fun h => ?_) (fun h => ?_)); (case s63 => omega)) | refine zx_ifne zd102_32 (fun h => ?_) (fun h => ?_)
    · refine zx_c zd102_54 ?_
      refine zx_iret zd102_55 (Or.inl rfl) ?_
      exact ⟨rfl, rfl⟩
    · omega
  show zW L 102 0 [some (.ref 436), some (.int x), some (.int y), some (.int z)] [] _ _
  refine zx_al0 zd102_0 ?_
  refine zx_al0 zd102_1 ?_
  refine zx_il1 zd102_2 ?_
  refine zx_il2 zd102_3 ?_
  rcases h with h | ⟨h, hz⟩
  · (refine zx_cv2I zd102_4 ?k70 (h) ?_); (case k70 => first | exact zkk rfl (by omega) | exact zkk (zK_B0 (by omega)) (by omega) | exact zkk ((zK_B (by omega) (by decide)).trans rfl) (by omega) | exact zkk (zK_row (by omega) (by omega)) (by omega) | exact zkk (zK_file (by omega) (by omega)) (by omega) | exact zkk (zK_byte (by omega) (by omega)) (by omega) | exact zkk (zK_list (by omega)) (by omega) | assumption)
    first | ((with_reducible refine zx_ifeqN zd102_7 ?s71 (fun h => ?_) (fun h => ?_)); (case s71 => omega)) | refine zx_ifeq zd102_7 (fun h => ?_) (fun h => ?_)
    · refine zx_c zd102_24 ?_
      exact fin
    · omega
  · (refine zx_cv2I zd102_4 ?k73 (h) ?_); (case k73 => first | exact zkk rfl (by omega) | exact zkk (zK_B0 (by omega)) (by omega) | exact zkk ((zK_B (by omega) (by decide)).trans rfl) (by omega) | exact zkk (zK_row (by omega) (by omega)) (by omega) | exact zkk (zK_file (by omega) (by omega)) (by omega) | exact zkk (zK_byte (by omega) (by omega)) (by omega) | exact zkk (zK_list (by omega)) (by omega) | assumption)
    first | ((with_reducible refine zx_ifeqN zd102_7 ?s74 (fun h => ?_) (fun h => ?_)); (case s74 => omega)) | refine zx_ifeq zd102_7 (fun h => ?_) (fun h => ?_)
    · omega
    · refine zx_il3 zd102_10 ?_
      first | ((with_reducible refine zx_ifltN zd102_11 ?s76 (fun h2 => ?_) (fun h2 => ?_)); (case s76 => omega)) | refine zx_iflt zd102_11 (fun h2 => ?_) (fun h2 => ?_)
      · refine zx_c zd102_24 ?_
        exact fin
      · refine zx_il3 zd102_14 ?_
        refine zx_c zd102_15 ?_
        refine zx_icmpge zd102_17 (fun h3 => ?_) (fun h3 => ?_)
        · refine zx_c zd102_24 ?_
          exact fin
        · rcases hz with hz | hz
          · exact absurd hz h2
          · exact absurd h3 hz
theorem zm_dg (hR : zRs R) (hN : 459 ≤ N) (hc : I 436 8 = Int32.ofNat c) (hc10 : c ≤ 10) {r n j i : Nat} (hr : r < c) (hn : I 443 r = Int32.ofNat n) (hn8 : n ≤ 8) (hj : j < n) (hi : i < 32) : zRet L 102 [.ref 436, .int (Int32.ofNat r), .int (Int32.ofNat j), .int (Int32.ofNat i)] (N, U, I, J, R) (some (.int (I 447 (32 * (8 * r + j) + i)))) (N, U, zT I 0, J, R) := by
  show zW L 102 0 [some (.ref 436), some (.int (Int32.ofNat r)), some (.int (Int32.ofNat j)), some (.int (Int32.ofNat i))] [] _ _
  refine zx_al0 zd102_0 ?_
  refine zx_al0 zd102_1 ?_
  refine zx_il1 zd102_2 ?_
  refine zx_il2 zd102_3 ?_
  (refine zx_cv2I zd102_4 ?k85 (zm_il hR hN hc hc10 hr hn hn8 hj) ?_); (case k85 => first | exact zkk rfl (by omega) | exact zkk (zK_B0 (by omega)) (by omega) | exact zkk ((zK_B (by omega) (by decide)).trans rfl) (by omega) | exact zkk (zK_row (by omega) (by omega)) (by omega) | exact zkk (zK_file (by omega) (by omega)) (by omega) | exact zkk (zK_byte (by omega) (by omega)) (by omega) | exact zkk (zK_list (by omega)) (by omega) | assumption)
  first | ((with_reducible refine zx_ifeqN zd102_7 ?s86 (fun h => ?_) (fun h => ?_)); (case s86 => omega)) | refine zx_ifeq zd102_7 (fun h => ?_) (fun h => ?_)
  · omega
  · refine zx_il3 zd102_10 ?_
    first | ((with_reducible refine zx_ifltN zd102_11 ?s88 (fun h2 => ?_) (fun h2 => ?_)); (case s88 => omega)) | refine zx_iflt zd102_11 (fun h2 => ?_) (fun h2 => ?_)
    · omega
    · refine zx_il3 zd102_14 ?_
      refine zx_c zd102_15 ?_
      first | ((with_reducible refine zx_icmpgeN zd102_17 ?s91 (fun h3 => ?_) (fun h3 => ?_)); (case s91 => omega)) | refine zx_icmpge zd102_17 (fun h3 => ?_) (fun h3 => ?_)
      · omega
      · refine zx_c zd102_20 ?_
        refine zx_goto zd102_21 ?_
        (refine zx_pfI zd102_25 ?k94 ?a94 ?_); (case k94 => first | exact zkk rfl (by omega) | exact zkk (zK_B0 (by omega)) (by omega) | exact zkk ((zK_B (by omega) (by decide)).trans rfl) (by omega) | exact zkk (zK_row (by omega) (by omega)) (by omega) | exact zkk (zK_file (by omega) (by omega)) (by omega) | exact zkk (zK_byte (by omega) (by omega)) (by omega) | exact zkk (zK_list (by omega)) (by omega) | assumption); (case a94 => omega)
        refine zx_al0 zd102_28 ?_
        (refine zx_gfI zd102_29 ?k96 ?_); (case k96 => first | exact zkk rfl (by omega) | exact zkk (zK_B0 (by omega)) (by omega) | exact zkk ((zK_B (by omega) (by decide)).trans rfl) (by omega) | exact zkk (zK_row (by omega) (by omega)) (by omega) | exact zkk (zK_file (by omega) (by omega)) (by omega) | exact zkk (zK_byte (by omega) (by omega)) (by omega) | exact zkk (zK_list (by omega)) (by omega) | assumption)
        rw [show zu I 436 0 (Int32.ofNat 0) 436 0 = Int32.ofNat 0 from rfl]
        first | ((with_reducible refine zx_ifneN zd102_32 ?s97 (fun h4 => ?_) (fun h4 => ?_)); (case s97 => omega)) | refine zx_ifne zd102_32 (fun h4 => ?_) (fun h4 => ?_)
        · omega
        · refine zx_al0 zd102_35 ?_
          (refine' zx_gfA zd102_36 ?k99 ?r99 ?_); (case k99 => first | exact zkk rfl (by omega) | exact zkk (zK_B0 (by omega)) (by omega) | exact zkk ((zK_B (by omega) (by decide)).trans rfl) (by omega) | exact zkk (zK_row (by omega) (by omega)) (by omega) | exact zkk (zK_file (by omega) (by omega)) (by omega) | exact zkk (zK_byte (by omega) (by omega)) (by omega) | exact zkk (zK_list (by omega)) (by omega) | assumption); (case r99 => first | exact hR.1 _ _ _ rfl | assumption)
          refine zx_c zd102_39 ?_
          refine zx_c zd102_41 ?_
          refine zx_il1 zd102_43 ?_
          first | with_reducible refine zx_mulN zd102_44 ?_ | refine zx_mul zd102_44 ?_
          refine zx_il2 zd102_45 ?_
          first | with_reducible refine zx_addN zd102_46 ?_ | refine zx_add zd102_46 ?_
          first | with_reducible refine zx_mulN zd102_47 ?_ | refine zx_mul zd102_47 ?_
          refine zx_il3 zd102_48 ?_
          first | with_reducible refine zx_addN zd102_49 ?_ | refine zx_add zd102_49 ?_
          (with_reducible refine' zx_ialdN zd102_50 ?k109 ?j109 ?_); (case k109 => first | exact zkk rfl (by omega) | exact zkk (zK_B0 (by omega)) (by omega) | exact zkk ((zK_B (by omega) (by decide)).trans rfl) (by omega) | exact zkk (zK_row (by omega) (by omega)) (by omega) | exact zkk (zK_file (by omega) (by omega)) (by omega) | exact zkk (zK_byte (by omega) (by omega)) (by omega) | exact zkk (zK_list (by omega)) (by omega) | assumption); (case j109 => omega)
          refine zx_goto zd102_51 ?_
          refine zx_iret zd102_55 (Or.inl rfl) ?_
          exact ⟨rfl, rfl⟩
/-- the check's bytes -/
theorem zm_ckN (hN : 459 ≤ N) {x : Int32} (hx : x < 0 ∨ ¬ x < Int32.ofNat 256) : zRet L 108 [.ref 436, .int x] (N, U, I, J, R) (some (.int (Int32.ofNat 0))) (N, U, zT I 0, J, R) := by
  show zW L 108 0 [some (.ref 436), some (.int x)] [] _ _
  refine zx_al0 zd108_0 ?_
  refine zx_c zd108_1 ?_
  (refine zx_pfI zd108_2 ?k114 ?a114 ?_); (case k114 => first | exact zkk rfl (by omega) | exact zkk (zK_B0 (by omega)) (by omega) | exact zkk ((zK_B (by omega) (by decide)).trans rfl) (by omega) | exact zkk (zK_row (by omega) (by omega)) (by omega) | exact zkk (zK_file (by omega) (by omega)) (by omega) | exact zkk (zK_byte (by omega) (by omega)) (by omega) | exact zkk (zK_list (by omega)) (by omega) | assumption); (case a114 => omega)
  refine zx_il1 zd108_5 ?_
  refine zx_cs1I zd108_6 (zm_ibN hx) ?_
  first | ((with_reducible refine zx_ifeqN zd108_9 ?s117 (fun h => ?_) (fun h => ?_)); (case s117 => omega)) | refine zx_ifeq zd108_9 (fun h => ?_) (fun h => ?_)
  · refine zx_c zd108_22 ?_
    refine zx_iret zd108_23 (Or.inr ⟨rfl, by first | exact Or.inl rfl | exact Or.inr rfl | assumption⟩) ?_
    exact ⟨rfl, rfl⟩
  · omega
theorem zm_ckF (hN : 459 ≤ N) {b : Nat} (hb : b < 256) (hn : I 436 17 = Int32.ofNat 300) : zRet L 108 [.ref 436, .int (Int32.ofNat b)] (N, U, I, J, R) (some (.int (Int32.ofNat 0))) (N, U, zT I 0, J, R) := by
  show zW L 108 0 [some (.ref 436), some (.int (Int32.ofNat b))] [] _ _
  refine zx_al0 zd108_0 ?_
  refine zx_c zd108_1 ?_
  (refine zx_pfI zd108_2 ?k122 ?a122 ?_); (case k122 => first | exact zkk rfl (by omega) | exact zkk (zK_B0 (by omega)) (by omega) | exact zkk ((zK_B (by omega) (by decide)).trans rfl) (by omega) | exact zkk (zK_row (by omega) (by omega)) (by omega) | exact zkk (zK_file (by omega) (by omega)) (by omega) | exact zkk (zK_byte (by omega) (by omega)) (by omega) | exact zkk (zK_list (by omega)) (by omega) | assumption); (case a122 => omega)
  refine zx_il1 zd108_5 ?_
  refine zx_cs1I zd108_6 (zm_ib hb) ?_
  first | ((with_reducible refine zx_ifeqN zd108_9 ?s125 (fun h => ?_) (fun h => ?_)); (case s125 => omega)) | refine zx_ifeq zd108_9 (fun h => ?_) (fun h => ?_)
  · omega
  · refine zx_al0 zd108_12 ?_
    (refine zx_gfI zd108_13 ?k127 ?_); (case k127 => first | exact zkk rfl (by omega) | exact zkk (zK_B0 (by omega)) (by omega) | exact zkk ((zK_B (by omega) (by decide)).trans rfl) (by omega) | exact zkk (zK_row (by omega) (by omega)) (by omega) | exact zkk (zK_file (by omega) (by omega)) (by omega) | exact zkk (zK_byte (by omega) (by omega)) (by omega) | exact zkk (zK_list (by omega)) (by omega) | assumption)
    rw [show zu I 436 0 (Int32.ofNat 0) 436 17 = I 436 17 from rfl, hn]
    refine zx_c zd108_16 ?_
    first | ((with_reducible refine zx_icmpneN zd108_19 ?s129 (fun h2 => ?_) (fun h2 => ?_)); (case s129 => omega)) | refine zx_icmpne zd108_19 (fun h2 => ?_) (fun h2 => ?_)
    · omega
    · refine zx_c zd108_22 ?_
      refine zx_iret zd108_23 (Or.inr ⟨rfl, by first | exact Or.inl rfl | exact Or.inr rfl | assumption⟩) ?_
      exact ⟨rfl, rfl⟩
theorem zm_ck (hR : zRs R) (hN : 459 ≤ N) {b n : Nat} (hb : b < 256) (hn : I 436 17 = Int32.ofNat n) (hn3 : n < 300) : zRet L 108 [.ref 436, .int (Int32.ofNat b)] (N, U, I, J, R) (some (.int (Int32.ofNat 1))) (N, U, zu (zu (zT I 0) 450 n (Int32.ofNat b)) 436 17 (Int32.ofNat (n + 1)), J, R) := by
  show zW L 108 0 [some (.ref 436), some (.int (Int32.ofNat b))] [] _ _
  refine zx_al0 zd108_0 ?_
  refine zx_c zd108_1 ?_
  (refine zx_pfI zd108_2 ?k134 ?a134 ?_); (case k134 => first | exact zkk rfl (by omega) | exact zkk (zK_B0 (by omega)) (by omega) | exact zkk ((zK_B (by omega) (by decide)).trans rfl) (by omega) | exact zkk (zK_row (by omega) (by omega)) (by omega) | exact zkk (zK_file (by omega) (by omega)) (by omega) | exact zkk (zK_byte (by omega) (by omega)) (by omega) | exact zkk (zK_list (by omega)) (by omega) | assumption); (case a134 => omega)
  refine zx_il1 zd108_5 ?_
  refine zx_cs1I zd108_6 (zm_ib hb) ?_
  first | ((with_reducible refine zx_ifeqN zd108_9 ?s137 (fun h => ?_) (fun h => ?_)); (case s137 => omega)) | refine zx_ifeq zd108_9 (fun h => ?_) (fun h => ?_)
  · omega
  · refine zx_al0 zd108_12 ?_
    (refine zx_gfI zd108_13 ?k139 ?_); (case k139 => first | exact zkk rfl (by omega) | exact zkk (zK_B0 (by omega)) (by omega) | exact zkk ((zK_B (by omega) (by decide)).trans rfl) (by omega) | exact zkk (zK_row (by omega) (by omega)) (by omega) | exact zkk (zK_file (by omega) (by omega)) (by omega) | exact zkk (zK_byte (by omega) (by omega)) (by omega) | exact zkk (zK_list (by omega)) (by omega) | assumption)
    rw [show zu I 436 0 (Int32.ofNat 0) 436 17 = I 436 17 from rfl, hn]
    refine zx_c zd108_16 ?_
    first | ((with_reducible refine zx_icmpneN zd108_19 ?s141 (fun h2 => ?_) (fun h2 => ?_)); (case s141 => omega)) | refine zx_icmpne zd108_19 (fun h2 => ?_) (fun h2 => ?_)
    · refine zx_al0 zd108_24 ?_
      (refine' zx_gfA zd108_25 ?k143 ?r143 ?_); (case k143 => first | exact zkk rfl (by omega) | exact zkk (zK_B0 (by omega)) (by omega) | exact zkk ((zK_B (by omega) (by decide)).trans rfl) (by omega) | exact zkk (zK_row (by omega) (by omega)) (by omega) | exact zkk (zK_file (by omega) (by omega)) (by omega) | exact zkk (zK_byte (by omega) (by omega)) (by omega) | exact zkk (zK_list (by omega)) (by omega) | assumption); (case r143 => first | exact hR.1 _ _ _ rfl | assumption)
      refine zx_al0 zd108_28 ?_
      (refine zx_gfI zd108_29 ?k145 ?_); (case k145 => first | exact zkk rfl (by omega) | exact zkk (zK_B0 (by omega)) (by omega) | exact zkk ((zK_B (by omega) (by decide)).trans rfl) (by omega) | exact zkk (zK_row (by omega) (by omega)) (by omega) | exact zkk (zK_file (by omega) (by omega)) (by omega) | exact zkk (zK_byte (by omega) (by omega)) (by omega) | exact zkk (zK_list (by omega)) (by omega) | assumption)
      rw [show zu I 436 0 (Int32.ofNat 0) 436 17 = I 436 17 from rfl, hn]
      refine zx_il1 zd108_32 ?_
      (with_reducible refine' zx_iastN zd108_33 ?k147 ?j147 ?a147 ?_); (case k147 => first | exact zkk rfl (by omega) | exact zkk (zK_B0 (by omega)) (by omega) | exact zkk ((zK_B (by omega) (by decide)).trans rfl) (by omega) | exact zkk (zK_row (by omega) (by omega)) (by omega) | exact zkk (zK_file (by omega) (by omega)) (by omega) | exact zkk (zK_byte (by omega) (by omega)) (by omega) | exact zkk (zK_list (by omega)) (by omega) | assumption); (case j147 => omega); (case a147 => omega)
      refine zx_al0 zd108_34 ?_
      first | refine zx_dupR zd108_35 ?_ | refine zx_dupI zd108_35 ?_
      (refine zx_gfI zd108_36 ?k150 ?_); (case k150 => first | exact zkk rfl (by omega) | exact zkk (zK_B0 (by omega)) (by omega) | exact zkk ((zK_B (by omega) (by decide)).trans rfl) (by omega) | exact zkk (zK_row (by omega) (by omega)) (by omega) | exact zkk (zK_file (by omega) (by omega)) (by omega) | exact zkk (zK_byte (by omega) (by omega)) (by omega) | exact zkk (zK_list (by omega)) (by omega) | assumption)
      rw [show zu (zu I 436 0 (Int32.ofNat 0)) 450 n (Int32.ofNat b) 436 17 = I 436 17 from rfl, hn]
      refine zx_c zd108_39 ?_
      first | with_reducible refine zx_addN zd108_40 ?_ | refine zx_add zd108_40 ?_
      (refine zx_pfI zd108_41 ?k153 ?a153 ?_); (case k153 => first | exact zkk rfl (by omega) | exact zkk (zK_B0 (by omega)) (by omega) | exact zkk ((zK_B (by omega) (by decide)).trans rfl) (by omega) | exact zkk (zK_row (by omega) (by omega)) (by omega) | exact zkk (zK_file (by omega) (by omega)) (by omega) | exact zkk (zK_byte (by omega) (by omega)) (by omega) | exact zkk (zK_list (by omega)) (by omega) | assumption); (case a153 => omega)
      refine zx_c zd108_44 ?_
      refine zx_iret zd108_45 (Or.inr ⟨rfl, by first | exact Or.inl rfl | exact Or.inr rfl | assumption⟩) ?_
      exact ⟨rfl, rfl⟩
    · omega
theorem zm_pokeT (hN : 459 ≤ N) {n : Nat} (hn : I 436 17 = Int32.ofNat n) {x y : Int32} (hx : x < 0 ∨ ¬ x < Int32.ofNat n) : zRet L 110 [.ref 436, .int x, .int y] (N, U, I, J, R) (some (.int (Int32.ofNat 0))) (N, U, zT I 1, J, R) := by
  have fin : zW L 110 18 [some (.ref 436), some (.int x), some (.int y)] [.int (Int32.ofNat 1), .ref 436] (N, U, I, J, R) (fun o k => o = .inl (some (.int (Int32.ofNat 0))) ∧ k = (N, U, zT I 1, J, R)) := by
    (refine zx_pfI zd110_18 ?k156 ?a156 ?_); (case k156 => first | exact zkk rfl (by omega) | exact zkk (zK_B0 (by omega)) (by omega) | exact zkk ((zK_B (by omega) (by decide)).trans rfl) (by omega) | exact zkk (zK_row (by omega) (by omega)) (by omega) | exact zkk (zK_file (by omega) (by omega)) (by omega) | exact zkk (zK_byte (by omega) (by omega)) (by omega) | exact zkk (zK_list (by omega)) (by omega) | assumption); (case a156 => omega)
    refine zx_al0 zd110_21 ?_
    (refine zx_gfI zd110_22 ?k158 ?_); (case k158 => first | exact zkk rfl (by omega) | exact zkk (zK_B0 (by omega)) (by omega) | exact zkk ((zK_B (by omega) (by decide)).trans rfl) (by omega) | exact zkk (zK_row (by omega) (by omega)) (by omega) | exact zkk (zK_file (by omega) (by omega)) (by omega) | exact zkk (zK_byte (by omega) (by omega)) (by omega) | exact zkk (zK_list (by omega)) (by omega) | assumption)
    rw [show zu I 436 0 (Int32.ofNat 1) 436 0 = Int32.ofNat 1 from rfl]
    first | ((with_reducible refine zx_ifeqN zd110_25 ?s159 (fun h => ?_) (fun h => ?_)); (case s159 => omega)) | refine zx_ifeq zd110_25 (fun h => ?_) (fun h => ?_)
    · omega
    · refine zx_c zd110_28 ?_
      refine zx_iret zd110_29 (Or.inr ⟨rfl, by first | exact Or.inl rfl | exact Or.inr rfl | assumption⟩) ?_
      exact ⟨rfl, rfl⟩
  show zW L 110 0 [some (.ref 436), some (.int x), some (.int y)] [] _ _
  refine zx_al0 zd110_0 ?_
  refine zx_il1 zd110_1 ?_
  first | ((with_reducible refine zx_ifltN zd110_2 ?s164 (fun h => ?_) (fun h => ?_)); (case s164 => omega)) | refine zx_iflt zd110_2 (fun h => ?_) (fun h => ?_)
  · refine zx_c zd110_17 ?_
    exact fin
  · refine zx_il1 zd110_5 ?_
    refine zx_al0 zd110_6 ?_
    (refine zx_gfI zd110_7 ?k168 ?_); (case k168 => first | exact zkk rfl (by omega) | exact zkk (zK_B0 (by omega)) (by omega) | exact zkk ((zK_B (by omega) (by decide)).trans rfl) (by omega) | exact zkk (zK_row (by omega) (by omega)) (by omega) | exact zkk (zK_file (by omega) (by omega)) (by omega) | exact zkk (zK_byte (by omega) (by omega)) (by omega) | exact zkk (zK_list (by omega)) (by omega) | assumption)
    rw [hn]
    refine zx_icmpge zd110_10 (fun h2 => ?_) (fun h2 => ?_)
    · refine zx_c zd110_17 ?_
      exact fin
    · rcases hx with hx | hx
      · exact absurd hx h
      · exact absurd h2 hx
theorem zm_poke (hR : zRs R) (hN : 459 ≤ N) {n j : Nat} (hn : I 436 17 = Int32.ofNat n) (hn3 : n ≤ 300) (hj : j < n) (y : Int32) : zRet L 110 [.ref 436, .int (Int32.ofNat j), .int y] (N, U, I, J, R) (some (.int (if y &&& Int32.ofNat 255 = 0 then Int32.ofNat 0 else Int32.ofNat 1))) (N, U, zu (zT I 0) 450 j (I 450 j ^^^ y &&& Int32.ofNat 255), J, R) := by
  show zW L 110 0 [some (.ref 436), some (.int (Int32.ofNat j)), some (.int y)] [] _ _
  refine zx_al0 zd110_0 ?_
  refine zx_il1 zd110_1 ?_
  first | ((with_reducible refine zx_ifltN zd110_2 ?s172 (fun h => ?_) (fun h => ?_)); (case s172 => omega)) | refine zx_iflt zd110_2 (fun h => ?_) (fun h => ?_)
  · omega
  · refine zx_il1 zd110_5 ?_
    refine zx_al0 zd110_6 ?_
    (refine zx_gfI zd110_7 ?k175 ?_); (case k175 => first | exact zkk rfl (by omega) | exact zkk (zK_B0 (by omega)) (by omega) | exact zkk ((zK_B (by omega) (by decide)).trans rfl) (by omega) | exact zkk (zK_row (by omega) (by omega)) (by omega) | exact zkk (zK_file (by omega) (by omega)) (by omega) | exact zkk (zK_byte (by omega) (by omega)) (by omega) | exact zkk (zK_list (by omega)) (by omega) | assumption)
    rw [hn]
    first | ((with_reducible refine zx_icmpgeN zd110_10 ?s176 (fun h2 => ?_) (fun h2 => ?_)); (case s176 => omega)) | refine zx_icmpge zd110_10 (fun h2 => ?_) (fun h2 => ?_)
    · omega
    · refine zx_c zd110_13 ?_
      refine zx_goto zd110_14 ?_
      (refine zx_pfI zd110_18 ?k179 ?a179 ?_); (case k179 => first | exact zkk rfl (by omega) | exact zkk (zK_B0 (by omega)) (by omega) | exact zkk ((zK_B (by omega) (by decide)).trans rfl) (by omega) | exact zkk (zK_row (by omega) (by omega)) (by omega) | exact zkk (zK_file (by omega) (by omega)) (by omega) | exact zkk (zK_byte (by omega) (by omega)) (by omega) | exact zkk (zK_list (by omega)) (by omega) | assumption); (case a179 => omega)
      refine zx_al0 zd110_21 ?_
      (refine zx_gfI zd110_22 ?k181 ?_); (case k181 => first | exact zkk rfl (by omega) | exact zkk (zK_B0 (by omega)) (by omega) | exact zkk ((zK_B (by omega) (by decide)).trans rfl) (by omega) | exact zkk (zK_row (by omega) (by omega)) (by omega) | exact zkk (zK_file (by omega) (by omega)) (by omega) | exact zkk (zK_byte (by omega) (by omega)) (by omega) | exact zkk (zK_list (by omega)) (by omega) | assumption)
      rw [show zu I 436 0 (Int32.ofNat 0) 436 0 = Int32.ofNat 0 from rfl]
      first | ((with_reducible refine zx_ifeqN zd110_25 ?s182 (fun h3 => ?_) (fun h3 => ?_)); (case s182 => omega)) | refine zx_ifeq zd110_25 (fun h3 => ?_) (fun h3 => ?_)
      · refine zx_al0 zd110_30 ?_
        (refine' zx_gfA zd110_31 ?k184 ?r184 ?_); (case k184 => first | exact zkk rfl (by omega) | exact zkk (zK_B0 (by omega)) (by omega) | exact zkk ((zK_B (by omega) (by decide)).trans rfl) (by omega) | exact zkk (zK_row (by omega) (by omega)) (by omega) | exact zkk (zK_file (by omega) (by omega)) (by omega) | exact zkk (zK_byte (by omega) (by omega)) (by omega) | exact zkk (zK_list (by omega)) (by omega) | assumption); (case r184 => first | exact hR.1 _ _ _ rfl | assumption)
        refine zx_il1 zd110_34 ?_
        refine zx_al0 zd110_35 ?_
        (refine' zx_gfA zd110_36 ?k187 ?r187 ?_); (case k187 => first | exact zkk rfl (by omega) | exact zkk (zK_B0 (by omega)) (by omega) | exact zkk ((zK_B (by omega) (by decide)).trans rfl) (by omega) | exact zkk (zK_row (by omega) (by omega)) (by omega) | exact zkk (zK_file (by omega) (by omega)) (by omega) | exact zkk (zK_byte (by omega) (by omega)) (by omega) | exact zkk (zK_list (by omega)) (by omega) | assumption); (case r187 => first | exact hR.1 _ _ _ rfl | assumption)
        refine zx_il1 zd110_39 ?_
        (with_reducible refine' zx_ialdN zd110_40 ?k189 ?j189 ?_); (case k189 => first | exact zkk rfl (by omega) | exact zkk (zK_B0 (by omega)) (by omega) | exact zkk ((zK_B (by omega) (by decide)).trans rfl) (by omega) | exact zkk (zK_row (by omega) (by omega)) (by omega) | exact zkk (zK_file (by omega) (by omega)) (by omega) | exact zkk (zK_byte (by omega) (by omega)) (by omega) | exact zkk (zK_list (by omega)) (by omega) | assumption); (case j189 => omega)
        refine zx_il2 zd110_41 ?_
        refine zx_c zd110_42 ?_
        first | with_reducible refine zx_andN zd110_45 ?_ | refine zx_and zd110_45 ?_
        first | with_reducible refine zx_xorN zd110_46 ?_ | refine zx_xor zd110_46 ?_
        (with_reducible refine' zx_iastN zd110_47 ?k194 ?j194 ?a194 ?_); (case k194 => first | exact zkk rfl (by omega) | exact zkk (zK_B0 (by omega)) (by omega) | exact zkk ((zK_B (by omega) (by decide)).trans rfl) (by omega) | exact zkk (zK_row (by omega) (by omega)) (by omega) | exact zkk (zK_file (by omega) (by omega)) (by omega) | exact zkk (zK_byte (by omega) (by omega)) (by omega) | exact zkk (zK_list (by omega)) (by omega) | assumption); (case j194 => omega); (case a194 => omega)
        refine zx_il2 zd110_48 ?_
        refine zx_c zd110_49 ?_
        first | with_reducible refine zx_andN zd110_52 ?_ | refine zx_and zd110_52 ?_
        refine zx_ifeq zd110_53 (fun h4 => ?_) (fun h4 => ?_)
        · refine zx_c zd110_60 ?_
          refine zx_iret zd110_61 (Or.inr ⟨rfl, by first | exact Or.inl rfl | exact Or.inr rfl | assumption⟩) ?_
          rw [if_pos h4]; exact ⟨rfl, rfl⟩
        · refine zx_c zd110_56 ?_
          refine zx_goto zd110_57 ?_
          refine zx_iret zd110_61 (Or.inr ⟨rfl, by first | exact Or.inl rfl | exact Or.inr rfl | assumption⟩) ?_
          rw [if_neg h4]; exact ⟨rfl, rfl⟩
      · omega
/-- an event; approvals -/
theorem zm_not (hR : zRs R) (hN : 459 ≤ N) {n : Nat} (hn : I 436 24 = Int32.ofNat n) (hn1 : n ≤ 100) (a b x y : Int32) : zRet L 114 [.ref 436, .int a, .int b, .int x, .int y] (N, U, I, J, R) none (N, U, znot I n a b x y, J, R) := by
  show zW L 114 0 [some (.ref 436), some (.int a), some (.int b), some (.int x), some (.int y)] [] _ _
  unfold znot
  refine zx_al0 zd114_0 ?_
  (refine zx_gfI zd114_1 ?k204 ?_); (case k204 => first | exact zkk rfl (by omega) | exact zkk (zK_B0 (by omega)) (by omega) | exact zkk ((zK_B (by omega) (by decide)).trans rfl) (by omega) | exact zkk (zK_row (by omega) (by omega)) (by omega) | exact zkk (zK_file (by omega) (by omega)) (by omega) | exact zkk (zK_byte (by omega) (by omega)) (by omega) | exact zkk (zK_list (by omega)) (by omega) | assumption)
  rw [hn]
  refine zx_c zd114_4 ?_
  first | ((with_reducible refine zx_icmpneN zd114_6 ?s206 (fun h => ?_) (fun h => ?_)); (case s206 => omega)) | refine zx_icmpne zd114_6 (fun h => ?_) (fun h => ?_)
  · rw [if_pos (by omega)]
    refine zx_al0 zd114_10 ?_
    (refine' zx_gfA zd114_11 ?k208 ?r208 ?_); (case k208 => first | exact zkk rfl (by omega) | exact zkk (zK_B0 (by omega)) (by omega) | exact zkk ((zK_B (by omega) (by decide)).trans rfl) (by omega) | exact zkk (zK_row (by omega) (by omega)) (by omega) | exact zkk (zK_file (by omega) (by omega)) (by omega) | exact zkk (zK_byte (by omega) (by omega)) (by omega) | exact zkk (zK_list (by omega)) (by omega) | assumption); (case r208 => first | exact hR.1 _ _ _ rfl | assumption)
    refine zx_al0 zd114_14 ?_
    (refine zx_gfI zd114_15 ?k210 ?_); (case k210 => first | exact zkk rfl (by omega) | exact zkk (zK_B0 (by omega)) (by omega) | exact zkk ((zK_B (by omega) (by decide)).trans rfl) (by omega) | exact zkk (zK_row (by omega) (by omega)) (by omega) | exact zkk (zK_file (by omega) (by omega)) (by omega) | exact zkk (zK_byte (by omega) (by omega)) (by omega) | exact zkk (zK_list (by omega)) (by omega) | assumption)
    rw [hn]
    refine zx_il1 zd114_18 ?_
    (with_reducible refine' zx_iastN zd114_19 ?k212 ?j212 ?a212 ?_); (case k212 => first | exact zkk rfl (by omega) | exact zkk (zK_B0 (by omega)) (by omega) | exact zkk ((zK_B (by omega) (by decide)).trans rfl) (by omega) | exact zkk (zK_row (by omega) (by omega)) (by omega) | exact zkk (zK_file (by omega) (by omega)) (by omega) | exact zkk (zK_byte (by omega) (by omega)) (by omega) | exact zkk (zK_list (by omega)) (by omega) | assumption); (case j212 => omega); (case a212 => omega)
    refine zx_al0 zd114_20 ?_
    (refine' zx_gfA zd114_21 ?k214 ?r214 ?_); (case k214 => first | exact zkk rfl (by omega) | exact zkk (zK_B0 (by omega)) (by omega) | exact zkk ((zK_B (by omega) (by decide)).trans rfl) (by omega) | exact zkk (zK_row (by omega) (by omega)) (by omega) | exact zkk (zK_file (by omega) (by omega)) (by omega) | exact zkk (zK_byte (by omega) (by omega)) (by omega) | exact zkk (zK_list (by omega)) (by omega) | assumption); (case r214 => first | exact hR.1 _ _ _ rfl | assumption)
    refine zx_al0 zd114_24 ?_
    (refine zx_gfI zd114_25 ?k216 ?_); (case k216 => first | exact zkk rfl (by omega) | exact zkk (zK_B0 (by omega)) (by omega) | exact zkk ((zK_B (by omega) (by decide)).trans rfl) (by omega) | exact zkk (zK_row (by omega) (by omega)) (by omega) | exact zkk (zK_file (by omega) (by omega)) (by omega) | exact zkk (zK_byte (by omega) (by omega)) (by omega) | exact zkk (zK_list (by omega)) (by omega) | assumption)
    rw [show zu I 454 n a 436 24 = I 436 24 from rfl, hn]
    refine zx_il2 zd114_28 ?_
    (with_reducible refine' zx_iastN zd114_29 ?k218 ?j218 ?a218 ?_); (case k218 => first | exact zkk rfl (by omega) | exact zkk (zK_B0 (by omega)) (by omega) | exact zkk ((zK_B (by omega) (by decide)).trans rfl) (by omega) | exact zkk (zK_row (by omega) (by omega)) (by omega) | exact zkk (zK_file (by omega) (by omega)) (by omega) | exact zkk (zK_byte (by omega) (by omega)) (by omega) | exact zkk (zK_list (by omega)) (by omega) | assumption); (case j218 => omega); (case a218 => omega)
    refine zx_al0 zd114_30 ?_
    (refine' zx_gfA zd114_31 ?k220 ?r220 ?_); (case k220 => first | exact zkk rfl (by omega) | exact zkk (zK_B0 (by omega)) (by omega) | exact zkk ((zK_B (by omega) (by decide)).trans rfl) (by omega) | exact zkk (zK_row (by omega) (by omega)) (by omega) | exact zkk (zK_file (by omega) (by omega)) (by omega) | exact zkk (zK_byte (by omega) (by omega)) (by omega) | exact zkk (zK_list (by omega)) (by omega) | assumption); (case r220 => first | exact hR.1 _ _ _ rfl | assumption)
    refine zx_al0 zd114_34 ?_
    (refine zx_gfI zd114_35 ?k222 ?_); (case k222 => first | exact zkk rfl (by omega) | exact zkk (zK_B0 (by omega)) (by omega) | exact zkk ((zK_B (by omega) (by decide)).trans rfl) (by omega) | exact zkk (zK_row (by omega) (by omega)) (by omega) | exact zkk (zK_file (by omega) (by omega)) (by omega) | exact zkk (zK_byte (by omega) (by omega)) (by omega) | exact zkk (zK_list (by omega)) (by omega) | assumption)
    rw [show zu (zu I 454 n a) 455 n b 436 24 = I 436 24 from rfl, hn]
    refine zx_il3 zd114_38 ?_
    (with_reducible refine' zx_iastN zd114_39 ?k224 ?j224 ?a224 ?_); (case k224 => first | exact zkk rfl (by omega) | exact zkk (zK_B0 (by omega)) (by omega) | exact zkk ((zK_B (by omega) (by decide)).trans rfl) (by omega) | exact zkk (zK_row (by omega) (by omega)) (by omega) | exact zkk (zK_file (by omega) (by omega)) (by omega) | exact zkk (zK_byte (by omega) (by omega)) (by omega) | exact zkk (zK_list (by omega)) (by omega) | assumption); (case j224 => omega); (case a224 => omega)
    refine zx_al0 zd114_40 ?_
    (refine' zx_gfA zd114_41 ?k226 ?r226 ?_); (case k226 => first | exact zkk rfl (by omega) | exact zkk (zK_B0 (by omega)) (by omega) | exact zkk ((zK_B (by omega) (by decide)).trans rfl) (by omega) | exact zkk (zK_row (by omega) (by omega)) (by omega) | exact zkk (zK_file (by omega) (by omega)) (by omega) | exact zkk (zK_byte (by omega) (by omega)) (by omega) | exact zkk (zK_list (by omega)) (by omega) | assumption); (case r226 => first | exact hR.1 _ _ _ rfl | assumption)
    refine zx_al0 zd114_44 ?_
    (refine zx_gfI zd114_45 ?k228 ?_); (case k228 => first | exact zkk rfl (by omega) | exact zkk (zK_B0 (by omega)) (by omega) | exact zkk ((zK_B (by omega) (by decide)).trans rfl) (by omega) | exact zkk (zK_row (by omega) (by omega)) (by omega) | exact zkk (zK_file (by omega) (by omega)) (by omega) | exact zkk (zK_byte (by omega) (by omega)) (by omega) | exact zkk (zK_list (by omega)) (by omega) | assumption)
    rw [show zu (zu (zu I 454 n a) 455 n b) 456 n x 436 24 = I 436 24 from rfl, hn]
    refine zx_il4 zd114_48 ?_
    (with_reducible refine' zx_iastN zd114_50 ?k230 ?j230 ?a230 ?_); (case k230 => first | exact zkk rfl (by omega) | exact zkk (zK_B0 (by omega)) (by omega) | exact zkk ((zK_B (by omega) (by decide)).trans rfl) (by omega) | exact zkk (zK_row (by omega) (by omega)) (by omega) | exact zkk (zK_file (by omega) (by omega)) (by omega) | exact zkk (zK_byte (by omega) (by omega)) (by omega) | exact zkk (zK_list (by omega)) (by omega) | assumption); (case j230 => omega); (case a230 => omega)
    refine zx_al0 zd114_51 ?_
    first | refine zx_dupR zd114_52 ?_ | refine zx_dupI zd114_52 ?_
    (refine zx_gfI zd114_53 ?k233 ?_); (case k233 => first | exact zkk rfl (by omega) | exact zkk (zK_B0 (by omega)) (by omega) | exact zkk ((zK_B (by omega) (by decide)).trans rfl) (by omega) | exact zkk (zK_row (by omega) (by omega)) (by omega) | exact zkk (zK_file (by omega) (by omega)) (by omega) | exact zkk (zK_byte (by omega) (by omega)) (by omega) | exact zkk (zK_list (by omega)) (by omega) | assumption)
    rw [show zu (zu (zu (zu I 454 n a) 455 n b) 456 n x) 457 n y 436 24 = I 436 24 from rfl, hn]
    refine zx_c zd114_56 ?_
    first | with_reducible refine zx_addN zd114_57 ?_ | refine zx_add zd114_57 ?_
    (refine zx_pfI zd114_58 ?k236 ?a236 ?_); (case k236 => first | exact zkk rfl (by omega) | exact zkk (zK_B0 (by omega)) (by omega) | exact zkk ((zK_B (by omega) (by decide)).trans rfl) (by omega) | exact zkk (zK_row (by omega) (by omega)) (by omega) | exact zkk (zK_file (by omega) (by omega)) (by omega) | exact zkk (zK_byte (by omega) (by omega)) (by omega) | exact zkk (zK_list (by omega)) (by omega) | assumption); (case a236 => omega)
    refine zx_vret zd114_61 rfl ?_
    exact ⟨rfl, rfl⟩
  · rw [if_neg (by omega)]
    refine zx_vret zd114_9 rfl ?_
    exact ⟨rfl, rfl⟩
theorem zm_app0 (hR : zRs R) (hN : 459 ≤ N) {r : Nat} (hr : r < 10) : ∀ (k i : Nat) (b : Int32), i + k = 16 →
    zW L 115 4 [some (.ref 436), some (.int (Int32.ofNat r)), some (.int b), some (.int (Int32.ofNat i))] [] (N, U, I, J, R) (fun o h => o = .inl (some (.int (zbi (!decide (zbts (fun p => I 451 (16 * r + p)) b i k &&& (zbts (fun p => I 451 (16 * r + p)) b i k - Int32.ofNat 1) = 0))))) ∧ h = (N, U, I, J, R)) := by
  intro k
  induction k with
  | zero =>
    intro i b hi
    refine zx_il3 zd115_4 ?_
    refine zx_c zd115_5 ?_
    first | ((with_reducible refine zx_icmpgeN zd115_7 ?s241 (fun h => ?_) (fun h => ?_)); (case s241 => omega)) | refine zx_icmpge zd115_7 (fun h => ?_) (fun h => ?_)
    · refine zx_il2 zd115_50 ?_
      refine zx_il2 zd115_51 ?_
      refine zx_c zd115_52 ?_
      refine zx_sub zd115_53 ?_
      first | with_reducible refine zx_andN zd115_54 ?_ | refine zx_and zd115_54 ?_
      show zW L 115 55 _ _ _ (fun o h => o = .inl (some (.int (zbi (!decide (b &&& (b - Int32.ofNat 1) = 0))))) ∧ h = (N, U, I, J, R))
      refine zx_ifeq zd115_55 (fun h2 => ?_) (fun h2 => ?_)
      · refine zx_c zd115_62 ?_
        refine zx_iret zd115_63 (Or.inr ⟨rfl, by first | exact Or.inl rfl | exact Or.inr rfl | assumption⟩) ?_
        rw [decide_eq_true h2]; exact ⟨rfl, rfl⟩
      · refine zx_c zd115_58 ?_
        refine zx_goto zd115_59 ?_
        refine zx_iret zd115_63 (Or.inr ⟨rfl, by first | exact Or.inl rfl | exact Or.inr rfl | assumption⟩) ?_
        rw [decide_eq_false h2]; exact ⟨rfl, rfl⟩
    · omega
  | succ k ih =>
    intro i b hi
    refine zx_il3 zd115_4 ?_
    refine zx_c zd115_5 ?_
    first | ((with_reducible refine zx_icmpgeN zd115_7 ?s253 (fun h => ?_) (fun h => ?_)); (case s253 => omega)) | refine zx_icmpge zd115_7 (fun h => ?_) (fun h => ?_)
    · omega
    · refine zx_al0 zd115_10 ?_
      (refine' zx_gfA zd115_11 ?k255 ?r255 ?_); (case k255 => first | exact zkk rfl (by omega) | exact zkk (zK_B0 (by omega)) (by omega) | exact zkk ((zK_B (by omega) (by decide)).trans rfl) (by omega) | exact zkk (zK_row (by omega) (by omega)) (by omega) | exact zkk (zK_file (by omega) (by omega)) (by omega) | exact zkk (zK_byte (by omega) (by omega)) (by omega) | exact zkk (zK_list (by omega)) (by omega) | assumption); (case r255 => first | exact hR.1 _ _ _ rfl | assumption)
      refine zx_c zd115_14 ?_
      refine zx_il1 zd115_16 ?_
      first | with_reducible refine zx_mulN zd115_17 ?_ | refine zx_mul zd115_17 ?_
      refine zx_il3 zd115_18 ?_
      first | with_reducible refine zx_addN zd115_19 ?_ | refine zx_add zd115_19 ?_
      (with_reducible refine' zx_ialdN zd115_20 ?k261 ?j261 ?_); (case k261 => first | exact zkk rfl (by omega) | exact zkk (zK_B0 (by omega)) (by omega) | exact zkk ((zK_B (by omega) (by decide)).trans rfl) (by omega) | exact zkk (zK_row (by omega) (by omega)) (by omega) | exact zkk (zK_file (by omega) (by omega)) (by omega) | exact zkk (zK_byte (by omega) (by omega)) (by omega) | exact zkk (zK_list (by omega)) (by omega) | assumption); (case j261 => omega)
      refine zx_ifle zd115_21 (fun h2 => ?_) (fun h2 => ?_)
      · refine zx_il2 zd115_42 ?_
        refine zx_is2 zd115_43 rfl ?_
        first | with_reducible refine zx_iin3 zd115_44 ?_ | refine zx_ii3 zd115_44 ?_
        refine zx_goto zd115_47 ?_
        have e : zbts (fun p => I 451 (16 * r + p)) b i (k + 1) = zbts (fun p => I 451 (16 * r + p)) b (i + 1) k := by
          show zbts _ (if _ then _ else _) _ _ = _
          rw [if_neg h2]
        rw [e]; exact ih (i + 1) b (by omega)
      · refine zx_il2 zd115_24 ?_
        refine zx_c zd115_25 ?_
        refine zx_al0 zd115_26 ?_
        (refine' zx_gfA zd115_27 ?k269 ?r269 ?_); (case k269 => first | exact zkk rfl (by omega) | exact zkk (zK_B0 (by omega)) (by omega) | exact zkk ((zK_B (by omega) (by decide)).trans rfl) (by omega) | exact zkk (zK_row (by omega) (by omega)) (by omega) | exact zkk (zK_file (by omega) (by omega)) (by omega) | exact zkk (zK_byte (by omega) (by omega)) (by omega) | exact zkk (zK_list (by omega)) (by omega) | assumption); (case r269 => first | exact hR.1 _ _ _ rfl | assumption)
        refine zx_c zd115_30 ?_
        refine zx_il1 zd115_32 ?_
        first | with_reducible refine zx_mulN zd115_33 ?_ | refine zx_mul zd115_33 ?_
        refine zx_il3 zd115_34 ?_
        first | with_reducible refine zx_addN zd115_35 ?_ | refine zx_add zd115_35 ?_
        (with_reducible refine' zx_ialdN zd115_36 ?k275 ?j275 ?_); (case k275 => first | exact zkk rfl (by omega) | exact zkk (zK_B0 (by omega)) (by omega) | exact zkk ((zK_B (by omega) (by decide)).trans rfl) (by omega) | exact zkk (zK_row (by omega) (by omega)) (by omega) | exact zkk (zK_file (by omega) (by omega)) (by omega) | exact zkk (zK_byte (by omega) (by omega)) (by omega) | exact zkk (zK_list (by omega)) (by omega) | assumption); (case j275 => omega)
        refine zx_shl zd115_37 ?_
        refine zx_or zd115_38 ?_
        refine zx_goto zd115_39 ?_
        refine zx_is2 zd115_43 rfl ?_
        first | with_reducible refine zx_iin3 zd115_44 ?_ | refine zx_ii3 zd115_44 ?_
        refine zx_goto zd115_47 ?_
        have e : zbts (fun p => I 451 (16 * r + p)) b i (k + 1) = zbts (fun p => I 451 (16 * r + p)) (b ||| zshl (Int32.ofNat 1) (I 451 (16 * r + i))) (i + 1) k := by
          show zbts _ (if _ then _ else _) _ _ = _
          rw [if_pos h2]
        rw [e]; exact ih (i + 1) _ (by omega)
theorem zm_app (hR : zRs R) (hN : 459 ≤ N) {r : Nat} (hr : r < 10) : zRet L 115 [.ref 436, .int (Int32.ofNat r)] (N, U, I, J, R) (some (.int (zbi (zmap (fun p => I 451 (16 * r + p)))))) (N, U, I, J, R) := by
  show zW L 115 0 [some (.ref 436), some (.int (Int32.ofNat r)), none, none] [] _ _
  refine zx_c zd115_0 ?_
  refine zx_is2 zd115_1 rfl ?_
  refine zx_c zd115_2 ?_
  refine zx_is3 zd115_3 rfl ?_
  exact zm_app0 hR hN hr 16 0 (Int32.ofNat 0) rfl
theorem zm_aprT (hR : zRs R) (hN : 459 ≤ N) (hc : I 436 8 = Int32.ofNat c) (hc10 : c ≤ 10) {x y z : Int32} {k : Nat} (hx : ((x < 0 ∨ ¬ x < Int32.ofNat c) ∧ k = 1) ∨ (¬ (x < 0 ∨ ¬ x < Int32.ofNat c) ∧ (y < 0 ∨ ¬ y < Int32.ofNat 16 ∨ z < 0 ∨ ¬ z < Int32.ofNat 4) ∧ k = 2)) : zRet L 113 [.ref 436, .int x, .int y, .int z] (N, U, I, J, R) (some (.int (Int32.ofNat 0))) (N, U, zT I k, J, R) := by
  have fin : ∀ k : Nat, k = 1 ∨ k = 2 → zW L 113 37 [some (.ref 436), some (.int x), some (.int y), some (.int z)] [.int (Int32.ofNat k), .ref 436] (N, U, I, J, R) (fun o h => o = .inl (some (.int (Int32.ofNat 0))) ∧ h = (N, U, zT I k, J, R)) := by
    intro k hk
    (refine zx_pfI zd113_37 ?k286 ?a286 ?_); (case k286 => first | exact zkk rfl (by omega) | exact zkk (zK_B0 (by omega)) (by omega) | exact zkk ((zK_B (by omega) (by decide)).trans rfl) (by omega) | exact zkk (zK_row (by omega) (by omega)) (by omega) | exact zkk (zK_file (by omega) (by omega)) (by omega) | exact zkk (zK_byte (by omega) (by omega)) (by omega) | exact zkk (zK_list (by omega)) (by omega) | assumption); (case a286 => omega)
    refine zx_al0 zd113_40 ?_
    (refine zx_gfI zd113_41 ?k288 ?_); (case k288 => first | exact zkk rfl (by omega) | exact zkk (zK_B0 (by omega)) (by omega) | exact zkk ((zK_B (by omega) (by decide)).trans rfl) (by omega) | exact zkk (zK_row (by omega) (by omega)) (by omega) | exact zkk (zK_file (by omega) (by omega)) (by omega) | exact zkk (zK_byte (by omega) (by omega)) (by omega) | exact zkk (zK_list (by omega)) (by omega) | assumption)
    rw [show zu I 436 0 (Int32.ofNat k) 436 0 = Int32.ofNat k from rfl]
    first | ((with_reducible refine zx_ifeqN zd113_44 ?s289 (fun h => ?_) (fun h => ?_)); (case s289 => omega)) | refine zx_ifeq zd113_44 (fun h => ?_) (fun h => ?_)
    · omega
    · refine zx_c zd113_47 ?_
      refine zx_iret zd113_48 (Or.inl rfl) ?_
      exact ⟨rfl, rfl⟩
  show zW L 113 0 [some (.ref 436), some (.int x), some (.int y), some (.int z)] [] _ _
  refine zx_al0 zd113_0 ?_
  refine zx_al0 zd113_1 ?_
  refine zx_il1 zd113_2 ?_
  rcases hx with ⟨hv, rfl⟩ | ⟨hv, hy, rfl⟩
  · (refine zx_cv1I zd113_3 ?k295 (zm_irN hN hc hv) ?_); (case k295 => first | exact zkk rfl (by omega) | exact zkk (zK_B0 (by omega)) (by omega) | exact zkk ((zK_B (by omega) (by decide)).trans rfl) (by omega) | exact zkk (zK_row (by omega) (by omega)) (by omega) | exact zkk (zK_file (by omega) (by omega)) (by omega) | exact zkk (zK_byte (by omega) (by omega)) (by omega) | exact zkk (zK_list (by omega)) (by omega) | assumption)
    first | ((with_reducible refine zx_ifneN zd113_6 ?s296 (fun h => ?_) (fun h => ?_)); (case s296 => omega)) | refine zx_ifne zd113_6 (fun h => ?_) (fun h => ?_)
    · omega
    · refine zx_c zd113_9 ?_
      refine zx_goto zd113_10 ?_
      exact fin 1 (Or.inl rfl)
  · obtain ⟨r, rfl, hr⟩ := zn_of (fun h => hv (Or.inl h)) (Classical.not_not.mp fun h => hv (Or.inr h)) (show c < 2147483648 by omega)
    (refine zx_cv1I zd113_3 ?k299 (zm_ir hN hc hc10 hr) ?_); (case k299 => first | exact zkk rfl (by omega) | exact zkk (zK_B0 (by omega)) (by omega) | exact zkk ((zK_B (by omega) (by decide)).trans rfl) (by omega) | exact zkk (zK_row (by omega) (by omega)) (by omega) | exact zkk (zK_file (by omega) (by omega)) (by omega) | exact zkk (zK_byte (by omega) (by omega)) (by omega) | exact zkk (zK_list (by omega)) (by omega) | assumption)
    first | ((with_reducible refine zx_ifneN zd113_6 ?s300 (fun h => ?_) (fun h => ?_)); (case s300 => omega)) | refine zx_ifne zd113_6 (fun h => ?_) (fun h => ?_)
    · refine zx_il2 zd113_13 ?_
      first | ((with_reducible refine zx_ifltN zd113_14 ?s302 (fun h2 => ?_) (fun h2 => ?_)); (case s302 => omega)) | refine zx_iflt zd113_14 (fun h2 => ?_) (fun h2 => ?_)
      · refine zx_c zd113_36 ?_
        exact fin 2 (Or.inr rfl)
      · refine zx_il2 zd113_17 ?_
        refine zx_c zd113_18 ?_
        refine zx_icmpge zd113_20 (fun h3 => ?_) (fun h3 => ?_)
        · refine zx_c zd113_36 ?_
          exact fin 2 (Or.inr rfl)
        · refine zx_il3 zd113_23 ?_
          first | ((with_reducible refine zx_ifltN zd113_24 ?s308 (fun h4 => ?_) (fun h4 => ?_)); (case s308 => omega)) | refine zx_iflt zd113_24 (fun h4 => ?_) (fun h4 => ?_)
          · refine zx_c zd113_36 ?_
            exact fin 2 (Or.inr rfl)
          · refine zx_il3 zd113_27 ?_
            refine zx_c zd113_28 ?_
            refine zx_icmpge zd113_29 (fun h5 => ?_) (fun h5 => ?_)
            · refine zx_c zd113_36 ?_
              exact fin 2 (Or.inr rfl)
            · rcases hy with hy | hy | hy | hy
              · exact absurd hy h2
              · exact absurd h3 hy
              · exact absurd hy h4
              · exact absurd h5 hy
    · omega
theorem zm_apr (hR : zRs R) (hN : 459 ≤ N) (hc : I 436 8 = Int32.ofNat c) (hc10 : c ≤ 10) {r p w n : Nat} (hr : r < c) (hp : p < 16) (hw : w < 4) (hn : I 436 24 = Int32.ofNat n) (hn1 : n ≤ 100) :
    zRet L 113 [.ref 436, .int (Int32.ofNat r), .int (Int32.ofNat p), .int (Int32.ofNat w)] (N, U, I, J, R) (some (.int (zbi (zmap (fun q => zup (I 451) (16 * r + p) (Int32.ofNat (1 + w)) (16 * r + q))))))
      (N, U, znot (zu (zT I 0) 451 (16 * r + p) (Int32.ofNat (1 + w))) n (Int32.ofNat r) (Int32.ofNat 0) (Int32.ofNat p) (Int32.ofNat w), J, R) := by
  show zW L 113 0 [some (.ref 436), some (.int (Int32.ofNat r)), some (.int (Int32.ofNat p)), some (.int (Int32.ofNat w))] [] _ _
  refine zx_al0 zd113_0 ?_
  refine zx_al0 zd113_1 ?_
  refine zx_il1 zd113_2 ?_
  (refine zx_cv1I zd113_3 ?k316 (zm_ir hN hc hc10 hr) ?_); (case k316 => first | exact zkk rfl (by omega) | exact zkk (zK_B0 (by omega)) (by omega) | exact zkk ((zK_B (by omega) (by decide)).trans rfl) (by omega) | exact zkk (zK_row (by omega) (by omega)) (by omega) | exact zkk (zK_file (by omega) (by omega)) (by omega) | exact zkk (zK_byte (by omega) (by omega)) (by omega) | exact zkk (zK_list (by omega)) (by omega) | assumption)
  first | ((with_reducible refine zx_ifneN zd113_6 ?s317 (fun h => ?_) (fun h => ?_)); (case s317 => omega)) | refine zx_ifne zd113_6 (fun h => ?_) (fun h => ?_)
  · refine zx_il2 zd113_13 ?_
    first | ((with_reducible refine zx_ifltN zd113_14 ?s319 (fun h2 => ?_) (fun h2 => ?_)); (case s319 => omega)) | refine zx_iflt zd113_14 (fun h2 => ?_) (fun h2 => ?_)
    · omega
    · refine zx_il2 zd113_17 ?_
      refine zx_c zd113_18 ?_
      first | ((with_reducible refine zx_icmpgeN zd113_20 ?s322 (fun h3 => ?_) (fun h3 => ?_)); (case s322 => omega)) | refine zx_icmpge zd113_20 (fun h3 => ?_) (fun h3 => ?_)
      · omega
      · refine zx_il3 zd113_23 ?_
        first | ((with_reducible refine zx_ifltN zd113_24 ?s324 (fun h4 => ?_) (fun h4 => ?_)); (case s324 => omega)) | refine zx_iflt zd113_24 (fun h4 => ?_) (fun h4 => ?_)
        · omega
        · refine zx_il3 zd113_27 ?_
          refine zx_c zd113_28 ?_
          first | ((with_reducible refine zx_icmpgeN zd113_29 ?s327 (fun h5 => ?_) (fun h5 => ?_)); (case s327 => omega)) | refine zx_icmpge zd113_29 (fun h5 => ?_) (fun h5 => ?_)
          · omega
          · refine zx_c zd113_32 ?_
            refine zx_goto zd113_33 ?_
            (refine zx_pfI zd113_37 ?k330 ?a330 ?_); (case k330 => first | exact zkk rfl (by omega) | exact zkk (zK_B0 (by omega)) (by omega) | exact zkk ((zK_B (by omega) (by decide)).trans rfl) (by omega) | exact zkk (zK_row (by omega) (by omega)) (by omega) | exact zkk (zK_file (by omega) (by omega)) (by omega) | exact zkk (zK_byte (by omega) (by omega)) (by omega) | exact zkk (zK_list (by omega)) (by omega) | assumption); (case a330 => omega)
            refine zx_al0 zd113_40 ?_
            (refine zx_gfI zd113_41 ?k332 ?_); (case k332 => first | exact zkk rfl (by omega) | exact zkk (zK_B0 (by omega)) (by omega) | exact zkk ((zK_B (by omega) (by decide)).trans rfl) (by omega) | exact zkk (zK_row (by omega) (by omega)) (by omega) | exact zkk (zK_file (by omega) (by omega)) (by omega) | exact zkk (zK_byte (by omega) (by omega)) (by omega) | exact zkk (zK_list (by omega)) (by omega) | assumption)
            rw [show zu I 436 0 (Int32.ofNat 0) 436 0 = Int32.ofNat 0 from rfl]
            first | ((with_reducible refine zx_ifeqN zd113_44 ?s333 (fun h6 => ?_) (fun h6 => ?_)); (case s333 => omega)) | refine zx_ifeq zd113_44 (fun h6 => ?_) (fun h6 => ?_)
            · refine zx_al0 zd113_49 ?_
              (refine' zx_gfA zd113_50 ?k335 ?r335 ?_); (case k335 => first | exact zkk rfl (by omega) | exact zkk (zK_B0 (by omega)) (by omega) | exact zkk ((zK_B (by omega) (by decide)).trans rfl) (by omega) | exact zkk (zK_row (by omega) (by omega)) (by omega) | exact zkk (zK_file (by omega) (by omega)) (by omega) | exact zkk (zK_byte (by omega) (by omega)) (by omega) | exact zkk (zK_list (by omega)) (by omega) | assumption); (case r335 => first | exact hR.1 _ _ _ rfl | assumption)
              refine zx_c zd113_53 ?_
              refine zx_il1 zd113_55 ?_
              first | with_reducible refine zx_mulN zd113_56 ?_ | refine zx_mul zd113_56 ?_
              refine zx_il2 zd113_57 ?_
              first | with_reducible refine zx_addN zd113_58 ?_ | refine zx_add zd113_58 ?_
              refine zx_c zd113_59 ?_
              refine zx_il3 zd113_60 ?_
              first | with_reducible refine zx_addN zd113_61 ?_ | refine zx_add zd113_61 ?_
              (with_reducible refine' zx_iastN zd113_62 ?k344 ?j344 ?a344 ?_); (case k344 => first | exact zkk rfl (by omega) | exact zkk (zK_B0 (by omega)) (by omega) | exact zkk ((zK_B (by omega) (by decide)).trans rfl) (by omega) | exact zkk (zK_row (by omega) (by omega)) (by omega) | exact zkk (zK_file (by omega) (by omega)) (by omega) | exact zkk (zK_byte (by omega) (by omega)) (by omega) | exact zkk (zK_list (by omega)) (by omega) | assumption); (case j344 => omega); (case a344 => omega)
              refine zx_al0 zd113_63 ?_
              refine zx_il1 zd113_64 ?_
              refine zx_c zd113_65 ?_
              refine zx_il2 zd113_66 ?_
              refine zx_il3 zd113_67 ?_
              (refine zx_cv4V zd113_68 ?k350 (zm_not hR hN (show zu (zu I 436 0 (Int32.ofNat 0)) 451 (16 * r + p) (Int32.ofNat (1 + w)) 436 24 = Int32.ofNat n from hn) hn1 _ _ _ _) ?_); (case k350 => first | exact zkk rfl (by omega) | exact zkk (zK_B0 (by omega)) (by omega) | exact zkk ((zK_B (by omega) (by decide)).trans rfl) (by omega) | exact zkk (zK_row (by omega) (by omega)) (by omega) | exact zkk (zK_file (by omega) (by omega)) (by omega) | exact zkk (zK_byte (by omega) (by omega)) (by omega) | exact zkk (zK_list (by omega)) (by omega) | assumption)
              refine zx_al0 zd113_71 ?_
              refine zx_il1 zd113_72 ?_
              (refine zx_cv1I zd113_73 ?k353 (zm_app hR hN (by omega)) ?_); (case k353 => first | exact zkk rfl (by omega) | exact zkk (zK_B0 (by omega)) (by omega) | exact zkk ((zK_B (by omega) (by decide)).trans rfl) (by omega) | exact zkk (zK_row (by omega) (by omega)) (by omega) | exact zkk (zK_file (by omega) (by omega)) (by omega) | exact zkk (zK_byte (by omega) (by omega)) (by omega) | exact zkk (zK_list (by omega)) (by omega) | assumption)
              have e : (fun q => znot (zu (zu I 436 0 (Int32.ofNat 0)) 451 (16 * r + p) (Int32.ofNat (1 + w))) n (Int32.ofNat r) (Int32.ofNat 0) (Int32.ofNat p) (Int32.ofNat w) 451 (16 * r + q)) = fun q => zup (I 451) (16 * r + p) (Int32.ofNat (1 + w)) (16 * r + q) := by
                funext q
                have e0 : zu (zu I 436 0 (Int32.ofNat 0)) 451 (16 * r + p) (Int32.ofNat (1 + w)) 451 (16 * r + q) = zup (I 451) (16 * r + p) (Int32.ofNat (1 + w)) (16 * r + q) := by
                  rw [zu_rw, zrw_at]; rfl
                unfold znot
                split
                · rw [← e0]; rfl
                · exact e0
              rw [e]
              cases hz : zmap (fun q => zup (I 451) (16 * r + p) (Int32.ofNat (1 + w)) (16 * r + q)) with
              | true =>
                show zW L 113 76 _ [.int (Int32.ofNat 1)] _ _
                first | ((with_reducible refine zx_ifeqN zd113_76 ?s354 (fun h7 => ?_) (fun h7 => ?_)); (case s354 => omega)) | refine zx_ifeq zd113_76 (fun h7 => ?_) (fun h7 => ?_)
                · omega
                · refine zx_c zd113_79 ?_
                  refine zx_goto zd113_80 ?_
                  refine zx_iret zd113_84 (Or.inl rfl) ?_
                  exact ⟨rfl, rfl⟩
              | false =>
                show zW L 113 76 _ [.int (Int32.ofNat 0)] _ _
                first | ((with_reducible refine zx_ifeqN zd113_76 ?s358 (fun h7 => ?_) (fun h7 => ?_)); (case s358 => omega)) | refine zx_ifeq zd113_76 (fun h7 => ?_) (fun h7 => ?_)
                · refine zx_c zd113_83 ?_
                  refine zx_iret zd113_84 (Or.inl rfl) ?_
                  exact ⟨rfl, rfl⟩
                · omega
            · omega
  · omega
/-- withdrawals and serial numbers -/
theorem zm_wdT (hR : zRs R) (hN : 459 ≤ N) (hc : I 436 8 = Int32.ofNat c) {x : Int32} (hx : x < 0 ∨ ¬ x < Int32.ofNat c) : zRet L 116 [.ref 436, .int x] (N, U, I, J, R) (some (.int (Int32.ofNat 0))) (N, U, zT I 1, J, R) := by
  show zW L 116 0 [some (.ref 436), some (.int x)] [] _ _
  refine zx_al0 zd116_0 ?_
  refine zx_al0 zd116_1 ?_
  refine zx_il1 zd116_2 ?_
  (refine zx_cv1I zd116_3 ?k364 (zm_irN hN hc hx) ?_); (case k364 => first | exact zkk rfl (by omega) | exact zkk (zK_B0 (by omega)) (by omega) | exact zkk ((zK_B (by omega) (by decide)).trans rfl) (by omega) | exact zkk (zK_row (by omega) (by omega)) (by omega) | exact zkk (zK_file (by omega) (by omega)) (by omega) | exact zkk (zK_byte (by omega) (by omega)) (by omega) | exact zkk (zK_list (by omega)) (by omega) | assumption)
  first | ((with_reducible refine zx_ifeqN zd116_6 ?s365 (fun h => ?_) (fun h => ?_)); (case s365 => omega)) | refine zx_ifeq zd116_6 (fun h => ?_) (fun h => ?_)
  · refine zx_c zd116_13 ?_
    (refine zx_pfI zd116_14 ?k367 ?a367 ?_); (case k367 => first | exact zkk rfl (by omega) | exact zkk (zK_B0 (by omega)) (by omega) | exact zkk ((zK_B (by omega) (by decide)).trans rfl) (by omega) | exact zkk (zK_row (by omega) (by omega)) (by omega) | exact zkk (zK_file (by omega) (by omega)) (by omega) | exact zkk (zK_byte (by omega) (by omega)) (by omega) | exact zkk (zK_list (by omega)) (by omega) | assumption); (case a367 => omega)
    refine zx_al0 zd116_17 ?_
    (refine zx_gfI zd116_18 ?k369 ?_); (case k369 => first | exact zkk rfl (by omega) | exact zkk (zK_B0 (by omega)) (by omega) | exact zkk ((zK_B (by omega) (by decide)).trans rfl) (by omega) | exact zkk (zK_row (by omega) (by omega)) (by omega) | exact zkk (zK_file (by omega) (by omega)) (by omega) | exact zkk (zK_byte (by omega) (by omega)) (by omega) | exact zkk (zK_list (by omega)) (by omega) | assumption)
    rw [show zu I 436 0 (Int32.ofNat 1) 436 0 = Int32.ofNat 1 from rfl]
    first | ((with_reducible refine zx_ifeqN zd116_21 ?s370 (fun h2 => ?_) (fun h2 => ?_)); (case s370 => omega)) | refine zx_ifeq zd116_21 (fun h2 => ?_) (fun h2 => ?_)
    · omega
    · refine zx_c zd116_24 ?_
      refine zx_iret zd116_25 (Or.inl rfl) ?_
      exact ⟨rfl, rfl⟩
  · omega
theorem zm_wdN (hR : zRs R) (hN : 459 ≤ N) (hc : I 436 8 = Int32.ofNat c) (hc10 : c ≤ 10) {r : Nat} (hr : r < c) (hw : I 452 r = Int32.ofNat 1) : zRet L 116 [.ref 436, .int (Int32.ofNat r)] (N, U, I, J, R) (some (.int (-1))) (N, U, zT I 0, J, R) := by
  show zW L 116 0 [some (.ref 436), some (.int (Int32.ofNat r))] [] _ _
  refine zx_al0 zd116_0 ?_
  refine zx_al0 zd116_1 ?_
  refine zx_il1 zd116_2 ?_
  (refine zx_cv1I zd116_3 ?k376 (zm_ir hN hc hc10 hr) ?_); (case k376 => first | exact zkk rfl (by omega) | exact zkk (zK_B0 (by omega)) (by omega) | exact zkk ((zK_B (by omega) (by decide)).trans rfl) (by omega) | exact zkk (zK_row (by omega) (by omega)) (by omega) | exact zkk (zK_file (by omega) (by omega)) (by omega) | exact zkk (zK_byte (by omega) (by omega)) (by omega) | exact zkk (zK_list (by omega)) (by omega) | assumption)
  first | ((with_reducible refine zx_ifeqN zd116_6 ?s377 (fun h => ?_) (fun h => ?_)); (case s377 => omega)) | refine zx_ifeq zd116_6 (fun h => ?_) (fun h => ?_)
  · omega
  · refine zx_c zd116_9 ?_
    refine zx_goto zd116_10 ?_
    (refine zx_pfI zd116_14 ?k380 ?a380 ?_); (case k380 => first | exact zkk rfl (by omega) | exact zkk (zK_B0 (by omega)) (by omega) | exact zkk ((zK_B (by omega) (by decide)).trans rfl) (by omega) | exact zkk (zK_row (by omega) (by omega)) (by omega) | exact zkk (zK_file (by omega) (by omega)) (by omega) | exact zkk (zK_byte (by omega) (by omega)) (by omega) | exact zkk (zK_list (by omega)) (by omega) | assumption); (case a380 => omega)
    refine zx_al0 zd116_17 ?_
    (refine zx_gfI zd116_18 ?k382 ?_); (case k382 => first | exact zkk rfl (by omega) | exact zkk (zK_B0 (by omega)) (by omega) | exact zkk ((zK_B (by omega) (by decide)).trans rfl) (by omega) | exact zkk (zK_row (by omega) (by omega)) (by omega) | exact zkk (zK_file (by omega) (by omega)) (by omega) | exact zkk (zK_byte (by omega) (by omega)) (by omega) | exact zkk (zK_list (by omega)) (by omega) | assumption)
    rw [show zu I 436 0 (Int32.ofNat 0) 436 0 = Int32.ofNat 0 from rfl]
    first | ((with_reducible refine zx_ifeqN zd116_21 ?s383 (fun h2 => ?_) (fun h2 => ?_)); (case s383 => omega)) | refine zx_ifeq zd116_21 (fun h2 => ?_) (fun h2 => ?_)
    · refine zx_al0 zd116_26 ?_
      (refine' zx_gfA zd116_27 ?k385 ?r385 ?_); (case k385 => first | exact zkk rfl (by omega) | exact zkk (zK_B0 (by omega)) (by omega) | exact zkk ((zK_B (by omega) (by decide)).trans rfl) (by omega) | exact zkk (zK_row (by omega) (by omega)) (by omega) | exact zkk (zK_file (by omega) (by omega)) (by omega) | exact zkk (zK_byte (by omega) (by omega)) (by omega) | exact zkk (zK_list (by omega)) (by omega) | assumption); (case r385 => first | exact hR.1 _ _ _ rfl | assumption)
      refine zx_il1 zd116_30 ?_
      (with_reducible refine' zx_zaldN zd116_31 ?k387 ?j387 ?_); (case k387 => first | exact zkk rfl (by omega) | exact zkk (zK_B0 (by omega)) (by omega) | exact zkk ((zK_B (by omega) (by decide)).trans rfl) (by omega) | exact zkk (zK_row (by omega) (by omega)) (by omega) | exact zkk (zK_file (by omega) (by omega)) (by omega) | exact zkk (zK_byte (by omega) (by omega)) (by omega) | exact zkk (zK_list (by omega)) (by omega) | assumption); (case j387 => omega)
      rw [show zu I 436 0 (Int32.ofNat 0) 452 r = I 452 r from rfl, hw]
      first | ((with_reducible refine zx_ifeqN zd116_32 ?s388 (fun h3 => ?_) (fun h3 => ?_)); (case s388 => omega)) | refine zx_ifeq zd116_32 (fun h3 => ?_) (fun h3 => ?_)
      · omega
      · refine zx_c zd116_35 ?_
        refine zx_iret zd116_36 (Or.inl rfl) ?_
        exact ⟨rfl, rfl⟩
    · omega
theorem zm_wd (hR : zRs R) (hN : 459 ≤ N) (hc : I 436 8 = Int32.ofNat c) (hc10 : c ≤ 10) {r n : Nat} (hr : r < c) (hw : I 452 r = Int32.ofNat 0) (hn : I 436 24 = Int32.ofNat n) (hn1 : n ≤ 100) :
    zRet L 116 [.ref 436, .int (Int32.ofNat r)] (N, U, I, J, R) (some (.int (I 436 21 + Int32.ofNat 1))) (N, U, znot (zu (zu (zT I 0) 452 r (Int32.ofNat 1)) 436 21 (I 436 21 + Int32.ofNat 1)) n (Int32.ofNat r) (Int32.ofNat 2) (-1) (-1), J, R) := by
  show zW L 116 0 [some (.ref 436), some (.int (Int32.ofNat r))] [] _ _
  refine zx_al0 zd116_0 ?_
  refine zx_al0 zd116_1 ?_
  refine zx_il1 zd116_2 ?_
  (refine zx_cv1I zd116_3 ?k394 (zm_ir hN hc hc10 hr) ?_); (case k394 => first | exact zkk rfl (by omega) | exact zkk (zK_B0 (by omega)) (by omega) | exact zkk ((zK_B (by omega) (by decide)).trans rfl) (by omega) | exact zkk (zK_row (by omega) (by omega)) (by omega) | exact zkk (zK_file (by omega) (by omega)) (by omega) | exact zkk (zK_byte (by omega) (by omega)) (by omega) | exact zkk (zK_list (by omega)) (by omega) | assumption)
  first | ((with_reducible refine zx_ifeqN zd116_6 ?s395 (fun h => ?_) (fun h => ?_)); (case s395 => omega)) | refine zx_ifeq zd116_6 (fun h => ?_) (fun h => ?_)
  · omega
  · refine zx_c zd116_9 ?_
    refine zx_goto zd116_10 ?_
    (refine zx_pfI zd116_14 ?k398 ?a398 ?_); (case k398 => first | exact zkk rfl (by omega) | exact zkk (zK_B0 (by omega)) (by omega) | exact zkk ((zK_B (by omega) (by decide)).trans rfl) (by omega) | exact zkk (zK_row (by omega) (by omega)) (by omega) | exact zkk (zK_file (by omega) (by omega)) (by omega) | exact zkk (zK_byte (by omega) (by omega)) (by omega) | exact zkk (zK_list (by omega)) (by omega) | assumption); (case a398 => omega)
    refine zx_al0 zd116_17 ?_
    (refine zx_gfI zd116_18 ?k400 ?_); (case k400 => first | exact zkk rfl (by omega) | exact zkk (zK_B0 (by omega)) (by omega) | exact zkk ((zK_B (by omega) (by decide)).trans rfl) (by omega) | exact zkk (zK_row (by omega) (by omega)) (by omega) | exact zkk (zK_file (by omega) (by omega)) (by omega) | exact zkk (zK_byte (by omega) (by omega)) (by omega) | exact zkk (zK_list (by omega)) (by omega) | assumption)
    rw [show zu I 436 0 (Int32.ofNat 0) 436 0 = Int32.ofNat 0 from rfl]
    first | ((with_reducible refine zx_ifeqN zd116_21 ?s401 (fun h2 => ?_) (fun h2 => ?_)); (case s401 => omega)) | refine zx_ifeq zd116_21 (fun h2 => ?_) (fun h2 => ?_)
    · refine zx_al0 zd116_26 ?_
      (refine' zx_gfA zd116_27 ?k403 ?r403 ?_); (case k403 => first | exact zkk rfl (by omega) | exact zkk (zK_B0 (by omega)) (by omega) | exact zkk ((zK_B (by omega) (by decide)).trans rfl) (by omega) | exact zkk (zK_row (by omega) (by omega)) (by omega) | exact zkk (zK_file (by omega) (by omega)) (by omega) | exact zkk (zK_byte (by omega) (by omega)) (by omega) | exact zkk (zK_list (by omega)) (by omega) | assumption); (case r403 => first | exact hR.1 _ _ _ rfl | assumption)
      refine zx_il1 zd116_30 ?_
      (with_reducible refine' zx_zaldN zd116_31 ?k405 ?j405 ?_); (case k405 => first | exact zkk rfl (by omega) | exact zkk (zK_B0 (by omega)) (by omega) | exact zkk ((zK_B (by omega) (by decide)).trans rfl) (by omega) | exact zkk (zK_row (by omega) (by omega)) (by omega) | exact zkk (zK_file (by omega) (by omega)) (by omega) | exact zkk (zK_byte (by omega) (by omega)) (by omega) | exact zkk (zK_list (by omega)) (by omega) | assumption); (case j405 => omega)
      rw [show zu I 436 0 (Int32.ofNat 0) 452 r = I 452 r from rfl, hw]
      first | ((with_reducible refine zx_ifeqN zd116_32 ?s406 (fun h3 => ?_) (fun h3 => ?_)); (case s406 => omega)) | refine zx_ifeq zd116_32 (fun h3 => ?_) (fun h3 => ?_)
      · refine zx_al0 zd116_37 ?_
        (refine' zx_gfA zd116_38 ?k408 ?r408 ?_); (case k408 => first | exact zkk rfl (by omega) | exact zkk (zK_B0 (by omega)) (by omega) | exact zkk ((zK_B (by omega) (by decide)).trans rfl) (by omega) | exact zkk (zK_row (by omega) (by omega)) (by omega) | exact zkk (zK_file (by omega) (by omega)) (by omega) | exact zkk (zK_byte (by omega) (by omega)) (by omega) | exact zkk (zK_list (by omega)) (by omega) | assumption); (case r408 => first | exact hR.1 _ _ _ rfl | assumption)
        refine zx_il1 zd116_41 ?_
        refine zx_c zd116_42 ?_
        (with_reducible refine' zx_zastN zd116_43 ?k411 ?j411 ?a411 ?v411 ?_); (case k411 => first | exact zkk rfl (by omega) | exact zkk (zK_B0 (by omega)) (by omega) | exact zkk ((zK_B (by omega) (by decide)).trans rfl) (by omega) | exact zkk (zK_row (by omega) (by omega)) (by omega) | exact zkk (zK_file (by omega) (by omega)) (by omega) | exact zkk (zK_byte (by omega) (by omega)) (by omega) | exact zkk (zK_list (by omega)) (by omega) | assumption); (case j411 => omega); (case a411 => omega); (case v411 => first | exact Or.inl rfl | exact Or.inr rfl | assumption)
        refine zx_al0 zd116_44 ?_
        first | refine zx_dupR zd116_45 ?_ | refine zx_dupI zd116_45 ?_
        (refine zx_gfI zd116_46 ?k414 ?_); (case k414 => first | exact zkk rfl (by omega) | exact zkk (zK_B0 (by omega)) (by omega) | exact zkk ((zK_B (by omega) (by decide)).trans rfl) (by omega) | exact zkk (zK_row (by omega) (by omega)) (by omega) | exact zkk (zK_file (by omega) (by omega)) (by omega) | exact zkk (zK_byte (by omega) (by omega)) (by omega) | exact zkk (zK_list (by omega)) (by omega) | assumption)
        rw [show zu (zu I 436 0 (Int32.ofNat 0)) 452 r (Int32.ofNat 1) 436 21 = I 436 21 from rfl]
        refine zx_c zd116_49 ?_
        refine zx_add zd116_50 ?_
        (refine zx_pfI zd116_51 ?k415 ?a415 ?_); (case k415 => first | exact zkk rfl (by omega) | exact zkk (zK_B0 (by omega)) (by omega) | exact zkk ((zK_B (by omega) (by decide)).trans rfl) (by omega) | exact zkk (zK_row (by omega) (by omega)) (by omega) | exact zkk (zK_file (by omega) (by omega)) (by omega) | exact zkk (zK_byte (by omega) (by omega)) (by omega) | exact zkk (zK_list (by omega)) (by omega) | assumption); (case a415 => omega)
        refine zx_al0 zd116_54 ?_
        refine zx_il1 zd116_55 ?_
        refine zx_c zd116_56 ?_
        refine zx_c zd116_57 ?_
        refine zx_c zd116_58 ?_
        (refine zx_cv4V zd116_59 ?k421 (zm_not hR hN (show zu (zu (zu I 436 0 (Int32.ofNat 0)) 452 r (Int32.ofNat 1)) 436 21 (I 436 21 + Int32.ofNat 1) 436 24 = Int32.ofNat n from hn) hn1 _ _ _ _) ?_); (case k421 => first | exact zkk rfl (by omega) | exact zkk (zK_B0 (by omega)) (by omega) | exact zkk ((zK_B (by omega) (by decide)).trans rfl) (by omega) | exact zkk (zK_row (by omega) (by omega)) (by omega) | exact zkk (zK_file (by omega) (by omega)) (by omega) | exact zkk (zK_byte (by omega) (by omega)) (by omega) | exact zkk (zK_list (by omega)) (by omega) | assumption)
        refine zx_al0 zd116_62 ?_
        (refine zx_gfI zd116_63 ?k423 ?_); (case k423 => first | exact zkk rfl (by omega) | exact zkk (zK_B0 (by omega)) (by omega) | exact zkk ((zK_B (by omega) (by decide)).trans rfl) (by omega) | exact zkk (zK_row (by omega) (by omega)) (by omega) | exact zkk (zK_file (by omega) (by omega)) (by omega) | exact zkk (zK_byte (by omega) (by omega)) (by omega) | exact zkk (zK_list (by omega)) (by omega) | assumption)
        have e : znot (zu (zu (zu I 436 0 (Int32.ofNat 0)) 452 r (Int32.ofNat 1)) 436 21 (I 436 21 + Int32.ofNat 1)) n (Int32.ofNat r) (Int32.ofNat 2) (-1) (-1) 436 21 = I 436 21 + Int32.ofNat 1 := by
          unfold znot
          split <;> rfl
        rw [e]
        refine zx_iret zd116_66 (Or.inl rfl) ?_
        exact ⟨rfl, rfl⟩
      · omega
    · omega
theorem zm_srT (hR : zRs R) (hN : 459 ≤ N) (hc : I 436 8 = Int32.ofNat c) {x : Int32} (hx : x < 0 ∨ ¬ x < Int32.ofNat c) : zRet L 117 [.ref 436, .int x] (N, U, I, J, R) (some (.int (Int32.ofNat 0))) (N, U, zT I 1, J, R) := by
  show zW L 117 0 [some (.ref 436), some (.int x)] [] _ _
  refine zx_al0 zd117_0 ?_
  refine zx_al0 zd117_1 ?_
  refine zx_il1 zd117_2 ?_
  (refine zx_cv1I zd117_3 ?k428 (zm_irN hN hc hx) ?_); (case k428 => first | exact zkk rfl (by omega) | exact zkk (zK_B0 (by omega)) (by omega) | exact zkk ((zK_B (by omega) (by decide)).trans rfl) (by omega) | exact zkk (zK_row (by omega) (by omega)) (by omega) | exact zkk (zK_file (by omega) (by omega)) (by omega) | exact zkk (zK_byte (by omega) (by omega)) (by omega) | exact zkk (zK_list (by omega)) (by omega) | assumption)
  first | ((with_reducible refine zx_ifeqN zd117_6 ?s429 (fun h => ?_) (fun h => ?_)); (case s429 => omega)) | refine zx_ifeq zd117_6 (fun h => ?_) (fun h => ?_)
  · refine zx_c zd117_13 ?_
    (refine zx_pfI zd117_14 ?k431 ?a431 ?_); (case k431 => first | exact zkk rfl (by omega) | exact zkk (zK_B0 (by omega)) (by omega) | exact zkk ((zK_B (by omega) (by decide)).trans rfl) (by omega) | exact zkk (zK_row (by omega) (by omega)) (by omega) | exact zkk (zK_file (by omega) (by omega)) (by omega) | exact zkk (zK_byte (by omega) (by omega)) (by omega) | exact zkk (zK_list (by omega)) (by omega) | assumption); (case a431 => omega)
    refine zx_al0 zd117_17 ?_
    (refine zx_gfI zd117_18 ?k433 ?_); (case k433 => first | exact zkk rfl (by omega) | exact zkk (zK_B0 (by omega)) (by omega) | exact zkk ((zK_B (by omega) (by decide)).trans rfl) (by omega) | exact zkk (zK_row (by omega) (by omega)) (by omega) | exact zkk (zK_file (by omega) (by omega)) (by omega) | exact zkk (zK_byte (by omega) (by omega)) (by omega) | exact zkk (zK_list (by omega)) (by omega) | assumption)
    rw [show zu I 436 0 (Int32.ofNat 1) 436 0 = Int32.ofNat 1 from rfl]
    first | ((with_reducible refine zx_ifeqN zd117_21 ?s434 (fun h2 => ?_) (fun h2 => ?_)); (case s434 => omega)) | refine zx_ifeq zd117_21 (fun h2 => ?_) (fun h2 => ?_)
    · omega
    · refine zx_c zd117_24 ?_
      refine zx_iret zd117_25 (Or.inl rfl) ?_
      exact ⟨rfl, rfl⟩
  · omega
theorem zm_srN (hR : zRs R) (hN : 459 ≤ N) (hc : I 436 8 = Int32.ofNat c) (hc10 : c ≤ 10) {r n s : Nat} (hr : r < c) (hn : I 452 r = Int32.ofNat n) (hn1 : n ≤ 1) (hs : I 436 22 = Int32.ofNat s) (hs1 : s ≤ 60) (hx : n = 1 ∨ zmap (fun p => I 451 (16 * r + p)) = false ∨ s = 60) : zRet L 117 [.ref 436, .int (Int32.ofNat r)] (N, U, I, J, R) (some (.int (-1))) (N, U, zT I 0, J, R) := by
  show zW L 117 0 [some (.ref 436), some (.int (Int32.ofNat r))] [] _ _
  refine zx_al0 zd117_0 ?_
  refine zx_al0 zd117_1 ?_
  refine zx_il1 zd117_2 ?_
  (refine zx_cv1I zd117_3 ?k440 (zm_ir hN hc hc10 hr) ?_); (case k440 => first | exact zkk rfl (by omega) | exact zkk (zK_B0 (by omega)) (by omega) | exact zkk ((zK_B (by omega) (by decide)).trans rfl) (by omega) | exact zkk (zK_row (by omega) (by omega)) (by omega) | exact zkk (zK_file (by omega) (by omega)) (by omega) | exact zkk (zK_byte (by omega) (by omega)) (by omega) | exact zkk (zK_list (by omega)) (by omega) | assumption)
  first | ((with_reducible refine zx_ifeqN zd117_6 ?s441 (fun h => ?_) (fun h => ?_)); (case s441 => omega)) | refine zx_ifeq zd117_6 (fun h => ?_) (fun h => ?_)
  · omega
  · refine zx_c zd117_9 ?_
    refine zx_goto zd117_10 ?_
    (refine zx_pfI zd117_14 ?k444 ?a444 ?_); (case k444 => first | exact zkk rfl (by omega) | exact zkk (zK_B0 (by omega)) (by omega) | exact zkk ((zK_B (by omega) (by decide)).trans rfl) (by omega) | exact zkk (zK_row (by omega) (by omega)) (by omega) | exact zkk (zK_file (by omega) (by omega)) (by omega) | exact zkk (zK_byte (by omega) (by omega)) (by omega) | exact zkk (zK_list (by omega)) (by omega) | assumption); (case a444 => omega)
    refine zx_al0 zd117_17 ?_
    (refine zx_gfI zd117_18 ?k446 ?_); (case k446 => first | exact zkk rfl (by omega) | exact zkk (zK_B0 (by omega)) (by omega) | exact zkk ((zK_B (by omega) (by decide)).trans rfl) (by omega) | exact zkk (zK_row (by omega) (by omega)) (by omega) | exact zkk (zK_file (by omega) (by omega)) (by omega) | exact zkk (zK_byte (by omega) (by omega)) (by omega) | exact zkk (zK_list (by omega)) (by omega) | assumption)
    rw [show zu I 436 0 (Int32.ofNat 0) 436 0 = Int32.ofNat 0 from rfl]
    first | ((with_reducible refine zx_ifeqN zd117_21 ?s447 (fun h2 => ?_) (fun h2 => ?_)); (case s447 => omega)) | refine zx_ifeq zd117_21 (fun h2 => ?_) (fun h2 => ?_)
    · refine zx_al0 zd117_26 ?_
      (refine' zx_gfA zd117_27 ?k449 ?r449 ?_); (case k449 => first | exact zkk rfl (by omega) | exact zkk (zK_B0 (by omega)) (by omega) | exact zkk ((zK_B (by omega) (by decide)).trans rfl) (by omega) | exact zkk (zK_row (by omega) (by omega)) (by omega) | exact zkk (zK_file (by omega) (by omega)) (by omega) | exact zkk (zK_byte (by omega) (by omega)) (by omega) | exact zkk (zK_list (by omega)) (by omega) | assumption); (case r449 => first | exact hR.1 _ _ _ rfl | assumption)
      refine zx_il1 zd117_30 ?_
      (with_reducible refine' zx_zaldN zd117_31 ?k451 ?j451 ?_); (case k451 => first | exact zkk rfl (by omega) | exact zkk (zK_B0 (by omega)) (by omega) | exact zkk ((zK_B (by omega) (by decide)).trans rfl) (by omega) | exact zkk (zK_row (by omega) (by omega)) (by omega) | exact zkk (zK_file (by omega) (by omega)) (by omega) | exact zkk (zK_byte (by omega) (by omega)) (by omega) | exact zkk (zK_list (by omega)) (by omega) | assumption); (case j451 => omega)
      rw [show zu I 436 0 (Int32.ofNat 0) 452 r = I 452 r from rfl, hn]
      first | ((with_reducible refine zx_ifneN zd117_32 ?s452 (fun h3 => ?_) (fun h3 => ?_)); (case s452 => omega)) | refine zx_ifne zd117_32 (fun h3 => ?_) (fun h3 => ?_)
      · refine zx_c zd117_52 ?_
        refine zx_iret zd117_53 (Or.inl rfl) ?_
        exact ⟨rfl, rfl⟩
      · refine zx_al0 zd117_35 ?_
        refine zx_il1 zd117_36 ?_
        (refine zx_cv1I zd117_37 ?k457 (zm_app hR hN (by omega)) ?_); (case k457 => first | exact zkk rfl (by omega) | exact zkk (zK_B0 (by omega)) (by omega) | exact zkk ((zK_B (by omega) (by decide)).trans rfl) (by omega) | exact zkk (zK_row (by omega) (by omega)) (by omega) | exact zkk (zK_file (by omega) (by omega)) (by omega) | exact zkk (zK_byte (by omega) (by omega)) (by omega) | exact zkk (zK_list (by omega)) (by omega) | assumption)
        cases hz : zmap (fun p => I 451 (16 * r + p)) with
        | true =>
          rw [show zmap (fun p => zu I 436 0 (Int32.ofNat 0) 451 (16 * r + p)) = true from hz]
          show zW L 117 40 _ [.int (Int32.ofNat 1)] _ _
          first | ((with_reducible refine zx_ifeqN zd117_40 ?s458 (fun h5 => ?_) (fun h5 => ?_)); (case s458 => omega)) | refine zx_ifeq zd117_40 (fun h5 => ?_) (fun h5 => ?_)
          · omega
          · refine zx_al0 zd117_43 ?_
            (refine zx_gfI zd117_44 ?k460 ?_); (case k460 => first | exact zkk rfl (by omega) | exact zkk (zK_B0 (by omega)) (by omega) | exact zkk ((zK_B (by omega) (by decide)).trans rfl) (by omega) | exact zkk (zK_row (by omega) (by omega)) (by omega) | exact zkk (zK_file (by omega) (by omega)) (by omega) | exact zkk (zK_byte (by omega) (by omega)) (by omega) | exact zkk (zK_list (by omega)) (by omega) | assumption)
            rw [show zu I 436 0 (Int32.ofNat 0) 436 22 = I 436 22 from rfl, hs]
            refine zx_c zd117_47 ?_
            first | ((with_reducible refine zx_icmpneN zd117_49 ?s462 (fun h6 => ?_) (fun h6 => ?_)); (case s462 => omega)) | refine zx_icmpne zd117_49 (fun h6 => ?_) (fun h6 => ?_)
            · rcases hx with hx | hx | hx
              · omega
              · rw [hz] at hx; cases hx
              · omega
            · refine zx_c zd117_52 ?_
              refine zx_iret zd117_53 (Or.inl rfl) ?_
              exact ⟨rfl, rfl⟩
        | false =>
          rw [show zmap (fun p => zu I 436 0 (Int32.ofNat 0) 451 (16 * r + p)) = false from hz]
          show zW L 117 40 _ [.int (Int32.ofNat 0)] _ _
          first | ((with_reducible refine zx_ifeqN zd117_40 ?s465 (fun h5 => ?_) (fun h5 => ?_)); (case s465 => omega)) | refine zx_ifeq zd117_40 (fun h5 => ?_) (fun h5 => ?_)
          · refine zx_c zd117_52 ?_
            refine zx_iret zd117_53 (Or.inl rfl) ?_
            exact ⟨rfl, rfl⟩
          · omega
    · omega
theorem zm_sr (hR : zRs R) (hN : 459 ≤ N) (hc : I 436 8 = Int32.ofNat c) (hc10 : c ≤ 10) {r s n : Nat} (hr : r < c) (hw : I 452 r = Int32.ofNat 0) (hs : I 436 22 = Int32.ofNat s) (hs1 : s < 60) (hx : zmap (fun p => I 451 (16 * r + p)) = true) (hn : I 436 24 = Int32.ofNat n) (hn1 : n ≤ 100) :
    zRet L 117 [.ref 436, .int (Int32.ofNat r)] (N, U, I, J, R) (some (.int (Int32.ofNat s))) (N, U, zu (znot (zu (zT I 0) 453 s (Int32.ofNat r)) n (Int32.ofNat r) (Int32.ofNat 1) (Int32.ofNat s) (-1)) 436 22 (Int32.ofNat (s + 1)), J, R) := by
  show zW L 117 0 [some (.ref 436), some (.int (Int32.ofNat r))] [] _ _
  refine zx_al0 zd117_0 ?_
  refine zx_al0 zd117_1 ?_
  refine zx_il1 zd117_2 ?_
  (refine zx_cv1I zd117_3 ?k471 (zm_ir hN hc hc10 hr) ?_); (case k471 => first | exact zkk rfl (by omega) | exact zkk (zK_B0 (by omega)) (by omega) | exact zkk ((zK_B (by omega) (by decide)).trans rfl) (by omega) | exact zkk (zK_row (by omega) (by omega)) (by omega) | exact zkk (zK_file (by omega) (by omega)) (by omega) | exact zkk (zK_byte (by omega) (by omega)) (by omega) | exact zkk (zK_list (by omega)) (by omega) | assumption)
  first | ((with_reducible refine zx_ifeqN zd117_6 ?s472 (fun h => ?_) (fun h => ?_)); (case s472 => omega)) | refine zx_ifeq zd117_6 (fun h => ?_) (fun h => ?_)
  · omega
  · refine zx_c zd117_9 ?_
    refine zx_goto zd117_10 ?_
    (refine zx_pfI zd117_14 ?k475 ?a475 ?_); (case k475 => first | exact zkk rfl (by omega) | exact zkk (zK_B0 (by omega)) (by omega) | exact zkk ((zK_B (by omega) (by decide)).trans rfl) (by omega) | exact zkk (zK_row (by omega) (by omega)) (by omega) | exact zkk (zK_file (by omega) (by omega)) (by omega) | exact zkk (zK_byte (by omega) (by omega)) (by omega) | exact zkk (zK_list (by omega)) (by omega) | assumption); (case a475 => omega)
    refine zx_al0 zd117_17 ?_
    (refine zx_gfI zd117_18 ?k477 ?_); (case k477 => first | exact zkk rfl (by omega) | exact zkk (zK_B0 (by omega)) (by omega) | exact zkk ((zK_B (by omega) (by decide)).trans rfl) (by omega) | exact zkk (zK_row (by omega) (by omega)) (by omega) | exact zkk (zK_file (by omega) (by omega)) (by omega) | exact zkk (zK_byte (by omega) (by omega)) (by omega) | exact zkk (zK_list (by omega)) (by omega) | assumption)
    rw [show zu I 436 0 (Int32.ofNat 0) 436 0 = Int32.ofNat 0 from rfl]
    first | ((with_reducible refine zx_ifeqN zd117_21 ?s478 (fun h2 => ?_) (fun h2 => ?_)); (case s478 => omega)) | refine zx_ifeq zd117_21 (fun h2 => ?_) (fun h2 => ?_)
    · refine zx_al0 zd117_26 ?_
      (refine' zx_gfA zd117_27 ?k480 ?r480 ?_); (case k480 => first | exact zkk rfl (by omega) | exact zkk (zK_B0 (by omega)) (by omega) | exact zkk ((zK_B (by omega) (by decide)).trans rfl) (by omega) | exact zkk (zK_row (by omega) (by omega)) (by omega) | exact zkk (zK_file (by omega) (by omega)) (by omega) | exact zkk (zK_byte (by omega) (by omega)) (by omega) | exact zkk (zK_list (by omega)) (by omega) | assumption); (case r480 => first | exact hR.1 _ _ _ rfl | assumption)
      refine zx_il1 zd117_30 ?_
      (with_reducible refine' zx_zaldN zd117_31 ?k482 ?j482 ?_); (case k482 => first | exact zkk rfl (by omega) | exact zkk (zK_B0 (by omega)) (by omega) | exact zkk ((zK_B (by omega) (by decide)).trans rfl) (by omega) | exact zkk (zK_row (by omega) (by omega)) (by omega) | exact zkk (zK_file (by omega) (by omega)) (by omega) | exact zkk (zK_byte (by omega) (by omega)) (by omega) | exact zkk (zK_list (by omega)) (by omega) | assumption); (case j482 => omega)
      rw [show zu I 436 0 (Int32.ofNat 0) 452 r = I 452 r from rfl, hw]
      first | ((with_reducible refine zx_ifneN zd117_32 ?s483 (fun h3 => ?_) (fun h3 => ?_)); (case s483 => omega)) | refine zx_ifne zd117_32 (fun h3 => ?_) (fun h3 => ?_)
      · omega
      · refine zx_al0 zd117_35 ?_
        refine zx_il1 zd117_36 ?_
        (refine zx_cv1I zd117_37 ?k486 (zm_app hR hN (by omega)) ?_); (case k486 => first | exact zkk rfl (by omega) | exact zkk (zK_B0 (by omega)) (by omega) | exact zkk ((zK_B (by omega) (by decide)).trans rfl) (by omega) | exact zkk (zK_row (by omega) (by omega)) (by omega) | exact zkk (zK_file (by omega) (by omega)) (by omega) | exact zkk (zK_byte (by omega) (by omega)) (by omega) | exact zkk (zK_list (by omega)) (by omega) | assumption)
        rw [show zmap (fun p => zu I 436 0 (Int32.ofNat 0) 451 (16 * r + p)) = true from hx]
        show zW L 117 40 _ [.int (Int32.ofNat 1)] _ _
        first | ((with_reducible refine zx_ifeqN zd117_40 ?s487 (fun h5 => ?_) (fun h5 => ?_)); (case s487 => omega)) | refine zx_ifeq zd117_40 (fun h5 => ?_) (fun h5 => ?_)
        · omega
        · refine zx_al0 zd117_43 ?_
          (refine zx_gfI zd117_44 ?k489 ?_); (case k489 => first | exact zkk rfl (by omega) | exact zkk (zK_B0 (by omega)) (by omega) | exact zkk ((zK_B (by omega) (by decide)).trans rfl) (by omega) | exact zkk (zK_row (by omega) (by omega)) (by omega) | exact zkk (zK_file (by omega) (by omega)) (by omega) | exact zkk (zK_byte (by omega) (by omega)) (by omega) | exact zkk (zK_list (by omega)) (by omega) | assumption)
          rw [show zu I 436 0 (Int32.ofNat 0) 436 22 = I 436 22 from rfl, hs]
          refine zx_c zd117_47 ?_
          first | ((with_reducible refine zx_icmpneN zd117_49 ?s491 (fun h6 => ?_) (fun h6 => ?_)); (case s491 => omega)) | refine zx_icmpne zd117_49 (fun h6 => ?_) (fun h6 => ?_)
          · refine zx_al0 zd117_54 ?_
            (refine' zx_gfA zd117_55 ?k493 ?r493 ?_); (case k493 => first | exact zkk rfl (by omega) | exact zkk (zK_B0 (by omega)) (by omega) | exact zkk ((zK_B (by omega) (by decide)).trans rfl) (by omega) | exact zkk (zK_row (by omega) (by omega)) (by omega) | exact zkk (zK_file (by omega) (by omega)) (by omega) | exact zkk (zK_byte (by omega) (by omega)) (by omega) | exact zkk (zK_list (by omega)) (by omega) | assumption); (case r493 => first | exact hR.1 _ _ _ rfl | assumption)
            refine zx_al0 zd117_58 ?_
            (refine zx_gfI zd117_59 ?k495 ?_); (case k495 => first | exact zkk rfl (by omega) | exact zkk (zK_B0 (by omega)) (by omega) | exact zkk ((zK_B (by omega) (by decide)).trans rfl) (by omega) | exact zkk (zK_row (by omega) (by omega)) (by omega) | exact zkk (zK_file (by omega) (by omega)) (by omega) | exact zkk (zK_byte (by omega) (by omega)) (by omega) | exact zkk (zK_list (by omega)) (by omega) | assumption)
            rw [show zu I 436 0 (Int32.ofNat 0) 436 22 = I 436 22 from rfl, hs]
            refine zx_il1 zd117_62 ?_
            (with_reducible refine' zx_iastN zd117_63 ?k497 ?j497 ?a497 ?_); (case k497 => first | exact zkk rfl (by omega) | exact zkk (zK_B0 (by omega)) (by omega) | exact zkk ((zK_B (by omega) (by decide)).trans rfl) (by omega) | exact zkk (zK_row (by omega) (by omega)) (by omega) | exact zkk (zK_file (by omega) (by omega)) (by omega) | exact zkk (zK_byte (by omega) (by omega)) (by omega) | exact zkk (zK_list (by omega)) (by omega) | assumption); (case j497 => omega); (case a497 => omega)
            refine zx_al0 zd117_64 ?_
            refine zx_il1 zd117_65 ?_
            refine zx_c zd117_66 ?_
            refine zx_al0 zd117_67 ?_
            (refine zx_gfI zd117_68 ?k502 ?_); (case k502 => first | exact zkk rfl (by omega) | exact zkk (zK_B0 (by omega)) (by omega) | exact zkk ((zK_B (by omega) (by decide)).trans rfl) (by omega) | exact zkk (zK_row (by omega) (by omega)) (by omega) | exact zkk (zK_file (by omega) (by omega)) (by omega) | exact zkk (zK_byte (by omega) (by omega)) (by omega) | exact zkk (zK_list (by omega)) (by omega) | assumption)
            rw [show zu (zu I 436 0 (Int32.ofNat 0)) 453 s (Int32.ofNat r) 436 22 = I 436 22 from rfl, hs]
            refine zx_c zd117_71 ?_
            (refine zx_cv4V zd117_72 ?k504 (zm_not hR hN (show zu (zu I 436 0 (Int32.ofNat 0)) 453 s (Int32.ofNat r) 436 24 = Int32.ofNat n from hn) hn1 _ _ _ _) ?_); (case k504 => first | exact zkk rfl (by omega) | exact zkk (zK_B0 (by omega)) (by omega) | exact zkk ((zK_B (by omega) (by decide)).trans rfl) (by omega) | exact zkk (zK_row (by omega) (by omega)) (by omega) | exact zkk (zK_file (by omega) (by omega)) (by omega) | exact zkk (zK_byte (by omega) (by omega)) (by omega) | exact zkk (zK_list (by omega)) (by omega) | assumption)
            have e : znot (zu (zu I 436 0 (Int32.ofNat 0)) 453 s (Int32.ofNat r)) n (Int32.ofNat r) (Int32.ofNat 1) (Int32.ofNat s) (-1) 436 22 = Int32.ofNat s := by
              rw [← hs]
              unfold znot
              split <;> rfl
            refine zx_al0 zd117_75 ?_
            first | refine zx_dupR zd117_76 ?_ | refine zx_dupI zd117_76 ?_
            (refine zx_gfI zd117_77 ?k507 ?_); (case k507 => first | exact zkk rfl (by omega) | exact zkk (zK_B0 (by omega)) (by omega) | exact zkk ((zK_B (by omega) (by decide)).trans rfl) (by omega) | exact zkk (zK_row (by omega) (by omega)) (by omega) | exact zkk (zK_file (by omega) (by omega)) (by omega) | exact zkk (zK_byte (by omega) (by omega)) (by omega) | exact zkk (zK_list (by omega)) (by omega) | assumption)
            rw [e]
            refine zx_c zd117_80 ?_
            first | with_reducible refine zx_addN zd117_81 ?_ | refine zx_add zd117_81 ?_
            (refine zx_pfI zd117_82 ?k510 ?a510 ?_); (case k510 => first | exact zkk rfl (by omega) | exact zkk (zK_B0 (by omega)) (by omega) | exact zkk ((zK_B (by omega) (by decide)).trans rfl) (by omega) | exact zkk (zK_row (by omega) (by omega)) (by omega) | exact zkk (zK_file (by omega) (by omega)) (by omega) | exact zkk (zK_byte (by omega) (by omega)) (by omega) | exact zkk (zK_list (by omega)) (by omega) | assumption); (case a510 => omega)
            refine zx_al0 zd117_85 ?_
            (refine zx_gfI zd117_86 ?k512 ?_); (case k512 => first | exact zkk rfl (by omega) | exact zkk (zK_B0 (by omega)) (by omega) | exact zkk ((zK_B (by omega) (by decide)).trans rfl) (by omega) | exact zkk (zK_row (by omega) (by omega)) (by omega) | exact zkk (zK_file (by omega) (by omega)) (by omega) | exact zkk (zK_byte (by omega) (by omega)) (by omega) | exact zkk (zK_list (by omega)) (by omega) | assumption)
            rw [show zu (znot (zu (zu I 436 0 (Int32.ofNat 0)) 453 s (Int32.ofNat r)) n (Int32.ofNat r) (Int32.ofNat 1) (Int32.ofNat s) (-1)) 436 22 (Int32.ofNat (s + 1)) 436 22 = Int32.ofNat (s + 1) from rfl]
            refine zx_c zd117_89 ?_
            first | ((with_reducible refine zx_subN zd117_90 ?h514 ?_); (case h514 => omega)) | refine zx_sub zd117_90 ?_
            refine zx_iret zd117_91 (Or.inl rfl) ?_
            rw [Nat.add_sub_cancel]
            exact ⟨rfl, rfl⟩
          · omega
    · omega
/-- history -/
theorem zm_hisT (hR : zRs R) (hN : 459 ≤ N) {s : Nat} (hs : I 436 22 = Int32.ofNat s) {x y z : Int32} (hx : (x < 0 ∨ ¬ x < Int32.ofNat s) ∨ z < 0 ∨ ¬ z < Int32.ofNat 3) : zRet L 118 [.ref 436, .int x, .int y, .int z] (N, U, I, J, R) (some (.int (Int32.ofNat 0))) (N, U, zT I 1, J, R) := by
  have fin : zW L 118 27 [some (.ref 436), some (.int x), some (.int y), some (.int z), none, none] [.int (Int32.ofNat 1), .ref 436] (N, U, I, J, R) (fun o k => o = .inl (some (.int (Int32.ofNat 0))) ∧ k = (N, U, zT I 1, J, R)) := by
    (refine zx_pfI zd118_27 ?k516 ?a516 ?_); (case k516 => first | exact zkk rfl (by omega) | exact zkk (zK_B0 (by omega)) (by omega) | exact zkk ((zK_B (by omega) (by decide)).trans rfl) (by omega) | exact zkk (zK_row (by omega) (by omega)) (by omega) | exact zkk (zK_file (by omega) (by omega)) (by omega) | exact zkk (zK_byte (by omega) (by omega)) (by omega) | exact zkk (zK_list (by omega)) (by omega) | assumption); (case a516 => omega)
    refine zx_al0 zd118_30 ?_
    (refine zx_gfI zd118_31 ?k518 ?_); (case k518 => first | exact zkk rfl (by omega) | exact zkk (zK_B0 (by omega)) (by omega) | exact zkk ((zK_B (by omega) (by decide)).trans rfl) (by omega) | exact zkk (zK_row (by omega) (by omega)) (by omega) | exact zkk (zK_file (by omega) (by omega)) (by omega) | exact zkk (zK_byte (by omega) (by omega)) (by omega) | exact zkk (zK_list (by omega)) (by omega) | assumption)
    rw [show zu I 436 0 (Int32.ofNat 1) 436 0 = Int32.ofNat 1 from rfl]
    first | ((with_reducible refine zx_ifeqN zd118_34 ?s519 (fun h => ?_) (fun h => ?_)); (case s519 => omega)) | refine zx_ifeq zd118_34 (fun h => ?_) (fun h => ?_)
    · omega
    · refine zx_c zd118_37 ?_
      refine zx_iret zd118_38 (Or.inl rfl) ?_
      exact ⟨rfl, rfl⟩
  show zW L 118 0 [some (.ref 436), some (.int x), some (.int y), some (.int z), none, none] [] _ _
  refine zx_al0 zd118_0 ?_
  refine zx_il1 zd118_1 ?_
  first | ((with_reducible refine zx_ifltN zd118_2 ?s524 (fun h => ?_) (fun h => ?_)); (case s524 => omega)) | refine zx_iflt zd118_2 (fun h => ?_) (fun h => ?_)
  · refine zx_c zd118_26 ?_
    exact fin
  · refine zx_il1 zd118_5 ?_
    refine zx_al0 zd118_6 ?_
    (refine zx_gfI zd118_7 ?k528 ?_); (case k528 => first | exact zkk rfl (by omega) | exact zkk (zK_B0 (by omega)) (by omega) | exact zkk ((zK_B (by omega) (by decide)).trans rfl) (by omega) | exact zkk (zK_row (by omega) (by omega)) (by omega) | exact zkk (zK_file (by omega) (by omega)) (by omega) | exact zkk (zK_byte (by omega) (by omega)) (by omega) | exact zkk (zK_list (by omega)) (by omega) | assumption)
    rw [hs]
    refine zx_icmpge zd118_10 (fun h2 => ?_) (fun h2 => ?_)
    · refine zx_c zd118_26 ?_
      exact fin
    · refine zx_il3 zd118_13 ?_
      first | ((with_reducible refine zx_ifltN zd118_14 ?s531 (fun h3 => ?_) (fun h3 => ?_)); (case s531 => omega)) | refine zx_iflt zd118_14 (fun h3 => ?_) (fun h3 => ?_)
      · refine zx_c zd118_26 ?_
        exact fin
      · refine zx_il3 zd118_17 ?_
        refine zx_c zd118_18 ?_
        refine zx_icmpge zd118_19 (fun h4 => ?_) (fun h4 => ?_)
        · refine zx_c zd118_26 ?_
          exact fin
        · rcases hx with (hx | hx) | hx | hx
          · exact absurd hx h
          · exact absurd h2 hx
          · exact absurd hx h3
          · exact absurd h4 hx
theorem zm_his0 (hR : zRs R) (hN : 459 ≤ N) {n q w kk : Nat} (hn : I 436 24 = Int32.ofNat n) (hn1 : n ≤ 100) (hq : q < 60) (hw : w < 3) (hk : kk < 2147483648) : ∀ (k i t : Nat), i + k = n →  t ≤ kk →
    zW L 118 45 [some (.ref 436), some (.int (Int32.ofNat q)), some (.int (Int32.ofNat kk)), some (.int (Int32.ofNat w)), some (.int (Int32.ofNat t)), some (.int (Int32.ofNat i))] [] (N, U, I, J, R) (fun o h => o = .inl (some (.int (match zevf (I 454) (I 453 q) t i k with | some e => I (455 + w) e | none => -1))) ∧ h = (N, U, I, J, R)) := by
  intro k
  induction k with
  | zero =>
    intro i t hi ht
    refine zx_il5 zd118_45 ?_
    refine zx_al0 zd118_47 ?_
    (refine zx_gfI zd118_48 ?k538 ?_); (case k538 => first | exact zkk rfl (by omega) | exact zkk (zK_B0 (by omega)) (by omega) | exact zkk ((zK_B (by omega) (by decide)).trans rfl) (by omega) | exact zkk (zK_row (by omega) (by omega)) (by omega) | exact zkk (zK_file (by omega) (by omega)) (by omega) | exact zkk (zK_byte (by omega) (by omega)) (by omega) | exact zkk (zK_list (by omega)) (by omega) | assumption)
    rw [hn]
    first | ((with_reducible refine zx_icmpgeN zd118_51 ?s539 (fun h => ?_) (fun h => ?_)); (case s539 => omega)) | refine zx_icmpge zd118_51 (fun h => ?_) (fun h => ?_)
    · refine zx_c zd118_128 ?_
      refine zx_iret zd118_129 (Or.inl rfl) ?_
      exact ⟨rfl, rfl⟩
    · omega
  | succ k ih =>
    intro i t hi ht
    refine zx_il5 zd118_45 ?_
    refine zx_al0 zd118_47 ?_
    (refine zx_gfI zd118_48 ?k544 ?_); (case k544 => first | exact zkk rfl (by omega) | exact zkk (zK_B0 (by omega)) (by omega) | exact zkk ((zK_B (by omega) (by decide)).trans rfl) (by omega) | exact zkk (zK_row (by omega) (by omega)) (by omega) | exact zkk (zK_file (by omega) (by omega)) (by omega) | exact zkk (zK_byte (by omega) (by omega)) (by omega) | exact zkk (zK_list (by omega)) (by omega) | assumption)
    rw [hn]
    first | ((with_reducible refine zx_icmpgeN zd118_51 ?s545 (fun h => ?_) (fun h => ?_)); (case s545 => omega)) | refine zx_icmpge zd118_51 (fun h => ?_) (fun h => ?_)
    · omega
    · refine zx_il2 zd118_54 ?_
      first | ((with_reducible refine zx_ifltN zd118_55 ?s547 (fun h2 => ?_) (fun h2 => ?_)); (case s547 => omega)) | refine zx_iflt zd118_55 (fun h2 => ?_) (fun h2 => ?_)
      · omega
      · refine zx_al0 zd118_58 ?_
        (refine' zx_gfA zd118_59 ?k549 ?r549 ?_); (case k549 => first | exact zkk rfl (by omega) | exact zkk (zK_B0 (by omega)) (by omega) | exact zkk ((zK_B (by omega) (by decide)).trans rfl) (by omega) | exact zkk (zK_row (by omega) (by omega)) (by omega) | exact zkk (zK_file (by omega) (by omega)) (by omega) | exact zkk (zK_byte (by omega) (by omega)) (by omega) | exact zkk (zK_list (by omega)) (by omega) | assumption); (case r549 => first | exact hR.1 _ _ _ rfl | assumption)
        refine zx_il5 zd118_62 ?_
        (with_reducible refine' zx_ialdN zd118_64 ?k551 ?j551 ?_); (case k551 => first | exact zkk rfl (by omega) | exact zkk (zK_B0 (by omega)) (by omega) | exact zkk ((zK_B (by omega) (by decide)).trans rfl) (by omega) | exact zkk (zK_row (by omega) (by omega)) (by omega) | exact zkk (zK_file (by omega) (by omega)) (by omega) | exact zkk (zK_byte (by omega) (by omega)) (by omega) | exact zkk (zK_list (by omega)) (by omega) | assumption); (case j551 => omega)
        refine zx_al0 zd118_65 ?_
        (refine' zx_gfA zd118_66 ?k553 ?r553 ?_); (case k553 => first | exact zkk rfl (by omega) | exact zkk (zK_B0 (by omega)) (by omega) | exact zkk ((zK_B (by omega) (by decide)).trans rfl) (by omega) | exact zkk (zK_row (by omega) (by omega)) (by omega) | exact zkk (zK_file (by omega) (by omega)) (by omega) | exact zkk (zK_byte (by omega) (by omega)) (by omega) | exact zkk (zK_list (by omega)) (by omega) | assumption); (case r553 => first | exact hR.1 _ _ _ rfl | assumption)
        refine zx_il1 zd118_69 ?_
        (with_reducible refine' zx_ialdN zd118_70 ?k555 ?j555 ?_); (case k555 => first | exact zkk rfl (by omega) | exact zkk (zK_B0 (by omega)) (by omega) | exact zkk ((zK_B (by omega) (by decide)).trans rfl) (by omega) | exact zkk (zK_row (by omega) (by omega)) (by omega) | exact zkk (zK_file (by omega) (by omega)) (by omega) | exact zkk (zK_byte (by omega) (by omega)) (by omega) | exact zkk (zK_list (by omega)) (by omega) | assumption); (case j555 => omega)
        refine zx_icmpeq zd118_71 (fun h3 => ?_) (fun h3 => ?_)
        · refine zx_il4 zd118_77 ?_
          first | ((with_reducible refine zx_ifneN zd118_79 ?s557 (fun h4 => ?_) (fun h4 => ?_)); (case s557 => omega)) | refine zx_ifne zd118_79 (fun h4 => ?_) (fun h4 => ?_)
          · first | ((with_reducible refine zx_iid4 zd118_119 ?h558 ?_); (case h558 => omega)) | refine zx_ii4 zd118_119 ?_
            first | with_reducible refine zx_iin5 zd118_122 ?_ | refine zx_ii5 zd118_122 ?_
            refine zx_goto zd118_125 ?_
            have e : zevf (I 454) (I 453 q) t i (k + 1) = zevf (I 454) (I 453 q) (t - 1) (i + 1) k := by
              show (if _ then (if _ then _ else _) else _) = _
              rw [if_pos h3, if_neg h4]
            rw [e]; exact ih (i + 1) (t - 1) (by omega) (by omega)
          · have e : zevf (I 454) (I 453 q) t i (k + 1) = some i := by
              show (if _ then (if _ then _ else _) else _) = _
              rw [if_pos h3, if_pos h4]
            rw [e]
            refine zx_il3 zd118_82 ?_
            first | ((with_reducible refine zx_ifneN zd118_83 ?s562 (fun h5 => ?_) (fun h5 => ?_)); (case s562 => omega)) | refine zx_ifne zd118_83 (fun h5 => ?_) (fun h5 => ?_)
            · refine zx_il3 zd118_96 ?_
              refine zx_c zd118_97 ?_
              first | ((with_reducible refine zx_icmpneN zd118_98 ?s565 (fun h6 => ?_) (fun h6 => ?_)); (case s565 => omega)) | refine zx_icmpne zd118_98 (fun h6 => ?_) (fun h6 => ?_)
              · refine zx_al0 zd118_111 ?_
                (refine' zx_gfA zd118_112 ?k567 ?r567 ?_); (case k567 => first | exact zkk rfl (by omega) | exact zkk (zK_B0 (by omega)) (by omega) | exact zkk ((zK_B (by omega) (by decide)).trans rfl) (by omega) | exact zkk (zK_row (by omega) (by omega)) (by omega) | exact zkk (zK_file (by omega) (by omega)) (by omega) | exact zkk (zK_byte (by omega) (by omega)) (by omega) | exact zkk (zK_list (by omega)) (by omega) | assumption); (case r567 => first | exact hR.1 _ _ _ rfl | assumption)
                refine zx_il5 zd118_115 ?_
                (with_reducible refine' zx_ialdN zd118_117 ?k569 ?j569 ?_); (case k569 => first | exact zkk rfl (by omega) | exact zkk (zK_B0 (by omega)) (by omega) | exact zkk ((zK_B (by omega) (by decide)).trans rfl) (by omega) | exact zkk (zK_row (by omega) (by omega)) (by omega) | exact zkk (zK_file (by omega) (by omega)) (by omega) | exact zkk (zK_byte (by omega) (by omega)) (by omega) | exact zkk (zK_list (by omega)) (by omega) | assumption); (case j569 => omega)
                refine zx_iret zd118_118 (Or.inl rfl) ?_
                obtain rfl : w = 2 := by omega
                exact ⟨rfl, rfl⟩
              · refine zx_al0 zd118_101 ?_
                (refine' zx_gfA zd118_102 ?k572 ?r572 ?_); (case k572 => first | exact zkk rfl (by omega) | exact zkk (zK_B0 (by omega)) (by omega) | exact zkk ((zK_B (by omega) (by decide)).trans rfl) (by omega) | exact zkk (zK_row (by omega) (by omega)) (by omega) | exact zkk (zK_file (by omega) (by omega)) (by omega) | exact zkk (zK_byte (by omega) (by omega)) (by omega) | exact zkk (zK_list (by omega)) (by omega) | assumption); (case r572 => first | exact hR.1 _ _ _ rfl | assumption)
                refine zx_il5 zd118_105 ?_
                (with_reducible refine' zx_ialdN zd118_107 ?k574 ?j574 ?_); (case k574 => first | exact zkk rfl (by omega) | exact zkk (zK_B0 (by omega)) (by omega) | exact zkk ((zK_B (by omega) (by decide)).trans rfl) (by omega) | exact zkk (zK_row (by omega) (by omega)) (by omega) | exact zkk (zK_file (by omega) (by omega)) (by omega) | exact zkk (zK_byte (by omega) (by omega)) (by omega) | exact zkk (zK_list (by omega)) (by omega) | assumption); (case j574 => omega)
                refine zx_goto zd118_108 ?_
                refine zx_iret zd118_118 (Or.inl rfl) ?_
                subst h6
                exact ⟨rfl, rfl⟩
            · refine zx_al0 zd118_86 ?_
              (refine' zx_gfA zd118_87 ?k578 ?r578 ?_); (case k578 => first | exact zkk rfl (by omega) | exact zkk (zK_B0 (by omega)) (by omega) | exact zkk ((zK_B (by omega) (by decide)).trans rfl) (by omega) | exact zkk (zK_row (by omega) (by omega)) (by omega) | exact zkk (zK_file (by omega) (by omega)) (by omega) | exact zkk (zK_byte (by omega) (by omega)) (by omega) | exact zkk (zK_list (by omega)) (by omega) | assumption); (case r578 => first | exact hR.1 _ _ _ rfl | assumption)
              refine zx_il5 zd118_90 ?_
              (with_reducible refine' zx_ialdN zd118_92 ?k580 ?j580 ?_); (case k580 => first | exact zkk rfl (by omega) | exact zkk (zK_B0 (by omega)) (by omega) | exact zkk ((zK_B (by omega) (by decide)).trans rfl) (by omega) | exact zkk (zK_row (by omega) (by omega)) (by omega) | exact zkk (zK_file (by omega) (by omega)) (by omega) | exact zkk (zK_byte (by omega) (by omega)) (by omega) | exact zkk (zK_list (by omega)) (by omega) | assumption); (case j580 => omega)
              refine zx_goto zd118_93 ?_
              refine zx_iret zd118_118 (Or.inl rfl) ?_
              subst h5
              exact ⟨rfl, rfl⟩
        · refine zx_goto zd118_74 ?_
          first | with_reducible refine zx_iin5 zd118_122 ?_ | refine zx_ii5 zd118_122 ?_
          refine zx_goto zd118_125 ?_
          have e : zevf (I 454) (I 453 q) t i (k + 1) = zevf (I 454) (I 453 q) t (i + 1) k := if_neg h3
          rw [e]; exact ih (i + 1) t (by omega) ht
def zmhi (I : zI) (q w : Nat) (y : Int32) (n : Nat) : Int32 := if y < 0 then -1 else match zevf (I 454) (I 453 q) y.toNatClampNeg 0 n with
  | some e => I (455 + w) e
  | none => -1
theorem zm_his (hR : zRs R) (hN : 459 ≤ N) {s q w n : Nat} (hs : I 436 22 = Int32.ofNat s) (hs1 : s ≤ 60) (hq : q < s) (hw : w < 3) (hn : I 436 24 = Int32.ofNat n) (hn1 : n ≤ 100) (y : Int32) : zRet L 118 [.ref 436, .int (Int32.ofNat q), .int y, .int (Int32.ofNat w)] (N, U, I, J, R) (some (.int (zmhi I q w y n))) (N, U, zT I 0, J, R) := by
  show zW L 118 0 [some (.ref 436), some (.int (Int32.ofNat q)), some (.int y), some (.int (Int32.ofNat w)), none, none] [] _ _
  refine zx_al0 zd118_0 ?_
  refine zx_il1 zd118_1 ?_
  first | ((with_reducible refine zx_ifltN zd118_2 ?s588 (fun h => ?_) (fun h => ?_)); (case s588 => omega)) | refine zx_iflt zd118_2 (fun h => ?_) (fun h => ?_)
  · omega
  · refine zx_il1 zd118_5 ?_
    refine zx_al0 zd118_6 ?_
    (refine zx_gfI zd118_7 ?k591 ?_); (case k591 => first | exact zkk rfl (by omega) | exact zkk (zK_B0 (by omega)) (by omega) | exact zkk ((zK_B (by omega) (by decide)).trans rfl) (by omega) | exact zkk (zK_row (by omega) (by omega)) (by omega) | exact zkk (zK_file (by omega) (by omega)) (by omega) | exact zkk (zK_byte (by omega) (by omega)) (by omega) | exact zkk (zK_list (by omega)) (by omega) | assumption)
    rw [hs]
    first | ((with_reducible refine zx_icmpgeN zd118_10 ?s592 (fun h2 => ?_) (fun h2 => ?_)); (case s592 => omega)) | refine zx_icmpge zd118_10 (fun h2 => ?_) (fun h2 => ?_)
    · omega
    · refine zx_il3 zd118_13 ?_
      first | ((with_reducible refine zx_ifltN zd118_14 ?s594 (fun h3 => ?_) (fun h3 => ?_)); (case s594 => omega)) | refine zx_iflt zd118_14 (fun h3 => ?_) (fun h3 => ?_)
      · omega
      · refine zx_il3 zd118_17 ?_
        refine zx_c zd118_18 ?_
        first | ((with_reducible refine zx_icmpgeN zd118_19 ?s597 (fun h4 => ?_) (fun h4 => ?_)); (case s597 => omega)) | refine zx_icmpge zd118_19 (fun h4 => ?_) (fun h4 => ?_)
        · omega
        · refine zx_c zd118_22 ?_
          refine zx_goto zd118_23 ?_
          (refine zx_pfI zd118_27 ?k600 ?a600 ?_); (case k600 => first | exact zkk rfl (by omega) | exact zkk (zK_B0 (by omega)) (by omega) | exact zkk ((zK_B (by omega) (by decide)).trans rfl) (by omega) | exact zkk (zK_row (by omega) (by omega)) (by omega) | exact zkk (zK_file (by omega) (by omega)) (by omega) | exact zkk (zK_byte (by omega) (by omega)) (by omega) | exact zkk (zK_list (by omega)) (by omega) | assumption); (case a600 => omega)
          refine zx_al0 zd118_30 ?_
          (refine zx_gfI zd118_31 ?k602 ?_); (case k602 => first | exact zkk rfl (by omega) | exact zkk (zK_B0 (by omega)) (by omega) | exact zkk ((zK_B (by omega) (by decide)).trans rfl) (by omega) | exact zkk (zK_row (by omega) (by omega)) (by omega) | exact zkk (zK_file (by omega) (by omega)) (by omega) | exact zkk (zK_byte (by omega) (by omega)) (by omega) | exact zkk (zK_list (by omega)) (by omega) | assumption)
          rw [show zu I 436 0 (Int32.ofNat 0) 436 0 = Int32.ofNat 0 from rfl]
          first | ((with_reducible refine zx_ifeqN zd118_34 ?s603 (fun h5 => ?_) (fun h5 => ?_)); (case s603 => omega)) | refine zx_ifeq zd118_34 (fun h5 => ?_) (fun h5 => ?_)
          · refine zx_il2 zd118_39 ?_
            refine zx_is4 zd118_40 rfl ?_
            refine zx_c zd118_42 ?_
            refine zx_is5 zd118_43 rfl ?_
            unfold zmhi
            by_cases hy : y < 0
            · rw [if_pos hy]
              refine zx_il5 zd118_45 ?_
              refine zx_al0 zd118_47 ?_
              (refine zx_gfI zd118_48 ?k610 ?_); (case k610 => first | exact zkk rfl (by omega) | exact zkk (zK_B0 (by omega)) (by omega) | exact zkk ((zK_B (by omega) (by decide)).trans rfl) (by omega) | exact zkk (zK_row (by omega) (by omega)) (by omega) | exact zkk (zK_file (by omega) (by omega)) (by omega) | exact zkk (zK_byte (by omega) (by omega)) (by omega) | exact zkk (zK_list (by omega)) (by omega) | assumption)
              rw [show zu I 436 0 (Int32.ofNat 0) 436 24 = I 436 24 from rfl, hn]
              first | ((with_reducible refine zx_icmpgeN zd118_51 ?s611 (fun h6 => ?_) (fun h6 => ?_)); (case s611 => omega)) | refine zx_icmpge zd118_51 (fun h6 => ?_) (fun h6 => ?_)
              · refine zx_c zd118_128 ?_
                refine zx_iret zd118_129 (Or.inl rfl) ?_
                exact ⟨rfl, rfl⟩
              · refine zx_il2 zd118_54 ?_
                refine zx_iflt zd118_55 (fun _ => ?_) (fun h7 => absurd hy h7)
                refine zx_c zd118_128 ?_
                refine zx_iret zd118_129 (Or.inl rfl) ?_
                exact ⟨rfl, rfl⟩
            · rw [if_neg hy]
              have e := Int32.ofNat_toNatClampNeg y (Int32.not_lt.mp hy)
              have hb : y.toNatClampNeg < 2147483648 := Int32.toNatClampNeg_lt y
              have k := zm_his0 (L := L) (U := U) (I := zT I 0) (J := J) hR hN (show zT I 0 436 24 = Int32.ofNat n from hn) hn1 (show q < 60 by omega) hw hb n 0 y.toNatClampNeg (by omega) (Nat.le_refl _)
              rw [e] at k
              refine zW.mono k (fun o hh hq => ⟨?_, hq.2⟩)
              rw [hq.1]
              have e2 : ∀ x, zT I 0 (455 + w) x = I (455 + w) x := fun x => by rw [zT_row _ _ (by omega)]
              rw [show zT I 0 454 = I 454 from zT_row _ _ (by decide), show zT I 0 453 = I 453 from zT_row _ _ (by decide)]
              cases zevf (I 454) (I 453 q) y.toNatClampNeg 0 n with
              | none => rfl
              | some x => show Sum.inl (some (Value.int (zT I 0 (455 + w) x))) = _; rw [e2]
          · omega
end ZM2
