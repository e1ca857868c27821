/-! THE REFERENCE'S DIGESTS -/
/-- what the reference's input holds -/
def zMg (m : List Int32) (I : zI) : Prop := I 436 2 = Int32.ofNat m.length ∧ ∀ i, i < m.length → I 438 i = zby m i
def zwdI (f : Nat → Int32) (p : Nat) : Int32 := zshl (f p) (Int32.ofNat 24) ||| zshl (f (p + 1)) (Int32.ofNat 16) ||| zshl (f (p + 2)) (Int32.ofNat 8) ||| f (p + 3)
section ZMS
variable {L N U : Nat} {I : zI} {J : zJ} {R : zR} {m : List Int32} {Q : zOut → zHp → Prop}
theorem zm_turned (L : Nat) (x y : Int32) (h : zHp) : zRet L 95 [.int x, .int y] h (some (.int (zturn x y))) h := by
  show zW L 95 0 [some (.int x), some (.int y)] [] h _
  refine zx_il0 zd95_0 ?_
  refine zx_il1 zd95_1 ?_
  refine zx_ushr zd95_2 ?_
  refine zx_il0 zd95_3 ?_
  refine zx_c zd95_4 ?_
  refine zx_il1 zd95_6 ?_
  first | ((with_reducible refine zx_subN zd95_7 ?h7 ?_); (case h7 => omega)) | refine zx_sub zd95_7 ?_
  refine zx_shl zd95_8 ?_
  refine zx_or zd95_9 ?_
  refine zx_iret zd95_10 (Or.inl rfl) ?_
  exact ⟨rfl, rfl⟩
theorem zm_put (hR : zRs R) (hN : 459 ≤ N) {n : Nat} (hn : I 436 2 = Int32.ofNat n) (hs : n < 512) (b : Int32) : zRet L 92 [.ref 436, .int b] (N, U, I, J, R) none (N, U, zu (zu I 438 n b) 436 2 (Int32.ofNat (n + 1)), J, R) := by
  show zW L 92 0 [some (.ref 436), some (.int b)] [] _ _
  refine zx_al0 zd92_0 ?_
  (refine' zx_gfA zd92_1 ?k12 ?r12 ?_); (case k12 => first | exact zkk rfl (by omega) | exact zkk (zK_B0 (by omega)) (by omega) | exact zkk ((zK_B (by omega) (by decide)).trans rfl) (by omega) | exact zkk (zK_row (by omega) (by omega)) (by omega) | exact zkk (zK_file (by omega) (by omega)) (by omega) | exact zkk (zK_byte (by omega) (by omega)) (by omega) | exact zkk (zK_list (by omega)) (by omega) | assumption); (case r12 => first | exact hR.1 _ _ _ rfl | assumption)
  refine zx_al0 zd92_4 ?_
  (refine zx_gfI zd92_5 ?k14 ?_); (case k14 => first | exact zkk rfl (by omega) | exact zkk (zK_B0 (by omega)) (by omega) | exact zkk ((zK_B (by omega) (by decide)).trans rfl) (by omega) | exact zkk (zK_row (by omega) (by omega)) (by omega) | exact zkk (zK_file (by omega) (by omega)) (by omega) | exact zkk (zK_byte (by omega) (by omega)) (by omega) | exact zkk (zK_list (by omega)) (by omega) | assumption)
  rw [hn]
  refine zx_il1 zd92_8 ?_
  (with_reducible refine' zx_iastN zd92_9 ?k16 ?j16 ?a16 ?_); (case k16 => first | exact zkk rfl (by omega) | exact zkk (zK_B0 (by omega)) (by omega) | exact zkk ((zK_B (by omega) (by decide)).trans rfl) (by omega) | exact zkk (zK_row (by omega) (by omega)) (by omega) | exact zkk (zK_file (by omega) (by omega)) (by omega) | exact zkk (zK_byte (by omega) (by omega)) (by omega) | exact zkk (zK_list (by omega)) (by omega) | assumption); (case j16 => omega); (case a16 => omega)
  refine zx_al0 zd92_10 ?_
  first | refine zx_dupR zd92_11 ?_ | refine zx_dupI zd92_11 ?_
  (refine zx_gfI zd92_12 ?k19 ?_); (case k19 => first | exact zkk rfl (by omega) | exact zkk (zK_B0 (by omega)) (by omega) | exact zkk ((zK_B (by omega) (by decide)).trans rfl) (by omega) | exact zkk (zK_row (by omega) (by omega)) (by omega) | exact zkk (zK_file (by omega) (by omega)) (by omega) | exact zkk (zK_byte (by omega) (by omega)) (by omega) | exact zkk (zK_list (by omega)) (by omega) | assumption)
  rw [show zu I 438 n b 436 2 = I 436 2 from rfl, hn]
  refine zx_c zd92_15 ?_
  first | with_reducible refine zx_addN zd92_16 ?_ | refine zx_add zd92_16 ?_
  (refine zx_pfI zd92_17 ?k22 ?a22 ?_); (case k22 => first | exact zkk rfl (by omega) | exact zkk (zK_B0 (by omega)) (by omega) | exact zkk ((zK_B (by omega) (by decide)).trans rfl) (by omega) | exact zkk (zK_row (by omega) (by omega)) (by omega) | exact zkk (zK_file (by omega) (by omega)) (by omega) | exact zkk (zK_byte (by omega) (by omega)) (by omega) | exact zkk (zK_list (by omega)) (by omega) | assumption); (case a22 => omega)
  refine zx_vret zd92_20 rfl ?_
  exact ⟨rfl, rfl⟩
/-- rows that the reference's digests write: the object's own ints at size, input, words, state, work, output -/
def zF6 (I I' : zI) : Prop := (∀ b, b < 438 ∨ 442 < b → b ≠ 436 → I' b = I b) ∧ ∀ f, f ≠ 2 → I' 436 f = I 436 f
theorem zF6.refl (I : zI) : zF6 I I := ⟨fun _ _ _ => rfl, fun _ _ => rfl⟩
theorem zF6.trans {I I' I'' : zI} (h : zF6 I I') (h' : zF6 I' I'') : zF6 I I'' := ⟨fun b h1 h2 => (h'.1 b h1 h2).trans (h.1 b h1 h2), fun f hf => (h'.2 f hf).trans (h.2 f hf)⟩
theorem zF6.put (I : zI) (n : Nat) (b v : Int32) : zF6 I (zu (zu I 438 n b) 436 2 v) := by
  refine ⟨fun c h1 h2 => ?_, fun f hf => ?_⟩
  · rw [zu_rw, zrw_ne _ _ h2, zu_rw, zrw_ne _ _ (by omega)]
  · show (if 436 = 436 ∧ f = 2 then v else (if 436 = 438 ∧ f = n then b else I 436 f)) = I 436 f
    rw [if_neg (fun h => hf h.2), if_neg (fun h => by omega)]
theorem zs_mput (hR : zRs R) (hN : 459 ≤ N) (hm : zMg m I) (hs : m.length < 512) (b : Int32) : ∃ I', zRet L 92 [.ref 436, .int b] (N, U, I, J, R) none (N, U, I', J, R) ∧ zMg (m ++ [b]) I' ∧ zF6 I I' ∧ ∀ c, c ≠ 436 → c ≠ 438 → I' c = I c := by
  refine ⟨_, zm_put hR hN hm.1 hs b, ⟨?_, fun i hi => ?_⟩, zF6.put I _ _ _, fun c h1 h2 => ?_⟩
  · rw [List.length_append]; rfl
  · rw [List.length_append, List.length_singleton] at hi
    show (if 438 = 436 ∧ i = 2 then _ else (if 438 = 438 ∧ i = m.length then b else I 438 i)) = _
    rw [if_neg (fun h => by omega)]
    by_cases he : i = m.length
    · rw [if_pos ⟨rfl, he⟩, he, zby_new]
    · rw [if_neg (fun h => he h.2), zby_app (by omega)]
      exact hm.2 i (by omega)
  · rw [zu_rw, zrw_ne _ _ h1, zu_rw, zrw_ne _ _ h2]
/-! block -/
theorem zm_b1 (hR : zRs R) (hN : 459 ≤ N) {p : Nat} (hp : p + 64 ≤ 512) {l4 l5 l6 l7 l8 l9 l10 : Option Value}
    (kk : ∀ l3 : Option Value, zW L 94 68 [some (.ref 436), some (.int (Int32.ofNat p)), some (.int (Int32.ofNat 16)), l3, l4, l5, l6, l7, l8, l9, l10] [] (N, U, zrw I 439 (zfill (I 439) 0 16 (fun k => zwdI (I 438) (p + 4 * k))), J, R) Q) :
    ∀ (q i : Nat) (l3 : Option Value), i + q = 16 → zW L 94 2 [some (.ref 436), some (.int (Int32.ofNat p)), some (.int (Int32.ofNat i)), l3, l4, l5, l6, l7, l8, l9, l10] [] (N, U, zrw I 439 (zfill (I 439) 0 i (fun k => zwdI (I 438) (p + 4 * k))), J, R) Q := by
  intro q
  induction q with
  | zero =>
    intro i l3 hi
    obtain rfl : i = 16 := by omega
    refine zx_il2 zd94_2 ?_
    refine zx_c zd94_3 ?_
    first | ((with_reducible refine zx_icmpgeN zd94_5 ?s26 (fun hc => ?_) (fun hc => ?_)); (case s26 => omega)) | refine zx_icmpge zd94_5 (fun hc => ?_) (fun hc => ?_)
    · exact kk l3
    · omega
  | succ q ih =>
    intro i l3 hi
    refine zx_il2 zd94_2 ?_
    refine zx_c zd94_3 ?_
    first | ((with_reducible refine zx_icmpgeN zd94_5 ?s29 (fun hc => ?_) (fun hc => ?_)); (case s29 => omega)) | refine zx_icmpge zd94_5 (fun hc => ?_) (fun hc => ?_)
    · omega
    · refine zx_il1 zd94_8 ?_
      refine zx_c zd94_9 ?_
      refine zx_il2 zd94_10 ?_
      first | with_reducible refine zx_mulN zd94_11 ?_ | refine zx_mul zd94_11 ?_
      first | with_reducible refine zx_addN zd94_12 ?_ | refine zx_add zd94_12 ?_
      refine zx_is3 zd94_13 rfl ?_
      refine zx_al0 zd94_14 ?_
      (refine' zx_gfA zd94_15 ?k37 ?r37 ?_); (case k37 => first | exact zkk rfl (by omega) | exact zkk (zK_B0 (by omega)) (by omega) | exact zkk ((zK_B (by omega) (by decide)).trans rfl) (by omega) | exact zkk (zK_row (by omega) (by omega)) (by omega) | exact zkk (zK_file (by omega) (by omega)) (by omega) | exact zkk (zK_byte (by omega) (by omega)) (by omega) | exact zkk (zK_list (by omega)) (by omega) | assumption); (case r37 => first | exact hR.1 _ _ _ rfl | assumption)
      refine zx_il2 zd94_18 ?_
      refine zx_al0 zd94_19 ?_
      (refine' zx_gfA zd94_20 ?k40 ?r40 ?_); (case k40 => first | exact zkk rfl (by omega) | exact zkk (zK_B0 (by omega)) (by omega) | exact zkk ((zK_B (by omega) (by decide)).trans rfl) (by omega) | exact zkk (zK_row (by omega) (by omega)) (by omega) | exact zkk (zK_file (by omega) (by omega)) (by omega) | exact zkk (zK_byte (by omega) (by omega)) (by omega) | exact zkk (zK_list (by omega)) (by omega) | assumption); (case r40 => first | exact hR.1 _ _ _ rfl | assumption)
      refine zx_il3 zd94_23 ?_
      (with_reducible refine' zx_ialdN zd94_24 ?k42 ?j42 ?_); (case k42 => first | exact zkk rfl (by omega) | exact zkk (zK_B0 (by omega)) (by omega) | exact zkk ((zK_B (by omega) (by decide)).trans rfl) (by omega) | exact zkk (zK_row (by omega) (by omega)) (by omega) | exact zkk (zK_file (by omega) (by omega)) (by omega) | exact zkk (zK_byte (by omega) (by omega)) (by omega) | exact zkk (zK_list (by omega)) (by omega) | assumption); (case j42 => omega)
      refine zx_c zd94_25 ?_
      refine zx_shl zd94_27 ?_
      refine zx_al0 zd94_28 ?_
      (refine' zx_gfA zd94_29 ?k46 ?r46 ?_); (case k46 => first | exact zkk rfl (by omega) | exact zkk (zK_B0 (by omega)) (by omega) | exact zkk ((zK_B (by omega) (by decide)).trans rfl) (by omega) | exact zkk (zK_row (by omega) (by omega)) (by omega) | exact zkk (zK_file (by omega) (by omega)) (by omega) | exact zkk (zK_byte (by omega) (by omega)) (by omega) | exact zkk (zK_list (by omega)) (by omega) | assumption); (case r46 => first | exact hR.1 _ _ _ rfl | assumption)
      refine zx_il3 zd94_32 ?_
      refine zx_c zd94_33 ?_
      first | with_reducible refine zx_addN zd94_34 ?_ | refine zx_add zd94_34 ?_
      (with_reducible refine' zx_ialdN zd94_35 ?k50 ?j50 ?_); (case k50 => first | exact zkk rfl (by omega) | exact zkk (zK_B0 (by omega)) (by omega) | exact zkk ((zK_B (by omega) (by decide)).trans rfl) (by omega) | exact zkk (zK_row (by omega) (by omega)) (by omega) | exact zkk (zK_file (by omega) (by omega)) (by omega) | exact zkk (zK_byte (by omega) (by omega)) (by omega) | exact zkk (zK_list (by omega)) (by omega) | assumption); (case j50 => omega)
      refine zx_c zd94_36 ?_
      refine zx_shl zd94_38 ?_
      refine zx_or zd94_39 ?_
      refine zx_al0 zd94_40 ?_
      (refine' zx_gfA zd94_41 ?k55 ?r55 ?_); (case k55 => first | exact zkk rfl (by omega) | exact zkk (zK_B0 (by omega)) (by omega) | exact zkk ((zK_B (by omega) (by decide)).trans rfl) (by omega) | exact zkk (zK_row (by omega) (by omega)) (by omega) | exact zkk (zK_file (by omega) (by omega)) (by omega) | exact zkk (zK_byte (by omega) (by omega)) (by omega) | exact zkk (zK_list (by omega)) (by omega) | assumption); (case r55 => first | exact hR.1 _ _ _ rfl | assumption)
      refine zx_il3 zd94_44 ?_
      refine zx_c zd94_45 ?_
      first | with_reducible refine zx_addN zd94_46 ?_ | refine zx_add zd94_46 ?_
      (with_reducible refine' zx_ialdN zd94_47 ?k59 ?j59 ?_); (case k59 => first | exact zkk rfl (by omega) | exact zkk (zK_B0 (by omega)) (by omega) | exact zkk ((zK_B (by omega) (by decide)).trans rfl) (by omega) | exact zkk (zK_row (by omega) (by omega)) (by omega) | exact zkk (zK_file (by omega) (by omega)) (by omega) | exact zkk (zK_byte (by omega) (by omega)) (by omega) | exact zkk (zK_list (by omega)) (by omega) | assumption); (case j59 => omega)
      refine zx_c zd94_48 ?_
      refine zx_shl zd94_50 ?_
      refine zx_or zd94_51 ?_
      refine zx_al0 zd94_52 ?_
      (refine' zx_gfA zd94_53 ?k64 ?r64 ?_); (case k64 => first | exact zkk rfl (by omega) | exact zkk (zK_B0 (by omega)) (by omega) | exact zkk ((zK_B (by omega) (by decide)).trans rfl) (by omega) | exact zkk (zK_row (by omega) (by omega)) (by omega) | exact zkk (zK_file (by omega) (by omega)) (by omega) | exact zkk (zK_byte (by omega) (by omega)) (by omega) | exact zkk (zK_list (by omega)) (by omega) | assumption); (case r64 => first | exact hR.1 _ _ _ rfl | assumption)
      refine zx_il3 zd94_56 ?_
      refine zx_c zd94_57 ?_
      first | with_reducible refine zx_addN zd94_58 ?_ | refine zx_add zd94_58 ?_
      (with_reducible refine' zx_ialdN zd94_59 ?k68 ?j68 ?_); (case k68 => first | exact zkk rfl (by omega) | exact zkk (zK_B0 (by omega)) (by omega) | exact zkk ((zK_B (by omega) (by decide)).trans rfl) (by omega) | exact zkk (zK_row (by omega) (by omega)) (by omega) | exact zkk (zK_file (by omega) (by omega)) (by omega) | exact zkk (zK_byte (by omega) (by omega)) (by omega) | exact zkk (zK_list (by omega)) (by omega) | assumption); (case j68 => omega)
      refine zx_or zd94_60 ?_
      (with_reducible refine' zx_iastN zd94_61 ?k70 ?j70 ?a70 ?_); (case k70 => first | exact zkk rfl (by omega) | exact zkk (zK_B0 (by omega)) (by omega) | exact zkk ((zK_B (by omega) (by decide)).trans rfl) (by omega) | exact zkk (zK_row (by omega) (by omega)) (by omega) | exact zkk (zK_file (by omega) (by omega)) (by omega) | exact zkk (zK_byte (by omega) (by omega)) (by omega) | exact zkk (zK_list (by omega)) (by omega) | assumption); (case j70 => omega); (case a70 => omega)
      first | with_reducible refine zx_iin2 zd94_62 ?_ | refine zx_ii2 zd94_62 ?_
      refine zx_goto zd94_65 ?_
      have e := zfill_succ (I 439) 0 i (fun k => zwdI (I 438) (p + 4 * k))
      rw [Nat.zero_add] at e
      have k := ih (i + 1) (some (.int (Int32.ofNat (p + 4 * i)))) (by omega)
      rw [← e] at k
      rw [zu_rw, zrw_rw, zrw_at, zrw_ne _ _ (show 438 ≠ 439 by decide)]
      exact k
theorem zm_b2 (hR : zRs R) (hN : 459 ≤ N) {l1 l7 l8 l9 l10 : Option Value}
    (kk : ∀ l3 l4 l5 l6 : Option Value, zW L 94 176 [some (.ref 436), l1, some (.int (Int32.ofNat 64)), l3, l4, l5, l6, l7, l8, l9, l10] [] (N, U, zrw I 439 (zsch (I 439) 48), J, R) Q) :
    ∀ (q n : Nat) (l3 l4 l5 l6 : Option Value), n + q = 48 → zW L 94 71 [some (.ref 436), l1, some (.int (Int32.ofNat (16 + n))), l3, l4, l5, l6, l7, l8, l9, l10] [] (N, U, zrw I 439 (zsch (I 439) n), J, R) Q := by
  intro q
  induction q with
  | zero =>
    intro n l3 l4 l5 l6 hi
    obtain rfl : n = 48 := by omega
    refine zx_il2 zd94_71 ?_
    refine zx_c zd94_72 ?_
    first | ((with_reducible refine zx_icmpgeN zd94_74 ?s75 (fun hc => ?_) (fun hc => ?_)); (case s75 => omega)) | refine zx_icmpge zd94_74 (fun hc => ?_) (fun hc => ?_)
    · exact kk l3 l4 l5 l6
    · omega
  | succ q ih =>
    intro n l3 l4 l5 l6 hi
    refine zx_il2 zd94_71 ?_
    refine zx_c zd94_72 ?_
    first | ((with_reducible refine zx_icmpgeN zd94_74 ?s78 (fun hc => ?_) (fun hc => ?_)); (case s78 => omega)) | refine zx_icmpge zd94_74 (fun hc => ?_) (fun hc => ?_)
    · omega
    · refine zx_al0 zd94_77 ?_
      (refine' zx_gfA zd94_78 ?k80 ?r80 ?_); (case k80 => first | exact zkk rfl (by omega) | exact zkk (zK_B0 (by omega)) (by omega) | exact zkk ((zK_B (by omega) (by decide)).trans rfl) (by omega) | exact zkk (zK_row (by omega) (by omega)) (by omega) | exact zkk (zK_file (by omega) (by omega)) (by omega) | exact zkk (zK_byte (by omega) (by omega)) (by omega) | exact zkk (zK_list (by omega)) (by omega) | assumption); (case r80 => first | exact hR.1 _ _ _ rfl | assumption)
      refine zx_il2 zd94_81 ?_
      refine zx_c zd94_82 ?_
      first | ((with_reducible refine zx_subN zd94_84 ?h83 ?_); (case h83 => omega)) | refine zx_sub zd94_84 ?_
      (with_reducible refine' zx_ialdN zd94_85 ?k84 ?j84 ?_); (case k84 => first | exact zkk rfl (by omega) | exact zkk (zK_B0 (by omega)) (by omega) | exact zkk ((zK_B (by omega) (by decide)).trans rfl) (by omega) | exact zkk (zK_row (by omega) (by omega)) (by omega) | exact zkk (zK_file (by omega) (by omega)) (by omega) | exact zkk (zK_byte (by omega) (by omega)) (by omega) | exact zkk (zK_list (by omega)) (by omega) | assumption); (case j84 => omega)
      refine zx_is3 zd94_86 rfl ?_
      refine zx_al0 zd94_87 ?_
      (refine' zx_gfA zd94_88 ?k87 ?r87 ?_); (case k87 => first | exact zkk rfl (by omega) | exact zkk (zK_B0 (by omega)) (by omega) | exact zkk ((zK_B (by omega) (by decide)).trans rfl) (by omega) | exact zkk (zK_row (by omega) (by omega)) (by omega) | exact zkk (zK_file (by omega) (by omega)) (by omega) | exact zkk (zK_byte (by omega) (by omega)) (by omega) | exact zkk (zK_list (by omega)) (by omega) | assumption); (case r87 => first | exact hR.1 _ _ _ rfl | assumption)
      refine zx_il2 zd94_91 ?_
      refine zx_c zd94_92 ?_
      first | ((with_reducible refine zx_subN zd94_93 ?h90 ?_); (case h90 => omega)) | refine zx_sub zd94_93 ?_
      (with_reducible refine' zx_ialdN zd94_94 ?k91 ?j91 ?_); (case k91 => first | exact zkk rfl (by omega) | exact zkk (zK_B0 (by omega)) (by omega) | exact zkk ((zK_B (by omega) (by decide)).trans rfl) (by omega) | exact zkk (zK_row (by omega) (by omega)) (by omega) | exact zkk (zK_file (by omega) (by omega)) (by omega) | exact zkk (zK_byte (by omega) (by omega)) (by omega) | exact zkk (zK_list (by omega)) (by omega) | assumption); (case j91 => omega)
      refine zx_is4 zd94_95 rfl ?_
      refine zx_il3 zd94_97 ?_
      refine zx_c zd94_98 ?_
      refine zx_cs2I zd94_100 (zm_turned _ _ _ _) ?_
      refine zx_il3 zd94_103 ?_
      refine zx_c zd94_104 ?_
      refine zx_cs2I zd94_106 (zm_turned _ _ _ _) ?_
      first | with_reducible refine zx_xorN zd94_109 ?_ | refine zx_xor zd94_109 ?_
      refine zx_il3 zd94_110 ?_
      refine zx_c zd94_111 ?_
      refine zx_ushr zd94_112 ?_
      first | with_reducible refine zx_xorN zd94_113 ?_ | refine zx_xor zd94_113 ?_
      refine zx_is5 zd94_114 rfl ?_
      refine zx_il4 zd94_116 ?_
      refine zx_c zd94_118 ?_
      refine zx_cs2I zd94_120 (zm_turned _ _ _ _) ?_
      refine zx_il4 zd94_123 ?_
      refine zx_c zd94_125 ?_
      refine zx_cs2I zd94_127 (zm_turned _ _ _ _) ?_
      first | with_reducible refine zx_xorN zd94_130 ?_ | refine zx_xor zd94_130 ?_
      refine zx_il4 zd94_131 ?_
      refine zx_c zd94_133 ?_
      refine zx_ushr zd94_135 ?_
      first | with_reducible refine zx_xorN zd94_136 ?_ | refine zx_xor zd94_136 ?_
      refine zx_is6 zd94_137 rfl ?_
      refine zx_al0 zd94_139 ?_
      (refine' zx_gfA zd94_140 ?k118 ?r118 ?_); (case k118 => first | exact zkk rfl (by omega) | exact zkk (zK_B0 (by omega)) (by omega) | exact zkk ((zK_B (by omega) (by decide)).trans rfl) (by omega) | exact zkk (zK_row (by omega) (by omega)) (by omega) | exact zkk (zK_file (by omega) (by omega)) (by omega) | exact zkk (zK_byte (by omega) (by omega)) (by omega) | exact zkk (zK_list (by omega)) (by omega) | assumption); (case r118 => first | exact hR.1 _ _ _ rfl | assumption)
      refine zx_il2 zd94_143 ?_
      refine zx_al0 zd94_144 ?_
      (refine' zx_gfA zd94_145 ?k121 ?r121 ?_); (case k121 => first | exact zkk rfl (by omega) | exact zkk (zK_B0 (by omega)) (by omega) | exact zkk ((zK_B (by omega) (by decide)).trans rfl) (by omega) | exact zkk (zK_row (by omega) (by omega)) (by omega) | exact zkk (zK_file (by omega) (by omega)) (by omega) | exact zkk (zK_byte (by omega) (by omega)) (by omega) | exact zkk (zK_list (by omega)) (by omega) | assumption); (case r121 => first | exact hR.1 _ _ _ rfl | assumption)
      refine zx_il2 zd94_148 ?_
      refine zx_c zd94_149 ?_
      first | ((with_reducible refine zx_subN zd94_151 ?h124 ?_); (case h124 => omega)) | refine zx_sub zd94_151 ?_
      (with_reducible refine' zx_ialdN zd94_152 ?k125 ?j125 ?_); (case k125 => first | exact zkk rfl (by omega) | exact zkk (zK_B0 (by omega)) (by omega) | exact zkk ((zK_B (by omega) (by decide)).trans rfl) (by omega) | exact zkk (zK_row (by omega) (by omega)) (by omega) | exact zkk (zK_file (by omega) (by omega)) (by omega) | exact zkk (zK_byte (by omega) (by omega)) (by omega) | exact zkk (zK_list (by omega)) (by omega) | assumption); (case j125 => omega)
      refine zx_il5 zd94_153 ?_
      first | with_reducible refine zx_addN zd94_155 ?_ | refine zx_add zd94_155 ?_
      refine zx_al0 zd94_156 ?_
      (refine' zx_gfA zd94_157 ?k129 ?r129 ?_); (case k129 => first | exact zkk rfl (by omega) | exact zkk (zK_B0 (by omega)) (by omega) | exact zkk ((zK_B (by omega) (by decide)).trans rfl) (by omega) | exact zkk (zK_row (by omega) (by omega)) (by omega) | exact zkk (zK_file (by omega) (by omega)) (by omega) | exact zkk (zK_byte (by omega) (by omega)) (by omega) | exact zkk (zK_list (by omega)) (by omega) | assumption); (case r129 => first | exact hR.1 _ _ _ rfl | assumption)
      refine zx_il2 zd94_160 ?_
      refine zx_c zd94_161 ?_
      first | ((with_reducible refine zx_subN zd94_163 ?h132 ?_); (case h132 => omega)) | refine zx_sub zd94_163 ?_
      (with_reducible refine' zx_ialdN zd94_164 ?k133 ?j133 ?_); (case k133 => first | exact zkk rfl (by omega) | exact zkk (zK_B0 (by omega)) (by omega) | exact zkk ((zK_B (by omega) (by decide)).trans rfl) (by omega) | exact zkk (zK_row (by omega) (by omega)) (by omega) | exact zkk (zK_file (by omega) (by omega)) (by omega) | exact zkk (zK_byte (by omega) (by omega)) (by omega) | exact zkk (zK_list (by omega)) (by omega) | assumption); (case j133 => omega)
      first | with_reducible refine zx_addN zd94_165 ?_ | refine zx_add zd94_165 ?_
      refine zx_il6 zd94_166 ?_
      first | with_reducible refine zx_addN zd94_168 ?_ | refine zx_add zd94_168 ?_
      (with_reducible refine' zx_iastN zd94_169 ?k137 ?j137 ?a137 ?_); (case k137 => first | exact zkk rfl (by omega) | exact zkk (zK_B0 (by omega)) (by omega) | exact zkk ((zK_B (by omega) (by decide)).trans rfl) (by omega) | exact zkk (zK_row (by omega) (by omega)) (by omega) | exact zkk (zK_file (by omega) (by omega)) (by omega) | exact zkk (zK_byte (by omega) (by omega)) (by omega) | exact zkk (zK_list (by omega)) (by omega) | assumption); (case j137 => omega); (case a137 => omega)
      first | with_reducible refine zx_iin2 zd94_170 ?_ | refine zx_ii2 zd94_170 ?_
      refine zx_goto zd94_173 ?_
      have k := ih (n + 1) (some (.int (zsch (I 439) n (16 + n - 15)))) (some (.int (zsch (I 439) n (16 + n - 2)))) (some (.int (zs0 (zsch (I 439) n (16 + n - 15))))) (some (.int (zs1 (zsch (I 439) n (16 + n - 2))))) (by omega)
      rw [zu_rw, zrw_rw, zrw_at]
      exact k
theorem zm_b3 (hR : zRs R) (hN : 459 ≤ N) {l1 l3 l4 l5 l6 l7 l8 l9 l10 : Option Value}
    (kk : zW L 94 202 [some (.ref 436), l1, some (.int (Int32.ofNat 8)), l3, l4, l5, l6, l7, l8, l9, l10] [] (N, U, zrw I 441 (zfill (I 441) 0 8 (I 440)), J, R) Q) :
    ∀ (q i : Nat), i + q = 8 → zW L 94 178 [some (.ref 436), l1, some (.int (Int32.ofNat i)), l3, l4, l5, l6, l7, l8, l9, l10] [] (N, U, zrw I 441 (zfill (I 441) 0 i (I 440)), J, R) Q := by
  intro q
  induction q with
  | zero =>
    intro i hi
    obtain rfl : i = 8 := by omega
    refine zx_il2 zd94_178 ?_
    refine zx_c zd94_179 ?_
    first | ((with_reducible refine zx_icmpgeN zd94_181 ?s142 (fun hc => ?_) (fun hc => ?_)); (case s142 => omega)) | refine zx_icmpge zd94_181 (fun hc => ?_) (fun hc => ?_)
    · exact kk
    · omega
  | succ q ih =>
    intro i hi
    refine zx_il2 zd94_178 ?_
    refine zx_c zd94_179 ?_
    first | ((with_reducible refine zx_icmpgeN zd94_181 ?s145 (fun hc => ?_) (fun hc => ?_)); (case s145 => omega)) | refine zx_icmpge zd94_181 (fun hc => ?_) (fun hc => ?_)
    · omega
    · refine zx_al0 zd94_184 ?_
      (refine' zx_gfA zd94_185 ?k147 ?r147 ?_); (case k147 => first | exact zkk rfl (by omega) | exact zkk (zK_B0 (by omega)) (by omega) | exact zkk ((zK_B (by omega) (by decide)).trans rfl) (by omega) | exact zkk (zK_row (by omega) (by omega)) (by omega) | exact zkk (zK_file (by omega) (by omega)) (by omega) | exact zkk (zK_byte (by omega) (by omega)) (by omega) | exact zkk (zK_list (by omega)) (by omega) | assumption); (case r147 => first | exact hR.1 _ _ _ rfl | assumption)
      refine zx_il2 zd94_188 ?_
      refine zx_al0 zd94_189 ?_
      (refine' zx_gfA zd94_190 ?k150 ?r150 ?_); (case k150 => first | exact zkk rfl (by omega) | exact zkk (zK_B0 (by omega)) (by omega) | exact zkk ((zK_B (by omega) (by decide)).trans rfl) (by omega) | exact zkk (zK_row (by omega) (by omega)) (by omega) | exact zkk (zK_file (by omega) (by omega)) (by omega) | exact zkk (zK_byte (by omega) (by omega)) (by omega) | exact zkk (zK_list (by omega)) (by omega) | assumption); (case r150 => first | exact hR.1 _ _ _ rfl | assumption)
      refine zx_il2 zd94_193 ?_
      (with_reducible refine' zx_ialdN zd94_194 ?k152 ?j152 ?_); (case k152 => first | exact zkk rfl (by omega) | exact zkk (zK_B0 (by omega)) (by omega) | exact zkk ((zK_B (by omega) (by decide)).trans rfl) (by omega) | exact zkk (zK_row (by omega) (by omega)) (by omega) | exact zkk (zK_file (by omega) (by omega)) (by omega) | exact zkk (zK_byte (by omega) (by omega)) (by omega) | exact zkk (zK_list (by omega)) (by omega) | assumption); (case j152 => omega)
      (with_reducible refine' zx_iastN zd94_195 ?k153 ?j153 ?a153 ?_); (case k153 => first | exact zkk rfl (by omega) | exact zkk (zK_B0 (by omega)) (by omega) | exact zkk ((zK_B (by omega) (by decide)).trans rfl) (by omega) | exact zkk (zK_row (by omega) (by omega)) (by omega) | exact zkk (zK_file (by omega) (by omega)) (by omega) | exact zkk (zK_byte (by omega) (by omega)) (by omega) | exact zkk (zK_list (by omega)) (by omega) | assumption); (case j153 => omega); (case a153 => omega)
      first | with_reducible refine zx_iin2 zd94_196 ?_ | refine zx_ii2 zd94_196 ?_
      refine zx_goto zd94_199 ?_
      have e := zfill_succ (I 441) 0 i (I 440)
      rw [Nat.zero_add] at e
      have k := ih (i + 1) (by omega)
      rw [← e] at k
      rw [zu_rw, zrw_rw, zrw_at, zrw_ne _ _ (show 440 ≠ 441 by decide)]
      exact k
/-- the inner shift -/
def zsh (f : Nat → Int32) (i : Nat) : Nat → Int32 := fun j => if i < j ∧ j ≤ 7 then f (j - 1) else f j
theorem zm_b4i (hR : zRs R) (hN : 459 ≤ N) {l1 l2 l3 l4 l5 l6 l7 l8 l9 : Option Value}
    (kk : zW L 94 388 [some (.ref 436), l1, l2, l3, l4, l5, l6, l7, l8, l9, some (.int (Int32.ofNat 0))] [] (N, U, zrw I 441 (zsh (I 441) 0), J, R) Q) :
    ∀ (i : Nat), i ≤ 7 → zW L 94 361 [some (.ref 436), l1, l2, l3, l4, l5, l6, l7, l8, l9, some (.int (Int32.ofNat i))] [] (N, U, zrw I 441 (zsh (I 441) i), J, R) Q := by
  intro i
  induction i with
  | zero =>
    intro hi
    refine zx_il10 zd94_361 ?_
    first | ((with_reducible refine zx_ifleN zd94_363 ?s157 (fun hc => ?_) (fun hc => ?_)); (case s157 => omega)) | refine zx_ifle zd94_363 (fun hc => ?_) (fun hc => ?_)
    · exact kk
    · omega
  | succ i ih =>
    intro hi
    refine zx_il10 zd94_361 ?_
    first | ((with_reducible refine zx_ifleN zd94_363 ?s159 (fun hc => ?_) (fun hc => ?_)); (case s159 => omega)) | refine zx_ifle zd94_363 (fun hc => ?_) (fun hc => ?_)
    · omega
    · refine zx_al0 zd94_366 ?_
      (refine' zx_gfA zd94_367 ?k161 ?r161 ?_); (case k161 => first | exact zkk rfl (by omega) | exact zkk (zK_B0 (by omega)) (by omega) | exact zkk ((zK_B (by omega) (by decide)).trans rfl) (by omega) | exact zkk (zK_row (by omega) (by omega)) (by omega) | exact zkk (zK_file (by omega) (by omega)) (by omega) | exact zkk (zK_byte (by omega) (by omega)) (by omega) | exact zkk (zK_list (by omega)) (by omega) | assumption); (case r161 => first | exact hR.1 _ _ _ rfl | assumption)
      refine zx_il10 zd94_370 ?_
      refine zx_al0 zd94_372 ?_
      (refine' zx_gfA zd94_373 ?k164 ?r164 ?_); (case k164 => first | exact zkk rfl (by omega) | exact zkk (zK_B0 (by omega)) (by omega) | exact zkk ((zK_B (by omega) (by decide)).trans rfl) (by omega) | exact zkk (zK_row (by omega) (by omega)) (by omega) | exact zkk (zK_file (by omega) (by omega)) (by omega) | exact zkk (zK_byte (by omega) (by omega)) (by omega) | exact zkk (zK_list (by omega)) (by omega) | assumption); (case r164 => first | exact hR.1 _ _ _ rfl | assumption)
      refine zx_il10 zd94_376 ?_
      refine zx_c zd94_378 ?_
      first | ((with_reducible refine zx_subN zd94_379 ?h167 ?_); (case h167 => omega)) | refine zx_sub zd94_379 ?_
      (with_reducible refine' zx_ialdN zd94_380 ?k168 ?j168 ?_); (case k168 => first | exact zkk rfl (by omega) | exact zkk (zK_B0 (by omega)) (by omega) | exact zkk ((zK_B (by omega) (by decide)).trans rfl) (by omega) | exact zkk (zK_row (by omega) (by omega)) (by omega) | exact zkk (zK_file (by omega) (by omega)) (by omega) | exact zkk (zK_byte (by omega) (by omega)) (by omega) | exact zkk (zK_list (by omega)) (by omega) | assumption); (case j168 => omega)
      (with_reducible refine' zx_iastN zd94_381 ?k169 ?j169 ?a169 ?_); (case k169 => first | exact zkk rfl (by omega) | exact zkk (zK_B0 (by omega)) (by omega) | exact zkk ((zK_B (by omega) (by decide)).trans rfl) (by omega) | exact zkk (zK_row (by omega) (by omega)) (by omega) | exact zkk (zK_file (by omega) (by omega)) (by omega) | exact zkk (zK_byte (by omega) (by omega)) (by omega) | exact zkk (zK_list (by omega)) (by omega) | assumption); (case j169 => omega); (case a169 => omega)
      first | ((with_reducible refine zx_iid10 zd94_382 ?h170 ?_); (case h170 => omega)) | refine zx_ii10 zd94_382 ?_
      refine zx_goto zd94_385 ?_
      have k := ih (by omega)
      rw [zu_rw, zrw_rw, zrw_at]
      have e : zup (zsh (I 441) (i + 1)) (i + 1) (zsh (I 441) (i + 1) (i + 1 - 1)) = zsh (I 441) i := by
        funext j
        unfold zup zsh
        by_cases hj : j = i + 1
        · subst hj
          rw [if_pos rfl, if_neg (by omega), if_pos (by omega)]
        · rw [if_neg hj]
          by_cases h2 : i + 1 < j ∧ j ≤ 7
          · rw [if_pos h2, if_pos (by omega)]
          · rw [if_neg h2, if_neg (by omega)]
      rw [e, Nat.add_sub_cancel]
      exact k
/-- eight places of the work row -/
def zw8 (f g : Nat → Int32) : Nat → Int32 := zfill g 0 8 f
theorem zm_b4 (hR : zRs R) (hN : 459 ≤ N) {l1 : Option Value} {g : Nat → Int32} (hg : I 441 = zw8 (I 440) g)
    (kk : ∀ l3 l4 l5 l6 l7 l8 l9 l10 : Option Value, zW L 94 419 [some (.ref 436), l1, some (.int (Int32.ofNat 64)), l3, l4, l5, l6, l7, l8, l9, l10] [] (N, U, zrw I 441 (zw8 (zrds (I 440) (I 437) (I 439) 64) g), J, R) Q) :
    ∀ (q n : Nat) (l3 l4 l5 l6 l7 l8 l9 l10 : Option Value), n + q = 64 → zW L 94 204 [some (.ref 436), l1, some (.int (Int32.ofNat n)), l3, l4, l5, l6, l7, l8, l9, l10] [] (N, U, zrw I 441 (zw8 (zrds (I 440) (I 437) (I 439) n) g), J, R) Q := by
  intro q
  induction q with
  | zero =>
    intro n l3 l4 l5 l6 l7 l8 l9 l10 hi
    obtain rfl : n = 64 := by omega
    refine zx_il2 zd94_204 ?_
    refine zx_c zd94_205 ?_
    first | ((with_reducible refine zx_icmpgeN zd94_207 ?s174 (fun hc => ?_) (fun hc => ?_)); (case s174 => omega)) | refine zx_icmpge zd94_207 (fun hc => ?_) (fun hc => ?_)
    · exact kk l3 l4 l5 l6 l7 l8 l9 l10
    · omega
  | succ q ih =>
    intro n l3 l4 l5 l6 l7 l8 l9 l10 hi
    refine zx_il2 zd94_204 ?_
    refine zx_c zd94_205 ?_
    first | ((with_reducible refine zx_icmpgeN zd94_207 ?s177 (fun hc => ?_) (fun hc => ?_)); (case s177 => omega)) | refine zx_icmpge zd94_207 (fun hc => ?_) (fun hc => ?_)
    · omega
    · refine zx_al0 zd94_210 ?_
      (refine' zx_gfA zd94_211 ?k179 ?r179 ?_); (case k179 => first | exact zkk rfl (by omega) | exact zkk (zK_B0 (by omega)) (by omega) | exact zkk ((zK_B (by omega) (by decide)).trans rfl) (by omega) | exact zkk (zK_row (by omega) (by omega)) (by omega) | exact zkk (zK_file (by omega) (by omega)) (by omega) | exact zkk (zK_byte (by omega) (by omega)) (by omega) | exact zkk (zK_list (by omega)) (by omega) | assumption); (case r179 => first | exact hR.1 _ _ _ rfl | assumption)
      refine zx_c zd94_214 ?_
      (with_reducible refine' zx_ialdN zd94_215 ?k181 ?j181 ?_); (case k181 => first | exact zkk rfl (by omega) | exact zkk (zK_B0 (by omega)) (by omega) | exact zkk ((zK_B (by omega) (by decide)).trans rfl) (by omega) | exact zkk (zK_row (by omega) (by omega)) (by omega) | exact zkk (zK_file (by omega) (by omega)) (by omega) | exact zkk (zK_byte (by omega) (by omega)) (by omega) | exact zkk (zK_list (by omega)) (by omega) | assumption); (case j181 => omega)
      refine zx_is3 zd94_216 rfl ?_
      refine zx_al0 zd94_217 ?_
      (refine' zx_gfA zd94_218 ?k184 ?r184 ?_); (case k184 => first | exact zkk rfl (by omega) | exact zkk (zK_B0 (by omega)) (by omega) | exact zkk ((zK_B (by omega) (by decide)).trans rfl) (by omega) | exact zkk (zK_row (by omega) (by omega)) (by omega) | exact zkk (zK_file (by omega) (by omega)) (by omega) | exact zkk (zK_byte (by omega) (by omega)) (by omega) | exact zkk (zK_list (by omega)) (by omega) | assumption); (case r184 => first | exact hR.1 _ _ _ rfl | assumption)
      refine zx_c zd94_221 ?_
      (with_reducible refine' zx_ialdN zd94_222 ?k186 ?j186 ?_); (case k186 => first | exact zkk rfl (by omega) | exact zkk (zK_B0 (by omega)) (by omega) | exact zkk ((zK_B (by omega) (by decide)).trans rfl) (by omega) | exact zkk (zK_row (by omega) (by omega)) (by omega) | exact zkk (zK_file (by omega) (by omega)) (by omega) | exact zkk (zK_byte (by omega) (by omega)) (by omega) | exact zkk (zK_list (by omega)) (by omega) | assumption); (case j186 => omega)
      refine zx_is4 zd94_223 rfl ?_
      refine zx_il3 zd94_225 ?_
      refine zx_c zd94_226 ?_
      refine zx_cs2I zd94_228 (zm_turned _ _ _ _) ?_
      refine zx_il3 zd94_231 ?_
      refine zx_c zd94_232 ?_
      refine zx_cs2I zd94_234 (zm_turned _ _ _ _) ?_
      first | with_reducible refine zx_xorN zd94_237 ?_ | refine zx_xor zd94_237 ?_
      refine zx_il3 zd94_238 ?_
      refine zx_c zd94_239 ?_
      refine zx_cs2I zd94_241 (zm_turned _ _ _ _) ?_
      first | with_reducible refine zx_xorN zd94_244 ?_ | refine zx_xor zd94_244 ?_
      refine zx_is5 zd94_245 rfl ?_
      refine zx_il3 zd94_247 ?_
      refine zx_al0 zd94_248 ?_
      (refine' zx_gfA zd94_249 ?k202 ?r202 ?_); (case k202 => first | exact zkk rfl (by omega) | exact zkk (zK_B0 (by omega)) (by omega) | exact zkk ((zK_B (by omega) (by decide)).trans rfl) (by omega) | exact zkk (zK_row (by omega) (by omega)) (by omega) | exact zkk (zK_file (by omega) (by omega)) (by omega) | exact zkk (zK_byte (by omega) (by omega)) (by omega) | exact zkk (zK_list (by omega)) (by omega) | assumption); (case r202 => first | exact hR.1 _ _ _ rfl | assumption)
      refine zx_c zd94_252 ?_
      (with_reducible refine' zx_ialdN zd94_253 ?k204 ?j204 ?_); (case k204 => first | exact zkk rfl (by omega) | exact zkk (zK_B0 (by omega)) (by omega) | exact zkk ((zK_B (by omega) (by decide)).trans rfl) (by omega) | exact zkk (zK_row (by omega) (by omega)) (by omega) | exact zkk (zK_file (by omega) (by omega)) (by omega) | exact zkk (zK_byte (by omega) (by omega)) (by omega) | exact zkk (zK_list (by omega)) (by omega) | assumption); (case j204 => omega)
      first | with_reducible refine zx_andN zd94_254 ?_ | refine zx_and zd94_254 ?_
      refine zx_il3 zd94_255 ?_
      refine zx_c zd94_256 ?_
      first | with_reducible refine zx_xorN zd94_257 ?_ | refine zx_xor zd94_257 ?_
      refine zx_al0 zd94_258 ?_
      (refine' zx_gfA zd94_259 ?k210 ?r210 ?_); (case k210 => first | exact zkk rfl (by omega) | exact zkk (zK_B0 (by omega)) (by omega) | exact zkk ((zK_B (by omega) (by decide)).trans rfl) (by omega) | exact zkk (zK_row (by omega) (by omega)) (by omega) | exact zkk (zK_file (by omega) (by omega)) (by omega) | exact zkk (zK_byte (by omega) (by omega)) (by omega) | exact zkk (zK_list (by omega)) (by omega) | assumption); (case r210 => first | exact hR.1 _ _ _ rfl | assumption)
      refine zx_c zd94_262 ?_
      (with_reducible refine' zx_ialdN zd94_264 ?k212 ?j212 ?_); (case k212 => first | exact zkk rfl (by omega) | exact zkk (zK_B0 (by omega)) (by omega) | exact zkk ((zK_B (by omega) (by decide)).trans rfl) (by omega) | exact zkk (zK_row (by omega) (by omega)) (by omega) | exact zkk (zK_file (by omega) (by omega)) (by omega) | exact zkk (zK_byte (by omega) (by omega)) (by omega) | exact zkk (zK_list (by omega)) (by omega) | assumption); (case j212 => omega)
      first | with_reducible refine zx_andN zd94_265 ?_ | refine zx_and zd94_265 ?_
      first | with_reducible refine zx_xorN zd94_266 ?_ | refine zx_xor zd94_266 ?_
      refine zx_is6 zd94_267 rfl ?_
      refine zx_al0 zd94_269 ?_
      (refine' zx_gfA zd94_270 ?k217 ?r217 ?_); (case k217 => first | exact zkk rfl (by omega) | exact zkk (zK_B0 (by omega)) (by omega) | exact zkk ((zK_B (by omega) (by decide)).trans rfl) (by omega) | exact zkk (zK_row (by omega) (by omega)) (by omega) | exact zkk (zK_file (by omega) (by omega)) (by omega) | exact zkk (zK_byte (by omega) (by omega)) (by omega) | exact zkk (zK_list (by omega)) (by omega) | assumption); (case r217 => first | exact hR.1 _ _ _ rfl | assumption)
      refine zx_c zd94_273 ?_
      (with_reducible refine' zx_ialdN zd94_275 ?k219 ?j219 ?_); (case k219 => first | exact zkk rfl (by omega) | exact zkk (zK_B0 (by omega)) (by omega) | exact zkk ((zK_B (by omega) (by decide)).trans rfl) (by omega) | exact zkk (zK_row (by omega) (by omega)) (by omega) | exact zkk (zK_file (by omega) (by omega)) (by omega) | exact zkk (zK_byte (by omega) (by omega)) (by omega) | exact zkk (zK_list (by omega)) (by omega) | assumption); (case j219 => omega)
      refine zx_il5 zd94_276 ?_
      first | with_reducible refine zx_addN zd94_278 ?_ | refine zx_add zd94_278 ?_
      refine zx_il6 zd94_279 ?_
      first | with_reducible refine zx_addN zd94_281 ?_ | refine zx_add zd94_281 ?_
      refine zx_al0 zd94_282 ?_
      (refine' zx_gfA zd94_283 ?k225 ?r225 ?_); (case k225 => first | exact zkk rfl (by omega) | exact zkk (zK_B0 (by omega)) (by omega) | exact zkk ((zK_B (by omega) (by decide)).trans rfl) (by omega) | exact zkk (zK_row (by omega) (by omega)) (by omega) | exact zkk (zK_file (by omega) (by omega)) (by omega) | exact zkk (zK_byte (by omega) (by omega)) (by omega) | exact zkk (zK_list (by omega)) (by omega) | assumption); (case r225 => first | exact hR.1 _ _ _ rfl | assumption)
      refine zx_il2 zd94_286 ?_
      (with_reducible refine' zx_ialdN zd94_287 ?k227 ?j227 ?_); (case k227 => first | exact zkk rfl (by omega) | exact zkk (zK_B0 (by omega)) (by omega) | exact zkk ((zK_B (by omega) (by decide)).trans rfl) (by omega) | exact zkk (zK_row (by omega) (by omega)) (by omega) | exact zkk (zK_file (by omega) (by omega)) (by omega) | exact zkk (zK_byte (by omega) (by omega)) (by omega) | exact zkk (zK_list (by omega)) (by omega) | assumption); (case j227 => omega)
      first | with_reducible refine zx_addN zd94_288 ?_ | refine zx_add zd94_288 ?_
      refine zx_al0 zd94_289 ?_
      (refine' zx_gfA zd94_290 ?k230 ?r230 ?_); (case k230 => first | exact zkk rfl (by omega) | exact zkk (zK_B0 (by omega)) (by omega) | exact zkk ((zK_B (by omega) (by decide)).trans rfl) (by omega) | exact zkk (zK_row (by omega) (by omega)) (by omega) | exact zkk (zK_file (by omega) (by omega)) (by omega) | exact zkk (zK_byte (by omega) (by omega)) (by omega) | exact zkk (zK_list (by omega)) (by omega) | assumption); (case r230 => first | exact hR.1 _ _ _ rfl | assumption)
      refine zx_il2 zd94_293 ?_
      (with_reducible refine' zx_ialdN zd94_294 ?k232 ?j232 ?_); (case k232 => first | exact zkk rfl (by omega) | exact zkk (zK_B0 (by omega)) (by omega) | exact zkk ((zK_B (by omega) (by decide)).trans rfl) (by omega) | exact zkk (zK_row (by omega) (by omega)) (by omega) | exact zkk (zK_file (by omega) (by omega)) (by omega) | exact zkk (zK_byte (by omega) (by omega)) (by omega) | exact zkk (zK_list (by omega)) (by omega) | assumption); (case j232 => omega)
      first | with_reducible refine zx_addN zd94_295 ?_ | refine zx_add zd94_295 ?_
      refine zx_is7 zd94_296 rfl ?_
      refine zx_il4 zd94_298 ?_
      refine zx_c zd94_300 ?_
      refine zx_cs2I zd94_301 (zm_turned _ _ _ _) ?_
      refine zx_il4 zd94_304 ?_
      refine zx_c zd94_306 ?_
      refine zx_cs2I zd94_308 (zm_turned _ _ _ _) ?_
      first | with_reducible refine zx_xorN zd94_311 ?_ | refine zx_xor zd94_311 ?_
      refine zx_il4 zd94_312 ?_
      refine zx_c zd94_314 ?_
      refine zx_cs2I zd94_316 (zm_turned _ _ _ _) ?_
      first | with_reducible refine zx_xorN zd94_319 ?_ | refine zx_xor zd94_319 ?_
      refine zx_is8 zd94_320 rfl ?_
      refine zx_il4 zd94_322 ?_
      refine zx_al0 zd94_324 ?_
      (refine' zx_gfA zd94_325 ?k249 ?r249 ?_); (case k249 => first | exact zkk rfl (by omega) | exact zkk (zK_B0 (by omega)) (by omega) | exact zkk ((zK_B (by omega) (by decide)).trans rfl) (by omega) | exact zkk (zK_row (by omega) (by omega)) (by omega) | exact zkk (zK_file (by omega) (by omega)) (by omega) | exact zkk (zK_byte (by omega) (by omega)) (by omega) | exact zkk (zK_list (by omega)) (by omega) | assumption); (case r249 => first | exact hR.1 _ _ _ rfl | assumption)
      refine zx_c zd94_328 ?_
      (with_reducible refine' zx_ialdN zd94_329 ?k251 ?j251 ?_); (case k251 => first | exact zkk rfl (by omega) | exact zkk (zK_B0 (by omega)) (by omega) | exact zkk ((zK_B (by omega) (by decide)).trans rfl) (by omega) | exact zkk (zK_row (by omega) (by omega)) (by omega) | exact zkk (zK_file (by omega) (by omega)) (by omega) | exact zkk (zK_byte (by omega) (by omega)) (by omega) | exact zkk (zK_list (by omega)) (by omega) | assumption); (case j251 => omega)
      first | with_reducible refine zx_andN zd94_330 ?_ | refine zx_and zd94_330 ?_
      refine zx_il4 zd94_331 ?_
      refine zx_al0 zd94_333 ?_
      (refine' zx_gfA zd94_334 ?k255 ?r255 ?_); (case k255 => first | exact zkk rfl (by omega) | exact zkk (zK_B0 (by omega)) (by omega) | exact zkk ((zK_B (by omega) (by decide)).trans rfl) (by omega) | exact zkk (zK_row (by omega) (by omega)) (by omega) | exact zkk (zK_file (by omega) (by omega)) (by omega) | exact zkk (zK_byte (by omega) (by omega)) (by omega) | exact zkk (zK_list (by omega)) (by omega) | assumption); (case r255 => first | exact hR.1 _ _ _ rfl | assumption)
      refine zx_c zd94_337 ?_
      (with_reducible refine' zx_ialdN zd94_338 ?k257 ?j257 ?_); (case k257 => first | exact zkk rfl (by omega) | exact zkk (zK_B0 (by omega)) (by omega) | exact zkk ((zK_B (by omega) (by decide)).trans rfl) (by omega) | exact zkk (zK_row (by omega) (by omega)) (by omega) | exact zkk (zK_file (by omega) (by omega)) (by omega) | exact zkk (zK_byte (by omega) (by omega)) (by omega) | exact zkk (zK_list (by omega)) (by omega) | assumption); (case j257 => omega)
      first | with_reducible refine zx_andN zd94_339 ?_ | refine zx_and zd94_339 ?_
      first | with_reducible refine zx_xorN zd94_340 ?_ | refine zx_xor zd94_340 ?_
      refine zx_al0 zd94_341 ?_
      (refine' zx_gfA zd94_342 ?k261 ?r261 ?_); (case k261 => first | exact zkk rfl (by omega) | exact zkk (zK_B0 (by omega)) (by omega) | exact zkk ((zK_B (by omega) (by decide)).trans rfl) (by omega) | exact zkk (zK_row (by omega) (by omega)) (by omega) | exact zkk (zK_file (by omega) (by omega)) (by omega) | exact zkk (zK_byte (by omega) (by omega)) (by omega) | exact zkk (zK_list (by omega)) (by omega) | assumption); (case r261 => first | exact hR.1 _ _ _ rfl | assumption)
      refine zx_c zd94_345 ?_
      (with_reducible refine' zx_ialdN zd94_346 ?k263 ?j263 ?_); (case k263 => first | exact zkk rfl (by omega) | exact zkk (zK_B0 (by omega)) (by omega) | exact zkk ((zK_B (by omega) (by decide)).trans rfl) (by omega) | exact zkk (zK_row (by omega) (by omega)) (by omega) | exact zkk (zK_file (by omega) (by omega)) (by omega) | exact zkk (zK_byte (by omega) (by omega)) (by omega) | exact zkk (zK_list (by omega)) (by omega) | assumption); (case j263 => omega)
      refine zx_al0 zd94_347 ?_
      (refine' zx_gfA zd94_348 ?k265 ?r265 ?_); (case k265 => first | exact zkk rfl (by omega) | exact zkk (zK_B0 (by omega)) (by omega) | exact zkk ((zK_B (by omega) (by decide)).trans rfl) (by omega) | exact zkk (zK_row (by omega) (by omega)) (by omega) | exact zkk (zK_file (by omega) (by omega)) (by omega) | exact zkk (zK_byte (by omega) (by omega)) (by omega) | exact zkk (zK_list (by omega)) (by omega) | assumption); (case r265 => first | exact hR.1 _ _ _ rfl | assumption)
      refine zx_c zd94_351 ?_
      (with_reducible refine' zx_ialdN zd94_352 ?k267 ?j267 ?_); (case k267 => first | exact zkk rfl (by omega) | exact zkk (zK_B0 (by omega)) (by omega) | exact zkk ((zK_B (by omega) (by decide)).trans rfl) (by omega) | exact zkk (zK_row (by omega) (by omega)) (by omega) | exact zkk (zK_file (by omega) (by omega)) (by omega) | exact zkk (zK_byte (by omega) (by omega)) (by omega) | exact zkk (zK_list (by omega)) (by omega) | assumption); (case j267 => omega)
      first | with_reducible refine zx_andN zd94_353 ?_ | refine zx_and zd94_353 ?_
      first | with_reducible refine zx_xorN zd94_354 ?_ | refine zx_xor zd94_354 ?_
      refine zx_is9 zd94_355 rfl ?_
      refine zx_c zd94_357 ?_
      refine zx_is10 zd94_359 rfl ?_
      have e7 : zsh (zrw I 441 (zw8 (zrds (I 440) (I 437) (I 439) n) g) 441) 7 = zrw I 441 (zw8 (zrds (I 440) (I 437) (I 439) n) g) 441 := by
        funext j
        exact if_neg (by omega)
      have k2 := zm_b4i (L := L) (U := U) (I := zrw I 441 (zw8 (zrds (I 440) (I 437) (I 439) n) g)) (J := J) (Q := Q) hR hN (l1 := l1) (l2 := some (.int (Int32.ofNat n))) (l3 := some (.int (zrds (I 440) (I 437) (I 439) n 4))) (l4 := some (.int (zrds (I 440) (I 437) (I 439) n 0)))
        (l5 := some (.int (zhi (zrds (I 440) (I 437) (I 439) n 4)))) (l6 := some (.int (zch (zrds (I 440) (I 437) (I 439) n 4) (zrds (I 440) (I 437) (I 439) n 5) (zrds (I 440) (I 437) (I 439) n 6)))) (l7 := some (.int (zfs (zrds (I 440) (I 437) (I 439) n) (I 437 n) (I 439 n))))
        (l8 := some (.int (zlw (zrds (I 440) (I 437) (I 439) n 0)))) (l9 := some (.int (zmj (zrds (I 440) (I 437) (I 439) n 0) (zrds (I 440) (I 437) (I 439) n 1) (zrds (I 440) (I 437) (I 439) n 2)))) ?_ 7 (by decide)
      · rw [e7, zrw_at, zrw_rw] at k2
        exact k2
      · rw [zrw_at, zrw_rw]
        refine zx_al0 zd94_388 ?_
        (refine' zx_gfA zd94_389 ?k274 ?r274 ?_); (case k274 => first | exact zkk rfl (by omega) | exact zkk (zK_B0 (by omega)) (by omega) | exact zkk ((zK_B (by omega) (by decide)).trans rfl) (by omega) | exact zkk (zK_row (by omega) (by omega)) (by omega) | exact zkk (zK_file (by omega) (by omega)) (by omega) | exact zkk (zK_byte (by omega) (by omega)) (by omega) | exact zkk (zK_list (by omega)) (by omega) | assumption); (case r274 => first | exact hR.1 _ _ _ rfl | assumption)
        refine zx_c zd94_392 ?_
        refine zx_dup2 zd94_393 ?_
        (with_reducible refine' zx_ialdN zd94_394 ?k277 ?j277 ?_); (case k277 => first | exact zkk rfl (by omega) | exact zkk (zK_B0 (by omega)) (by omega) | exact zkk ((zK_B (by omega) (by decide)).trans rfl) (by omega) | exact zkk (zK_row (by omega) (by omega)) (by omega) | exact zkk (zK_file (by omega) (by omega)) (by omega) | exact zkk (zK_byte (by omega) (by omega)) (by omega) | exact zkk (zK_list (by omega)) (by omega) | assumption); (case j277 => omega)
        refine zx_il7 zd94_395 ?_
        first | with_reducible refine zx_addN zd94_397 ?_ | refine zx_add zd94_397 ?_
        (with_reducible refine' zx_iastN zd94_398 ?k280 ?j280 ?a280 ?_); (case k280 => first | exact zkk rfl (by omega) | exact zkk (zK_B0 (by omega)) (by omega) | exact zkk ((zK_B (by omega) (by decide)).trans rfl) (by omega) | exact zkk (zK_row (by omega) (by omega)) (by omega) | exact zkk (zK_file (by omega) (by omega)) (by omega) | exact zkk (zK_byte (by omega) (by omega)) (by omega) | exact zkk (zK_list (by omega)) (by omega) | assumption); (case j280 => omega); (case a280 => omega)
        refine zx_al0 zd94_399 ?_
        (refine' zx_gfA zd94_400 ?k282 ?r282 ?_); (case k282 => first | exact zkk rfl (by omega) | exact zkk (zK_B0 (by omega)) (by omega) | exact zkk ((zK_B (by omega) (by decide)).trans rfl) (by omega) | exact zkk (zK_row (by omega) (by omega)) (by omega) | exact zkk (zK_file (by omega) (by omega)) (by omega) | exact zkk (zK_byte (by omega) (by omega)) (by omega) | exact zkk (zK_list (by omega)) (by omega) | assumption); (case r282 => first | exact hR.1 _ _ _ rfl | assumption)
        refine zx_c zd94_403 ?_
        refine zx_il7 zd94_404 ?_
        refine zx_il8 zd94_406 ?_
        first | with_reducible refine zx_addN zd94_408 ?_ | refine zx_add zd94_408 ?_
        refine zx_il9 zd94_409 ?_
        first | with_reducible refine zx_addN zd94_411 ?_ | refine zx_add zd94_411 ?_
        (with_reducible refine' zx_iastN zd94_412 ?k289 ?j289 ?a289 ?_); (case k289 => first | exact zkk rfl (by omega) | exact zkk (zK_B0 (by omega)) (by omega) | exact zkk ((zK_B (by omega) (by decide)).trans rfl) (by omega) | exact zkk (zK_row (by omega) (by omega)) (by omega) | exact zkk (zK_file (by omega) (by omega)) (by omega) | exact zkk (zK_byte (by omega) (by omega)) (by omega) | exact zkk (zK_list (by omega)) (by omega) | assumption); (case j289 => omega); (case a289 => omega)
        first | with_reducible refine zx_iin2 zd94_413 ?_ | refine zx_ii2 zd94_413 ?_
        refine zx_goto zd94_416 ?_
        have k := ih (n + 1) (some (.int (zrds (I 440) (I 437) (I 439) n 4))) (some (.int (zrds (I 440) (I 437) (I 439) n 0))) (some (.int (zhi (zrds (I 440) (I 437) (I 439) n 4)))) (some (.int (zch (zrds (I 440) (I 437) (I 439) n 4) (zrds (I 440) (I 437) (I 439) n 5) (zrds (I 440) (I 437) (I 439) n 6)))) (some (.int (zfs (zrds (I 440) (I 437) (I 439) n) (I 437 n) (I 439 n)))) (some (.int (zlw (zrds (I 440) (I 437) (I 439) n 0)))) (some (.int (zmj (zrds (I 440) (I 437) (I 439) n 0) (zrds (I 440) (I 437) (I 439) n 1) (zrds (I 440) (I 437) (I 439) n 2)))) (some (.int (Int32.ofNat 0))) (by omega)
        have e : zw8 (zrds (I 440) (I 437) (I 439) (n + 1)) g = zup (zup (zsh (zw8 (zrds (I 440) (I 437) (I 439) n) g) 0) 4 (zrds (I 440) (I 437) (I 439) n 3 + zfs (zrds (I 440) (I 437) (I 439) n) (I 437 n) (I 439 n))) 0 (zfs (zrds (I 440) (I 437) (I 439) n) (I 437 n) (I 439 n) + zlw (zrds (I 440) (I 437) (I 439) n 0) + zmj (zrds (I 440) (I 437) (I 439) n 0) (zrds (I 440) (I 437) (I 439) n 1) (zrds (I 440) (I 437) (I 439) n 2)) := by
          funext j
          match j with
          | 0 => rfl
          | 1 => rfl
          | 2 => rfl
          | 3 => rfl
          | 4 => rfl
          | 5 => rfl
          | 6 => rfl
          | 7 => rfl
          | j + 8 =>
            unfold zw8
            rw [zfill_out _ _ _ _ (by omega), zup_ne _ _ (by omega), zup_ne _ _ (by omega)]
            show g (j + 8) = (if 0 < j + 8 ∧ j + 8 ≤ 7 then _ else zfill g 0 8 _ (j + 8))
            rw [if_neg (by omega), zfill_out _ _ _ _ (by omega)]
        rw [e] at k
        simp only [zu_rw, zrw_rw, zrw_at]
        exact k
theorem zm_b5 (hR : zRs R) (hN : 459 ≤ N) {l1 l3 l4 l5 l6 l7 l8 l9 l10 : Option Value}
    (kk : zW L 94 448 [some (.ref 436), l1, some (.int (Int32.ofNat 8)), l3, l4, l5, l6, l7, l8, l9, l10] [] (N, U, zrw I 440 (zfill (I 440) 0 8 (fun j => I 440 j + I 441 j)), J, R) Q) :
    ∀ (q i : Nat), i + q = 8 → zW L 94 421 [some (.ref 436), l1, some (.int (Int32.ofNat i)), l3, l4, l5, l6, l7, l8, l9, l10] [] (N, U, zrw I 440 (zfill (I 440) 0 i (fun j => I 440 j + I 441 j)), J, R) Q := by
  intro q
  induction q with
  | zero =>
    intro i hi
    obtain rfl : i = 8 := by omega
    refine zx_il2 zd94_421 ?_
    refine zx_c zd94_422 ?_
    first | ((with_reducible refine zx_icmpgeN zd94_424 ?s294 (fun hc => ?_) (fun hc => ?_)); (case s294 => omega)) | refine zx_icmpge zd94_424 (fun hc => ?_) (fun hc => ?_)
    · exact kk
    · omega
  | succ q ih =>
    intro i hi
    refine zx_il2 zd94_421 ?_
    refine zx_c zd94_422 ?_
    first | ((with_reducible refine zx_icmpgeN zd94_424 ?s297 (fun hc => ?_) (fun hc => ?_)); (case s297 => omega)) | refine zx_icmpge zd94_424 (fun hc => ?_) (fun hc => ?_)
    · omega
    · refine zx_al0 zd94_427 ?_
      (refine' zx_gfA zd94_428 ?k299 ?r299 ?_); (case k299 => first | exact zkk rfl (by omega) | exact zkk (zK_B0 (by omega)) (by omega) | exact zkk ((zK_B (by omega) (by decide)).trans rfl) (by omega) | exact zkk (zK_row (by omega) (by omega)) (by omega) | exact zkk (zK_file (by omega) (by omega)) (by omega) | exact zkk (zK_byte (by omega) (by omega)) (by omega) | exact zkk (zK_list (by omega)) (by omega) | assumption); (case r299 => first | exact hR.1 _ _ _ rfl | assumption)
      refine zx_il2 zd94_431 ?_
      refine zx_dup2 zd94_432 ?_
      (with_reducible refine' zx_ialdN zd94_433 ?k302 ?j302 ?_); (case k302 => first | exact zkk rfl (by omega) | exact zkk (zK_B0 (by omega)) (by omega) | exact zkk ((zK_B (by omega) (by decide)).trans rfl) (by omega) | exact zkk (zK_row (by omega) (by omega)) (by omega) | exact zkk (zK_file (by omega) (by omega)) (by omega) | exact zkk (zK_byte (by omega) (by omega)) (by omega) | exact zkk (zK_list (by omega)) (by omega) | assumption); (case j302 => omega)
      refine zx_al0 zd94_434 ?_
      (refine' zx_gfA zd94_435 ?k304 ?r304 ?_); (case k304 => first | exact zkk rfl (by omega) | exact zkk (zK_B0 (by omega)) (by omega) | exact zkk ((zK_B (by omega) (by decide)).trans rfl) (by omega) | exact zkk (zK_row (by omega) (by omega)) (by omega) | exact zkk (zK_file (by omega) (by omega)) (by omega) | exact zkk (zK_byte (by omega) (by omega)) (by omega) | exact zkk (zK_list (by omega)) (by omega) | assumption); (case r304 => first | exact hR.1 _ _ _ rfl | assumption)
      refine zx_il2 zd94_438 ?_
      (with_reducible refine' zx_ialdN zd94_439 ?k306 ?j306 ?_); (case k306 => first | exact zkk rfl (by omega) | exact zkk (zK_B0 (by omega)) (by omega) | exact zkk ((zK_B (by omega) (by decide)).trans rfl) (by omega) | exact zkk (zK_row (by omega) (by omega)) (by omega) | exact zkk (zK_file (by omega) (by omega)) (by omega) | exact zkk (zK_byte (by omega) (by omega)) (by omega) | exact zkk (zK_list (by omega)) (by omega) | assumption); (case j306 => omega)
      first | with_reducible refine zx_addN zd94_440 ?_ | refine zx_add zd94_440 ?_
      (with_reducible refine' zx_iastN zd94_441 ?k308 ?j308 ?a308 ?_); (case k308 => first | exact zkk rfl (by omega) | exact zkk (zK_B0 (by omega)) (by omega) | exact zkk ((zK_B (by omega) (by decide)).trans rfl) (by omega) | exact zkk (zK_row (by omega) (by omega)) (by omega) | exact zkk (zK_file (by omega) (by omega)) (by omega) | exact zkk (zK_byte (by omega) (by omega)) (by omega) | exact zkk (zK_list (by omega)) (by omega) | assumption); (case j308 => omega); (case a308 => omega)
      first | with_reducible refine zx_iin2 zd94_442 ?_ | refine zx_ii2 zd94_442 ?_
      refine zx_goto zd94_445 ?_
      have e := zfill_succ (I 440) 0 i (fun j => I 440 j + I 441 j)
      rw [Nat.zero_add] at e
      have k := ih (i + 1) (by omega)
      rw [← e] at k
      rw [zu_rw, zrw_rw, zrw_at, zrw_ne _ _ (show 441 ≠ 440 by decide), zfill_out _ _ _ _ (show ¬ (0 ≤ i ∧ i < 0 + i) by omega)]
      exact k
/-- a block of the input comes into the state -/
theorem zm_block (hR : zRs R) (hN : 459 ≤ N) (hK : ∀ j, j < 64 → I 437 j = zKr j) {p : Nat} (hp : p + 64 ≤ 512) :
    ∃ I', zRet L 94 [.ref 436, .int (Int32.ofNat p)] (N, U, I, J, R) none (N, U, I', J, R) ∧ (∀ j, j < 8 → I' 440 j = zcomp (I 440) zKr (zsch (fun k => zwdI (I 438) (p + 4 * k)) 48) j) ∧ ∀ b, b ≠ 439 → b ≠ 440 → b ≠ 441 → I' b = I b := by
  have w : zW L 94 0 (zent 94 [.ref 436, .int (Int32.ofNat p)]) [] (N, U, I, J, R) (fun o k => o = .inl none ∧ ∃ I' : zI, k = (N, U, I', J, R) ∧ (∀ j, j < 8 → I' 440 j = zcomp (I 440) zKr (zsch (fun k => zwdI (I 438) (p + 4 * k)) 48) j) ∧ ∀ b, b ≠ 439 → b ≠ 440 → b ≠ 441 → I' b = I b) := by
    show zW L 94 0 [some (.ref 436), some (.int (Int32.ofNat p)), none, none, none, none, none, none, none, none, none] [] _ _
    refine zx_c zd94_0 ?_
    refine zx_is2 zd94_1 rfl ?_
    have k1 := fun kk => zm_b1 (L := L) (U := U) (I := I) (J := J) (Q := fun o k => o = .inl none ∧ ∃ I' : zI, k = (N, U, I', J, R) ∧ (∀ j, j < 8 → I' 440 j = zcomp (I 440) zKr (zsch (fun k => zwdI (I 438) (p + 4 * k)) 48) j) ∧ ∀ b, b ≠ 439 → b ≠ 440 → b ≠ 441 → I' b = I b) hR hN hp (l4 := none) (l5 := none) (l6 := none) (l7 := none) (l8 := none) (l9 := none) (l10 := none) kk 16 0 none rfl
    rw [zfill_zero, zrw_id] at k1
    refine k1 (fun l3 => ?_)
    refine zx_c zd94_68 ?_
    refine zx_is2 zd94_70 rfl ?_
    generalize hI1 : zrw I 439 (zfill (I 439) 0 16 (fun k => zwdI (I 438) (p + 4 * k))) = I1
    have k2 := fun kk => zm_b2 (L := L) (U := U) (I := I1) (J := J) (Q := fun o k => o = .inl none ∧ ∃ I' : zI, k = (N, U, I', J, R) ∧ (∀ j, j < 8 → I' 440 j = zcomp (I 440) zKr (zsch (fun k => zwdI (I 438) (p + 4 * k)) 48) j) ∧ ∀ b, b ≠ 439 → b ≠ 440 → b ≠ 441 → I' b = I b) hR hN (l1 := some (.int (Int32.ofNat p))) (l7 := none) (l8 := none) (l9 := none) (l10 := none) kk 48 0 l3 none none none rfl
    rw [show zsch (I1 439) 0 = I1 439 from rfl, zrw_id] at k2
    refine k2 (fun l3 l4 l5 l6 => ?_)
    refine zx_c zd94_176 ?_
    refine zx_is2 zd94_177 rfl ?_
    generalize hI2 : zrw I1 439 (zsch (I1 439) 48) = I2
    have k3 := fun kk => zm_b3 (L := L) (U := U) (I := I2) (J := J) (Q := fun o k => o = .inl none ∧ ∃ I' : zI, k = (N, U, I', J, R) ∧ (∀ j, j < 8 → I' 440 j = zcomp (I 440) zKr (zsch (fun k => zwdI (I 438) (p + 4 * k)) 48) j) ∧ ∀ b, b ≠ 439 → b ≠ 440 → b ≠ 441 → I' b = I b) hR hN (l1 := some (.int (Int32.ofNat p))) (l3 := l3) (l4 := l4) (l5 := l5) (l6 := l6) (l7 := none) (l8 := none) (l9 := none) (l10 := none) kk 8 0 rfl
    rw [zfill_zero, zrw_id] at k3
    refine k3 ?_
    refine zx_c zd94_202 ?_
    refine zx_is2 zd94_203 rfl ?_
    generalize hI3 : zrw I2 441 (zfill (I2 441) 0 8 (I2 440)) = I3
    have e3 : I3 441 = zw8 (I3 440) (I2 441) := by
      rw [← hI3, zrw_at, zrw_ne _ _ (show 440 ≠ 441 by decide)]; rfl
    have k4 := fun kk => zm_b4 (L := L) (U := U) (I := I3) (J := J) (Q := fun o k => o = .inl none ∧ ∃ I' : zI, k = (N, U, I', J, R) ∧ (∀ j, j < 8 → I' 440 j = zcomp (I 440) zKr (zsch (fun k => zwdI (I 438) (p + 4 * k)) 48) j) ∧ ∀ b, b ≠ 439 → b ≠ 440 → b ≠ 441 → I' b = I b) hR hN (l1 := some (.int (Int32.ofNat p))) e3 kk 64 0 l3 l4 l5 l6 none none none none rfl
    rw [show zrds (I3 440) (I3 437) (I3 439) 0 = I3 440 from rfl, ← e3, zrw_id] at k4
    refine k4 (fun l3 l4 l5 l6 l7 l8 l9 l10 => ?_)
    refine zx_c zd94_419 ?_
    refine zx_is2 zd94_420 rfl ?_
    generalize hI4 : zrw I3 441 (zw8 (zrds (I3 440) (I3 437) (I3 439) 64) (I2 441)) = I4
    have k5 := fun kk => zm_b5 (L := L) (U := U) (I := I4) (J := J) (Q := fun o k => o = .inl none ∧ ∃ I' : zI, k = (N, U, I', J, R) ∧ (∀ j, j < 8 → I' 440 j = zcomp (I 440) zKr (zsch (fun k => zwdI (I 438) (p + 4 * k)) 48) j) ∧ ∀ b, b ≠ 439 → b ≠ 440 → b ≠ 441 → I' b = I b) hR hN (l1 := some (.int (Int32.ofNat p))) (l3 := l3) (l4 := l4) (l5 := l5) (l6 := l6) (l7 := l7) (l8 := l8) (l9 := l9) (l10 := l10) kk 8 0 rfl
    rw [zfill_zero, zrw_id] at k5
    refine k5 ?_
    refine zx_vret zd94_448 rfl ?_
    refine ⟨rfl, _, rfl, fun j hj => ?_, fun b h1 h2 h3 => ?_⟩
    · have a627 : I4 440 = I 440 := by
        rw [← hI4, zrw_ne _ _ (show 440 ≠ 441 by decide), ← hI3, zrw_ne _ _ (show 440 ≠ 441 by decide), ← hI2, zrw_ne _ _ (show 440 ≠ 439 by decide), ← hI1, zrw_ne _ _ (show 440 ≠ 439 by decide)]
      have b627 : I3 440 = I 440 := by
        rw [← hI3, zrw_ne _ _ (show 440 ≠ 441 by decide), ← hI2, zrw_ne _ _ (show 440 ≠ 439 by decide), ← hI1, zrw_ne _ _ (show 440 ≠ 439 by decide)]
      have b624 : I3 437 = I 437 := by
        rw [← hI3, zrw_ne _ _ (show 437 ≠ 441 by decide), ← hI2, zrw_ne _ _ (show 437 ≠ 439 by decide), ← hI1, zrw_ne _ _ (show 437 ≠ 439 by decide)]
      have b626 : I3 439 = zsch (zfill (I 439) 0 16 (fun k => zwdI (I 438) (p + 4 * k))) 48 := by
        rw [← hI3, zrw_ne _ _ (show 439 ≠ 441 by decide), ← hI2, zrw_at, ← hI1, zrw_at]
      have a628 : I4 441 j = zrds (I 440) (I 437) (zsch (zfill (I 439) 0 16 (fun k => zwdI (I 438) (p + 4 * k))) 48) 64 j := by
        rw [← hI4, zrw_at]
        unfold zw8
        rw [zfill_in0 _ _ _ hj, b627, b624, b626]
      rw [zrw_at, zfill_in0 _ _ _ hj, a627, a628]
      unfold zcomp
      rw [if_pos hj]
      refine congrArg (fun x => I 440 j + x) ?_
      exact zrds_lt (fun _ _ => rfl) 64 (by decide) hK (fun i hi => zsch_lt _ _ 48 (fun k hk => zfill_in0 _ _ _ hk) i (by omega)) j hj
    · rw [zrw_ne _ _ h2, ← hI4, zrw_ne _ _ h3, ← hI3, zrw_ne _ _ h3, ← hI2, zrw_ne _ _ h1, ← hI1, zrw_ne _ _ h1]
  obtain ⟨k, hr, I', rfl, hd, hf⟩ := zRet_of w
  exact ⟨I', hr, hd, hf⟩
end ZMS
