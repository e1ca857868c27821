/-! THE DIGEST of a message -/
/-- the places from p on are filled, n of them -/
def zfill {α : Type} (f : Nat → α) (p n : Nat) (g : Nat → α) : Nat → α := fun j => if p ≤ j ∧ j < p + n then g (j - p) else f j
theorem zfill_zero {α : Type} (f : Nat → α) (p : Nat) (g : Nat → α) : zfill f p 0 g = f := by
  funext j
  exact if_neg (by omega)
theorem zfill_succ {α : Type} (f : Nat → α) (p n : Nat) (g : Nat → α) : zup (zfill f p n g) (p + n) (g n) = zfill f p (n + 1) g := by
  funext j
  show (if j = p + n then g n else (if p ≤ j ∧ j < p + n then g (j - p) else f j)) = (if p ≤ j ∧ j < p + (n + 1) then g (j - p) else f j)
  by_cases hj : j = p + n
  · rw [if_pos hj, if_pos (by omega), hj, Nat.add_sub_cancel_left]
  · rw [if_neg hj]
    by_cases hj2 : p ≤ j ∧ j < p + n
    · rw [if_pos hj2, if_pos (by omega)]
    · rw [if_neg hj2, if_neg (by omega)]
theorem zfill_in {α : Type} (f : Nat → α) (p n : Nat) (g : Nat → α) {j : Nat} (h : j < n) : zfill f p n g (p + j) = g j := by
  show (if p ≤ p + j ∧ p + j < p + n then g (p + j - p) else f (p + j)) = g j
  rw [if_pos (by omega), Nat.add_sub_cancel_left]
theorem zfill_in0 {α : Type} (f : Nat → α) (n : Nat) (g : Nat → α) {j : Nat} (h : j < n) : zfill f 0 n g j = g j := by
  have := zfill_in f 0 n g h
  rw [Nat.zero_add] at this
  exact this
theorem zfill_out {α : Type} (f : Nat → α) (p n : Nat) (g : Nat → α) {j : Nat} (h : ¬ (p ≤ j ∧ j < p + n)) : zfill f p n g j = f j := if_neg h
def zlb (n k : Nat) : Int32 := Int32.ofNat ((n * 8) >>> k &&& 255)
def zzs (n : Nat) : Nat := (119 - n % 64) % 64 + 4
def zpad (m : List Int32) : List Int32 := m ++ [Int32.ofNat 128] ++ List.replicate (zzs m.length) (Int32.ofNat 0) ++ [zlb m.length 24, zlb m.length 16, zlb m.length 8, zlb m.length 0]
def zsha (m : List Int32) (i : Nat) : Int32 := zush (zhs (zpad m) ((zpad m).length / 64) (i / 4)) (Int32.ofNat (24 - 8 * (i % 4))) &&& Int32.ofNat 255
def zoutb (s : Nat → Int32) (i : Nat) : Int32 := zush (s (i / 4)) (Int32.ofNat (24 - 8 * (i % 4))) &&& Int32.ofNat 255
theorem zpad_len (m : List Int32) : (zpad m).length = m.length + 5 + zzs m.length := by
  unfold zpad
  simp only [List.length_append, List.length_replicate, List.length_cons, List.length_nil]
  omega
theorem zpad_64 (m : List Int32) : (zpad m).length % 64 = 0 := by
  rw [zpad_len]; unfold zzs; omega
theorem zn_ush {a b : Nat} (ha : a < 2147483648) (hb : b < 32) : zush (Int32.ofNat a) (Int32.ofNat b) = Int32.ofNat (a >>> b) := by
  have hs : ∀ q : Fin 32, ((Int32.ofNat q.val).toUInt32 &&& Int32.toUInt32 31).toBitVec % 32 = BitVec.ofNat 32 q.val := by decide
  unfold zush
  apply Int32.toBitVec_inj.mp
  show ((Int32.ofNat a).toUInt32 >>> ((Int32.ofNat b).toUInt32 &&& Int32.toUInt32 31)).toBitVec = BitVec.ofNat 32 (a >>> b)
  rw [UInt32.toBitVec_shiftRight, hs ⟨b, hb⟩]
  apply BitVec.eq_of_toNat_eq
  show (BitVec.ofNat 32 a >>> (BitVec.ofNat 32 b).toNat).toNat = _
  rw [BitVec.toNat_ushiftRight, BitVec.toNat_ofNat, BitVec.toNat_ofNat, BitVec.toNat_ofNat]
  rw [Nat.mod_eq_of_lt (show a < 2 ^ 32 by omega), Nat.mod_eq_of_lt (show b < 2 ^ 32 by omega)]
  rw [Nat.mod_eq_of_lt]
  have : a >>> b ≤ a := Nat.shiftRight_le a b
  omega
theorem zn_zeros {n : Nat} (hn : n < 1000000) : (Int32.ofNat 56 - Int32.ofNat (n + 1)) &&& Int32.ofNat 63 = Int32.ofNat ((119 - n % 64) % 64) := by
  have e : Int32.ofNat 56 - Int32.ofNat (n + 1) = Int32.ofNat (4294967352 - (n + 1)) := by
    rw [Int32.ofNat_sub _ _ (by omega)]
    rfl
  rw [e, zn_and, zn_63]
  congr 1
  omega
theorem zap (m : List Int32) (b : Int32) (r : List Int32) : m ++ [b] ++ r = m ++ (b :: r) := by simp
section ZFIN
variable {L N U : Nat} {I : zI} {J : zJ} {R : zR} {m : List Int32}
theorem zrep_succ (n : Nat) (x : Int32) : List.replicate (n + 1) x = List.replicate n x ++ [x] := List.replicate_succ'
/-- the digester's rows and the row a have changed alone -/
def zF4 (a : Nat) (I I' : zI) : Prop := ∀ b, b ≠ 4 → b ≠ 5 → b ≠ 6 → b ≠ a → I' b = I b
theorem zF4.trans {a : Nat} {I I' I'' : zI} (h : zF4 a I I') (h' : zF4 a I' I'') : zF4 a I I'' := fun b h4 h5 h6 ha => (h' b h4 h5 h6 ha).trans (h b h4 h5 h6 ha)
theorem zF3.to4 {a : Nat} {I I' : zI} (h : zF3 I I') : zF4 a I I' := fun b h4 h5 h6 _ => h b h4 h5 h6
theorem zF4.cs {a : Nat} {I I' : zI} (h : zF4 a I I') (ha : 3 ≤ a) (hC : zCs I) : zCs I' := by
  refine ⟨fun j hj => ?_, fun j hj => ?_⟩
  · rw [h 1 (by decide) (by decide) (by decide) (by omega)]; exact hC.1 j hj
  · rw [h 2 (by decide) (by decide) (by decide) (by omega)]; exact hC.2 j hj
theorem zc_fin1 (h0 : R 4 0 = some 5) (h1 : R 4 1 = some 6) (hN : 6 < N) (l1 l2 : Option Value) {z : Nat} (hz : z < 100) (hs : m.length < 100000) {Q : zOut → zHp → Prop} {I0 : zI}
    (kk : ∀ (I' : zI) (l4 : Option Value), zCs I' → zDig (m ++ List.replicate (z + 4) (Int32.ofNat 0)) I' → zF3 I0 I' → zW L 7 48 [some (.ref 4), l1, l2, some (.int (Int32.ofNat z)), l4] [] (N, U, I', J, R) Q) :
    ∀ (q i : Nat) (I' : zI), i + q = z + 4 → zCs I' → zDig (m ++ List.replicate i (Int32.ofNat 0)) I' → zF3 I0 I' → zW L 7 29 [some (.ref 4), l1, l2, some (.int (Int32.ofNat z)), some (.int (Int32.ofNat i))] [] (N, U, I', J, R) Q := by
  intro q
  induction q with
  | zero =>
    intro i I' hi hC hd hf
    obtain rfl : i = z + 4 := by omega
    refine zx_il4 zd7_29 ?_
    refine zx_il3 zd7_31 ?_
    refine zx_c zd7_32 ?_
    first | with_reducible refine zx_addN zd7_33 ?_ | refine zx_add zd7_33 ?_
    first | ((with_reducible refine zx_icmpgeN zd7_34 ?s5 (fun hc => ?_) (fun hc => ?_)); (case s5 => omega)) | refine zx_icmpge zd7_34 (fun hc => ?_) (fun hc => ?_)
    · exact kk I' _ hC hd hf
    · omega
  | succ q ih =>
    intro i I' hi hC hd hf
    refine zx_il4 zd7_29 ?_
    refine zx_il3 zd7_31 ?_
    refine zx_c zd7_32 ?_
    first | with_reducible refine zx_addN zd7_33 ?_ | refine zx_add zd7_33 ?_
    first | ((with_reducible refine zx_icmpgeN zd7_34 ?s10 (fun hc => ?_) (fun hc => ?_)); (case s10 => omega)) | refine zx_icmpge zd7_34 (fun hc => ?_) (fun hc => ?_)
    · omega
    · refine zx_al0 zd7_37 ?_
      refine zx_c zd7_38 ?_
      obtain ⟨I2, hr, hd2, hf2⟩ := zs_put (L := L) (U := U) (J := J) h0 h1 hN hC hd (by rw [List.length_append, List.length_replicate]; omega) (Int32.ofNat 0)
      (refine zx_cv1V zd7_39 ?k13 (hr) ?_); (case k13 => first | exact zkk rfl (by omega) | exact zkk (zK_B0 (by omega)) (by omega) | exact zkk ((zK_B (by omega) (by decide)).trans rfl) (by omega) | exact zkk (zK_row (by omega) (by omega)) (by omega) | exact zkk (zK_file (by omega) (by omega)) (by omega) | exact zkk (zK_byte (by omega) (by omega)) (by omega) | exact zkk (zK_list (by omega)) (by omega) | assumption)
      first | with_reducible refine zx_iin4 zd7_42 ?_ | refine zx_ii4 zd7_42 ?_
      refine zx_goto zd7_45 ?_
      refine ih (i + 1) I2 (by omega) (hf2.cs hC) ?_ (hf.trans hf2)
      rw [zrep_succ, ← List.append_assoc]
      exact hd2
theorem zc_fin2 (h0 : R 4 0 = some 5) (hN : 6 < N) {a : Nat} (ha : zk L (N, U, I, J, R) a = some (.inl (.int, 32))) (ha4 : 6 < a) (l2 l3 : Option Value) : ∀ (q i : Nat), i + q = 32 →
    zW L 7 80 [some (.ref 4), some (.ref a), l2, l3, some (.int (Int32.ofNat i))] [] (N, U, zrw I a (zfill (I a) 0 i (zoutb (I 5))), J, R)
      (fun o k => o = .inl none ∧ k = (N, U, zrw I a (zfill (I a) 0 32 (zoutb (I 5))), J, R)) := by
  intro q
  induction q with
  | zero =>
    intro i hi
    obtain rfl : i = 32 := by omega
    refine zx_il4 zd7_80 ?_
    refine zx_c zd7_82 ?_
    first | ((with_reducible refine zx_icmpgeN zd7_84 ?s18 (fun hc => ?_) (fun hc => ?_)); (case s18 => omega)) | refine zx_icmpge zd7_84 (fun hc => ?_) (fun hc => ?_)
    · refine zx_vret zd7_128 rfl ?_
      exact ⟨rfl, rfl⟩
    · omega
  | succ q ih =>
    intro i hi
    have ha' : ∀ I' : zI, zk L (N, U, I', J, R) a = some (.inl (.int, 32)) := fun _ => ha
    refine zx_il4 zd7_80 ?_
    refine zx_c zd7_82 ?_
    first | ((with_reducible refine zx_icmpgeN zd7_84 ?s22 (fun hc => ?_) (fun hc => ?_)); (case s22 => omega)) | refine zx_icmpge zd7_84 (fun hc => ?_) (fun hc => ?_)
    · omega
    · refine zx_il4 zd7_87 ?_
      refine zx_al1 zd7_89 ?_
      (refine' zx_alen zd7_90 ?k25 ?_); (case k25 => first | exact ha' _ | exact zkk rfl (by omega))
      first | ((with_reducible refine zx_icmpgeN zd7_91 ?s26 (fun hc2 => ?_) (fun hc2 => ?_)); (case s26 => omega)) | refine zx_icmpge zd7_91 (fun hc2 => ?_) (fun hc2 => ?_)
      · omega
      · refine zx_al1 zd7_94 ?_
        refine zx_il4 zd7_95 ?_
        refine zx_al0 zd7_97 ?_
        (refine' zx_gfA zd7_98 ?k30 ?r30 ?_); (case k30 => first | exact ha' _ | exact zkk rfl (by omega)); (case r30 => first | exact hR _ _ _ rfl | assumption)
        refine zx_il4 zd7_101 ?_
        refine zx_c zd7_103 ?_
        first | ((with_reducible refine zx_shrN zd7_104 ?h33 ?_); (case h33 => omega)) | refine zx_shr zd7_104 ?_
        rw [zn_s2]
        (with_reducible refine' zx_ialdN zd7_105 ?k34 ?j34 ?_); (case k34 => first | exact ha' _ | exact zkk rfl (by omega)); (case j34 => omega)
        refine zx_c zd7_106 ?_
        refine zx_c zd7_108 ?_
        refine zx_il4 zd7_110 ?_
        refine zx_c zd7_112 ?_
        first | with_reducible refine zx_andN zd7_113 ?_ | refine zx_and zd7_113 ?_
        rw [zn_3]
        first | with_reducible refine zx_mulN zd7_114 ?_ | refine zx_mul zd7_114 ?_
        first | ((with_reducible refine zx_subN zd7_115 ?h41 ?_); (case h41 => omega)) | refine zx_sub zd7_115 ?_
        refine zx_ushr zd7_116 ?_
        refine zx_c zd7_117 ?_
        first | with_reducible refine zx_andN zd7_120 ?_ | refine zx_and zd7_120 ?_
        (with_reducible refine' zx_iastN zd7_121 ?k45 ?j45 ?a45 ?_); (case k45 => first | exact ha' _ | exact zkk rfl (by omega)); (case j45 => omega); (case a45 => omega)
        first | with_reducible refine zx_iin4 zd7_122 ?_ | refine zx_ii4 zd7_122 ?_
        refine zx_goto zd7_125 ?_
        rw [zrw_ne _ _ (show 5 ≠ a by omega)]
        have e := zfill_succ (I a) 0 i (zoutb (I 5))
        rw [Nat.zero_add] at e
        have k := ih (i + 1) (by omega)
        rw [← e] at k
        rw [zu_rw, zrw_rw, zrw_at]
        exact k
/-- finish -/
theorem zs_finish (h0 : R 4 0 = some 5) (h1 : R 4 1 = some 6) (hN : 6 < N) {a : Nat} (ha : zk L (N, U, I, J, R) a = some (.inl (.int, 32))) (ha4 : 6 < a) (hC : zCs I) (hm : zDig m I) (hs : m.length < 10000) :
    ∃ I', zRet L 7 [.ref 4, .ref a] (N, U, I, J, R) none (N, U, I', J, R) ∧ I' a = zfill (I a) 0 32 (zsha m) ∧ zF4 a I I' := by
  have w : zW L 7 0 (zent 7 [.ref 4, .ref a]) [] (N, U, I, J, R) (fun o k => o = .inl none ∧ ∃ I' : zI, k = (N, U, I', J, R) ∧ I' a = zfill (I a) 0 32 (zsha m) ∧ zF4 a I I') := by
    show zW L 7 0 [some (.ref 4), some (.ref a), none, none, none] [] _ _
    refine zx_al0 zd7_0 ?_
    (refine zx_gfI zd7_1 ?k49 ?_); (case k49 => first | exact ha' _ | exact zkk rfl (by omega))
    rw [hm.1]
    refine zx_c zd7_4 ?_
    first | with_reducible refine zx_mulN zd7_6 ?_ | refine zx_mul zd7_6 ?_
    refine zx_is2 zd7_7 rfl ?_
    refine zx_al0 zd7_8 ?_
    refine zx_c zd7_9 ?_
    obtain ⟨I1, hr1, hd1, hf1⟩ := zs_put (L := L) (U := U) (J := J) h0 h1 hN hC hm (by omega) (Int32.ofNat 128)
    (refine zx_cv1V zd7_12 ?k55 (hr1) ?_); (case k55 => first | exact ha' _ | exact zkk rfl (by omega))
    refine zx_c zd7_15 ?_
    refine zx_al0 zd7_17 ?_
    (refine zx_gfI zd7_18 ?k58 ?_); (case k58 => first | exact ha' _ | exact zkk rfl (by omega))
    have el : (m ++ [Int32.ofNat 128 &&& Int32.ofNat 255]).length = m.length + 1 := by simp
    rw [hd1.1, el]
    refine zx_sub zd7_21 ?_
    refine zx_c zd7_22 ?_
    refine zx_and zd7_24 ?_
    rw [zn_zeros (by omega)]
    refine zx_is3 zd7_25 rfl ?_
    refine zx_c zd7_26 ?_
    refine zx_is4 zd7_27 rfl ?_
    refine zc_fin1 (m := m ++ [Int32.ofNat 128 &&& Int32.ofNat 255]) h0 h1 hN _ _ (z := (119 - m.length % 64) % 64) (by omega) (by rw [el]; omega) (I0 := I1) ?_ _ 0 I1 (by rw [Nat.zero_add]) (hf1.cs hC) (by show zDig (_ ++ []) I1; rw [List.append_nil]; exact hd1) (zF3.refl I1)
    intro I2 l4 hC2 hd2 hf2
    have el2 : (m ++ [Int32.ofNat 128 &&& Int32.ofNat 255] ++ List.replicate ((119 - m.length % 64) % 64 + 4) (Int32.ofNat 0)).length < 100000 := by
      rw [List.length_append, el, List.length_replicate]; omega
    refine zx_al0 zd7_48 ?_
    refine zx_il2 zd7_49 ?_
    refine zx_c zd7_50 ?_
    refine zx_ushr zd7_52 ?_
    obtain ⟨I3, hr3, hd3, hf3⟩ := zs_put (L := L) (U := U) (J := J) h0 h1 hN hC2 hd2 (by omega) (zush (Int32.ofNat (m.length * 8)) (Int32.ofNat 24))
    (refine zx_cv1V zd7_53 ?k66 (hr3) ?_); (case k66 => first | exact ha' _ | exact zkk rfl (by omega))
    have hC3 := hf3.cs hC2
    refine zx_al0 zd7_56 ?_
    refine zx_il2 zd7_57 ?_
    refine zx_c zd7_58 ?_
    refine zx_ushr zd7_60 ?_
    obtain ⟨I4, hr4, hd4, hf4⟩ := zs_put (L := L) (U := U) (J := J) h0 h1 hN hC3 hd3 (by rw [List.length_append, List.length_singleton]; omega) (zush (Int32.ofNat (m.length * 8)) (Int32.ofNat 16))
    (refine zx_cv1V zd7_61 ?k71 (hr4) ?_); (case k71 => first | exact ha' _ | exact zkk rfl (by omega))
    have hC4 := hf4.cs hC3
    refine zx_al0 zd7_64 ?_
    refine zx_il2 zd7_65 ?_
    refine zx_c zd7_66 ?_
    refine zx_ushr zd7_68 ?_
    obtain ⟨I5, hr5, hd5, hf5⟩ := zs_put (L := L) (U := U) (J := J) h0 h1 hN hC4 hd4 (by rw [List.length_append, List.length_append, List.length_singleton, List.length_singleton]; omega) (zush (Int32.ofNat (m.length * 8)) (Int32.ofNat 8))
    (refine zx_cv1V zd7_69 ?k76 (hr5) ?_); (case k76 => first | exact ha' _ | exact zkk rfl (by omega))
    have hC5 := hf5.cs hC4
    refine zx_al0 zd7_72 ?_
    refine zx_il2 zd7_73 ?_
    obtain ⟨I6, hr6, hd6, hf6⟩ := zs_put (L := L) (U := U) (J := J) h0 h1 hN hC5 hd5 (by rw [List.length_append, List.length_append, List.length_append, List.length_singleton, List.length_singleton, List.length_singleton]; omega) (Int32.ofNat (m.length * 8))
    (refine zx_cv1V zd7_74 ?k79 (hr6) ?_); (case k79 => first | exact ha' _ | exact zkk rfl (by omega))
    have hF : zF3 I I6 := ((((hf1.trans hf2).trans hf3).trans hf4).trans hf5).trans hf6
    have hpad : zDig (zpad m) I6 := by
      have e : zpad m = m ++ [Int32.ofNat 128 &&& Int32.ofNat 255] ++ List.replicate ((119 - m.length % 64) % 64 + 4) (Int32.ofNat 0) ++ [zush (Int32.ofNat (m.length * 8)) (Int32.ofNat 24) &&& Int32.ofNat 255] ++ [zush (Int32.ofNat (m.length * 8)) (Int32.ofNat 16) &&& Int32.ofNat 255] ++ [zush (Int32.ofNat (m.length * 8)) (Int32.ofNat 8) &&& Int32.ofNat 255] ++ [Int32.ofNat (m.length * 8) &&& Int32.ofNat 255] := by
        rw [show Int32.ofNat 128 &&& Int32.ofNat 255 = Int32.ofNat 128 from rfl, zn_ush (by omega) (by decide), zn_ush (by omega) (by decide), zn_ush (by omega) (by decide), zn_and, zn_and, zn_and, zn_and]
        unfold zpad zlb zzs
        simp
      rw [e]; exact hd6
    have hst : ∀ j, j < 8 → I6 5 j = zhs (zpad m) ((zpad m).length / 64) j := hpad.2.1
    refine zx_c zd7_77 ?_
    refine zx_is4 zd7_78 rfl ?_
    have ha6 : zk L (N, U, I6, J, R) a = some (.inl (.int, 32)) := ha
    have k := zc_fin2 (L := L) (U := U) (I := I6) (J := J) h0 hN ha6 ha4 (some (.int (Int32.ofNat (m.length * 8)))) (some (.int (Int32.ofNat ((119 - m.length % 64) % 64)))) 32 0 rfl
    rw [zfill_zero, zrw_id] at k
    refine zW.mono k (fun o k hq => ?_)
    obtain ⟨rfl, rfl⟩ := hq
    refine ⟨rfl, _, rfl, ?_, fun b h4 h5 h6 hb => ?_⟩
    · rw [zrw_at, hF a (by omega) (by omega) (by omega)]
      funext j
      by_cases hj : j < 32
      · rw [zfill_in0 _ _ _ hj, zfill_in0 _ _ _ hj]
        unfold zoutb zsha
        rw [hst _ (by omega)]
      · rw [zfill_out _ _ _ _ (by omega), zfill_out _ _ _ _ (by omega)]
    · rw [zrw_ne _ _ hb, hF b h4 h5 h6]
  obtain ⟨k, hr, I', rfl, hd, hf⟩ := zRet_of w
  exact ⟨I', hr, hd, hf⟩
end ZFIN
