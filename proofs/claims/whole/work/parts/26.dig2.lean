/-! THE DIGESTER: begin, put, putAll, putPart, finish -/
theorem zRet_of {L mj : Nat} {as : List Value} {h : zHp} {v : Option Value} {P : zHp → Prop} (w : zW L mj 0 (zent mj as) [] h (fun o k => o = .inl v ∧ P k)) : ∃ k, zRet L mj as h v k ∧ P k := by
  obtain ⟨n, o, k, e, q1, q2⟩ := w
  exact ⟨k, ⟨n, o, k, e, q1, rfl⟩, q2⟩
theorem zRet_to {L mj : Nat} {as : List Value} {h k : zHp} {v : Option Value} {P : zHp → Prop} (w : zRet L mj as h v k) (hP : P k) : zW L mj 0 (zent mj as) [] h (fun o k => o = .inl v ∧ P k) :=
  zW.mono w (fun o k' hq => ⟨hq.1, by rw [hq.2]; exact hP⟩)
/-- the digester's rows have changed alone -/
def zF3 (I I' : zI) : Prop := ∀ b, b ≠ 4 → b ≠ 5 → b ≠ 6 → I' b = I b
theorem zF3.trans {I I' I'' : zI} (h : zF3 I I') (h' : zF3 I' I'') : zF3 I I'' := fun b h4 h5 h6 => (h' b h4 h5 h6).trans (h b h4 h5 h6)
theorem zF3.refl (I : zI) : zF3 I I := fun _ _ _ _ => rfl
theorem zF3.cs {I I' : zI} (h : zF3 I I') (hC : zCs I) : zCs I' := by
  refine ⟨fun j hj => ?_, fun j hj => ?_⟩
  · rw [h 1 (by decide) (by decide) (by decide)]; exact hC.1 j hj
  · rw [h 2 (by decide) (by decide) (by decide)]; exact hC.2 j hj
def zPd (m : List Int32) (N U : Nat) (I : zI) (J : zJ) (R : zR) : zHp → Prop := fun k => ∃ I' : zI, k = (N, U, I', J, R) ∧ zDig m I' ∧ zF3 I I'
theorem zptI_fr (I : zI) (n : Nat) (b : Int32) : zF3 I (zptI I n b) := by
  intro r h4 h5 h6
  have e : zpt1 I n b r = I r := by
    unfold zpt1
    rw [zu_rw, zrw_ne _ _ h4, zu_rw, zrw_ne _ _ h6]
  unfold zptI
  by_cases hf : n % 64 = 63
  · rw [if_pos hf]
    unfold zblkI
    rw [zrw_ne _ _ h5, zrw_ne _ _ h6, e]
  · rw [if_neg hf, e]
/-- so many bytes of a row -/
def zrow (f : Nat → Int32) (p n : Nat) : List Int32 := (List.range n).map (fun i => f (p + i) &&& Int32.ofNat 255)
theorem zrow_len (f : Nat → Int32) (p n : Nat) : (zrow f p n).length = n := by simp [zrow]
theorem zrow_succ (f : Nat → Int32) (p n : Nat) : zrow f p (n + 1) = zrow f p n ++ [f (p + n) &&& Int32.ofNat 255] := by
  unfold zrow
  rw [List.range_succ, List.map_append]; rfl
section ZDG
variable {L N U : Nat} {I : zI} {J : zJ} {R : zR} {m : List Int32}
theorem zs_put (h0 : R 4 0 = some 5) (h1 : R 4 1 = some 6) (hN : 6 < N) (hC : zCs I) (hm : zDig m I) (hs : m.length < 1000000) (b : Int32) : ∃ I', zRet L 8 [.ref 4, .int b] (N, U, I, J, R) none (N, U, I', J, R) ∧ zDig (m ++ [b &&& Int32.ofNat 255]) I' ∧ zF3 I I' :=
  ⟨_, zc_put h0 h1 hN hm.1 hs b, zDig_put hC hm, zptI_fr I m.length b⟩
theorem zs_begin (h0 : R 4 0 = some 5) (hN : 6 < N) (hC : zCs I) : ∃ I', zRet L 6 [.ref 4] (N, U, I, J, R) none (N, U, I', J, R) ∧ zDig [] I' ∧ zF3 I I' := by
  refine ⟨_, zc_begin h0 hN, ⟨rfl, fun j hj => ?_, fun k hk => ?_, Or.inl rfl⟩, fun b h4 h5 h6 => ?_⟩
  · show (if j < 8 then I 1 j else I 5 j) = zHs j
    rw [if_pos hj]; exact hC.1 j hj
  · exact absurd hk (by show ¬ k < 0 % 64 / 4; omega)
  · rw [zu_rw, zrw_ne _ _ h4, zrw_ne _ _ h5]
/-- putAll's loop: i bytes have come -/
theorem zc_putAll0 (h0 : R 4 0 = some 5) (h1 : R 4 1 = some 6) (hN : 6 < N) {a n : Nat} (ha : zk L (N, U, I, J, R) a = some (.inl (.int, n))) (ha4 : a ≠ 4 ∧ a ≠ 5 ∧ a ≠ 6) (hn : n ≤ 65536) (hs : m.length + n < 1000000) : ∀ (q i : Nat) (I' : zI) (l5 : Option Value), i + q = n → zCs I' → zDig (m ++ zrow (I a) 0 i) I' → zF3 I I' →
    zW L 22 8 [some (.ref 4), some (.ref a), some (.ref a), some (.int (Int32.ofNat n)), some (.int (Int32.ofNat i)), l5] [] (N, U, I', J, R) (fun o k => o = .inl none ∧ zPd (m ++ zrow (I a) 0 n) N U I J R k) := by
  intro q
  induction q with
  | zero =>
    intro i I' l5 hi hC hd hf
    obtain rfl : i = n := by omega
    refine zx_il4 zd22_8 ?_
    refine zx_il3 zd22_10 ?_
    first | ((with_reducible refine zx_icmpgeN zd22_11 ?s3 (fun hc => ?_) (fun hc => ?_)); (case s3 => omega)) | refine zx_icmpge zd22_11 (fun hc => ?_) (fun hc => ?_)
    · refine zx_vret zd22_32 rfl ?_
      exact ⟨rfl, I', rfl, hd, hf⟩
    · omega
  | succ q ih =>
    intro i I' l5 hi hC hd hf
    have ha' : zk L (N, U, I', J, R) a = some (.inl (.int, n)) := ha
    refine zx_il4 zd22_8 ?_
    refine zx_il3 zd22_10 ?_
    first | ((with_reducible refine zx_icmpgeN zd22_11 ?s7 (fun hc => ?_) (fun hc => ?_)); (case s7 => omega)) | refine zx_icmpge zd22_11 (fun hc => ?_) (fun hc => ?_)
    · omega
    · refine zx_al2 zd22_14 ?_
      refine zx_il4 zd22_15 ?_
      (with_reducible refine' zx_ialdN zd22_17 ?k10 ?j10 ?_); (case k10 => first | exact zkk rfl (by omega) | exact zkk (zK_B0 (by omega)) (by omega) | exact zkk ((zK_B (by omega) (by decide)).trans rfl) (by omega) | exact zkk (zK_row (by omega) (by omega)) (by omega) | exact zkk (zK_file (by omega) (by omega)) (by omega) | exact zkk (zK_byte (by omega) (by omega)) (by omega) | exact zkk (zK_list (by omega)) (by omega) | assumption); (case j10 => omega)
      refine zx_is5 zd22_18 rfl ?_
      refine zx_al0 zd22_20 ?_
      refine zx_il5 zd22_21 ?_
      obtain ⟨I2, hr, hd2, hf2⟩ := zs_put (L := L) (U := U) (J := J) h0 h1 hN hC hd (by rw [List.length_append, zrow_len]; omega) (I' a i)
      (refine zx_cv1V zd22_23 ?k14 (hr) ?_); (case k14 => first | exact zkk rfl (by omega) | exact zkk (zK_B0 (by omega)) (by omega) | exact zkk ((zK_B (by omega) (by decide)).trans rfl) (by omega) | exact zkk (zK_row (by omega) (by omega)) (by omega) | exact zkk (zK_file (by omega) (by omega)) (by omega) | exact zkk (zK_byte (by omega) (by omega)) (by omega) | exact zkk (zK_list (by omega)) (by omega) | assumption)
      first | with_reducible refine zx_iin4 zd22_26 ?_ | refine zx_ii4 zd22_26 ?_
      refine zx_goto zd22_29 ?_
      refine ih (i + 1) I2 _ (by omega) (hf2.cs hC) ?_ (hf.trans hf2)
      rw [zrow_succ, ← List.append_assoc]
      rw [hf a ha4.1 ha4.2.1 ha4.2.2] at hd2
      rw [Nat.zero_add]
      exact hd2
theorem zs_putAll (h0 : R 4 0 = some 5) (h1 : R 4 1 = some 6) (hN : 6 < N) {a n : Nat} (ha : zk L (N, U, I, J, R) a = some (.inl (.int, n))) (ha4 : a ≠ 4 ∧ a ≠ 5 ∧ a ≠ 6) (hn : n ≤ 65536) (hC : zCs I) (hm : zDig m I) (hs : m.length + n < 1000000) : ∃ I', zRet L 22 [.ref 4, .ref a] (N, U, I, J, R) none (N, U, I', J, R) ∧ zDig (m ++ zrow (I a) 0 n) I' ∧ zF3 I I' := by
  have w : zW L 22 0 (zent 22 [.ref 4, .ref a]) [] (N, U, I, J, R) (fun o k => o = .inl none ∧ zPd (m ++ zrow (I a) 0 n) N U I J R k) := by
    show zW L 22 0 [some (.ref 4), some (.ref a), none, none, none, none] [] _ _
    refine zx_al1 zd22_0 ?_
    refine zx_as2 zd22_1 rfl ?_
    refine zx_al2 zd22_2 ?_
    (refine' zx_alen zd22_3 ?k20 ?_); (case k20 => first | exact zkk rfl (by omega) | exact zkk (zK_B0 (by omega)) (by omega) | exact zkk ((zK_B (by omega) (by decide)).trans rfl) (by omega) | exact zkk (zK_row (by omega) (by omega)) (by omega) | exact zkk (zK_file (by omega) (by omega)) (by omega) | exact zkk (zK_byte (by omega) (by omega)) (by omega) | exact zkk (zK_list (by omega)) (by omega) | assumption)
    refine zx_is3 zd22_4 rfl ?_
    refine zx_c zd22_5 ?_
    refine zx_is4 zd22_6 rfl ?_
    exact zc_putAll0 h0 h1 hN ha ha4 hn hs n 0 I _ (by omega) hC (by show zDig (m ++ []) I; rw [List.append_nil]; exact hm) (zF3.refl I)
  obtain ⟨k, hr, I', rfl, hd, hf⟩ := zRet_of w
  exact ⟨I', hr, hd, hf⟩
theorem zc_putPart0 (h0 : R 4 0 = some 5) (h1 : R 4 1 = some 6) (hN : 6 < N) {a n p c : Nat} (ha : zk L (N, U, I, J, R) a = some (.inl (.int, n))) (ha4 : a ≠ 4 ∧ a ≠ 5 ∧ a ≠ 6) (hn : n ≤ 65536) (hp : p + c ≤ n) (hs : m.length + c < 1000000) (l2 l3 : Option Value) : ∀ (q i : Nat) (I' : zI), i + q = c → zCs I' → zDig (m ++ zrow (I a) p i) I' → zF3 I I' →
    zW L 20 13 [some (.ref 4), some (.ref a), l2, l3, some (.int (Int32.ofNat (p + c))), some (.int (Int32.ofNat (p + i)))] [] (N, U, I', J, R) (fun o k => o = .inl none ∧ zPd (m ++ zrow (I a) p c) N U I J R k) := by
  intro q
  induction q with
  | zero =>
    intro i I' hi hC hd hf
    obtain rfl : i = c := by omega
    refine zx_il5 zd20_13 ?_
    refine zx_il4 zd20_15 ?_
    first | ((with_reducible refine zx_icmpgeN zd20_17 ?s26 (fun hc => ?_) (fun hc => ?_)); (case s26 => omega)) | refine zx_icmpge zd20_17 (fun hc => ?_) (fun hc => ?_)
    · refine zx_vret zd20_34 rfl ?_
      exact ⟨rfl, I', rfl, hd, hf⟩
    · omega
  | succ q ih =>
    intro i I' hi hC hd hf
    have ha' : zk L (N, U, I', J, R) a = some (.inl (.int, n)) := ha
    refine zx_il5 zd20_13 ?_
    refine zx_il4 zd20_15 ?_
    first | ((with_reducible refine zx_icmpgeN zd20_17 ?s30 (fun hc => ?_) (fun hc => ?_)); (case s30 => omega)) | refine zx_icmpge zd20_17 (fun hc => ?_) (fun hc => ?_)
    · omega
    · refine zx_al0 zd20_20 ?_
      refine zx_al1 zd20_21 ?_
      refine zx_il5 zd20_22 ?_
      (with_reducible refine' zx_ialdN zd20_24 ?k34 ?j34 ?_); (case k34 => first | exact zkk rfl (by omega) | exact zkk (zK_B0 (by omega)) (by omega) | exact zkk ((zK_B (by omega) (by decide)).trans rfl) (by omega) | exact zkk (zK_row (by omega) (by omega)) (by omega) | exact zkk (zK_file (by omega) (by omega)) (by omega) | exact zkk (zK_byte (by omega) (by omega)) (by omega) | exact zkk (zK_list (by omega)) (by omega) | assumption); (case j34 => omega)
      obtain ⟨I2, hr, hd2, hf2⟩ := zs_put (L := L) (U := U) (J := J) h0 h1 hN hC hd (by rw [List.length_append, zrow_len]; omega) (I' a (p + i))
      (refine zx_cv1V zd20_25 ?k35 (hr) ?_); (case k35 => first | exact zkk rfl (by omega) | exact zkk (zK_B0 (by omega)) (by omega) | exact zkk ((zK_B (by omega) (by decide)).trans rfl) (by omega) | exact zkk (zK_row (by omega) (by omega)) (by omega) | exact zkk (zK_file (by omega) (by omega)) (by omega) | exact zkk (zK_byte (by omega) (by omega)) (by omega) | exact zkk (zK_list (by omega)) (by omega) | assumption)
      first | with_reducible refine zx_iin5 zd20_28 ?_ | refine zx_ii5 zd20_28 ?_
      refine zx_goto zd20_31 ?_
      refine ih (i + 1) I2 (by omega) (hf2.cs hC) ?_ (hf.trans hf2)
      rw [zrow_succ, ← List.append_assoc]
      rw [hf a ha4.1 ha4.2.1 ha4.2.2] at hd2
      exact hd2
theorem zs_putPart (h0 : R 4 0 = some 5) (h1 : R 4 1 = some 6) (hN : 6 < N) {a n p c : Nat} (ha : zk L (N, U, I, J, R) a = some (.inl (.int, n))) (ha4 : a ≠ 4 ∧ a ≠ 5 ∧ a ≠ 6) (hn : n ≤ 65536) (hp : p + c ≤ n) (hC : zCs I) (hm : zDig m I) (hs : m.length + c < 1000000) : ∃ I', zRet L 20 [.ref 4, .ref a, .int (Int32.ofNat p), .int (Int32.ofNat c)] (N, U, I, J, R) none (N, U, I', J, R) ∧ zDig (m ++ zrow (I a) p c) I' ∧ zF3 I I' := by
  have w : zW L 20 0 (zent 20 [.ref 4, .ref a, .int (Int32.ofNat p), .int (Int32.ofNat c)]) [] (N, U, I, J, R) (fun o k => o = .inl none ∧ zPd (m ++ zrow (I a) p c) N U I J R k) := by
    show zW L 20 0 [some (.ref 4), some (.ref a), some (.int (Int32.ofNat p)), some (.int (Int32.ofNat c)), none, none] [] _ _
    refine zx_il2 zd20_0 ?_
    refine zx_il3 zd20_1 ?_
    first | with_reducible refine zx_addN zd20_2 ?_ | refine zx_add zd20_2 ?_
    refine zx_al1 zd20_3 ?_
    (refine' zx_alen zd20_4 ?k42 ?_); (case k42 => first | exact zkk rfl (by omega) | exact zkk (zK_B0 (by omega)) (by omega) | exact zkk ((zK_B (by omega) (by decide)).trans rfl) (by omega) | exact zkk (zK_row (by omega) (by omega)) (by omega) | exact zkk (zK_file (by omega) (by omega)) (by omega) | exact zkk (zK_byte (by omega) (by omega)) (by omega) | exact zkk (zK_list (by omega)) (by omega) | assumption)
    refine zx_min zd20_5 rfl ?_
    rw [if_neg (by rw [zn_lt (by omega) (by omega)]; omega)]
    refine zx_is4 zd20_8 rfl ?_
    refine zx_il2 zd20_10 ?_
    refine zx_is5 zd20_11 rfl ?_
    exact zc_putPart0 h0 h1 hN ha ha4 hn hp hs _ _ c 0 I (by omega) hC (by show zDig (m ++ []) I; rw [List.append_nil]; exact hm) (zF3.refl I)
  obtain ⟨k, hr, I', rfl, hd, hf⟩ := zRet_of w
  exact ⟨I', hr, hd, hf⟩
end ZDG
