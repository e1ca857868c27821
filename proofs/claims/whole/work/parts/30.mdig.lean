/-! THE REFERENCE'S DIGEST of its input -/
/-- the bits that a shift and a mask leave -/
theorem zmask (x : Int32) {s : Nat} (hs : s = 0 ∨ s = 8 ∨ s = 16 ∨ s = 24) : x >>> (Int32.ofNat s &&& 31) &&& Int32.ofNat 255 = zush x (Int32.ofNat s) &&& Int32.ofNat 255 := by
  apply Int32.toBitVec_inj.mp
  rw [Int32.toBitVec_and, Int32.toBitVec_and, Int32.toBitVec_shiftRight]
  unfold zush
  have e : ∀ q : Fin 32, (Int32.ofNat q.val &&& 31).toBitVec.smod 32 = BitVec.ofNat 32 q.val := by decide
  have e2 : ∀ q : Fin 32, ((Int32.ofNat q.val).toUInt32 &&& Int32.toUInt32 31).toBitVec % 32 = BitVec.ofNat 32 q.val := by decide
  show _ = (x.toUInt32 >>> ((Int32.ofNat s).toUInt32 &&& Int32.toUInt32 31)).toBitVec &&& _
  rw [UInt32.toBitVec_shiftRight]
  have hlt : s < 32 := by omega
  rw [e ⟨s, hlt⟩, e2 ⟨s, hlt⟩]
  show BitVec.sshiftRight x.toBitVec (BitVec.ofNat 32 s).toNat &&& BitVec.ofNat 32 255 = x.toBitVec >>> (BitVec.ofNat 32 s).toNat &&& BitVec.ofNat 32 255
  have hn : (BitVec.ofNat 32 s).toNat = s := by rw [BitVec.toNat_ofNat]; omega
  rw [hn]
  apply BitVec.eq_of_getLsbD_eq
  intro i hi
  rw [BitVec.getLsbD_and, BitVec.getLsbD_and, BitVec.getLsbD_sshiftRight, BitVec.getLsbD_ushiftRight]
  by_cases h8 : i < 8
  · have h1 : s + i < 32 := by omega
    have h2 : ¬ 32 ≤ i := by omega
    simp [h1, h2]
  · have h255 : (BitVec.ofNat 32 255).getLsbD i = false := by
      have : ∀ q : Fin 32, 8 ≤ q.val → (BitVec.ofNat 32 255).getLsbD q.val = false := by decide
      exact this ⟨i, hi⟩ (by show 8 ≤ i; omega)
    rw [h255, Bool.and_false, Bool.and_false]
section ZMD
variable {L N U : Nat} {I : zI} {J : zJ} {R : zR} {m : List Int32} {Q : zOut → zHp → Prop}
/-- only the object's size and the input have changed -/
def zF2 (I I' : zI) : Prop := (∀ c, c ≠ 436 → c ≠ 438 → I' c = I c) ∧ ∀ f, f ≠ 2 → I' 436 f = I 436 f
theorem zF2.refl (I : zI) : zF2 I I := ⟨fun _ _ _ => rfl, fun _ _ => rfl⟩
theorem zF2.trans {I I' I'' : zI} (h : zF2 I I') (h' : zF2 I' I'') : zF2 I I'' := ⟨fun b h1 h2 => (h'.1 b h1 h2).trans (h.1 b h1 h2), fun f hf => (h'.2 f hf).trans (h.2 f hf)⟩
theorem zs_mput2 (hR : zRs R) (hN : 459 ≤ N) (hm : zMg m I) (hs : m.length < 512) (b : Int32) : ∃ I', zRet L 92 [.ref 436, .int b] (N, U, I, J, R) none (N, U, I', J, R) ∧ zMg (m ++ [b]) I' ∧ zF2 I I' := by
  obtain ⟨I', h1, h2, h3, h4⟩ := zs_mput (L := L) (U := U) (J := J) hR hN hm hs b
  exact ⟨I', h1, h2, h4, h3.2⟩
/-- zeros, until 56 -/
theorem zm_d1 (hR : zRs R) (hN : 459 ≤ N) {l1 l2 : Option Value} {I0 : zI} {z : Nat} (hz : z < 64) (h56 : (m.length + z) % 64 = 56) (hs : m.length < 400)
    (kk : ∀ I' : zI, zMg (m ++ List.replicate z (Int32.ofNat 0)) I' → zF2 I0 I' → zW L 93 32 [some (.ref 436), l1, l2] [] (N, U, I', J, R) Q) :
    ∀ (q i : Nat) (I' : zI), i + q = z → zMg (m ++ List.replicate i (Int32.ofNat 0)) I' → zF2 I0 I' → zW L 93 12 [some (.ref 436), l1, l2] [] (N, U, I', J, R) Q := by
  intro q
  induction q with
  | zero =>
    intro i I' hi hm hf
    obtain rfl : i = z := by omega
    refine zx_al0 zd93_12 ?_
    (refine zx_gfI zd93_13 ?k2 ?_); (case k2 => first | exact zkk rfl (by omega) | exact zkk (zK_B0 (by omega)) (by omega) | exact zkk ((zK_B (by omega) (by decide)).trans rfl) (by omega) | exact zkk (zK_row (by omega) (by omega)) (by omega) | exact zkk (zK_file (by omega) (by omega)) (by omega) | exact zkk (zK_byte (by omega) (by omega)) (by omega) | exact zkk (zK_list (by omega)) (by omega) | assumption)
    rw [hm.1, List.length_append, List.length_replicate]
    refine zx_c zd93_16 ?_
    first | ((with_reducible refine zx_remN zd93_18 ?h4 ?_); (case h4 => omega)) | refine zx_rem zd93_18 (by decide) ?_
    refine zx_c zd93_19 ?_
    first | ((with_reducible refine zx_icmpeqN zd93_21 ?s6 (fun hc => ?_) (fun hc => ?_)); (case s6 => omega)) | refine zx_icmpeq zd93_21 (fun hc => ?_) (fun hc => ?_)
    · exact kk I' hm hf
    · omega
  | succ q ih =>
    intro i I' hi hm hf
    refine zx_al0 zd93_12 ?_
    (refine zx_gfI zd93_13 ?k8 ?_); (case k8 => first | exact zkk rfl (by omega) | exact zkk (zK_B0 (by omega)) (by omega) | exact zkk ((zK_B (by omega) (by decide)).trans rfl) (by omega) | exact zkk (zK_row (by omega) (by omega)) (by omega) | exact zkk (zK_file (by omega) (by omega)) (by omega) | exact zkk (zK_byte (by omega) (by omega)) (by omega) | exact zkk (zK_list (by omega)) (by omega) | assumption)
    rw [hm.1, List.length_append, List.length_replicate]
    refine zx_c zd93_16 ?_
    first | ((with_reducible refine zx_remN zd93_18 ?h10 ?_); (case h10 => omega)) | refine zx_rem zd93_18 (by decide) ?_
    refine zx_c zd93_19 ?_
    first | ((with_reducible refine zx_icmpeqN zd93_21 ?s12 (fun hc => ?_) (fun hc => ?_)); (case s12 => omega)) | refine zx_icmpeq zd93_21 (fun hc => ?_) (fun hc => ?_)
    · omega
    · refine zx_al0 zd93_24 ?_
      refine zx_c zd93_25 ?_
      obtain ⟨I2, hr, hm2, hf2⟩ := zs_mput2 (L := L) (U := U) (J := J) hR hN hm (by rw [List.length_append, List.length_replicate]; omega) (Int32.ofNat 0)
      (refine zx_cv1V zd93_26 ?k15 (hr) ?_); (case k15 => first | exact zkk rfl (by omega) | exact zkk (zK_B0 (by omega)) (by omega) | exact zkk ((zK_B (by omega) (by decide)).trans rfl) (by omega) | exact zkk (zK_row (by omega) (by omega)) (by omega) | exact zkk (zK_file (by omega) (by omega)) (by omega) | exact zkk (zK_byte (by omega) (by omega)) (by omega) | exact zkk (zK_list (by omega)) (by omega) | assumption)
      refine zx_goto zd93_29 ?_
      refine ih (i + 1) I2 (by omega) ?_ (hf.trans hf2)
      rw [zrep_succ, ← List.append_assoc]
      exact hm2
theorem zm_d2 (hR : zRs R) (hN : 459 ≤ N) {l1 : Option Value} {I0 : zI} (hs : m.length < 500)
    (kk : ∀ I' : zI, zMg (m ++ List.replicate 4 (Int32.ofNat 0)) I' → zF2 I0 I' → zW L 93 50 [some (.ref 436), l1, some (.int (Int32.ofNat 4))] [] (N, U, I', J, R) Q) :
    ∀ (q i : Nat) (I' : zI), i + q = 4 → zMg (m ++ List.replicate i (Int32.ofNat 0)) I' → zF2 I0 I' → zW L 93 34 [some (.ref 436), l1, some (.int (Int32.ofNat i))] [] (N, U, I', J, R) Q := by
  intro q
  induction q with
  | zero =>
    intro i I' hi hm hf
    obtain rfl : i = 4 := by omega
    refine zx_il2 zd93_34 ?_
    refine zx_c zd93_35 ?_
    first | ((with_reducible refine zx_icmpgeN zd93_36 ?s19 (fun hc => ?_) (fun hc => ?_)); (case s19 => omega)) | refine zx_icmpge zd93_36 (fun hc => ?_) (fun hc => ?_)
    · exact kk I' hm hf
    · omega
  | succ q ih =>
    intro i I' hi hm hf
    refine zx_il2 zd93_34 ?_
    refine zx_c zd93_35 ?_
    first | ((with_reducible refine zx_icmpgeN zd93_36 ?s22 (fun hc => ?_) (fun hc => ?_)); (case s22 => omega)) | refine zx_icmpge zd93_36 (fun hc => ?_) (fun hc => ?_)
    · omega
    · refine zx_al0 zd93_39 ?_
      refine zx_c zd93_40 ?_
      obtain ⟨I2, hr, hm2, hf2⟩ := zs_mput2 (L := L) (U := U) (J := J) hR hN hm (by rw [List.length_append, List.length_replicate]; omega) (Int32.ofNat 0)
      (refine zx_cv1V zd93_41 ?k25 (hr) ?_); (case k25 => first | exact zkk rfl (by omega) | exact zkk (zK_B0 (by omega)) (by omega) | exact zkk ((zK_B (by omega) (by decide)).trans rfl) (by omega) | exact zkk (zK_row (by omega) (by omega)) (by omega) | exact zkk (zK_file (by omega) (by omega)) (by omega) | exact zkk (zK_byte (by omega) (by omega)) (by omega) | exact zkk (zK_list (by omega)) (by omega) | assumption)
      first | with_reducible refine zx_iin2 zd93_44 ?_ | refine zx_ii2 zd93_44 ?_
      refine zx_goto zd93_47 ?_
      refine ih (i + 1) I2 (by omega) ?_ (hf.trans hf2)
      rw [zrep_succ, ← List.append_assoc]
      exact hm2
/-- the blocks -/
theorem zhs_I {f : Nat → Int32} (hf : ∀ i, i < m.length → f i = zby m i) {q : Nat} (hq : 64 * (q + 1) ≤ m.length) : ∀ k, k < 16 → zwdI f (64 * q + 4 * k) = zblk m q k := by
  intro k hk
  unfold zwdI zblk zwd
  rw [hf _ (by omega), hf _ (by omega), hf _ (by omega), hf _ (by omega)]
theorem zm_d3 (hR : zRs R) (hN : 459 ≤ N) {l1 : Option Value} {I0 : zI} (hK : ∀ j, j < 64 → I0 437 j = zKr j) {n : Nat} (hn : m.length = 64 * n) (hs : m.length ≤ 512)
    (kk : ∀ (I' : zI) (l2 : Option Value), (∀ j, j < 8 → I' 440 j = zhs m n j) → (∀ b, b ≠ 439 → b ≠ 440 → b ≠ 441 → I' b = I0 b) → zW L 93 164 [some (.ref 436), l1, l2] [] (N, U, I', J, R) Q) :
    ∀ (q i : Nat) (I' : zI), i + q = n → zMg m I' → (∀ j, j < 8 → I' 440 j = zhs m i j) → (∀ b, b ≠ 439 → b ≠ 440 → b ≠ 441 → I' b = I0 b) → zW L 93 145 [some (.ref 436), l1, some (.int (Int32.ofNat (64 * i)))] [] (N, U, I', J, R) Q := by
  intro q
  induction q with
  | zero =>
    intro i I' hi hm hh hf
    obtain rfl : i = n := by omega
    refine zx_il2 zd93_145 ?_
    refine zx_al0 zd93_146 ?_
    (refine zx_gfI zd93_147 ?k30 ?_); (case k30 => first | exact zkk rfl (by omega) | exact zkk (zK_B0 (by omega)) (by omega) | exact zkk ((zK_B (by omega) (by decide)).trans rfl) (by omega) | exact zkk (zK_row (by omega) (by omega)) (by omega) | exact zkk (zK_file (by omega) (by omega)) (by omega) | exact zkk (zK_byte (by omega) (by omega)) (by omega) | exact zkk (zK_list (by omega)) (by omega) | assumption)
    rw [hm.1]
    first | ((with_reducible refine zx_icmpgeN zd93_150 ?s31 (fun hc => ?_) (fun hc => ?_)); (case s31 => omega)) | refine zx_icmpge zd93_150 (fun hc => ?_) (fun hc => ?_)
    · exact kk I' _ hh hf
    · omega
  | succ q ih =>
    intro i I' hi hm hh hf
    refine zx_il2 zd93_145 ?_
    refine zx_al0 zd93_146 ?_
    (refine zx_gfI zd93_147 ?k34 ?_); (case k34 => first | exact zkk rfl (by omega) | exact zkk (zK_B0 (by omega)) (by omega) | exact zkk ((zK_B (by omega) (by decide)).trans rfl) (by omega) | exact zkk (zK_row (by omega) (by omega)) (by omega) | exact zkk (zK_file (by omega) (by omega)) (by omega) | exact zkk (zK_byte (by omega) (by omega)) (by omega) | exact zkk (zK_list (by omega)) (by omega) | assumption)
    rw [hm.1]
    first | ((with_reducible refine zx_icmpgeN zd93_150 ?s35 (fun hc => ?_) (fun hc => ?_)); (case s35 => omega)) | refine zx_icmpge zd93_150 (fun hc => ?_) (fun hc => ?_)
    · omega
    · refine zx_al0 zd93_153 ?_
      refine zx_il2 zd93_154 ?_
      obtain ⟨I2, hr, h1, h2⟩ := zm_block (L := L) (U := U) (I := I') (J := J) hR hN (fun j hj => by rw [hf 437 (by decide) (by decide) (by decide)]; exact hK j hj) (p := 64 * i) (by omega)
      (refine zx_cv1V zd93_155 ?k38 (hr) ?_); (case k38 => first | exact zkk rfl (by omega) | exact zkk (zK_B0 (by omega)) (by omega) | exact zkk ((zK_B (by omega) (by decide)).trans rfl) (by omega) | exact zkk (zK_row (by omega) (by omega)) (by omega) | exact zkk (zK_file (by omega) (by omega)) (by omega) | exact zkk (zK_byte (by omega) (by omega)) (by omega) | exact zkk (zK_list (by omega)) (by omega) | assumption)
      first | with_reducible refine zx_iin2 zd93_158 ?_ | refine zx_ii2 zd93_158 ?_
      refine zx_goto zd93_161 ?_
      refine ih (i + 1) I2 (by omega) ⟨by rw [h2 436 (by decide) (by decide) (by decide)]; exact hm.1, fun j hj => by rw [h2 438 (by decide) (by decide) (by decide)]; exact hm.2 j hj⟩ (fun j hj => ?_) (fun b g1 g2 g3 => (h2 b g1 g2 g3).trans (hf b g1 g2 g3))
      rw [h1 j hj]
      show _ = zcomp (zhs m i) zKr (zsch (zblk m i) 48) j
      refine zcomp_lt hh (fun _ _ => rfl) (fun k hk => zsch_lt _ _ 48 (fun w hw => ?_) k (by omega)) j hj
      exact zhs_I hm.2 (by omega) w hw
theorem zm_d4 (hR : zRs R) (hN : 459 ≤ N) {l1 : Option Value}
    (kk : zW L 93 206 [some (.ref 436), l1, some (.int (Int32.ofNat 32))] [] (N, U, zrw I 442 (zfill (I 442) 0 32 (zoutb (I 440))), J, R) Q) :
    ∀ (q i : Nat), i + q = 32 → zW L 93 166 [some (.ref 436), l1, some (.int (Int32.ofNat i))] [] (N, U, zrw I 442 (zfill (I 442) 0 i (zoutb (I 440))), J, R) Q := by
  intro q
  induction q with
  | zero =>
    intro i hi
    obtain rfl : i = 32 := by omega
    refine zx_il2 zd93_166 ?_
    refine zx_c zd93_167 ?_
    first | ((with_reducible refine zx_icmpgeN zd93_169 ?s43 (fun hc => ?_) (fun hc => ?_)); (case s43 => omega)) | refine zx_icmpge zd93_169 (fun hc => ?_) (fun hc => ?_)
    · exact kk
    · omega
  | succ q ih =>
    intro i hi
    refine zx_il2 zd93_166 ?_
    refine zx_c zd93_167 ?_
    first | ((with_reducible refine zx_icmpgeN zd93_169 ?s46 (fun hc => ?_) (fun hc => ?_)); (case s46 => omega)) | refine zx_icmpge zd93_169 (fun hc => ?_) (fun hc => ?_)
    · omega
    · refine zx_al0 zd93_172 ?_
      (refine' zx_gfA zd93_173 ?k48 ?r48 ?_); (case k48 => first | exact zkk rfl (by omega) | exact zkk (zK_B0 (by omega)) (by omega) | exact zkk ((zK_B (by omega) (by decide)).trans rfl) (by omega) | exact zkk (zK_row (by omega) (by omega)) (by omega) | exact zkk (zK_file (by omega) (by omega)) (by omega) | exact zkk (zK_byte (by omega) (by omega)) (by omega) | exact zkk (zK_list (by omega)) (by omega) | assumption); (case r48 => first | exact hR.1 _ _ _ rfl | assumption)
      refine zx_il2 zd93_176 ?_
      refine zx_al0 zd93_177 ?_
      (refine' zx_gfA zd93_178 ?k51 ?r51 ?_); (case k51 => first | exact zkk rfl (by omega) | exact zkk (zK_B0 (by omega)) (by omega) | exact zkk ((zK_B (by omega) (by decide)).trans rfl) (by omega) | exact zkk (zK_row (by omega) (by omega)) (by omega) | exact zkk (zK_file (by omega) (by omega)) (by omega) | exact zkk (zK_byte (by omega) (by omega)) (by omega) | exact zkk (zK_list (by omega)) (by omega) | assumption); (case r51 => first | exact hR.1 _ _ _ rfl | assumption)
      refine zx_il2 zd93_181 ?_
      refine zx_c zd93_182 ?_
      first | ((with_reducible refine zx_divN zd93_183 ?h54 ?_); (case h54 => omega)) | refine zx_div zd93_183 (by decide) ?_
      (with_reducible refine' zx_ialdN zd93_184 ?k55 ?j55 ?_); (case k55 => first | exact zkk rfl (by omega) | exact zkk (zK_B0 (by omega)) (by omega) | exact zkk ((zK_B (by omega) (by decide)).trans rfl) (by omega) | exact zkk (zK_row (by omega) (by omega)) (by omega) | exact zkk (zK_file (by omega) (by omega)) (by omega) | exact zkk (zK_byte (by omega) (by omega)) (by omega) | exact zkk (zK_list (by omega)) (by omega) | assumption); (case j55 => omega)
      refine zx_c zd93_185 ?_
      refine zx_c zd93_187 ?_
      refine zx_il2 zd93_189 ?_
      refine zx_c zd93_190 ?_
      first | ((with_reducible refine zx_remN zd93_191 ?h60 ?_); (case h60 => omega)) | refine zx_rem zd93_191 (by decide) ?_
      first | with_reducible refine zx_mulN zd93_192 ?_ | refine zx_mul zd93_192 ?_
      first | ((with_reducible refine zx_subN zd93_193 ?h62 ?_); (case h62 => omega)) | refine zx_sub zd93_193 ?_
      first | ((with_reducible refine zx_shrN zd93_194 ?h63 ?_); (case h63 => omega)) | refine zx_shr zd93_194 ?_
      refine zx_c zd93_195 ?_
      first | with_reducible refine zx_andN zd93_198 ?_ | refine zx_and zd93_198 ?_
      rw [zmask _ (s := 24 - 8 * (i % 4)) (by omega)]
      (with_reducible refine' zx_iastN zd93_199 ?k66 ?j66 ?a66 ?_); (case k66 => first | exact zkk rfl (by omega) | exact zkk (zK_B0 (by omega)) (by omega) | exact zkk ((zK_B (by omega) (by decide)).trans rfl) (by omega) | exact zkk (zK_row (by omega) (by omega)) (by omega) | exact zkk (zK_file (by omega) (by omega)) (by omega) | exact zkk (zK_byte (by omega) (by omega)) (by omega) | exact zkk (zK_list (by omega)) (by omega) | assumption); (case j66 => omega); (case a66 => omega)
      first | with_reducible refine zx_iin2 zd93_200 ?_ | refine zx_ii2 zd93_200 ?_
      refine zx_goto zd93_203 ?_
      have e := zfill_succ (I 442) 0 i (zoutb (I 440))
      rw [Nat.zero_add] at e
      have k := ih (i + 1) (by omega)
      rw [← e] at k
      rw [zu_rw, zrw_rw, zrw_at, zrw_ne _ _ (show 440 ≠ 442 by decide)]
      exact k
theorem zst_eq : ∀ j, j < 8 → (zup (zup (zup (zup (zup (zup (zup (zup (fun _ : Nat => (0 : Int32)) 0 (Int32.ofNat 1779033703)) 1 (-1150833019)) 2 (Int32.ofNat 1013904242)) 3 (-1521486534)) 4 (Int32.ofNat 1359893119)) 5 (-1694144372)) 6 (Int32.ofNat 528734635)) 7 (Int32.ofNat 1541459225)) j = zHs j := by
  decide
/-- what a digest leaves of the reference -/
def zFd (I I' : zI) : Prop := (∀ b, b ≠ 436 → b ≠ 438 → b ≠ 439 → b ≠ 440 → b ≠ 441 → b ≠ 442 → I' b = I b) ∧ ∀ f, f ≠ 2 → I' 436 f = I 436 f
theorem zFd.refl (I : zI) : zFd I I := ⟨fun _ _ _ _ _ _ _ => rfl, fun _ _ => rfl⟩
theorem zFd.trans {I I' I'' : zI} (h : zFd I I') (h' : zFd I' I'') : zFd I I'' := ⟨fun b h1 h2 h3 h4 h5 h6 => (h'.1 b h1 h2 h3 h4 h5 h6).trans (h.1 b h1 h2 h3 h4 h5 h6), fun f hf => (h'.2 f hf).trans (h.2 f hf)⟩
theorem zF2.to {I I' : zI} (h : zF2 I I') : zFd I I' := ⟨fun b h1 h2 _ _ _ _ => h.1 b h1 h2, h.2⟩
theorem zs_mdig (hR : zRs R) (hN : 459 ≤ N) (hK : ∀ j, j < 64 → I 437 j = zKr j) (hm : zMg m I) (hs : m.length ≤ 300) :
    ∃ I', zRet L 93 [.ref 436] (N, U, I, J, R) none (N, U, I', J, R) ∧ I' 442 = zfill (I 442) 0 32 (zsha m) ∧ zMg [] I' ∧ zFd I I' := by
  have w : zW L 93 0 (zent 93 [.ref 436]) [] (N, U, I, J, R) (fun o k => o = .inl none ∧ ∃ I' : zI, k = (N, U, I', J, R) ∧ I' 442 = zfill (I 442) 0 32 (zsha m) ∧ zMg [] I' ∧ zFd I I') := by
    show zW L 93 0 [some (.ref 436), none, none] [] _ _
    refine zx_al0 zd93_0 ?_
    (refine zx_gfI zd93_1 ?k70 ?_); (case k70 => first | exact zkk rfl (by omega) | exact zkk (zK_B0 (by omega)) (by omega) | exact zkk ((zK_B (by omega) (by decide)).trans rfl) (by omega) | exact zkk (zK_row (by omega) (by omega)) (by omega) | exact zkk (zK_file (by omega) (by omega)) (by omega) | exact zkk (zK_byte (by omega) (by omega)) (by omega) | exact zkk (zK_list (by omega)) (by omega) | assumption)
    rw [hm.1]
    refine zx_is1 zd93_4 rfl ?_
    refine zx_al0 zd93_5 ?_
    refine zx_c zd93_6 ?_
    obtain ⟨I1, hr1, hm1, hf1⟩ := zs_mput2 (L := L) (U := U) (J := J) hR hN hm (by omega) (Int32.ofNat 128)
    (refine zx_cv1V zd93_9 ?k74 (hr1) ?_); (case k74 => first | exact zkk rfl (by omega) | exact zkk (zK_B0 (by omega)) (by omega) | exact zkk ((zK_B (by omega) (by decide)).trans rfl) (by omega) | exact zkk (zK_row (by omega) (by omega)) (by omega) | exact zkk (zK_file (by omega) (by omega)) (by omega) | exact zkk (zK_byte (by omega) (by omega)) (by omega) | exact zkk (zK_list (by omega)) (by omega) | assumption)
    have el : (m ++ [Int32.ofNat 128]).length = m.length + 1 := by simp
    refine zm_d1 (m := m ++ [Int32.ofNat 128]) hR hN (I0 := I1) (z := (119 - m.length % 64) % 64) (by omega) (by rw [el]; omega) (by rw [el]; omega) ?_ _ 0 I1 (by rw [Nat.zero_add]) (by show zMg (_ ++ []) I1; rw [List.append_nil]; exact hm1) (zF2.refl I1)
    intro I2 hm2 hf2
    have el2 : (m ++ [Int32.ofNat 128] ++ List.replicate ((119 - m.length % 64) % 64) (Int32.ofNat 0)).length = m.length + 1 + (119 - m.length % 64) % 64 := by
      rw [List.length_append, el, List.length_replicate]
    refine zx_c zd93_32 ?_
    refine zx_is2 zd93_33 rfl ?_
    refine zm_d2 (m := m ++ [Int32.ofNat 128] ++ List.replicate ((119 - m.length % 64) % 64) (Int32.ofNat 0)) hR hN (I0 := I2) (by rw [el2]; omega) ?_ 4 0 I2 rfl (by show zMg (_ ++ []) I2; rw [List.append_nil]; exact hm2) (zF2.refl I2)
    intro I3 hm3 hf3
    have el3 : (m ++ [Int32.ofNat 128] ++ List.replicate ((119 - m.length % 64) % 64) (Int32.ofNat 0) ++ List.replicate 4 (Int32.ofNat 0)).length = m.length + 5 + (119 - m.length % 64) % 64 := by
      rw [List.length_append, el2, List.length_replicate]; omega
    refine zx_c zd93_50 ?_
    refine zx_is2 zd93_52 rfl ?_
    refine zx_il2 zd93_53 ?_
    first | ((with_reducible refine zx_ifltN zd93_54 ?s80 (fun hc => ?_) (fun hc => ?_)); (case s80 => omega)) | refine zx_iflt zd93_54 (fun hc => ?_) (fun hc => ?_)
    · omega
    refine zx_al0 zd93_57 ?_
    refine zx_c zd93_58 ?_
    refine zx_il1 zd93_60 ?_
    first | with_reducible refine zx_mulN zd93_61 ?_ | refine zx_mul zd93_61 ?_
    refine zx_il2 zd93_62 ?_
    first | ((with_reducible refine zx_shrN zd93_63 ?h86 ?_); (case h86 => omega)) | refine zx_shr zd93_63 ?_
    refine zx_c zd93_64 ?_
    first | with_reducible refine zx_andN zd93_67 ?_ | refine zx_and zd93_67 ?_
    obtain ⟨I4, hr4, hm4, hf4⟩ := zs_mput2 (L := L) (U := U) (J := J) hR hN hm3 (by rw [el3]; omega) (Int32.ofNat ((8 * m.length) >>> 24 &&& 255))
    (refine zx_cv1V zd93_68 ?k89 (hr4) ?_); (case k89 => first | exact zkk rfl (by omega) | exact zkk (zK_B0 (by omega)) (by omega) | exact zkk ((zK_B (by omega) (by decide)).trans rfl) (by omega) | exact zkk (zK_row (by omega) (by omega)) (by omega) | exact zkk (zK_file (by omega) (by omega)) (by omega) | exact zkk (zK_byte (by omega) (by omega)) (by omega) | exact zkk (zK_list (by omega)) (by omega) | assumption)
    first | ((with_reducible refine zx_iid2 zd93_71 ?h90 ?_); (case h90 => omega)) | refine zx_ii2 zd93_71 ?_
    refine zx_goto zd93_74 ?_
    refine zx_il2 zd93_53 ?_
    first | ((with_reducible refine zx_ifltN zd93_54 ?s93 (fun hc => ?_) (fun hc => ?_)); (case s93 => omega)) | refine zx_iflt zd93_54 (fun hc => ?_) (fun hc => ?_)
    · omega
    refine zx_al0 zd93_57 ?_
    refine zx_c zd93_58 ?_
    refine zx_il1 zd93_60 ?_
    first | with_reducible refine zx_mulN zd93_61 ?_ | refine zx_mul zd93_61 ?_
    refine zx_il2 zd93_62 ?_
    first | ((with_reducible refine zx_shrN zd93_63 ?h99 ?_); (case h99 => omega)) | refine zx_shr zd93_63 ?_
    refine zx_c zd93_64 ?_
    first | with_reducible refine zx_andN zd93_67 ?_ | refine zx_and zd93_67 ?_
    obtain ⟨I5, hr5, hm5, hf5⟩ := zs_mput2 (L := L) (U := U) (J := J) hR hN hm4 (by rw [List.length_append, el3, List.length_singleton]; omega) (Int32.ofNat ((8 * m.length) >>> 16 &&& 255))
    (refine zx_cv1V zd93_68 ?k102 (hr5) ?_); (case k102 => first | exact zkk rfl (by omega) | exact zkk (zK_B0 (by omega)) (by omega) | exact zkk ((zK_B (by omega) (by decide)).trans rfl) (by omega) | exact zkk (zK_row (by omega) (by omega)) (by omega) | exact zkk (zK_file (by omega) (by omega)) (by omega) | exact zkk (zK_byte (by omega) (by omega)) (by omega) | exact zkk (zK_list (by omega)) (by omega) | assumption)
    first | ((with_reducible refine zx_iid2 zd93_71 ?h103 ?_); (case h103 => omega)) | refine zx_ii2 zd93_71 ?_
    refine zx_goto zd93_74 ?_
    refine zx_il2 zd93_53 ?_
    first | ((with_reducible refine zx_ifltN zd93_54 ?s106 (fun hc => ?_) (fun hc => ?_)); (case s106 => omega)) | refine zx_iflt zd93_54 (fun hc => ?_) (fun hc => ?_)
    · omega
    refine zx_al0 zd93_57 ?_
    refine zx_c zd93_58 ?_
    refine zx_il1 zd93_60 ?_
    first | with_reducible refine zx_mulN zd93_61 ?_ | refine zx_mul zd93_61 ?_
    refine zx_il2 zd93_62 ?_
    first | ((with_reducible refine zx_shrN zd93_63 ?h112 ?_); (case h112 => omega)) | refine zx_shr zd93_63 ?_
    refine zx_c zd93_64 ?_
    first | with_reducible refine zx_andN zd93_67 ?_ | refine zx_and zd93_67 ?_
    obtain ⟨I6, hr6, hm6, hf6⟩ := zs_mput2 (L := L) (U := U) (J := J) hR hN hm5 (by rw [List.length_append, List.length_append, el3, List.length_singleton, List.length_singleton]; omega) (Int32.ofNat ((8 * m.length) >>> 8 &&& 255))
    (refine zx_cv1V zd93_68 ?k115 (hr6) ?_); (case k115 => first | exact zkk rfl (by omega) | exact zkk (zK_B0 (by omega)) (by omega) | exact zkk ((zK_B (by omega) (by decide)).trans rfl) (by omega) | exact zkk (zK_row (by omega) (by omega)) (by omega) | exact zkk (zK_file (by omega) (by omega)) (by omega) | exact zkk (zK_byte (by omega) (by omega)) (by omega) | exact zkk (zK_list (by omega)) (by omega) | assumption)
    first | ((with_reducible refine zx_iid2 zd93_71 ?h116 ?_); (case h116 => omega)) | refine zx_ii2 zd93_71 ?_
    refine zx_goto zd93_74 ?_
    refine zx_il2 zd93_53 ?_
    first | ((with_reducible refine zx_ifltN zd93_54 ?s119 (fun hc => ?_) (fun hc => ?_)); (case s119 => omega)) | refine zx_iflt zd93_54 (fun hc => ?_) (fun hc => ?_)
    · omega
    refine zx_al0 zd93_57 ?_
    refine zx_c zd93_58 ?_
    refine zx_il1 zd93_60 ?_
    first | with_reducible refine zx_mulN zd93_61 ?_ | refine zx_mul zd93_61 ?_
    refine zx_il2 zd93_62 ?_
    first | ((with_reducible refine zx_shrN zd93_63 ?h125 ?_); (case h125 => omega)) | refine zx_shr zd93_63 ?_
    refine zx_c zd93_64 ?_
    first | with_reducible refine zx_andN zd93_67 ?_ | refine zx_and zd93_67 ?_
    obtain ⟨I7, hr7, hm7, hf7⟩ := zs_mput2 (L := L) (U := U) (J := J) hR hN hm6 (by rw [List.length_append, List.length_append, List.length_append, el3, List.length_singleton, List.length_singleton, List.length_singleton]; omega) (Int32.ofNat ((8 * m.length) >>> 0 &&& 255))
    (refine zx_cv1V zd93_68 ?k128 (hr7) ?_); (case k128 => first | exact zkk rfl (by omega) | exact zkk (zK_B0 (by omega)) (by omega) | exact zkk ((zK_B (by omega) (by decide)).trans rfl) (by omega) | exact zkk (zK_row (by omega) (by omega)) (by omega) | exact zkk (zK_file (by omega) (by omega)) (by omega) | exact zkk (zK_byte (by omega) (by omega)) (by omega) | exact zkk (zK_list (by omega)) (by omega) | assumption)
    first | ((with_reducible refine zx_iid2 zd93_71 ?h129 ?_); (case h129 => omega)) | refine zx_ii2 zd93_71 ?_
    refine zx_goto zd93_74 ?_
    refine zx_il2 zd93_53 ?_
    refine zx_iflt zd93_54 (fun _ => ?_) (fun hc => absurd (by decide) hc)
    have hF : zF2 I I7 := (((((hf1.trans hf2).trans hf3).trans hf4).trans hf5).trans hf6).trans hf7
    have hpad : zMg (zpad m) I7 := by
      have e : zpad m = m ++ [Int32.ofNat 128] ++ List.replicate ((119 - m.length % 64) % 64) (Int32.ofNat 0) ++ List.replicate 4 (Int32.ofNat 0) ++ [Int32.ofNat ((8 * m.length) >>> 24 &&& 255)] ++ [Int32.ofNat ((8 * m.length) >>> 16 &&& 255)] ++ [Int32.ofNat ((8 * m.length) >>> 8 &&& 255)] ++ [Int32.ofNat ((8 * m.length) >>> 0 &&& 255)] := by
        unfold zpad zlb zzs
        rw [Nat.mul_comm 8 m.length, ← List.replicate_append_replicate]
        simp
      rw [e]; exact hm7
    have h64 := zpad_64 m
    have hlen := zpad_len m
    have hzz : zzs m.length ≤ 67 := by unfold zzs; omega
    refine zx_al0 zd93_77 ?_
    (refine' zx_gfA zd93_78 ?k133 ?r133 ?_); (case k133 => first | exact zkk rfl (by omega) | exact zkk (zK_B0 (by omega)) (by omega) | exact zkk ((zK_B (by omega) (by decide)).trans rfl) (by omega) | exact zkk (zK_row (by omega) (by omega)) (by omega) | exact zkk (zK_file (by omega) (by omega)) (by omega) | exact zkk (zK_byte (by omega) (by omega)) (by omega) | exact zkk (zK_list (by omega)) (by omega) | assumption); (case r133 => first | exact hR.1 _ _ _ rfl | assumption)
    refine zx_c zd93_81 ?_
    refine zx_c zd93_82 ?_
    (with_reducible refine' zx_iastN zd93_84 ?k136 ?j136 ?a136 ?_); (case k136 => first | exact zkk rfl (by omega) | exact zkk (zK_B0 (by omega)) (by omega) | exact zkk ((zK_B (by omega) (by decide)).trans rfl) (by omega) | exact zkk (zK_row (by omega) (by omega)) (by omega) | exact zkk (zK_file (by omega) (by omega)) (by omega) | exact zkk (zK_byte (by omega) (by omega)) (by omega) | exact zkk (zK_list (by omega)) (by omega) | assumption); (case j136 => omega); (case a136 => omega)
    refine zx_al0 zd93_85 ?_
    (refine' zx_gfA zd93_86 ?k138 ?r138 ?_); (case k138 => first | exact zkk rfl (by omega) | exact zkk (zK_B0 (by omega)) (by omega) | exact zkk ((zK_B (by omega) (by decide)).trans rfl) (by omega) | exact zkk (zK_row (by omega) (by omega)) (by omega) | exact zkk (zK_file (by omega) (by omega)) (by omega) | exact zkk (zK_byte (by omega) (by omega)) (by omega) | exact zkk (zK_list (by omega)) (by omega) | assumption); (case r138 => first | exact hR.1 _ _ _ rfl | assumption)
    refine zx_c zd93_89 ?_
    refine zx_c zd93_90 ?_
    (with_reducible refine' zx_iastN zd93_92 ?k141 ?j141 ?a141 ?_); (case k141 => first | exact zkk rfl (by omega) | exact zkk (zK_B0 (by omega)) (by omega) | exact zkk ((zK_B (by omega) (by decide)).trans rfl) (by omega) | exact zkk (zK_row (by omega) (by omega)) (by omega) | exact zkk (zK_file (by omega) (by omega)) (by omega) | exact zkk (zK_byte (by omega) (by omega)) (by omega) | exact zkk (zK_list (by omega)) (by omega) | assumption); (case j141 => omega); (case a141 => omega)
    refine zx_al0 zd93_93 ?_
    (refine' zx_gfA zd93_94 ?k143 ?r143 ?_); (case k143 => first | exact zkk rfl (by omega) | exact zkk (zK_B0 (by omega)) (by omega) | exact zkk ((zK_B (by omega) (by decide)).trans rfl) (by omega) | exact zkk (zK_row (by omega) (by omega)) (by omega) | exact zkk (zK_file (by omega) (by omega)) (by omega) | exact zkk (zK_byte (by omega) (by omega)) (by omega) | exact zkk (zK_list (by omega)) (by omega) | assumption); (case r143 => first | exact hR.1 _ _ _ rfl | assumption)
    refine zx_c zd93_97 ?_
    refine zx_c zd93_98 ?_
    (with_reducible refine' zx_iastN zd93_100 ?k146 ?j146 ?a146 ?_); (case k146 => first | exact zkk rfl (by omega) | exact zkk (zK_B0 (by omega)) (by omega) | exact zkk ((zK_B (by omega) (by decide)).trans rfl) (by omega) | exact zkk (zK_row (by omega) (by omega)) (by omega) | exact zkk (zK_file (by omega) (by omega)) (by omega) | exact zkk (zK_byte (by omega) (by omega)) (by omega) | exact zkk (zK_list (by omega)) (by omega) | assumption); (case j146 => omega); (case a146 => omega)
    refine zx_al0 zd93_101 ?_
    (refine' zx_gfA zd93_102 ?k148 ?r148 ?_); (case k148 => first | exact zkk rfl (by omega) | exact zkk (zK_B0 (by omega)) (by omega) | exact zkk ((zK_B (by omega) (by decide)).trans rfl) (by omega) | exact zkk (zK_row (by omega) (by omega)) (by omega) | exact zkk (zK_file (by omega) (by omega)) (by omega) | exact zkk (zK_byte (by omega) (by omega)) (by omega) | exact zkk (zK_list (by omega)) (by omega) | assumption); (case r148 => first | exact hR.1 _ _ _ rfl | assumption)
    refine zx_c zd93_105 ?_
    refine zx_c zd93_106 ?_
    (with_reducible refine' zx_iastN zd93_108 ?k151 ?j151 ?a151 ?_); (case k151 => first | exact zkk rfl (by omega) | exact zkk (zK_B0 (by omega)) (by omega) | exact zkk ((zK_B (by omega) (by decide)).trans rfl) (by omega) | exact zkk (zK_row (by omega) (by omega)) (by omega) | exact zkk (zK_file (by omega) (by omega)) (by omega) | exact zkk (zK_byte (by omega) (by omega)) (by omega) | exact zkk (zK_list (by omega)) (by omega) | assumption); (case j151 => omega); (case a151 => omega)
    refine zx_al0 zd93_109 ?_
    (refine' zx_gfA zd93_110 ?k153 ?r153 ?_); (case k153 => first | exact zkk rfl (by omega) | exact zkk (zK_B0 (by omega)) (by omega) | exact zkk ((zK_B (by omega) (by decide)).trans rfl) (by omega) | exact zkk (zK_row (by omega) (by omega)) (by omega) | exact zkk (zK_file (by omega) (by omega)) (by omega) | exact zkk (zK_byte (by omega) (by omega)) (by omega) | exact zkk (zK_list (by omega)) (by omega) | assumption); (case r153 => first | exact hR.1 _ _ _ rfl | assumption)
    refine zx_c zd93_113 ?_
    refine zx_c zd93_114 ?_
    (with_reducible refine' zx_iastN zd93_116 ?k156 ?j156 ?a156 ?_); (case k156 => first | exact zkk rfl (by omega) | exact zkk (zK_B0 (by omega)) (by omega) | exact zkk ((zK_B (by omega) (by decide)).trans rfl) (by omega) | exact zkk (zK_row (by omega) (by omega)) (by omega) | exact zkk (zK_file (by omega) (by omega)) (by omega) | exact zkk (zK_byte (by omega) (by omega)) (by omega) | exact zkk (zK_list (by omega)) (by omega) | assumption); (case j156 => omega); (case a156 => omega)
    refine zx_al0 zd93_117 ?_
    (refine' zx_gfA zd93_118 ?k158 ?r158 ?_); (case k158 => first | exact zkk rfl (by omega) | exact zkk (zK_B0 (by omega)) (by omega) | exact zkk ((zK_B (by omega) (by decide)).trans rfl) (by omega) | exact zkk (zK_row (by omega) (by omega)) (by omega) | exact zkk (zK_file (by omega) (by omega)) (by omega) | exact zkk (zK_byte (by omega) (by omega)) (by omega) | exact zkk (zK_list (by omega)) (by omega) | assumption); (case r158 => first | exact hR.1 _ _ _ rfl | assumption)
    refine zx_c zd93_121 ?_
    refine zx_c zd93_122 ?_
    (with_reducible refine' zx_iastN zd93_124 ?k161 ?j161 ?a161 ?_); (case k161 => first | exact zkk rfl (by omega) | exact zkk (zK_B0 (by omega)) (by omega) | exact zkk ((zK_B (by omega) (by decide)).trans rfl) (by omega) | exact zkk (zK_row (by omega) (by omega)) (by omega) | exact zkk (zK_file (by omega) (by omega)) (by omega) | exact zkk (zK_byte (by omega) (by omega)) (by omega) | exact zkk (zK_list (by omega)) (by omega) | assumption); (case j161 => omega); (case a161 => omega)
    refine zx_al0 zd93_125 ?_
    (refine' zx_gfA zd93_126 ?k163 ?r163 ?_); (case k163 => first | exact zkk rfl (by omega) | exact zkk (zK_B0 (by omega)) (by omega) | exact zkk ((zK_B (by omega) (by decide)).trans rfl) (by omega) | exact zkk (zK_row (by omega) (by omega)) (by omega) | exact zkk (zK_file (by omega) (by omega)) (by omega) | exact zkk (zK_byte (by omega) (by omega)) (by omega) | exact zkk (zK_list (by omega)) (by omega) | assumption); (case r163 => first | exact hR.1 _ _ _ rfl | assumption)
    refine zx_c zd93_129 ?_
    refine zx_c zd93_131 ?_
    (with_reducible refine' zx_iastN zd93_133 ?k166 ?j166 ?a166 ?_); (case k166 => first | exact zkk rfl (by omega) | exact zkk (zK_B0 (by omega)) (by omega) | exact zkk ((zK_B (by omega) (by decide)).trans rfl) (by omega) | exact zkk (zK_row (by omega) (by omega)) (by omega) | exact zkk (zK_file (by omega) (by omega)) (by omega) | exact zkk (zK_byte (by omega) (by omega)) (by omega) | exact zkk (zK_list (by omega)) (by omega) | assumption); (case j166 => omega); (case a166 => omega)
    refine zx_al0 zd93_134 ?_
    (refine' zx_gfA zd93_135 ?k168 ?r168 ?_); (case k168 => first | exact zkk rfl (by omega) | exact zkk (zK_B0 (by omega)) (by omega) | exact zkk ((zK_B (by omega) (by decide)).trans rfl) (by omega) | exact zkk (zK_row (by omega) (by omega)) (by omega) | exact zkk (zK_file (by omega) (by omega)) (by omega) | exact zkk (zK_byte (by omega) (by omega)) (by omega) | exact zkk (zK_list (by omega)) (by omega) | assumption); (case r168 => first | exact hR.1 _ _ _ rfl | assumption)
    refine zx_c zd93_138 ?_
    refine zx_c zd93_140 ?_
    (with_reducible refine' zx_iastN zd93_142 ?k171 ?j171 ?a171 ?_); (case k171 => first | exact zkk rfl (by omega) | exact zkk (zK_B0 (by omega)) (by omega) | exact zkk ((zK_B (by omega) (by decide)).trans rfl) (by omega) | exact zkk (zK_row (by omega) (by omega)) (by omega) | exact zkk (zK_file (by omega) (by omega)) (by omega) | exact zkk (zK_byte (by omega) (by omega)) (by omega) | exact zkk (zK_list (by omega)) (by omega) | assumption); (case j171 => omega); (case a171 => omega)
    refine zx_c zd93_143 ?_
    refine zx_is2 zd93_144 rfl ?_
    generalize hI8 : zu (zu (zu (zu (zu (zu (zu (zu I7 440 0 (Int32.ofNat 1779033703)) 440 1 (-1150833019)) 440 2 (Int32.ofNat 1013904242)) 440 3 (-1521486534)) 440 4 (Int32.ofNat 1359893119)) 440 5 (-1694144372)) 440 6 (Int32.ofNat 528734635)) 440 7 (Int32.ofNat 1541459225) = I8
    have h8f : ∀ b, b ≠ 440 → I8 b = I7 b := by
      intro b hb
      rw [← hI8]
      simp only [zu_rw, zrw_rw, zrw_at]
      rw [zrw_ne _ _ hb]
    have h8s : ∀ j, j < 8 → I8 440 j = zHs j := by
      intro j hj
      rw [← zst_eq j hj, ← hI8]
      match j, hj with
      | 0, _ => rfl
      | 1, _ => rfl
      | 2, _ => rfl
      | 3, _ => rfl
      | 4, _ => rfl
      | 5, _ => rfl
      | 6, _ => rfl
      | 7, _ => rfl
    have hm8 : zMg (zpad m) I8 := ⟨by rw [h8f 436 (by decide)]; exact hpad.1, fun i hi => by rw [h8f 438 (by decide)]; exact hpad.2 i hi⟩
    refine zm_d3 (m := zpad m) hR hN (I0 := I8) (fun j hj => by rw [h8f 437 (by decide), hF.1 437 (by decide) (by decide)]; exact hK j hj) (n := (zpad m).length / 64) (by omega) (by omega) ?_ _ 0 I8 (by rw [Nat.zero_add]) hm8 h8s (fun _ _ _ _ => rfl)
    intro I9 l2 h9 hf9
    refine zx_c zd93_164 ?_
    refine zx_is2 zd93_165 rfl ?_
    have k := fun kk => zm_d4 (L := L) (U := U) (I := I9) (J := J) (Q := fun o k => o = .inl none ∧ ∃ I' : zI, k = (N, U, I', J, R) ∧ I' 442 = zfill (I 442) 0 32 (zsha m) ∧ zMg [] I' ∧ zFd I I') hR hN (l1 := some (.int (Int32.ofNat m.length))) kk 32 0 rfl
    rw [zfill_zero, zrw_id] at k
    refine k ?_
    refine zx_al0 zd93_206 ?_
    refine zx_c zd93_207 ?_
    (refine zx_pfI zd93_208 ?k178 ?a178 ?_); (case k178 => first | exact zkk rfl (by omega) | exact zkk (zK_B0 (by omega)) (by omega) | exact zkk ((zK_B (by omega) (by decide)).trans rfl) (by omega) | exact zkk (zK_row (by omega) (by omega)) (by omega) | exact zkk (zK_file (by omega) (by omega)) (by omega) | exact zkk (zK_byte (by omega) (by omega)) (by omega) | exact zkk (zK_list (by omega)) (by omega) | assumption); (case a178 => omega)
    refine zx_vret zd93_211 rfl ?_
    refine ⟨rfl, _, rfl, ?_, ⟨rfl, fun i hi => absurd hi (by simp)⟩, fun b h1 h2 h3 h4 h5 h6 => ?_, fun f hf => ?_⟩
    · rw [zu_rw, zrw_ne _ _ (show 442 ≠ 436 by decide), zrw_at, hf9 442 (by decide) (by decide) (by decide), h8f 442 (by decide), hF.1 442 (by decide) (by decide)]
      funext j
      by_cases hj : j < 32
      · rw [zfill_in0 _ _ _ hj, zfill_in0 _ _ _ hj]
        unfold zoutb zsha
        rw [h9 _ (by omega)]
      · rw [zfill_out _ _ _ _ (by omega), zfill_out _ _ _ _ (by omega)]
    · rw [zu_rw, zrw_ne _ _ h1, zrw_ne _ _ h6, hf9 b h3 h4 h5, h8f b h4, hF.1 b h1 h2]
    · show (if 436 = 436 ∧ f = 2 then _ else zrw I9 442 _ 436 f) = _
      rw [if_neg (fun h => hf h.2), zrw_ne _ _ (show 436 ≠ 442 by decide), hf9 436 (by decide) (by decide) (by decide), h8f 436 (by decide), hF.2 f hf]
  obtain ⟨k, hr, I', rfl, hd, hf⟩ := zRet_of w
  exact ⟨I', hr, hd, hf⟩
/-- putDigest: 32 bytes of a row -/
def zrw0 (f : Nat → Int32) (p n : Nat) : List Int32 := (List.range n).map (fun i => f (p + i))
theorem zrw0_len (f : Nat → Int32) (p n : Nat) : (zrw0 f p n).length = n := by simp [zrw0]
theorem zrw0_succ (f : Nat → Int32) (p n : Nat) : zrw0 f p (n + 1) = zrw0 f p n ++ [f (p + n)] := by
  unfold zrw0
  rw [List.range_succ, List.map_append]; rfl
theorem zm_pd0 (hR : zRs R) (hN : 459 ≤ N) {a n p : Nat} (ha : zk L (N, U, I, J, R) a = some (.inl (.int, n))) (ha2 : a ≠ 436 ∧ a ≠ 438) (hn : n ≤ 65536) (hp : p + 32 ≤ n) (hs : m.length + 32 ≤ 512) :
    ∀ (q i : Nat) (I' : zI), i + q = 32 → zMg (m ++ zrw0 (I a) p i) I' → zF2 I I' → zW L 98 2 [some (.ref 436), some (.ref a), some (.int (Int32.ofNat p)), some (.int (Int32.ofNat i))] [] (N, U, I', J, R) (fun o k => o = .inl none ∧ ∃ I' : zI, k = (N, U, I', J, R) ∧ zMg (m ++ zrw0 (I a) p 32) I' ∧ zF2 I I') := by
  intro q
  induction q with
  | zero =>
    intro i I' hi hm hf
    obtain rfl : i = 32 := by omega
    refine zx_il3 zd98_2 ?_
    refine zx_c zd98_3 ?_
    first | ((with_reducible refine zx_icmpgeN zd98_5 ?s182 (fun hc => ?_) (fun hc => ?_)); (case s182 => omega)) | refine zx_icmpge zd98_5 (fun hc => ?_) (fun hc => ?_)
    · refine zx_vret zd98_23 rfl ?_
      exact ⟨rfl, I', rfl, hm, hf⟩
    · omega
  | succ q ih =>
    intro i I' hi hm hf
    have ha' : zk L (N, U, I', J, R) a = some (.inl (.int, n)) := ha
    refine zx_il3 zd98_2 ?_
    refine zx_c zd98_3 ?_
    first | ((with_reducible refine zx_icmpgeN zd98_5 ?s186 (fun hc => ?_) (fun hc => ?_)); (case s186 => omega)) | refine zx_icmpge zd98_5 (fun hc => ?_) (fun hc => ?_)
    · omega
    · refine zx_al0 zd98_8 ?_
      refine zx_al1 zd98_9 ?_
      refine zx_il2 zd98_10 ?_
      refine zx_il3 zd98_11 ?_
      first | with_reducible refine zx_addN zd98_12 ?_ | refine zx_add zd98_12 ?_
      (with_reducible refine' zx_ialdN zd98_13 ?k192 ?j192 ?_); (case k192 => first | exact zkk rfl (by omega) | exact zkk (zK_B0 (by omega)) (by omega) | exact zkk ((zK_B (by omega) (by decide)).trans rfl) (by omega) | exact zkk (zK_row (by omega) (by omega)) (by omega) | exact zkk (zK_file (by omega) (by omega)) (by omega) | exact zkk (zK_byte (by omega) (by omega)) (by omega) | exact zkk (zK_list (by omega)) (by omega) | assumption); (case j192 => omega)
      obtain ⟨I2, hr, hm2, hf2⟩ := zs_mput2 (L := L) (U := U) (J := J) hR hN hm (by rw [List.length_append, zrw0_len]; omega) (I' a (p + i))
      (refine zx_cv1V zd98_14 ?k193 (hr) ?_); (case k193 => first | exact zkk rfl (by omega) | exact zkk (zK_B0 (by omega)) (by omega) | exact zkk ((zK_B (by omega) (by decide)).trans rfl) (by omega) | exact zkk (zK_row (by omega) (by omega)) (by omega) | exact zkk (zK_file (by omega) (by omega)) (by omega) | exact zkk (zK_byte (by omega) (by omega)) (by omega) | exact zkk (zK_list (by omega)) (by omega) | assumption)
      first | with_reducible refine zx_iin3 zd98_17 ?_ | refine zx_ii3 zd98_17 ?_
      refine zx_goto zd98_20 ?_
      refine ih (i + 1) I2 (by omega) ?_ (hf.trans hf2)
      rw [zrw0_succ, ← List.append_assoc]
      rw [hf.1 a ha2.1 ha2.2] at hm2
      exact hm2
theorem zs_mpd (hR : zRs R) (hN : 459 ≤ N) {a n p : Nat} (ha : zk L (N, U, I, J, R) a = some (.inl (.int, n))) (ha2 : a ≠ 436 ∧ a ≠ 438) (hn : n ≤ 65536) (hp : p + 32 ≤ n) (hm : zMg m I) (hs : m.length + 32 ≤ 512) : ∃ I', zRet L 98 [.ref 436, .ref a, .int (Int32.ofNat p)] (N, U, I, J, R) none (N, U, I', J, R) ∧ zMg (m ++ zrw0 (I a) p 32) I' ∧ zF2 I I' := by
  have w : zW L 98 0 (zent 98 [.ref 436, .ref a, .int (Int32.ofNat p)]) [] (N, U, I, J, R) (fun o k => o = .inl none ∧ ∃ I' : zI, k = (N, U, I', J, R) ∧ zMg (m ++ zrw0 (I a) p 32) I' ∧ zF2 I I') := by
    show zW L 98 0 [some (.ref 436), some (.ref a), some (.int (Int32.ofNat p)), none] [] _ _
    refine zx_c zd98_0 ?_
    refine zx_is3 zd98_1 rfl ?_
    exact zm_pd0 hR hN ha ha2 hn hp hs 32 0 I rfl (by show zMg (m ++ []) I; rw [List.append_nil]; exact hm) (zF2.refl I)
  obtain ⟨k, hr, I', rfl, hd, hf⟩ := zRet_of w
  exact ⟨I', hr, hd, hf⟩
end ZMD
