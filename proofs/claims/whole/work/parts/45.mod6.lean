/-! THE REFERENCE: holds, checked -/
section ZM6
variable {L N U : Nat} {I : zI} {J : zJ} {R : zR} {c : Nat} {Q : zOut → zHp → Prop}
/-- the check's bytes in the reference -/
def zBm (I : zI) (q : Nat) (b : Nat → Nat) : Prop := I 436 17 = Int32.ofNat q ∧ q ≤ 300 ∧ ∀ i, i < q → I 450 i = Int32.ofNat (b i) ∧ b i < 256
/-- a step of holds -/
theorem zm_hos (hR : zRs R) (hN : 459 ≤ N) {I0 : zI} {p m : Nat} {cur : Nat → Int32} (hp : p + 33 ≤ 300) (hpm : I0 450 p = Int32.ofNat m) (hm6 : m < 256) (hK : ∀ j, j < 64 → I0 437 j = zKr j) {l1 l2 : Option Value}
    (kk : ∀ (I' : zI) (l4 : Option Value), (∀ j, j < 32 → I' 449 j = zcstp (I0 450) p cur j) → zMg [] I' → zFg I0 I' → zW L 112 156 [some (.ref 436), l1, l2, some (.int (Int32.ofNat (p + 33))), l4] [] (N, U, I', J, R) Q)
    (I' : zI) (l4 : Option Value) (hm : zMg [] I') (hf : zFg I0 I') (hcur : ∀ j, j < 32 → I' 449 j = cur j) : zW L 112 184 [some (.ref 436), l1, l2, some (.int (Int32.ofNat p)), l4] [] (N, U, I', J, R) Q := by
  refine zx_al0 zd112_184 ?_
  refine zx_c zd112_185 ?_
  obtain ⟨I1, hr1, hm1, hf1⟩ := zs_mput2 (L := L) (U := U) (J := J) hR hN hm (by decide) (Int32.ofNat 1)
  (refine zx_cv1V zd112_186 ?k3 (hr1) ?_); (case k3 => first | exact zkk rfl (by omega) | exact zkk (zK_B0 (by omega)) (by omega) | exact zkk ((zK_B (by omega) (by decide)).trans rfl) (by omega) | exact zkk (zK_row (by omega) (by omega)) (by omega) | exact zkk (zK_file (by omega) (by omega)) (by omega) | exact zkk (zK_byte (by omega) (by omega)) (by omega) | exact zkk (zK_list (by omega)) (by omega) | assumption)
  refine zx_al0 zd112_189 ?_
  (refine' zx_gfA zd112_190 ?k5 ?r5 ?_); (case k5 => first | exact zkk rfl (by omega) | exact zkk (zK_B0 (by omega)) (by omega) | exact zkk ((zK_B (by omega) (by decide)).trans rfl) (by omega) | exact zkk (zK_row (by omega) (by omega)) (by omega) | exact zkk (zK_file (by omega) (by omega)) (by omega) | exact zkk (zK_byte (by omega) (by omega)) (by omega) | exact zkk (zK_list (by omega)) (by omega) | assumption); (case r5 => first | exact hR.1 _ _ _ rfl | assumption)
  refine zx_il3 zd112_193 ?_
  (with_reducible refine' zx_ialdN zd112_194 ?k7 ?j7 ?_); (case k7 => first | exact zkk rfl (by omega) | exact zkk (zK_B0 (by omega)) (by omega) | exact zkk ((zK_B (by omega) (by decide)).trans rfl) (by omega) | exact zkk (zK_row (by omega) (by omega)) (by omega) | exact zkk (zK_file (by omega) (by omega)) (by omega) | exact zkk (zK_byte (by omega) (by omega)) (by omega) | exact zkk (zK_list (by omega)) (by omega) | assumption); (case j7 => omega)
  have e1 : I1 450 = I0 450 := by rw [hf1.1 450 (by decide) (by decide), hf.1 450 (by decide) (by decide) (by decide)]
  rw [e1, hpm]
  have ecur : zrw0 (I' 449) 0 32 = zrw0 cur 0 32 := zrw0_congr (fun j hj => by rw [Nat.zero_add]; exact hcur j hj)
  have fin : ∀ (I3 : zI), zMg ([Int32.ofNat 1] ++ (if I0 450 p = 0 then zrw0 (I0 450) (p + 1) 32 ++ zrw0 cur 0 32 else zrw0 cur 0 32 ++ zrw0 (I0 450) (p + 1) 32)) I3 → zF2 I' I3 → zW L 112 238 [some (.ref 436), l1, l2, some (.int (Int32.ofNat p)), l4] [] (N, U, I3, J, R) Q := by
    intro I3 hm3 hf3
    refine zx_al0 zd112_238 ?_
    obtain ⟨I4, hr4, ho4, hm4, hf4⟩ := zs_mdig (L := L) (U := U) (J := J) hR hN (fun i hi => by rw [hf3.1 437 (by decide) (by decide), hf.1 437 (by decide) (by decide) (by decide)]; exact hK i hi) hm3 (by rw [List.length_append]; split <;> rw [List.length_append, zrw0_len, zrw0_len] <;> decide)
    (refine zx_cv0V zd112_239 ?k9 (hr4) ?_); (case k9 => first | exact zkk rfl (by omega) | exact zkk (zK_B0 (by omega)) (by omega) | exact zkk ((zK_B (by omega) (by decide)).trans rfl) (by omega) | exact zkk (zK_row (by omega) (by omega)) (by omega) | exact zkk (zK_file (by omega) (by omega)) (by omega) | exact zkk (zK_byte (by omega) (by omega)) (by omega) | exact zkk (zK_list (by omega)) (by omega) | assumption)
    refine zx_c zd112_242 ?_
    refine zx_is4 zd112_243 rfl ?_
    have k1 := fun kk => zm_ho3 (L := L) (U := U) (I := I4) (J := J) (Q := Q) (l1 := l1) (l2 := l2) (l3 := some (.int (Int32.ofNat p))) hR hN kk 32 0 rfl
    rw [zfill_zero, zrw_id] at k1
    refine k1 (fun l4 => ?_)
    first | with_reducible refine zx_iin3 zd112_272 ?_ | refine zx_ii3 zd112_272 ?_
    refine zx_goto zd112_275 ?_
    refine kk _ _ (fun j hj => ?_) ⟨by rw [zrw_ne _ _ (by decide)]; exact hm4.1, fun i hi => absurd hi (by simp)⟩ ((hf.trans (hf3.to.trans hf4).to).trans (zFg.row _))
    rw [zrw_at, zfill_in0 _ _ _ hj, ho4, zfill_in0 _ _ _ hj]
    rfl
  first | ((with_reducible refine zx_ifneN zd112_195 ?s14 (fun h => ?_) (fun h => ?_)); (case s14 => omega)) | refine zx_ifne zd112_195 (fun h => ?_) (fun h => ?_)
  · refine zx_al0 zd112_209 ?_
    refine zx_al0 zd112_210 ?_
    (refine' zx_gfA zd112_211 ?k17 ?r17 ?_); (case k17 => first | exact zkk rfl (by omega) | exact zkk (zK_B0 (by omega)) (by omega) | exact zkk ((zK_B (by omega) (by decide)).trans rfl) (by omega) | exact zkk (zK_row (by omega) (by omega)) (by omega) | exact zkk (zK_file (by omega) (by omega)) (by omega) | exact zkk (zK_byte (by omega) (by omega)) (by omega) | exact zkk (zK_list (by omega)) (by omega) | assumption); (case r17 => first | exact hR.1 _ _ _ rfl | assumption)
    refine zx_c zd112_214 ?_
    obtain ⟨I2, hr2, hm2, hf2⟩ := zs_mpd (L := L) (U := U) (J := J) hR hN (a := 449) (n := 256) (p := 0) (zkk rfl (by omega)) (by decide) (by decide) (by omega) hm1 (by decide)
    (refine zx_cv2V zd112_215 ?k19 (hr2) ?_); (case k19 => first | exact zkk rfl (by omega) | exact zkk (zK_B0 (by omega)) (by omega) | exact zkk ((zK_B (by omega) (by decide)).trans rfl) (by omega) | exact zkk (zK_row (by omega) (by omega)) (by omega) | exact zkk (zK_file (by omega) (by omega)) (by omega) | exact zkk (zK_byte (by omega) (by omega)) (by omega) | exact zkk (zK_list (by omega)) (by omega) | assumption)
    refine zx_al0 zd112_218 ?_
    (refine' zx_gfA zd112_219 ?k21 ?r21 ?_); (case k21 => first | exact zkk rfl (by omega) | exact zkk (zK_B0 (by omega)) (by omega) | exact zkk ((zK_B (by omega) (by decide)).trans rfl) (by omega) | exact zkk (zK_row (by omega) (by omega)) (by omega) | exact zkk (zK_file (by omega) (by omega)) (by omega) | exact zkk (zK_byte (by omega) (by omega)) (by omega) | exact zkk (zK_list (by omega)) (by omega) | assumption); (case r21 => first | exact hR.1 _ _ _ rfl | assumption)
    refine zx_il3 zd112_222 ?_
    (with_reducible refine' zx_ialdN zd112_223 ?k23 ?j23 ?_); (case k23 => first | exact zkk rfl (by omega) | exact zkk (zK_B0 (by omega)) (by omega) | exact zkk ((zK_B (by omega) (by decide)).trans rfl) (by omega) | exact zkk (zK_row (by omega) (by omega)) (by omega) | exact zkk (zK_file (by omega) (by omega)) (by omega) | exact zkk (zK_byte (by omega) (by omega)) (by omega) | exact zkk (zK_list (by omega)) (by omega) | assumption); (case j23 => omega)
    have e2 : I2 450 = I0 450 := by rw [hf2.1 450 (by decide) (by decide), e1]
    rw [e2, hpm]
    first | ((with_reducible refine zx_ifeqN zd112_224 ?s24 (fun h2 => ?_) (fun h2 => ?_)); (case s24 => omega)) | refine zx_ifeq zd112_224 (fun h2 => ?_) (fun h2 => ?_)
    · omega
    · refine zx_al0 zd112_227 ?_
      refine zx_al0 zd112_228 ?_
      (refine' zx_gfA zd112_229 ?k27 ?r27 ?_); (case k27 => first | exact zkk rfl (by omega) | exact zkk (zK_B0 (by omega)) (by omega) | exact zkk ((zK_B (by omega) (by decide)).trans rfl) (by omega) | exact zkk (zK_row (by omega) (by omega)) (by omega) | exact zkk (zK_file (by omega) (by omega)) (by omega) | exact zkk (zK_byte (by omega) (by omega)) (by omega) | exact zkk (zK_list (by omega)) (by omega) | assumption); (case r27 => first | exact hR.1 _ _ _ rfl | assumption)
      refine zx_il3 zd112_232 ?_
      refine zx_c zd112_233 ?_
      first | with_reducible refine zx_addN zd112_234 ?_ | refine zx_add zd112_234 ?_
      obtain ⟨I3, hr3, hm3, hf3⟩ := zs_mpd (L := L) (U := U) (J := J) hR hN (a := 450) (n := 300) (p := p + 1) (zkk rfl (by omega)) (by decide) (by decide) (by omega) hm2 (by rw [List.length_append, zrw0_len]; decide)
      (refine zx_cv2V zd112_235 ?k31 (hr3) ?_); (case k31 => first | exact zkk rfl (by omega) | exact zkk (zK_B0 (by omega)) (by omega) | exact zkk ((zK_B (by omega) (by decide)).trans rfl) (by omega) | exact zkk (zK_row (by omega) (by omega)) (by omega) | exact zkk (zK_file (by omega) (by omega)) (by omega) | exact zkk (zK_byte (by omega) (by omega)) (by omega) | exact zkk (zK_list (by omega)) (by omega) | assumption)
      refine fin I3 ?_ ((hf1.trans hf2).trans hf3)
      have e0 : ¬ I0 450 p = 0 := by
        rw [hpm]; intro e
        have e' : Int32.ofNat m = Int32.ofNat 0 := e
        have := (zn_inj (by omega) (by decide)).mp e'
        omega
      rw [if_neg e0, ← List.append_assoc, ← ecur]
      rw [e2, hf1.1 449 (by decide) (by decide)] at hm3
      exact hm3
  · refine zx_al0 zd112_198 ?_
    refine zx_al0 zd112_199 ?_
    (refine' zx_gfA zd112_200 ?k34 ?r34 ?_); (case k34 => first | exact zkk rfl (by omega) | exact zkk (zK_B0 (by omega)) (by omega) | exact zkk ((zK_B (by omega) (by decide)).trans rfl) (by omega) | exact zkk (zK_row (by omega) (by omega)) (by omega) | exact zkk (zK_file (by omega) (by omega)) (by omega) | exact zkk (zK_byte (by omega) (by omega)) (by omega) | exact zkk (zK_list (by omega)) (by omega) | assumption); (case r34 => first | exact hR.1 _ _ _ rfl | assumption)
    refine zx_il3 zd112_203 ?_
    refine zx_c zd112_204 ?_
    first | with_reducible refine zx_addN zd112_205 ?_ | refine zx_add zd112_205 ?_
    obtain ⟨I2, hr2, hm2, hf2⟩ := zs_mpd (L := L) (U := U) (J := J) hR hN (a := 450) (n := 300) (p := p + 1) (zkk rfl (by omega)) (by decide) (by decide) (by omega) hm1 (by decide)
    (refine zx_cv2V zd112_206 ?k38 (hr2) ?_); (case k38 => first | exact zkk rfl (by omega) | exact zkk (zK_B0 (by omega)) (by omega) | exact zkk ((zK_B (by omega) (by decide)).trans rfl) (by omega) | exact zkk (zK_row (by omega) (by omega)) (by omega) | exact zkk (zK_file (by omega) (by omega)) (by omega) | exact zkk (zK_byte (by omega) (by omega)) (by omega) | exact zkk (zK_list (by omega)) (by omega) | assumption)
    refine zx_al0 zd112_209 ?_
    refine zx_al0 zd112_210 ?_
    (refine' zx_gfA zd112_211 ?k41 ?r41 ?_); (case k41 => first | exact zkk rfl (by omega) | exact zkk (zK_B0 (by omega)) (by omega) | exact zkk ((zK_B (by omega) (by decide)).trans rfl) (by omega) | exact zkk (zK_row (by omega) (by omega)) (by omega) | exact zkk (zK_file (by omega) (by omega)) (by omega) | exact zkk (zK_byte (by omega) (by omega)) (by omega) | exact zkk (zK_list (by omega)) (by omega) | assumption); (case r41 => first | exact hR.1 _ _ _ rfl | assumption)
    refine zx_c zd112_214 ?_
    obtain ⟨I3, hr3, hm3, hf3⟩ := zs_mpd (L := L) (U := U) (J := J) hR hN (a := 449) (n := 256) (p := 0) (zkk rfl (by omega)) (by decide) (by decide) (by omega) hm2 (by rw [List.length_append, zrw0_len]; decide)
    (refine zx_cv2V zd112_215 ?k43 (hr3) ?_); (case k43 => first | exact zkk rfl (by omega) | exact zkk (zK_B0 (by omega)) (by omega) | exact zkk ((zK_B (by omega) (by decide)).trans rfl) (by omega) | exact zkk (zK_row (by omega) (by omega)) (by omega) | exact zkk (zK_file (by omega) (by omega)) (by omega) | exact zkk (zK_byte (by omega) (by omega)) (by omega) | exact zkk (zK_list (by omega)) (by omega) | assumption)
    refine zx_al0 zd112_218 ?_
    (refine' zx_gfA zd112_219 ?k45 ?r45 ?_); (case k45 => first | exact zkk rfl (by omega) | exact zkk (zK_B0 (by omega)) (by omega) | exact zkk ((zK_B (by omega) (by decide)).trans rfl) (by omega) | exact zkk (zK_row (by omega) (by omega)) (by omega) | exact zkk (zK_file (by omega) (by omega)) (by omega) | exact zkk (zK_byte (by omega) (by omega)) (by omega) | exact zkk (zK_list (by omega)) (by omega) | assumption); (case r45 => first | exact hR.1 _ _ _ rfl | assumption)
    refine zx_il3 zd112_222 ?_
    (with_reducible refine' zx_ialdN zd112_223 ?k47 ?j47 ?_); (case k47 => first | exact zkk rfl (by omega) | exact zkk (zK_B0 (by omega)) (by omega) | exact zkk ((zK_B (by omega) (by decide)).trans rfl) (by omega) | exact zkk (zK_row (by omega) (by omega)) (by omega) | exact zkk (zK_file (by omega) (by omega)) (by omega) | exact zkk (zK_byte (by omega) (by omega)) (by omega) | exact zkk (zK_list (by omega)) (by omega) | assumption); (case j47 => omega)
    have e3 : I3 450 = I0 450 := by rw [hf3.1 450 (by decide) (by decide), hf2.1 450 (by decide) (by decide), e1]
    rw [e3, hpm]
    first | ((with_reducible refine zx_ifeqN zd112_224 ?s48 (fun h2 => ?_) (fun h2 => ?_)); (case s48 => omega)) | refine zx_ifeq zd112_224 (fun h2 => ?_) (fun h2 => ?_)
    · refine fin I3 ?_ ((hf1.trans hf2).trans hf3)
      have e0 : I0 450 p = 0 := by
        rw [hpm, show m = 0 by omega]; rfl
      rw [if_pos e0, ← List.append_assoc, ← ecur]
      rw [e1, hf2.1 449 (by decide) (by decide), hf1.1 449 (by decide) (by decide)] at hm3
      exact hm3
    · omega
/-- the steps -/
theorem zm_ho4 (hR : zRs R) (hN : 459 ≤ N) {I0 : zI} {q n S : Nat} {b : Nat → Nat} (hb : zBm I0 q b) (hn : n ≤ 64) (hS : q = 5 + n + 33 * S) (hb0 : b 0 < 10) (hK : ∀ j, j < 64 → I0 437 j = zKr j) :
    ∀ (k s : Nat) (I' : zI) (l4 : Option Value), s + k = S → zMg [] I' → zFg I0 I' → (∀ j, j < 32 → I' 449 j = zclm (I0 450) n s j) →
    zW L 112 156 [some (.ref 436), some (.int (Int32.ofNat n)), some (.int (Int32.ofNat 1)), some (.int (Int32.ofNat (5 + n + 33 * s))), l4] [] (N, U, I', J, R) (fun o h => o = .inl (some (.int (zbi (zmks b (5 + n) s k && zeqn (zclm (I0 450) n S) (fun i => I0 448 (32 * b 0 + i)) 0 32)))) ∧ ∃ I' : zI, h = (N, U, I', J, R) ∧ zMg [] I' ∧ zFg I0 I') := by
  intro k
  induction k with
  | zero =>
    intro s I' l4 hs hm hf hc
    obtain rfl : s = S := by omega
    have hq3 := hb.2.1
    refine zx_il3 zd112_156 ?_
    refine zx_al0 zd112_157 ?_
    (refine zx_gfI zd112_158 ?k51 ?_); (case k51 => first | exact zkk rfl (by omega) | exact zkk (zK_B0 (by omega)) (by omega) | exact zkk ((zK_B (by omega) (by decide)).trans rfl) (by omega) | exact zkk (zK_row (by omega) (by omega)) (by omega) | exact zkk (zK_file (by omega) (by omega)) (by omega) | exact zkk (zK_byte (by omega) (by omega)) (by omega) | exact zkk (zK_list (by omega)) (by omega) | assumption)
    rw [hf.2 17 (by decide) (by decide), hb.1]
    first | ((with_reducible refine zx_icmpgeN zd112_161 ?s52 (fun h => ?_) (fun h => ?_)); (case s52 => omega)) | refine zx_icmpge zd112_161 (fun h => ?_) (fun h => ?_)
    · refine zx_c zd112_278 ?_
      refine zx_is3 zd112_279 rfl ?_
      refine zW.mono (zm_ho5 (L := L) (U := U) (I := I') (J := J) (R := R) (b0 := b 0) hR hN (by rw [hf.1 450 (by decide) (by decide) (by decide)]; exact (hb.2.2 0 (by omega)).1) hb0 32 0 true rfl) (fun o h hq => ⟨?_, I', hq.2, hm, hf⟩)
      rw [hq.1, show zmks b (5 + n) s 0 = true from rfl]
      rw [zeqn_congr (f' := zclm (I0 450) n s) (g' := fun i => I0 448 (32 * b 0 + i)) hc (fun j hj => by rw [hf.1 448 (by decide) (by decide) (by decide)])]
    · omega
  | succ k ih =>
    intro s I' l4 hs hm hf hc
    refine zx_il3 zd112_156 ?_
    refine zx_al0 zd112_157 ?_
    (refine zx_gfI zd112_158 ?k57 ?_); (case k57 => first | exact zkk rfl (by omega) | exact zkk (zK_B0 (by omega)) (by omega) | exact zkk ((zK_B (by omega) (by decide)).trans rfl) (by omega) | exact zkk (zK_row (by omega) (by omega)) (by omega) | exact zkk (zK_file (by omega) (by omega)) (by omega) | exact zkk (zK_byte (by omega) (by omega)) (by omega) | exact zkk (zK_list (by omega)) (by omega) | assumption)
    rw [hf.2 17 (by decide) (by decide), hb.1]
    have hbs := hb.2.2 (5 + n + 33 * s) (by omega)
    have hq3 := hb.2.1
    first | ((with_reducible refine zx_icmpgeN zd112_161 ?s58 (fun h => ?_) (fun h => ?_)); (case s58 => omega)) | refine zx_icmpge zd112_161 (fun h => ?_) (fun h => ?_)
    · omega
    · refine zx_il2 zd112_164 ?_
      first | ((with_reducible refine zx_ifeqN zd112_165 ?s60 (fun h2 => ?_) (fun h2 => ?_)); (case s60 => omega)) | refine zx_ifeq zd112_165 (fun h2 => ?_) (fun h2 => ?_)
      · omega
      · refine zx_al0 zd112_168 ?_
        (refine' zx_gfA zd112_169 ?k62 ?r62 ?_); (case k62 => first | exact zkk rfl (by omega) | exact zkk (zK_B0 (by omega)) (by omega) | exact zkk ((zK_B (by omega) (by decide)).trans rfl) (by omega) | exact zkk (zK_row (by omega) (by omega)) (by omega) | exact zkk (zK_file (by omega) (by omega)) (by omega) | exact zkk (zK_byte (by omega) (by omega)) (by omega) | exact zkk (zK_list (by omega)) (by omega) | assumption); (case r62 => first | exact hR.1 _ _ _ rfl | assumption)
        refine zx_il3 zd112_172 ?_
        (with_reducible refine' zx_ialdN zd112_173 ?k64 ?j64 ?_); (case k64 => first | exact zkk rfl (by omega) | exact zkk (zK_B0 (by omega)) (by omega) | exact zkk ((zK_B (by omega) (by decide)).trans rfl) (by omega) | exact zkk (zK_row (by omega) (by omega)) (by omega) | exact zkk (zK_file (by omega) (by omega)) (by omega) | exact zkk (zK_byte (by omega) (by omega)) (by omega) | exact zkk (zK_list (by omega)) (by omega) | assumption); (case j64 => omega)
        refine zx_c zd112_174 ?_
        rw [hf.1 450 (by decide) (by decide) (by decide), hbs.1]
        first | ((with_reducible refine zx_icmpgeN zd112_175 ?s66 (fun h3 => ?_) (fun h3 => ?_)); (case s66 => omega)) | refine zx_icmpge zd112_175 (fun h3 => ?_) (fun h3 => ?_)
        · refine zx_c zd112_182 ?_
          refine zx_is2 zd112_183 rfl ?_
          have e : zmks b (5 + n) s (k + 1) = false := if_pos (by omega)
          rw [e]
          refine zm_hos (L := L) (U := U) (J := J) hR hN (I0 := I0) (p := 5 + n + 33 * s) (m := b (5 + n + 33 * s)) (cur := zclm (I0 450) n s) (by omega) hbs.1 hbs.2 hK ?_ I' _ hm hf hc
          intro I2 l4 hc2 hm2 hf2
          refine zx_il3 zd112_156 ?_
          refine zx_al0 zd112_157 ?_
          (refine zx_gfI zd112_158 ?k71 ?_); (case k71 => first | exact zkk rfl (by omega) | exact zkk (zK_B0 (by omega)) (by omega) | exact zkk ((zK_B (by omega) (by decide)).trans rfl) (by omega) | exact zkk (zK_row (by omega) (by omega)) (by omega) | exact zkk (zK_file (by omega) (by omega)) (by omega) | exact zkk (zK_byte (by omega) (by omega)) (by omega) | exact zkk (zK_list (by omega)) (by omega) | assumption)
          rw [hf2.2 17 (by decide) (by decide), hb.1]
          first | ((with_reducible refine zx_icmpgeN zd112_161 ?s72 (fun h4 => ?_) (fun h4 => ?_)); (case s72 => omega)) | refine zx_icmpge zd112_161 (fun h4 => ?_) (fun h4 => ?_)
          · refine zx_c zd112_278 ?_
            refine zx_is3 zd112_279 rfl ?_
            refine zW.mono (zm_ho5 (L := L) (U := U) (I := I2) (J := J) (R := R) (b0 := b 0) hR hN (by rw [hf2.1 450 (by decide) (by decide) (by decide)]; exact (hb.2.2 0 (by omega)).1) hb0 32 0 false rfl) (fun o h hq => ⟨?_, I2, hq.2, hm2, hf2⟩)
            rw [hq.1]
            rfl
          · refine zx_il2 zd112_164 ?_
            first | ((with_reducible refine zx_ifeqN zd112_165 ?s76 (fun h5 => ?_) (fun h5 => ?_)); (case s76 => omega)) | refine zx_ifeq zd112_165 (fun h5 => ?_) (fun h5 => ?_)
            · refine zx_c zd112_278 ?_
              refine zx_is3 zd112_279 rfl ?_
              refine zW.mono (zm_ho5 (L := L) (U := U) (I := I2) (J := J) (R := R) (b0 := b 0) hR hN (by rw [hf2.1 450 (by decide) (by decide) (by decide)]; exact (hb.2.2 0 (by omega)).1) hb0 32 0 false rfl) (fun o h hq => ⟨?_, I2, hq.2, hm2, hf2⟩)
              rw [hq.1]
              rfl
            · omega
        · refine zx_c zd112_178 ?_
          refine zx_goto zd112_179 ?_
          refine zx_is2 zd112_183 rfl ?_
          have e : zmks b (5 + n) s (k + 1) = zmks b (5 + n) (s + 1) k := if_neg (by omega)
          rw [e]
          refine zm_hos (L := L) (U := U) (J := J) hR hN (I0 := I0) (p := 5 + n + 33 * s) (m := b (5 + n + 33 * s)) (cur := zclm (I0 450) n s) (by omega) hbs.1 hbs.2 hK ?_ I' _ hm hf hc
          intro I2 l4 hc2 hm2 hf2
          rw [show 5 + n + 33 * s + 33 = 5 + n + 33 * (s + 1) by omega]
          exact ih (s + 1) I2 _ (by omega) hm2 hf2 hc2
/-- holds' answer -/
def zhol (I : zI) (c q : Nat) (b : Nat → Nat) : Bool := zwf q b && (decide (b 0 < c) && zeqn (zclm (I 450) (b 3) (b (4 + b 3))) (fun i => I 448 (32 * b 0 + i)) 0 32)
theorem zhol_wf {I : zI} {c q : Nat} {b : Nat → Nat} (h : zwf0 q b = false) : zhol I c q b = false := by
  unfold zhol zwf; rw [h, Bool.false_and, Bool.false_and]
theorem zm_holds (hR : zRs R) (hN : 459 ≤ N) (hc : I 436 8 = Int32.ofNat c) (hc10 : c ≤ 10) {q : Nat} {b : Nat → Nat} (hb : zBm I q b) (hK : ∀ j, j < 64 → I 437 j = zKr j) (hm : zMg [] I) :
    ∃ I', zRet L 112 [.ref 436] (N, U, I, J, R) (some (.int (zbi (zhol I c q b)))) (N, U, I', J, R) ∧ zMg [] I' ∧ zFg I I' := by
  have hq3 := hb.2.1
  have w0 : zW L 112 0 (zent 112 [.ref 436]) [] (N, U, I, J, R) (fun o h => o = .inl (some (.int (zbi (zhol I c q b)))) ∧ ∃ I' : zI, h = (N, U, I', J, R) ∧ zMg [] I' ∧ zFg I I') := by
    show zW L 112 0 [some (.ref 436), none, none, none, none] [] _ _
    refine zx_al0 zd112_0 ?_
    (refine zx_gfI zd112_1 ?k83 ?_); (case k83 => first | exact zkk rfl (by omega) | exact zkk (zK_B0 (by omega)) (by omega) | exact zkk ((zK_B (by omega) (by decide)).trans rfl) (by omega) | exact zkk (zK_row (by omega) (by omega)) (by omega) | exact zkk (zK_file (by omega) (by omega)) (by omega) | exact zkk (zK_byte (by omega) (by omega)) (by omega) | exact zkk (zK_list (by omega)) (by omega) | assumption)
    refine zx_c zd112_4 ?_
    rw [hb.1]
    first | ((with_reducible refine zx_icmpltN zd112_5 ?s85 (fun h => ?_) (fun h => ?_)); (case s85 => omega)) | refine zx_icmplt zd112_5 (fun h => ?_) (fun h => ?_)
    · rw [zhol_wf (by unfold zwf0; rw [decide_eq_false (show ¬ 4 + b 3 < q by omega)]; simp)]
      refine zx_c zd112_21 ?_
      refine zx_iret zd112_22 (Or.inr ⟨rfl, by first | exact Or.inl rfl | exact Or.inr rfl | assumption⟩) ?_
      exact ⟨rfl, I, rfl, hm, zFg.refl I⟩
    · have b0 := hb.2.2 0 (by omega)
      have b3 := hb.2.2 3 (by omega)
      refine zx_al0 zd112_8 ?_
      refine zx_al0 zd112_9 ?_
      (refine' zx_gfA zd112_10 ?k90 ?r90 ?_); (case k90 => first | exact zkk rfl (by omega) | exact zkk (zK_B0 (by omega)) (by omega) | exact zkk ((zK_B (by omega) (by decide)).trans rfl) (by omega) | exact zkk (zK_row (by omega) (by omega)) (by omega) | exact zkk (zK_file (by omega) (by omega)) (by omega) | exact zkk (zK_byte (by omega) (by omega)) (by omega) | exact zkk (zK_list (by omega)) (by omega) | assumption); (case r90 => first | exact hR.1 _ _ _ rfl | assumption)
      refine zx_c zd112_13 ?_
      (with_reducible refine' zx_ialdN zd112_14 ?k92 ?j92 ?_); (case k92 => first | exact zkk rfl (by omega) | exact zkk (zK_B0 (by omega)) (by omega) | exact zkk ((zK_B (by omega) (by decide)).trans rfl) (by omega) | exact zkk (zK_row (by omega) (by omega)) (by omega) | exact zkk (zK_file (by omega) (by omega)) (by omega) | exact zkk (zK_byte (by omega) (by omega)) (by omega) | exact zkk (zK_list (by omega)) (by omega) | assumption); (case j92 => omega)
      rw [b0.1]
      by_cases hbc : b 0 < c
      · (refine zx_cv1I zd112_15 ?k93 (zm_ir hN hc hc10 hbc) ?_); (case k93 => first | exact zkk rfl (by omega) | exact zkk (zK_B0 (by omega)) (by omega) | exact zkk ((zK_B (by omega) (by decide)).trans rfl) (by omega) | exact zkk (zK_row (by omega) (by omega)) (by omega) | exact zkk (zK_file (by omega) (by omega)) (by omega) | exact zkk (zK_byte (by omega) (by omega)) (by omega) | exact zkk (zK_list (by omega)) (by omega) | assumption)
        first | ((with_reducible refine zx_ifneN zd112_18 ?s94 (fun h2 => ?_) (fun h2 => ?_)); (case s94 => omega)) | refine zx_ifne zd112_18 (fun h2 => ?_) (fun h2 => ?_)
        · refine zx_al0 zd112_23 ?_
          (refine' zx_gfA zd112_24 ?k96 ?r96 ?_); (case k96 => first | exact zkk rfl (by omega) | exact zkk (zK_B0 (by omega)) (by omega) | exact zkk ((zK_B (by omega) (by decide)).trans rfl) (by omega) | exact zkk (zK_row (by omega) (by omega)) (by omega) | exact zkk (zK_file (by omega) (by omega)) (by omega) | exact zkk (zK_byte (by omega) (by omega)) (by omega) | exact zkk (zK_list (by omega)) (by omega) | assumption); (case r96 => first | exact hR.1 _ _ _ rfl | assumption)
          refine zx_c zd112_27 ?_
          (with_reducible refine' zx_ialdN zd112_28 ?k98 ?j98 ?_); (case k98 => first | exact zkk rfl (by omega) | exact zkk (zK_B0 (by omega)) (by omega) | exact zkk ((zK_B (by omega) (by decide)).trans rfl) (by omega) | exact zkk (zK_row (by omega) (by omega)) (by omega) | exact zkk (zK_file (by omega) (by omega)) (by omega) | exact zkk (zK_byte (by omega) (by omega)) (by omega) | exact zkk (zK_list (by omega)) (by omega) | assumption); (case j98 => omega)
          rw [b3.1]
          refine zx_is1 zd112_29 rfl ?_
          refine zx_il1 zd112_30 ?_
          refine zx_c zd112_31 ?_
          first | ((with_reducible refine zx_icmpgtN zd112_33 ?s102 (fun h3 => ?_) (fun h3 => ?_)); (case s102 => omega)) | refine zx_icmpgt zd112_33 (fun h3 => ?_) (fun h3 => ?_)
          · rw [zhol_wf (by unfold zwf0; rw [decide_eq_false (show ¬ b 3 ≤ 64 by omega)]; simp)]
            refine zx_c zd112_68 ?_
            refine zx_iret zd112_69 (Or.inr ⟨rfl, by first | exact Or.inl rfl | exact Or.inr rfl | assumption⟩) ?_
            exact ⟨rfl, I, rfl, hm, zFg.refl I⟩
          · refine zx_c zd112_36 ?_
            refine zx_il1 zd112_37 ?_
            first | with_reducible refine zx_addN zd112_38 ?_ | refine zx_add zd112_38 ?_
            refine zx_al0 zd112_39 ?_
            (refine zx_gfI zd112_40 ?k109 ?_); (case k109 => first | exact zkk rfl (by omega) | exact zkk (zK_B0 (by omega)) (by omega) | exact zkk ((zK_B (by omega) (by decide)).trans rfl) (by omega) | exact zkk (zK_row (by omega) (by omega)) (by omega) | exact zkk (zK_file (by omega) (by omega)) (by omega) | exact zkk (zK_byte (by omega) (by omega)) (by omega) | exact zkk (zK_list (by omega)) (by omega) | assumption)
            rw [hb.1]
            first | ((with_reducible refine zx_icmpgtN zd112_43 ?s110 (fun h4 => ?_) (fun h4 => ?_)); (case s110 => omega)) | refine zx_icmpgt zd112_43 (fun h4 => ?_) (fun h4 => ?_)
            · rw [zhol_wf (by unfold zwf0; rw [decide_eq_false (show ¬ 4 + b 3 < q by omega)]; simp)]
              refine zx_c zd112_68 ?_
              refine zx_iret zd112_69 (Or.inr ⟨rfl, by first | exact Or.inl rfl | exact Or.inr rfl | assumption⟩) ?_
              exact ⟨rfl, I, rfl, hm, zFg.refl I⟩
            · have b4 := hb.2.2 (4 + b 3) (by omega)
              refine zx_al0 zd112_46 ?_
              (refine zx_gfI zd112_47 ?k114 ?_); (case k114 => first | exact zkk rfl (by omega) | exact zkk (zK_B0 (by omega)) (by omega) | exact zkk ((zK_B (by omega) (by decide)).trans rfl) (by omega) | exact zkk (zK_row (by omega) (by omega)) (by omega) | exact zkk (zK_file (by omega) (by omega)) (by omega) | exact zkk (zK_byte (by omega) (by omega)) (by omega) | exact zkk (zK_list (by omega)) (by omega) | assumption)
              refine zx_c zd112_50 ?_
              refine zx_il1 zd112_51 ?_
              first | with_reducible refine zx_addN zd112_52 ?_ | refine zx_add zd112_52 ?_
              refine zx_c zd112_53 ?_
              refine zx_al0 zd112_55 ?_
              (refine' zx_gfA zd112_56 ?k120 ?r120 ?_); (case k120 => first | exact zkk rfl (by omega) | exact zkk (zK_B0 (by omega)) (by omega) | exact zkk ((zK_B (by omega) (by decide)).trans rfl) (by omega) | exact zkk (zK_row (by omega) (by omega)) (by omega) | exact zkk (zK_file (by omega) (by omega)) (by omega) | exact zkk (zK_byte (by omega) (by omega)) (by omega) | exact zkk (zK_list (by omega)) (by omega) | assumption); (case r120 => first | exact hR.1 _ _ _ rfl | assumption)
              refine zx_c zd112_59 ?_
              refine zx_il1 zd112_60 ?_
              first | with_reducible refine zx_addN zd112_61 ?_ | refine zx_add zd112_61 ?_
              rw [hb.1]
              (with_reducible refine' zx_ialdN zd112_62 ?k124 ?j124 ?_); (case k124 => first | exact zkk rfl (by omega) | exact zkk (zK_B0 (by omega)) (by omega) | exact zkk ((zK_B (by omega) (by decide)).trans rfl) (by omega) | exact zkk (zK_row (by omega) (by omega)) (by omega) | exact zkk (zK_file (by omega) (by omega)) (by omega) | exact zkk (zK_byte (by omega) (by omega)) (by omega) | exact zkk (zK_list (by omega)) (by omega) | assumption); (case j124 => omega)
              rw [b4.1]
              first | with_reducible refine zx_mulN zd112_63 ?_ | refine zx_mul zd112_63 ?_
              first | with_reducible refine zx_addN zd112_64 ?_ | refine zx_add zd112_64 ?_
              first | ((with_reducible refine zx_icmpeqN zd112_65 ?s127 (fun h5 => ?_) (fun h5 => ?_)); (case s127 => omega)) | refine zx_icmpeq zd112_65 (fun h5 => ?_) (fun h5 => ?_)
              · refine zx_al0 zd112_70 ?_
                refine zx_c zd112_71 ?_
                obtain ⟨I1, hr1, hm1, hf1⟩ := zs_mput2 (L := L) (U := U) (J := J) hR hN hm (by decide) (Int32.ofNat 0)
                (refine zx_cv1V zd112_72 ?k130 (hr1) ?_); (case k130 => first | exact zkk rfl (by omega) | exact zkk (zK_B0 (by omega)) (by omega) | exact zkk ((zK_B (by omega) (by decide)).trans rfl) (by omega) | exact zkk (zK_row (by omega) (by omega)) (by omega) | exact zkk (zK_file (by omega) (by omega)) (by omega) | exact zkk (zK_byte (by omega) (by omega)) (by omega) | exact zkk (zK_list (by omega)) (by omega) | assumption)
                refine zx_al0 zd112_75 ?_
                refine zx_al0 zd112_76 ?_
                (refine' zx_gfA zd112_77 ?k133 ?r133 ?_); (case k133 => first | exact zkk rfl (by omega) | exact zkk (zK_B0 (by omega)) (by omega) | exact zkk ((zK_B (by omega) (by decide)).trans rfl) (by omega) | exact zkk (zK_row (by omega) (by omega)) (by omega) | exact zkk (zK_file (by omega) (by omega)) (by omega) | exact zkk (zK_byte (by omega) (by omega)) (by omega) | exact zkk (zK_list (by omega)) (by omega) | assumption); (case r133 => first | exact hR.1 _ _ _ rfl | assumption)
                refine zx_c zd112_80 ?_
                (with_reducible refine' zx_ialdN zd112_81 ?k135 ?j135 ?_); (case k135 => first | exact zkk rfl (by omega) | exact zkk (zK_B0 (by omega)) (by omega) | exact zkk ((zK_B (by omega) (by decide)).trans rfl) (by omega) | exact zkk (zK_row (by omega) (by omega)) (by omega) | exact zkk (zK_file (by omega) (by omega)) (by omega) | exact zkk (zK_byte (by omega) (by omega)) (by omega) | exact zkk (zK_list (by omega)) (by omega) | assumption); (case j135 => omega)
                obtain ⟨I2, hr2, hm2, hf2⟩ := zs_mput2 (L := L) (U := U) (J := J) hR hN hm1 (by decide) (I1 450 1)
                (refine zx_cv1V zd112_82 ?k136 (hr2) ?_); (case k136 => first | exact zkk rfl (by omega) | exact zkk (zK_B0 (by omega)) (by omega) | exact zkk ((zK_B (by omega) (by decide)).trans rfl) (by omega) | exact zkk (zK_row (by omega) (by omega)) (by omega) | exact zkk (zK_file (by omega) (by omega)) (by omega) | exact zkk (zK_byte (by omega) (by omega)) (by omega) | exact zkk (zK_list (by omega)) (by omega) | assumption)
                refine zx_al0 zd112_85 ?_
                refine zx_al0 zd112_86 ?_
                (refine' zx_gfA zd112_87 ?k139 ?r139 ?_); (case k139 => first | exact zkk rfl (by omega) | exact zkk (zK_B0 (by omega)) (by omega) | exact zkk ((zK_B (by omega) (by decide)).trans rfl) (by omega) | exact zkk (zK_row (by omega) (by omega)) (by omega) | exact zkk (zK_file (by omega) (by omega)) (by omega) | exact zkk (zK_byte (by omega) (by omega)) (by omega) | exact zkk (zK_list (by omega)) (by omega) | assumption); (case r139 => first | exact hR.1 _ _ _ rfl | assumption)
                refine zx_c zd112_90 ?_
                (with_reducible refine' zx_ialdN zd112_91 ?k141 ?j141 ?_); (case k141 => first | exact zkk rfl (by omega) | exact zkk (zK_B0 (by omega)) (by omega) | exact zkk ((zK_B (by omega) (by decide)).trans rfl) (by omega) | exact zkk (zK_row (by omega) (by omega)) (by omega) | exact zkk (zK_file (by omega) (by omega)) (by omega) | exact zkk (zK_byte (by omega) (by omega)) (by omega) | exact zkk (zK_list (by omega)) (by omega) | assumption); (case j141 => omega)
                obtain ⟨I3, hr3, hm3, hf3⟩ := zs_mput2 (L := L) (U := U) (J := J) hR hN hm2 (by show 2 < 512; decide) (I2 450 2)
                (refine zx_cv1V zd112_92 ?k142 (hr3) ?_); (case k142 => first | exact zkk rfl (by omega) | exact zkk (zK_B0 (by omega)) (by omega) | exact zkk ((zK_B (by omega) (by decide)).trans rfl) (by omega) | exact zkk (zK_row (by omega) (by omega)) (by omega) | exact zkk (zK_file (by omega) (by omega)) (by omega) | exact zkk (zK_byte (by omega) (by omega)) (by omega) | exact zkk (zK_list (by omega)) (by omega) | assumption)
                refine zx_c zd112_95 ?_
                refine zx_is2 zd112_96 rfl ?_
                have hf13 := (hf1.trans hf2).trans hf3
                rw [hf1.1 450 (by decide) (by decide), (hf1.trans hf2).1 450 (by decide) (by decide)] at hm3
                refine zm_ho1 (L := L) (U := U) (J := J) (I0 := I) (m0 := [] ++ [Int32.ofNat 0] ++ [I 450 1] ++ [I 450 2]) hR hN rfl (n := b 3) (by omega) ?_ (b 3) 0 I3 (by omega) ?_ hf13
                · intro I4 l2 hm4 hf4
                  refine zx_al0 zd112_120 ?_
                  obtain ⟨I5, hr5, ho5, hm5, hf5⟩ := zs_mdig (L := L) (U := U) (J := J) hR hN (fun i hi => by rw [hf4.1 437 (by decide) (by decide)]; exact hK i hi) hm4 (by rw [List.length_append, zrw0_len]; show 3 + b 3 ≤ 300; omega)
                  (refine zx_cv0V zd112_121 ?k146 (hr5) ?_); (case k146 => first | exact zkk rfl (by omega) | exact zkk (zK_B0 (by omega)) (by omega) | exact zkk ((zK_B (by omega) (by decide)).trans rfl) (by omega) | exact zkk (zK_row (by omega) (by omega)) (by omega) | exact zkk (zK_file (by omega) (by omega)) (by omega) | exact zkk (zK_byte (by omega) (by omega)) (by omega) | exact zkk (zK_list (by omega)) (by omega) | assumption)
                  refine zx_c zd112_124 ?_
                  refine zx_is2 zd112_125 rfl ?_
                  have k1 := fun kk => zm_ho2 (L := L) (U := U) (I := I5) (J := J) (Q := fun o h => o = .inl (some (.int (zbi (zhol I c q b)))) ∧ ∃ I' : zI, h = (N, U, I', J, R) ∧ zMg [] I' ∧ zFg I I') (l1 := some (.int (Int32.ofNat (b 3)))) (l3 := none) (l4 := none) hR hN kk 32 0 rfl
                  rw [zfill_zero, zrw_id] at k1
                  refine k1 (fun l2 => ?_)
                  refine zx_c zd112_150 ?_
                  refine zx_is2 zd112_151 rfl ?_
                  refine zx_c zd112_152 ?_
                  refine zx_il1 zd112_153 ?_
                  first | with_reducible refine zx_addN zd112_154 ?_ | refine zx_add zd112_154 ?_
                  refine zx_is3 zd112_155 rfl ?_
                  have e : zhol I c q b = (zmks b (5 + b 3) 0 (b (4 + b 3)) && zeqn (zclm (I 450) (b 3) (b (4 + b 3))) (fun i => I 448 (32 * b 0 + i)) 0 32) := by
                    have e0 : zwf0 q b = true := by unfold zwf0; rw [decide_eq_true (show 3 < q by omega), decide_eq_true (show b 3 ≤ 64 by omega), decide_eq_true (show 4 + b 3 < q by omega), decide_eq_true (show q = 5 + b 3 + 33 * b (4 + b 3) by omega)]; rfl
                    unfold zhol zwf
                    rw [e0, decide_eq_true hbc, Bool.true_and, Bool.true_and]
                  rw [e]
                  exact zm_ho4 (L := L) (U := U) (J := J) (I0 := I) hR hN hb (n := b 3) (S := b (4 + b 3)) (by omega) (by omega) (by omega) hK (b (4 + b 3)) 0 _ _ (by omega) ⟨by rw [zrw_ne _ _ (by decide)]; exact hm5.1, fun i hi => absurd hi (by simp)⟩ (((hf4.to.trans hf5).to).trans (zFg.row _)) (fun j hj => by
                    rw [zrw_at, zfill_in0 _ _ _ hj, ho5, zfill_in0 _ _ _ hj]
                    rfl)
                · rw [show zrw0 (I 450) 4 0 = [] from rfl, List.append_nil]; exact hm3
              · rw [zhol_wf (by unfold zwf0; rw [decide_eq_false (show ¬ q = 5 + b 3 + 33 * b (4 + b 3) by omega)]; simp)]
                refine zx_c zd112_68 ?_
                refine zx_iret zd112_69 (Or.inr ⟨rfl, by first | exact Or.inl rfl | exact Or.inr rfl | assumption⟩) ?_
                exact ⟨rfl, I, rfl, hm, zFg.refl I⟩
        · omega
      · (refine zx_cv1I zd112_15 ?k157 (zm_irN hN hc (Or.inr (fun h2 => hbc ((zn_lt (by omega) (by omega)).mp h2)))) ?_); (case k157 => first | exact zkk rfl (by omega) | exact zkk (zK_B0 (by omega)) (by omega) | exact zkk ((zK_B (by omega) (by decide)).trans rfl) (by omega) | exact zkk (zK_row (by omega) (by omega)) (by omega) | exact zkk (zK_file (by omega) (by omega)) (by omega) | exact zkk (zK_byte (by omega) (by omega)) (by omega) | exact zkk (zK_list (by omega)) (by omega) | assumption)
        first | ((with_reducible refine zx_ifneN zd112_18 ?s158 (fun h2 => ?_) (fun h2 => ?_)); (case s158 => omega)) | refine zx_ifne zd112_18 (fun h2 => ?_) (fun h2 => ?_)
        · omega
        · have e : zhol I c q b = false := by unfold zhol; rw [decide_eq_false hbc, Bool.false_and, Bool.and_false]
          rw [e]
          refine zx_c zd112_21 ?_
          refine zx_iret zd112_22 (Or.inr ⟨rfl, by first | exact Or.inl rfl | exact Or.inr rfl | assumption⟩) ?_
          exact ⟨rfl, I, rfl, hm, zFg.refl I⟩
  obtain ⟨k, hr, I', rfl, hd⟩ := zRet_of w0
  exact ⟨I', hr, hd⟩
theorem zm_chk (hR : zRs R) (hN : 459 ≤ N) (hc : I 436 8 = Int32.ofNat c) (hc10 : c ≤ 10) {q : Nat} {b : Nat → Nat} (hb : zBm I q b) (hK : ∀ j, j < 64 → I 437 j = zKr j) (hm : zMg [] I) :
    ∃ I', zRet L 111 [.ref 436] (N, U, I, J, R) (some (.int (zbi (zhol I c q b)))) (N, U, I', J, R) ∧ zMg [] I' ∧ zFq (zT I 0) I' := by
  obtain ⟨I', hr, hm', hf'⟩ := zm_holds (L := L) (N := N) (U := U) (I := zT I 0) (J := J) (R := R) (c := c) (q := q) (b := b) hR hN hc hc10 hb hK hm
  refine ⟨I', ?_, hm', hf'.q⟩
  show zW L 111 0 [some (.ref 436)] [] _ _
  refine zx_al0 zd111_0 ?_
  refine zx_c zd111_1 ?_
  (refine zx_pfI zd111_2 ?k163 ?a163 ?_); (case k163 => first | exact zkk rfl (by omega) | exact zkk (zK_B0 (by omega)) (by omega) | exact zkk ((zK_B (by omega) (by decide)).trans rfl) (by omega) | exact zkk (zK_row (by omega) (by omega)) (by omega) | exact zkk (zK_file (by omega) (by omega)) (by omega) | exact zkk (zK_byte (by omega) (by omega)) (by omega) | exact zkk (zK_list (by omega)) (by omega) | assumption); (case a163 => omega)
  refine zx_al0 zd111_5 ?_
  (refine zx_cv0I zd111_6 ?k165 (hr) ?_); (case k165 => first | exact zkk rfl (by omega) | exact zkk (zK_B0 (by omega)) (by omega) | exact zkk ((zK_B (by omega) (by decide)).trans rfl) (by omega) | exact zkk (zK_row (by omega) (by omega)) (by omega) | exact zkk (zK_file (by omega) (by omega)) (by omega) | exact zkk (zK_byte (by omega) (by omega)) (by omega) | exact zkk (zK_list (by omega)) (by omega) | assumption)
  rw [show zhol (zT I 0) c q b = zhol I c q b from rfl]
  cases hz : zhol I c q b with
  | true =>
    show zW L 111 9 [some (.ref 436)] [.int (Int32.ofNat 1)] _ _
    first | ((with_reducible refine zx_ifeqN zd111_9 ?s166 (fun h => ?_) (fun h => ?_)); (case s166 => omega)) | refine zx_ifeq zd111_9 (fun h => ?_) (fun h => ?_)
    · omega
    · refine zx_c zd111_12 ?_
      refine zx_goto zd111_13 ?_
      refine zx_iret zd111_17 (Or.inl rfl) ?_
      exact ⟨rfl, rfl⟩
  | false =>
    show zW L 111 9 [some (.ref 436)] [.int (Int32.ofNat 0)] _ _
    first | ((with_reducible refine zx_ifeqN zd111_9 ?s170 (fun h => ?_) (fun h => ?_)); (case s170 => omega)) | refine zx_ifeq zd111_9 (fun h => ?_) (fun h => ?_)
    · refine zx_c zd111_16 ?_
      refine zx_iret zd111_17 (Or.inl rfl) ?_
      exact ⟨rfl, rfl⟩
    · omega
end ZM6
