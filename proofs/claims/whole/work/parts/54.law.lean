/-! THE LAW -/
def zDq (mi pc : Nat) (x : Int32) (tg : Nat) : Bool := match decode (zcd mi) pc with
  | .ok (.tableswitch d lo hi offs, len) => (decide ((hi - lo).toNat < offs.size) && decide (0 ≤ (pc : Int) + zsw lo hi d offs x.toInt)) && decide (zjmp pc (zsw lo hi d offs x.toInt) = tg)
  | _ => false
theorem zx_sw {L mi pc tg : Nat} {lv : zLv} {st : List Value} {x : Int32} {h : zHp} {Q : zOut → zHp → Prop} (hd : zDq mi pc x tg = true) (w : zW L mi tg lv st h Q) : zW L mi pc lv (.int x :: st) h Q := by
  unfold zDq at hd
  split at hd
  next d lo hi offs len h1 =>
    rw [Bool.and_eq_true, Bool.and_eq_true, decide_eq_true_eq, decide_eq_true_eq, decide_eq_true_eq] at hd
    refine zx_st h1 rfl ?_ w
    show (if (hi - lo).toNat < offs.size ∧ 0 ≤ (pc : Int) + zsw lo hi d offs x.toInt then zn (zjmp pc (zsw lo hi d offs x.toInt)) lv st h else none) = _
    rw [if_pos hd.1, hd.2]; rfl
  next => cases hd
theorem zlc (x : Int64) : lg_cmp x x = Int32.ofNat 0 := by
  unfold lg_cmp
  rw [if_neg (show ¬ x > x from Int64.lt_irrefl), if_pos rfl]
  rfl
theorem zand31 (y : Int32) : ∃ m, m < 32 ∧ y &&& Int32.ofNat 31 = Int32.ofNat m := by
  refine ⟨y.toBitVec.toNat &&& 31, ?_, ?_⟩
  · have : y.toBitVec.toNat &&& 31 = y.toBitVec.toNat % 32 := Nat.and_two_pow_sub_one_eq_mod _ 5
    rw [this]; omega
  · apply Int32.toBitVec_inj.mp
    rw [Int32.toBitVec_and]
    show y.toBitVec &&& BitVec.ofNat 32 31 = BitVec.ofNat 32 (y.toBitVec.toNat &&& 31)
    rw [BitVec.ofNat_and, BitVec.ofNat_toNat, BitVec.setWidth_eq]
theorem zsw0 : zDq 0 39 (Int32.ofNat 0) 120 = true := by decide +kernel
theorem zsw1 : zDq 0 39 (Int32.ofNat 1) 176 = true := by decide +kernel
theorem zsw2 : zDq 0 39 (Int32.ofNat 2) 251 = true := by decide +kernel
theorem zsw3 : zDq 0 39 (Int32.ofNat 3) 264 = true := by decide +kernel
theorem zsw4 : zDq 0 39 (Int32.ofNat 4) 332 = true := by decide +kernel
theorem zsw5 : zDq 0 39 (Int32.ofNat 5) 412 = true := by decide +kernel
theorem zsw6 : zDq 0 39 (Int32.ofNat 6) 437 = true := by decide +kernel
theorem zsw7 : zDq 0 39 (Int32.ofNat 7) 450 = true := by decide +kernel
theorem zsw8 : zDq 0 39 (Int32.ofNat 8) 530 = true := by decide +kernel
theorem zsw9 : zDq 0 39 (Int32.ofNat 9) 586 = true := by decide +kernel
theorem zsw10 : zDq 0 39 (Int32.ofNat 10) 642 = true := by decide +kernel
theorem zsw11 : zDq 0 39 (Int32.ofNat 11) 722 = true := by decide +kernel
theorem zsw12 : zDq 0 39 (Int32.ofNat 12) 802 = true := by decide +kernel
theorem zsw13 : zDq 0 39 (Int32.ofNat 13) 882 = true := by decide +kernel
theorem zsw14 : zDq 0 39 (Int32.ofNat 14) 957 = true := by decide +kernel
theorem zsw15 : zDq 0 39 (Int32.ofNat 15) 1025 = true := by decide +kernel
theorem zsw16 : zDq 0 39 (Int32.ofNat 16) 1038 = true := by decide +kernel
theorem zswd : ∀ m : Fin 32, 17 ≤ m.val → zDq 0 39 (Int32.ofNat m.val) 1049 = true := by decide +kernel
section ZL
variable {L c N U i : Nat} {I : zI} {J : zJ} {R : zR} {Q : zOut → zHp → Prop} {l5 l6 : Option Value}
theorem zl_0 (hi : i + 3 < L) (hL : L ≤ 2048) (h : zInv c N I R) (kk : ∀ (c' N' U' : Nat) (I' : zI) (J' : zJ) (R' : zR) (l5 l6 : Option Value), zInv c' N' I' R' → N' ≤ N + 1 → U' ≤ U + 6 → zW L 0 1049 [some (.ref 0), some (.ref 3), some (.ref 436), some (.ref 458), some (.int (Int32.ofNat i)), l5, l6] [] (N', U', I', J', R') Q) : zW L 0 120 [some (.ref 0), some (.ref 3), some (.ref 436), some (.ref 458), some (.int (Int32.ofNat i)), l5, l6] [] (N, U, I, J, R) Q := by
  have hN := h.1.1.2.1
  obtain ⟨k, b, N1, U1, I1, I2, J1, hr, hq, ⟨z1, z2, z3⟩, z4, ⟨z5, z6⟩, z7⟩ := zS_file (L := L) (U := U) (J := J) h (I 0 (i + 1))
  have hN1 := z7.1.1.2.1
  refine zx_al1 zd0_120 ?_
  refine zx_al0 zd0_121 ?_
  refine zx_il4 zd0_122 ?_
  refine zx_c zd0_124 ?_
  first | with_reducible refine zx_addN zd0_125 ?_ | refine zx_add zd0_125 ?_
  (with_reducible refine' zx_ialdN zd0_126 ?k6 ?j6 ?_); (case k6 => exact zkk rfl (by omega)); (case j6 => omega)
  refine zx_al3 zd0_127 ?_
  refine zx_cs3I zd0_128 (hr) ?_
  refine zx_is5 zd0_131 rfl ?_
  refine zx_al2 zd0_133 ?_
  refine zx_al0 zd0_134 ?_
  refine zx_il4 zd0_135 ?_
  refine zx_c zd0_137 ?_
  first | with_reducible refine zx_addN zd0_138 ?_ | refine zx_add zd0_138 ?_
  (with_reducible refine' zx_ialdN zd0_139 ?k15 ?j15 ?_); (case k15 => exact zkk rfl (by omega)); (case j15 => omega)
  rw [z1]
  (refine zx_cv1I zd0_140 ?k16 (hq) ?_); (case k16 => exact zkk rfl (by omega))
  refine zx_is6 zd0_143 rfl ?_
  refine zx_al2 zd0_145 ?_
  (refine zx_cv0I zd0_146 ?k19 (zm_thr hN1) ?_); (case k19 => exact zkk rfl (by omega))
  rw [z2]
  refine zx_il5 zd0_149 ?_
  first | ((with_reducible refine zx_icmpeqN zd0_151 ?s21 (fun h1 => ?_) (fun h1 => ?_)); (case s21 => omega)) | refine zx_icmpeq zd0_151 (fun h1 => ?_) (fun h1 => ?_)
  · refine zx_il5 zd0_156 ?_
    first | ((with_reducible refine zx_ifneN zd0_158 ?s23 (fun h3 => ?_) (fun h3 => ?_)); (case s23 => omega)) | refine zx_ifne zd0_158 (fun h3 => ?_) (fun h3 => ?_)
    · refine zx_goto zd0_173 ?_
      exact kk c N1 U1 I2 J1 R _ _ z7 z5 z6
    · have z8 : J1 458 0 = b.toInt64 := z4 h3
      refine zx_al3 zd0_161 ?_
      refine zx_c zd0_162 ?_
      (with_reducible refine' zx_laldN zd0_163 ?k27 ?j27 ?_); (case k27 => exact zkk rfl (by omega)); (case j27 => omega)
      refine zx_il6 zd0_164 ?_
      refine zx_i2l zd0_166 ?_
      refine zx_lcmp zd0_167 ?_
      rw [z8, zlc]
      first | ((with_reducible refine zx_ifeqN zd0_168 ?s31 (fun h4 => ?_) (fun h4 => ?_)); (case s31 => omega)) | refine zx_ifeq zd0_168 (fun h4 => ?_) (fun h4 => ?_)
      · refine zx_goto zd0_173 ?_
        exact kk c N1 U1 I2 J1 R _ _ z7 z5 z6
      · omega
  · omega
theorem zl_1 (hi : i + 3 < L) (hL : L ≤ 2048) (h : zInv c N I R) (kk : ∀ (c' N' U' : Nat) (I' : zI) (J' : zJ) (R' : zR) (l5 l6 : Option Value), zInv c' N' I' R' → N' ≤ N + 1 → U' ≤ U + 6 → zW L 0 1049 [some (.ref 0), some (.ref 3), some (.ref 436), some (.ref 458), some (.int (Int32.ofNat i)), l5, l6] [] (N', U', I', J', R') Q) : zW L 0 176 [some (.ref 0), some (.ref 3), some (.ref 436), some (.ref 458), some (.int (Int32.ofNat i)), l5, l6] [] (N, U, I, J, R) Q := by
  have hN := h.1.1.2.1
  obtain ⟨k, b, N1, U1, I1, I2, J1, hr, hq, ⟨z1, z2, z3⟩, z4, ⟨z5, z6⟩, z7⟩ := zS_byte (L := L) (U := U) (J := J) h (I 0 (i + 1)) (I 0 (i + 2))
  have hN1 := z7.1.1.2.1
  refine zx_al1 zd0_176 ?_
  refine zx_al0 zd0_177 ?_
  refine zx_il4 zd0_178 ?_
  refine zx_c zd0_180 ?_
  first | with_reducible refine zx_addN zd0_181 ?_ | refine zx_add zd0_181 ?_
  (with_reducible refine' zx_ialdN zd0_182 ?k38 ?j38 ?_); (case k38 => exact zkk rfl (by omega)); (case j38 => omega)
  refine zx_al0 zd0_183 ?_
  refine zx_il4 zd0_184 ?_
  refine zx_c zd0_186 ?_
  first | with_reducible refine zx_addN zd0_187 ?_ | refine zx_add zd0_187 ?_
  (with_reducible refine' zx_ialdN zd0_188 ?k43 ?j43 ?_); (case k43 => exact zkk rfl (by omega)); (case j43 => omega)
  refine zx_al3 zd0_189 ?_
  refine zx_cs4I zd0_190 (hr) ?_
  refine zx_is5 zd0_193 rfl ?_
  refine zx_al2 zd0_195 ?_
  refine zx_al0 zd0_196 ?_
  refine zx_il4 zd0_197 ?_
  refine zx_c zd0_199 ?_
  first | with_reducible refine zx_addN zd0_200 ?_ | refine zx_add zd0_200 ?_
  (with_reducible refine' zx_ialdN zd0_201 ?k52 ?j52 ?_); (case k52 => exact zkk rfl (by omega)); (case j52 => omega)
  rw [z1]
  refine zx_al0 zd0_202 ?_
  refine zx_il4 zd0_203 ?_
  refine zx_c zd0_205 ?_
  first | with_reducible refine zx_addN zd0_206 ?_ | refine zx_add zd0_206 ?_
  (with_reducible refine' zx_ialdN zd0_207 ?k57 ?j57 ?_); (case k57 => exact zkk rfl (by omega)); (case j57 => omega)
  rw [z1]
  (refine zx_cv2I zd0_208 ?k58 (hq) ?_); (case k58 => exact zkk rfl (by omega))
  refine zx_is6 zd0_211 rfl ?_
  refine zx_al2 zd0_213 ?_
  (refine zx_cv0I zd0_214 ?k61 (zm_thr hN1) ?_); (case k61 => exact zkk rfl (by omega))
  rw [z2]
  refine zx_il5 zd0_217 ?_
  first | ((with_reducible refine zx_icmpeqN zd0_219 ?s63 (fun h1 => ?_) (fun h1 => ?_)); (case s63 => omega)) | refine zx_icmpeq zd0_219 (fun h1 => ?_) (fun h1 => ?_)
  · refine zx_il5 zd0_224 ?_
    first | ((with_reducible refine zx_ifneN zd0_226 ?s65 (fun h3 => ?_) (fun h3 => ?_)); (case s65 => omega)) | refine zx_ifne zd0_226 (fun h3 => ?_) (fun h3 => ?_)
    · refine zx_goto zd0_248 ?_
      exact kk c N1 U1 I2 J1 R _ _ z7 z5 z6
    · rcases z4 h3 with ⟨e8, z8⟩ | ⟨e8, z8⟩
      · subst e8
        refine zx_al3 zd0_229 ?_
        refine zx_c zd0_230 ?_
        (with_reducible refine' zx_laldN zd0_231 ?k69 ?j69 ?_); (case k69 => exact zkk rfl (by omega)); (case j69 => omega)
        refine zx_il6 zd0_232 ?_
        first | ((with_reducible refine zx_ifeqN zd0_234 ?s71 (fun h4 => ?_) (fun h4 => ?_)); (case s71 => omega)) | refine zx_ifeq zd0_234 (fun h4 => ?_) (fun h4 => ?_)
        · refine zx_C zd0_241 ?_
          refine zx_lcmp zd0_242 ?_
          rw [z8, zlc]
          first | ((with_reducible refine zx_ifeqN zd0_243 ?s74 (fun h5 => ?_) (fun h5 => ?_)); (case s74 => omega)) | refine zx_ifeq zd0_243 (fun h5 => ?_) (fun h5 => ?_)
          · refine zx_goto zd0_248 ?_
            exact kk c N1 U1 I2 J1 R _ _ z7 z5 z6
          · omega
        · omega
      · subst e8
        refine zx_al3 zd0_229 ?_
        refine zx_c zd0_230 ?_
        (with_reducible refine' zx_laldN zd0_231 ?k78 ?j78 ?_); (case k78 => exact zkk rfl (by omega)); (case j78 => omega)
        refine zx_il6 zd0_232 ?_
        first | ((with_reducible refine zx_ifeqN zd0_234 ?s80 (fun h4 => ?_) (fun h4 => ?_)); (case s80 => omega)) | refine zx_ifeq zd0_234 (fun h4 => ?_) (fun h4 => ?_)
        · omega
        · refine zx_C zd0_237 ?_
          refine zx_goto zd0_238 ?_
          refine zx_lcmp zd0_242 ?_
          rw [z8, zlc]
          first | ((with_reducible refine zx_ifeqN zd0_243 ?s84 (fun h5 => ?_) (fun h5 => ?_)); (case s84 => omega)) | refine zx_ifeq zd0_243 (fun h5 => ?_) (fun h5 => ?_)
          · refine zx_goto zd0_248 ?_
            exact kk c N1 U1 I2 J1 R _ _ z7 z5 z6
          · omega
  · omega
theorem zl_3 (hi : i + 3 < L) (hL : L ≤ 2048) (h : zInv c N I R) (kk : ∀ (c' N' U' : Nat) (I' : zI) (J' : zJ) (R' : zR) (l5 l6 : Option Value), zInv c' N' I' R' → N' ≤ N + 1 → U' ≤ U + 6 → zW L 0 1049 [some (.ref 0), some (.ref 3), some (.ref 436), some (.ref 458), some (.int (Int32.ofNat i)), l5, l6] [] (N', U', I', J', R') Q) : zW L 0 264 [some (.ref 0), some (.ref 3), some (.ref 436), some (.ref 458), some (.int (Int32.ofNat i)), l5, l6] [] (N, U, I, J, R) Q := by
  have hN := h.1.1.2.1
  obtain ⟨k, b, N1, U1, I1, I2, J1, hr, hq, ⟨z1, z2, z3⟩, z4, ⟨z5, z6⟩, z7⟩ := zS_root (L := L) (U := U) (J := J) h (I 0 (i + 1)) (I 0 (i + 2))
  have hN1 := z7.1.1.2.1
  refine zx_al1 zd0_264 ?_
  refine zx_al0 zd0_265 ?_
  refine zx_il4 zd0_266 ?_
  refine zx_c zd0_268 ?_
  first | with_reducible refine zx_addN zd0_269 ?_ | refine zx_add zd0_269 ?_
  (with_reducible refine' zx_ialdN zd0_270 ?k91 ?j91 ?_); (case k91 => exact zkk rfl (by omega)); (case j91 => omega)
  refine zx_al0 zd0_271 ?_
  refine zx_il4 zd0_272 ?_
  refine zx_c zd0_274 ?_
  first | with_reducible refine zx_addN zd0_275 ?_ | refine zx_add zd0_275 ?_
  (with_reducible refine' zx_ialdN zd0_276 ?k96 ?j96 ?_); (case k96 => exact zkk rfl (by omega)); (case j96 => omega)
  refine zx_al3 zd0_277 ?_
  refine zx_cs4I zd0_278 (hr) ?_
  refine zx_is5 zd0_281 rfl ?_
  refine zx_al2 zd0_283 ?_
  refine zx_al0 zd0_284 ?_
  refine zx_il4 zd0_285 ?_
  refine zx_c zd0_287 ?_
  first | with_reducible refine zx_addN zd0_288 ?_ | refine zx_add zd0_288 ?_
  (with_reducible refine' zx_ialdN zd0_289 ?k105 ?j105 ?_); (case k105 => exact zkk rfl (by omega)); (case j105 => omega)
  rw [z1]
  refine zx_al0 zd0_290 ?_
  refine zx_il4 zd0_291 ?_
  refine zx_c zd0_293 ?_
  first | with_reducible refine zx_addN zd0_294 ?_ | refine zx_add zd0_294 ?_
  (with_reducible refine' zx_ialdN zd0_295 ?k110 ?j110 ?_); (case k110 => exact zkk rfl (by omega)); (case j110 => omega)
  rw [z1]
  (refine zx_cv2I zd0_296 ?k111 (hq) ?_); (case k111 => exact zkk rfl (by omega))
  refine zx_is6 zd0_299 rfl ?_
  refine zx_al2 zd0_301 ?_
  (refine zx_cv0I zd0_302 ?k114 (zm_thr hN1) ?_); (case k114 => exact zkk rfl (by omega))
  rw [z2]
  refine zx_il5 zd0_305 ?_
  first | ((with_reducible refine zx_icmpeqN zd0_307 ?s116 (fun h1 => ?_) (fun h1 => ?_)); (case s116 => omega)) | refine zx_icmpeq zd0_307 (fun h1 => ?_) (fun h1 => ?_)
  · refine zx_il5 zd0_312 ?_
    first | ((with_reducible refine zx_ifneN zd0_314 ?s118 (fun h3 => ?_) (fun h3 => ?_)); (case s118 => omega)) | refine zx_ifne zd0_314 (fun h3 => ?_) (fun h3 => ?_)
    · refine zx_goto zd0_329 ?_
      exact kk c N1 U1 I2 J1 R _ _ z7 z5 z6
    · have z8 : J1 458 0 = b.toInt64 := z4 h3
      refine zx_al3 zd0_317 ?_
      refine zx_c zd0_318 ?_
      (with_reducible refine' zx_laldN zd0_319 ?k122 ?j122 ?_); (case k122 => exact zkk rfl (by omega)); (case j122 => omega)
      refine zx_il6 zd0_320 ?_
      refine zx_i2l zd0_322 ?_
      refine zx_lcmp zd0_323 ?_
      rw [z8, zlc]
      first | ((with_reducible refine zx_ifeqN zd0_324 ?s126 (fun h4 => ?_) (fun h4 => ?_)); (case s126 => omega)) | refine zx_ifeq zd0_324 (fun h4 => ?_) (fun h4 => ?_)
      · refine zx_goto zd0_329 ?_
        exact kk c N1 U1 I2 J1 R _ _ z7 z5 z6
      · omega
  · omega
theorem zl_4 (hi : i + 3 < L) (hL : L ≤ 2048) (h : zInv c N I R) (kk : ∀ (c' N' U' : Nat) (I' : zI) (J' : zJ) (R' : zR) (l5 l6 : Option Value), zInv c' N' I' R' → N' ≤ N + 1 → U' ≤ U + 6 → zW L 0 1049 [some (.ref 0), some (.ref 3), some (.ref 436), some (.ref 458), some (.int (Int32.ofNat i)), l5, l6] [] (N', U', I', J', R') Q) : zW L 0 332 [some (.ref 0), some (.ref 3), some (.ref 436), some (.ref 458), some (.int (Int32.ofNat i)), l5, l6] [] (N, U, I, J, R) Q := by
  have hN := h.1.1.2.1
  obtain ⟨k, b, N1, U1, I1, I2, J1, hr, hq, ⟨z1, z2, z3⟩, z4, ⟨z5, z6⟩, z7⟩ := zS_proof (L := L) (U := U) (J := J) h (I 0 (i + 1)) (I 0 (i + 2)) (I 0 (i + 3))
  have hN1 := z7.1.1.2.1
  refine zx_al1 zd0_332 ?_
  refine zx_al0 zd0_333 ?_
  refine zx_il4 zd0_334 ?_
  refine zx_c zd0_336 ?_
  first | with_reducible refine zx_addN zd0_337 ?_ | refine zx_add zd0_337 ?_
  (with_reducible refine' zx_ialdN zd0_338 ?k133 ?j133 ?_); (case k133 => exact zkk rfl (by omega)); (case j133 => omega)
  refine zx_al0 zd0_339 ?_
  refine zx_il4 zd0_340 ?_
  refine zx_c zd0_342 ?_
  first | with_reducible refine zx_addN zd0_343 ?_ | refine zx_add zd0_343 ?_
  (with_reducible refine' zx_ialdN zd0_344 ?k138 ?j138 ?_); (case k138 => exact zkk rfl (by omega)); (case j138 => omega)
  refine zx_al0 zd0_345 ?_
  refine zx_il4 zd0_346 ?_
  refine zx_c zd0_348 ?_
  first | with_reducible refine zx_addN zd0_349 ?_ | refine zx_add zd0_349 ?_
  (with_reducible refine' zx_ialdN zd0_350 ?k143 ?j143 ?_); (case k143 => exact zkk rfl (by omega)); (case j143 => omega)
  refine zx_al3 zd0_351 ?_
  refine zx_cs5I zd0_352 (hr) ?_
  refine zx_is5 zd0_355 rfl ?_
  refine zx_al2 zd0_357 ?_
  refine zx_al0 zd0_358 ?_
  refine zx_il4 zd0_359 ?_
  refine zx_c zd0_361 ?_
  first | with_reducible refine zx_addN zd0_362 ?_ | refine zx_add zd0_362 ?_
  (with_reducible refine' zx_ialdN zd0_363 ?k152 ?j152 ?_); (case k152 => exact zkk rfl (by omega)); (case j152 => omega)
  rw [z1]
  refine zx_al0 zd0_364 ?_
  refine zx_il4 zd0_365 ?_
  refine zx_c zd0_367 ?_
  first | with_reducible refine zx_addN zd0_368 ?_ | refine zx_add zd0_368 ?_
  (with_reducible refine' zx_ialdN zd0_369 ?k157 ?j157 ?_); (case k157 => exact zkk rfl (by omega)); (case j157 => omega)
  rw [z1]
  refine zx_al0 zd0_370 ?_
  refine zx_il4 zd0_371 ?_
  refine zx_c zd0_373 ?_
  first | with_reducible refine zx_addN zd0_374 ?_ | refine zx_add zd0_374 ?_
  (with_reducible refine' zx_ialdN zd0_375 ?k162 ?j162 ?_); (case k162 => exact zkk rfl (by omega)); (case j162 => omega)
  rw [z1]
  (refine zx_cv3I zd0_376 ?k163 (hq) ?_); (case k163 => exact zkk rfl (by omega))
  refine zx_is6 zd0_379 rfl ?_
  refine zx_al2 zd0_381 ?_
  (refine zx_cv0I zd0_382 ?k166 (zm_thr hN1) ?_); (case k166 => exact zkk rfl (by omega))
  rw [z2]
  refine zx_il5 zd0_385 ?_
  first | ((with_reducible refine zx_icmpeqN zd0_387 ?s168 (fun h1 => ?_) (fun h1 => ?_)); (case s168 => omega)) | refine zx_icmpeq zd0_387 (fun h1 => ?_) (fun h1 => ?_)
  · refine zx_il5 zd0_392 ?_
    first | ((with_reducible refine zx_ifneN zd0_394 ?s170 (fun h3 => ?_) (fun h3 => ?_)); (case s170 => omega)) | refine zx_ifne zd0_394 (fun h3 => ?_) (fun h3 => ?_)
    · refine zx_goto zd0_409 ?_
      exact kk c N1 U1 I2 J1 R _ _ z7 z5 z6
    · have z8 : J1 458 0 = b.toInt64 := z4 h3
      refine zx_al3 zd0_397 ?_
      refine zx_c zd0_398 ?_
      (with_reducible refine' zx_laldN zd0_399 ?k174 ?j174 ?_); (case k174 => exact zkk rfl (by omega)); (case j174 => omega)
      refine zx_il6 zd0_400 ?_
      refine zx_i2l zd0_402 ?_
      refine zx_lcmp zd0_403 ?_
      rw [z8, zlc]
      first | ((with_reducible refine zx_ifeqN zd0_404 ?s178 (fun h4 => ?_) (fun h4 => ?_)); (case s178 => omega)) | refine zx_ifeq zd0_404 (fun h4 => ?_) (fun h4 => ?_)
      · refine zx_goto zd0_409 ?_
        exact kk c N1 U1 I2 J1 R _ _ z7 z5 z6
      · omega
  · omega
theorem zl_7 (hi : i + 3 < L) (hL : L ≤ 2048) (h : zInv c N I R) (kk : ∀ (c' N' U' : Nat) (I' : zI) (J' : zJ) (R' : zR) (l5 l6 : Option Value), zInv c' N' I' R' → N' ≤ N + 1 → U' ≤ U + 6 → zW L 0 1049 [some (.ref 0), some (.ref 3), some (.ref 436), some (.ref 458), some (.int (Int32.ofNat i)), l5, l6] [] (N', U', I', J', R') Q) : zW L 0 450 [some (.ref 0), some (.ref 3), some (.ref 436), some (.ref 458), some (.int (Int32.ofNat i)), l5, l6] [] (N, U, I, J, R) Q := by
  have hN := h.1.1.2.1
  obtain ⟨k, b, N1, U1, I1, I2, J1, hr, hq, ⟨z1, z2, z3⟩, z4, ⟨z5, z6⟩, z7⟩ := zS_appr (L := L) (U := U) (J := J) h (I 0 (i + 1)) (I 0 (i + 2)) (I 0 (i + 3))
  have hN1 := z7.1.1.2.1
  refine zx_al1 zd0_450 ?_
  refine zx_al0 zd0_451 ?_
  refine zx_il4 zd0_452 ?_
  refine zx_c zd0_454 ?_
  first | with_reducible refine zx_addN zd0_455 ?_ | refine zx_add zd0_455 ?_
  (with_reducible refine' zx_ialdN zd0_456 ?k185 ?j185 ?_); (case k185 => exact zkk rfl (by omega)); (case j185 => omega)
  refine zx_al0 zd0_457 ?_
  refine zx_il4 zd0_458 ?_
  refine zx_c zd0_460 ?_
  first | with_reducible refine zx_addN zd0_461 ?_ | refine zx_add zd0_461 ?_
  (with_reducible refine' zx_ialdN zd0_462 ?k190 ?j190 ?_); (case k190 => exact zkk rfl (by omega)); (case j190 => omega)
  refine zx_al0 zd0_463 ?_
  refine zx_il4 zd0_464 ?_
  refine zx_c zd0_466 ?_
  first | with_reducible refine zx_addN zd0_467 ?_ | refine zx_add zd0_467 ?_
  (with_reducible refine' zx_ialdN zd0_468 ?k195 ?j195 ?_); (case k195 => exact zkk rfl (by omega)); (case j195 => omega)
  refine zx_al3 zd0_469 ?_
  refine zx_cs5I zd0_470 (hr) ?_
  refine zx_is5 zd0_473 rfl ?_
  refine zx_al2 zd0_475 ?_
  refine zx_al0 zd0_476 ?_
  refine zx_il4 zd0_477 ?_
  refine zx_c zd0_479 ?_
  first | with_reducible refine zx_addN zd0_480 ?_ | refine zx_add zd0_480 ?_
  (with_reducible refine' zx_ialdN zd0_481 ?k204 ?j204 ?_); (case k204 => exact zkk rfl (by omega)); (case j204 => omega)
  rw [z1]
  refine zx_al0 zd0_482 ?_
  refine zx_il4 zd0_483 ?_
  refine zx_c zd0_485 ?_
  first | with_reducible refine zx_addN zd0_486 ?_ | refine zx_add zd0_486 ?_
  (with_reducible refine' zx_ialdN zd0_487 ?k209 ?j209 ?_); (case k209 => exact zkk rfl (by omega)); (case j209 => omega)
  rw [z1]
  refine zx_al0 zd0_488 ?_
  refine zx_il4 zd0_489 ?_
  refine zx_c zd0_491 ?_
  first | with_reducible refine zx_addN zd0_492 ?_ | refine zx_add zd0_492 ?_
  (with_reducible refine' zx_ialdN zd0_493 ?k214 ?j214 ?_); (case k214 => exact zkk rfl (by omega)); (case j214 => omega)
  rw [z1]
  (refine zx_cv3I zd0_494 ?k215 (hq) ?_); (case k215 => exact zkk rfl (by omega))
  refine zx_is6 zd0_497 rfl ?_
  refine zx_al2 zd0_499 ?_
  (refine zx_cv0I zd0_500 ?k218 (zm_thr hN1) ?_); (case k218 => exact zkk rfl (by omega))
  rw [z2]
  refine zx_il5 zd0_503 ?_
  first | ((with_reducible refine zx_icmpeqN zd0_505 ?s220 (fun h1 => ?_) (fun h1 => ?_)); (case s220 => omega)) | refine zx_icmpeq zd0_505 (fun h1 => ?_) (fun h1 => ?_)
  · refine zx_il5 zd0_510 ?_
    first | ((with_reducible refine zx_ifneN zd0_512 ?s222 (fun h3 => ?_) (fun h3 => ?_)); (case s222 => omega)) | refine zx_ifne zd0_512 (fun h3 => ?_) (fun h3 => ?_)
    · refine zx_goto zd0_527 ?_
      exact kk c N1 U1 I2 J1 R _ _ z7 z5 z6
    · have z8 : J1 458 0 = b.toInt64 := z4 h3
      refine zx_al3 zd0_515 ?_
      refine zx_c zd0_516 ?_
      (with_reducible refine' zx_laldN zd0_517 ?k226 ?j226 ?_); (case k226 => exact zkk rfl (by omega)); (case j226 => omega)
      refine zx_il6 zd0_518 ?_
      refine zx_i2l zd0_520 ?_
      refine zx_lcmp zd0_521 ?_
      rw [z8, zlc]
      first | ((with_reducible refine zx_ifeqN zd0_522 ?s230 (fun h4 => ?_) (fun h4 => ?_)); (case s230 => omega)) | refine zx_ifeq zd0_522 (fun h4 => ?_) (fun h4 => ?_)
      · refine zx_goto zd0_527 ?_
        exact kk c N1 U1 I2 J1 R _ _ z7 z5 z6
      · omega
  · omega
theorem zl_8 (hi : i + 3 < L) (hL : L ≤ 2048) (h : zInv c N I R) (kk : ∀ (c' N' U' : Nat) (I' : zI) (J' : zJ) (R' : zR) (l5 l6 : Option Value), zInv c' N' I' R' → N' ≤ N + 1 → U' ≤ U + 6 → zW L 0 1049 [some (.ref 0), some (.ref 3), some (.ref 436), some (.ref 458), some (.int (Int32.ofNat i)), l5, l6] [] (N', U', I', J', R') Q) : zW L 0 530 [some (.ref 0), some (.ref 3), some (.ref 436), some (.ref 458), some (.int (Int32.ofNat i)), l5, l6] [] (N, U, I, J, R) Q := by
  have hN := h.1.1.2.1
  obtain ⟨k, b, N1, U1, I1, I2, J1, hr, hq, ⟨z1, z2, z3⟩, z4, ⟨z5, z6⟩, z7⟩ := zS_wdr (L := L) (U := U) (J := J) h (I 0 (i + 1))
  have hN1 := z7.1.1.2.1
  refine zx_al1 zd0_530 ?_
  refine zx_al0 zd0_531 ?_
  refine zx_il4 zd0_532 ?_
  refine zx_c zd0_534 ?_
  first | with_reducible refine zx_addN zd0_535 ?_ | refine zx_add zd0_535 ?_
  (with_reducible refine' zx_ialdN zd0_536 ?k237 ?j237 ?_); (case k237 => exact zkk rfl (by omega)); (case j237 => omega)
  refine zx_al3 zd0_537 ?_
  refine zx_cs3I zd0_538 (hr) ?_
  refine zx_is5 zd0_541 rfl ?_
  refine zx_al2 zd0_543 ?_
  refine zx_al0 zd0_544 ?_
  refine zx_il4 zd0_545 ?_
  refine zx_c zd0_547 ?_
  first | with_reducible refine zx_addN zd0_548 ?_ | refine zx_add zd0_548 ?_
  (with_reducible refine' zx_ialdN zd0_549 ?k246 ?j246 ?_); (case k246 => exact zkk rfl (by omega)); (case j246 => omega)
  rw [z1]
  (refine zx_cv1I zd0_550 ?k247 (hq) ?_); (case k247 => exact zkk rfl (by omega))
  refine zx_is6 zd0_553 rfl ?_
  refine zx_al2 zd0_555 ?_
  (refine zx_cv0I zd0_556 ?k250 (zm_thr hN1) ?_); (case k250 => exact zkk rfl (by omega))
  rw [z2]
  refine zx_il5 zd0_559 ?_
  first | ((with_reducible refine zx_icmpeqN zd0_561 ?s252 (fun h1 => ?_) (fun h1 => ?_)); (case s252 => omega)) | refine zx_icmpeq zd0_561 (fun h1 => ?_) (fun h1 => ?_)
  · refine zx_il5 zd0_566 ?_
    first | ((with_reducible refine zx_ifneN zd0_568 ?s254 (fun h3 => ?_) (fun h3 => ?_)); (case s254 => omega)) | refine zx_ifne zd0_568 (fun h3 => ?_) (fun h3 => ?_)
    · refine zx_goto zd0_583 ?_
      exact kk c N1 U1 I2 J1 R _ _ z7 z5 z6
    · have z8 : J1 458 0 = b.toInt64 := z4 h3
      refine zx_al3 zd0_571 ?_
      refine zx_c zd0_572 ?_
      (with_reducible refine' zx_laldN zd0_573 ?k258 ?j258 ?_); (case k258 => exact zkk rfl (by omega)); (case j258 => omega)
      refine zx_il6 zd0_574 ?_
      refine zx_i2l zd0_576 ?_
      refine zx_lcmp zd0_577 ?_
      rw [z8, zlc]
      first | ((with_reducible refine zx_ifeqN zd0_578 ?s262 (fun h4 => ?_) (fun h4 => ?_)); (case s262 => omega)) | refine zx_ifeq zd0_578 (fun h4 => ?_) (fun h4 => ?_)
      · refine zx_goto zd0_583 ?_
        exact kk c N1 U1 I2 J1 R _ _ z7 z5 z6
      · omega
  · omega
theorem zl_9 (hi : i + 3 < L) (hL : L ≤ 2048) (h : zInv c N I R) (kk : ∀ (c' N' U' : Nat) (I' : zI) (J' : zJ) (R' : zR) (l5 l6 : Option Value), zInv c' N' I' R' → N' ≤ N + 1 → U' ≤ U + 6 → zW L 0 1049 [some (.ref 0), some (.ref 3), some (.ref 436), some (.ref 458), some (.int (Int32.ofNat i)), l5, l6] [] (N', U', I', J', R') Q) : zW L 0 586 [some (.ref 0), some (.ref 3), some (.ref 436), some (.ref 458), some (.int (Int32.ofNat i)), l5, l6] [] (N, U, I, J, R) Q := by
  have hN := h.1.1.2.1
  obtain ⟨k, b, N1, U1, I1, I2, J1, hr, hq, ⟨z1, z2, z3⟩, z4, ⟨z5, z6⟩, z7⟩ := zS_ser (L := L) (U := U) (J := J) h (I 0 (i + 1))
  have hN1 := z7.1.1.2.1
  refine zx_al1 zd0_586 ?_
  refine zx_al0 zd0_587 ?_
  refine zx_il4 zd0_588 ?_
  refine zx_c zd0_590 ?_
  first | with_reducible refine zx_addN zd0_591 ?_ | refine zx_add zd0_591 ?_
  (with_reducible refine' zx_ialdN zd0_592 ?k269 ?j269 ?_); (case k269 => exact zkk rfl (by omega)); (case j269 => omega)
  refine zx_al3 zd0_593 ?_
  refine zx_cs3I zd0_594 (hr) ?_
  refine zx_is5 zd0_597 rfl ?_
  refine zx_al2 zd0_599 ?_
  refine zx_al0 zd0_600 ?_
  refine zx_il4 zd0_601 ?_
  refine zx_c zd0_603 ?_
  first | with_reducible refine zx_addN zd0_604 ?_ | refine zx_add zd0_604 ?_
  (with_reducible refine' zx_ialdN zd0_605 ?k278 ?j278 ?_); (case k278 => exact zkk rfl (by omega)); (case j278 => omega)
  rw [z1]
  (refine zx_cv1I zd0_606 ?k279 (hq) ?_); (case k279 => exact zkk rfl (by omega))
  refine zx_is6 zd0_609 rfl ?_
  refine zx_al2 zd0_611 ?_
  (refine zx_cv0I zd0_612 ?k282 (zm_thr hN1) ?_); (case k282 => exact zkk rfl (by omega))
  rw [z2]
  refine zx_il5 zd0_615 ?_
  first | ((with_reducible refine zx_icmpeqN zd0_617 ?s284 (fun h1 => ?_) (fun h1 => ?_)); (case s284 => omega)) | refine zx_icmpeq zd0_617 (fun h1 => ?_) (fun h1 => ?_)
  · refine zx_il5 zd0_622 ?_
    first | ((with_reducible refine zx_ifneN zd0_624 ?s286 (fun h3 => ?_) (fun h3 => ?_)); (case s286 => omega)) | refine zx_ifne zd0_624 (fun h3 => ?_) (fun h3 => ?_)
    · refine zx_goto zd0_639 ?_
      exact kk c N1 U1 I2 J1 R _ _ z7 z5 z6
    · have z8 : J1 458 0 = b.toInt64 := z4 h3
      refine zx_al3 zd0_627 ?_
      refine zx_c zd0_628 ?_
      (with_reducible refine' zx_laldN zd0_629 ?k290 ?j290 ?_); (case k290 => exact zkk rfl (by omega)); (case j290 => omega)
      refine zx_il6 zd0_630 ?_
      refine zx_i2l zd0_632 ?_
      refine zx_lcmp zd0_633 ?_
      rw [z8, zlc]
      first | ((with_reducible refine zx_ifeqN zd0_634 ?s294 (fun h4 => ?_) (fun h4 => ?_)); (case s294 => omega)) | refine zx_ifeq zd0_634 (fun h4 => ?_) (fun h4 => ?_)
      · refine zx_goto zd0_639 ?_
        exact kk c N1 U1 I2 J1 R _ _ z7 z5 z6
      · omega
  · omega
theorem zl_10 (hi : i + 3 < L) (hL : L ≤ 2048) (h : zInv c N I R) (kk : ∀ (c' N' U' : Nat) (I' : zI) (J' : zJ) (R' : zR) (l5 l6 : Option Value), zInv c' N' I' R' → N' ≤ N + 1 → U' ≤ U + 6 → zW L 0 1049 [some (.ref 0), some (.ref 3), some (.ref 436), some (.ref 458), some (.int (Int32.ofNat i)), l5, l6] [] (N', U', I', J', R') Q) : zW L 0 642 [some (.ref 0), some (.ref 3), some (.ref 436), some (.ref 458), some (.int (Int32.ofNat i)), l5, l6] [] (N, U, I, J, R) Q := by
  have hN := h.1.1.2.1
  obtain ⟨k, b, N1, U1, I1, I2, J1, hr, hq, ⟨z1, z2, z3⟩, z4, ⟨z5, z6⟩, z7⟩ := zS_hist (L := L) (U := U) (J := J) h (I 0 (i + 1)) (I 0 (i + 2)) (I 0 (i + 3))
  have hN1 := z7.1.1.2.1
  refine zx_al1 zd0_642 ?_
  refine zx_al0 zd0_643 ?_
  refine zx_il4 zd0_644 ?_
  refine zx_c zd0_646 ?_
  first | with_reducible refine zx_addN zd0_647 ?_ | refine zx_add zd0_647 ?_
  (with_reducible refine' zx_ialdN zd0_648 ?k301 ?j301 ?_); (case k301 => exact zkk rfl (by omega)); (case j301 => omega)
  refine zx_al0 zd0_649 ?_
  refine zx_il4 zd0_650 ?_
  refine zx_c zd0_652 ?_
  first | with_reducible refine zx_addN zd0_653 ?_ | refine zx_add zd0_653 ?_
  (with_reducible refine' zx_ialdN zd0_654 ?k306 ?j306 ?_); (case k306 => exact zkk rfl (by omega)); (case j306 => omega)
  refine zx_al0 zd0_655 ?_
  refine zx_il4 zd0_656 ?_
  refine zx_c zd0_658 ?_
  first | with_reducible refine zx_addN zd0_659 ?_ | refine zx_add zd0_659 ?_
  (with_reducible refine' zx_ialdN zd0_660 ?k311 ?j311 ?_); (case k311 => exact zkk rfl (by omega)); (case j311 => omega)
  refine zx_al3 zd0_661 ?_
  refine zx_cs5I zd0_662 (hr) ?_
  refine zx_is5 zd0_665 rfl ?_
  refine zx_al2 zd0_667 ?_
  refine zx_al0 zd0_668 ?_
  refine zx_il4 zd0_669 ?_
  refine zx_c zd0_671 ?_
  first | with_reducible refine zx_addN zd0_672 ?_ | refine zx_add zd0_672 ?_
  (with_reducible refine' zx_ialdN zd0_673 ?k320 ?j320 ?_); (case k320 => exact zkk rfl (by omega)); (case j320 => omega)
  rw [z1]
  refine zx_al0 zd0_674 ?_
  refine zx_il4 zd0_675 ?_
  refine zx_c zd0_677 ?_
  first | with_reducible refine zx_addN zd0_678 ?_ | refine zx_add zd0_678 ?_
  (with_reducible refine' zx_ialdN zd0_679 ?k325 ?j325 ?_); (case k325 => exact zkk rfl (by omega)); (case j325 => omega)
  rw [z1]
  refine zx_al0 zd0_680 ?_
  refine zx_il4 zd0_681 ?_
  refine zx_c zd0_683 ?_
  first | with_reducible refine zx_addN zd0_684 ?_ | refine zx_add zd0_684 ?_
  (with_reducible refine' zx_ialdN zd0_685 ?k330 ?j330 ?_); (case k330 => exact zkk rfl (by omega)); (case j330 => omega)
  rw [z1]
  (refine zx_cv3I zd0_686 ?k331 (hq) ?_); (case k331 => exact zkk rfl (by omega))
  refine zx_is6 zd0_689 rfl ?_
  refine zx_al2 zd0_691 ?_
  (refine zx_cv0I zd0_692 ?k334 (zm_thr hN1) ?_); (case k334 => exact zkk rfl (by omega))
  rw [z2]
  refine zx_il5 zd0_695 ?_
  first | ((with_reducible refine zx_icmpeqN zd0_697 ?s336 (fun h1 => ?_) (fun h1 => ?_)); (case s336 => omega)) | refine zx_icmpeq zd0_697 (fun h1 => ?_) (fun h1 => ?_)
  · refine zx_il5 zd0_702 ?_
    first | ((with_reducible refine zx_ifneN zd0_704 ?s338 (fun h3 => ?_) (fun h3 => ?_)); (case s338 => omega)) | refine zx_ifne zd0_704 (fun h3 => ?_) (fun h3 => ?_)
    · refine zx_goto zd0_719 ?_
      exact kk c N1 U1 I2 J1 R _ _ z7 z5 z6
    · have z8 : J1 458 0 = b.toInt64 := z4 h3
      refine zx_al3 zd0_707 ?_
      refine zx_c zd0_708 ?_
      (with_reducible refine' zx_laldN zd0_709 ?k342 ?j342 ?_); (case k342 => exact zkk rfl (by omega)); (case j342 => omega)
      refine zx_il6 zd0_710 ?_
      refine zx_i2l zd0_712 ?_
      refine zx_lcmp zd0_713 ?_
      rw [z8, zlc]
      first | ((with_reducible refine zx_ifeqN zd0_714 ?s346 (fun h4 => ?_) (fun h4 => ?_)); (case s346 => omega)) | refine zx_ifeq zd0_714 (fun h4 => ?_) (fun h4 => ?_)
      · refine zx_goto zd0_719 ?_
        exact kk c N1 U1 I2 J1 R _ _ z7 z5 z6
      · omega
  · omega
theorem zl_11 (hi : i + 3 < L) (hL : L ≤ 2048) (h : zInv c N I R) (kk : ∀ (c' N' U' : Nat) (I' : zI) (J' : zJ) (R' : zR) (l5 l6 : Option Value), zInv c' N' I' R' → N' ≤ N + 1 → U' ≤ U + 6 → zW L 0 1049 [some (.ref 0), some (.ref 3), some (.ref 436), some (.ref 458), some (.int (Int32.ofNat i)), l5, l6] [] (N', U', I', J', R') Q) : zW L 0 722 [some (.ref 0), some (.ref 3), some (.ref 436), some (.ref 458), some (.int (Int32.ofNat i)), l5, l6] [] (N, U, I, J, R) Q := by
  have hN := h.1.1.2.1
  obtain ⟨k, b, N1, U1, I1, I2, J1, hr, hq, ⟨z1, z2, z3⟩, z4, ⟨z5, z6⟩, z7⟩ := zS_dig (L := L) (U := U) (J := J) h (I 0 (i + 1)) (I 0 (i + 2)) (I 0 (i + 3))
  have hN1 := z7.1.1.2.1
  refine zx_al1 zd0_722 ?_
  refine zx_al0 zd0_723 ?_
  refine zx_il4 zd0_724 ?_
  refine zx_c zd0_726 ?_
  first | with_reducible refine zx_addN zd0_727 ?_ | refine zx_add zd0_727 ?_
  (with_reducible refine' zx_ialdN zd0_728 ?k353 ?j353 ?_); (case k353 => exact zkk rfl (by omega)); (case j353 => omega)
  refine zx_al0 zd0_729 ?_
  refine zx_il4 zd0_730 ?_
  refine zx_c zd0_732 ?_
  first | with_reducible refine zx_addN zd0_733 ?_ | refine zx_add zd0_733 ?_
  (with_reducible refine' zx_ialdN zd0_734 ?k358 ?j358 ?_); (case k358 => exact zkk rfl (by omega)); (case j358 => omega)
  refine zx_al0 zd0_735 ?_
  refine zx_il4 zd0_736 ?_
  refine zx_c zd0_738 ?_
  first | with_reducible refine zx_addN zd0_739 ?_ | refine zx_add zd0_739 ?_
  (with_reducible refine' zx_ialdN zd0_740 ?k363 ?j363 ?_); (case k363 => exact zkk rfl (by omega)); (case j363 => omega)
  refine zx_al3 zd0_741 ?_
  refine zx_cs5I zd0_742 (hr) ?_
  refine zx_is5 zd0_745 rfl ?_
  refine zx_al2 zd0_747 ?_
  refine zx_al0 zd0_748 ?_
  refine zx_il4 zd0_749 ?_
  refine zx_c zd0_751 ?_
  first | with_reducible refine zx_addN zd0_752 ?_ | refine zx_add zd0_752 ?_
  (with_reducible refine' zx_ialdN zd0_753 ?k372 ?j372 ?_); (case k372 => exact zkk rfl (by omega)); (case j372 => omega)
  rw [z1]
  refine zx_al0 zd0_754 ?_
  refine zx_il4 zd0_755 ?_
  refine zx_c zd0_757 ?_
  first | with_reducible refine zx_addN zd0_758 ?_ | refine zx_add zd0_758 ?_
  (with_reducible refine' zx_ialdN zd0_759 ?k377 ?j377 ?_); (case k377 => exact zkk rfl (by omega)); (case j377 => omega)
  rw [z1]
  refine zx_al0 zd0_760 ?_
  refine zx_il4 zd0_761 ?_
  refine zx_c zd0_763 ?_
  first | with_reducible refine zx_addN zd0_764 ?_ | refine zx_add zd0_764 ?_
  (with_reducible refine' zx_ialdN zd0_765 ?k382 ?j382 ?_); (case k382 => exact zkk rfl (by omega)); (case j382 => omega)
  rw [z1]
  (refine zx_cv3I zd0_766 ?k383 (hq) ?_); (case k383 => exact zkk rfl (by omega))
  refine zx_is6 zd0_769 rfl ?_
  refine zx_al2 zd0_771 ?_
  (refine zx_cv0I zd0_772 ?k386 (zm_thr hN1) ?_); (case k386 => exact zkk rfl (by omega))
  rw [z2]
  refine zx_il5 zd0_775 ?_
  first | ((with_reducible refine zx_icmpeqN zd0_777 ?s388 (fun h1 => ?_) (fun h1 => ?_)); (case s388 => omega)) | refine zx_icmpeq zd0_777 (fun h1 => ?_) (fun h1 => ?_)
  · refine zx_il5 zd0_782 ?_
    first | ((with_reducible refine zx_ifneN zd0_784 ?s390 (fun h3 => ?_) (fun h3 => ?_)); (case s390 => omega)) | refine zx_ifne zd0_784 (fun h3 => ?_) (fun h3 => ?_)
    · refine zx_goto zd0_799 ?_
      exact kk c N1 U1 I2 J1 R _ _ z7 z5 z6
    · have z8 : J1 458 0 = b.toInt64 := z4 h3
      refine zx_al3 zd0_787 ?_
      refine zx_c zd0_788 ?_
      (with_reducible refine' zx_laldN zd0_789 ?k394 ?j394 ?_); (case k394 => exact zkk rfl (by omega)); (case j394 => omega)
      refine zx_il6 zd0_790 ?_
      refine zx_i2l zd0_792 ?_
      refine zx_lcmp zd0_793 ?_
      rw [z8, zlc]
      first | ((with_reducible refine zx_ifeqN zd0_794 ?s398 (fun h4 => ?_) (fun h4 => ?_)); (case s398 => omega)) | refine zx_ifeq zd0_794 (fun h4 => ?_) (fun h4 => ?_)
      · refine zx_goto zd0_799 ?_
        exact kk c N1 U1 I2 J1 R _ _ z7 z5 z6
      · omega
  · omega
theorem zl_12 (hi : i + 3 < L) (hL : L ≤ 2048) (h : zInv c N I R) (kk : ∀ (c' N' U' : Nat) (I' : zI) (J' : zJ) (R' : zR) (l5 l6 : Option Value), zInv c' N' I' R' → N' ≤ N + 1 → U' ≤ U + 6 → zW L 0 1049 [some (.ref 0), some (.ref 3), some (.ref 436), some (.ref 458), some (.int (Int32.ofNat i)), l5, l6] [] (N', U', I', J', R') Q) : zW L 0 802 [some (.ref 0), some (.ref 3), some (.ref 436), some (.ref 458), some (.int (Int32.ofNat i)), l5, l6] [] (N, U, I, J, R) Q := by
  have hN := h.1.1.2.1
  obtain ⟨k, b, N1, U1, I1, I2, J1, hr, hq, ⟨z1, z2, z3⟩, z4, ⟨z5, z6⟩, z7⟩ := zS_grow (L := L) (U := U) (J := J) h (I 0 (i + 1)) (I 0 (i + 2)) (I 0 (i + 3))
  have hN1 := z7.1.1.2.1
  refine zx_al1 zd0_802 ?_
  refine zx_al0 zd0_803 ?_
  refine zx_il4 zd0_804 ?_
  refine zx_c zd0_806 ?_
  first | with_reducible refine zx_addN zd0_807 ?_ | refine zx_add zd0_807 ?_
  (with_reducible refine' zx_ialdN zd0_808 ?k405 ?j405 ?_); (case k405 => exact zkk rfl (by omega)); (case j405 => omega)
  refine zx_al0 zd0_809 ?_
  refine zx_il4 zd0_810 ?_
  refine zx_c zd0_812 ?_
  first | with_reducible refine zx_addN zd0_813 ?_ | refine zx_add zd0_813 ?_
  (with_reducible refine' zx_ialdN zd0_814 ?k410 ?j410 ?_); (case k410 => exact zkk rfl (by omega)); (case j410 => omega)
  refine zx_al0 zd0_815 ?_
  refine zx_il4 zd0_816 ?_
  refine zx_c zd0_818 ?_
  first | with_reducible refine zx_addN zd0_819 ?_ | refine zx_add zd0_819 ?_
  (with_reducible refine' zx_ialdN zd0_820 ?k415 ?j415 ?_); (case k415 => exact zkk rfl (by omega)); (case j415 => omega)
  refine zx_al3 zd0_821 ?_
  refine zx_cs5I zd0_822 (hr) ?_
  refine zx_is5 zd0_825 rfl ?_
  refine zx_al2 zd0_827 ?_
  refine zx_al0 zd0_828 ?_
  refine zx_il4 zd0_829 ?_
  refine zx_c zd0_831 ?_
  first | with_reducible refine zx_addN zd0_832 ?_ | refine zx_add zd0_832 ?_
  (with_reducible refine' zx_ialdN zd0_833 ?k424 ?j424 ?_); (case k424 => exact zkk rfl (by omega)); (case j424 => omega)
  rw [z1]
  refine zx_al0 zd0_834 ?_
  refine zx_il4 zd0_835 ?_
  refine zx_c zd0_837 ?_
  first | with_reducible refine zx_addN zd0_838 ?_ | refine zx_add zd0_838 ?_
  (with_reducible refine' zx_ialdN zd0_839 ?k429 ?j429 ?_); (case k429 => exact zkk rfl (by omega)); (case j429 => omega)
  rw [z1]
  refine zx_al0 zd0_840 ?_
  refine zx_il4 zd0_841 ?_
  refine zx_c zd0_843 ?_
  first | with_reducible refine zx_addN zd0_844 ?_ | refine zx_add zd0_844 ?_
  (with_reducible refine' zx_ialdN zd0_845 ?k434 ?j434 ?_); (case k434 => exact zkk rfl (by omega)); (case j434 => omega)
  rw [z1]
  (refine zx_cv3I zd0_846 ?k435 (hq) ?_); (case k435 => exact zkk rfl (by omega))
  refine zx_is6 zd0_849 rfl ?_
  refine zx_al2 zd0_851 ?_
  (refine zx_cv0I zd0_852 ?k438 (zm_thr hN1) ?_); (case k438 => exact zkk rfl (by omega))
  rw [z2]
  refine zx_il5 zd0_855 ?_
  first | ((with_reducible refine zx_icmpeqN zd0_857 ?s440 (fun h1 => ?_) (fun h1 => ?_)); (case s440 => omega)) | refine zx_icmpeq zd0_857 (fun h1 => ?_) (fun h1 => ?_)
  · refine zx_il5 zd0_862 ?_
    first | ((with_reducible refine zx_ifneN zd0_864 ?s442 (fun h3 => ?_) (fun h3 => ?_)); (case s442 => omega)) | refine zx_ifne zd0_864 (fun h3 => ?_) (fun h3 => ?_)
    · refine zx_goto zd0_879 ?_
      exact kk c N1 U1 I2 J1 R _ _ z7 z5 z6
    · have z8 : J1 458 0 = b.toInt64 := z4 h3
      refine zx_al3 zd0_867 ?_
      refine zx_c zd0_868 ?_
      (with_reducible refine' zx_laldN zd0_869 ?k446 ?j446 ?_); (case k446 => exact zkk rfl (by omega)); (case j446 => omega)
      refine zx_il6 zd0_870 ?_
      refine zx_i2l zd0_872 ?_
      refine zx_lcmp zd0_873 ?_
      rw [z8, zlc]
      first | ((with_reducible refine zx_ifeqN zd0_874 ?s450 (fun h4 => ?_) (fun h4 => ?_)); (case s450 => omega)) | refine zx_ifeq zd0_874 (fun h4 => ?_) (fun h4 => ?_)
      · refine zx_goto zd0_879 ?_
        exact kk c N1 U1 I2 J1 R _ _ z7 z5 z6
      · omega
  · omega
theorem zl_13 (hi : i + 3 < L) (hL : L ≤ 2048) (h : zInv c N I R) (kk : ∀ (c' N' U' : Nat) (I' : zI) (J' : zJ) (R' : zR) (l5 l6 : Option Value), zInv c' N' I' R' → N' ≤ N + 1 → U' ≤ U + 6 → zW L 0 1049 [some (.ref 0), some (.ref 3), some (.ref 436), some (.ref 458), some (.int (Int32.ofNat i)), l5, l6] [] (N', U', I', J', R') Q) : zW L 0 882 [some (.ref 0), some (.ref 3), some (.ref 436), some (.ref 458), some (.int (Int32.ofNat i)), l5, l6] [] (N, U, I, J, R) Q := by
  have hN := h.1.1.2.1
  obtain ⟨k, b, N1, U1, I1, I2, J1, hr, hq, ⟨z1, z2, z3⟩, z4, ⟨z5, z6⟩, z7⟩ := zS_poke (L := L) (U := U) (J := J) h (I 0 (i + 1)) (I 0 (i + 2))
  have hN1 := z7.1.1.2.1
  refine zx_al1 zd0_882 ?_
  refine zx_al0 zd0_883 ?_
  refine zx_il4 zd0_884 ?_
  refine zx_c zd0_886 ?_
  first | with_reducible refine zx_addN zd0_887 ?_ | refine zx_add zd0_887 ?_
  (with_reducible refine' zx_ialdN zd0_888 ?k457 ?j457 ?_); (case k457 => exact zkk rfl (by omega)); (case j457 => omega)
  refine zx_al0 zd0_889 ?_
  refine zx_il4 zd0_890 ?_
  refine zx_c zd0_892 ?_
  first | with_reducible refine zx_addN zd0_893 ?_ | refine zx_add zd0_893 ?_
  (with_reducible refine' zx_ialdN zd0_894 ?k462 ?j462 ?_); (case k462 => exact zkk rfl (by omega)); (case j462 => omega)
  refine zx_al3 zd0_895 ?_
  refine zx_cs4I zd0_896 (hr) ?_
  refine zx_is5 zd0_899 rfl ?_
  refine zx_al2 zd0_901 ?_
  refine zx_al0 zd0_902 ?_
  refine zx_il4 zd0_903 ?_
  refine zx_c zd0_905 ?_
  first | with_reducible refine zx_addN zd0_906 ?_ | refine zx_add zd0_906 ?_
  (with_reducible refine' zx_ialdN zd0_907 ?k471 ?j471 ?_); (case k471 => exact zkk rfl (by omega)); (case j471 => omega)
  rw [z1]
  refine zx_al0 zd0_908 ?_
  refine zx_il4 zd0_909 ?_
  refine zx_c zd0_911 ?_
  first | with_reducible refine zx_addN zd0_912 ?_ | refine zx_add zd0_912 ?_
  (with_reducible refine' zx_ialdN zd0_913 ?k476 ?j476 ?_); (case k476 => exact zkk rfl (by omega)); (case j476 => omega)
  rw [z1]
  (refine zx_cv2I zd0_914 ?k477 (hq) ?_); (case k477 => exact zkk rfl (by omega))
  refine zx_is6 zd0_917 rfl ?_
  refine zx_al2 zd0_919 ?_
  (refine zx_cv0I zd0_920 ?k480 (zm_thr hN1) ?_); (case k480 => exact zkk rfl (by omega))
  rw [z2]
  refine zx_il5 zd0_923 ?_
  first | ((with_reducible refine zx_icmpeqN zd0_925 ?s482 (fun h1 => ?_) (fun h1 => ?_)); (case s482 => omega)) | refine zx_icmpeq zd0_925 (fun h1 => ?_) (fun h1 => ?_)
  · refine zx_il5 zd0_930 ?_
    first | ((with_reducible refine zx_ifneN zd0_932 ?s484 (fun h3 => ?_) (fun h3 => ?_)); (case s484 => omega)) | refine zx_ifne zd0_932 (fun h3 => ?_) (fun h3 => ?_)
    · refine zx_goto zd0_954 ?_
      exact kk c N1 U1 I2 J1 R _ _ z7 z5 z6
    · rcases z4 h3 with ⟨e8, z8⟩ | ⟨e8, z8⟩
      · subst e8
        refine zx_al3 zd0_935 ?_
        refine zx_c zd0_936 ?_
        (with_reducible refine' zx_laldN zd0_937 ?k488 ?j488 ?_); (case k488 => exact zkk rfl (by omega)); (case j488 => omega)
        refine zx_il6 zd0_938 ?_
        first | ((with_reducible refine zx_ifeqN zd0_940 ?s490 (fun h4 => ?_) (fun h4 => ?_)); (case s490 => omega)) | refine zx_ifeq zd0_940 (fun h4 => ?_) (fun h4 => ?_)
        · refine zx_C zd0_947 ?_
          refine zx_lcmp zd0_948 ?_
          rw [z8, zlc]
          first | ((with_reducible refine zx_ifeqN zd0_949 ?s493 (fun h5 => ?_) (fun h5 => ?_)); (case s493 => omega)) | refine zx_ifeq zd0_949 (fun h5 => ?_) (fun h5 => ?_)
          · refine zx_goto zd0_954 ?_
            exact kk c N1 U1 I2 J1 R _ _ z7 z5 z6
          · omega
        · omega
      · subst e8
        refine zx_al3 zd0_935 ?_
        refine zx_c zd0_936 ?_
        (with_reducible refine' zx_laldN zd0_937 ?k497 ?j497 ?_); (case k497 => exact zkk rfl (by omega)); (case j497 => omega)
        refine zx_il6 zd0_938 ?_
        first | ((with_reducible refine zx_ifeqN zd0_940 ?s499 (fun h4 => ?_) (fun h4 => ?_)); (case s499 => omega)) | refine zx_ifeq zd0_940 (fun h4 => ?_) (fun h4 => ?_)
        · omega
        · refine zx_C zd0_943 ?_
          refine zx_goto zd0_944 ?_
          refine zx_lcmp zd0_948 ?_
          rw [z8, zlc]
          first | ((with_reducible refine zx_ifeqN zd0_949 ?s503 (fun h5 => ?_) (fun h5 => ?_)); (case s503 => omega)) | refine zx_ifeq zd0_949 (fun h5 => ?_) (fun h5 => ?_)
          · refine zx_goto zd0_954 ?_
            exact kk c N1 U1 I2 J1 R _ _ z7 z5 z6
          · omega
  · omega
theorem zl_14 (hi : i + 3 < L) (hL : L ≤ 2048) (h : zInv c N I R) (kk : ∀ (c' N' U' : Nat) (I' : zI) (J' : zJ) (R' : zR) (l5 l6 : Option Value), zInv c' N' I' R' → N' ≤ N + 1 → U' ≤ U + 6 → zW L 0 1049 [some (.ref 0), some (.ref 3), some (.ref 436), some (.ref 458), some (.int (Int32.ofNat i)), l5, l6] [] (N', U', I', J', R') Q) : zW L 0 957 [some (.ref 0), some (.ref 3), some (.ref 436), some (.ref 458), some (.int (Int32.ofNat i)), l5, l6] [] (N, U, I, J, R) Q := by
  have hN := h.1.1.2.1
  obtain ⟨k, b, N1, U1, I1, I2, J1, hr, hq, ⟨z1, z2, z3⟩, z4, ⟨z5, z6⟩, z7⟩ := zS_chg (L := L) (U := U) (J := J) h (I 0 (i + 1)) (I 0 (i + 2))
  have hN1 := z7.1.1.2.1
  refine zx_al1 zd0_957 ?_
  refine zx_al0 zd0_958 ?_
  refine zx_il4 zd0_959 ?_
  refine zx_c zd0_961 ?_
  first | with_reducible refine zx_addN zd0_962 ?_ | refine zx_add zd0_962 ?_
  (with_reducible refine' zx_ialdN zd0_963 ?k510 ?j510 ?_); (case k510 => exact zkk rfl (by omega)); (case j510 => omega)
  refine zx_al0 zd0_964 ?_
  refine zx_il4 zd0_965 ?_
  refine zx_c zd0_967 ?_
  first | with_reducible refine zx_addN zd0_968 ?_ | refine zx_add zd0_968 ?_
  (with_reducible refine' zx_ialdN zd0_969 ?k515 ?j515 ?_); (case k515 => exact zkk rfl (by omega)); (case j515 => omega)
  refine zx_al3 zd0_970 ?_
  refine zx_cs4I zd0_971 (hr) ?_
  refine zx_is5 zd0_974 rfl ?_
  refine zx_al2 zd0_976 ?_
  refine zx_al0 zd0_977 ?_
  refine zx_il4 zd0_978 ?_
  refine zx_c zd0_980 ?_
  first | with_reducible refine zx_addN zd0_981 ?_ | refine zx_add zd0_981 ?_
  (with_reducible refine' zx_ialdN zd0_982 ?k524 ?j524 ?_); (case k524 => exact zkk rfl (by omega)); (case j524 => omega)
  rw [z1]
  refine zx_al0 zd0_983 ?_
  refine zx_il4 zd0_984 ?_
  refine zx_c zd0_986 ?_
  first | with_reducible refine zx_addN zd0_987 ?_ | refine zx_add zd0_987 ?_
  (with_reducible refine' zx_ialdN zd0_988 ?k529 ?j529 ?_); (case k529 => exact zkk rfl (by omega)); (case j529 => omega)
  rw [z1]
  (refine zx_cv2I zd0_989 ?k530 (hq) ?_); (case k530 => exact zkk rfl (by omega))
  refine zx_is6 zd0_992 rfl ?_
  refine zx_al2 zd0_994 ?_
  (refine zx_cv0I zd0_995 ?k533 (zm_thr hN1) ?_); (case k533 => exact zkk rfl (by omega))
  rw [z2]
  refine zx_il5 zd0_998 ?_
  first | ((with_reducible refine zx_icmpeqN zd0_1000 ?s535 (fun h1 => ?_) (fun h1 => ?_)); (case s535 => omega)) | refine zx_icmpeq zd0_1000 (fun h1 => ?_) (fun h1 => ?_)
  · refine zx_il5 zd0_1005 ?_
    first | ((with_reducible refine zx_ifneN zd0_1007 ?s537 (fun h3 => ?_) (fun h3 => ?_)); (case s537 => omega)) | refine zx_ifne zd0_1007 (fun h3 => ?_) (fun h3 => ?_)
    · refine zx_goto zd0_1022 ?_
      exact kk c N1 U1 I2 J1 R _ _ z7 z5 z6
    · have z8 : J1 458 0 = b.toInt64 := z4 h3
      refine zx_al3 zd0_1010 ?_
      refine zx_c zd0_1011 ?_
      (with_reducible refine' zx_laldN zd0_1012 ?k541 ?j541 ?_); (case k541 => exact zkk rfl (by omega)); (case j541 => omega)
      refine zx_il6 zd0_1013 ?_
      refine zx_i2l zd0_1015 ?_
      refine zx_lcmp zd0_1016 ?_
      rw [z8, zlc]
      first | ((with_reducible refine zx_ifeqN zd0_1017 ?s545 (fun h4 => ?_) (fun h4 => ?_)); (case s545 => omega)) | refine zx_ifeq zd0_1017 (fun h4 => ?_) (fun h4 => ?_)
      · refine zx_goto zd0_1022 ?_
        exact kk c N1 U1 I2 J1 R _ _ z7 z5 z6
      · omega
  · omega
theorem zl_2 (hi : i + 3 < L) (hL : L ≤ 2048) (h : zInv c N I R) (kk : ∀ (c' N' U' : Nat) (I' : zI) (J' : zJ) (R' : zR) (l5 l6 : Option Value), zInv c' N' I' R' → N' ≤ N + 1 → U' ≤ U + 6 → zW L 0 1049 [some (.ref 0), some (.ref 3), some (.ref 436), some (.ref 458), some (.int (Int32.ofNat i)), l5, l6] [] (N', U', I', J', R') Q) : zW L 0 251 [some (.ref 0), some (.ref 3), some (.ref 436), some (.ref 458), some (.int (Int32.ofNat i)), l5, l6] [] (N, U, I, J, R) Q := by
  have hN := h.1.1.2.1
  obtain ⟨v, c', I1, I2, R1, hr, hq, z1, z7⟩ := zS_close (L := L) (U := U) (J := J) h
  refine zx_al1 zd0_251 ?_
  (refine zx_cv0I zd0_252 ?k548 (hr) ?_); (case k548 => exact zkk rfl (by omega))
  refine zx_al2 zd0_255 ?_
  (refine zx_cv0I zd0_256 ?k550 (hq) ?_); (case k550 => exact zkk rfl (by omega))
  refine zx_icmpeq zd0_259 (fun _ => ?_) (fun e => absurd rfl e)
  exact kk c' N U I2 J R1 _ _ z7 (by omega) (by omega)
theorem zl_5 (hi : i + 3 < L) (hL : L ≤ 2048) (h : zInv c N I R) (kk : ∀ (c' N' U' : Nat) (I' : zI) (J' : zJ) (R' : zR) (l5 l6 : Option Value), zInv c' N' I' R' → N' ≤ N + 1 → U' ≤ U + 6 → zW L 0 1049 [some (.ref 0), some (.ref 3), some (.ref 436), some (.ref 458), some (.int (Int32.ofNat i)), l5, l6] [] (N', U', I', J', R') Q) : zW L 0 412 [some (.ref 0), some (.ref 3), some (.ref 436), some (.ref 458), some (.int (Int32.ofNat i)), l5, l6] [] (N, U, I, J, R) Q := by
  have hN := h.1.1.2.1
  obtain ⟨v, c', I1, I2, R1, hr, hq, z1, z7⟩ := zS_check (L := L) (U := U) (J := J) h (I 0 (i + 1))
  refine zx_al1 zd0_412 ?_
  refine zx_al0 zd0_413 ?_
  refine zx_il4 zd0_414 ?_
  refine zx_c zd0_416 ?_
  first | with_reducible refine zx_addN zd0_417 ?_ | refine zx_add zd0_417 ?_
  (with_reducible refine' zx_ialdN zd0_418 ?k556 ?j556 ?_); (case k556 => exact zkk rfl (by omega)); (case j556 => omega)
  (refine zx_cv1I zd0_419 ?k557 (hr) ?_); (case k557 => exact zkk rfl (by omega))
  refine zx_al2 zd0_422 ?_
  refine zx_al0 zd0_423 ?_
  refine zx_il4 zd0_424 ?_
  refine zx_c zd0_426 ?_
  first | with_reducible refine zx_addN zd0_427 ?_ | refine zx_add zd0_427 ?_
  (with_reducible refine' zx_ialdN zd0_428 ?k563 ?j563 ?_); (case k563 => exact zkk rfl (by omega)); (case j563 => omega)
  rw [z1]
  (refine zx_cv1I zd0_429 ?k564 (hq) ?_); (case k564 => exact zkk rfl (by omega))
  refine zx_icmpeq zd0_432 (fun _ => ?_) (fun e => absurd rfl e)
  exact kk c' N U I2 J R1 _ _ z7 (by omega) (by omega)
theorem zl_6 (hi : i + 3 < L) (hL : L ≤ 2048) (h : zInv c N I R) (kk : ∀ (c' N' U' : Nat) (I' : zI) (J' : zJ) (R' : zR) (l5 l6 : Option Value), zInv c' N' I' R' → N' ≤ N + 1 → U' ≤ U + 6 → zW L 0 1049 [some (.ref 0), some (.ref 3), some (.ref 436), some (.ref 458), some (.int (Int32.ofNat i)), l5, l6] [] (N', U', I', J', R') Q) : zW L 0 437 [some (.ref 0), some (.ref 3), some (.ref 436), some (.ref 458), some (.int (Int32.ofNat i)), l5, l6] [] (N, U, I, J, R) Q := by
  have hN := h.1.1.2.1
  obtain ⟨v, c', I1, I2, R1, hr, hq, z1, z7⟩ := zS_chkd (L := L) (U := U) (J := J) h
  refine zx_al1 zd0_437 ?_
  (refine zx_cv0I zd0_438 ?k566 (hr) ?_); (case k566 => exact zkk rfl (by omega))
  refine zx_al2 zd0_441 ?_
  (refine zx_cv0I zd0_442 ?k568 (hq) ?_); (case k568 => exact zkk rfl (by omega))
  refine zx_icmpeq zd0_445 (fun _ => ?_) (fun e => absurd rfl e)
  exact kk c' N U I2 J R1 _ _ z7 (by omega) (by omega)
theorem zl_15 (hi : i + 3 < L) (hL : L ≤ 2048) (h : zInv c N I R) (kk : ∀ (c' N' U' : Nat) (I' : zI) (J' : zJ) (R' : zR) (l5 l6 : Option Value), zInv c' N' I' R' → N' ≤ N + 1 → U' ≤ U + 6 → zW L 0 1049 [some (.ref 0), some (.ref 3), some (.ref 436), some (.ref 458), some (.int (Int32.ofNat i)), l5, l6] [] (N', U', I', J', R') Q) : zW L 0 1025 [some (.ref 0), some (.ref 3), some (.ref 436), some (.ref 458), some (.int (Int32.ofNat i)), l5, l6] [] (N, U, I, J, R) Q := by
  have hN := h.1.1.2.1
  obtain ⟨v, c', I1, I2, R1, hr, hq, z1, z7⟩ := zS_made (L := L) (U := U) (J := J) h
  refine zx_al1 zd0_1025 ?_
  (refine zx_cv0I zd0_1026 ?k570 (hr) ?_); (case k570 => exact zkk rfl (by omega))
  refine zx_al2 zd0_1029 ?_
  (refine zx_cv0I zd0_1030 ?k572 (hq) ?_); (case k572 => exact zkk rfl (by omega))
  refine zx_icmpeq zd0_1033 (fun _ => ?_) (fun e => absurd rfl e)
  exact kk c' N U I2 J R1 _ _ z7 (by omega) (by omega)
theorem zl_16 (hi : i + 3 < L) (hL : L ≤ 2048) (h : zInv c N I R) (kk : ∀ (c' N' U' : Nat) (I' : zI) (J' : zJ) (R' : zR) (l5 l6 : Option Value), zInv c' N' I' R' → N' ≤ N + 1 → U' ≤ U + 6 → zW L 0 1049 [some (.ref 0), some (.ref 3), some (.ref 436), some (.ref 458), some (.int (Int32.ofNat i)), l5, l6] [] (N', U', I', J', R') Q) : zW L 0 1038 [some (.ref 0), some (.ref 3), some (.ref 436), some (.ref 458), some (.int (Int32.ofNat i)), l5, l6] [] (N, U, I, J, R) Q := by
  have hN := h.1.1.2.1
  obtain ⟨I1, I2, hr, hq, z7⟩ := zS_clr (L := L) (U := U) (J := J) h
  refine zx_al1 zd0_1038 ?_
  (refine zx_cv0V zd0_1039 ?k574 (hr) ?_); (case k574 => exact zkk rfl (by omega))
  refine zx_al2 zd0_1042 ?_
  (refine zx_cv0V zd0_1043 ?k576 (hq) ?_); (case k576 => exact zkk rfl (by omega))
  refine zx_goto zd0_1046 ?_
  exact kk c N U I2 J R _ _ z7 (by omega) (by omega)
end ZL
theorem zl_out {L t N U : Nat} {I : zI} {J : zJ} {R : zR} {Q : zOut → zHp → Prop} {l5 l6 : Option Value} (hN : 459 ≤ N) (h4 : L < 4) (ht : t ≤ 513) (hq : Q (.inl (some (.int 1))) (N, U, I, J, R)) : zW L 0 23 [some (.ref 0), some (.ref 3), some (.ref 436), some (.ref 458), some (.int (Int32.ofNat (4 * t))), l5, l6] [] (N, U, I, J, R) Q := by
  refine zx_il4 zd0_23 ?_
  refine zx_al0 zd0_25 ?_
  (refine' zx_alen zd0_26 ?k580 ?_); (case k580 => exact zkk rfl (by omega))
  refine zx_c zd0_27 ?_
  first | ((with_reducible refine zx_subN zd0_28 ?h582 ?_); (case h582 => omega)) | refine zx_sub zd0_28 ?_
  refine zx_icmpgt zd0_29 (fun _ => ?_) (fun hc => absurd ?_ hc)
  · refine zx_c zd0_1055 ?_
    refine zx_iret zd0_1056 (Or.inr ⟨rfl, by first | exact Or.inl rfl | exact Or.inr rfl | assumption⟩) ?_
    exact hq
  · rcases (by omega : L = 0 ∨ L = 1 ∨ L = 2 ∨ L = 3) with e | e | e | e <;> subst e <;> (rw [Int32.lt_iff_toInt_lt, Int32.toInt_ofNat_of_lt (by omega)])
    · show (-4 : Int) < _; omega
    · show (-3 : Int) < _; omega
    · show (-2 : Int) < _; omega
    · show (-1 : Int) < _; omega
theorem zl_loop {L : Nat} (hL : L ≤ 2048) : ∀ (q t c N U : Nat) (I : zI) (J : zJ) (R : zR) (l5 l6 : Option Value), t + q = 513 → zInv c N I R → N ≤ 459 + t → U ≤ 60000 + 6 * t →
    zW L 0 23 [some (.ref 0), some (.ref 3), some (.ref 436), some (.ref 458), some (.int (Int32.ofNat (4 * t))), l5, l6] [] (N, U, I, J, R) (fun o h' => o = .inl (some (.int 1)) ∧ h'.1 ≤ 601027 ∧ h'.2.1 ≤ 7293034) := by
  intro q
  induction q with
  | zero =>
    intro t c N U I J R l5 l6 ht h hN2 hU2
    have hN := h.1.1.2.1
    by_cases h4 : 4 ≤ L
    · refine zx_il4 zd0_23 ?_
      refine zx_al0 zd0_25 ?_
      (refine' zx_alen zd0_26 ?k587 ?_); (case k587 => exact zkk rfl (by omega))
      refine zx_c zd0_27 ?_
      first | ((with_reducible refine zx_subN zd0_28 ?h589 ?_); (case h589 => omega)) | refine zx_sub zd0_28 ?_
      first | ((with_reducible refine zx_icmpgtN zd0_29 ?s590 (fun h5 => ?_) (fun h5 => ?_)); (case s590 => omega)) | refine zx_icmpgt zd0_29 (fun h5 => ?_) (fun h5 => ?_)
      · refine zx_c zd0_1055 ?_
        refine zx_iret zd0_1056 (Or.inr ⟨rfl, by first | exact Or.inl rfl | exact Or.inr rfl | assumption⟩) ?_
        exact ⟨rfl, by show N ≤ 601027; omega, by show U ≤ 7293034; omega⟩
      · omega
    · refine zl_out (by omega) (by omega) (by omega) ?_
      exact ⟨rfl, by show N ≤ 601027; omega, by show U ≤ 7293034; omega⟩
  | succ q ih =>
    intro t c N U I J R l5 l6 ht h hN2 hU2
    have hN := h.1.1.2.1
    by_cases h4 : 4 ≤ L
    · refine zx_il4 zd0_23 ?_
      refine zx_al0 zd0_25 ?_
      (refine' zx_alen zd0_26 ?k595 ?_); (case k595 => exact zkk rfl (by omega))
      refine zx_c zd0_27 ?_
      first | ((with_reducible refine zx_subN zd0_28 ?h597 ?_); (case h597 => omega)) | refine zx_sub zd0_28 ?_
      first | ((with_reducible refine zx_icmpgtN zd0_29 ?s598 (fun h5 => ?_) (fun h5 => ?_)); (case s598 => omega)) | refine zx_icmpgt zd0_29 (fun h5 => ?_) (fun h5 => ?_)
      · refine zx_c zd0_1055 ?_
        refine zx_iret zd0_1056 (Or.inr ⟨rfl, by first | exact Or.inl rfl | exact Or.inr rfl | assumption⟩) ?_
        exact ⟨rfl, by show N ≤ 601027; omega, by show U ≤ 7293034; omega⟩
      · refine zx_al0 zd0_32 ?_
        refine zx_il4 zd0_33 ?_
        (with_reducible refine' zx_ialdN zd0_35 ?k603 ?j603 ?_); (case k603 => exact zkk rfl (by omega)); (case j603 => omega)
        refine zx_c zd0_36 ?_
        first | with_reducible refine zx_andN zd0_38 ?_ | refine zx_and zd0_38 ?_
        obtain ⟨m, hm, em⟩ := zand31 (I 0 (4 * t))
        rw [em]
        have kk : ∀ (c' N' U' : Nat) (I' : zI) (J' : zJ) (R' : zR) (l5 l6 : Option Value), zInv c' N' I' R' → N' ≤ N + 1 → U' ≤ U + 6 → zW L 0 1049 [some (.ref 0), some (.ref 3), some (.ref 436), some (.ref 458), some (.int (Int32.ofNat (4 * t))), l5, l6] [] (N', U', I', J', R') (fun o h' => o = .inl (some (.int 1)) ∧ h'.1 ≤ 601027 ∧ h'.2.1 ≤ 7293034) := by
          intro c' N' U' I' J' R' l5 l6 h' hN' hU'
          first | with_reducible refine zx_iin4 zd0_1049 ?_ | refine zx_ii4 zd0_1049 ?_
          refine zx_goto zd0_1052 ?_
          rw [show 4 * t + 4 = 4 * (t + 1) by omega]
          exact ih (t + 1) c' N' U' I' J' R' _ _ (by omega) h' (by omega) (by omega)
        by_cases hd : 17 ≤ m
        · refine zx_sw (zswd ⟨m, hm⟩ hd) ?_
          exact kk c N U I J R _ _ h (by omega) (by omega)
        · rcases (by omega : m = 0 ∨ m = 1 ∨ m = 2 ∨ m = 3 ∨ m = 4 ∨ m = 5 ∨ m = 6 ∨ m = 7 ∨ m = 8 ∨ m = 9 ∨ m = 10 ∨ m = 11 ∨ m = 12 ∨ m = 13 ∨ m = 14 ∨ m = 15 ∨ m = 16) with e | e | e | e | e | e | e | e | e | e | e | e | e | e | e | e | e
          · subst e; exact zx_sw zsw0 (zl_0 (by omega) hL h kk)
          · subst e; exact zx_sw zsw1 (zl_1 (by omega) hL h kk)
          · subst e; exact zx_sw zsw2 (zl_2 (by omega) hL h kk)
          · subst e; exact zx_sw zsw3 (zl_3 (by omega) hL h kk)
          · subst e; exact zx_sw zsw4 (zl_4 (by omega) hL h kk)
          · subst e; exact zx_sw zsw5 (zl_5 (by omega) hL h kk)
          · subst e; exact zx_sw zsw6 (zl_6 (by omega) hL h kk)
          · subst e; exact zx_sw zsw7 (zl_7 (by omega) hL h kk)
          · subst e; exact zx_sw zsw8 (zl_8 (by omega) hL h kk)
          · subst e; exact zx_sw zsw9 (zl_9 (by omega) hL h kk)
          · subst e; exact zx_sw zsw10 (zl_10 (by omega) hL h kk)
          · subst e; exact zx_sw zsw11 (zl_11 (by omega) hL h kk)
          · subst e; exact zx_sw zsw12 (zl_12 (by omega) hL h kk)
          · subst e; exact zx_sw zsw13 (zl_13 (by omega) hL h kk)
          · subst e; exact zx_sw zsw14 (zl_14 (by omega) hL h kk)
          · subst e; exact zx_sw zsw15 (zl_15 (by omega) hL h kk)
          · subst e; exact zx_sw zsw16 (zl_16 (by omega) hL h kk)
    · refine zl_out (by omega) (by omega) (by omega) ?_
      exact ⟨rfl, by show N ≤ 601027; omega, by show U ≤ 7293034; omega⟩
theorem zlaw (L : Nat) (xs : Nat → Int32) (hL : L ≤ 2048) : zLaw L xs := by
  unfold zLaw
  refine zk_law (fun U I J R hU hS => ?_)
  refine zx_c zd0_20 ?_
  refine zx_is4 zd0_21 rfl ?_
  exact zl_loop hL 513 0 0 459 U I J R none none rfl (zInv_0 hS) (by omega) (by omega)
theorem i_vc : Claimed_1_1 ∧ Claimed_1_2 := ztop zlaw
