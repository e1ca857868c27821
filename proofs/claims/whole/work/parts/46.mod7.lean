/-! THE REFERENCE: close -/
/-- a lower bound as nextFile gets it: what is behind the name t-1, or all -/
def zfm (t : Nat) : Int32 := if t = 0 then -1 else Int32.ofNat (t - 1)
theorem zfm_lt {t a : Nat} (ht : t ≤ 65536) (ha : a < 65536) : zfm t < Int32.ofNat a ↔ t ≤ a := by
  unfold zfm
  split
  · next h =>
    subst h
    constructor
    · intro _; omega
    · intro _
      rw [Int32.lt_iff_toInt_lt, Int32.toInt_ofNat_of_lt (by omega)]
      show (-1 : Int) < _
      omega
  · next h =>
    rw [zn_lt (by omega) (by omega)]
    omega
/-- the best among the first i -/
def zNf (nm : Nat → Nat) (t i : Nat) (o : Option Nat) : Prop := (∀ f, f < i → t ≤ nm f → o ≠ none) ∧ ∀ g, o = some g → g < i ∧ t ≤ nm g ∧ ∀ f, f < i → t ≤ nm f → nm g ≤ nm f
theorem zNf_skip {nm : Nat → Nat} {t i : Nat} {o : Option Nat} (h : zNf nm t i o) (hi : ¬ t ≤ nm i ∨ ∃ g, o = some g ∧ nm g ≤ nm i) : zNf nm t (i + 1) o := by
  refine ⟨fun f hf hn => ?_, fun g hg => ?_⟩
  · by_cases e : f = i
    · subst e
      rcases hi with hi | ⟨g, hg, _⟩
      · exact absurd hn hi
      · rw [hg]; simp
    · exact h.1 f (by omega) hn
  · obtain ⟨h1, h2, h3⟩ := h.2 g hg
    refine ⟨by omega, h2, fun f hf hn => ?_⟩
    by_cases e : f = i
    · subst e
      rcases hi with hi | ⟨g', hg', hle⟩
      · exact absurd hn hi
      · rw [hg] at hg'; cases hg'; exact hle
    · exact h3 f (by omega) hn
theorem zNf_take {nm : Nat → Nat} {t i : Nat} {o : Option Nat} (h : zNf nm t i o) (ht : t ≤ nm i) (hi : ∀ g, o = some g → nm i ≤ nm g) : zNf nm t (i + 1) (some i) := by
  refine ⟨fun f _ _ => by simp, fun g hg => ?_⟩
  cases hg
  refine ⟨by omega, ht, fun f hf hn => ?_⟩
  by_cases e : f = i
  · rw [e]; exact Nat.le_refl _
  · cases ho : o with
    | none => exact absurd ho (h.1 f (by omega) hn)
    | some g =>
      have := (h.2 g ho).2.2 f (by omega) hn
      have := hi g ho
      omega
theorem zNf_fin {s nm : Nat → Nat} {n k : Nat} (ho : zOrd s nm n) (hk : k < n) {o : Option Nat} (h : zNf nm (if k = 0 then 0 else nm (s (k - 1)) + 1) n o) : o = some (s k) := by
  have hlt : ∀ a b, a < b → b < n → nm (s a) < nm (s b) := ho.1
  have htk : (if k = 0 then 0 else nm (s (k - 1)) + 1) ≤ nm (s k) := by
    split
    · omega
    · exact hlt (k - 1) k (by omega) hk
  cases hg : o with
  | none => exact absurd hg (h.1 (s k) (ho.2.1 k hk) htk)
  | some g =>
    obtain ⟨h1, h2, h3⟩ := h.2 g hg
    obtain ⟨a, ha, rfl⟩ := ho.2.2 g h1
    have h4 := h3 (s k) (ho.2.1 k hk) htk
    have hak : ¬ k < a := fun hh => by have := hlt k a hh ha; omega
    have hka : ¬ a < k := by
      intro hh
      rw [if_neg (by omega)] at h2
      by_cases e : a = k - 1
      · rw [e] at h2; omega
      · have := hlt a (k - 1) (by omega) (by omega); omega
    rw [show a = k by omega]
section ZM7
variable {L N U : Nat} {I : zI} {J : zJ} {R : zR} {c : Nat} {Q : zOut → zHp → Prop}
theorem zm_nf0 (hR : zRs R) (hN : 459 ≤ N) {n t g0 : Nat} {nm : Nat → Nat} (hn : I 443 10 = Int32.ofNat n) (hn8 : n ≤ 8) (ht : t ≤ 65536) (hnm : ∀ f, f < n → I 444 (80 + f) = Int32.ofNat (nm f) ∧ nm f < 65536) (hfin : ∀ o, zNf nm t n o → o = some g0) :
    ∀ (k i : Nat) (o : Option Nat) (l4 : Option Value), i + k = n → zNf nm t i o → zW L 90 4 [some (.ref 436), some (.int (zfm t)), some (.int (zfi o)), some (.int (Int32.ofNat i)), l4] [] (N, U, I, J, R) (fun o h => o = .inl (some (.int (Int32.ofNat g0))) ∧ h = (N, U, I, J, R)) := by
  intro k
  induction k with
  | zero =>
    intro i o l4 hi hv
    obtain rfl : i = n := by omega
    refine zx_il3 zd90_4 ?_
    refine zx_al0 zd90_5 ?_
    (refine' zx_gfA zd90_6 ?k3 ?r3 ?_); (case k3 => first | exact zkk rfl (by omega) | exact zkk (zK_B0 (by omega)) (by omega) | exact zkk ((zK_B (by omega) (by decide)).trans rfl) (by omega) | exact zkk (zK_row (by omega) (by omega)) (by omega) | exact zkk (zK_file (by omega) (by omega)) (by omega) | exact zkk (zK_byte (by omega) (by omega)) (by omega) | exact zkk (zK_list (by omega)) (by omega) | assumption); (case r3 => first | exact hR.1 _ _ _ rfl | assumption)
    refine zx_c zd90_9 ?_
    (with_reducible refine' zx_ialdN zd90_11 ?k5 ?j5 ?_); (case k5 => first | exact zkk rfl (by omega) | exact zkk (zK_B0 (by omega)) (by omega) | exact zkk ((zK_B (by omega) (by decide)).trans rfl) (by omega) | exact zkk (zK_row (by omega) (by omega)) (by omega) | exact zkk (zK_file (by omega) (by omega)) (by omega) | exact zkk (zK_byte (by omega) (by omega)) (by omega) | exact zkk (zK_list (by omega)) (by omega) | assumption); (case j5 => omega)
    rw [hn]
    first | ((with_reducible refine zx_icmpgeN zd90_12 ?s6 (fun h => ?_) (fun h => ?_)); (case s6 => omega)) | refine zx_icmpge zd90_12 (fun h => ?_) (fun h => ?_)
    · refine zx_il2 zd90_59 ?_
      refine zx_iret zd90_60 (Or.inl rfl) ?_
      rw [hfin o hv]
      exact ⟨rfl, rfl⟩
    · omega
  | succ k ih =>
    intro i o l4 hi hv
    have hni := hnm i (by omega)
    refine zx_il3 zd90_4 ?_
    refine zx_al0 zd90_5 ?_
    (refine' zx_gfA zd90_6 ?k11 ?r11 ?_); (case k11 => first | exact zkk rfl (by omega) | exact zkk (zK_B0 (by omega)) (by omega) | exact zkk ((zK_B (by omega) (by decide)).trans rfl) (by omega) | exact zkk (zK_row (by omega) (by omega)) (by omega) | exact zkk (zK_file (by omega) (by omega)) (by omega) | exact zkk (zK_byte (by omega) (by omega)) (by omega) | exact zkk (zK_list (by omega)) (by omega) | assumption); (case r11 => first | exact hR.1 _ _ _ rfl | assumption)
    refine zx_c zd90_9 ?_
    (with_reducible refine' zx_ialdN zd90_11 ?k13 ?j13 ?_); (case k13 => first | exact zkk rfl (by omega) | exact zkk (zK_B0 (by omega)) (by omega) | exact zkk ((zK_B (by omega) (by decide)).trans rfl) (by omega) | exact zkk (zK_row (by omega) (by omega)) (by omega) | exact zkk (zK_file (by omega) (by omega)) (by omega) | exact zkk (zK_byte (by omega) (by omega)) (by omega) | exact zkk (zK_list (by omega)) (by omega) | assumption); (case j13 => omega)
    rw [hn]
    first | ((with_reducible refine zx_icmpgeN zd90_12 ?s14 (fun h => ?_) (fun h => ?_)); (case s14 => omega)) | refine zx_icmpge zd90_12 (fun h => ?_) (fun h => ?_)
    · omega
    · refine zx_al0 zd90_15 ?_
      (refine' zx_gfA zd90_16 ?k16 ?r16 ?_); (case k16 => first | exact zkk rfl (by omega) | exact zkk (zK_B0 (by omega)) (by omega) | exact zkk ((zK_B (by omega) (by decide)).trans rfl) (by omega) | exact zkk (zK_row (by omega) (by omega)) (by omega) | exact zkk (zK_file (by omega) (by omega)) (by omega) | exact zkk (zK_byte (by omega) (by omega)) (by omega) | exact zkk (zK_list (by omega)) (by omega) | assumption); (case r16 => first | exact hR.1 _ _ _ rfl | assumption)
      refine zx_c zd90_19 ?_
      refine zx_il3 zd90_21 ?_
      first | with_reducible refine zx_addN zd90_22 ?_ | refine zx_add zd90_22 ?_
      (with_reducible refine' zx_ialdN zd90_23 ?k20 ?j20 ?_); (case k20 => first | exact zkk rfl (by omega) | exact zkk (zK_B0 (by omega)) (by omega) | exact zkk ((zK_B (by omega) (by decide)).trans rfl) (by omega) | exact zkk (zK_row (by omega) (by omega)) (by omega) | exact zkk (zK_file (by omega) (by omega)) (by omega) | exact zkk (zK_byte (by omega) (by omega)) (by omega) | exact zkk (zK_list (by omega)) (by omega) | assumption); (case j20 => omega)
      rw [hni.1]
      refine zx_is4 zd90_24 rfl ?_
      refine zx_il4 zd90_26 ?_
      refine zx_il1 zd90_28 ?_
      refine zx_icmple zd90_29 (fun h2 => ?_) (fun h2 => ?_)
      · first | with_reducible refine zx_iin3 zd90_53 ?_ | refine zx_ii3 zd90_53 ?_
        refine zx_goto zd90_56 ?_
        refine ih (i + 1) o _ (by omega) (zNf_skip hv (Or.inl (fun h3 => h2 ((zfm_lt ht hni.2).mpr h3))))
      · have h3 := (zfm_lt ht hni.2).mp h2
        refine zx_il2 zd90_32 ?_
        refine zx_c zd90_33 ?_
        cases ho : o with
        | none =>
          refine zx_icmpeq zd90_34 (fun _ => ?_) (fun h4 => absurd rfl h4)
          refine zx_il3 zd90_51 ?_
          refine zx_is2 zd90_52 rfl ?_
          first | with_reducible refine zx_iin3 zd90_53 ?_ | refine zx_ii3 zd90_53 ?_
          refine zx_goto zd90_56 ?_
          exact ih (i + 1) (some i) _ (by omega) (zNf_take hv h3 (fun g hg => by rw [ho] at hg; cases hg))
        | some g =>
          subst ho
          have hg := hv.2 g rfl
          have hng := hnm g (by omega)
          refine zx_icmpeq zd90_34 (fun h4 => absurd h4 (zfi_ne (by simp) (fun j hj => by cases hj; omega))) (fun _ => ?_)
          show zW L 90 37 [some (.ref 436), some (.int (zfm t)), some (.int (Int32.ofNat g)), some (.int (Int32.ofNat i)), some (.int (Int32.ofNat (nm i)))] [] _ _
          refine zx_il4 zd90_37 ?_
          refine zx_al0 zd90_39 ?_
          (refine' zx_gfA zd90_40 ?k34 ?r34 ?_); (case k34 => first | exact zkk rfl (by omega) | exact zkk (zK_B0 (by omega)) (by omega) | exact zkk ((zK_B (by omega) (by decide)).trans rfl) (by omega) | exact zkk (zK_row (by omega) (by omega)) (by omega) | exact zkk (zK_file (by omega) (by omega)) (by omega) | exact zkk (zK_byte (by omega) (by omega)) (by omega) | exact zkk (zK_list (by omega)) (by omega) | assumption); (case r34 => first | exact hR.1 _ _ _ rfl | assumption)
          refine zx_c zd90_43 ?_
          refine zx_il2 zd90_45 ?_
          first | with_reducible refine zx_addN zd90_46 ?_ | refine zx_add zd90_46 ?_
          (with_reducible refine' zx_ialdN zd90_47 ?k38 ?j38 ?_); (case k38 => first | exact zkk rfl (by omega) | exact zkk (zK_B0 (by omega)) (by omega) | exact zkk ((zK_B (by omega) (by decide)).trans rfl) (by omega) | exact zkk (zK_row (by omega) (by omega)) (by omega) | exact zkk (zK_file (by omega) (by omega)) (by omega) | exact zkk (zK_byte (by omega) (by omega)) (by omega) | exact zkk (zK_list (by omega)) (by omega) | assumption); (case j38 => omega)
          rw [hng.1]
          have hn1 := hni.2
          have hn2 := hng.2
          first | ((with_reducible refine zx_icmpgeN zd90_48 ?s39 (fun h5 => ?_) (fun h5 => ?_)); (case s39 => omega)) | refine zx_icmpge zd90_48 (fun h5 => ?_) (fun h5 => ?_)
          · first | with_reducible refine zx_iin3 zd90_53 ?_ | refine zx_ii3 zd90_53 ?_
            refine zx_goto zd90_56 ?_
            exact ih (i + 1) (some g) _ (by omega) (zNf_skip hv (Or.inr ⟨g, rfl, h5⟩))
          · refine zx_il3 zd90_51 ?_
            refine zx_is2 zd90_52 rfl ?_
            first | with_reducible refine zx_iin3 zd90_53 ?_ | refine zx_ii3 zd90_53 ?_
            refine zx_goto zd90_56 ?_
            exact ih (i + 1) (some i) _ (by omega) (zNf_take hv h3 (fun g' hg' => by cases hg'; omega))
theorem zm_nf (hR : zRs R) (hN : 459 ≤ N) {n k : Nat} {s nm : Nat → Nat} (hn : I 443 10 = Int32.ofNat n) (hn8 : n ≤ 8) (hnm : ∀ f, f < n → I 444 (80 + f) = Int32.ofNat (nm f) ∧ nm f < 65536) (ho : zOrd s nm n) (hk : k < n) :
    zRet L 90 [.ref 436, .int (zfm (if k = 0 then 0 else nm (s (k - 1)) + 1))] (N, U, I, J, R) (some (.int (Int32.ofNat (s k)))) (N, U, I, J, R) := by
  have ht : (if k = 0 then 0 else nm (s (k - 1)) + 1) ≤ 65536 := by
    split
    · omega
    · have := (hnm (s (k - 1)) (ho.2.1 (k - 1) (by omega))).2; omega
  show zW L 90 0 [some (.ref 436), some (.int (zfm (if k = 0 then 0 else nm (s (k - 1)) + 1))), none, none, none] [] _ _
  refine zx_c zd90_0 ?_
  refine zx_is2 zd90_1 rfl ?_
  refine zx_c zd90_2 ?_
  refine zx_is3 zd90_3 rfl ?_
  exact zm_nf0 hR hN hn hn8 ht hnm (fun o h => zNf_fin ho hk h) n 0 none _ (by omega) ⟨fun f hf => by omega, fun g hg => by cases hg⟩
/-- digestLeaf -/
theorem zm_lf0 (hR : zRs R) (hN : 459 ≤ N) {I0 : zI} {m0 : List Int32} (hm0 : m0.length = 3) {f l : Nat} (hf : f < 88) (hl : I0 445 f = Int32.ofNat l) (hl6 : l ≤ 64)
    (kk : ∀ (I' : zI) (l2 : Option Value), zMg (m0 ++ zrw0 (I0 446) (64 * f) l) I' → zF2 I0 I' → zW L 91 65 [some (.ref 436), some (.int (Int32.ofNat f)), l2] [] (N, U, I', J, R) Q) :
    ∀ (q i : Nat) (I' : zI), i + q = l → zMg (m0 ++ zrw0 (I0 446) (64 * f) i) I' → zF2 I0 I' → zW L 91 34 [some (.ref 436), some (.int (Int32.ofNat f)), some (.int (Int32.ofNat i))] [] (N, U, I', J, R) Q := by
  intro q
  induction q with
  | zero =>
    intro i I' hi hm hff
    obtain rfl : i = l := by omega
    refine zx_il2 zd91_34 ?_
    refine zx_al0 zd91_35 ?_
    (refine' zx_gfA zd91_36 ?k52 ?r52 ?_); (case k52 => first | exact zkk rfl (by omega) | exact zkk (zK_B0 (by omega)) (by omega) | exact zkk ((zK_B (by omega) (by decide)).trans rfl) (by omega) | exact zkk (zK_row (by omega) (by omega)) (by omega) | exact zkk (zK_file (by omega) (by omega)) (by omega) | exact zkk (zK_byte (by omega) (by omega)) (by omega) | exact zkk (zK_list (by omega)) (by omega) | assumption); (case r52 => first | exact hR.1 _ _ _ rfl | assumption)
    refine zx_il1 zd91_39 ?_
    (with_reducible refine' zx_ialdN zd91_40 ?k54 ?j54 ?_); (case k54 => first | exact zkk rfl (by omega) | exact zkk (zK_B0 (by omega)) (by omega) | exact zkk ((zK_B (by omega) (by decide)).trans rfl) (by omega) | exact zkk (zK_row (by omega) (by omega)) (by omega) | exact zkk (zK_file (by omega) (by omega)) (by omega) | exact zkk (zK_byte (by omega) (by omega)) (by omega) | exact zkk (zK_list (by omega)) (by omega) | assumption); (case j54 => omega)
    rw [hff.1 445 (by decide) (by decide), hl]
    first | ((with_reducible refine zx_icmpgeN zd91_41 ?s55 (fun h => ?_) (fun h => ?_)); (case s55 => omega)) | refine zx_icmpge zd91_41 (fun h => ?_) (fun h => ?_)
    · exact kk I' _ hm hff
    · omega
  | succ q ih =>
    intro i I' hi hm hff
    refine zx_il2 zd91_34 ?_
    refine zx_al0 zd91_35 ?_
    (refine' zx_gfA zd91_36 ?k58 ?r58 ?_); (case k58 => first | exact zkk rfl (by omega) | exact zkk (zK_B0 (by omega)) (by omega) | exact zkk ((zK_B (by omega) (by decide)).trans rfl) (by omega) | exact zkk (zK_row (by omega) (by omega)) (by omega) | exact zkk (zK_file (by omega) (by omega)) (by omega) | exact zkk (zK_byte (by omega) (by omega)) (by omega) | exact zkk (zK_list (by omega)) (by omega) | assumption); (case r58 => first | exact hR.1 _ _ _ rfl | assumption)
    refine zx_il1 zd91_39 ?_
    (with_reducible refine' zx_ialdN zd91_40 ?k60 ?j60 ?_); (case k60 => first | exact zkk rfl (by omega) | exact zkk (zK_B0 (by omega)) (by omega) | exact zkk ((zK_B (by omega) (by decide)).trans rfl) (by omega) | exact zkk (zK_row (by omega) (by omega)) (by omega) | exact zkk (zK_file (by omega) (by omega)) (by omega) | exact zkk (zK_byte (by omega) (by omega)) (by omega) | exact zkk (zK_list (by omega)) (by omega) | assumption); (case j60 => omega)
    rw [hff.1 445 (by decide) (by decide), hl]
    first | ((with_reducible refine zx_icmpgeN zd91_41 ?s61 (fun h => ?_) (fun h => ?_)); (case s61 => omega)) | refine zx_icmpge zd91_41 (fun h => ?_) (fun h => ?_)
    · omega
    · refine zx_al0 zd91_44 ?_
      refine zx_al0 zd91_45 ?_
      (refine' zx_gfA zd91_46 ?k64 ?r64 ?_); (case k64 => first | exact zkk rfl (by omega) | exact zkk (zK_B0 (by omega)) (by omega) | exact zkk ((zK_B (by omega) (by decide)).trans rfl) (by omega) | exact zkk (zK_row (by omega) (by omega)) (by omega) | exact zkk (zK_file (by omega) (by omega)) (by omega) | exact zkk (zK_byte (by omega) (by omega)) (by omega) | exact zkk (zK_list (by omega)) (by omega) | assumption); (case r64 => first | exact hR.1 _ _ _ rfl | assumption)
      refine zx_c zd91_49 ?_
      refine zx_il1 zd91_51 ?_
      first | with_reducible refine zx_mulN zd91_52 ?_ | refine zx_mul zd91_52 ?_
      refine zx_il2 zd91_53 ?_
      first | with_reducible refine zx_addN zd91_54 ?_ | refine zx_add zd91_54 ?_
      (with_reducible refine' zx_ialdN zd91_55 ?k70 ?j70 ?_); (case k70 => first | exact zkk rfl (by omega) | exact zkk (zK_B0 (by omega)) (by omega) | exact zkk ((zK_B (by omega) (by decide)).trans rfl) (by omega) | exact zkk (zK_row (by omega) (by omega)) (by omega) | exact zkk (zK_file (by omega) (by omega)) (by omega) | exact zkk (zK_byte (by omega) (by omega)) (by omega) | exact zkk (zK_list (by omega)) (by omega) | assumption); (case j70 => omega)
      obtain ⟨I2, hr, hm2, hf2⟩ := zs_mput2 (L := L) (U := U) (J := J) hR hN hm (by rw [List.length_append, zrw0_len]; omega) (I' 446 (64 * f + i))
      (refine zx_cv1V zd91_56 ?k71 (hr) ?_); (case k71 => first | exact zkk rfl (by omega) | exact zkk (zK_B0 (by omega)) (by omega) | exact zkk ((zK_B (by omega) (by decide)).trans rfl) (by omega) | exact zkk (zK_row (by omega) (by omega)) (by omega) | exact zkk (zK_file (by omega) (by omega)) (by omega) | exact zkk (zK_byte (by omega) (by omega)) (by omega) | exact zkk (zK_list (by omega)) (by omega) | assumption)
      first | with_reducible refine zx_iin2 zd91_59 ?_ | refine zx_ii2 zd91_59 ?_
      refine zx_goto zd91_62 ?_
      refine ih (i + 1) I2 (by omega) ?_ (hff.trans hf2)
      rw [zrw0_succ, ← List.append_assoc]
      rw [hff.1 446 (by decide) (by decide)] at hm2
      exact hm2
theorem zm_lf (hR : zRs R) (hN : 459 ≤ N) (hK : ∀ j, j < 64 → I 437 j = zKr j) (hm : zMg [] I) {f nm l : Nat} (hf : f < 88) (hnm : I 444 f = Int32.ofNat nm) (hnm6 : nm < 65536) (hl : I 445 f = Int32.ofNat l) (hl6 : l ≤ 64) :
    ∃ I', zRet L 91 [.ref 436, .int (Int32.ofNat f)] (N, U, I, J, R) none (N, U, I', J, R) ∧ I' 442 = zfill (I 442) 0 32 (zsha (zlm nm l (I 446) (64 * f))) ∧ zMg [] I' ∧ zFd I I' := by
  have w0 : zW L 91 0 (zent 91 [.ref 436, .int (Int32.ofNat f)]) [] (N, U, I, J, R) (fun o h => o = .inl none ∧ ∃ I' : zI, h = (N, U, I', J, R) ∧ I' 442 = zfill (I 442) 0 32 (zsha (zlm nm l (I 446) (64 * f))) ∧ zMg [] I' ∧ zFd I I') := by
    show zW L 91 0 [some (.ref 436), some (.int (Int32.ofNat f)), none] [] _ _
    refine zx_al0 zd91_0 ?_
    refine zx_c zd91_1 ?_
    obtain ⟨I1, hr1, hm1, hf1⟩ := zs_mput2 (L := L) (U := U) (J := J) hR hN hm (by decide) (Int32.ofNat 0)
    (refine zx_cv1V zd91_2 ?k76 (hr1) ?_); (case k76 => first | exact zkk rfl (by omega) | exact zkk (zK_B0 (by omega)) (by omega) | exact zkk ((zK_B (by omega) (by decide)).trans rfl) (by omega) | exact zkk (zK_row (by omega) (by omega)) (by omega) | exact zkk (zK_file (by omega) (by omega)) (by omega) | exact zkk (zK_byte (by omega) (by omega)) (by omega) | exact zkk (zK_list (by omega)) (by omega) | assumption)
    refine zx_al0 zd91_5 ?_
    refine zx_al0 zd91_6 ?_
    (refine' zx_gfA zd91_7 ?k79 ?r79 ?_); (case k79 => first | exact zkk rfl (by omega) | exact zkk (zK_B0 (by omega)) (by omega) | exact zkk ((zK_B (by omega) (by decide)).trans rfl) (by omega) | exact zkk (zK_row (by omega) (by omega)) (by omega) | exact zkk (zK_file (by omega) (by omega)) (by omega) | exact zkk (zK_byte (by omega) (by omega)) (by omega) | exact zkk (zK_list (by omega)) (by omega) | assumption); (case r79 => first | exact hR.1 _ _ _ rfl | assumption)
    refine zx_il1 zd91_10 ?_
    (with_reducible refine' zx_ialdN zd91_11 ?k81 ?j81 ?_); (case k81 => first | exact zkk rfl (by omega) | exact zkk (zK_B0 (by omega)) (by omega) | exact zkk ((zK_B (by omega) (by decide)).trans rfl) (by omega) | exact zkk (zK_row (by omega) (by omega)) (by omega) | exact zkk (zK_file (by omega) (by omega)) (by omega) | exact zkk (zK_byte (by omega) (by omega)) (by omega) | exact zkk (zK_list (by omega)) (by omega) | assumption); (case j81 => omega)
    rw [hf1.1 444 (by decide) (by decide), hnm]
    refine zx_c zd91_12 ?_
    first | ((with_reducible refine zx_shrN zd91_14 ?h83 ?_); (case h83 => omega)) | refine zx_shr zd91_14 ?_
    obtain ⟨I2, hr2, hm2, hf2⟩ := zs_mput2 (L := L) (U := U) (J := J) hR hN hm1 (by decide) (Int32.ofNat (nm >>> 8))
    (refine zx_cv1V zd91_15 ?k84 (hr2) ?_); (case k84 => first | exact zkk rfl (by omega) | exact zkk (zK_B0 (by omega)) (by omega) | exact zkk ((zK_B (by omega) (by decide)).trans rfl) (by omega) | exact zkk (zK_row (by omega) (by omega)) (by omega) | exact zkk (zK_file (by omega) (by omega)) (by omega) | exact zkk (zK_byte (by omega) (by omega)) (by omega) | exact zkk (zK_list (by omega)) (by omega) | assumption)
    refine zx_al0 zd91_18 ?_
    refine zx_al0 zd91_19 ?_
    (refine' zx_gfA zd91_20 ?k87 ?r87 ?_); (case k87 => first | exact zkk rfl (by omega) | exact zkk (zK_B0 (by omega)) (by omega) | exact zkk ((zK_B (by omega) (by decide)).trans rfl) (by omega) | exact zkk (zK_row (by omega) (by omega)) (by omega) | exact zkk (zK_file (by omega) (by omega)) (by omega) | exact zkk (zK_byte (by omega) (by omega)) (by omega) | exact zkk (zK_list (by omega)) (by omega) | assumption); (case r87 => first | exact hR.1 _ _ _ rfl | assumption)
    refine zx_il1 zd91_23 ?_
    (with_reducible refine' zx_ialdN zd91_24 ?k89 ?j89 ?_); (case k89 => first | exact zkk rfl (by omega) | exact zkk (zK_B0 (by omega)) (by omega) | exact zkk ((zK_B (by omega) (by decide)).trans rfl) (by omega) | exact zkk (zK_row (by omega) (by omega)) (by omega) | exact zkk (zK_file (by omega) (by omega)) (by omega) | exact zkk (zK_byte (by omega) (by omega)) (by omega) | exact zkk (zK_list (by omega)) (by omega) | assumption); (case j89 => omega)
    rw [(hf1.trans hf2).1 444 (by decide) (by decide), hnm]
    refine zx_c zd91_25 ?_
    first | with_reducible refine zx_andN zd91_28 ?_ | refine zx_and zd91_28 ?_
    obtain ⟨I3, hr3, hm3, hf3⟩ := zs_mput2 (L := L) (U := U) (J := J) hR hN hm2 (by show 2 < 512; decide) (Int32.ofNat (nm &&& 255))
    (refine zx_cv1V zd91_29 ?k92 (hr3) ?_); (case k92 => first | exact zkk rfl (by omega) | exact zkk (zK_B0 (by omega)) (by omega) | exact zkk ((zK_B (by omega) (by decide)).trans rfl) (by omega) | exact zkk (zK_row (by omega) (by omega)) (by omega) | exact zkk (zK_file (by omega) (by omega)) (by omega) | exact zkk (zK_byte (by omega) (by omega)) (by omega) | exact zkk (zK_list (by omega)) (by omega) | assumption)
    refine zx_c zd91_32 ?_
    refine zx_is2 zd91_33 rfl ?_
    have hf13 := (hf1.trans hf2).trans hf3
    refine zm_lf0 (L := L) (U := U) (J := J) (I0 := I) (m0 := [] ++ [Int32.ofNat 0] ++ [Int32.ofNat (nm >>> 8)] ++ [Int32.ofNat (nm &&& 255)]) hR hN rfl hf hl hl6 ?_ l 0 I3 (by omega) ?_ hf13
    · intro I4 l2 hm4 hf4
      refine zx_al0 zd91_65 ?_
      obtain ⟨I5, hr5, ho5, hm5, hf5⟩ := zs_mdig (L := L) (U := U) (J := J) hR hN (fun i hi => by rw [hf4.1 437 (by decide) (by decide)]; exact hK i hi) hm4 (by rw [List.length_append, zrw0_len]; show 3 + l ≤ 300; omega)
      (refine zx_cv0V zd91_66 ?k96 (hr5) ?_); (case k96 => first | exact zkk rfl (by omega) | exact zkk (zK_B0 (by omega)) (by omega) | exact zkk ((zK_B (by omega) (by decide)).trans rfl) (by omega) | exact zkk (zK_row (by omega) (by omega)) (by omega) | exact zkk (zK_file (by omega) (by omega)) (by omega) | exact zkk (zK_byte (by omega) (by omega)) (by omega) | exact zkk (zK_list (by omega)) (by omega) | assumption)
      refine zx_vret zd91_69 rfl ?_
      refine ⟨rfl, I5, rfl, ?_, hm5, hf4.to.trans hf5⟩
      rw [ho5, hf4.1 442 (by decide) (by decide)]
      have e1 : nm >>> 8 = nm / 256 := Nat.shiftRight_eq_div_pow nm 8
      have e2 : nm &&& 255 = nm % 256 := Nat.and_two_pow_sub_one_eq_mod nm 8
      rw [e1, e2]
      rfl
    · rw [show zrw0 (I 446) (64 * f) 0 = [] from rfl, List.append_nil]; exact hm3
  obtain ⟨k, hr, I', rfl, hd⟩ := zRet_of w0
  exact ⟨I', hr, hd⟩
/-- what stands after k files of a release that is being closed -/
def zCl (I0 I' : zI) (r : Nat) (s : Nat → Nat) (D : Nat → Nat → Int32) (k : Nat) : Prop :=
  (I' 444 = zfill (I0 444) (8 * r) k (fun j => I0 444 (80 + s j)) ∧ I' 445 = zfill (I0 445) (8 * r) k (fun j => I0 445 (80 + s j)) ∧ I' 446 = zfill (I0 446) (512 * r) (64 * k) (fun q => I0 446 (64 * (80 + s (q / 64)) + q % 64)) ∧ I' 447 = zfill (I0 447) (256 * r) (32 * k) (fun q => D (q / 32) (q % 32))) ∧
  (∀ b, b ≠ 436 → (b < 438 ∨ 442 < b) → (b < 444 ∨ 447 < b) → I' b = I0 b) ∧ ∀ f, f ≠ 2 → I' 436 f = I0 436 f
/-- 64 bytes are copied -/
theorem zm_cl2 (hR : zRs R) (hN : 459 ≤ N) {F : Nat → Int32} {r k o : Nat} (hr : r < 10) (hk : k < 8) (ho : o < 8) {G : Nat → Int32} (hG : ∀ i, i < 64 → G (64 * k + i) = F (64 * (80 + o) + i)) {l1 l2 l3 : Option Value} (hI : I 446 = zfill F (512 * r) (64 * k) G)
    (kk : ∀ l6 : Option Value, zW L 89 126 [some (.ref 436), l1, l2, l3, some (.int (Int32.ofNat (80 + o))), some (.int (Int32.ofNat (8 * r + k))), l6] [] (N, U, zrw I 446 (zfill F (512 * r) (64 * k + 64) G), J, R) Q) :
    ∀ (q i : Nat), i + q = 64 → zW L 89 87 [some (.ref 436), l1, l2, l3, some (.int (Int32.ofNat (80 + o))), some (.int (Int32.ofNat (8 * r + k))), some (.int (Int32.ofNat i))] [] (N, U, zrw I 446 (zfill F (512 * r) (64 * k + i) G), J, R) Q := by
  intro q
  induction q with
  | zero =>
    intro i hi
    obtain rfl : i = 64 := by omega
    refine zx_il6 zd89_87 ?_
    refine zx_c zd89_89 ?_
    first | ((with_reducible refine zx_icmpgeN zd89_91 ?s100 (fun h => ?_) (fun h => ?_)); (case s100 => omega)) | refine zx_icmpge zd89_91 (fun h => ?_) (fun h => ?_)
    · exact kk _
    · omega
  | succ q ih =>
    intro i hi
    refine zx_il6 zd89_87 ?_
    refine zx_c zd89_89 ?_
    first | ((with_reducible refine zx_icmpgeN zd89_91 ?s103 (fun h => ?_) (fun h => ?_)); (case s103 => omega)) | refine zx_icmpge zd89_91 (fun h => ?_) (fun h => ?_)
    · omega
    · refine zx_al0 zd89_94 ?_
      (refine' zx_gfA zd89_95 ?k105 ?r105 ?_); (case k105 => first | exact zkk rfl (by omega) | exact zkk (zK_B0 (by omega)) (by omega) | exact zkk ((zK_B (by omega) (by decide)).trans rfl) (by omega) | exact zkk (zK_row (by omega) (by omega)) (by omega) | exact zkk (zK_file (by omega) (by omega)) (by omega) | exact zkk (zK_byte (by omega) (by omega)) (by omega) | exact zkk (zK_list (by omega)) (by omega) | assumption); (case r105 => first | exact hR.1 _ _ _ rfl | assumption)
      refine zx_c zd89_98 ?_
      refine zx_il5 zd89_100 ?_
      first | with_reducible refine zx_mulN zd89_102 ?_ | refine zx_mul zd89_102 ?_
      refine zx_il6 zd89_103 ?_
      first | with_reducible refine zx_addN zd89_105 ?_ | refine zx_add zd89_105 ?_
      refine zx_al0 zd89_106 ?_
      (refine' zx_gfA zd89_107 ?k112 ?r112 ?_); (case k112 => first | exact zkk rfl (by omega) | exact zkk (zK_B0 (by omega)) (by omega) | exact zkk ((zK_B (by omega) (by decide)).trans rfl) (by omega) | exact zkk (zK_row (by omega) (by omega)) (by omega) | exact zkk (zK_file (by omega) (by omega)) (by omega) | exact zkk (zK_byte (by omega) (by omega)) (by omega) | exact zkk (zK_list (by omega)) (by omega) | assumption); (case r112 => first | exact hR.1 _ _ _ rfl | assumption)
      refine zx_c zd89_110 ?_
      refine zx_il4 zd89_112 ?_
      first | with_reducible refine zx_mulN zd89_114 ?_ | refine zx_mul zd89_114 ?_
      refine zx_il6 zd89_115 ?_
      first | with_reducible refine zx_addN zd89_117 ?_ | refine zx_add zd89_117 ?_
      (with_reducible refine' zx_ialdN zd89_118 ?k118 ?j118 ?_); (case k118 => first | exact zkk rfl (by omega) | exact zkk (zK_B0 (by omega)) (by omega) | exact zkk ((zK_B (by omega) (by decide)).trans rfl) (by omega) | exact zkk (zK_row (by omega) (by omega)) (by omega) | exact zkk (zK_file (by omega) (by omega)) (by omega) | exact zkk (zK_byte (by omega) (by omega)) (by omega) | exact zkk (zK_list (by omega)) (by omega) | assumption); (case j118 => omega)
      (with_reducible refine' zx_iastN zd89_119 ?k119 ?j119 ?a119 ?_); (case k119 => first | exact zkk rfl (by omega) | exact zkk (zK_B0 (by omega)) (by omega) | exact zkk ((zK_B (by omega) (by decide)).trans rfl) (by omega) | exact zkk (zK_row (by omega) (by omega)) (by omega) | exact zkk (zK_file (by omega) (by omega)) (by omega) | exact zkk (zK_byte (by omega) (by omega)) (by omega) | exact zkk (zK_list (by omega)) (by omega) | assumption); (case j119 => omega); (case a119 => omega)
      first | with_reducible refine zx_iin6 zd89_120 ?_ | refine zx_ii6 zd89_120 ?_
      refine zx_goto zd89_123 ?_
      have e := zfill_succ F (512 * r) (64 * k + i) G
      have k1 := ih (i + 1) (by omega)
      rw [show 64 * k + (i + 1) = 64 * k + i + 1 by omega, ← e, hG i (by omega)] at k1
      rw [zu_rw, zrw_rw, zrw_at, zfill_out _ _ _ _ (show ¬ (512 * r ≤ 64 * (80 + o) + i ∧ 64 * (80 + o) + i < 512 * r + (64 * k + i)) by omega), show 64 * (8 * r + k) + i = 512 * r + (64 * k + i) by omega]
      exact k1
/-- 32 bytes of the digest are laid -/
theorem zm_cl3 (hR : zRs R) (hN : 459 ≤ N) {F : Nat → Int32} {r k : Nat} (hr : r < 10) (hk : k < 8) {G : Nat → Int32} (hG : ∀ i, i < 32 → G (32 * k + i) = I 442 i) {l1 l2 l3 l4 : Option Value}
    (kk : ∀ l6 : Option Value, zW L 89 168 [some (.ref 436), l1, l2, l3, l4, some (.int (Int32.ofNat (8 * r + k))), l6] [] (N, U, zrw I 447 (zfill F (256 * r) (32 * k + 32) G), J, R) Q) :
    ∀ (q i : Nat), i + q = 32 → zW L 89 135 [some (.ref 436), l1, l2, l3, l4, some (.int (Int32.ofNat (8 * r + k))), some (.int (Int32.ofNat i))] [] (N, U, zrw I 447 (zfill F (256 * r) (32 * k + i) G), J, R) Q := by
  intro q
  induction q with
  | zero =>
    intro i hi
    obtain rfl : i = 32 := by omega
    refine zx_il6 zd89_135 ?_
    refine zx_c zd89_137 ?_
    first | ((with_reducible refine zx_icmpgeN zd89_139 ?s124 (fun h => ?_) (fun h => ?_)); (case s124 => omega)) | refine zx_icmpge zd89_139 (fun h => ?_) (fun h => ?_)
    · exact kk _
    · omega
  | succ q ih =>
    intro i hi
    refine zx_il6 zd89_135 ?_
    refine zx_c zd89_137 ?_
    first | ((with_reducible refine zx_icmpgeN zd89_139 ?s127 (fun h => ?_) (fun h => ?_)); (case s127 => omega)) | refine zx_icmpge zd89_139 (fun h => ?_) (fun h => ?_)
    · omega
    · refine zx_al0 zd89_142 ?_
      (refine' zx_gfA zd89_143 ?k129 ?r129 ?_); (case k129 => first | exact zkk rfl (by omega) | exact zkk (zK_B0 (by omega)) (by omega) | exact zkk ((zK_B (by omega) (by decide)).trans rfl) (by omega) | exact zkk (zK_row (by omega) (by omega)) (by omega) | exact zkk (zK_file (by omega) (by omega)) (by omega) | exact zkk (zK_byte (by omega) (by omega)) (by omega) | exact zkk (zK_list (by omega)) (by omega) | assumption); (case r129 => first | exact hR.1 _ _ _ rfl | assumption)
      refine zx_c zd89_146 ?_
      refine zx_il5 zd89_148 ?_
      first | with_reducible refine zx_mulN zd89_150 ?_ | refine zx_mul zd89_150 ?_
      refine zx_il6 zd89_151 ?_
      first | with_reducible refine zx_addN zd89_153 ?_ | refine zx_add zd89_153 ?_
      refine zx_al0 zd89_154 ?_
      (refine' zx_gfA zd89_155 ?k136 ?r136 ?_); (case k136 => first | exact zkk rfl (by omega) | exact zkk (zK_B0 (by omega)) (by omega) | exact zkk ((zK_B (by omega) (by decide)).trans rfl) (by omega) | exact zkk (zK_row (by omega) (by omega)) (by omega) | exact zkk (zK_file (by omega) (by omega)) (by omega) | exact zkk (zK_byte (by omega) (by omega)) (by omega) | exact zkk (zK_list (by omega)) (by omega) | assumption); (case r136 => first | exact hR.1 _ _ _ rfl | assumption)
      refine zx_il6 zd89_158 ?_
      (with_reducible refine' zx_ialdN zd89_160 ?k138 ?j138 ?_); (case k138 => first | exact zkk rfl (by omega) | exact zkk (zK_B0 (by omega)) (by omega) | exact zkk ((zK_B (by omega) (by decide)).trans rfl) (by omega) | exact zkk (zK_row (by omega) (by omega)) (by omega) | exact zkk (zK_file (by omega) (by omega)) (by omega) | exact zkk (zK_byte (by omega) (by omega)) (by omega) | exact zkk (zK_list (by omega)) (by omega) | assumption); (case j138 => omega)
      (with_reducible refine' zx_iastN zd89_161 ?k139 ?j139 ?a139 ?_); (case k139 => first | exact zkk rfl (by omega) | exact zkk (zK_B0 (by omega)) (by omega) | exact zkk ((zK_B (by omega) (by decide)).trans rfl) (by omega) | exact zkk (zK_row (by omega) (by omega)) (by omega) | exact zkk (zK_file (by omega) (by omega)) (by omega) | exact zkk (zK_byte (by omega) (by omega)) (by omega) | exact zkk (zK_list (by omega)) (by omega) | assumption); (case j139 => omega); (case a139 => omega)
      first | with_reducible refine zx_iin6 zd89_162 ?_ | refine zx_ii6 zd89_162 ?_
      refine zx_goto zd89_165 ?_
      have e := zfill_succ F (256 * r) (32 * k + i) G
      have k1 := ih (i + 1) (by omega)
      rw [show 32 * k + (i + 1) = 32 * k + i + 1 by omega, ← e, hG i (by omega)] at k1
      rw [zu_rw, zrw_rw, zrw_at, zrw_ne _ _ (show 442 ≠ 447 by decide), show 32 * (8 * r + k) + i = 256 * r + (32 * k + i) by omega]
      exact k1
/-- the files of a release that is closed -/
theorem zm_cl1 (hR : zRs R) (hN : 459 ≤ N) {I0 : zI} {r n : Nat} {s nm ln : Nat → Nat} {D : Nat → Nat → Int32} (hr : r < 10) (hn : I0 443 10 = Int32.ofNat n) (hn8 : n ≤ 8) (hnm : ∀ f, f < n → I0 444 (80 + f) = Int32.ofNat (nm f) ∧ nm f < 65536) (hln : ∀ f, f < n → I0 445 (80 + f) = Int32.ofNat (ln f) ∧ ln f ≤ 64) (ho : zOrd s nm n) (hK : ∀ j, j < 64 → I0 437 j = zKr j)
    (hD : ∀ j, j < n → D j = zsha (zlm (nm (s j)) (ln (s j)) (I0 446) (64 * (80 + s j))))
    (kk : ∀ (I' : zI) (l2 l3 l4 l5 l6 : Option Value), zCl I0 I' r s D n → zMg [] I' → zW L 89 174 [some (.ref 436), some (.int (Int32.ofNat r)), l2, l3, l4, l5, l6] [] (N, U, I', J, R) Q) :
    ∀ (q k : Nat) (I' : zI) (l4 l5 l6 : Option Value), k + q = n → zCl I0 I' r s D k → zMg [] I' → zW L 89 25 [some (.ref 436), some (.int (Int32.ofNat r)), some (.int (zfm (if k = 0 then 0 else nm (s (k - 1)) + 1))), some (.int (Int32.ofNat k)), l4, l5, l6] [] (N, U, I', J, R) Q := by
  intro q
  induction q with
  | zero =>
    intro k I' l4 l5 l6 hk hv hm
    obtain rfl : k = n := by omega
    refine zx_il3 zd89_25 ?_
    refine zx_al0 zd89_26 ?_
    (refine' zx_gfA zd89_27 ?k144 ?r144 ?_); (case k144 => first | exact zkk rfl (by omega) | exact zkk (zK_B0 (by omega)) (by omega) | exact zkk ((zK_B (by omega) (by decide)).trans rfl) (by omega) | exact zkk (zK_row (by omega) (by omega)) (by omega) | exact zkk (zK_file (by omega) (by omega)) (by omega) | exact zkk (zK_byte (by omega) (by omega)) (by omega) | exact zkk (zK_list (by omega)) (by omega) | assumption); (case r144 => first | exact hR.1 _ _ _ rfl | assumption)
    refine zx_c zd89_30 ?_
    (with_reducible refine' zx_ialdN zd89_32 ?k146 ?j146 ?_); (case k146 => first | exact zkk rfl (by omega) | exact zkk (zK_B0 (by omega)) (by omega) | exact zkk ((zK_B (by omega) (by decide)).trans rfl) (by omega) | exact zkk (zK_row (by omega) (by omega)) (by omega) | exact zkk (zK_file (by omega) (by omega)) (by omega) | exact zkk (zK_byte (by omega) (by omega)) (by omega) | exact zkk (zK_list (by omega)) (by omega) | assumption); (case j146 => omega)
    rw [hv.2.1 443 (by decide) (by decide) (by decide), hn]
    first | ((with_reducible refine zx_icmpgeN zd89_33 ?s147 (fun h => ?_) (fun h => ?_)); (case s147 => omega)) | refine zx_icmpge zd89_33 (fun h => ?_) (fun h => ?_)
    · exact kk I' _ _ _ _ _ hv hm
    · omega
  | succ q ih =>
    intro k I' l4 l5 l6 hk hv hm
    obtain ⟨⟨v1, v2, v3, v4⟩, v5, v6⟩ := hv
    have hkn : k < n := by omega
    have hsn := ho.2.1 k hkn
    have hnm' : ∀ f, f < n → I' 444 (80 + f) = Int32.ofNat (nm f) ∧ nm f < 65536 := fun f hf => by
      rw [v1, zfill_out _ _ _ _ (by omega)]; exact hnm f hf
    have hln' : ∀ f, f < n → I' 445 (80 + f) = Int32.ofNat (ln f) := fun f hf => by
      rw [v2, zfill_out _ _ _ _ (by omega)]; exact (hln f hf).1
    refine zx_il3 zd89_25 ?_
    refine zx_al0 zd89_26 ?_
    (refine' zx_gfA zd89_27 ?k150 ?r150 ?_); (case k150 => first | exact zkk rfl (by omega) | exact zkk (zK_B0 (by omega)) (by omega) | exact zkk ((zK_B (by omega) (by decide)).trans rfl) (by omega) | exact zkk (zK_row (by omega) (by omega)) (by omega) | exact zkk (zK_file (by omega) (by omega)) (by omega) | exact zkk (zK_byte (by omega) (by omega)) (by omega) | exact zkk (zK_list (by omega)) (by omega) | assumption); (case r150 => first | exact hR.1 _ _ _ rfl | assumption)
    refine zx_c zd89_30 ?_
    (with_reducible refine' zx_ialdN zd89_32 ?k152 ?j152 ?_); (case k152 => first | exact zkk rfl (by omega) | exact zkk (zK_B0 (by omega)) (by omega) | exact zkk ((zK_B (by omega) (by decide)).trans rfl) (by omega) | exact zkk (zK_row (by omega) (by omega)) (by omega) | exact zkk (zK_file (by omega) (by omega)) (by omega) | exact zkk (zK_byte (by omega) (by omega)) (by omega) | exact zkk (zK_list (by omega)) (by omega) | assumption); (case j152 => omega)
    rw [v5 443 (by decide) (by decide) (by decide), hn]
    first | ((with_reducible refine zx_icmpgeN zd89_33 ?s153 (fun h => ?_) (fun h => ?_)); (case s153 => omega)) | refine zx_icmpge zd89_33 (fun h => ?_) (fun h => ?_)
    · omega
    · refine zx_c zd89_36 ?_
      refine zx_al0 zd89_38 ?_
      refine zx_il2 zd89_39 ?_
      (refine zx_cv1I zd89_40 ?k157 (zm_nf hR hN (by rw [v5 443 (by decide) (by decide) (by decide), hn]) hn8 hnm' ho hkn) ?_); (case k157 => first | exact zkk rfl (by omega) | exact zkk (zK_B0 (by omega)) (by omega) | exact zkk ((zK_B (by omega) (by decide)).trans rfl) (by omega) | exact zkk (zK_row (by omega) (by omega)) (by omega) | exact zkk (zK_file (by omega) (by omega)) (by omega) | exact zkk (zK_byte (by omega) (by omega)) (by omega) | exact zkk (zK_list (by omega)) (by omega) | assumption)
      first | with_reducible refine zx_addN zd89_43 ?_ | refine zx_add zd89_43 ?_
      refine zx_is4 zd89_44 rfl ?_
      refine zx_c zd89_46 ?_
      refine zx_il1 zd89_48 ?_
      first | with_reducible refine zx_mulN zd89_49 ?_ | refine zx_mul zd89_49 ?_
      refine zx_il3 zd89_50 ?_
      first | with_reducible refine zx_addN zd89_51 ?_ | refine zx_add zd89_51 ?_
      refine zx_is5 zd89_52 rfl ?_
      refine zx_al0 zd89_54 ?_
      (refine' zx_gfA zd89_55 ?k167 ?r167 ?_); (case k167 => first | exact zkk rfl (by omega) | exact zkk (zK_B0 (by omega)) (by omega) | exact zkk ((zK_B (by omega) (by decide)).trans rfl) (by omega) | exact zkk (zK_row (by omega) (by omega)) (by omega) | exact zkk (zK_file (by omega) (by omega)) (by omega) | exact zkk (zK_byte (by omega) (by omega)) (by omega) | exact zkk (zK_list (by omega)) (by omega) | assumption); (case r167 => first | exact hR.1 _ _ _ rfl | assumption)
      refine zx_il4 zd89_58 ?_
      (with_reducible refine' zx_ialdN zd89_60 ?k169 ?j169 ?_); (case k169 => first | exact zkk rfl (by omega) | exact zkk (zK_B0 (by omega)) (by omega) | exact zkk ((zK_B (by omega) (by decide)).trans rfl) (by omega) | exact zkk (zK_row (by omega) (by omega)) (by omega) | exact zkk (zK_file (by omega) (by omega)) (by omega) | exact zkk (zK_byte (by omega) (by omega)) (by omega) | exact zkk (zK_list (by omega)) (by omega) | assumption); (case j169 => omega)
      rw [(hnm' (s k) hsn).1]
      refine zx_is2 zd89_61 rfl ?_
      refine zx_al0 zd89_62 ?_
      (refine' zx_gfA zd89_63 ?k172 ?r172 ?_); (case k172 => first | exact zkk rfl (by omega) | exact zkk (zK_B0 (by omega)) (by omega) | exact zkk ((zK_B (by omega) (by decide)).trans rfl) (by omega) | exact zkk (zK_row (by omega) (by omega)) (by omega) | exact zkk (zK_file (by omega) (by omega)) (by omega) | exact zkk (zK_byte (by omega) (by omega)) (by omega) | exact zkk (zK_list (by omega)) (by omega) | assumption); (case r172 => first | exact hR.1 _ _ _ rfl | assumption)
      refine zx_il5 zd89_66 ?_
      refine zx_il2 zd89_68 ?_
      (with_reducible refine' zx_iastN zd89_69 ?k175 ?j175 ?a175 ?_); (case k175 => first | exact zkk rfl (by omega) | exact zkk (zK_B0 (by omega)) (by omega) | exact zkk ((zK_B (by omega) (by decide)).trans rfl) (by omega) | exact zkk (zK_row (by omega) (by omega)) (by omega) | exact zkk (zK_file (by omega) (by omega)) (by omega) | exact zkk (zK_byte (by omega) (by omega)) (by omega) | exact zkk (zK_list (by omega)) (by omega) | assumption); (case j175 => omega); (case a175 => omega)
      refine zx_al0 zd89_70 ?_
      (refine' zx_gfA zd89_71 ?k177 ?r177 ?_); (case k177 => first | exact zkk rfl (by omega) | exact zkk (zK_B0 (by omega)) (by omega) | exact zkk ((zK_B (by omega) (by decide)).trans rfl) (by omega) | exact zkk (zK_row (by omega) (by omega)) (by omega) | exact zkk (zK_file (by omega) (by omega)) (by omega) | exact zkk (zK_byte (by omega) (by omega)) (by omega) | exact zkk (zK_list (by omega)) (by omega) | assumption); (case r177 => first | exact hR.1 _ _ _ rfl | assumption)
      refine zx_il5 zd89_74 ?_
      refine zx_al0 zd89_76 ?_
      (refine' zx_gfA zd89_77 ?k180 ?r180 ?_); (case k180 => first | exact zkk rfl (by omega) | exact zkk (zK_B0 (by omega)) (by omega) | exact zkk ((zK_B (by omega) (by decide)).trans rfl) (by omega) | exact zkk (zK_row (by omega) (by omega)) (by omega) | exact zkk (zK_file (by omega) (by omega)) (by omega) | exact zkk (zK_byte (by omega) (by omega)) (by omega) | exact zkk (zK_list (by omega)) (by omega) | assumption); (case r180 => first | exact hR.1 _ _ _ rfl | assumption)
      refine zx_il4 zd89_80 ?_
      (with_reducible refine' zx_ialdN zd89_82 ?k182 ?j182 ?_); (case k182 => first | exact zkk rfl (by omega) | exact zkk (zK_B0 (by omega)) (by omega) | exact zkk ((zK_B (by omega) (by decide)).trans rfl) (by omega) | exact zkk (zK_row (by omega) (by omega)) (by omega) | exact zkk (zK_file (by omega) (by omega)) (by omega) | exact zkk (zK_byte (by omega) (by omega)) (by omega) | exact zkk (zK_list (by omega)) (by omega) | assumption); (case j182 => omega)
      rw [show zu I' 444 (8 * r + k) (Int32.ofNat (nm (s k))) 445 (80 + s k) = I' 445 (80 + s k) from rfl, hln' (s k) hsn]
      (with_reducible refine' zx_iastN zd89_83 ?k183 ?j183 ?a183 ?_); (case k183 => first | exact zkk rfl (by omega) | exact zkk (zK_B0 (by omega)) (by omega) | exact zkk ((zK_B (by omega) (by decide)).trans rfl) (by omega) | exact zkk (zK_row (by omega) (by omega)) (by omega) | exact zkk (zK_file (by omega) (by omega)) (by omega) | exact zkk (zK_byte (by omega) (by omega)) (by omega) | exact zkk (zK_list (by omega)) (by omega) | assumption); (case j183 => omega); (case a183 => omega)
      refine zx_c zd89_84 ?_
      refine zx_is6 zd89_85 rfl ?_
      obtain ⟨J1, eJ, h1, h2, h3⟩ : ∃ J1 : zI, zu (zu I' 444 (8 * r + k) (Int32.ofNat (nm (s k)))) 445 (8 * r + k) (Int32.ofNat (ln (s k))) = J1 ∧ J1 444 = zfill (I0 444) (8 * r) (k + 1) (fun j => I0 444 (80 + s j)) ∧ J1 445 = zfill (I0 445) (8 * r) (k + 1) (fun j => I0 445 (80 + s j)) ∧ ∀ b, b ≠ 444 → b ≠ 445 → J1 b = I' b := by
        refine ⟨_, rfl, ?_, ?_, fun b b1 b2 => ?_⟩
        · rw [zu_rw, zrw_ne _ _ (by decide), zu_rw, zrw_at, v1, ← zfill_succ]
          rw [(hnm (s k) hsn).1]
        · rw [zu_rw, zrw_at, zu_rw, zrw_ne _ _ (by decide), v2, ← zfill_succ]
          rw [(hln (s k) hsn).1]
        · rw [zu_rw, zrw_ne _ _ b2, zu_rw, zrw_ne _ _ b1]
      rw [eJ]
      have hG1 : ∀ i, i < 64 → (fun q => I0 446 (64 * (80 + s (q / 64)) + q % 64)) (64 * k + i) = I0 446 (64 * (80 + s k) + i) := fun i hi => by
        dsimp only
        rw [show (64 * k + i) / 64 = k by omega, show (64 * k + i) % 64 = i by omega]
      have h33 : J1 446 = zfill (I0 446) (512 * r) (64 * k) (fun q => I0 446 (64 * (80 + s (q / 64)) + q % 64)) := by rw [h3 446 (by decide) (by decide)]; exact v3
      have k1 := fun kk => zm_cl2 (L := L) (N := N) (U := U) (I := J1) (J := J) (R := R) (Q := Q) (F := I0 446) (r := r) (k := k) (o := s k) hR hN hr (by omega) (by omega) (l1 := some (.int (Int32.ofNat r))) (l2 := some (.int (Int32.ofNat (nm (s k))))) (l3 := some (.int (Int32.ofNat k))) hG1 h33 kk 64 0 rfl
      rw [show 64 * k + 0 = 64 * k from rfl, ← h33, zrw_id] at k1
      refine k1 (fun l6 => ?_)
      obtain ⟨J2, eJ2, g1, g2⟩ : ∃ J2 : zI, zrw J1 446 (zfill (I0 446) (512 * r) (64 * k + 64) (fun q => I0 446 (64 * (80 + s (q / 64)) + q % 64))) = J2 ∧ J2 446 = zfill (I0 446) (512 * r) (64 * k + 64) (fun q => I0 446 (64 * (80 + s (q / 64)) + q % 64)) ∧ ∀ b, b ≠ 446 → J2 b = J1 b := ⟨_, rfl, zrw_at _ _ _, fun b hb => zrw_ne _ _ hb⟩
      rw [eJ2]
      refine zx_al0 zd89_126 ?_
      refine zx_il5 zd89_127 ?_
      obtain ⟨J3, hr3, ho3, hm3, hf3⟩ := zm_lf (L := L) (N := N) (U := U) (I := J2) (J := J) (R := R) (f := 8 * r + k) (nm := nm (s k)) (l := ln (s k)) hR hN (fun j hj => by rw [g2 437 (by decide), h3 437 (by decide) (by decide), v5 437 (by decide) (by decide) (by decide)]; exact hK j hj)
        ⟨by rw [g2 436 (by decide), h3 436 (by decide) (by decide)]; exact hm.1, fun i hi => absurd hi (by simp)⟩ (by omega) (by rw [g2 444 (by decide), h1, zfill_in _ _ _ _ (Nat.lt_succ_self k)]; exact (hnm (s k) hsn).1) (hnm (s k) hsn).2 (by rw [g2 445 (by decide), h2, zfill_in _ _ _ _ (Nat.lt_succ_self k)]; exact (hln (s k) hsn).1) (hln (s k) hsn).2
      (refine zx_cv1V zd89_129 ?k188 (hr3) ?_); (case k188 => first | exact zkk rfl (by omega) | exact zkk (zK_B0 (by omega)) (by omega) | exact zkk ((zK_B (by omega) (by decide)).trans rfl) (by omega) | exact zkk (zK_row (by omega) (by omega)) (by omega) | exact zkk (zK_file (by omega) (by omega)) (by omega) | exact zkk (zK_byte (by omega) (by omega)) (by omega) | exact zkk (zK_list (by omega)) (by omega) | assumption)
      refine zx_c zd89_132 ?_
      refine zx_is6 zd89_133 rfl ?_
      have h34 : J3 447 = zfill (I0 447) (256 * r) (32 * k) (fun q => D (q / 32) (q % 32)) := by
        rw [hf3.1 447 (by decide) (by decide) (by decide) (by decide) (by decide) (by decide), g2 447 (by decide), h3 447 (by decide) (by decide)]; exact v4
      have hG2 : ∀ i, i < 32 → (fun q => D (q / 32) (q % 32)) (32 * k + i) = J3 442 i := fun i hi => by
        dsimp only
        rw [show (32 * k + i) / 32 = k by omega, show (32 * k + i) % 32 = i by omega, ho3, zfill_in0 _ _ _ hi, hD k hkn]
        have hl6 := (hln (s k) hsn).2
        have e : zrw0 (J2 446) (64 * (8 * r + k)) (ln (s k)) = zrw0 (I0 446) (64 * (80 + s k)) (ln (s k)) := zrw0_congr (fun a ha => by
          rw [g1, show 64 * (8 * r + k) + a = 512 * r + (64 * k + a) by omega, zfill_in _ _ _ _ (by omega)]
          exact hG1 a (by omega))
        unfold zlm
        rw [e]
      have k2 := fun kk => zm_cl3 (L := L) (N := N) (U := U) (I := J3) (J := J) (R := R) (Q := Q) (F := I0 447) (r := r) (k := k) (G := fun q => D (q / 32) (q % 32)) hR hN hr (by omega) (l1 := some (.int (Int32.ofNat r))) (l2 := some (.int (Int32.ofNat (nm (s k))))) (l3 := some (.int (Int32.ofNat k))) (l4 := some (.int (Int32.ofNat (80 + s k)))) hG2 kk 32 0 rfl
      rw [show 32 * k + 0 = 32 * k from rfl, ← h34, zrw_id] at k2
      refine k2 (fun l6 => ?_)
      first | with_reducible refine zx_iin3 zd89_168 ?_ | refine zx_ii3 zd89_168 ?_
      refine zx_goto zd89_171 ?_
      have ez : (Int32.ofNat (nm (s k))) = zfm (if k + 1 = 0 then 0 else nm (s (k + 1 - 1)) + 1) := by
        rw [if_neg (by omega), Nat.add_sub_cancel]; rfl
      rw [ez]
      refine ih (k + 1) _ _ _ _ (by omega) ⟨⟨?_, ?_, ?_, ?_⟩, fun b b1 b2 b3 => ?_, fun f hf => ?_⟩ ⟨by rw [zrw_ne _ _ (by decide)]; exact hm3.1, fun i hi => absurd hi (by simp)⟩
      · rw [zrw_ne _ _ (by decide), hf3.1 444 (by decide) (by decide) (by decide) (by decide) (by decide) (by decide), g2 444 (by decide)]; exact h1
      · rw [zrw_ne _ _ (by decide), hf3.1 445 (by decide) (by decide) (by decide) (by decide) (by decide) (by decide), g2 445 (by decide)]; exact h2
      · rw [zrw_ne _ _ (by decide), hf3.1 446 (by decide) (by decide) (by decide) (by decide) (by decide) (by decide), g1]; rfl
      · rw [zrw_at]; rfl
      · rw [zrw_ne _ _ (by omega), hf3.1 b b1 (by omega) (by omega) (by omega) (by omega) (by omega), g2 b (by omega), h3 b (by omega) (by omega)]; exact v5 b b1 b2 b3
      · rw [zrw_ne _ _ (by decide), hf3.2 f hf, g2 436 (by decide), h3 436 (by decide) (by decide)]; exact v6 f hf
/-- up to the root -/
theorem zm_cl4 (hR : zRs R) (hN : 459 ≤ N) {I0 : zI} {n : Nat} {D : Nat → Nat → Int32} (hn : n ≤ 8) (hK : ∀ j, j < 64 → I0 437 j = zKr j) {l1 l2 l3 l4 l5 l6 : Option Value}
    (kk : ∀ I' : zI, zMg [] I' → zRo I' (zwid n (zlvl n)) (zlev n D (zlvl n)) → I' 436 15 = Int32.ofNat (zwid n (zlvl n)) → zFg I0 I' → zW L 89 225 [some (.ref 436), l1, l2, l3, l4, l5, l6] [] (N, U, I', J, R) Q) :
    ∀ (q k : Nat) (I' : zI), k + q = zlvl n → zMg [] I' → zRo I' (zwid n k) (zlev n D k) → I' 436 15 = Int32.ofNat (zwid n k) → zFg I0 I' → zW L 89 210 [some (.ref 436), l1, l2, l3, l4, l5, l6] [] (N, U, I', J, R) Q := by
  intro q
  induction q with
  | zero =>
    intro k I' hk hm hD hw hf
    obtain rfl : k = zlvl n := by omega
    have hw8 := zwid_le hn (zlvl n)
    have hg := zwid_gt hn (Nat.le_refl (zlvl n))
    refine zx_al0 zd89_210 ?_
    (refine zx_gfI zd89_211 ?k194 ?_); (case k194 => first | exact zkk rfl (by omega) | exact zkk (zK_B0 (by omega)) (by omega) | exact zkk ((zK_B (by omega) (by decide)).trans rfl) (by omega) | exact zkk (zK_row (by omega) (by omega)) (by omega) | exact zkk (zK_file (by omega) (by omega)) (by omega) | exact zkk (zK_byte (by omega) (by omega)) (by omega) | exact zkk (zK_list (by omega)) (by omega) | assumption)
    rw [hw]
    refine zx_c zd89_214 ?_
    first | ((with_reducible refine zx_icmpleN zd89_215 ?s196 (fun h => ?_) (fun h => ?_)); (case s196 => omega)) | refine zx_icmple zd89_215 (fun h => ?_) (fun h => ?_)
    · exact kk I' hm hD hw hf
    · omega
  | succ q ih =>
    intro k I' hk hm hD hw hf
    have hw8 := zwid_le hn k
    have hg := zwid_gt hn (show k ≤ zlvl n by omega)
    refine zx_al0 zd89_210 ?_
    (refine zx_gfI zd89_211 ?k198 ?_); (case k198 => first | exact zkk rfl (by omega) | exact zkk (zK_B0 (by omega)) (by omega) | exact zkk ((zK_B (by omega) (by decide)).trans rfl) (by omega) | exact zkk (zK_row (by omega) (by omega)) (by omega) | exact zkk (zK_file (by omega) (by omega)) (by omega) | exact zkk (zK_byte (by omega) (by omega)) (by omega) | exact zkk (zK_list (by omega)) (by omega) | assumption)
    rw [hw]
    refine zx_c zd89_214 ?_
    first | ((with_reducible refine zx_icmpleN zd89_215 ?s200 (fun h => ?_) (fun h => ?_)); (case s200 => omega)) | refine zx_icmple zd89_215 (fun h => ?_) (fun h => ?_)
    · omega
    · refine zx_al0 zd89_218 ?_
      obtain ⟨I3, hr3, hD3, hw3, hm3, hf3⟩ := zm_gu (L := L) (U := U) (J := J) hR hN hw (by omega) hw8 (fun j hj => by rw [hf.1 437 (by decide) (by decide) (by decide)]; exact hK j hj) hm hD
      (refine zx_cv0V zd89_219 ?k202 (hr3) ?_); (case k202 => first | exact zkk rfl (by omega) | exact zkk (zK_B0 (by omega)) (by omega) | exact zkk ((zK_B (by omega) (by decide)).trans rfl) (by omega) | exact zkk (zK_row (by omega) (by omega)) (by omega) | exact zkk (zK_file (by omega) (by omega)) (by omega) | exact zkk (zK_byte (by omega) (by omega)) (by omega) | exact zkk (zK_list (by omega)) (by omega) | assumption)
      refine zx_goto zd89_222 ?_
      exact ih (k + 1) I3 (by omega) hm3 hD3 hw3 (hf.trans hf3)
/-- the root is laid -/
theorem zm_cl5 (hR : zRs R) (hN : 459 ≤ N) {r wd : Nat} (hr : r < 10) (hw : I 436 15 = Int32.ofNat wd) (hw8 : wd ≤ 8) {G : Nat → Int32} (hG : ∀ i, i < 32 → G i = if wd = 0 then I 442 i else I 449 i) {l2 l4 l5 l6 : Option Value} :
    ∀ (q i : Nat), i + q = 32 → zW L 89 238 [some (.ref 436), some (.int (Int32.ofNat r)), l2, some (.int (Int32.ofNat i)), l4, l5, l6] [] (N, U, zrw I 448 (zfill (I 448) (32 * r) i G), J, R) (fun o h => o = .inl (some (.int (Int32.ofNat r))) ∧ h = (N, U, zrw I 448 (zfill (I 448) (32 * r) 32 G), J, R)) := by
  intro q
  induction q with
  | zero =>
    intro i hi
    obtain rfl : i = 32 := by omega
    refine zx_il3 zd89_238 ?_
    refine zx_c zd89_239 ?_
    first | ((with_reducible refine zx_icmpgeN zd89_241 ?s206 (fun h => ?_) (fun h => ?_)); (case s206 => omega)) | refine zx_icmpge zd89_241 (fun h => ?_) (fun h => ?_)
    · refine zx_il1 zd89_283 ?_
      refine zx_iret zd89_284 (Or.inl rfl) ?_
      exact ⟨rfl, rfl⟩
    · omega
  | succ q ih =>
    intro i hi
    refine zx_il3 zd89_238 ?_
    refine zx_c zd89_239 ?_
    first | ((with_reducible refine zx_icmpgeN zd89_241 ?s211 (fun h => ?_) (fun h => ?_)); (case s211 => omega)) | refine zx_icmpge zd89_241 (fun h => ?_) (fun h => ?_)
    · omega
    · refine zx_al0 zd89_244 ?_
      (refine' zx_gfA zd89_245 ?k213 ?r213 ?_); (case k213 => first | exact zkk rfl (by omega) | exact zkk (zK_B0 (by omega)) (by omega) | exact zkk ((zK_B (by omega) (by decide)).trans rfl) (by omega) | exact zkk (zK_row (by omega) (by omega)) (by omega) | exact zkk (zK_file (by omega) (by omega)) (by omega) | exact zkk (zK_byte (by omega) (by omega)) (by omega) | exact zkk (zK_list (by omega)) (by omega) | assumption); (case r213 => first | exact hR.1 _ _ _ rfl | assumption)
      refine zx_c zd89_248 ?_
      refine zx_il1 zd89_250 ?_
      first | with_reducible refine zx_mulN zd89_251 ?_ | refine zx_mul zd89_251 ?_
      refine zx_il3 zd89_252 ?_
      first | with_reducible refine zx_addN zd89_253 ?_ | refine zx_add zd89_253 ?_
      refine zx_al0 zd89_254 ?_
      (refine zx_gfI zd89_255 ?k220 ?_); (case k220 => first | exact zkk rfl (by omega) | exact zkk (zK_B0 (by omega)) (by omega) | exact zkk ((zK_B (by omega) (by decide)).trans rfl) (by omega) | exact zkk (zK_row (by omega) (by omega)) (by omega) | exact zkk (zK_file (by omega) (by omega)) (by omega) | exact zkk (zK_byte (by omega) (by omega)) (by omega) | exact zkk (zK_list (by omega)) (by omega) | assumption)
      rw [zrw_ne _ _ (show 436 ≠ 448 by decide), hw]
      have e := zfill_succ (I 448) (32 * r) i G
      have k1 := ih (i + 1) (by omega)
      have hGi := hG i (by omega)
      first | ((with_reducible refine zx_ifneN zd89_258 ?s221 (fun h2 => ?_) (fun h2 => ?_)); (case s221 => omega)) | refine zx_ifne zd89_258 (fun h2 => ?_) (fun h2 => ?_)
      · refine zx_al0 zd89_270 ?_
        (refine' zx_gfA zd89_271 ?k223 ?r223 ?_); (case k223 => first | exact zkk rfl (by omega) | exact zkk (zK_B0 (by omega)) (by omega) | exact zkk ((zK_B (by omega) (by decide)).trans rfl) (by omega) | exact zkk (zK_row (by omega) (by omega)) (by omega) | exact zkk (zK_file (by omega) (by omega)) (by omega) | exact zkk (zK_byte (by omega) (by omega)) (by omega) | exact zkk (zK_list (by omega)) (by omega) | assumption); (case r223 => first | exact hR.1 _ _ _ rfl | assumption)
        refine zx_il3 zd89_274 ?_
        (with_reducible refine' zx_ialdN zd89_275 ?k225 ?j225 ?_); (case k225 => first | exact zkk rfl (by omega) | exact zkk (zK_B0 (by omega)) (by omega) | exact zkk ((zK_B (by omega) (by decide)).trans rfl) (by omega) | exact zkk (zK_row (by omega) (by omega)) (by omega) | exact zkk (zK_file (by omega) (by omega)) (by omega) | exact zkk (zK_byte (by omega) (by omega)) (by omega) | exact zkk (zK_list (by omega)) (by omega) | assumption); (case j225 => omega)
        (with_reducible refine' zx_iastN zd89_276 ?k226 ?j226 ?a226 ?_); (case k226 => first | exact zkk rfl (by omega) | exact zkk (zK_B0 (by omega)) (by omega) | exact zkk ((zK_B (by omega) (by decide)).trans rfl) (by omega) | exact zkk (zK_row (by omega) (by omega)) (by omega) | exact zkk (zK_file (by omega) (by omega)) (by omega) | exact zkk (zK_byte (by omega) (by omega)) (by omega) | exact zkk (zK_list (by omega)) (by omega) | assumption); (case j226 => omega); (case a226 => omega)
        first | with_reducible refine zx_iin3 zd89_277 ?_ | refine zx_ii3 zd89_277 ?_
        refine zx_goto zd89_280 ?_
        rw [← e, hGi, if_neg h2] at k1
        rw [zu_rw, zrw_rw, zrw_at, zrw_ne _ _ (show 449 ≠ 448 by decide)]
        exact k1
      · refine zx_al0 zd89_261 ?_
        (refine' zx_gfA zd89_262 ?k230 ?r230 ?_); (case k230 => first | exact zkk rfl (by omega) | exact zkk (zK_B0 (by omega)) (by omega) | exact zkk ((zK_B (by omega) (by decide)).trans rfl) (by omega) | exact zkk (zK_row (by omega) (by omega)) (by omega) | exact zkk (zK_file (by omega) (by omega)) (by omega) | exact zkk (zK_byte (by omega) (by omega)) (by omega) | exact zkk (zK_list (by omega)) (by omega) | assumption); (case r230 => first | exact hR.1 _ _ _ rfl | assumption)
        refine zx_il3 zd89_265 ?_
        (with_reducible refine' zx_ialdN zd89_266 ?k232 ?j232 ?_); (case k232 => first | exact zkk rfl (by omega) | exact zkk (zK_B0 (by omega)) (by omega) | exact zkk ((zK_B (by omega) (by decide)).trans rfl) (by omega) | exact zkk (zK_row (by omega) (by omega)) (by omega) | exact zkk (zK_file (by omega) (by omega)) (by omega) | exact zkk (zK_byte (by omega) (by omega)) (by omega) | exact zkk (zK_list (by omega)) (by omega) | assumption); (case j232 => omega)
        refine zx_goto zd89_267 ?_
        (with_reducible refine' zx_iastN zd89_276 ?k234 ?j234 ?a234 ?_); (case k234 => first | exact zkk rfl (by omega) | exact zkk (zK_B0 (by omega)) (by omega) | exact zkk ((zK_B (by omega) (by decide)).trans rfl) (by omega) | exact zkk (zK_row (by omega) (by omega)) (by omega) | exact zkk (zK_file (by omega) (by omega)) (by omega) | exact zkk (zK_byte (by omega) (by omega)) (by omega) | exact zkk (zK_list (by omega)) (by omega) | assumption); (case j234 => omega); (case a234 => omega)
        first | with_reducible refine zx_iin3 zd89_277 ?_ | refine zx_ii3 zd89_277 ?_
        refine zx_goto zd89_280 ?_
        rw [← e, hGi, if_pos h2] at k1
        rw [zu_rw, zrw_rw, zrw_at, zrw_ne _ _ (show 442 ≠ 448 by decide)]
        exact k1
theorem zwid_top {n : Nat} (h0 : 0 < n) (hn : n ≤ 8) : zwid n (zlvl n) = 1 := by
  have : ∀ m : Fin 9, 0 < m.val → zwid m.val (zlvl m.val) = 1 := by decide
  exact this ⟨n, by omega⟩ h0
theorem zm_clN (hN : 459 ≤ N) (hc : I 436 8 = Int32.ofNat 10) : zRet L 89 [.ref 436] (N, U, I, J, R) (some (.int (-1))) (N, U, zT I 0, J, R) := by
  show zW L 89 0 [some (.ref 436), none, none, none, none, none, none] [] _ _
  refine zx_al0 zd89_0 ?_
  refine zx_c zd89_1 ?_
  (refine zx_pfI zd89_2 ?k239 ?a239 ?_); (case k239 => first | exact zkk rfl (by omega) | exact zkk (zK_B0 (by omega)) (by omega) | exact zkk ((zK_B (by omega) (by decide)).trans rfl) (by omega) | exact zkk (zK_row (by omega) (by omega)) (by omega) | exact zkk (zK_file (by omega) (by omega)) (by omega) | exact zkk (zK_byte (by omega) (by omega)) (by omega) | exact zkk (zK_list (by omega)) (by omega) | assumption); (case a239 => omega)
  refine zx_al0 zd89_5 ?_
  (refine zx_gfI zd89_6 ?k241 ?_); (case k241 => first | exact zkk rfl (by omega) | exact zkk (zK_B0 (by omega)) (by omega) | exact zkk ((zK_B (by omega) (by decide)).trans rfl) (by omega) | exact zkk (zK_row (by omega) (by omega)) (by omega) | exact zkk (zK_file (by omega) (by omega)) (by omega) | exact zkk (zK_byte (by omega) (by omega)) (by omega) | exact zkk (zK_list (by omega)) (by omega) | assumption)
  rw [show zu I 436 0 (Int32.ofNat 0) 436 8 = I 436 8 from rfl, hc]
  refine zx_c zd89_9 ?_
  first | ((with_reducible refine zx_icmpneN zd89_11 ?s243 (fun h => ?_) (fun h => ?_)); (case s243 => omega)) | refine zx_icmpne zd89_11 (fun h => ?_) (fun h => ?_)
  · omega
  · refine zx_c zd89_14 ?_
    refine zx_iret zd89_15 (Or.inl rfl) ?_
    exact ⟨rfl, rfl⟩
/-- what a close leaves of the reference -/
def zClo (I I' : zI) (c n : Nat) (s : Nat → Nat) (D : Nat → Nat → Int32) : Prop :=
  (I' 443 = zup (zup (I 443) c (Int32.ofNat n)) 10 (Int32.ofNat 0) ∧ I' 444 = zfill (I 444) (8 * c) n (fun j => I 444 (80 + s j)) ∧ I' 445 = zfill (I 445) (8 * c) n (fun j => I 445 (80 + s j)) ∧ I' 446 = zfill (I 446) (512 * c) (64 * n) (fun q => I 446 (64 * (80 + s (q / 64)) + q % 64)) ∧ I' 447 = zfill (I 447) (256 * c) (32 * n) (fun q => D (q / 32) (q % 32)) ∧ ∃ G : Nat → Int32, I' 448 = zfill (I 448) (32 * c) 32 G ∧ ∀ b, b < 32 → G b = if n = 0 then zsha [] b else zlev n D (zlvl n) 0 b) ∧
  (∀ b, b ≠ 436 → (b < 438 ∨ 449 < b) → I' b = I b) ∧ I' 436 8 = Int32.ofNat (c + 1) ∧ ∀ f, f ≠ 0 → f ≠ 2 → f ≠ 8 → f ≠ 15 → I' 436 f = I 436 f
theorem zm_cl (hR : zRs R) (hN : 459 ≤ N) (hc : I 436 8 = Int32.ofNat c) (hc10 : c < 10) {n : Nat} {s nm ln : Nat → Nat} (hn : I 443 10 = Int32.ofNat n) (hn8 : n ≤ 8) (hnm : ∀ f, f < n → I 444 (80 + f) = Int32.ofNat (nm f) ∧ nm f < 65536) (hln : ∀ f, f < n → I 445 (80 + f) = Int32.ofNat (ln f) ∧ ln f ≤ 64) (ho : zOrd s nm n) (hK : ∀ j, j < 64 → I 437 j = zKr j) (hm : zMg [] I) {D : Nat → Nat → Int32} (hD : ∀ j, j < n → D j = zsha (zlm (nm (s j)) (ln (s j)) (I 446) (64 * (80 + s j)))) :
    ∃ I', zRet L 89 [.ref 436] (N, U, I, J, R) (some (.int (Int32.ofNat c))) (N, U, I', J, R) ∧ zMg [] I' ∧ zClo I I' c n s D := by
  have w0 : zW L 89 0 (zent 89 [.ref 436]) [] (N, U, I, J, R) (fun o h => o = .inl (some (.int (Int32.ofNat c))) ∧ ∃ I' : zI, h = (N, U, I', J, R) ∧ zMg [] I' ∧ zClo I I' c n s D) := by
    show zW L 89 0 [some (.ref 436), none, none, none, none, none, none] [] _ _
    refine zx_al0 zd89_0 ?_
    refine zx_c zd89_1 ?_
    (refine zx_pfI zd89_2 ?k248 ?a248 ?_); (case k248 => first | exact zkk rfl (by omega) | exact zkk (zK_B0 (by omega)) (by omega) | exact zkk ((zK_B (by omega) (by decide)).trans rfl) (by omega) | exact zkk (zK_row (by omega) (by omega)) (by omega) | exact zkk (zK_file (by omega) (by omega)) (by omega) | exact zkk (zK_byte (by omega) (by omega)) (by omega) | exact zkk (zK_list (by omega)) (by omega) | assumption); (case a248 => omega)
    refine zx_al0 zd89_5 ?_
    (refine zx_gfI zd89_6 ?k250 ?_); (case k250 => first | exact zkk rfl (by omega) | exact zkk (zK_B0 (by omega)) (by omega) | exact zkk ((zK_B (by omega) (by decide)).trans rfl) (by omega) | exact zkk (zK_row (by omega) (by omega)) (by omega) | exact zkk (zK_file (by omega) (by omega)) (by omega) | exact zkk (zK_byte (by omega) (by omega)) (by omega) | exact zkk (zK_list (by omega)) (by omega) | assumption)
    rw [show zu I 436 0 (Int32.ofNat 0) 436 8 = I 436 8 from rfl, hc]
    refine zx_c zd89_9 ?_
    first | ((with_reducible refine zx_icmpneN zd89_11 ?s252 (fun h => ?_) (fun h => ?_)); (case s252 => omega)) | refine zx_icmpne zd89_11 (fun h => ?_) (fun h => ?_)
    · refine zx_al0 zd89_16 ?_
      (refine zx_gfI zd89_17 ?k254 ?_); (case k254 => first | exact zkk rfl (by omega) | exact zkk (zK_B0 (by omega)) (by omega) | exact zkk ((zK_B (by omega) (by decide)).trans rfl) (by omega) | exact zkk (zK_row (by omega) (by omega)) (by omega) | exact zkk (zK_file (by omega) (by omega)) (by omega) | exact zkk (zK_byte (by omega) (by omega)) (by omega) | exact zkk (zK_list (by omega)) (by omega) | assumption)
      rw [show zu I 436 0 (Int32.ofNat 0) 436 8 = I 436 8 from rfl, hc]
      refine zx_is1 zd89_20 rfl ?_
      refine zx_c zd89_21 ?_
      refine zx_is2 zd89_22 rfl ?_
      refine zx_c zd89_23 ?_
      refine zx_is3 zd89_24 rfl ?_
      refine zm_cl1 (L := L) (N := N) (U := U) (I0 := zT I 0) (J := J) (R := R) (r := c) (n := n) (s := s) (nm := nm) (ln := ln) (D := D) hR hN hc10 hn hn8 hnm hln ho hK hD ?_ n 0 (zT I 0) none none none (by omega) ⟨⟨?_, ?_, ?_, ?_⟩, fun b _ _ _ => rfl, fun f _ => rfl⟩ hm
      · intro I1 l2 l3 l4 l5 l6 hv hm1
        obtain ⟨⟨v1, v2, v3, v4⟩, v5, v6⟩ := hv
        have h10 : I1 443 10 = Int32.ofNat n := by rw [v5 443 (by decide) (by decide) (by decide)]; exact hn
        refine zx_al0 zd89_174 ?_
        (refine' zx_gfA zd89_175 ?k261 ?r261 ?_); (case k261 => first | exact zkk rfl (by omega) | exact zkk (zK_B0 (by omega)) (by omega) | exact zkk ((zK_B (by omega) (by decide)).trans rfl) (by omega) | exact zkk (zK_row (by omega) (by omega)) (by omega) | exact zkk (zK_file (by omega) (by omega)) (by omega) | exact zkk (zK_byte (by omega) (by omega)) (by omega) | exact zkk (zK_list (by omega)) (by omega) | assumption); (case r261 => first | exact hR.1 _ _ _ rfl | assumption)
        refine zx_il1 zd89_178 ?_
        refine zx_al0 zd89_179 ?_
        (refine' zx_gfA zd89_180 ?k264 ?r264 ?_); (case k264 => first | exact zkk rfl (by omega) | exact zkk (zK_B0 (by omega)) (by omega) | exact zkk ((zK_B (by omega) (by decide)).trans rfl) (by omega) | exact zkk (zK_row (by omega) (by omega)) (by omega) | exact zkk (zK_file (by omega) (by omega)) (by omega) | exact zkk (zK_byte (by omega) (by omega)) (by omega) | exact zkk (zK_list (by omega)) (by omega) | assumption); (case r264 => first | exact hR.1 _ _ _ rfl | assumption)
        refine zx_c zd89_183 ?_
        (with_reducible refine' zx_ialdN zd89_185 ?k266 ?j266 ?_); (case k266 => first | exact zkk rfl (by omega) | exact zkk (zK_B0 (by omega)) (by omega) | exact zkk ((zK_B (by omega) (by decide)).trans rfl) (by omega) | exact zkk (zK_row (by omega) (by omega)) (by omega) | exact zkk (zK_file (by omega) (by omega)) (by omega) | exact zkk (zK_byte (by omega) (by omega)) (by omega) | exact zkk (zK_list (by omega)) (by omega) | assumption); (case j266 => omega)
        rw [h10]
        (with_reducible refine' zx_iastN zd89_186 ?k267 ?j267 ?a267 ?_); (case k267 => first | exact zkk rfl (by omega) | exact zkk (zK_B0 (by omega)) (by omega) | exact zkk ((zK_B (by omega) (by decide)).trans rfl) (by omega) | exact zkk (zK_row (by omega) (by omega)) (by omega) | exact zkk (zK_file (by omega) (by omega)) (by omega) | exact zkk (zK_byte (by omega) (by omega)) (by omega) | exact zkk (zK_list (by omega)) (by omega) | assumption); (case j267 => omega); (case a267 => omega)
        refine zx_al0 zd89_187 ?_
        (refine' zx_gfA zd89_188 ?k269 ?r269 ?_); (case k269 => first | exact zkk rfl (by omega) | exact zkk (zK_B0 (by omega)) (by omega) | exact zkk ((zK_B (by omega) (by decide)).trans rfl) (by omega) | exact zkk (zK_row (by omega) (by omega)) (by omega) | exact zkk (zK_file (by omega) (by omega)) (by omega) | exact zkk (zK_byte (by omega) (by omega)) (by omega) | exact zkk (zK_list (by omega)) (by omega) | assumption); (case r269 => first | exact hR.1 _ _ _ rfl | assumption)
        refine zx_c zd89_191 ?_
        refine zx_c zd89_193 ?_
        (with_reducible refine' zx_iastN zd89_194 ?k272 ?j272 ?a272 ?_); (case k272 => first | exact zkk rfl (by omega) | exact zkk (zK_B0 (by omega)) (by omega) | exact zkk ((zK_B (by omega) (by decide)).trans rfl) (by omega) | exact zkk (zK_row (by omega) (by omega)) (by omega) | exact zkk (zK_file (by omega) (by omega)) (by omega) | exact zkk (zK_byte (by omega) (by omega)) (by omega) | exact zkk (zK_list (by omega)) (by omega) | assumption); (case j272 => omega); (case a272 => omega)
        refine zx_al0 zd89_195 ?_
        first | refine zx_dupR zd89_196 ?_ | refine zx_dupI zd89_196 ?_
        (refine zx_gfI zd89_197 ?k275 ?_); (case k275 => first | exact zkk rfl (by omega) | exact zkk (zK_B0 (by omega)) (by omega) | exact zkk ((zK_B (by omega) (by decide)).trans rfl) (by omega) | exact zkk (zK_row (by omega) (by omega)) (by omega) | exact zkk (zK_file (by omega) (by omega)) (by omega) | exact zkk (zK_byte (by omega) (by omega)) (by omega) | exact zkk (zK_list (by omega)) (by omega) | assumption)
        rw [show zu (zu I1 443 c (Int32.ofNat n)) 443 10 (Int32.ofNat 0) 436 8 = I1 436 8 from rfl, show I1 436 8 = Int32.ofNat c from (v6 8 (by decide)).trans hc]
        refine zx_c zd89_200 ?_
        first | with_reducible refine zx_addN zd89_201 ?_ | refine zx_add zd89_201 ?_
        (refine zx_pfI zd89_202 ?k278 ?a278 ?_); (case k278 => first | exact zkk rfl (by omega) | exact zkk (zK_B0 (by omega)) (by omega) | exact zkk ((zK_B (by omega) (by decide)).trans rfl) (by omega) | exact zkk (zK_row (by omega) (by omega)) (by omega) | exact zkk (zK_file (by omega) (by omega)) (by omega) | exact zkk (zK_byte (by omega) (by omega)) (by omega) | exact zkk (zK_list (by omega)) (by omega) | assumption); (case a278 => omega)
        refine zx_al0 zd89_205 ?_
        refine zx_il1 zd89_206 ?_
        obtain ⟨I2, e2, a1, a2, a3, a4⟩ : ∃ I2 : zI, zu (zu (zu I1 443 c (Int32.ofNat n)) 443 10 (Int32.ofNat 0)) 436 8 (Int32.ofNat (c + 1)) = I2 ∧ I2 443 = zup (zup (I1 443) c (Int32.ofNat n)) 10 (Int32.ofNat 0) ∧ I2 436 8 = Int32.ofNat (c + 1) ∧ (∀ f, f ≠ 8 → I2 436 f = I1 436 f) ∧ ∀ b, b ≠ 436 → b ≠ 443 → I2 b = I1 b := by
          refine ⟨_, rfl, ?_, rfl, fun f hf => if_neg (fun e => hf e.2), fun b b1 b2 => ?_⟩
          · rw [zu_rw, zrw_ne _ _ (by decide), zu_rw, zrw_at, zu_rw, zrw_at]
          · rw [zu_rw, zrw_ne _ _ b1, zu_rw, zrw_ne _ _ b2, zu_rw, zrw_ne _ _ b2]
        rw [e2]
        obtain ⟨I3, hr3, hD3, hw3, hf3, hz3⟩ := zm_lr (L := L) (N := N) (U := U) (I := I2) (J := J) (R := R) (r := c) (n := n) hR hN hc10 (by rw [a1, zup_ne _ _ (by omega), zup_at]) hn8
        (refine zx_cv1V zd89_207 ?k281 (hr3) ?_); (case k281 => first | exact zkk rfl (by omega) | exact zkk (zK_B0 (by omega)) (by omega) | exact zkk ((zK_B (by omega) (by decide)).trans rfl) (by omega) | exact zkk (zK_row (by omega) (by omega)) (by omega) | exact zkk (zK_file (by omega) (by omega)) (by omega) | exact zkk (zK_byte (by omega) (by omega)) (by omega) | exact zkk (zK_list (by omega)) (by omega) | assumption)
        have hm3 : zMg [] I3 := ⟨by rw [hz3, a3 2 (by decide)]; exact hm1.1, fun i hi => absurd hi (by simp)⟩
        have hD3' : zRo I3 n D := fun i hi b hb => by
          rw [hD3 i hi b hb]
          show I2 447 (256 * c + (32 * i + b)) = D i b
          rw [a4 447 (by decide) (by decide), v4, zfill_in _ _ _ _ (by omega)]
          rw [show (32 * i + b) / 32 = i by omega, show (32 * i + b) % 32 = b by omega]
        refine zm_cl4 (L := L) (N := N) (U := U) (I0 := I2) (J := J) (R := R) (n := n) (D := D) hR hN hn8 (fun j hj => by rw [a4 437 (by decide) (by decide), v5 437 (by decide) (by decide) (by decide)]; exact hK j hj) ?_ (zlvl n) 0 I3 (by omega) hm3 hD3' hw3 hf3
        intro I4 hm4 hD4 hw4 hf4
        have hwd8 := zwid_le hn8 (zlvl n)
        have fin : ∀ (I5 : zI) (G : Nat → Int32), zMg [] I5 → zFg I2 I5 → I5 436 15 = Int32.ofNat (zwid n (zlvl n)) → (∀ i, i < 32 → G i = if zwid n (zlvl n) = 0 then I5 442 i else I5 449 i) → (∀ b, b < 32 → G b = if n = 0 then zsha [] b else zlev n D (zlvl n) 0 b) →
            zW L 89 236 [some (.ref 436), some (.int (Int32.ofNat c)), l2, l3, l4, l5, l6] [] (N, U, I5, J, R) (fun o h => o = .inl (some (.int (Int32.ofNat c))) ∧ ∃ I' : zI, h = (N, U, I', J, R) ∧ zMg [] I' ∧ zClo I I' c n s D) := by
          intro I5 G hm5 hf5 hw5 hG hG2
          refine zx_c zd89_236 ?_
          refine zx_is3 zd89_237 rfl ?_
          have k1 := zm_cl5 (L := L) (N := N) (U := U) (I := I5) (J := J) (R := R) (r := c) (wd := zwid n (zlvl n)) hR hN hc10 hw5 hwd8 (G := G) hG (l2 := l2) (l4 := l4) (l5 := l5) (l6 := l6) 32 0 rfl
          rw [zfill_zero, zrw_id] at k1
          refine zW.mono k1 (fun o h hq => ⟨hq.1, _, hq.2, ⟨by rw [zrw_ne _ _ (by decide)]; exact hm5.1, fun i hi => absurd hi (by simp)⟩, ⟨?_, ?_, ?_, ?_, ?_, G, ?_, hG2⟩, fun b b1 b2 => ?_, ?_, fun f f1 f2 f3 f4 => ?_⟩)
          · rw [zrw_ne _ _ (by decide), hf5.1 443 (by decide) (by decide) (by decide), a1, v5 443 (by decide) (by decide) (by decide), zT_row _ _ (by decide)]
          · rw [zrw_ne _ _ (by decide), hf5.1 444 (by decide) (by decide) (by decide), a4 444 (by decide) (by decide), v1, zT_row _ _ (by decide)]
          · rw [zrw_ne _ _ (by decide), hf5.1 445 (by decide) (by decide) (by decide), a4 445 (by decide) (by decide), v2, zT_row _ _ (by decide)]
          · rw [zrw_ne _ _ (by decide), hf5.1 446 (by decide) (by decide) (by decide), a4 446 (by decide) (by decide), v3, zT_row _ _ (by decide)]
          · rw [zrw_ne _ _ (by decide), hf5.1 447 (by decide) (by decide) (by decide), a4 447 (by decide) (by decide), v4, zT_row _ _ (by decide)]
          · rw [zrw_at, hf5.1 448 (by decide) (by decide) (by decide), a4 448 (by decide) (by decide), v5 448 (by decide) (by decide) (by decide), zT_row _ _ (by decide)]
          · rw [zrw_ne _ _ (by omega), hf5.1 b b1 (by omega) (by omega), a4 b b1 (by omega), v5 b b1 (by omega) (by omega), zT_row _ _ b1]
          · rw [zrw_ne _ _ (by decide), hf5.2 8 (by decide) (by decide)]; exact a2
          · rw [zrw_ne _ _ (by decide), hf5.2 f f2 f4, a3 f f3, v6 f f2, zT_f _ _ f1]
        refine zx_al0 zd89_225 ?_
        (refine zx_gfI zd89_226 ?k285 ?_); (case k285 => first | exact zkk rfl (by omega) | exact zkk (zK_B0 (by omega)) (by omega) | exact zkk ((zK_B (by omega) (by decide)).trans rfl) (by omega) | exact zkk (zK_row (by omega) (by omega)) (by omega) | exact zkk (zK_file (by omega) (by omega)) (by omega) | exact zkk (zK_byte (by omega) (by omega)) (by omega) | exact zkk (zK_list (by omega)) (by omega) | assumption)
        rw [hw4]
        first | ((with_reducible refine zx_ifneN zd89_229 ?s286 (fun h2 => ?_) (fun h2 => ?_)); (case s286 => omega)) | refine zx_ifne zd89_229 (fun h2 => ?_) (fun h2 => ?_)
        · have hn0 : 0 < n := by
            rcases Nat.eq_zero_or_pos n with e | e
            · exact absurd (by rw [e]; rfl) h2
            · exact e
          refine fin I4 (fun b => I4 449 b) hm4 hf4 hw4 (fun i hi => by rw [if_neg h2]) (fun b hb => ?_)
          rw [if_neg (by omega)]
          have := hD4 0 (by rw [zwid_top hn0 hn8]; decide) b hb
          rw [Nat.mul_zero, Nat.zero_add] at this
          exact this
        · have hn0 : n = 0 := by
            rcases Nat.eq_zero_or_pos n with e | e
            · exact e
            · rw [zwid_top e hn8] at h2; cases h2
          refine zx_al0 zd89_232 ?_
          obtain ⟨I5, hr5, ho5, hm5, hf5⟩ := zs_mdig (L := L) (U := U) (J := J) hR hN (fun i hi => by rw [hf4.1 437 (by decide) (by decide) (by decide), a4 437 (by decide) (by decide), v5 437 (by decide) (by decide) (by decide)]; exact hK i hi) hm4 (by decide)
          (refine zx_cv0V zd89_233 ?k288 (hr5) ?_); (case k288 => first | exact zkk rfl (by omega) | exact zkk (zK_B0 (by omega)) (by omega) | exact zkk ((zK_B (by omega) (by decide)).trans rfl) (by omega) | exact zkk (zK_row (by omega) (by omega)) (by omega) | exact zkk (zK_file (by omega) (by omega)) (by omega) | exact zkk (zK_byte (by omega) (by omega)) (by omega) | exact zkk (zK_list (by omega)) (by omega) | assumption)
          refine fin I5 (zsha []) hm5 (hf4.trans hf5.to) (by rw [hf5.2 15 (by decide)]; exact hw4) (fun i hi => by rw [if_pos h2, ho5, zfill_in0 _ _ _ hi]) (fun b hb => by rw [if_pos hn0])
      · rw [zfill_zero]
      · rw [zfill_zero]
      · rw [Nat.mul_zero, zfill_zero]
      · rw [Nat.mul_zero, zfill_zero]
    · omega
  obtain ⟨k, hr, I', rfl, hd⟩ := zRet_of w0
  exact ⟨I', hr, hd⟩
end ZM7
