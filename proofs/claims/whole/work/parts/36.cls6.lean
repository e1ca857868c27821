/-! THE CLASS: the check of a claim -/
/-- a byte -/
def zb8 (x : Int32) : Prop := x &&& Int32.ofNat 255 = x
theorem zb8_n {b : Nat} (h : b < 256) : zb8 (Int32.ofNat b) := by
  unfold zb8
  rw [zn_and]
  congr 1
  have : (255 : Nat) = 2 ^ 8 - 1 := rfl
  rw [this, Nat.and_two_pow_sub_one_eq_mod]
  omega
theorem zb8_sha (m : List Int32) (i : Nat) : zb8 (zsha m i) := by
  unfold zb8 zsha
  rw [Int32.and_assoc]
  congr 1
theorem zrow_eq {f : Nat → Int32} {p n : Nat} (h : ∀ i, i < n → zb8 (f (p + i))) : zrow f p n = zrw0 f p n := by
  unfold zrow zrw0
  exact List.map_congr_left (fun i hi => h i (List.mem_range.mp hi))
theorem zrw0_congr {f g : Nat → Int32} {p q n : Nat} (h : ∀ i, i < n → f (p + i) = g (q + i)) : zrw0 f p n = zrw0 g q n := by
  unfold zrw0
  exact List.map_congr_left (fun i hi => h i (List.mem_range.mp hi))
/-- the marks of the steps -/
def zmks (b : Nat → Nat) (p : Nat) : Nat → Nat → Bool
  | _, 0 => true
  | i, n + 1 => if 1 < b (p + 33 * i) then false else zmks b p (i + 1) n
/-- the claim is well formed but for the marks; whole -/
def zwf0 (q : Nat) (b : Nat → Nat) : Bool := decide (3 < q) && (decide (b 3 ≤ 64) && (decide (4 + b 3 < q) && decide (q = 5 + b 3 + 33 * b (4 + b 3))))
def zwf (q : Nat) (b : Nat → Nat) : Bool := zwf0 q b && zmks b (5 + b 3) 0 (b (4 + b 3))
def zcl0 (f : Nat → Int32) (n : Nat) : Nat → Int32 := zsha ([Int32.ofNat 0] ++ zrw0 f 1 2 ++ zrw0 f 4 n)
def zcstp (f : Nat → Int32) (p : Nat) (cur : Nat → Int32) : Nat → Int32 := zsha ([Int32.ofNat 1] ++ (if f p = 0 then zrw0 f (p + 1) 32 ++ zrw0 cur 0 32 else zrw0 cur 0 32 ++ zrw0 f (p + 1) 32))
/-- what the claim climbs to, after s steps -/
def zclm (f : Nat → Int32) (n : Nat) : Nat → Nat → Int32
  | 0 => zcl0 f n
  | s + 1 => zcstp f (5 + n + 33 * s) (zclm f n s)
/-- the claim's bytes -/
def zBy (I : zI) (q : Nat) (b : Nat → Nat) : Prop := I 433 1 = Int32.ofNat q ∧ q ≤ 300 ∧ ∀ i, i < q → I 434 i = Int32.ofNat (b i) ∧ b i < 256
section ZC6
variable {L N U : Nat} {I : zI} {J : zJ} {R : zR} {c : Nat}
theorem zc_sca (hR : zRs R) (hN : 459 ≤ N) {q : Nat} {b : Nat → Nat} (hb : zBy I q b) (h3 : 3 < q) : zRet L 30 [.ref 433] (N, U, I, J, R) (some (.int (Int32.ofNat (4 + b 3)))) (N, U, I, J, R) := by
  show zW L 30 0 [some (.ref 433)] [] _ _
  refine zx_c zd30_0 ?_
  refine zx_al0 zd30_1 ?_
  (refine' zx_gfA zd30_2 ?k3 ?r3 ?_); (case k3 => first | exact zkk rfl (by omega) | exact zkk (zK_B0 (by omega)) (by omega) | exact zkk ((zK_B (by omega) (by decide)).trans rfl) (by omega) | exact zkk (zK_row (by omega) (by omega)) (by omega) | exact zkk (zK_file (by omega) (by omega)) (by omega) | exact zkk (zK_byte (by omega) (by omega)) (by omega) | exact zkk (zK_list (by omega)) (by omega) | assumption); (case r3 => first | exact hR.1 _ _ _ rfl | exact hR.2.1 _ (by omega) | exact (hR.2.2.2 _ (by omega)).1.1 | exact (hR.2.2.2 _ (by omega)).1.2.1 | exact (hR.2.2.2 _ (by omega)).1.2.2 | assumption)
  refine zx_c zd30_5 ?_
  (with_reducible refine' zx_ialdN zd30_6 ?k5 ?j5 ?_); (case k5 => first | exact zkk rfl (by omega) | exact zkk (zK_B0 (by omega)) (by omega) | exact zkk ((zK_B (by omega) (by decide)).trans rfl) (by omega) | exact zkk (zK_row (by omega) (by omega)) (by omega) | exact zkk (zK_file (by omega) (by omega)) (by omega) | exact zkk (zK_byte (by omega) (by omega)) (by omega) | exact zkk (zK_list (by omega)) (by omega) | assumption); (case j5 => omega)
  rw [(hb.2.2 3 h3).1]
  first | with_reducible refine zx_addN zd30_7 ?_ | refine zx_add zd30_7 ?_
  refine zx_iret zd30_8 (Or.inl rfl) ?_
  exact ⟨rfl, rfl⟩
theorem zc_sa (hR : zRs R) (hN : 459 ≤ N) {q : Nat} {b : Nat → Nat} (hb : zBy I q b) (h3 : 3 < q) (s : Nat) : zRet L 31 [.ref 433, .int (Int32.ofNat s)] (N, U, I, J, R) (some (.int (Int32.ofNat (5 + b 3 + 33 * s)))) (N, U, I, J, R) := by
  show zW L 31 0 [some (.ref 433), some (.int (Int32.ofNat s))] [] _ _
  refine zx_al0 zd31_0 ?_
  (refine zx_cv0I zd31_1 ?k9 (zc_sca hR hN hb h3) ?_); (case k9 => first | exact zkk rfl (by omega) | exact zkk (zK_B0 (by omega)) (by omega) | exact zkk ((zK_B (by omega) (by decide)).trans rfl) (by omega) | exact zkk (zK_row (by omega) (by omega)) (by omega) | exact zkk (zK_file (by omega) (by omega)) (by omega) | exact zkk (zK_byte (by omega) (by omega)) (by omega) | exact zkk (zK_list (by omega)) (by omega) | assumption)
  refine zx_c zd31_4 ?_
  first | with_reducible refine zx_addN zd31_5 ?_ | refine zx_add zd31_5 ?_
  refine zx_il1 zd31_6 ?_
  refine zx_c zd31_7 ?_
  first | with_reducible refine zx_mulN zd31_9 ?_ | refine zx_mul zd31_9 ?_
  first | with_reducible refine zx_addN zd31_10 ?_ | refine zx_add zd31_10 ?_
  refine zx_iret zd31_11 (Or.inl rfl) ?_
  exact ⟨by rw [show 4 + b 3 + 1 + s * 33 = 5 + b 3 + 33 * s by omega], rfl⟩
theorem zc_rn (hR : zRs R) (hN : 459 ≤ N) : zRet L 32 [.ref 433] (N, U, I, J, R) (some (.int (I 434 0))) (N, U, I, J, R) := by
  show zW L 32 0 [some (.ref 433)] [] _ _
  refine zx_al0 zd32_0 ?_
  (refine' zx_gfA zd32_1 ?k18 ?r18 ?_); (case k18 => first | exact zkk rfl (by omega) | exact zkk (zK_B0 (by omega)) (by omega) | exact zkk ((zK_B (by omega) (by decide)).trans rfl) (by omega) | exact zkk (zK_row (by omega) (by omega)) (by omega) | exact zkk (zK_file (by omega) (by omega)) (by omega) | exact zkk (zK_byte (by omega) (by omega)) (by omega) | exact zkk (zK_list (by omega)) (by omega) | assumption); (case r18 => first | exact hR.1 _ _ _ rfl | exact hR.2.1 _ (by omega) | exact (hR.2.2.2 _ (by omega)).1.1 | exact (hR.2.2.2 _ (by omega)).1.2.1 | exact (hR.2.2.2 _ (by omega)).1.2.2 | assumption)
  refine zx_c zd32_4 ?_
  (with_reducible refine' zx_ialdN zd32_5 ?k20 ?j20 ?_); (case k20 => first | exact zkk rfl (by omega) | exact zkk (zK_B0 (by omega)) (by omega) | exact zkk ((zK_B (by omega) (by decide)).trans rfl) (by omega) | exact zkk (zK_row (by omega) (by omega)) (by omega) | exact zkk (zK_file (by omega) (by omega)) (by omega) | exact zkk (zK_byte (by omega) (by omega)) (by omega) | exact zkk (zK_list (by omega)) (by omega) | assumption); (case j20 => omega)
  refine zx_iret zd32_6 (Or.inl rfl) ?_
  exact ⟨rfl, rfl⟩
theorem zc_wf0 (hR : zRs R) (hN : 459 ≤ N) {q : Nat} {b : Nat → Nat} (hb : zBy I q b) (h3 : 3 < q) {n : Nat} (hn : q = 5 + b 3 + 33 * n) : ∀ (k i : Nat), i + k = n →
    zW L 28 58 [some (.ref 433), some (.int (Int32.ofNat n)), some (.int (Int32.ofNat i))] [] (N, U, I, J, R) (fun o h => o = .inl (some (.int (zbi (zmks b (5 + b 3) i k)))) ∧ h = (N, U, I, J, R)) := by
  have hq := hb.2.1
  intro k
  induction k with
  | zero =>
    intro i hi
    refine zx_il2 zd28_58 ?_
    refine zx_il1 zd28_59 ?_
    first | ((with_reducible refine zx_icmpgeN zd28_60 ?s24 (fun h => ?_) (fun h => ?_)); (case s24 => omega)) | refine zx_icmpge zd28_60 (fun h => ?_) (fun h => ?_)
    · refine zx_c zd28_85 ?_
      refine zx_iret zd28_86 (Or.inr ⟨rfl, by first | exact Or.inl rfl | exact Or.inr rfl | assumption⟩) ?_
      exact ⟨rfl, rfl⟩
    · omega
  | succ k ih =>
    intro i hi
    have hbi := hb.2.2 (5 + b 3 + 33 * i) (by omega)
    refine zx_il2 zd28_58 ?_
    refine zx_il1 zd28_59 ?_
    first | ((with_reducible refine zx_icmpgeN zd28_60 ?s29 (fun h => ?_) (fun h => ?_)); (case s29 => omega)) | refine zx_icmpge zd28_60 (fun h => ?_) (fun h => ?_)
    · omega
    · refine zx_al0 zd28_63 ?_
      (refine' zx_gfA zd28_64 ?k31 ?r31 ?_); (case k31 => first | exact zkk rfl (by omega) | exact zkk (zK_B0 (by omega)) (by omega) | exact zkk ((zK_B (by omega) (by decide)).trans rfl) (by omega) | exact zkk (zK_row (by omega) (by omega)) (by omega) | exact zkk (zK_file (by omega) (by omega)) (by omega) | exact zkk (zK_byte (by omega) (by omega)) (by omega) | exact zkk (zK_list (by omega)) (by omega) | assumption); (case r31 => first | exact hR.1 _ _ _ rfl | exact hR.2.1 _ (by omega) | exact (hR.2.2.2 _ (by omega)).1.1 | exact (hR.2.2.2 _ (by omega)).1.2.1 | exact (hR.2.2.2 _ (by omega)).1.2.2 | assumption)
      refine zx_al0 zd28_67 ?_
      refine zx_il2 zd28_68 ?_
      (refine zx_cv1I zd28_69 ?k34 (zc_sa hR hN hb h3 i) ?_); (case k34 => first | exact zkk rfl (by omega) | exact zkk (zK_B0 (by omega)) (by omega) | exact zkk ((zK_B (by omega) (by decide)).trans rfl) (by omega) | exact zkk (zK_row (by omega) (by omega)) (by omega) | exact zkk (zK_file (by omega) (by omega)) (by omega) | exact zkk (zK_byte (by omega) (by omega)) (by omega) | exact zkk (zK_list (by omega)) (by omega) | assumption)
      (with_reducible refine' zx_ialdN zd28_72 ?k35 ?j35 ?_); (case k35 => first | exact zkk rfl (by omega) | exact zkk (zK_B0 (by omega)) (by omega) | exact zkk ((zK_B (by omega) (by decide)).trans rfl) (by omega) | exact zkk (zK_row (by omega) (by omega)) (by omega) | exact zkk (zK_file (by omega) (by omega)) (by omega) | exact zkk (zK_byte (by omega) (by omega)) (by omega) | exact zkk (zK_list (by omega)) (by omega) | assumption); (case j35 => omega)
      rw [hbi.1]
      refine zx_c zd28_73 ?_
      first | ((with_reducible refine zx_icmpleN zd28_74 ?s37 (fun h2 => ?_) (fun h2 => ?_)); (case s37 => omega)) | refine zx_icmple zd28_74 (fun h2 => ?_) (fun h2 => ?_)
      · first | with_reducible refine zx_iin2 zd28_79 ?_ | refine zx_ii2 zd28_79 ?_
        refine zx_goto zd28_82 ?_
        have e : zmks b (5 + b 3) i (k + 1) = zmks b (5 + b 3) (i + 1) k := if_neg (by omega)
        rw [e]; exact ih (i + 1) (by omega)
      · refine zx_c zd28_77 ?_
        refine zx_iret zd28_78 (Or.inr ⟨rfl, by first | exact Or.inl rfl | exact Or.inr rfl | assumption⟩) ?_
        have e : zmks b (5 + b 3) i (k + 1) = false := if_pos h2
        rw [e]; exact ⟨rfl, rfl⟩
theorem zc_wf (hR : zRs R) (hN : 459 ≤ N) {q : Nat} {b : Nat → Nat} (hb : zBy I q b) : zRet L 28 [.ref 433] (N, U, I, J, R) (some (.int (zbi (zwf q b)))) (N, U, I, J, R) := by
  have hq := hb.2.1
  show zW L 28 0 [some (.ref 433), none, none] [] _ _
  refine zx_al0 zd28_0 ?_
  refine zx_c zd28_1 ?_
  by_cases h3 : 3 < q
  · have h38 := hb.2.2 3 h3
    (refine zx_cv1I zd28_2 ?k44 (zc_hb hN hb.1 hq h3) ?_); (case k44 => first | exact zkk rfl (by omega) | exact zkk (zK_B0 (by omega)) (by omega) | exact zkk ((zK_B (by omega) (by decide)).trans rfl) (by omega) | exact zkk (zK_row (by omega) (by omega)) (by omega) | exact zkk (zK_file (by omega) (by omega)) (by omega) | exact zkk (zK_byte (by omega) (by omega)) (by omega) | exact zkk (zK_list (by omega)) (by omega) | assumption)
    first | ((with_reducible refine zx_ifeqN zd28_5 ?s45 (fun h => ?_) (fun h => ?_)); (case s45 => omega)) | refine zx_ifeq zd28_5 (fun h => ?_) (fun h => ?_)
    · omega
    · refine zx_al0 zd28_8 ?_
      (refine' zx_gfA zd28_9 ?k47 ?r47 ?_); (case k47 => first | exact zkk rfl (by omega) | exact zkk (zK_B0 (by omega)) (by omega) | exact zkk ((zK_B (by omega) (by decide)).trans rfl) (by omega) | exact zkk (zK_row (by omega) (by omega)) (by omega) | exact zkk (zK_file (by omega) (by omega)) (by omega) | exact zkk (zK_byte (by omega) (by omega)) (by omega) | exact zkk (zK_list (by omega)) (by omega) | assumption); (case r47 => first | exact hR.1 _ _ _ rfl | exact hR.2.1 _ (by omega) | exact (hR.2.2.2 _ (by omega)).1.1 | exact (hR.2.2.2 _ (by omega)).1.2.1 | exact (hR.2.2.2 _ (by omega)).1.2.2 | assumption)
      refine zx_c zd28_12 ?_
      (with_reducible refine' zx_ialdN zd28_13 ?k49 ?j49 ?_); (case k49 => first | exact zkk rfl (by omega) | exact zkk (zK_B0 (by omega)) (by omega) | exact zkk ((zK_B (by omega) (by decide)).trans rfl) (by omega) | exact zkk (zK_row (by omega) (by omega)) (by omega) | exact zkk (zK_file (by omega) (by omega)) (by omega) | exact zkk (zK_byte (by omega) (by omega)) (by omega) | exact zkk (zK_list (by omega)) (by omega) | assumption); (case j49 => omega)
      rw [h38.1]
      refine zx_c zd28_14 ?_
      first | ((with_reducible refine zx_icmpgtN zd28_16 ?s51 (fun h2 => ?_) (fun h2 => ?_)); (case s51 => omega)) | refine zx_icmpgt zd28_16 (fun h2 => ?_) (fun h2 => ?_)
      · refine zx_c zd28_30 ?_
        refine zx_iret zd28_31 (Or.inr ⟨rfl, by first | exact Or.inl rfl | exact Or.inr rfl | assumption⟩) ?_
        have e : zwf q b = false := by
          unfold zwf zwf0
          rw [decide_eq_false (show ¬ b 3 ≤ 64 by omega)]
          simp
        rw [e]; exact ⟨rfl, rfl⟩
      · refine zx_al0 zd28_19 ?_
        refine zx_al0 zd28_20 ?_
        (refine zx_cv0I zd28_21 ?k56 (zc_sca hR hN hb h3) ?_); (case k56 => first | exact zkk rfl (by omega) | exact zkk (zK_B0 (by omega)) (by omega) | exact zkk ((zK_B (by omega) (by decide)).trans rfl) (by omega) | exact zkk (zK_row (by omega) (by omega)) (by omega) | exact zkk (zK_file (by omega) (by omega)) (by omega) | exact zkk (zK_byte (by omega) (by omega)) (by omega) | exact zkk (zK_list (by omega)) (by omega) | assumption)
        by_cases h5 : 4 + b 3 < q
        · have h48 := hb.2.2 (4 + b 3) h5
          (refine zx_cv1I zd28_24 ?k57 (zc_hb hN hb.1 hq h5) ?_); (case k57 => first | exact zkk rfl (by omega) | exact zkk (zK_B0 (by omega)) (by omega) | exact zkk ((zK_B (by omega) (by decide)).trans rfl) (by omega) | exact zkk (zK_row (by omega) (by omega)) (by omega) | exact zkk (zK_file (by omega) (by omega)) (by omega) | exact zkk (zK_byte (by omega) (by omega)) (by omega) | exact zkk (zK_list (by omega)) (by omega) | assumption)
          first | ((with_reducible refine zx_ifneN zd28_27 ?s58 (fun h6 => ?_) (fun h6 => ?_)); (case s58 => omega)) | refine zx_ifne zd28_27 (fun h6 => ?_) (fun h6 => ?_)
          · refine zx_al0 zd28_32 ?_
            (refine' zx_gfA zd28_33 ?k60 ?r60 ?_); (case k60 => first | exact zkk rfl (by omega) | exact zkk (zK_B0 (by omega)) (by omega) | exact zkk ((zK_B (by omega) (by decide)).trans rfl) (by omega) | exact zkk (zK_row (by omega) (by omega)) (by omega) | exact zkk (zK_file (by omega) (by omega)) (by omega) | exact zkk (zK_byte (by omega) (by omega)) (by omega) | exact zkk (zK_list (by omega)) (by omega) | assumption); (case r60 => first | exact hR.1 _ _ _ rfl | exact hR.2.1 _ (by omega) | exact (hR.2.2.2 _ (by omega)).1.1 | exact (hR.2.2.2 _ (by omega)).1.2.1 | exact (hR.2.2.2 _ (by omega)).1.2.2 | assumption)
            refine zx_al0 zd28_36 ?_
            (refine zx_cv0I zd28_37 ?k62 (zc_sca hR hN hb h3) ?_); (case k62 => first | exact zkk rfl (by omega) | exact zkk (zK_B0 (by omega)) (by omega) | exact zkk ((zK_B (by omega) (by decide)).trans rfl) (by omega) | exact zkk (zK_row (by omega) (by omega)) (by omega) | exact zkk (zK_file (by omega) (by omega)) (by omega) | exact zkk (zK_byte (by omega) (by omega)) (by omega) | exact zkk (zK_list (by omega)) (by omega) | assumption)
            (with_reducible refine' zx_ialdN zd28_40 ?k63 ?j63 ?_); (case k63 => first | exact zkk rfl (by omega) | exact zkk (zK_B0 (by omega)) (by omega) | exact zkk ((zK_B (by omega) (by decide)).trans rfl) (by omega) | exact zkk (zK_row (by omega) (by omega)) (by omega) | exact zkk (zK_file (by omega) (by omega)) (by omega) | exact zkk (zK_byte (by omega) (by omega)) (by omega) | exact zkk (zK_list (by omega)) (by omega) | assumption); (case j63 => omega)
            rw [h48.1]
            refine zx_is1 zd28_41 rfl ?_
            refine zx_al0 zd28_42 ?_
            (refine zx_gfI zd28_43 ?k66 ?_); (case k66 => first | exact zkk rfl (by omega) | exact zkk (zK_B0 (by omega)) (by omega) | exact zkk ((zK_B (by omega) (by decide)).trans rfl) (by omega) | exact zkk (zK_row (by omega) (by omega)) (by omega) | exact zkk (zK_file (by omega) (by omega)) (by omega) | exact zkk (zK_byte (by omega) (by omega)) (by omega) | exact zkk (zK_list (by omega)) (by omega) | assumption)
            refine zx_al0 zd28_46 ?_
            refine zx_il1 zd28_47 ?_
            rw [hb.1]
            (refine zx_cv1I zd28_48 ?k69 (zc_sa hR hN hb h3 _) ?_); (case k69 => first | exact zkk rfl (by omega) | exact zkk (zK_B0 (by omega)) (by omega) | exact zkk ((zK_B (by omega) (by decide)).trans rfl) (by omega) | exact zkk (zK_row (by omega) (by omega)) (by omega) | exact zkk (zK_file (by omega) (by omega)) (by omega) | exact zkk (zK_byte (by omega) (by omega)) (by omega) | exact zkk (zK_list (by omega)) (by omega) | assumption)
            first | ((with_reducible refine zx_icmpeqN zd28_51 ?s70 (fun h7 => ?_) (fun h7 => ?_)); (case s70 => omega)) | refine zx_icmpeq zd28_51 (fun h7 => ?_) (fun h7 => ?_)
            · refine zx_c zd28_56 ?_
              refine zx_is2 zd28_57 rfl ?_
              have e : zwf q b = zmks b (5 + b 3) 0 (b (4 + b 3)) := by
                unfold zwf zwf0
                rw [decide_eq_true h3, decide_eq_true (show b 3 ≤ 64 by omega), decide_eq_true h5, decide_eq_true h7]
                simp
              rw [e]
              exact zc_wf0 hR hN hb h3 h7 _ 0 (by omega)
            · refine zx_c zd28_54 ?_
              refine zx_iret zd28_55 (Or.inr ⟨rfl, by first | exact Or.inl rfl | exact Or.inr rfl | assumption⟩) ?_
              have e : zwf q b = false := by
                unfold zwf zwf0
                rw [decide_eq_false h7]
                simp
              rw [e]; exact ⟨rfl, rfl⟩
          · omega
        · (refine zx_cv1I zd28_24 ?k75 (zc_hbN hN hb.1 (Or.inr (by rw [zn_lt (by omega) (by omega)]; omega))) ?_); (case k75 => first | exact zkk rfl (by omega) | exact zkk (zK_B0 (by omega)) (by omega) | exact zkk ((zK_B (by omega) (by decide)).trans rfl) (by omega) | exact zkk (zK_row (by omega) (by omega)) (by omega) | exact zkk (zK_file (by omega) (by omega)) (by omega) | exact zkk (zK_byte (by omega) (by omega)) (by omega) | exact zkk (zK_list (by omega)) (by omega) | assumption)
          first | ((with_reducible refine zx_ifneN zd28_27 ?s76 (fun h6 => ?_) (fun h6 => ?_)); (case s76 => omega)) | refine zx_ifne zd28_27 (fun h6 => ?_) (fun h6 => ?_)
          · omega
          · refine zx_c zd28_30 ?_
            refine zx_iret zd28_31 (Or.inr ⟨rfl, by first | exact Or.inl rfl | exact Or.inr rfl | assumption⟩) ?_
            have e : zwf q b = false := by
              unfold zwf zwf0
              rw [decide_eq_false h5]
              simp
            rw [e]; exact ⟨rfl, rfl⟩
  · (refine zx_cv1I zd28_2 ?k79 (zc_hbN hN hb.1 (Or.inr (by rw [zn_lt (by omega) (by omega)]; omega))) ?_); (case k79 => first | exact zkk rfl (by omega) | exact zkk (zK_B0 (by omega)) (by omega) | exact zkk ((zK_B (by omega) (by decide)).trans rfl) (by omega) | exact zkk (zK_row (by omega) (by omega)) (by omega) | exact zkk (zK_file (by omega) (by omega)) (by omega) | exact zkk (zK_byte (by omega) (by omega)) (by omega) | exact zkk (zK_list (by omega)) (by omega) | assumption)
    first | ((with_reducible refine zx_ifeqN zd28_5 ?s80 (fun h => ?_) (fun h => ?_)); (case s80 => omega)) | refine zx_ifeq zd28_5 (fun h => ?_) (fun h => ?_)
    · refine zx_c zd28_30 ?_
      refine zx_iret zd28_31 (Or.inr ⟨rfl, by first | exact Or.inl rfl | exact Or.inr rfl | assumption⟩) ?_
      have e : zwf q b = false := by
        unfold zwf zwf0
        rw [decide_eq_false h3]
        simp
      rw [e]; exact ⟨rfl, rfl⟩
    · omega
/-- a step up -/
theorem zc_cst (hR : zRs R) (hN : 459 ≤ N) (hC : zCs I) {p : Nat} (hp : p + 33 ≤ 300) (h8 : ∀ i, i < 32 → zb8 (I 434 (p + 1 + i))) (h9 : ∀ i, i < 32 → zb8 (I 435 i)) :
    ∃ I', zRet L 34 [.ref 433, .int (Int32.ofNat p), .ref 4, .ref 435] (N, U, I, J, R) none (N, U, I', J, R) ∧ I' 435 = zfill (I 435) 0 32 (zcstp (I 434) p (I 435)) ∧ zF4 435 I I' := by
  have r0 : R 4 0 = some 5 := hR.1 _ _ _ rfl
  have r1 : R 4 1 = some 6 := hR.1 _ _ _ rfl
  have w : zW L 34 0 (zent 34 [.ref 433, .int (Int32.ofNat p), .ref 4, .ref 435]) [] (N, U, I, J, R) (fun o k => o = .inl none ∧ ∃ I' : zI, k = (N, U, I', J, R) ∧ I' 435 = zfill (I 435) 0 32 (zcstp (I 434) p (I 435)) ∧ zF4 435 I I') := by
    show zW L 34 0 [some (.ref 433), some (.int (Int32.ofNat p)), some (.ref 4), some (.ref 435)] [] _ _
    refine zx_al2 zd34_0 ?_
    obtain ⟨I1, hr1, hd1, hf1⟩ := zs_begin (L := L) (U := U) (J := J) r0 (show 6 < N by omega) hC
    (refine zx_cv0V zd34_1 ?k84 (hr1) ?_); (case k84 => first | exact zkk rfl (by omega) | exact zkk (zK_B0 (by omega)) (by omega) | exact zkk ((zK_B (by omega) (by decide)).trans rfl) (by omega) | exact zkk (zK_row (by omega) (by omega)) (by omega) | exact zkk (zK_file (by omega) (by omega)) (by omega) | exact zkk (zK_byte (by omega) (by omega)) (by omega) | exact zkk (zK_list (by omega)) (by omega) | assumption)
    refine zx_al2 zd34_4 ?_
    refine zx_c zd34_5 ?_
    have hC1 := hf1.cs hC
    obtain ⟨I2, hr2, hd2, hf2⟩ := zs_put (L := L) (U := U) (J := J) r0 r1 (show 6 < N by omega) hC1 hd1 (by decide) (Int32.ofNat 1)
    (refine zx_cv1V zd34_6 ?k87 (hr2) ?_); (case k87 => first | exact zkk rfl (by omega) | exact zkk (zK_B0 (by omega)) (by omega) | exact zkk ((zK_B (by omega) (by decide)).trans rfl) (by omega) | exact zkk (zK_row (by omega) (by omega)) (by omega) | exact zkk (zK_file (by omega) (by omega)) (by omega) | exact zkk (zK_byte (by omega) (by omega)) (by omega) | exact zkk (zK_list (by omega)) (by omega) | assumption)
    have hC2 := hf2.cs hC1
    have hf12 := hf1.trans hf2
    have e621 : I2 434 = I 434 := hf12 434 (by decide) (by decide) (by decide)
    have e622 : I2 435 = I 435 := hf12 435 (by decide) (by decide) (by decide)
    refine zx_al0 zd34_9 ?_
    (refine' zx_gfA zd34_10 ?k89 ?r89 ?_); (case k89 => first | exact zkk rfl (by omega) | exact zkk (zK_B0 (by omega)) (by omega) | exact zkk ((zK_B (by omega) (by decide)).trans rfl) (by omega) | exact zkk (zK_row (by omega) (by omega)) (by omega) | exact zkk (zK_file (by omega) (by omega)) (by omega) | exact zkk (zK_byte (by omega) (by omega)) (by omega) | exact zkk (zK_list (by omega)) (by omega) | assumption); (case r89 => first | exact hR.1 _ _ _ rfl | exact hR.2.1 _ (by omega) | exact (hR.2.2.2 _ (by omega)).1.1 | exact (hR.2.2.2 _ (by omega)).1.2.1 | exact (hR.2.2.2 _ (by omega)).1.2.2 | assumption)
    refine zx_il1 zd34_13 ?_
    (with_reducible refine' zx_ialdN zd34_14 ?k91 ?j91 ?_); (case k91 => first | exact zkk rfl (by omega) | exact zkk (zK_B0 (by omega)) (by omega) | exact zkk ((zK_B (by omega) (by decide)).trans rfl) (by omega) | exact zkk (zK_row (by omega) (by omega)) (by omega) | exact zkk (zK_file (by omega) (by omega)) (by omega) | exact zkk (zK_byte (by omega) (by omega)) (by omega) | exact zkk (zK_list (by omega)) (by omega) | assumption); (case j91 => omega)
    rw [e621]
    refine zx_ifne zd34_15 (fun hm => ?_) (fun hm => ?_)
    · refine zx_al2 zd34_39 ?_
      refine zx_al3 zd34_40 ?_
      obtain ⟨I3, hr3, hd3, hf3⟩ := zs_putAll (L := L) (U := U) (J := J) r0 r1 (show 6 < N by omega) (a := 435) (n := 32) (zkk rfl (by omega)) (by decide) (by decide) hC2 hd2 (by decide)
      (refine zx_cv1V zd34_41 ?k94 (hr3) ?_); (case k94 => first | exact zkk rfl (by omega) | exact zkk (zK_B0 (by omega)) (by omega) | exact zkk ((zK_B (by omega) (by decide)).trans rfl) (by omega) | exact zkk (zK_row (by omega) (by omega)) (by omega) | exact zkk (zK_file (by omega) (by omega)) (by omega) | exact zkk (zK_byte (by omega) (by omega)) (by omega) | exact zkk (zK_list (by omega)) (by omega) | assumption)
      have hC3 := hf3.cs hC2
      refine zx_al2 zd34_44 ?_
      refine zx_al0 zd34_45 ?_
      (refine' zx_gfA zd34_46 ?k97 ?r97 ?_); (case k97 => first | exact zkk rfl (by omega) | exact zkk (zK_B0 (by omega)) (by omega) | exact zkk ((zK_B (by omega) (by decide)).trans rfl) (by omega) | exact zkk (zK_row (by omega) (by omega)) (by omega) | exact zkk (zK_file (by omega) (by omega)) (by omega) | exact zkk (zK_byte (by omega) (by omega)) (by omega) | exact zkk (zK_list (by omega)) (by omega) | assumption); (case r97 => first | exact hR.1 _ _ _ rfl | exact hR.2.1 _ (by omega) | exact (hR.2.2.2 _ (by omega)).1.1 | exact (hR.2.2.2 _ (by omega)).1.2.1 | exact (hR.2.2.2 _ (by omega)).1.2.2 | assumption)
      refine zx_il1 zd34_49 ?_
      refine zx_c zd34_50 ?_
      first | with_reducible refine zx_addN zd34_51 ?_ | refine zx_add zd34_51 ?_
      refine zx_c zd34_52 ?_
      obtain ⟨I4, hr4, hd4, hf4⟩ := zs_putPart (L := L) (U := U) (J := J) r0 r1 (show 6 < N by omega) (a := 434) (n := 300) (p := p + 1) (c := 32) (zkk rfl (by omega)) (by decide) (by decide) (by omega) hC3 hd3 (by rw [List.length_append, zrow_len]; decide)
      (refine zx_cv3V zd34_54 ?k102 (hr4) ?_); (case k102 => first | exact zkk rfl (by omega) | exact zkk (zK_B0 (by omega)) (by omega) | exact zkk ((zK_B (by omega) (by decide)).trans rfl) (by omega) | exact zkk (zK_row (by omega) (by omega)) (by omega) | exact zkk (zK_file (by omega) (by omega)) (by omega) | exact zkk (zK_byte (by omega) (by omega)) (by omega) | exact zkk (zK_list (by omega)) (by omega) | assumption)
      have hC4 := hf4.cs hC3
      refine zx_al2 zd34_57 ?_
      refine zx_al3 zd34_58 ?_
      have hF := (hf12.trans hf3).trans hf4
      obtain ⟨I5, hr5, hd5, hf5⟩ := zs_finish (L := L) (U := U) (J := J) r0 r1 (show 6 < N by omega) (a := 435) (zkk rfl (by omega)) (by decide) hC4 hd4 (by rw [List.length_append, zrow_len, List.length_append, zrow_len]; decide)
      (refine zx_cv1V zd34_59 ?k105 (hr5) ?_); (case k105 => first | exact zkk rfl (by omega) | exact zkk (zK_B0 (by omega)) (by omega) | exact zkk ((zK_B (by omega) (by decide)).trans rfl) (by omega) | exact zkk (zK_row (by omega) (by omega)) (by omega) | exact zkk (zK_file (by omega) (by omega)) (by omega) | exact zkk (zK_byte (by omega) (by omega)) (by omega) | exact zkk (zK_list (by omega)) (by omega) | assumption)
      refine zx_vret zd34_62 rfl ?_
      refine ⟨rfl, I5, rfl, ?_, (hF.to4).trans hf5⟩
      rw [hd5, hF 435 (by decide) (by decide) (by decide)]
      have e3 : I3 434 = I 434 := (hf12.trans hf3) 434 (by decide) (by decide) (by decide)
      rw [e3, e622, zrow_eq (fun i hi => by rw [Nat.zero_add]; exact h9 i hi), zrow_eq h8]
      unfold zcstp
      rw [if_neg hm]
      rfl
    · refine zx_al2 zd34_18 ?_
      refine zx_al0 zd34_19 ?_
      (refine' zx_gfA zd34_20 ?k109 ?r109 ?_); (case k109 => first | exact zkk rfl (by omega) | exact zkk (zK_B0 (by omega)) (by omega) | exact zkk ((zK_B (by omega) (by decide)).trans rfl) (by omega) | exact zkk (zK_row (by omega) (by omega)) (by omega) | exact zkk (zK_file (by omega) (by omega)) (by omega) | exact zkk (zK_byte (by omega) (by omega)) (by omega) | exact zkk (zK_list (by omega)) (by omega) | assumption); (case r109 => first | exact hR.1 _ _ _ rfl | exact hR.2.1 _ (by omega) | exact (hR.2.2.2 _ (by omega)).1.1 | exact (hR.2.2.2 _ (by omega)).1.2.1 | exact (hR.2.2.2 _ (by omega)).1.2.2 | assumption)
      refine zx_il1 zd34_23 ?_
      refine zx_c zd34_24 ?_
      first | with_reducible refine zx_addN zd34_25 ?_ | refine zx_add zd34_25 ?_
      refine zx_c zd34_26 ?_
      obtain ⟨I3, hr3, hd3, hf3⟩ := zs_putPart (L := L) (U := U) (J := J) r0 r1 (show 6 < N by omega) (a := 434) (n := 300) (p := p + 1) (c := 32) (zkk rfl (by omega)) (by decide) (by decide) (by omega) hC2 hd2 (by decide)
      (refine zx_cv3V zd34_28 ?k114 (hr3) ?_); (case k114 => first | exact zkk rfl (by omega) | exact zkk (zK_B0 (by omega)) (by omega) | exact zkk ((zK_B (by omega) (by decide)).trans rfl) (by omega) | exact zkk (zK_row (by omega) (by omega)) (by omega) | exact zkk (zK_file (by omega) (by omega)) (by omega) | exact zkk (zK_byte (by omega) (by omega)) (by omega) | exact zkk (zK_list (by omega)) (by omega) | assumption)
      have hC3 := hf3.cs hC2
      refine zx_al2 zd34_31 ?_
      refine zx_al3 zd34_32 ?_
      obtain ⟨I4, hr4, hd4, hf4⟩ := zs_putAll (L := L) (U := U) (J := J) r0 r1 (show 6 < N by omega) (a := 435) (n := 32) (zkk rfl (by omega)) (by decide) (by decide) hC3 hd3 (by rw [List.length_append, zrow_len]; decide)
      (refine zx_cv1V zd34_33 ?k117 (hr4) ?_); (case k117 => first | exact zkk rfl (by omega) | exact zkk (zK_B0 (by omega)) (by omega) | exact zkk ((zK_B (by omega) (by decide)).trans rfl) (by omega) | exact zkk (zK_row (by omega) (by omega)) (by omega) | exact zkk (zK_file (by omega) (by omega)) (by omega) | exact zkk (zK_byte (by omega) (by omega)) (by omega) | exact zkk (zK_list (by omega)) (by omega) | assumption)
      have hC4 := hf4.cs hC3
      refine zx_goto zd34_36 ?_
      refine zx_al2 zd34_57 ?_
      refine zx_al3 zd34_58 ?_
      have hF := (hf12.trans hf3).trans hf4
      obtain ⟨I5, hr5, hd5, hf5⟩ := zs_finish (L := L) (U := U) (J := J) r0 r1 (show 6 < N by omega) (a := 435) (zkk rfl (by omega)) (by decide) hC4 hd4 (by rw [List.length_append, zrow_len, List.length_append, zrow_len]; decide)
      (refine zx_cv1V zd34_59 ?k121 (hr5) ?_); (case k121 => first | exact zkk rfl (by omega) | exact zkk (zK_B0 (by omega)) (by omega) | exact zkk ((zK_B (by omega) (by decide)).trans rfl) (by omega) | exact zkk (zK_row (by omega) (by omega)) (by omega) | exact zkk (zK_file (by omega) (by omega)) (by omega) | exact zkk (zK_byte (by omega) (by omega)) (by omega) | exact zkk (zK_list (by omega)) (by omega) | assumption)
      refine zx_vret zd34_62 rfl ?_
      refine ⟨rfl, I5, rfl, ?_, (hF.to4).trans hf5⟩
      rw [hd5, hF 435 (by decide) (by decide) (by decide)]
      have e3 : I3 435 = I 435 := (hf12.trans hf3) 435 (by decide) (by decide) (by decide)
      rw [e3, e621, zrow_eq h8, zrow_eq (fun i hi => by rw [Nat.zero_add]; exact h9 i hi)]
      unfold zcstp
      rw [if_pos hm]
      rfl
  obtain ⟨k, hr, I', rfl, hd, hf⟩ := zRet_of w
  exact ⟨I', hr, hd, hf⟩
theorem zcstp_congr {f cur cur' : Nat → Int32} {p : Nat} (h : ∀ i, i < 32 → cur i = cur' i) : zcstp f p cur = zcstp f p cur' := by
  unfold zcstp
  rw [zrw0_congr (f := cur) (g := cur') (p := 0) (q := 0) (n := 32) (fun i hi => by rw [Nat.zero_add]; exact h i hi)]
theorem zc_clb0 (hR : zRs R) (hN : 459 ≤ N) {I0 : zI} {q n : Nat} {b : Nat → Nat} (hb : zBy I0 q b) (h3 : 3 < q) (hn : q = 5 + b 3 + 33 * n) : ∀ (k i : Nat) (I' : zI), i + k = n → zCs I' → zF4 435 I0 I' → (∀ j, j < 32 → I' 435 j = zclm (I0 434) (b 3) i j) →
    zW L 33 52 [some (.ref 433), some (.ref 4), some (.ref 435), some (.int (Int32.ofNat n)), some (.int (Int32.ofNat i))] [] (N, U, I', J, R) (fun o k => o = .inl none ∧ ∃ I' : zI, k = (N, U, I', J, R) ∧ (∀ j, j < 32 → I' 435 j = zclm (I0 434) (b 3) n j) ∧ zF4 435 I0 I') := by
  have hq := hb.2.1
  intro k
  induction k with
  | zero =>
    intro i I' hi hC hf hm
    obtain rfl : i = n := by omega
    refine zx_il4 zd33_52 ?_
    refine zx_il3 zd33_54 ?_
    first | ((with_reducible refine zx_icmpgeN zd33_55 ?s125 (fun h => ?_) (fun h => ?_)); (case s125 => omega)) | refine zx_icmpge zd33_55 (fun h => ?_) (fun h => ?_)
    · refine zx_vret zd33_76 rfl ?_
      exact ⟨rfl, I', rfl, hm, hf⟩
    · omega
  | succ k ih =>
    intro i I' hi hC hf hm
    have e621 : I' 434 = I0 434 := hf 434 (by decide) (by decide) (by decide) (by decide)
    have e620 : I' 433 = I0 433 := hf 433 (by decide) (by decide) (by decide) (by decide)
    have hb' : zBy I' q b := ⟨by rw [e620]; exact hb.1, hq, fun j hj => by rw [e621]; exact hb.2.2 j hj⟩
    refine zx_il4 zd33_52 ?_
    refine zx_il3 zd33_54 ?_
    first | ((with_reducible refine zx_icmpgeN zd33_55 ?s129 (fun h => ?_) (fun h => ?_)); (case s129 => omega)) | refine zx_icmpge zd33_55 (fun h => ?_) (fun h => ?_)
    · omega
    · refine zx_al0 zd33_58 ?_
      refine zx_al0 zd33_59 ?_
      refine zx_il4 zd33_60 ?_
      (refine zx_cv1I zd33_62 ?k133 (zc_sa hR hN hb' h3 i) ?_); (case k133 => first | exact zkk rfl (by omega) | exact zkk (zK_B0 (by omega)) (by omega) | exact zkk ((zK_B (by omega) (by decide)).trans rfl) (by omega) | exact zkk (zK_row (by omega) (by omega)) (by omega) | exact zkk (zK_file (by omega) (by omega)) (by omega) | exact zkk (zK_byte (by omega) (by omega)) (by omega) | exact zkk (zK_list (by omega)) (by omega) | assumption)
      refine zx_al1 zd33_65 ?_
      refine zx_al2 zd33_66 ?_
      obtain ⟨I2, hr2, hd2, hf2⟩ := zc_cst (L := L) (U := U) (J := J) hR hN hC (p := 5 + b 3 + 33 * i) (by omega) (fun j hj => by rw [(hb'.2.2 (5 + b 3 + 33 * i + 1 + j) (by omega)).1]; exact zb8_n (hb'.2.2 (5 + b 3 + 33 * i + 1 + j) (by omega)).2) (fun j hj => by rw [hm j hj]; cases i <;> exact zb8_sha _ _)
      (refine zx_cv3V zd33_67 ?k136 (hr2) ?_); (case k136 => first | exact zkk rfl (by omega) | exact zkk (zK_B0 (by omega)) (by omega) | exact zkk ((zK_B (by omega) (by decide)).trans rfl) (by omega) | exact zkk (zK_row (by omega) (by omega)) (by omega) | exact zkk (zK_file (by omega) (by omega)) (by omega) | exact zkk (zK_byte (by omega) (by omega)) (by omega) | exact zkk (zK_list (by omega)) (by omega) | assumption)
      first | with_reducible refine zx_iin4 zd33_70 ?_ | refine zx_ii4 zd33_70 ?_
      refine zx_goto zd33_73 ?_
      refine ih (i + 1) I2 (by omega) (hf2.cs (by decide) hC) (hf.trans hf2) (fun j hj => ?_)
      rw [hd2, zfill_in0 _ _ _ hj, zcstp_congr hm, e621]
      rfl
theorem zc_clb (hR : zRs R) (hN : 459 ≤ N) (hC : zCs I) {q n : Nat} {b : Nat → Nat} (hb : zBy I q b) (h3 : 3 < q) (h64 : b 3 ≤ 64) (h4 : 4 + b 3 < q) (hbn : b (4 + b 3) = n) (hn : q = 5 + b 3 + 33 * n) :
    ∃ I', zRet L 33 [.ref 433, .ref 4, .ref 435] (N, U, I, J, R) none (N, U, I', J, R) ∧ (∀ j, j < 32 → I' 435 j = zclm (I 434) (b 3) n j) ∧ zF4 435 I I' := by
  have r0 : R 4 0 = some 5 := hR.1 _ _ _ rfl
  have r1 : R 4 1 = some 6 := hR.1 _ _ _ rfl
  have hq := hb.2.1
  have h8 : ∀ j, j < q → zb8 (I 434 j) := fun j hj => by rw [(hb.2.2 j hj).1]; exact zb8_n (hb.2.2 j hj).2
  have w : zW L 33 0 (zent 33 [.ref 433, .ref 4, .ref 435]) [] (N, U, I, J, R) (fun o k => o = .inl none ∧ ∃ I' : zI, k = (N, U, I', J, R) ∧ (∀ j, j < 32 → I' 435 j = zclm (I 434) (b 3) n j) ∧ zF4 435 I I') := by
    show zW L 33 0 [some (.ref 433), some (.ref 4), some (.ref 435), none, none] [] _ _
    refine zx_al1 zd33_0 ?_
    obtain ⟨I1, hr1, hd1, hf1⟩ := zs_begin (L := L) (U := U) (J := J) r0 (show 6 < N by omega) hC
    (refine zx_cv0V zd33_1 ?k140 (hr1) ?_); (case k140 => first | exact zkk rfl (by omega) | exact zkk (zK_B0 (by omega)) (by omega) | exact zkk ((zK_B (by omega) (by decide)).trans rfl) (by omega) | exact zkk (zK_row (by omega) (by omega)) (by omega) | exact zkk (zK_file (by omega) (by omega)) (by omega) | exact zkk (zK_byte (by omega) (by omega)) (by omega) | exact zkk (zK_list (by omega)) (by omega) | assumption)
    refine zx_al1 zd33_4 ?_
    refine zx_c zd33_5 ?_
    have hC1 := hf1.cs hC
    obtain ⟨I2, hr2, hd2, hf2⟩ := zs_put (L := L) (U := U) (J := J) r0 r1 (show 6 < N by omega) hC1 hd1 (by decide) (Int32.ofNat 0)
    (refine zx_cv1V zd33_6 ?k143 (hr2) ?_); (case k143 => first | exact zkk rfl (by omega) | exact zkk (zK_B0 (by omega)) (by omega) | exact zkk ((zK_B (by omega) (by decide)).trans rfl) (by omega) | exact zkk (zK_row (by omega) (by omega)) (by omega) | exact zkk (zK_file (by omega) (by omega)) (by omega) | exact zkk (zK_byte (by omega) (by omega)) (by omega) | exact zkk (zK_list (by omega)) (by omega) | assumption)
    have hC2 := hf2.cs hC1
    refine zx_al1 zd33_9 ?_
    refine zx_al0 zd33_10 ?_
    (refine' zx_gfA zd33_11 ?k146 ?r146 ?_); (case k146 => first | exact zkk rfl (by omega) | exact zkk (zK_B0 (by omega)) (by omega) | exact zkk ((zK_B (by omega) (by decide)).trans rfl) (by omega) | exact zkk (zK_row (by omega) (by omega)) (by omega) | exact zkk (zK_file (by omega) (by omega)) (by omega) | exact zkk (zK_byte (by omega) (by omega)) (by omega) | exact zkk (zK_list (by omega)) (by omega) | assumption); (case r146 => first | exact hR.1 _ _ _ rfl | exact hR.2.1 _ (by omega) | exact (hR.2.2.2 _ (by omega)).1.1 | exact (hR.2.2.2 _ (by omega)).1.2.1 | exact (hR.2.2.2 _ (by omega)).1.2.2 | assumption)
    refine zx_c zd33_14 ?_
    refine zx_c zd33_15 ?_
    obtain ⟨I3, hr3, hd3, hf3⟩ := zs_putPart (L := L) (U := U) (J := J) r0 r1 (show 6 < N by omega) (a := 434) (n := 300) (p := 1) (c := 2) (zkk rfl (by omega)) (by decide) (by decide) (by omega) hC2 hd2 (by decide)
    (refine zx_cv3V zd33_16 ?k149 (hr3) ?_); (case k149 => first | exact zkk rfl (by omega) | exact zkk (zK_B0 (by omega)) (by omega) | exact zkk ((zK_B (by omega) (by decide)).trans rfl) (by omega) | exact zkk (zK_row (by omega) (by omega)) (by omega) | exact zkk (zK_file (by omega) (by omega)) (by omega) | exact zkk (zK_byte (by omega) (by omega)) (by omega) | exact zkk (zK_list (by omega)) (by omega) | assumption)
    have hC3 := hf3.cs hC2
    have hf123 := (hf1.trans hf2).trans hf3
    have e3 : I3 434 = I 434 := hf123 434 (by decide) (by decide) (by decide)
    refine zx_al1 zd33_19 ?_
    refine zx_al0 zd33_20 ?_
    (refine' zx_gfA zd33_21 ?k152 ?r152 ?_); (case k152 => first | exact zkk rfl (by omega) | exact zkk (zK_B0 (by omega)) (by omega) | exact zkk ((zK_B (by omega) (by decide)).trans rfl) (by omega) | exact zkk (zK_row (by omega) (by omega)) (by omega) | exact zkk (zK_file (by omega) (by omega)) (by omega) | exact zkk (zK_byte (by omega) (by omega)) (by omega) | exact zkk (zK_list (by omega)) (by omega) | assumption); (case r152 => first | exact hR.1 _ _ _ rfl | exact hR.2.1 _ (by omega) | exact (hR.2.2.2 _ (by omega)).1.1 | exact (hR.2.2.2 _ (by omega)).1.2.1 | exact (hR.2.2.2 _ (by omega)).1.2.2 | assumption)
    refine zx_c zd33_24 ?_
    refine zx_al0 zd33_25 ?_
    (refine' zx_gfA zd33_26 ?k155 ?r155 ?_); (case k155 => first | exact zkk rfl (by omega) | exact zkk (zK_B0 (by omega)) (by omega) | exact zkk ((zK_B (by omega) (by decide)).trans rfl) (by omega) | exact zkk (zK_row (by omega) (by omega)) (by omega) | exact zkk (zK_file (by omega) (by omega)) (by omega) | exact zkk (zK_byte (by omega) (by omega)) (by omega) | exact zkk (zK_list (by omega)) (by omega) | assumption); (case r155 => first | exact hR.1 _ _ _ rfl | exact hR.2.1 _ (by omega) | exact (hR.2.2.2 _ (by omega)).1.1 | exact (hR.2.2.2 _ (by omega)).1.2.1 | exact (hR.2.2.2 _ (by omega)).1.2.2 | assumption)
    refine zx_c zd33_29 ?_
    (with_reducible refine' zx_ialdN zd33_30 ?k157 ?j157 ?_); (case k157 => first | exact zkk rfl (by omega) | exact zkk (zK_B0 (by omega)) (by omega) | exact zkk ((zK_B (by omega) (by decide)).trans rfl) (by omega) | exact zkk (zK_row (by omega) (by omega)) (by omega) | exact zkk (zK_file (by omega) (by omega)) (by omega) | exact zkk (zK_byte (by omega) (by omega)) (by omega) | exact zkk (zK_list (by omega)) (by omega) | assumption); (case j157 => omega)
    rw [e3, (hb.2.2 3 h3).1]
    obtain ⟨I4, hr4, hd4, hf4⟩ := zs_putPart (L := L) (U := U) (J := J) r0 r1 (show 6 < N by omega) (a := 434) (n := 300) (p := 4) (c := b 3) (zkk rfl (by omega)) (by decide) (by decide) (by omega) hC3 hd3 (by rw [List.length_append, zrow_len]; show 0 + 1 + 2 + b 3 < _; omega)
    (refine zx_cv3V zd33_31 ?k158 (hr4) ?_); (case k158 => first | exact zkk rfl (by omega) | exact zkk (zK_B0 (by omega)) (by omega) | exact zkk ((zK_B (by omega) (by decide)).trans rfl) (by omega) | exact zkk (zK_row (by omega) (by omega)) (by omega) | exact zkk (zK_file (by omega) (by omega)) (by omega) | exact zkk (zK_byte (by omega) (by omega)) (by omega) | exact zkk (zK_list (by omega)) (by omega) | assumption)
    have hC4 := hf4.cs hC3
    refine zx_al1 zd33_34 ?_
    refine zx_al2 zd33_35 ?_
    have hF := hf123.trans hf4
    obtain ⟨I5, hr5, hd5, hf5⟩ := zs_finish (L := L) (U := U) (J := J) r0 r1 (show 6 < N by omega) (a := 435) (zkk rfl (by omega)) (by decide) hC4 hd4 (by rw [List.length_append, zrow_len, List.length_append, zrow_len]; show 0 + 1 + 2 + b 3 < _; omega)
    (refine zx_cv1V zd33_36 ?k161 (hr5) ?_); (case k161 => first | exact zkk rfl (by omega) | exact zkk (zK_B0 (by omega)) (by omega) | exact zkk ((zK_B (by omega) (by decide)).trans rfl) (by omega) | exact zkk (zK_row (by omega) (by omega)) (by omega) | exact zkk (zK_file (by omega) (by omega)) (by omega) | exact zkk (zK_byte (by omega) (by omega)) (by omega) | exact zkk (zK_list (by omega)) (by omega) | assumption)
    have hC5 := hf5.cs (by decide) hC4
    have hF5 : zF4 435 I I5 := (hF.to4).trans hf5
    have e621 : I5 434 = I 434 := hF5 434 (by decide) (by decide) (by decide) (by decide)
    have e620 : I5 433 = I 433 := hF5 433 (by decide) (by decide) (by decide) (by decide)
    have hb5 : zBy I5 q b := ⟨by rw [e620]; exact hb.1, hq, fun j hj => by rw [e621]; exact hb.2.2 j hj⟩
    refine zx_al0 zd33_39 ?_
    (refine' zx_gfA zd33_40 ?k163 ?r163 ?_); (case k163 => first | exact zkk rfl (by omega) | exact zkk (zK_B0 (by omega)) (by omega) | exact zkk ((zK_B (by omega) (by decide)).trans rfl) (by omega) | exact zkk (zK_row (by omega) (by omega)) (by omega) | exact zkk (zK_file (by omega) (by omega)) (by omega) | exact zkk (zK_byte (by omega) (by omega)) (by omega) | exact zkk (zK_list (by omega)) (by omega) | assumption); (case r163 => first | exact hR.1 _ _ _ rfl | exact hR.2.1 _ (by omega) | exact (hR.2.2.2 _ (by omega)).1.1 | exact (hR.2.2.2 _ (by omega)).1.2.1 | exact (hR.2.2.2 _ (by omega)).1.2.2 | assumption)
    refine zx_al0 zd33_43 ?_
    (refine zx_cv0I zd33_44 ?k165 (zc_sca hR hN hb5 h3) ?_); (case k165 => first | exact zkk rfl (by omega) | exact zkk (zK_B0 (by omega)) (by omega) | exact zkk ((zK_B (by omega) (by decide)).trans rfl) (by omega) | exact zkk (zK_row (by omega) (by omega)) (by omega) | exact zkk (zK_file (by omega) (by omega)) (by omega) | exact zkk (zK_byte (by omega) (by omega)) (by omega) | exact zkk (zK_list (by omega)) (by omega) | assumption)
    (with_reducible refine' zx_ialdN zd33_47 ?k166 ?j166 ?_); (case k166 => first | exact zkk rfl (by omega) | exact zkk (zK_B0 (by omega)) (by omega) | exact zkk ((zK_B (by omega) (by decide)).trans rfl) (by omega) | exact zkk (zK_row (by omega) (by omega)) (by omega) | exact zkk (zK_file (by omega) (by omega)) (by omega) | exact zkk (zK_byte (by omega) (by omega)) (by omega) | exact zkk (zK_list (by omega)) (by omega) | assumption); (case j166 => omega)
    rw [(hb5.2.2 _ h4).1, hbn]
    refine zx_is3 zd33_48 rfl ?_
    refine zx_c zd33_49 ?_
    refine zx_is4 zd33_50 rfl ?_
    refine zc_clb0 hR hN hb h3 hn n 0 I5 (by omega) hC5 hF5 (fun j hj => ?_)
    have e2 : I2 434 = I 434 := (hf1.trans hf2) 434 (by decide) (by decide) (by decide)
    rw [hd5, zfill_in0 _ _ _ hj, e3, e2, zrow_eq (fun i hi => h8 (1 + i) (by omega)), zrow_eq (fun i hi => h8 (4 + i) (by omega))]
    rfl
  obtain ⟨k, hr, I', rfl, hd, hf⟩ := zRet_of w
  exact ⟨I', hr, hd, hf⟩
/-- checked -/
def zchk (I : zI) (c q : Nat) (b : Nat → Nat) (tp : Nat → Nat) : Bool := zwf q b && (decide (b 0 < c) && zeqn (zclm (I 434) (b 3) (b (4 + b 3))) (I (8 + 37 * b 0 + 4 + zq (tp (b 0)))) 0 32)
theorem zeqn_congr {f f' g g' : Nat → Int32} {n : Nat} (h1 : ∀ j, j < n → f j = f' j) (h2 : ∀ j, j < n → g j = g' j) : zeqn f g 0 n = zeqn f' g' 0 n := by
  cases h : zeqn f' g' 0 n with
  | true =>
    rw [zeqn_iff] at h ⊢
    intro j a1 a2
    rw [h1 j (by omega), h2 j (by omega)]; exact h j a1 a2
  | false =>
    cases h3 : zeqn f g 0 n with
    | false => rfl
    | true =>
      rw [zeqn_iff] at h3
      have : zeqn f' g' 0 n = true := by
        rw [zeqn_iff]
        intro j a1 a2
        rw [← h1 j (by omega), ← h2 j (by omega)]; exact h3 j a1 a2
      rw [h] at this; cases this
theorem zc_chk (hR : zRs R) (hN : 459 ≤ N) (hC : zCs I) (hc : I 3 2 = Int32.ofNat c) (hc10 : c ≤ 10) {q : Nat} {b tp : Nat → Nat} (hb : zBy I q b) (htp : ∀ r, r < c → I (8 + 37 * r + 2) 2 = Int32.ofNat (tp r) ∧ tp r < 4) :
    ∃ I', zRet L 27 [.ref 3] (N, U, I, J, R) (some (.int (zbi (zchk I c q b tp)))) (N, U, I', J, R) ∧ zF4 435 I I' := by
  have hq := hb.2.1
  have w : zW L 27 0 (zent 27 [.ref 3]) [] (N, U, I, J, R) (fun o k => o = .inl (some (.int (zbi (zchk I c q b tp)))) ∧ ∃ I' : zI, k = (N, U, I', J, R) ∧ zF4 435 I I') := by
    show zW L 27 0 [some (.ref 3)] [] _ _
    refine zx_al0 zd27_0 ?_
    (refine' zx_gfO zd27_1 ?k171 ?r171 ?_); (case k171 => first | exact zkk rfl (by omega) | exact zkk (zK_B0 (by omega)) (by omega) | exact zkk ((zK_B (by omega) (by decide)).trans rfl) (by omega) | exact zkk (zK_row (by omega) (by omega)) (by omega) | exact zkk (zK_file (by omega) (by omega)) (by omega) | exact zkk (zK_byte (by omega) (by omega)) (by omega) | exact zkk (zK_list (by omega)) (by omega) | assumption); (case r171 => first | exact hR.1 _ _ _ rfl | exact hR.2.1 _ (by omega) | exact (hR.2.2.2 _ (by omega)).1.1 | exact (hR.2.2.2 _ (by omega)).1.2.1 | exact (hR.2.2.2 _ (by omega)).1.2.2 | assumption)
    (refine zx_cv0I zd27_4 ?k172 (zc_wf hR hN hb) ?_); (case k172 => first | exact zkk rfl (by omega) | exact zkk (zK_B0 (by omega)) (by omega) | exact zkk ((zK_B (by omega) (by decide)).trans rfl) (by omega) | exact zkk (zK_row (by omega) (by omega)) (by omega) | exact zkk (zK_file (by omega) (by omega)) (by omega) | exact zkk (zK_byte (by omega) (by omega)) (by omega) | exact zkk (zK_list (by omega)) (by omega) | assumption)
    cases hz : zwf q b with
    | false =>
      show zW L 27 7 _ [.int (Int32.ofNat 0)] _ _
      first | ((with_reducible refine zx_ifeqN zd27_7 ?s173 (fun h5 => ?_) (fun h5 => ?_)); (case s173 => omega)) | refine zx_ifeq zd27_7 (fun h5 => ?_) (fun h5 => ?_)
      · refine zx_c zd27_24 ?_
        refine zx_iret zd27_25 (Or.inl rfl) ?_
        have e : zchk I c q b tp = false := by unfold zchk; rw [hz]; rfl
        rw [e]; exact ⟨rfl, I, rfl, fun _ _ _ _ _ => rfl⟩
      · omega
    | true =>
      show zW L 27 7 _ [.int (Int32.ofNat 1)] _ _
      have hz' := hz
      unfold zwf zwf0 at hz'
      rw [Bool.and_eq_true, Bool.and_eq_true, Bool.and_eq_true, Bool.and_eq_true, decide_eq_true_eq, decide_eq_true_eq, decide_eq_true_eq, decide_eq_true_eq] at hz'
      obtain ⟨⟨g3, g64, g4, gq⟩, gm⟩ := hz'
      have hb0 := hb.2.2 0 (by omega)
      first | ((with_reducible refine zx_ifeqN zd27_7 ?s176 (fun h5 => ?_) (fun h5 => ?_)); (case s176 => omega)) | refine zx_ifeq zd27_7 (fun h5 => ?_) (fun h5 => ?_)
      · omega
      · refine zx_al0 zd27_10 ?_
        (refine' zx_gfO zd27_11 ?k178 ?r178 ?_); (case k178 => first | exact zkk rfl (by omega) | exact zkk (zK_B0 (by omega)) (by omega) | exact zkk ((zK_B (by omega) (by decide)).trans rfl) (by omega) | exact zkk (zK_row (by omega) (by omega)) (by omega) | exact zkk (zK_file (by omega) (by omega)) (by omega) | exact zkk (zK_byte (by omega) (by omega)) (by omega) | exact zkk (zK_list (by omega)) (by omega) | assumption); (case r178 => first | exact hR.1 _ _ _ rfl | exact hR.2.1 _ (by omega) | exact (hR.2.2.2 _ (by omega)).1.1 | exact (hR.2.2.2 _ (by omega)).1.2.1 | exact (hR.2.2.2 _ (by omega)).1.2.2 | assumption)
        (refine zx_cv0I zd27_14 ?k179 (zc_rn hR hN) ?_); (case k179 => first | exact zkk rfl (by omega) | exact zkk (zK_B0 (by omega)) (by omega) | exact zkk ((zK_B (by omega) (by decide)).trans rfl) (by omega) | exact zkk (zK_row (by omega) (by omega)) (by omega) | exact zkk (zK_file (by omega) (by omega)) (by omega) | exact zkk (zK_byte (by omega) (by omega)) (by omega) | exact zkk (zK_list (by omega)) (by omega) | assumption)
        refine zx_al0 zd27_17 ?_
        (refine zx_gfI zd27_18 ?k181 ?_); (case k181 => first | exact zkk rfl (by omega) | exact zkk (zK_B0 (by omega)) (by omega) | exact zkk ((zK_B (by omega) (by decide)).trans rfl) (by omega) | exact zkk (zK_row (by omega) (by omega)) (by omega) | exact zkk (zK_file (by omega) (by omega)) (by omega) | exact zkk (zK_byte (by omega) (by omega)) (by omega) | exact zkk (zK_list (by omega)) (by omega) | assumption)
        rw [hb0.1, hc]
        first | ((with_reducible refine zx_icmpltN zd27_21 ?s182 (fun h6 => ?_) (fun h6 => ?_)); (case s182 => omega)) | refine zx_icmplt zd27_21 (fun h6 => ?_) (fun h6 => ?_)
        · refine zx_al0 zd27_26 ?_
          (refine' zx_gfO zd27_27 ?k184 ?r184 ?_); (case k184 => first | exact zkk rfl (by omega) | exact zkk (zK_B0 (by omega)) (by omega) | exact zkk ((zK_B (by omega) (by decide)).trans rfl) (by omega) | exact zkk (zK_row (by omega) (by omega)) (by omega) | exact zkk (zK_file (by omega) (by omega)) (by omega) | exact zkk (zK_byte (by omega) (by omega)) (by omega) | exact zkk (zK_list (by omega)) (by omega) | assumption); (case r184 => first | exact hR.1 _ _ _ rfl | exact hR.2.1 _ (by omega) | exact (hR.2.2.2 _ (by omega)).1.1 | exact (hR.2.2.2 _ (by omega)).1.2.1 | exact (hR.2.2.2 _ (by omega)).1.2.2 | assumption)
          refine zx_al0 zd27_30 ?_
          (refine' zx_gfO zd27_31 ?k186 ?r186 ?_); (case k186 => first | exact zkk rfl (by omega) | exact zkk (zK_B0 (by omega)) (by omega) | exact zkk ((zK_B (by omega) (by decide)).trans rfl) (by omega) | exact zkk (zK_row (by omega) (by omega)) (by omega) | exact zkk (zK_file (by omega) (by omega)) (by omega) | exact zkk (zK_byte (by omega) (by omega)) (by omega) | exact zkk (zK_list (by omega)) (by omega) | assumption); (case r186 => first | exact hR.1 _ _ _ rfl | exact hR.2.1 _ (by omega) | exact (hR.2.2.2 _ (by omega)).1.1 | exact (hR.2.2.2 _ (by omega)).1.2.1 | exact (hR.2.2.2 _ (by omega)).1.2.2 | assumption)
          refine zx_al0 zd27_34 ?_
          (refine' zx_gfA zd27_35 ?k188 ?r188 ?_); (case k188 => first | exact zkk rfl (by omega) | exact zkk (zK_B0 (by omega)) (by omega) | exact zkk ((zK_B (by omega) (by decide)).trans rfl) (by omega) | exact zkk (zK_row (by omega) (by omega)) (by omega) | exact zkk (zK_file (by omega) (by omega)) (by omega) | exact zkk (zK_byte (by omega) (by omega)) (by omega) | exact zkk (zK_list (by omega)) (by omega) | assumption); (case r188 => first | exact hR.1 _ _ _ rfl | exact hR.2.1 _ (by omega) | exact (hR.2.2.2 _ (by omega)).1.1 | exact (hR.2.2.2 _ (by omega)).1.2.1 | exact (hR.2.2.2 _ (by omega)).1.2.2 | assumption)
          obtain ⟨I1, hr1, hd1, hf1⟩ := zc_clb (L := L) (U := U) (J := J) hR hN hC hb g3 g64 g4 rfl gq
          (refine zx_cv2V zd27_38 ?k189 (hr1) ?_); (case k189 => first | exact zkk rfl (by omega) | exact zkk (zK_B0 (by omega)) (by omega) | exact zkk ((zK_B (by omega) (by decide)).trans rfl) (by omega) | exact zkk (zK_row (by omega) (by omega)) (by omega) | exact zkk (zK_file (by omega) (by omega)) (by omega) | exact zkk (zK_byte (by omega) (by omega)) (by omega) | exact zkk (zK_list (by omega)) (by omega) | assumption)
          have e621 : I1 434 = I 434 := hf1 434 (by decide) (by decide) (by decide) (by decide)
          refine zx_al0 zd27_41 ?_
          (refine' zx_gfA zd27_42 ?k191 ?r191 ?_); (case k191 => first | exact zkk rfl (by omega) | exact zkk (zK_B0 (by omega)) (by omega) | exact zkk ((zK_B (by omega) (by decide)).trans rfl) (by omega) | exact zkk (zK_row (by omega) (by omega)) (by omega) | exact zkk (zK_file (by omega) (by omega)) (by omega) | exact zkk (zK_byte (by omega) (by omega)) (by omega) | exact zkk (zK_list (by omega)) (by omega) | assumption); (case r191 => first | exact hR.1 _ _ _ rfl | exact hR.2.1 _ (by omega) | exact (hR.2.2.2 _ (by omega)).1.1 | exact (hR.2.2.2 _ (by omega)).1.2.1 | exact (hR.2.2.2 _ (by omega)).1.2.2 | assumption)
          refine zx_al0 zd27_45 ?_
          (refine' zx_gfA zd27_46 ?k193 ?r193 ?_); (case k193 => first | exact zkk rfl (by omega) | exact zkk (zK_B0 (by omega)) (by omega) | exact zkk ((zK_B (by omega) (by decide)).trans rfl) (by omega) | exact zkk (zK_row (by omega) (by omega)) (by omega) | exact zkk (zK_file (by omega) (by omega)) (by omega) | exact zkk (zK_byte (by omega) (by omega)) (by omega) | exact zkk (zK_list (by omega)) (by omega) | assumption); (case r193 => first | exact hR.1 _ _ _ rfl | exact hR.2.1 _ (by omega) | exact (hR.2.2.2 _ (by omega)).1.1 | exact (hR.2.2.2 _ (by omega)).1.2.1 | exact (hR.2.2.2 _ (by omega)).1.2.2 | assumption)
          refine zx_al0 zd27_49 ?_
          (refine' zx_gfO zd27_50 ?k195 ?r195 ?_); (case k195 => first | exact zkk rfl (by omega) | exact zkk (zK_B0 (by omega)) (by omega) | exact zkk ((zK_B (by omega) (by decide)).trans rfl) (by omega) | exact zkk (zK_row (by omega) (by omega)) (by omega) | exact zkk (zK_file (by omega) (by omega)) (by omega) | exact zkk (zK_byte (by omega) (by omega)) (by omega) | exact zkk (zK_list (by omega)) (by omega) | assumption); (case r195 => first | exact hR.1 _ _ _ rfl | exact hR.2.1 _ (by omega) | exact (hR.2.2.2 _ (by omega)).1.1 | exact (hR.2.2.2 _ (by omega)).1.2.1 | exact (hR.2.2.2 _ (by omega)).1.2.2 | assumption)
          (refine zx_cv0I zd27_53 ?k196 (zc_rn hR hN) ?_); (case k196 => first | exact zkk rfl (by omega) | exact zkk (zK_B0 (by omega)) (by omega) | exact zkk ((zK_B (by omega) (by decide)).trans rfl) (by omega) | exact zkk (zK_row (by omega) (by omega)) (by omega) | exact zkk (zK_file (by omega) (by omega)) (by omega) | exact zkk (zK_byte (by omega) (by omega)) (by omega) | exact zkk (zK_list (by omega)) (by omega) | assumption)
          rw [e621, hb0.1]
          first | ((with_reducible refine' zx_aaldAN zd27_56 ?k197 ?j197 ?r197 ?_); (case k197 => first | exact zkk rfl (by omega) | exact zkk (zK_B0 (by omega)) (by omega) | exact zkk ((zK_B (by omega) (by decide)).trans rfl) (by omega) | exact zkk (zK_row (by omega) (by omega)) (by omega) | exact zkk (zK_file (by omega) (by omega)) (by omega) | exact zkk (zK_byte (by omega) (by omega)) (by omega) | exact zkk (zK_list (by omega)) (by omega) | assumption); (case j197 => omega); (case r197 => first | exact hR.1 _ _ _ rfl | exact hR.2.1 _ (by omega) | exact (hR.2.2.2 _ (by omega)).1.1 | exact (hR.2.2.2 _ (by omega)).1.2.1 | exact (hR.2.2.2 _ (by omega)).1.2.2 | assumption)) | ((with_reducible refine' zx_aaldON zd27_56 ?k197 ?j197 ?r197 ?_); (case k197 => first | exact zkk rfl (by omega) | exact zkk (zK_B0 (by omega)) (by omega) | exact zkk ((zK_B (by omega) (by decide)).trans rfl) (by omega) | exact zkk (zK_row (by omega) (by omega)) (by omega) | exact zkk (zK_file (by omega) (by omega)) (by omega) | exact zkk (zK_byte (by omega) (by omega)) (by omega) | exact zkk (zK_list (by omega)) (by omega) | assumption); (case j197 => omega); (case r197 => first | exact hR.1 _ _ _ rfl | exact hR.2.1 _ (by omega) | exact (hR.2.2.2 _ (by omega)).1.1 | exact (hR.2.2.2 _ (by omega)).1.2.1 | exact (hR.2.2.2 _ (by omega)).1.2.2 | assumption))
          (refine' zx_gfO zd27_57 ?k198 ?r198 ?_); (case k198 => first | exact zkk rfl (by omega) | exact zkk (zK_B0 (by omega)) (by omega) | exact zkk ((zK_B (by omega) (by decide)).trans rfl) (by omega) | exact zkk (zK_row (by omega) (by omega)) (by omega) | exact zkk (zK_file (by omega) (by omega)) (by omega) | exact zkk (zK_byte (by omega) (by omega)) (by omega) | exact zkk (zK_list (by omega)) (by omega) | assumption); (case r198 => first | exact hR.1 _ _ _ rfl | exact hR.2.1 _ (by omega) | exact (hR.2.2.2 _ (by omega)).1.1 | exact (hR.2.2.2 _ (by omega)).1.2.1 | exact (hR.2.2.2 _ (by omega)).1.2.2 | assumption)
          have hr0 : b 0 < 11 := by omega
          have e2 : I1 (8 + 37 * b 0 + 2) 2 = Int32.ofNat (tp (b 0)) := by
            rw [hf1 _ (by omega) (by omega) (by omega) (by omega)]; exact (htp _ h6).1
          have ht4 := (htp _ h6).2
          have hq4 := zq_f ht4
          (refine zx_cv0R zd27_60 ?k199 (zc_top hR hN hr0 e2 ht4) ?_); (case k199 => first | exact zkk rfl (by omega) | exact zkk (zK_B0 (by omega)) (by omega) | exact zkk ((zK_B (by omega) (by decide)).trans rfl) (by omega) | exact zkk (zK_row (by omega) (by omega)) (by omega) | exact zkk (zK_file (by omega) (by omega)) (by omega) | exact zkk (zK_byte (by omega) (by omega)) (by omega) | exact zkk (zK_list (by omega)) (by omega) | assumption)
          refine zx_c zd27_63 ?_
          refine zx_cs3I zd27_65 (zc_sn (n1 := 32) (n2 := 32) (zkk rfl (by omega)) (zkk (zK_row hr0 (by omega)) (by omega)) (by decide) (by decide) (by decide) (by decide)) ?_
          have e3 : zeqn (I1 435) (I1 (8 + 37 * b 0 + 4 + zq (tp (b 0)))) 0 32 = zeqn (zclm (I 434) (b 3) (b (4 + b 3))) (I (8 + 37 * b 0 + 4 + zq (tp (b 0)))) 0 32 :=
            zeqn_congr hd1 (fun j _ => by rw [hf1 _ (by omega) (by omega) (by omega) (by omega)])
          have e4 : zchk I c q b tp = zeqn (zclm (I 434) (b 3) (b (4 + b 3))) (I (8 + 37 * b 0 + 4 + zq (tp (b 0)))) 0 32 := by
            unfold zchk; rw [hz, decide_eq_true h6]; rfl
          rw [e3, e4]
          cases zeqn (zclm (I 434) (b 3) (b (4 + b 3))) (I (8 + 37 * b 0 + 4 + zq (tp (b 0)))) 0 32 with
          | true =>
            show zW L 27 68 _ [.int (Int32.ofNat 1)] _ _
            first | ((with_reducible refine zx_ifeqN zd27_68 ?s202 (fun h7 => ?_) (fun h7 => ?_)); (case s202 => omega)) | refine zx_ifeq zd27_68 (fun h7 => ?_) (fun h7 => ?_)
            · omega
            · refine zx_c zd27_71 ?_
              refine zx_goto zd27_72 ?_
              refine zx_iret zd27_76 (Or.inl rfl) ?_
              exact ⟨rfl, I1, rfl, hf1⟩
          | false =>
            show zW L 27 68 _ [.int (Int32.ofNat 0)] _ _
            first | ((with_reducible refine zx_ifeqN zd27_68 ?s206 (fun h7 => ?_) (fun h7 => ?_)); (case s206 => omega)) | refine zx_ifeq zd27_68 (fun h7 => ?_) (fun h7 => ?_)
            · refine zx_c zd27_75 ?_
              refine zx_iret zd27_76 (Or.inl rfl) ?_
              exact ⟨rfl, I1, rfl, hf1⟩
            · omega
        · refine zx_c zd27_24 ?_
          refine zx_iret zd27_25 (Or.inl rfl) ?_
          have e : zchk I c q b tp = false := by unfold zchk; rw [hz, decide_eq_false (by omega)]; rfl
          rw [e]; exact ⟨rfl, I, rfl, fun _ _ _ _ _ => rfl⟩
  obtain ⟨k, hr, I', rfl, hf⟩ := zRet_of w
  exact ⟨I', hr, hf⟩
end ZC6
