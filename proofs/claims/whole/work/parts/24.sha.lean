/-! SHA-256, as both sides do it: the words spread, the rounds, a block -/
def zush (x y : Int32) : Int32 := (x.toUInt32 >>> (y.toUInt32 &&& Int32.toUInt32 31)).toInt32
def zshl (x y : Int32) : Int32 := x <<< (y &&& 31)
def zturn (x y : Int32) : Int32 := zush x y ||| zshl x (Int32.ofNat 32 - y)
def zs0 (x : Int32) : Int32 := zturn x (Int32.ofNat 7) ^^^ zturn x (Int32.ofNat 18) ^^^ zush x (Int32.ofNat 3)
def zs1 (x : Int32) : Int32 := zturn x (Int32.ofNat 17) ^^^ zturn x (Int32.ofNat 19) ^^^ zush x (Int32.ofNat 10)
def zex (w : Nat → Int32) (k : Nat) : Int32 := w (k - 16) + zs0 (w (k - 15)) + w (k - 7) + zs1 (w (k - 2))
/-- a place of a row is set; a row of the table is -/
def zup {α : Type} (f : Nat → α) (k : Nat) (v : α) : Nat → α := fun j => if j = k then v else f j
def zrw {α : Type} (I : Nat → Nat → α) (a : Nat) (f : Nat → α) : Nat → Nat → α := fun b => if b = a then f else I b
theorem zu_rw {α : Type} (I : Nat → Nat → α) (a k : Nat) (v : α) : zu I a k v = zrw I a (zup (I a) k v) := by
  funext b j
  unfold zu zrw zup
  by_cases hb : b = a
  · subst hb
    rw [if_pos rfl]
    by_cases hj : j = k
    · rw [if_pos ⟨rfl, hj⟩, if_pos hj]
    · rw [if_neg (fun h => hj h.2), if_neg hj]
  · rw [if_neg (fun h => hb h.1), if_neg hb]
theorem zrw_at {α : Type} (I : Nat → Nat → α) (a : Nat) (f : Nat → α) : zrw I a f a = f := if_pos rfl
theorem zrw_ne {α : Type} (I : Nat → Nat → α) {a b : Nat} (f : Nat → α) (h : b ≠ a) : zrw I a f b = I b := if_neg h
theorem zrw_rw {α : Type} (I : Nat → Nat → α) (a : Nat) (f g : Nat → α) : zrw (zrw I a f) a g = zrw I a g := by
  funext b
  unfold zrw
  by_cases hb : b = a
  · rw [if_pos hb, if_pos hb]
  · rw [if_neg hb, if_neg hb, if_neg hb]
theorem zrw_id {α : Type} (I : Nat → Nat → α) (a : Nat) : zrw I a (I a) = I := by
  funext b
  unfold zrw
  by_cases hb : b = a
  · rw [if_pos hb, hb]
  · rw [if_neg hb]
theorem zup_at {α : Type} (f : Nat → α) (k : Nat) (v : α) : zup f k v k = v := if_pos rfl
theorem zup_ne {α : Type} (f : Nat → α) {k j : Nat} (v : α) (h : j ≠ k) : zup f k v j = f j := if_neg h
def zsch (w : Nat → Int32) : Nat → Nat → Int32
  | 0 => w
  | n + 1 => zup (zsch w n) (16 + n) (zex (zsch w n) (16 + n))
def zhi (e : Int32) : Int32 := zturn e (Int32.ofNat 6) ^^^ zturn e (Int32.ofNat 11) ^^^ zturn e (Int32.ofNat 25)
def zlw (a : Int32) : Int32 := zturn a (Int32.ofNat 2) ^^^ zturn a (Int32.ofNat 13) ^^^ zturn a (Int32.ofNat 22)
def zch (e f g : Int32) : Int32 := e &&& f ^^^ (e ^^^ (-1)) &&& g
def zmj (a b c : Int32) : Int32 := a &&& b ^^^ a &&& c ^^^ b &&& c
def zfs (v : Nat → Int32) (k w : Int32) : Int32 := v 7 + zhi (v 4) + zch (v 4) (v 5) (v 6) + k + w
/-- a round -/
def zrd (v : Nat → Int32) (k w : Int32) : Nat → Int32
  | 0 => zfs v k w + zlw (v 0) + zmj (v 0) (v 1) (v 2)
  | 4 => v 3 + zfs v k w
  | j + 1 => v j
def zrds (v K w : Nat → Int32) : Nat → Nat → Int32
  | 0 => v
  | n + 1 => zrd (zrds v K w n) (K n) (w n)
/-- a block into the state -/
def zcomp (s K w : Nat → Int32) : Nat → Int32 := fun j => if j < 8 then s j + zrds s K w 64 j else s j
theorem zn_63 (x : Nat) : x &&& 63 = x % 64 := Nat.and_two_pow_sub_one_eq_mod x 6
theorem zn_3 (x : Nat) : x &&& 3 = x % 4 := Nat.and_two_pow_sub_one_eq_mod x 2
theorem zn_s2 (x : Nat) : x >>> 2 = x / 4 := Nat.shiftRight_eq_div_pow x 2
section ZSHA
variable {L N U : Nat} {I : zI} {J : zJ} {R : zR}
theorem zc_turn (L : Nat) (x y : Int32) (h : zHp) : zRet L 10 [.int x, .int y] h (some (.int (zturn x y))) h := by
  show zW L 10 0 [some (.int x), some (.int y)] [] h _
  refine zx_il0 zd10_0 ?_
  refine zx_il1 zd10_1 ?_
  refine zx_ushr zd10_2 ?_
  refine zx_il0 zd10_3 ?_
  refine zx_c zd10_4 ?_
  refine zx_il1 zd10_6 ?_
  first | ((with_reducible refine zx_subN zd10_7 ?h7 ?_); (case h7 => omega)) | refine zx_sub zd10_7 ?_
  refine zx_shl zd10_8 ?_
  refine zx_or zd10_9 ?_
  refine zx_iret zd10_10 (Or.inl rfl) ?_
  exact ⟨rfl, rfl⟩
theorem zc_spread0 (h1 : R 4 1 = some 6) (hN : 6 < N) : ∀ (m n : Nat) (l2 l3 l4 l5 : Option Value), n + m = 48 →
    zW L 9 3 [some (.ref 4), some (.int (Int32.ofNat (16 + n))), l2, l3, l4, l5] [] (N, U, zrw I 6 (zsch (I 6) n), J, R) (fun o k => o = .inl none ∧ k = (N, U, zrw I 6 (zsch (I 6) 48), J, R)) := by
  intro m
  induction m with
  | zero =>
    intro n l2 l3 l4 l5 hn
    obtain rfl : n = 48 := by omega
    refine zx_il1 zd9_3 ?_
    refine zx_al0 zd9_4 ?_
    (refine' zx_gfA zd9_5 ?k13 ?r13 ?_); (case k13 => first | exact zkk rfl (by omega) | exact zkk (zK_B0 (by omega)) (by omega) | exact zkk ((zK_B (by omega) (by decide)).trans rfl) (by omega) | exact zkk (zK_row (by omega) (by omega)) (by omega) | exact zkk (zK_file (by omega) (by omega)) (by omega) | exact zkk (zK_byte (by omega) (by omega)) (by omega) | exact zkk (zK_list (by omega)) (by omega) | assumption); (case r13 => first | exact hR _ _ _ rfl | assumption)
    (refine' zx_alen zd9_8 ?k14 ?_); (case k14 => first | exact zkk rfl (by omega) | exact zkk (zK_B0 (by omega)) (by omega) | exact zkk ((zK_B (by omega) (by decide)).trans rfl) (by omega) | exact zkk (zK_row (by omega) (by omega)) (by omega) | exact zkk (zK_file (by omega) (by omega)) (by omega) | exact zkk (zK_byte (by omega) (by omega)) (by omega) | exact zkk (zK_list (by omega)) (by omega) | assumption)
    first | ((with_reducible refine zx_icmpgeN zd9_9 ?s15 (fun hc => ?_) (fun hc => ?_)); (case s15 => omega)) | refine zx_icmpge zd9_9 (fun hc => ?_) (fun hc => ?_)
    · refine zx_vret zd9_107 rfl ?_
      exact ⟨rfl, rfl⟩
    · omega
  | succ m ih =>
    intro n l2 l3 l4 l5 hn
    refine zx_il1 zd9_3 ?_
    refine zx_al0 zd9_4 ?_
    (refine' zx_gfA zd9_5 ?k19 ?r19 ?_); (case k19 => first | exact zkk rfl (by omega) | exact zkk (zK_B0 (by omega)) (by omega) | exact zkk ((zK_B (by omega) (by decide)).trans rfl) (by omega) | exact zkk (zK_row (by omega) (by omega)) (by omega) | exact zkk (zK_file (by omega) (by omega)) (by omega) | exact zkk (zK_byte (by omega) (by omega)) (by omega) | exact zkk (zK_list (by omega)) (by omega) | assumption); (case r19 => first | exact hR _ _ _ rfl | assumption)
    (refine' zx_alen zd9_8 ?k20 ?_); (case k20 => first | exact zkk rfl (by omega) | exact zkk (zK_B0 (by omega)) (by omega) | exact zkk ((zK_B (by omega) (by decide)).trans rfl) (by omega) | exact zkk (zK_row (by omega) (by omega)) (by omega) | exact zkk (zK_file (by omega) (by omega)) (by omega) | exact zkk (zK_byte (by omega) (by omega)) (by omega) | exact zkk (zK_list (by omega)) (by omega) | assumption)
    first | ((with_reducible refine zx_icmpgeN zd9_9 ?s21 (fun hc => ?_) (fun hc => ?_)); (case s21 => omega)) | refine zx_icmpge zd9_9 (fun hc => ?_) (fun hc => ?_)
    · omega
    · refine zx_al0 zd9_12 ?_
      (refine' zx_gfA zd9_13 ?k23 ?r23 ?_); (case k23 => first | exact zkk rfl (by omega) | exact zkk (zK_B0 (by omega)) (by omega) | exact zkk ((zK_B (by omega) (by decide)).trans rfl) (by omega) | exact zkk (zK_row (by omega) (by omega)) (by omega) | exact zkk (zK_file (by omega) (by omega)) (by omega) | exact zkk (zK_byte (by omega) (by omega)) (by omega) | exact zkk (zK_list (by omega)) (by omega) | assumption); (case r23 => first | exact hR _ _ _ rfl | assumption)
      refine zx_il1 zd9_16 ?_
      refine zx_c zd9_17 ?_
      first | ((with_reducible refine zx_subN zd9_19 ?h26 ?_); (case h26 => omega)) | refine zx_sub zd9_19 ?_
      (with_reducible refine' zx_ialdN zd9_20 ?k27 ?j27 ?_); (case k27 => first | exact zkk rfl (by omega) | exact zkk (zK_B0 (by omega)) (by omega) | exact zkk ((zK_B (by omega) (by decide)).trans rfl) (by omega) | exact zkk (zK_row (by omega) (by omega)) (by omega) | exact zkk (zK_file (by omega) (by omega)) (by omega) | exact zkk (zK_byte (by omega) (by omega)) (by omega) | exact zkk (zK_list (by omega)) (by omega) | assumption); (case j27 => omega)
      refine zx_is2 zd9_21 rfl ?_
      refine zx_al0 zd9_22 ?_
      (refine' zx_gfA zd9_23 ?k30 ?r30 ?_); (case k30 => first | exact zkk rfl (by omega) | exact zkk (zK_B0 (by omega)) (by omega) | exact zkk ((zK_B (by omega) (by decide)).trans rfl) (by omega) | exact zkk (zK_row (by omega) (by omega)) (by omega) | exact zkk (zK_file (by omega) (by omega)) (by omega) | exact zkk (zK_byte (by omega) (by omega)) (by omega) | exact zkk (zK_list (by omega)) (by omega) | assumption); (case r30 => first | exact hR _ _ _ rfl | assumption)
      refine zx_il1 zd9_26 ?_
      refine zx_c zd9_27 ?_
      first | ((with_reducible refine zx_subN zd9_28 ?h33 ?_); (case h33 => omega)) | refine zx_sub zd9_28 ?_
      (with_reducible refine' zx_ialdN zd9_29 ?k34 ?j34 ?_); (case k34 => first | exact zkk rfl (by omega) | exact zkk (zK_B0 (by omega)) (by omega) | exact zkk ((zK_B (by omega) (by decide)).trans rfl) (by omega) | exact zkk (zK_row (by omega) (by omega)) (by omega) | exact zkk (zK_file (by omega) (by omega)) (by omega) | exact zkk (zK_byte (by omega) (by omega)) (by omega) | exact zkk (zK_list (by omega)) (by omega) | assumption); (case j34 => omega)
      refine zx_is3 zd9_30 rfl ?_
      refine zx_il2 zd9_31 ?_
      refine zx_c zd9_32 ?_
      refine zx_cs2I zd9_34 (zc_turn _ _ _ _) ?_
      refine zx_il2 zd9_37 ?_
      refine zx_c zd9_38 ?_
      refine zx_cs2I zd9_40 (zc_turn _ _ _ _) ?_
      first | with_reducible refine zx_xorN zd9_43 ?_ | refine zx_xor zd9_43 ?_
      refine zx_il2 zd9_44 ?_
      refine zx_c zd9_45 ?_
      refine zx_ushr zd9_46 ?_
      first | with_reducible refine zx_xorN zd9_47 ?_ | refine zx_xor zd9_47 ?_
      refine zx_is4 zd9_48 rfl ?_
      refine zx_il3 zd9_50 ?_
      refine zx_c zd9_51 ?_
      refine zx_cs2I zd9_53 (zc_turn _ _ _ _) ?_
      refine zx_il3 zd9_56 ?_
      refine zx_c zd9_57 ?_
      refine zx_cs2I zd9_59 (zc_turn _ _ _ _) ?_
      first | with_reducible refine zx_xorN zd9_62 ?_ | refine zx_xor zd9_62 ?_
      refine zx_il3 zd9_63 ?_
      refine zx_c zd9_64 ?_
      refine zx_ushr zd9_66 ?_
      first | with_reducible refine zx_xorN zd9_67 ?_ | refine zx_xor zd9_67 ?_
      refine zx_is5 zd9_68 rfl ?_
      refine zx_al0 zd9_70 ?_
      (refine' zx_gfA zd9_71 ?k61 ?r61 ?_); (case k61 => first | exact zkk rfl (by omega) | exact zkk (zK_B0 (by omega)) (by omega) | exact zkk ((zK_B (by omega) (by decide)).trans rfl) (by omega) | exact zkk (zK_row (by omega) (by omega)) (by omega) | exact zkk (zK_file (by omega) (by omega)) (by omega) | exact zkk (zK_byte (by omega) (by omega)) (by omega) | exact zkk (zK_list (by omega)) (by omega) | assumption); (case r61 => first | exact hR _ _ _ rfl | assumption)
      refine zx_il1 zd9_74 ?_
      refine zx_al0 zd9_75 ?_
      (refine' zx_gfA zd9_76 ?k64 ?r64 ?_); (case k64 => first | exact zkk rfl (by omega) | exact zkk (zK_B0 (by omega)) (by omega) | exact zkk ((zK_B (by omega) (by decide)).trans rfl) (by omega) | exact zkk (zK_row (by omega) (by omega)) (by omega) | exact zkk (zK_file (by omega) (by omega)) (by omega) | exact zkk (zK_byte (by omega) (by omega)) (by omega) | exact zkk (zK_list (by omega)) (by omega) | assumption); (case r64 => first | exact hR _ _ _ rfl | assumption)
      refine zx_il1 zd9_79 ?_
      refine zx_c zd9_80 ?_
      first | ((with_reducible refine zx_subN zd9_82 ?h67 ?_); (case h67 => omega)) | refine zx_sub zd9_82 ?_
      (with_reducible refine' zx_ialdN zd9_83 ?k68 ?j68 ?_); (case k68 => first | exact zkk rfl (by omega) | exact zkk (zK_B0 (by omega)) (by omega) | exact zkk ((zK_B (by omega) (by decide)).trans rfl) (by omega) | exact zkk (zK_row (by omega) (by omega)) (by omega) | exact zkk (zK_file (by omega) (by omega)) (by omega) | exact zkk (zK_byte (by omega) (by omega)) (by omega) | exact zkk (zK_list (by omega)) (by omega) | assumption); (case j68 => omega)
      refine zx_il4 zd9_84 ?_
      first | with_reducible refine zx_addN zd9_86 ?_ | refine zx_add zd9_86 ?_
      refine zx_al0 zd9_87 ?_
      (refine' zx_gfA zd9_88 ?k72 ?r72 ?_); (case k72 => first | exact zkk rfl (by omega) | exact zkk (zK_B0 (by omega)) (by omega) | exact zkk ((zK_B (by omega) (by decide)).trans rfl) (by omega) | exact zkk (zK_row (by omega) (by omega)) (by omega) | exact zkk (zK_file (by omega) (by omega)) (by omega) | exact zkk (zK_byte (by omega) (by omega)) (by omega) | exact zkk (zK_list (by omega)) (by omega) | assumption); (case r72 => first | exact hR _ _ _ rfl | assumption)
      refine zx_il1 zd9_91 ?_
      refine zx_c zd9_92 ?_
      first | ((with_reducible refine zx_subN zd9_94 ?h75 ?_); (case h75 => omega)) | refine zx_sub zd9_94 ?_
      (with_reducible refine' zx_ialdN zd9_95 ?k76 ?j76 ?_); (case k76 => first | exact zkk rfl (by omega) | exact zkk (zK_B0 (by omega)) (by omega) | exact zkk ((zK_B (by omega) (by decide)).trans rfl) (by omega) | exact zkk (zK_row (by omega) (by omega)) (by omega) | exact zkk (zK_file (by omega) (by omega)) (by omega) | exact zkk (zK_byte (by omega) (by omega)) (by omega) | exact zkk (zK_list (by omega)) (by omega) | assumption); (case j76 => omega)
      first | with_reducible refine zx_addN zd9_96 ?_ | refine zx_add zd9_96 ?_
      refine zx_il5 zd9_97 ?_
      first | with_reducible refine zx_addN zd9_99 ?_ | refine zx_add zd9_99 ?_
      (with_reducible refine' zx_iastN zd9_100 ?k80 ?j80 ?a80 ?_); (case k80 => first | exact zkk rfl (by omega) | exact zkk (zK_B0 (by omega)) (by omega) | exact zkk ((zK_B (by omega) (by decide)).trans rfl) (by omega) | exact zkk (zK_row (by omega) (by omega)) (by omega) | exact zkk (zK_file (by omega) (by omega)) (by omega) | exact zkk (zK_byte (by omega) (by omega)) (by omega) | exact zkk (zK_list (by omega)) (by omega) | assumption); (case j80 => omega); (case a80 => omega)
      first | with_reducible refine zx_iin1 zd9_101 ?_ | refine zx_ii1 zd9_101 ?_
      refine zx_goto zd9_104 ?_
      have e : zu (zrw I 6 (zsch (I 6) n)) 6 (16 + n) (zrw I 6 (zsch (I 6) n) 6 (16 + n - 16) + (zturn (zrw I 6 (zsch (I 6) n) 6 (16 + n - 15)) (Int32.ofNat 7) ^^^ zturn (zrw I 6 (zsch (I 6) n) 6 (16 + n - 15)) (Int32.ofNat 18) ^^^ zush (zrw I 6 (zsch (I 6) n) 6 (16 + n - 15)) (Int32.ofNat 3)) + zrw I 6 (zsch (I 6) n) 6 (16 + n - 7) + (zturn (zrw I 6 (zsch (I 6) n) 6 (16 + n - 2)) (Int32.ofNat 17) ^^^ zturn (zrw I 6 (zsch (I 6) n) 6 (16 + n - 2)) (Int32.ofNat 19) ^^^ zush (zrw I 6 (zsch (I 6) n) 6 (16 + n - 2)) (Int32.ofNat 10))) = zrw I 6 (zsch (I 6) (n + 1)) := by
        rw [zu_rw, zrw_rw, zrw_at]; rfl
      exact e ▸ ih (n + 1) _ _ _ _ (by omega)
theorem zc_spread (h1 : R 4 1 = some 6) (hN : 6 < N) : zRet L 9 [.ref 4] (N, U, I, J, R) none (N, U, zrw I 6 (zsch (I 6) 48), J, R) := by
  show zW L 9 0 [some (.ref 4), none, none, none, none, none] [] _ _
  refine zx_c zd9_0 ?_
  refine zx_is1 zd9_2 rfl ?_
  have k := zc_spread0 (L := L) (U := U) (I := I) (J := J) h1 hN 48 0 none none none none rfl
  have e : zrw I 6 (zsch (I 6) 0) = I := zrw_id I 6
  rw [e] at k
  exact k
theorem zc_mix0 (h0 : R 4 0 = some 5) (h1 : R 4 1 = some 6) (hN : 6 < N) : ∀ (m n : Nat) (l1 l2 l3 l4 l5 : Option Value), n + m = 64 →
    zW L 11 66 [some (.ref 4), some (.int (zrds (I 5) (I 2) (I 6) n 0)), some (.int (zrds (I 5) (I 2) (I 6) n 1)), some (.int (zrds (I 5) (I 2) (I 6) n 2)), some (.int (zrds (I 5) (I 2) (I 6) n 3)), some (.int (zrds (I 5) (I 2) (I 6) n 4)), some (.int (zrds (I 5) (I 2) (I 6) n 5)), some (.int (zrds (I 5) (I 2) (I 6) n 6)), some (.int (zrds (I 5) (I 2) (I 6) n 7)), some (.int (Int32.ofNat n)), l1, l2, l3, l4, l5] [] (N, U, I, J, R) (fun o k => o = .inl none ∧ k = (N, U, zrw I 5 (zcomp (I 5) (I 2) (I 6)), J, R)) := by
  intro m
  induction m with
  | zero =>
    intro n l1 l2 l3 l4 l5 hn
    obtain rfl : n = 64 := by omega
    refine zx_il9 zd11_66 ?_
    refine zx_gs zd11_68 ?_
    (refine' zx_alen zd11_71 ?k87 ?_); (case k87 => first | exact zkk rfl (by omega) | exact zkk (zK_B0 (by omega)) (by omega) | exact zkk ((zK_B (by omega) (by decide)).trans rfl) (by omega) | exact zkk (zK_row (by omega) (by omega)) (by omega) | exact zkk (zK_file (by omega) (by omega)) (by omega) | exact zkk (zK_byte (by omega) (by omega)) (by omega) | exact zkk (zK_list (by omega)) (by omega) | assumption)
    first | ((with_reducible refine zx_icmpgeN zd11_72 ?s88 (fun hc => ?_) (fun hc => ?_)); (case s88 => omega)) | refine zx_icmpge zd11_72 (fun hc => ?_) (fun hc => ?_)
    · refine zx_al0 zd11_215 ?_
      (refine' zx_gfA zd11_216 ?k90 ?r90 ?_); (case k90 => first | exact zkk rfl (by omega) | exact zkk (zK_B0 (by omega)) (by omega) | exact zkk ((zK_B (by omega) (by decide)).trans rfl) (by omega) | exact zkk (zK_row (by omega) (by omega)) (by omega) | exact zkk (zK_file (by omega) (by omega)) (by omega) | exact zkk (zK_byte (by omega) (by omega)) (by omega) | exact zkk (zK_list (by omega)) (by omega) | assumption); (case r90 => first | exact hR _ _ _ rfl | assumption)
      refine zx_c zd11_219 ?_
      refine zx_dup2 zd11_220 ?_
      (with_reducible refine' zx_ialdN zd11_221 ?k93 ?j93 ?_); (case k93 => first | exact zkk rfl (by omega) | exact zkk (zK_B0 (by omega)) (by omega) | exact zkk ((zK_B (by omega) (by decide)).trans rfl) (by omega) | exact zkk (zK_row (by omega) (by omega)) (by omega) | exact zkk (zK_file (by omega) (by omega)) (by omega) | exact zkk (zK_byte (by omega) (by omega)) (by omega) | exact zkk (zK_list (by omega)) (by omega) | assumption); (case j93 => omega)
      refine zx_il1 zd11_222 ?_
      first | with_reducible refine zx_addN zd11_223 ?_ | refine zx_add zd11_223 ?_
      (with_reducible refine' zx_iastN zd11_224 ?k96 ?j96 ?a96 ?_); (case k96 => first | exact zkk rfl (by omega) | exact zkk (zK_B0 (by omega)) (by omega) | exact zkk ((zK_B (by omega) (by decide)).trans rfl) (by omega) | exact zkk (zK_row (by omega) (by omega)) (by omega) | exact zkk (zK_file (by omega) (by omega)) (by omega) | exact zkk (zK_byte (by omega) (by omega)) (by omega) | exact zkk (zK_list (by omega)) (by omega) | assumption); (case j96 => omega); (case a96 => omega)
      refine zx_al0 zd11_225 ?_
      (refine' zx_gfA zd11_226 ?k98 ?r98 ?_); (case k98 => first | exact zkk rfl (by omega) | exact zkk (zK_B0 (by omega)) (by omega) | exact zkk ((zK_B (by omega) (by decide)).trans rfl) (by omega) | exact zkk (zK_row (by omega) (by omega)) (by omega) | exact zkk (zK_file (by omega) (by omega)) (by omega) | exact zkk (zK_byte (by omega) (by omega)) (by omega) | exact zkk (zK_list (by omega)) (by omega) | assumption); (case r98 => first | exact hR _ _ _ rfl | assumption)
      refine zx_c zd11_229 ?_
      refine zx_dup2 zd11_230 ?_
      (with_reducible refine' zx_ialdN zd11_231 ?k101 ?j101 ?_); (case k101 => first | exact zkk rfl (by omega) | exact zkk (zK_B0 (by omega)) (by omega) | exact zkk ((zK_B (by omega) (by decide)).trans rfl) (by omega) | exact zkk (zK_row (by omega) (by omega)) (by omega) | exact zkk (zK_file (by omega) (by omega)) (by omega) | exact zkk (zK_byte (by omega) (by omega)) (by omega) | exact zkk (zK_list (by omega)) (by omega) | assumption); (case j101 => omega)
      refine zx_il2 zd11_232 ?_
      first | with_reducible refine zx_addN zd11_233 ?_ | refine zx_add zd11_233 ?_
      (with_reducible refine' zx_iastN zd11_234 ?k104 ?j104 ?a104 ?_); (case k104 => first | exact zkk rfl (by omega) | exact zkk (zK_B0 (by omega)) (by omega) | exact zkk ((zK_B (by omega) (by decide)).trans rfl) (by omega) | exact zkk (zK_row (by omega) (by omega)) (by omega) | exact zkk (zK_file (by omega) (by omega)) (by omega) | exact zkk (zK_byte (by omega) (by omega)) (by omega) | exact zkk (zK_list (by omega)) (by omega) | assumption); (case j104 => omega); (case a104 => omega)
      refine zx_al0 zd11_235 ?_
      (refine' zx_gfA zd11_236 ?k106 ?r106 ?_); (case k106 => first | exact zkk rfl (by omega) | exact zkk (zK_B0 (by omega)) (by omega) | exact zkk ((zK_B (by omega) (by decide)).trans rfl) (by omega) | exact zkk (zK_row (by omega) (by omega)) (by omega) | exact zkk (zK_file (by omega) (by omega)) (by omega) | exact zkk (zK_byte (by omega) (by omega)) (by omega) | exact zkk (zK_list (by omega)) (by omega) | assumption); (case r106 => first | exact hR _ _ _ rfl | assumption)
      refine zx_c zd11_239 ?_
      refine zx_dup2 zd11_240 ?_
      (with_reducible refine' zx_ialdN zd11_241 ?k109 ?j109 ?_); (case k109 => first | exact zkk rfl (by omega) | exact zkk (zK_B0 (by omega)) (by omega) | exact zkk ((zK_B (by omega) (by decide)).trans rfl) (by omega) | exact zkk (zK_row (by omega) (by omega)) (by omega) | exact zkk (zK_file (by omega) (by omega)) (by omega) | exact zkk (zK_byte (by omega) (by omega)) (by omega) | exact zkk (zK_list (by omega)) (by omega) | assumption); (case j109 => omega)
      refine zx_il3 zd11_242 ?_
      first | with_reducible refine zx_addN zd11_243 ?_ | refine zx_add zd11_243 ?_
      (with_reducible refine' zx_iastN zd11_244 ?k112 ?j112 ?a112 ?_); (case k112 => first | exact zkk rfl (by omega) | exact zkk (zK_B0 (by omega)) (by omega) | exact zkk ((zK_B (by omega) (by decide)).trans rfl) (by omega) | exact zkk (zK_row (by omega) (by omega)) (by omega) | exact zkk (zK_file (by omega) (by omega)) (by omega) | exact zkk (zK_byte (by omega) (by omega)) (by omega) | exact zkk (zK_list (by omega)) (by omega) | assumption); (case j112 => omega); (case a112 => omega)
      refine zx_al0 zd11_245 ?_
      (refine' zx_gfA zd11_246 ?k114 ?r114 ?_); (case k114 => first | exact zkk rfl (by omega) | exact zkk (zK_B0 (by omega)) (by omega) | exact zkk ((zK_B (by omega) (by decide)).trans rfl) (by omega) | exact zkk (zK_row (by omega) (by omega)) (by omega) | exact zkk (zK_file (by omega) (by omega)) (by omega) | exact zkk (zK_byte (by omega) (by omega)) (by omega) | exact zkk (zK_list (by omega)) (by omega) | assumption); (case r114 => first | exact hR _ _ _ rfl | assumption)
      refine zx_c zd11_249 ?_
      refine zx_dup2 zd11_250 ?_
      (with_reducible refine' zx_ialdN zd11_251 ?k117 ?j117 ?_); (case k117 => first | exact zkk rfl (by omega) | exact zkk (zK_B0 (by omega)) (by omega) | exact zkk ((zK_B (by omega) (by decide)).trans rfl) (by omega) | exact zkk (zK_row (by omega) (by omega)) (by omega) | exact zkk (zK_file (by omega) (by omega)) (by omega) | exact zkk (zK_byte (by omega) (by omega)) (by omega) | exact zkk (zK_list (by omega)) (by omega) | assumption); (case j117 => omega)
      refine zx_il4 zd11_252 ?_
      first | with_reducible refine zx_addN zd11_254 ?_ | refine zx_add zd11_254 ?_
      (with_reducible refine' zx_iastN zd11_255 ?k120 ?j120 ?a120 ?_); (case k120 => first | exact zkk rfl (by omega) | exact zkk (zK_B0 (by omega)) (by omega) | exact zkk ((zK_B (by omega) (by decide)).trans rfl) (by omega) | exact zkk (zK_row (by omega) (by omega)) (by omega) | exact zkk (zK_file (by omega) (by omega)) (by omega) | exact zkk (zK_byte (by omega) (by omega)) (by omega) | exact zkk (zK_list (by omega)) (by omega) | assumption); (case j120 => omega); (case a120 => omega)
      refine zx_al0 zd11_256 ?_
      (refine' zx_gfA zd11_257 ?k122 ?r122 ?_); (case k122 => first | exact zkk rfl (by omega) | exact zkk (zK_B0 (by omega)) (by omega) | exact zkk ((zK_B (by omega) (by decide)).trans rfl) (by omega) | exact zkk (zK_row (by omega) (by omega)) (by omega) | exact zkk (zK_file (by omega) (by omega)) (by omega) | exact zkk (zK_byte (by omega) (by omega)) (by omega) | exact zkk (zK_list (by omega)) (by omega) | assumption); (case r122 => first | exact hR _ _ _ rfl | assumption)
      refine zx_c zd11_260 ?_
      refine zx_dup2 zd11_261 ?_
      (with_reducible refine' zx_ialdN zd11_262 ?k125 ?j125 ?_); (case k125 => first | exact zkk rfl (by omega) | exact zkk (zK_B0 (by omega)) (by omega) | exact zkk ((zK_B (by omega) (by decide)).trans rfl) (by omega) | exact zkk (zK_row (by omega) (by omega)) (by omega) | exact zkk (zK_file (by omega) (by omega)) (by omega) | exact zkk (zK_byte (by omega) (by omega)) (by omega) | exact zkk (zK_list (by omega)) (by omega) | assumption); (case j125 => omega)
      refine zx_il5 zd11_263 ?_
      first | with_reducible refine zx_addN zd11_265 ?_ | refine zx_add zd11_265 ?_
      (with_reducible refine' zx_iastN zd11_266 ?k128 ?j128 ?a128 ?_); (case k128 => first | exact zkk rfl (by omega) | exact zkk (zK_B0 (by omega)) (by omega) | exact zkk ((zK_B (by omega) (by decide)).trans rfl) (by omega) | exact zkk (zK_row (by omega) (by omega)) (by omega) | exact zkk (zK_file (by omega) (by omega)) (by omega) | exact zkk (zK_byte (by omega) (by omega)) (by omega) | exact zkk (zK_list (by omega)) (by omega) | assumption); (case j128 => omega); (case a128 => omega)
      refine zx_al0 zd11_267 ?_
      (refine' zx_gfA zd11_268 ?k130 ?r130 ?_); (case k130 => first | exact zkk rfl (by omega) | exact zkk (zK_B0 (by omega)) (by omega) | exact zkk ((zK_B (by omega) (by decide)).trans rfl) (by omega) | exact zkk (zK_row (by omega) (by omega)) (by omega) | exact zkk (zK_file (by omega) (by omega)) (by omega) | exact zkk (zK_byte (by omega) (by omega)) (by omega) | exact zkk (zK_list (by omega)) (by omega) | assumption); (case r130 => first | exact hR _ _ _ rfl | assumption)
      refine zx_c zd11_271 ?_
      refine zx_dup2 zd11_272 ?_
      (with_reducible refine' zx_ialdN zd11_273 ?k133 ?j133 ?_); (case k133 => first | exact zkk rfl (by omega) | exact zkk (zK_B0 (by omega)) (by omega) | exact zkk ((zK_B (by omega) (by decide)).trans rfl) (by omega) | exact zkk (zK_row (by omega) (by omega)) (by omega) | exact zkk (zK_file (by omega) (by omega)) (by omega) | exact zkk (zK_byte (by omega) (by omega)) (by omega) | exact zkk (zK_list (by omega)) (by omega) | assumption); (case j133 => omega)
      refine zx_il6 zd11_274 ?_
      first | with_reducible refine zx_addN zd11_276 ?_ | refine zx_add zd11_276 ?_
      (with_reducible refine' zx_iastN zd11_277 ?k136 ?j136 ?a136 ?_); (case k136 => first | exact zkk rfl (by omega) | exact zkk (zK_B0 (by omega)) (by omega) | exact zkk ((zK_B (by omega) (by decide)).trans rfl) (by omega) | exact zkk (zK_row (by omega) (by omega)) (by omega) | exact zkk (zK_file (by omega) (by omega)) (by omega) | exact zkk (zK_byte (by omega) (by omega)) (by omega) | exact zkk (zK_list (by omega)) (by omega) | assumption); (case j136 => omega); (case a136 => omega)
      refine zx_al0 zd11_278 ?_
      (refine' zx_gfA zd11_279 ?k138 ?r138 ?_); (case k138 => first | exact zkk rfl (by omega) | exact zkk (zK_B0 (by omega)) (by omega) | exact zkk ((zK_B (by omega) (by decide)).trans rfl) (by omega) | exact zkk (zK_row (by omega) (by omega)) (by omega) | exact zkk (zK_file (by omega) (by omega)) (by omega) | exact zkk (zK_byte (by omega) (by omega)) (by omega) | exact zkk (zK_list (by omega)) (by omega) | assumption); (case r138 => first | exact hR _ _ _ rfl | assumption)
      refine zx_c zd11_282 ?_
      refine zx_dup2 zd11_284 ?_
      (with_reducible refine' zx_ialdN zd11_285 ?k141 ?j141 ?_); (case k141 => first | exact zkk rfl (by omega) | exact zkk (zK_B0 (by omega)) (by omega) | exact zkk ((zK_B (by omega) (by decide)).trans rfl) (by omega) | exact zkk (zK_row (by omega) (by omega)) (by omega) | exact zkk (zK_file (by omega) (by omega)) (by omega) | exact zkk (zK_byte (by omega) (by omega)) (by omega) | exact zkk (zK_list (by omega)) (by omega) | assumption); (case j141 => omega)
      refine zx_il7 zd11_286 ?_
      first | with_reducible refine zx_addN zd11_288 ?_ | refine zx_add zd11_288 ?_
      (with_reducible refine' zx_iastN zd11_289 ?k144 ?j144 ?a144 ?_); (case k144 => first | exact zkk rfl (by omega) | exact zkk (zK_B0 (by omega)) (by omega) | exact zkk ((zK_B (by omega) (by decide)).trans rfl) (by omega) | exact zkk (zK_row (by omega) (by omega)) (by omega) | exact zkk (zK_file (by omega) (by omega)) (by omega) | exact zkk (zK_byte (by omega) (by omega)) (by omega) | exact zkk (zK_list (by omega)) (by omega) | assumption); (case j144 => omega); (case a144 => omega)
      refine zx_al0 zd11_290 ?_
      (refine' zx_gfA zd11_291 ?k146 ?r146 ?_); (case k146 => first | exact zkk rfl (by omega) | exact zkk (zK_B0 (by omega)) (by omega) | exact zkk ((zK_B (by omega) (by decide)).trans rfl) (by omega) | exact zkk (zK_row (by omega) (by omega)) (by omega) | exact zkk (zK_file (by omega) (by omega)) (by omega) | exact zkk (zK_byte (by omega) (by omega)) (by omega) | exact zkk (zK_list (by omega)) (by omega) | assumption); (case r146 => first | exact hR _ _ _ rfl | assumption)
      refine zx_c zd11_294 ?_
      refine zx_dup2 zd11_296 ?_
      (with_reducible refine' zx_ialdN zd11_297 ?k149 ?j149 ?_); (case k149 => first | exact zkk rfl (by omega) | exact zkk (zK_B0 (by omega)) (by omega) | exact zkk ((zK_B (by omega) (by decide)).trans rfl) (by omega) | exact zkk (zK_row (by omega) (by omega)) (by omega) | exact zkk (zK_file (by omega) (by omega)) (by omega) | exact zkk (zK_byte (by omega) (by omega)) (by omega) | exact zkk (zK_list (by omega)) (by omega) | assumption); (case j149 => omega)
      refine zx_il8 zd11_298 ?_
      first | with_reducible refine zx_addN zd11_300 ?_ | refine zx_add zd11_300 ?_
      (with_reducible refine' zx_iastN zd11_301 ?k152 ?j152 ?a152 ?_); (case k152 => first | exact zkk rfl (by omega) | exact zkk (zK_B0 (by omega)) (by omega) | exact zkk ((zK_B (by omega) (by decide)).trans rfl) (by omega) | exact zkk (zK_row (by omega) (by omega)) (by omega) | exact zkk (zK_file (by omega) (by omega)) (by omega) | exact zkk (zK_byte (by omega) (by omega)) (by omega) | exact zkk (zK_list (by omega)) (by omega) | assumption); (case j152 => omega); (case a152 => omega)
      refine zx_vret zd11_302 rfl ?_
      refine ⟨rfl, congrArg (fun I' : zI => (N, U, I', J, R)) ?_⟩
      funext b j
      by_cases hb : b = 5
      · subst hb
        match j with
        | 0 => rfl
        | 1 => rfl
        | 2 => rfl
        | 3 => rfl
        | 4 => rfl
        | 5 => rfl
        | 6 => rfl
        | 7 => rfl
        | j + 8 =>
          simp [zu, zrw, zcomp]
          intro hj; omega
      · simp [zu, zrw, hb]
    · omega
  | succ m ih =>
    intro n l1 l2 l3 l4 l5 hn
    refine zx_il9 zd11_66 ?_
    refine zx_gs zd11_68 ?_
    (refine' zx_alen zd11_71 ?k156 ?_); (case k156 => first | exact zkk rfl (by omega) | exact zkk (zK_B0 (by omega)) (by omega) | exact zkk ((zK_B (by omega) (by decide)).trans rfl) (by omega) | exact zkk (zK_row (by omega) (by omega)) (by omega) | exact zkk (zK_file (by omega) (by omega)) (by omega) | exact zkk (zK_byte (by omega) (by omega)) (by omega) | exact zkk (zK_list (by omega)) (by omega) | assumption)
    first | ((with_reducible refine zx_icmpgeN zd11_72 ?s157 (fun hc => ?_) (fun hc => ?_)); (case s157 => omega)) | refine zx_icmpge zd11_72 (fun hc => ?_) (fun hc => ?_)
    · omega
    · refine zx_il5 zd11_75 ?_
      refine zx_c zd11_77 ?_
      refine zx_cs2I zd11_79 (zc_turn _ _ _ _) ?_
      refine zx_il5 zd11_82 ?_
      refine zx_c zd11_84 ?_
      refine zx_cs2I zd11_86 (zc_turn _ _ _ _) ?_
      first | with_reducible refine zx_xorN zd11_89 ?_ | refine zx_xor zd11_89 ?_
      refine zx_il5 zd11_90 ?_
      refine zx_c zd11_92 ?_
      refine zx_cs2I zd11_94 (zc_turn _ _ _ _) ?_
      first | with_reducible refine zx_xorN zd11_97 ?_ | refine zx_xor zd11_97 ?_
      refine zx_is10 zd11_98 rfl ?_
      refine zx_il5 zd11_100 ?_
      refine zx_il6 zd11_102 ?_
      first | with_reducible refine zx_andN zd11_104 ?_ | refine zx_and zd11_104 ?_
      refine zx_il5 zd11_105 ?_
      refine zx_c zd11_107 ?_
      first | with_reducible refine zx_xorN zd11_108 ?_ | refine zx_xor zd11_108 ?_
      refine zx_il7 zd11_109 ?_
      first | with_reducible refine zx_andN zd11_111 ?_ | refine zx_and zd11_111 ?_
      first | with_reducible refine zx_xorN zd11_112 ?_ | refine zx_xor zd11_112 ?_
      refine zx_is11 zd11_113 rfl ?_
      refine zx_il8 zd11_115 ?_
      refine zx_il10 zd11_117 ?_
      first | with_reducible refine zx_addN zd11_119 ?_ | refine zx_add zd11_119 ?_
      refine zx_il11 zd11_120 ?_
      first | with_reducible refine zx_addN zd11_122 ?_ | refine zx_add zd11_122 ?_
      refine zx_gs zd11_123 ?_
      refine zx_il9 zd11_126 ?_
      (with_reducible refine' zx_ialdN zd11_128 ?k187 ?j187 ?_); (case k187 => first | exact zkk rfl (by omega) | exact zkk (zK_B0 (by omega)) (by omega) | exact zkk ((zK_B (by omega) (by decide)).trans rfl) (by omega) | exact zkk (zK_row (by omega) (by omega)) (by omega) | exact zkk (zK_file (by omega) (by omega)) (by omega) | exact zkk (zK_byte (by omega) (by omega)) (by omega) | exact zkk (zK_list (by omega)) (by omega) | assumption); (case j187 => omega)
      first | with_reducible refine zx_addN zd11_129 ?_ | refine zx_add zd11_129 ?_
      refine zx_al0 zd11_130 ?_
      (refine' zx_gfA zd11_131 ?k190 ?r190 ?_); (case k190 => first | exact zkk rfl (by omega) | exact zkk (zK_B0 (by omega)) (by omega) | exact zkk ((zK_B (by omega) (by decide)).trans rfl) (by omega) | exact zkk (zK_row (by omega) (by omega)) (by omega) | exact zkk (zK_file (by omega) (by omega)) (by omega) | exact zkk (zK_byte (by omega) (by omega)) (by omega) | exact zkk (zK_list (by omega)) (by omega) | assumption); (case r190 => first | exact hR _ _ _ rfl | assumption)
      refine zx_il9 zd11_134 ?_
      (with_reducible refine' zx_ialdN zd11_136 ?k192 ?j192 ?_); (case k192 => first | exact zkk rfl (by omega) | exact zkk (zK_B0 (by omega)) (by omega) | exact zkk ((zK_B (by omega) (by decide)).trans rfl) (by omega) | exact zkk (zK_row (by omega) (by omega)) (by omega) | exact zkk (zK_file (by omega) (by omega)) (by omega) | exact zkk (zK_byte (by omega) (by omega)) (by omega) | exact zkk (zK_list (by omega)) (by omega) | assumption); (case j192 => omega)
      first | with_reducible refine zx_addN zd11_137 ?_ | refine zx_add zd11_137 ?_
      refine zx_is12 zd11_138 rfl ?_
      refine zx_il1 zd11_140 ?_
      refine zx_c zd11_141 ?_
      refine zx_cs2I zd11_142 (zc_turn _ _ _ _) ?_
      refine zx_il1 zd11_145 ?_
      refine zx_c zd11_146 ?_
      refine zx_cs2I zd11_148 (zc_turn _ _ _ _) ?_
      first | with_reducible refine zx_xorN zd11_151 ?_ | refine zx_xor zd11_151 ?_
      refine zx_il1 zd11_152 ?_
      refine zx_c zd11_153 ?_
      refine zx_cs2I zd11_155 (zc_turn _ _ _ _) ?_
      first | with_reducible refine zx_xorN zd11_158 ?_ | refine zx_xor zd11_158 ?_
      refine zx_is13 zd11_159 rfl ?_
      refine zx_il1 zd11_161 ?_
      refine zx_il2 zd11_162 ?_
      first | with_reducible refine zx_andN zd11_163 ?_ | refine zx_and zd11_163 ?_
      refine zx_il1 zd11_164 ?_
      refine zx_il3 zd11_165 ?_
      first | with_reducible refine zx_andN zd11_166 ?_ | refine zx_and zd11_166 ?_
      first | with_reducible refine zx_xorN zd11_167 ?_ | refine zx_xor zd11_167 ?_
      refine zx_il2 zd11_168 ?_
      refine zx_il3 zd11_169 ?_
      first | with_reducible refine zx_andN zd11_170 ?_ | refine zx_and zd11_170 ?_
      first | with_reducible refine zx_xorN zd11_171 ?_ | refine zx_xor zd11_171 ?_
      refine zx_is14 zd11_172 rfl ?_
      refine zx_il7 zd11_174 ?_
      refine zx_is8 zd11_176 rfl ?_
      refine zx_il6 zd11_178 ?_
      refine zx_is7 zd11_180 rfl ?_
      refine zx_il5 zd11_182 ?_
      refine zx_is6 zd11_184 rfl ?_
      refine zx_il4 zd11_186 ?_
      refine zx_il12 zd11_188 ?_
      first | with_reducible refine zx_addN zd11_190 ?_ | refine zx_add zd11_190 ?_
      refine zx_is5 zd11_191 rfl ?_
      refine zx_il3 zd11_193 ?_
      refine zx_is4 zd11_194 rfl ?_
      refine zx_il2 zd11_196 ?_
      refine zx_is3 zd11_197 rfl ?_
      refine zx_il1 zd11_198 ?_
      refine zx_is2 zd11_199 rfl ?_
      refine zx_il12 zd11_200 ?_
      refine zx_il13 zd11_202 ?_
      first | with_reducible refine zx_addN zd11_204 ?_ | refine zx_add zd11_204 ?_
      refine zx_il14 zd11_205 ?_
      first | with_reducible refine zx_addN zd11_207 ?_ | refine zx_add zd11_207 ?_
      refine zx_is1 zd11_208 rfl ?_
      first | with_reducible refine zx_iin9 zd11_209 ?_ | refine zx_ii9 zd11_209 ?_
      refine zx_goto zd11_212 ?_
      exact ih (n + 1) _ _ _ _ _ (by omega)
theorem zc_mix (h0 : R 4 0 = some 5) (h1 : R 4 1 = some 6) (hN : 6 < N) : zRet L 11 [.ref 4] (N, U, I, J, R) none (N, U, zrw I 5 (zcomp (I 5) (I 2) (I 6)), J, R) := by
  show zW L 11 0 [some (.ref 4), none, none, none, none, none, none, none, none, none, none, none, none, none, none] [] _ _
  refine zx_al0 zd11_0 ?_
  (refine' zx_gfA zd11_1 ?k244 ?r244 ?_); (case k244 => first | exact zkk rfl (by omega) | exact zkk (zK_B0 (by omega)) (by omega) | exact zkk ((zK_B (by omega) (by decide)).trans rfl) (by omega) | exact zkk (zK_row (by omega) (by omega)) (by omega) | exact zkk (zK_file (by omega) (by omega)) (by omega) | exact zkk (zK_byte (by omega) (by omega)) (by omega) | exact zkk (zK_list (by omega)) (by omega) | assumption); (case r244 => first | exact hR _ _ _ rfl | assumption)
  refine zx_c zd11_4 ?_
  (with_reducible refine' zx_ialdN zd11_5 ?k246 ?j246 ?_); (case k246 => first | exact zkk rfl (by omega) | exact zkk (zK_B0 (by omega)) (by omega) | exact zkk ((zK_B (by omega) (by decide)).trans rfl) (by omega) | exact zkk (zK_row (by omega) (by omega)) (by omega) | exact zkk (zK_file (by omega) (by omega)) (by omega) | exact zkk (zK_byte (by omega) (by omega)) (by omega) | exact zkk (zK_list (by omega)) (by omega) | assumption); (case j246 => omega)
  refine zx_is1 zd11_6 rfl ?_
  refine zx_al0 zd11_7 ?_
  (refine' zx_gfA zd11_8 ?k249 ?r249 ?_); (case k249 => first | exact zkk rfl (by omega) | exact zkk (zK_B0 (by omega)) (by omega) | exact zkk ((zK_B (by omega) (by decide)).trans rfl) (by omega) | exact zkk (zK_row (by omega) (by omega)) (by omega) | exact zkk (zK_file (by omega) (by omega)) (by omega) | exact zkk (zK_byte (by omega) (by omega)) (by omega) | exact zkk (zK_list (by omega)) (by omega) | assumption); (case r249 => first | exact hR _ _ _ rfl | assumption)
  refine zx_c zd11_11 ?_
  (with_reducible refine' zx_ialdN zd11_12 ?k251 ?j251 ?_); (case k251 => first | exact zkk rfl (by omega) | exact zkk (zK_B0 (by omega)) (by omega) | exact zkk ((zK_B (by omega) (by decide)).trans rfl) (by omega) | exact zkk (zK_row (by omega) (by omega)) (by omega) | exact zkk (zK_file (by omega) (by omega)) (by omega) | exact zkk (zK_byte (by omega) (by omega)) (by omega) | exact zkk (zK_list (by omega)) (by omega) | assumption); (case j251 => omega)
  refine zx_is2 zd11_13 rfl ?_
  refine zx_al0 zd11_14 ?_
  (refine' zx_gfA zd11_15 ?k254 ?r254 ?_); (case k254 => first | exact zkk rfl (by omega) | exact zkk (zK_B0 (by omega)) (by omega) | exact zkk ((zK_B (by omega) (by decide)).trans rfl) (by omega) | exact zkk (zK_row (by omega) (by omega)) (by omega) | exact zkk (zK_file (by omega) (by omega)) (by omega) | exact zkk (zK_byte (by omega) (by omega)) (by omega) | exact zkk (zK_list (by omega)) (by omega) | assumption); (case r254 => first | exact hR _ _ _ rfl | assumption)
  refine zx_c zd11_18 ?_
  (with_reducible refine' zx_ialdN zd11_19 ?k256 ?j256 ?_); (case k256 => first | exact zkk rfl (by omega) | exact zkk (zK_B0 (by omega)) (by omega) | exact zkk ((zK_B (by omega) (by decide)).trans rfl) (by omega) | exact zkk (zK_row (by omega) (by omega)) (by omega) | exact zkk (zK_file (by omega) (by omega)) (by omega) | exact zkk (zK_byte (by omega) (by omega)) (by omega) | exact zkk (zK_list (by omega)) (by omega) | assumption); (case j256 => omega)
  refine zx_is3 zd11_20 rfl ?_
  refine zx_al0 zd11_21 ?_
  (refine' zx_gfA zd11_22 ?k259 ?r259 ?_); (case k259 => first | exact zkk rfl (by omega) | exact zkk (zK_B0 (by omega)) (by omega) | exact zkk ((zK_B (by omega) (by decide)).trans rfl) (by omega) | exact zkk (zK_row (by omega) (by omega)) (by omega) | exact zkk (zK_file (by omega) (by omega)) (by omega) | exact zkk (zK_byte (by omega) (by omega)) (by omega) | exact zkk (zK_list (by omega)) (by omega) | assumption); (case r259 => first | exact hR _ _ _ rfl | assumption)
  refine zx_c zd11_25 ?_
  (with_reducible refine' zx_ialdN zd11_26 ?k261 ?j261 ?_); (case k261 => first | exact zkk rfl (by omega) | exact zkk (zK_B0 (by omega)) (by omega) | exact zkk ((zK_B (by omega) (by decide)).trans rfl) (by omega) | exact zkk (zK_row (by omega) (by omega)) (by omega) | exact zkk (zK_file (by omega) (by omega)) (by omega) | exact zkk (zK_byte (by omega) (by omega)) (by omega) | exact zkk (zK_list (by omega)) (by omega) | assumption); (case j261 => omega)
  refine zx_is4 zd11_27 rfl ?_
  refine zx_al0 zd11_29 ?_
  (refine' zx_gfA zd11_30 ?k264 ?r264 ?_); (case k264 => first | exact zkk rfl (by omega) | exact zkk (zK_B0 (by omega)) (by omega) | exact zkk ((zK_B (by omega) (by decide)).trans rfl) (by omega) | exact zkk (zK_row (by omega) (by omega)) (by omega) | exact zkk (zK_file (by omega) (by omega)) (by omega) | exact zkk (zK_byte (by omega) (by omega)) (by omega) | exact zkk (zK_list (by omega)) (by omega) | assumption); (case r264 => first | exact hR _ _ _ rfl | assumption)
  refine zx_c zd11_33 ?_
  (with_reducible refine' zx_ialdN zd11_34 ?k266 ?j266 ?_); (case k266 => first | exact zkk rfl (by omega) | exact zkk (zK_B0 (by omega)) (by omega) | exact zkk ((zK_B (by omega) (by decide)).trans rfl) (by omega) | exact zkk (zK_row (by omega) (by omega)) (by omega) | exact zkk (zK_file (by omega) (by omega)) (by omega) | exact zkk (zK_byte (by omega) (by omega)) (by omega) | exact zkk (zK_list (by omega)) (by omega) | assumption); (case j266 => omega)
  refine zx_is5 zd11_35 rfl ?_
  refine zx_al0 zd11_37 ?_
  (refine' zx_gfA zd11_38 ?k269 ?r269 ?_); (case k269 => first | exact zkk rfl (by omega) | exact zkk (zK_B0 (by omega)) (by omega) | exact zkk ((zK_B (by omega) (by decide)).trans rfl) (by omega) | exact zkk (zK_row (by omega) (by omega)) (by omega) | exact zkk (zK_file (by omega) (by omega)) (by omega) | exact zkk (zK_byte (by omega) (by omega)) (by omega) | exact zkk (zK_list (by omega)) (by omega) | assumption); (case r269 => first | exact hR _ _ _ rfl | assumption)
  refine zx_c zd11_41 ?_
  (with_reducible refine' zx_ialdN zd11_42 ?k271 ?j271 ?_); (case k271 => first | exact zkk rfl (by omega) | exact zkk (zK_B0 (by omega)) (by omega) | exact zkk ((zK_B (by omega) (by decide)).trans rfl) (by omega) | exact zkk (zK_row (by omega) (by omega)) (by omega) | exact zkk (zK_file (by omega) (by omega)) (by omega) | exact zkk (zK_byte (by omega) (by omega)) (by omega) | exact zkk (zK_list (by omega)) (by omega) | assumption); (case j271 => omega)
  refine zx_is6 zd11_43 rfl ?_
  refine zx_al0 zd11_45 ?_
  (refine' zx_gfA zd11_46 ?k274 ?r274 ?_); (case k274 => first | exact zkk rfl (by omega) | exact zkk (zK_B0 (by omega)) (by omega) | exact zkk ((zK_B (by omega) (by decide)).trans rfl) (by omega) | exact zkk (zK_row (by omega) (by omega)) (by omega) | exact zkk (zK_file (by omega) (by omega)) (by omega) | exact zkk (zK_byte (by omega) (by omega)) (by omega) | exact zkk (zK_list (by omega)) (by omega) | assumption); (case r274 => first | exact hR _ _ _ rfl | assumption)
  refine zx_c zd11_49 ?_
  (with_reducible refine' zx_ialdN zd11_51 ?k276 ?j276 ?_); (case k276 => first | exact zkk rfl (by omega) | exact zkk (zK_B0 (by omega)) (by omega) | exact zkk ((zK_B (by omega) (by decide)).trans rfl) (by omega) | exact zkk (zK_row (by omega) (by omega)) (by omega) | exact zkk (zK_file (by omega) (by omega)) (by omega) | exact zkk (zK_byte (by omega) (by omega)) (by omega) | exact zkk (zK_list (by omega)) (by omega) | assumption); (case j276 => omega)
  refine zx_is7 zd11_52 rfl ?_
  refine zx_al0 zd11_54 ?_
  (refine' zx_gfA zd11_55 ?k279 ?r279 ?_); (case k279 => first | exact zkk rfl (by omega) | exact zkk (zK_B0 (by omega)) (by omega) | exact zkk ((zK_B (by omega) (by decide)).trans rfl) (by omega) | exact zkk (zK_row (by omega) (by omega)) (by omega) | exact zkk (zK_file (by omega) (by omega)) (by omega) | exact zkk (zK_byte (by omega) (by omega)) (by omega) | exact zkk (zK_list (by omega)) (by omega) | assumption); (case r279 => first | exact hR _ _ _ rfl | assumption)
  refine zx_c zd11_58 ?_
  (with_reducible refine' zx_ialdN zd11_60 ?k281 ?j281 ?_); (case k281 => first | exact zkk rfl (by omega) | exact zkk (zK_B0 (by omega)) (by omega) | exact zkk ((zK_B (by omega) (by decide)).trans rfl) (by omega) | exact zkk (zK_row (by omega) (by omega)) (by omega) | exact zkk (zK_file (by omega) (by omega)) (by omega) | exact zkk (zK_byte (by omega) (by omega)) (by omega) | exact zkk (zK_list (by omega)) (by omega) | assumption); (case j281 => omega)
  refine zx_is8 zd11_61 rfl ?_
  refine zx_c zd11_63 ?_
  refine zx_is9 zd11_64 rfl ?_
  exact zc_mix0 (L := L) (U := U) (I := I) (J := J) h0 h1 hN 64 0 none none none none none rfl
/-- one byte comes -/
def zpt1 (I : zI) (n : Nat) (b : Int32) : zI := zu (zu I 6 (n % 64 / 4) (zshl (I 6 (n % 64 / 4)) (Int32.ofNat 8) ||| b &&& Int32.ofNat 255)) 4 2 (Int32.ofNat (n + 1))
def zblkI (I : zI) : zI := zrw (zrw I 6 (zsch (I 6) 48)) 5 (zcomp (I 5) (I 2) (zsch (I 6) 48))
def zptI (I : zI) (n : Nat) (b : Int32) : zI := if n % 64 = 63 then zblkI (zpt1 I n b) else zpt1 I n b
theorem zc_put (h0 : R 4 0 = some 5) (h1 : R 4 1 = some 6) (hN : 6 < N) {n : Nat} (hn : I 4 2 = Int32.ofNat n) (hs : n < 1000000) (b : Int32) : zRet L 8 [.ref 4, .int b] (N, U, I, J, R) none (N, U, zptI I n b, J, R) := by
  show zW L 8 0 [some (.ref 4), some (.int b), none, none] [] _ _
  refine zx_al0 zd8_0 ?_
  (refine zx_gfI zd8_1 ?k286 ?_); (case k286 => first | exact zkk rfl (by omega) | exact zkk (zK_B0 (by omega)) (by omega) | exact zkk ((zK_B (by omega) (by decide)).trans rfl) (by omega) | exact zkk (zK_row (by omega) (by omega)) (by omega) | exact zkk (zK_file (by omega) (by omega)) (by omega) | exact zkk (zK_byte (by omega) (by omega)) (by omega) | exact zkk (zK_list (by omega)) (by omega) | assumption)
  rw [hn]
  refine zx_c zd8_4 ?_
  first | with_reducible refine zx_andN zd8_6 ?_ | refine zx_and zd8_6 ?_
  rw [zn_63]
  refine zx_is2 zd8_7 rfl ?_
  refine zx_il2 zd8_8 ?_
  refine zx_c zd8_9 ?_
  first | ((with_reducible refine zx_shrN zd8_10 ?h292 ?_); (case h292 => omega)) | refine zx_shr zd8_10 ?_
  rw [zn_s2]
  refine zx_is3 zd8_11 rfl ?_
  refine zx_al0 zd8_12 ?_
  (refine' zx_gfA zd8_13 ?k295 ?r295 ?_); (case k295 => first | exact zkk rfl (by omega) | exact zkk (zK_B0 (by omega)) (by omega) | exact zkk ((zK_B (by omega) (by decide)).trans rfl) (by omega) | exact zkk (zK_row (by omega) (by omega)) (by omega) | exact zkk (zK_file (by omega) (by omega)) (by omega) | exact zkk (zK_byte (by omega) (by omega)) (by omega) | exact zkk (zK_list (by omega)) (by omega) | assumption); (case r295 => first | exact hR _ _ _ rfl | assumption)
  refine zx_il3 zd8_16 ?_
  refine zx_al0 zd8_17 ?_
  (refine' zx_gfA zd8_18 ?k298 ?r298 ?_); (case k298 => first | exact zkk rfl (by omega) | exact zkk (zK_B0 (by omega)) (by omega) | exact zkk ((zK_B (by omega) (by decide)).trans rfl) (by omega) | exact zkk (zK_row (by omega) (by omega)) (by omega) | exact zkk (zK_file (by omega) (by omega)) (by omega) | exact zkk (zK_byte (by omega) (by omega)) (by omega) | exact zkk (zK_list (by omega)) (by omega) | assumption); (case r298 => first | exact hR _ _ _ rfl | assumption)
  refine zx_il3 zd8_21 ?_
  (with_reducible refine' zx_ialdN zd8_22 ?k300 ?j300 ?_); (case k300 => first | exact zkk rfl (by omega) | exact zkk (zK_B0 (by omega)) (by omega) | exact zkk ((zK_B (by omega) (by decide)).trans rfl) (by omega) | exact zkk (zK_row (by omega) (by omega)) (by omega) | exact zkk (zK_file (by omega) (by omega)) (by omega) | exact zkk (zK_byte (by omega) (by omega)) (by omega) | exact zkk (zK_list (by omega)) (by omega) | assumption); (case j300 => omega)
  refine zx_c zd8_23 ?_
  refine zx_shl zd8_25 ?_
  refine zx_il1 zd8_26 ?_
  refine zx_c zd8_27 ?_
  first | with_reducible refine zx_andN zd8_30 ?_ | refine zx_and zd8_30 ?_
  refine zx_or zd8_31 ?_
  (with_reducible refine' zx_iastN zd8_32 ?k307 ?j307 ?a307 ?_); (case k307 => first | exact zkk rfl (by omega) | exact zkk (zK_B0 (by omega)) (by omega) | exact zkk ((zK_B (by omega) (by decide)).trans rfl) (by omega) | exact zkk (zK_row (by omega) (by omega)) (by omega) | exact zkk (zK_file (by omega) (by omega)) (by omega) | exact zkk (zK_byte (by omega) (by omega)) (by omega) | exact zkk (zK_list (by omega)) (by omega) | assumption); (case j307 => omega); (case a307 => omega)
  refine zx_al0 zd8_33 ?_
  first | refine zx_dupR zd8_34 ?_ | refine zx_dupI zd8_34 ?_
  (refine zx_gfI zd8_35 ?k310 ?_); (case k310 => first | exact zkk rfl (by omega) | exact zkk (zK_B0 (by omega)) (by omega) | exact zkk ((zK_B (by omega) (by decide)).trans rfl) (by omega) | exact zkk (zK_row (by omega) (by omega)) (by omega) | exact zkk (zK_file (by omega) (by omega)) (by omega) | exact zkk (zK_byte (by omega) (by omega)) (by omega) | exact zkk (zK_list (by omega)) (by omega) | assumption)
  rw [show zu I 6 (n % 64 / 4) _ 4 2 = I 4 2 from rfl, hn]
  refine zx_c zd8_38 ?_
  first | with_reducible refine zx_addN zd8_39 ?_ | refine zx_add zd8_39 ?_
  (refine zx_pfI zd8_40 ?k313 ?a313 ?_); (case k313 => first | exact zkk rfl (by omega) | exact zkk (zK_B0 (by omega)) (by omega) | exact zkk ((zK_B (by omega) (by decide)).trans rfl) (by omega) | exact zkk (zK_row (by omega) (by omega)) (by omega) | exact zkk (zK_file (by omega) (by omega)) (by omega) | exact zkk (zK_byte (by omega) (by omega)) (by omega) | exact zkk (zK_list (by omega)) (by omega) | assumption); (case a313 => omega)
  refine zx_il2 zd8_43 ?_
  refine zx_c zd8_44 ?_
  first | ((with_reducible refine zx_icmpneN zd8_46 ?s316 (fun hc => ?_) (fun hc => ?_)); (case s316 => omega)) | refine zx_icmpne zd8_46 (fun hc => ?_) (fun hc => ?_)
  · refine zx_vret zd8_57 rfl ?_
    refine ⟨rfl, ?_⟩
    unfold zptI
    rw [if_neg hc]; rfl
  · refine zx_al0 zd8_49 ?_
    (refine zx_cv0V zd8_50 ?k319 (zc_spread h1 hN) ?_); (case k319 => first | exact zkk rfl (by omega) | exact zkk (zK_B0 (by omega)) (by omega) | exact zkk ((zK_B (by omega) (by decide)).trans rfl) (by omega) | exact zkk (zK_row (by omega) (by omega)) (by omega) | exact zkk (zK_file (by omega) (by omega)) (by omega) | exact zkk (zK_byte (by omega) (by omega)) (by omega) | exact zkk (zK_list (by omega)) (by omega) | assumption)
    refine zx_al0 zd8_53 ?_
    (refine zx_cv0V zd8_54 ?k321 (zc_mix h0 h1 hN) ?_); (case k321 => first | exact zkk rfl (by omega) | exact zkk (zK_B0 (by omega)) (by omega) | exact zkk ((zK_B (by omega) (by decide)).trans rfl) (by omega) | exact zkk (zK_row (by omega) (by omega)) (by omega) | exact zkk (zK_file (by omega) (by omega)) (by omega) | exact zkk (zK_byte (by omega) (by omega)) (by omega) | exact zkk (zK_list (by omega)) (by omega) | assumption)
    refine zx_vret zd8_57 rfl ?_
    refine ⟨rfl, ?_⟩
    unfold zptI
    rw [if_pos hc]; rfl
theorem zc_begin (h0 : R 4 0 = some 5) (hN : 6 < N) : zRet L 6 [.ref 4] (N, U, I, J, R) none (N, U, zu (zrw I 5 (fun j => if j < 8 then I 1 j else I 5 j)) 4 2 (Int32.ofNat 0), J, R) := by
  show zW L 6 0 [some (.ref 4)] [] _ _
  refine zx_gs zd6_0 ?_
  refine zx_c zd6_3 ?_
  refine zx_al0 zd6_4 ?_
  (refine' zx_gfA zd6_5 ?k326 ?r326 ?_); (case k326 => first | exact zkk rfl (by omega) | exact zkk (zK_B0 (by omega)) (by omega) | exact zkk ((zK_B (by omega) (by decide)).trans rfl) (by omega) | exact zkk (zK_row (by omega) (by omega)) (by omega) | exact zkk (zK_file (by omega) (by omega)) (by omega) | exact zkk (zK_byte (by omega) (by omega)) (by omega) | exact zkk (zK_list (by omega)) (by omega) | assumption); (case r326 => first | exact hR _ _ _ rfl | assumption)
  refine zx_c zd6_8 ?_
  refine zx_c zd6_9 ?_
  refine zx_copy zd6_11 rfl (zkk rfl (by omega)) (zkk rfl (by omega)) (n0 := 8) (n1 := 8) (by decide) (by decide) (by decide) (by decide) (by decide) ?_
  refine zx_al0 zd6_14 ?_
  refine zx_c zd6_15 ?_
  (refine zx_pfI zd6_16 ?k331 ?a331 ?_); (case k331 => first | exact zkk rfl (by omega) | exact zkk (zK_B0 (by omega)) (by omega) | exact zkk ((zK_B (by omega) (by decide)).trans rfl) (by omega) | exact zkk (zK_row (by omega) (by omega)) (by omega) | exact zkk (zK_file (by omega) (by omega)) (by omega) | exact zkk (zK_byte (by omega) (by omega)) (by omega) | exact zkk (zK_list (by omega)) (by omega) | assumption); (case a331 => omega)
  refine zx_vret zd6_19 rfl ?_
  refine ⟨rfl, congrArg (fun I' : zI => (N, U, zu I' 4 2 (Int32.ofNat 0), J, R)) ?_⟩
  funext b j
  by_cases hb : b = 5
  · subst hb
    simp [zrw, va_cpy]
  · simp [zrw, hb]
end ZSHA
