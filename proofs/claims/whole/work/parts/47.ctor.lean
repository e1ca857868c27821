/-! THE CONSTRUCTORS -/
theorem zu_at {α : Type} (I : Nat → Nat → α) (a k : Nat) (v : α) : zu I a k v a k = v := if_pos ⟨rfl, rfl⟩
theorem zu_nc {α : Type} {I : Nat → Nat → α} {a k b j : Nat} {v : α} (h : ¬ (b = a ∧ j = k)) : zu I a k v b j = I b j := if_neg h
theorem zc_at {α : Type} (I : Nat → Nat → α) (a j : Nat) (v : α) : zc I a v a j = v := if_pos rfl
theorem zc_nc {α : Type} {I : Nat → Nat → α} {a b j : Nat} {v : α} (h : b ≠ a) : zc I a v b j = I b j := if_neg h
theorem zK37_f {i : Nat} (hi : i < 8) : zK37 (21 + 2 * i) = some (.inr 4) := by
  unfold zK37; rw [if_neg (by omega), if_neg (by omega), if_neg (by omega), if_pos (by omega)]
theorem zK37_b {i : Nat} (hi : i < 8) : zK37 (22 + 2 * i) = some (.inl (.int, 64)) := by
  unfold zK37; rw [if_neg (by omega), if_neg (by omega), if_neg (by omega), if_neg (by omega)]
section ZK1
variable {L N U : Nat} {I : zI} {J : zJ} {R : zR} {Q : zOut → zHp → Prop}
theorem zk_file {o : Nat} (h4 : zK L o = some (.inr 4)) (h5 : zK L (o + 1) = some (.inl (.int, 64))) (ho : 3 ≤ o) : zRet L 5 [.ref o] (o + 1, U, I, J, R) none (o + 2, U + 64, zc I (o + 1) 0, zc J (o + 1) 0, zu (zc R (o + 1) none) o 1 (some (o + 1))) := by
  show zW L 5 0 [some (.ref o)] [] _ _
  refine zx_al0 zd5_0 ?_
  refine zx_obj zd5_1 rfl ?_
  refine zx_al0 zd5_4 ?_
  refine zx_c zd5_5 ?_
  (refine zx_newa zd5_7 (by decide) rfl ?k5 ?_); (case k5 => exact h5)
  (refine zx_pfA zd5_9 ?k6 ?a6 ?_); (case k6 => exact zkk h4 (by omega)); (case a6 => omega)
  refine zx_vret zd5_12 rfl ?_
  exact ⟨rfl, rfl⟩
/-- a tree's rows -/
theorem zk_tree {t : Nat} (h3 : zK L t = some (.inr 3)) (hn : zK L (t + 1) = some (.inl (.array .int, 15))) (hrow : ∀ i, i < 15 → zK L (t + 1 + 1 + i) = some (.inl (.int, 32))) (hw : zK L (t + 17) = some (.inl (.int, 4))) (ht : 3 ≤ t) :
    ∃ k, zRet L 4 [.ref t] (t + 1, U, I, J, R) none k ∧ ∃ (U' : Nat) (I' : zI) (J' : zJ) (R' : zR), k = (t + 18, U', I', J', R') ∧ U' ≤ U + 1060 ∧ (∀ b k, b ≤ t → I' b k = I b k) ∧ (∀ b k, t < b → b < t + 18 → I' b k = 0) ∧ (∀ b f, b < t → R' b f = R b f) ∧ R' t 0 = some (t + 1) ∧ R' t 1 = some (t + 17) ∧ ∀ q, q < 15 → R' (t + 1) q = some (t + 2 + q) := by
  have hi : (List.range 15).all (fun i => decide (zK L (t + 1 + 1 + i) = some (.inl (.int, 32)))) = true := by
    rw [List.all_eq_true]
    intro i h
    rw [List.mem_range] at h
    exact decide_eq_true (hrow i h)
  apply zRet_of
  show zW L 4 0 [some (.ref t)] [] _ _
  refine zx_al0 zd4_0 ?_
  refine zx_obj zd4_1 rfl ?_
  refine zx_al0 zd4_4 ?_
  refine zx_c zd4_5 ?_
  refine zx_c zd4_7 ?_
  (refine zx_multi zd4_9 (by decide) (by decide) ?k13 ?i13 ?_); (case k13 => first | exact hn | exact hw | exact hi); (case i13 => first | exact hn | exact hw | exact hi)
  show zW L 4 13 [some (.ref t)] [.ref (t + 1), .ref t] (t + 17, U + 495, (fun b j => if t + 1 ≤ b ∧ b ≤ t + 1 + 15 then 0 else I b j), (fun b j => if t + 1 ≤ b ∧ b ≤ t + 1 + 15 then 0 else J b j), (fun b j => if b = t + 1 then (if j < 15 then some (t + 1 + 1 + j) else none) else if t + 1 ≤ b ∧ b ≤ t + 1 + 15 then none else R b j)) _
  (refine zx_pfA zd4_13 ?k14 ?a14 ?_); (case k14 => exact zkk h3 (by omega)); (case a14 => omega)
  refine zx_al0 zd4_16 ?_
  refine zx_c zd4_17 ?_
  (refine zx_newa zd4_18 (by decide) rfl ?k17 ?_); (case k17 => first | exact hn | exact hw | exact hi)
  (refine zx_pfA zd4_20 ?k18 ?a18 ?_); (case k18 => exact zkk h3 (by omega)); (case a18 => omega)
  refine zx_vret zd4_23 rfl ?_
  refine ⟨rfl, _, _, _, _, rfl, by omega, fun b k hb => ?_, fun b k h1 h2 => ?_, fun b f hb => ?_, ?_, ?_, fun q hq => ?_⟩
  · (repeat (first | rw [zu_at] | rw [zc_at] | rw [zu_nc (by omega)] | rw [zc_nc (by omega)] | rw [if_pos (by omega)] | rw [if_neg (by omega)]))
  · by_cases e : b = t + 17
    · subst e; (repeat (first | rw [zu_at] | rw [zc_at] | rw [zu_nc (by omega)] | rw [zc_nc (by omega)] | rw [if_pos (by omega)] | rw [if_neg (by omega)]))
    · (repeat (first | rw [zu_at] | rw [zc_at] | rw [zu_nc (by omega)] | rw [zc_nc (by omega)] | rw [if_pos (by omega)] | rw [if_neg (by omega)]))
  · (repeat (first | rw [zu_at] | rw [zc_at] | rw [zu_nc (by omega)] | rw [zc_nc (by omega)] | rw [if_pos (by omega)] | rw [if_neg (by omega)]))
  · (repeat (first | rw [zu_at] | rw [zc_at] | rw [zu_nc (by omega)] | rw [zc_nc (by omega)] | rw [if_pos (by omega)] | rw [if_neg (by omega)]))
  · (repeat (first | rw [zu_at] | rw [zc_at] | rw [zu_nc (by omega)] | rw [zc_nc (by omega)] | rw [if_pos (by omega)] | rw [if_neg (by omega)]))
  · (repeat (first | rw [zu_at] | rw [zc_at] | rw [zu_nc (by omega)] | rw [zc_nc (by omega)] | rw [if_pos (by omega)] | rw [if_neg (by omega)]))
    try rw [show t + 1 + 1 + q = t + 2 + q by omega]
/-- what a release names -/
def zRr (R : zR) (a : Nat) : Prop := (R a 0 = some (a + 1) ∧ R a 2 = some (a + 2) ∧ R a 3 = some (a + 20)) ∧ (R (a + 2) 0 = some (a + 3) ∧ R (a + 2) 1 = some (a + 19)) ∧ (∀ q, q < 15 → R (a + 3) q = some (a + 4 + q)) ∧ ∀ j, j < 8 → R (a + 1) j = some (a + 21 + 2 * j) ∧ R (a + 21 + 2 * j) 1 = some (a + 22 + 2 * j)
/-- i files of a release are made -/
def zFb (a i : Nat) (I0 : zI) (R0 : zR) (I : zI) (R : zR) : Prop := (∀ b k, b < a + 21 → I b k = I0 b k) ∧ (∀ b k, a + 21 ≤ b → b < a + 21 + 2 * i → I b k = 0) ∧ (∀ b f, b < a + 21 → b ≠ a + 1 → R b f = R0 b f) ∧ ∀ j, j < i → R (a + 1) j = some (a + 21 + 2 * j) ∧ R (a + 21 + 2 * j) 1 = some (a + 22 + 2 * j)
theorem zk_rel3 {a U0 : Nat} {I0 : zI} {R0 : zR} (hK : ∀ c, c < 37 → zK L (a + c) = zK37 c) (ha : 3 ≤ a) (h0 : R0 a 0 = some (a + 1))
    (kk : ∀ (U : Nat) (I : zI) (J : zJ) (R : zR), U ≤ U0 + 536 → zFb a 8 I0 R0 I R → zW L 3 62 [some (.ref a), some (.int (Int32.ofNat 8))] [] (a + 37, U, I, J, R) Q) :
    ∀ (q i U : Nat) (I : zI) (J : zJ) (R : zR), i + q = 8 → U ≤ U0 + 67 * i → zFb a i I0 R0 I R → zW L 3 34 [some (.ref a), some (.int (Int32.ofNat i))] [] (a + 21 + 2 * i, U, I, J, R) Q := by
  intro q
  induction q with
  | zero =>
    intro i U I J R hi hU hv
    obtain rfl : i = 8 := by omega
    have r0 : R a 0 = some (a + 1) := (hv.2.2.1 a 0 (by omega) (by omega)).trans h0
    have hKf : zK L a = some (.inr 2) := (hK 0 (by decide)).trans rfl
    refine zx_il1 zd3_34 ?_
    refine zx_al0 zd3_35 ?_
    (refine' zx_gfA zd3_36 ?k22 ?r22 ?_); (case k22 => first | exact zkk ((hK 0 (by decide)).trans rfl) (by omega) | exact zkk ((hK 1 (by decide)).trans rfl) (by omega) | exact zkk ((hK 20 (by decide)).trans rfl) (by omega) | exact zkk hKf (by omega)); (case r22 => assumption)
    (refine' zx_alen zd3_39 ?k23 ?_); (case k23 => first | exact zkk ((hK 0 (by decide)).trans rfl) (by omega) | exact zkk ((hK 1 (by decide)).trans rfl) (by omega) | exact zkk ((hK 20 (by decide)).trans rfl) (by omega) | exact zkk hKf (by omega))
    first | ((with_reducible refine zx_icmpgeN zd3_40 ?s24 (fun h => ?_) (fun h => ?_)); (case s24 => omega)) | refine zx_icmpge zd3_40 (fun h => ?_) (fun h => ?_)
    · exact kk U I J R hU hv
    · omega
  | succ q ih =>
    intro i U I J R hi hU hv
    have r0 : R a 0 = some (a + 1) := (hv.2.2.1 a 0 (by omega) (by omega)).trans h0
    have hKf : zK L (a + 21 + 2 * i) = some (.inr 4) := by rw [Nat.add_assoc]; exact (hK (21 + 2 * i) (by omega)).trans (zK37_f (by omega))
    have hKb : zK L (a + 21 + 2 * i + 1) = some (.inl (.int, 64)) := by rw [show a + 21 + 2 * i + 1 = a + (22 + 2 * i) by omega]; exact (hK (22 + 2 * i) (by omega)).trans (zK37_b (by omega))
    refine zx_il1 zd3_34 ?_
    refine zx_al0 zd3_35 ?_
    (refine' zx_gfA zd3_36 ?k27 ?r27 ?_); (case k27 => first | exact zkk ((hK 0 (by decide)).trans rfl) (by omega) | exact zkk ((hK 1 (by decide)).trans rfl) (by omega) | exact zkk ((hK 20 (by decide)).trans rfl) (by omega) | exact zkk hKf (by omega)); (case r27 => assumption)
    (refine' zx_alen zd3_39 ?k28 ?_); (case k28 => first | exact zkk ((hK 0 (by decide)).trans rfl) (by omega) | exact zkk ((hK 1 (by decide)).trans rfl) (by omega) | exact zkk ((hK 20 (by decide)).trans rfl) (by omega) | exact zkk hKf (by omega))
    first | ((with_reducible refine zx_icmpgeN zd3_40 ?s29 (fun h => ?_) (fun h => ?_)); (case s29 => omega)) | refine zx_icmpge zd3_40 (fun h => ?_) (fun h => ?_)
    · omega
    · refine zx_al0 zd3_43 ?_
      (refine' zx_gfA zd3_44 ?k31 ?r31 ?_); (case k31 => first | exact zkk ((hK 0 (by decide)).trans rfl) (by omega) | exact zkk ((hK 1 (by decide)).trans rfl) (by omega) | exact zkk ((hK 20 (by decide)).trans rfl) (by omega) | exact zkk hKf (by omega)); (case r31 => assumption)
      refine zx_il1 zd3_47 ?_
      (refine zx_new zd3_48 ?k33 ?_); (case k33 => exact hKf)
      first | refine zx_dupR zd3_51 ?_ | refine zx_dupI zd3_51 ?_
      (refine zx_cv0V zd3_52 ?k35 (zk_file (o := a + 21 + 2 * i) hKf hKb (by omega)) ?_); (case k35 => first | exact zkk ((hK 0 (by decide)).trans rfl) (by omega) | exact zkk ((hK 1 (by decide)).trans rfl) (by omega) | exact zkk ((hK 20 (by decide)).trans rfl) (by omega) | exact zkk hKf (by omega))
      (with_reducible refine' zx_aastN zd3_55 ?v36 ?k36 ?j36 ?a36 ?_); (case v36 => first | exact zkk ((hK 0 (by decide)).trans rfl) (by omega) | exact zkk ((hK 1 (by decide)).trans rfl) (by omega) | exact zkk ((hK 20 (by decide)).trans rfl) (by omega) | exact zkk hKf (by omega)); (case k36 => first | exact zkk ((hK 0 (by decide)).trans rfl) (by omega) | exact zkk ((hK 1 (by decide)).trans rfl) (by omega) | exact zkk ((hK 20 (by decide)).trans rfl) (by omega) | exact zkk hKf (by omega)); (case j36 => omega); (case a36 => omega)
      first | with_reducible refine zx_iin1 zd3_56 ?_ | refine zx_ii1 zd3_56 ?_
      refine zx_goto zd3_59 ?_
      rw [show a + 21 + 2 * i + 2 = a + 21 + 2 * (i + 1) by omega]
      refine ih (i + 1) _ _ _ _ (by omega) (by show U + 3 + 64 ≤ _; omega) ⟨fun b k hb => ?_, fun b k h1 h2 => ?_, fun b f hb hb1 => ?_, fun j hj => ⟨?_, ?_⟩⟩
      · (repeat (first | rw [zu_at] | rw [zc_at] | rw [zu_nc (by omega)] | rw [zc_nc (by omega)] | rw [if_pos (by omega)] | rw [if_neg (by omega)]))
        exact hv.1 b k hb
      · by_cases e1 : b = a + 21 + 2 * i + 1
        · subst e1; (repeat (first | rw [zu_at] | rw [zc_at] | rw [zu_nc (by omega)] | rw [zc_nc (by omega)] | rw [if_pos (by omega)] | rw [if_neg (by omega)]))
        · by_cases e2 : b = a + 21 + 2 * i
          · subst e2; (repeat (first | rw [zu_at] | rw [zc_at] | rw [zu_nc (by omega)] | rw [zc_nc (by omega)] | rw [if_pos (by omega)] | rw [if_neg (by omega)]))
          · (repeat (first | rw [zu_at] | rw [zc_at] | rw [zu_nc (by omega)] | rw [zc_nc (by omega)] | rw [if_pos (by omega)] | rw [if_neg (by omega)]))
            exact hv.2.1 b k h1 (by omega)
      · (repeat (first | rw [zu_at] | rw [zc_at] | rw [zu_nc (by omega)] | rw [zc_nc (by omega)] | rw [if_pos (by omega)] | rw [if_neg (by omega)]))
        exact hv.2.2.1 b f hb hb1
      · by_cases e : j = i
        · subst e; (repeat (first | rw [zu_at] | rw [zc_at] | rw [zu_nc (by omega)] | rw [zc_nc (by omega)] | rw [if_pos (by omega)] | rw [if_neg (by omega)]))
        · (repeat (first | rw [zu_at] | rw [zc_at] | rw [zu_nc (by omega)] | rw [zc_nc (by omega)] | rw [if_pos (by omega)] | rw [if_neg (by omega)]))
          exact (hv.2.2.2 j (by omega)).1
      · by_cases e : j = i
        · subst e
          (repeat (first | rw [zu_at] | rw [zc_at] | rw [zu_nc (by omega)] | rw [zc_nc (by omega)] | rw [if_pos (by omega)] | rw [if_neg (by omega)]))
          try rw [show a + 21 + 2 * j + 1 = a + 22 + 2 * j by omega]
        · (repeat (first | rw [zu_at] | rw [zc_at] | rw [zu_nc (by omega)] | rw [zc_nc (by omega)] | rw [if_pos (by omega)] | rw [if_neg (by omega)]))
          exact (hv.2.2.2 j (by omega)).2
theorem zk_rel4 {a U : Nat} {I : zI} {J : zJ} {R : zR} (hK : ∀ c, c < 37 → zK L (a + c) = zK37 c) (ha : 3 ≤ a) (hKf : zK L a = some (.inr 2)) (h3 : R a 3 = some (a + 20)) :
    ∀ (q p : Nat), p + q = 16 → zW L 3 64 [some (.ref a), some (.int (Int32.ofNat p))] [] (a + 37, U, zrw I (a + 20) (zfill (I (a + 20)) 0 p (fun _ => -1)), J, R) (fun o h => o = .inl none ∧ h = (a + 37, U, zrw I (a + 20) (zfill (I (a + 20)) 0 16 (fun _ => -1)), J, R)) := by
  intro q
  induction q with
  | zero =>
    intro p hp
    obtain rfl : p = 16 := by omega
    refine zx_il1 zd3_64 ?_
    refine zx_al0 zd3_65 ?_
    (refine' zx_gfA zd3_66 ?k41 ?r41 ?_); (case k41 => first | exact zkk ((hK 0 (by decide)).trans rfl) (by omega) | exact zkk ((hK 1 (by decide)).trans rfl) (by omega) | exact zkk ((hK 20 (by decide)).trans rfl) (by omega) | exact zkk hKf (by omega)); (case r41 => assumption)
    (refine' zx_alen zd3_69 ?k42 ?_); (case k42 => first | exact zkk ((hK 0 (by decide)).trans rfl) (by omega) | exact zkk ((hK 1 (by decide)).trans rfl) (by omega) | exact zkk ((hK 20 (by decide)).trans rfl) (by omega) | exact zkk hKf (by omega))
    first | ((with_reducible refine zx_icmpgeN zd3_70 ?s43 (fun h => ?_) (fun h => ?_)); (case s43 => omega)) | refine zx_icmpge zd3_70 (fun h => ?_) (fun h => ?_)
    · refine zx_vret zd3_86 rfl ?_
      exact ⟨rfl, rfl⟩
    · omega
  | succ q ih =>
    intro p hp
    refine zx_il1 zd3_64 ?_
    refine zx_al0 zd3_65 ?_
    (refine' zx_gfA zd3_66 ?k47 ?r47 ?_); (case k47 => first | exact zkk ((hK 0 (by decide)).trans rfl) (by omega) | exact zkk ((hK 1 (by decide)).trans rfl) (by omega) | exact zkk ((hK 20 (by decide)).trans rfl) (by omega) | exact zkk hKf (by omega)); (case r47 => assumption)
    (refine' zx_alen zd3_69 ?k48 ?_); (case k48 => first | exact zkk ((hK 0 (by decide)).trans rfl) (by omega) | exact zkk ((hK 1 (by decide)).trans rfl) (by omega) | exact zkk ((hK 20 (by decide)).trans rfl) (by omega) | exact zkk hKf (by omega))
    first | ((with_reducible refine zx_icmpgeN zd3_70 ?s49 (fun h => ?_) (fun h => ?_)); (case s49 => omega)) | refine zx_icmpge zd3_70 (fun h => ?_) (fun h => ?_)
    · omega
    · refine zx_al0 zd3_73 ?_
      (refine' zx_gfA zd3_74 ?k51 ?r51 ?_); (case k51 => first | exact zkk ((hK 0 (by decide)).trans rfl) (by omega) | exact zkk ((hK 1 (by decide)).trans rfl) (by omega) | exact zkk ((hK 20 (by decide)).trans rfl) (by omega) | exact zkk hKf (by omega)); (case r51 => assumption)
      refine zx_il1 zd3_77 ?_
      refine zx_c zd3_78 ?_
      (with_reducible refine' zx_iastN zd3_79 ?k54 ?j54 ?a54 ?_); (case k54 => first | exact zkk ((hK 0 (by decide)).trans rfl) (by omega) | exact zkk ((hK 1 (by decide)).trans rfl) (by omega) | exact zkk ((hK 20 (by decide)).trans rfl) (by omega) | exact zkk hKf (by omega)); (case j54 => omega); (case a54 => omega)
      first | with_reducible refine zx_iin1 zd3_80 ?_ | refine zx_ii1 zd3_80 ?_
      refine zx_goto zd3_83 ?_
      have e := zfill_succ (I (a + 20)) 0 p (fun _ => (-1 : Int32))
      rw [Nat.zero_add] at e
      have k1 := ih (p + 1) (by omega)
      rw [← e] at k1
      rw [zu_rw, zrw_rw, zrw_at]
      exact k1
theorem zk_rel {a : Nat} (hK : ∀ c, c < 37 → zK L (a + c) = zK37 c) (ha : 3 ≤ a) :
    ∃ k, zRet L 3 [.ref a] (a + 1, U, I, J, R) none k ∧ ∃ (U' : Nat) (I' : zI) (J' : zJ) (R' : zR), k = (a + 37, U', I', J', R') ∧ U' ≤ U + 2000 ∧ (∀ b k, b ≤ a → I' b k = I b k) ∧ (∀ b k, a < b → b < a + 37 → b ≠ a + 20 → I' b k = 0) ∧ (∀ p, p < 16 → I' (a + 20) p = -1) ∧ (∀ b f, b < a → R' b f = R b f) ∧ zRr R' a := by
  have hK0 : zK L a = some (.inr 2) := (hK 0 (by decide)).trans rfl
  have hK1 : zK L (a + 1) = some (.inl (.object "ReleaseLeaves$StoredFile", 8)) := (hK 1 (by decide)).trans rfl
  have hK2 : zK L (a + 2) = some (.inr 3) := (hK 2 (by decide)).trans rfl
  have hKr : zK L (a + 20) = some (.inl (.int, 16)) := (hK 20 (by decide)).trans rfl
  apply zRet_of
  show zW L 3 0 [some (.ref a), none] [] _ _
  refine zx_al0 zd3_0 ?_
  refine zx_obj zd3_1 rfl ?_
  refine zx_al0 zd3_4 ?_
  refine zx_c zd3_5 ?_
  (refine zx_anew zd3_7 (by decide) ?k61 ?_); (case k61 => first | exact hK1 | exact hK2 | exact hKr)
  (refine zx_pfA zd3_10 ?k62 ?a62 ?_); (case k62 => first | exact zkk hK0 (by omega) | exact zkk hK2 (by omega)); (case a62 => omega)
  refine zx_al0 zd3_13 ?_
  (refine zx_new zd3_14 ?k64 ?_); (case k64 => first | exact hK1 | exact hK2 | exact hKr)
  first | refine zx_dupR zd3_17 ?_ | refine zx_dupI zd3_17 ?_
  obtain ⟨k4, hr4, U4, I4, J4, R4, rfl, hU4, i1, i2, r1, r2, r3, r4⟩ := zk_tree (L := L) (t := a + 2) (U := U + 8 + zfN 3) (I := zc (zc I (a + 1) 0) (a + 2) 0) (J := zc (zc J (a + 1) 0) (a + 2) 0) (R := zc (zu (zc R (a + 1) none) a 0 (some (a + 1))) (a + 2) none) hK2 ((hK 3 (by decide)).trans rfl) (fun i hi => by
    rw [show a + 2 + 1 + 1 + i = a + (4 + i) by omega, hK (4 + i) (by omega)]
    unfold zK37
    rw [if_neg (by omega), if_pos (by omega), if_neg (by omega)]) ((hK 19 (by decide)).trans rfl) (by omega)
  (refine zx_cv0V zd3_18 ?k66 (hr4) ?_); (case k66 => first | exact zkk hK0 (by omega) | exact zkk hK2 (by omega))
  show zW L 3 21 [some (.ref a), none] [.ref (a + 2), .ref a] (a + 20, U4, I4, J4, R4) _
  (refine zx_pfO zd3_21 ?k67 ?a67 ?_); (case k67 => first | exact zkk hK0 (by omega) | exact zkk hK2 (by omega)); (case a67 => omega)
  refine zx_al0 zd3_24 ?_
  refine zx_c zd3_25 ?_
  (refine zx_newa zd3_27 (by decide) rfl ?k70 ?_); (case k70 => first | exact hK1 | exact hK2 | exact hKr)
  (refine zx_pfA zd3_29 ?k71 ?a71 ?_); (case k71 => first | exact zkk hK0 (by omega) | exact zkk hK2 (by omega)); (case a71 => omega)
  refine zx_c zd3_32 ?_
  refine zx_is1 zd3_33 rfl ?_
  have hU5 : U4 ≤ U + 1071 := by
    have e3 : zfN 3 = 3 := rfl
    rw [e3] at hU4; omega
  refine zk_rel3 (L := L) (U0 := U + 1100) (I0 := zc I4 (a + 20) 0) (R0 := zu (zc (zu R4 a 2 (some (a + 2))) (a + 20) none) a 3 (some (a + 20))) hK ha ?_ ?_ 8 0 _ _ _ _ (by omega) (by omega) ⟨fun _ _ _ => rfl, fun b k h1 h2 => by omega, fun _ _ _ _ => rfl, fun j hj => by omega⟩
  · (repeat (first | rw [zu_at] | rw [zc_at] | rw [zu_nc (by omega)] | rw [zc_nc (by omega)] | rw [if_pos (by omega)] | rw [if_neg (by omega)]))
    rw [r1 a 0 (by omega)]
    (repeat (first | rw [zu_at] | rw [zc_at] | rw [zu_nc (by omega)] | rw [zc_nc (by omega)] | rw [if_pos (by omega)] | rw [if_neg (by omega)]))
  · intro U5 I5 J5 R5 hU6 hv
    refine zx_c zd3_62 ?_
    refine zx_is1 zd3_63 rfl ?_
    have rr3 : R5 a 3 = some (a + 20) := by
      rw [hv.2.2.1 a 3 (by omega) (by omega)]
      (repeat (first | rw [zu_at] | rw [zc_at] | rw [zu_nc (by omega)] | rw [zc_nc (by omega)] | rw [if_pos (by omega)] | rw [if_neg (by omega)]))
    have k1 := zk_rel4 (L := L) (U := U5) (I := I5) (J := J5) (R := R5) hK ha hK0 rr3 16 0 rfl
    rw [zfill_zero, zrw_id] at k1
    refine zW.mono k1 (fun o h hq => ⟨hq.1, _, _, _, _, hq.2, by omega, fun b k hb => ?_, fun b k h1 h2 h3 => ?_, fun p hp => ?_, fun b f hb => ?_, ⟨?_, ?_, ?_⟩, ⟨?_, ?_⟩, fun q hq => ?_, fun j hj => hv.2.2.2 j hj⟩)
    · rw [zrw_ne _ _ (by omega), hv.1 b k (by omega)]
      (repeat (first | rw [zu_at] | rw [zc_at] | rw [zu_nc (by omega)] | rw [zc_nc (by omega)] | rw [if_pos (by omega)] | rw [if_neg (by omega)]))
      rw [i1 b k (by omega)]
      (repeat (first | rw [zu_at] | rw [zc_at] | rw [zu_nc (by omega)] | rw [zc_nc (by omega)] | rw [if_pos (by omega)] | rw [if_neg (by omega)]))
    · rw [zrw_ne _ _ h3]
      by_cases hb : b < a + 21
      · rw [hv.1 b k hb]
        (repeat (first | rw [zu_at] | rw [zc_at] | rw [zu_nc (by omega)] | rw [zc_nc (by omega)] | rw [if_pos (by omega)] | rw [if_neg (by omega)]))
        by_cases hb2 : b ≤ a + 2
        · rw [i1 b k hb2]
          by_cases e : b = a + 2
          · subst e; (repeat (first | rw [zu_at] | rw [zc_at] | rw [zu_nc (by omega)] | rw [zc_nc (by omega)] | rw [if_pos (by omega)] | rw [if_neg (by omega)]))
          · obtain rfl : b = a + 1 := by omega
            (repeat (first | rw [zu_at] | rw [zc_at] | rw [zu_nc (by omega)] | rw [zc_nc (by omega)] | rw [if_pos (by omega)] | rw [if_neg (by omega)]))
        · exact i2 b k (by omega) (by omega)
      · exact hv.2.1 b k (by omega) (by omega)
    · rw [zrw_at, zfill_in0 _ _ _ hp]
    · rw [hv.2.2.1 b f (by omega) (by omega)]
      (repeat (first | rw [zu_at] | rw [zc_at] | rw [zu_nc (by omega)] | rw [zc_nc (by omega)] | rw [if_pos (by omega)] | rw [if_neg (by omega)]))
      rw [r1 b f (by omega)]
      (repeat (first | rw [zu_at] | rw [zc_at] | rw [zu_nc (by omega)] | rw [zc_nc (by omega)] | rw [if_pos (by omega)] | rw [if_neg (by omega)]))
    · rw [hv.2.2.1 a 0 (by omega) (by omega)]
      (repeat (first | rw [zu_at] | rw [zc_at] | rw [zu_nc (by omega)] | rw [zc_nc (by omega)] | rw [if_pos (by omega)] | rw [if_neg (by omega)]))
      rw [r1 a 0 (by omega)]
      (repeat (first | rw [zu_at] | rw [zc_at] | rw [zu_nc (by omega)] | rw [zc_nc (by omega)] | rw [if_pos (by omega)] | rw [if_neg (by omega)]))
    · rw [hv.2.2.1 a 2 (by omega) (by omega)]
      (repeat (first | rw [zu_at] | rw [zc_at] | rw [zu_nc (by omega)] | rw [zc_nc (by omega)] | rw [if_pos (by omega)] | rw [if_neg (by omega)]))
    · exact rr3
    · rw [hv.2.2.1 (a + 2) 0 (by omega) (by omega)]
      (repeat (first | rw [zu_at] | rw [zc_at] | rw [zu_nc (by omega)] | rw [zc_nc (by omega)] | rw [if_pos (by omega)] | rw [if_neg (by omega)]))
      exact r2
    · rw [hv.2.2.1 (a + 2) 1 (by omega) (by omega)]
      (repeat (first | rw [zu_at] | rw [zc_at] | rw [zu_nc (by omega)] | rw [zc_nc (by omega)] | rw [if_pos (by omega)] | rw [if_neg (by omega)]))
      exact r3
    · rw [hv.2.2.1 (a + 3) q (by omega) (by omega)]
      (repeat (first | rw [zu_at] | rw [zc_at] | rw [zu_nc (by omega)] | rw [zc_nc (by omega)] | rw [if_pos (by omega)] | rw [if_neg (by omega)]))
      exact r4 q hq
/-- the digester's; the log's; the claim's -/
theorem zk_dig : zRet L 2 [.ref 4] (5, U, I, J, R) none (7, U + 72, zc (zc I 5 0) 6 0, zc (zc J 5 0) 6 0, zu (zc (zu (zc R 5 none) 4 0 (some 5)) 6 none) 4 1 (some 6)) := by
  show zW L 2 0 [some (.ref 4)] [] _ _
  refine zx_al0 zd2_0 ?_
  refine zx_obj zd2_1 rfl ?_
  refine zx_al0 zd2_4 ?_
  refine zx_c zd2_5 ?_
  (refine zx_newa zd2_7 (by decide) rfl ?k80 ?_); (case k80 => rfl)
  (refine zx_pfA zd2_9 ?k81 ?a81 ?_); (case k81 => exact zkk rfl (by omega)); (case a81 => omega)
  refine zx_al0 zd2_12 ?_
  refine zx_gs zd2_13 ?_
  (refine' zx_alen zd2_16 ?k84 ?_); (case k84 => exact zkk rfl (by omega))
  (refine zx_newa zd2_17 (by decide) rfl ?k85 ?_); (case k85 => rfl)
  (refine zx_pfA zd2_19 ?k86 ?a86 ?_); (case k86 => exact zkk rfl (by omega)); (case a86 => omega)
  refine zx_vret zd2_22 rfl ?_
  exact ⟨rfl, rfl⟩
theorem zk_log : zRet L 12 [.ref 428] (429, U, I, J, R) none (433, U + 400, zc (zc (zc (zc I 429 0) 430 0) 431 0) 432 0, zc (zc (zc (zc J 429 0) 430 0) 431 0) 432 0, zu (zc (zu (zc (zu (zc (zu (zc R 429 none) 428 0 (some 429)) 430 none) 428 1 (some 430)) 431 none) 428 2 (some 431)) 432 none) 428 3 (some 432)) := by
  show zW L 12 0 [some (.ref 428)] [] _ _
  refine zx_al0 zd12_0 ?_
  refine zx_obj zd12_1 rfl ?_
  refine zx_al0 zd12_4 ?_
  refine zx_c zd12_5 ?_
  (refine zx_newa zd12_7 (by decide) rfl ?k92 ?_); (case k92 => rfl)
  (refine zx_pfA zd12_9 ?k93 ?a93 ?_); (case k93 => exact zkk rfl (by omega)); (case a93 => omega)
  refine zx_al0 zd12_12 ?_
  refine zx_c zd12_13 ?_
  (refine zx_newa zd12_15 (by decide) rfl ?k96 ?_); (case k96 => rfl)
  (refine zx_pfA zd12_17 ?k97 ?a97 ?_); (case k97 => exact zkk rfl (by omega)); (case a97 => omega)
  refine zx_al0 zd12_20 ?_
  refine zx_c zd12_21 ?_
  (refine zx_newa zd12_23 (by decide) rfl ?k100 ?_); (case k100 => rfl)
  (refine zx_pfA zd12_25 ?k101 ?a101 ?_); (case k101 => exact zkk rfl (by omega)); (case a101 => omega)
  refine zx_al0 zd12_28 ?_
  refine zx_c zd12_29 ?_
  (refine zx_newa zd12_31 (by decide) rfl ?k104 ?_); (case k104 => rfl)
  (refine zx_pfA zd12_33 ?k105 ?a105 ?_); (case k105 => exact zkk rfl (by omega)); (case a105 => omega)
  refine zx_vret zd12_36 rfl ?_
  exact ⟨rfl, rfl⟩
theorem zk_clm : zRet L 13 [.ref 433] (434, U, I, J, R) none (435, U + 300, zc I 434 0, zc J 434 0, zu (zc R 434 none) 433 0 (some 434)) := by
  show zW L 13 0 [some (.ref 433)] [] _ _
  refine zx_al0 zd13_0 ?_
  refine zx_obj zd13_1 rfl ?_
  refine zx_al0 zd13_4 ?_
  refine zx_c zd13_5 ?_
  (refine zx_newa zd13_8 (by decide) rfl ?k111 ?_); (case k111 => rfl)
  (refine zx_pfA zd13_10 ?k112 ?a112 ?_); (case k112 => exact zkk rfl (by omega)); (case a112 => omega)
  refine zx_vret zd13_13 rfl ?_
  exact ⟨rfl, rfl⟩
/-- r releases are made -/
def zFa (r : Nat) (I0 : zI) (R0 : zR) (I : zI) (R : zR) : Prop := (∀ b k, b < 8 → I b k = I0 b k) ∧ (∀ b k, 8 ≤ b → b < 8 + 37 * r → (b - 8) % 37 ≠ 20 → I b k = 0) ∧ (∀ q, q < r → ∀ p, p < 16 → I (8 + 37 * q + 20) p = -1) ∧ (∀ b f, b < 7 → R b f = R0 b f) ∧ ∀ q, q < r → R 7 q = some (8 + 37 * q) ∧ zRr R (8 + 37 * q)
theorem zRr_fr {R R' : zR} {a N : Nat} (h : zRr R a) (hN : a + 37 ≤ N) (ha : 8 ≤ a) (hf : ∀ b f, 8 ≤ b → b < N → R' b f = R b f) : zRr R' a := by
  obtain ⟨⟨a1, a2, a3⟩, ⟨b1, b2⟩, c1, d1⟩ := h
  refine ⟨⟨?_, ?_, ?_⟩, ⟨?_, ?_⟩, fun q hq => ?_, fun j hj => ⟨?_, ?_⟩⟩
  · rw [hf _ _ (by omega) (by omega)]; exact a1
  · rw [hf _ _ (by omega) (by omega)]; exact a2
  · rw [hf _ _ (by omega) (by omega)]; exact a3
  · rw [hf _ _ (by omega) (by omega)]; exact b1
  · rw [hf _ _ (by omega) (by omega)]; exact b2
  · rw [hf _ _ (by omega) (by omega)]; exact c1 q hq
  · rw [hf _ _ (by omega) (by omega)]; exact (d1 j hj).1
  · rw [hf _ _ (by omega) (by omega)]; exact (d1 j hj).2
theorem zk_u {U U0 U4 r k : Nat} (h : U ≤ U0 + k * r) (h4 : U4 ≤ U + k) : U4 ≤ U0 + k * (r + 1) := by
  rw [Nat.mul_succ]
  omega
theorem zk_cls1 {U0 : Nat} {I0 : zI} {R0 : zR} (h1 : R0 3 1 = some 7)
    (kk : ∀ (U : Nat) (I : zI) (J : zJ) (R : zR), U ≤ U0 + 22055 → zFa 11 I0 R0 I R → zW L 1 54 [some (.ref 3), some (.int (Int32.ofNat 11))] [] (415, U, I, J, R) Q) :
    ∀ (q r U : Nat) (I : zI) (J : zJ) (R : zR), r + q = 11 → U ≤ U0 + 2005 * r → zFa r I0 R0 I R → zW L 1 26 [some (.ref 3), some (.int (Int32.ofNat r))] [] (8 + 37 * r, U, I, J, R) Q := by
  intro q
  induction q with
  | zero =>
    intro r U I J R hr hU hv
    obtain rfl : r = 11 := by omega
    have r0 : R 3 1 = some 7 := (hv.2.2.2.1 3 1 (by omega)).trans h1
    have hKa : zK L 3 = some (.inr 0) := rfl
    refine zx_il1 zd1_26 ?_
    refine zx_al0 zd1_27 ?_
    (refine' zx_gfA zd1_28 ?k116 ?r116 ?_); (case k116 => first | exact zkk rfl (by omega) | exact zkk hKa (by omega)); (case r116 => assumption)
    (refine' zx_alen zd1_31 ?k117 ?_); (case k117 => first | exact zkk rfl (by omega) | exact zkk hKa (by omega))
    first | ((with_reducible refine zx_icmpgeN zd1_32 ?s118 (fun h => ?_) (fun h => ?_)); (case s118 => omega)) | refine zx_icmpge zd1_32 (fun h => ?_) (fun h => ?_)
    · exact kk U I J R hU hv
    · omega
  | succ q ih =>
    intro r U I J R hr hU hv
    have r0 : R 3 1 = some 7 := (hv.2.2.2.1 3 1 (by omega)).trans h1
    have hKa : zK L (8 + 37 * r) = some (.inr 2) := zK_B0 (by omega)
    refine zx_il1 zd1_26 ?_
    refine zx_al0 zd1_27 ?_
    (refine' zx_gfA zd1_28 ?k121 ?r121 ?_); (case k121 => first | exact zkk rfl (by omega) | exact zkk hKa (by omega)); (case r121 => assumption)
    (refine' zx_alen zd1_31 ?k122 ?_); (case k122 => first | exact zkk rfl (by omega) | exact zkk hKa (by omega))
    first | ((with_reducible refine zx_icmpgeN zd1_32 ?s123 (fun h => ?_) (fun h => ?_)); (case s123 => omega)) | refine zx_icmpge zd1_32 (fun h => ?_) (fun h => ?_)
    · omega
    · refine zx_al0 zd1_35 ?_
      (refine' zx_gfA zd1_36 ?k125 ?r125 ?_); (case k125 => first | exact zkk rfl (by omega) | exact zkk hKa (by omega)); (case r125 => assumption)
      refine zx_il1 zd1_39 ?_
      (refine zx_new zd1_40 ?k127 ?_); (case k127 => exact hKa)
      first | refine zx_dupR zd1_43 ?_ | refine zx_dupI zd1_43 ?_
      obtain ⟨k4, hr4, U4, I4, J4, R4, rfl, hU4, i1, i2, i3, r1, r2⟩ := zk_rel (L := L) (a := 8 + 37 * r) (U := U + zfN 2) (I := zc I (8 + 37 * r) 0) (J := zc J (8 + 37 * r) 0) (R := zc R (8 + 37 * r) none) (fun c hc => zK_B (by omega) hc) (by omega)
      (refine zx_cv0V zd1_44 ?k129 (hr4) ?_); (case k129 => first | exact zkk rfl (by omega) | exact zkk hKa (by omega))
      (with_reducible refine' zx_aastN zd1_47 ?v130 ?k130 ?j130 ?a130 ?_); (case v130 => first | exact zkk rfl (by omega) | exact zkk hKa (by omega)); (case k130 => first | exact zkk rfl (by omega) | exact zkk hKa (by omega)); (case j130 => omega); (case a130 => omega)
      first | with_reducible refine zx_iin1 zd1_48 ?_ | refine zx_ii1 zd1_48 ?_
      refine zx_goto zd1_51 ?_
      have e2 : zfN 2 = 5 := rfl
      rw [e2, Nat.add_assoc] at hU4
      have hU5 : U4 ≤ U0 + 2005 * (r + 1) := zk_u hU hU4
      clear hU hU4
      rw [show 8 + 37 * r + 37 = 8 + 37 * (r + 1) by omega]
      have hR4 : ∀ b f, 8 ≤ b → b < 8 + 37 * r → zu R4 7 r (some (8 + 37 * r)) b f = R b f := fun b f hb1 hb2 => by
        (repeat (first | rw [zu_at] | rw [zc_at] | rw [zu_nc (by omega)] | rw [zc_nc (by omega)] | rw [if_pos (by omega)] | rw [if_neg (by omega)]))
        rw [r1 b f hb2]
        (repeat (first | rw [zu_at] | rw [zc_at] | rw [zu_nc (by omega)] | rw [zc_nc (by omega)] | rw [if_pos (by omega)] | rw [if_neg (by omega)]))
      refine ih (r + 1) _ _ _ _ (by omega) hU5 ⟨fun b k hb => ?_, fun b k h1 h2 h3 => ?_, fun q hq p hp => ?_, fun b f hb => ?_, fun q hq => ⟨?_, ?_⟩⟩
      · rw [i1 b k (by omega)]
        (repeat (first | rw [zu_at] | rw [zc_at] | rw [zu_nc (by omega)] | rw [zc_nc (by omega)] | rw [if_pos (by omega)] | rw [if_neg (by omega)]))
        exact hv.1 b k hb
      · by_cases hb : b < 8 + 37 * r
        · rw [i1 b k (by omega)]
          (repeat (first | rw [zu_at] | rw [zc_at] | rw [zu_nc (by omega)] | rw [zc_nc (by omega)] | rw [if_pos (by omega)] | rw [if_neg (by omega)]))
          exact hv.2.1 b k h1 hb h3
        · by_cases e : b = 8 + 37 * r
          · subst e
            rw [i1 _ k (by omega)]
            (repeat (first | rw [zu_at] | rw [zc_at] | rw [zu_nc (by omega)] | rw [zc_nc (by omega)] | rw [if_pos (by omega)] | rw [if_neg (by omega)]))
          · exact i2 b k (by omega) (by omega) (by omega)
      · by_cases e : q = r
        · subst e; exact i3 p hp
        · rw [i1 _ p (by omega)]
          (repeat (first | rw [zu_at] | rw [zc_at] | rw [zu_nc (by omega)] | rw [zc_nc (by omega)] | rw [if_pos (by omega)] | rw [if_neg (by omega)]))
          exact hv.2.2.1 q (by omega) p hp
      · (repeat (first | rw [zu_at] | rw [zc_at] | rw [zu_nc (by omega)] | rw [zc_nc (by omega)] | rw [if_pos (by omega)] | rw [if_neg (by omega)]))
        rw [r1 b f (by omega)]
        (repeat (first | rw [zu_at] | rw [zc_at] | rw [zu_nc (by omega)] | rw [zc_nc (by omega)] | rw [if_pos (by omega)] | rw [if_neg (by omega)]))
        exact hv.2.2.2.1 b f hb
      · by_cases e : q = r
        · subst e; (repeat (first | rw [zu_at] | rw [zc_at] | rw [zu_nc (by omega)] | rw [zc_nc (by omega)] | rw [if_pos (by omega)] | rw [if_neg (by omega)]))
        · rw [zu_nc (by omega), r1 7 q (by omega)]
          (repeat (first | rw [zu_at] | rw [zc_at] | rw [zu_nc (by omega)] | rw [zc_nc (by omega)] | rw [if_pos (by omega)] | rw [if_neg (by omega)]))
          exact (hv.2.2.2.2 q (by omega)).1
      · by_cases e : q = r
        · subst e
          exact zRr_fr r2 (Nat.le_refl _) (by omega) (fun b f hb1 hb2 => by rw [zu_nc (by omega)])
        · exact zRr_fr (hv.2.2.2.2 q (by omega)).2 (N := 8 + 37 * r) (by omega) (by omega) hR4
/-- behind the releases -/
theorem zk_cls2 (hC : zCs I) (r30 : R 3 0 = some 4) (r33 : R 3 3 = some 415) (r60 : R 415 0 = some 416) (r40 : R 4 0 = some 5) (r41 : R 4 1 = some 6) {l1 : Option Value} :
    zW L 1 66 [some (.ref 3), l1] [] (427, U, I, J, R) (fun o h => o = .inl none ∧ ∃ (U' : Nat) (I' : zI) (J' : zJ) (R' : zR), h = (436, U', I', J', R') ∧ U' ≤ U + 900 ∧ (∀ b k, b < 427 → b ≠ 4 → b ≠ 5 → b ≠ 6 → b ≠ 416 → I' b k = I b k) ∧ (∀ b, b < 32 → I' 416 b = zsha [] b) ∧ (∀ b k, 427 ≤ b → b < 436 → I' b k = 0) ∧ (∀ b f, b < 427 → b ≠ 3 → R' b f = R b f) ∧
      (R' 3 0 = R 3 0 ∧ R' 3 1 = R 3 1 ∧ R' 3 3 = R 3 3 ∧ R' 3 5 = some 427 ∧ R' 3 7 = some 428 ∧ R' 3 8 = some 433 ∧ R' 3 9 = some 435) ∧ (R' 428 0 = some 429 ∧ R' 428 1 = some 430 ∧ R' 428 2 = some 431 ∧ R' 428 3 = some 432) ∧ R' 433 0 = some 434) := by
  refine zx_al0 zd1_66 ?_
  (refine' zx_gfO zd1_67 ?k134 ?r134 ?_); (case k134 => exact zkk rfl (by omega)); (case r134 => assumption)
  obtain ⟨I1, hr1, hd1, hf1⟩ := zs_begin (L := L) (N := 427) (U := U) (I := I) (J := J) (R := R) r40 (by decide) hC
  (refine zx_cv0V zd1_70 ?k135 (hr1) ?_); (case k135 => exact zkk rfl (by omega))
  refine zx_al0 zd1_73 ?_
  (refine' zx_gfO zd1_74 ?k137 ?r137 ?_); (case k137 => exact zkk rfl (by omega)); (case r137 => assumption)
  refine zx_al0 zd1_77 ?_
  (refine' zx_gfA zd1_78 ?k139 ?r139 ?_); (case k139 => exact zkk rfl (by omega)); (case r139 => assumption)
  refine zx_c zd1_81 ?_
  first | ((with_reducible refine' zx_aaldAN zd1_82 ?k141 ?j141 ?r141 ?_); (case k141 => exact zkk rfl (by omega)); (case j141 => omega); (case r141 => assumption)) | ((with_reducible refine' zx_aaldON zd1_82 ?k141 ?j141 ?r141 ?_); (case k141 => exact zkk rfl (by omega)); (case j141 => omega); (case r141 => assumption))
  obtain ⟨I2, hr2, ho2, hf2⟩ := zs_finish (L := L) (N := 427) (U := U) (I := I1) (J := J) (R := R) (a := 416) r40 r41 (by decide) (zkk rfl (by decide)) (by decide) (hf1.cs hC) hd1 (by decide)
  (refine zx_cv1V zd1_83 ?k142 (hr2) ?_); (case k142 => exact zkk rfl (by omega))
  refine zx_al0 zd1_86 ?_
  refine zx_c zd1_87 ?_
  (refine zx_newa zd1_89 (by decide) rfl ?k145 ?_); (case k145 => rfl)
  (refine zx_pfA zd1_91 ?k146 ?a146 ?_); (case k146 => exact zkk rfl (by omega)); (case a146 => omega)
  refine zx_al0 zd1_94 ?_
  (refine zx_new zd1_95 ?k148 ?_); (case k148 => rfl)
  first | refine zx_dupR zd1_98 ?_ | refine zx_dupI zd1_98 ?_
  (refine zx_cv0V zd1_99 ?k150 (zk_log) ?_); (case k150 => exact zkk rfl (by omega))
  (refine zx_pfO zd1_102 ?k151 ?a151 ?_); (case k151 => exact zkk rfl (by omega)); (case a151 => omega)
  refine zx_al0 zd1_105 ?_
  (refine zx_new zd1_106 ?k153 ?_); (case k153 => rfl)
  first | refine zx_dupR zd1_109 ?_ | refine zx_dupI zd1_109 ?_
  (refine zx_cv0V zd1_110 ?k155 (zk_clm) ?_); (case k155 => exact zkk rfl (by omega))
  (refine zx_pfO zd1_113 ?k156 ?a156 ?_); (case k156 => exact zkk rfl (by omega)); (case a156 => omega)
  refine zx_al0 zd1_116 ?_
  refine zx_c zd1_117 ?_
  (refine zx_newa zd1_119 (by decide) rfl ?k159 ?_); (case k159 => rfl)
  (refine zx_pfA zd1_121 ?k160 ?a160 ?_); (case k160 => exact zkk rfl (by omega)); (case a160 => omega)
  refine zx_vret zd1_124 rfl ?_
  have e5 : zfN 5 = 5 := rfl
  have e6 : zfN 6 = 2 := rfl
  refine ⟨rfl, _, _, _, _, rfl, by omega, fun b k hb h4 h5 h6 h7 => ?_, fun b hb => ?_, fun b k h1 h2 => ?_, fun b f hb h3 => ?_, ⟨rfl, rfl, rfl, rfl, rfl, rfl, rfl⟩, ⟨rfl, rfl, rfl, rfl⟩, rfl⟩
  · (repeat (first | rw [zu_at] | rw [zc_at] | rw [zu_nc (by omega)] | rw [zc_nc (by omega)] | rw [if_pos (by omega)] | rw [if_neg (by omega)]))
    rw [hf2 b h4 h5 h6 h7, hf1 b h4 h5 h6]
  · (repeat (first | rw [zu_at] | rw [zc_at] | rw [zu_nc (by omega)] | rw [zc_nc (by omega)] | rw [if_pos (by omega)] | rw [if_neg (by omega)]))
    rw [ho2, zfill_in0 _ _ _ hb]
  · rcases (by omega : b = 427 ∨ b = 428 ∨ b = 429 ∨ b = 430 ∨ b = 431 ∨ b = 432 ∨ b = 433 ∨ b = 434 ∨ b = 435) with e | e | e | e | e | e | e | e | e <;> subst e <;> rfl
  · (repeat (first | rw [zu_at] | rw [zc_at] | rw [zu_nc (by omega)] | rw [zc_nc (by omega)] | rw [if_pos (by omega)] | rw [if_neg (by omega)]))
/-- what the class's constructor leaves -/
def zSc (I : zI) (R : zR) : Prop := (∀ b k, 8 ≤ b → b < 415 → (b - 8) % 37 ≠ 20 → I b k = 0) ∧ (∀ q, q < 11 → ∀ p, p < 16 → I (8 + 37 * q + 20) p = -1) ∧ (∀ b, b < 32 → I 416 b = zsha [] b) ∧ (∀ b k, 427 ≤ b → b < 436 → I b k = 0) ∧
  ((R 3 0 = some 4 ∧ R 3 1 = some 7 ∧ R 3 3 = some 415 ∧ R 3 5 = some 427 ∧ R 3 7 = some 428 ∧ R 3 8 = some 433 ∧ R 3 9 = some 435) ∧ (R 428 0 = some 429 ∧ R 428 1 = some 430 ∧ R 428 2 = some 431 ∧ R 428 3 = some 432) ∧ R 433 0 = some 434 ∧ R 4 0 = some 5 ∧ R 4 1 = some 6) ∧ (∀ k, k < 11 → R 415 k = some (416 + k)) ∧ ∀ q, q < 11 → R 7 q = some (8 + 37 * q) ∧ zRr R (8 + 37 * q)
theorem zk_cls (hC : zCs I) : ∃ k, zRet L 1 [.ref 3] (4, U, I, J, R) none k ∧ ∃ (U' : Nat) (I' : zI) (J' : zJ) (R' : zR), k = (436, U', I', J', R') ∧ U' ≤ U + 30000 ∧ (∀ b k, b < 4 → I' b k = I b k) ∧ zSc I' R' := by
  have hi : (List.range 11).all (fun i => decide (zK L (415 + 1 + i) = some (.inl (.int, 32)))) = true := by
    rw [List.all_eq_true]
    intro i h
    rw [List.mem_range] at h
    exact decide_eq_true (zK_list h)
  apply zRet_of
  show zW L 1 0 [some (.ref 3), none] [] _ _
  refine zx_al0 zd1_0 ?_
  refine zx_obj zd1_1 rfl ?_
  refine zx_al0 zd1_4 ?_
  (refine zx_new zd1_5 ?k165 ?_); (case k165 => first | rfl | exact hi)
  first | refine zx_dupR zd1_8 ?_ | refine zx_dupI zd1_8 ?_
  (refine zx_cv0V zd1_9 ?k167 (zk_dig) ?_); (case k167 => exact zkk rfl (by omega))
  (refine zx_pfO zd1_12 ?k168 ?a168 ?_); (case k168 => exact zkk rfl (by omega)); (case a168 => omega)
  refine zx_al0 zd1_15 ?_
  refine zx_c zd1_16 ?_
  (refine zx_anew zd1_18 (by decide) ?k171 ?_); (case k171 => first | rfl | exact hi)
  (refine zx_pfA zd1_21 ?k172 ?a172 ?_); (case k172 => exact zkk rfl (by omega)); (case a172 => omega)
  refine zx_c zd1_24 ?_
  refine zx_is1 zd1_25 rfl ?_
  have e1 : zfN 1 = 3 := rfl
  refine zk_cls1 (L := L) (U0 := U + 100) (I0 := zc (zc (zc (zc I 4 0) 5 0) 6 0) 7 0) (R0 := zu (zc (zu (zu (zc (zu (zc (zc R 4 none) 5 none) 4 0 (some 5)) 6 none) 4 1 (some 6)) 3 0 (some 4)) 7 none) 3 1 (some 7)) rfl ?_ 11 0 _ _ _ _ (by omega) (by omega) ⟨fun _ _ _ => rfl, fun b k h1 h2 => by omega, fun q hq => by omega, fun _ _ _ => rfl, fun q hq => by omega⟩
  intro U1 I1 J1 R1 hU1 hv
  obtain ⟨v1, v2, v3, v4, v5⟩ := hv
  refine zx_al0 zd1_54 ?_
  refine zx_c zd1_55 ?_
  refine zx_c zd1_57 ?_
  (refine zx_multi zd1_59 (by decide) (by decide) ?k178 ?i178 ?_); (case k178 => first | rfl | exact hi); (case i178 => first | rfl | exact hi)
  show zW L 1 63 [some (.ref 3), some (.int (Int32.ofNat 11))] [.ref 415, .ref 3] (427, U1 + 363, (fun b j => if 415 ≤ b ∧ b ≤ 415 + 11 then 0 else I1 b j), (fun b j => if 415 ≤ b ∧ b ≤ 415 + 11 then 0 else J1 b j), (fun b j => if b = 415 then (if j < 11 then some (415 + 1 + j) else none) else if 415 ≤ b ∧ b ≤ 415 + 11 then none else R1 b j)) _
  (refine zx_pfA zd1_63 ?k179 ?a179 ?_); (case k179 => exact zkk rfl (by omega)); (case a179 => omega)
  have hC1 : zCs I1 := ⟨fun j hj => (v1 1 j (by decide)).trans (hC.1 j hj), fun j hj => (v1 2 j (by decide)).trans (hC.2 j hj)⟩
  have hC2 : zCs (fun b j => if 415 ≤ b ∧ b ≤ 415 + 11 then 0 else I1 b j) := ⟨fun j hj => hC1.1 j hj, fun j hj => hC1.2 j hj⟩
  refine zW.mono (zk_cls2 (L := L) hC2 ?_ rfl rfl ?_ ?_) (fun o h hq => ?_)
  · exact (v4 3 0 (by decide)).trans rfl
  · exact (v4 4 0 (by decide)).trans rfl
  · exact (v4 4 1 (by decide)).trans rfl
  · obtain ⟨q1, U2, I2, J2, R2, rfl, hU2, w1, w2, w3, w4, ⟨x0, x1, x3, x5, x7, x8, x9⟩, x15, x20⟩ := hq
    refine ⟨q1, U2, I2, J2, R2, rfl, by omega, fun b k hb => ?_, fun b k h1 h2 h3 => ?_, fun q hq p hp => ?_, w2, w3, ⟨⟨x0.trans ((v4 3 0 (by decide)).trans rfl), x1.trans ((v4 3 1 (by decide)).trans rfl), x3.trans rfl, x5, x7, x8, x9⟩, x15, x20, ?_, ?_⟩, fun k hk => ?_, fun q hq => ⟨?_, ?_⟩⟩
    · by_cases e : b = 4
      · omega
      · rw [w1 b k (by omega) e (by omega) (by omega) (by omega)]
        show (if _ then _ else _) = _
        rw [if_neg (by omega), v1 b k (by omega)]
        (repeat (first | rw [zu_at] | rw [zc_at] | rw [zu_nc (by omega)] | rw [zc_nc (by omega)] | rw [if_pos (by omega)] | rw [if_neg (by omega)]))
    · rw [w1 b k (by omega) (by omega) (by omega) (by omega) (by omega)]
      show (if _ then _ else _) = _
      rw [if_neg (by omega)]
      exact v2 b k h1 (by omega) h3
    · rw [w1 _ p (by omega) (by omega) (by omega) (by omega) (by omega)]
      show (if _ then _ else _) = _
      rw [if_neg (by omega)]
      exact v3 q hq p hp
    · rw [w4 4 0 (by decide) (by decide)]
      exact (v4 4 0 (by decide)).trans rfl
    · rw [w4 4 1 (by decide) (by decide)]
      exact (v4 4 1 (by decide)).trans rfl
    · rw [w4 415 k (by decide) (by decide)]
      (repeat (first | rw [zu_at] | rw [zc_at] | rw [zu_nc (by omega)] | rw [zc_nc (by omega)] | rw [if_pos (by omega)] | rw [if_neg (by omega)]))
      try rw [show 415 + 1 + k = 416 + k by omega]
    · rw [w4 7 q (by decide) (by decide)]
      (repeat (first | rw [zu_at] | rw [zc_at] | rw [zu_nc (by omega)] | rw [zc_nc (by omega)] | rw [if_pos (by omega)] | rw [if_neg (by omega)]))
      exact (v5 q hq).1
    · refine zRr_fr (v5 q hq).2 (N := 415) (by omega) (by omega) (fun b f hb1 hb2 => ?_)
      rw [w4 b f (by omega) (by omega)]
      (repeat (first | rw [zu_at] | rw [zc_at] | rw [zu_nc (by omega)] | rw [zc_nc (by omega)] | rw [if_pos (by omega)] | rw [if_neg (by omega)]))
/-- the reference's constants -/
def zt2 (f : Nat → Int32) (k : Nat) (v : Int64) : Nat → Int32 := zup (zup f k (v >>> ((Int32.ofNat 32).toInt64 &&& 63)).toInt32) (k + 1) v.toInt32
theorem zk_two (r1 : R 436 1 = some 437) (hN : 458 ≤ N) {k : Nat} (hk : k + 1 < 64) (v : Int64) : zRet L 83 [.ref 436, .int (Int32.ofNat k), .long v] (N, U, I, J, R) none (N, U, zrw I 437 (zt2 (I 437) k v), J, R) := by
  show zW L 83 0 [some (.ref 436), some (.int (Int32.ofNat k)), some (.long v), none] [] _ _
  refine zx_al0 zd83_0 ?_
  (refine' zx_gfA zd83_1 ?k181 ?r181 ?_); (case k181 => exact zkk rfl (by omega)); (case r181 => exact r1)
  refine zx_il1 zd83_4 ?_
  refine zx_ll2 zd83_5 ?_
  refine zx_c zd83_6 ?_
  refine zx_lshr zd83_8 ?_
  refine zx_l2i zd83_9 ?_
  (with_reducible refine' zx_iastN zd83_10 ?k187 ?j187 ?a187 ?_); (case k187 => exact zkk rfl (by omega)); (case j187 => omega); (case a187 => omega)
  refine zx_al0 zd83_11 ?_
  (refine' zx_gfA zd83_12 ?k189 ?r189 ?_); (case k189 => exact zkk rfl (by omega)); (case r189 => exact r1)
  refine zx_il1 zd83_15 ?_
  refine zx_c zd83_16 ?_
  first | with_reducible refine zx_addN zd83_17 ?_ | refine zx_add zd83_17 ?_
  refine zx_ll2 zd83_18 ?_
  refine zx_l2i zd83_19 ?_
  (with_reducible refine' zx_iastN zd83_20 ?k195 ?j195 ?a195 ?_); (case k195 => exact zkk rfl (by omega)); (case j195 => omega); (case a195 => omega)
  refine zx_vret zd83_21 rfl ?_
  refine ⟨rfl, ?_⟩
  rw [zu_rw, zu_rw, zrw_rw, zrw_at]
  rfl
theorem zk_tell (r1 : R 436 1 = some 437) (hN : 458 ≤ N) {k : Nat} (hk : k + 7 < 64) (a b c d : Int64) : zRet L 82 [.ref 436, .int (Int32.ofNat k), .long a, .long b, .long c, .long d] (N, U, I, J, R) none (N, U, zrw I 437 (zt2 (zt2 (zt2 (zt2 (I 437) k a) (k + 2) b) (k + 4) c) (k + 6) d), J, R) := by
  show zW L 82 0 [some (.ref 436), some (.int (Int32.ofNat k)), some (.long a), none, some (.long b), none, some (.long c), none, some (.long d), none] [] _ _
  refine zx_al0 zd82_0 ?_
  refine zx_il1 zd82_1 ?_
  refine zx_ll2 zd82_2 ?_
  (refine zx_cv2V zd82_3 ?k200 (zk_two r1 hN (by omega) a) ?_); (case k200 => exact zkk rfl (by omega))
  refine zx_al0 zd82_6 ?_
  refine zx_il1 zd82_7 ?_
  refine zx_c zd82_8 ?_
  first | with_reducible refine zx_addN zd82_9 ?_ | refine zx_add zd82_9 ?_
  refine zx_ll4 zd82_10 ?_
  (refine zx_cv2V zd82_12 ?k206 (zk_two r1 hN (by omega) b) ?_); (case k206 => exact zkk rfl (by omega))
  rw [zrw_rw, zrw_at]
  refine zx_al0 zd82_15 ?_
  refine zx_il1 zd82_16 ?_
  refine zx_c zd82_17 ?_
  first | with_reducible refine zx_addN zd82_18 ?_ | refine zx_add zd82_18 ?_
  refine zx_ll6 zd82_19 ?_
  (refine zx_cv2V zd82_21 ?k212 (zk_two r1 hN (by omega) c) ?_); (case k212 => exact zkk rfl (by omega))
  rw [zrw_rw, zrw_at]
  refine zx_al0 zd82_24 ?_
  refine zx_il1 zd82_25 ?_
  refine zx_c zd82_26 ?_
  first | with_reducible refine zx_addN zd82_28 ?_ | refine zx_add zd82_28 ?_
  refine zx_ll8 zd82_29 ?_
  (refine zx_cv2V zd82_31 ?k218 (zk_two r1 hN (by omega) d) ?_); (case k218 => exact zkk rfl (by omega))
  rw [zrw_rw, zrw_at]
  refine zx_vret zd82_34 rfl ?_
  exact ⟨rfl, rfl⟩
def zt8 (f : Nat → Int32) (k : Nat) (a b c d : Int64) : Nat → Int32 := zt2 (zt2 (zt2 (zt2 f k a) (k + 2) b) (k + 4) c) (k + 6) d
def zCt (f : Nat → Int32) : Nat → Int32 := zt8 (zt8 (zt8 (zt8 (zt8 (zt8 (zt8 (zt8 f 0 4794697085070296209 (-5349999486918337627) 4131703405765792241 (-7908458776882290987)) 8 (-2880145866557793535) 2608012711741390275 8268148720858477054 (-7215885185376849548)) 16 (-1973867730000001146) 1135362055407968716 3308224257782482090 6679025011744409818) 24 (-7476448915937442195) (-5763719354946846777) (-4116276917527146169) 489312709404862823) 32 2861767655337697592 5560940570391088403 7280758554198936251 (-9096487095472345979)) 40 (-6719396338005809589) (-4446306890599870045) (-3345356375510677980) (-860691633158840208)) 48 1847814047869135880 2830643534987574453 4115178123771292234 6601373596217405427) 56 8399075790807196527 (-8878714635704401400) (-8016688834709263125) (-4685533652720715534)
theorem zCt_ok : ∀ j, j < 64 → zCt (fun _ => 0) j = zKr j := by
  have h : ∀ j : Fin 64, zCt (fun _ => 0) j.val = zKr j.val := by decide +kernel
  exact fun j hj => h ⟨j, hj⟩
theorem zk_mod2 (r1 : R 436 1 = some 437) (h0 : I 437 = fun _ => 0) : zW L 81 179 [some (.ref 436)] [] (458, U, I, J, R) (fun o h => o = .inl none ∧ h = (458, U, zrw I 437 (zCt (fun _ => 0)), J, R)) := by
  refine zx_al0 zd81_179 ?_
  refine zx_c zd81_180 ?_
  refine zx_C zd81_181 ?_
  refine zx_C zd81_184 ?_
  refine zx_C zd81_187 ?_
  refine zx_C zd81_190 ?_
  (refine zx_cv5V zd81_193 ?k226 (zk_tell r1 (by decide) (by decide) _ _ _ _) ?_); (case k226 => exact zkk rfl (by omega))
  refine zx_al0 zd81_196 ?_
  refine zx_c zd81_197 ?_
  refine zx_C zd81_199 ?_
  refine zx_C zd81_202 ?_
  refine zx_C zd81_205 ?_
  refine zx_C zd81_208 ?_
  (refine zx_cv5V zd81_211 ?k233 (zk_tell r1 (by decide) (by decide) _ _ _ _) ?_); (case k233 => exact zkk rfl (by omega))
  rw [zrw_rw, zrw_at]
  refine zx_al0 zd81_214 ?_
  refine zx_c zd81_215 ?_
  refine zx_C zd81_217 ?_
  refine zx_C zd81_220 ?_
  refine zx_C zd81_223 ?_
  refine zx_C zd81_226 ?_
  (refine zx_cv5V zd81_229 ?k240 (zk_tell r1 (by decide) (by decide) _ _ _ _) ?_); (case k240 => exact zkk rfl (by omega))
  rw [zrw_rw, zrw_at]
  refine zx_al0 zd81_232 ?_
  refine zx_c zd81_233 ?_
  refine zx_C zd81_235 ?_
  refine zx_C zd81_238 ?_
  refine zx_C zd81_241 ?_
  refine zx_C zd81_244 ?_
  (refine zx_cv5V zd81_247 ?k247 (zk_tell r1 (by decide) (by decide) _ _ _ _) ?_); (case k247 => exact zkk rfl (by omega))
  rw [zrw_rw, zrw_at]
  refine zx_al0 zd81_250 ?_
  refine zx_c zd81_251 ?_
  refine zx_C zd81_253 ?_
  refine zx_C zd81_256 ?_
  refine zx_C zd81_259 ?_
  refine zx_C zd81_262 ?_
  (refine zx_cv5V zd81_265 ?k254 (zk_tell r1 (by decide) (by decide) _ _ _ _) ?_); (case k254 => exact zkk rfl (by omega))
  rw [zrw_rw, zrw_at]
  refine zx_al0 zd81_268 ?_
  refine zx_c zd81_269 ?_
  refine zx_C zd81_271 ?_
  refine zx_C zd81_274 ?_
  refine zx_C zd81_277 ?_
  refine zx_C zd81_280 ?_
  (refine zx_cv5V zd81_283 ?k261 (zk_tell r1 (by decide) (by decide) _ _ _ _) ?_); (case k261 => exact zkk rfl (by omega))
  rw [zrw_rw, zrw_at]
  refine zx_al0 zd81_286 ?_
  refine zx_c zd81_287 ?_
  refine zx_C zd81_289 ?_
  refine zx_C zd81_292 ?_
  refine zx_C zd81_295 ?_
  refine zx_C zd81_298 ?_
  (refine zx_cv5V zd81_301 ?k268 (zk_tell r1 (by decide) (by decide) _ _ _ _) ?_); (case k268 => exact zkk rfl (by omega))
  rw [zrw_rw, zrw_at]
  refine zx_al0 zd81_304 ?_
  refine zx_c zd81_305 ?_
  refine zx_C zd81_307 ?_
  refine zx_C zd81_310 ?_
  refine zx_C zd81_313 ?_
  refine zx_C zd81_316 ?_
  (refine zx_cv5V zd81_319 ?k275 (zk_tell r1 (by decide) (by decide) _ _ _ _) ?_); (case k275 => exact zkk rfl (by omega))
  rw [zrw_rw, zrw_at]
  refine zx_vret zd81_322 rfl ?_
  refine ⟨rfl, ?_⟩
  rw [h0]
  rfl
/-- what the reference's constructor leaves -/
def zSm (R : zR) : Prop := (R 436 1 = some 437 ∧ R 436 3 = some 438 ∧ R 436 4 = some 439 ∧ R 436 5 = some 440 ∧ R 436 6 = some 441 ∧ R 436 7 = some 442 ∧ R 436 9 = some 443 ∧ R 436 10 = some 444 ∧ R 436 11 = some 445 ∧ R 436 12 = some 446) ∧
  R 436 13 = some 447 ∧ R 436 14 = some 448 ∧ R 436 16 = some 449 ∧ R 436 18 = some 450 ∧ R 436 19 = some 451 ∧ R 436 20 = some 452 ∧ R 436 23 = some 453 ∧ R 436 25 = some 454 ∧ R 436 26 = some 455 ∧ R 436 27 = some 456 ∧ R 436 28 = some 457
theorem zk_mod : ∃ k, zRet L 81 [.ref 436] (437, U, I, J, R) none k ∧ ∃ (U' : Nat) (I' : zI) (J' : zJ) (R' : zR), k = (458, U', I', J', R') ∧ U' ≤ U + 20000 ∧ (∀ b k, b < 437 → I' b k = I b k) ∧ (∀ j, j < 64 → I' 437 j = zKr j) ∧ (∀ b k, 438 ≤ b → b < 458 → I' b k = 0) ∧ (∀ b f, b < 436 → R' b f = R b f) ∧ zSm R' := by
  apply zRet_of
  show zW L 81 0 [some (.ref 436)] [] _ _
  refine zx_al0 zd81_0 ?_
  refine zx_obj zd81_1 rfl ?_
  refine zx_al0 zd81_4 ?_
  refine zx_c zd81_5 ?_
  (refine zx_newa zd81_7 (by decide) rfl ?k281 ?_); (case k281 => rfl)
  (refine zx_pfA zd81_9 ?k282 ?a282 ?_); (case k282 => exact zkk rfl (by omega)); (case a282 => omega)
  refine zx_al0 zd81_12 ?_
  refine zx_c zd81_13 ?_
  (refine zx_newa zd81_16 (by decide) rfl ?k285 ?_); (case k285 => rfl)
  (refine zx_pfA zd81_18 ?k286 ?a286 ?_); (case k286 => exact zkk rfl (by omega)); (case a286 => omega)
  refine zx_al0 zd81_21 ?_
  refine zx_c zd81_22 ?_
  (refine zx_newa zd81_24 (by decide) rfl ?k289 ?_); (case k289 => rfl)
  (refine zx_pfA zd81_26 ?k290 ?a290 ?_); (case k290 => exact zkk rfl (by omega)); (case a290 => omega)
  refine zx_al0 zd81_29 ?_
  refine zx_c zd81_30 ?_
  (refine zx_newa zd81_32 (by decide) rfl ?k293 ?_); (case k293 => rfl)
  (refine zx_pfA zd81_34 ?k294 ?a294 ?_); (case k294 => exact zkk rfl (by omega)); (case a294 => omega)
  refine zx_al0 zd81_37 ?_
  refine zx_c zd81_38 ?_
  (refine zx_newa zd81_40 (by decide) rfl ?k297 ?_); (case k297 => rfl)
  (refine zx_pfA zd81_42 ?k298 ?a298 ?_); (case k298 => exact zkk rfl (by omega)); (case a298 => omega)
  refine zx_al0 zd81_45 ?_
  refine zx_c zd81_46 ?_
  (refine zx_newa zd81_48 (by decide) rfl ?k301 ?_); (case k301 => rfl)
  (refine zx_pfA zd81_50 ?k302 ?a302 ?_); (case k302 => exact zkk rfl (by omega)); (case a302 => omega)
  refine zx_al0 zd81_53 ?_
  refine zx_c zd81_54 ?_
  (refine zx_newa zd81_56 (by decide) rfl ?k305 ?_); (case k305 => rfl)
  (refine zx_pfA zd81_58 ?k306 ?a306 ?_); (case k306 => exact zkk rfl (by omega)); (case a306 => omega)
  refine zx_al0 zd81_61 ?_
  refine zx_c zd81_62 ?_
  (refine zx_newa zd81_64 (by decide) rfl ?k309 ?_); (case k309 => rfl)
  (refine zx_pfA zd81_66 ?k310 ?a310 ?_); (case k310 => exact zkk rfl (by omega)); (case a310 => omega)
  refine zx_al0 zd81_69 ?_
  refine zx_c zd81_70 ?_
  (refine zx_newa zd81_72 (by decide) rfl ?k313 ?_); (case k313 => rfl)
  (refine zx_pfA zd81_74 ?k314 ?a314 ?_); (case k314 => exact zkk rfl (by omega)); (case a314 => omega)
  refine zx_al0 zd81_77 ?_
  refine zx_c zd81_78 ?_
  (refine zx_newa zd81_81 (by decide) rfl ?k317 ?_); (case k317 => rfl)
  (refine zx_pfA zd81_83 ?k318 ?a318 ?_); (case k318 => exact zkk rfl (by omega)); (case a318 => omega)
  refine zx_al0 zd81_86 ?_
  refine zx_c zd81_87 ?_
  (refine zx_newa zd81_90 (by decide) rfl ?k321 ?_); (case k321 => rfl)
  (refine zx_pfA zd81_92 ?k322 ?a322 ?_); (case k322 => exact zkk rfl (by omega)); (case a322 => omega)
  refine zx_al0 zd81_95 ?_
  refine zx_c zd81_96 ?_
  (refine zx_newa zd81_99 (by decide) rfl ?k325 ?_); (case k325 => rfl)
  (refine zx_pfA zd81_101 ?k326 ?a326 ?_); (case k326 => exact zkk rfl (by omega)); (case a326 => omega)
  refine zx_al0 zd81_104 ?_
  refine zx_c zd81_105 ?_
  (refine zx_newa zd81_108 (by decide) rfl ?k329 ?_); (case k329 => rfl)
  (refine zx_pfA zd81_110 ?k330 ?a330 ?_); (case k330 => exact zkk rfl (by omega)); (case a330 => omega)
  refine zx_al0 zd81_113 ?_
  refine zx_c zd81_114 ?_
  (refine zx_newa zd81_117 (by decide) rfl ?k333 ?_); (case k333 => rfl)
  (refine zx_pfA zd81_119 ?k334 ?a334 ?_); (case k334 => exact zkk rfl (by omega)); (case a334 => omega)
  refine zx_al0 zd81_122 ?_
  refine zx_c zd81_123 ?_
  (refine zx_newa zd81_126 (by decide) rfl ?k337 ?_); (case k337 => rfl)
  (refine zx_pfA zd81_128 ?k338 ?a338 ?_); (case k338 => exact zkk rfl (by omega)); (case a338 => omega)
  refine zx_al0 zd81_131 ?_
  refine zx_c zd81_132 ?_
  (refine zx_newa zd81_134 (by decide) rfl ?k341 ?_); (case k341 => rfl)
  (refine zx_pfA zd81_136 ?k342 ?a342 ?_); (case k342 => exact zkk rfl (by omega)); (case a342 => omega)
  refine zx_al0 zd81_139 ?_
  refine zx_c zd81_140 ?_
  (refine zx_newa zd81_142 (by decide) rfl ?k345 ?_); (case k345 => rfl)
  (refine zx_pfA zd81_144 ?k346 ?a346 ?_); (case k346 => exact zkk rfl (by omega)); (case a346 => omega)
  refine zx_al0 zd81_147 ?_
  refine zx_c zd81_148 ?_
  (refine zx_newa zd81_150 (by decide) rfl ?k349 ?_); (case k349 => rfl)
  (refine zx_pfA zd81_152 ?k350 ?a350 ?_); (case k350 => exact zkk rfl (by omega)); (case a350 => omega)
  refine zx_al0 zd81_155 ?_
  refine zx_c zd81_156 ?_
  (refine zx_newa zd81_158 (by decide) rfl ?k353 ?_); (case k353 => rfl)
  (refine zx_pfA zd81_160 ?k354 ?a354 ?_); (case k354 => exact zkk rfl (by omega)); (case a354 => omega)
  refine zx_al0 zd81_163 ?_
  refine zx_c zd81_164 ?_
  (refine zx_newa zd81_166 (by decide) rfl ?k357 ?_); (case k357 => rfl)
  (refine zx_pfA zd81_168 ?k358 ?a358 ?_); (case k358 => exact zkk rfl (by omega)); (case a358 => omega)
  refine zx_al0 zd81_171 ?_
  refine zx_c zd81_172 ?_
  (refine zx_newa zd81_174 (by decide) rfl ?k361 ?_); (case k361 => rfl)
  (refine zx_pfA zd81_176 ?k362 ?a362 ?_); (case k362 => exact zkk rfl (by omega)); (case a362 => omega)
  refine zW.mono (zk_mod2 (L := L) rfl rfl) (fun o h hq => ?_)
  refine ⟨hq.1, _, _, _, _, hq.2, by omega, fun b k hb => ?_, fun j hj => ?_, fun b k h1 h2 => ?_, fun b f hb => ?_, ⟨rfl, rfl, rfl, rfl, rfl, rfl, rfl, rfl, rfl, rfl⟩, rfl, rfl, rfl, rfl, rfl, rfl, rfl, rfl, rfl, rfl, rfl⟩
  · rw [zrw_ne _ _ (by omega)]
    (repeat (first | rw [zu_at] | rw [zc_at] | rw [zu_nc (by omega)] | rw [zc_nc (by omega)] | rw [if_pos (by omega)] | rw [if_neg (by omega)]))
  · rw [zrw_at]; exact zCt_ok j hj
  · rw [zrw_ne _ _ (by omega)]
    rcases (by omega : b = 438 ∨ b = 439 ∨ b = 440 ∨ b = 441 ∨ b = 442 ∨ b = 443 ∨ b = 444 ∨ b = 445 ∨ b = 446 ∨ b = 447 ∨ b = 448 ∨ b = 449 ∨ b = 450 ∨ b = 451 ∨ b = 452 ∨ b = 453 ∨ b = 454 ∨ b = 455 ∨ b = 456 ∨ b = 457) with e | e | e | e | e | e | e | e | e | e | e | e | e | e | e | e | e | e | e | e <;> subst e <;> rfl
  · (repeat (first | rw [zu_at] | rw [zc_at] | rw [zu_nc (by omega)] | rw [zc_nc (by omega)] | rw [if_pos (by omega)] | rw [if_neg (by omega)]))
/-- the start of the law's loop -/
def zSi (I : zI) (R : zR) : Prop := (zCs I ∧ ∀ j, j < 64 → I 437 j = zKr j) ∧ (∀ k, I 3 k = 0) ∧ (∀ b k, 8 ≤ b → b < 415 → (b - 8) % 37 ≠ 20 → I b k = 0) ∧ (∀ q, q < 11 → ∀ p, p < 16 → I (8 + 37 * q + 20) p = -1) ∧ (∀ b, b < 32 → I 416 b = zsha [] b) ∧ (∀ b k, 427 ≤ b → b < 458 → b ≠ 437 → I b k = 0) ∧ zRs R ∧ ∀ r, r < 11 → zFl R r (fun j => j)
theorem zk_law {xs : Nat → Int32} (kk : ∀ (U : Nat) (I : zI) (J : zJ) (R : zR), U ≤ 60000 → zSi I R → zW L 0 20 [some (.ref 0), some (.ref 3), some (.ref 436), some (.ref 458), none, none, none] [] (459, U, I, J, R) Q) : zW L 0 0 (zent 0 [.ref 0]) [] (zH0 xs) Q := by
  show zW L 0 0 [some (.ref 0), none, none, none, none, none, none] [] (3, 0, zI0 xs, (fun _ _ => 0), (fun _ _ => none)) Q
  (refine zx_new zd0_0 ?k363 ?_); (case k363 => rfl)
  first | refine zx_dupR zd0_3 ?_ | refine zx_dupI zd0_3 ?_
  obtain ⟨k1, hr1, U1, I1, J1, R1, rfl, hU1, i1, i2⟩ := zk_cls (L := L) (U := 0 + zfN 0) (I := zc (zI0 xs) 3 0) (J := zc (fun _ _ => 0) 3 0) (R := zc (fun _ _ => none) 3 none) ⟨fun j hj => rfl, fun j hj => rfl⟩
  (refine zx_cv0V zd0_4 ?k365 (hr1) ?_); (case k365 => exact zkk rfl (by omega))
  refine zx_as1 zd0_7 rfl ?_
  (refine zx_new zd0_8 ?k367 ?_); (case k367 => rfl)
  first | refine zx_dupR zd0_11 ?_ | refine zx_dupI zd0_11 ?_
  obtain ⟨k2, hr2, U2, I2, J2, R2, rfl, hU2, j1, j2, j3, j4, j5⟩ := zk_mod (L := L) (U := U1 + zfN 7) (I := zc I1 436 0) (J := zc J1 436 0) (R := zc R1 436 none)
  (refine zx_cv0V zd0_12 ?k369 (hr2) ?_); (case k369 => exact zkk rfl (by omega))
  refine zx_as2 zd0_15 rfl ?_
  refine zx_c zd0_16 ?_
  (refine zx_newa zd0_17 (by decide) rfl ?k372 ?_); (case k372 => rfl)
  refine zx_as3 zd0_19 rfl ?_
  have e0 : zfN 0 = 10 := rfl
  have e7 : zfN 7 = 32 := rfl
  obtain ⟨s1, s2, s3, s4, ⟨⟨y0, y1, y3, y5, y7, y8, y9⟩, ⟨y15, y16, y17, y18⟩, y20, y40, y41⟩, s6, s7⟩ := i2
  have hRe : ∀ b f, b < 436 → zc R2 458 none b f = R1 b f := fun b f hb => by
    (repeat (first | rw [zu_at] | rw [zc_at] | rw [zu_nc (by omega)] | rw [zc_nc (by omega)] | rw [if_pos (by omega)] | rw [if_neg (by omega)]))
    rw [j4 b f hb]
    (repeat (first | rw [zu_at] | rw [zc_at] | rw [zu_nc (by omega)] | rw [zc_nc (by omega)] | rw [if_pos (by omega)] | rw [if_neg (by omega)]))
  have hRm : ∀ f, zc R2 458 none 436 f = R2 436 f := fun f => rfl
  have hIe : ∀ b k, b < 436 → zc I2 458 0 b k = I1 b k := fun b k hb => by
    (repeat (first | rw [zu_at] | rw [zc_at] | rw [zu_nc (by omega)] | rw [zc_nc (by omega)] | rw [if_pos (by omega)] | rw [if_neg (by omega)]))
    rw [j1 b k (by omega)]
    (repeat (first | rw [zu_at] | rw [zc_at] | rw [zu_nc (by omega)] | rw [zc_nc (by omega)] | rw [if_pos (by omega)] | rw [if_neg (by omega)]))
  have hIc : ∀ b j, b < 3 → zc I2 458 0 b j = zI0 xs b j := fun b j hb => by
    rw [hIe b j (by omega), i1 b j (by omega)]
    (repeat (first | rw [zu_at] | rw [zc_at] | rw [zu_nc (by omega)] | rw [zc_nc (by omega)] | rw [if_pos (by omega)] | rw [if_neg (by omega)]))
  refine kk _ _ _ _ (by omega) ⟨⟨⟨fun j hj => (hIc 1 j (by decide)).trans rfl, fun j hj => (hIc 2 j (by decide)).trans rfl⟩, fun j hj => j2 j hj⟩, fun k => ?_, fun b k h1 h2 h3 => ?_, fun q hq p hp => ?_, fun b hb => ?_, fun b k h1 h2 h3 => ?_, ⟨fun a f b h => ?_, fun r hr => ?_, fun k hk => ?_, fun r hr => ?_⟩, fun r hr j hj => ⟨?_, hj⟩⟩
  · rw [hIe 3 k (by decide), i1 3 k (by decide)]; rfl
  · rw [hIe b k (by omega)]; exact s1 b k h1 h2 h3
  · rw [hIe _ p (by omega)]; exact s2 q hq p hp
  · rw [hIe 416 b (by decide)]; exact s3 b hb
  · by_cases hb : b < 436
    · rw [hIe b k hb]; exact s4 b k h1 hb
    · by_cases e : b = 436
      · subst e
        (repeat (first | rw [zu_at] | rw [zc_at] | rw [zu_nc (by omega)] | rw [zc_nc (by omega)] | rw [if_pos (by omega)] | rw [if_neg (by omega)]))
        rw [j1 436 k (by omega)]
        (repeat (first | rw [zu_at] | rw [zc_at] | rw [zu_nc (by omega)] | rw [zc_nc (by omega)] | rw [if_pos (by omega)] | rw [if_neg (by omega)]))
      · (repeat (first | rw [zu_at] | rw [zc_at] | rw [zu_nc (by omega)] | rw [zc_nc (by omega)] | rw [if_pos (by omega)] | rw [if_neg (by omega)]))
        exact j3 b k (by omega) (by omega)
  · obtain ⟨⟨m1, m3, m4, m5, m6, m7, m9, m10, m11, m12⟩, m13, m14, m16, m18, m19, m20, m23, m25, m26, m27, m28⟩ := j5
    have hlt : ∀ a' f', a' < 436 → R1 a' f' = some b → zc R2 458 none a' f' = some b := fun a' f' ha he => (hRe a' f' ha).trans he
    unfold zRm at h
    split at h <;> first
      | (injection h with h; subst h; first | assumption | (refine hlt _ _ (by decide) ?_; assumption) | (rw [hRm]; assumption))
      | cases h
  · rw [hRe 7 r (by decide)]; exact (s7 r hr).1
  · rw [hRe 415 k (by decide)]; exact s6 k hk
  · obtain ⟨⟨a1, a2, a3⟩, ⟨b1, b2⟩, c1, d1⟩ := (s7 r hr).2
    refine ⟨⟨?_, ?_, ?_⟩, ⟨?_, ?_⟩, fun q hq => ?_, fun j hj => ?_⟩
    · rw [hRe _ _ (by omega)]; exact a1
    · rw [hRe _ _ (by omega)]; exact a2
    · rw [hRe _ _ (by omega)]; exact a3
    · rw [hRe _ _ (by omega)]; exact b1
    · rw [hRe _ _ (by omega)]; exact b2
    · rw [hRe _ _ (by omega)]; exact c1 q hq
    · rw [hRe _ _ (by omega)]; exact (d1 j hj).2
  · rw [hRe _ _ (by omega)]; exact ((s7 r hr).2.2.2.2 j hj).1
end ZK1
