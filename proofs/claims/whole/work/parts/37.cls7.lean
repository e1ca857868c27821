/-! THE CLASS: a release is closed: its files sorted, its tree grown -/
/-- only the order of the files of release r has changed -/
def zFr (r : Nat) (R R' : zR) : Prop := ∀ b, b ≠ 8 + 37 * r + 1 → R' b = R b
theorem zFr.refl (r : Nat) (R : zR) : zFr r R R := fun _ _ => rfl
theorem zFr.trans {r : Nat} {R R' R'' : zR} (h : zFr r R R') (h' : zFr r R' R'') : zFr r R R'' := fun b hb => (h' b hb).trans (h b hb)
theorem zRm_lt {a f b : Nat} (h : zRm a f = some b) : a < 5 ∨ 427 < a := by
  unfold zRm at h
  split at h <;> first | omega | cases h
theorem zFr.rs {r : Nat} {R R' : zR} (hr : r < 11) (h : zFr r R R') (hR : zRs R) : zRs R' := by
  refine ⟨fun a f b hab => ?_, fun q hq => ?_, fun k hk => ?_, fun q hq => ⟨⟨?_, ?_, ?_⟩, ⟨?_, ?_⟩, fun k hk => ?_, fun k hk => ?_⟩⟩
  · rw [h a (by have := zRm_lt hab; omega)]; exact hR.1 a f b hab
  · rw [h 7 (by omega)]; exact hR.2.1 q hq
  · rw [h 415 (by omega)]; exact hR.2.2.1 k hk
  · rw [h _ (by omega)]; exact (hR.2.2.2 q hq).1.1
  · rw [h _ (by omega)]; exact (hR.2.2.2 q hq).1.2.1
  · rw [h _ (by omega)]; exact (hR.2.2.2 q hq).1.2.2
  · rw [h _ (by omega)]; exact (hR.2.2.2 q hq).2.1.1
  · rw [h _ (by omega)]; exact (hR.2.2.2 q hq).2.1.2
  · rw [h _ (by omega)]; exact (hR.2.2.2 q hq).2.2.1 k hk
  · rw [h _ (by omega)]; exact (hR.2.2.2 q hq).2.2.2 k hk
theorem zFl.set {R : zR} {r : Nat} {s : Nat → Nat} (h : zFl R r s) (k : Nat) {v : Nat} (hv : v < 8) : zFl (zu R (8 + 37 * r + 1) k (some (8 + 37 * r + 21 + 2 * v))) r (zup s k v) ∧ zFr r R (zu R (8 + 37 * r + 1) k (some (8 + 37 * r + 21 + 2 * v))) := by
  refine ⟨fun j hj => ?_, fun b hb => ?_⟩
  · rw [zu_rw, zrw_at]
    by_cases hjk : j = k
    · subst hjk
      rw [zup_at, zup_at]; exact ⟨rfl, hv⟩
    · rw [zup_ne _ _ hjk, zup_ne _ _ hjk]; exact h j hj
  · rw [zu_rw, zrw_ne _ _ hb]
/-- places p+1 .. i hold what stood one place ahead -/
def zshf (s : Nat → Nat) (p i : Nat) : Nat → Nat := fun j => if p < j ∧ j ≤ i then s (j - 1) else s j
theorem zshf_step (s : Nat → Nat) {p i : Nat} (hp : 0 < p) (hpi : p ≤ i) : zup (zshf s p i) p (s (p - 1)) = zshf s (p - 1) i := by
  funext j
  unfold zup zshf
  by_cases hj : j = p
  · subst hj
    rw [if_pos rfl, if_pos (by omega)]
  · rw [if_neg hj]
    by_cases h2 : p < j ∧ j ≤ i
    · rw [if_pos h2, if_pos (by omega)]
    · rw [if_neg h2, if_neg (by omega)]
section ZC7
variable {L N U : Nat} {I : zI} {J : zJ} {R : zR} {c : Nat} {Q : zOut → zHp → Prop}
/-- the inner loop: the hole goes down -/
theorem zc_srt1 (hN : 459 ≤ N) {r n i : Nat} {s nm : Nat → Nat} (hr : r < 11) (hi : i < n) (hn8 : n ≤ 8) (hnm : ∀ o, o < 8 → I (8 + 37 * r + 21 + 2 * o) 0 = Int32.ofNat (nm o) ∧ nm o < 65536) (hs : ∀ j, j < 8 → s j < 8) {R0 : zR}
    (kk : ∀ (p : Nat) (R' : zR), p ≤ i → (p = 0 ∨ nm (s (p - 1)) ≤ nm (s i)) → (∀ j, p ≤ j → j < i → nm (s i) < nm (s j)) → zRs R' → zFl R' r (zshf s p i) → zFr r R0 R' → zW L 15 61 [some (.ref (8 + 37 * r)), some (.int (Int32.ofNat i)), some (.ref (8 + 37 * r + 21 + 2 * s i)), some (.int (Int32.ofNat p))] [] (N, U, I, J, R') Q) :
    ∀ (p : Nat) (R' : zR), p ≤ i → (∀ j, p ≤ j → j < i → nm (s i) < nm (s j)) → zRs R' → zFl R' r (zshf s p i) → zFr r R0 R' → zW L 15 19 [some (.ref (8 + 37 * r)), some (.int (Int32.ofNat i)), some (.ref (8 + 37 * r + 21 + 2 * s i)), some (.int (Int32.ofNat p))] [] (N, U, I, J, R') Q := by
  intro p
  induction p with
  | zero =>
    intro R' hp hlt hR hF hfr
    refine zx_il3 zd15_19 ?_
    first | ((with_reducible refine zx_ifleN zd15_20 ?s2 (fun h => ?_) (fun h => ?_)); (case s2 => omega)) | refine zx_ifle zd15_20 (fun h => ?_) (fun h => ?_)
    · exact kk 0 R' hp (Or.inl rfl) hlt hR hF hfr
    · omega
  | succ p ih =>
    intro R' hp hlt hR hF hfr
    have e1 : zshf s (p + 1) i p = s p := if_neg (by omega)
    have hsp := hs p (by omega)
    have hsi := hs i (by omega)
    have hRp : R' (8 + 37 * r + 1) p = some (8 + 37 * r + 21 + 2 * s p) := by have := (hF p (by omega)).1; rw [e1] at this; exact this
    refine zx_il3 zd15_19 ?_
    first | ((with_reducible refine zx_ifleN zd15_20 ?s4 (fun h => ?_) (fun h => ?_)); (case s4 => omega)) | refine zx_ifle zd15_20 (fun h => ?_) (fun h => ?_)
    · omega
    · refine zx_al0 zd15_23 ?_
      (refine' zx_gfA zd15_24 ?k6 ?r6 ?_); (case k6 => first | exact zkk rfl (by omega) | exact zkk (zK_B0 (by omega)) (by omega) | exact zkk ((zK_B (by omega) (by decide)).trans rfl) (by omega) | exact zkk (zK_row (by omega) (by omega)) (by omega) | exact zkk (zK_file (by omega) (by omega)) (by omega) | exact zkk (zK_byte (by omega) (by omega)) (by omega) | exact zkk (zK_list (by omega)) (by omega) | assumption); (case r6 => first | exact hR.1 _ _ _ rfl | exact hR.2.1 _ (by omega) | exact (hR.2.2.2 _ (by omega)).1.1 | exact (hR.2.2.2 _ (by omega)).1.2.1 | exact (hR.2.2.2 _ (by omega)).1.2.2 | exact (hR.2.2.2 _ (by omega)).2.1.1 | exact (hR.2.2.2 _ (by omega)).2.1.2 | exact (hR.2.2.2 _ (by omega)).2.2.1 _ (by omega) | exact (hR.2.2.2 _ (by omega)).2.2.2 _ (by omega) | exact hR.2.2.1 _ (by omega) | assumption | exact (hF _ (by omega)).1)
      refine zx_il3 zd15_27 ?_
      refine zx_c zd15_28 ?_
      first | ((with_reducible refine zx_subN zd15_29 ?h9 ?_); (case h9 => omega)) | refine zx_sub zd15_29 ?_
      rw [Nat.add_sub_cancel]
      first | ((with_reducible refine' zx_aaldAN zd15_30 ?k10 ?j10 ?r10 ?_); (case k10 => first | exact zkk rfl (by omega) | exact zkk (zK_B0 (by omega)) (by omega) | exact zkk ((zK_B (by omega) (by decide)).trans rfl) (by omega) | exact zkk (zK_row (by omega) (by omega)) (by omega) | exact zkk (zK_file (by omega) (by omega)) (by omega) | exact zkk (zK_byte (by omega) (by omega)) (by omega) | exact zkk (zK_list (by omega)) (by omega) | assumption); (case j10 => omega); (case r10 => first | exact hR.1 _ _ _ rfl | exact hR.2.1 _ (by omega) | exact (hR.2.2.2 _ (by omega)).1.1 | exact (hR.2.2.2 _ (by omega)).1.2.1 | exact (hR.2.2.2 _ (by omega)).1.2.2 | exact (hR.2.2.2 _ (by omega)).2.1.1 | exact (hR.2.2.2 _ (by omega)).2.1.2 | exact (hR.2.2.2 _ (by omega)).2.2.1 _ (by omega) | exact (hR.2.2.2 _ (by omega)).2.2.2 _ (by omega) | exact hR.2.2.1 _ (by omega) | assumption | exact (hF _ (by omega)).1)) | ((with_reducible refine' zx_aaldON zd15_30 ?k10 ?j10 ?r10 ?_); (case k10 => first | exact zkk rfl (by omega) | exact zkk (zK_B0 (by omega)) (by omega) | exact zkk ((zK_B (by omega) (by decide)).trans rfl) (by omega) | exact zkk (zK_row (by omega) (by omega)) (by omega) | exact zkk (zK_file (by omega) (by omega)) (by omega) | exact zkk (zK_byte (by omega) (by omega)) (by omega) | exact zkk (zK_list (by omega)) (by omega) | assumption); (case j10 => omega); (case r10 => first | exact hR.1 _ _ _ rfl | exact hR.2.1 _ (by omega) | exact (hR.2.2.2 _ (by omega)).1.1 | exact (hR.2.2.2 _ (by omega)).1.2.1 | exact (hR.2.2.2 _ (by omega)).1.2.2 | exact (hR.2.2.2 _ (by omega)).2.1.1 | exact (hR.2.2.2 _ (by omega)).2.1.2 | exact (hR.2.2.2 _ (by omega)).2.2.1 _ (by omega) | exact (hR.2.2.2 _ (by omega)).2.2.2 _ (by omega) | exact hR.2.2.1 _ (by omega) | assumption | exact (hF _ (by omega)).1))
      (refine zx_gfI zd15_31 ?k11 ?_); (case k11 => first | exact zkk rfl (by omega) | exact zkk (zK_B0 (by omega)) (by omega) | exact zkk ((zK_B (by omega) (by decide)).trans rfl) (by omega) | exact zkk (zK_row (by omega) (by omega)) (by omega) | exact zkk (zK_file (by omega) (by omega)) (by omega) | exact zkk (zK_byte (by omega) (by omega)) (by omega) | exact zkk (zK_list (by omega)) (by omega) | assumption)
      refine zx_al2 zd15_34 ?_
      (refine zx_gfI zd15_35 ?k13 ?_); (case k13 => first | exact zkk rfl (by omega) | exact zkk (zK_B0 (by omega)) (by omega) | exact zkk ((zK_B (by omega) (by decide)).trans rfl) (by omega) | exact zkk (zK_row (by omega) (by omega)) (by omega) | exact zkk (zK_file (by omega) (by omega)) (by omega) | exact zkk (zK_byte (by omega) (by omega)) (by omega) | exact zkk (zK_list (by omega)) (by omega) | assumption)
      rw [(hnm _ hsp).1, (hnm _ hsi).1]
      have b1 := (hnm _ hsp).2
      have b2 := (hnm _ hsi).2
      first | ((with_reducible refine zx_icmpleN zd15_38 ?s14 (fun h2 => ?_) (fun h2 => ?_)); (case s14 => omega)) | refine zx_icmple zd15_38 (fun h2 => ?_) (fun h2 => ?_)
      · exact kk (p + 1) R' hp (Or.inr (by rw [Nat.add_sub_cancel]; exact h2)) hlt hR hF hfr
      · refine zx_al0 zd15_41 ?_
        (refine' zx_gfA zd15_42 ?k16 ?r16 ?_); (case k16 => first | exact zkk rfl (by omega) | exact zkk (zK_B0 (by omega)) (by omega) | exact zkk ((zK_B (by omega) (by decide)).trans rfl) (by omega) | exact zkk (zK_row (by omega) (by omega)) (by omega) | exact zkk (zK_file (by omega) (by omega)) (by omega) | exact zkk (zK_byte (by omega) (by omega)) (by omega) | exact zkk (zK_list (by omega)) (by omega) | assumption); (case r16 => first | exact hR.1 _ _ _ rfl | exact hR.2.1 _ (by omega) | exact (hR.2.2.2 _ (by omega)).1.1 | exact (hR.2.2.2 _ (by omega)).1.2.1 | exact (hR.2.2.2 _ (by omega)).1.2.2 | exact (hR.2.2.2 _ (by omega)).2.1.1 | exact (hR.2.2.2 _ (by omega)).2.1.2 | exact (hR.2.2.2 _ (by omega)).2.2.1 _ (by omega) | exact (hR.2.2.2 _ (by omega)).2.2.2 _ (by omega) | exact hR.2.2.1 _ (by omega) | assumption | exact (hF _ (by omega)).1)
        refine zx_il3 zd15_45 ?_
        refine zx_al0 zd15_46 ?_
        (refine' zx_gfA zd15_47 ?k19 ?r19 ?_); (case k19 => first | exact zkk rfl (by omega) | exact zkk (zK_B0 (by omega)) (by omega) | exact zkk ((zK_B (by omega) (by decide)).trans rfl) (by omega) | exact zkk (zK_row (by omega) (by omega)) (by omega) | exact zkk (zK_file (by omega) (by omega)) (by omega) | exact zkk (zK_byte (by omega) (by omega)) (by omega) | exact zkk (zK_list (by omega)) (by omega) | assumption); (case r19 => first | exact hR.1 _ _ _ rfl | exact hR.2.1 _ (by omega) | exact (hR.2.2.2 _ (by omega)).1.1 | exact (hR.2.2.2 _ (by omega)).1.2.1 | exact (hR.2.2.2 _ (by omega)).1.2.2 | exact (hR.2.2.2 _ (by omega)).2.1.1 | exact (hR.2.2.2 _ (by omega)).2.1.2 | exact (hR.2.2.2 _ (by omega)).2.2.1 _ (by omega) | exact (hR.2.2.2 _ (by omega)).2.2.2 _ (by omega) | exact hR.2.2.1 _ (by omega) | assumption | exact (hF _ (by omega)).1)
        refine zx_il3 zd15_50 ?_
        refine zx_c zd15_51 ?_
        first | ((with_reducible refine zx_subN zd15_52 ?h22 ?_); (case h22 => omega)) | refine zx_sub zd15_52 ?_
        rw [Nat.add_sub_cancel]
        first | ((with_reducible refine' zx_aaldAN zd15_53 ?k23 ?j23 ?r23 ?_); (case k23 => first | exact zkk rfl (by omega) | exact zkk (zK_B0 (by omega)) (by omega) | exact zkk ((zK_B (by omega) (by decide)).trans rfl) (by omega) | exact zkk (zK_row (by omega) (by omega)) (by omega) | exact zkk (zK_file (by omega) (by omega)) (by omega) | exact zkk (zK_byte (by omega) (by omega)) (by omega) | exact zkk (zK_list (by omega)) (by omega) | assumption); (case j23 => omega); (case r23 => first | exact hR.1 _ _ _ rfl | exact hR.2.1 _ (by omega) | exact (hR.2.2.2 _ (by omega)).1.1 | exact (hR.2.2.2 _ (by omega)).1.2.1 | exact (hR.2.2.2 _ (by omega)).1.2.2 | exact (hR.2.2.2 _ (by omega)).2.1.1 | exact (hR.2.2.2 _ (by omega)).2.1.2 | exact (hR.2.2.2 _ (by omega)).2.2.1 _ (by omega) | exact (hR.2.2.2 _ (by omega)).2.2.2 _ (by omega) | exact hR.2.2.1 _ (by omega) | assumption | exact (hF _ (by omega)).1)) | ((with_reducible refine' zx_aaldON zd15_53 ?k23 ?j23 ?r23 ?_); (case k23 => first | exact zkk rfl (by omega) | exact zkk (zK_B0 (by omega)) (by omega) | exact zkk ((zK_B (by omega) (by decide)).trans rfl) (by omega) | exact zkk (zK_row (by omega) (by omega)) (by omega) | exact zkk (zK_file (by omega) (by omega)) (by omega) | exact zkk (zK_byte (by omega) (by omega)) (by omega) | exact zkk (zK_list (by omega)) (by omega) | assumption); (case j23 => omega); (case r23 => first | exact hR.1 _ _ _ rfl | exact hR.2.1 _ (by omega) | exact (hR.2.2.2 _ (by omega)).1.1 | exact (hR.2.2.2 _ (by omega)).1.2.1 | exact (hR.2.2.2 _ (by omega)).1.2.2 | exact (hR.2.2.2 _ (by omega)).2.1.1 | exact (hR.2.2.2 _ (by omega)).2.1.2 | exact (hR.2.2.2 _ (by omega)).2.2.1 _ (by omega) | exact (hR.2.2.2 _ (by omega)).2.2.2 _ (by omega) | exact hR.2.2.1 _ (by omega) | assumption | exact (hF _ (by omega)).1))
        (with_reducible refine' zx_aastN zd15_54 ?v24 ?k24 ?j24 ?a24 ?_); (case v24 => first | exact zkk rfl (by omega) | exact zkk (zK_B0 (by omega)) (by omega) | exact zkk ((zK_B (by omega) (by decide)).trans rfl) (by omega) | exact zkk (zK_row (by omega) (by omega)) (by omega) | exact zkk (zK_file (by omega) (by omega)) (by omega) | exact zkk (zK_byte (by omega) (by omega)) (by omega) | exact zkk (zK_list (by omega)) (by omega) | assumption); (case k24 => first | exact zkk rfl (by omega) | exact zkk (zK_B0 (by omega)) (by omega) | exact zkk ((zK_B (by omega) (by decide)).trans rfl) (by omega) | exact zkk (zK_row (by omega) (by omega)) (by omega) | exact zkk (zK_file (by omega) (by omega)) (by omega) | exact zkk (zK_byte (by omega) (by omega)) (by omega) | exact zkk (zK_list (by omega)) (by omega) | assumption); (case j24 => omega); (case a24 => omega)
        first | ((with_reducible refine zx_iid3 zd15_55 ?h25 ?_); (case h25 => omega)) | refine zx_ii3 zd15_55 ?_
        refine zx_goto zd15_58 ?_
        rw [Nat.add_sub_cancel]
        obtain ⟨g1, g2⟩ := hF.set (p + 1) hsp
        have e2 := zshf_step s (p := p + 1) (i := i) (by omega) hp
        rw [Nat.add_sub_cancel] at e2
        rw [e2] at g1
        refine ih _ (by omega) (fun j h3 h4 => ?_) (g2.rs hr hR) g1 (hfr.trans g2)
        by_cases hj : j = p
        · rw [hj]; exact h2
        · exact hlt j (by omega) h4
/-- s orders the first i objects by their names -/
def zOrd (s nm : Nat → Nat) (i : Nat) : Prop := (∀ a b, a < b → b < i → nm (s a) < nm (s b)) ∧ (∀ a, a < i → s a < i) ∧ ∀ o, o < i → ∃ a, a < i ∧ s a = o
theorem zOrd_step {s nm : Nat → Nat} {i p : Nat} (h : zOrd s nm i) (hsi : s i = i) (hp : p ≤ i) (h1 : p = 0 ∨ nm (s (p - 1)) ≤ nm (s i)) (h2 : ∀ j, p ≤ j → j < i → nm (s i) < nm (s j)) (hne : ∀ o, o < i → nm o ≠ nm i) : zOrd (zup (zshf s p i) p (s i)) nm (i + 1) := by
  obtain ⟨ha, hb, hc⟩ := h
  have val : ∀ j, j ≤ i → zup (zshf s p i) p (s i) j = if j < p then s j else if j = p then s i else s (j - 1) := by
    intro j hj
    unfold zup zshf
    by_cases e1 : j = p
    · rw [if_pos e1, if_neg (by omega), if_pos e1]
    · rw [if_neg e1]
      by_cases e2 : j < p
      · rw [if_neg (by omega), if_pos e2]
      · rw [if_pos (by omega), if_neg e2, if_neg e1]
  have low : ∀ j, j < p → nm (s j) < nm (s i) := by
    intro j hj
    rcases h1 with h1 | h1
    · omega
    · have hle : nm (s j) ≤ nm (s (p - 1)) := by
        by_cases e : j = p - 1
        · rw [e]; exact Nat.le_refl _
        · exact Nat.le_of_lt (ha j (p - 1) (by omega) (by omega))
      have hneq : nm (s j) ≠ nm (s i) := by
        rw [hsi]; exact hne _ (hb j (by omega))
      omega
  refine ⟨fun a b hab hbi => ?_, fun a ha' => ?_, fun o ho => ?_⟩
  · rw [val a (by omega), val b (by omega)]
    by_cases a1 : a < p
    · rw [if_pos a1]
      by_cases b1 : b < p
      · rw [if_pos b1]; exact ha a b hab (by omega)
      · rw [if_neg b1]
        by_cases b2 : b = p
        · rw [if_pos b2]; exact low a a1
        · rw [if_neg b2]
          by_cases e : a = b - 1
          · omega
          · exact ha a (b - 1) (by omega) (by omega)
    · rw [if_neg a1]
      by_cases a2 : a = p
      · rw [if_pos a2, if_neg (by omega), if_neg (by omega)]
        exact h2 (b - 1) (by omega) (by omega)
      · rw [if_neg a2, if_neg (by omega), if_neg (by omega)]
        exact ha (a - 1) (b - 1) (by omega) (by omega)
  · rw [val a (by omega)]
    by_cases a1 : a < p
    · rw [if_pos a1]; have := hb a (by omega); omega
    · rw [if_neg a1]
      by_cases a2 : a = p
      · rw [if_pos a2]; omega
      · rw [if_neg a2]; have := hb (a - 1) (by omega); omega
  · by_cases e : o = i
    · refine ⟨p, by omega, ?_⟩
      rw [val p hp, if_neg (by omega), if_pos rfl, hsi, e]
    · obtain ⟨a, a1, a2⟩ := hc o (by omega)
      by_cases e2 : a < p
      · exact ⟨a, by omega, by rw [val a (by omega), if_pos e2]; exact a2⟩
      · refine ⟨a + 1, by omega, ?_⟩
        rw [val (a + 1) (by omega), if_neg (by omega), if_neg (by omega), Nat.add_sub_cancel]; exact a2
theorem zc_srt2 (hN : 459 ≤ N) {r n : Nat} {nm : Nat → Nat} (hr : r < 11) (hn : I (8 + 37 * r) 1 = Int32.ofNat n) (hn8 : n ≤ 8) (hnm : ∀ o, o < 8 → I (8 + 37 * r + 21 + 2 * o) 0 = Int32.ofNat (nm o) ∧ nm o < 65536) (hne : ∀ a b, a < b → b < n → nm a ≠ nm b) {R0 : zR} :
    ∀ (k i : Nat) (s : Nat → Nat) (R' : zR) (l2 l3 : Option Value), i + k = n → 1 ≤ i → zOrd s nm i → (∀ j, i ≤ j → s j = j) → zRs R' → zFl R' r s → zFr r R0 R' →
    zW L 15 2 [some (.ref (8 + 37 * r)), some (.int (Int32.ofNat i)), l2, l3] [] (N, U, I, J, R') (fun o h => o = .inl none ∧ ∃ (R' : zR) (s : Nat → Nat), h = (N, U, I, J, R') ∧ zOrd s nm n ∧ (∀ j, n ≤ j → s j = j) ∧ zRs R' ∧ zFl R' r s ∧ zFr r R0 R') := by
  intro k
  induction k with
  | zero =>
    intro i s R' l2 l3 hi h1 ho hid hR hF hfr
    obtain rfl : i = n := by omega
    refine zx_il1 zd15_2 ?_
    refine zx_al0 zd15_3 ?_
    (refine zx_gfI zd15_4 ?k29 ?_); (case k29 => first | exact zkk rfl (by omega) | exact zkk (zK_B0 (by omega)) (by omega) | exact zkk ((zK_B (by omega) (by decide)).trans rfl) (by omega) | exact zkk (zK_row (by omega) (by omega)) (by omega) | exact zkk (zK_file (by omega) (by omega)) (by omega) | exact zkk (zK_byte (by omega) (by omega)) (by omega) | exact zkk (zK_list (by omega)) (by omega) | assumption)
    rw [hn]
    first | ((with_reducible refine zx_icmpgeN zd15_7 ?s30 (fun h => ?_) (fun h => ?_)); (case s30 => omega)) | refine zx_icmpge zd15_7 (fun h => ?_) (fun h => ?_)
    · refine zx_vret zd15_74 rfl ?_
      exact ⟨rfl, R', s, rfl, ho, hid, hR, hF, hfr⟩
    · omega
  | succ k ih =>
    intro i s R' l2 l3 hi h1 ho hid hR hF hfr
    have hsi : s i = i := hid i (Nat.le_refl _)
    have hs8 : ∀ j, j < 8 → s j < 8 := fun j hj => (hF j hj).2
    have hFi := (hF i (by omega)).1
    refine zx_il1 zd15_2 ?_
    refine zx_al0 zd15_3 ?_
    (refine zx_gfI zd15_4 ?k34 ?_); (case k34 => first | exact zkk rfl (by omega) | exact zkk (zK_B0 (by omega)) (by omega) | exact zkk ((zK_B (by omega) (by decide)).trans rfl) (by omega) | exact zkk (zK_row (by omega) (by omega)) (by omega) | exact zkk (zK_file (by omega) (by omega)) (by omega) | exact zkk (zK_byte (by omega) (by omega)) (by omega) | exact zkk (zK_list (by omega)) (by omega) | assumption)
    rw [hn]
    first | ((with_reducible refine zx_icmpgeN zd15_7 ?s35 (fun h => ?_) (fun h => ?_)); (case s35 => omega)) | refine zx_icmpge zd15_7 (fun h => ?_) (fun h => ?_)
    · omega
    · refine zx_al0 zd15_10 ?_
      (refine' zx_gfA zd15_11 ?k37 ?r37 ?_); (case k37 => first | exact zkk rfl (by omega) | exact zkk (zK_B0 (by omega)) (by omega) | exact zkk ((zK_B (by omega) (by decide)).trans rfl) (by omega) | exact zkk (zK_row (by omega) (by omega)) (by omega) | exact zkk (zK_file (by omega) (by omega)) (by omega) | exact zkk (zK_byte (by omega) (by omega)) (by omega) | exact zkk (zK_list (by omega)) (by omega) | assumption); (case r37 => first | exact hR.1 _ _ _ rfl | exact hR.2.1 _ (by omega) | exact (hR.2.2.2 _ (by omega)).1.1 | exact (hR.2.2.2 _ (by omega)).1.2.1 | exact (hR.2.2.2 _ (by omega)).1.2.2 | exact (hR.2.2.2 _ (by omega)).2.1.1 | exact (hR.2.2.2 _ (by omega)).2.1.2 | exact (hR.2.2.2 _ (by omega)).2.2.1 _ (by omega) | exact (hR.2.2.2 _ (by omega)).2.2.2 _ (by omega) | exact hR.2.2.1 _ (by omega) | assumption | exact (hF _ (by omega)).1)
      refine zx_il1 zd15_14 ?_
      first | ((with_reducible refine' zx_aaldAN zd15_15 ?k39 ?j39 ?r39 ?_); (case k39 => first | exact zkk rfl (by omega) | exact zkk (zK_B0 (by omega)) (by omega) | exact zkk ((zK_B (by omega) (by decide)).trans rfl) (by omega) | exact zkk (zK_row (by omega) (by omega)) (by omega) | exact zkk (zK_file (by omega) (by omega)) (by omega) | exact zkk (zK_byte (by omega) (by omega)) (by omega) | exact zkk (zK_list (by omega)) (by omega) | assumption); (case j39 => omega); (case r39 => first | exact hR.1 _ _ _ rfl | exact hR.2.1 _ (by omega) | exact (hR.2.2.2 _ (by omega)).1.1 | exact (hR.2.2.2 _ (by omega)).1.2.1 | exact (hR.2.2.2 _ (by omega)).1.2.2 | exact (hR.2.2.2 _ (by omega)).2.1.1 | exact (hR.2.2.2 _ (by omega)).2.1.2 | exact (hR.2.2.2 _ (by omega)).2.2.1 _ (by omega) | exact (hR.2.2.2 _ (by omega)).2.2.2 _ (by omega) | exact hR.2.2.1 _ (by omega) | assumption | exact (hF _ (by omega)).1)) | ((with_reducible refine' zx_aaldON zd15_15 ?k39 ?j39 ?r39 ?_); (case k39 => first | exact zkk rfl (by omega) | exact zkk (zK_B0 (by omega)) (by omega) | exact zkk ((zK_B (by omega) (by decide)).trans rfl) (by omega) | exact zkk (zK_row (by omega) (by omega)) (by omega) | exact zkk (zK_file (by omega) (by omega)) (by omega) | exact zkk (zK_byte (by omega) (by omega)) (by omega) | exact zkk (zK_list (by omega)) (by omega) | assumption); (case j39 => omega); (case r39 => first | exact hR.1 _ _ _ rfl | exact hR.2.1 _ (by omega) | exact (hR.2.2.2 _ (by omega)).1.1 | exact (hR.2.2.2 _ (by omega)).1.2.1 | exact (hR.2.2.2 _ (by omega)).1.2.2 | exact (hR.2.2.2 _ (by omega)).2.1.1 | exact (hR.2.2.2 _ (by omega)).2.1.2 | exact (hR.2.2.2 _ (by omega)).2.2.1 _ (by omega) | exact (hR.2.2.2 _ (by omega)).2.2.2 _ (by omega) | exact hR.2.2.1 _ (by omega) | assumption | exact (hF _ (by omega)).1))
      refine zx_as2 zd15_16 rfl ?_
      refine zx_il1 zd15_17 ?_
      refine zx_is3 zd15_18 rfl ?_
      have hsh : zshf s i i = s := by
        funext j; exact if_neg (by omega)
      refine zc_srt1 hN hr h hn8 hnm hs8 (R0 := R0) ?_ i R' (Nat.le_refl _) (fun j h3 h4 => by omega) hR (by rw [hsh]; exact hF) hfr
      intro p R2 hp g1 g2 hR2 hF2 hfr2
      have hsi8 : s i < 8 := by omega
      have hR := hR2
      refine zx_al0 zd15_61 ?_
      (refine' zx_gfA zd15_62 ?k44 ?r44 ?_); (case k44 => first | exact zkk rfl (by omega) | exact zkk (zK_B0 (by omega)) (by omega) | exact zkk ((zK_B (by omega) (by decide)).trans rfl) (by omega) | exact zkk (zK_row (by omega) (by omega)) (by omega) | exact zkk (zK_file (by omega) (by omega)) (by omega) | exact zkk (zK_byte (by omega) (by omega)) (by omega) | exact zkk (zK_list (by omega)) (by omega) | assumption); (case r44 => first | exact hR.1 _ _ _ rfl | exact hR.2.1 _ (by omega) | exact (hR.2.2.2 _ (by omega)).1.1 | exact (hR.2.2.2 _ (by omega)).1.2.1 | exact (hR.2.2.2 _ (by omega)).1.2.2 | exact (hR.2.2.2 _ (by omega)).2.1.1 | exact (hR.2.2.2 _ (by omega)).2.1.2 | exact (hR.2.2.2 _ (by omega)).2.2.1 _ (by omega) | exact (hR.2.2.2 _ (by omega)).2.2.2 _ (by omega) | exact hR.2.2.1 _ (by omega) | assumption | exact (hF _ (by omega)).1)
      refine zx_il3 zd15_65 ?_
      refine zx_al2 zd15_66 ?_
      (with_reducible refine' zx_aastN zd15_67 ?v47 ?k47 ?j47 ?a47 ?_); (case v47 => first | exact zkk rfl (by omega) | exact zkk (zK_B0 (by omega)) (by omega) | exact zkk ((zK_B (by omega) (by decide)).trans rfl) (by omega) | exact zkk (zK_row (by omega) (by omega)) (by omega) | exact zkk (zK_file (by omega) (by omega)) (by omega) | exact zkk (zK_byte (by omega) (by omega)) (by omega) | exact zkk (zK_list (by omega)) (by omega) | assumption); (case k47 => first | exact zkk rfl (by omega) | exact zkk (zK_B0 (by omega)) (by omega) | exact zkk ((zK_B (by omega) (by decide)).trans rfl) (by omega) | exact zkk (zK_row (by omega) (by omega)) (by omega) | exact zkk (zK_file (by omega) (by omega)) (by omega) | exact zkk (zK_byte (by omega) (by omega)) (by omega) | exact zkk (zK_list (by omega)) (by omega) | assumption); (case j47 => omega); (case a47 => omega)
      first | with_reducible refine zx_iin1 zd15_68 ?_ | refine zx_ii1 zd15_68 ?_
      refine zx_goto zd15_71 ?_
      obtain ⟨f1, f2⟩ := hF2.set p hsi8
      refine ih (i + 1) _ _ _ _ (by omega) (by omega) (zOrd_step ho hsi hp g1 g2 (fun o ho' => hne o i ho' h)) (fun j hj => ?_) (f2.rs hr hR2) f1 (hfr2.trans f2)
      rw [zup_ne _ _ (by omega)]
      show (if p < j ∧ j ≤ i then _ else s j) = j
      rw [if_neg (by omega)]; exact hid j (by omega)
theorem zc_srt (hR : zRs R) (hN : 459 ≤ N) {r n : Nat} {nm : Nat → Nat} (hr : r < 11) (hn : I (8 + 37 * r) 1 = Int32.ofNat n) (hn8 : n ≤ 8) (hnm : ∀ o, o < 8 → I (8 + 37 * r + 21 + 2 * o) 0 = Int32.ofNat (nm o) ∧ nm o < 65536) (hne : ∀ a b, a < b → b < n → nm a ≠ nm b) (hF : zFl R r (fun j => j)) :
    ∃ (R' : zR) (s : Nat → Nat), zRet L 15 [.ref (8 + 37 * r)] (N, U, I, J, R) none (N, U, I, J, R') ∧ zOrd s nm n ∧ (∀ j, n ≤ j → s j = j) ∧ zRs R' ∧ zFl R' r s ∧ zFr r R R' := by
  have w : zW L 15 0 (zent 15 [.ref (8 + 37 * r)]) [] (N, U, I, J, R) (fun o h => o = .inl none ∧ ∃ (R' : zR) (s : Nat → Nat), h = (N, U, I, J, R') ∧ zOrd s nm n ∧ (∀ j, n ≤ j → s j = j) ∧ zRs R' ∧ zFl R' r s ∧ zFr r R R') := by
    show zW L 15 0 [some (.ref (8 + 37 * r)), none, none, none] [] _ _
    refine zx_c zd15_0 ?_
    refine zx_is1 zd15_1 rfl ?_
    by_cases h0 : n = 0
    · refine zx_il1 zd15_2 ?_
      refine zx_al0 zd15_3 ?_
      (refine zx_gfI zd15_4 ?k54 ?_); (case k54 => first | exact zkk rfl (by omega) | exact zkk (zK_B0 (by omega)) (by omega) | exact zkk ((zK_B (by omega) (by decide)).trans rfl) (by omega) | exact zkk (zK_row (by omega) (by omega)) (by omega) | exact zkk (zK_file (by omega) (by omega)) (by omega) | exact zkk (zK_byte (by omega) (by omega)) (by omega) | exact zkk (zK_list (by omega)) (by omega) | assumption)
      rw [hn]
      first | ((with_reducible refine zx_icmpgeN zd15_7 ?s55 (fun h => ?_) (fun h => ?_)); (case s55 => omega)) | refine zx_icmpge zd15_7 (fun h => ?_) (fun h => ?_)
      · refine zx_vret zd15_74 rfl ?_
        exact ⟨rfl, R, fun j => j, rfl, ⟨fun a b h1 h2 => by omega, fun a ha => by omega, fun o ho => by omega⟩, fun j _ => rfl, hR, hF, zFr.refl r R⟩
      · omega
    · exact zc_srt2 hN hr hn hn8 hnm hne (n - 1) 1 (fun j => j) R _ _ (by omega) (Nat.le_refl _) ⟨fun a b h1 h2 => by omega, fun a ha => ha, fun o ho => ⟨o, ho, rfl⟩⟩ (fun j _ => rfl) hR hF (zFr.refl r R)
  obtain ⟨k, hr, R', s, rfl, h1, h2, h3, h4, h5⟩ := zRet_of w
  exact ⟨R', s, hr, h1, h2, h3, h4, h5⟩
end ZC7
