/-! MESSAGES: what the digester holds of the bytes that came -/
def zby (m : List Int32) (p : Nat) : Int32 := m.getD p 0
/-- the word of four bytes -/
def zwd (m : List Int32) (p : Nat) : Int32 := zshl (zby m p) (Int32.ofNat 24) ||| zshl (zby m (p + 1)) (Int32.ofNat 16) ||| zshl (zby m (p + 2)) (Int32.ofNat 8) ||| zby m (p + 3)
def zKr : Nat → Int32 := fun j => zRD.getD j 0
def zHs : Nat → Int32 := fun j => zST.getD j 0
def zblk (m : List Int32) (q : Nat) : Nat → Int32 := fun k => zwd m (64 * q + 4 * k)
/-- the state after q blocks -/
def zhs (m : List Int32) : Nat → Nat → Int32
  | 0 => zHs
  | q + 1 => zcomp (zhs m q) zKr (zsch (zblk m q) 48)
/-- c bytes of a word that is being filled -/
def zpw (m : List Int32) (p : Nat) : Nat → Int32
  | 0 => 0
  | c + 1 => zshl (zpw m p c) (Int32.ofNat 8) ||| zby m (p + c)
/-- the statics -/
def zCs (I : zI) : Prop := (∀ j, j < 8 → I 1 j = zHs j) ∧ ∀ j, j < 64 → I 2 j = zKr j
def zDig (m : List Int32) (I : zI) : Prop :=
  I 4 2 = Int32.ofNat m.length ∧ (∀ j, j < 8 → I 5 j = zhs m (m.length / 64) j) ∧ (∀ k, k < m.length % 64 / 4 → I 6 k = zwd m (64 * (m.length / 64) + 4 * k)) ∧
  (m.length % 4 = 0 ∨ zshl (I 6 (m.length % 64 / 4)) (Int32.ofNat (8 * (4 - m.length % 4))) = zshl (zpw m (m.length - m.length % 4) (m.length % 4)) (Int32.ofNat (8 * (4 - m.length % 4))))
theorem zshl_or (x y s : Int32) : zshl (x ||| y) s = zshl x s ||| zshl y s := by
  unfold zshl; exact Int32.shiftLeft_or ..
theorem zshl_bv (y : Int32) {c : Nat} (hc : c < 32) : (zshl y (Int32.ofNat c)).toBitVec = y.toBitVec <<< c := by
  have hm : ∀ q : Fin 32, (Int32.ofNat q.val &&& 31) = Int32.ofNat q.val := by decide
  have hs : ∀ q : Fin 32, (Int32.ofNat q.val).toBitVec.smod 32 = BitVec.ofNat 32 q.val := by decide
  unfold zshl
  rw [hm ⟨c, hc⟩, Int32.toBitVec_shiftLeft, hs ⟨c, hc⟩]
  show y.toBitVec <<< (BitVec.ofNat 32 c).toNat = _
  rw [BitVec.toNat_ofNat]
  congr 1
  omega
theorem zshl_shl (x : Int32) {a b : Nat} (h : a + b < 32) : zshl (zshl x (Int32.ofNat a)) (Int32.ofNat b) = zshl x (Int32.ofNat (a + b)) := by
  apply Int32.toBitVec_inj.mp
  rw [zshl_bv _ (by omega), zshl_bv _ (by omega), zshl_bv _ h, BitVec.shiftLeft_add]
theorem zshl_out (x : Int32) : zshl (zshl x (Int32.ofNat 8)) (Int32.ofNat 24) = 0 := by
  apply Int32.toBitVec_inj.mp
  rw [zshl_bv _ (by omega), zshl_bv _ (by omega), ← BitVec.shiftLeft_add]
  exact BitVec.shiftLeft_eq_zero (by decide)
theorem zby_app {m : List Int32} {b : Int32} {p : Nat} (h : p < m.length) : zby (m ++ [b]) p = zby m p := by
  unfold zby
  rw [List.getD_eq_getElem?_getD, List.getD_eq_getElem?_getD, List.getElem?_append_left h]
theorem zby_new {m : List Int32} {b : Int32} : zby (m ++ [b]) m.length = b := by
  unfold zby
  rw [List.getD_eq_getElem?_getD, List.getElem?_append_right (Nat.le_refl _)]
  simp
theorem zwd_app {m : List Int32} {b : Int32} {p : Nat} (h : p + 3 < m.length) : zwd (m ++ [b]) p = zwd m p := by
  unfold zwd
  rw [zby_app (by omega), zby_app (by omega), zby_app (by omega), zby_app (by omega)]
theorem zpw_app {m : List Int32} {b : Int32} {p : Nat} : ∀ {c : Nat}, p + c ≤ m.length → zpw (m ++ [b]) p c = zpw m p c
  | 0, _ => rfl
  | c + 1, h => by
    unfold zpw
    rw [zpw_app (c := c) (by omega), zby_app (by omega)]
theorem zpw4 (m : List Int32) (p : Nat) : zpw m p 4 = zwd m p := by
  show zshl (zshl (zshl (zshl 0 (Int32.ofNat 8) ||| zby m p) (Int32.ofNat 8) ||| zby m (p + 1)) (Int32.ofNat 8) ||| zby m (p + 2)) (Int32.ofNat 8) ||| zby m (p + 3) = _
  have z : zshl 0 (Int32.ofNat 8) = 0 := by decide
  rw [z, Int32.zero_or, zshl_or, zshl_or, zshl_or, zshl_shl _ (by decide), zshl_shl _ (by decide), zshl_shl _ (by decide)]
  rfl
/-- blocks that are full don't change -/
theorem zsch_lt (w w' : Nat → Int32) : ∀ (n : Nat), (∀ j, j < 16 → w j = w' j) → ∀ j, j < 16 + n → zsch w n j = zsch w' n j
  | 0, h, j, hj => h j (by omega)
  | n + 1, h, j, hj => by
    have ih := zsch_lt w w' n h
    unfold zsch
    by_cases he : j = 16 + n
    · subst he
      rw [zup_at, zup_at]
      unfold zex
      rw [ih _ (by omega), ih _ (by omega), ih _ (by omega), ih _ (by omega)]
    · rw [zup_ne _ _ he, zup_ne _ _ he]
      exact ih j (by omega)
theorem zrd_lt {v v' : Nat → Int32} {k w : Int32} (h : ∀ j, j < 8 → v j = v' j) : ∀ j, j < 8 → zrd v k w j = zrd v' k w j := by
  intro j hj
  have e0 := h 0 (by decide); have e1 := h 1 (by decide); have e2 := h 2 (by decide); have e3 := h 3 (by decide)
  have e4 := h 4 (by decide); have e5 := h 5 (by decide); have e6 := h 6 (by decide); have e7 := h 7 (by decide)
  match j, hj with
  | 0, _ => simp only [zrd, zfs, e0, e1, e2, e4, e5, e6, e7]
  | 1, _ => exact e0
  | 2, _ => exact e1
  | 3, _ => exact e2
  | 4, _ => simp only [zrd, zfs, e3, e4, e5, e6, e7]
  | 5, _ => exact e4
  | 6, _ => exact e5
  | 7, _ => exact e6
theorem zrds_lt {v v' K K' w w' : Nat → Int32} (h : ∀ j, j < 8 → v j = v' j) : ∀ n, n ≤ 64 → (∀ j, j < 64 → K j = K' j) → (∀ j, j < 64 → w j = w' j) → ∀ j, j < 8 → zrds v K w n j = zrds v' K' w' n j
  | 0, _, _, _, j, hj => h j hj
  | n + 1, hn, hK, hw, j, hj => by
    unfold zrds
    rw [hK n (by omega), hw n (by omega)]
    exact zrd_lt (zrds_lt h n (by omega) hK hw) j hj
theorem zcomp_lt {s s' K K' w w' : Nat → Int32} (h : ∀ j, j < 8 → s j = s' j) (hK : ∀ j, j < 64 → K j = K' j) (hw : ∀ j, j < 64 → w j = w' j) : ∀ j, j < 8 → zcomp s K w j = zcomp s' K' w' j := by
  intro j hj
  unfold zcomp
  rw [if_pos hj, if_pos hj, h j hj, zrds_lt h 64 (by decide) hK hw j hj]
theorem zhs_app {m : List Int32} {b : Int32} : ∀ {q : Nat}, 64 * q ≤ m.length → ∀ j, j < 8 → zhs (m ++ [b]) q j = zhs m q j
  | 0, _, _, _ => rfl
  | q + 1, h, j, hj => by
    unfold zhs
    refine zcomp_lt (zhs_app (q := q) (by omega)) (fun _ _ => rfl) (fun i hi => zsch_lt _ _ 48 (fun k hk => ?_) i (by omega)) j hj
    unfold zblk
    exact zwd_app (by omega)
/-- a byte comes to the message -/
theorem zDig_put {m : List Int32} {I : zI} (hC : zCs I) (h : zDig m I) {b : Int32} : zDig (m ++ [b &&& Int32.ofNat 255]) (zptI I m.length b) := by
  obtain ⟨h1, h2, h3, h4⟩ := h
  generalize hb : b &&& Int32.ofNat 255 = c at *
  have hl : (m ++ [c]).length = m.length + 1 := by simp
  -- the new word
  have hw : ∀ (W : Int32), W = zshl (I 6 (m.length % 64 / 4)) (Int32.ofNat 8) ||| c → (m.length % 4 = 3 → W = zwd (m ++ [c]) (m.length - 3)) ∧
      (m.length % 4 ≠ 3 → zshl W (Int32.ofNat (8 * (4 - (m.length + 1) % 4))) = zshl (zpw (m ++ [c]) (m.length + 1 - (m.length + 1) % 4) ((m.length + 1) % 4)) (Int32.ofNat (8 * (4 - (m.length + 1) % 4)))) := by
    rintro W rfl
    constructor
    · intro h5
      rcases h4 with h4 | h4
      · omega
      · rw [h5] at h4
        have e : zshl (I 6 (m.length % 64 / 4)) (Int32.ofNat 8) = zshl (zpw m (m.length - 3) 3) (Int32.ofNat 8) := h4
        rw [e, ← zpw4]
        show _ = zshl (zpw (m ++ [c]) (m.length - 3) 3) (Int32.ofNat 8) ||| zby (m ++ [c]) (m.length - 3 + 3)
        rw [zpw_app (by omega), show m.length - 3 + 3 = m.length by omega, zby_new]
    · intro h5
      have hq : (m.length + 1) % 4 = m.length % 4 + 1 := by omega
      rw [hq, show m.length + 1 - (m.length % 4 + 1) = m.length - m.length % 4 by omega]
      show _ = zshl (zshl (zpw (m ++ [c]) _ _) _ ||| zby (m ++ [c]) _) _
      rw [zpw_app (by omega), show m.length - m.length % 4 + m.length % 4 = m.length by omega, zby_new, zshl_or, zshl_or]
      congr 1
      rcases h4 with h4 | h4
      · rw [h4]
        show zshl (zshl _ (Int32.ofNat 8)) (Int32.ofNat 24) = zshl (zshl _ (Int32.ofNat 8)) (Int32.ofNat 24)
        rw [zshl_out, zshl_out]
      · have h6 : m.length % 4 = 0 ∨ 8 + 8 * (4 - (m.length % 4 + 1)) < 32 := by omega
        rcases h6 with h6 | h6
        · rw [h6]
          show zshl (zshl _ (Int32.ofNat 8)) (Int32.ofNat 24) = zshl (zshl _ (Int32.ofNat 8)) (Int32.ofNat 24)
          rw [zshl_out, zshl_out]
        · rw [zshl_shl _ h6, zshl_shl _ h6, show 8 + 8 * (4 - (m.length % 4 + 1)) = 8 * (4 - m.length % 4) by omega]
          exact h4
  have r5 : zpt1 I m.length b 5 = I 5 := rfl
  have r2 : zpt1 I m.length b 2 = I 2 := rfl
  have r4 : zpt1 I m.length b 4 2 = Int32.ofNat (m.length + 1) := rfl
  have r6 : ∀ k, zpt1 I m.length b 6 k = if k = m.length % 64 / 4 then zshl (I 6 (m.length % 64 / 4)) (Int32.ofNat 8) ||| c else I 6 k := by
    intro k
    unfold zpt1
    rw [hb]
    show (if (6 : Nat) = 4 ∧ _ then _ else (if (6 : Nat) = 6 ∧ k = m.length % 64 / 4 then _ else _)) = _
    rw [if_neg (by omega)]
    by_cases hk : k = m.length % 64 / 4
    · rw [if_pos ⟨rfl, hk⟩, if_pos hk]
    · rw [if_neg (fun h => hk h.2), if_neg hk]
  obtain ⟨hw3, hwp⟩ := hw _ rfl
  -- the first words of the block
  have hfirst : ∀ k, k < (m.length % 64 + 1) / 4 → zpt1 I m.length b 6 k = zwd (m ++ [c]) (64 * (m.length / 64) + 4 * k) := by
    intro k hk
    rw [r6]
    by_cases hk2 : k = m.length % 64 / 4
    · rw [if_pos hk2, hw3 (by omega)]
      congr 1; omega
    · rw [if_neg hk2, h3 k (by omega), zwd_app (by omega)]
  unfold zptI
  by_cases hf : m.length % 64 = 63
  · rw [if_pos hf]
    have hq : (m.length + 1) / 64 = m.length / 64 + 1 := by omega
    have hz : (m.length + 1) % 64 = 0 := by omega
    refine ⟨?_, fun j hj => ?_, fun k hk => ?_, Or.inl ?_⟩
    · rw [hl]; exact r4
    · rw [hl, hq]
      show zcomp (zpt1 I m.length b 5) (zpt1 I m.length b 2) (zsch (zpt1 I m.length b 6) 48) j = zcomp (zhs (m ++ [c]) (m.length / 64)) zKr (zsch (zblk (m ++ [c]) (m.length / 64)) 48) j
      rw [r5, r2]
      refine zcomp_lt (fun i hi => ?_) (fun i hi => hC.2 i hi) (fun i hi => zsch_lt _ _ 48 (fun k hk => ?_) i (by omega)) j hj
      · rw [h2 i hi, zhs_app (by omega) i hi]
      · exact hfirst k (by omega)
    · rw [hl, hz] at hk; omega
    · rw [hl]; omega
  · rw [if_neg hf]
    have hq : (m.length + 1) / 64 = m.length / 64 := by omega
    refine ⟨?_, fun j hj => ?_, fun k hk => ?_, ?_⟩
    · rw [hl]; exact r4
    · rw [hl, hq, r5, h2 j hj, zhs_app (by omega) j hj]
    · rw [hl, show (m.length + 1) % 64 = m.length % 64 + 1 by omega] at hk
      rw [hl, hq]
      exact hfirst k hk
    · rw [hl]
      by_cases h5 : m.length % 4 = 3
      · exact Or.inl (by omega)
      · refine Or.inr ?_
        have e : (m.length + 1) % 64 / 4 = m.length % 64 / 4 := by omega
        rw [e, r6, if_pos rfl]
        exact hwp h5
