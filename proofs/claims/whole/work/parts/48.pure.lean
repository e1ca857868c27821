/-! approvals: two unlike roles, as roles and as bits -/
def zor (h : Nat → Nat) : Nat → Nat → Nat → Nat
  | B, _, 0 => B
  | B, i, n + 1 => zor h (if h i = 0 then B else B ||| 2 ^ h i) (i + 1) n
def ztw (B : Nat) : Bool := !decide (Int32.ofNat B &&& (Int32.ofNat B - Int32.ofNat 1) = 0)
theorem zsh1 : ∀ k : Fin 5, zshl (Int32.ofNat 1) (Int32.ofNat k.val) = Int32.ofNat (2 ^ k.val) := by decide
theorem zn_or {a b : Nat} : Int32.ofNat a ||| Int32.ofNat b = Int32.ofNat (a ||| b) := by
  apply Int32.toBitVec_inj.mp
  rw [Int32.toBitVec_or]
  show BitVec.ofNat 32 a ||| BitVec.ofNat 32 b = BitVec.ofNat 32 (a ||| b)
  rw [BitVec.ofNat_or]
theorem zbts_or {g : Nat → Int32} {h : Nat → Nat} : ∀ (n i B : Nat), (∀ j, i ≤ j → j < i + n → g j = Int32.ofNat (h j) ∧ h j < 5) → zbts g (Int32.ofNat B) i n = Int32.ofNat (zor h B i n)
  | 0, i, B, _ => rfl
  | n + 1, i, B, hg => by
    have hi := hg i (Nat.le_refl i) (by omega)
    unfold zbts zor
    rw [hi.1]
    have ih := zbts_or n (i + 1) (if h i = 0 then B else B ||| 2 ^ h i) (fun j h1 h2 => hg j (by omega) (by omega))
    by_cases e : h i = 0
    · rw [if_pos e] at ih
      rw [if_pos e, if_neg (by rw [e]; decide)]
      exact ih
    · rw [if_neg e] at ih
      have e2 : (0 : Int32) < Int32.ofNat (h i) := (zn_lt (a := 0) (by decide) (by omega)).mpr (by omega)
      rw [if_neg e, if_pos e2, zsh1 ⟨h i, hi.2⟩, zn_or]
      exact ih
theorem ztw_mono : ∀ (B : Fin 32) (k : Fin 5), ztw B.val = true → ztw (B.val ||| 2 ^ k.val) = true := by decide
theorem ztw_two : ∀ (v : Fin 4) (k : Fin 5), k.val ≠ 0 → k.val ≠ v.val + 1 → ztw (2 ^ (v.val + 1) ||| 2 ^ k.val) = true := by decide
theorem zor_lt : ∀ (B : Fin 32) (k : Fin 5), B.val ||| 2 ^ k.val < 32 := by decide
theorem zor_up {h : Nat → Nat} : ∀ (n i B : Nat), B < 32 → (∀ j, i ≤ j → j < i + n → h j < 5) → ztw B = true → ztw (zor h B i n) = true
  | 0, _, _, _, _, ht => ht
  | n + 1, i, B, hB, hh, ht => by
    unfold zor
    have hi := hh i (Nat.le_refl i) (by omega)
    by_cases e : h i = 0
    · rw [if_pos e]
      exact zor_up n (i + 1) B hB (fun j h1 h2 => hh j (by omega) (by omega)) ht
    · rw [if_neg e]
      exact zor_up n (i + 1) _ (zor_lt ⟨B, hB⟩ ⟨h i, hi⟩) (fun j h1 h2 => hh j (by omega) (by omega)) (ztw_mono ⟨B, hB⟩ ⟨h i, hi⟩ ht)
theorem zm1_ne {v : Nat} (h : v < 5) : Int32.ofNat v ≠ -1 := by
  have : ∀ v : Fin 5, Int32.ofNat v.val ≠ -1 := by decide
  exact this ⟨v, h⟩
theorem zapp_or {f : Nat → Int32} {h : Nat → Nat} : ∀ (n i : Nat) (w : Int32) (B : Nat), ((w = -1 ∧ B = 0) ∨ ∃ v, v < 4 ∧ w = Int32.ofNat v ∧ B = 2 ^ (v + 1)) →
    (∀ j, i ≤ j → j < i + n → h j < 5 ∧ f j = if h j = 0 then -1 else Int32.ofNat (h j - 1)) → zapp f w i n = ztw (zor h B i n)
  | 0, i, w, B, hw, _ => by
    unfold zapp zor
    rcases hw with ⟨_, rfl⟩ | ⟨v, hv, _, rfl⟩
    · rfl
    · have : ∀ v : Fin 4, false = ztw (2 ^ (v.val + 1)) := by decide
      exact this ⟨v, hv⟩
  | n + 1, i, w, B, hw, hf => by
    have hi := hf i (Nat.le_refl i) (by omega)
    have hf' : ∀ j, i + 1 ≤ j → j < i + 1 + n → h j < 5 ∧ f j = if h j = 0 then -1 else Int32.ofNat (h j - 1) := fun j h1 h2 => hf j (by omega) (by omega)
    unfold zapp zor
    rw [hi.2]
    by_cases e : h i = 0
    · rw [if_pos e, if_pos e, if_pos rfl]
      exact zapp_or n (i + 1) w B hw hf'
    · rw [if_neg e, if_neg e, if_neg (zm1_ne (by omega))]
      rcases hw with ⟨rfl, rfl⟩ | ⟨v, hv, rfl, rfl⟩
      · rw [if_pos (Or.inl rfl)]
        refine zapp_or n (i + 1) _ _ (Or.inr ⟨h i - 1, by omega, rfl, ?_⟩) hf'
        rw [Nat.zero_or, show h i - 1 + 1 = h i by omega]
      · by_cases e2 : h i = v + 1
        · rw [if_pos (Or.inr (by rw [e2]; rfl))]
          refine zapp_or n (i + 1) _ _ (Or.inr ⟨v, hv, by rw [e2]; rfl, ?_⟩) hf'
          rw [e2, Nat.or_self]
        · rw [if_neg]
          · refine (zor_up n (i + 1) _ ?_ (fun j h1 h2 => (hf' j h1 h2).1) ?_).symm
            · have h1 : 2 ^ (v + 1) < 32 := by
                have : ∀ v : Fin 4, 2 ^ (v.val + 1) < 32 := by decide
                exact this ⟨v, hv⟩
              exact zor_lt ⟨2 ^ (v + 1), h1⟩ ⟨h i, hi.1⟩
            · exact ztw_two ⟨v, hv⟩ ⟨h i, hi.1⟩ e e2
          · rintro (e3 | e3)
            · exact zm1_ne (by omega) e3
            · have := (zn_inj (by omega) (by omega)).mp e3
              omega
/-- a role of the class and of the reference -/
def zRp (x y : Int32) : Prop := (x = -1 ∧ y = Int32.ofNat 0) ∨ ∃ w, w < 4 ∧ x = Int32.ofNat w ∧ y = Int32.ofNat (1 + w)
theorem zapp_map {f g : Nat → Int32} (h : ∀ p, p < 16 → zRp (f p) (g p)) : zapp f (-1) 0 16 = zmap g := by
  have hx : ∀ p, p < 16 → ∃ q, q < 5 ∧ g p = Int32.ofNat q ∧ f p = if q = 0 then -1 else Int32.ofNat (q - 1) := fun p hp => by
    rcases h p hp with ⟨h1, h2⟩ | ⟨w, hw, h1, h2⟩
    · exact ⟨0, by decide, h2, h1⟩
    · exact ⟨1 + w, by omega, h2, by rw [if_neg (by omega), h1, Nat.add_sub_cancel_left]⟩
  have hy : ∃ hh : Nat → Nat, ∀ p, p < 16 → hh p < 5 ∧ g p = Int32.ofNat (hh p) ∧ f p = if hh p = 0 then -1 else Int32.ofNat (hh p - 1) := by
    refine ⟨fun p => if hp : p < 16 then Classical.choose (hx p hp) else 0, fun p hp => ?_⟩
    simp only [dif_pos hp]
    exact Classical.choose_spec (hx p hp)
  obtain ⟨hh, hhp⟩ := hy
  rw [zapp_or 16 0 (-1) 0 (Or.inl ⟨rfl, rfl⟩) (fun j _ hj => ⟨(hhp j (by omega)).1, (hhp j (by omega)).2.2⟩)]
  unfold zmap
  have e : zbts g (Int32.ofNat 0) 0 16 = Int32.ofNat (zor hh 0 0 16) := zbts_or 16 0 0 (fun j _ hj => ⟨(hhp j (by omega)).2.1, (hhp j (by omega)).1⟩)
  rw [e]
  rfl
/-! poke -/
theorem zxor_self (x m : Int32) : x ^^^ m = x ↔ m = 0 := by
  constructor
  · intro h
    have h2 : x ^^^ (x ^^^ m) = x ^^^ x := by rw [h]
    rw [← Int32.xor_assoc, Int32.xor_self, Int32.zero_xor] at h2
    exact h2
  · rintro rfl
    exact Int32.xor_zero
theorem zand255 (y : Int32) : ∃ m, m < 256 ∧ y &&& Int32.ofNat 255 = Int32.ofNat m := by
  refine ⟨y.toBitVec.toNat &&& 255, ?_, ?_⟩
  · have : y.toBitVec.toNat &&& 255 = y.toBitVec.toNat % 256 := Nat.and_two_pow_sub_one_eq_mod _ 8
    rw [this]; omega
  · apply Int32.toBitVec_inj.mp
    rw [Int32.toBitVec_and]
    show y.toBitVec &&& BitVec.ofNat 32 255 = BitVec.ofNat 32 (y.toBitVec.toNat &&& 255)
    rw [BitVec.ofNat_and, BitVec.ofNat_toNat, BitVec.setWidth_eq]
/-! events -/
theorem zevf_congr {own own' : Nat → Int32} {x : Int32} : ∀ {n s i : Nat}, (∀ j, i ≤ j → j < i + n → own j = own' j) → zevf own x s i n = zevf own' x s i n
  | 0, _, _, _ => rfl
  | n + 1, s, i, h => by
    unfold zevf
    rw [h i (Nat.le_refl i) (by omega)]
    rw [zevf_congr (n := n) (s := s - 1) (i := i + 1) (fun j h1 h2 => h j (by omega) (by omega)), zevf_congr (n := n) (s := s) (i := i + 1) (fun j h1 h2 => h j (by omega) (by omega))]
theorem zhis_eq {I I' : zI} {q w n : Nat} {y : Int32} (hw : w < 3) (hq : I 427 q = I' 453 q) (hn : ∀ k, k < n → I 429 k = I' 454 k ∧ I 430 k = I' 455 k ∧ I 431 k = I' 456 k ∧ I 432 k = I' 457 k) : zhis I q w y n = zmhi I' q w y n := by
  unfold zhis zmhi
  split
  · rfl
  · rw [hq, zevf_congr (own' := I' 454) (fun j _ hj => (hn j (by omega)).1)]
    cases hz : zevf (I' 454) (I' 453 q) y.toNatClampNeg 0 n with
    | none => rfl
    | some e =>
      have := zevf_lt hz
      have he := hn e (by omega)
      show I (430 + w) e = I' (455 + w) e
      rcases (by omega : w = 0 ∨ w = 1 ∨ w = 2) with rfl | rfl | rfl
      · exact he.2.1
      · exact he.2.2.1
      · exact he.2.2.2
/-! what changed -/
theorem zeqn_cg {f f' g g' : Nat → Int32} : ∀ {n i : Nat}, (∀ j, i ≤ j → j < i + n → f j = f' j ∧ g j = g' j) → zeqn f g i n = zeqn f' g' i n
  | 0, _, _ => rfl
  | n + 1, i, h => by
    unfold zeqn
    have hi := h i (Nat.le_refl i) (by omega)
    rw [hi.1, hi.2, zeqn_cg (n := n) (i := i + 1) (fun j h1 h2 => h j (by omega) (by omega))]
theorem zch_eq {I I' : zI} {r r1 j l n2 : Nat} {s s2 ln : Nat → Nat} (hnm : ∀ k, k < n2 → I (8 + 37 * r + 21 + 2 * s2 k) 0 = I' 444 (8 * r + k)) (hnj : I (8 + 37 * r1 + 21 + 2 * s j) 0 = I' 444 (8 * r1 + j)) (hb1 : ∀ k, k < l → I (8 + 37 * r1 + 22 + 2 * s j) k = I' 446 (64 * (8 * r1 + j) + k)) (hb2 : ∀ q, q < n2 → ∀ k, k < ln q → I (8 + 37 * r + 22 + 2 * s2 q) k = I' 446 (64 * (8 * r + q) + k)) :
    zchg I r r1 s s2 j l n2 ln = zmch I' r r1 j l n2 ln := by
  unfold zchg zmch
  have e : zfnd (fun k => decide (I (8 + 37 * r + 21 + 2 * s2 k) 0 = I (8 + 37 * r1 + 21 + 2 * s j) 0)) 0 n2 = zfnd (fun k => decide (I' 444 (8 * r + k) = I' 444 (8 * r1 + j))) 0 n2 := zfnd_congr (fun k _ hk => by rw [hnm k (by omega), hnj])
  rw [e]
  cases hz : zfnd (fun k => decide (I' 444 (8 * r + k) = I' 444 (8 * r1 + j))) 0 n2 with
  | none => rfl
  | some q =>
    have hq := zfnd_lt hz
    show (if _ then _ else _) = (if _ then _ else _)
    by_cases hl : l = ln q
    · have e2 : zeqn (I (8 + 37 * r1 + 22 + 2 * s j)) (I (8 + 37 * r + 22 + 2 * s2 q)) 0 l = zeqn (fun k => I' 446 (64 * (8 * r1 + j) + k)) (fun k => I' 446 (64 * (8 * r + q) + k)) 0 l := zeqn_cg (fun k _ hk => ⟨hb1 k (by omega), hb2 q (by omega) k (by omega)⟩)
      rw [e2]
    · rw [decide_eq_false hl, Bool.false_and, Bool.false_and]
/-! the list and its growth -/
theorem zls_cg {f g : Nat → Int32} : ∀ {n : Nat}, (∀ i, i < 32 * n → f i = g i) → zls f n = zls g n
  | 0, _ => rfl
  | n + 1, h => by
    unfold zls
    rw [zls_cg (n := n) (fun i hi => h i (by omega)), zrw0_congr (f := f) (g := g) (p := 32 * n) (q := 32 * n) (n := 32) (fun i hi => h _ (by omega))]
theorem zgr_eq {I I' : zI} {c a t i : Nat} {tp : Nat → Nat} (hat : a ≤ t) (ht : t ≤ c) (hl : ∀ k, k ≤ c → ∀ b, b < 32 → I (416 + k) b = zls (I' 448) k b) (htop : ∀ r, r < c → ∀ b, b < 32 → I (8 + 37 * r + 4 + zq (tp r)) b = I' 448 (32 * r + b)) :
    zgro I a t i tp = if i < 64 + 32 * (t - a) then zgrw (I' 448) a t i else -1 := by
  unfold zgro zgrw
  by_cases h0 : i / 32 = 0
  · rw [if_pos h0, if_pos (by omega), if_pos (by omega), hl a (by omega) _ (by omega), show i % 32 = i by omega]
  · rw [if_neg h0]
    by_cases h1 : i / 32 ≤ t - a
    · rw [if_pos h1, if_pos (by omega), if_neg (by omega), if_pos (by omega), htop _ (by omega) _ (by omega), show 32 * (a + i / 32 - 1) + i % 32 = 32 * a + (i - 32) by omega]
    · rw [if_neg h1]
      by_cases h2 : i / 32 = t - a + 1
      · rw [if_pos h2, if_pos (by omega), if_neg (by omega), if_neg (by omega), hl t ht _ (by omega), show i - (32 + 32 * (t - a)) = i % 32 by omega]
      · rw [if_neg h2, if_neg (by omega)]
/-! trees -/
theorem zlev_cg {n : Nat} {D D' : Nat → Nat → Int32} (h : ∀ i, i < n → ∀ b, b < 32 → D i b = D' i b) : ∀ (k i : Nat), i < zwid n k → ∀ b, b < 32 → zlev n D k i b = zlev n D' k i b
  | 0, i, hi, b, hb => h i hi b hb
  | k + 1, i, hi, b, hb => by
    have hw : i < (zwid n k + 1) / 2 := hi
    show zpu (zwid n k) (zlev n D k) i b = zpu (zwid n k) (zlev n D' k) i b
    unfold zpu
    by_cases e : 2 * i + 1 < zwid n k
    · rw [if_pos e, if_pos e, zpm_congr (zlev_cg h k (2 * i) (by omega)) (zlev_cg h k (2 * i + 1) e)]
    · rw [if_neg e, if_neg e]
      exact zlev_cg h k (2 * i) (by omega) b hb
theorem zTree_cg {I : zI} {r n : Nat} {D D' : Nat → Nat → Int32} (h : ∀ i, i < n → ∀ b, b < 32 → D i b = D' i b) (ht : zTree I r n D) : zTree I r n D' := by
  refine ⟨ht.1, fun k hk i hi b hb => ?_, ht.2.2⟩
  rw [ht.2.1 k hk i hi b hb]
  exact zlev_cg h k i hi b hb
theorem zprf_eq {I : zI} {r n j i : Nat} {D : Nat → Nat → Int32} (ht : zTree I r n D) : zprf (fun k o => I (8 + 37 * r + 4 + (zq k + o))) (zwid n) (zlvl n) j i = zprf (zlev n D) (zwid n) (zlvl n) j i := by
  unfold zprf
  split
  · rfl
  · cases hz : zsth (fun k => decide (zoth j k < zwid n k)) ((i - 1) / 33) 0 (zlvl n) with
    | none => rfl
    | some k =>
      have hk := zsth_lt hz
      show (if _ then _ else _) = (if _ then _ else _)
      split
      · rfl
      · exact ht.2.1 k (by omega) _ (of_decide_eq_true hk.2.2) _ (by omega)
/-! the check -/
theorem zclm_cg {f g : Nat → Int32} {n q : Nat} (h : ∀ i, i < q → f i = g i) : ∀ (s : Nat), 5 + n + 33 * s ≤ q → zclm f n s = zclm g n s
  | 0, hs => by
    show zcl0 f n = zcl0 g n
    unfold zcl0
    rw [zrw0_congr (f := f) (g := g) (p := 1) (q := 1) (n := 2) (fun i hi => h _ (by omega)), zrw0_congr (f := f) (g := g) (p := 4) (q := 4) (n := n) (fun i hi => h _ (by omega))]
  | s + 1, hs => by
    show zcstp f (5 + n + 33 * s) (zclm f n s) = zcstp g (5 + n + 33 * s) (zclm g n s)
    rw [zclm_cg h s (by omega)]
    unfold zcstp
    rw [h (5 + n + 33 * s) (by omega), zrw0_congr (f := f) (g := g) (p := 5 + n + 33 * s + 1) (q := 5 + n + 33 * s + 1) (n := 32) (fun i hi => h _ (by omega))]
theorem zchk_eq {I I' : zI} {c q : Nat} {b tp : Nat → Nat} (h : ∀ i, i < q → I 434 i = I' 450 i) (htop : ∀ r, r < c → ∀ b, b < 32 → I (8 + 37 * r + 4 + zq (tp r)) b = I' 448 (32 * r + b)) : zchk I c q b tp = zhol I' c q b := by
  unfold zchk zhol
  by_cases hw : zwf0 q b = true
  · by_cases hc : b 0 < c
    · have hq : q = 5 + b 3 + 33 * b (4 + b 3) := by
        unfold zwf0 at hw
        simp only [Bool.and_eq_true, decide_eq_true_eq] at hw
        exact hw.2.2.2
      rw [zclm_cg h (b (4 + b 3)) (by omega), zeqn_cg (f' := zclm (I' 450) (b 3) (b (4 + b 3))) (g' := fun i => I' 448 (32 * b 0 + i)) (fun j _ hj => ⟨rfl, htop (b 0) hc j (by omega)⟩)]
    · rw [decide_eq_false hc, Bool.false_and, Bool.false_and]
  · unfold zwf
    rw [Bool.eq_false_iff.mpr hw, Bool.false_and, Bool.false_and, Bool.false_and]
