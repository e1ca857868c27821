/-- the runs: by fuel -/
def zev (L : Nat) : Nat → Nat → Nat → zLv → List Value → zHp → Option (zOut × zHp)
  | 0, _, _, _, _, _ => none
  | n + 1, mi, pc, lv, st, h => match zstep L mi pc lv st h with
    | some (.inl (pc', lv', st', h')) => zev L n mi pc' lv' st' h'
    | some (.inr (.inl (mj, as, rest, len))) => (match zev L n mj 0 (zent mj as) [] h with
      | some (.inl v, h') => zev L n mi (pc + len) lv (v.toList ++ rest) h'
      | some (.inr x, h') => (match zcatch mi pc x.1 with
        | some pc' => zev L n mi pc' lv [.ref x.2] h'
        | none => if zhd mi = [] then some (.inr x, h') else none)
      | none => none)
    | some (.inr (.inr (o, h'))) => some (o, h')
    | none => none
theorem zev_succ (L : Nat) : ∀ (n mi pc : Nat) (lv : zLv) (st : List Value) (h : zHp) (r : zOut × zHp), zev L n mi pc lv st h = some r → zev L (n + 1) mi pc lv st h = some r := by
  intro n
  induction n with
  | zero => intro mi pc lv st h r hr; simp [zev] at hr
  | succ n ih =>
    intro mi pc lv st h r hr
    rw [zev] at hr ⊢
    revert hr
    cases hs : zstep L mi pc lv st h with
    | none => intro hr; exact hr
    | some q =>
      rcases q with ⟨pc', lv', st', h'⟩ | ⟨mj, as, rest, len⟩ | ⟨o, h'⟩
      · intro hr; exact ih _ _ _ _ _ _ hr
      · intro hr
        dsimp only at hr ⊢
        cases hc : zev L n mj 0 (zent mj as) [] h with
        | none => rw [hc] at hr; cases hr
        | some w =>
          rw [hc] at hr
          rw [ih _ _ _ _ _ _ hc]
          rcases w with ⟨v | x, h'⟩
          · exact ih _ _ _ _ _ _ hr
          · dsimp only at hr ⊢
            cases hk : zcatch mi pc x.1 with
            | none => rw [hk] at hr; exact hr
            | some pc' => rw [hk] at hr; exact ih _ _ _ _ _ _ hr
      · intro hr; exact hr
theorem zev_le (L : Nat) {n k : Nat} (hk : n ≤ k) {mi pc : Nat} {lv : zLv} {st : List Value} {h : zHp} {r : zOut × zHp} (hr : zev L n mi pc lv st h = some r) : zev L k mi pc lv st h = some r := by
  induction hk with
  | refl => exact hr
  | step _ ih => exact zev_succ L _ _ _ _ _ _ _ ih
/-- THE RUN ENDS WELL: it ends, and what it ends with is of Q -/
def zW (L mi pc : Nat) (lv : zLv) (st : List Value) (h : zHp) (Q : zOut → zHp → Prop) : Prop := ∃ (n : Nat) (o : zOut) (h' : zHp), zev L n mi pc lv st h = some (o, h') ∧ Q o h'
section ZW
variable {L mi pc : Nat} {lv : zLv} {st : List Value} {h : zHp} {Q : zOut → zHp → Prop}
theorem zW.mono {Q' : zOut → zHp → Prop} (w : zW L mi pc lv st h Q) (hq : ∀ o h', Q o h' → Q' o h') : zW L mi pc lv st h Q' := by
  obtain ⟨n, o, h', e, q⟩ := w
  exact ⟨n, o, h', e, hq _ _ q⟩
theorem zw_next {pc' : Nat} {lv' : zLv} {st' : List Value} {h' : zHp} (hs : zstep L mi pc lv st h = some (.inl (pc', lv', st', h'))) : zW L mi pc lv st h Q ↔ zW L mi pc' lv' st' h' Q := by
  constructor
  · rintro ⟨n, o, k, e, q⟩
    cases n with
    | zero => simp [zev] at e
    | succ n => rw [zev, hs] at e; exact ⟨n, o, k, e, q⟩
  · rintro ⟨n, o, k, e, q⟩
    exact ⟨n + 1, o, k, by rw [zev, hs]; exact e, q⟩
theorem zw_end {o : zOut} {h' : zHp} (hs : zstep L mi pc lv st h = some (.inr (.inr (o, h')))) : zW L mi pc lv st h Q ↔ Q o h' := by
  constructor
  · rintro ⟨n, o', k, e, q⟩
    cases n with
    | zero => simp [zev] at e
    | succ n => rw [zev, hs] at e; cases e; exact q
  · intro q
    exact ⟨1, o, h', by rw [zev, hs], q⟩
theorem zw_call {mj : Nat} {as rest : List Value} {len : Nat} (hs : zstep L mi pc lv st h = some (.inr (.inl (mj, as, rest, len))))
    (w : zW L mj 0 (zent mj as) [] h (fun o h' => match o with
      | .inl v => zW L mi (pc + len) lv (v.toList ++ rest) h' Q
      | .inr x => (match zcatch mi pc x.1 with
        | some pc' => zW L mi pc' lv [.ref x.2] h' Q
        | none => zhd mi = [] ∧ Q (.inr x) h'))) : zW L mi pc lv st h Q := by
  obtain ⟨n, o, h', e, q⟩ := w
  rcases o with v | x
  · obtain ⟨k, o2, h2, e2, q2⟩ := q
    refine ⟨max n k + 1, o2, h2, ?_, q2⟩
    rw [zev, hs]
    dsimp only
    rw [zev_le L (Nat.le_max_left n k) e]
    exact zev_le L (Nat.le_max_right n k) e2
  · dsimp only at q
    cases hk : zcatch mi pc x.1 with
    | none =>
      rw [hk] at q
      refine ⟨n + 1, .inr x, h', ?_, q.2⟩
      rw [zev, hs]
      dsimp only
      rw [e]
      dsimp only
      rw [hk]
      exact if_pos q.1
    | some pc' =>
      rw [hk] at q
      obtain ⟨k, o2, h2, e2, q2⟩ := q
      refine ⟨max n k + 1, o2, h2, ?_, q2⟩
      rw [zev, hs]
      dsimp only
      rw [zev_le L (Nat.le_max_left n k) e]
      dsimp only
      rw [hk]
      exact zev_le L (Nat.le_max_right n k) e2
end ZW
