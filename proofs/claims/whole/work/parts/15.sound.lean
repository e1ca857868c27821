/-! THE SOUNDNESS OF THE LOGICAL MACHINE -/
def zMo (h : zHp) (r : zRes) : Prop := match r with
  | .inl (_, _, _, h') => h.1 ≤ h'.1 ∧ h.2.1 ≤ h'.2.1
  | .inr (.inl (mj, _, _, len)) => len = 3 ∧ mj < zNm
  | .inr (.inr (_, h')) => h.1 ≤ h'.1 ∧ h.2.1 ≤ h'.2.1
def zOk (p : Program) (l : Launch) (e : Env) (S0 : State) (D : va_G) (z : Nat → Nat) (L mi pc : Nat) (lv : zLv) (st : List Value) (h : zHp) (r : zRes) : Prop :=
  ∀ (Rm : Room) (s : State) (m : MethodId) (args : Array Value) (below : List Frame) (meth : Method) (c : Code) (cells slots : Nat) (Q : State → Prop), zCx S0 p s m meth c mi → zrk mi ≤ Rm.frames → zlo mi ≤ Rm.locals → match r with
  | .inl (pc', lv', st', h') => cells + (h'.1 - h.1) ≤ Rm.cells → slots + (h'.2.1 - h.2.1) ≤ Rm.slots → zG p l e Rm s m args below meth c Q S0 D z L mi pc' lv' st' h' (cells + (h'.1 - h.1)) (slots + (h'.2.1 - h.2.1)) → zG p l e Rm s m args below meth c Q S0 D z L mi pc lv st h cells slots
  | .inr (.inl (mj, as, rest, _)) => ∀ (o : zOut) (h1 : zHp), cells + (h1.1 - h.1) ≤ Rm.cells → slots + (h1.2.1 - h.2.1) ≤ Rm.slots → zIh p l e S0 D z L mj as h h1 o → zKk p l e Rm s m args below meth c Q S0 D z L mi pc lv rest h h1 o cells slots → zG p l e Rm s m args below meth c Q S0 D z L mi pc lv st h cells slots
  | .inr (.inr (o, h')) => cells + (h'.1 - h.1) ≤ Rm.cells → slots + (h'.2.1 - h.2.1) ≤ Rm.slots → zG p l e Rm s m args below meth c (zEnd S0 D z L s below o h' (cells + (h'.1 - h.1)) (slots + (h'.2.1 - h.2.1))) S0 D z L mi pc lv st h cells slots
def zAll (p : Program) (l : Launch) (e : Env) (S0 : State) (D : va_G) (z : Nat → Nat) (L mi pc : Nat) (lv : zLv) (st : List Value) (h : zHp) (r : zRes) : Prop := zMo h r ∧ zOk p l e S0 D z L mi pc lv st h r
section ZSO
variable {p : Program} {l : Launch} {e : Env} {S0 : State} {D : va_G} {z : Nat → Nat} {L mi pc pc' : Nat} {lv lv' : zLv} {st st' : List Value} {h h' : zHp} {r : zRes}
theorem zleaf (hk : ∀ (Rm : Room) (s : State) (m : MethodId) (args : Array Value) (below : List Frame) (meth : Method) (c : Code) (cells slots : Nat) (Q : State → Prop), zCx S0 p s m meth c mi → zrk mi ≤ Rm.frames → zlo mi ≤ Rm.locals → cells ≤ Rm.cells → slots ≤ Rm.slots →
      zG p l e Rm s m args below meth c Q S0 D z L mi pc' lv' st' h' cells slots → zG p l e Rm s m args below meth c Q S0 D z L mi pc lv st h cells slots) (h1 : h'.1 = h.1) (h2 : h'.2.1 = h.2.1) : zAll p l e S0 D z L mi pc lv st h (.inl (pc', lv', st', h')) := by
  refine ⟨⟨by rw [h1]; exact Nat.le_refl _, by rw [h2]; exact Nat.le_refl _⟩, fun Rm s m args below meth c cells slots Q C hfr hlo => ?_⟩
  show _ → _ → _ → _
  rw [h1, h2, Nat.sub_self, Nat.sub_self, Nat.add_zero, Nat.add_zero]
  exact hk Rm s m args below meth c cells slots Q C hfr hlo
/-- what ends a step -/
theorem zn_all (hs : zn pc' lv' st' h' = some r) (hk : zAll p l e S0 D z L mi pc lv st h (.inl (pc', lv', st', h'))) : zAll p l e S0 D z L mi pc lv st h r := by
  cases hs; exact hk
theorem zcall_all (hfl : l.flags = pinnedFlags ++ [noTraceFlag]) (Fx : zFx S0) (F : zFix S0 D z) (hmi : mi < zNm) {k len mj : Nat} {rv : Bool} {i : Instr} (hd : decode (zcd mi) pc = .ok (i, 3)) (hi : i = .invokevirtual k ∧ rv = true ∧ (zy mj).name ≠ "<init>" ∨ i = .invokespecial k ∧ rv = true ∧ (zy mj).name = "<init>" ∨ i = .invokestatic k ∧ rv = false) (hk : zml (zoc mi) k = some mj) (hs : zcall mi mj rv L h st = some r) : zAll p l e S0 D z L mi pc lv st h r := by
  have hsh : ∃ as rest len, r = .inr (.inl (mj, as, rest, len)) := by
    unfold zcall at hs
    split at hs
    next =>
      split at hs
      next as' rest' ht =>
        refine Decidable.byCases (fun h2 => ?_) (fun h2 => by rw [if_neg h2] at hs; cases hs)
        rw [if_pos h2] at hs
        cases rv
        · dsimp only at hs
          split at hs
          · cases hs; exact ⟨_, _, _, rfl⟩
          · cases hs
        · dsimp only at hs
          split at hs
          · split at hs
            · cases hs; exact ⟨_, _, _, rfl⟩
            · cases hs
          · cases hs
      next => cases hs
    next => cases hs
  obtain ⟨as, rest, len, rfl⟩ := hsh
  rcases hi with ⟨rfl, rfl, hn⟩ | ⟨rfl, rfl, hn⟩ | ⟨rfl, rfl⟩
  · obtain ⟨-, hcf, hat, b, as', rfl, e2, e3, e4⟩ := zcall_true hs
    exact ⟨⟨hcf.2.2.2.2.2.2, hcf.2.2.1⟩, fun Rm s m args below meth c cells slots Q C hfr hlo o h1 hc1 hc2 ih kk => zs_callV Fx F C hmi hd hk hn hcf hat e2 e3 e4 hc1 hc2 hfr hlo ih kk⟩
  · obtain ⟨-, hcf, hat, b, as', rfl, e2, e3, e4⟩ := zcall_true hs
    exact ⟨⟨hcf.2.2.2.2.2.2, hcf.2.2.1⟩, fun Rm s m args below meth c cells slots Q C hfr hlo o h1 hc1 hc2 ih kk => zs_callI Fx F C hmi hd hk hn hcf hat e2 e3 hc1 hc2 hfr hlo ih kk⟩
  · obtain ⟨-, hcf, hat, e2, e3⟩ := zcall_false hs
    exact ⟨⟨hcf.2.2.2.2.2.2, hcf.2.2.1⟩, fun Rm s m args below meth c cells slots Q C hfr hlo o h1 hc1 hc2 ih kk => zs_callS Fx F C hmi hd hk hcf hat e2 e3 hc1 hc2 hfr hlo ih kk⟩
theorem zdone {o : zOut} (hk : ∀ (Rm : Room) (s : State) (m : MethodId) (args : Array Value) (below : List Frame) (meth : Method) (c : Code) (cells slots : Nat), zCx S0 p s m meth c mi → zG p l e Rm s m args below meth c (zEnd S0 D z L s below o h cells slots) S0 D z L mi pc lv st h cells slots) : zAll p l e S0 D z L mi pc lv st h (.inr (.inr (o, h))) := by
  refine ⟨⟨Nat.le_refl _, Nat.le_refl _⟩, fun Rm s m args below meth c cells slots Q C hfr hlo => ?_⟩
  show _ → _ → zG _ _ _ _ _ _ _ _ _ _ _ _ _ _ _ _ _ _ _ _ _ _
  rw [Nat.sub_self, Nat.sub_self, Nat.add_zero, Nat.add_zero]
  exact fun _ _ => hk Rm s m args below meth c cells slots C
theorem zins2_all (hfl : l.flags = pinnedFlags ++ [noTraceFlag]) (Fx : zFx S0) (F : zFix S0 D z) (hmi : mi < zNm) {i : Instr} {len : Nat} (hd : decode (zcd mi) pc = .ok (i, len)) (hlen : zlok i len = true) (hs : zins2 L mi pc lv st h i len = some r) : zAll p l e S0 D z L mi pc lv st h r := by
  unfold zins2 at hs
  split at hs
  next k => -- ldc
    split at hs
    next v hv => exact zn_all hs (zleaf (fun _ _ _ _ _ _ _ _ _ _ C _ _ _ _ => zs_ldc F C hd hlen hv) rfl rfl)
    next => cases hs
  next k => -- ldc2_w
    split at hs
    next v hv => exact zn_all hs (zleaf (fun _ _ _ _ _ _ _ _ _ _ C _ _ _ _ => zs_ldc2 F C hd hlen hv) rfl rfl)
    next => cases hs
  next k n => -- iinc
    split at hs
    next => cases hs
    next hg =>
      split at hs
      next x hv => exact zn_all hs (zleaf (fun _ _ _ _ _ _ _ _ _ _ C _ _ _ _ => zs_iinc C hd hlen (by simpa using hg) hv) rfl rfl)
      next => cases hs
  next off => -- goto
    split at hs
    next ho => exact zn_all hs (zleaf (fun _ _ _ _ _ _ _ _ _ _ C _ _ _ _ => zs_goto C hd hlen ho) rfl rfl)
    next => cases hs
  next cd off => -- ifCond
    split at hs
    next x r' =>
      split at hs
      next ho => exact zn_all hs (zleaf (fun _ _ _ _ _ _ _ _ _ _ C _ _ _ _ => zs_if C hd hlen ho) rfl rfl)
      next => cases hs
    next => cases hs
  next cd off => -- if_icmp
    split at hs
    next y x r' =>
      split at hs
      next ho => exact zn_all hs (zleaf (fun _ _ _ _ _ _ _ _ _ _ C _ _ _ _ => zs_icmp C hd hlen ho) rfl rfl)
      next => cases hs
    next => cases hs
  next d lo hi offs => -- tableswitch
    split at hs
    next x r' =>
      split at hs
      next ho => exact zn_all hs (zleaf (fun _ _ _ _ _ _ _ _ _ _ C _ _ _ _ => zs_sw C hd ho.1 ho.2) rfl rfl)
      next => cases hs
    next => cases hs
  next k => -- getfield
    split at hs
    next a r' ci f hf =>
      split at hs
      next ho => exact zn_all hs (zleaf (fun _ _ _ _ _ _ _ _ _ _ C _ _ _ _ => zs_getf F C hd hlen hf ho.1 ho.2) rfl rfl)
      next => cases hs
    next => cases hs
  next k => -- putfield
    split at hs
    next v a r' ci f hf =>
      split at hs
      next ho =>
        unfold zo at hs
        split at hs
        next h2 hp =>
          obtain ⟨q1, q2, -⟩ := zput_facts (S0 := S0) (z := z) hp
          exact zn_all hs (zleaf (fun _ _ _ _ _ _ _ _ _ _ C _ _ _ _ => zs_putf F C hd hlen hf ho.1.1 ho.1.2.1 ho.1.2.2 ho.2 hp) q1 q2)
        next => cases hs
      next => cases hs
    next => cases hs
  next k => -- getstatic
    split at hs
    next a ha => exact zn_all hs (zleaf (fun _ _ _ _ _ _ _ _ _ _ C _ _ _ _ => zs_gets F C hd hlen ha) rfl rfl)
    next => cases hs
  next => -- aastore
    split at hs
    next v j a r' =>
      split at hs
      next ci C n hkv hka =>
        split at hs
        next ho =>
          obtain ⟨⟨rfl, h2⟩, h3, h4⟩ := ho
          exact zn_all hs (zleaf (fun _ _ _ _ _ _ _ _ _ _ C _ _ _ _ => zs_aast F C hd hlen hkv hka h2 h3 h4) rfl rfl)
        next => cases hs
      next => cases hs
    next => cases hs
  next => -- arraylength
    split at hs
    next a r' =>
      split at hs
      next t n hk => exact zn_all hs (zleaf (fun _ _ _ _ _ _ _ _ _ _ C _ _ _ _ => zs_alen F C hd hlen hk) rfl rfl)
      next => cases hs
    next => cases hs
  next k => -- new
    split at hs
    next ci hci =>
      split at hs
      next hK =>
        cases hs
        refine ⟨⟨by show h.1 ≤ h.1 + 1; omega, by show h.2.1 ≤ h.2.1 + zfN ci; omega⟩, fun Rm s m args below meth c cells slots Q C hfr hlo hc1 hc2 kk => ?_⟩
        have e1 : (znew h (zfN ci)).1 - h.1 = 1 := by show h.1 + 1 - h.1 = 1; omega
        have e2 : (znew h (zfN ci)).2.1 - h.2.1 = zfN ci := by show h.2.1 + zfN ci - h.2.1 = _; omega
        rw [e1] at hc1 kk
        rw [e2] at hc2 kk
        exact zs_new F C hd hlen hci hK hc1 hc2 kk
      next => cases hs
    next x hx =>
      have hsh : ∃ o h', r = .inr (.inr (o, h')) := by
        unfold zthrow at hs
        split at hs
        · split at hs
          · cases hs; exact ⟨_, _, rfl⟩
          · cases hs
        · cases hs
      obtain ⟨o, h', rfl⟩ := hsh
      simp only [zlok, zlen, beq_iff_eq] at hlen
      subst hlen
      have hmo : h'.1 = h.1 + 1 ∧ h'.2.1 = h.2.1 + 6 := by
        unfold zthrow at hs
        split at hs
        · split at hs
          · cases hs; exact ⟨rfl, rfl⟩
          · cases hs
        · cases hs
      refine ⟨⟨by show h.1 ≤ h'.1; omega, by show h.2.1 ≤ h'.2.1; omega⟩, fun Rm s m args below meth c cells slots Q C hfr hlo hc1 hc2 => ?_⟩
      have e1 : h'.1 - h.1 = 1 := by omega
      have e2 : h'.2.1 - h.2.1 = 6 := by omega
      rw [e1] at hc1 ⊢
      rw [e2] at hc2 ⊢
      exact (zs_throw hfl Fx F C hd hx hs hc1 hc2 hfr hlo).2.2
    next => cases hs
  next t => -- newarray
    split at hs
    next n r' =>
      split at hs
      next ho =>
        cases hs
        refine ⟨⟨by show h.1 ≤ h.1 + 1; omega, by show h.2.1 ≤ h.2.1 + _; omega⟩, fun Rm s m args below meth c cells slots Q C hfr hlo hc1 hc2 kk => ?_⟩
        have e1 : (znew h n.toNatClampNeg).1 - h.1 = 1 := by show h.1 + 1 - h.1 = 1; omega
        have e2 : (znew h n.toNatClampNeg).2.1 - h.2.1 = n.toNatClampNeg := by show h.2.1 + n.toNatClampNeg - h.2.1 = _; omega
        rw [e1] at hc1 kk
        rw [e2] at hc2 kk
        exact zs_newa F C hd hlen ho.1.2 ho.1.1 ho.2.1 ho.2.2 hc1 hc2 kk
      next => cases hs
    next => cases hs
  next k => -- anewarray
    split at hs
    next n r' A hA =>
      split at hs
      next ho =>
        cases hs
        refine ⟨⟨by show h.1 ≤ h.1 + 1; omega, by show h.2.1 ≤ h.2.1 + _; omega⟩, fun Rm s m args below meth c cells slots Q C hfr hlo hc1 hc2 kk => ?_⟩
        have e1 : (znew h n.toNatClampNeg).1 - h.1 = 1 := by show h.1 + 1 - h.1 = 1; omega
        have e2 : (znew h n.toNatClampNeg).2.1 - h.2.1 = n.toNatClampNeg := by show h.2.1 + n.toNatClampNeg - h.2.1 = _; omega
        rw [e1] at hc1 kk
        rw [e2] at hc2 kk
        exact zs_anew F C hd hlen hA ho.1 ho.2.1 ho.2.2 hc1 hc2 kk
      next => cases hs
    next => cases hs
  next k => -- multianewarray
    split at hs
    next w n r' =>
      split at hs
      next ho =>
        obtain ⟨⟨h1, h2, h3⟩, ⟨h4, h5⟩, h6, h7⟩ := ho
        cases hs
        refine ⟨⟨by show h.1 ≤ h.1 + 1 + _; omega, by show h.2.1 ≤ h.2.1 + _ + _; omega⟩, fun Rm s m args below meth c cells slots Q C hfr hlo hc1 hc2 kk => ?_⟩
        have e1 : (zrows h n.toNatClampNeg w.toNatClampNeg).1 - h.1 = 1 + n.toNatClampNeg := by show h.1 + 1 + n.toNatClampNeg - h.1 = _; omega
        have e2 : (zrows h n.toNatClampNeg w.toNatClampNeg).2.1 - h.2.1 = n.toNatClampNeg + n.toNatClampNeg * w.toNatClampNeg := by show h.2.1 + n.toNatClampNeg + n.toNatClampNeg * w.toNatClampNeg - h.2.1 = _; omega
        rw [e1] at hc1
        rw [e2] at hc2
        rw [e1, e2, ← Nat.add_assoc, ← Nat.add_assoc] at kk
        exact zs_multi F C hd hlen h1 h2 h3 h4 (fun i hi => of_decide_eq_true (List.all_eq_true.mp h5 i (List.mem_range.mpr hi))) h6 h7 hc1 hc2 kk
      next => cases hs
    next => cases hs
  next k => -- invokespecial
    split at hs
    next hob =>
      split at hs
      next a r' =>
        split at hs
        next ho => exact zn_all hs (zleaf (fun _ _ _ _ _ _ _ _ _ _ C hfr hlo _ _ => zs_obj F C hd hlen hob (by omega) (by omega)) rfl rfl)
        next => cases hs
      next => cases hs
    next =>
      split at hs
      next mj hk =>
        split at hs
        next hn =>
          simp only [zlok, zlen, beq_iff_eq] at hlen
          subst hlen
          exact zcall_all hfl Fx F hmi (len := 3) hd (Or.inr (Or.inl ⟨rfl, rfl, hn⟩)) hk hs
        next => cases hs
      next => cases hs
  next k => -- invokevirtual
    split at hs
    next mj hk =>
      split at hs
      next => cases hs
      next hn =>
        simp only [zlok, zlen, beq_iff_eq] at hlen
        subst hlen
        exact zcall_all hfl Fx F hmi (len := 3) hd (Or.inl ⟨rfl, rfl, hn⟩) hk hs
    next => cases hs
  next k => -- invokestatic
    split at hs
    next hac =>
      unfold zacopy at hs
      split at hs
      next n dp d sp sr r' =>
        split at hs
        next n0 n1 hks hkd =>
          split at hs
          next ho =>
            obtain ⟨⟨⟨a1, a2, a3⟩, a4, a5⟩, ⟨a6, a7⟩, a8, a9⟩ := ho
            simp only [zlok, zlen, beq_iff_eq] at hlen
            subst hlen
            exact zn_all hs (zleaf (fun _ _ _ _ _ _ _ _ _ _ C hfr hlo _ _ => zs_copy F C hd rfl hac hks hkd a1 a2 a3 a4 a5 a6 (by omega) (by omega)) rfl rfl)
          next => cases hs
        next => cases hs
      next => cases hs
    next =>
      split at hs
      next hmn =>
        split at hs
        next y x r' =>
          split at hs
          next ho => exact zn_all hs (zleaf (fun _ _ _ _ _ _ _ _ _ _ C hfr hlo hc hsl => zs_min F C hd hlen hmn (by omega) (by omega) hc hsl) rfl rfl)
          next => cases hs
        next => cases hs
      next =>
        split at hs
        next mj hk =>
          simp only [zlok, zlen, beq_iff_eq] at hlen
          subst hlen
          exact zcall_all hfl Fx F hmi (len := 3) hd (Or.inr (Or.inr ⟨rfl, rfl⟩)) hk hs
        next => cases hs
  next => -- ireturn
    unfold zret at hs
    split at hs
    next v hr => cases hs; exact zdone (fun _ _ _ _ _ _ _ _ _ C => zs_iret C hd hlen (Or.inl hr))
    next v hr =>
      split at hs
      next hv => cases hs; exact zdone (fun _ _ _ _ _ _ _ _ _ C => zs_iret C hd hlen (Or.inr ⟨hr, hv⟩))
      next => cases hs
    next => cases hs
  next => -- areturn
    unfold zaret at hs
    split at hs
    next v n hr => cases hs; exact zdone (fun _ _ _ _ _ _ _ _ _ C => zs_aret C hd hlen hr (Or.inl ⟨_, rfl⟩))
    next v n hr => cases hs; exact zdone (fun _ _ _ _ _ _ _ _ _ C => zs_aret C hd hlen hr (Or.inr ⟨_, rfl⟩))
    next => cases hs
  next => -- return
    unfold zvret at hs
    split at hs
    next hr => cases hs; exact zdone (fun _ _ _ _ _ _ _ _ _ C => zs_vret C hd hlen hr)
    next => cases hs
  next => -- arithmetic
    split at hs
    next y x r' =>
      split at hs
      next v hv => exact zn_all hs (zleaf (fun _ _ _ _ _ _ _ _ _ _ C _ _ _ _ => zs_bin C hd hlen hv) rfl rfl)
      next => cases hs
    next => cases hs
theorem zstep_all (hfl : l.flags = pinnedFlags ++ [noTraceFlag]) (Fx : zFx S0) (F : zFix S0 D z) (hmi : mi < zNm) (hs : zstep L mi pc lv st h = some r) : zAll p l e S0 D z L mi pc lv st h r := by
  unfold zstep at hs
  split at hs
  next i len hd =>
    split at hs
    next hlen =>
      unfold zins at hs
      split at hs
      next v hv => exact zn_all hs (zleaf (fun _ _ _ _ _ _ _ _ _ _ C _ _ _ _ => zs_const C hd hlen hv) rfl rfl)
      next =>
        split at hs
        next q hq =>
          unfold zpush at hs
          split at hs
          next v hv => exact zn_all hs (zleaf (fun _ _ _ _ _ _ _ _ _ _ C _ _ _ _ => zs_load C hd hlen hq hv) rfl rfl)
          next => cases hs
        next =>
          split at hs
          next q hq =>
            split at hs
            next v r' =>
              split at hs
              next ho => exact zn_all hs (zleaf (fun _ _ _ _ _ _ _ _ _ _ C _ _ _ _ => zs_store C hd hlen hq ho.1.1 ho.1.2 ho.2) rfl rfl)
              next => cases hs
            next => cases hs
          next =>
            split at hs
            next ty hty =>
              split at hs
              next j a r' =>
                unfold zpush at hs
                split at hs
                next v hv => exact zn_all hs (zleaf (fun _ _ _ _ _ _ _ _ _ _ C _ _ _ _ => zs_ald F C hd hlen hty hv) rfl rfl)
                next => cases hs
              next => cases hs
            next =>
              split at hs
              next ty hty =>
                split at hs
                next v j a r' =>
                  unfold zo at hs
                  split at hs
                  next h2 hp =>
                    have hp' := hp
                    unfold zast at hp'
                    split at hp'
                    next t n hkk =>
                      split at hp'
                      next =>
                        obtain ⟨q1, q2, -⟩ := zput_facts (S0 := S0) (z := z) hp'
                        exact zn_all hs (zleaf (fun _ _ _ _ _ _ _ _ _ _ C _ _ _ _ => zs_ast F C hd hlen hty hp) q1 q2)
                      next => cases hp'
                    next => cases hp'
                  next => cases hs
                next => cases hs
              next =>
                split at hs
                next st' hst => exact zn_all hs (zleaf (fun _ _ _ _ _ _ _ _ _ _ C _ _ _ _ => zs_stk C hd hlen hst) rfl rfl)
                next => exact zins2_all hfl Fx F hmi hd hlen hs
    next => cases hs
  next => cases hs
/-- runs of the logical machine only make -/
theorem zev_mono (p : Program) (e : Env) (hfl : l.flags = pinnedFlags ++ [noTraceFlag]) (Fx : zFx S0) (F : zFix S0 D z) : ∀ (n mi pc : Nat) (lv : zLv) (st : List Value) (h h' : zHp) (o : zOut), mi < zNm → zev L n mi pc lv st h = some (o, h') → h.1 ≤ h'.1 ∧ h.2.1 ≤ h'.2.1 := by
  intro n
  induction n with
  | zero => intro mi pc lv st h h' o _ hr; simp [zev] at hr
  | succ n ih =>
    intro mi pc lv st h h' o hmi hr
    rw [zev] at hr
    cases hs : zstep L mi pc lv st h with
    | none => rw [hs] at hr; cases hr
    | some q =>
      have hm := (zstep_all (p := p) (e := e) hfl Fx F hmi hs).1
      rw [hs] at hr
      rcases q with ⟨pc', lv', st', h1⟩ | ⟨mj, as, rest, len⟩ | ⟨o', h1⟩
      · have h2 := ih _ _ _ _ _ _ _ hmi hr
        exact ⟨Nat.le_trans hm.1 h2.1, Nat.le_trans hm.2 h2.2⟩
      · dsimp only at hr
        cases hc : zev L n mj 0 (zent mj as) [] h with
        | none => rw [hc] at hr; cases hr
        | some w =>
          obtain ⟨o1, h1⟩ := w
          have h1m := ih _ _ _ _ _ _ _ hm.2 hc
          rw [hc] at hr
          rcases o1 with v | x
          · have h2 := ih _ _ _ _ _ _ _ hmi hr
            exact ⟨Nat.le_trans h1m.1 h2.1, Nat.le_trans h1m.2 h2.2⟩
          · dsimp only at hr
            cases hk : zcatch mi pc x.1 with
            | none =>
              rw [hk] at hr
              dsimp only at hr
              split at hr
              · cases hr; exact h1m
              · cases hr
            | some pc' =>
              rw [hk] at hr
              have h2 := ih _ _ _ _ _ _ _ hmi hr
              exact ⟨Nat.le_trans h1m.1 h2.1, Nat.le_trans h1m.2 h2.2⟩
      · cases hr
        exact hm
theorem zsound (hfl : l.flags = pinnedFlags ++ [noTraceFlag]) (Fx : zFx S0) (F : zFix S0 D z) : ∀ (n mi pc : Nat) (lv : zLv) (st : List Value) (h h' : zHp) (o : zOut), mi < zNm → zev L n mi pc lv st h = some (o, h') →
    ∀ (Rm : Room) (s : State) (m : MethodId) (args : Array Value) (below : List Frame) (meth : Method) (c : Code) (cells slots : Nat), zCx S0 p s m meth c mi → zrk mi ≤ Rm.frames → zlo mi ≤ Rm.locals → cells + (h'.1 - h.1) ≤ Rm.cells → slots + (h'.2.1 - h.2.1) ≤ Rm.slots →
      zG p l e Rm s m args below meth c (zEnd S0 D z L s below o h' (cells + (h'.1 - h.1)) (slots + (h'.2.1 - h.2.1))) S0 D z L mi pc lv st h cells slots := by
  intro n
  induction n with
  | zero => intro mi pc lv st h h' o _ hr; simp [zev] at hr
  | succ n ih =>
    intro mi pc lv st h h' o hmi hr Rm s m args below meth c cells slots C hfr hlo hc1 hc2
    rw [zev] at hr
    cases hs : zstep L mi pc lv st h with
    | none => rw [hs] at hr; cases hr
    | some q =>
      obtain ⟨hm, hok⟩ := zstep_all (p := p) (e := e) hfl Fx F hmi hs
      have hok := hok Rm s m args below meth c cells slots (zEnd S0 D z L s below o h' (cells + (h'.1 - h.1)) (slots + (h'.2.1 - h.2.1))) C hfr hlo
      rw [hs] at hr
      rcases q with ⟨pc', lv', st', h1⟩ | ⟨mj, as, rest, len⟩ | ⟨o', h1⟩
      · have h2 := zev_mono p e hfl Fx F n _ _ _ _ _ _ _ hmi hr
        have hm1 : h.1 ≤ h1.1 ∧ h.2.1 ≤ h1.2.1 := hm
        have k := ih _ _ _ _ _ _ _ hmi hr Rm s m args below meth c (cells + (h1.1 - h.1)) (slots + (h1.2.1 - h.2.1)) C hfr hlo (by omega) (by omega)
        rw [show cells + (h1.1 - h.1) + (h'.1 - h1.1) = cells + (h'.1 - h.1) by omega, show slots + (h1.2.1 - h.2.1) + (h'.2.1 - h1.2.1) = slots + (h'.2.1 - h.2.1) by omega] at k
        exact hok (by omega) (by omega) k
      · dsimp only at hr
        obtain ⟨hl3, hmj⟩ := hm
        subst hl3
        cases hc : zev L n mj 0 (zent mj as) [] h with
        | none => rw [hc] at hr; cases hr
        | some w =>
          obtain ⟨o1, h1⟩ := w
          have hm1 := zev_mono p e hfl Fx F n _ _ _ _ _ _ _ hmj hc
          rw [hc] at hr
          have hih : zIh p l e S0 D z L mj as h h1 o1 := by
            intro R' s' m' args' below' meth' c' C' g1 g2 g3 g4
            have k := ih _ _ _ _ _ _ _ hmj hc R' s' m' args' below' meth' c' 0 0 C' (by omega) (by omega) (by omega) (by omega)
            rw [Nat.zero_add, Nat.zero_add] at k
            exact k
          have fin : ∀ (pc2 : Nat) (st2 : List Value), zev L n mi pc2 lv st2 h1 = some (o, h') → h1.1 ≤ h'.1 ∧ h1.2.1 ≤ h'.2.1 ∧ zG p l e Rm s m args below meth c (zEnd S0 D z L s below o h' (cells + (h'.1 - h.1)) (slots + (h'.2.1 - h.2.1))) S0 D z L mi pc2 lv st2 h1 (cells + (h1.1 - h.1)) (slots + (h1.2.1 - h.2.1)) := by
            intro pc2 st2 hr2
            have h2 := zev_mono p e hfl Fx F n _ _ _ _ _ _ _ hmi hr2
            have k := ih _ _ _ _ _ _ _ hmi hr2 Rm s m args below meth c (cells + (h1.1 - h.1)) (slots + (h1.2.1 - h.2.1)) C hfr hlo (by omega) (by omega)
            rw [show cells + (h1.1 - h.1) + (h'.1 - h1.1) = cells + (h'.1 - h.1) by omega, show slots + (h1.2.1 - h.2.1) + (h'.2.1 - h1.2.1) = slots + (h'.2.1 - h.2.1) by omega] at k
            exact ⟨h2.1, h2.2, k⟩
          rcases o1 with v | x
          · obtain ⟨q1, q2, q3⟩ := fin _ _ hr
            exact hok (.inl v) h1 (by omega) (by omega) hih q3
          · dsimp only at hr
            cases hk : zcatch mi pc x.1 with
            | none =>
              rw [hk] at hr
              dsimp only at hr
              split at hr
              next hhd =>
                cases hr
                refine hok (.inr x) _ hc1 hc2 hih ?_
                unfold zKk
                dsimp only
                rw [hk]
                exact ⟨hhd, fun t ht => ht⟩
              next => cases hr
            | some pc' =>
              rw [hk] at hr
              obtain ⟨q1, q2, q3⟩ := fin _ _ hr
              refine hok (.inr x) h1 (by omega) (by omega) hih ?_
              unfold zKk
              dsimp only
              rw [hk]
              exact q3
      · cases hr
        exact hok hc1 hc2
end ZSO
