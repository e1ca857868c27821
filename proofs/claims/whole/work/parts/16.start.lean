/-! THE START: what the Statement gives is what the logical machine stands on -/
def zST : List Int32 := [1779033703, -1150833019, 1013904242, -1521486534, 1359893119, -1694144372, 528734635, 1541459225]
def zRD : List Int32 := [1116352408, 1899447441, -1245643825, -373957723, 961987163, 1508970993, -1841331548, -1424204075, -670586216, 310598401, 607225278, 1426881987, 1925078388, -2132889090, -1680079193, -1046744716, -459576895, -272742522, 264347078, 604807628, 770255983, 1249150122, 1555081692, 1996064986, -1740746414, -1473132947, -1341970488, -1084653625, -958395405, -710438585, 113926993, 338241895, 666307205, 773529912, 1294757372, 1396182291, 1695183700, 1986661051, -2117940946, -1838011259, -1564481375, -1474664885, -1035236496, -949202525, -778901479, -694614492, -200395387, 275423344, 430227734, 506948616, 659060556, 883997877, 958139571, 1322822218, 1537002063, 1747873779, 1955562222, 2024104815, -2067236844, -1933114872, -1866530822, -1538233109, -1090935817, -965641998]
def zstT : Term := .static "ReleaseLeaves$Digester" "START" "[I"
def zrdT : Term := .static "ReleaseLeaves$Digester" "ROUNDS" "[I"
def zI0 (xs : Nat → Int32) : zI := fun a j => if a = 0 then xs j else if a = 1 then zST.getD j 0 else zRD.getD j 0
/-- the logical heap at the start -/
def zH0 (xs : Nat → Int32) : zHp := (3, 0, zI0 xs, fun _ _ => 0, fun _ _ => none)
def zfl0 : List Cond := flatC (Jvm.Cond.and given_1 narrow_1)
theorem zao_all : lw_tbl.all (fun w => match w with | .arrayOver (.object _) => true | .arrayOver (.array _) => true | .arrayOver _ => false | _ => true) = true := by decide +kernel
theorem zfix1 {s : State} {A : Array Value} (hts : ∀ w ∈ lw_tbl, w.before A s = true) : ∀ w ∈ zws, ∀ (a : Array Value) (U : State), s.WarmedH U.vm → w.before a U = true := by
  intro w hw a U hW
  obtain ⟨h1, h2⟩ := List.mem_filter.mp hw
  have hb := hts w h1
  have hao := List.all_eq_true.mp zao_all w h1
  unfold zgw at h2
  rw [Bool.or_eq_true] at h2
  rcases h2 with h2 | h2
  · exact word_at hW (good_of_word h2) hb
  · split at h2
    next => exact va_Nw.use rfl (va_Nw.warmF hW (va_Nw.of rfl hb))
    next => exact va_Nw.use rfl (va_Nw.warmM hW (va_Nw.of rfl hb))
    next ty =>
      cases ty with
      | object C => exact va_AO.use (va_AO.moved hW.alike (va_AO.of hb))
      | array t => exact over_moved hW.alike hb
      | _ => cases hao
    next => cases h2
theorem zfixK {s : State} {A : Array Value} (hz : ∀ w ∈ zws, w.before A s = true) : ∃ D : va_G, va_K D zcls [] s := by
  have h : ∀ ci, ∃ q : ClassId × (Nat → Nat), ci < zNc → u_Kn s (zcn ci) (zfT ci) (zfN ci) q.1 q.2 := by
    intro ci
    by_cases hci : ci < zNc
    · have h2 := List.all_eq_true.mp zins_all ci (List.mem_range.mpr hci)
      rw [Bool.and_eq_true] at h2
      obtain ⟨cC, iS, hk⟩ := u_known hz (zlay ci hci) (hz _ (zin h2.1))
      exact ⟨(cC, iS), fun _ => hk⟩
    · exact ⟨(0, fun _ => 0), fun h => absurd h hci⟩
  refine ⟨(fun ci => (Classical.choose (h ci)).1, fun ci => (Classical.choose (h ci)).2), fun c q hq => ?_, fun k q hk => by simp at hk⟩
  have hc : c < zNc := (List.getElem?_eq_some_iff.mp hq).1
  cases Option.some.inj (hq.symm.trans (zcls_at c hc))
  exact Classical.choose_spec (h c) hc
/-- a static array of ints that the Statement gives -/
theorem zstat {s : State} {A : Array Value} {n : String} {vs : List Int32} {N : Nat} (hN : N < 2 ^ 31) (hf : ∀ w ∈ zfl0, w.before A s = true) (hz : ∀ w ∈ zws, w.before A s = true)
    (w1 : Cond.arrayOf (.static "ReleaseLeaves$Digester" n "[I") .int ∈ zfl0) (w2 : Cond.eq (.length (.static "ReleaseLeaves$Digester" n "[I")) (.int (Int32.ofNat N)) ∈ zfl0)
    (w3 : (List.range N).all (fun j => decide (Cond.eq (.elem (.static "ReleaseLeaves$Digester" n "[I") (.int (Int32.ofNat j))) (.int (vs.getD j 0)) ∈ zfl0)) = true)
    (w4 : (Cond.laysStatic "ReleaseLeaves$Digester" n "[I").before A s = true) (w5 : Cond.initialized "ReleaseLeaves$Digester" ∈ zws) :
    ∃ t : Nat, va_Z "ReleaseLeaves$Digester" n "[I" (.ref t) (fun q => s.heap.size ≤ q) s s.heap ∧ va_T .int t N (fun j => .int (vs.getD j 0)) (fun q => s.heap.size ≤ q) s s.heap := by
  obtain ⟨t, h1, h2⟩ := va_Tof (A := fun q => s.heap.size ≤ q) hN (hf _ w1) (va_eqt (hf _ w2)) (f := fun j => .int (vs.getD j 0)) (fun j hj => va_eqt (hf _ (of_decide_eq_true (List.all_eq_true.mp w3 j (List.mem_range.mpr hj))))) (fun a ha => by omega)
  exact ⟨t, va_Zof w4 (hz _ w5) h1 (fun a ha => by omega), h2⟩
theorem zstw : (Cond.arrayOf zstT .int ∈ zfl0 ∧ Cond.eq (.length zstT) (.int (Int32.ofNat 8)) ∈ zfl0 ∧ (List.range 8).all (fun j => decide (Cond.eq (.elem zstT (.int (Int32.ofNat j))) (.int (zST.getD j 0)) ∈ zfl0)) = true) ∧
    (Cond.arrayOf zrdT .int ∈ zfl0 ∧ Cond.eq (.length zrdT) (.int (Int32.ofNat 64)) ∈ zfl0 ∧ (List.range 64).all (fun j => decide (Cond.eq (.elem zrdT (.int (Int32.ofNat j))) (.int (zRD.getD j 0)) ∈ zfl0)) = true) := by
  refine ⟨⟨?_, ?_, ?_⟩, ?_, ?_, ?_⟩ <;> decide +kernel
theorem zlsw : Cond.laysStatic "ReleaseLeaves$Digester" "START" "[I" ∈ lw_tbl ∧ Cond.laysStatic "ReleaseLeaves$Digester" "ROUNDS" "[I" ∈ lw_tbl ∧ zat0 33 (.initialized "ReleaseLeaves$Digester") = true := by
  refine ⟨?_, ?_, ?_⟩ <;> decide +kernel
theorem zsl_all : (List.range 10).all (fun oc => (zslL.getD oc []).all (fun q => zat0 q.2.2.1 (.fieldLink (zcn oc) q.1 q.2.2.2.1 q.2.2.2.2.1 q.2.2.2.2.2) && (decide (q.2.1 = 1 ∧ q.2.2.2 = ("ReleaseLeaves$Digester", "START", "[I")) || decide (q.2.1 = 2 ∧ q.2.2.2 = ("ReleaseLeaves$Digester", "ROUNDS", "[I"))))) = true := by decide +kernel
/-- the statics, the script -/
theorem zstart {s : State} {b L : Nat} {xs : Nat → Int32} (hts : ∀ w ∈ lw_tbl, w.before #[Value.ref b] s = true) (hX : va_X b L xs s s.heap) (hb : b < s.heap.size) (hg : (Jvm.Cond.and given_1 narrow_1).before #[Value.ref b] s = true) :
    ∃ (D : va_G) (z : Nat → Nat), zFix s D z ∧ zRl s D z L (zH0 xs) s.heap ∧ z 0 = b := by
  have hf : ∀ w ∈ zfl0, w.before #[Value.ref b] s = true := flat_of_before _ hg
  have hz1 := zfix1 hts
  have hz : ∀ w ∈ zws, w.before #[Value.ref b] s = true := fun w hw => hz1 w hw _ s (State.WarmedH.refl s)
  obtain ⟨D, hK⟩ := zfixK hz
  obtain ⟨⟨a1, a2, a3⟩, b1, b2, b3⟩ := zstw
  obtain ⟨l1, l2, l3⟩ := zlsw
  obtain ⟨t1, Z1, T1⟩ := zstat (vs := zST) (N := 8) (by decide) hf hz a1 a2 a3 (hts _ l1) (zin l3)
  obtain ⟨t2, Z2, T2⟩ := zstat (vs := zRD) (N := 64) (by decide) hf hz b1 b2 b3 (hts _ l2) (zin l3)
  refine ⟨D, fun a => if a = 0 then b else if a = 1 then t1 else t2, ⟨hz1, hK, fun oc k a ha => ?_⟩, ⟨Nat.le_refl _, rfl, fun q _ => rfl, fun a ha => ?_, fun a kd ha hkd => ?_, fun q cell hq hc => ?_⟩, rfl⟩
  · obtain ⟨q, hq, hk, e⟩ := zfind ha
    have hc := zall zsl_all (by decide) hq
    have hk' : q.1 = k := by simpa using hk
    subst hk'
    subst e
    rw [Bool.and_eq_true, Bool.or_eq_true, decide_eq_true_eq, decide_eq_true_eq] at hc
    obtain ⟨hc1, ⟨hc2, hc3⟩ | ⟨hc2, hc3⟩⟩ := hc
    · refine ⟨by rw [hc2]; decide, _, _, _, zin hc1, ?_⟩
      rw [hc2, hc3]
      exact Z1
    · refine ⟨by rw [hc2]; decide, _, _, _, zin hc1, ?_⟩
      rw [hc2, hc3]
      exact Z2
  · dsimp only
    split
    · exact hb
    · split
      · obtain ⟨cell, h1, -⟩ := T1
        exact (Array.getElem?_eq_some_iff.mp h1).1
      · obtain ⟨cell, h1, -⟩ := T2
        exact (Array.getElem?_eq_some_iff.mp h1).1
  · have ha3 : a < 3 := ha
    have hzr : ∀ z : Nat → Nat, zr s z a = z a := fun z => if_pos ha3
    rw [hzr]
    match a, ha3 with
    | 0, _ =>
      cases hkd
      obtain ⟨scr, h1, h2, h3, h4, h5⟩ := hX
      exact ⟨scr, h1, h3, h2, zsz_of h4, fun j hj => h5 j hj, fun C hC => (by cases hC)⟩
    | 1, _ =>
      cases hkd
      obtain ⟨scr, h1, h2, h3, h4, h5, h6, -⟩ := T1
      exact ⟨scr, h1, h3, h2, ⟨h4, h5⟩, fun j hj => h6 j hj, fun C hC => (by cases hC)⟩
    | 2, _ =>
      cases hkd
      obtain ⟨scr, h1, h2, h3, h4, h5, h6, -⟩ := T2
      exact ⟨scr, h1, h3, h2, ⟨h4, h5⟩, fun j hj => h6 j hj, fun C hC => (by cases hC)⟩
  · exact absurd (Array.getElem?_eq_some_iff.mp hc).1 (by omega)
