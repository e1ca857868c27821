/-! THE LAW'S HELPERS -/
section ZH
variable {L N U N' U' : Nat} {I I' : zI} {J J' : zJ} {R R' : zR}
theorem zh39 (hN : 459 ≤ N) (hN' : 459 ≤ N') {x : Int32} {v : Int32} (hr : zRet L 40 [.ref 3, .int x] (N, U, I, J, R) (some (.int v)) (N', U', I', J', R')) : zRet L 39 [.ref 3, .int x, .ref 458] (N, U, I, J, R) (some (.int (Int32.ofNat 0))) (N', U', I', zu J' 458 0 v.toInt64, R') := by
  show zW L 39 0 [some (.ref 3), some (.int x), some (.ref 458), none] [] _ _
  refine zx_al2 zd39_0 ?_
  refine zx_c zd39_1 ?_
  refine zx_al0 zd39_2 ?_
  refine zx_il1 zd39_3 ?_
  (refine zx_cv1I zd39_4 ?k5 (hr) ?_); (case k5 => exact zkk rfl (by omega))
  refine zx_i2l zd39_7 ?_
  (with_reducible refine' zx_lastN zd39_8 ?k7 ?j7 ?a7 ?_); (case k7 => exact zkk rfl (by omega)); (case j7 => omega); (case a7 => omega)
  refine zx_goto zd39_9 ?_
  refine zx_c zd39_15 ?_
  refine zx_iret zd39_16 (Or.inl rfl) ?_
  exact ⟨rfl, rfl⟩
theorem zh39_T0 (hN : 459 ≤ N) {x : Int32} {e : Nat} (hr : zThr L 40 [.ref 3, .int x] (N, U, I, J, R) (0, e) (N', U', I', J', R')) : zRet L 39 [.ref 3, .int x, .ref 458] (N, U, I, J, R) (some (.int (Int32.ofNat 1))) (N', U', I', J', R') := by
  show zW L 39 0 [some (.ref 3), some (.int x), some (.ref 458), none] [] _ _
  refine zx_al2 zd39_0 ?_
  refine zx_c zd39_1 ?_
  refine zx_al0 zd39_2 ?_
  refine zx_il1 zd39_3 ?_
  (refine zx_ct1v zd39_4 ?k15 (hr) ?_); (case k15 => exact zkk rfl (by omega))
  show zW L 39 12 [some (.ref 3), some (.int x), some (.ref 458), none] [.ref e] _ _
  refine zx_as3 zd39_12 rfl ?_
  refine zx_c zd39_13 ?_
  refine zx_iret zd39_14 (Or.inl rfl) ?_
  exact ⟨rfl, rfl⟩
theorem zh43_0 (hN : 459 ≤ N) (hN' : 459 ≤ N') {x y : Int32} (hr : zRet L 44 [.ref 3, .int x, .int y] (N, U, I, J, R) (some (.int (Int32.ofNat 0))) (N', U', I', J', R')) : zRet L 43 [.ref 3, .int x, .int y, .ref 458] (N, U, I, J, R) (some (.int (Int32.ofNat 0))) (N', U', I', zu J' 458 0 0, R') := by
  show zW L 43 0 [some (.ref 3), some (.int x), some (.int y), some (.ref 458), none] [] _ _
  refine zx_al3 zd43_0 ?_
  refine zx_c zd43_1 ?_
  refine zx_al0 zd43_2 ?_
  refine zx_il1 zd43_3 ?_
  refine zx_il2 zd43_4 ?_
  (refine zx_cv2I zd43_5 ?k24 (hr) ?_); (case k24 => exact zkk rfl (by omega))
  first | ((with_reducible refine zx_ifeqN zd43_8 ?s25 (fun h => ?_) (fun h => ?_)); (case s25 => omega)) | refine zx_ifeq zd43_8 (fun h => ?_) (fun h => ?_)
  · refine zx_C zd43_15 ?_
    (with_reducible refine' zx_lastN zd43_16 ?k27 ?j27 ?a27 ?_); (case k27 => exact zkk rfl (by omega)); (case j27 => omega); (case a27 => omega)
    refine zx_goto zd43_17 ?_
    refine zx_c zd43_28 ?_
    refine zx_iret zd43_29 (Or.inl rfl) ?_
    exact ⟨rfl, rfl⟩
  · omega
theorem zh43_1 (hN : 459 ≤ N) (hN' : 459 ≤ N') {x y : Int32} (hr : zRet L 44 [.ref 3, .int x, .int y] (N, U, I, J, R) (some (.int (Int32.ofNat 1))) (N', U', I', J', R')) : zRet L 43 [.ref 3, .int x, .int y, .ref 458] (N, U, I, J, R) (some (.int (Int32.ofNat 0))) (N', U', I', zu J' 458 0 1, R') := by
  show zW L 43 0 [some (.ref 3), some (.int x), some (.int y), some (.ref 458), none] [] _ _
  refine zx_al3 zd43_0 ?_
  refine zx_c zd43_1 ?_
  refine zx_al0 zd43_2 ?_
  refine zx_il1 zd43_3 ?_
  refine zx_il2 zd43_4 ?_
  (refine zx_cv2I zd43_5 ?k36 (hr) ?_); (case k36 => exact zkk rfl (by omega))
  first | ((with_reducible refine zx_ifeqN zd43_8 ?s37 (fun h => ?_) (fun h => ?_)); (case s37 => omega)) | refine zx_ifeq zd43_8 (fun h => ?_) (fun h => ?_)
  · omega
  · refine zx_C zd43_11 ?_
    refine zx_goto zd43_12 ?_
    (with_reducible refine' zx_lastN zd43_16 ?k40 ?j40 ?a40 ?_); (case k40 => exact zkk rfl (by omega)); (case j40 => omega); (case a40 => omega)
    refine zx_goto zd43_17 ?_
    refine zx_c zd43_28 ?_
    refine zx_iret zd43_29 (Or.inl rfl) ?_
    exact ⟨rfl, rfl⟩
theorem zh43_T1 (hN : 459 ≤ N) {x y : Int32} {e : Nat} (hr : zThr L 44 [.ref 3, .int x, .int y] (N, U, I, J, R) (1, e) (N', U', I', J', R')) : zRet L 43 [.ref 3, .int x, .int y, .ref 458] (N, U, I, J, R) (some (.int (Int32.ofNat 1))) (N', U', I', J', R') := by
  show zW L 43 0 [some (.ref 3), some (.int x), some (.int y), some (.ref 458), none] [] _ _
  refine zx_al3 zd43_0 ?_
  refine zx_c zd43_1 ?_
  refine zx_al0 zd43_2 ?_
  refine zx_il1 zd43_3 ?_
  refine zx_il2 zd43_4 ?_
  (refine zx_ct2v zd43_5 ?k49 (hr) ?_); (case k49 => exact zkk rfl (by omega))
  show zW L 43 20 [some (.ref 3), some (.int x), some (.int y), some (.ref 458), none] [.ref e] _ _
  refine zx_as4 zd43_20 rfl ?_
  refine zx_c zd43_22 ?_
  refine zx_iret zd43_23 (Or.inl rfl) ?_
  exact ⟨rfl, rfl⟩
theorem zh43_T0 (hN : 459 ≤ N) {x y : Int32} {e : Nat} (hr : zThr L 44 [.ref 3, .int x, .int y] (N, U, I, J, R) (0, e) (N', U', I', J', R')) : zRet L 43 [.ref 3, .int x, .int y, .ref 458] (N, U, I, J, R) (some (.int (Int32.ofNat 2))) (N', U', I', J', R') := by
  show zW L 43 0 [some (.ref 3), some (.int x), some (.int y), some (.ref 458), none] [] _ _
  refine zx_al3 zd43_0 ?_
  refine zx_c zd43_1 ?_
  refine zx_al0 zd43_2 ?_
  refine zx_il1 zd43_3 ?_
  refine zx_il2 zd43_4 ?_
  (refine zx_ct2v zd43_5 ?k58 (hr) ?_); (case k58 => exact zkk rfl (by omega))
  show zW L 43 24 [some (.ref 3), some (.int x), some (.int y), some (.ref 458), none] [.ref e] _ _
  refine zx_as4 zd43_24 rfl ?_
  refine zx_c zd43_26 ?_
  refine zx_iret zd43_27 (Or.inl rfl) ?_
  exact ⟨rfl, rfl⟩
theorem zh47 (hN : 459 ≤ N) (hN' : 459 ≤ N') {x y : Int32} {v : Int32} (hr : zRet L 48 [.ref 3, .int x, .int y] (N, U, I, J, R) (some (.int v)) (N', U', I', J', R')) : zRet L 47 [.ref 3, .int x, .int y, .ref 458] (N, U, I, J, R) (some (.int (Int32.ofNat 0))) (N', U', I', zu J' 458 0 v.toInt64, R') := by
  show zW L 47 0 [some (.ref 3), some (.int x), some (.int y), some (.ref 458), none] [] _ _
  refine zx_al3 zd47_0 ?_
  refine zx_c zd47_1 ?_
  refine zx_al0 zd47_2 ?_
  refine zx_il1 zd47_3 ?_
  refine zx_il2 zd47_4 ?_
  (refine zx_cv2I zd47_5 ?k67 (hr) ?_); (case k67 => exact zkk rfl (by omega))
  refine zx_i2l zd47_8 ?_
  (with_reducible refine' zx_lastN zd47_9 ?k69 ?j69 ?a69 ?_); (case k69 => exact zkk rfl (by omega)); (case j69 => omega); (case a69 => omega)
  refine zx_goto zd47_10 ?_
  refine zx_c zd47_17 ?_
  refine zx_iret zd47_18 (Or.inl rfl) ?_
  exact ⟨rfl, rfl⟩
theorem zh47_T1 (hN : 459 ≤ N) {x y : Int32} {e : Nat} (hr : zThr L 48 [.ref 3, .int x, .int y] (N, U, I, J, R) (1, e) (N', U', I', J', R')) : zRet L 47 [.ref 3, .int x, .int y, .ref 458] (N, U, I, J, R) (some (.int (Int32.ofNat 1))) (N', U', I', J', R') := by
  show zW L 47 0 [some (.ref 3), some (.int x), some (.int y), some (.ref 458), none] [] _ _
  refine zx_al3 zd47_0 ?_
  refine zx_c zd47_1 ?_
  refine zx_al0 zd47_2 ?_
  refine zx_il1 zd47_3 ?_
  refine zx_il2 zd47_4 ?_
  (refine zx_ct2v zd47_5 ?k78 (hr) ?_); (case k78 => exact zkk rfl (by omega))
  show zW L 47 13 [some (.ref 3), some (.int x), some (.int y), some (.ref 458), none] [.ref e] _ _
  refine zx_as4 zd47_13 rfl ?_
  refine zx_c zd47_15 ?_
  refine zx_iret zd47_16 (Or.inl rfl) ?_
  exact ⟨rfl, rfl⟩
theorem zh51 (hN : 459 ≤ N) (hN' : 459 ≤ N') {x y z : Int32} {v : Int32} (hr : zRet L 52 [.ref 3, .int x, .int y, .int z] (N, U, I, J, R) (some (.int v)) (N', U', I', J', R')) : zRet L 51 [.ref 3, .int x, .int y, .int z, .ref 458] (N, U, I, J, R) (some (.int (Int32.ofNat 0))) (N', U', I', zu J' 458 0 v.toInt64, R') := by
  show zW L 51 0 [some (.ref 3), some (.int x), some (.int y), some (.int z), some (.ref 458), none] [] _ _
  refine zx_al4 zd51_0 ?_
  refine zx_c zd51_2 ?_
  refine zx_al0 zd51_3 ?_
  refine zx_il1 zd51_4 ?_
  refine zx_il2 zd51_5 ?_
  refine zx_il3 zd51_6 ?_
  (refine zx_cv3I zd51_7 ?k88 (hr) ?_); (case k88 => exact zkk rfl (by omega))
  refine zx_i2l zd51_10 ?_
  (with_reducible refine' zx_lastN zd51_11 ?k90 ?j90 ?a90 ?_); (case k90 => exact zkk rfl (by omega)); (case j90 => omega); (case a90 => omega)
  refine zx_goto zd51_12 ?_
  refine zx_c zd51_19 ?_
  refine zx_iret zd51_20 (Or.inl rfl) ?_
  exact ⟨rfl, rfl⟩
theorem zh51_T1 (hN : 459 ≤ N) {x y z : Int32} {e : Nat} (hr : zThr L 52 [.ref 3, .int x, .int y, .int z] (N, U, I, J, R) (1, e) (N', U', I', J', R')) : zRet L 51 [.ref 3, .int x, .int y, .int z, .ref 458] (N, U, I, J, R) (some (.int (Int32.ofNat 1))) (N', U', I', J', R') := by
  show zW L 51 0 [some (.ref 3), some (.int x), some (.int y), some (.int z), some (.ref 458), none] [] _ _
  refine zx_al4 zd51_0 ?_
  refine zx_c zd51_2 ?_
  refine zx_al0 zd51_3 ?_
  refine zx_il1 zd51_4 ?_
  refine zx_il2 zd51_5 ?_
  refine zx_il3 zd51_6 ?_
  (refine zx_ct3v zd51_7 ?k100 (hr) ?_); (case k100 => exact zkk rfl (by omega))
  show zW L 51 15 [some (.ref 3), some (.int x), some (.int y), some (.int z), some (.ref 458), none] [.ref e] _ _
  refine zx_as5 zd51_15 rfl ?_
  refine zx_c zd51_17 ?_
  refine zx_iret zd51_18 (Or.inl rfl) ?_
  exact ⟨rfl, rfl⟩
theorem zh59 (hN : 459 ≤ N) (hN' : 459 ≤ N') {x y z : Int32} {v : Int32} (hr : zRet L 60 [.ref 3, .int x, .int y, .int z] (N, U, I, J, R) (some (.int v)) (N', U', I', J', R')) : zRet L 59 [.ref 3, .int x, .int y, .int z, .ref 458] (N, U, I, J, R) (some (.int (Int32.ofNat 0))) (N', U', I', zu J' 458 0 v.toInt64, R') := by
  show zW L 59 0 [some (.ref 3), some (.int x), some (.int y), some (.int z), some (.ref 458), none] [] _ _
  refine zx_al4 zd59_0 ?_
  refine zx_c zd59_2 ?_
  refine zx_al0 zd59_3 ?_
  refine zx_il1 zd59_4 ?_
  refine zx_il2 zd59_5 ?_
  refine zx_il3 zd59_6 ?_
  (refine zx_cv3I zd59_7 ?k110 (hr) ?_); (case k110 => exact zkk rfl (by omega))
  refine zx_i2l zd59_10 ?_
  (with_reducible refine' zx_lastN zd59_11 ?k112 ?j112 ?a112 ?_); (case k112 => exact zkk rfl (by omega)); (case j112 => omega); (case a112 => omega)
  refine zx_goto zd59_12 ?_
  refine zx_c zd59_23 ?_
  refine zx_iret zd59_24 (Or.inl rfl) ?_
  exact ⟨rfl, rfl⟩
theorem zh59_T1 (hN : 459 ≤ N) {x y z : Int32} {e : Nat} (hr : zThr L 60 [.ref 3, .int x, .int y, .int z] (N, U, I, J, R) (1, e) (N', U', I', J', R')) : zRet L 59 [.ref 3, .int x, .int y, .int z, .ref 458] (N, U, I, J, R) (some (.int (Int32.ofNat 1))) (N', U', I', J', R') := by
  show zW L 59 0 [some (.ref 3), some (.int x), some (.int y), some (.int z), some (.ref 458), none] [] _ _
  refine zx_al4 zd59_0 ?_
  refine zx_c zd59_2 ?_
  refine zx_al0 zd59_3 ?_
  refine zx_il1 zd59_4 ?_
  refine zx_il2 zd59_5 ?_
  refine zx_il3 zd59_6 ?_
  (refine zx_ct3v zd59_7 ?k122 (hr) ?_); (case k122 => exact zkk rfl (by omega))
  show zW L 59 15 [some (.ref 3), some (.int x), some (.int y), some (.int z), some (.ref 458), none] [.ref e] _ _
  refine zx_as5 zd59_15 rfl ?_
  refine zx_c zd59_17 ?_
  refine zx_iret zd59_18 (Or.inl rfl) ?_
  exact ⟨rfl, rfl⟩
theorem zh59_T0 (hN : 459 ≤ N) {x y z : Int32} {e : Nat} (hr : zThr L 60 [.ref 3, .int x, .int y, .int z] (N, U, I, J, R) (0, e) (N', U', I', J', R')) : zRet L 59 [.ref 3, .int x, .int y, .int z, .ref 458] (N, U, I, J, R) (some (.int (Int32.ofNat 2))) (N', U', I', J', R') := by
  show zW L 59 0 [some (.ref 3), some (.int x), some (.int y), some (.int z), some (.ref 458), none] [] _ _
  refine zx_al4 zd59_0 ?_
  refine zx_c zd59_2 ?_
  refine zx_al0 zd59_3 ?_
  refine zx_il1 zd59_4 ?_
  refine zx_il2 zd59_5 ?_
  refine zx_il3 zd59_6 ?_
  (refine zx_ct3v zd59_7 ?k132 (hr) ?_); (case k132 => exact zkk rfl (by omega))
  show zW L 59 19 [some (.ref 3), some (.int x), some (.int y), some (.int z), some (.ref 458), none] [.ref e] _ _
  refine zx_as5 zd59_19 rfl ?_
  refine zx_c zd59_21 ?_
  refine zx_iret zd59_22 (Or.inl rfl) ?_
  exact ⟨rfl, rfl⟩
theorem zh63 (hN : 459 ≤ N) (hN' : 459 ≤ N') {x : Int32} {v : Int32} (hr : zRet L 64 [.ref 3, .int x] (N, U, I, J, R) (some (.int v)) (N', U', I', J', R')) : zRet L 63 [.ref 3, .int x, .ref 458] (N, U, I, J, R) (some (.int (Int32.ofNat 0))) (N', U', I', zu J' 458 0 v.toInt64, R') := by
  show zW L 63 0 [some (.ref 3), some (.int x), some (.ref 458), none] [] _ _
  refine zx_al2 zd63_0 ?_
  refine zx_c zd63_1 ?_
  refine zx_al0 zd63_2 ?_
  refine zx_il1 zd63_3 ?_
  (refine zx_cv1I zd63_4 ?k140 (hr) ?_); (case k140 => exact zkk rfl (by omega))
  refine zx_i2l zd63_7 ?_
  (with_reducible refine' zx_lastN zd63_8 ?k142 ?j142 ?a142 ?_); (case k142 => exact zkk rfl (by omega)); (case j142 => omega); (case a142 => omega)
  refine zx_goto zd63_9 ?_
  refine zx_c zd63_15 ?_
  refine zx_iret zd63_16 (Or.inl rfl) ?_
  exact ⟨rfl, rfl⟩
theorem zh63_T1 (hN : 459 ≤ N) {x : Int32} {e : Nat} (hr : zThr L 64 [.ref 3, .int x] (N, U, I, J, R) (1, e) (N', U', I', J', R')) : zRet L 63 [.ref 3, .int x, .ref 458] (N, U, I, J, R) (some (.int (Int32.ofNat 1))) (N', U', I', J', R') := by
  show zW L 63 0 [some (.ref 3), some (.int x), some (.ref 458), none] [] _ _
  refine zx_al2 zd63_0 ?_
  refine zx_c zd63_1 ?_
  refine zx_al0 zd63_2 ?_
  refine zx_il1 zd63_3 ?_
  (refine zx_ct1v zd63_4 ?k150 (hr) ?_); (case k150 => exact zkk rfl (by omega))
  show zW L 63 12 [some (.ref 3), some (.int x), some (.ref 458), none] [.ref e] _ _
  refine zx_as3 zd63_12 rfl ?_
  refine zx_c zd63_13 ?_
  refine zx_iret zd63_14 (Or.inl rfl) ?_
  exact ⟨rfl, rfl⟩
theorem zh65 (hN : 459 ≤ N) (hN' : 459 ≤ N') {x : Int32} {v : Int32} (hr : zRet L 66 [.ref 3, .int x] (N, U, I, J, R) (some (.int v)) (N', U', I', J', R')) : zRet L 65 [.ref 3, .int x, .ref 458] (N, U, I, J, R) (some (.int (Int32.ofNat 0))) (N', U', I', zu J' 458 0 v.toInt64, R') := by
  show zW L 65 0 [some (.ref 3), some (.int x), some (.ref 458), none] [] _ _
  refine zx_al2 zd65_0 ?_
  refine zx_c zd65_1 ?_
  refine zx_al0 zd65_2 ?_
  refine zx_il1 zd65_3 ?_
  (refine zx_cv1I zd65_4 ?k158 (hr) ?_); (case k158 => exact zkk rfl (by omega))
  refine zx_i2l zd65_7 ?_
  (with_reducible refine' zx_lastN zd65_8 ?k160 ?j160 ?a160 ?_); (case k160 => exact zkk rfl (by omega)); (case j160 => omega); (case a160 => omega)
  refine zx_goto zd65_9 ?_
  refine zx_c zd65_15 ?_
  refine zx_iret zd65_16 (Or.inl rfl) ?_
  exact ⟨rfl, rfl⟩
theorem zh65_T1 (hN : 459 ≤ N) {x : Int32} {e : Nat} (hr : zThr L 66 [.ref 3, .int x] (N, U, I, J, R) (1, e) (N', U', I', J', R')) : zRet L 65 [.ref 3, .int x, .ref 458] (N, U, I, J, R) (some (.int (Int32.ofNat 1))) (N', U', I', J', R') := by
  show zW L 65 0 [some (.ref 3), some (.int x), some (.ref 458), none] [] _ _
  refine zx_al2 zd65_0 ?_
  refine zx_c zd65_1 ?_
  refine zx_al0 zd65_2 ?_
  refine zx_il1 zd65_3 ?_
  (refine zx_ct1v zd65_4 ?k168 (hr) ?_); (case k168 => exact zkk rfl (by omega))
  show zW L 65 12 [some (.ref 3), some (.int x), some (.ref 458), none] [.ref e] _ _
  refine zx_as3 zd65_12 rfl ?_
  refine zx_c zd65_13 ?_
  refine zx_iret zd65_14 (Or.inl rfl) ?_
  exact ⟨rfl, rfl⟩
theorem zh67 (hN : 459 ≤ N) (hN' : 459 ≤ N') {x y z : Int32} {v : Int32} (hr : zRet L 68 [.ref 3, .int x, .int y, .int z] (N, U, I, J, R) (some (.int v)) (N', U', I', J', R')) : zRet L 67 [.ref 3, .int x, .int y, .int z, .ref 458] (N, U, I, J, R) (some (.int (Int32.ofNat 0))) (N', U', I', zu J' 458 0 v.toInt64, R') := by
  show zW L 67 0 [some (.ref 3), some (.int x), some (.int y), some (.int z), some (.ref 458), none] [] _ _
  refine zx_al4 zd67_0 ?_
  refine zx_c zd67_2 ?_
  refine zx_al0 zd67_3 ?_
  refine zx_il1 zd67_4 ?_
  refine zx_il2 zd67_5 ?_
  refine zx_il3 zd67_6 ?_
  (refine zx_cv3I zd67_7 ?k178 (hr) ?_); (case k178 => exact zkk rfl (by omega))
  refine zx_i2l zd67_10 ?_
  (with_reducible refine' zx_lastN zd67_11 ?k180 ?j180 ?a180 ?_); (case k180 => exact zkk rfl (by omega)); (case j180 => omega); (case a180 => omega)
  refine zx_goto zd67_12 ?_
  refine zx_c zd67_19 ?_
  refine zx_iret zd67_20 (Or.inl rfl) ?_
  exact ⟨rfl, rfl⟩
theorem zh67_T1 (hN : 459 ≤ N) {x y z : Int32} {e : Nat} (hr : zThr L 68 [.ref 3, .int x, .int y, .int z] (N, U, I, J, R) (1, e) (N', U', I', J', R')) : zRet L 67 [.ref 3, .int x, .int y, .int z, .ref 458] (N, U, I, J, R) (some (.int (Int32.ofNat 1))) (N', U', I', J', R') := by
  show zW L 67 0 [some (.ref 3), some (.int x), some (.int y), some (.int z), some (.ref 458), none] [] _ _
  refine zx_al4 zd67_0 ?_
  refine zx_c zd67_2 ?_
  refine zx_al0 zd67_3 ?_
  refine zx_il1 zd67_4 ?_
  refine zx_il2 zd67_5 ?_
  refine zx_il3 zd67_6 ?_
  (refine zx_ct3v zd67_7 ?k190 (hr) ?_); (case k190 => exact zkk rfl (by omega))
  show zW L 67 15 [some (.ref 3), some (.int x), some (.int y), some (.int z), some (.ref 458), none] [.ref e] _ _
  refine zx_as5 zd67_15 rfl ?_
  refine zx_c zd67_17 ?_
  refine zx_iret zd67_18 (Or.inl rfl) ?_
  exact ⟨rfl, rfl⟩
theorem zh71 (hN : 459 ≤ N) (hN' : 459 ≤ N') {x y z : Int32} {v : Int32} (hr : zRet L 72 [.ref 3, .int x, .int y, .int z] (N, U, I, J, R) (some (.int v)) (N', U', I', J', R')) : zRet L 71 [.ref 3, .int x, .int y, .int z, .ref 458] (N, U, I, J, R) (some (.int (Int32.ofNat 0))) (N', U', I', zu J' 458 0 v.toInt64, R') := by
  show zW L 71 0 [some (.ref 3), some (.int x), some (.int y), some (.int z), some (.ref 458), none] [] _ _
  refine zx_al4 zd71_0 ?_
  refine zx_c zd71_2 ?_
  refine zx_al0 zd71_3 ?_
  refine zx_il1 zd71_4 ?_
  refine zx_il2 zd71_5 ?_
  refine zx_il3 zd71_6 ?_
  (refine zx_cv3I zd71_7 ?k200 (hr) ?_); (case k200 => exact zkk rfl (by omega))
  refine zx_i2l zd71_10 ?_
  (with_reducible refine' zx_lastN zd71_11 ?k202 ?j202 ?a202 ?_); (case k202 => exact zkk rfl (by omega)); (case j202 => omega); (case a202 => omega)
  refine zx_goto zd71_12 ?_
  refine zx_c zd71_19 ?_
  refine zx_iret zd71_20 (Or.inl rfl) ?_
  exact ⟨rfl, rfl⟩
theorem zh71_T1 (hN : 459 ≤ N) {x y z : Int32} {e : Nat} (hr : zThr L 72 [.ref 3, .int x, .int y, .int z] (N, U, I, J, R) (1, e) (N', U', I', J', R')) : zRet L 71 [.ref 3, .int x, .int y, .int z, .ref 458] (N, U, I, J, R) (some (.int (Int32.ofNat 1))) (N', U', I', J', R') := by
  show zW L 71 0 [some (.ref 3), some (.int x), some (.int y), some (.int z), some (.ref 458), none] [] _ _
  refine zx_al4 zd71_0 ?_
  refine zx_c zd71_2 ?_
  refine zx_al0 zd71_3 ?_
  refine zx_il1 zd71_4 ?_
  refine zx_il2 zd71_5 ?_
  refine zx_il3 zd71_6 ?_
  (refine zx_ct3v zd71_7 ?k212 (hr) ?_); (case k212 => exact zkk rfl (by omega))
  show zW L 71 15 [some (.ref 3), some (.int x), some (.int y), some (.int z), some (.ref 458), none] [.ref e] _ _
  refine zx_as5 zd71_15 rfl ?_
  refine zx_c zd71_17 ?_
  refine zx_iret zd71_18 (Or.inl rfl) ?_
  exact ⟨rfl, rfl⟩
theorem zh73 (hN : 459 ≤ N) (hN' : 459 ≤ N') {x y z : Int32} {v : Int32} (hr : zRet L 74 [.ref 3, .int x, .int y, .int z] (N, U, I, J, R) (some (.int v)) (N', U', I', J', R')) : zRet L 73 [.ref 3, .int x, .int y, .int z, .ref 458] (N, U, I, J, R) (some (.int (Int32.ofNat 0))) (N', U', I', zu J' 458 0 v.toInt64, R') := by
  show zW L 73 0 [some (.ref 3), some (.int x), some (.int y), some (.int z), some (.ref 458), none] [] _ _
  refine zx_al4 zd73_0 ?_
  refine zx_c zd73_2 ?_
  refine zx_al0 zd73_3 ?_
  refine zx_il1 zd73_4 ?_
  refine zx_il2 zd73_5 ?_
  refine zx_il3 zd73_6 ?_
  (refine zx_cv3I zd73_7 ?k222 (hr) ?_); (case k222 => exact zkk rfl (by omega))
  refine zx_i2l zd73_10 ?_
  (with_reducible refine' zx_lastN zd73_11 ?k224 ?j224 ?a224 ?_); (case k224 => exact zkk rfl (by omega)); (case j224 => omega); (case a224 => omega)
  refine zx_goto zd73_12 ?_
  refine zx_c zd73_19 ?_
  refine zx_iret zd73_20 (Or.inl rfl) ?_
  exact ⟨rfl, rfl⟩
theorem zh73_T1 (hN : 459 ≤ N) {x y z : Int32} {e : Nat} (hr : zThr L 74 [.ref 3, .int x, .int y, .int z] (N, U, I, J, R) (1, e) (N', U', I', J', R')) : zRet L 73 [.ref 3, .int x, .int y, .int z, .ref 458] (N, U, I, J, R) (some (.int (Int32.ofNat 1))) (N', U', I', J', R') := by
  show zW L 73 0 [some (.ref 3), some (.int x), some (.int y), some (.int z), some (.ref 458), none] [] _ _
  refine zx_al4 zd73_0 ?_
  refine zx_c zd73_2 ?_
  refine zx_al0 zd73_3 ?_
  refine zx_il1 zd73_4 ?_
  refine zx_il2 zd73_5 ?_
  refine zx_il3 zd73_6 ?_
  (refine zx_ct3v zd73_7 ?k234 (hr) ?_); (case k234 => exact zkk rfl (by omega))
  show zW L 73 15 [some (.ref 3), some (.int x), some (.int y), some (.int z), some (.ref 458), none] [.ref e] _ _
  refine zx_as5 zd73_15 rfl ?_
  refine zx_c zd73_17 ?_
  refine zx_iret zd73_18 (Or.inl rfl) ?_
  exact ⟨rfl, rfl⟩
theorem zh75_0 (hN : 459 ≤ N) (hN' : 459 ≤ N') {x y : Int32} (hr : zRet L 76 [.ref 3, .int x, .int y] (N, U, I, J, R) (some (.int (Int32.ofNat 0))) (N', U', I', J', R')) : zRet L 75 [.ref 3, .int x, .int y, .ref 458] (N, U, I, J, R) (some (.int (Int32.ofNat 0))) (N', U', I', zu J' 458 0 0, R') := by
  show zW L 75 0 [some (.ref 3), some (.int x), some (.int y), some (.ref 458), none] [] _ _
  refine zx_al3 zd75_0 ?_
  refine zx_c zd75_1 ?_
  refine zx_al0 zd75_2 ?_
  refine zx_il1 zd75_3 ?_
  refine zx_il2 zd75_4 ?_
  (refine zx_cv2I zd75_5 ?k243 (hr) ?_); (case k243 => exact zkk rfl (by omega))
  first | ((with_reducible refine zx_ifeqN zd75_8 ?s244 (fun h => ?_) (fun h => ?_)); (case s244 => omega)) | refine zx_ifeq zd75_8 (fun h => ?_) (fun h => ?_)
  · refine zx_C zd75_15 ?_
    (with_reducible refine' zx_lastN zd75_16 ?k246 ?j246 ?a246 ?_); (case k246 => exact zkk rfl (by omega)); (case j246 => omega); (case a246 => omega)
    refine zx_goto zd75_17 ?_
    refine zx_c zd75_24 ?_
    refine zx_iret zd75_25 (Or.inl rfl) ?_
    exact ⟨rfl, rfl⟩
  · omega
theorem zh75_1 (hN : 459 ≤ N) (hN' : 459 ≤ N') {x y : Int32} (hr : zRet L 76 [.ref 3, .int x, .int y] (N, U, I, J, R) (some (.int (Int32.ofNat 1))) (N', U', I', J', R')) : zRet L 75 [.ref 3, .int x, .int y, .ref 458] (N, U, I, J, R) (some (.int (Int32.ofNat 0))) (N', U', I', zu J' 458 0 1, R') := by
  show zW L 75 0 [some (.ref 3), some (.int x), some (.int y), some (.ref 458), none] [] _ _
  refine zx_al3 zd75_0 ?_
  refine zx_c zd75_1 ?_
  refine zx_al0 zd75_2 ?_
  refine zx_il1 zd75_3 ?_
  refine zx_il2 zd75_4 ?_
  (refine zx_cv2I zd75_5 ?k255 (hr) ?_); (case k255 => exact zkk rfl (by omega))
  first | ((with_reducible refine zx_ifeqN zd75_8 ?s256 (fun h => ?_) (fun h => ?_)); (case s256 => omega)) | refine zx_ifeq zd75_8 (fun h => ?_) (fun h => ?_)
  · omega
  · refine zx_C zd75_11 ?_
    refine zx_goto zd75_12 ?_
    (with_reducible refine' zx_lastN zd75_16 ?k259 ?j259 ?a259 ?_); (case k259 => exact zkk rfl (by omega)); (case j259 => omega); (case a259 => omega)
    refine zx_goto zd75_17 ?_
    refine zx_c zd75_24 ?_
    refine zx_iret zd75_25 (Or.inl rfl) ?_
    exact ⟨rfl, rfl⟩
theorem zh75_T1 (hN : 459 ≤ N) {x y : Int32} {e : Nat} (hr : zThr L 76 [.ref 3, .int x, .int y] (N, U, I, J, R) (1, e) (N', U', I', J', R')) : zRet L 75 [.ref 3, .int x, .int y, .ref 458] (N, U, I, J, R) (some (.int (Int32.ofNat 1))) (N', U', I', J', R') := by
  show zW L 75 0 [some (.ref 3), some (.int x), some (.int y), some (.ref 458), none] [] _ _
  refine zx_al3 zd75_0 ?_
  refine zx_c zd75_1 ?_
  refine zx_al0 zd75_2 ?_
  refine zx_il1 zd75_3 ?_
  refine zx_il2 zd75_4 ?_
  (refine zx_ct2v zd75_5 ?k268 (hr) ?_); (case k268 => exact zkk rfl (by omega))
  show zW L 75 20 [some (.ref 3), some (.int x), some (.int y), some (.ref 458), none] [.ref e] _ _
  refine zx_as4 zd75_20 rfl ?_
  refine zx_c zd75_22 ?_
  refine zx_iret zd75_23 (Or.inl rfl) ?_
  exact ⟨rfl, rfl⟩
theorem zh78 (hN : 459 ≤ N) (hN' : 459 ≤ N') {x y : Int32} {v : Int32} (hr : zRet L 79 [.ref 3, .int x, .int y] (N, U, I, J, R) (some (.int v)) (N', U', I', J', R')) : zRet L 78 [.ref 3, .int x, .int y, .ref 458] (N, U, I, J, R) (some (.int (Int32.ofNat 0))) (N', U', I', zu J' 458 0 v.toInt64, R') := by
  show zW L 78 0 [some (.ref 3), some (.int x), some (.int y), some (.ref 458), none] [] _ _
  refine zx_al3 zd78_0 ?_
  refine zx_c zd78_1 ?_
  refine zx_al0 zd78_2 ?_
  refine zx_il1 zd78_3 ?_
  refine zx_il2 zd78_4 ?_
  (refine zx_cv2I zd78_5 ?k277 (hr) ?_); (case k277 => exact zkk rfl (by omega))
  refine zx_i2l zd78_8 ?_
  (with_reducible refine' zx_lastN zd78_9 ?k279 ?j279 ?a279 ?_); (case k279 => exact zkk rfl (by omega)); (case j279 => omega); (case a279 => omega)
  refine zx_goto zd78_10 ?_
  refine zx_c zd78_17 ?_
  refine zx_iret zd78_18 (Or.inl rfl) ?_
  exact ⟨rfl, rfl⟩
theorem zh78_T1 (hN : 459 ≤ N) {x y : Int32} {e : Nat} (hr : zThr L 79 [.ref 3, .int x, .int y] (N, U, I, J, R) (1, e) (N', U', I', J', R')) : zRet L 78 [.ref 3, .int x, .int y, .ref 458] (N, U, I, J, R) (some (.int (Int32.ofNat 1))) (N', U', I', J', R') := by
  show zW L 78 0 [some (.ref 3), some (.int x), some (.int y), some (.ref 458), none] [] _ _
  refine zx_al3 zd78_0 ?_
  refine zx_c zd78_1 ?_
  refine zx_al0 zd78_2 ?_
  refine zx_il1 zd78_3 ?_
  refine zx_il2 zd78_4 ?_
  (refine zx_ct2v zd78_5 ?k288 (hr) ?_); (case k288 => exact zkk rfl (by omega))
  show zW L 78 13 [some (.ref 3), some (.int x), some (.int y), some (.ref 458), none] [.ref e] _ _
  refine zx_as4 zd78_13 rfl ?_
  refine zx_c zd78_15 ?_
  refine zx_iret zd78_16 (Or.inl rfl) ?_
  exact ⟨rfl, rfl⟩
end ZH
