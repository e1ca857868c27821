/-! THE LAW'S HELPERS -/
section ZH
variable {L N U N' U' : Nat} {I I' : zI} {J J' : zJ} {R R' : zR}
theorem zh38 (hN : 646 ≤ N) (hN' : 646 ≤ N') {x : Int32} {v : Int32} (hr : zRet L 39 [.ref 3, .int x] (N, U, I, J, R) (some (.int v)) (N', U', I', J', R')) : zRet L 38 [.ref 3, .int x, .ref 645] (N, U, I, J, R) (some (.int (Int32.ofNat 0))) (N', U', I', zu J' 645 0 v.toInt64, R') := by
  show zW L 38 0 [some (.ref 3), some (.int x), some (.ref 645), none] [] _ _
  refine zx_al2 zd38_0 ?_
  refine zx_c zd38_1 ?_
  refine zx_al0 zd38_2 ?_
  refine zx_il1 zd38_3 ?_
  (refine zx_cv1I zd38_4 ?k5 (hr) ?_); (case k5 => exact zkk rfl (by omega))
  refine zx_i2l zd38_7 ?_
  (with_reducible refine' zx_lastN zd38_8 ?k7 ?j7 ?a7 ?_); (case k7 => exact zkk rfl (by omega)); (case j7 => omega); (case a7 => omega)
  refine zx_goto zd38_9 ?_
  refine zx_c zd38_15 ?_
  refine zx_iret zd38_16 (Or.inl rfl) ?_
  exact ⟨rfl, rfl⟩
theorem zh38_T0 (hN : 646 ≤ N) {x : Int32} {e : Nat} (hr : zThr L 39 [.ref 3, .int x] (N, U, I, J, R) (0, e) (N', U', I', J', R')) : zRet L 38 [.ref 3, .int x, .ref 645] (N, U, I, J, R) (some (.int (Int32.ofNat 1))) (N', U', I', J', R') := by
  show zW L 38 0 [some (.ref 3), some (.int x), some (.ref 645), none] [] _ _
  refine zx_al2 zd38_0 ?_
  refine zx_c zd38_1 ?_
  refine zx_al0 zd38_2 ?_
  refine zx_il1 zd38_3 ?_
  (refine zx_ct1v zd38_4 ?k15 (hr) ?_); (case k15 => exact zkk rfl (by omega))
  show zW L 38 12 [some (.ref 3), some (.int x), some (.ref 645), none] [.ref e] _ _
  refine zx_as3 zd38_12 rfl ?_
  refine zx_c zd38_13 ?_
  refine zx_iret zd38_14 (Or.inl rfl) ?_
  exact ⟨rfl, rfl⟩
theorem zh42_0 (hN : 646 ≤ N) (hN' : 646 ≤ N') {x y : Int32} (hr : zRet L 43 [.ref 3, .int x, .int y] (N, U, I, J, R) (some (.int (Int32.ofNat 0))) (N', U', I', J', R')) : zRet L 42 [.ref 3, .int x, .int y, .ref 645] (N, U, I, J, R) (some (.int (Int32.ofNat 0))) (N', U', I', zu J' 645 0 0, R') := by
  show zW L 42 0 [some (.ref 3), some (.int x), some (.int y), some (.ref 645), none] [] _ _
  refine zx_al3 zd42_0 ?_
  refine zx_c zd42_1 ?_
  refine zx_al0 zd42_2 ?_
  refine zx_il1 zd42_3 ?_
  refine zx_il2 zd42_4 ?_
  (refine zx_cv2I zd42_5 ?k24 (hr) ?_); (case k24 => exact zkk rfl (by omega))
  first | ((with_reducible refine zx_ifeqN zd42_8 ?s25 (fun h => ?_) (fun h => ?_)); (case s25 => omega)) | refine zx_ifeq zd42_8 (fun h => ?_) (fun h => ?_)
  · refine zx_C zd42_15 ?_
    (with_reducible refine' zx_lastN zd42_16 ?k27 ?j27 ?a27 ?_); (case k27 => exact zkk rfl (by omega)); (case j27 => omega); (case a27 => omega)
    refine zx_goto zd42_17 ?_
    refine zx_c zd42_28 ?_
    refine zx_iret zd42_29 (Or.inl rfl) ?_
    exact ⟨rfl, rfl⟩
  · omega
theorem zh42_1 (hN : 646 ≤ N) (hN' : 646 ≤ N') {x y : Int32} (hr : zRet L 43 [.ref 3, .int x, .int y] (N, U, I, J, R) (some (.int (Int32.ofNat 1))) (N', U', I', J', R')) : zRet L 42 [.ref 3, .int x, .int y, .ref 645] (N, U, I, J, R) (some (.int (Int32.ofNat 0))) (N', U', I', zu J' 645 0 1, R') := by
  show zW L 42 0 [some (.ref 3), some (.int x), some (.int y), some (.ref 645), none] [] _ _
  refine zx_al3 zd42_0 ?_
  refine zx_c zd42_1 ?_
  refine zx_al0 zd42_2 ?_
  refine zx_il1 zd42_3 ?_
  refine zx_il2 zd42_4 ?_
  (refine zx_cv2I zd42_5 ?k36 (hr) ?_); (case k36 => exact zkk rfl (by omega))
  first | ((with_reducible refine zx_ifeqN zd42_8 ?s37 (fun h => ?_) (fun h => ?_)); (case s37 => omega)) | refine zx_ifeq zd42_8 (fun h => ?_) (fun h => ?_)
  · omega
  · refine zx_C zd42_11 ?_
    refine zx_goto zd42_12 ?_
    (with_reducible refine' zx_lastN zd42_16 ?k40 ?j40 ?a40 ?_); (case k40 => exact zkk rfl (by omega)); (case j40 => omega); (case a40 => omega)
    refine zx_goto zd42_17 ?_
    refine zx_c zd42_28 ?_
    refine zx_iret zd42_29 (Or.inl rfl) ?_
    exact ⟨rfl, rfl⟩
theorem zh42_T1 (hN : 646 ≤ N) {x y : Int32} {e : Nat} (hr : zThr L 43 [.ref 3, .int x, .int y] (N, U, I, J, R) (1, e) (N', U', I', J', R')) : zRet L 42 [.ref 3, .int x, .int y, .ref 645] (N, U, I, J, R) (some (.int (Int32.ofNat 1))) (N', U', I', J', R') := by
  show zW L 42 0 [some (.ref 3), some (.int x), some (.int y), some (.ref 645), none] [] _ _
  refine zx_al3 zd42_0 ?_
  refine zx_c zd42_1 ?_
  refine zx_al0 zd42_2 ?_
  refine zx_il1 zd42_3 ?_
  refine zx_il2 zd42_4 ?_
  (refine zx_ct2v zd42_5 ?k49 (hr) ?_); (case k49 => exact zkk rfl (by omega))
  show zW L 42 20 [some (.ref 3), some (.int x), some (.int y), some (.ref 645), none] [.ref e] _ _
  refine zx_as4 zd42_20 rfl ?_
  refine zx_c zd42_22 ?_
  refine zx_iret zd42_23 (Or.inl rfl) ?_
  exact ⟨rfl, rfl⟩
theorem zh42_T0 (hN : 646 ≤ N) {x y : Int32} {e : Nat} (hr : zThr L 43 [.ref 3, .int x, .int y] (N, U, I, J, R) (0, e) (N', U', I', J', R')) : zRet L 42 [.ref 3, .int x, .int y, .ref 645] (N, U, I, J, R) (some (.int (Int32.ofNat 2))) (N', U', I', J', R') := by
  show zW L 42 0 [some (.ref 3), some (.int x), some (.int y), some (.ref 645), none] [] _ _
  refine zx_al3 zd42_0 ?_
  refine zx_c zd42_1 ?_
  refine zx_al0 zd42_2 ?_
  refine zx_il1 zd42_3 ?_
  refine zx_il2 zd42_4 ?_
  (refine zx_ct2v zd42_5 ?k58 (hr) ?_); (case k58 => exact zkk rfl (by omega))
  show zW L 42 24 [some (.ref 3), some (.int x), some (.int y), some (.ref 645), none] [.ref e] _ _
  refine zx_as4 zd42_24 rfl ?_
  refine zx_c zd42_26 ?_
  refine zx_iret zd42_27 (Or.inl rfl) ?_
  exact ⟨rfl, rfl⟩
theorem zh46 (hN : 646 ≤ N) (hN' : 646 ≤ N') {x y : Int32} {v : Int32} (hr : zRet L 47 [.ref 3, .int x, .int y] (N, U, I, J, R) (some (.int v)) (N', U', I', J', R')) : zRet L 46 [.ref 3, .int x, .int y, .ref 645] (N, U, I, J, R) (some (.int (Int32.ofNat 0))) (N', U', I', zu J' 645 0 v.toInt64, R') := by
  show zW L 46 0 [some (.ref 3), some (.int x), some (.int y), some (.ref 645), none] [] _ _
  refine zx_al3 zd46_0 ?_
  refine zx_c zd46_1 ?_
  refine zx_al0 zd46_2 ?_
  refine zx_il1 zd46_3 ?_
  refine zx_il2 zd46_4 ?_
  (refine zx_cv2I zd46_5 ?k67 (hr) ?_); (case k67 => exact zkk rfl (by omega))
  refine zx_i2l zd46_8 ?_
  (with_reducible refine' zx_lastN zd46_9 ?k69 ?j69 ?a69 ?_); (case k69 => exact zkk rfl (by omega)); (case j69 => omega); (case a69 => omega)
  refine zx_goto zd46_10 ?_
  refine zx_c zd46_17 ?_
  refine zx_iret zd46_18 (Or.inl rfl) ?_
  exact ⟨rfl, rfl⟩
theorem zh46_T1 (hN : 646 ≤ N) {x y : Int32} {e : Nat} (hr : zThr L 47 [.ref 3, .int x, .int y] (N, U, I, J, R) (1, e) (N', U', I', J', R')) : zRet L 46 [.ref 3, .int x, .int y, .ref 645] (N, U, I, J, R) (some (.int (Int32.ofNat 1))) (N', U', I', J', R') := by
  show zW L 46 0 [some (.ref 3), some (.int x), some (.int y), some (.ref 645), none] [] _ _
  refine zx_al3 zd46_0 ?_
  refine zx_c zd46_1 ?_
  refine zx_al0 zd46_2 ?_
  refine zx_il1 zd46_3 ?_
  refine zx_il2 zd46_4 ?_
  (refine zx_ct2v zd46_5 ?k78 (hr) ?_); (case k78 => exact zkk rfl (by omega))
  show zW L 46 13 [some (.ref 3), some (.int x), some (.int y), some (.ref 645), none] [.ref e] _ _
  refine zx_as4 zd46_13 rfl ?_
  refine zx_c zd46_15 ?_
  refine zx_iret zd46_16 (Or.inl rfl) ?_
  exact ⟨rfl, rfl⟩
theorem zh50 (hN : 646 ≤ N) (hN' : 646 ≤ N') {x y z : Int32} {v : Int32} (hr : zRet L 51 [.ref 3, .int x, .int y, .int z] (N, U, I, J, R) (some (.int v)) (N', U', I', J', R')) : zRet L 50 [.ref 3, .int x, .int y, .int z, .ref 645] (N, U, I, J, R) (some (.int (Int32.ofNat 0))) (N', U', I', zu J' 645 0 v.toInt64, R') := by
  show zW L 50 0 [some (.ref 3), some (.int x), some (.int y), some (.int z), some (.ref 645), none] [] _ _
  refine zx_al4 zd50_0 ?_
  refine zx_c zd50_2 ?_
  refine zx_al0 zd50_3 ?_
  refine zx_il1 zd50_4 ?_
  refine zx_il2 zd50_5 ?_
  refine zx_il3 zd50_6 ?_
  (refine zx_cv3I zd50_7 ?k88 (hr) ?_); (case k88 => exact zkk rfl (by omega))
  refine zx_i2l zd50_10 ?_
  (with_reducible refine' zx_lastN zd50_11 ?k90 ?j90 ?a90 ?_); (case k90 => exact zkk rfl (by omega)); (case j90 => omega); (case a90 => omega)
  refine zx_goto zd50_12 ?_
  refine zx_c zd50_19 ?_
  refine zx_iret zd50_20 (Or.inl rfl) ?_
  exact ⟨rfl, rfl⟩
theorem zh50_T1 (hN : 646 ≤ N) {x y z : Int32} {e : Nat} (hr : zThr L 51 [.ref 3, .int x, .int y, .int z] (N, U, I, J, R) (1, e) (N', U', I', J', R')) : zRet L 50 [.ref 3, .int x, .int y, .int z, .ref 645] (N, U, I, J, R) (some (.int (Int32.ofNat 1))) (N', U', I', J', R') := by
  show zW L 50 0 [some (.ref 3), some (.int x), some (.int y), some (.int z), some (.ref 645), none] [] _ _
  refine zx_al4 zd50_0 ?_
  refine zx_c zd50_2 ?_
  refine zx_al0 zd50_3 ?_
  refine zx_il1 zd50_4 ?_
  refine zx_il2 zd50_5 ?_
  refine zx_il3 zd50_6 ?_
  (refine zx_ct3v zd50_7 ?k100 (hr) ?_); (case k100 => exact zkk rfl (by omega))
  show zW L 50 15 [some (.ref 3), some (.int x), some (.int y), some (.int z), some (.ref 645), none] [.ref e] _ _
  refine zx_as5 zd50_15 rfl ?_
  refine zx_c zd50_17 ?_
  refine zx_iret zd50_18 (Or.inl rfl) ?_
  exact ⟨rfl, rfl⟩
theorem zh58 (hN : 646 ≤ N) (hN' : 646 ≤ N') {x y z : Int32} {v : Int32} (hr : zRet L 59 [.ref 3, .int x, .int y, .int z] (N, U, I, J, R) (some (.int v)) (N', U', I', J', R')) : zRet L 58 [.ref 3, .int x, .int y, .int z, .ref 645] (N, U, I, J, R) (some (.int (Int32.ofNat 0))) (N', U', I', zu J' 645 0 v.toInt64, R') := by
  show zW L 58 0 [some (.ref 3), some (.int x), some (.int y), some (.int z), some (.ref 645), none] [] _ _
  refine zx_al4 zd58_0 ?_
  refine zx_c zd58_2 ?_
  refine zx_al0 zd58_3 ?_
  refine zx_il1 zd58_4 ?_
  refine zx_il2 zd58_5 ?_
  refine zx_il3 zd58_6 ?_
  (refine zx_cv3I zd58_7 ?k110 (hr) ?_); (case k110 => exact zkk rfl (by omega))
  refine zx_i2l zd58_10 ?_
  (with_reducible refine' zx_lastN zd58_11 ?k112 ?j112 ?a112 ?_); (case k112 => exact zkk rfl (by omega)); (case j112 => omega); (case a112 => omega)
  refine zx_goto zd58_12 ?_
  refine zx_c zd58_23 ?_
  refine zx_iret zd58_24 (Or.inl rfl) ?_
  exact ⟨rfl, rfl⟩
theorem zh58_T1 (hN : 646 ≤ N) {x y z : Int32} {e : Nat} (hr : zThr L 59 [.ref 3, .int x, .int y, .int z] (N, U, I, J, R) (1, e) (N', U', I', J', R')) : zRet L 58 [.ref 3, .int x, .int y, .int z, .ref 645] (N, U, I, J, R) (some (.int (Int32.ofNat 1))) (N', U', I', J', R') := by
  show zW L 58 0 [some (.ref 3), some (.int x), some (.int y), some (.int z), some (.ref 645), none] [] _ _
  refine zx_al4 zd58_0 ?_
  refine zx_c zd58_2 ?_
  refine zx_al0 zd58_3 ?_
  refine zx_il1 zd58_4 ?_
  refine zx_il2 zd58_5 ?_
  refine zx_il3 zd58_6 ?_
  (refine zx_ct3v zd58_7 ?k122 (hr) ?_); (case k122 => exact zkk rfl (by omega))
  show zW L 58 15 [some (.ref 3), some (.int x), some (.int y), some (.int z), some (.ref 645), none] [.ref e] _ _
  refine zx_as5 zd58_15 rfl ?_
  refine zx_c zd58_17 ?_
  refine zx_iret zd58_18 (Or.inl rfl) ?_
  exact ⟨rfl, rfl⟩
theorem zh58_T0 (hN : 646 ≤ N) {x y z : Int32} {e : Nat} (hr : zThr L 59 [.ref 3, .int x, .int y, .int z] (N, U, I, J, R) (0, e) (N', U', I', J', R')) : zRet L 58 [.ref 3, .int x, .int y, .int z, .ref 645] (N, U, I, J, R) (some (.int (Int32.ofNat 2))) (N', U', I', J', R') := by
  show zW L 58 0 [some (.ref 3), some (.int x), some (.int y), some (.int z), some (.ref 645), none] [] _ _
  refine zx_al4 zd58_0 ?_
  refine zx_c zd58_2 ?_
  refine zx_al0 zd58_3 ?_
  refine zx_il1 zd58_4 ?_
  refine zx_il2 zd58_5 ?_
  refine zx_il3 zd58_6 ?_
  (refine zx_ct3v zd58_7 ?k132 (hr) ?_); (case k132 => exact zkk rfl (by omega))
  show zW L 58 19 [some (.ref 3), some (.int x), some (.int y), some (.int z), some (.ref 645), none] [.ref e] _ _
  refine zx_as5 zd58_19 rfl ?_
  refine zx_c zd58_21 ?_
  refine zx_iret zd58_22 (Or.inl rfl) ?_
  exact ⟨rfl, rfl⟩
theorem zh62 (hN : 646 ≤ N) (hN' : 646 ≤ N') {x : Int32} {v : Int32} (hr : zRet L 63 [.ref 3, .int x] (N, U, I, J, R) (some (.int v)) (N', U', I', J', R')) : zRet L 62 [.ref 3, .int x, .ref 645] (N, U, I, J, R) (some (.int (Int32.ofNat 0))) (N', U', I', zu J' 645 0 v.toInt64, R') := by
  show zW L 62 0 [some (.ref 3), some (.int x), some (.ref 645), none] [] _ _
  refine zx_al2 zd62_0 ?_
  refine zx_c zd62_1 ?_
  refine zx_al0 zd62_2 ?_
  refine zx_il1 zd62_3 ?_
  (refine zx_cv1I zd62_4 ?k140 (hr) ?_); (case k140 => exact zkk rfl (by omega))
  refine zx_i2l zd62_7 ?_
  (with_reducible refine' zx_lastN zd62_8 ?k142 ?j142 ?a142 ?_); (case k142 => exact zkk rfl (by omega)); (case j142 => omega); (case a142 => omega)
  refine zx_goto zd62_9 ?_
  refine zx_c zd62_15 ?_
  refine zx_iret zd62_16 (Or.inl rfl) ?_
  exact ⟨rfl, rfl⟩
theorem zh62_T1 (hN : 646 ≤ N) {x : Int32} {e : Nat} (hr : zThr L 63 [.ref 3, .int x] (N, U, I, J, R) (1, e) (N', U', I', J', R')) : zRet L 62 [.ref 3, .int x, .ref 645] (N, U, I, J, R) (some (.int (Int32.ofNat 1))) (N', U', I', J', R') := by
  show zW L 62 0 [some (.ref 3), some (.int x), some (.ref 645), none] [] _ _
  refine zx_al2 zd62_0 ?_
  refine zx_c zd62_1 ?_
  refine zx_al0 zd62_2 ?_
  refine zx_il1 zd62_3 ?_
  (refine zx_ct1v zd62_4 ?k150 (hr) ?_); (case k150 => exact zkk rfl (by omega))
  show zW L 62 12 [some (.ref 3), some (.int x), some (.ref 645), none] [.ref e] _ _
  refine zx_as3 zd62_12 rfl ?_
  refine zx_c zd62_13 ?_
  refine zx_iret zd62_14 (Or.inl rfl) ?_
  exact ⟨rfl, rfl⟩
theorem zh64 (hN : 646 ≤ N) (hN' : 646 ≤ N') {x : Int32} {v : Int32} (hr : zRet L 65 [.ref 3, .int x] (N, U, I, J, R) (some (.int v)) (N', U', I', J', R')) : zRet L 64 [.ref 3, .int x, .ref 645] (N, U, I, J, R) (some (.int (Int32.ofNat 0))) (N', U', I', zu J' 645 0 v.toInt64, R') := by
  show zW L 64 0 [some (.ref 3), some (.int x), some (.ref 645), none] [] _ _
  refine zx_al2 zd64_0 ?_
  refine zx_c zd64_1 ?_
  refine zx_al0 zd64_2 ?_
  refine zx_il1 zd64_3 ?_
  (refine zx_cv1I zd64_4 ?k158 (hr) ?_); (case k158 => exact zkk rfl (by omega))
  refine zx_i2l zd64_7 ?_
  (with_reducible refine' zx_lastN zd64_8 ?k160 ?j160 ?a160 ?_); (case k160 => exact zkk rfl (by omega)); (case j160 => omega); (case a160 => omega)
  refine zx_goto zd64_9 ?_
  refine zx_c zd64_15 ?_
  refine zx_iret zd64_16 (Or.inl rfl) ?_
  exact ⟨rfl, rfl⟩
theorem zh64_T1 (hN : 646 ≤ N) {x : Int32} {e : Nat} (hr : zThr L 65 [.ref 3, .int x] (N, U, I, J, R) (1, e) (N', U', I', J', R')) : zRet L 64 [.ref 3, .int x, .ref 645] (N, U, I, J, R) (some (.int (Int32.ofNat 1))) (N', U', I', J', R') := by
  show zW L 64 0 [some (.ref 3), some (.int x), some (.ref 645), none] [] _ _
  refine zx_al2 zd64_0 ?_
  refine zx_c zd64_1 ?_
  refine zx_al0 zd64_2 ?_
  refine zx_il1 zd64_3 ?_
  (refine zx_ct1v zd64_4 ?k168 (hr) ?_); (case k168 => exact zkk rfl (by omega))
  show zW L 64 12 [some (.ref 3), some (.int x), some (.ref 645), none] [.ref e] _ _
  refine zx_as3 zd64_12 rfl ?_
  refine zx_c zd64_13 ?_
  refine zx_iret zd64_14 (Or.inl rfl) ?_
  exact ⟨rfl, rfl⟩
theorem zh66 (hN : 646 ≤ N) (hN' : 646 ≤ N') {x y z : Int32} {v : Int32} (hr : zRet L 67 [.ref 3, .int x, .int y, .int z] (N, U, I, J, R) (some (.int v)) (N', U', I', J', R')) : zRet L 66 [.ref 3, .int x, .int y, .int z, .ref 645] (N, U, I, J, R) (some (.int (Int32.ofNat 0))) (N', U', I', zu J' 645 0 v.toInt64, R') := by
  show zW L 66 0 [some (.ref 3), some (.int x), some (.int y), some (.int z), some (.ref 645), none] [] _ _
  refine zx_al4 zd66_0 ?_
  refine zx_c zd66_2 ?_
  refine zx_al0 zd66_3 ?_
  refine zx_il1 zd66_4 ?_
  refine zx_il2 zd66_5 ?_
  refine zx_il3 zd66_6 ?_
  (refine zx_cv3I zd66_7 ?k178 (hr) ?_); (case k178 => exact zkk rfl (by omega))
  refine zx_i2l zd66_10 ?_
  (with_reducible refine' zx_lastN zd66_11 ?k180 ?j180 ?a180 ?_); (case k180 => exact zkk rfl (by omega)); (case j180 => omega); (case a180 => omega)
  refine zx_goto zd66_12 ?_
  refine zx_c zd66_19 ?_
  refine zx_iret zd66_20 (Or.inl rfl) ?_
  exact ⟨rfl, rfl⟩
theorem zh66_T1 (hN : 646 ≤ N) {x y z : Int32} {e : Nat} (hr : zThr L 67 [.ref 3, .int x, .int y, .int z] (N, U, I, J, R) (1, e) (N', U', I', J', R')) : zRet L 66 [.ref 3, .int x, .int y, .int z, .ref 645] (N, U, I, J, R) (some (.int (Int32.ofNat 1))) (N', U', I', J', R') := by
  show zW L 66 0 [some (.ref 3), some (.int x), some (.int y), some (.int z), some (.ref 645), none] [] _ _
  refine zx_al4 zd66_0 ?_
  refine zx_c zd66_2 ?_
  refine zx_al0 zd66_3 ?_
  refine zx_il1 zd66_4 ?_
  refine zx_il2 zd66_5 ?_
  refine zx_il3 zd66_6 ?_
  (refine zx_ct3v zd66_7 ?k190 (hr) ?_); (case k190 => exact zkk rfl (by omega))
  show zW L 66 15 [some (.ref 3), some (.int x), some (.int y), some (.int z), some (.ref 645), none] [.ref e] _ _
  refine zx_as5 zd66_15 rfl ?_
  refine zx_c zd66_17 ?_
  refine zx_iret zd66_18 (Or.inl rfl) ?_
  exact ⟨rfl, rfl⟩
theorem zh70 (hN : 646 ≤ N) (hN' : 646 ≤ N') {x y z : Int32} {v : Int32} (hr : zRet L 71 [.ref 3, .int x, .int y, .int z] (N, U, I, J, R) (some (.int v)) (N', U', I', J', R')) : zRet L 70 [.ref 3, .int x, .int y, .int z, .ref 645] (N, U, I, J, R) (some (.int (Int32.ofNat 0))) (N', U', I', zu J' 645 0 v.toInt64, R') := by
  show zW L 70 0 [some (.ref 3), some (.int x), some (.int y), some (.int z), some (.ref 645), none] [] _ _
  refine zx_al4 zd70_0 ?_
  refine zx_c zd70_2 ?_
  refine zx_al0 zd70_3 ?_
  refine zx_il1 zd70_4 ?_
  refine zx_il2 zd70_5 ?_
  refine zx_il3 zd70_6 ?_
  (refine zx_cv3I zd70_7 ?k200 (hr) ?_); (case k200 => exact zkk rfl (by omega))
  refine zx_i2l zd70_10 ?_
  (with_reducible refine' zx_lastN zd70_11 ?k202 ?j202 ?a202 ?_); (case k202 => exact zkk rfl (by omega)); (case j202 => omega); (case a202 => omega)
  refine zx_goto zd70_12 ?_
  refine zx_c zd70_19 ?_
  refine zx_iret zd70_20 (Or.inl rfl) ?_
  exact ⟨rfl, rfl⟩
theorem zh70_T1 (hN : 646 ≤ N) {x y z : Int32} {e : Nat} (hr : zThr L 71 [.ref 3, .int x, .int y, .int z] (N, U, I, J, R) (1, e) (N', U', I', J', R')) : zRet L 70 [.ref 3, .int x, .int y, .int z, .ref 645] (N, U, I, J, R) (some (.int (Int32.ofNat 1))) (N', U', I', J', R') := by
  show zW L 70 0 [some (.ref 3), some (.int x), some (.int y), some (.int z), some (.ref 645), none] [] _ _
  refine zx_al4 zd70_0 ?_
  refine zx_c zd70_2 ?_
  refine zx_al0 zd70_3 ?_
  refine zx_il1 zd70_4 ?_
  refine zx_il2 zd70_5 ?_
  refine zx_il3 zd70_6 ?_
  (refine zx_ct3v zd70_7 ?k212 (hr) ?_); (case k212 => exact zkk rfl (by omega))
  show zW L 70 15 [some (.ref 3), some (.int x), some (.int y), some (.int z), some (.ref 645), none] [.ref e] _ _
  refine zx_as5 zd70_15 rfl ?_
  refine zx_c zd70_17 ?_
  refine zx_iret zd70_18 (Or.inl rfl) ?_
  exact ⟨rfl, rfl⟩
theorem zh72 (hN : 646 ≤ N) (hN' : 646 ≤ N') {x y z : Int32} {v : Int32} (hr : zRet L 73 [.ref 3, .int x, .int y, .int z] (N, U, I, J, R) (some (.int v)) (N', U', I', J', R')) : zRet L 72 [.ref 3, .int x, .int y, .int z, .ref 645] (N, U, I, J, R) (some (.int (Int32.ofNat 0))) (N', U', I', zu J' 645 0 v.toInt64, R') := by
  show zW L 72 0 [some (.ref 3), some (.int x), some (.int y), some (.int z), some (.ref 645), none] [] _ _
  refine zx_al4 zd72_0 ?_
  refine zx_c zd72_2 ?_
  refine zx_al0 zd72_3 ?_
  refine zx_il1 zd72_4 ?_
  refine zx_il2 zd72_5 ?_
  refine zx_il3 zd72_6 ?_
  (refine zx_cv3I zd72_7 ?k222 (hr) ?_); (case k222 => exact zkk rfl (by omega))
  refine zx_i2l zd72_10 ?_
  (with_reducible refine' zx_lastN zd72_11 ?k224 ?j224 ?a224 ?_); (case k224 => exact zkk rfl (by omega)); (case j224 => omega); (case a224 => omega)
  refine zx_goto zd72_12 ?_
  refine zx_c zd72_19 ?_
  refine zx_iret zd72_20 (Or.inl rfl) ?_
  exact ⟨rfl, rfl⟩
theorem zh72_T1 (hN : 646 ≤ N) {x y z : Int32} {e : Nat} (hr : zThr L 73 [.ref 3, .int x, .int y, .int z] (N, U, I, J, R) (1, e) (N', U', I', J', R')) : zRet L 72 [.ref 3, .int x, .int y, .int z, .ref 645] (N, U, I, J, R) (some (.int (Int32.ofNat 1))) (N', U', I', J', R') := by
  show zW L 72 0 [some (.ref 3), some (.int x), some (.int y), some (.int z), some (.ref 645), none] [] _ _
  refine zx_al4 zd72_0 ?_
  refine zx_c zd72_2 ?_
  refine zx_al0 zd72_3 ?_
  refine zx_il1 zd72_4 ?_
  refine zx_il2 zd72_5 ?_
  refine zx_il3 zd72_6 ?_
  (refine zx_ct3v zd72_7 ?k234 (hr) ?_); (case k234 => exact zkk rfl (by omega))
  show zW L 72 15 [some (.ref 3), some (.int x), some (.int y), some (.int z), some (.ref 645), none] [.ref e] _ _
  refine zx_as5 zd72_15 rfl ?_
  refine zx_c zd72_17 ?_
  refine zx_iret zd72_18 (Or.inl rfl) ?_
  exact ⟨rfl, rfl⟩
theorem zh74_0 (hN : 646 ≤ N) (hN' : 646 ≤ N') {x y : Int32} (hr : zRet L 75 [.ref 3, .int x, .int y] (N, U, I, J, R) (some (.int (Int32.ofNat 0))) (N', U', I', J', R')) : zRet L 74 [.ref 3, .int x, .int y, .ref 645] (N, U, I, J, R) (some (.int (Int32.ofNat 0))) (N', U', I', zu J' 645 0 0, R') := by
  show zW L 74 0 [some (.ref 3), some (.int x), some (.int y), some (.ref 645), none] [] _ _
  refine zx_al3 zd74_0 ?_
  refine zx_c zd74_1 ?_
  refine zx_al0 zd74_2 ?_
  refine zx_il1 zd74_3 ?_
  refine zx_il2 zd74_4 ?_
  (refine zx_cv2I zd74_5 ?k243 (hr) ?_); (case k243 => exact zkk rfl (by omega))
  first | ((with_reducible refine zx_ifeqN zd74_8 ?s244 (fun h => ?_) (fun h => ?_)); (case s244 => omega)) | refine zx_ifeq zd74_8 (fun h => ?_) (fun h => ?_)
  · refine zx_C zd74_15 ?_
    (with_reducible refine' zx_lastN zd74_16 ?k246 ?j246 ?a246 ?_); (case k246 => exact zkk rfl (by omega)); (case j246 => omega); (case a246 => omega)
    refine zx_goto zd74_17 ?_
    refine zx_c zd74_24 ?_
    refine zx_iret zd74_25 (Or.inl rfl) ?_
    exact ⟨rfl, rfl⟩
  · omega
theorem zh74_1 (hN : 646 ≤ N) (hN' : 646 ≤ N') {x y : Int32} (hr : zRet L 75 [.ref 3, .int x, .int y] (N, U, I, J, R) (some (.int (Int32.ofNat 1))) (N', U', I', J', R')) : zRet L 74 [.ref 3, .int x, .int y, .ref 645] (N, U, I, J, R) (some (.int (Int32.ofNat 0))) (N', U', I', zu J' 645 0 1, R') := by
  show zW L 74 0 [some (.ref 3), some (.int x), some (.int y), some (.ref 645), none] [] _ _
  refine zx_al3 zd74_0 ?_
  refine zx_c zd74_1 ?_
  refine zx_al0 zd74_2 ?_
  refine zx_il1 zd74_3 ?_
  refine zx_il2 zd74_4 ?_
  (refine zx_cv2I zd74_5 ?k255 (hr) ?_); (case k255 => exact zkk rfl (by omega))
  first | ((with_reducible refine zx_ifeqN zd74_8 ?s256 (fun h => ?_) (fun h => ?_)); (case s256 => omega)) | refine zx_ifeq zd74_8 (fun h => ?_) (fun h => ?_)
  · omega
  · refine zx_C zd74_11 ?_
    refine zx_goto zd74_12 ?_
    (with_reducible refine' zx_lastN zd74_16 ?k259 ?j259 ?a259 ?_); (case k259 => exact zkk rfl (by omega)); (case j259 => omega); (case a259 => omega)
    refine zx_goto zd74_17 ?_
    refine zx_c zd74_24 ?_
    refine zx_iret zd74_25 (Or.inl rfl) ?_
    exact ⟨rfl, rfl⟩
theorem zh74_T1 (hN : 646 ≤ N) {x y : Int32} {e : Nat} (hr : zThr L 75 [.ref 3, .int x, .int y] (N, U, I, J, R) (1, e) (N', U', I', J', R')) : zRet L 74 [.ref 3, .int x, .int y, .ref 645] (N, U, I, J, R) (some (.int (Int32.ofNat 1))) (N', U', I', J', R') := by
  show zW L 74 0 [some (.ref 3), some (.int x), some (.int y), some (.ref 645), none] [] _ _
  refine zx_al3 zd74_0 ?_
  refine zx_c zd74_1 ?_
  refine zx_al0 zd74_2 ?_
  refine zx_il1 zd74_3 ?_
  refine zx_il2 zd74_4 ?_
  (refine zx_ct2v zd74_5 ?k268 (hr) ?_); (case k268 => exact zkk rfl (by omega))
  show zW L 74 20 [some (.ref 3), some (.int x), some (.int y), some (.ref 645), none] [.ref e] _ _
  refine zx_as4 zd74_20 rfl ?_
  refine zx_c zd74_22 ?_
  refine zx_iret zd74_23 (Or.inl rfl) ?_
  exact ⟨rfl, rfl⟩
theorem zh77 (hN : 646 ≤ N) (hN' : 646 ≤ N') {x y : Int32} {v : Int32} (hr : zRet L 78 [.ref 3, .int x, .int y] (N, U, I, J, R) (some (.int v)) (N', U', I', J', R')) : zRet L 77 [.ref 3, .int x, .int y, .ref 645] (N, U, I, J, R) (some (.int (Int32.ofNat 0))) (N', U', I', zu J' 645 0 v.toInt64, R') := by
  show zW L 77 0 [some (.ref 3), some (.int x), some (.int y), some (.ref 645), none] [] _ _
  refine zx_al3 zd77_0 ?_
  refine zx_c zd77_1 ?_
  refine zx_al0 zd77_2 ?_
  refine zx_il1 zd77_3 ?_
  refine zx_il2 zd77_4 ?_
  (refine zx_cv2I zd77_5 ?k277 (hr) ?_); (case k277 => exact zkk rfl (by omega))
  refine zx_i2l zd77_8 ?_
  (with_reducible refine' zx_lastN zd77_9 ?k279 ?j279 ?a279 ?_); (case k279 => exact zkk rfl (by omega)); (case j279 => omega); (case a279 => omega)
  refine zx_goto zd77_10 ?_
  refine zx_c zd77_17 ?_
  refine zx_iret zd77_18 (Or.inl rfl) ?_
  exact ⟨rfl, rfl⟩
theorem zh77_T1 (hN : 646 ≤ N) {x y : Int32} {e : Nat} (hr : zThr L 78 [.ref 3, .int x, .int y] (N, U, I, J, R) (1, e) (N', U', I', J', R')) : zRet L 77 [.ref 3, .int x, .int y, .ref 645] (N, U, I, J, R) (some (.int (Int32.ofNat 1))) (N', U', I', J', R') := by
  show zW L 77 0 [some (.ref 3), some (.int x), some (.int y), some (.ref 645), none] [] _ _
  refine zx_al3 zd77_0 ?_
  refine zx_c zd77_1 ?_
  refine zx_al0 zd77_2 ?_
  refine zx_il1 zd77_3 ?_
  refine zx_il2 zd77_4 ?_
  (refine zx_ct2v zd77_5 ?k288 (hr) ?_); (case k288 => exact zkk rfl (by omega))
  show zW L 77 13 [some (.ref 3), some (.int x), some (.int y), some (.ref 645), none] [.ref e] _ _
  refine zx_as4 zd77_13 rfl ?_
  refine zx_c zd77_15 ?_
  refine zx_iret zd77_16 (Or.inl rfl) ?_
  exact ⟨rfl, rfl⟩
end ZH
