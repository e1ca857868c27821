/-! THE REFERENCES that stand once all is made -/
/-- where a row of a tree begins, and how many places it has -/
def zq (k : Nat) : Nat := 16 - 16 >>> k
def zcp (k : Nat) : Nat := 8 >>> k
theorem zq_f {k : Nat} (hk : k < 4) : zq k + zcp k ≤ 15 ∧ 1 ≤ zcp k ∧ zcp k ≤ 8 := by
  have h : ∀ a : Fin 4, zq a.val + zcp a.val ≤ 15 ∧ 1 ≤ zcp a.val ∧ zcp a.val ≤ 8 := by decide
  exact h ⟨k, hk⟩
theorem zq_s {k : Nat} (hk : k < 3) : zq (k + 1) = zq k + zcp k ∧ zcp k = 2 * zcp (k + 1) := by
  have h : ∀ a : Fin 3, zq (a.val + 1) = zq a.val + zcp a.val ∧ zcp a.val = 2 * zcp (a.val + 1) := by decide
  exact h ⟨k, hk⟩
theorem zq_m {j k : Nat} (hj : j < k) (hk : k < 4) : zq j + zcp j ≤ zq k := by
  have h : ∀ a b : Fin 4, a.val < b.val → zq a.val + zcp a.val ≤ zq b.val := by decide
  exact h ⟨j, by omega⟩ ⟨k, hk⟩ hj
def zRm (a f : Nat) : Option Nat := match a, f with
  | 3, 0 => some 4 | 3, 1 => some 7 | 3, 3 => some 415 | 3, 5 => some 427 | 3, 7 => some 428 | 3, 8 => some 433 | 3, 9 => some 435
  | 4, 0 => some 5 | 4, 1 => some 6
  | 428, 0 => some 429 | 428, 1 => some 430 | 428, 2 => some 431 | 428, 3 => some 432
  | 433, 0 => some 434
  | 436, 1 => some 437 | 436, 3 => some 438 | 436, 4 => some 439 | 436, 5 => some 440 | 436, 6 => some 441 | 436, 7 => some 442 | 436, 9 => some 443 | 436, 10 => some 444 | 436, 11 => some 445 | 436, 12 => some 446
  | 436, 13 => some 447 | 436, 14 => some 448 | 436, 16 => some 449 | 436, 18 => some 450 | 436, 19 => some 451 | 436, 20 => some 452 | 436, 23 => some 453 | 436, 25 => some 454 | 436, 26 => some 455 | 436, 27 => some 456 | 436, 28 => some 457
  | _, _ => none
/-- what stands of the references: the single objects', the releases', the rows of the trees, the lists -/
def zRs (R : zR) : Prop :=
  (∀ a f b, zRm a f = some b → R a f = some b) ∧ (∀ r, r < 11 → R 7 r = some (8 + 37 * r)) ∧ (∀ k, k < 11 → R 415 k = some (416 + k)) ∧
  (∀ r, r < 11 → (R (8 + 37 * r) 0 = some (8 + 37 * r + 1) ∧ R (8 + 37 * r) 2 = some (8 + 37 * r + 2) ∧ R (8 + 37 * r) 3 = some (8 + 37 * r + 20)) ∧ (R (8 + 37 * r + 2) 0 = some (8 + 37 * r + 3) ∧ R (8 + 37 * r + 2) 1 = some (8 + 37 * r + 19)) ∧
    (∀ q, q < 15 → R (8 + 37 * r + 3) q = some (8 + 37 * r + 4 + q)) ∧ ∀ j, j < 8 → R (8 + 37 * r + 21 + 2 * j) 1 = some (8 + 37 * r + 22 + 2 * j))
