/-! THE REFERENCES that stand once all is made -/
def zRm (a f : Nat) : Option Nat := match a, f with
  | 3, 0 => some 4 | 3, 1 => some 7 | 3, 3 => some 602 | 3, 5 => some 614 | 3, 7 => some 615 | 3, 8 => some 620 | 3, 9 => some 622
  | 4, 0 => some 5 | 4, 1 => some 6
  | 615, 0 => some 616 | 615, 1 => some 617 | 615, 2 => some 618 | 615, 3 => some 619
  | 620, 0 => some 621
  | 623, 1 => some 624 | 623, 3 => some 625 | 623, 4 => some 626 | 623, 5 => some 627 | 623, 6 => some 628 | 623, 7 => some 629 | 623, 9 => some 630 | 623, 10 => some 631 | 623, 11 => some 632 | 623, 12 => some 633
  | 623, 13 => some 634 | 623, 14 => some 635 | 623, 16 => some 636 | 623, 18 => some 637 | 623, 19 => some 638 | 623, 20 => some 639 | 623, 23 => some 640 | 623, 25 => some 641 | 623, 26 => some 642 | 623, 27 => some 643 | 623, 28 => some 644
  | _, _ => none
/-- what stands of the references: the single objects', the releases', the rows of the trees, the lists -/
def zRs (R : zR) : Prop :=
  (∀ a f b, zRm a f = some b → R a f = some b) ∧ (∀ r, r < 11 → R 7 r = some (8 + 54 * r)) ∧ (∀ k, k < 11 → R 602 k = some (603 + k)) ∧
  (∀ r, r < 11 → (R (8 + 54 * r) 0 = some (8 + 54 * r + 1) ∧ R (8 + 54 * r) 2 = some (8 + 54 * r + 2) ∧ R (8 + 54 * r) 3 = some (8 + 54 * r + 37)) ∧ (R (8 + 54 * r + 2) 0 = some (8 + 54 * r + 3) ∧ R (8 + 54 * r + 2) 1 = some (8 + 54 * r + 36)) ∧
    (∀ q, q < 32 → R (8 + 54 * r + 3) q = some (8 + 54 * r + 4 + q)) ∧ ∀ j, j < 8 → R (8 + 54 * r + 38 + 2 * j) 1 = some (8 + 54 * r + 39 + 2 * j))
