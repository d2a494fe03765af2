-- X2_rounds
def wp_X2_rounds_4 (post : Int → Prop) : Nat → Int → Int → Int → Prop
  | 0, _, _, _ => False
  | fu + 1, v0, v1, v2 => (rg v2 ∧ rg v0 ∧ (v0 < v2 → (post v1)) ∧ (¬ v0 < v2 → (wp_X2_rounds_4 post fu v0 (bor v1 (bsl v2 (4 * (v2 - 1)))) (v2 + 1))))
def wp_X2_rounds (v0 : Int) (post : Int → Prop) : Prop := (∃ n : Nat, wp_X2_rounds_4 post n v0 0 1)
-- X2_bellIn
def wp_X2_bellIn (v0 v1 : Int) (post : Int → Prop) : Prop := (post (bnd (bur v0 (4 * (v1 - 1))) 15))
-- X2_placeOf
def wp_X2_placeOf_2 (post : Int → Prop) : Nat → Int → Int → Int → Prop
  | 0, _, _, _ => False
  | fu + 1, v0, v1, v2 => (rg v2 ∧ (8 < v2 → (post 0)) ∧ (¬ 8 < v2 → (wp_X2_bellIn v0 v2 (fun r1 => (rg r1 ∧ rg v1 ∧ (¬ r1 = v1 → (wp_X2_placeOf_2 post fu v0 v1 (v2 + 1))) ∧ (r1 = v1 → (post v2)))))))
def wp_X2_placeOf (v0 v1 : Int) (post : Int → Prop) : Prop := (∃ n : Nat, wp_X2_placeOf_2 post n v0 v1 1)
-- X2_isRightAhead
def wp_X2_isRightAhead (v0 v1 v2 : Int) (post : Int → Prop) : Prop := (wp_X2_placeOf v0 v1 (fun r1 => (wp_X2_placeOf v0 v2 (fun r2 => (rg (r1 + 1) ∧ rg r2 ∧ (¬ (r1 + 1) = r2 → (post 0)) ∧ ((r1 + 1) = r2 → (post 1)))))))
-- X2_isKept
def wp_X2_isKept (v0 v1 : Int) (post : Int → Prop) : Prop := (rg (bnd (bsr v0 v1) 1) ∧ ((bnd (bsr v0 v1) 1) = 0 → (post 0)) ∧ (¬ (bnd (bsr v0 v1) 1) = 0 → (post 1)))
-- X2_pairs
def wp_X2_pairs_16 (post : Int → Prop) : Nat → Int → Int → Int → Int → Prop
  | 0, _, _, _, _ => False
  | fu + 1, v0, v1, v2, v3 => (rg v3 ∧ rg v0 ∧ (v0 ≤ v3 → (post v2)) ∧ (¬ v0 ≤ v3 → (wp_X2_isKept v1 v3 (fun r1 => (rg r1 ∧ (r1 = 0 → (rg (v3 + 1) ∧ rg v0 ∧ (v0 ≤ (v3 + 1) → (post (-1))) ∧ (¬ v0 ≤ (v3 + 1) → (wp_X2_isKept v1 (v3 + 1) (fun r2 => (rg r2 ∧ (r2 = 0 → (wp_X2_pairs_16 post fu v0 v1 (bor v2 (bsl 15 (4 * v3))) (v3 + 2))) ∧ (¬ r2 = 0 → (post (-1))))))))) ∧ (¬ r1 = 0 → (wp_X2_pairs_16 post fu v0 v1 v2 (v3 + 1))))))))
def wp_X2_pairs (v0 v1 : Int) (post : Int → Prop) : Prop := (rg v1 ∧ (v1 < 0 → (post (-1))) ∧ (¬ v1 < 0 → (rg (bsr v1 v0) ∧ ((bsr v1 v0) = 0 → (∃ n : Nat, wp_X2_pairs_16 post n v0 v1 0 0)) ∧ (¬ (bsr v1 v0) = 0 → (post (-1))))))
-- X2_isGood
def wp_X2_isGood (v0 v1 : Int) (post : Int → Prop) : Prop := (wp_X2_pairs v0 v1 (fun r1 => (rg r1 ∧ (r1 = (-1) → (post 0)) ∧ (¬ r1 = (-1) → (post 1)))))
-- X2_swapped
def wp_X2_swapped (v0 v1 : Int) (post : Int → Prop) : Prop := (post (bor (bor (bnd v0 (bxr (bor v1 (bsl v1 4)) (-1))) (bsl (bnd v0 v1) 4)) (bnd (bur v0 4) v1)))
