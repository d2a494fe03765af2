-- X3_start
def wp_X3_start (v0 : Int) (post : Int → Prop) : Prop := (post (bur (v0 * (-1640531535)) 23))
-- X3_enter
def wp_X3_enter_10 (post : Int → St → Prop) : Nat → Int → Int → Int → St → Prop
  | 0, _, _, _, _ => False
  | fu + 1, v2, v3, v4, σ => (rg v4 ∧ (512 ≤ v4 → (post v2 σ)) ∧ (¬ 512 ≤ v4 → (0 ≤ (bnd (v3 + v4) 511) ∧ (bnd (v3 + v4) 511) < 512 ∧ (rg ((σ 1 (bnd (v3 + v4) 511)) - 1) ∧ (0 ≤ ((σ 1 (bnd (v3 + v4) 511)) - 1) → (0 ≤ ((σ 1 (bnd (v3 + v4) 511)) - 1) ∧ ((σ 1 (bnd (v3 + v4) 511)) - 1) < 193 ∧ (0 ≤ v2 ∧ v2 < 193 ∧ (rg (σ 2 ((σ 1 (bnd (v3 + v4) 511)) - 1)) ∧ rg (σ 2 v2) ∧ (¬ (σ 2 ((σ 1 (bnd (v3 + v4) 511)) - 1)) = (σ 2 v2) → (wp_X3_enter_10 post fu v2 v3 (v4 + 1) σ)) ∧ ((σ 2 ((σ 1 (bnd (v3 + v4) 511)) - 1)) = (σ 2 v2) → (post ((σ 1 (bnd (v3 + v4) 511)) - 1) σ)))))) ∧ (¬ 0 ≤ ((σ 1 (bnd (v3 + v4) 511)) - 1) → (0 ≤ (bnd (v3 + v4) 511) ∧ (bnd (v3 + v4) 511) < 512 ∧ ∀ σ1 : St, σ1 = up σ 1 (bnd (v3 + v4) 511) (v2 + 1) → (post v2 σ1)))))))
def wp_X3_enter (σ : St) (v2 : Int) (post : Int → St → Prop) : Prop := (0 ≤ v2 ∧ v2 < 193 ∧ (wp_X3_start (σ 2 v2) (fun r1 => (∃ n : Nat, wp_X3_enter_10 post n v2 r1 0 σ))))
-- X3_leave
def wp_X3_leave_10 (post : St → Prop) : Nat → Int → Int → Int → St → Prop
  | 0, _, _, _, _ => False
  | fu + 1, v2, v3, v4, σ => (rg v4 ∧ (512 ≤ v4 → (post σ)) ∧ (¬ 512 ≤ v4 → (0 ≤ (bnd (v3 + v4) 511) ∧ (bnd (v3 + v4) 511) < 512 ∧ (rg (σ 1 (bnd (v3 + v4) 511)) ∧ rg (v2 + 1) ∧ (¬ (σ 1 (bnd (v3 + v4) 511)) = (v2 + 1) → (0 ≤ (bnd (v3 + v4) 511) ∧ (bnd (v3 + v4) 511) < 512 ∧ (rg (σ 1 (bnd (v3 + v4) 511)) ∧ (¬ (σ 1 (bnd (v3 + v4) 511)) = 0 → (wp_X3_leave_10 post fu v2 v3 (v4 + 1) σ)) ∧ ((σ 1 (bnd (v3 + v4) 511)) = 0 → (post σ))))) ∧ ((σ 1 (bnd (v3 + v4) 511)) = (v2 + 1) → (0 ≤ (bnd (v3 + v4) 511) ∧ (bnd (v3 + v4) 511) < 512 ∧ ∀ σ1 : St, σ1 = up σ 1 (bnd (v3 + v4) 511) 0 → (post σ1)))))))
def wp_X3_leave (σ : St) (v2 : Int) (post : St → Prop) : Prop := (0 ≤ v2 ∧ v2 < 193 ∧ (wp_X3_start (σ 2 v2) (fun r1 => (∃ n : Nat, wp_X3_leave_10 post n v2 r1 0 σ))))
