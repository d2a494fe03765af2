-- X1_append
def wp_X1_append (N : Nat) (σ : St) (v1 v2 v3 : Int) (post : Int → St → Prop) : Prop := (rg (σ 0 3) ∧ ((σ 0 3) < 0 → (post 0 σ)) ∧ (¬ (σ 0 3) < 0 → (rg (σ 0 3) ∧ rg (N : Int) ∧ ((σ 0 3) < (N : Int) → (0 ≤ (σ 0 3) ∧ (σ 0 3) < (N : Int) ∧ ∀ σ1 : St, σ1 = up σ 1 (σ 0 3) v1 → (0 ≤ (σ1 0 3) ∧ (σ1 0 3) < (N : Int) ∧ ∀ σ2 : St, σ2 = up σ1 2 (σ1 0 3) v2 → (0 ≤ (σ2 0 3) ∧ (σ2 0 3) < (N : Int) ∧ ∀ σ3 : St, σ3 = up σ2 3 (σ2 0 3) v3 → (∀ σ4 : St, σ4 = up σ3 0 3 ((σ3 0 3) + 1) → (post 1 σ4)))))) ∧ (¬ (σ 0 3) < (N : Int) → (post 0 σ)))))
-- X1_copyFrom
def wp_X1_copyFrom_7 (N : Nat) (post : St → Prop) : Nat → Int → St → Prop
  | 0, _, _ => False
  | fu + 1, v2, σ => (rg v2 ∧ rg (σ 4 3) ∧ ((σ 4 3) ≤ v2 → (post σ)) ∧ (¬ (σ 4 3) ≤ v2 → (0 ≤ v2 ∧ v2 < (N : Int) ∧ (0 ≤ v2 ∧ v2 < (N : Int) ∧ (0 ≤ v2 ∧ v2 < (N : Int) ∧ (wp_X1_append N (pk σ [0, 1, 2, 3]) (σ 5 v2) (σ 6 v2) (σ 7 v2) (fun r1 τ1 => ∀ σ1 : St, σ1 = mrg σ [0, 1, 2, 3] τ1 → (wp_X1_copyFrom_7 N post fu (v2 + 1) σ1))))))))
def wp_X1_copyFrom (N : Nat) (σ : St) (post : St → Prop) : Prop := (∀ σ1 : St, σ1 = up σ 0 3 0 → (∃ n : Nat, wp_X1_copyFrom_7 N post n 0 σ1))
