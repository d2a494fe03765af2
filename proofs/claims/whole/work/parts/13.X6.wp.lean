-- X6_begin
def wp_X6_begin_12 (post : St → Prop) : Nat → Int → St → Prop
  | 0, _, _ => False
  | fu + 1, v3, σ => (rg v3 ∧ (60 ≤ v3 → (post σ)) ∧ (¬ 60 ≤ v3 → (0 ≤ v3 ∧ v3 < 60 ∧ ∀ σ1 : St, σ1 = up σ 1 v3 0 → (wp_X6_begin_12 post fu (v3 + 1) σ1))))
def wp_X6_begin (σ : St) (v1 v2 : Int) (post : St → Prop) : Prop := (∀ σ1 : St, σ1 = up σ 0 0 v1 → (∀ σ2 : St, σ2 = up σ1 0 1 v2 → (∃ n : Nat, wp_X6_begin_12 post n 0 σ2)))
-- X6_has
def wp_X6_has (σ : St) (v1 v2 : Int) (post : Int → Prop) : Prop := (rg v1 ∧ (v1 < 0 → (post 0)) ∧ (¬ v1 < 0 → (rg v2 ∧ (v2 < 0 → (post 0)) ∧ (¬ v2 < 0 → (rg v2 ∧ rg (σ 0 1) ∧ ((σ 0 1) < v2 → (post 0)) ∧ (¬ (σ 0 1) < v2 → (rg v1 ∧ rg ((σ 0 1) - v2) ∧ (((σ 0 1) - v2) < v1 → (post 0)) ∧ (¬ ((σ 0 1) - v2) < v1 → (post 1)))))))))
-- X6_narrowed
def wp_X6_narrowed (v0 v1 : Int) (post : Int → Prop) : Prop := (rg v0 ∧ (v0 = 0 → (rg (i2b v1) ∧ (post (i2b v1)))) ∧ (v0 = 1 → (rg (i2s v1) ∧ (post (i2s v1)))) ∧ (v0 = 2 → (rg v1 ∧ (post v1))) ∧ (v0 = 3 → (post v1)) ∧ (¬ (0 ≤ v0 ∧ v0 ≤ 3) → (rl v1 ∧ rl 0 ∧ (rg (lcp v1 0) ∧ ((lcp v1 0) = 0 → (post 0)) ∧ (¬ (lcp v1 0) = 0 → (post 1))))))
