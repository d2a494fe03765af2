-- X0_ringTillAgain
def wp_X0_ringTillAgain_2 (post : Int → St → Prop) : Nat → Int → Int → St → Prop
  | 0, _, _, _ => False
  | fu + 1, v1, v2, σ => (rg v2 ∧ rg (σ 1 2) ∧ ((σ 1 2) ≤ v2 → (post (-5) σ)) ∧ (¬ (σ 1 2) ≤ v2 → (wp_X7_step (pk σ [1, 2, 3, 4, 5, 6, 7]) v2 v1 (fun τ1 => ∀ σ1 : St, σ1 = mrg σ [1, 2, 3, 4, 5, 6, 7] τ1 → (wp_X3_enter (pk σ1 [8, 9, 2]) (σ1 1 1) (fun r2 τ2 => ∀ σ2 : St, σ2 = mrg σ1 [8, 9, 2] τ2 → (rg r2 ∧ rg (σ2 1 1) ∧ (r2 = (σ2 1 1) → (wp_X0_ringTillAgain_2 post fu v1 (v2 + 1) σ2)) ∧ (¬ r2 = (σ2 1 1) → (post (σ2 1 1) σ2)))))))))
def wp_X0_ringTillAgain (σ : St) (v1 : Int) (post : Int → St → Prop) : Prop := (∃ n : Nat, wp_X0_ringTillAgain_2 post n v1 0 σ)
-- X0_isEnd
def wp_X0_isEnd (σ : St) (v1 : Int) (post : Int → Prop) : Prop := (rg v1 ∧ rg ((σ 0 5) * (σ 1 2)) ∧ (¬ v1 = ((σ 0 5) * (σ 1 2)) → (post 0)) ∧ (v1 = ((σ 0 5) * (σ 1 2)) → (0 ≤ v1 ∧ v1 < 193 ∧ (rg (σ 2 v1) ∧ rg (σ 2 0) ∧ (¬ (σ 2 v1) = (σ 2 0) → (post 0)) ∧ ((σ 2 v1) = (σ 2 0) → (post 1))))))
-- X0_backTo
def wp_X0_backTo_8 (post : St → Prop) : Nat → Int → Int → St → Prop
  | 0, _, _, _ => False
  | fu + 1, v1, v2, σ => (rg v2 ∧ rg v1 ∧ (v2 ≤ v1 → (∀ σ1 : St, σ1 = up σ 1 1 v1 → (post σ1))) ∧ (¬ v2 ≤ v1 → (wp_X3_leave (pk σ [8, 9, 2]) v2 (fun τ2 => ∀ σ2 : St, σ2 = mrg σ [8, 9, 2] τ2 → (wp_X0_backTo_8 post fu v1 (v2 + (-1)) σ2)))))
def wp_X0_backTo (σ : St) (v1 : Int) (post : St → Prop) : Prop := (∃ n : Nat, wp_X0_backTo_8 post n v1 (σ 1 1) σ)
-- X0_search
def wp_X0_search_130 (rec : St → Int → Int → Int → (St → Prop) → Prop) (k12 : Int → Int → Int → Int → St → Prop) (post : St → Prop) (v1 v2 v3 v4 : Int) (σ : St) : Prop := (k12 v1 v2 v3 (v4 + 1) σ)
def wp_X0_search_124 (rec : St → Int → Int → Int → (St → Prop) → Prop) (k12 : Int → Int → Int → Int → St → Prop) (post : St → Prop) (v1 v2 v3 v4 v6 : Int) (σ : St) : Prop := (wp_X0_backTo σ v6 (fun σ1 => (wp_X0_search_130 rec k12 post v1 v2 v3 v4 σ1)))
def wp_X0_search_30 (rec : St → Int → Int → Int → (St → Prop) → Prop) (k12 : Int → Int → Int → Int → St → Prop) (post : St → Prop) (v1 v2 v3 v4 s0 : Int) (σ : St) : Prop := (0 ≤ v4 ∧ v4 < 3 ∧ (rg (σ 10 v4) ∧ ((σ 10 v4) = 0 → (wp_X0_search_130 rec k12 post v1 v2 v3 v4 σ)) ∧ (¬ (σ 10 v4) = 0 → (rg s0 ∧ rg (σ 0 6) ∧ ((σ 0 6) ≤ s0 → (wp_X0_search_130 rec k12 post v1 v2 v3 v4 σ)) ∧ (¬ (σ 0 6) ≤ s0 → (wp_X0_ringTillAgain σ v4 (fun r1 σ1 => (rg r1 ∧ (¬ r1 = (-5) → (wp_X0_isEnd σ1 r1 (fun r2 => (rg r2 ∧ (r2 = 0 → (wp_X0_search_124 rec k12 post v1 v2 v3 v4 (σ 1 1) σ1)) ∧ (¬ r2 = 0 → (∀ σ3 : St, σ3 = up σ1 0 0 ((3 * v2) + v4) → (∀ σ4 : St, σ4 = up σ3 0 1 s0 → (∀ σ5 : St, σ5 = up σ4 0 6 s0 → (wp_X0_search_124 rec k12 post v1 v2 v3 v4 (σ 1 1) σ5))))))))) ∧ (r1 = (-5) → (rec σ1 (v1 + 1) ((3 * v2) + v4) s0 (fun σ6 => (wp_X0_search_124 rec k12 post v1 v2 v3 v4 (σ 1 1) σ6))))))))))))
def wp_X0_search_12 (rec : St → Int → Int → Int → (St → Prop) → Prop) (post : St → Prop) : Nat → Int → Int → Int → Int → St → Prop
  | 0, _, _, _, _, _ => False
  | fu + 1, v1, v2, v3, v4, σ => (rg v4 ∧ (2 < v4 → (post σ)) ∧ (¬ 2 < v4 → (rg v4 ∧ (¬ v4 = 0 → (wp_X0_search_30 rec (wp_X0_search_12 rec post fu) post v1 v2 v3 v4 (v3 + 1) σ)) ∧ (v4 = 0 → (wp_X0_search_30 rec (wp_X0_search_12 rec post fu) post v1 v2 v3 v4 v3 σ)))))
def wp_X0_search_0 (rec : St → Int → Int → Int → (St → Prop) → Prop) (σ : St) (v1 v2 v3 : Int) (post : St → Prop) : Prop := (rg v1 ∧ rg (σ 0 5) ∧ (v1 < (σ 0 5) → (∃ n : Nat, wp_X0_search_12 rec post n v1 v2 v3 0 σ)) ∧ (¬ v1 < (σ 0 5) → (post σ)))
def wp_X0_search : Nat → St → Int → Int → Int → (St → Prop) → Prop
  | 0, _, _, _, _, _ => False
  | d + 1, σ, v1, v2, v3, post => wp_X0_search_0 (wp_X0_search d) σ v1 v2 v3 post
-- X0_find
def wp_X0_find_68 (post : St → Prop) (s1 s2 : Int) (σ : St) : Prop := (0 ≤ s1 ∧ s1 < 3 ∧ (s2 = 0 ∨ s2 = 1) ∧ ∀ σ1 : St, σ1 = up σ 10 s1 s2 → (wp_X7_begin (pk σ1 [1, 2, 3, 4, 5, 6, 7, 11, 12, 13, 14, 15, 16, 17, 18, 19, 20, 21, 22, 23, 24, 25, 26]) (fun τ2 => ∀ σ2 : St, σ2 = mrg σ1 [1, 2, 3, 4, 5, 6, 7, 11, 12, 13, 14, 15, 16, 17, 18, 19, 20, 21, 22, 23, 24, 25, 26] τ2 → (rg (σ2 1 2) ∧ ((σ2 1 2) ≤ 0 → (post σ2)) ∧ (¬ (σ2 1 2) ≤ 0 → (wp_X3_enter (pk σ2 [8, 9, 2]) 0 (fun r3 τ3 => ∀ σ3 : St, σ3 = mrg σ2 [8, 9, 2] τ3 → (wp_X0_search 8 (pk σ3 [0, 1, 2, 3, 4, 5, 6, 7, 8, 9, 10]) 0 0 0 (fun τ4 => ∀ σ4 : St, σ4 = mrg σ3 [0, 1, 2, 3, 4, 5, 6, 7, 8, 9, 10] τ4 → (wp_X3_leave (pk σ4 [8, 9, 2]) 0 (fun τ5 => ∀ σ5 : St, σ5 = mrg σ4 [8, 9, 2] τ5 → (post σ5))))))))))))
def wp_X0_find_49 (post : St → Prop) (s1 s2 : Int) (σ : St) : Prop := (0 ≤ s1 ∧ s1 < 3 ∧ (s2 = 0 ∨ s2 = 1) ∧ ∀ σ1 : St, σ1 = up σ 10 s1 s2 → (rg (σ1 11 4) ∧ ((σ1 11 4) = (-1) → (wp_X0_find_68 post 2 0 σ1)) ∧ (¬ (σ1 11 4) = (-1) → (wp_X0_find_68 post 2 1 σ1))))
def wp_X0_find (σ : St) (v2 : Int) (post : St → Prop) : Prop := (∀ σ1 : St, σ1 = up σ 0 0 (-5) → (∀ σ2 : St, σ2 = up σ1 0 1 (-5) → (∀ σ3 : St, σ3 = up σ2 0 5 v2 → (∀ σ4 : St, σ4 = up σ3 0 6 (v2 + 1) → (∀ σ5 : St, σ5 = up σ4 10 0 1 → (rg (σ5 11 3) ∧ ((σ5 11 3) = (-1) → (wp_X0_find_49 post 1 0 σ5)) ∧ (¬ (σ5 11 3) = (-1) → (wp_X0_find_49 post 1 1 σ5))))))))
