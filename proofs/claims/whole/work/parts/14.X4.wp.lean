-- X4_begin
def wp_X4_begin_48 (post : St → Prop) : Nat → Int → St → Prop
  | 0, _, _ => False
  | fu + 1, v2, σ => (rg v2 ∧ (8 ≤ v2 → (∀ σ1 : St, σ1 = up σ 4 3 0 → (∀ σ2 : St, σ2 = up σ1 8 3 0 → (∀ σ3 : St, σ3 = up σ2 12 3 0 → (post σ3))))) ∧ (¬ 8 ≤ v2 → (0 ≤ v2 ∧ v2 < 8 ∧ ∀ σ4 : St, σ4 = up σ 3 v2 0 → (wp_X4_begin_48 post fu (v2 + 1) σ4))))
def wp_X4_begin_27 (post : St → Prop) : Nat → Int → St → Prop
  | 0, _, _ => False
  | fu + 1, v2, σ => (rg v2 ∧ (12 ≤ v2 → (∃ n : Nat, wp_X4_begin_48 post n 0 σ)) ∧ (¬ 12 ≤ v2 → (0 ≤ v2 ∧ v2 < 12 ∧ ∀ σ1 : St, σ1 = up σ 2 v2 0 → (wp_X4_begin_27 post fu (v2 + 1) σ1))))
def wp_X4_begin (σ : St) (v1 : Int) (post : St → Prop) : Prop := (∀ σ1 : St, σ1 = up σ 0 0 v1 → (∀ σ2 : St, σ2 = up σ1 0 2 0 → (∀ σ3 : St, σ3 = up σ2 0 3 (-1) → (∀ σ4 : St, σ4 = up σ3 0 4 (-1) → (∀ σ5 : St, σ5 = up σ4 0 6 1 → (∃ n : Nat, wp_X4_begin_27 post n 0 σ5))))))
-- X4_copyFrom
def wp_X4_copyFrom (σ : St) (post : St → Prop) : Prop := (∀ σ1 : St, σ1 = up σ 0 0 (σ 16 0) → (∀ σ2 : St, σ2 = up σ1 0 2 (σ1 16 2) → (∀ σ3 : St, σ3 = up σ2 0 3 (σ2 16 3) → (∀ σ4 : St, σ4 = up σ3 0 4 (σ3 16 4) → (∀ σ5 : St, σ5 = up σ4 0 6 (σ4 16 6) → ((∀ σ6 : St, σ6 = cpy σ5 17 0 1 0 16 → ((∀ σ7 : St, σ7 = cpy σ6 18 0 2 0 12 → ((∀ σ8 : St, σ8 = cpy σ7 19 0 3 0 8 → (wp_X1_copyFrom 5 (pk σ8 [4, 5, 6, 7, 20, 21, 22, 23]) (fun τ9 => ∀ σ9 : St, σ9 = mrg σ8 [4, 5, 6, 7, 20, 21, 22, 23] τ9 → (wp_X1_copyFrom 8 (pk σ9 [8, 9, 10, 11, 24, 25, 26, 27]) (fun τ10 => ∀ σ10 : St, σ10 = mrg σ9 [8, 9, 10, 11, 24, 25, 26, 27] τ10 → (wp_X1_copyFrom 8 (pk σ10 [12, 13, 14, 15, 28, 29, 30, 31]) (fun τ11 => ∀ σ11 : St, σ11 = mrg σ10 [12, 13, 14, 15, 28, 29, 30, 31] τ11 → (post σ11))))))))))))))))))
-- X4_calledChange
def wp_X4_calledChange (σ : St) (v1 : Int) (post : Int → Prop) : Prop := (rg v1 ∧ (v1 = 1 → (post (σ 0 3))) ∧ (v1 = 2 → (post (σ 0 4))) ∧ ((¬ v1 = 1 ∧ ¬ v1 = 2) → (post (-1))))
-- X4_setCalledChange
def wp_X4_setCalledChange (σ : St) (v1 v2 : Int) (post : St → Prop) : Prop := (rg v1 ∧ (¬ v1 = 1 → (∀ σ1 : St, σ1 = up σ 0 4 v2 → (post σ1))) ∧ (v1 = 1 → (∀ σ2 : St, σ2 = up σ 0 3 v2 → (post σ2))))
-- X4_holdsPattern
def wp_X4_holdsPattern_34 (k2 : Int → Int → St → Prop) (post : Int → Prop) (v1 v2 : Int) (σ : St) : Prop := (k2 v1 (v2 + 1) σ)
def wp_X4_holdsPattern_2 (post : Int → Prop) : Nat → Int → Int → St → Prop
  | 0, _, _, _ => False
  | fu + 1, v1, v2, σ => (rg v2 ∧ rg (σ 0 0) ∧ ((σ 0 0) < v2 → (post 1)) ∧ (¬ (σ 0 0) < v2 → (0 ≤ (v2 - 1) ∧ (v2 - 1) < 8 ∧ (rg (σ 3 (v2 - 1)) ∧ ((σ 3 (v2 - 1)) = 0 → (wp_X4_holdsPattern_34 (wp_X4_holdsPattern_2 post fu) post v1 v2 σ)) ∧ (¬ (σ 3 (v2 - 1)) = 0 → (wp_X2_bellIn v1 v2 (fun r1 => (rg (σ 3 (v2 - 1)) ∧ rg r1 ∧ ((σ 3 (v2 - 1)) = r1 → (wp_X4_holdsPattern_34 (wp_X4_holdsPattern_2 post fu) post v1 v2 σ)) ∧ (¬ (σ 3 (v2 - 1)) = r1 → (post 0))))))))))
def wp_X4_holdsPattern (σ : St) (v1 : Int) (post : Int → Prop) : Prop := (∃ n : Nat, wp_X4_holdsPattern_2 post n v1 1 σ)
-- X4_isMusic
def wp_X4_isMusic (σ : St) (v1 v2 : Int) (post : Int → Prop) : Prop := (rg v2 ∧ (v2 = 0 → (wp_X2_rounds (σ 0 0) (fun r1 => (rg (bur v1 (4 * ((σ 0 0) - 4))) ∧ rg (bur r1 (4 * ((σ 0 0) - 4))) ∧ (¬ (bur v1 (4 * ((σ 0 0) - 4))) = (bur r1 (4 * ((σ 0 0) - 4))) → (post 0)) ∧ ((bur v1 (4 * ((σ 0 0) - 4))) = (bur r1 (4 * ((σ 0 0) - 4))) → (post 1)))))) ∧ (v2 = 1 → (wp_X2_rounds 4 (fun r2 => (rg (bnd v1 65535) ∧ rg r2 ∧ (¬ (bnd v1 65535) = r2 → (post 0)) ∧ ((bnd v1 65535) = r2 → (post 1)))))) ∧ (v2 = 2 → (wp_X4_holdsPattern σ v1 (fun r3 => ((r3 = 0 ∨ r3 = 1) ∧ post r3)))) ∧ (¬ (0 ≤ v2 ∧ v2 ≤ 2) → (wp_X2_isRightAhead v1 ((σ 0 0) - 1) (σ 0 0) (fun r4 => ((r4 = 0 ∨ r4 = 1) ∧ post r4)))))
-- X4_happen
def wp_X4_happen_102 (k2 : Int → St → Prop) (post : St → Prop) (v1 : Int) (σ : St) : Prop := (k2 (v1 + 1) σ)
def wp_X4_happen_2 (post : St → Prop) : Nat → Int → St → Prop
  | 0, _, _ => False
  | fu + 1, v1, σ => (rg v1 ∧ rg (σ 8 3) ∧ ((σ 8 3) ≤ v1 → (post σ)) ∧ (¬ (σ 8 3) ≤ v1 → (0 ≤ v1 ∧ v1 < 8 ∧ (0 ≤ v1 ∧ v1 < 8 ∧ (rg (σ 9 v1) ∧ ((σ 9 v1) = 0 → (0 ≤ (σ 10 v1) ∧ (σ 10 v1) < 12 ∧ ∀ σ1 : St, σ1 = up σ 2 (σ 10 v1) 0 → (wp_X4_happen_102 (wp_X4_happen_2 post fu) post v1 σ1))) ∧ ((σ 9 v1) = 1 → (0 ≤ (σ 10 v1) ∧ (σ 10 v1) < 12 ∧ ∀ σ2 : St, σ2 = up σ 2 (σ 10 v1) 1 → (wp_X4_happen_102 (wp_X4_happen_2 post fu) post v1 σ2))) ∧ ((σ 9 v1) = 2 → (rg ((σ 0 2) - (σ 10 v1)) ∧ (∀ σ3 : St, σ3 = up σ 0 2 (if 0 < ((σ 0 2) - (σ 10 v1)) then ((σ 0 2) - (σ 10 v1)) else 0) → (wp_X4_happen_102 (wp_X4_happen_2 post fu) post v1 σ3)))) ∧ (¬ (0 ≤ (σ 9 v1) ∧ (σ 9 v1) ≤ 2) → (∀ σ4 : St, σ4 = up σ 0 6 (σ 10 v1) → (wp_X4_happen_102 (wp_X4_happen_2 post fu) post v1 σ4))))))))
def wp_X4_happen (σ : St) (post : St → Prop) : Prop := (∃ n : Nat, wp_X4_happen_2 post n 0 σ)
