-- X7_begin
def wp_X7_begin_102 (post : St → Prop) (σ : St) : Prop := (wp_X2_rounds (σ 7 0) (fun r1 => (∀ σ2 : St, σ2 = up σ 1 0 r1 → (∀ σ3 : St, σ3 = up σ2 0 1 0 → (∀ σ4 : St, σ4 = up σ3 0 7 0 → (post σ4))))))
def wp_X7_begin_95 (k45 : Int → St → Prop) (post : St → Prop) (v2 s1 s2 : Int) (σ : St) : Prop := (0 ≤ s1 ∧ s1 < 3 ∧ ∀ σ1 : St, σ1 = up σ 3 s1 s2 → (k45 (v2 + 1) σ1))
def wp_X7_begin_45 (post : St → Prop) : Nat → Int → St → Prop
  | 0, _, _ => False
  | fu + 1, v2, σ => (rg v2 ∧ (2 < v2 → (wp_X7_begin_102 post σ)) ∧ (¬ 2 < v2 → (rg (σ 0 2) ∧ ((σ 0 2) ≤ 0 → (wp_X7_begin_102 post σ)) ∧ (¬ (σ 0 2) ≤ 0 → (wp_X4_calledChange (pk σ [7, 8, 9, 10, 11, 12, 13, 14, 15, 16, 17, 18, 19, 20, 21, 22]) v2 (fun r1 => (rg r1 ∧ (¬ r1 = (-1) → (wp_X2_pairs (σ 7 0) r1 (fun r2 => (wp_X7_begin_95 (wp_X7_begin_45 post fu) post v2 v2 r2 σ)))) ∧ (r1 = (-1) → (0 ≤ ((σ 0 2) - 1) ∧ ((σ 0 2) - 1) < 16 ∧ (wp_X7_begin_95 (wp_X7_begin_45 post fu) post v2 v2 (σ 2 ((σ 0 2) - 1)) σ))))))))))
def wp_X7_begin_10 (post : St → Prop) : Nat → Int → St → Prop
  | 0, _, _ => False
  | fu + 1, v2, σ => (rg v2 ∧ rg (σ 0 2) ∧ ((σ 0 2) ≤ v2 → (∃ n : Nat, wp_X7_begin_45 post n 0 σ)) ∧ (¬ (σ 0 2) ≤ v2 → (0 ≤ v2 ∧ v2 < 16 ∧ (wp_X2_pairs (σ 7 0) (σ 8 v2) (fun r1 => (0 ≤ v2 ∧ v2 < 16 ∧ ∀ σ2 : St, σ2 = up σ 2 v2 r1 → (wp_X7_begin_10 post fu (v2 + 1) σ2)))))))
def wp_X7_begin (σ : St) (post : St → Prop) : Prop := (∀ σ1 : St, σ1 = up σ 0 2 (σ 7 2) → (∃ n : Nat, wp_X7_begin_10 post n 0 σ1))
-- X7_step
def wp_X7_step_35 (post : St → Prop) (s0 : Int) (σ : St) : Prop := (0 ≤ (σ 0 1) ∧ (σ 0 1) < 193 ∧ (wp_X2_swapped (σ 1 (σ 0 1)) s0 (fun r1 => (0 ≤ ((σ 0 1) + 1) ∧ ((σ 0 1) + 1) < 193 ∧ ∀ σ2 : St, σ2 = up σ 1 ((σ 0 1) + 1) r1 → (∀ σ3 : St, σ3 = up σ2 0 1 ((σ2 0 1) + 1) → (post σ3))))))
def wp_X7_step (σ : St) (v1 v2 : Int) (post : St → Prop) : Prop := (rg (σ 0 1) ∧ (192 ≤ (σ 0 1) → (post σ)) ∧ (¬ 192 ≤ (σ 0 1) → (rg v1 ∧ rg ((σ 0 2) - 1) ∧ (¬ v1 = ((σ 0 2) - 1) → (0 ≤ v1 ∧ v1 < 16 ∧ (wp_X7_step_35 post (σ 2 v1) σ))) ∧ (v1 = ((σ 0 2) - 1) → (0 ≤ v2 ∧ v2 < 3 ∧ (wp_X7_step_35 post (σ 3 v2) σ))))))
-- X7_ring
def wp_X7_ring_17 (k7 : Int → St → Prop) (post : St → Prop) : Nat → Int → Int → St → Prop
  | 0, _, _, _ => False
  | fu + 1, v2, v3, σ => (rg v3 ∧ rg (σ 0 2) ∧ ((σ 0 2) ≤ v3 → (k7 (v2 + 1) σ)) ∧ (¬ (σ 0 2) ≤ v3 → (0 ≤ v2 ∧ v2 < 12 ∧ (wp_X7_step (pk σ [0, 1, 2, 3, 4, 5, 6]) v3 (σ 9 v2) (fun τ1 => ∀ σ1 : St, σ1 = mrg σ [0, 1, 2, 3, 4, 5, 6] τ1 → (wp_X7_ring_17 k7 post fu v2 (v3 + 1) σ1))))))
def wp_X7_ring_7 (post : St → Prop) : Nat → Int → St → Prop
  | 0, _, _ => False
  | fu + 1, v2, σ => (rg v2 ∧ rg (σ 7 6) ∧ ((σ 7 6) ≤ v2 → (post σ)) ∧ (¬ (σ 7 6) ≤ v2 → (∃ n : Nat, wp_X7_ring_17 (wp_X7_ring_7 post fu) post n v2 0 σ)))
def wp_X7_ring (σ : St) (post : St → Prop) : Prop := (wp_X7_begin σ (fun σ1 => (∃ n : Nat, wp_X7_ring_7 post n 0 σ1)))
-- X7_compare
def wp_X7_compare_47 (post : St → Prop) : Nat → Int → St → Prop
  | 0, _, _ => False
  | fu + 1, v1, σ => (rg v1 ∧ (v1 < 0 → (∀ σ1 : St, σ1 = up σ 0 7 1 → (post σ1))) ∧ (¬ v1 < 0 → (wp_X3_leave (pk σ [5, 6, 1]) v1 (fun τ2 => ∀ σ2 : St, σ2 = mrg σ [5, 6, 1] τ2 → (wp_X7_compare_47 post fu (v1 + (-1)) σ2)))))
def wp_X7_compare_10 (post : St → Prop) : Nat → Int → St → Prop
  | 0, _, _ => False
  | fu + 1, v1, σ => (rg v1 ∧ rg (σ 0 1) ∧ ((σ 0 1) < v1 → (∃ n : Nat, wp_X7_compare_47 post n (σ 0 1) σ)) ∧ (¬ (σ 0 1) < v1 → (wp_X3_enter (pk σ [5, 6, 1]) v1 (fun r1 τ1 => ∀ σ1 : St, σ1 = mrg σ [5, 6, 1] τ1 → (0 ≤ v1 ∧ v1 < 193 ∧ ∀ σ2 : St, σ2 = up σ1 4 v1 r1 → (wp_X7_compare_10 post fu (v1 + 1) σ2))))))
def wp_X7_compare (σ : St) (post : St → Prop) : Prop := (rg (σ 0 7) ∧ ((σ 0 7) = 0 → (∃ n : Nat, wp_X7_compare_10 post n 0 σ)) ∧ (¬ (σ 0 7) = 0 → (post σ)))
-- X7_firstAs
def wp_X7_firstAs (σ : St) (v1 : Int) (post : Int → St → Prop) : Prop := (wp_X7_compare σ (fun σ1 => (0 ≤ v1 ∧ v1 < 193 ∧ (post (σ1 4 v1) σ1))))
-- X7_roundRow
def wp_X7_roundRow_6 (post : Int → St → Prop) : Nat → Int → St → Prop
  | 0, _, _ => False
  | fu + 1, v1, σ => (rg v1 ∧ rg (σ 0 1) ∧ ((σ 0 1) < v1 → (post (-5) σ)) ∧ (¬ (σ 0 1) < v1 → (0 ≤ v1 ∧ v1 < 193 ∧ (rg (σ 4 v1) ∧ (¬ (σ 4 v1) = 0 → (wp_X7_roundRow_6 post fu (v1 + 1) σ)) ∧ ((σ 4 v1) = 0 → (post v1 σ))))))
def wp_X7_roundRow (σ : St) (post : Int → St → Prop) : Prop := (wp_X7_compare σ (fun σ1 => (∃ n : Nat, wp_X7_roundRow_6 post n 1 σ1)))
-- X7_falseRow
def wp_X7_falseRow_53 (k6 : Int → St → Prop) (post : Int → St → Prop) (v1 : Int) (σ : St) : Prop := (k6 (v1 + 1) σ)
def wp_X7_falseRow_36 (k6 : Int → St → Prop) (post : Int → St → Prop) (v1 s0 : Int) (σ : St) : Prop := (0 ≤ v1 ∧ v1 < 193 ∧ (rg (σ 4 v1) ∧ rg v1 ∧ ((σ 4 v1) = v1 → (wp_X7_falseRow_53 k6 post v1 σ)) ∧ (¬ (σ 4 v1) = v1 → (rg s0 ∧ (¬ s0 = 0 → (wp_X7_falseRow_53 k6 post v1 σ)) ∧ (s0 = 0 → (post v1 σ))))))
def wp_X7_falseRow_35 (k6 : Int → St → Prop) (post : Int → St → Prop) (v1 : Int) (σ : St) : Prop := (wp_X7_falseRow_36 k6 post v1 0 σ)
def wp_X7_falseRow_6 (post : Int → St → Prop) : Nat → Int → St → Prop
  | 0, _, _ => False
  | fu + 1, v1, σ => (rg v1 ∧ rg (σ 0 1) ∧ ((σ 0 1) < v1 → (post (-5) σ)) ∧ (¬ (σ 0 1) < v1 → (rg v1 ∧ rg (σ 0 1) ∧ (¬ v1 = (σ 0 1) → (wp_X7_falseRow_35 (wp_X7_falseRow_6 post fu) post v1 σ)) ∧ (v1 = (σ 0 1) → (0 ≤ v1 ∧ v1 < 193 ∧ (rg (σ 4 v1) ∧ (¬ (σ 4 v1) = 0 → (wp_X7_falseRow_35 (wp_X7_falseRow_6 post fu) post v1 σ)) ∧ ((σ 4 v1) = 0 → (wp_X7_falseRow_36 (wp_X7_falseRow_6 post fu) post v1 1 σ))))))))
def wp_X7_falseRow (σ : St) (post : Int → St → Prop) : Prop := (wp_X7_compare σ (fun σ1 => (∃ n : Nat, wp_X7_falseRow_6 post n 1 σ1)))
-- X7_isTrue
def wp_X7_isTrue (σ : St) (post : Int → St → Prop) : Prop := (rg (σ 0 1) ∧ ((σ 0 1) ≤ 0 → (post 0 σ)) ∧ (¬ (σ 0 1) ≤ 0 → (0 ≤ (σ 0 1) ∧ (σ 0 1) < 193 ∧ (rg (σ 1 (σ 0 1)) ∧ rg (σ 1 0) ∧ (¬ (σ 1 (σ 0 1)) = (σ 1 0) → (post 0 σ)) ∧ ((σ 1 (σ 0 1)) = (σ 1 0) → (wp_X7_falseRow σ (fun r1 σ1 => (rg r1 ∧ (¬ r1 = (-5) → (post 0 σ1)) ∧ (r1 = (-5) → (post 1 σ1))))))))))
-- X7_course
def wp_X7_course_24 (k9 : Int → Int → St → Prop) (post : Int → Prop) : Nat → Int → Int → Int → St → Prop
  | 0, _, _, _, _ => False
  | fu + 1, v1, v2, v3, σ => (rg v3 ∧ rg (σ 0 2) ∧ ((σ 0 2) ≤ v3 → (rg v1 ∧ rg (σ 1 0) ∧ (¬ v1 = (σ 1 0) → (k9 v1 (v2 + 1) σ)) ∧ (v1 = (σ 1 0) → (post v2)))) ∧ (¬ (σ 0 2) ≤ v3 → (0 ≤ v3 ∧ v3 < 16 ∧ (wp_X2_swapped v1 (σ 2 v3) (fun r1 => (wp_X7_course_24 k9 post fu r1 v2 (v3 + 1) σ))))))
def wp_X7_course_9 (post : Int → Prop) : Nat → Int → Int → St → Prop
  | 0, _, _, _ => False
  | fu + 1, v1, v2, σ => (rg v2 ∧ (15 < v2 → (post 0)) ∧ (¬ 15 < v2 → (rg (σ 0 2) ∧ ((σ 0 2) ≤ 0 → (post 0)) ∧ (¬ (σ 0 2) ≤ 0 → (∃ n : Nat, wp_X7_course_24 (wp_X7_course_9 post fu) post n v1 v2 0 σ)))))
def wp_X7_course (σ : St) (post : Int → Prop) : Prop := (∃ n : Nat, wp_X7_course_9 post n (σ 1 0) 1 σ)
