-- X5_append
def wp_X5_append (σ : St) (v1 : Int) (post : Int → St → Prop) : Prop := (rg (σ 0 0) ∧ ((σ 0 0) < 100 → (0 ≤ (σ 0 0) ∧ (σ 0 0) < 100 ∧ i2b (i2b v1) = (i2b v1) ∧ ∀ σ1 : St, σ1 = up σ 1 (σ 0 0) (i2b v1) → (∀ σ2 : St, σ2 = up σ1 0 0 ((σ1 0 0) + 1) → (post 1 σ2)))) ∧ (¬ (σ 0 0) < 100 → (post 0 σ)))
-- X5_next
def wp_X5_next (σ : St) (post : Int → Prop) : Prop := (rg (σ 0 2) ∧ rg (σ 0 0) ∧ ((σ 0 0) ≤ (σ 0 2) → (post (-1))) ∧ (¬ (σ 0 0) ≤ (σ 0 2) → (0 ≤ (σ 0 2) ∧ (σ 0 2) < 100 ∧ (post (σ 1 (σ 0 2))))))
-- X5_keep
def wp_X5_keep (σ : St) (v1 : Int) (post : St → Prop) : Prop := (rg (σ 0 7) ∧ (100 ≤ (σ 0 7) → (post σ)) ∧ (¬ 100 ≤ (σ 0 7) → (0 ≤ (σ 0 7) ∧ (σ 0 7) < 100 ∧ ∀ σ1 : St, σ1 = up σ 4 (σ 0 7) v1 → (∀ σ2 : St, σ2 = up σ1 0 7 ((σ1 0 7) + 1) → (post σ2)))))
-- X5_parseDigit
def wp_X5_parseDigit (σ : St) (post : Int → St → Prop) : Prop := (wp_X5_next σ (fun r1 => (rg r1 ∧ (r1 < 48 → (post 0 σ)) ∧ (¬ r1 < 48 → (rg r1 ∧ (r1 ≤ 57 → (∀ σ2 : St, σ2 = up σ 0 2 ((σ 0 2) + 1) → (wp_X5_keep σ2 (r1 - 48) (fun σ3 => (post 1 σ3))))) ∧ (¬ r1 ≤ 57 → (post 0 σ)))))))
-- X5_isPlaceSign
def wp_X5_isPlaceSign (v0 : Int) (post : Int → Prop) : Prop := (rg v0 ∧ (v0 < 49 → (post 0)) ∧ (¬ v0 < 49 → (rg v0 ∧ (56 < v0 → (post 0)) ∧ (¬ 56 < v0 → (post 1)))))
-- X5_parseWord
def wp_X5_parseWord_74 (post : Int → St → Prop) (v1 v2 : Int) (σ : St) : Prop := (rg v2 ∧ (¬ v2 = 0 → (wp_X5_keep σ v1 (fun σ1 => (post 1 σ1)))) ∧ (v2 = 0 → (post 0 σ)))
def wp_X5_parseWord_30 (post : Int → St → Prop) : Nat → Int → Int → St → Prop
  | 0, _, _, _ => False
  | fu + 1, v1, v2, σ => (rg v2 ∧ (8 ≤ v2 → (wp_X5_parseWord_74 post v1 v2 σ)) ∧ (¬ 8 ≤ v2 → (wp_X5_next σ (fun r1 => (wp_X5_isPlaceSign r1 (fun r2 => (rg r2 ∧ (r2 = 0 → (wp_X5_parseWord_74 post v1 v2 σ)) ∧ (¬ r2 = 0 → (wp_X5_next σ (fun r3 => (∀ σ4 : St, σ4 = up σ 0 2 ((σ 0 2) + 1) → (wp_X5_parseWord_30 post fu (bor v1 (bsl 1 (r3 - 49))) (v2 + 1) σ4))))))))))))
def wp_X5_parseWord (σ : St) (post : Int → St → Prop) : Prop := (wp_X5_next σ (fun r1 => (rg r1 ∧ (¬ r1 = 120 → (∃ n : Nat, wp_X5_parseWord_30 post n 0 0 σ)) ∧ (r1 = 120 → (∀ σ2 : St, σ2 = up σ 0 2 ((σ 0 2) + 1) → (wp_X5_keep σ2 0 (fun σ3 => (post 1 σ3))))))))
-- X5_parseWords
def wp_X5_parseWords_99 (k11 : Int → St → Prop) (post : Int → St → Prop) (v1 : Int) (σ : St) : Prop := (wp_X5_parseWord σ (fun r1 σ1 => (k11 (v1 + 1) σ1)))
def wp_X5_parseWords_74 (k11 : Int → St → Prop) (post : Int → St → Prop) (v1 v2 : Int) (σ : St) : Prop := (wp_X5_next σ (fun r1 => (rg r1 ∧ (r1 = 120 → (wp_X5_parseWords_99 k11 post v1 σ)) ∧ (¬ r1 = 120 → (rg v2 ∧ (v2 = 0 → (post 1 σ)) ∧ (¬ v2 = 0 → (wp_X5_next σ (fun r2 => (wp_X5_isPlaceSign r2 (fun r3 => (rg r3 ∧ (¬ r3 = 0 → (wp_X5_parseWords_99 k11 post v1 σ)) ∧ (r3 = 0 → (post 1 σ)))))))))))))
def wp_X5_parseWords_38 (k11 : Int → St → Prop) (post : Int → St → Prop) (v1 s0 : Int) (σ : St) : Prop := (wp_X5_next σ (fun r1 => (rg r1 ∧ (¬ r1 = 46 → (wp_X5_parseWords_74 k11 post v1 s0 σ)) ∧ (r1 = 46 → (rg s0 ∧ (¬ s0 = 0 → (wp_X5_parseWords_74 k11 post v1 s0 σ)) ∧ (s0 = 0 → (∀ σ2 : St, σ2 = up σ 0 2 ((σ 0 2) + 1) → (wp_X5_next σ2 (fun r3 => (wp_X5_isPlaceSign r3 (fun r4 => (rg r4 ∧ (¬ r4 = 0 → (wp_X5_parseWords_99 k11 post v1 σ2)) ∧ (r4 = 0 → (post 0 σ2))))))))))))))
def wp_X5_parseWords_11 (post : Int → St → Prop) : Nat → Int → St → Prop
  | 0, _, _ => False
  | fu + 1, v1, σ => (rg v1 ∧ (16 ≤ v1 → (post 1 σ)) ∧ (¬ 16 ≤ v1 → (0 ≤ ((σ 0 2) - 1) ∧ ((σ 0 2) - 1) < 100 ∧ (rg (σ 1 ((σ 0 2) - 1)) ∧ (¬ (σ 1 ((σ 0 2) - 1)) = 120 → (wp_X5_parseWords_38 (wp_X5_parseWords_11 post fu) post v1 0 σ)) ∧ ((σ 1 ((σ 0 2) - 1)) = 120 → (wp_X5_parseWords_38 (wp_X5_parseWords_11 post fu) post v1 1 σ))))))
def wp_X5_parseWords (σ : St) (post : Int → St → Prop) : Prop := (wp_X5_parseWord σ (fun r1 σ1 => (rg r1 ∧ (¬ r1 = 0 → (∃ n : Nat, wp_X5_parseWords_11 post n 1 σ1)) ∧ (r1 = 0 → (post 0 σ1)))))
-- X5_callOf
def wp_X5_callOf (v0 : Int) (post : Int → Prop) : Prop := (rg v0 ∧ (v0 = 98 → (post 1)) ∧ (v0 = 112 → (post 0)) ∧ (v0 = 115 → (post 2)) ∧ ((¬ v0 = 98 ∧ ¬ v0 = 112 ∧ ¬ v0 = 115) → (post (-1))))
-- X5_parseCalls
def wp_X5_parseCalls_46 (post : Int → St → Prop) (v1 : Int) (σ : St) : Prop := (rg v1 ∧ (v1 ≤ 0 → (post 0 σ)) ∧ (¬ v1 ≤ 0 → (post 1 σ)))
def wp_X5_parseCalls_2 (post : Int → St → Prop) : Nat → Int → St → Prop
  | 0, _, _ => False
  | fu + 1, v1, σ => (rg v1 ∧ (12 ≤ v1 → (wp_X5_parseCalls_46 post v1 σ)) ∧ (¬ 12 ≤ v1 → (wp_X5_next σ (fun r1 => (wp_X5_callOf r1 (fun r2 => (rg r2 ∧ (r2 = (-1) → (wp_X5_parseCalls_46 post v1 σ)) ∧ (¬ r2 = (-1) → (wp_X5_next σ (fun r3 => (wp_X5_callOf r3 (fun r4 => (wp_X5_keep σ r4 (fun σ5 => (∀ σ6 : St, σ6 = up σ5 0 2 ((σ5 0 2) + 1) → (wp_X5_parseCalls_2 post fu (v1 + 1) σ6))))))))))))))))
def wp_X5_parseCalls (σ : St) (post : Int → St → Prop) : Prop := (∃ n : Nat, wp_X5_parseCalls_2 post n 0 σ)
-- X5_parseClause
def wp_X5_parseClause (σ : St) (post : Int → St → Prop) : Prop := (wp_X5_next σ (fun r1 => (rg r1 ∧ (r1 = 98 → (∀ σ2 : St, σ2 = up σ 0 2 ((σ 0 2) + 1) → (wp_X5_parseWord σ2 (fun r3 σ3 => ((r3 = 0 ∨ r3 = 1) ∧ post r3 σ3))))) ∧ (r1 = 99 → (∀ σ4 : St, σ4 = up σ 0 2 ((σ 0 2) + 1) → (wp_X5_parseCalls σ4 (fun r5 σ5 => ((r5 = 0 ∨ r5 = 1) ∧ post r5 σ5))))) ∧ (r1 = 109 → (∀ σ6 : St, σ6 = up σ 0 2 ((σ 0 2) + 1) → (wp_X5_parseWords σ6 (fun r7 σ7 => ((r7 = 0 ∨ r7 = 1) ∧ post r7 σ7))))) ∧ (r1 = 110 → (∀ σ8 : St, σ8 = up σ 0 2 ((σ 0 2) + 1) → (wp_X5_parseDigit σ8 (fun r9 σ9 => ((r9 = 0 ∨ r9 = 1) ∧ post r9 σ9))))) ∧ (r1 = 115 → (∀ σ10 : St, σ10 = up σ 0 2 ((σ 0 2) + 1) → (wp_X5_parseWord σ10 (fun r11 σ11 => ((r11 = 0 ∨ r11 = 1) ∧ post r11 σ11))))) ∧ ((¬ r1 = 98 ∧ ¬ r1 = 99 ∧ ¬ r1 = 109 ∧ ¬ r1 = 110 ∧ ¬ r1 = 115) → (post 0 σ)))))
-- X5_parse
def wp_X5_parse_104 (post : Int → St → Prop) (σ : St) : Prop := (post (σ 0 2) σ)
def wp_X5_parse_17 (post : Int → St → Prop) : Nat → Int → St → Prop
  | 0, _, _ => False
  | fu + 1, v1, σ => (rg v1 ∧ (10 ≤ v1 → (post (σ 0 2) σ)) ∧ (¬ 10 ≤ v1 → (0 ≤ v1 ∧ v1 < 11 ∧ ∀ σ1 : St, σ1 = up σ 3 v1 (σ 0 7) → (wp_X5_next σ1 (fun r2 => (0 ≤ v1 ∧ v1 < 10 ∧ ∀ σ3 : St, σ3 = up σ1 2 v1 r2 → (wp_X5_parseClause σ3 (fun r4 σ4 => (rg r4 ∧ (¬ r4 = 0 → (∀ σ5 : St, σ5 = up σ4 0 5 (v1 + 1) → (0 ≤ (σ5 0 5) ∧ (σ5 0 5) < 11 ∧ ∀ σ6 : St, σ6 = up σ5 3 (σ5 0 5) (σ5 0 7) → (wp_X5_next σ6 (fun r7 => (rg r7 ∧ (¬ r7 = (-1) → (wp_X5_next σ6 (fun r8 => (rg r8 ∧ (¬ r8 = 59 → (wp_X5_parse_104 post σ6)) ∧ (r8 = 59 → (rg (σ6 0 5) ∧ (¬ (σ6 0 5) = 10 → (∀ σ9 : St, σ9 = up σ6 0 2 ((σ6 0 2) + 1) → (wp_X5_parse_17 post fu (v1 + 1) σ9))) ∧ ((σ6 0 5) = 10 → (wp_X5_parse_104 post σ6)))))))) ∧ (r7 = (-1) → (post (-5) σ6)))))))) ∧ (r4 = 0 → (post (σ4 0 2) σ4)))))))))))
def wp_X5_parse (σ : St) (post : Int → St → Prop) : Prop := (∀ σ1 : St, σ1 = up σ 0 2 0 → (∀ σ2 : St, σ2 = up σ1 0 5 0 → (∀ σ3 : St, σ3 = up σ2 0 7 0 → (∃ n : Nat, wp_X5_parse_17 post n 0 σ3))))
-- X5_beginBells
def wp_X5_beginBells (σ : St) (v1 : Int) (post : Int → St → Prop) : Prop := (rg v1 ∧ (v1 < 4 → (post 0 σ)) ∧ (¬ v1 < 4 → (rg v1 ∧ (v1 ≤ 8 → (wp_X4_begin σ v1 (fun σ1 => (post 1 σ1)))) ∧ (¬ v1 ≤ 8 → (post 0 σ)))))
-- X5_setMethod
def wp_X5_setMethod_42 (post : Int → St → Prop) : Nat → Int → Int → St → Prop
  | 0, _, _, _ => False
  | fu + 1, v3, v4, σ => (rg v4 ∧ rg v3 ∧ (v3 ≤ v4 → (post 1 σ)) ∧ (¬ v3 ≤ v4 → (rg (σ 5 2) ∧ (16 ≤ (σ 5 2) → (post 1 σ)) ∧ (¬ 16 ≤ (σ 5 2) → (0 ≤ v4 ∧ v4 < 100 ∧ (0 ≤ (σ 5 2) ∧ (σ 5 2) < 16 ∧ ∀ σ1 : St, σ1 = up σ 6 (σ 5 2) (σ 4 v4) → (∀ σ2 : St, σ2 = up σ1 5 2 ((σ1 5 2) + 1) → (wp_X5_setMethod_42 post fu v3 (v4 + 1) σ2))))))))
def wp_X5_setMethod_3 (post : Int → St → Prop) : Nat → Int → Int → Int → St → Prop
  | 0, _, _, _, _ => False
  | fu + 1, v2, v3, v4, σ => (rg v4 ∧ rg v3 ∧ (v3 ≤ v4 → (∀ σ1 : St, σ1 = up σ 5 2 0 → (∃ n : Nat, wp_X5_setMethod_42 post n v3 v2 σ1))) ∧ (¬ v3 ≤ v4 → (0 ≤ v4 ∧ v4 < 100 ∧ (wp_X2_isGood (σ 5 0) (σ 4 v4) (fun r2 => (rg r2 ∧ (¬ r2 = 0 → (wp_X5_setMethod_3 post fu v2 v3 (v4 + 1) σ)) ∧ (r2 = 0 → (post 0 σ))))))))
def wp_X5_setMethod (σ : St) (v2 v3 : Int) (post : Int → St → Prop) : Prop := (∃ n : Nat, wp_X5_setMethod_3 post n v2 v3 v2 σ)
-- X5_setCall
def wp_X5_setCall (σ : St) (v1 v2 : Int) (post : Int → St → Prop) : Prop := (wp_X2_isGood (σ 0 0) v2 (fun r1 => (rg r1 ∧ (¬ r1 = 0 → (wp_X4_setCalledChange σ v1 v2 (fun σ2 => (post 1 σ2)))) ∧ (r1 = 0 → (post 0 σ)))))
-- X5_setLeads
def wp_X5_setLeads_8 (post : Int → St → Prop) : Nat → Int → Int → St → Prop
  | 0, _, _, _ => False
  | fu + 1, v3, v4, σ => (rg v4 ∧ rg v3 ∧ (v3 ≤ v4 → (post 1 σ)) ∧ (¬ v3 ≤ v4 → (rg (σ 5 6) ∧ (12 ≤ (σ 5 6) → (post 1 σ)) ∧ (¬ 12 ≤ (σ 5 6) → (0 ≤ v4 ∧ v4 < 100 ∧ (0 ≤ (σ 5 6) ∧ (σ 5 6) < 12 ∧ ∀ σ1 : St, σ1 = up σ 7 (σ 5 6) (σ 4 v4) → (∀ σ2 : St, σ2 = up σ1 5 6 ((σ1 5 6) + 1) → (wp_X5_setLeads_8 post fu v3 (v4 + 1) σ2))))))))
def wp_X5_setLeads (σ : St) (v2 v3 : Int) (post : Int → St → Prop) : Prop := (∀ σ1 : St, σ1 = up σ 5 6 0 → (∃ n : Nat, wp_X5_setLeads_8 post n v3 v2 σ1))
-- X5_performClause
def wp_X5_performClause (σ : St) (v2 v3 v4 : Int) (post : Int → St → Prop) : Prop := (rg v2 ∧ (v2 = 98 → (0 ≤ v3 ∧ v3 < 100 ∧ (wp_X5_setCall (pk σ [5, 6, 7, 8, 9, 10, 11, 12, 13, 14, 15, 16, 17, 18, 19, 20]) 1 (σ 4 v3) (fun r1 τ1 => ∀ σ1 : St, σ1 = mrg σ [5, 6, 7, 8, 9, 10, 11, 12, 13, 14, 15, 16, 17, 18, 19, 20] τ1 → ((r1 = 0 ∨ r1 = 1) ∧ post r1 σ1))))) ∧ (v2 = 109 → (wp_X5_setMethod σ v3 v4 (fun r2 σ2 => ((r2 = 0 ∨ r2 = 1) ∧ post r2 σ2)))) ∧ (v2 = 110 → (0 ≤ v3 ∧ v3 < 100 ∧ (wp_X5_beginBells (pk σ [5, 6, 7, 8, 9, 10, 11, 12, 13, 14, 15, 16, 17, 18, 19, 20]) (σ 4 v3) (fun r3 τ3 => ∀ σ3 : St, σ3 = mrg σ [5, 6, 7, 8, 9, 10, 11, 12, 13, 14, 15, 16, 17, 18, 19, 20] τ3 → ((r3 = 0 ∨ r3 = 1) ∧ post r3 σ3))))) ∧ (v2 = 115 → (0 ≤ v3 ∧ v3 < 100 ∧ (wp_X5_setCall (pk σ [5, 6, 7, 8, 9, 10, 11, 12, 13, 14, 15, 16, 17, 18, 19, 20]) 2 (σ 4 v3) (fun r4 τ4 => ∀ σ4 : St, σ4 = mrg σ [5, 6, 7, 8, 9, 10, 11, 12, 13, 14, 15, 16, 17, 18, 19, 20] τ4 → ((r4 = 0 ∨ r4 = 1) ∧ post r4 σ4))))) ∧ ((¬ v2 = 98 ∧ ¬ v2 = 109 ∧ ¬ v2 = 110 ∧ ¬ v2 = 115) → (wp_X5_setLeads σ v3 v4 (fun r5 σ5 => ((r5 = 0 ∨ r5 = 1) ∧ post r5 σ5)))))
-- X5_perform
def wp_X5_perform_43 (k4 : Int → Int → St → Prop) (post : Int → St → Prop) (v2 v3 : Int) (σ : St) : Prop := (k4 v2 (v3 + 1) σ)
def wp_X5_perform_4 (post : Int → St → Prop) : Nat → Int → Int → St → Prop
  | 0, _, _, _ => False
  | fu + 1, v2, v3, σ => (rg v3 ∧ rg (σ 0 5) ∧ ((σ 0 5) ≤ v3 → (post v2 σ)) ∧ (¬ (σ 0 5) ≤ v3 → (0 ≤ v3 ∧ v3 < 10 ∧ (0 ≤ v3 ∧ v3 < 11 ∧ (0 ≤ (v3 + 1) ∧ (v3 + 1) < 11 ∧ (wp_X5_performClause σ (σ 2 v3) (σ 3 v3) (σ 3 (v3 + 1)) (fun r1 σ1 => (rg r1 ∧ (r1 = 0 → (wp_X5_perform_43 (wp_X5_perform_4 post fu) post v2 v3 σ1)) ∧ (¬ r1 = 0 → (wp_X5_perform_43 (wp_X5_perform_4 post fu) post (v2 + 1) v3 σ1))))))))))
def wp_X5_perform (σ : St) (post : Int → St → Prop) : Prop := (∃ n : Nat, wp_X5_perform_4 post n 0 0 σ)
